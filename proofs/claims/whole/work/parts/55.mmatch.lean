/-! the model: match -/
theorem mf_Rc.setl {R : List mf_T} {f0 f1 f2 f3 f4 f5 f6 : Nat → Int32} (h : mf_Rc R f0 f1 f2 f3 f4 f5 f6) {k : Nat} {x : mf_T} (hk : R[k]? = some x) (v : Int32) : mf_Rc (R.set k (mf_setLf x.1 v, x.2)) f0 f1 f2 f3 (upd f4 k v) f5 f6 := by
  intro i y hi
  rw [List.getElem?_set] at hi
  by_cases e : k = i
  · subst e
    rw [if_pos rfl] at hi
    split at hi
    · cases hi
      obtain ⟨h0, h1, h2, h3, h4, h5, h6, h7⟩ := h k x hk
      exact ⟨h0, h1, h2, h3, mf_upd_at, h5, h6, h7⟩
    · cases hi
  · rw [if_neg e] at hi
    obtain ⟨h0, h1, h2, h3, h4, h5, h6, h7⟩ := h i y hi
    exact ⟨h0, h1, h2, h3, (mf_upd_ne (fun q => e q.symm)).trans h4, h5, h6, h7⟩
theorem mf_drop_set {α : Type} {R : List α} {k : Nat} {x : α} (hk : R[k]? = some x) (y : α) : rf_drop (R.set k y) k = rf_drop R k := by
  have hkl := (List.getElem?_eq_some_iff.mp hk).1
  obtain ⟨n, hn⟩ : ∃ n, R.length = n + 1 := ⟨R.length - 1, by omega⟩
  obtain ⟨z, hz⟩ := mf_at_lt (l := R) (k := n) (by omega)
  by_cases e : k = n
  · subst e
    rw [mf_drop_eq (z := y) (by rw [List.length_set]; exact hn) (by rw [List.getElem?_set, if_pos rfl, if_pos hkl]), mf_drop_eq hn hz]
    apply List.ext_getElem?
    intro i
    rw [List.getElem?_dropLast, List.getElem?_dropLast, List.length_set, List.length_set, List.length_set]
    split
    · rename_i hi
      rw [List.getElem?_set, if_neg (by omega), List.getElem?_set, if_neg (by omega), List.getElem?_set, if_neg (by omega)]
    · rfl
  · rw [mf_drop_eq (z := z) (by rw [List.length_set]; exact hn) (by rw [List.getElem?_set, if_neg e]; exact hz), mf_drop_eq hn hz, List.set_set]
theorem mf_drop_l {α : Type} {R : List α} {k : Nat} {x : α} (hk : R[k]? = some x) : (rf_drop R k).length + 1 = R.length := by
  have hkl := (List.getElem?_eq_some_iff.mp hk).1
  obtain ⟨n, hn⟩ : ∃ n, R.length = n + 1 := ⟨R.length - 1, by omega⟩
  obtain ⟨z, hz⟩ := mf_at_lt (l := R) (k := n) (by omega)
  rw [mf_drop_len hn hz, hn]
theorem rf_min_left {q v : Int32} (h : ¬ v - rf_min q v = 0) : q - rf_min q v ≤ 0 := by
  unfold rf_min at h ⊢
  split
  · rw [Int32.sub_self]; exact Int32.le_refl _
  · rename_i h1
    rw [if_neg h1, Int32.sub_self] at h
    exact absurd rfl h
set_option maxRecDepth 100000 in
set_option maxHeartbeats 4000000 in
theorem k_M_match (l : Launch) (D : va_G) (k5 : mf_k5) (t0 : Nat × Nat) (A : Nat → Prop) (H : Heap) (mo : Nat) (aa : Nat → Nat) (cd ck sp mt0 : Int32) (R0 : List mf_T) (g0 : mf_G) (i o0 s0 p0 q0 : Int32) (hM : mf_MD D k5 A H mo aa cd (R0, ck, sp, mt0, g0)) (hg : g0.1 + 41 < 2 ^ 31) : mf_cWR l my_M_match mc_M_match 9 (some .int) { frames := 2, cells := 0, slots := 0, locals := 46 } D (mf_tys k5) t0 A H [.ref mo, .int i, .int o0, .int s0, .int p0, .int q0] (some (.int (rf_match i o0 s0 p0 41 q0 (R0, mt0, g0)).1)) (fun H1 => mf_MD D k5 A H1 mo aa cd ((rf_match i o0 s0 p0 41 q0 (R0, mt0, g0)).2.1, ck, sp, (rf_match i o0 s0 p0 41 q0 (R0, mt0, g0)).2.2)) (A) 0 0 := by
  obtain ⟨f0, f1, f2, f3, f4, f5, f6, f7, f8, f9, f10, hP, hD, hle, hRF, hRG⟩ := id hM
  have hle : R0.length ≤ 40 := hle
  refine mf_of (by decide) (Nat.le_of_ble_eq_true rfl) ?_
  intro p e s m below meth c ls C hH hr hlk hnm hmt hl hS
  have hl : lv_has ls 9 [(0, .ref mo), (1, .int i), (2, .int o0), (3, .int s0), (4, .int p0), (5, .int q0)] := hl
  have loop : ∀ (n : Nat) (ls : Array Slot) (H2 : Heap) (locs : List Loc) (qq : Int32) (R : List mf_T) (mt : Int32) (g : mf_G), mf_MD D k5 A H2 mo aa cd (R, ck, sp, mt, g) → (R.length < n ∨ qq ≤ 0) → g.1 + n < 2 ^ 31 → va_S A s.heap H2 locs → rf_match i o0 s0 p0 41 q0 (R0, mt0, g0) = rf_match i o0 s0 p0 n qq (R, mt, g) → lv_has ls 9 [(7, .int (mf_ix (rf_first (1 - s0) R))), (6, .int qq), (0, .ref mo), (1, .int i), (2, .int o0), (3, .int s0), (4, .int p0)] → W p l e ({ frames := 2, cells := 0, slots := 0, locals := 46 } : Room) s m (([.ref mo, .int i, .int o0, .int s0, .int p0, .int q0] : List Value).toArray) below meth c H2 locs 0 0 (MQ below (mf_Kw (some (.int (rf_match i o0 s0 p0 41 q0 (R0, mt0, g0)).1)) (fun H1 => mf_MD D k5 A H1 mo aa cd ((rf_match i o0 s0 p0 41 q0 (R0, mt0, g0)).2.1, ck, sp, (rf_match i o0 s0 p0 41 q0 (R0, mt0, g0)).2.2)) (A)) (([.ref mo, .int i, .int o0, .int s0, .int p0, .int q0] : List Value).toArray) s 0 0 A) (F0 m 13 ls []) := by
    intro n
    induction n with
    | zero =>
      intro ls H2 locs qq R mt g hM hfu hg hS hsp hl
      have hq0 : qq ≤ 0 := hfu.elim (fun z => absurd z (Nat.not_lt_zero _)) (fun z => z)
      refine lv_iload C.x C.b md_M_match_13 (lv_at hl 1 rfl) ?_
      refine lv_if_le (tgt := 147) C.x C.b md_M_match_15 (by decide) (fun h1 => ?_) (fun h1 => ?_)
      · skip
        refine lv_iload C.x C.b md_M_match_147 (lv_at hl 1 rfl) ?_
        rw [hsp, show rf_match i o0 s0 p0 0 qq (R, mt, g) = (qq, R, mt, g) from rfl]
        exact mf_wi C.x C.b hr hlk md_M_match_149 hM (by rw [← hH]; exact ⟨hS.1, hS.2.1⟩) hH hS.2.2 (Nat.le_refl _) (Nat.le_refl _)
      · exact absurd hq0 h1
    | succ n ih =>
      intro ls H2 locs qq R mt g hM hfu hg hS hsp hl
      obtain ⟨f0, f1, f2, f3, f4, f5, f6, f7, f8, f9, f10, hP, hD, hle, hRF, hRG⟩ := id hM
      have hP : va_P D mf_cl [(mo, .inr (4, [.int cd, .int (nI R.length), .int ck, .ref (aa 0), .ref (aa 1), .ref (aa 2), .ref (aa 3), .ref (aa 4), .ref (aa 5), .ref (aa 6), .int (nI g.1), .ref (aa 7), .ref (aa 8), .ref (aa 9), .ref (aa 10), .int g.2.1, .long g.2.2.2.1, .int g.2.2.1, .int sp, .int mt])), (aa 0, .inl (k5.2.2.1, 40, .inl f0)), (aa 1, .inl (k5.2.2.1, 40, .inl f1)), (aa 2, .inl (k5.2.2.1, 40, .inl f2)), (aa 3, .inl (k5.2.2.1, 40, .inl f3)), (aa 4, .inl (k5.2.2.1, 40, .inl f4)), (aa 5, .inl (k5.2.2.1, 40, .inl f5)), (aa 6, .inl (k5.2.2.2.1, 40, .inl f6)), (aa 7, .inl (k5.2.2.1, 32, .inl f7)), (aa 8, .inl (k5.2.2.1, 32, .inl f8)), (aa 9, .inl (k5.2.2.1, 32, .inl f9)), (aa 10, .inl (k5.2.2.1, 32, .inl f10))] H2 := hP
      have hle : R.length ≤ 40 := hle
      have hRF : mf_Rc R f0 f1 f2 f3 f4 f5 f6 := hRF
      have nxt : ∀ (ls : Array Slot) (H3 : Heap) (locs : List Loc) (q3 : Int32) (R3 : List mf_T) (mt3 : Int32) (g3 : mf_G), mf_MD D k5 A H3 mo aa cd (R3, ck, sp, mt3, g3) → (R3.length < n ∨ q3 ≤ 0) → g3.1 + n < 2 ^ 31 → va_S A s.heap H3 locs → rf_match i o0 s0 p0 41 q0 (R0, mt0, g0) = rf_match i o0 s0 p0 n q3 (R3, mt3, g3) → lv_has ls 9 [(6, .int q3), (0, .ref mo), (1, .int i), (2, .int o0), (3, .int s0), (4, .int p0)] → W p l e ({ frames := 2, cells := 0, slots := 0, locals := 46 } : Room) s m (([.ref mo, .int i, .int o0, .int s0, .int p0, .int q0] : List Value).toArray) below meth c H3 locs 0 0 (MQ below (mf_Kw (some (.int (rf_match i o0 s0 p0 41 q0 (R0, mt0, g0)).1)) (fun H1 => mf_MD D k5 A H1 mo aa cd ((rf_match i o0 s0 p0 41 q0 (R0, mt0, g0)).2.1, ck, sp, (rf_match i o0 s0 p0 41 q0 (R0, mt0, g0)).2.2)) (A)) (([.ref mo, .int i, .int o0, .int s0, .int p0, .int q0] : List Value).toArray) s 0 0 A) (F0 m 135 ls []) := by
        intro ls H3 locs q3 R3 mt3 g3 hM3 hf3 hg3 hS hsp3 hl
        obtain ⟨_, _, _, _, _, _, _, _, _, _, _, hP3, -⟩ := id hM3
        refine lv_aload_n C.x C.b md_M_match_135 rfl (lv_at hl 1 rfl) ?_
        refine lv_iconst (v := 1) C.x C.b md_M_match_136 (by decide) ?_
        refine lv_iload_n C.x C.b md_M_match_137 rfl (lv_at hl 4 rfl) ?_
        refine lv_isub C.x C.b md_M_match_138 ?_
        refine mf_cks (va_runV (As := [.int (1 - s0)]) (rest := []) C.f (k_M_first l D k5 t0 A H3 mo aa cd ck sp mt3 R3 g3 (1 - s0) hM3) (mf_cV C mt_628 mt_625 mt_6 mt_627 ms_31 mh_M_first ⟨by decide, by decide⟩) (mf_preV C.ev hS (mf_rv C (ci := 4) (N := 20) rfl (hP3 0 _ rfl))) rfl rfl hl.1 rfl (lv_room (Nat.le_of_ble_eq_true rfl)) md_M_match_139 ⟨by first | omega | exact Nat.le_of_ble_eq_true rfl, by first | omega | exact Nat.le_of_ble_eq_true rfl⟩) ?_
        refine lv_istore (lv' := [(7, .int (mf_ix (rf_first (1 - s0) R3))), (6, .int q3), (0, .ref mo), (1, .int i), (2, .int o0), (3, .int s0), (4, .int p0)]) C.x C.b md_M_match_142 hl (by decide) rfl (fun ls hl => ?_)
        refine lv_goto (tgt := 13) C.x C.b md_M_match_144 (by decide) ?_
        exact ih ls H3 _ q3 R3 mt3 g3 hM3 hf3 hg3 hS hsp3 (lv_sub hl [0, 1, 2, 3, 4, 5, 6] rfl)
      refine lv_iload C.x C.b md_M_match_13 (lv_at hl 1 rfl) ?_
      refine lv_if_le (tgt := 147) C.x C.b md_M_match_15 (by decide) (fun h2 => ?_) (fun h2 => ?_)
      · skip
        refine lv_iload C.x C.b md_M_match_147 (lv_at hl 1 rfl) ?_
        rw [hsp, show rf_match i o0 s0 p0 (n + 1) qq (R, mt, g) = (qq, R, mt, g) from by rw [rf_match, if_neg (Int32.not_lt.mpr h2)]]
        exact mf_wi C.x C.b hr hlk md_M_match_149 hM (by rw [← hH]; exact ⟨hS.1, hS.2.1⟩) hH hS.2.2 (Nat.le_refl _) (Nat.le_refl _)
      · have hpos := Int32.not_le.mp h2
        have hRn : R.length < n + 1 := hfu.resolve_right h2
        rcases hp : rf_first (1 - s0) R with _ | ⟨k, x⟩
        · skip
          rw [hp] at hl
          have hl : lv_has ls 9 [(7, .int (-1)), (6, .int qq), (0, .ref mo), (1, .int i), (2, .int o0), (3, .int s0), (4, .int p0)] := hl
          refine lv_iload C.x C.b md_M_match_18 (lv_at hl 0 rfl) ?_
          refine lv_if_lt (tgt := 147) C.x C.b md_M_match_20 (by decide) (fun h3 => ?_) (fun h3 => ?_)
          · skip
            refine lv_iload C.x C.b md_M_match_147 (lv_at hl 1 rfl) ?_
            rw [hsp, show rf_match i o0 s0 p0 (n + 1) qq (R, mt, g) = (qq, R, mt, g) from by rw [rf_match, if_pos hpos]; dsimp only; rw [hp]]
            exact mf_wi C.x C.b hr hlk md_M_match_149 hM (by rw [← hH]; exact ⟨hS.1, hS.2.1⟩) hH hS.2.2 (Nat.le_refl _) (Nat.le_refl _)
          · exact absurd (by decide) h3
        · skip
          rw [hp] at hl
          have hl : lv_has ls 9 [(7, .int (nI k)), (6, .int qq), (0, .ref mo), (1, .int i), (2, .int o0), (3, .int s0), (4, .int p0)] := hl
          have hq : R[k]? = some x := ((mf_pick_in _ _ R).2 k x hp).1
          have hu := hRF k x hq
          have hkl := (List.getElem?_eq_some_iff.mp hq).1
          refine lv_iload C.x C.b md_M_match_18 (lv_at hl 0 rfl) ?_
          refine lv_if_lt (tgt := 147) C.x C.b md_M_match_20 (by decide) (fun h4 => ?_) (fun h4 => ?_)
          · exact absurd h4 (nI_pos (by omega))
          · skip
            refine lv_aload_n C.x C.b md_M_match_23 rfl (lv_at hl 2 rfl) ?_
            refine lv_iload_n C.x C.b md_M_match_24 rfl (lv_at hl 5 rfl) ?_
            refine lv_iload C.x C.b md_M_match_25 (lv_at hl 6 rfl) ?_
            refine lv_iload C.x C.b md_M_match_27 (lv_at hl 0 rfl) ?_
            refine mf_cks (va_runV (As := [.int s0, .int p0, .int (nI k)]) (rest := []) C.f (k_M_fits l D k5 t0 A H2 mo aa cd ck sp mt R g s0 p0 k x hM hq) (mf_cV C mt_624 mt_621 mt_6 mt_623 ms_30 mh_M_fits ⟨by decide, by decide⟩) (mf_preV C.ev hS (mf_rv C (ci := 4) (N := 20) rfl (hP 0 _ rfl))) rfl rfl hl.1 rfl (lv_room (Nat.le_of_ble_eq_true rfl)) md_M_match_29 ⟨by first | omega | exact Nat.le_of_ble_eq_true rfl, by first | omega | exact Nat.le_of_ble_eq_true rfl⟩) ?_
            refine lv_if_eq (tgt := 147) C.x C.b md_M_match_32 (by decide) (fun h5 => ?_) (fun h5 => ?_)
            · skip
              refine lv_iload C.x C.b md_M_match_147 (lv_at hl 1 rfl) ?_
              rw [hsp, show rf_match i o0 s0 p0 (n + 1) qq (R, mt, g) = (qq, R, mt, g) from by rw [rf_match, if_pos hpos]; dsimp only; rw [hp]; dsimp only; rw [if_neg (by rw [mf_bI_0.mp h5]; decide)]]
              exact mf_wi C.x C.b hr hlk md_M_match_149 hM (by rw [← hH]; exact ⟨hS.1, hS.2.1⟩) hH hS.2.2 (Nat.le_refl _) (Nat.le_refl _)
            · have hfit := mf_bI_1.mp h5
              have hst : rf_match i o0 s0 p0 (n + 1) qq (R, mt, g) = rf_match i o0 s0 p0 n (rf_meet i o0 qq k x (R, mt, g)).1 (rf_meet i o0 qq k x (R, mt, g)).2 := by rw [rf_match, if_pos hpos]; dsimp only; rw [hp]; dsimp only; rw [if_pos hfit]
              have hdl := mf_drop_l hq
              refine lv_aload_n C.x C.b md_M_match_35 rfl (lv_at hl 2 rfl) ?_
              refine mf_gf C (ci := 4) (N := 20) rfl mi_M 4 (by decide) mt_539 (hP 0 _ rfl) (v := .ref (aa 1)) rfl md_M_match_36 ?_
              refine lv_iload C.x C.b md_M_match_39 (lv_at hl 0 rfl) ?_
              refine mf_iv C (t := 2) rfl (hP 2 _ rfl) (by omega) (by decide) hu.2.1 md_M_match_41 ?_
              refine lv_iload_n C.x C.b md_M_match_42 rfl (lv_at hl 4 rfl) ?_
              refine lv_icmp_ne (tgt := 65) C.x C.b md_M_match_43 (by decide) (fun h6 => ?_) (fun h6 => ?_)
              · skip
                have aft : ∀ (mn : Int32) (ls : Array Slot), rf_min qq (mf_lf x.1) = mn → lv_has ls 9 [(8, .int mn), (7, .int (nI k)), (6, .int qq), (0, .ref mo), (1, .int i), (2, .int o0), (3, .int s0), (4, .int p0)] → W p l e ({ frames := 2, cells := 0, slots := 0, locals := 46 } : Room) s m (([.ref mo, .int i, .int o0, .int s0, .int p0, .int q0] : List Value).toArray) below meth c H2 locs 0 0 (MQ below (mf_Kw (some (.int (rf_match i o0 s0 p0 41 q0 (R0, mt0, g0)).1)) (fun H1 => mf_MD D k5 A H1 mo aa cd ((rf_match i o0 s0 p0 41 q0 (R0, mt0, g0)).2.1, ck, sp, (rf_match i o0 s0 p0 41 q0 (R0, mt0, g0)).2.2)) (A)) (([.ref mo, .int i, .int o0, .int s0, .int p0, .int q0] : List Value).toArray) s 0 0 A) (F0 m 91 ls []) := by
                  intro mn ls hmn hl
                  refine lv_aload_n C.x C.b md_M_match_91 rfl (lv_at hl 3 rfl) ?_
                  refine lv_iload_n C.x C.b md_M_match_92 rfl (lv_at hl 4 rfl) ?_
                  refine lv_iload C.x C.b md_M_match_93 (lv_at hl 1 rfl) ?_
                  refine lv_iload C.x C.b md_M_match_95 (lv_at hl 0 rfl) ?_
                  refine mf_cwn (va_runV (As := [.int i, .int (nI k), .int mn]) (rest := []) C.f (k_M_tell l D k5 t0 A H2 mo aa cd ck sp mt R g k x i mn hM hq (by omega)) (mf_cV C mt_644 mt_641 mt_6 mt_643 ms_35 mh_M_tell ⟨by decide, by decide⟩) (mf_preV C.ev hS (mf_rv C (ci := 4) (N := 20) rfl (hP 0 _ rfl))) rfl rfl hl.1 rfl (lv_room (Nat.le_of_ble_eq_true rfl)) md_M_match_97 ⟨by first | omega | exact Nat.le_of_ble_eq_true rfl, by first | omega | exact Nat.le_of_ble_eq_true rfl⟩) hS (fun _ _ h => h) (fun H locs hM3 hz3 hk3 hS => ?_)
                  obtain ⟨f0, f1, f2, f3, f4, f5, f6, f7, f8, f9, f10, hP, hD, hle3, hRF, hRG⟩ := id hM3
                  have hP : va_P D mf_cl [(mo, .inr (4, [.int cd, .int (nI R.length), .int ck, .ref (aa 0), .ref (aa 1), .ref (aa 2), .ref (aa 3), .ref (aa 4), .ref (aa 5), .ref (aa 6), .int (nI (mf_write g i (mf_id x.1) (mf_pr x.1) mn).1), .ref (aa 7), .ref (aa 8), .ref (aa 9), .ref (aa 10), .int (mf_write g i (mf_id x.1) (mf_pr x.1) mn).2.1, .long (mf_write g i (mf_id x.1) (mf_pr x.1) mn).2.2.2.1, .int (mf_write g i (mf_id x.1) (mf_pr x.1) mn).2.2.1, .int sp, .int mt])), (aa 0, .inl (k5.2.2.1, 40, .inl f0)), (aa 1, .inl (k5.2.2.1, 40, .inl f1)), (aa 2, .inl (k5.2.2.1, 40, .inl f2)), (aa 3, .inl (k5.2.2.1, 40, .inl f3)), (aa 4, .inl (k5.2.2.1, 40, .inl f4)), (aa 5, .inl (k5.2.2.1, 40, .inl f5)), (aa 6, .inl (k5.2.2.2.1, 40, .inl f6)), (aa 7, .inl (k5.2.2.1, 32, .inl f7)), (aa 8, .inl (k5.2.2.1, 32, .inl f8)), (aa 9, .inl (k5.2.2.1, 32, .inl f9)), (aa 10, .inl (k5.2.2.1, 32, .inl f10))] H := hP
                  have hD : va_D A [(mo, .inr (4, [.int cd, .int (nI R.length), .int ck, .ref (aa 0), .ref (aa 1), .ref (aa 2), .ref (aa 3), .ref (aa 4), .ref (aa 5), .ref (aa 6), .int (nI (mf_write g i (mf_id x.1) (mf_pr x.1) mn).1), .ref (aa 7), .ref (aa 8), .ref (aa 9), .ref (aa 10), .int (mf_write g i (mf_id x.1) (mf_pr x.1) mn).2.1, .long (mf_write g i (mf_id x.1) (mf_pr x.1) mn).2.2.2.1, .int (mf_write g i (mf_id x.1) (mf_pr x.1) mn).2.2.1, .int sp, .int mt])), (aa 0, .inl (k5.2.2.1, 40, .inl f0)), (aa 1, .inl (k5.2.2.1, 40, .inl f1)), (aa 2, .inl (k5.2.2.1, 40, .inl f2)), (aa 3, .inl (k5.2.2.1, 40, .inl f3)), (aa 4, .inl (k5.2.2.1, 40, .inl f4)), (aa 5, .inl (k5.2.2.1, 40, .inl f5)), (aa 6, .inl (k5.2.2.2.1, 40, .inl f6)), (aa 7, .inl (k5.2.2.1, 32, .inl f7)), (aa 8, .inl (k5.2.2.1, 32, .inl f8)), (aa 9, .inl (k5.2.2.1, 32, .inl f9)), (aa 10, .inl (k5.2.2.1, 32, .inl f10))] := hD
                  have hRF : mf_Rc R f0 f1 f2 f3 f4 f5 f6 := hRF
                  have hu := hRF k x hq
                  refine lv_iload C.x C.b md_M_match_100 (lv_at hl 2 rfl) ?_
                  refine lv_iload C.x C.b md_M_match_102 (lv_at hl 0 rfl) ?_
                  refine lv_isub C.x C.b md_M_match_104 ?_
                  refine lv_istore (lv' := [(6, .int (qq - mn)), (8, .int mn), (7, .int (nI k)), (0, .ref mo), (1, .int i), (2, .int o0), (3, .int s0), (4, .int p0)]) C.x C.b md_M_match_105 hl (by decide) rfl (fun ls hl => ?_)
                  refine lv_aload_n C.x C.b md_M_match_107 rfl (lv_at hl 3 rfl) ?_
                  refine mf_gf C (ci := 4) (N := 20) rfl mi_M 7 (by decide) mt_542 (hP 0 _ rfl) (v := .ref (aa 4)) rfl md_M_match_108 ?_
                  refine lv_iload C.x C.b md_M_match_111 (lv_at hl 2 rfl) ?_
                  refine lv_dup2_11 C.x C.b md_M_match_113 rfl rfl ?_
                  refine mf_iv C (t := 2) rfl (hP 5 _ rfl) (by omega) (by decide) hu.2.2.2.2.1 md_M_match_114 ?_
                  refine lv_iload C.x C.b md_M_match_115 (lv_at hl 1 rfl) ?_
                  refine lv_isub C.x C.b md_M_match_117 ?_
                  refine va_iast C.x C.b C.k hP hD hS 5 2 rfl rfl (vp_in_nI (show k < 40 by omega) (by decide)) md_M_match_118 (fun H locs hP hD hS => ?_)
                  rw [nI_clamp (by omega)] at hP hD
                  have hP : va_P D mf_cl [(mo, .inr (4, [.int cd, .int (nI R.length), .int ck, .ref (aa 0), .ref (aa 1), .ref (aa 2), .ref (aa 3), .ref (aa 4), .ref (aa 5), .ref (aa 6), .int (nI (mf_write g i (mf_id x.1) (mf_pr x.1) mn).1), .ref (aa 7), .ref (aa 8), .ref (aa 9), .ref (aa 10), .int (mf_write g i (mf_id x.1) (mf_pr x.1) mn).2.1, .long (mf_write g i (mf_id x.1) (mf_pr x.1) mn).2.2.2.1, .int (mf_write g i (mf_id x.1) (mf_pr x.1) mn).2.2.1, .int sp, .int mt])), (aa 0, .inl (k5.2.2.1, 40, .inl f0)), (aa 1, .inl (k5.2.2.1, 40, .inl f1)), (aa 2, .inl (k5.2.2.1, 40, .inl f2)), (aa 3, .inl (k5.2.2.1, 40, .inl f3)), (aa 4, .inl (k5.2.2.1, 40, .inl (upd f4 k ((mf_lf x.1) - mn)))), (aa 5, .inl (k5.2.2.1, 40, .inl f5)), (aa 6, .inl (k5.2.2.2.1, 40, .inl f6)), (aa 7, .inl (k5.2.2.1, 32, .inl f7)), (aa 8, .inl (k5.2.2.1, 32, .inl f8)), (aa 9, .inl (k5.2.2.1, 32, .inl f9)), (aa 10, .inl (k5.2.2.1, 32, .inl f10))] H := hP
                  have hD : va_D A [(mo, .inr (4, [.int cd, .int (nI R.length), .int ck, .ref (aa 0), .ref (aa 1), .ref (aa 2), .ref (aa 3), .ref (aa 4), .ref (aa 5), .ref (aa 6), .int (nI (mf_write g i (mf_id x.1) (mf_pr x.1) mn).1), .ref (aa 7), .ref (aa 8), .ref (aa 9), .ref (aa 10), .int (mf_write g i (mf_id x.1) (mf_pr x.1) mn).2.1, .long (mf_write g i (mf_id x.1) (mf_pr x.1) mn).2.2.2.1, .int (mf_write g i (mf_id x.1) (mf_pr x.1) mn).2.2.1, .int sp, .int mt])), (aa 0, .inl (k5.2.2.1, 40, .inl f0)), (aa 1, .inl (k5.2.2.1, 40, .inl f1)), (aa 2, .inl (k5.2.2.1, 40, .inl f2)), (aa 3, .inl (k5.2.2.1, 40, .inl f3)), (aa 4, .inl (k5.2.2.1, 40, .inl (upd f4 k ((mf_lf x.1) - mn)))), (aa 5, .inl (k5.2.2.1, 40, .inl f5)), (aa 6, .inl (k5.2.2.2.1, 40, .inl f6)), (aa 7, .inl (k5.2.2.1, 32, .inl f7)), (aa 8, .inl (k5.2.2.1, 32, .inl f8)), (aa 9, .inl (k5.2.2.1, 32, .inl f9)), (aa 10, .inl (k5.2.2.1, 32, .inl f10))] := hD
                  have hM4 : mf_MD D k5 A H mo aa cd (R.set k (mf_setLf x.1 (mf_lf x.1 - mn), x.2), ck, sp, mt, (mf_write g i (mf_id x.1) (mf_pr x.1) mn)) := ⟨f0, f1, f2, f3, _, f5, f6, f7, f8, f9, f10, by rw [List.length_set]; exact hP, by rw [List.length_set]; exact hD, by rw [List.length_set]; exact hle, hRF.setl hq _, hRG⟩
                  refine lv_aload_n C.x C.b md_M_match_119 rfl (lv_at hl 3 rfl) ?_
                  refine mf_gf C (ci := 4) (N := 20) rfl mi_M 7 (by decide) mt_542 (hP 0 _ rfl) (v := .ref (aa 4)) rfl md_M_match_120 ?_
                  refine lv_iload C.x C.b md_M_match_123 (lv_at hl 2 rfl) ?_
                  refine mf_iv C (t := 2) rfl (hP 5 _ rfl) (show k < 40 by omega) (by decide) (v := (mf_lf x.1 - mn)) mf_upd_at md_M_match_125 ?_
                  refine lv_if_ne (tgt := 135) C.x C.b md_M_match_126 (by decide) (fun h7 => ?_) (fun h7 => ?_)
                  · refine nxt _ _ _ (qq - mn) _ mt (mf_write g i (mf_id x.1) (mf_pr x.1) mn) hM4 ?_ ?_ hS ?_ (lv_sub hl [0, 3, 4, 5, 6, 7] rfl)
                    · right; have hn0 := rf_min_left (q := qq) (v := mf_lf x.1) (by rw [hmn]; exact h7); rwa [hmn] at hn0
                    · show g.1 + 1 + n < 2 ^ 31; omega
                    · rw [hsp, hst]; unfold rf_meet; rw [if_neg h6, hmn, if_neg h7]
                  · skip
                    have hq4 : (R.set k (mf_setLf x.1 (mf_lf x.1 - mn), x.2))[k]? = some (mf_setLf x.1 (mf_lf x.1 - mn), x.2) := by rw [List.getElem?_set, if_pos rfl, if_pos hkl]
                    refine lv_aload_n C.x C.b md_M_match_129 rfl (lv_at hl 3 rfl) ?_
                    refine lv_iload C.x C.b md_M_match_130 (lv_at hl 2 rfl) ?_
                    refine mf_cwn (va_runV (As := [.int (nI k)]) (rest := []) C.f (k_M_drop l D k5 t0 A H mo aa cd ck sp mt _ (mf_write g i (mf_id x.1) (mf_pr x.1) mn) k _ hM4 hq4) (mf_cV C mt_640 mt_637 mt_6 mt_639 ms_34 mh_M_drop ⟨by decide, by decide⟩) (mf_preV C.ev hS (mf_rv C (ci := 4) (N := 20) rfl (hP 0 _ rfl))) rfl rfl hl.1 rfl (lv_room (Nat.le_of_ble_eq_true rfl)) md_M_match_132 ⟨by first | omega | exact Nat.le_of_ble_eq_true rfl, by first | omega | exact Nat.le_of_ble_eq_true rfl⟩) hS (fun _ _ h => h) (fun H locs hM5 hz5 hk5 hS => ?_)
                    rw [mf_drop_set hq] at hM5
                    refine nxt _ _ _ (qq - mn) _ mt (mf_write g i (mf_id x.1) (mf_pr x.1) mn) hM5 (Or.inl (by omega)) ?_ hS ?_ (lv_sub hl [0, 3, 4, 5, 6, 7] rfl)
                    · show g.1 + 1 + n < 2 ^ 31; omega
                    · rw [hsp, hst]; unfold rf_meet; rw [if_neg h6, hmn, if_pos h7]
                refine lv_iload C.x C.b md_M_match_65 (lv_at hl 1 rfl) ?_
                refine lv_aload_n C.x C.b md_M_match_67 rfl (lv_at hl 2 rfl) ?_
                refine mf_gf C (ci := 4) (N := 20) rfl mi_M 7 (by decide) mt_542 (hP 0 _ rfl) (v := .ref (aa 4)) rfl md_M_match_68 ?_
                refine lv_iload C.x C.b md_M_match_71 (lv_at hl 0 rfl) ?_
                refine mf_iv C (t := 2) rfl (hP 5 _ rfl) (by omega) (by decide) hu.2.2.2.2.1 md_M_match_73 ?_
                refine lv_icmp_ge (tgt := 82) C.x C.b md_M_match_74 (by decide) (fun h8 => ?_) (fun h8 => ?_)
                · skip
                  refine lv_aload_n C.x C.b md_M_match_82 rfl (lv_at hl 2 rfl) ?_
                  refine mf_gf C (ci := 4) (N := 20) rfl mi_M 7 (by decide) mt_542 (hP 0 _ rfl) (v := .ref (aa 4)) rfl md_M_match_83 ?_
                  refine lv_iload C.x C.b md_M_match_86 (lv_at hl 0 rfl) ?_
                  refine mf_iv C (t := 2) rfl (hP 5 _ rfl) (by omega) (by decide) hu.2.2.2.2.1 md_M_match_88 ?_
                  refine lv_istore (lv' := [(8, .int (mf_lf x.1)), (7, .int (nI k)), (6, .int qq), (0, .ref mo), (1, .int i), (2, .int o0), (3, .int s0), (4, .int p0)]) C.x C.b md_M_match_89 hl (by decide) rfl (fun ls hl => ?_)
                  exact aft _ ls (by unfold rf_min; rw [if_neg (Int32.not_lt.mpr h8)]) (lv_sub hl [0, 1, 2, 3, 4, 5, 6, 7] rfl)
                · skip
                  refine lv_iload C.x C.b md_M_match_77 (lv_at hl 1 rfl) ?_
                  refine lv_goto (tgt := 89) C.x C.b md_M_match_79 (by decide) ?_
                  refine lv_istore (lv' := [(8, .int qq), (7, .int (nI k)), (6, .int qq), (0, .ref mo), (1, .int i), (2, .int o0), (3, .int s0), (4, .int p0)]) C.x C.b md_M_match_89 hl (by decide) rfl (fun ls hl => ?_)
                  exact aft _ ls (by unfold rf_min; rw [if_pos (Int32.not_le.mp h8)]) (lv_sub hl [0, 1, 2, 3, 4, 5, 6, 7] rfl)
              · skip
                refine lv_aload_n C.x C.b md_M_match_46 rfl (lv_at hl 2 rfl) ?_
                refine lv_iload C.x C.b md_M_match_47 (lv_at hl 0 rfl) ?_
                refine mf_cwn (va_runV (As := [.int (nI k)]) (rest := []) C.f (k_M_drop l D k5 t0 A H2 mo aa cd ck sp mt R g k x hM hq) (mf_cV C mt_640 mt_637 mt_6 mt_639 ms_34 mh_M_drop ⟨by decide, by decide⟩) (mf_preV C.ev hS (mf_rv C (ci := 4) (N := 20) rfl (hP 0 _ rfl))) rfl rfl hl.1 rfl (lv_room (Nat.le_of_ble_eq_true rfl)) md_M_match_49 ⟨by first | omega | exact Nat.le_of_ble_eq_true rfl, by first | omega | exact Nat.le_of_ble_eq_true rfl⟩) hS (fun _ _ h => h) (fun H locs hM3 hz3 hk3 hS => ?_)
                obtain ⟨f0, f1, f2, f3, f4, f5, f6, f7, f8, f9, f10, hP, hD, hle3, hRF, hRG⟩ := id hM3
                have hP : va_P D mf_cl [(mo, .inr (4, [.int cd, .int (nI (rf_drop R k).length), .int ck, .ref (aa 0), .ref (aa 1), .ref (aa 2), .ref (aa 3), .ref (aa 4), .ref (aa 5), .ref (aa 6), .int (nI g.1), .ref (aa 7), .ref (aa 8), .ref (aa 9), .ref (aa 10), .int g.2.1, .long g.2.2.2.1, .int g.2.2.1, .int sp, .int mt])), (aa 0, .inl (k5.2.2.1, 40, .inl f0)), (aa 1, .inl (k5.2.2.1, 40, .inl f1)), (aa 2, .inl (k5.2.2.1, 40, .inl f2)), (aa 3, .inl (k5.2.2.1, 40, .inl f3)), (aa 4, .inl (k5.2.2.1, 40, .inl f4)), (aa 5, .inl (k5.2.2.1, 40, .inl f5)), (aa 6, .inl (k5.2.2.2.1, 40, .inl f6)), (aa 7, .inl (k5.2.2.1, 32, .inl f7)), (aa 8, .inl (k5.2.2.1, 32, .inl f8)), (aa 9, .inl (k5.2.2.1, 32, .inl f9)), (aa 10, .inl (k5.2.2.1, 32, .inl f10))] H := hP
                have hD : va_D A [(mo, .inr (4, [.int cd, .int (nI (rf_drop R k).length), .int ck, .ref (aa 0), .ref (aa 1), .ref (aa 2), .ref (aa 3), .ref (aa 4), .ref (aa 5), .ref (aa 6), .int (nI g.1), .ref (aa 7), .ref (aa 8), .ref (aa 9), .ref (aa 10), .int g.2.1, .long g.2.2.2.1, .int g.2.2.1, .int sp, .int mt])), (aa 0, .inl (k5.2.2.1, 40, .inl f0)), (aa 1, .inl (k5.2.2.1, 40, .inl f1)), (aa 2, .inl (k5.2.2.1, 40, .inl f2)), (aa 3, .inl (k5.2.2.1, 40, .inl f3)), (aa 4, .inl (k5.2.2.1, 40, .inl f4)), (aa 5, .inl (k5.2.2.1, 40, .inl f5)), (aa 6, .inl (k5.2.2.2.1, 40, .inl f6)), (aa 7, .inl (k5.2.2.1, 32, .inl f7)), (aa 8, .inl (k5.2.2.1, 32, .inl f8)), (aa 9, .inl (k5.2.2.1, 32, .inl f9)), (aa 10, .inl (k5.2.2.1, 32, .inl f10))] := hD
                refine lv_aload_n C.x C.b md_M_match_52 rfl (lv_at hl 2 rfl) ?_
                refine lv_dup C.x C.b md_M_match_53 rfl ?_
                refine mf_gf C (ci := 4) (N := 20) rfl mi_M 19 (by decide) mt_554 (hP 0 _ rfl) (v := .int mt) rfl md_M_match_54 ?_
                refine lv_iconst (v := 1) C.x C.b md_M_match_57 (by decide) ?_
                refine lv_iadd C.x C.b md_M_match_58 ?_
                refine va_put (D := D) (ci := 4) (v := .int (mt + 1)) (ty := .int) (C := mf_RM) (T := mf_TM) (N := 20) C.x C.b C.2.2.1 mi_M mf_tyM mp_M mn_M C.o C.k hP hD hS 0 rfl rfl 19 (by decide) (C.t mt_554) (fun _ h => h) rfl (by decide +kernel) rfl rfl (Nat.le_of_ble_eq_true rfl) md_M_match_59 (fun H locs hP hD hS => ?_)
                have hP : va_P D mf_cl [(mo, .inr (4, [.int cd, .int (nI (rf_drop R k).length), .int ck, .ref (aa 0), .ref (aa 1), .ref (aa 2), .ref (aa 3), .ref (aa 4), .ref (aa 5), .ref (aa 6), .int (nI g.1), .ref (aa 7), .ref (aa 8), .ref (aa 9), .ref (aa 10), .int g.2.1, .long g.2.2.2.1, .int g.2.2.1, .int sp, .int (mt + 1)])), (aa 0, .inl (k5.2.2.1, 40, .inl f0)), (aa 1, .inl (k5.2.2.1, 40, .inl f1)), (aa 2, .inl (k5.2.2.1, 40, .inl f2)), (aa 3, .inl (k5.2.2.1, 40, .inl f3)), (aa 4, .inl (k5.2.2.1, 40, .inl f4)), (aa 5, .inl (k5.2.2.1, 40, .inl f5)), (aa 6, .inl (k5.2.2.2.1, 40, .inl f6)), (aa 7, .inl (k5.2.2.1, 32, .inl f7)), (aa 8, .inl (k5.2.2.1, 32, .inl f8)), (aa 9, .inl (k5.2.2.1, 32, .inl f9)), (aa 10, .inl (k5.2.2.1, 32, .inl f10))] H := hP
                have hD : va_D A [(mo, .inr (4, [.int cd, .int (nI (rf_drop R k).length), .int ck, .ref (aa 0), .ref (aa 1), .ref (aa 2), .ref (aa 3), .ref (aa 4), .ref (aa 5), .ref (aa 6), .int (nI g.1), .ref (aa 7), .ref (aa 8), .ref (aa 9), .ref (aa 10), .int g.2.1, .long g.2.2.2.1, .int g.2.2.1, .int sp, .int (mt + 1)])), (aa 0, .inl (k5.2.2.1, 40, .inl f0)), (aa 1, .inl (k5.2.2.1, 40, .inl f1)), (aa 2, .inl (k5.2.2.1, 40, .inl f2)), (aa 3, .inl (k5.2.2.1, 40, .inl f3)), (aa 4, .inl (k5.2.2.1, 40, .inl f4)), (aa 5, .inl (k5.2.2.1, 40, .inl f5)), (aa 6, .inl (k5.2.2.2.1, 40, .inl f6)), (aa 7, .inl (k5.2.2.1, 32, .inl f7)), (aa 8, .inl (k5.2.2.1, 32, .inl f8)), (aa 9, .inl (k5.2.2.1, 32, .inl f9)), (aa 10, .inl (k5.2.2.1, 32, .inl f10))] := hD
                have hM4 : mf_MD D k5 A H mo aa cd (rf_drop R k, ck, sp, mt + 1, g) := ⟨f0, f1, f2, f3, f4, f5, f6, f7, f8, f9, f10, hP, hD, hle3, hRF, hRG⟩
                refine lv_goto (tgt := 135) C.x C.b md_M_match_62 (by decide) ?_
                refine nxt _ _ _ qq _ (mt + 1) g hM4 (Or.inl (by omega)) (by omega) hS ?_ (lv_sub hl [1, 2, 3, 4, 5, 6] rfl)
                rw [hsp, hst]; unfold rf_meet; rw [if_pos h6]
  refine lv_iload C.x C.b md_M_match_0 (lv_at hl 5 rfl) ?_
  refine lv_istore (lv' := [(6, .int q0), (0, .ref mo), (1, .int i), (2, .int o0), (3, .int s0), (4, .int p0), (5, .int q0)]) C.x C.b md_M_match_2 hl (by decide) rfl (fun ls hl => ?_)
  refine lv_aload_n C.x C.b md_M_match_4 rfl (lv_at hl 1 rfl) ?_
  refine lv_iconst (v := 1) C.x C.b md_M_match_5 (by decide) ?_
  refine lv_iload_n C.x C.b md_M_match_6 rfl (lv_at hl 4 rfl) ?_
  refine lv_isub C.x C.b md_M_match_7 ?_
  refine mf_cks (va_runV (As := [.int (1 - s0)]) (rest := []) C.f (k_M_first l D k5 t0 A H mo aa cd ck sp mt0 R0 g0 (1 - s0) hM) (mf_cV C mt_628 mt_625 mt_6 mt_627 ms_31 mh_M_first ⟨by decide, by decide⟩) (mf_preV C.ev hS (mf_rv C (ci := 4) (N := 20) rfl (hP 0 _ rfl))) rfl rfl hl.1 rfl (lv_room (Nat.le_of_ble_eq_true rfl)) md_M_match_8 ⟨by first | omega | exact Nat.le_of_ble_eq_true rfl, by first | omega | exact Nat.le_of_ble_eq_true rfl⟩) ?_
  refine lv_istore (lv' := [(7, .int (mf_ix (rf_first (1 - s0) R0))), (6, .int q0), (0, .ref mo), (1, .int i), (2, .int o0), (3, .int s0), (4, .int p0), (5, .int q0)]) C.x C.b md_M_match_11 hl (by decide) rfl (fun ls hl => ?_)
  exact loop 41 ls H [] q0 R0 mt0 g0 hM (Or.inl (by omega)) hg hS rfl (lv_sub hl [0, 1, 2, 3, 4, 5, 6] rfl)
