/-! the model: refused, the stops -/
theorem rf_drop_le {α : Type} (R : List α) (k : Nat) : (rf_drop R k).length ≤ R.length := by
  unfold rf_drop
  split
  · exact Nat.zero_le _
  · rw [List.length_dropLast, List.length_set]; omega
theorem rf_meet_len (i o q : Int32) (k : Nat) (x : mf_T) (st : rf_M) : (rf_meet i o q k x st).2.1.length ≤ st.1.length := by
  unfold rf_meet
  split
  · exact rf_drop_le _ _
  · dsimp only
    split
    · exact rf_drop_le _ _
    · rw [List.length_set]; exact Nat.le_refl _
theorem rf_meet_g (i o q : Int32) (k : Nat) (x : mf_T) (st : rf_M) : (rf_meet i o q k x st).2.2.2.1 ≤ st.2.2.1 + 1 := by
  unfold rf_meet
  split
  · exact Nat.le_succ _
  · exact Nat.le_refl _
theorem rf_match_len (i o s p : Int32) : ∀ (n : Nat) (q : Int32) (st : rf_M), (rf_match i o s p n q st).2.1.length ≤ st.1.length := by
  intro n
  induction n with
  | zero => intro q st; exact Nat.le_refl _
  | succ n ih =>
    intro q st
    rw [rf_match]
    split
    · split
      · exact Nat.le_refl _
      · split
        · exact Nat.le_trans (ih _ _) (rf_meet_len _ _ _ _ _ _)
        · exact Nat.le_refl _
    · exact Nat.le_refl _
theorem rf_match_g (i o s p : Int32) : ∀ (n : Nat) (q : Int32) (st : rf_M), (rf_match i o s p n q st).2.2.2.1 ≤ st.2.2.1 + n := by
  intro n
  induction n with
  | zero => intro q st; exact Nat.le_refl _
  | succ n ih =>
    intro q st
    rw [rf_match]
    split
    · split
      · exact Nat.le_add_right _ _
      · split
        · rename_i y _ _
          have h1 := ih (rf_meet i o q y.1 y.2 st).1 (rf_meet i o q y.1 y.2 st).2
          have h2 := rf_meet_g i o q y.1 y.2 st
          omega
        · exact Nat.le_add_right _ _
    · exact Nat.le_add_right _ _
set_option maxRecDepth 100000 in
set_option maxHeartbeats 4000000 in
theorem k_M_refused (l : Launch) (D : va_G) (k5 : mf_k5) (t0 : Nat × Nat) (A : Nat → Prop) (H : Heap) (mo : Nat) (aa : Nat → Nat) (cd ck sp mt : Int32) (R : List mf_T) (g : mf_G) (o0 s0 kd p0 q0 : Int32) (hM : mf_MD D k5 A H mo aa cd (R, ck, sp, mt, g)) : mf_cRO l my_M_refused mc_M_refused 7 (some .boolean) { frames := 2, cells := 0, slots := 0, locals := 49 } D (mf_tys k5) t0 A H [.ref mo, .int o0, .int s0, .int kd, .int p0, .int q0] (some (.int (mf_bI (rf_refused o0 s0 kd p0 q0 R)))) := by
  obtain ⟨f0, f1, f2, f3, f4, f5, f6, f7, f8, f9, f10, hP, hD, hle, hRF, hRG⟩ := id hM
  have hP : va_P D mf_cl [(mo, .inr (4, [.int cd, .int (nI R.length), .int ck, .ref (aa 0), .ref (aa 1), .ref (aa 2), .ref (aa 3), .ref (aa 4), .ref (aa 5), .ref (aa 6), .int (nI g.1), .ref (aa 7), .ref (aa 8), .ref (aa 9), .ref (aa 10), .int g.2.1, .long g.2.2.2.1, .int g.2.2.1, .int sp, .int mt])), (aa 0, .inl (k5.2.2.1, 40, .inl f0)), (aa 1, .inl (k5.2.2.1, 40, .inl f1)), (aa 2, .inl (k5.2.2.1, 40, .inl f2)), (aa 3, .inl (k5.2.2.1, 40, .inl f3)), (aa 4, .inl (k5.2.2.1, 40, .inl f4)), (aa 5, .inl (k5.2.2.1, 40, .inl f5)), (aa 6, .inl (k5.2.2.2.1, 40, .inl f6)), (aa 7, .inl (k5.2.2.1, 32, .inl f7)), (aa 8, .inl (k5.2.2.1, 32, .inl f8)), (aa 9, .inl (k5.2.2.1, 32, .inl f9)), (aa 10, .inl (k5.2.2.1, 32, .inl f10))] H := hP
  have hle : R.length ≤ 40 := hle
  refine mf_of (by decide) (Nat.le_of_ble_eq_true rfl) ?_
  intro p e s m below meth c ls C hH hr hlk hnm hmt hl hS
  have hl : lv_has ls 7 [(0, .ref mo), (1, .int o0), (2, .int s0), (3, .int kd), (4, .int p0), (5, .int q0)] := hl
  refine lv_iload_n C.x C.b md_M_refused_0 rfl (lv_at hl 3 rfl) ?_
  refine lv_iconst (v := 3) C.x C.b md_M_refused_1 (by decide) ?_
  refine lv_icmp_ne (tgt := 28) C.x C.b md_M_refused_2 (by decide) (fun h1 => ?_) (fun h1 => ?_)
  · skip
    refine lv_aload_n C.x C.b md_M_refused_28 rfl (lv_at hl 0 rfl) ?_
    refine lv_iconst (v := 1) C.x C.b md_M_refused_29 (by decide) ?_
    refine lv_iload_n C.x C.b md_M_refused_30 rfl (lv_at hl 2 rfl) ?_
    refine lv_isub C.x C.b md_M_refused_31 ?_
    refine mf_cks (va_runV (As := [.int (1 - s0)]) (rest := []) C.f (k_M_first l D k5 t0 A H mo aa cd ck sp mt R g (1 - s0) hM) (mf_cV C mt_628 mt_625 mt_6 mt_627 ms_31 mh_M_first ⟨by decide, by decide⟩) (mf_preV C.ev hS (mf_rv C (ci := 4) (N := 20) rfl (hP 0 _ rfl))) rfl rfl hl.1 rfl (lv_room (Nat.le_of_ble_eq_true rfl)) md_M_refused_32 ⟨by first | omega | exact Nat.le_of_ble_eq_true rfl, by first | omega | exact Nat.le_of_ble_eq_true rfl⟩) ?_
    rcases hp : rf_first (1 - s0) R with _ | ⟨k, x⟩
    · rw [show mf_ix (none : Option (Nat × mf_T)) = -1 from rfl]
      refine lv_istore (lv' := [(6, .int (-1)), (0, .ref mo), (1, .int o0), (2, .int s0), (3, .int kd), (4, .int p0), (5, .int q0)]) C.x C.b md_M_refused_35 hl (by decide) rfl (fun ls hl => ?_)
      refine lv_iload_n C.x C.b md_M_refused_37 rfl (lv_at hl 4 rfl) ?_
      refine lv_iconst (v := 4) C.x C.b md_M_refused_38 (by decide) ?_
      refine lv_icmp_ne (tgt := 63) C.x C.b md_M_refused_39 (by decide) (fun h2 => ?_) (fun h2 => ?_)
      · skip
        refine lv_iconst (v := 0) C.x C.b md_M_refused_63 (by decide) ?_
        rw [show mf_bI (rf_refused o0 s0 kd p0 q0 R) = 0 by first | (simp [mf_bI, rf_refused, h1, hp, h2]; done) | (exfalso; simp_all; done)]
        exact mf_rz C.x C.b hH hr hlk rfl md_M_refused_64
      · skip
        refine lv_iload C.x C.b md_M_refused_42 (lv_at hl 0 rfl) ?_
        refine lv_if_lt (tgt := 63) C.x C.b md_M_refused_44 (by decide) (fun h3 => ?_) (fun h3 => ?_)
        · skip
          refine lv_iconst (v := 0) C.x C.b md_M_refused_63 (by decide) ?_
          rw [show mf_bI (rf_refused o0 s0 kd p0 q0 R) = 0 by first | (simp [mf_bI, rf_refused, h1, hp, h2, h3, Int32.not_le.mpr h3]; done) | (exfalso; simp_all; done)]
          exact mf_rz C.x C.b hH hr hlk rfl md_M_refused_64
        · exact absurd (by decide) h3
    · rw [show mf_ix (some (k, x)) = nI k from rfl]
      have hq : R[k]? = some x := ((mf_pick_in _ _ R).2 k x hp).1
      have hkl := (List.getElem?_eq_some_iff.mp hq).1
      refine lv_istore (lv' := [(6, .int (nI k)), (0, .ref mo), (1, .int o0), (2, .int s0), (3, .int kd), (4, .int p0), (5, .int q0)]) C.x C.b md_M_refused_35 hl (by decide) rfl (fun ls hl => ?_)
      refine lv_iload_n C.x C.b md_M_refused_37 rfl (lv_at hl 4 rfl) ?_
      refine lv_iconst (v := 4) C.x C.b md_M_refused_38 (by decide) ?_
      refine lv_icmp_ne (tgt := 63) C.x C.b md_M_refused_39 (by decide) (fun h4 => ?_) (fun h4 => ?_)
      · skip
        refine lv_iconst (v := 0) C.x C.b md_M_refused_63 (by decide) ?_
        rw [show mf_bI (rf_refused o0 s0 kd p0 q0 R) = 0 by first | (simp [mf_bI, rf_refused, h1, hp, h4]; done) | (exfalso; simp_all; done)]
        exact mf_rz C.x C.b hH hr hlk rfl md_M_refused_64
      · skip
        refine lv_iload C.x C.b md_M_refused_42 (lv_at hl 0 rfl) ?_
        refine lv_if_lt (tgt := 63) C.x C.b md_M_refused_44 (by decide) (fun h5 => ?_) (fun h5 => ?_)
        · exact absurd h5 (nI_pos (by omega))
        · skip
          refine lv_aload_n C.x C.b md_M_refused_47 rfl (lv_at hl 1 rfl) ?_
          refine lv_iload_n C.x C.b md_M_refused_48 rfl (lv_at hl 3 rfl) ?_
          refine lv_iload C.x C.b md_M_refused_49 (lv_at hl 5 rfl) ?_
          refine lv_iload C.x C.b md_M_refused_51 (lv_at hl 0 rfl) ?_
          refine mf_cks (va_runV (As := [.int s0, .int p0, .int (nI k)]) (rest := []) C.f (k_M_fits l D k5 t0 A H mo aa cd ck sp mt R g s0 p0 k x hM hq) (mf_cV C mt_624 mt_621 mt_6 mt_623 ms_30 mh_M_fits ⟨by decide, by decide⟩) (mf_preV C.ev hS (mf_rv C (ci := 4) (N := 20) rfl (hP 0 _ rfl))) rfl rfl hl.1 rfl (lv_room (Nat.le_of_ble_eq_true rfl)) md_M_refused_53 ⟨by first | omega | exact Nat.le_of_ble_eq_true rfl, by first | omega | exact Nat.le_of_ble_eq_true rfl⟩) ?_
          refine lv_if_eq (tgt := 63) C.x C.b md_M_refused_56 (by decide) (fun h6 => ?_) (fun h6 => ?_)
          · skip
            refine lv_iconst (v := 0) C.x C.b md_M_refused_63 (by decide) ?_
            rw [show mf_bI (rf_refused o0 s0 kd p0 q0 R) = 0 by first | (simp [mf_bI, rf_refused, h1, hp, h4, h5, Int32.not_lt.mp h5, mf_bI_0.mp h6]; done) | (exfalso; simp_all; done)]
            exact mf_rz C.x C.b hH hr hlk rfl md_M_refused_64
          · skip
            refine lv_iconst (v := 1) C.x C.b md_M_refused_59 (by decide) ?_
            refine lv_goto (tgt := 64) C.x C.b md_M_refused_60 (by decide) ?_
            rw [show mf_bI (rf_refused o0 s0 kd p0 q0 R) = 1 by first | (simp [mf_bI, rf_refused, h1, hp, h4, h5, Int32.not_lt.mp h5, mf_bI_1.mp h6]; done) | (exfalso; simp_all; done)]
            exact mf_rz C.x C.b hH hr hlk rfl md_M_refused_64
  · skip
    refine lv_aload_n C.x C.b md_M_refused_5 rfl (lv_at hl 0 rfl) ?_
    refine lv_iload_n C.x C.b md_M_refused_6 rfl (lv_at hl 1 rfl) ?_
    refine lv_iload_n C.x C.b md_M_refused_7 rfl (lv_at hl 2 rfl) ?_
    refine lv_iload C.x C.b md_M_refused_8 (lv_at hl 4 rfl) ?_
    refine mf_cks (va_runV (As := [.int o0, .int s0, .int p0]) (rest := []) C.f (k_M_within l D k5 t0 A H mo aa cd ck sp mt R g o0 s0 p0 hM) (mf_cV C mt_620 mt_617 mt_6 mt_619 ms_29 mh_M_within ⟨by decide, by decide⟩) (mf_preV C.ev hS (mf_rv C (ci := 4) (N := 20) rfl (hP 0 _ rfl))) rfl rfl hl.1 rfl (lv_room (Nat.le_of_ble_eq_true rfl)) md_M_refused_10 ⟨by first | omega | exact Nat.le_of_ble_eq_true rfl, by first | omega | exact Nat.le_of_ble_eq_true rfl⟩) ?_
    refine lv_istore (lv' := [(6, .int (rf_within o0 s0 p0 R)), (0, .ref mo), (1, .int o0), (2, .int s0), (3, .int kd), (4, .int p0), (5, .int q0)]) C.x C.b md_M_refused_13 hl (by decide) rfl (fun ls hl => ?_)
    refine lv_iload C.x C.b md_M_refused_15 (lv_at hl 0 rfl) ?_
    refine lv_iload C.x C.b md_M_refused_17 (lv_at hl 6 rfl) ?_
    refine lv_icmp_ge (tgt := 26) C.x C.b md_M_refused_19 (by decide) (fun h7 => ?_) (fun h7 => ?_)
    · skip
      refine lv_iconst (v := 0) C.x C.b md_M_refused_26 (by decide) ?_
      rw [show mf_bI (rf_refused o0 s0 kd p0 q0 R) = 0 by first | (simp [mf_bI, rf_refused, h1, h7, Int32.not_lt.mpr h7]; done) | (exfalso; simp_all; done)]
      exact mf_rz C.x C.b hH hr hlk rfl md_M_refused_27
    · skip
      refine lv_iconst (v := 1) C.x C.b md_M_refused_22 (by decide) ?_
      refine lv_goto (tgt := 27) C.x C.b md_M_refused_23 (by decide) ?_
      rw [show mf_bI (rf_refused o0 s0 kd p0 q0 R) = 1 by first | (simp [mf_bI, rf_refused, h1, h7, Int32.not_le.mp h7]; done) | (exfalso; simp_all; done)]
      exact mf_rz C.x C.b hH hr hlk rfl md_M_refused_27
set_option maxRecDepth 100000 in
set_option maxHeartbeats 4000000 in
theorem k_M_runStops (l : Launch) (D : va_G) (k5 : mf_k5) (t0 : Nat × Nat) (A : Nat → Prop) (H : Heap) (mo : Nat) (aa : Nat → Nat) (cd : Int32) (st : rf_S) (hM : mf_MD D k5 A H mo aa cd st) (hg : st.2.2.2.2.1 + 41 * 40 < 2 ^ 31) : mf_cWR l my_M_runStops mc_M_runStops 6 none { frames := 3, cells := 0, slots := 0, locals := 74 } D (mf_tys k5) t0 A H [.ref mo] none (fun H1 => mf_MD D k5 A H1 mo aa cd (rf_stops 40 st)) (A) 0 0 := by
  obtain ⟨f0, f1, f2, f3, f4, f5, f6, f7, f8, f9, f10, hP, hD, hle, hRF, hRG⟩ := id hM
  refine mf_of (by decide) (Nat.le_of_ble_eq_true rfl) ?_
  intro p e s m below meth c ls C hH hr hlk hnm hmt hl hS
  have hl : lv_has ls 6 [(0, .ref mo)] := hl
  have loop : ∀ (n : Nat) (ls : Array Slot) (H2 : Heap) (locs : List Loc) (R : List mf_T) (ck sp mt : Int32) (g : mf_G), mf_MD D k5 A H2 mo aa cd (R, ck, sp, mt, g) → R.length ≤ n → g.1 + 41 * n < 2 ^ 31 → va_S A s.heap H2 locs → rf_stops 40 st = rf_stops n (R, ck, sp, mt, g) → lv_has ls 6 [(1, .int (mf_ix (rf_dueAt g.2.1 R))), (0, .ref mo)] → W p l e ({ frames := 3, cells := 0, slots := 0, locals := 74 } : Room) s m (([.ref mo] : List Value).toArray) below meth c H2 locs 0 0 (MQ below (mf_Kw none (fun H1 => mf_MD D k5 A H1 mo aa cd (rf_stops 40 st)) (A)) (([.ref mo] : List Value).toArray) s 0 0 A) (F0 m 5 ls []) := by
    intro n
    induction n with
    | zero =>
      intro ls H2 locs R ck sp mt g hM hn hg hS hsp hl
      have hR : R = [] := List.length_eq_zero_iff.mp (Nat.le_zero.mp hn)
      have hd0 : rf_dueAt g.2.1 R = none := by rw [hR]; rfl
      rw [hd0] at hl
      have hl : lv_has ls 6 [(1, .int (-1)), (0, .ref mo)] := hl
      refine lv_iload_n C.x C.b md_M_runStops_5 rfl (lv_at hl 0 rfl) ?_
      refine lv_if_lt (tgt := 74) C.x C.b md_M_runStops_6 (by decide) (fun h1 => ?_) (fun h1 => ?_)
      · skip
        have hfin : rf_stops 40 st = (R, ck, sp, mt, g) := hsp.trans (rfl)
        rw [hfin]
        exact mf_wv C.x C.b hr hlk md_M_runStops_74 hM (by rw [← hH]; exact ⟨hS.1, hS.2.1⟩) hH hS.2.2 (Nat.le_refl _) (Nat.le_refl _)
      · exact absurd (by decide) h1
    | succ n ih =>
      intro ls H2 locs R ck sp mt g hM hn hg hS hsp hl
      obtain ⟨f0, f1, f2, f3, f4, f5, f6, f7, f8, f9, f10, hP, hD, hle, hRF, hRG⟩ := id hM
      have hP : va_P D mf_cl [(mo, .inr (4, [.int cd, .int (nI R.length), .int ck, .ref (aa 0), .ref (aa 1), .ref (aa 2), .ref (aa 3), .ref (aa 4), .ref (aa 5), .ref (aa 6), .int (nI g.1), .ref (aa 7), .ref (aa 8), .ref (aa 9), .ref (aa 10), .int g.2.1, .long g.2.2.2.1, .int g.2.2.1, .int sp, .int mt])), (aa 0, .inl (k5.2.2.1, 40, .inl f0)), (aa 1, .inl (k5.2.2.1, 40, .inl f1)), (aa 2, .inl (k5.2.2.1, 40, .inl f2)), (aa 3, .inl (k5.2.2.1, 40, .inl f3)), (aa 4, .inl (k5.2.2.1, 40, .inl f4)), (aa 5, .inl (k5.2.2.1, 40, .inl f5)), (aa 6, .inl (k5.2.2.2.1, 40, .inl f6)), (aa 7, .inl (k5.2.2.1, 32, .inl f7)), (aa 8, .inl (k5.2.2.1, 32, .inl f8)), (aa 9, .inl (k5.2.2.1, 32, .inl f9)), (aa 10, .inl (k5.2.2.1, 32, .inl f10))] H2 := hP
      have hle : R.length ≤ 40 := hle
      have hRF : mf_Rc R f0 f1 f2 f3 f4 f5 f6 := hRF
      rcases hp : rf_dueAt g.2.1 R with _ | ⟨k, x⟩
      · rw [hp] at hl
        have hl : lv_has ls 6 [(1, .int (-1)), (0, .ref mo)] := hl
        refine lv_iload_n C.x C.b md_M_runStops_5 rfl (lv_at hl 0 rfl) ?_
        refine lv_if_lt (tgt := 74) C.x C.b md_M_runStops_6 (by decide) (fun h2 => ?_) (fun h2 => ?_)
        · skip
          have hfin : rf_stops 40 st = (R, ck, sp, mt, g) := hsp.trans (by rw [rf_stops]; dsimp only; rw [hp])
          rw [hfin]
          exact mf_wv C.x C.b hr hlk md_M_runStops_74 hM (by rw [← hH]; exact ⟨hS.1, hS.2.1⟩) hH hS.2.2 (Nat.le_refl _) (Nat.le_refl _)
        · exact absurd (by decide) h2
      · rw [hp] at hl
        have hl : lv_has ls 6 [(1, .int (nI k)), (0, .ref mo)] := hl
        have hq : R[k]? = some x := ((mf_pick_in _ _ R).2 k x hp).1
        have hu := hRF k x hq
        have hkl := (List.getElem?_eq_some_iff.mp hq).1
        have hdl := mf_drop_l hq
        refine lv_iload_n C.x C.b md_M_runStops_5 rfl (lv_at hl 0 rfl) ?_
        refine lv_if_lt (tgt := 74) C.x C.b md_M_runStops_6 (by decide) (fun h3 => ?_) (fun h3 => ?_)
        · exact absurd h3 (nI_pos (by omega))
        · skip
          refine lv_aload_n C.x C.b md_M_runStops_9 rfl (lv_at hl 1 rfl) ?_
          refine mf_gf C (ci := 4) (N := 20) rfl mi_M 3 (by decide) mt_538 (hP 0 _ rfl) (v := .ref (aa 0)) rfl md_M_runStops_10 ?_
          refine lv_iload_n C.x C.b md_M_runStops_13 rfl (lv_at hl 0 rfl) ?_
          refine mf_iv C (t := 2) rfl (hP 1 _ rfl) (by omega) (by decide) hu.1 md_M_runStops_14 ?_
          refine lv_istore_n (lv' := [(2, .int (mf_id x.1)), (1, .int (nI k)), (0, .ref mo)]) C.x C.b md_M_runStops_15 rfl hl (by decide) rfl (fun ls hl => ?_)
          refine lv_aload_n C.x C.b md_M_runStops_16 rfl (lv_at hl 2 rfl) ?_
          refine mf_gf C (ci := 4) (N := 20) rfl mi_M 4 (by decide) mt_539 (hP 0 _ rfl) (v := .ref (aa 1)) rfl md_M_runStops_17 ?_
          refine lv_iload_n C.x C.b md_M_runStops_20 rfl (lv_at hl 1 rfl) ?_
          refine mf_iv C (t := 2) rfl (hP 2 _ rfl) (by omega) (by decide) hu.2.1 md_M_runStops_21 ?_
          refine lv_istore_n (lv' := [(3, .int (mf_ow x.1)), (2, .int (mf_id x.1)), (1, .int (nI k)), (0, .ref mo)]) C.x C.b md_M_runStops_22 rfl hl (by decide) rfl (fun ls hl => ?_)
          refine lv_aload_n C.x C.b md_M_runStops_23 rfl (lv_at hl 3 rfl) ?_
          refine mf_gf C (ci := 4) (N := 20) rfl mi_M 5 (by decide) mt_540 (hP 0 _ rfl) (v := .ref (aa 2)) rfl md_M_runStops_24 ?_
          refine lv_iload_n C.x C.b md_M_runStops_27 rfl (lv_at hl 2 rfl) ?_
          refine mf_iv C (t := 2) rfl (hP 3 _ rfl) (by omega) (by decide) hu.2.2.1 md_M_runStops_28 ?_
          refine lv_istore (lv' := [(4, .int (mf_sd x.1)), (3, .int (mf_ow x.1)), (2, .int (mf_id x.1)), (1, .int (nI k)), (0, .ref mo)]) C.x C.b md_M_runStops_29 hl (by decide) rfl (fun ls hl => ?_)
          refine lv_aload_n C.x C.b md_M_runStops_31 rfl (lv_at hl 4 rfl) ?_
          refine mf_gf C (ci := 4) (N := 20) rfl mi_M 7 (by decide) mt_542 (hP 0 _ rfl) (v := .ref (aa 4)) rfl md_M_runStops_32 ?_
          refine lv_iload_n C.x C.b md_M_runStops_35 rfl (lv_at hl 3 rfl) ?_
          refine mf_iv C (t := 2) rfl (hP 5 _ rfl) (by omega) (by decide) hu.2.2.2.2.1 md_M_runStops_36 ?_
          refine lv_istore (lv' := [(5, .int (mf_lf x.1)), (4, .int (mf_sd x.1)), (3, .int (mf_ow x.1)), (2, .int (mf_id x.1)), (1, .int (nI k)), (0, .ref mo)]) C.x C.b md_M_runStops_37 hl (by decide) rfl (fun ls hl => ?_)
          refine lv_aload_n C.x C.b md_M_runStops_39 rfl (lv_at hl 5 rfl) ?_
          refine lv_iload_n C.x C.b md_M_runStops_40 rfl (lv_at hl 4 rfl) ?_
          refine mf_cwn (va_runV (As := [.int (nI k)]) (rest := []) C.f (k_M_drop l D k5 t0 A H2 mo aa cd ck sp mt R g k x hM hq) (mf_cV C mt_640 mt_637 mt_6 mt_639 ms_34 mh_M_drop ⟨by decide, by decide⟩) (mf_preV C.ev hS (mf_rv C (ci := 4) (N := 20) rfl (hP 0 _ rfl))) rfl rfl hl.1 rfl (lv_room (Nat.le_of_ble_eq_true rfl)) md_M_runStops_41 ⟨by first | omega | exact Nat.le_of_ble_eq_true rfl, by first | omega | exact Nat.le_of_ble_eq_true rfl⟩) hS (fun _ _ h => h) (fun H locs hM3 hz3 hk3 hS => ?_)
          obtain ⟨f0, f1, f2, f3, f4, f5, f6, f7, f8, f9, f10, hP, hD, hle3, hRF, hRG⟩ := id hM3
          have hP : va_P D mf_cl [(mo, .inr (4, [.int cd, .int (nI (rf_drop R k).length), .int ck, .ref (aa 0), .ref (aa 1), .ref (aa 2), .ref (aa 3), .ref (aa 4), .ref (aa 5), .ref (aa 6), .int (nI g.1), .ref (aa 7), .ref (aa 8), .ref (aa 9), .ref (aa 10), .int g.2.1, .long g.2.2.2.1, .int g.2.2.1, .int sp, .int mt])), (aa 0, .inl (k5.2.2.1, 40, .inl f0)), (aa 1, .inl (k5.2.2.1, 40, .inl f1)), (aa 2, .inl (k5.2.2.1, 40, .inl f2)), (aa 3, .inl (k5.2.2.1, 40, .inl f3)), (aa 4, .inl (k5.2.2.1, 40, .inl f4)), (aa 5, .inl (k5.2.2.1, 40, .inl f5)), (aa 6, .inl (k5.2.2.2.1, 40, .inl f6)), (aa 7, .inl (k5.2.2.1, 32, .inl f7)), (aa 8, .inl (k5.2.2.1, 32, .inl f8)), (aa 9, .inl (k5.2.2.1, 32, .inl f9)), (aa 10, .inl (k5.2.2.1, 32, .inl f10))] H := hP
          have hD : va_D A [(mo, .inr (4, [.int cd, .int (nI (rf_drop R k).length), .int ck, .ref (aa 0), .ref (aa 1), .ref (aa 2), .ref (aa 3), .ref (aa 4), .ref (aa 5), .ref (aa 6), .int (nI g.1), .ref (aa 7), .ref (aa 8), .ref (aa 9), .ref (aa 10), .int g.2.1, .long g.2.2.2.1, .int g.2.2.1, .int sp, .int mt])), (aa 0, .inl (k5.2.2.1, 40, .inl f0)), (aa 1, .inl (k5.2.2.1, 40, .inl f1)), (aa 2, .inl (k5.2.2.1, 40, .inl f2)), (aa 3, .inl (k5.2.2.1, 40, .inl f3)), (aa 4, .inl (k5.2.2.1, 40, .inl f4)), (aa 5, .inl (k5.2.2.1, 40, .inl f5)), (aa 6, .inl (k5.2.2.2.1, 40, .inl f6)), (aa 7, .inl (k5.2.2.1, 32, .inl f7)), (aa 8, .inl (k5.2.2.1, 32, .inl f8)), (aa 9, .inl (k5.2.2.1, 32, .inl f9)), (aa 10, .inl (k5.2.2.1, 32, .inl f10))] := hD
          refine lv_aload_n C.x C.b md_M_runStops_44 rfl (lv_at hl 5 rfl) ?_
          refine lv_dup C.x C.b md_M_runStops_45 rfl ?_
          refine mf_gf C (ci := 4) (N := 20) rfl mi_M 18 (by decide) mt_553 (hP 0 _ rfl) (v := .int sp) rfl md_M_runStops_46 ?_
          refine lv_iconst (v := 1) C.x C.b md_M_runStops_49 (by decide) ?_
          refine lv_iadd C.x C.b md_M_runStops_50 ?_
          refine va_put (D := D) (ci := 4) (v := .int (sp + 1)) (ty := .int) (C := mf_RM) (T := mf_TM) (N := 20) C.x C.b C.2.2.1 mi_M mf_tyM mp_M mn_M C.o C.k hP hD hS 0 rfl rfl 18 (by decide) (C.t mt_553) (fun _ h => h) rfl (by decide +kernel) rfl rfl (Nat.le_of_ble_eq_true rfl) md_M_runStops_51 (fun H locs hP hD hS => ?_)
          have hP : va_P D mf_cl [(mo, .inr (4, [.int cd, .int (nI (rf_drop R k).length), .int ck, .ref (aa 0), .ref (aa 1), .ref (aa 2), .ref (aa 3), .ref (aa 4), .ref (aa 5), .ref (aa 6), .int (nI g.1), .ref (aa 7), .ref (aa 8), .ref (aa 9), .ref (aa 10), .int g.2.1, .long g.2.2.2.1, .int g.2.2.1, .int (sp + 1), .int mt])), (aa 0, .inl (k5.2.2.1, 40, .inl f0)), (aa 1, .inl (k5.2.2.1, 40, .inl f1)), (aa 2, .inl (k5.2.2.1, 40, .inl f2)), (aa 3, .inl (k5.2.2.1, 40, .inl f3)), (aa 4, .inl (k5.2.2.1, 40, .inl f4)), (aa 5, .inl (k5.2.2.1, 40, .inl f5)), (aa 6, .inl (k5.2.2.2.1, 40, .inl f6)), (aa 7, .inl (k5.2.2.1, 32, .inl f7)), (aa 8, .inl (k5.2.2.1, 32, .inl f8)), (aa 9, .inl (k5.2.2.1, 32, .inl f9)), (aa 10, .inl (k5.2.2.1, 32, .inl f10))] H := hP
          have hD : va_D A [(mo, .inr (4, [.int cd, .int (nI (rf_drop R k).length), .int ck, .ref (aa 0), .ref (aa 1), .ref (aa 2), .ref (aa 3), .ref (aa 4), .ref (aa 5), .ref (aa 6), .int (nI g.1), .ref (aa 7), .ref (aa 8), .ref (aa 9), .ref (aa 10), .int g.2.1, .long g.2.2.2.1, .int g.2.2.1, .int (sp + 1), .int mt])), (aa 0, .inl (k5.2.2.1, 40, .inl f0)), (aa 1, .inl (k5.2.2.1, 40, .inl f1)), (aa 2, .inl (k5.2.2.1, 40, .inl f2)), (aa 3, .inl (k5.2.2.1, 40, .inl f3)), (aa 4, .inl (k5.2.2.1, 40, .inl f4)), (aa 5, .inl (k5.2.2.1, 40, .inl f5)), (aa 6, .inl (k5.2.2.2.1, 40, .inl f6)), (aa 7, .inl (k5.2.2.1, 32, .inl f7)), (aa 8, .inl (k5.2.2.1, 32, .inl f8)), (aa 9, .inl (k5.2.2.1, 32, .inl f9)), (aa 10, .inl (k5.2.2.1, 32, .inl f10))] := hD
          have hM4 : mf_MD D k5 A H mo aa cd (rf_drop R k, ck, sp + 1, mt, g) := ⟨f0, f1, f2, f3, f4, f5, f6, f7, f8, f9, f10, hP, hD, hle3, hRF, hRG⟩
          refine lv_aload_n C.x C.b md_M_runStops_54 rfl (lv_at hl 5 rfl) ?_
          refine lv_iload_n C.x C.b md_M_runStops_55 rfl (lv_at hl 3 rfl) ?_
          refine lv_iload_n C.x C.b md_M_runStops_56 rfl (lv_at hl 2 rfl) ?_
          refine lv_iload C.x C.b md_M_runStops_57 (lv_at hl 1 rfl) ?_
          refine lv_iconst (v := 0) C.x C.b md_M_runStops_59 (by decide) ?_
          refine lv_iload C.x C.b md_M_runStops_60 (lv_at hl 0 rfl) ?_
          refine mf_cws (va_runV (As := [.int (mf_id x.1), .int (mf_ow x.1), .int (mf_sd x.1), .int 0, .int (mf_lf x.1)]) (rest := []) C.f (k_M_match l D k5 t0 A H mo aa cd ck (sp + 1) mt (rf_drop R k) g (mf_id x.1) (mf_ow x.1) (mf_sd x.1) 0 (mf_lf x.1) hM4 (by omega)) (mf_cV C mt_636 mt_633 mt_6 mt_635 ms_33 mh_M_match ⟨by decide, by decide⟩) (mf_preV C.ev hS (mf_rv C (ci := 4) (N := 20) rfl (hP 0 _ rfl))) rfl rfl hl.1 rfl (lv_room (Nat.le_of_ble_eq_true rfl)) md_M_runStops_62 ⟨by first | omega | exact Nat.le_of_ble_eq_true rfl, by first | omega | exact Nat.le_of_ble_eq_true rfl⟩) hS (fun _ _ h => h) (fun H locs hM5 hz5 hk5 hS => ?_)
          have hgn := rf_match_g (mf_id x.1) (mf_ow x.1) (mf_sd x.1) 0 41 (mf_lf x.1) (rf_drop R k, mt, g)
          have hln := rf_match_len (mf_id x.1) (mf_ow x.1) (mf_sd x.1) 0 41 (mf_lf x.1) (rf_drop R k, mt, g)
          have hst : rf_stops (n + 1) (R, ck, sp, mt, g) = rf_stops n ((rf_match (mf_id x.1) (mf_ow x.1) (mf_sd x.1) 0 41 (mf_lf x.1) (rf_drop R k, mt, g)).2.1, ck, sp + 1, (rf_match (mf_id x.1) (mf_ow x.1) (mf_sd x.1) 0 41 (mf_lf x.1) (rf_drop R k, mt, g)).2.2) := by rw [rf_stops]; dsimp only; rw [hp]
          obtain ⟨⟨q1, R1, mt1, g1⟩, hq1⟩ : ∃ q, rf_match (mf_id x.1) (mf_ow x.1) (mf_sd x.1) 0 41 (mf_lf x.1) (rf_drop R k, mt, g) = q := ⟨_, rfl⟩
          rw [hq1] at hM5 hgn hln hst ⊢
          have hgn : g1.1 ≤ g.1 + 41 := hgn
          have hln : R1.length ≤ (rf_drop R k).length := hln
          have hM5 : mf_MD D k5 A H mo aa cd (R1, ck, sp + 1, mt1, g1) := hM5
          obtain ⟨_, _, _, _, _, _, _, _, _, _, _, hP5, -⟩ := id hM5
          refine lv_pop C.x C.b md_M_runStops_65 rfl ?_
          refine lv_aload_n C.x C.b md_M_runStops_66 rfl (lv_at hl 5 rfl) ?_
          refine mf_cks (va_runV (As := []) (rest := []) C.f (k_M_earliestDue l D k5 t0 A H mo aa cd ck (sp + 1) mt1 R1 g1 hM5) (mf_cV C mt_656 mt_653 mt_6 mt_655 ms_38 mh_M_earliestDue ⟨by decide, by decide⟩) (mf_preV C.ev hS (mf_rv C (ci := 4) (N := 20) rfl (hP5 0 _ rfl))) rfl rfl hl.1 rfl (lv_room (Nat.le_of_ble_eq_true rfl)) md_M_runStops_67 ⟨by first | omega | exact Nat.le_of_ble_eq_true rfl, by first | omega | exact Nat.le_of_ble_eq_true rfl⟩) ?_
          refine lv_istore_n (lv' := [(1, .int (mf_ix (rf_dueAt g1.2.1 R1))), (5, .int (mf_lf x.1)), (4, .int (mf_sd x.1)), (3, .int (mf_ow x.1)), (2, .int (mf_id x.1)), (0, .ref mo)]) C.x C.b md_M_runStops_70 rfl hl (by decide) rfl (fun ls hl => ?_)
          refine lv_goto (tgt := 5) C.x C.b md_M_runStops_71 (by decide) ?_
          exact ih ls _ _ R1 ck (sp + 1) mt1 g1 hM5 (by omega) (by omega) hS (hsp.trans hst) (lv_sub hl [0, 5] rfl)
  obtain ⟨R, ck, sp, mt, g⟩ := st
  have hP : va_P D mf_cl [(mo, .inr (4, [.int cd, .int (nI R.length), .int ck, .ref (aa 0), .ref (aa 1), .ref (aa 2), .ref (aa 3), .ref (aa 4), .ref (aa 5), .ref (aa 6), .int (nI g.1), .ref (aa 7), .ref (aa 8), .ref (aa 9), .ref (aa 10), .int g.2.1, .long g.2.2.2.1, .int g.2.2.1, .int sp, .int mt])), (aa 0, .inl (k5.2.2.1, 40, .inl f0)), (aa 1, .inl (k5.2.2.1, 40, .inl f1)), (aa 2, .inl (k5.2.2.1, 40, .inl f2)), (aa 3, .inl (k5.2.2.1, 40, .inl f3)), (aa 4, .inl (k5.2.2.1, 40, .inl f4)), (aa 5, .inl (k5.2.2.1, 40, .inl f5)), (aa 6, .inl (k5.2.2.2.1, 40, .inl f6)), (aa 7, .inl (k5.2.2.1, 32, .inl f7)), (aa 8, .inl (k5.2.2.1, 32, .inl f8)), (aa 9, .inl (k5.2.2.1, 32, .inl f9)), (aa 10, .inl (k5.2.2.1, 32, .inl f10))] H := hP
  refine lv_aload_n C.x C.b md_M_runStops_0 rfl (lv_at hl 0 rfl) ?_
  refine mf_cks (va_runV (As := []) (rest := []) C.f (k_M_earliestDue l D k5 t0 A H mo aa cd ck sp mt R g hM) (mf_cV C mt_656 mt_653 mt_6 mt_655 ms_38 mh_M_earliestDue ⟨by decide, by decide⟩) (mf_preV C.ev hS (mf_rv C (ci := 4) (N := 20) rfl (hP 0 _ rfl))) rfl rfl hl.1 rfl (lv_room (Nat.le_of_ble_eq_true rfl)) md_M_runStops_1 ⟨by first | omega | exact Nat.le_of_ble_eq_true rfl, by first | omega | exact Nat.le_of_ble_eq_true rfl⟩) ?_
  refine lv_istore_n (lv' := [(1, .int (mf_ix (rf_dueAt g.2.1 R))), (0, .ref mo)]) C.x C.b md_M_runStops_4 rfl hl (by decide) rfl (fun ls hl => ?_)
  exact loop 40 ls H [] R ck sp mt g hM hle hg hS rfl (lv_sub hl [0, 1] rfl)
