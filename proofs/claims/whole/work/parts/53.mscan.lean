/-! the model: its scans -/
theorem mf_pick_at {α : Type} {ok : α → Bool} {lt : α → α → Bool} {l : List α} {k j : Nat} {y : α} (h : mf_pick ok lt (l.take k) = some (j, y)) : l[j]? = some y := by
  have h1 := ((mf_pick_in ok lt (l.take k)).2 j y h).1
  have h2 := mf_pick_lt h
  rwa [List.getElem?_take_of_lt h2] at h1
set_option maxRecDepth 100000 in
set_option maxHeartbeats 4000000 in
theorem k_M_find (l : Launch) (D : va_G) (k5 : mf_k5) (t0 : Nat × Nat) (A : Nat → Prop) (H : Heap) (mo : Nat) (aa : Nat → Nat) (cd ck sp mt : Int32) (R : List mf_T) (g : mf_G) (i : Int32) (hM : mf_MD D k5 A H mo aa cd (R, ck, sp, mt, g)) : mf_cRO l my_M_find mc_M_find 4 (some .int) { frames := 0, cells := 0, slots := 0, locals := 0 } D (mf_tys k5) t0 A H [.ref mo, .int i] (some (.int (mf_ix (rf_find i R)))) := by
  obtain ⟨f0, f1, f2, f3, f4, f5, f6, f7, f8, f9, f10, hP, hD, hle, hRF, hRG⟩ := id hM
  have hP : va_P D mf_cl [(mo, .inr (4, [.int cd, .int (nI R.length), .int ck, .ref (aa 0), .ref (aa 1), .ref (aa 2), .ref (aa 3), .ref (aa 4), .ref (aa 5), .ref (aa 6), .int (nI g.1), .ref (aa 7), .ref (aa 8), .ref (aa 9), .ref (aa 10), .int g.2.1, .long g.2.2.2.1, .int g.2.2.1, .int sp, .int mt])), (aa 0, .inl (k5.2.2.1, 40, .inl f0)), (aa 1, .inl (k5.2.2.1, 40, .inl f1)), (aa 2, .inl (k5.2.2.1, 40, .inl f2)), (aa 3, .inl (k5.2.2.1, 40, .inl f3)), (aa 4, .inl (k5.2.2.1, 40, .inl f4)), (aa 5, .inl (k5.2.2.1, 40, .inl f5)), (aa 6, .inl (k5.2.2.2.1, 40, .inl f6)), (aa 7, .inl (k5.2.2.1, 32, .inl f7)), (aa 8, .inl (k5.2.2.1, 32, .inl f8)), (aa 9, .inl (k5.2.2.1, 32, .inl f9)), (aa 10, .inl (k5.2.2.1, 32, .inl f10))] H := hP
  have hle : R.length ≤ 40 := hle
  refine mf_of (by decide) (Nat.le_of_ble_eq_true rfl) ?_
  intro p e s m below meth c ls C hH hr hlk hnm hmt hl hS
  have hl : lv_has ls 4 [(0, .ref mo), (1, .int i)] := hl
  have loop : ∀ (n k : Nat) (r : Option (Nat × mf_T)) (ls : Array Slot), k + n = R.length → mf_pick (fun x => decide (mf_id x.1 = i)) (fun _ _ => true) (R.take k) = r → lv_has ls 4 [(3, .int (nI k)), (2, .int (mf_ix r)), (0, .ref mo), (1, .int i)] → W p l e ({ frames := 0, cells := 0, slots := 0, locals := 0 } : Room) s m (([.ref mo, .int i] : List Value).toArray) below meth c H [] 0 0 (MQ below (mf_K (some (.int (mf_ix (rf_find i R))))) (([.ref mo, .int i] : List Value).toArray) s 0 0 (fun _ => False)) (F0 m 4 ls []) := by
    intro n
    induction n with
    | zero =>
      intro k r ls hk i0 hl
      obtain rfl : k = R.length := by omega
      refine lv_iload_n C.x C.b md_M_find_4 rfl (lv_at hl 0 rfl) ?_
      refine lv_aload_n C.x C.b md_M_find_5 rfl (lv_at hl 2 rfl) ?_
      refine mf_gf C (ci := 4) (N := 20) rfl mi_M 1 (by decide) mt_536 (hP 0 _ rfl) (v := .int (nI R.length)) rfl md_M_find_6 ?_
      refine lv_icmp_ge (tgt := 34) C.x C.b md_M_find_9 (by decide) (fun h1 => ?_) (fun h1 => ?_)
      · skip
        refine lv_iload_n C.x C.b md_M_find_34 rfl (lv_at hl 1 rfl) ?_
        rw [show rf_find i R = r from mf_pick_all i0]
        exact mf_ri C.x C.b hH hr hlk md_M_find_35
      · exact absurd (Int32.le_refl _) h1
    | succ n ih =>
      intro k r ls hk i0 hl
      have hkk : k < R.length := by omega
      obtain ⟨x, hq⟩ := mf_at_lt hkk
      have hu := hRF k x hq
      rcases r with _ | ⟨j, y⟩
      · have hl : lv_has ls 4 [(3, .int (nI k)), (2, .int (-1)), (0, .ref mo), (1, .int i)] := hl
        refine lv_iload_n C.x C.b md_M_find_4 rfl (lv_at hl 0 rfl) ?_
        refine lv_aload_n C.x C.b md_M_find_5 rfl (lv_at hl 2 rfl) ?_
        refine mf_gf C (ci := 4) (N := 20) rfl mi_M 1 (by decide) mt_536 (hP 0 _ rfl) (v := .int (nI R.length)) rfl md_M_find_6 ?_
        refine lv_icmp_ge (tgt := 34) C.x C.b md_M_find_9 (by decide) (fun h2 => ?_) (fun h2 => ?_)
        · exact absurd h2 (nI_ge hkk (by omega))
        · skip
          refine lv_aload_n C.x C.b md_M_find_12 rfl (lv_at hl 2 rfl) ?_
          refine mf_gf C (ci := 4) (N := 20) rfl mi_M 3 (by decide) mt_538 (hP 0 _ rfl) (v := .ref (aa 0)) rfl md_M_find_13 ?_
          refine lv_iload_n C.x C.b md_M_find_16 rfl (lv_at hl 0 rfl) ?_
          refine mf_iv C (t := 2) rfl (hP 1 _ rfl) (by omega) (by decide) hu.1 md_M_find_17 ?_
          refine lv_iload_n C.x C.b md_M_find_18 rfl (lv_at hl 3 rfl) ?_
          refine lv_icmp_ne (tgt := 26) C.x C.b md_M_find_19 (by decide) (fun h3 => ?_) (fun h3 => ?_)
          · skip
            refine lv_iload_n C.x C.b md_M_find_26 rfl (lv_at hl 1 rfl) ?_
            refine lv_istore_n (lv' := [(2, .int (-1)), (3, .int (nI k)), (0, .ref mo), (1, .int i)]) C.x C.b md_M_find_27 rfl hl (by decide) rfl (fun ls hl => ?_)
            refine lv_iinc (k := 1) (v := nI (k + 1)) (lv' := [(3, .int (nI (k + 1))), (2, .int (-1)), (0, .ref mo), (1, .int i)]) C.x C.b md_M_find_28 hl rfl (nI_1 _) (by decide) rfl (fun ls hl => ?_)
            refine lv_goto (tgt := 4) C.x C.b md_M_find_31 (by decide) ?_
            exact ih (k + 1) none ls (by omega) (mf_step hq i0 (by first | (simp [mf_cmp, h2, Int32.not_le.mp h2, h3]; done) | (exfalso; simp_all; done))) (lv_sub hl [0, 1, 2, 3] rfl)
          · skip
            refine lv_iload_n C.x C.b md_M_find_22 rfl (lv_at hl 0 rfl) ?_
            refine lv_goto (tgt := 27) C.x C.b md_M_find_23 (by decide) ?_
            refine lv_istore_n (lv' := [(2, .int (nI k)), (3, .int (nI k)), (0, .ref mo), (1, .int i)]) C.x C.b md_M_find_27 rfl hl (by decide) rfl (fun ls hl => ?_)
            refine lv_iinc (k := 1) (v := nI (k + 1)) (lv' := [(3, .int (nI (k + 1))), (2, .int (nI k)), (0, .ref mo), (1, .int i)]) C.x C.b md_M_find_28 hl rfl (nI_1 _) (by decide) rfl (fun ls hl => ?_)
            refine lv_goto (tgt := 4) C.x C.b md_M_find_31 (by decide) ?_
            exact ih (k + 1) (some (k, x)) ls (by omega) (mf_step hq i0 (by first | (simp [mf_cmp, h2, Int32.not_le.mp h2, h3]; done) | (exfalso; simp_all; done))) (lv_sub hl [0, 1, 2, 3] rfl)
      · have hl : lv_has ls 4 [(3, .int (nI k)), (2, .int (nI j)), (0, .ref mo), (1, .int i)] := hl
        have hj : j < k := mf_pick_lt i0
        have hqj : R[j]? = some y := mf_pick_at i0
        have huj := hRF j y hqj
        refine lv_iload_n C.x C.b md_M_find_4 rfl (lv_at hl 0 rfl) ?_
        refine lv_aload_n C.x C.b md_M_find_5 rfl (lv_at hl 2 rfl) ?_
        refine mf_gf C (ci := 4) (N := 20) rfl mi_M 1 (by decide) mt_536 (hP 0 _ rfl) (v := .int (nI R.length)) rfl md_M_find_6 ?_
        refine lv_icmp_ge (tgt := 34) C.x C.b md_M_find_9 (by decide) (fun h4 => ?_) (fun h4 => ?_)
        · exact absurd h4 (nI_ge hkk (by omega))
        · skip
          refine lv_aload_n C.x C.b md_M_find_12 rfl (lv_at hl 2 rfl) ?_
          refine mf_gf C (ci := 4) (N := 20) rfl mi_M 3 (by decide) mt_538 (hP 0 _ rfl) (v := .ref (aa 0)) rfl md_M_find_13 ?_
          refine lv_iload_n C.x C.b md_M_find_16 rfl (lv_at hl 0 rfl) ?_
          refine mf_iv C (t := 2) rfl (hP 1 _ rfl) (by omega) (by decide) hu.1 md_M_find_17 ?_
          refine lv_iload_n C.x C.b md_M_find_18 rfl (lv_at hl 3 rfl) ?_
          refine lv_icmp_ne (tgt := 26) C.x C.b md_M_find_19 (by decide) (fun h5 => ?_) (fun h5 => ?_)
          · skip
            refine lv_iload_n C.x C.b md_M_find_26 rfl (lv_at hl 1 rfl) ?_
            refine lv_istore_n (lv' := [(2, .int (nI j)), (3, .int (nI k)), (0, .ref mo), (1, .int i)]) C.x C.b md_M_find_27 rfl hl (by decide) rfl (fun ls hl => ?_)
            refine lv_iinc (k := 1) (v := nI (k + 1)) (lv' := [(3, .int (nI (k + 1))), (2, .int (nI j)), (0, .ref mo), (1, .int i)]) C.x C.b md_M_find_28 hl rfl (nI_1 _) (by decide) rfl (fun ls hl => ?_)
            refine lv_goto (tgt := 4) C.x C.b md_M_find_31 (by decide) ?_
            exact ih (k + 1) (some (j, y)) ls (by omega) (mf_step hq i0 (by first | (simp [mf_cmp, h4, Int32.not_le.mp h4, h5]; done) | (exfalso; simp_all; done))) (lv_sub hl [0, 1, 2, 3] rfl)
          · skip
            refine lv_iload_n C.x C.b md_M_find_22 rfl (lv_at hl 0 rfl) ?_
            refine lv_goto (tgt := 27) C.x C.b md_M_find_23 (by decide) ?_
            refine lv_istore_n (lv' := [(2, .int (nI k)), (3, .int (nI k)), (0, .ref mo), (1, .int i)]) C.x C.b md_M_find_27 rfl hl (by decide) rfl (fun ls hl => ?_)
            refine lv_iinc (k := 1) (v := nI (k + 1)) (lv' := [(3, .int (nI (k + 1))), (2, .int (nI k)), (0, .ref mo), (1, .int i)]) C.x C.b md_M_find_28 hl rfl (nI_1 _) (by decide) rfl (fun ls hl => ?_)
            refine lv_goto (tgt := 4) C.x C.b md_M_find_31 (by decide) ?_
            exact ih (k + 1) (some (k, x)) ls (by omega) (mf_step hq i0 (by first | (simp [mf_cmp, h4, Int32.not_le.mp h4, h5]; done) | (exfalso; simp_all; done))) (lv_sub hl [0, 1, 2, 3] rfl)
  refine lv_iconst (v := (-1)) C.x C.b md_M_find_0 (by decide) ?_
  refine lv_istore_n (lv' := [(2, .int (-1)), (0, .ref mo), (1, .int i)]) C.x C.b md_M_find_1 rfl hl (by decide) rfl (fun ls hl => ?_)
  refine lv_iconst (v := 0) C.x C.b md_M_find_2 (by decide) ?_
  refine lv_istore_n (lv' := [(3, .int 0), (2, .int (-1)), (0, .ref mo), (1, .int i)]) C.x C.b md_M_find_3 rfl hl (by decide) rfl (fun ls hl => ?_)
  exact loop R.length 0 none ls (by omega) rfl (lv_sub hl [0, 1, 2, 3] rfl)
set_option maxRecDepth 100000 in
set_option maxHeartbeats 4000000 in
theorem k_M_first (l : Launch) (D : va_G) (k5 : mf_k5) (t0 : Nat × Nat) (A : Nat → Prop) (H : Heap) (mo : Nat) (aa : Nat → Nat) (cd ck sp mt : Int32) (R : List mf_T) (g : mf_G) (s0 : Int32) (hM : mf_MD D k5 A H mo aa cd (R, ck, sp, mt, g)) : mf_cRO l my_M_first mc_M_first 5 (some .int) { frames := 1, cells := 0, slots := 0, locals := 22 } D (mf_tys k5) t0 A H [.ref mo, .int s0] (some (.int (mf_ix (rf_first s0 R)))) := by
  obtain ⟨f0, f1, f2, f3, f4, f5, f6, f7, f8, f9, f10, hP, hD, hle, hRF, hRG⟩ := id hM
  have hP : va_P D mf_cl [(mo, .inr (4, [.int cd, .int (nI R.length), .int ck, .ref (aa 0), .ref (aa 1), .ref (aa 2), .ref (aa 3), .ref (aa 4), .ref (aa 5), .ref (aa 6), .int (nI g.1), .ref (aa 7), .ref (aa 8), .ref (aa 9), .ref (aa 10), .int g.2.1, .long g.2.2.2.1, .int g.2.2.1, .int sp, .int mt])), (aa 0, .inl (k5.2.2.1, 40, .inl f0)), (aa 1, .inl (k5.2.2.1, 40, .inl f1)), (aa 2, .inl (k5.2.2.1, 40, .inl f2)), (aa 3, .inl (k5.2.2.1, 40, .inl f3)), (aa 4, .inl (k5.2.2.1, 40, .inl f4)), (aa 5, .inl (k5.2.2.1, 40, .inl f5)), (aa 6, .inl (k5.2.2.2.1, 40, .inl f6)), (aa 7, .inl (k5.2.2.1, 32, .inl f7)), (aa 8, .inl (k5.2.2.1, 32, .inl f8)), (aa 9, .inl (k5.2.2.1, 32, .inl f9)), (aa 10, .inl (k5.2.2.1, 32, .inl f10))] H := hP
  have hle : R.length ≤ 40 := hle
  refine mf_of (by decide) (Nat.le_of_ble_eq_true rfl) ?_
  intro p e s m below meth c ls C hH hr hlk hnm hmt hl hS
  have hl : lv_has ls 5 [(0, .ref mo), (1, .int s0)] := hl
  have loop : ∀ (n k : Nat) (r : Option (Nat × mf_T)) (ls : Array Slot), k + n = R.length → mf_pick (fun x => mf_rests x.1 s0) (rf_before) (R.take k) = r → lv_has ls 5 [(3, .int (nI k)), (2, .int (mf_ix r)), (0, .ref mo), (1, .int s0)] → W p l e ({ frames := 1, cells := 0, slots := 0, locals := 22 } : Room) s m (([.ref mo, .int s0] : List Value).toArray) below meth c H [] 0 0 (MQ below (mf_K (some (.int (mf_ix (rf_first s0 R))))) (([.ref mo, .int s0] : List Value).toArray) s 0 0 (fun _ => False)) (F0 m 4 ls []) := by
    intro n
    induction n with
    | zero =>
      intro k r ls hk i0 hl
      obtain rfl : k = R.length := by omega
      refine lv_iload_n C.x C.b md_M_first_4 rfl (lv_at hl 0 rfl) ?_
      refine lv_aload_n C.x C.b md_M_first_5 rfl (lv_at hl 2 rfl) ?_
      refine mf_gf C (ci := 4) (N := 20) rfl mi_M 1 (by decide) mt_536 (hP 0 _ rfl) (v := .int (nI R.length)) rfl md_M_first_6 ?_
      refine lv_icmp_ge (tgt := 68) C.x C.b md_M_first_9 (by decide) (fun h1 => ?_) (fun h1 => ?_)
      · skip
        refine lv_iload_n C.x C.b md_M_first_68 rfl (lv_at hl 1 rfl) ?_
        rw [show rf_first s0 R = r from mf_pick_all i0]
        exact mf_ri C.x C.b hH hr hlk md_M_first_69
      · exact absurd (Int32.le_refl _) h1
    | succ n ih =>
      intro k r ls hk i0 hl
      have hkk : k < R.length := by omega
      obtain ⟨x, hq⟩ := mf_at_lt hkk
      have hu := hRF k x hq
      rcases r with _ | ⟨j, y⟩
      · have hl : lv_has ls 5 [(3, .int (nI k)), (2, .int (-1)), (0, .ref mo), (1, .int s0)] := hl
        refine lv_iload_n C.x C.b md_M_first_4 rfl (lv_at hl 0 rfl) ?_
        refine lv_aload_n C.x C.b md_M_first_5 rfl (lv_at hl 2 rfl) ?_
        refine mf_gf C (ci := 4) (N := 20) rfl mi_M 1 (by decide) mt_536 (hP 0 _ rfl) (v := .int (nI R.length)) rfl md_M_first_6 ?_
        refine lv_icmp_ge (tgt := 68) C.x C.b md_M_first_9 (by decide) (fun h2 => ?_) (fun h2 => ?_)
        · exact absurd h2 (nI_ge hkk (by omega))
        · skip
          refine lv_aload_n C.x C.b md_M_first_12 rfl (lv_at hl 2 rfl) ?_
          refine mf_gf C (ci := 4) (N := 20) rfl mi_M 9 (by decide) mt_544 (hP 0 _ rfl) (v := .ref (aa 6)) rfl md_M_first_13 ?_
          refine lv_iload_n C.x C.b md_M_first_16 rfl (lv_at hl 0 rfl) ?_
          refine mf_zv C (t := 3) rfl (hP 7 _ rfl) (by omega) (by decide) hu.2.2.2.2.2.2.1 md_M_first_17 ?_
          refine lv_if_ne (tgt := 35) C.x C.b md_M_first_18 (by decide) (fun h3 => ?_) (fun h3 => ?_)
          · skip
            refine lv_iconst (v := 0) C.x C.b md_M_first_35 (by decide) ?_
            refine lv_istore (lv' := [(4, .int 0), (3, .int (nI k)), (2, .int (-1)), (0, .ref mo), (1, .int s0)]) C.x C.b md_M_first_36 hl (by decide) rfl (fun ls hl => ?_)
            refine lv_iload C.x C.b md_M_first_38 (lv_at hl 0 rfl) ?_
            refine lv_if_eq (tgt := 60) C.x C.b md_M_first_40 (by decide) (fun h4 => ?_) (fun h4 => ?_)
            · skip
              refine lv_iload_n C.x C.b md_M_first_60 rfl (lv_at hl 2 rfl) ?_
              refine lv_istore_n (lv' := [(2, .int (-1)), (4, .int 0), (3, .int (nI k)), (0, .ref mo), (1, .int s0)]) C.x C.b md_M_first_61 rfl hl (by decide) rfl (fun ls hl => ?_)
              refine lv_iinc (k := 2) (v := nI (k + 1)) (lv' := [(3, .int (nI (k + 1))), (2, .int (-1)), (4, .int 0), (0, .ref mo), (1, .int s0)]) C.x C.b md_M_first_62 hl rfl (nI_1 _) (by decide) rfl (fun ls hl => ?_)
              refine lv_goto (tgt := 4) C.x C.b md_M_first_65 (by decide) ?_
              exact ih (k + 1) none ls (by omega) (mf_step hq i0 (by first | (simp [mf_cmp, mf_rests, h2, Int32.not_le.mp h2, h3, h4]; done) | (exfalso; simp_all; done))) (lv_sub hl [0, 1, 3, 4] rfl)
            · exact absurd rfl h4
          · skip
            refine lv_aload_n C.x C.b md_M_first_21 rfl (lv_at hl 2 rfl) ?_
            refine mf_gf C (ci := 4) (N := 20) rfl mi_M 5 (by decide) mt_540 (hP 0 _ rfl) (v := .ref (aa 2)) rfl md_M_first_22 ?_
            refine lv_iload_n C.x C.b md_M_first_25 rfl (lv_at hl 0 rfl) ?_
            refine mf_iv C (t := 2) rfl (hP 3 _ rfl) (by omega) (by decide) hu.2.2.1 md_M_first_26 ?_
            refine lv_iload_n C.x C.b md_M_first_27 rfl (lv_at hl 3 rfl) ?_
            refine lv_icmp_ne (tgt := 35) C.x C.b md_M_first_28 (by decide) (fun h5 => ?_) (fun h5 => ?_)
            · skip
              refine lv_iconst (v := 0) C.x C.b md_M_first_35 (by decide) ?_
              refine lv_istore (lv' := [(4, .int 0), (3, .int (nI k)), (2, .int (-1)), (0, .ref mo), (1, .int s0)]) C.x C.b md_M_first_36 hl (by decide) rfl (fun ls hl => ?_)
              refine lv_iload C.x C.b md_M_first_38 (lv_at hl 0 rfl) ?_
              refine lv_if_eq (tgt := 60) C.x C.b md_M_first_40 (by decide) (fun h6 => ?_) (fun h6 => ?_)
              · skip
                refine lv_iload_n C.x C.b md_M_first_60 rfl (lv_at hl 2 rfl) ?_
                refine lv_istore_n (lv' := [(2, .int (-1)), (4, .int 0), (3, .int (nI k)), (0, .ref mo), (1, .int s0)]) C.x C.b md_M_first_61 rfl hl (by decide) rfl (fun ls hl => ?_)
                refine lv_iinc (k := 2) (v := nI (k + 1)) (lv' := [(3, .int (nI (k + 1))), (2, .int (-1)), (4, .int 0), (0, .ref mo), (1, .int s0)]) C.x C.b md_M_first_62 hl rfl (nI_1 _) (by decide) rfl (fun ls hl => ?_)
                refine lv_goto (tgt := 4) C.x C.b md_M_first_65 (by decide) ?_
                exact ih (k + 1) none ls (by omega) (mf_step hq i0 (by first | (simp [mf_cmp, mf_rests, h2, Int32.not_le.mp h2, h3, h5, h6]; done) | (exfalso; simp_all; done))) (lv_sub hl [0, 1, 3, 4] rfl)
              · exact absurd rfl h6
            · skip
              refine lv_iconst (v := 1) C.x C.b md_M_first_31 (by decide) ?_
              refine lv_goto (tgt := 36) C.x C.b md_M_first_32 (by decide) ?_
              refine lv_istore (lv' := [(4, .int 1), (3, .int (nI k)), (2, .int (-1)), (0, .ref mo), (1, .int s0)]) C.x C.b md_M_first_36 hl (by decide) rfl (fun ls hl => ?_)
              refine lv_iload C.x C.b md_M_first_38 (lv_at hl 0 rfl) ?_
              refine lv_if_eq (tgt := 60) C.x C.b md_M_first_40 (by decide) (fun h7 => ?_) (fun h7 => ?_)
              · exact absurd h7 (by decide)
              · skip
                refine lv_iload_n C.x C.b md_M_first_43 rfl (lv_at hl 2 rfl) ?_
                refine lv_if_lt (tgt := 56) C.x C.b md_M_first_44 (by decide) (fun h8 => ?_) (fun h8 => ?_)
                · skip
                  refine lv_iload_n C.x C.b md_M_first_56 rfl (lv_at hl 1 rfl) ?_
                  refine lv_goto (tgt := 61) C.x C.b md_M_first_57 (by decide) ?_
                  refine lv_istore_n (lv' := [(2, .int (nI k)), (4, .int 1), (3, .int (nI k)), (0, .ref mo), (1, .int s0)]) C.x C.b md_M_first_61 rfl hl (by decide) rfl (fun ls hl => ?_)
                  refine lv_iinc (k := 2) (v := nI (k + 1)) (lv' := [(3, .int (nI (k + 1))), (2, .int (nI k)), (4, .int 1), (0, .ref mo), (1, .int s0)]) C.x C.b md_M_first_62 hl rfl (nI_1 _) (by decide) rfl (fun ls hl => ?_)
                  refine lv_goto (tgt := 4) C.x C.b md_M_first_65 (by decide) ?_
                  exact ih (k + 1) (some (k, x)) ls (by omega) (mf_step hq i0 (by first | (simp [mf_cmp, mf_rests, h2, Int32.not_le.mp h2, h3, h5, h7, h8, Int32.not_le.mpr h8]; done) | (exfalso; simp_all; done))) (lv_sub hl [0, 1, 3, 4] rfl)
                · exact absurd (by decide) h8
      · have hl : lv_has ls 5 [(3, .int (nI k)), (2, .int (nI j)), (0, .ref mo), (1, .int s0)] := hl
        have hj : j < k := mf_pick_lt i0
        have hqj : R[j]? = some y := mf_pick_at i0
        have huj := hRF j y hqj
        refine lv_iload_n C.x C.b md_M_first_4 rfl (lv_at hl 0 rfl) ?_
        refine lv_aload_n C.x C.b md_M_first_5 rfl (lv_at hl 2 rfl) ?_
        refine mf_gf C (ci := 4) (N := 20) rfl mi_M 1 (by decide) mt_536 (hP 0 _ rfl) (v := .int (nI R.length)) rfl md_M_first_6 ?_
        refine lv_icmp_ge (tgt := 68) C.x C.b md_M_first_9 (by decide) (fun h9 => ?_) (fun h9 => ?_)
        · exact absurd h9 (nI_ge hkk (by omega))
        · skip
          refine lv_aload_n C.x C.b md_M_first_12 rfl (lv_at hl 2 rfl) ?_
          refine mf_gf C (ci := 4) (N := 20) rfl mi_M 9 (by decide) mt_544 (hP 0 _ rfl) (v := .ref (aa 6)) rfl md_M_first_13 ?_
          refine lv_iload_n C.x C.b md_M_first_16 rfl (lv_at hl 0 rfl) ?_
          refine mf_zv C (t := 3) rfl (hP 7 _ rfl) (by omega) (by decide) hu.2.2.2.2.2.2.1 md_M_first_17 ?_
          refine lv_if_ne (tgt := 35) C.x C.b md_M_first_18 (by decide) (fun h10 => ?_) (fun h10 => ?_)
          · skip
            refine lv_iconst (v := 0) C.x C.b md_M_first_35 (by decide) ?_
            refine lv_istore (lv' := [(4, .int 0), (3, .int (nI k)), (2, .int (nI j)), (0, .ref mo), (1, .int s0)]) C.x C.b md_M_first_36 hl (by decide) rfl (fun ls hl => ?_)
            refine lv_iload C.x C.b md_M_first_38 (lv_at hl 0 rfl) ?_
            refine lv_if_eq (tgt := 60) C.x C.b md_M_first_40 (by decide) (fun h11 => ?_) (fun h11 => ?_)
            · skip
              refine lv_iload_n C.x C.b md_M_first_60 rfl (lv_at hl 2 rfl) ?_
              refine lv_istore_n (lv' := [(2, .int (nI j)), (4, .int 0), (3, .int (nI k)), (0, .ref mo), (1, .int s0)]) C.x C.b md_M_first_61 rfl hl (by decide) rfl (fun ls hl => ?_)
              refine lv_iinc (k := 2) (v := nI (k + 1)) (lv' := [(3, .int (nI (k + 1))), (2, .int (nI j)), (4, .int 0), (0, .ref mo), (1, .int s0)]) C.x C.b md_M_first_62 hl rfl (nI_1 _) (by decide) rfl (fun ls hl => ?_)
              refine lv_goto (tgt := 4) C.x C.b md_M_first_65 (by decide) ?_
              exact ih (k + 1) (some (j, y)) ls (by omega) (mf_step hq i0 (by first | (simp [mf_cmp, mf_rests, h9, Int32.not_le.mp h9, h10, h11]; done) | (exfalso; simp_all; done))) (lv_sub hl [0, 1, 3, 4] rfl)
            · exact absurd rfl h11
          · skip
            refine lv_aload_n C.x C.b md_M_first_21 rfl (lv_at hl 2 rfl) ?_
            refine mf_gf C (ci := 4) (N := 20) rfl mi_M 5 (by decide) mt_540 (hP 0 _ rfl) (v := .ref (aa 2)) rfl md_M_first_22 ?_
            refine lv_iload_n C.x C.b md_M_first_25 rfl (lv_at hl 0 rfl) ?_
            refine mf_iv C (t := 2) rfl (hP 3 _ rfl) (by omega) (by decide) hu.2.2.1 md_M_first_26 ?_
            refine lv_iload_n C.x C.b md_M_first_27 rfl (lv_at hl 3 rfl) ?_
            refine lv_icmp_ne (tgt := 35) C.x C.b md_M_first_28 (by decide) (fun h12 => ?_) (fun h12 => ?_)
            · skip
              refine lv_iconst (v := 0) C.x C.b md_M_first_35 (by decide) ?_
              refine lv_istore (lv' := [(4, .int 0), (3, .int (nI k)), (2, .int (nI j)), (0, .ref mo), (1, .int s0)]) C.x C.b md_M_first_36 hl (by decide) rfl (fun ls hl => ?_)
              refine lv_iload C.x C.b md_M_first_38 (lv_at hl 0 rfl) ?_
              refine lv_if_eq (tgt := 60) C.x C.b md_M_first_40 (by decide) (fun h13 => ?_) (fun h13 => ?_)
              · skip
                refine lv_iload_n C.x C.b md_M_first_60 rfl (lv_at hl 2 rfl) ?_
                refine lv_istore_n (lv' := [(2, .int (nI j)), (4, .int 0), (3, .int (nI k)), (0, .ref mo), (1, .int s0)]) C.x C.b md_M_first_61 rfl hl (by decide) rfl (fun ls hl => ?_)
                refine lv_iinc (k := 2) (v := nI (k + 1)) (lv' := [(3, .int (nI (k + 1))), (2, .int (nI j)), (4, .int 0), (0, .ref mo), (1, .int s0)]) C.x C.b md_M_first_62 hl rfl (nI_1 _) (by decide) rfl (fun ls hl => ?_)
                refine lv_goto (tgt := 4) C.x C.b md_M_first_65 (by decide) ?_
                exact ih (k + 1) (some (j, y)) ls (by omega) (mf_step hq i0 (by first | (simp [mf_cmp, mf_rests, h9, Int32.not_le.mp h9, h10, h12, h13]; done) | (exfalso; simp_all; done))) (lv_sub hl [0, 1, 3, 4] rfl)
              · exact absurd rfl h13
            · skip
              refine lv_iconst (v := 1) C.x C.b md_M_first_31 (by decide) ?_
              refine lv_goto (tgt := 36) C.x C.b md_M_first_32 (by decide) ?_
              refine lv_istore (lv' := [(4, .int 1), (3, .int (nI k)), (2, .int (nI j)), (0, .ref mo), (1, .int s0)]) C.x C.b md_M_first_36 hl (by decide) rfl (fun ls hl => ?_)
              refine lv_iload C.x C.b md_M_first_38 (lv_at hl 0 rfl) ?_
              refine lv_if_eq (tgt := 60) C.x C.b md_M_first_40 (by decide) (fun h14 => ?_) (fun h14 => ?_)
              · exact absurd h14 (by decide)
              · skip
                refine lv_iload_n C.x C.b md_M_first_43 rfl (lv_at hl 2 rfl) ?_
                refine lv_if_lt (tgt := 56) C.x C.b md_M_first_44 (by decide) (fun h15 => ?_) (fun h15 => ?_)
                · exact absurd h15 (nI_pos (by omega))
                · skip
                  refine lv_aload_n C.x C.b md_M_first_47 rfl (lv_at hl 3 rfl) ?_
                  refine lv_iload_n C.x C.b md_M_first_48 rfl (lv_at hl 1 rfl) ?_
                  refine lv_iload_n C.x C.b md_M_first_49 rfl (lv_at hl 2 rfl) ?_
                  refine mf_cks (va_runV (As := [.int (nI k), .int (nI j)]) (rest := []) C.f (k_M_comesBefore l D k5 t0 A H mo aa cd ck sp mt R g k j x y hM hq hqj) (mf_cV C mt_632 mt_629 mt_6 mt_631 ms_32 mh_M_comesBefore ⟨by decide, by decide⟩) (mf_preV C.ev hS (mf_rv C (ci := 4) (N := 20) rfl (hP 0 _ rfl))) rfl rfl hl.1 rfl (lv_room (Nat.le_of_ble_eq_true rfl)) md_M_first_50 ⟨by first | omega | exact Nat.le_of_ble_eq_true rfl, by first | omega | exact Nat.le_of_ble_eq_true rfl⟩) ?_
                  refine lv_if_eq (tgt := 60) C.x C.b md_M_first_53 (by decide) (fun h16 => ?_) (fun h16 => ?_)
                  · skip
                    refine lv_iload_n C.x C.b md_M_first_60 rfl (lv_at hl 2 rfl) ?_
                    refine lv_istore_n (lv' := [(2, .int (nI j)), (4, .int 1), (3, .int (nI k)), (0, .ref mo), (1, .int s0)]) C.x C.b md_M_first_61 rfl hl (by decide) rfl (fun ls hl => ?_)
                    refine lv_iinc (k := 2) (v := nI (k + 1)) (lv' := [(3, .int (nI (k + 1))), (2, .int (nI j)), (4, .int 1), (0, .ref mo), (1, .int s0)]) C.x C.b md_M_first_62 hl rfl (nI_1 _) (by decide) rfl (fun ls hl => ?_)
                    refine lv_goto (tgt := 4) C.x C.b md_M_first_65 (by decide) ?_
                    exact ih (k + 1) (some (j, y)) ls (by omega) (mf_step hq i0 (by first | (simp [mf_cmp, mf_rests, h9, Int32.not_le.mp h9, h10, h12, h14, h15, Int32.not_lt.mp h15, mf_bI_0.mp h16]; done) | (exfalso; simp_all; done))) (lv_sub hl [0, 1, 3, 4] rfl)
                  · skip
                    refine lv_iload_n C.x C.b md_M_first_56 rfl (lv_at hl 1 rfl) ?_
                    refine lv_goto (tgt := 61) C.x C.b md_M_first_57 (by decide) ?_
                    refine lv_istore_n (lv' := [(2, .int (nI k)), (4, .int 1), (3, .int (nI k)), (0, .ref mo), (1, .int s0)]) C.x C.b md_M_first_61 rfl hl (by decide) rfl (fun ls hl => ?_)
                    refine lv_iinc (k := 2) (v := nI (k + 1)) (lv' := [(3, .int (nI (k + 1))), (2, .int (nI k)), (4, .int 1), (0, .ref mo), (1, .int s0)]) C.x C.b md_M_first_62 hl rfl (nI_1 _) (by decide) rfl (fun ls hl => ?_)
                    refine lv_goto (tgt := 4) C.x C.b md_M_first_65 (by decide) ?_
                    exact ih (k + 1) (some (k, x)) ls (by omega) (mf_step hq i0 (by first | (simp [mf_cmp, mf_rests, h9, Int32.not_le.mp h9, h10, h12, h14, h15, Int32.not_lt.mp h15, mf_bI_1.mp h16]; done) | (exfalso; simp_all; done))) (lv_sub hl [0, 1, 3, 4] rfl)
  refine lv_iconst (v := (-1)) C.x C.b md_M_first_0 (by decide) ?_
  refine lv_istore_n (lv' := [(2, .int (-1)), (0, .ref mo), (1, .int s0)]) C.x C.b md_M_first_1 rfl hl (by decide) rfl (fun ls hl => ?_)
  refine lv_iconst (v := 0) C.x C.b md_M_first_2 (by decide) ?_
  refine lv_istore_n (lv' := [(3, .int 0), (2, .int (-1)), (0, .ref mo), (1, .int s0)]) C.x C.b md_M_first_3 rfl hl (by decide) rfl (fun ls hl => ?_)
  exact loop R.length 0 none ls (by omega) rfl (lv_sub hl [0, 1, 2, 3] rfl)
set_option maxRecDepth 100000 in
set_option maxHeartbeats 4000000 in
theorem k_M_earliestDue (l : Launch) (D : va_G) (k5 : mf_k5) (t0 : Nat × Nat) (A : Nat → Prop) (H : Heap) (mo : Nat) (aa : Nat → Nat) (cd ck sp mt : Int32) (R : List mf_T) (g : mf_G) (hM : mf_MD D k5 A H mo aa cd (R, ck, sp, mt, g)) : mf_cRO l my_M_earliestDue mc_M_earliestDue 3 (some .int) { frames := 1, cells := 0, slots := 0, locals := 21 } D (mf_tys k5) t0 A H [.ref mo] (some (.int (mf_ix (rf_dueAt g.2.1 R)))) := by
  obtain ⟨f0, f1, f2, f3, f4, f5, f6, f7, f8, f9, f10, hP, hD, hle, hRF, hRG⟩ := id hM
  have hP : va_P D mf_cl [(mo, .inr (4, [.int cd, .int (nI R.length), .int ck, .ref (aa 0), .ref (aa 1), .ref (aa 2), .ref (aa 3), .ref (aa 4), .ref (aa 5), .ref (aa 6), .int (nI g.1), .ref (aa 7), .ref (aa 8), .ref (aa 9), .ref (aa 10), .int g.2.1, .long g.2.2.2.1, .int g.2.2.1, .int sp, .int mt])), (aa 0, .inl (k5.2.2.1, 40, .inl f0)), (aa 1, .inl (k5.2.2.1, 40, .inl f1)), (aa 2, .inl (k5.2.2.1, 40, .inl f2)), (aa 3, .inl (k5.2.2.1, 40, .inl f3)), (aa 4, .inl (k5.2.2.1, 40, .inl f4)), (aa 5, .inl (k5.2.2.1, 40, .inl f5)), (aa 6, .inl (k5.2.2.2.1, 40, .inl f6)), (aa 7, .inl (k5.2.2.1, 32, .inl f7)), (aa 8, .inl (k5.2.2.1, 32, .inl f8)), (aa 9, .inl (k5.2.2.1, 32, .inl f9)), (aa 10, .inl (k5.2.2.1, 32, .inl f10))] H := hP
  have hle : R.length ≤ 40 := hle
  refine mf_of (by decide) (Nat.le_of_ble_eq_true rfl) ?_
  intro p e s m below meth c ls C hH hr hlk hnm hmt hl hS
  have hl : lv_has ls 3 [(0, .ref mo)] := hl
  have loop : ∀ (n k : Nat) (r : Option (Nat × mf_T)) (ls : Array Slot), k + n = R.length → mf_pick (fun x => rf_isDue g.2.1 x.1) (fun a b => decide (a.2 < b.2)) (R.take k) = r → lv_has ls 3 [(2, .int (nI k)), (1, .int (mf_ix r)), (0, .ref mo)] → W p l e ({ frames := 1, cells := 0, slots := 0, locals := 21 } : Room) s m (([.ref mo] : List Value).toArray) below meth c H [] 0 0 (MQ below (mf_K (some (.int (mf_ix (rf_dueAt g.2.1 R))))) (([.ref mo] : List Value).toArray) s 0 0 (fun _ => False)) (F0 m 4 ls []) := by
    intro n
    induction n with
    | zero =>
      intro k r ls hk i0 hl
      obtain rfl : k = R.length := by omega
      refine lv_iload_n C.x C.b md_M_earliestDue_4 rfl (lv_at hl 0 rfl) ?_
      refine lv_aload_n C.x C.b md_M_earliestDue_5 rfl (lv_at hl 2 rfl) ?_
      refine mf_gf C (ci := 4) (N := 20) rfl mi_M 1 (by decide) mt_536 (hP 0 _ rfl) (v := .int (nI R.length)) rfl md_M_earliestDue_6 ?_
      refine lv_icmp_ge (tgt := 51) C.x C.b md_M_earliestDue_9 (by decide) (fun h1 => ?_) (fun h1 => ?_)
      · skip
        refine lv_iload_n C.x C.b md_M_earliestDue_51 rfl (lv_at hl 1 rfl) ?_
        rw [show rf_dueAt g.2.1 R = r from mf_pick_all i0]
        exact mf_ri C.x C.b hH hr hlk md_M_earliestDue_52
      · exact absurd (Int32.le_refl _) h1
    | succ n ih =>
      intro k r ls hk i0 hl
      have hkk : k < R.length := by omega
      obtain ⟨x, hq⟩ := mf_at_lt hkk
      have hu := hRF k x hq
      rcases r with _ | ⟨j, y⟩
      · have hl : lv_has ls 3 [(2, .int (nI k)), (1, .int (-1)), (0, .ref mo)] := hl
        refine lv_iload_n C.x C.b md_M_earliestDue_4 rfl (lv_at hl 0 rfl) ?_
        refine lv_aload_n C.x C.b md_M_earliestDue_5 rfl (lv_at hl 2 rfl) ?_
        refine mf_gf C (ci := 4) (N := 20) rfl mi_M 1 (by decide) mt_536 (hP 0 _ rfl) (v := .int (nI R.length)) rfl md_M_earliestDue_6 ?_
        refine lv_icmp_ge (tgt := 51) C.x C.b md_M_earliestDue_9 (by decide) (fun h2 => ?_) (fun h2 => ?_)
        · exact absurd h2 (nI_ge hkk (by omega))
        · skip
          refine lv_aload_n C.x C.b md_M_earliestDue_12 rfl (lv_at hl 2 rfl) ?_
          refine lv_iload_n C.x C.b md_M_earliestDue_13 rfl (lv_at hl 0 rfl) ?_
          refine mf_cks (va_runV (As := [.int (nI k)]) (rest := []) C.f (k_M_isDue l D k5 t0 A H mo aa cd ck sp mt R g k x hM hq) (mf_cV C mt_660 mt_657 mt_6 mt_659 ms_39 mh_M_isDue ⟨by decide, by decide⟩) (mf_preV C.ev hS (mf_rv C (ci := 4) (N := 20) rfl (hP 0 _ rfl))) rfl rfl hl.1 rfl (lv_room (Nat.le_of_ble_eq_true rfl)) md_M_earliestDue_14 ⟨by first | omega | exact Nat.le_of_ble_eq_true rfl, by first | omega | exact Nat.le_of_ble_eq_true rfl⟩) ?_
          refine lv_if_eq (tgt := 43) C.x C.b md_M_earliestDue_17 (by decide) (fun h3 => ?_) (fun h3 => ?_)
          · skip
            refine lv_iload_n C.x C.b md_M_earliestDue_43 rfl (lv_at hl 1 rfl) ?_
            refine lv_istore_n (lv' := [(1, .int (-1)), (2, .int (nI k)), (0, .ref mo)]) C.x C.b md_M_earliestDue_44 rfl hl (by decide) rfl (fun ls hl => ?_)
            refine lv_iinc (k := 1) (v := nI (k + 1)) (lv' := [(2, .int (nI (k + 1))), (1, .int (-1)), (0, .ref mo)]) C.x C.b md_M_earliestDue_45 hl rfl (nI_1 _) (by decide) rfl (fun ls hl => ?_)
            refine lv_goto (tgt := 4) C.x C.b md_M_earliestDue_48 (by decide) ?_
            exact ih (k + 1) none ls (by omega) (mf_step hq i0 (by first | (simp [mf_cmp, h2, Int32.not_le.mp h2, mf_bI_0.mp h3]; done) | (exfalso; simp_all; done))) (lv_sub hl [0, 1, 2] rfl)
          · skip
            refine lv_iload_n C.x C.b md_M_earliestDue_20 rfl (lv_at hl 1 rfl) ?_
            refine lv_if_lt (tgt := 39) C.x C.b md_M_earliestDue_21 (by decide) (fun h4 => ?_) (fun h4 => ?_)
            · skip
              refine lv_iload_n C.x C.b md_M_earliestDue_39 rfl (lv_at hl 0 rfl) ?_
              refine lv_goto (tgt := 44) C.x C.b md_M_earliestDue_40 (by decide) ?_
              refine lv_istore_n (lv' := [(1, .int (nI k)), (2, .int (nI k)), (0, .ref mo)]) C.x C.b md_M_earliestDue_44 rfl hl (by decide) rfl (fun ls hl => ?_)
              refine lv_iinc (k := 1) (v := nI (k + 1)) (lv' := [(2, .int (nI (k + 1))), (1, .int (nI k)), (0, .ref mo)]) C.x C.b md_M_earliestDue_45 hl rfl (nI_1 _) (by decide) rfl (fun ls hl => ?_)
              refine lv_goto (tgt := 4) C.x C.b md_M_earliestDue_48 (by decide) ?_
              exact ih (k + 1) (some (k, x)) ls (by omega) (mf_step hq i0 (by first | (simp [mf_cmp, h2, Int32.not_le.mp h2, mf_bI_1.mp h3, h4, Int32.not_le.mpr h4]; done) | (exfalso; simp_all; done))) (lv_sub hl [0, 1, 2] rfl)
            · exact absurd (by decide) h4
      · have hl : lv_has ls 3 [(2, .int (nI k)), (1, .int (nI j)), (0, .ref mo)] := hl
        have hj : j < k := mf_pick_lt i0
        have hqj : R[j]? = some y := mf_pick_at i0
        have huj := hRF j y hqj
        refine lv_iload_n C.x C.b md_M_earliestDue_4 rfl (lv_at hl 0 rfl) ?_
        refine lv_aload_n C.x C.b md_M_earliestDue_5 rfl (lv_at hl 2 rfl) ?_
        refine mf_gf C (ci := 4) (N := 20) rfl mi_M 1 (by decide) mt_536 (hP 0 _ rfl) (v := .int (nI R.length)) rfl md_M_earliestDue_6 ?_
        refine lv_icmp_ge (tgt := 51) C.x C.b md_M_earliestDue_9 (by decide) (fun h5 => ?_) (fun h5 => ?_)
        · exact absurd h5 (nI_ge hkk (by omega))
        · skip
          refine lv_aload_n C.x C.b md_M_earliestDue_12 rfl (lv_at hl 2 rfl) ?_
          refine lv_iload_n C.x C.b md_M_earliestDue_13 rfl (lv_at hl 0 rfl) ?_
          refine mf_cks (va_runV (As := [.int (nI k)]) (rest := []) C.f (k_M_isDue l D k5 t0 A H mo aa cd ck sp mt R g k x hM hq) (mf_cV C mt_660 mt_657 mt_6 mt_659 ms_39 mh_M_isDue ⟨by decide, by decide⟩) (mf_preV C.ev hS (mf_rv C (ci := 4) (N := 20) rfl (hP 0 _ rfl))) rfl rfl hl.1 rfl (lv_room (Nat.le_of_ble_eq_true rfl)) md_M_earliestDue_14 ⟨by first | omega | exact Nat.le_of_ble_eq_true rfl, by first | omega | exact Nat.le_of_ble_eq_true rfl⟩) ?_
          refine lv_if_eq (tgt := 43) C.x C.b md_M_earliestDue_17 (by decide) (fun h6 => ?_) (fun h6 => ?_)
          · skip
            refine lv_iload_n C.x C.b md_M_earliestDue_43 rfl (lv_at hl 1 rfl) ?_
            refine lv_istore_n (lv' := [(1, .int (nI j)), (2, .int (nI k)), (0, .ref mo)]) C.x C.b md_M_earliestDue_44 rfl hl (by decide) rfl (fun ls hl => ?_)
            refine lv_iinc (k := 1) (v := nI (k + 1)) (lv' := [(2, .int (nI (k + 1))), (1, .int (nI j)), (0, .ref mo)]) C.x C.b md_M_earliestDue_45 hl rfl (nI_1 _) (by decide) rfl (fun ls hl => ?_)
            refine lv_goto (tgt := 4) C.x C.b md_M_earliestDue_48 (by decide) ?_
            exact ih (k + 1) (some (j, y)) ls (by omega) (mf_step hq i0 (by first | (simp [mf_cmp, h5, Int32.not_le.mp h5, mf_bI_0.mp h6]; done) | (exfalso; simp_all; done))) (lv_sub hl [0, 1, 2] rfl)
          · skip
            refine lv_iload_n C.x C.b md_M_earliestDue_20 rfl (lv_at hl 1 rfl) ?_
            refine lv_if_lt (tgt := 39) C.x C.b md_M_earliestDue_21 (by decide) (fun h7 => ?_) (fun h7 => ?_)
            · exact absurd h7 (nI_pos (by omega))
            · skip
              refine lv_aload_n C.x C.b md_M_earliestDue_24 rfl (lv_at hl 2 rfl) ?_
              refine mf_gf C (ci := 4) (N := 20) rfl mi_M 8 (by decide) mt_543 (hP 0 _ rfl) (v := .ref (aa 5)) rfl md_M_earliestDue_25 ?_
              refine lv_iload_n C.x C.b md_M_earliestDue_28 rfl (lv_at hl 0 rfl) ?_
              refine mf_iv C (t := 2) rfl (hP 6 _ rfl) (by omega) (by decide) hu.2.2.2.2.2.1 md_M_earliestDue_29 ?_
              refine lv_aload_n C.x C.b md_M_earliestDue_30 rfl (lv_at hl 2 rfl) ?_
              refine mf_gf C (ci := 4) (N := 20) rfl mi_M 8 (by decide) mt_543 (hP 0 _ rfl) (v := .ref (aa 5)) rfl md_M_earliestDue_31 ?_
              refine lv_iload_n C.x C.b md_M_earliestDue_34 rfl (lv_at hl 1 rfl) ?_
              refine mf_iv C (t := 2) rfl (hP 6 _ rfl) (by omega) (by decide) huj.2.2.2.2.2.1 md_M_earliestDue_35 ?_
              refine lv_icmp_ge (tgt := 43) C.x C.b md_M_earliestDue_36 (by decide) (fun h8 => ?_) (fun h8 => ?_)
              · skip
                refine lv_iload_n C.x C.b md_M_earliestDue_43 rfl (lv_at hl 1 rfl) ?_
                refine lv_istore_n (lv' := [(1, .int (nI j)), (2, .int (nI k)), (0, .ref mo)]) C.x C.b md_M_earliestDue_44 rfl hl (by decide) rfl (fun ls hl => ?_)
                refine lv_iinc (k := 1) (v := nI (k + 1)) (lv' := [(2, .int (nI (k + 1))), (1, .int (nI j)), (0, .ref mo)]) C.x C.b md_M_earliestDue_45 hl rfl (nI_1 _) (by decide) rfl (fun ls hl => ?_)
                refine lv_goto (tgt := 4) C.x C.b md_M_earliestDue_48 (by decide) ?_
                exact ih (k + 1) (some (j, y)) ls (by omega) (mf_step hq i0 (by first | (simp [mf_cmp, h5, Int32.not_le.mp h5, mf_bI_1.mp h6, h7, Int32.not_lt.mp h7, h8, Int32.not_lt.mpr h8]; done) | (exfalso; simp_all; done))) (lv_sub hl [0, 1, 2] rfl)
              · skip
                refine lv_iload_n C.x C.b md_M_earliestDue_39 rfl (lv_at hl 0 rfl) ?_
                refine lv_goto (tgt := 44) C.x C.b md_M_earliestDue_40 (by decide) ?_
                refine lv_istore_n (lv' := [(1, .int (nI k)), (2, .int (nI k)), (0, .ref mo)]) C.x C.b md_M_earliestDue_44 rfl hl (by decide) rfl (fun ls hl => ?_)
                refine lv_iinc (k := 1) (v := nI (k + 1)) (lv' := [(2, .int (nI (k + 1))), (1, .int (nI k)), (0, .ref mo)]) C.x C.b md_M_earliestDue_45 hl rfl (nI_1 _) (by decide) rfl (fun ls hl => ?_)
                refine lv_goto (tgt := 4) C.x C.b md_M_earliestDue_48 (by decide) ?_
                exact ih (k + 1) (some (k, x)) ls (by omega) (mf_step hq i0 (by first | (simp [mf_cmp, h5, Int32.not_le.mp h5, mf_bI_1.mp h6, h7, Int32.not_lt.mp h7, h8, Int32.not_le.mp h8]; done) | (exfalso; simp_all; done))) (lv_sub hl [0, 1, 2] rfl)
  refine lv_iconst (v := (-1)) C.x C.b md_M_earliestDue_0 (by decide) ?_
  refine lv_istore_n (lv' := [(1, .int (-1)), (0, .ref mo)]) C.x C.b md_M_earliestDue_1 rfl hl (by decide) rfl (fun ls hl => ?_)
  refine lv_iconst (v := 0) C.x C.b md_M_earliestDue_2 (by decide) ?_
  refine lv_istore_n (lv' := [(2, .int 0), (1, .int (-1)), (0, .ref mo)]) C.x C.b md_M_earliestDue_3 rfl hl (by decide) rfl (fun ls hl => ?_)
  exact loop R.length 0 none ls (by omega) rfl (lv_sub hl [0, 1, 2] rfl)
set_option maxRecDepth 100000 in
set_option maxHeartbeats 4000000 in
theorem k_M_within (l : Launch) (D : va_G) (k5 : mf_k5) (t0 : Nat × Nat) (A : Nat → Prop) (H : Heap) (mo : Nat) (aa : Nat → Nat) (cd ck sp mt : Int32) (R : List mf_T) (g : mf_G) (o0 s0 p0 : Int32) (hM : mf_MD D k5 A H mo aa cd (R, ck, sp, mt, g)) : mf_cRO l my_M_within mc_M_within 7 (some .int) { frames := 1, cells := 0, slots := 0, locals := 23 } D (mf_tys k5) t0 A H [.ref mo, .int o0, .int s0, .int p0] (some (.int (rf_within o0 s0 p0 R))) := by
  obtain ⟨f0, f1, f2, f3, f4, f5, f6, f7, f8, f9, f10, hP, hD, hle, hRF, hRG⟩ := id hM
  have hP : va_P D mf_cl [(mo, .inr (4, [.int cd, .int (nI R.length), .int ck, .ref (aa 0), .ref (aa 1), .ref (aa 2), .ref (aa 3), .ref (aa 4), .ref (aa 5), .ref (aa 6), .int (nI g.1), .ref (aa 7), .ref (aa 8), .ref (aa 9), .ref (aa 10), .int g.2.1, .long g.2.2.2.1, .int g.2.2.1, .int sp, .int mt])), (aa 0, .inl (k5.2.2.1, 40, .inl f0)), (aa 1, .inl (k5.2.2.1, 40, .inl f1)), (aa 2, .inl (k5.2.2.1, 40, .inl f2)), (aa 3, .inl (k5.2.2.1, 40, .inl f3)), (aa 4, .inl (k5.2.2.1, 40, .inl f4)), (aa 5, .inl (k5.2.2.1, 40, .inl f5)), (aa 6, .inl (k5.2.2.2.1, 40, .inl f6)), (aa 7, .inl (k5.2.2.1, 32, .inl f7)), (aa 8, .inl (k5.2.2.1, 32, .inl f8)), (aa 9, .inl (k5.2.2.1, 32, .inl f9)), (aa 10, .inl (k5.2.2.1, 32, .inl f10))] H := hP
  have hle : R.length ≤ 40 := hle
  refine mf_of (by decide) (Nat.le_of_ble_eq_true rfl) ?_
  intro p e s m below meth c ls C hH hr hlk hnm hmt hl hS
  have hl : lv_has ls 7 [(0, .ref mo), (1, .int o0), (2, .int s0), (3, .int p0)] := hl
  have loop : ∀ (n k : Nat) (r : Int32) (ls : Array Slot), k + n = R.length → mf_sum (fun x : mf_T => if decide (mf_wt x.1 = 0) && (!decide (mf_sd x.1 = s0) && (!decide (mf_ow x.1 = o0) && rf_fits s0 p0 x.1)) then mf_lf x.1 else 0) (R.take k) = r → lv_has ls 7 [(5, .int (nI k)), (4, .int r), (0, .ref mo), (1, .int o0), (2, .int s0), (3, .int p0)] → W p l e ({ frames := 1, cells := 0, slots := 0, locals := 23 } : Room) s m (([.ref mo, .int o0, .int s0, .int p0] : List Value).toArray) below meth c H [] 0 0 (MQ below (mf_K (some (.int (rf_within o0 s0 p0 R)))) (([.ref mo, .int o0, .int s0, .int p0] : List Value).toArray) s 0 0 (fun _ => False)) (F0 m 6 ls []) := by
    intro n
    induction n with
    | zero =>
      intro k r ls hk i0 hl
      obtain rfl : k = R.length := by omega
      refine lv_iload C.x C.b md_M_within_6 (lv_at hl 0 rfl) ?_
      refine lv_aload_n C.x C.b md_M_within_8 rfl (lv_at hl 2 rfl) ?_
      refine mf_gf C (ci := 4) (N := 20) rfl mi_M 1 (by decide) mt_536 (hP 0 _ rfl) (v := .int (nI R.length)) rfl md_M_within_9 ?_
      refine lv_icmp_ge (tgt := 92) C.x C.b md_M_within_12 (by decide) (fun h1 => ?_) (fun h1 => ?_)
      · skip
        refine lv_iload C.x C.b md_M_within_92 (lv_at hl 1 rfl) ?_
        rw [show rf_within o0 s0 p0 R = r by rw [← i0, List.take_length]; rfl]
        exact mf_ri C.x C.b hH hr hlk md_M_within_94
      · exact absurd (Int32.le_refl _) h1
    | succ n ih =>
      intro k r ls hk i0 hl
      have hkk : k < R.length := by omega
      obtain ⟨x, hq⟩ := mf_at_lt hkk
      have hu := hRF k x hq
      refine lv_iload C.x C.b md_M_within_6 (lv_at hl 0 rfl) ?_
      refine lv_aload_n C.x C.b md_M_within_8 rfl (lv_at hl 2 rfl) ?_
      refine mf_gf C (ci := 4) (N := 20) rfl mi_M 1 (by decide) mt_536 (hP 0 _ rfl) (v := .int (nI R.length)) rfl md_M_within_9 ?_
      refine lv_icmp_ge (tgt := 92) C.x C.b md_M_within_12 (by decide) (fun h2 => ?_) (fun h2 => ?_)
      · exact absurd h2 (nI_ge hkk (by omega))
      · skip
        refine lv_aload_n C.x C.b md_M_within_15 rfl (lv_at hl 2 rfl) ?_
        refine mf_gf C (ci := 4) (N := 20) rfl mi_M 9 (by decide) mt_544 (hP 0 _ rfl) (v := .ref (aa 6)) rfl md_M_within_16 ?_
        refine lv_iload C.x C.b md_M_within_19 (lv_at hl 0 rfl) ?_
        refine mf_zv C (t := 3) rfl (hP 7 _ rfl) (by omega) (by decide) hu.2.2.2.2.2.2.1 md_M_within_21 ?_
        refine lv_if_ne (tgt := 62) C.x C.b md_M_within_22 (by decide) (fun h3 => ?_) (fun h3 => ?_)
        · skip
          refine lv_iconst (v := 0) C.x C.b md_M_within_62 (by decide) ?_
          refine lv_istore (lv' := [(6, .int 0), (5, .int (nI k)), (4, .int r), (0, .ref mo), (1, .int o0), (2, .int s0), (3, .int p0)]) C.x C.b md_M_within_63 hl (by decide) rfl (fun ls hl => ?_)
          refine lv_iload C.x C.b md_M_within_65 (lv_at hl 2 rfl) ?_
          refine lv_iload C.x C.b md_M_within_67 (lv_at hl 0 rfl) ?_
          refine lv_if_eq (tgt := 82) C.x C.b md_M_within_69 (by decide) (fun h4 => ?_) (fun h4 => ?_)
          · skip
            refine lv_iconst (v := 0) C.x C.b md_M_within_82 (by decide) ?_
            refine lv_iadd C.x C.b md_M_within_83 ?_
            refine lv_istore (lv' := [(4, .int (r + 0)), (6, .int 0), (5, .int (nI k)), (0, .ref mo), (1, .int o0), (2, .int s0), (3, .int p0)]) C.x C.b md_M_within_84 hl (by decide) rfl (fun ls hl => ?_)
            refine lv_iinc (k := 2) (v := nI (k + 1)) (lv' := [(5, .int (nI (k + 1))), (4, .int (r + 0)), (6, .int 0), (0, .ref mo), (1, .int o0), (2, .int s0), (3, .int p0)]) C.x C.b md_M_within_86 hl rfl (nI_1 _) (by decide) rfl (fun ls hl => ?_)
            refine lv_goto (tgt := 6) C.x C.b md_M_within_89 (by decide) ?_
            exact ih (k + 1) (r + 0) ls (by omega) (mf_sstep hq i0 (by first | (simp [h2, Int32.not_le.mp h2, h3, h4]; done) | (exfalso; simp_all; done))) (lv_sub hl [0, 1, 3, 4, 5, 6] rfl)
          · exact absurd rfl h4
        · skip
          refine lv_aload_n C.x C.b md_M_within_25 rfl (lv_at hl 2 rfl) ?_
          refine mf_gf C (ci := 4) (N := 20) rfl mi_M 5 (by decide) mt_540 (hP 0 _ rfl) (v := .ref (aa 2)) rfl md_M_within_26 ?_
          refine lv_iload C.x C.b md_M_within_29 (lv_at hl 0 rfl) ?_
          refine mf_iv C (t := 2) rfl (hP 3 _ rfl) (by omega) (by decide) hu.2.2.1 md_M_within_31 ?_
          refine lv_iload_n C.x C.b md_M_within_32 rfl (lv_at hl 4 rfl) ?_
          refine lv_icmp_eq (tgt := 62) C.x C.b md_M_within_33 (by decide) (fun h5 => ?_) (fun h5 => ?_)
          · skip
            refine lv_iconst (v := 0) C.x C.b md_M_within_62 (by decide) ?_
            refine lv_istore (lv' := [(6, .int 0), (5, .int (nI k)), (4, .int r), (0, .ref mo), (1, .int o0), (2, .int s0), (3, .int p0)]) C.x C.b md_M_within_63 hl (by decide) rfl (fun ls hl => ?_)
            refine lv_iload C.x C.b md_M_within_65 (lv_at hl 2 rfl) ?_
            refine lv_iload C.x C.b md_M_within_67 (lv_at hl 0 rfl) ?_
            refine lv_if_eq (tgt := 82) C.x C.b md_M_within_69 (by decide) (fun h6 => ?_) (fun h6 => ?_)
            · skip
              refine lv_iconst (v := 0) C.x C.b md_M_within_82 (by decide) ?_
              refine lv_iadd C.x C.b md_M_within_83 ?_
              refine lv_istore (lv' := [(4, .int (r + 0)), (6, .int 0), (5, .int (nI k)), (0, .ref mo), (1, .int o0), (2, .int s0), (3, .int p0)]) C.x C.b md_M_within_84 hl (by decide) rfl (fun ls hl => ?_)
              refine lv_iinc (k := 2) (v := nI (k + 1)) (lv' := [(5, .int (nI (k + 1))), (4, .int (r + 0)), (6, .int 0), (0, .ref mo), (1, .int o0), (2, .int s0), (3, .int p0)]) C.x C.b md_M_within_86 hl rfl (nI_1 _) (by decide) rfl (fun ls hl => ?_)
              refine lv_goto (tgt := 6) C.x C.b md_M_within_89 (by decide) ?_
              exact ih (k + 1) (r + 0) ls (by omega) (mf_sstep hq i0 (by first | (simp [h2, Int32.not_le.mp h2, h3, h5, h6]; done) | (exfalso; simp_all; done))) (lv_sub hl [0, 1, 3, 4, 5, 6] rfl)
            · exact absurd rfl h6
          · skip
            refine lv_aload_n C.x C.b md_M_within_36 rfl (lv_at hl 2 rfl) ?_
            refine mf_gf C (ci := 4) (N := 20) rfl mi_M 4 (by decide) mt_539 (hP 0 _ rfl) (v := .ref (aa 1)) rfl md_M_within_37 ?_
            refine lv_iload C.x C.b md_M_within_40 (lv_at hl 0 rfl) ?_
            refine mf_iv C (t := 2) rfl (hP 2 _ rfl) (by omega) (by decide) hu.2.1 md_M_within_42 ?_
            refine lv_iload_n C.x C.b md_M_within_43 rfl (lv_at hl 3 rfl) ?_
            refine lv_icmp_eq (tgt := 62) C.x C.b md_M_within_44 (by decide) (fun h7 => ?_) (fun h7 => ?_)
            · skip
              refine lv_iconst (v := 0) C.x C.b md_M_within_62 (by decide) ?_
              refine lv_istore (lv' := [(6, .int 0), (5, .int (nI k)), (4, .int r), (0, .ref mo), (1, .int o0), (2, .int s0), (3, .int p0)]) C.x C.b md_M_within_63 hl (by decide) rfl (fun ls hl => ?_)
              refine lv_iload C.x C.b md_M_within_65 (lv_at hl 2 rfl) ?_
              refine lv_iload C.x C.b md_M_within_67 (lv_at hl 0 rfl) ?_
              refine lv_if_eq (tgt := 82) C.x C.b md_M_within_69 (by decide) (fun h8 => ?_) (fun h8 => ?_)
              · skip
                refine lv_iconst (v := 0) C.x C.b md_M_within_82 (by decide) ?_
                refine lv_iadd C.x C.b md_M_within_83 ?_
                refine lv_istore (lv' := [(4, .int (r + 0)), (6, .int 0), (5, .int (nI k)), (0, .ref mo), (1, .int o0), (2, .int s0), (3, .int p0)]) C.x C.b md_M_within_84 hl (by decide) rfl (fun ls hl => ?_)
                refine lv_iinc (k := 2) (v := nI (k + 1)) (lv' := [(5, .int (nI (k + 1))), (4, .int (r + 0)), (6, .int 0), (0, .ref mo), (1, .int o0), (2, .int s0), (3, .int p0)]) C.x C.b md_M_within_86 hl rfl (nI_1 _) (by decide) rfl (fun ls hl => ?_)
                refine lv_goto (tgt := 6) C.x C.b md_M_within_89 (by decide) ?_
                exact ih (k + 1) (r + 0) ls (by omega) (mf_sstep hq i0 (by first | (simp [h2, Int32.not_le.mp h2, h3, h5, h7, h8]; done) | (exfalso; simp_all; done))) (lv_sub hl [0, 1, 3, 4, 5, 6] rfl)
              · exact absurd rfl h8
            · skip
              refine lv_aload_n C.x C.b md_M_within_47 rfl (lv_at hl 2 rfl) ?_
              refine lv_iload_n C.x C.b md_M_within_48 rfl (lv_at hl 4 rfl) ?_
              refine lv_iload_n C.x C.b md_M_within_49 rfl (lv_at hl 5 rfl) ?_
              refine lv_iload C.x C.b md_M_within_50 (lv_at hl 0 rfl) ?_
              refine mf_cks (va_runV (As := [.int s0, .int p0, .int (nI k)]) (rest := []) C.f (k_M_fits l D k5 t0 A H mo aa cd ck sp mt R g s0 p0 k x hM hq) (mf_cV C mt_624 mt_621 mt_6 mt_623 ms_30 mh_M_fits ⟨by decide, by decide⟩) (mf_preV C.ev hS (mf_rv C (ci := 4) (N := 20) rfl (hP 0 _ rfl))) rfl rfl hl.1 rfl (lv_room (Nat.le_of_ble_eq_true rfl)) md_M_within_52 ⟨by first | omega | exact Nat.le_of_ble_eq_true rfl, by first | omega | exact Nat.le_of_ble_eq_true rfl⟩) ?_
              refine lv_if_eq (tgt := 62) C.x C.b md_M_within_55 (by decide) (fun h9 => ?_) (fun h9 => ?_)
              · skip
                refine lv_iconst (v := 0) C.x C.b md_M_within_62 (by decide) ?_
                refine lv_istore (lv' := [(6, .int 0), (5, .int (nI k)), (4, .int r), (0, .ref mo), (1, .int o0), (2, .int s0), (3, .int p0)]) C.x C.b md_M_within_63 hl (by decide) rfl (fun ls hl => ?_)
                refine lv_iload C.x C.b md_M_within_65 (lv_at hl 2 rfl) ?_
                refine lv_iload C.x C.b md_M_within_67 (lv_at hl 0 rfl) ?_
                refine lv_if_eq (tgt := 82) C.x C.b md_M_within_69 (by decide) (fun h10 => ?_) (fun h10 => ?_)
                · skip
                  refine lv_iconst (v := 0) C.x C.b md_M_within_82 (by decide) ?_
                  refine lv_iadd C.x C.b md_M_within_83 ?_
                  refine lv_istore (lv' := [(4, .int (r + 0)), (6, .int 0), (5, .int (nI k)), (0, .ref mo), (1, .int o0), (2, .int s0), (3, .int p0)]) C.x C.b md_M_within_84 hl (by decide) rfl (fun ls hl => ?_)
                  refine lv_iinc (k := 2) (v := nI (k + 1)) (lv' := [(5, .int (nI (k + 1))), (4, .int (r + 0)), (6, .int 0), (0, .ref mo), (1, .int o0), (2, .int s0), (3, .int p0)]) C.x C.b md_M_within_86 hl rfl (nI_1 _) (by decide) rfl (fun ls hl => ?_)
                  refine lv_goto (tgt := 6) C.x C.b md_M_within_89 (by decide) ?_
                  exact ih (k + 1) (r + 0) ls (by omega) (mf_sstep hq i0 (by first | (simp [h2, Int32.not_le.mp h2, h3, h5, h7, mf_bI_0.mp h9, h10]; done) | (exfalso; simp_all; done))) (lv_sub hl [0, 1, 3, 4, 5, 6] rfl)
                · exact absurd rfl h10
              · skip
                refine lv_iconst (v := 1) C.x C.b md_M_within_58 (by decide) ?_
                refine lv_goto (tgt := 63) C.x C.b md_M_within_59 (by decide) ?_
                refine lv_istore (lv' := [(6, .int 1), (5, .int (nI k)), (4, .int r), (0, .ref mo), (1, .int o0), (2, .int s0), (3, .int p0)]) C.x C.b md_M_within_63 hl (by decide) rfl (fun ls hl => ?_)
                refine lv_iload C.x C.b md_M_within_65 (lv_at hl 2 rfl) ?_
                refine lv_iload C.x C.b md_M_within_67 (lv_at hl 0 rfl) ?_
                refine lv_if_eq (tgt := 82) C.x C.b md_M_within_69 (by decide) (fun h11 => ?_) (fun h11 => ?_)
                · exact absurd h11 (by decide)
                · skip
                  refine lv_aload_n C.x C.b md_M_within_72 rfl (lv_at hl 3 rfl) ?_
                  refine mf_gf C (ci := 4) (N := 20) rfl mi_M 7 (by decide) mt_542 (hP 0 _ rfl) (v := .ref (aa 4)) rfl md_M_within_73 ?_
                  refine lv_iload C.x C.b md_M_within_76 (lv_at hl 1 rfl) ?_
                  refine mf_iv C (t := 2) rfl (hP 5 _ rfl) (by omega) (by decide) hu.2.2.2.2.1 md_M_within_78 ?_
                  refine lv_goto (tgt := 83) C.x C.b md_M_within_79 (by decide) ?_
                  refine lv_iadd C.x C.b md_M_within_83 ?_
                  refine lv_istore (lv' := [(4, .int (r + (mf_lf x.1))), (6, .int 1), (5, .int (nI k)), (0, .ref mo), (1, .int o0), (2, .int s0), (3, .int p0)]) C.x C.b md_M_within_84 hl (by decide) rfl (fun ls hl => ?_)
                  refine lv_iinc (k := 2) (v := nI (k + 1)) (lv' := [(5, .int (nI (k + 1))), (4, .int (r + (mf_lf x.1))), (6, .int 1), (0, .ref mo), (1, .int o0), (2, .int s0), (3, .int p0)]) C.x C.b md_M_within_86 hl rfl (nI_1 _) (by decide) rfl (fun ls hl => ?_)
                  refine lv_goto (tgt := 6) C.x C.b md_M_within_89 (by decide) ?_
                  exact ih (k + 1) (r + (mf_lf x.1)) ls (by omega) (mf_sstep hq i0 (by first | (simp [h2, Int32.not_le.mp h2, h3, h5, h7, mf_bI_1.mp h9, h11]; done) | (exfalso; simp_all; done))) (lv_sub hl [0, 1, 3, 4, 5, 6] rfl)
  refine lv_iconst (v := 0) C.x C.b md_M_within_0 (by decide) ?_
  refine lv_istore (lv' := [(4, .int 0), (0, .ref mo), (1, .int o0), (2, .int s0), (3, .int p0)]) C.x C.b md_M_within_1 hl (by decide) rfl (fun ls hl => ?_)
  refine lv_iconst (v := 0) C.x C.b md_M_within_3 (by decide) ?_
  refine lv_istore (lv' := [(5, .int 0), (4, .int 0), (0, .ref mo), (1, .int o0), (2, .int s0), (3, .int p0)]) C.x C.b md_M_within_4 hl (by decide) rfl (fun ls hl => ?_)
  exact loop R.length 0 0 ls (by omega) rfl (lv_sub hl [0, 1, 2, 3, 4, 5] rfl)
set_option maxRecDepth 100000 in
set_option maxHeartbeats 4000000 in
theorem k_M_nextPrice (l : Launch) (D : va_G) (k5 : mf_k5) (t0 : Nat × Nat) (A : Nat → Prop) (H : Heap) (mo : Nat) (aa : Nat → Nat) (cd ck sp mt : Int32) (R : List mf_T) (g : mf_G) (s0 b0 : Int32) (hM : mf_MD D k5 A H mo aa cd (R, ck, sp, mt, g)) (hpr : ∀ x ∈ R, mf_pr x.1 ≠ 0) : mf_cRO l my_M_nextPrice mc_M_nextPrice 6 (some .int) { frames := 0, cells := 0, slots := 0, locals := 0 } D (mf_tys k5) t0 A H [.ref mo, .int s0, .int b0] (some (.int (mf_prOf (fun x : mf_T => x.1) (mf_pick (fun x : mf_T => mf_behind s0 b0 x.1) (fun x y => mf_lt s0 x.1 y.1) R)))) := by
  obtain ⟨f0, f1, f2, f3, f4, f5, f6, f7, f8, f9, f10, hP, hD, hle, hRF, hRG⟩ := id hM
  have hP : va_P D mf_cl [(mo, .inr (4, [.int cd, .int (nI R.length), .int ck, .ref (aa 0), .ref (aa 1), .ref (aa 2), .ref (aa 3), .ref (aa 4), .ref (aa 5), .ref (aa 6), .int (nI g.1), .ref (aa 7), .ref (aa 8), .ref (aa 9), .ref (aa 10), .int g.2.1, .long g.2.2.2.1, .int g.2.2.1, .int sp, .int mt])), (aa 0, .inl (k5.2.2.1, 40, .inl f0)), (aa 1, .inl (k5.2.2.1, 40, .inl f1)), (aa 2, .inl (k5.2.2.1, 40, .inl f2)), (aa 3, .inl (k5.2.2.1, 40, .inl f3)), (aa 4, .inl (k5.2.2.1, 40, .inl f4)), (aa 5, .inl (k5.2.2.1, 40, .inl f5)), (aa 6, .inl (k5.2.2.2.1, 40, .inl f6)), (aa 7, .inl (k5.2.2.1, 32, .inl f7)), (aa 8, .inl (k5.2.2.1, 32, .inl f8)), (aa 9, .inl (k5.2.2.1, 32, .inl f9)), (aa 10, .inl (k5.2.2.1, 32, .inl f10))] H := hP
  have hle : R.length ≤ 40 := hle
  refine mf_of (by decide) (Nat.le_of_ble_eq_true rfl) ?_
  intro p e s m below meth c ls C hH hr hlk hnm hmt hl hS
  have hl : lv_has ls 6 [(0, .ref mo), (1, .int s0), (2, .int b0)] := hl
  have loop : ∀ (n k : Nat) (r : Option (Nat × mf_T)) (ls : Array Slot), k + n = R.length → mf_pick (fun x : mf_T => mf_behind s0 b0 x.1) (fun x y => mf_lt s0 x.1 y.1) (R.take k) = r → lv_has ls 6 [(4, .int (nI k)), (3, .int (mf_prOf (fun x : mf_T => x.1) r)), (0, .ref mo), (1, .int s0), (2, .int b0)] → W p l e ({ frames := 0, cells := 0, slots := 0, locals := 0 } : Room) s m (([.ref mo, .int s0, .int b0] : List Value).toArray) below meth c H [] 0 0 (MQ below (mf_K (some (.int (mf_prOf (fun x : mf_T => x.1) (mf_pick (fun x : mf_T => mf_behind s0 b0 x.1) (fun x y => mf_lt s0 x.1 y.1) R))))) (([.ref mo, .int s0, .int b0] : List Value).toArray) s 0 0 (fun _ => False)) (F0 m 5 ls []) := by
    intro n
    induction n with
    | zero =>
      intro k r ls hk i0 hl
      obtain rfl : k = R.length := by omega
      refine lv_iload C.x C.b md_M_nextPrice_5 (lv_at hl 0 rfl) ?_
      refine lv_aload_n C.x C.b md_M_nextPrice_7 rfl (lv_at hl 2 rfl) ?_
      refine mf_gf C (ci := 4) (N := 20) rfl mi_M 1 (by decide) mt_536 (hP 0 _ rfl) (v := .int (nI R.length)) rfl md_M_nextPrice_8 ?_
      refine lv_icmp_ge (tgt := 131) C.x C.b md_M_nextPrice_11 (by decide) (fun h1 => ?_) (fun h1 => ?_)
      · skip
        refine lv_iload_n C.x C.b md_M_nextPrice_131 rfl (lv_at hl 1 rfl) ?_
        rw [show mf_pick (fun x : mf_T => mf_behind s0 b0 x.1) (fun x y => mf_lt s0 x.1 y.1) R = r from mf_pick_all i0]
        exact mf_ri C.x C.b hH hr hlk md_M_nextPrice_132
      · exact absurd (Int32.le_refl _) h1
    | succ n ih =>
      intro k r ls hk i0 hl
      have hkk : k < R.length := by omega
      obtain ⟨x, hq⟩ := mf_at_lt hkk
      have hu := hRF k x hq
      rcases r with _ | ⟨j, y⟩
      · have hl : lv_has ls 6 [(4, .int (nI k)), (3, .int 0), (0, .ref mo), (1, .int s0), (2, .int b0)] := hl
        refine lv_iload C.x C.b md_M_nextPrice_5 (lv_at hl 0 rfl) ?_
        refine lv_aload_n C.x C.b md_M_nextPrice_7 rfl (lv_at hl 2 rfl) ?_
        refine mf_gf C (ci := 4) (N := 20) rfl mi_M 1 (by decide) mt_536 (hP 0 _ rfl) (v := .int (nI R.length)) rfl md_M_nextPrice_8 ?_
        refine lv_icmp_ge (tgt := 131) C.x C.b md_M_nextPrice_11 (by decide) (fun h2 => ?_) (fun h2 => ?_)
        · exact absurd h2 (nI_ge hkk (by omega))
        · skip
          refine lv_aload_n C.x C.b md_M_nextPrice_14 rfl (lv_at hl 2 rfl) ?_
          refine mf_gf C (ci := 4) (N := 20) rfl mi_M 9 (by decide) mt_544 (hP 0 _ rfl) (v := .ref (aa 6)) rfl md_M_nextPrice_15 ?_
          refine lv_iload C.x C.b md_M_nextPrice_18 (lv_at hl 0 rfl) ?_
          refine mf_zv C (t := 3) rfl (hP 7 _ rfl) (by omega) (by decide) hu.2.2.2.2.2.2.1 md_M_nextPrice_20 ?_
          refine lv_if_ne (tgt := 72) C.x C.b md_M_nextPrice_21 (by decide) (fun h3 => ?_) (fun h3 => ?_)
          · skip
            refine lv_iconst (v := 0) C.x C.b md_M_nextPrice_72 (by decide) ?_
            refine lv_istore (lv' := [(5, .int 0), (4, .int (nI k)), (3, .int 0), (0, .ref mo), (1, .int s0), (2, .int b0)]) C.x C.b md_M_nextPrice_73 hl (by decide) rfl (fun ls hl => ?_)
            refine lv_iload C.x C.b md_M_nextPrice_75 (lv_at hl 0 rfl) ?_
            refine lv_if_eq (tgt := 123) C.x C.b md_M_nextPrice_77 (by decide) (fun h4 => ?_) (fun h4 => ?_)
            · skip
              refine lv_iload_n C.x C.b md_M_nextPrice_123 rfl (lv_at hl 2 rfl) ?_
              refine lv_istore_n (lv' := [(3, .int 0), (5, .int 0), (4, .int (nI k)), (0, .ref mo), (1, .int s0), (2, .int b0)]) C.x C.b md_M_nextPrice_124 rfl hl (by decide) rfl (fun ls hl => ?_)
              refine lv_iinc (k := 2) (v := nI (k + 1)) (lv' := [(4, .int (nI (k + 1))), (3, .int 0), (5, .int 0), (0, .ref mo), (1, .int s0), (2, .int b0)]) C.x C.b md_M_nextPrice_125 hl rfl (nI_1 _) (by decide) rfl (fun ls hl => ?_)
              refine lv_goto (tgt := 5) C.x C.b md_M_nextPrice_128 (by decide) ?_
              exact ih (k + 1) none ls (by omega) (mf_step hq i0 (by first | (simp [mf_cmp, mf_behind, mf_lt, mf_rests, mf_better, h2, Int32.not_le.mp h2, h3, h4]; done) | (exfalso; simp_all; done))) (lv_sub hl [0, 1, 3, 4, 5] rfl)
            · exact absurd rfl h4
          · skip
            refine lv_aload_n C.x C.b md_M_nextPrice_24 rfl (lv_at hl 2 rfl) ?_
            refine mf_gf C (ci := 4) (N := 20) rfl mi_M 5 (by decide) mt_540 (hP 0 _ rfl) (v := .ref (aa 2)) rfl md_M_nextPrice_25 ?_
            refine lv_iload C.x C.b md_M_nextPrice_28 (lv_at hl 0 rfl) ?_
            refine mf_iv C (t := 2) rfl (hP 3 _ rfl) (by omega) (by decide) hu.2.2.1 md_M_nextPrice_30 ?_
            refine lv_iload_n C.x C.b md_M_nextPrice_31 rfl (lv_at hl 3 rfl) ?_
            refine lv_icmp_ne (tgt := 72) C.x C.b md_M_nextPrice_32 (by decide) (fun h5 => ?_) (fun h5 => ?_)
            · skip
              refine lv_iconst (v := 0) C.x C.b md_M_nextPrice_72 (by decide) ?_
              refine lv_istore (lv' := [(5, .int 0), (4, .int (nI k)), (3, .int 0), (0, .ref mo), (1, .int s0), (2, .int b0)]) C.x C.b md_M_nextPrice_73 hl (by decide) rfl (fun ls hl => ?_)
              refine lv_iload C.x C.b md_M_nextPrice_75 (lv_at hl 0 rfl) ?_
              refine lv_if_eq (tgt := 123) C.x C.b md_M_nextPrice_77 (by decide) (fun h6 => ?_) (fun h6 => ?_)
              · skip
                refine lv_iload_n C.x C.b md_M_nextPrice_123 rfl (lv_at hl 2 rfl) ?_
                refine lv_istore_n (lv' := [(3, .int 0), (5, .int 0), (4, .int (nI k)), (0, .ref mo), (1, .int s0), (2, .int b0)]) C.x C.b md_M_nextPrice_124 rfl hl (by decide) rfl (fun ls hl => ?_)
                refine lv_iinc (k := 2) (v := nI (k + 1)) (lv' := [(4, .int (nI (k + 1))), (3, .int 0), (5, .int 0), (0, .ref mo), (1, .int s0), (2, .int b0)]) C.x C.b md_M_nextPrice_125 hl rfl (nI_1 _) (by decide) rfl (fun ls hl => ?_)
                refine lv_goto (tgt := 5) C.x C.b md_M_nextPrice_128 (by decide) ?_
                exact ih (k + 1) none ls (by omega) (mf_step hq i0 (by first | (simp [mf_cmp, mf_behind, mf_lt, mf_rests, mf_better, h2, Int32.not_le.mp h2, h3, h5, h6]; done) | (exfalso; simp_all; done))) (lv_sub hl [0, 1, 3, 4, 5] rfl)
              · exact absurd rfl h6
            · skip
              refine lv_iload_n C.x C.b md_M_nextPrice_35 rfl (lv_at hl 4 rfl) ?_
              refine lv_if_eq (tgt := 68) C.x C.b md_M_nextPrice_36 (by decide) (fun h7 => ?_) (fun h7 => ?_)
              · skip
                refine lv_iconst (v := 1) C.x C.b md_M_nextPrice_68 (by decide) ?_
                refine lv_goto (tgt := 73) C.x C.b md_M_nextPrice_69 (by decide) ?_
                refine lv_istore (lv' := [(5, .int 1), (4, .int (nI k)), (3, .int 0), (0, .ref mo), (1, .int s0), (2, .int b0)]) C.x C.b md_M_nextPrice_73 hl (by decide) rfl (fun ls hl => ?_)
                refine lv_iload C.x C.b md_M_nextPrice_75 (lv_at hl 0 rfl) ?_
                refine lv_if_eq (tgt := 123) C.x C.b md_M_nextPrice_77 (by decide) (fun h8 => ?_) (fun h8 => ?_)
                · exact absurd h8 (by decide)
                · skip
                  refine lv_iload_n C.x C.b md_M_nextPrice_80 rfl (lv_at hl 2 rfl) ?_
                  refine lv_if_eq (tgt := 113) C.x C.b md_M_nextPrice_81 (by decide) (fun h9 => ?_) (fun h9 => ?_)
                  · skip
                    refine lv_aload_n C.x C.b md_M_nextPrice_113 rfl (lv_at hl 3 rfl) ?_
                    refine mf_gf C (ci := 4) (N := 20) rfl mi_M 6 (by decide) mt_541 (hP 0 _ rfl) (v := .ref (aa 3)) rfl md_M_nextPrice_114 ?_
                    refine lv_iload C.x C.b md_M_nextPrice_117 (lv_at hl 1 rfl) ?_
                    refine mf_iv C (t := 2) rfl (hP 4 _ rfl) (by omega) (by decide) hu.2.2.2.1 md_M_nextPrice_119 ?_
                    refine lv_goto (tgt := 124) C.x C.b md_M_nextPrice_120 (by decide) ?_
                    refine lv_istore_n (lv' := [(3, .int (mf_pr x.1)), (5, .int 1), (4, .int (nI k)), (0, .ref mo), (1, .int s0), (2, .int b0)]) C.x C.b md_M_nextPrice_124 rfl hl (by decide) rfl (fun ls hl => ?_)
                    refine lv_iinc (k := 2) (v := nI (k + 1)) (lv' := [(4, .int (nI (k + 1))), (3, .int (mf_pr x.1)), (5, .int 1), (0, .ref mo), (1, .int s0), (2, .int b0)]) C.x C.b md_M_nextPrice_125 hl rfl (nI_1 _) (by decide) rfl (fun ls hl => ?_)
                    refine lv_goto (tgt := 5) C.x C.b md_M_nextPrice_128 (by decide) ?_
                    exact ih (k + 1) (some (k, x)) ls (by omega) (mf_step hq i0 (by first | (simp [mf_cmp, mf_behind, mf_lt, mf_rests, mf_better, h2, Int32.not_le.mp h2, h3, h5, h7, h8, h9]; done) | (exfalso; simp_all; done))) (lv_sub hl [0, 1, 3, 4, 5] rfl)
                  · exact absurd rfl h9
              · skip
                refine lv_iload_n C.x C.b md_M_nextPrice_39 rfl (lv_at hl 3 rfl) ?_
                refine lv_if_ne (tgt := 57) C.x C.b md_M_nextPrice_40 (by decide) (fun h10 => ?_) (fun h10 => ?_)
                · skip
                  refine lv_aload_n C.x C.b md_M_nextPrice_57 rfl (lv_at hl 2 rfl) ?_
                  refine mf_gf C (ci := 4) (N := 20) rfl mi_M 6 (by decide) mt_541 (hP 0 _ rfl) (v := .ref (aa 3)) rfl md_M_nextPrice_58 ?_
                  refine lv_iload C.x C.b md_M_nextPrice_61 (lv_at hl 0 rfl) ?_
                  refine mf_iv C (t := 2) rfl (hP 4 _ rfl) (by omega) (by decide) hu.2.2.2.1 md_M_nextPrice_63 ?_
                  refine lv_iload_n C.x C.b md_M_nextPrice_64 rfl (lv_at hl 4 rfl) ?_
                  refine lv_icmp_le (tgt := 72) C.x C.b md_M_nextPrice_65 (by decide) (fun h11 => ?_) (fun h11 => ?_)
                  · skip
                    refine lv_iconst (v := 0) C.x C.b md_M_nextPrice_72 (by decide) ?_
                    refine lv_istore (lv' := [(5, .int 0), (4, .int (nI k)), (3, .int 0), (0, .ref mo), (1, .int s0), (2, .int b0)]) C.x C.b md_M_nextPrice_73 hl (by decide) rfl (fun ls hl => ?_)
                    refine lv_iload C.x C.b md_M_nextPrice_75 (lv_at hl 0 rfl) ?_
                    refine lv_if_eq (tgt := 123) C.x C.b md_M_nextPrice_77 (by decide) (fun h12 => ?_) (fun h12 => ?_)
                    · skip
                      refine lv_iload_n C.x C.b md_M_nextPrice_123 rfl (lv_at hl 2 rfl) ?_
                      refine lv_istore_n (lv' := [(3, .int 0), (5, .int 0), (4, .int (nI k)), (0, .ref mo), (1, .int s0), (2, .int b0)]) C.x C.b md_M_nextPrice_124 rfl hl (by decide) rfl (fun ls hl => ?_)
                      refine lv_iinc (k := 2) (v := nI (k + 1)) (lv' := [(4, .int (nI (k + 1))), (3, .int 0), (5, .int 0), (0, .ref mo), (1, .int s0), (2, .int b0)]) C.x C.b md_M_nextPrice_125 hl rfl (nI_1 _) (by decide) rfl (fun ls hl => ?_)
                      refine lv_goto (tgt := 5) C.x C.b md_M_nextPrice_128 (by decide) ?_
                      exact ih (k + 1) none ls (by omega) (mf_step hq i0 (by first | (simp [mf_cmp, mf_behind, mf_lt, mf_rests, mf_better, h2, Int32.not_le.mp h2, h3, h5, h7, h10, h11, Int32.not_lt.mpr h11, h12]; done) | (exfalso; simp_all; done))) (lv_sub hl [0, 1, 3, 4, 5] rfl)
                    · exact absurd rfl h12
                  · skip
                    refine lv_iconst (v := 1) C.x C.b md_M_nextPrice_68 (by decide) ?_
                    refine lv_goto (tgt := 73) C.x C.b md_M_nextPrice_69 (by decide) ?_
                    refine lv_istore (lv' := [(5, .int 1), (4, .int (nI k)), (3, .int 0), (0, .ref mo), (1, .int s0), (2, .int b0)]) C.x C.b md_M_nextPrice_73 hl (by decide) rfl (fun ls hl => ?_)
                    refine lv_iload C.x C.b md_M_nextPrice_75 (lv_at hl 0 rfl) ?_
                    refine lv_if_eq (tgt := 123) C.x C.b md_M_nextPrice_77 (by decide) (fun h13 => ?_) (fun h13 => ?_)
                    · exact absurd h13 (by decide)
                    · skip
                      refine lv_iload_n C.x C.b md_M_nextPrice_80 rfl (lv_at hl 2 rfl) ?_
                      refine lv_if_eq (tgt := 113) C.x C.b md_M_nextPrice_81 (by decide) (fun h14 => ?_) (fun h14 => ?_)
                      · skip
                        refine lv_aload_n C.x C.b md_M_nextPrice_113 rfl (lv_at hl 3 rfl) ?_
                        refine mf_gf C (ci := 4) (N := 20) rfl mi_M 6 (by decide) mt_541 (hP 0 _ rfl) (v := .ref (aa 3)) rfl md_M_nextPrice_114 ?_
                        refine lv_iload C.x C.b md_M_nextPrice_117 (lv_at hl 1 rfl) ?_
                        refine mf_iv C (t := 2) rfl (hP 4 _ rfl) (by omega) (by decide) hu.2.2.2.1 md_M_nextPrice_119 ?_
                        refine lv_goto (tgt := 124) C.x C.b md_M_nextPrice_120 (by decide) ?_
                        refine lv_istore_n (lv' := [(3, .int (mf_pr x.1)), (5, .int 1), (4, .int (nI k)), (0, .ref mo), (1, .int s0), (2, .int b0)]) C.x C.b md_M_nextPrice_124 rfl hl (by decide) rfl (fun ls hl => ?_)
                        refine lv_iinc (k := 2) (v := nI (k + 1)) (lv' := [(4, .int (nI (k + 1))), (3, .int (mf_pr x.1)), (5, .int 1), (0, .ref mo), (1, .int s0), (2, .int b0)]) C.x C.b md_M_nextPrice_125 hl rfl (nI_1 _) (by decide) rfl (fun ls hl => ?_)
                        refine lv_goto (tgt := 5) C.x C.b md_M_nextPrice_128 (by decide) ?_
                        exact ih (k + 1) (some (k, x)) ls (by omega) (mf_step hq i0 (by first | (simp [mf_cmp, mf_behind, mf_lt, mf_rests, mf_better, h2, Int32.not_le.mp h2, h3, h5, h7, h10, h11, Int32.not_le.mp h11, h13, h14]; done) | (exfalso; simp_all; done))) (lv_sub hl [0, 1, 3, 4, 5] rfl)
                      · exact absurd rfl h14
                · skip
                  refine lv_aload_n C.x C.b md_M_nextPrice_43 rfl (lv_at hl 2 rfl) ?_
                  refine mf_gf C (ci := 4) (N := 20) rfl mi_M 6 (by decide) mt_541 (hP 0 _ rfl) (v := .ref (aa 3)) rfl md_M_nextPrice_44 ?_
                  refine lv_iload C.x C.b md_M_nextPrice_47 (lv_at hl 0 rfl) ?_
                  refine mf_iv C (t := 2) rfl (hP 4 _ rfl) (by omega) (by decide) hu.2.2.2.1 md_M_nextPrice_49 ?_
                  refine lv_iload_n C.x C.b md_M_nextPrice_50 rfl (lv_at hl 4 rfl) ?_
                  refine lv_icmp_ge (tgt := 72) C.x C.b md_M_nextPrice_51 (by decide) (fun h15 => ?_) (fun h15 => ?_)
                  · skip
                    refine lv_iconst (v := 0) C.x C.b md_M_nextPrice_72 (by decide) ?_
                    refine lv_istore (lv' := [(5, .int 0), (4, .int (nI k)), (3, .int 0), (0, .ref mo), (1, .int s0), (2, .int b0)]) C.x C.b md_M_nextPrice_73 hl (by decide) rfl (fun ls hl => ?_)
                    refine lv_iload C.x C.b md_M_nextPrice_75 (lv_at hl 0 rfl) ?_
                    refine lv_if_eq (tgt := 123) C.x C.b md_M_nextPrice_77 (by decide) (fun h16 => ?_) (fun h16 => ?_)
                    · skip
                      refine lv_iload_n C.x C.b md_M_nextPrice_123 rfl (lv_at hl 2 rfl) ?_
                      refine lv_istore_n (lv' := [(3, .int 0), (5, .int 0), (4, .int (nI k)), (0, .ref mo), (1, .int s0), (2, .int b0)]) C.x C.b md_M_nextPrice_124 rfl hl (by decide) rfl (fun ls hl => ?_)
                      refine lv_iinc (k := 2) (v := nI (k + 1)) (lv' := [(4, .int (nI (k + 1))), (3, .int 0), (5, .int 0), (0, .ref mo), (1, .int s0), (2, .int b0)]) C.x C.b md_M_nextPrice_125 hl rfl (nI_1 _) (by decide) rfl (fun ls hl => ?_)
                      refine lv_goto (tgt := 5) C.x C.b md_M_nextPrice_128 (by decide) ?_
                      exact ih (k + 1) none ls (by omega) (mf_step hq i0 (by first | (simp [mf_cmp, mf_behind, mf_lt, mf_rests, mf_better, h2, Int32.not_le.mp h2, h3, h5, h7, h10, h15, Int32.not_lt.mpr h15, h16]; done) | (exfalso; simp_all; done))) (lv_sub hl [0, 1, 3, 4, 5] rfl)
                    · exact absurd rfl h16
                  · skip
                    refine lv_goto (tgt := 68) C.x C.b md_M_nextPrice_54 (by decide) ?_
                    refine lv_iconst (v := 1) C.x C.b md_M_nextPrice_68 (by decide) ?_
                    refine lv_goto (tgt := 73) C.x C.b md_M_nextPrice_69 (by decide) ?_
                    refine lv_istore (lv' := [(5, .int 1), (4, .int (nI k)), (3, .int 0), (0, .ref mo), (1, .int s0), (2, .int b0)]) C.x C.b md_M_nextPrice_73 hl (by decide) rfl (fun ls hl => ?_)
                    refine lv_iload C.x C.b md_M_nextPrice_75 (lv_at hl 0 rfl) ?_
                    refine lv_if_eq (tgt := 123) C.x C.b md_M_nextPrice_77 (by decide) (fun h17 => ?_) (fun h17 => ?_)
                    · exact absurd h17 (by decide)
                    · skip
                      refine lv_iload_n C.x C.b md_M_nextPrice_80 rfl (lv_at hl 2 rfl) ?_
                      refine lv_if_eq (tgt := 113) C.x C.b md_M_nextPrice_81 (by decide) (fun h18 => ?_) (fun h18 => ?_)
                      · skip
                        refine lv_aload_n C.x C.b md_M_nextPrice_113 rfl (lv_at hl 3 rfl) ?_
                        refine mf_gf C (ci := 4) (N := 20) rfl mi_M 6 (by decide) mt_541 (hP 0 _ rfl) (v := .ref (aa 3)) rfl md_M_nextPrice_114 ?_
                        refine lv_iload C.x C.b md_M_nextPrice_117 (lv_at hl 1 rfl) ?_
                        refine mf_iv C (t := 2) rfl (hP 4 _ rfl) (by omega) (by decide) hu.2.2.2.1 md_M_nextPrice_119 ?_
                        refine lv_goto (tgt := 124) C.x C.b md_M_nextPrice_120 (by decide) ?_
                        refine lv_istore_n (lv' := [(3, .int (mf_pr x.1)), (5, .int 1), (4, .int (nI k)), (0, .ref mo), (1, .int s0), (2, .int b0)]) C.x C.b md_M_nextPrice_124 rfl hl (by decide) rfl (fun ls hl => ?_)
                        refine lv_iinc (k := 2) (v := nI (k + 1)) (lv' := [(4, .int (nI (k + 1))), (3, .int (mf_pr x.1)), (5, .int 1), (0, .ref mo), (1, .int s0), (2, .int b0)]) C.x C.b md_M_nextPrice_125 hl rfl (nI_1 _) (by decide) rfl (fun ls hl => ?_)
                        refine lv_goto (tgt := 5) C.x C.b md_M_nextPrice_128 (by decide) ?_
                        exact ih (k + 1) (some (k, x)) ls (by omega) (mf_step hq i0 (by first | (simp [mf_cmp, mf_behind, mf_lt, mf_rests, mf_better, h2, Int32.not_le.mp h2, h3, h5, h7, h10, h15, Int32.not_le.mp h15, h17, h18]; done) | (exfalso; simp_all; done))) (lv_sub hl [0, 1, 3, 4, 5] rfl)
                      · exact absurd rfl h18
      · have hl : lv_has ls 6 [(4, .int (nI k)), (3, .int (mf_pr y.1)), (0, .ref mo), (1, .int s0), (2, .int b0)] := hl
        have hj : j < k := mf_pick_lt i0
        have hqj : R[j]? = some y := mf_pick_at i0
        have huj := hRF j y hqj
        have hy0 : ¬ mf_pr y.1 = 0 := hpr y (List.mem_of_getElem? hqj)
        refine lv_iload C.x C.b md_M_nextPrice_5 (lv_at hl 0 rfl) ?_
        refine lv_aload_n C.x C.b md_M_nextPrice_7 rfl (lv_at hl 2 rfl) ?_
        refine mf_gf C (ci := 4) (N := 20) rfl mi_M 1 (by decide) mt_536 (hP 0 _ rfl) (v := .int (nI R.length)) rfl md_M_nextPrice_8 ?_
        refine lv_icmp_ge (tgt := 131) C.x C.b md_M_nextPrice_11 (by decide) (fun h19 => ?_) (fun h19 => ?_)
        · exact absurd h19 (nI_ge hkk (by omega))
        · skip
          refine lv_aload_n C.x C.b md_M_nextPrice_14 rfl (lv_at hl 2 rfl) ?_
          refine mf_gf C (ci := 4) (N := 20) rfl mi_M 9 (by decide) mt_544 (hP 0 _ rfl) (v := .ref (aa 6)) rfl md_M_nextPrice_15 ?_
          refine lv_iload C.x C.b md_M_nextPrice_18 (lv_at hl 0 rfl) ?_
          refine mf_zv C (t := 3) rfl (hP 7 _ rfl) (by omega) (by decide) hu.2.2.2.2.2.2.1 md_M_nextPrice_20 ?_
          refine lv_if_ne (tgt := 72) C.x C.b md_M_nextPrice_21 (by decide) (fun h20 => ?_) (fun h20 => ?_)
          · skip
            refine lv_iconst (v := 0) C.x C.b md_M_nextPrice_72 (by decide) ?_
            refine lv_istore (lv' := [(5, .int 0), (4, .int (nI k)), (3, .int (mf_pr y.1)), (0, .ref mo), (1, .int s0), (2, .int b0)]) C.x C.b md_M_nextPrice_73 hl (by decide) rfl (fun ls hl => ?_)
            refine lv_iload C.x C.b md_M_nextPrice_75 (lv_at hl 0 rfl) ?_
            refine lv_if_eq (tgt := 123) C.x C.b md_M_nextPrice_77 (by decide) (fun h21 => ?_) (fun h21 => ?_)
            · skip
              refine lv_iload_n C.x C.b md_M_nextPrice_123 rfl (lv_at hl 2 rfl) ?_
              refine lv_istore_n (lv' := [(3, .int (mf_pr y.1)), (5, .int 0), (4, .int (nI k)), (0, .ref mo), (1, .int s0), (2, .int b0)]) C.x C.b md_M_nextPrice_124 rfl hl (by decide) rfl (fun ls hl => ?_)
              refine lv_iinc (k := 2) (v := nI (k + 1)) (lv' := [(4, .int (nI (k + 1))), (3, .int (mf_pr y.1)), (5, .int 0), (0, .ref mo), (1, .int s0), (2, .int b0)]) C.x C.b md_M_nextPrice_125 hl rfl (nI_1 _) (by decide) rfl (fun ls hl => ?_)
              refine lv_goto (tgt := 5) C.x C.b md_M_nextPrice_128 (by decide) ?_
              exact ih (k + 1) (some (j, y)) ls (by omega) (mf_step hq i0 (by first | (simp [mf_cmp, mf_behind, mf_lt, mf_rests, mf_better, h19, Int32.not_le.mp h19, h20, h21]; done) | (exfalso; simp_all; done))) (lv_sub hl [0, 1, 3, 4, 5] rfl)
            · exact absurd rfl h21
          · skip
            refine lv_aload_n C.x C.b md_M_nextPrice_24 rfl (lv_at hl 2 rfl) ?_
            refine mf_gf C (ci := 4) (N := 20) rfl mi_M 5 (by decide) mt_540 (hP 0 _ rfl) (v := .ref (aa 2)) rfl md_M_nextPrice_25 ?_
            refine lv_iload C.x C.b md_M_nextPrice_28 (lv_at hl 0 rfl) ?_
            refine mf_iv C (t := 2) rfl (hP 3 _ rfl) (by omega) (by decide) hu.2.2.1 md_M_nextPrice_30 ?_
            refine lv_iload_n C.x C.b md_M_nextPrice_31 rfl (lv_at hl 3 rfl) ?_
            refine lv_icmp_ne (tgt := 72) C.x C.b md_M_nextPrice_32 (by decide) (fun h22 => ?_) (fun h22 => ?_)
            · skip
              refine lv_iconst (v := 0) C.x C.b md_M_nextPrice_72 (by decide) ?_
              refine lv_istore (lv' := [(5, .int 0), (4, .int (nI k)), (3, .int (mf_pr y.1)), (0, .ref mo), (1, .int s0), (2, .int b0)]) C.x C.b md_M_nextPrice_73 hl (by decide) rfl (fun ls hl => ?_)
              refine lv_iload C.x C.b md_M_nextPrice_75 (lv_at hl 0 rfl) ?_
              refine lv_if_eq (tgt := 123) C.x C.b md_M_nextPrice_77 (by decide) (fun h23 => ?_) (fun h23 => ?_)
              · skip
                refine lv_iload_n C.x C.b md_M_nextPrice_123 rfl (lv_at hl 2 rfl) ?_
                refine lv_istore_n (lv' := [(3, .int (mf_pr y.1)), (5, .int 0), (4, .int (nI k)), (0, .ref mo), (1, .int s0), (2, .int b0)]) C.x C.b md_M_nextPrice_124 rfl hl (by decide) rfl (fun ls hl => ?_)
                refine lv_iinc (k := 2) (v := nI (k + 1)) (lv' := [(4, .int (nI (k + 1))), (3, .int (mf_pr y.1)), (5, .int 0), (0, .ref mo), (1, .int s0), (2, .int b0)]) C.x C.b md_M_nextPrice_125 hl rfl (nI_1 _) (by decide) rfl (fun ls hl => ?_)
                refine lv_goto (tgt := 5) C.x C.b md_M_nextPrice_128 (by decide) ?_
                exact ih (k + 1) (some (j, y)) ls (by omega) (mf_step hq i0 (by first | (simp [mf_cmp, mf_behind, mf_lt, mf_rests, mf_better, h19, Int32.not_le.mp h19, h20, h22, h23]; done) | (exfalso; simp_all; done))) (lv_sub hl [0, 1, 3, 4, 5] rfl)
              · exact absurd rfl h23
            · skip
              refine lv_iload_n C.x C.b md_M_nextPrice_35 rfl (lv_at hl 4 rfl) ?_
              refine lv_if_eq (tgt := 68) C.x C.b md_M_nextPrice_36 (by decide) (fun h24 => ?_) (fun h24 => ?_)
              · skip
                refine lv_iconst (v := 1) C.x C.b md_M_nextPrice_68 (by decide) ?_
                refine lv_goto (tgt := 73) C.x C.b md_M_nextPrice_69 (by decide) ?_
                refine lv_istore (lv' := [(5, .int 1), (4, .int (nI k)), (3, .int (mf_pr y.1)), (0, .ref mo), (1, .int s0), (2, .int b0)]) C.x C.b md_M_nextPrice_73 hl (by decide) rfl (fun ls hl => ?_)
                refine lv_iload C.x C.b md_M_nextPrice_75 (lv_at hl 0 rfl) ?_
                refine lv_if_eq (tgt := 123) C.x C.b md_M_nextPrice_77 (by decide) (fun h25 => ?_) (fun h25 => ?_)
                · exact absurd h25 (by decide)
                · skip
                  refine lv_iload_n C.x C.b md_M_nextPrice_80 rfl (lv_at hl 2 rfl) ?_
                  refine lv_if_eq (tgt := 113) C.x C.b md_M_nextPrice_81 (by decide) (fun h26 => ?_) (fun h26 => ?_)
                  · exact absurd h26 hy0
                  · skip
                    refine lv_iload_n C.x C.b md_M_nextPrice_84 rfl (lv_at hl 4 rfl) ?_
                    refine lv_if_ne (tgt := 102) C.x C.b md_M_nextPrice_85 (by decide) (fun h27 => ?_) (fun h27 => ?_)
                    · skip
                      refine lv_aload_n C.x C.b md_M_nextPrice_102 rfl (lv_at hl 3 rfl) ?_
                      refine mf_gf C (ci := 4) (N := 20) rfl mi_M 6 (by decide) mt_541 (hP 0 _ rfl) (v := .ref (aa 3)) rfl md_M_nextPrice_103 ?_
                      refine lv_iload C.x C.b md_M_nextPrice_106 (lv_at hl 1 rfl) ?_
                      refine mf_iv C (t := 2) rfl (hP 4 _ rfl) (by omega) (by decide) hu.2.2.2.1 md_M_nextPrice_108 ?_
                      refine lv_iload_n C.x C.b md_M_nextPrice_109 rfl (lv_at hl 2 rfl) ?_
                      refine lv_icmp_ge (tgt := 123) C.x C.b md_M_nextPrice_110 (by decide) (fun h28 => ?_) (fun h28 => ?_)
                      · skip
                        refine lv_iload_n C.x C.b md_M_nextPrice_123 rfl (lv_at hl 2 rfl) ?_
                        refine lv_istore_n (lv' := [(3, .int (mf_pr y.1)), (5, .int 1), (4, .int (nI k)), (0, .ref mo), (1, .int s0), (2, .int b0)]) C.x C.b md_M_nextPrice_124 rfl hl (by decide) rfl (fun ls hl => ?_)
                        refine lv_iinc (k := 2) (v := nI (k + 1)) (lv' := [(4, .int (nI (k + 1))), (3, .int (mf_pr y.1)), (5, .int 1), (0, .ref mo), (1, .int s0), (2, .int b0)]) C.x C.b md_M_nextPrice_125 hl rfl (nI_1 _) (by decide) rfl (fun ls hl => ?_)
                        refine lv_goto (tgt := 5) C.x C.b md_M_nextPrice_128 (by decide) ?_
                        exact ih (k + 1) (some (j, y)) ls (by omega) (mf_step hq i0 (by first | (simp [mf_cmp, mf_behind, mf_lt, mf_rests, mf_better, h19, Int32.not_le.mp h19, h20, h22, h24, h25, h26, h27, h28, Int32.not_lt.mpr h28]; done) | (exfalso; simp_all; done))) (lv_sub hl [0, 1, 3, 4, 5] rfl)
                      · skip
                        refine lv_aload_n C.x C.b md_M_nextPrice_113 rfl (lv_at hl 3 rfl) ?_
                        refine mf_gf C (ci := 4) (N := 20) rfl mi_M 6 (by decide) mt_541 (hP 0 _ rfl) (v := .ref (aa 3)) rfl md_M_nextPrice_114 ?_
                        refine lv_iload C.x C.b md_M_nextPrice_117 (lv_at hl 1 rfl) ?_
                        refine mf_iv C (t := 2) rfl (hP 4 _ rfl) (by omega) (by decide) hu.2.2.2.1 md_M_nextPrice_119 ?_
                        refine lv_goto (tgt := 124) C.x C.b md_M_nextPrice_120 (by decide) ?_
                        refine lv_istore_n (lv' := [(3, .int (mf_pr x.1)), (5, .int 1), (4, .int (nI k)), (0, .ref mo), (1, .int s0), (2, .int b0)]) C.x C.b md_M_nextPrice_124 rfl hl (by decide) rfl (fun ls hl => ?_)
                        refine lv_iinc (k := 2) (v := nI (k + 1)) (lv' := [(4, .int (nI (k + 1))), (3, .int (mf_pr x.1)), (5, .int 1), (0, .ref mo), (1, .int s0), (2, .int b0)]) C.x C.b md_M_nextPrice_125 hl rfl (nI_1 _) (by decide) rfl (fun ls hl => ?_)
                        refine lv_goto (tgt := 5) C.x C.b md_M_nextPrice_128 (by decide) ?_
                        exact ih (k + 1) (some (k, x)) ls (by omega) (mf_step hq i0 (by first | (simp [mf_cmp, mf_behind, mf_lt, mf_rests, mf_better, h19, Int32.not_le.mp h19, h20, h22, h24, h25, h26, h27, h28, Int32.not_le.mp h28]; done) | (exfalso; simp_all; done))) (lv_sub hl [0, 1, 3, 4, 5] rfl)
                    · skip
                      refine lv_aload_n C.x C.b md_M_nextPrice_88 rfl (lv_at hl 3 rfl) ?_
                      refine mf_gf C (ci := 4) (N := 20) rfl mi_M 6 (by decide) mt_541 (hP 0 _ rfl) (v := .ref (aa 3)) rfl md_M_nextPrice_89 ?_
                      refine lv_iload C.x C.b md_M_nextPrice_92 (lv_at hl 1 rfl) ?_
                      refine mf_iv C (t := 2) rfl (hP 4 _ rfl) (by omega) (by decide) hu.2.2.2.1 md_M_nextPrice_94 ?_
                      refine lv_iload_n C.x C.b md_M_nextPrice_95 rfl (lv_at hl 2 rfl) ?_
                      refine lv_icmp_le (tgt := 123) C.x C.b md_M_nextPrice_96 (by decide) (fun h29 => ?_) (fun h29 => ?_)
                      · skip
                        refine lv_iload_n C.x C.b md_M_nextPrice_123 rfl (lv_at hl 2 rfl) ?_
                        refine lv_istore_n (lv' := [(3, .int (mf_pr y.1)), (5, .int 1), (4, .int (nI k)), (0, .ref mo), (1, .int s0), (2, .int b0)]) C.x C.b md_M_nextPrice_124 rfl hl (by decide) rfl (fun ls hl => ?_)
                        refine lv_iinc (k := 2) (v := nI (k + 1)) (lv' := [(4, .int (nI (k + 1))), (3, .int (mf_pr y.1)), (5, .int 1), (0, .ref mo), (1, .int s0), (2, .int b0)]) C.x C.b md_M_nextPrice_125 hl rfl (nI_1 _) (by decide) rfl (fun ls hl => ?_)
                        refine lv_goto (tgt := 5) C.x C.b md_M_nextPrice_128 (by decide) ?_
                        exact ih (k + 1) (some (j, y)) ls (by omega) (mf_step hq i0 (by first | (simp [mf_cmp, mf_behind, mf_lt, mf_rests, mf_better, h19, Int32.not_le.mp h19, h20, h22, h24, h25, h26, h27, h29, Int32.not_lt.mpr h29]; done) | (exfalso; simp_all; done))) (lv_sub hl [0, 1, 3, 4, 5] rfl)
                      · skip
                        refine lv_goto (tgt := 113) C.x C.b md_M_nextPrice_99 (by decide) ?_
                        refine lv_aload_n C.x C.b md_M_nextPrice_113 rfl (lv_at hl 3 rfl) ?_
                        refine mf_gf C (ci := 4) (N := 20) rfl mi_M 6 (by decide) mt_541 (hP 0 _ rfl) (v := .ref (aa 3)) rfl md_M_nextPrice_114 ?_
                        refine lv_iload C.x C.b md_M_nextPrice_117 (lv_at hl 1 rfl) ?_
                        refine mf_iv C (t := 2) rfl (hP 4 _ rfl) (by omega) (by decide) hu.2.2.2.1 md_M_nextPrice_119 ?_
                        refine lv_goto (tgt := 124) C.x C.b md_M_nextPrice_120 (by decide) ?_
                        refine lv_istore_n (lv' := [(3, .int (mf_pr x.1)), (5, .int 1), (4, .int (nI k)), (0, .ref mo), (1, .int s0), (2, .int b0)]) C.x C.b md_M_nextPrice_124 rfl hl (by decide) rfl (fun ls hl => ?_)
                        refine lv_iinc (k := 2) (v := nI (k + 1)) (lv' := [(4, .int (nI (k + 1))), (3, .int (mf_pr x.1)), (5, .int 1), (0, .ref mo), (1, .int s0), (2, .int b0)]) C.x C.b md_M_nextPrice_125 hl rfl (nI_1 _) (by decide) rfl (fun ls hl => ?_)
                        refine lv_goto (tgt := 5) C.x C.b md_M_nextPrice_128 (by decide) ?_
                        exact ih (k + 1) (some (k, x)) ls (by omega) (mf_step hq i0 (by first | (simp [mf_cmp, mf_behind, mf_lt, mf_rests, mf_better, h19, Int32.not_le.mp h19, h20, h22, h24, h25, h26, h27, h29, Int32.not_le.mp h29]; done) | (exfalso; simp_all; done))) (lv_sub hl [0, 1, 3, 4, 5] rfl)
              · skip
                refine lv_iload_n C.x C.b md_M_nextPrice_39 rfl (lv_at hl 3 rfl) ?_
                refine lv_if_ne (tgt := 57) C.x C.b md_M_nextPrice_40 (by decide) (fun h30 => ?_) (fun h30 => ?_)
                · skip
                  refine lv_aload_n C.x C.b md_M_nextPrice_57 rfl (lv_at hl 2 rfl) ?_
                  refine mf_gf C (ci := 4) (N := 20) rfl mi_M 6 (by decide) mt_541 (hP 0 _ rfl) (v := .ref (aa 3)) rfl md_M_nextPrice_58 ?_
                  refine lv_iload C.x C.b md_M_nextPrice_61 (lv_at hl 0 rfl) ?_
                  refine mf_iv C (t := 2) rfl (hP 4 _ rfl) (by omega) (by decide) hu.2.2.2.1 md_M_nextPrice_63 ?_
                  refine lv_iload_n C.x C.b md_M_nextPrice_64 rfl (lv_at hl 4 rfl) ?_
                  refine lv_icmp_le (tgt := 72) C.x C.b md_M_nextPrice_65 (by decide) (fun h31 => ?_) (fun h31 => ?_)
                  · skip
                    refine lv_iconst (v := 0) C.x C.b md_M_nextPrice_72 (by decide) ?_
                    refine lv_istore (lv' := [(5, .int 0), (4, .int (nI k)), (3, .int (mf_pr y.1)), (0, .ref mo), (1, .int s0), (2, .int b0)]) C.x C.b md_M_nextPrice_73 hl (by decide) rfl (fun ls hl => ?_)
                    refine lv_iload C.x C.b md_M_nextPrice_75 (lv_at hl 0 rfl) ?_
                    refine lv_if_eq (tgt := 123) C.x C.b md_M_nextPrice_77 (by decide) (fun h32 => ?_) (fun h32 => ?_)
                    · skip
                      refine lv_iload_n C.x C.b md_M_nextPrice_123 rfl (lv_at hl 2 rfl) ?_
                      refine lv_istore_n (lv' := [(3, .int (mf_pr y.1)), (5, .int 0), (4, .int (nI k)), (0, .ref mo), (1, .int s0), (2, .int b0)]) C.x C.b md_M_nextPrice_124 rfl hl (by decide) rfl (fun ls hl => ?_)
                      refine lv_iinc (k := 2) (v := nI (k + 1)) (lv' := [(4, .int (nI (k + 1))), (3, .int (mf_pr y.1)), (5, .int 0), (0, .ref mo), (1, .int s0), (2, .int b0)]) C.x C.b md_M_nextPrice_125 hl rfl (nI_1 _) (by decide) rfl (fun ls hl => ?_)
                      refine lv_goto (tgt := 5) C.x C.b md_M_nextPrice_128 (by decide) ?_
                      exact ih (k + 1) (some (j, y)) ls (by omega) (mf_step hq i0 (by first | (simp [mf_cmp, mf_behind, mf_lt, mf_rests, mf_better, h19, Int32.not_le.mp h19, h20, h22, h24, h30, h31, Int32.not_lt.mpr h31, h32]; done) | (exfalso; simp_all; done))) (lv_sub hl [0, 1, 3, 4, 5] rfl)
                    · exact absurd rfl h32
                  · skip
                    refine lv_iconst (v := 1) C.x C.b md_M_nextPrice_68 (by decide) ?_
                    refine lv_goto (tgt := 73) C.x C.b md_M_nextPrice_69 (by decide) ?_
                    refine lv_istore (lv' := [(5, .int 1), (4, .int (nI k)), (3, .int (mf_pr y.1)), (0, .ref mo), (1, .int s0), (2, .int b0)]) C.x C.b md_M_nextPrice_73 hl (by decide) rfl (fun ls hl => ?_)
                    refine lv_iload C.x C.b md_M_nextPrice_75 (lv_at hl 0 rfl) ?_
                    refine lv_if_eq (tgt := 123) C.x C.b md_M_nextPrice_77 (by decide) (fun h33 => ?_) (fun h33 => ?_)
                    · exact absurd h33 (by decide)
                    · skip
                      refine lv_iload_n C.x C.b md_M_nextPrice_80 rfl (lv_at hl 2 rfl) ?_
                      refine lv_if_eq (tgt := 113) C.x C.b md_M_nextPrice_81 (by decide) (fun h34 => ?_) (fun h34 => ?_)
                      · exact absurd h34 hy0
                      · skip
                        refine lv_iload_n C.x C.b md_M_nextPrice_84 rfl (lv_at hl 4 rfl) ?_
                        refine lv_if_ne (tgt := 102) C.x C.b md_M_nextPrice_85 (by decide) (fun h35 => ?_) (fun h35 => ?_)
                        · skip
                          refine lv_aload_n C.x C.b md_M_nextPrice_102 rfl (lv_at hl 3 rfl) ?_
                          refine mf_gf C (ci := 4) (N := 20) rfl mi_M 6 (by decide) mt_541 (hP 0 _ rfl) (v := .ref (aa 3)) rfl md_M_nextPrice_103 ?_
                          refine lv_iload C.x C.b md_M_nextPrice_106 (lv_at hl 1 rfl) ?_
                          refine mf_iv C (t := 2) rfl (hP 4 _ rfl) (by omega) (by decide) hu.2.2.2.1 md_M_nextPrice_108 ?_
                          refine lv_iload_n C.x C.b md_M_nextPrice_109 rfl (lv_at hl 2 rfl) ?_
                          refine lv_icmp_ge (tgt := 123) C.x C.b md_M_nextPrice_110 (by decide) (fun h36 => ?_) (fun h36 => ?_)
                          · skip
                            refine lv_iload_n C.x C.b md_M_nextPrice_123 rfl (lv_at hl 2 rfl) ?_
                            refine lv_istore_n (lv' := [(3, .int (mf_pr y.1)), (5, .int 1), (4, .int (nI k)), (0, .ref mo), (1, .int s0), (2, .int b0)]) C.x C.b md_M_nextPrice_124 rfl hl (by decide) rfl (fun ls hl => ?_)
                            refine lv_iinc (k := 2) (v := nI (k + 1)) (lv' := [(4, .int (nI (k + 1))), (3, .int (mf_pr y.1)), (5, .int 1), (0, .ref mo), (1, .int s0), (2, .int b0)]) C.x C.b md_M_nextPrice_125 hl rfl (nI_1 _) (by decide) rfl (fun ls hl => ?_)
                            refine lv_goto (tgt := 5) C.x C.b md_M_nextPrice_128 (by decide) ?_
                            exact ih (k + 1) (some (j, y)) ls (by omega) (mf_step hq i0 (by first | (simp [mf_cmp, mf_behind, mf_lt, mf_rests, mf_better, h19, Int32.not_le.mp h19, h20, h22, h24, h30, h31, Int32.not_le.mp h31, h33, h34, h35, h36, Int32.not_lt.mpr h36]; done) | (exfalso; simp_all; done))) (lv_sub hl [0, 1, 3, 4, 5] rfl)
                          · skip
                            refine lv_aload_n C.x C.b md_M_nextPrice_113 rfl (lv_at hl 3 rfl) ?_
                            refine mf_gf C (ci := 4) (N := 20) rfl mi_M 6 (by decide) mt_541 (hP 0 _ rfl) (v := .ref (aa 3)) rfl md_M_nextPrice_114 ?_
                            refine lv_iload C.x C.b md_M_nextPrice_117 (lv_at hl 1 rfl) ?_
                            refine mf_iv C (t := 2) rfl (hP 4 _ rfl) (by omega) (by decide) hu.2.2.2.1 md_M_nextPrice_119 ?_
                            refine lv_goto (tgt := 124) C.x C.b md_M_nextPrice_120 (by decide) ?_
                            refine lv_istore_n (lv' := [(3, .int (mf_pr x.1)), (5, .int 1), (4, .int (nI k)), (0, .ref mo), (1, .int s0), (2, .int b0)]) C.x C.b md_M_nextPrice_124 rfl hl (by decide) rfl (fun ls hl => ?_)
                            refine lv_iinc (k := 2) (v := nI (k + 1)) (lv' := [(4, .int (nI (k + 1))), (3, .int (mf_pr x.1)), (5, .int 1), (0, .ref mo), (1, .int s0), (2, .int b0)]) C.x C.b md_M_nextPrice_125 hl rfl (nI_1 _) (by decide) rfl (fun ls hl => ?_)
                            refine lv_goto (tgt := 5) C.x C.b md_M_nextPrice_128 (by decide) ?_
                            exact ih (k + 1) (some (k, x)) ls (by omega) (mf_step hq i0 (by first | (simp [mf_cmp, mf_behind, mf_lt, mf_rests, mf_better, h19, Int32.not_le.mp h19, h20, h22, h24, h30, h31, Int32.not_le.mp h31, h33, h34, h35, h36, Int32.not_le.mp h36]; done) | (exfalso; simp_all; done))) (lv_sub hl [0, 1, 3, 4, 5] rfl)
                        · skip
                          refine lv_aload_n C.x C.b md_M_nextPrice_88 rfl (lv_at hl 3 rfl) ?_
                          refine mf_gf C (ci := 4) (N := 20) rfl mi_M 6 (by decide) mt_541 (hP 0 _ rfl) (v := .ref (aa 3)) rfl md_M_nextPrice_89 ?_
                          refine lv_iload C.x C.b md_M_nextPrice_92 (lv_at hl 1 rfl) ?_
                          refine mf_iv C (t := 2) rfl (hP 4 _ rfl) (by omega) (by decide) hu.2.2.2.1 md_M_nextPrice_94 ?_
                          refine lv_iload_n C.x C.b md_M_nextPrice_95 rfl (lv_at hl 2 rfl) ?_
                          refine lv_icmp_le (tgt := 123) C.x C.b md_M_nextPrice_96 (by decide) (fun h37 => ?_) (fun h37 => ?_)
                          · skip
                            refine lv_iload_n C.x C.b md_M_nextPrice_123 rfl (lv_at hl 2 rfl) ?_
                            refine lv_istore_n (lv' := [(3, .int (mf_pr y.1)), (5, .int 1), (4, .int (nI k)), (0, .ref mo), (1, .int s0), (2, .int b0)]) C.x C.b md_M_nextPrice_124 rfl hl (by decide) rfl (fun ls hl => ?_)
                            refine lv_iinc (k := 2) (v := nI (k + 1)) (lv' := [(4, .int (nI (k + 1))), (3, .int (mf_pr y.1)), (5, .int 1), (0, .ref mo), (1, .int s0), (2, .int b0)]) C.x C.b md_M_nextPrice_125 hl rfl (nI_1 _) (by decide) rfl (fun ls hl => ?_)
                            refine lv_goto (tgt := 5) C.x C.b md_M_nextPrice_128 (by decide) ?_
                            exact ih (k + 1) (some (j, y)) ls (by omega) (mf_step hq i0 (by first | (simp [mf_cmp, mf_behind, mf_lt, mf_rests, mf_better, h19, Int32.not_le.mp h19, h20, h22, h24, h30, h31, Int32.not_le.mp h31, h33, h34, h35, h37, Int32.not_lt.mpr h37]; done) | (exfalso; simp_all; done))) (lv_sub hl [0, 1, 3, 4, 5] rfl)
                          · skip
                            refine lv_goto (tgt := 113) C.x C.b md_M_nextPrice_99 (by decide) ?_
                            refine lv_aload_n C.x C.b md_M_nextPrice_113 rfl (lv_at hl 3 rfl) ?_
                            refine mf_gf C (ci := 4) (N := 20) rfl mi_M 6 (by decide) mt_541 (hP 0 _ rfl) (v := .ref (aa 3)) rfl md_M_nextPrice_114 ?_
                            refine lv_iload C.x C.b md_M_nextPrice_117 (lv_at hl 1 rfl) ?_
                            refine mf_iv C (t := 2) rfl (hP 4 _ rfl) (by omega) (by decide) hu.2.2.2.1 md_M_nextPrice_119 ?_
                            refine lv_goto (tgt := 124) C.x C.b md_M_nextPrice_120 (by decide) ?_
                            refine lv_istore_n (lv' := [(3, .int (mf_pr x.1)), (5, .int 1), (4, .int (nI k)), (0, .ref mo), (1, .int s0), (2, .int b0)]) C.x C.b md_M_nextPrice_124 rfl hl (by decide) rfl (fun ls hl => ?_)
                            refine lv_iinc (k := 2) (v := nI (k + 1)) (lv' := [(4, .int (nI (k + 1))), (3, .int (mf_pr x.1)), (5, .int 1), (0, .ref mo), (1, .int s0), (2, .int b0)]) C.x C.b md_M_nextPrice_125 hl rfl (nI_1 _) (by decide) rfl (fun ls hl => ?_)
                            refine lv_goto (tgt := 5) C.x C.b md_M_nextPrice_128 (by decide) ?_
                            exact ih (k + 1) (some (k, x)) ls (by omega) (mf_step hq i0 (by first | (simp [mf_cmp, mf_behind, mf_lt, mf_rests, mf_better, h19, Int32.not_le.mp h19, h20, h22, h24, h30, h31, Int32.not_le.mp h31, h33, h34, h35, h37, Int32.not_le.mp h37]; done) | (exfalso; simp_all; done))) (lv_sub hl [0, 1, 3, 4, 5] rfl)
                · skip
                  refine lv_aload_n C.x C.b md_M_nextPrice_43 rfl (lv_at hl 2 rfl) ?_
                  refine mf_gf C (ci := 4) (N := 20) rfl mi_M 6 (by decide) mt_541 (hP 0 _ rfl) (v := .ref (aa 3)) rfl md_M_nextPrice_44 ?_
                  refine lv_iload C.x C.b md_M_nextPrice_47 (lv_at hl 0 rfl) ?_
                  refine mf_iv C (t := 2) rfl (hP 4 _ rfl) (by omega) (by decide) hu.2.2.2.1 md_M_nextPrice_49 ?_
                  refine lv_iload_n C.x C.b md_M_nextPrice_50 rfl (lv_at hl 4 rfl) ?_
                  refine lv_icmp_ge (tgt := 72) C.x C.b md_M_nextPrice_51 (by decide) (fun h38 => ?_) (fun h38 => ?_)
                  · skip
                    refine lv_iconst (v := 0) C.x C.b md_M_nextPrice_72 (by decide) ?_
                    refine lv_istore (lv' := [(5, .int 0), (4, .int (nI k)), (3, .int (mf_pr y.1)), (0, .ref mo), (1, .int s0), (2, .int b0)]) C.x C.b md_M_nextPrice_73 hl (by decide) rfl (fun ls hl => ?_)
                    refine lv_iload C.x C.b md_M_nextPrice_75 (lv_at hl 0 rfl) ?_
                    refine lv_if_eq (tgt := 123) C.x C.b md_M_nextPrice_77 (by decide) (fun h39 => ?_) (fun h39 => ?_)
                    · skip
                      refine lv_iload_n C.x C.b md_M_nextPrice_123 rfl (lv_at hl 2 rfl) ?_
                      refine lv_istore_n (lv' := [(3, .int (mf_pr y.1)), (5, .int 0), (4, .int (nI k)), (0, .ref mo), (1, .int s0), (2, .int b0)]) C.x C.b md_M_nextPrice_124 rfl hl (by decide) rfl (fun ls hl => ?_)
                      refine lv_iinc (k := 2) (v := nI (k + 1)) (lv' := [(4, .int (nI (k + 1))), (3, .int (mf_pr y.1)), (5, .int 0), (0, .ref mo), (1, .int s0), (2, .int b0)]) C.x C.b md_M_nextPrice_125 hl rfl (nI_1 _) (by decide) rfl (fun ls hl => ?_)
                      refine lv_goto (tgt := 5) C.x C.b md_M_nextPrice_128 (by decide) ?_
                      exact ih (k + 1) (some (j, y)) ls (by omega) (mf_step hq i0 (by first | (simp [mf_cmp, mf_behind, mf_lt, mf_rests, mf_better, h19, Int32.not_le.mp h19, h20, h22, h24, h30, h38, Int32.not_lt.mpr h38, h39]; done) | (exfalso; simp_all; done))) (lv_sub hl [0, 1, 3, 4, 5] rfl)
                    · exact absurd rfl h39
                  · skip
                    refine lv_goto (tgt := 68) C.x C.b md_M_nextPrice_54 (by decide) ?_
                    refine lv_iconst (v := 1) C.x C.b md_M_nextPrice_68 (by decide) ?_
                    refine lv_goto (tgt := 73) C.x C.b md_M_nextPrice_69 (by decide) ?_
                    refine lv_istore (lv' := [(5, .int 1), (4, .int (nI k)), (3, .int (mf_pr y.1)), (0, .ref mo), (1, .int s0), (2, .int b0)]) C.x C.b md_M_nextPrice_73 hl (by decide) rfl (fun ls hl => ?_)
                    refine lv_iload C.x C.b md_M_nextPrice_75 (lv_at hl 0 rfl) ?_
                    refine lv_if_eq (tgt := 123) C.x C.b md_M_nextPrice_77 (by decide) (fun h40 => ?_) (fun h40 => ?_)
                    · exact absurd h40 (by decide)
                    · skip
                      refine lv_iload_n C.x C.b md_M_nextPrice_80 rfl (lv_at hl 2 rfl) ?_
                      refine lv_if_eq (tgt := 113) C.x C.b md_M_nextPrice_81 (by decide) (fun h41 => ?_) (fun h41 => ?_)
                      · exact absurd h41 hy0
                      · skip
                        refine lv_iload_n C.x C.b md_M_nextPrice_84 rfl (lv_at hl 4 rfl) ?_
                        refine lv_if_ne (tgt := 102) C.x C.b md_M_nextPrice_85 (by decide) (fun h42 => ?_) (fun h42 => ?_)
                        · skip
                          refine lv_aload_n C.x C.b md_M_nextPrice_102 rfl (lv_at hl 3 rfl) ?_
                          refine mf_gf C (ci := 4) (N := 20) rfl mi_M 6 (by decide) mt_541 (hP 0 _ rfl) (v := .ref (aa 3)) rfl md_M_nextPrice_103 ?_
                          refine lv_iload C.x C.b md_M_nextPrice_106 (lv_at hl 1 rfl) ?_
                          refine mf_iv C (t := 2) rfl (hP 4 _ rfl) (by omega) (by decide) hu.2.2.2.1 md_M_nextPrice_108 ?_
                          refine lv_iload_n C.x C.b md_M_nextPrice_109 rfl (lv_at hl 2 rfl) ?_
                          refine lv_icmp_ge (tgt := 123) C.x C.b md_M_nextPrice_110 (by decide) (fun h43 => ?_) (fun h43 => ?_)
                          · skip
                            refine lv_iload_n C.x C.b md_M_nextPrice_123 rfl (lv_at hl 2 rfl) ?_
                            refine lv_istore_n (lv' := [(3, .int (mf_pr y.1)), (5, .int 1), (4, .int (nI k)), (0, .ref mo), (1, .int s0), (2, .int b0)]) C.x C.b md_M_nextPrice_124 rfl hl (by decide) rfl (fun ls hl => ?_)
                            refine lv_iinc (k := 2) (v := nI (k + 1)) (lv' := [(4, .int (nI (k + 1))), (3, .int (mf_pr y.1)), (5, .int 1), (0, .ref mo), (1, .int s0), (2, .int b0)]) C.x C.b md_M_nextPrice_125 hl rfl (nI_1 _) (by decide) rfl (fun ls hl => ?_)
                            refine lv_goto (tgt := 5) C.x C.b md_M_nextPrice_128 (by decide) ?_
                            exact ih (k + 1) (some (j, y)) ls (by omega) (mf_step hq i0 (by first | (simp [mf_cmp, mf_behind, mf_lt, mf_rests, mf_better, h19, Int32.not_le.mp h19, h20, h22, h24, h30, h38, Int32.not_le.mp h38, h40, h41, h42, h43, Int32.not_lt.mpr h43]; done) | (exfalso; simp_all; done))) (lv_sub hl [0, 1, 3, 4, 5] rfl)
                          · skip
                            refine lv_aload_n C.x C.b md_M_nextPrice_113 rfl (lv_at hl 3 rfl) ?_
                            refine mf_gf C (ci := 4) (N := 20) rfl mi_M 6 (by decide) mt_541 (hP 0 _ rfl) (v := .ref (aa 3)) rfl md_M_nextPrice_114 ?_
                            refine lv_iload C.x C.b md_M_nextPrice_117 (lv_at hl 1 rfl) ?_
                            refine mf_iv C (t := 2) rfl (hP 4 _ rfl) (by omega) (by decide) hu.2.2.2.1 md_M_nextPrice_119 ?_
                            refine lv_goto (tgt := 124) C.x C.b md_M_nextPrice_120 (by decide) ?_
                            refine lv_istore_n (lv' := [(3, .int (mf_pr x.1)), (5, .int 1), (4, .int (nI k)), (0, .ref mo), (1, .int s0), (2, .int b0)]) C.x C.b md_M_nextPrice_124 rfl hl (by decide) rfl (fun ls hl => ?_)
                            refine lv_iinc (k := 2) (v := nI (k + 1)) (lv' := [(4, .int (nI (k + 1))), (3, .int (mf_pr x.1)), (5, .int 1), (0, .ref mo), (1, .int s0), (2, .int b0)]) C.x C.b md_M_nextPrice_125 hl rfl (nI_1 _) (by decide) rfl (fun ls hl => ?_)
                            refine lv_goto (tgt := 5) C.x C.b md_M_nextPrice_128 (by decide) ?_
                            exact ih (k + 1) (some (k, x)) ls (by omega) (mf_step hq i0 (by first | (simp [mf_cmp, mf_behind, mf_lt, mf_rests, mf_better, h19, Int32.not_le.mp h19, h20, h22, h24, h30, h38, Int32.not_le.mp h38, h40, h41, h42, h43, Int32.not_le.mp h43]; done) | (exfalso; simp_all; done))) (lv_sub hl [0, 1, 3, 4, 5] rfl)
                        · skip
                          refine lv_aload_n C.x C.b md_M_nextPrice_88 rfl (lv_at hl 3 rfl) ?_
                          refine mf_gf C (ci := 4) (N := 20) rfl mi_M 6 (by decide) mt_541 (hP 0 _ rfl) (v := .ref (aa 3)) rfl md_M_nextPrice_89 ?_
                          refine lv_iload C.x C.b md_M_nextPrice_92 (lv_at hl 1 rfl) ?_
                          refine mf_iv C (t := 2) rfl (hP 4 _ rfl) (by omega) (by decide) hu.2.2.2.1 md_M_nextPrice_94 ?_
                          refine lv_iload_n C.x C.b md_M_nextPrice_95 rfl (lv_at hl 2 rfl) ?_
                          refine lv_icmp_le (tgt := 123) C.x C.b md_M_nextPrice_96 (by decide) (fun h44 => ?_) (fun h44 => ?_)
                          · skip
                            refine lv_iload_n C.x C.b md_M_nextPrice_123 rfl (lv_at hl 2 rfl) ?_
                            refine lv_istore_n (lv' := [(3, .int (mf_pr y.1)), (5, .int 1), (4, .int (nI k)), (0, .ref mo), (1, .int s0), (2, .int b0)]) C.x C.b md_M_nextPrice_124 rfl hl (by decide) rfl (fun ls hl => ?_)
                            refine lv_iinc (k := 2) (v := nI (k + 1)) (lv' := [(4, .int (nI (k + 1))), (3, .int (mf_pr y.1)), (5, .int 1), (0, .ref mo), (1, .int s0), (2, .int b0)]) C.x C.b md_M_nextPrice_125 hl rfl (nI_1 _) (by decide) rfl (fun ls hl => ?_)
                            refine lv_goto (tgt := 5) C.x C.b md_M_nextPrice_128 (by decide) ?_
                            exact ih (k + 1) (some (j, y)) ls (by omega) (mf_step hq i0 (by first | (simp [mf_cmp, mf_behind, mf_lt, mf_rests, mf_better, h19, Int32.not_le.mp h19, h20, h22, h24, h30, h38, Int32.not_le.mp h38, h40, h41, h42, h44, Int32.not_lt.mpr h44]; done) | (exfalso; simp_all; done))) (lv_sub hl [0, 1, 3, 4, 5] rfl)
                          · skip
                            refine lv_goto (tgt := 113) C.x C.b md_M_nextPrice_99 (by decide) ?_
                            refine lv_aload_n C.x C.b md_M_nextPrice_113 rfl (lv_at hl 3 rfl) ?_
                            refine mf_gf C (ci := 4) (N := 20) rfl mi_M 6 (by decide) mt_541 (hP 0 _ rfl) (v := .ref (aa 3)) rfl md_M_nextPrice_114 ?_
                            refine lv_iload C.x C.b md_M_nextPrice_117 (lv_at hl 1 rfl) ?_
                            refine mf_iv C (t := 2) rfl (hP 4 _ rfl) (by omega) (by decide) hu.2.2.2.1 md_M_nextPrice_119 ?_
                            refine lv_goto (tgt := 124) C.x C.b md_M_nextPrice_120 (by decide) ?_
                            refine lv_istore_n (lv' := [(3, .int (mf_pr x.1)), (5, .int 1), (4, .int (nI k)), (0, .ref mo), (1, .int s0), (2, .int b0)]) C.x C.b md_M_nextPrice_124 rfl hl (by decide) rfl (fun ls hl => ?_)
                            refine lv_iinc (k := 2) (v := nI (k + 1)) (lv' := [(4, .int (nI (k + 1))), (3, .int (mf_pr x.1)), (5, .int 1), (0, .ref mo), (1, .int s0), (2, .int b0)]) C.x C.b md_M_nextPrice_125 hl rfl (nI_1 _) (by decide) rfl (fun ls hl => ?_)
                            refine lv_goto (tgt := 5) C.x C.b md_M_nextPrice_128 (by decide) ?_
                            exact ih (k + 1) (some (k, x)) ls (by omega) (mf_step hq i0 (by first | (simp [mf_cmp, mf_behind, mf_lt, mf_rests, mf_better, h19, Int32.not_le.mp h19, h20, h22, h24, h30, h38, Int32.not_le.mp h38, h40, h41, h42, h44, Int32.not_le.mp h44]; done) | (exfalso; simp_all; done))) (lv_sub hl [0, 1, 3, 4, 5] rfl)
  refine lv_iconst (v := 0) C.x C.b md_M_nextPrice_0 (by decide) ?_
  refine lv_istore_n (lv' := [(3, .int 0), (0, .ref mo), (1, .int s0), (2, .int b0)]) C.x C.b md_M_nextPrice_1 rfl hl (by decide) rfl (fun ls hl => ?_)
  refine lv_iconst (v := 0) C.x C.b md_M_nextPrice_2 (by decide) ?_
  refine lv_istore (lv' := [(4, .int 0), (3, .int 0), (0, .ref mo), (1, .int s0), (2, .int b0)]) C.x C.b md_M_nextPrice_3 hl (by decide) rfl (fun ls hl => ?_)
  exact loop R.length 0 none ls (by omega) rfl (lv_sub hl [0, 1, 2, 3, 4] rfl)
