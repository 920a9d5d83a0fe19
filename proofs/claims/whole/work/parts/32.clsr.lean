/-! the class: reading the book -/
set_option maxRecDepth 100000 in
set_option maxHeartbeats 4000000 in
theorem k_O_isFitBy (l : Launch) (D : va_G) (k5 : mf_k5) (t0 : Nat × Nat) (A : Nat → Prop) (H : Heap) (x : Nat) (o : mf_O) (a : Int32) (ho : va_at D mf_cl (x, .inr (1, mf_fs o)) H) : mf_cRO l my_O_isFitBy mc_O_isFitBy 2 (some .boolean) { frames := 1, cells := 0, slots := 0, locals := 22 } D (mf_tys k5) t0 A H [.ref x, .int a] (some (.int (mf_bI (mf_fit o a)))) := by
  refine mf_of (by decide) (Nat.le_of_ble_eq_true rfl) ?_
  intro p e s m below meth c ls C hH hr hlk hnm hmt hl hS
  have hl : lv_has ls 2 [(0, .ref x), (1, .int a)] := hl
  refine lv_iload_n C.x C.b md_O_isFitBy_0 rfl (lv_at hl 1 rfl) ?_
  refine lv_if_eq (tgt := 30) C.x C.b md_O_isFitBy_1 (by decide) (fun h1 => ?_) (fun h1 => ?_)
  · skip
    refine lv_iconst (v := 1) C.x C.b md_O_isFitBy_30 (by decide) ?_
    refine lv_goto (tgt := 35) C.x C.b md_O_isFitBy_31 (by decide) ?_
    rw [show mf_bI (mf_fit o a) = 1 by first | (simp [mf_bI, mf_fit, h1]; done) | (exfalso; simp_all; done)]
    exact mf_rz C.x C.b hH hr hlk rfl md_O_isFitBy_35
  · skip
    refine lv_iload_n C.x C.b md_O_isFitBy_4 rfl (lv_at hl 1 rfl) ?_
    refine lv_aload_n C.x C.b md_O_isFitBy_5 rfl (lv_at hl 0 rfl) ?_
    refine mf_gf C (ci := 1) (N := 6) rfl mi_O 4 (by decide) mt_251 ho (v := .int (mf_pr o)) rfl md_O_isFitBy_6 ?_
    refine lv_icmp_eq (tgt := 30) C.x C.b md_O_isFitBy_9 (by decide) (fun h2 => ?_) (fun h2 => ?_)
    · skip
      refine lv_iconst (v := 1) C.x C.b md_O_isFitBy_30 (by decide) ?_
      refine lv_goto (tgt := 35) C.x C.b md_O_isFitBy_31 (by decide) ?_
      rw [show mf_bI (mf_fit o a) = 1 by first | (simp [mf_bI, mf_fit, h1, h2]; done) | (exfalso; simp_all; done)]
      exact mf_rz C.x C.b hH hr hlk rfl md_O_isFitBy_35
    · skip
      refine lv_aload_n C.x C.b md_O_isFitBy_12 rfl (lv_at hl 0 rfl) ?_
      refine mf_gf C (ci := 1) (N := 6) rfl mi_O 2 (by decide) mt_247 ho (v := .int (mf_sd o)) rfl md_O_isFitBy_13 ?_
      refine mf_cks (va_runSN (As := [.int (mf_sd o)]) (rest := []) C.f (k_F_otherSide l D k5 t0 A H (mf_sd o)) ⟨mf_cN C mt_278 (C.ev.2.1.2.1 ("MatchFloor$Order", 31, my_F_otherSide) (List.mem_of_getElem? (i := 4) rfl)) mt_1 mh_F_otherSide ⟨by decide, by decide⟩, C.t mt_277, trivial⟩ (mf_preS C.ev hS) rfl rfl hl.1 rfl (lv_room (Nat.le_of_ble_eq_true rfl)) md_O_isFitBy_16 ⟨by omega, by omega⟩) ?_
      refine lv_iload_n C.x C.b md_O_isFitBy_19 rfl (lv_at hl 1 rfl) ?_
      refine lv_aload_n C.x C.b md_O_isFitBy_20 rfl (lv_at hl 0 rfl) ?_
      refine mf_gf C (ci := 1) (N := 6) rfl mi_O 4 (by decide) mt_251 ho (v := .int (mf_pr o)) rfl md_O_isFitBy_21 ?_
      refine mf_cks (va_runSN (As := [.int (mf_other (mf_sd o)), .int a, .int (mf_pr o)]) (rest := []) C.f (k_F_isBetter l D k5 t0 A H (mf_other (mf_sd o)) a (mf_pr o)) ⟨mf_cN C mt_290 (C.ev.2.1.2.1 ("MatchFloor$Order", 35, my_F_isBetter) (List.mem_of_getElem? (i := 5) rfl)) mt_1 mh_F_isBetter ⟨by decide, by decide⟩, C.t mt_289, trivial⟩ (mf_preS C.ev hS) rfl rfl hl.1 rfl (lv_room (Nat.le_of_ble_eq_true rfl)) md_O_isFitBy_24 ⟨by omega, by omega⟩) ?_
      refine lv_if_eq (tgt := 34) C.x C.b md_O_isFitBy_27 (by decide) (fun h3 => ?_) (fun h3 => ?_)
      · skip
        refine lv_iconst (v := 0) C.x C.b md_O_isFitBy_34 (by decide) ?_
        rw [show mf_bI (mf_fit o a) = 0 by first | (simp [mf_bI, mf_fit, h1, h2, mf_bI_0.mp h3]; done) | (exfalso; simp_all; done)]
        exact mf_rz C.x C.b hH hr hlk rfl md_O_isFitBy_35
      · skip
        refine lv_iconst (v := 1) C.x C.b md_O_isFitBy_30 (by decide) ?_
        refine lv_goto (tgt := 35) C.x C.b md_O_isFitBy_31 (by decide) ?_
        rw [show mf_bI (mf_fit o a) = 1 by first | (simp [mf_bI, mf_fit, h1, h2, mf_bI_1.mp h3]; done) | (exfalso; simp_all; done)]
        exact mf_rz C.x C.b hH hr hlk rfl md_O_isFitBy_35
set_option maxRecDepth 100000 in
set_option maxHeartbeats 4000000 in
theorem k_F_placeOf (l : Launch) (D : va_G) (k5 : mf_k5) (t0 : Nat × Nat) (A : Nat → Prop) (H : Heap) (x al tp : Nat) (due met : Int32) (ks : List (Nat × mf_O)) (i : Int32) (hC : mf_CL D k5 t0 A H x al tp due met ks) : mf_cRO l my_F_placeOf mc_F_placeOf 3 (some .int) { frames := 3, cells := 0, slots := 0, locals := 64 } D (mf_tys k5) t0 A H [.ref x, .int i] (some (.int (mf_ix (mf_place i (mf_L ks))))) := by
  obtain ⟨hx, hAx, hAL, hks, hnd⟩ := hC
  obtain ⟨ed, mc, hal, hA1, hle, hor⟩ := id hAL
  rw [List.length_map] at hle
  refine mf_of (by decide) (Nat.le_of_ble_eq_true rfl) ?_
  intro p e s m below meth c ls C hH hr hlk hnm hmt hl hS
  have hl : lv_has ls 3 [(0, .ref x), (1, .int i)] := hl
  have loop : ∀ (n k : Nat) (ls : Array Slot), k + n = ks.length → mf_pick (fun r => decide (mf_id r = i)) (fun _ _ => false) ((mf_L ks).take k) = none → lv_has ls 3 [(2, .int (nI k)), (0, .ref x), (1, .int i)] → W p l e ({ frames := 3, cells := 0, slots := 0, locals := 64 } : Room) s m (([.ref x, .int i] : List Value).toArray) below meth c H [] 0 0 (MQ below (mf_K (some (.int (mf_ix (mf_place i (mf_L ks)))))) (([.ref x, .int i] : List Value).toArray) s 0 0 (fun _ => False)) (F0 m 2 ls []) := by
    intro n
    induction n with
    | zero =>
      intro k  ls hk i0 hl
      obtain rfl : k = ks.length := by omega
      refine lv_iload_n C.x C.b md_F_placeOf_2 rfl (lv_at hl 0 rfl) ?_
      refine lv_aload_n C.x C.b md_F_placeOf_3 rfl (lv_at hl 1 rfl) ?_
      refine mf_gf C (ci := 3) (N := 4) rfl mi_F 0 (by decide) mt_84 hx (v := .ref al) rfl md_F_placeOf_4 ?_
      refine mf_cks (va_runV (As := []) (rest := [.int (nI ks.length)]) C.f (k_A_size l D k5 t0 A H al _ hAL) (mf_cV C mt_205 mt_202 mt_4 mt_203 mt_204 mh_A_size ⟨by decide, by decide⟩) (mf_preV C.ev hS (mf_rv C (ci := 0) (N := 3) rfl hal)) rfl rfl hl.1 rfl (lv_room (Nat.le_of_ble_eq_true rfl)) md_F_placeOf_7 ⟨by omega, by omega⟩) ?_
      rw [List.length_map]
      refine lv_icmp_ge (tgt := 39) C.x C.b md_F_placeOf_10 (by decide) (fun h1 => ?_) (fun h1 => ?_)
      · skip
        refine lv_iconst (v := (-1)) C.x C.b md_F_placeOf_39 (by decide) ?_
        rw [show mf_place i (mf_L ks) = none from mf_pick_all (by rw [show (mf_L ks).length = ks.length from List.length_map _]; exact i0)]
        exact mf_ri C.x C.b hH hr hlk md_F_placeOf_40
      · exact absurd (Int32.le_refl _) h1
    | succ n ih =>
      intro k  ls hk i0 hl
      have hkk : k < ks.length := by omega
      have hkl : k < ks.length := by omega
      obtain ⟨⟨a, o⟩, hq⟩ := mf_at_lt hkl
      have ho : va_at D mf_cl (a, .inr (1, mf_fs o)) H := (hks (a, o) (List.mem_of_getElem? hq)).1
      refine lv_iload_n C.x C.b md_F_placeOf_2 rfl (lv_at hl 0 rfl) ?_
      refine lv_aload_n C.x C.b md_F_placeOf_3 rfl (lv_at hl 1 rfl) ?_
      refine mf_gf C (ci := 3) (N := 4) rfl mi_F 0 (by decide) mt_84 hx (v := .ref al) rfl md_F_placeOf_4 ?_
      refine mf_cks (va_runV (As := []) (rest := [.int (nI k)]) C.f (k_A_size l D k5 t0 A H al _ hAL) (mf_cV C mt_205 mt_202 mt_4 mt_203 mt_204 mh_A_size ⟨by decide, by decide⟩) (mf_preV C.ev hS (mf_rv C (ci := 0) (N := 3) rfl hal)) rfl rfl hl.1 rfl (lv_room (Nat.le_of_ble_eq_true rfl)) md_F_placeOf_7 ⟨by omega, by omega⟩) ?_
      rw [List.length_map]
      refine lv_icmp_ge (tgt := 39) C.x C.b md_F_placeOf_10 (by decide) (fun h2 => ?_) (fun h2 => ?_)
      · exact absurd h2 (nI_ge hkk (by omega))
      · skip
        refine lv_aload_n C.x C.b md_F_placeOf_13 rfl (lv_at hl 1 rfl) ?_
        refine mf_gf C (ci := 3) (N := 4) rfl mi_F 0 (by decide) mt_84 hx (v := .ref al) rfl md_F_placeOf_14 ?_
        refine lv_iload_n C.x C.b md_F_placeOf_17 rfl (lv_at hl 0 rfl) ?_
        refine mf_cks (va_runV (As := [.int (nI k)]) (rest := []) C.f (k_A_get l D k5 t0 A H al k a _ hAL (mf_kq hq)) (mf_cV C mt_209 mt_206 mt_4 mt_207 mt_208 mh_A_get ⟨by decide, by decide⟩) (mf_preV C.ev hS (mf_rv C (ci := 0) (N := 3) rfl hal)) rfl rfl hl.1 rfl (lv_room (Nat.le_of_ble_eq_true rfl)) md_F_placeOf_18 ⟨by omega, by omega⟩) ?_
        refine mf_cast C (ci := 1) (N := 6) rfl mt_220 ho md_F_placeOf_21 ?_
        refine mf_gfN C (ci := 1) (N := 6) rfl mi_O 0 (by decide) (C.ev.2.1.1 (163, "MatchFloor$Order", "id", "I") (List.mem_of_getElem? (i := 4) rfl)) ho (v := .int (mf_id o)) rfl md_F_placeOf_24 ?_
        refine lv_iload_n C.x C.b md_F_placeOf_27 rfl (lv_at hl 2 rfl) ?_
        refine lv_icmp_ne (tgt := 33) C.x C.b md_F_placeOf_28 (by decide) (fun h3 => ?_) (fun h3 => ?_)
        · skip
          refine lv_iinc (k := 0) (v := nI (k + 1)) (lv' := [(2, .int (nI (k + 1))), (0, .ref x), (1, .int i)]) C.x C.b md_F_placeOf_33 hl rfl (nI_1 _) (by decide) rfl (fun ls hl => ?_)
          refine lv_goto (tgt := 2) C.x C.b md_F_placeOf_36 (by decide) ?_
          exact ih (k + 1)  ls (by omega) (mf_pick_pass i0 (mf_kl hq) (by simp [h2, Int32.not_le.mp h2, h3])) (lv_sub hl [0, 1, 2] rfl)
        · skip
          refine lv_iload_n C.x C.b md_F_placeOf_31 rfl (lv_at hl 0 rfl) ?_
          rw [show mf_place i (mf_L ks) = some (k, o) from mf_pick_found i0 (mf_kl hq) (by simp [h2, Int32.not_le.mp h2, h3])]
          exact mf_ri C.x C.b hH hr hlk md_F_placeOf_32
  refine lv_iconst (v := 0) C.x C.b md_F_placeOf_0 (by decide) ?_
  refine lv_istore_n (lv' := [(2, .int 0), (0, .ref x), (1, .int i)]) C.x C.b md_F_placeOf_1 rfl hl (by decide) rfl (fun ls hl => ?_)
  exact loop ks.length 0  ls (by omega) rfl (lv_sub hl [0, 1, 2] rfl)
set_option maxRecDepth 100000 in
set_option maxHeartbeats 4000000 in
theorem k_F_placeOfDue (l : Launch) (D : va_G) (k5 : mf_k5) (t0 : Nat × Nat) (A : Nat → Prop) (H : Heap) (x al tp : Nat) (due met : Int32) (ks : List (Nat × mf_O)) (g : mf_G) (hC : mf_CL D k5 t0 A H x al tp due met ks) (hT : mf_TP D k5 A H tp g) : mf_cRO l my_F_placeOfDue mc_F_placeOfDue 2 (some .int) { frames := 3, cells := 0, slots := 0, locals := 64 } D (mf_tys k5) t0 A H [.ref x] (some (.int (mf_ix (mf_dueAt g.2.1 (mf_L ks))))) := by
  obtain ⟨hx, hAx, hAL, hks, hnd⟩ := hC
  obtain ⟨ed, mc, hal, hA1, hle, hor⟩ := id hAL
  rw [List.length_map] at hle
  obtain ⟨rw, rr, rf, rx, htp, hA3, hrw, hA4, hrf, hrr, hin⟩ := hT
  refine mf_of (by decide) (Nat.le_of_ble_eq_true rfl) ?_
  intro p e s m below meth c ls C hH hr hlk hnm hmt hl hS
  have hl : lv_has ls 2 [(0, .ref x)] := hl
  have loop : ∀ (n k : Nat) (ls : Array Slot), k + n = ks.length → mf_pick (fun r => mf_due r g.2.1) (fun _ _ => false) ((mf_L ks).take k) = none → lv_has ls 2 [(1, .int (nI k)), (0, .ref x)] → W p l e ({ frames := 3, cells := 0, slots := 0, locals := 64 } : Room) s m (([.ref x] : List Value).toArray) below meth c H [] 0 0 (MQ below (mf_K (some (.int (mf_ix (mf_dueAt g.2.1 (mf_L ks)))))) (([.ref x] : List Value).toArray) s 0 0 (fun _ => False)) (F0 m 2 ls []) := by
    intro n
    induction n with
    | zero =>
      intro k  ls hk i0 hl
      obtain rfl : k = ks.length := by omega
      refine lv_iload_n C.x C.b md_F_placeOfDue_2 rfl (lv_at hl 0 rfl) ?_
      refine lv_aload_n C.x C.b md_F_placeOfDue_3 rfl (lv_at hl 1 rfl) ?_
      refine mf_gf C (ci := 3) (N := 4) rfl mi_F 0 (by decide) mt_84 hx (v := .ref al) rfl md_F_placeOfDue_4 ?_
      refine mf_cks (va_runV (As := []) (rest := [.int (nI ks.length)]) C.f (k_A_size l D k5 t0 A H al _ hAL) (mf_cV C mt_205 mt_202 mt_4 mt_203 mt_204 mh_A_size ⟨by decide, by decide⟩) (mf_preV C.ev hS (mf_rv C (ci := 0) (N := 3) rfl hal)) rfl rfl hl.1 rfl (lv_room (Nat.le_of_ble_eq_true rfl)) md_F_placeOfDue_7 ⟨by omega, by omega⟩) ?_
      rw [List.length_map]
      refine lv_icmp_ge (tgt := 45) C.x C.b md_F_placeOfDue_10 (by decide) (fun h1 => ?_) (fun h1 => ?_)
      · skip
        refine lv_iconst (v := (-1)) C.x C.b md_F_placeOfDue_45 (by decide) ?_
        rw [show mf_dueAt g.2.1 (mf_L ks) = none from mf_pick_all (by rw [show (mf_L ks).length = ks.length from List.length_map _]; exact i0)]
        exact mf_ri C.x C.b hH hr hlk md_F_placeOfDue_46
      · exact absurd (Int32.le_refl _) h1
    | succ n ih =>
      intro k  ls hk i0 hl
      have hkk : k < ks.length := by omega
      have hkl : k < ks.length := by omega
      obtain ⟨⟨a, o⟩, hq⟩ := mf_at_lt hkl
      have ho : va_at D mf_cl (a, .inr (1, mf_fs o)) H := (hks (a, o) (List.mem_of_getElem? hq)).1
      refine lv_iload_n C.x C.b md_F_placeOfDue_2 rfl (lv_at hl 0 rfl) ?_
      refine lv_aload_n C.x C.b md_F_placeOfDue_3 rfl (lv_at hl 1 rfl) ?_
      refine mf_gf C (ci := 3) (N := 4) rfl mi_F 0 (by decide) mt_84 hx (v := .ref al) rfl md_F_placeOfDue_4 ?_
      refine mf_cks (va_runV (As := []) (rest := [.int (nI k)]) C.f (k_A_size l D k5 t0 A H al _ hAL) (mf_cV C mt_205 mt_202 mt_4 mt_203 mt_204 mh_A_size ⟨by decide, by decide⟩) (mf_preV C.ev hS (mf_rv C (ci := 0) (N := 3) rfl hal)) rfl rfl hl.1 rfl (lv_room (Nat.le_of_ble_eq_true rfl)) md_F_placeOfDue_7 ⟨by omega, by omega⟩) ?_
      rw [List.length_map]
      refine lv_icmp_ge (tgt := 45) C.x C.b md_F_placeOfDue_10 (by decide) (fun h2 => ?_) (fun h2 => ?_)
      · exact absurd h2 (nI_ge hkk (by omega))
      · skip
        refine lv_aload_n C.x C.b md_F_placeOfDue_13 rfl (lv_at hl 1 rfl) ?_
        refine mf_gf C (ci := 3) (N := 4) rfl mi_F 0 (by decide) mt_84 hx (v := .ref al) rfl md_F_placeOfDue_14 ?_
        refine lv_iload_n C.x C.b md_F_placeOfDue_17 rfl (lv_at hl 0 rfl) ?_
        refine mf_cks (va_runV (As := [.int (nI k)]) (rest := []) C.f (k_A_get l D k5 t0 A H al k a _ hAL (mf_kq hq)) (mf_cV C mt_209 mt_206 mt_4 mt_207 mt_208 mh_A_get ⟨by decide, by decide⟩) (mf_preV C.ev hS (mf_rv C (ci := 0) (N := 3) rfl hal)) rfl rfl hl.1 rfl (lv_room (Nat.le_of_ble_eq_true rfl)) md_F_placeOfDue_18 ⟨by omega, by omega⟩) ?_
        refine mf_cast C (ci := 1) (N := 6) rfl mt_220 ho md_F_placeOfDue_21 ?_
        refine lv_aload_n C.x C.b md_F_placeOfDue_24 rfl (lv_at hl 1 rfl) ?_
        refine mf_gf C (ci := 3) (N := 4) rfl mi_F 1 (by decide) mt_85 hx (v := .ref tp) rfl md_F_placeOfDue_25 ?_
        refine mf_gfN C (ci := 2) (N := 5) rfl mi_T 2 (by decide) (C.ev.2.1.1 (141, "MatchFloor$Tape", "lastPrice", "I") (List.mem_of_getElem? (i := 1) rfl)) htp (v := .int g.2.1) rfl md_F_placeOfDue_28 ?_
        refine mf_cks (va_runVN (As := [.int g.2.1]) (rest := []) C.f (k_O_isDueAt l D k5 t0 A H a o g.2.1 ho) ⟨mf_cN C mt_393 (C.ev.2.1.2.1 ("MatchFloor", 173, my_O_isDueAt) (List.mem_of_getElem? (i := 7) rfl)) mt_14 mh_O_isDueAt ⟨by decide, by decide⟩, C.t mt_392, C.t ms_17⟩ (mf_preV C.ev hS (mf_rv C (ci := 1) (N := 6) rfl ho)) rfl rfl hl.1 rfl (lv_room (Nat.le_of_ble_eq_true rfl)) md_F_placeOfDue_31 ⟨by omega, by omega⟩) ?_
        refine lv_if_eq (tgt := 39) C.x C.b md_F_placeOfDue_34 (by decide) (fun h3 => ?_) (fun h3 => ?_)
        · skip
          refine lv_iinc (k := 0) (v := nI (k + 1)) (lv' := [(1, .int (nI (k + 1))), (0, .ref x)]) C.x C.b md_F_placeOfDue_39 hl rfl (nI_1 _) (by decide) rfl (fun ls hl => ?_)
          refine lv_goto (tgt := 2) C.x C.b md_F_placeOfDue_42 (by decide) ?_
          exact ih (k + 1)  ls (by omega) (mf_pick_pass i0 (mf_kl hq) (by simp [h2, Int32.not_le.mp h2, mf_bI_0.mp h3])) (lv_sub hl [0, 1] rfl)
        · skip
          refine lv_iload_n C.x C.b md_F_placeOfDue_37 rfl (lv_at hl 0 rfl) ?_
          rw [show mf_dueAt g.2.1 (mf_L ks) = some (k, o) from mf_pick_found i0 (mf_kl hq) (by simp [h2, Int32.not_le.mp h2, mf_bI_1.mp h3])]
          exact mf_ri C.x C.b hH hr hlk md_F_placeOfDue_38
  refine lv_iconst (v := 0) C.x C.b md_F_placeOfDue_0 (by decide) ?_
  refine lv_istore_n (lv' := [(1, .int 0), (0, .ref x)]) C.x C.b md_F_placeOfDue_1 rfl hl (by decide) rfl (fun ls hl => ?_)
  exact loop ks.length 0  ls (by omega) rfl (lv_sub hl [0, 1] rfl)
set_option maxRecDepth 100000 in
set_option maxHeartbeats 4000000 in
theorem k_F_leftFor (l : Launch) (D : va_G) (k5 : mf_k5) (t0 : Nat × Nat) (A : Nat → Prop) (H : Heap) (x al tp : Nat) (due met : Int32) (ks : List (Nat × mf_O)) (ca : Nat) (cr : mf_O) (hC : mf_CL D k5 t0 A H x al tp due met ks) (hca : va_at D mf_cl (ca, .inr (1, mf_fs cr)) H) : mf_cRO l my_F_leftFor mc_F_leftFor 6 (some .int) { frames := 3, cells := 0, slots := 0, locals := 64 } D (mf_tys k5) t0 A H [.ref x, .ref ca] (some (.int (mf_sum (fun r => if mf_rests r (mf_other (mf_sd cr)) && (mf_fit r (mf_pr cr) && !decide (mf_ow r = mf_ow cr)) then mf_lf r else 0) (mf_L ks)))) := by
  obtain ⟨hx, hAx, hAL, hks, hnd⟩ := hC
  obtain ⟨ed, mc, hal, hA1, hle, hor⟩ := id hAL
  rw [List.length_map] at hle
  refine mf_of (by decide) (Nat.le_of_ble_eq_true rfl) ?_
  intro p e s m below meth c ls C hH hr hlk hnm hmt hl hS
  have hl : lv_has ls 6 [(0, .ref x), (1, .ref ca)] := hl
  have loop : ∀ (n k : Nat) (r : Int32) (ls : Array Slot), k + n = ks.length → mf_sum (fun r => if mf_rests r (mf_other (mf_sd cr)) && (mf_fit r (mf_pr cr) && !decide (mf_ow r = mf_ow cr)) then mf_lf r else 0) ((mf_L ks).take k) = r → lv_has ls 6 [(4, .int (nI k)), (3, .int r), (2, .int (mf_other (mf_sd cr))), (0, .ref x), (1, .ref ca)] → W p l e ({ frames := 3, cells := 0, slots := 0, locals := 64 } : Room) s m (([.ref x, .ref ca] : List Value).toArray) below meth c H [] 0 0 (MQ below (mf_K (some (.int (mf_sum (fun r => if mf_rests r (mf_other (mf_sd cr)) && (mf_fit r (mf_pr cr) && !decide (mf_ow r = mf_ow cr)) then mf_lf r else 0) (mf_L ks))))) (([.ref x, .ref ca] : List Value).toArray) s 0 0 (fun _ => False)) (F0 m 13 ls []) := by
    intro n
    induction n with
    | zero =>
      intro k r ls hk i0 hl
      obtain rfl : k = ks.length := by omega
      refine lv_iload C.x C.b md_F_leftFor_13 (lv_at hl 0 rfl) ?_
      refine lv_aload_n C.x C.b md_F_leftFor_15 rfl (lv_at hl 3 rfl) ?_
      refine mf_gf C (ci := 3) (N := 4) rfl mi_F 0 (by decide) mt_84 hx (v := .ref al) rfl md_F_leftFor_16 ?_
      refine mf_cks (va_runV (As := []) (rest := [.int (nI ks.length)]) C.f (k_A_size l D k5 t0 A H al _ hAL) (mf_cV C mt_205 mt_202 mt_4 mt_203 mt_204 mh_A_size ⟨by decide, by decide⟩) (mf_preV C.ev hS (mf_rv C (ci := 0) (N := 3) rfl hal)) rfl rfl hl.1 rfl (lv_room (Nat.le_of_ble_eq_true rfl)) md_F_leftFor_19 ⟨by omega, by omega⟩) ?_
      rw [List.length_map]
      refine lv_icmp_ge (tgt := 86) C.x C.b md_F_leftFor_22 (by decide) (fun h1 => ?_) (fun h1 => ?_)
      · skip
        refine lv_iload_n C.x C.b md_F_leftFor_86 rfl (lv_at hl 1 rfl) ?_
        rw [show mf_sum (fun r => if mf_rests r (mf_other (mf_sd cr)) && (mf_fit r (mf_pr cr) && !decide (mf_ow r = mf_ow cr)) then mf_lf r else 0) (mf_L ks) = r by rw [← i0, mf_kt]]
        exact mf_ri C.x C.b hH hr hlk md_F_leftFor_87
      · exact absurd (Int32.le_refl _) h1
    | succ n ih =>
      intro k r ls hk i0 hl
      have hkk : k < ks.length := by omega
      have hkl : k < ks.length := by omega
      obtain ⟨⟨a, o⟩, hq⟩ := mf_at_lt hkl
      have ho : va_at D mf_cl (a, .inr (1, mf_fs o)) H := (hks (a, o) (List.mem_of_getElem? hq)).1
      refine lv_iload C.x C.b md_F_leftFor_13 (lv_at hl 0 rfl) ?_
      refine lv_aload_n C.x C.b md_F_leftFor_15 rfl (lv_at hl 3 rfl) ?_
      refine mf_gf C (ci := 3) (N := 4) rfl mi_F 0 (by decide) mt_84 hx (v := .ref al) rfl md_F_leftFor_16 ?_
      refine mf_cks (va_runV (As := []) (rest := [.int (nI k)]) C.f (k_A_size l D k5 t0 A H al _ hAL) (mf_cV C mt_205 mt_202 mt_4 mt_203 mt_204 mh_A_size ⟨by decide, by decide⟩) (mf_preV C.ev hS (mf_rv C (ci := 0) (N := 3) rfl hal)) rfl rfl hl.1 rfl (lv_room (Nat.le_of_ble_eq_true rfl)) md_F_leftFor_19 ⟨by omega, by omega⟩) ?_
      rw [List.length_map]
      refine lv_icmp_ge (tgt := 86) C.x C.b md_F_leftFor_22 (by decide) (fun h2 => ?_) (fun h2 => ?_)
      · exact absurd h2 (nI_ge hkk (by omega))
      · skip
        refine lv_aload_n C.x C.b md_F_leftFor_25 rfl (lv_at hl 3 rfl) ?_
        refine mf_gf C (ci := 3) (N := 4) rfl mi_F 0 (by decide) mt_84 hx (v := .ref al) rfl md_F_leftFor_26 ?_
        refine lv_iload C.x C.b md_F_leftFor_29 (lv_at hl 0 rfl) ?_
        refine mf_cks (va_runV (As := [.int (nI k)]) (rest := []) C.f (k_A_get l D k5 t0 A H al k a _ hAL (mf_kq hq)) (mf_cV C mt_209 mt_206 mt_4 mt_207 mt_208 mh_A_get ⟨by decide, by decide⟩) (mf_preV C.ev hS (mf_rv C (ci := 0) (N := 3) rfl hal)) rfl rfl hl.1 rfl (lv_room (Nat.le_of_ble_eq_true rfl)) md_F_leftFor_31 ⟨by omega, by omega⟩) ?_
        refine mf_cast C (ci := 1) (N := 6) rfl mt_220 ho md_F_leftFor_34 ?_
        refine lv_astore (lv' := [(5, .ref a), (4, .int (nI k)), (3, .int r), (2, .int (mf_other (mf_sd cr))), (0, .ref x), (1, .ref ca)]) C.x C.b md_F_leftFor_37 hl (by decide) rfl (fun ls hl => ?_)
        refine lv_aload C.x C.b md_F_leftFor_39 (lv_at hl 0 rfl) ?_
        refine lv_iload_n C.x C.b md_F_leftFor_41 rfl (lv_at hl 3 rfl) ?_
        refine mf_cks (va_runVN (As := [.int (mf_other (mf_sd cr))]) (rest := []) C.f (k_O_restsOn l D k5 t0 A H a o (mf_other (mf_sd cr)) ho) ⟨mf_cN C mt_282 (C.ev.2.1.2.1 ("MatchFloor", 166, my_O_restsOn) (List.mem_of_getElem? (i := 2) rfl)) mt_14 mh_O_restsOn ⟨by decide, by decide⟩, C.t mt_281, C.t ms_4⟩ (mf_preV C.ev hS (mf_rv C (ci := 1) (N := 6) rfl ho)) rfl rfl hl.1 rfl (lv_room (Nat.le_of_ble_eq_true rfl)) md_F_leftFor_42 ⟨by omega, by omega⟩) ?_
        refine lv_if_eq (tgt := 80) C.x C.b md_F_leftFor_45 (by decide) (fun h3 => ?_) (fun h3 => ?_)
        · skip
          refine lv_iinc (k := 1) (v := nI (k + 1)) (lv' := [(4, .int (nI (k + 1))), (5, .ref a), (3, .int r), (2, .int (mf_other (mf_sd cr))), (0, .ref x), (1, .ref ca)]) C.x C.b md_F_leftFor_80 hl rfl (nI_1 _) (by decide) rfl (fun ls hl => ?_)
          refine lv_goto (tgt := 13) C.x C.b md_F_leftFor_83 (by decide) ?_
          exact ih (k + 1) r ls (by omega) (mf_sstep (mf_kl hq) i0 (by first | (simp [h2, Int32.not_le.mp h2, mf_bI_0.mp h3]; done) | (exfalso; simp_all; done))) (lv_sub hl [0, 2, 3, 4, 5] rfl)
        · skip
          refine lv_aload C.x C.b md_F_leftFor_48 (lv_at hl 0 rfl) ?_
          refine lv_aload_n C.x C.b md_F_leftFor_50 rfl (lv_at hl 5 rfl) ?_
          refine mf_gfN C (ci := 1) (N := 6) rfl mi_O 4 (by decide) (C.ev.2.1.1 (92, "MatchFloor$Order", "price", "I") (List.mem_of_getElem? (i := 8) rfl)) hca (v := .int (mf_pr cr)) rfl md_F_leftFor_51 ?_
          refine mf_cks (va_runVN (As := [.int (mf_pr cr)]) (rest := []) C.f (k_O_isFitBy l D k5 t0 A H a o (mf_pr cr) ho) ⟨mf_cN C mt_286 (C.ev.2.1.2.1 ("MatchFloor", 186, my_O_isFitBy) (List.mem_of_getElem? (i := 3) rfl)) mt_14 mh_O_isFitBy ⟨by decide, by decide⟩, C.t mt_285, C.t ms_5⟩ (mf_preV C.ev hS (mf_rv C (ci := 1) (N := 6) rfl ho)) rfl rfl hl.1 rfl (lv_room (Nat.le_of_ble_eq_true rfl)) md_F_leftFor_54 ⟨by omega, by omega⟩) ?_
          refine lv_if_eq (tgt := 80) C.x C.b md_F_leftFor_57 (by decide) (fun h4 => ?_) (fun h4 => ?_)
          · skip
            refine lv_iinc (k := 1) (v := nI (k + 1)) (lv' := [(4, .int (nI (k + 1))), (5, .ref a), (3, .int r), (2, .int (mf_other (mf_sd cr))), (0, .ref x), (1, .ref ca)]) C.x C.b md_F_leftFor_80 hl rfl (nI_1 _) (by decide) rfl (fun ls hl => ?_)
            refine lv_goto (tgt := 13) C.x C.b md_F_leftFor_83 (by decide) ?_
            exact ih (k + 1) r ls (by omega) (mf_sstep (mf_kl hq) i0 (by first | (simp [h2, Int32.not_le.mp h2, mf_bI_1.mp h3, mf_bI_0.mp h4]; done) | (exfalso; simp_all; done))) (lv_sub hl [0, 2, 3, 4, 5] rfl)
          · skip
            refine lv_aload C.x C.b md_F_leftFor_60 (lv_at hl 0 rfl) ?_
            refine mf_gfN C (ci := 1) (N := 6) rfl mi_O 1 (by decide) (C.ev.2.1.1 (97, "MatchFloor$Order", "owner", "I") (List.mem_of_getElem? (i := 5) rfl)) ho (v := .int (mf_ow o)) rfl md_F_leftFor_62 ?_
            refine lv_aload_n C.x C.b md_F_leftFor_65 rfl (lv_at hl 5 rfl) ?_
            refine mf_gfN C (ci := 1) (N := 6) rfl mi_O 1 (by decide) (C.ev.2.1.1 (97, "MatchFloor$Order", "owner", "I") (List.mem_of_getElem? (i := 5) rfl)) hca (v := .int (mf_ow cr)) rfl md_F_leftFor_66 ?_
            refine lv_icmp_eq (tgt := 80) C.x C.b md_F_leftFor_69 (by decide) (fun h5 => ?_) (fun h5 => ?_)
            · skip
              refine lv_iinc (k := 1) (v := nI (k + 1)) (lv' := [(4, .int (nI (k + 1))), (5, .ref a), (3, .int r), (2, .int (mf_other (mf_sd cr))), (0, .ref x), (1, .ref ca)]) C.x C.b md_F_leftFor_80 hl rfl (nI_1 _) (by decide) rfl (fun ls hl => ?_)
              refine lv_goto (tgt := 13) C.x C.b md_F_leftFor_83 (by decide) ?_
              exact ih (k + 1) r ls (by omega) (mf_sstep (mf_kl hq) i0 (by first | (simp [h2, Int32.not_le.mp h2, mf_bI_1.mp h3, mf_bI_1.mp h4, h5]; done) | (exfalso; simp_all; done))) (lv_sub hl [0, 2, 3, 4, 5] rfl)
            · skip
              refine lv_iload_n C.x C.b md_F_leftFor_72 rfl (lv_at hl 2 rfl) ?_
              refine lv_aload C.x C.b md_F_leftFor_73 (lv_at hl 0 rfl) ?_
              refine mf_gfN C (ci := 1) (N := 6) rfl mi_O 5 (by decide) (C.ev.2.1.1 (81, "MatchFloor$Order", "left", "I") (List.mem_of_getElem? (i := 9) rfl)) ho (v := .int (mf_lf o)) rfl md_F_leftFor_75 ?_
              refine lv_iadd C.x C.b md_F_leftFor_78 ?_
              refine lv_istore_n (lv' := [(3, .int (r + (mf_lf o))), (5, .ref a), (4, .int (nI k)), (2, .int (mf_other (mf_sd cr))), (0, .ref x), (1, .ref ca)]) C.x C.b md_F_leftFor_79 rfl hl (by decide) rfl (fun ls hl => ?_)
              refine lv_iinc (k := 2) (v := nI (k + 1)) (lv' := [(4, .int (nI (k + 1))), (3, .int (r + (mf_lf o))), (5, .ref a), (2, .int (mf_other (mf_sd cr))), (0, .ref x), (1, .ref ca)]) C.x C.b md_F_leftFor_80 hl rfl (nI_1 _) (by decide) rfl (fun ls hl => ?_)
              refine lv_goto (tgt := 13) C.x C.b md_F_leftFor_83 (by decide) ?_
              exact ih (k + 1) (r + (mf_lf o)) ls (by omega) (mf_sstep (mf_kl hq) i0 (by first | (simp [h2, Int32.not_le.mp h2, mf_bI_1.mp h3, mf_bI_1.mp h4, h5]; done) | (exfalso; simp_all; done))) (lv_sub hl [0, 1, 3, 4, 5] rfl)
  refine lv_aload_n C.x C.b md_F_leftFor_0 rfl (lv_at hl 1 rfl) ?_
  refine mf_gfN C (ci := 1) (N := 6) rfl mi_O 2 (by decide) (C.ev.2.1.1 (125, "MatchFloor$Order", "side", "I") (List.mem_of_getElem? (i := 6) rfl)) hca (v := .int (mf_sd cr)) rfl md_F_leftFor_1 ?_
  refine mf_cks (va_runS (As := [.int (mf_sd cr)]) (rest := []) C.f (k_F_otherSide l D k5 t0 A H (mf_sd cr)) (mf_cS C mt_278 mt_276 mt_1 mt_277 mh_F_otherSide ⟨by decide, by decide⟩) (mf_preS C.ev hS) rfl rfl hl.1 rfl (lv_room (Nat.le_of_ble_eq_true rfl)) md_F_leftFor_4 ⟨by omega, by omega⟩) ?_
  refine lv_istore_n (lv' := [(2, .int (mf_other (mf_sd cr))), (0, .ref x), (1, .ref ca)]) C.x C.b md_F_leftFor_7 rfl hl (by decide) rfl (fun ls hl => ?_)
  refine lv_iconst (v := 0) C.x C.b md_F_leftFor_8 (by decide) ?_
  refine lv_istore_n (lv' := [(3, .int 0), (2, .int (mf_other (mf_sd cr))), (0, .ref x), (1, .ref ca)]) C.x C.b md_F_leftFor_9 rfl hl (by decide) rfl (fun ls hl => ?_)
  refine lv_iconst (v := 0) C.x C.b md_F_leftFor_10 (by decide) ?_
  refine lv_istore (lv' := [(4, .int 0), (3, .int 0), (2, .int (mf_other (mf_sd cr))), (0, .ref x), (1, .ref ca)]) C.x C.b md_F_leftFor_11 hl (by decide) rfl (fun ls hl => ?_)
  exact loop ks.length 0 0 ls (by omega) rfl (lv_sub hl [0, 1, 2, 3, 4] rfl)
set_option maxRecDepth 100000 in
set_option maxHeartbeats 4000000 in
theorem k_F_leftAt (l : Launch) (D : va_G) (k5 : mf_k5) (t0 : Nat × Nat) (A : Nat → Prop) (H : Heap) (x al tp : Nat) (due met : Int32) (ks : List (Nat × mf_O)) (s0 p0 : Int32) (hC : mf_CL D k5 t0 A H x al tp due met ks) : mf_cRO l my_F_leftAt mc_F_leftAt 6 (some .int) { frames := 3, cells := 0, slots := 0, locals := 64 } D (mf_tys k5) t0 A H [.ref x, .int s0, .int p0] (some (.int (mf_sum (fun r => if mf_at s0 p0 r then mf_lf r else 0) (mf_L ks)))) := by
  obtain ⟨hx, hAx, hAL, hks, hnd⟩ := hC
  obtain ⟨ed, mc, hal, hA1, hle, hor⟩ := id hAL
  rw [List.length_map] at hle
  refine mf_of (by decide) (Nat.le_of_ble_eq_true rfl) ?_
  intro p e s m below meth c ls C hH hr hlk hnm hmt hl hS
  have hl : lv_has ls 6 [(0, .ref x), (1, .int s0), (2, .int p0)] := hl
  have loop : ∀ (n k : Nat) (r : Int32) (ls : Array Slot), k + n = ks.length → mf_sum (fun r => if mf_at s0 p0 r then mf_lf r else 0) ((mf_L ks).take k) = r → lv_has ls 6 [(4, .int (nI k)), (3, .int r), (0, .ref x), (1, .int s0), (2, .int p0)] → W p l e ({ frames := 3, cells := 0, slots := 0, locals := 64 } : Room) s m (([.ref x, .int s0, .int p0] : List Value).toArray) below meth c H [] 0 0 (MQ below (mf_K (some (.int (mf_sum (fun r => if mf_at s0 p0 r then mf_lf r else 0) (mf_L ks))))) (([.ref x, .int s0, .int p0] : List Value).toArray) s 0 0 (fun _ => False)) (F0 m 5 ls []) := by
    intro n
    induction n with
    | zero =>
      intro k r ls hk i0 hl
      obtain rfl : k = ks.length := by omega
      refine lv_iload C.x C.b md_F_leftAt_5 (lv_at hl 0 rfl) ?_
      refine lv_aload_n C.x C.b md_F_leftAt_7 rfl (lv_at hl 2 rfl) ?_
      refine mf_gf C (ci := 3) (N := 4) rfl mi_F 0 (by decide) mt_84 hx (v := .ref al) rfl md_F_leftAt_8 ?_
      refine mf_cks (va_runV (As := []) (rest := [.int (nI ks.length)]) C.f (k_A_size l D k5 t0 A H al _ hAL) (mf_cV C mt_205 mt_202 mt_4 mt_203 mt_204 mh_A_size ⟨by decide, by decide⟩) (mf_preV C.ev hS (mf_rv C (ci := 0) (N := 3) rfl hal)) rfl rfl hl.1 rfl (lv_room (Nat.le_of_ble_eq_true rfl)) md_F_leftAt_11 ⟨by omega, by omega⟩) ?_
      rw [List.length_map]
      refine lv_icmp_ge (tgt := 63) C.x C.b md_F_leftAt_14 (by decide) (fun h1 => ?_) (fun h1 => ?_)
      · skip
        refine lv_iload_n C.x C.b md_F_leftAt_63 rfl (lv_at hl 1 rfl) ?_
        rw [show mf_sum (fun r => if mf_at s0 p0 r then mf_lf r else 0) (mf_L ks) = r by rw [← i0, mf_kt]]
        exact mf_ri C.x C.b hH hr hlk md_F_leftAt_64
      · exact absurd (Int32.le_refl _) h1
    | succ n ih =>
      intro k r ls hk i0 hl
      have hkk : k < ks.length := by omega
      have hkl : k < ks.length := by omega
      obtain ⟨⟨a, o⟩, hq⟩ := mf_at_lt hkl
      have ho : va_at D mf_cl (a, .inr (1, mf_fs o)) H := (hks (a, o) (List.mem_of_getElem? hq)).1
      refine lv_iload C.x C.b md_F_leftAt_5 (lv_at hl 0 rfl) ?_
      refine lv_aload_n C.x C.b md_F_leftAt_7 rfl (lv_at hl 2 rfl) ?_
      refine mf_gf C (ci := 3) (N := 4) rfl mi_F 0 (by decide) mt_84 hx (v := .ref al) rfl md_F_leftAt_8 ?_
      refine mf_cks (va_runV (As := []) (rest := [.int (nI k)]) C.f (k_A_size l D k5 t0 A H al _ hAL) (mf_cV C mt_205 mt_202 mt_4 mt_203 mt_204 mh_A_size ⟨by decide, by decide⟩) (mf_preV C.ev hS (mf_rv C (ci := 0) (N := 3) rfl hal)) rfl rfl hl.1 rfl (lv_room (Nat.le_of_ble_eq_true rfl)) md_F_leftAt_11 ⟨by omega, by omega⟩) ?_
      rw [List.length_map]
      refine lv_icmp_ge (tgt := 63) C.x C.b md_F_leftAt_14 (by decide) (fun h2 => ?_) (fun h2 => ?_)
      · exact absurd h2 (nI_ge hkk (by omega))
      · skip
        refine lv_aload_n C.x C.b md_F_leftAt_17 rfl (lv_at hl 2 rfl) ?_
        refine mf_gf C (ci := 3) (N := 4) rfl mi_F 0 (by decide) mt_84 hx (v := .ref al) rfl md_F_leftAt_18 ?_
        refine lv_iload C.x C.b md_F_leftAt_21 (lv_at hl 0 rfl) ?_
        refine mf_cks (va_runV (As := [.int (nI k)]) (rest := []) C.f (k_A_get l D k5 t0 A H al k a _ hAL (mf_kq hq)) (mf_cV C mt_209 mt_206 mt_4 mt_207 mt_208 mh_A_get ⟨by decide, by decide⟩) (mf_preV C.ev hS (mf_rv C (ci := 0) (N := 3) rfl hal)) rfl rfl hl.1 rfl (lv_room (Nat.le_of_ble_eq_true rfl)) md_F_leftAt_23 ⟨by omega, by omega⟩) ?_
        refine mf_cast C (ci := 1) (N := 6) rfl mt_220 ho md_F_leftAt_26 ?_
        refine lv_astore (lv' := [(5, .ref a), (4, .int (nI k)), (3, .int r), (0, .ref x), (1, .int s0), (2, .int p0)]) C.x C.b md_F_leftAt_29 hl (by decide) rfl (fun ls hl => ?_)
        refine lv_aload C.x C.b md_F_leftAt_31 (lv_at hl 0 rfl) ?_
        refine lv_iload_n C.x C.b md_F_leftAt_33 rfl (lv_at hl 4 rfl) ?_
        refine mf_cks (va_runVN (As := [.int s0]) (rest := []) C.f (k_O_restsOn l D k5 t0 A H a o s0 ho) ⟨mf_cN C mt_282 (C.ev.2.1.2.1 ("MatchFloor", 166, my_O_restsOn) (List.mem_of_getElem? (i := 2) rfl)) mt_14 mh_O_restsOn ⟨by decide, by decide⟩, C.t mt_281, C.t ms_4⟩ (mf_preV C.ev hS (mf_rv C (ci := 1) (N := 6) rfl ho)) rfl rfl hl.1 rfl (lv_room (Nat.le_of_ble_eq_true rfl)) md_F_leftAt_34 ⟨by omega, by omega⟩) ?_
        refine lv_if_eq (tgt := 57) C.x C.b md_F_leftAt_37 (by decide) (fun h3 => ?_) (fun h3 => ?_)
        · skip
          refine lv_iinc (k := 1) (v := nI (k + 1)) (lv' := [(4, .int (nI (k + 1))), (5, .ref a), (3, .int r), (0, .ref x), (1, .int s0), (2, .int p0)]) C.x C.b md_F_leftAt_57 hl rfl (nI_1 _) (by decide) rfl (fun ls hl => ?_)
          refine lv_goto (tgt := 5) C.x C.b md_F_leftAt_60 (by decide) ?_
          exact ih (k + 1) r ls (by omega) (mf_sstep (mf_kl hq) i0 (by first | (simp [mf_at, h2, Int32.not_le.mp h2, mf_bI_0.mp h3]; done) | (exfalso; simp_all; done))) (lv_sub hl [0, 2, 3, 4, 5] rfl)
        · skip
          refine lv_aload C.x C.b md_F_leftAt_40 (lv_at hl 0 rfl) ?_
          refine mf_gfN C (ci := 1) (N := 6) rfl mi_O 4 (by decide) (C.ev.2.1.1 (92, "MatchFloor$Order", "price", "I") (List.mem_of_getElem? (i := 8) rfl)) ho (v := .int (mf_pr o)) rfl md_F_leftAt_42 ?_
          refine lv_iload_n C.x C.b md_F_leftAt_45 rfl (lv_at hl 5 rfl) ?_
          refine lv_icmp_ne (tgt := 57) C.x C.b md_F_leftAt_46 (by decide) (fun h4 => ?_) (fun h4 => ?_)
          · skip
            refine lv_iinc (k := 1) (v := nI (k + 1)) (lv' := [(4, .int (nI (k + 1))), (5, .ref a), (3, .int r), (0, .ref x), (1, .int s0), (2, .int p0)]) C.x C.b md_F_leftAt_57 hl rfl (nI_1 _) (by decide) rfl (fun ls hl => ?_)
            refine lv_goto (tgt := 5) C.x C.b md_F_leftAt_60 (by decide) ?_
            exact ih (k + 1) r ls (by omega) (mf_sstep (mf_kl hq) i0 (by first | (simp [mf_at, h2, Int32.not_le.mp h2, mf_bI_1.mp h3, h4]; done) | (exfalso; simp_all; done))) (lv_sub hl [0, 2, 3, 4, 5] rfl)
          · skip
            refine lv_iload_n C.x C.b md_F_leftAt_49 rfl (lv_at hl 2 rfl) ?_
            refine lv_aload C.x C.b md_F_leftAt_50 (lv_at hl 0 rfl) ?_
            refine mf_gfN C (ci := 1) (N := 6) rfl mi_O 5 (by decide) (C.ev.2.1.1 (81, "MatchFloor$Order", "left", "I") (List.mem_of_getElem? (i := 9) rfl)) ho (v := .int (mf_lf o)) rfl md_F_leftAt_52 ?_
            refine lv_iadd C.x C.b md_F_leftAt_55 ?_
            refine lv_istore_n (lv' := [(3, .int (r + (mf_lf o))), (5, .ref a), (4, .int (nI k)), (0, .ref x), (1, .int s0), (2, .int p0)]) C.x C.b md_F_leftAt_56 rfl hl (by decide) rfl (fun ls hl => ?_)
            refine lv_iinc (k := 2) (v := nI (k + 1)) (lv' := [(4, .int (nI (k + 1))), (3, .int (r + (mf_lf o))), (5, .ref a), (0, .ref x), (1, .int s0), (2, .int p0)]) C.x C.b md_F_leftAt_57 hl rfl (nI_1 _) (by decide) rfl (fun ls hl => ?_)
            refine lv_goto (tgt := 5) C.x C.b md_F_leftAt_60 (by decide) ?_
            exact ih (k + 1) (r + (mf_lf o)) ls (by omega) (mf_sstep (mf_kl hq) i0 (by first | (simp [mf_at, h2, Int32.not_le.mp h2, mf_bI_1.mp h3, h4]; done) | (exfalso; simp_all; done))) (lv_sub hl [0, 1, 3, 4, 5] rfl)
  refine lv_iconst (v := 0) C.x C.b md_F_leftAt_0 (by decide) ?_
  refine lv_istore_n (lv' := [(3, .int 0), (0, .ref x), (1, .int s0), (2, .int p0)]) C.x C.b md_F_leftAt_1 rfl hl (by decide) rfl (fun ls hl => ?_)
  refine lv_iconst (v := 0) C.x C.b md_F_leftAt_2 (by decide) ?_
  refine lv_istore (lv' := [(4, .int 0), (3, .int 0), (0, .ref x), (1, .int s0), (2, .int p0)]) C.x C.b md_F_leftAt_3 hl (by decide) rfl (fun ls hl => ?_)
  exact loop ks.length 0 0 ls (by omega) rfl (lv_sub hl [0, 1, 2, 3, 4] rfl)
set_option maxRecDepth 100000 in
set_option maxHeartbeats 4000000 in
theorem k_F_ordersAt (l : Launch) (D : va_G) (k5 : mf_k5) (t0 : Nat × Nat) (A : Nat → Prop) (H : Heap) (x al tp : Nat) (due met : Int32) (ks : List (Nat × mf_O)) (s0 p0 : Int32) (hC : mf_CL D k5 t0 A H x al tp due met ks) : mf_cRO l my_F_ordersAt mc_F_ordersAt 6 (some .int) { frames := 3, cells := 0, slots := 0, locals := 64 } D (mf_tys k5) t0 A H [.ref x, .int s0, .int p0] (some (.int (mf_sum (fun r => if mf_at s0 p0 r then 1 else 0) (mf_L ks)))) := by
  obtain ⟨hx, hAx, hAL, hks, hnd⟩ := hC
  obtain ⟨ed, mc, hal, hA1, hle, hor⟩ := id hAL
  rw [List.length_map] at hle
  refine mf_of (by decide) (Nat.le_of_ble_eq_true rfl) ?_
  intro p e s m below meth c ls C hH hr hlk hnm hmt hl hS
  have hl : lv_has ls 6 [(0, .ref x), (1, .int s0), (2, .int p0)] := hl
  have loop : ∀ (n k : Nat) (r : Int32) (ls : Array Slot), k + n = ks.length → mf_sum (fun r => if mf_at s0 p0 r then 1 else 0) ((mf_L ks).take k) = r → lv_has ls 6 [(4, .int (nI k)), (3, .int r), (0, .ref x), (1, .int s0), (2, .int p0)] → W p l e ({ frames := 3, cells := 0, slots := 0, locals := 64 } : Room) s m (([.ref x, .int s0, .int p0] : List Value).toArray) below meth c H [] 0 0 (MQ below (mf_K (some (.int (mf_sum (fun r => if mf_at s0 p0 r then 1 else 0) (mf_L ks))))) (([.ref x, .int s0, .int p0] : List Value).toArray) s 0 0 (fun _ => False)) (F0 m 5 ls []) := by
    intro n
    induction n with
    | zero =>
      intro k r ls hk i0 hl
      obtain rfl : k = ks.length := by omega
      refine lv_iload C.x C.b md_F_ordersAt_5 (lv_at hl 0 rfl) ?_
      refine lv_aload_n C.x C.b md_F_ordersAt_7 rfl (lv_at hl 2 rfl) ?_
      refine mf_gf C (ci := 3) (N := 4) rfl mi_F 0 (by decide) mt_84 hx (v := .ref al) rfl md_F_ordersAt_8 ?_
      refine mf_cks (va_runV (As := []) (rest := [.int (nI ks.length)]) C.f (k_A_size l D k5 t0 A H al _ hAL) (mf_cV C mt_205 mt_202 mt_4 mt_203 mt_204 mh_A_size ⟨by decide, by decide⟩) (mf_preV C.ev hS (mf_rv C (ci := 0) (N := 3) rfl hal)) rfl rfl hl.1 rfl (lv_room (Nat.le_of_ble_eq_true rfl)) md_F_ordersAt_11 ⟨by omega, by omega⟩) ?_
      rw [List.length_map]
      refine lv_icmp_ge (tgt := 58) C.x C.b md_F_ordersAt_14 (by decide) (fun h1 => ?_) (fun h1 => ?_)
      · skip
        refine lv_iload_n C.x C.b md_F_ordersAt_58 rfl (lv_at hl 1 rfl) ?_
        rw [show mf_sum (fun r => if mf_at s0 p0 r then 1 else 0) (mf_L ks) = r by rw [← i0, mf_kt]]
        exact mf_ri C.x C.b hH hr hlk md_F_ordersAt_59
      · exact absurd (Int32.le_refl _) h1
    | succ n ih =>
      intro k r ls hk i0 hl
      have hkk : k < ks.length := by omega
      have hkl : k < ks.length := by omega
      obtain ⟨⟨a, o⟩, hq⟩ := mf_at_lt hkl
      have ho : va_at D mf_cl (a, .inr (1, mf_fs o)) H := (hks (a, o) (List.mem_of_getElem? hq)).1
      refine lv_iload C.x C.b md_F_ordersAt_5 (lv_at hl 0 rfl) ?_
      refine lv_aload_n C.x C.b md_F_ordersAt_7 rfl (lv_at hl 2 rfl) ?_
      refine mf_gf C (ci := 3) (N := 4) rfl mi_F 0 (by decide) mt_84 hx (v := .ref al) rfl md_F_ordersAt_8 ?_
      refine mf_cks (va_runV (As := []) (rest := [.int (nI k)]) C.f (k_A_size l D k5 t0 A H al _ hAL) (mf_cV C mt_205 mt_202 mt_4 mt_203 mt_204 mh_A_size ⟨by decide, by decide⟩) (mf_preV C.ev hS (mf_rv C (ci := 0) (N := 3) rfl hal)) rfl rfl hl.1 rfl (lv_room (Nat.le_of_ble_eq_true rfl)) md_F_ordersAt_11 ⟨by omega, by omega⟩) ?_
      rw [List.length_map]
      refine lv_icmp_ge (tgt := 58) C.x C.b md_F_ordersAt_14 (by decide) (fun h2 => ?_) (fun h2 => ?_)
      · exact absurd h2 (nI_ge hkk (by omega))
      · skip
        refine lv_aload_n C.x C.b md_F_ordersAt_17 rfl (lv_at hl 2 rfl) ?_
        refine mf_gf C (ci := 3) (N := 4) rfl mi_F 0 (by decide) mt_84 hx (v := .ref al) rfl md_F_ordersAt_18 ?_
        refine lv_iload C.x C.b md_F_ordersAt_21 (lv_at hl 0 rfl) ?_
        refine mf_cks (va_runV (As := [.int (nI k)]) (rest := []) C.f (k_A_get l D k5 t0 A H al k a _ hAL (mf_kq hq)) (mf_cV C mt_209 mt_206 mt_4 mt_207 mt_208 mh_A_get ⟨by decide, by decide⟩) (mf_preV C.ev hS (mf_rv C (ci := 0) (N := 3) rfl hal)) rfl rfl hl.1 rfl (lv_room (Nat.le_of_ble_eq_true rfl)) md_F_ordersAt_23 ⟨by omega, by omega⟩) ?_
        refine mf_cast C (ci := 1) (N := 6) rfl mt_220 ho md_F_ordersAt_26 ?_
        refine lv_astore (lv' := [(5, .ref a), (4, .int (nI k)), (3, .int r), (0, .ref x), (1, .int s0), (2, .int p0)]) C.x C.b md_F_ordersAt_29 hl (by decide) rfl (fun ls hl => ?_)
        refine lv_aload C.x C.b md_F_ordersAt_31 (lv_at hl 0 rfl) ?_
        refine lv_iload_n C.x C.b md_F_ordersAt_33 rfl (lv_at hl 4 rfl) ?_
        refine mf_cks (va_runVN (As := [.int s0]) (rest := []) C.f (k_O_restsOn l D k5 t0 A H a o s0 ho) ⟨mf_cN C mt_282 (C.ev.2.1.2.1 ("MatchFloor", 166, my_O_restsOn) (List.mem_of_getElem? (i := 2) rfl)) mt_14 mh_O_restsOn ⟨by decide, by decide⟩, C.t mt_281, C.t ms_4⟩ (mf_preV C.ev hS (mf_rv C (ci := 1) (N := 6) rfl ho)) rfl rfl hl.1 rfl (lv_room (Nat.le_of_ble_eq_true rfl)) md_F_ordersAt_34 ⟨by omega, by omega⟩) ?_
        refine lv_if_eq (tgt := 52) C.x C.b md_F_ordersAt_37 (by decide) (fun h3 => ?_) (fun h3 => ?_)
        · skip
          refine lv_iinc (k := 1) (v := nI (k + 1)) (lv' := [(4, .int (nI (k + 1))), (5, .ref a), (3, .int r), (0, .ref x), (1, .int s0), (2, .int p0)]) C.x C.b md_F_ordersAt_52 hl rfl (nI_1 _) (by decide) rfl (fun ls hl => ?_)
          refine lv_goto (tgt := 5) C.x C.b md_F_ordersAt_55 (by decide) ?_
          exact ih (k + 1) r ls (by omega) (mf_sstep (mf_kl hq) i0 (by first | (simp [mf_at, h2, Int32.not_le.mp h2, mf_bI_0.mp h3]; done) | (exfalso; simp_all; done))) (lv_sub hl [0, 2, 3, 4, 5] rfl)
        · skip
          refine lv_aload C.x C.b md_F_ordersAt_40 (lv_at hl 0 rfl) ?_
          refine mf_gfN C (ci := 1) (N := 6) rfl mi_O 4 (by decide) (C.ev.2.1.1 (92, "MatchFloor$Order", "price", "I") (List.mem_of_getElem? (i := 8) rfl)) ho (v := .int (mf_pr o)) rfl md_F_ordersAt_42 ?_
          refine lv_iload_n C.x C.b md_F_ordersAt_45 rfl (lv_at hl 5 rfl) ?_
          refine lv_icmp_ne (tgt := 52) C.x C.b md_F_ordersAt_46 (by decide) (fun h4 => ?_) (fun h4 => ?_)
          · skip
            refine lv_iinc (k := 1) (v := nI (k + 1)) (lv' := [(4, .int (nI (k + 1))), (5, .ref a), (3, .int r), (0, .ref x), (1, .int s0), (2, .int p0)]) C.x C.b md_F_ordersAt_52 hl rfl (nI_1 _) (by decide) rfl (fun ls hl => ?_)
            refine lv_goto (tgt := 5) C.x C.b md_F_ordersAt_55 (by decide) ?_
            exact ih (k + 1) r ls (by omega) (mf_sstep (mf_kl hq) i0 (by first | (simp [mf_at, h2, Int32.not_le.mp h2, mf_bI_1.mp h3, h4]; done) | (exfalso; simp_all; done))) (lv_sub hl [0, 2, 3, 4, 5] rfl)
          · skip
            refine lv_iinc (k := 2) (v := r + 1) (lv' := [(3, .int (r + 1)), (5, .ref a), (4, .int (nI k)), (0, .ref x), (1, .int s0), (2, .int p0)]) C.x C.b md_F_ordersAt_49 hl rfl rfl (by decide) rfl (fun ls hl => ?_)
            refine lv_iinc (k := 2) (v := nI (k + 1)) (lv' := [(4, .int (nI (k + 1))), (3, .int (r + 1)), (5, .ref a), (0, .ref x), (1, .int s0), (2, .int p0)]) C.x C.b md_F_ordersAt_52 hl rfl (nI_1 _) (by decide) rfl (fun ls hl => ?_)
            refine lv_goto (tgt := 5) C.x C.b md_F_ordersAt_55 (by decide) ?_
            exact ih (k + 1) (r + 1) ls (by omega) (mf_sstep (mf_kl hq) i0 (by first | (simp [mf_at, h2, Int32.not_le.mp h2, mf_bI_1.mp h3, h4]; done) | (exfalso; simp_all; done))) (lv_sub hl [0, 1, 3, 4, 5] rfl)
  refine lv_iconst (v := 0) C.x C.b md_F_ordersAt_0 (by decide) ?_
  refine lv_istore_n (lv' := [(3, .int 0), (0, .ref x), (1, .int s0), (2, .int p0)]) C.x C.b md_F_ordersAt_1 rfl hl (by decide) rfl (fun ls hl => ?_)
  refine lv_iconst (v := 0) C.x C.b md_F_ordersAt_2 (by decide) ?_
  refine lv_istore (lv' := [(4, .int 0), (3, .int 0), (0, .ref x), (1, .int s0), (2, .int p0)]) C.x C.b md_F_ordersAt_3 hl (by decide) rfl (fun ls hl => ?_)
  exact loop ks.length 0 0 ls (by omega) rfl (lv_sub hl [0, 1, 2, 3, 4] rfl)
set_option maxRecDepth 100000 in
set_option maxHeartbeats 4000000 in
theorem k_F_countWaiting (l : Launch) (D : va_G) (k5 : mf_k5) (t0 : Nat × Nat) (A : Nat → Prop) (H : Heap) (x al tp : Nat) (due met : Int32) (ks : List (Nat × mf_O)) (hC : mf_CL D k5 t0 A H x al tp due met ks) : mf_cRO l my_F_countWaiting mc_F_countWaiting 3 (some .int) { frames := 3, cells := 0, slots := 0, locals := 64 } D (mf_tys k5) t0 A H [.ref x] (some (.int (mf_sum (fun r => if mf_wt r = 0 then 0 else 1) (mf_L ks)))) := by
  obtain ⟨hx, hAx, hAL, hks, hnd⟩ := hC
  obtain ⟨ed, mc, hal, hA1, hle, hor⟩ := id hAL
  rw [List.length_map] at hle
  refine mf_of (by decide) (Nat.le_of_ble_eq_true rfl) ?_
  intro p e s m below meth c ls C hH hr hlk hnm hmt hl hS
  have hl : lv_has ls 3 [(0, .ref x)] := hl
  have loop : ∀ (n k : Nat) (r : Int32) (ls : Array Slot), k + n = ks.length → mf_sum (fun r => if mf_wt r = 0 then 0 else 1) ((mf_L ks).take k) = r → lv_has ls 3 [(2, .int (nI k)), (1, .int r), (0, .ref x)] → W p l e ({ frames := 3, cells := 0, slots := 0, locals := 64 } : Room) s m (([.ref x] : List Value).toArray) below meth c H [] 0 0 (MQ below (mf_K (some (.int (mf_sum (fun r => if mf_wt r = 0 then 0 else 1) (mf_L ks))))) (([.ref x] : List Value).toArray) s 0 0 (fun _ => False)) (F0 m 4 ls []) := by
    intro n
    induction n with
    | zero =>
      intro k r ls hk i0 hl
      obtain rfl : k = ks.length := by omega
      refine lv_iload_n C.x C.b md_F_countWaiting_4 rfl (lv_at hl 0 rfl) ?_
      refine lv_aload_n C.x C.b md_F_countWaiting_5 rfl (lv_at hl 2 rfl) ?_
      refine mf_gf C (ci := 3) (N := 4) rfl mi_F 0 (by decide) mt_84 hx (v := .ref al) rfl md_F_countWaiting_6 ?_
      refine mf_cks (va_runV (As := []) (rest := [.int (nI ks.length)]) C.f (k_A_size l D k5 t0 A H al _ hAL) (mf_cV C mt_205 mt_202 mt_4 mt_203 mt_204 mh_A_size ⟨by decide, by decide⟩) (mf_preV C.ev hS (mf_rv C (ci := 0) (N := 3) rfl hal)) rfl rfl hl.1 rfl (lv_room (Nat.le_of_ble_eq_true rfl)) md_F_countWaiting_9 ⟨by omega, by omega⟩) ?_
      rw [List.length_map]
      refine lv_icmp_ge (tgt := 41) C.x C.b md_F_countWaiting_12 (by decide) (fun h1 => ?_) (fun h1 => ?_)
      · skip
        refine lv_iload_n C.x C.b md_F_countWaiting_41 rfl (lv_at hl 1 rfl) ?_
        rw [show mf_sum (fun r => if mf_wt r = 0 then 0 else 1) (mf_L ks) = r by rw [← i0, mf_kt]]
        exact mf_ri C.x C.b hH hr hlk md_F_countWaiting_42
      · exact absurd (Int32.le_refl _) h1
    | succ n ih =>
      intro k r ls hk i0 hl
      have hkk : k < ks.length := by omega
      have hkl : k < ks.length := by omega
      obtain ⟨⟨a, o⟩, hq⟩ := mf_at_lt hkl
      have ho : va_at D mf_cl (a, .inr (1, mf_fs o)) H := (hks (a, o) (List.mem_of_getElem? hq)).1
      refine lv_iload_n C.x C.b md_F_countWaiting_4 rfl (lv_at hl 0 rfl) ?_
      refine lv_aload_n C.x C.b md_F_countWaiting_5 rfl (lv_at hl 2 rfl) ?_
      refine mf_gf C (ci := 3) (N := 4) rfl mi_F 0 (by decide) mt_84 hx (v := .ref al) rfl md_F_countWaiting_6 ?_
      refine mf_cks (va_runV (As := []) (rest := [.int (nI k)]) C.f (k_A_size l D k5 t0 A H al _ hAL) (mf_cV C mt_205 mt_202 mt_4 mt_203 mt_204 mh_A_size ⟨by decide, by decide⟩) (mf_preV C.ev hS (mf_rv C (ci := 0) (N := 3) rfl hal)) rfl rfl hl.1 rfl (lv_room (Nat.le_of_ble_eq_true rfl)) md_F_countWaiting_9 ⟨by omega, by omega⟩) ?_
      rw [List.length_map]
      refine lv_icmp_ge (tgt := 41) C.x C.b md_F_countWaiting_12 (by decide) (fun h2 => ?_) (fun h2 => ?_)
      · exact absurd h2 (nI_ge hkk (by omega))
      · skip
        refine lv_aload_n C.x C.b md_F_countWaiting_15 rfl (lv_at hl 2 rfl) ?_
        refine mf_gf C (ci := 3) (N := 4) rfl mi_F 0 (by decide) mt_84 hx (v := .ref al) rfl md_F_countWaiting_16 ?_
        refine lv_iload_n C.x C.b md_F_countWaiting_19 rfl (lv_at hl 0 rfl) ?_
        refine mf_cks (va_runV (As := [.int (nI k)]) (rest := []) C.f (k_A_get l D k5 t0 A H al k a _ hAL (mf_kq hq)) (mf_cV C mt_209 mt_206 mt_4 mt_207 mt_208 mh_A_get ⟨by decide, by decide⟩) (mf_preV C.ev hS (mf_rv C (ci := 0) (N := 3) rfl hal)) rfl rfl hl.1 rfl (lv_room (Nat.le_of_ble_eq_true rfl)) md_F_countWaiting_20 ⟨by omega, by omega⟩) ?_
        refine mf_cast C (ci := 1) (N := 6) rfl mt_220 ho md_F_countWaiting_23 ?_
        refine mf_gfN C (ci := 1) (N := 6) rfl mi_O 3 (by decide) (C.ev.2.1.1 (88, "MatchFloor$Order", "waits", "Z") (List.mem_of_getElem? (i := 7) rfl)) ho (v := .int (mf_wt o)) rfl md_F_countWaiting_26 ?_
        refine lv_if_eq (tgt := 35) C.x C.b md_F_countWaiting_29 (by decide) (fun h3 => ?_) (fun h3 => ?_)
        · skip
          refine lv_iinc (k := 0) (v := nI (k + 1)) (lv' := [(2, .int (nI (k + 1))), (1, .int r), (0, .ref x)]) C.x C.b md_F_countWaiting_35 hl rfl (nI_1 _) (by decide) rfl (fun ls hl => ?_)
          refine lv_goto (tgt := 4) C.x C.b md_F_countWaiting_38 (by decide) ?_
          exact ih (k + 1) r ls (by omega) (mf_sstep (mf_kl hq) i0 (by first | (simp [h2, Int32.not_le.mp h2, h3]; done) | (exfalso; simp_all; done))) (lv_sub hl [0, 1, 2] rfl)
        · skip
          refine lv_iinc (k := 1) (v := r + 1) (lv' := [(1, .int (r + 1)), (2, .int (nI k)), (0, .ref x)]) C.x C.b md_F_countWaiting_32 hl rfl rfl (by decide) rfl (fun ls hl => ?_)
          refine lv_iinc (k := 1) (v := nI (k + 1)) (lv' := [(2, .int (nI (k + 1))), (1, .int (r + 1)), (0, .ref x)]) C.x C.b md_F_countWaiting_35 hl rfl (nI_1 _) (by decide) rfl (fun ls hl => ?_)
          refine lv_goto (tgt := 4) C.x C.b md_F_countWaiting_38 (by decide) ?_
          exact ih (k + 1) (r + 1) ls (by omega) (mf_sstep (mf_kl hq) i0 (by first | (simp [h2, Int32.not_le.mp h2, h3]; done) | (exfalso; simp_all; done))) (lv_sub hl [0, 1, 2] rfl)
  refine lv_iconst (v := 0) C.x C.b md_F_countWaiting_0 (by decide) ?_
  refine lv_istore_n (lv' := [(1, .int 0), (0, .ref x)]) C.x C.b md_F_countWaiting_1 rfl hl (by decide) rfl (fun ls hl => ?_)
  refine lv_iconst (v := 0) C.x C.b md_F_countWaiting_2 (by decide) ?_
  refine lv_istore_n (lv' := [(2, .int 0), (1, .int 0), (0, .ref x)]) C.x C.b md_F_countWaiting_3 rfl hl (by decide) rfl (fun ls hl => ?_)
  exact loop ks.length 0 0 ls (by omega) rfl (lv_sub hl [0, 1, 2] rfl)
set_option maxRecDepth 100000 in
set_option maxHeartbeats 4000000 in
theorem k_F_ordersBefore (l : Launch) (D : va_G) (k5 : mf_k5) (t0 : Nat × Nat) (A : Nat → Prop) (H : Heap) (x al tp : Nat) (due met : Int32) (ks : List (Nat × mf_O)) (j b : Nat) (y : mf_O) (hC : mf_CL D k5 t0 A H x al tp due met ks) (hj : ks[j]? = some (b, y)) : mf_cRO l my_F_ordersBefore mc_F_ordersBefore 5 (some .int) { frames := 3, cells := 0, slots := 0, locals := 64 } D (mf_tys k5) t0 A H [.ref x, .int (nI j)] (some (.int (mf_sum (fun r => if mf_queues r y then 1 else 0) ((mf_L ks).take j)))) := by
  obtain ⟨hx, hAx, hAL, hks, hnd⟩ := hC
  obtain ⟨ed, mc, hal, hA1, hle, hor⟩ := id hAL
  rw [List.length_map] at hle
  have hjl : j < ks.length := (List.getElem?_eq_some_iff.mp hj).1
  have hb : va_at D mf_cl (b, .inr (1, mf_fs y)) H := (hks (b, y) (List.mem_of_getElem? hj)).1
  refine mf_of (by decide) (Nat.le_of_ble_eq_true rfl) ?_
  intro p e s m below meth c ls C hH hr hlk hnm hmt hl hS
  have hl : lv_has ls 5 [(0, .ref x), (1, .int (nI j))] := hl
  have loop : ∀ (n k : Nat) (r : Int32) (ls : Array Slot), k + n = j → mf_sum (fun r => if mf_queues r y then 1 else 0) ((mf_L ks).take k) = r → lv_has ls 5 [(4, .int (nI k)), (3, .int r), (2, .ref b), (0, .ref x), (1, .int (nI j))] → W p l e ({ frames := 3, cells := 0, slots := 0, locals := 64 } : Room) s m (([.ref x, .int (nI j)] : List Value).toArray) below meth c H [] 0 0 (MQ below (mf_K (some (.int (mf_sum (fun r => if mf_queues r y then 1 else 0) ((mf_L ks).take j))))) (([.ref x, .int (nI j)] : List Value).toArray) s 0 0 (fun _ => False)) (F0 m 17 ls []) := by
    intro n
    induction n with
    | zero =>
      intro k r ls hk i0 hl
      obtain rfl : j = k := by omega
      refine lv_iload C.x C.b md_F_ordersBefore_17 (lv_at hl 0 rfl) ?_
      refine lv_iload_n C.x C.b md_F_ordersBefore_19 rfl (lv_at hl 4 rfl) ?_
      refine lv_icmp_ge (tgt := 51) C.x C.b md_F_ordersBefore_20 (by decide) (fun h1 => ?_) (fun h1 => ?_)
      · skip
        refine lv_iload_n C.x C.b md_F_ordersBefore_51 rfl (lv_at hl 1 rfl) ?_
        rw [show mf_sum (fun r => if mf_queues r y then 1 else 0) ((mf_L ks).take j) = r by exact i0]
        exact mf_ri C.x C.b hH hr hlk md_F_ordersBefore_52
      · exact absurd (Int32.le_refl _) h1
    | succ n ih =>
      intro k r ls hk i0 hl
      have hkk : k < j := by omega
      have hkl : k < ks.length := by omega
      obtain ⟨⟨a, o⟩, hq⟩ := mf_at_lt hkl
      have ho : va_at D mf_cl (a, .inr (1, mf_fs o)) H := (hks (a, o) (List.mem_of_getElem? hq)).1
      refine lv_iload C.x C.b md_F_ordersBefore_17 (lv_at hl 0 rfl) ?_
      refine lv_iload_n C.x C.b md_F_ordersBefore_19 rfl (lv_at hl 4 rfl) ?_
      refine lv_icmp_ge (tgt := 51) C.x C.b md_F_ordersBefore_20 (by decide) (fun h2 => ?_) (fun h2 => ?_)
      · exact absurd h2 (nI_ge hkk (by omega))
      · skip
        refine lv_aload_n C.x C.b md_F_ordersBefore_23 rfl (lv_at hl 3 rfl) ?_
        refine mf_gf C (ci := 3) (N := 4) rfl mi_F 0 (by decide) mt_84 hx (v := .ref al) rfl md_F_ordersBefore_24 ?_
        refine lv_iload C.x C.b md_F_ordersBefore_27 (lv_at hl 0 rfl) ?_
        refine mf_cks (va_runV (As := [.int (nI k)]) (rest := []) C.f (k_A_get l D k5 t0 A H al k a _ hAL (mf_kq hq)) (mf_cV C mt_209 mt_206 mt_4 mt_207 mt_208 mh_A_get ⟨by decide, by decide⟩) (mf_preV C.ev hS (mf_rv C (ci := 0) (N := 3) rfl hal)) rfl rfl hl.1 rfl (lv_room (Nat.le_of_ble_eq_true rfl)) md_F_ordersBefore_29 ⟨by omega, by omega⟩) ?_
        refine mf_cast C (ci := 1) (N := 6) rfl mt_220 ho md_F_ordersBefore_32 ?_
        refine lv_aload_n C.x C.b md_F_ordersBefore_35 rfl (lv_at hl 2 rfl) ?_
        refine mf_cks (va_runVN (As := [.ref b]) (rest := []) C.f (k_O_queuesWith l D k5 t0 A H a b o y ho hb) ⟨mf_cN C mt_503 (C.ev.2.1.2.1 ("MatchFloor", 218, my_O_queuesWith) (List.mem_of_getElem? (i := 8) rfl)) mt_14 mh_O_queuesWith ⟨by decide, by decide⟩, C.t mt_502, C.t ms_24⟩ (mf_preV C.ev hS (mf_rv C (ci := 1) (N := 6) rfl ho)) rfl rfl hl.1 rfl (lv_room (Nat.le_of_ble_eq_true rfl)) md_F_ordersBefore_36 ⟨by omega, by omega⟩) ?_
        refine lv_if_eq (tgt := 45) C.x C.b md_F_ordersBefore_39 (by decide) (fun h3 => ?_) (fun h3 => ?_)
        · skip
          refine lv_iinc (k := 0) (v := nI (k + 1)) (lv' := [(4, .int (nI (k + 1))), (3, .int r), (2, .ref b), (0, .ref x), (1, .int (nI j))]) C.x C.b md_F_ordersBefore_45 hl rfl (nI_1 _) (by decide) rfl (fun ls hl => ?_)
          refine lv_goto (tgt := 17) C.x C.b md_F_ordersBefore_48 (by decide) ?_
          exact ih (k + 1) r ls (by omega) (mf_sstep (mf_kl hq) i0 (by first | (simp [h2, Int32.not_le.mp h2, mf_bI_0.mp h3]; done) | (exfalso; simp_all; done))) (lv_sub hl [0, 1, 2, 3, 4] rfl)
        · skip
          refine lv_iinc (k := 1) (v := r + 1) (lv' := [(3, .int (r + 1)), (4, .int (nI k)), (2, .ref b), (0, .ref x), (1, .int (nI j))]) C.x C.b md_F_ordersBefore_42 hl rfl rfl (by decide) rfl (fun ls hl => ?_)
          refine lv_iinc (k := 1) (v := nI (k + 1)) (lv' := [(4, .int (nI (k + 1))), (3, .int (r + 1)), (2, .ref b), (0, .ref x), (1, .int (nI j))]) C.x C.b md_F_ordersBefore_45 hl rfl (nI_1 _) (by decide) rfl (fun ls hl => ?_)
          refine lv_goto (tgt := 17) C.x C.b md_F_ordersBefore_48 (by decide) ?_
          exact ih (k + 1) (r + 1) ls (by omega) (mf_sstep (mf_kl hq) i0 (by first | (simp [h2, Int32.not_le.mp h2, mf_bI_1.mp h3]; done) | (exfalso; simp_all; done))) (lv_sub hl [0, 1, 2, 3, 4] rfl)
  refine lv_aload_n C.x C.b md_F_ordersBefore_0 rfl (lv_at hl 0 rfl) ?_
  refine mf_gf C (ci := 3) (N := 4) rfl mi_F 0 (by decide) mt_84 hx (v := .ref al) rfl md_F_ordersBefore_1 ?_
  refine lv_iload_n C.x C.b md_F_ordersBefore_4 rfl (lv_at hl 1 rfl) ?_
  refine mf_cks (va_runV (As := [.int (nI j)]) (rest := []) C.f (k_A_get l D k5 t0 A H al j b _ hAL (mf_kq hj)) (mf_cV C mt_209 mt_206 mt_4 mt_207 mt_208 mh_A_get ⟨by decide, by decide⟩) (mf_preV C.ev hS (mf_rv C (ci := 0) (N := 3) rfl hal)) rfl rfl hl.1 rfl (lv_room (Nat.le_of_ble_eq_true rfl)) md_F_ordersBefore_5 ⟨by omega, by omega⟩) ?_
  refine mf_cast C (ci := 1) (N := 6) rfl mt_220 hb md_F_ordersBefore_8 ?_
  refine lv_astore_n (lv' := [(2, .ref b), (0, .ref x), (1, .int (nI j))]) C.x C.b md_F_ordersBefore_11 rfl hl (by decide) rfl (fun ls hl => ?_)
  refine lv_iconst (v := 0) C.x C.b md_F_ordersBefore_12 (by decide) ?_
  refine lv_istore_n (lv' := [(3, .int 0), (2, .ref b), (0, .ref x), (1, .int (nI j))]) C.x C.b md_F_ordersBefore_13 rfl hl (by decide) rfl (fun ls hl => ?_)
  refine lv_iconst (v := 0) C.x C.b md_F_ordersBefore_14 (by decide) ?_
  refine lv_istore (lv' := [(4, .int 0), (3, .int 0), (2, .ref b), (0, .ref x), (1, .int (nI j))]) C.x C.b md_F_ordersBefore_15 hl (by decide) rfl (fun ls hl => ?_)
  exact loop j 0 0 ls (by omega) rfl (lv_sub hl [0, 1, 2, 3, 4] rfl)
set_option maxRecDepth 100000 in
set_option maxHeartbeats 4000000 in
theorem k_F_placeOfFirst (l : Launch) (D : va_G) (k5 : mf_k5) (t0 : Nat × Nat) (A : Nat → Prop) (H : Heap) (x al tp : Nat) (due met : Int32) (ks : List (Nat × mf_O)) (s0 : Int32) (hC : mf_CL D k5 t0 A H x al tp due met ks) : mf_cRO l my_F_placeOfFirst mc_F_placeOfFirst 6 (some .int) { frames := 3, cells := 0, slots := 0, locals := 64 } D (mf_tys k5) t0 A H [.ref x, .int s0] (some (.int (mf_ix (mf_first s0 (mf_L ks))))) := by
  obtain ⟨hx, hAx, hAL, hks, hnd⟩ := hC
  obtain ⟨ed, mc, hal, hA1, hle, hor⟩ := id hAL
  rw [List.length_map] at hle
  refine mf_of (by decide) (Nat.le_of_ble_eq_true rfl) ?_
  intro p e s m below meth c ls C hH hr hlk hnm hmt hl hS
  have hl : lv_has ls 6 [(0, .ref x), (1, .int s0)] := hl
  have loop : ∀ (n k : Nat) (r : Option (Nat × mf_O)) (ls : Array Slot), k + n = ks.length → mf_pick (fun r => mf_rests r s0) (mf_lt s0) ((mf_L ks).take k) = r → lv_has ls 6 [(4, .int (nI k)), (2, .int (mf_ix r)), (3, .int (mf_prOf (fun r => r) r)), (0, .ref x), (1, .int s0)] → W p l e ({ frames := 3, cells := 0, slots := 0, locals := 64 } : Room) s m (([.ref x, .int s0] : List Value).toArray) below meth c H [] 0 0 (MQ below (mf_K (some (.int (mf_ix (mf_first s0 (mf_L ks)))))) (([.ref x, .int s0] : List Value).toArray) s 0 0 (fun _ => False)) (F0 m 7 ls []) := by
    intro n
    induction n with
    | zero =>
      intro k r ls hk i0 hl
      obtain rfl : k = ks.length := by omega
      refine lv_iload C.x C.b md_F_placeOfFirst_7 (lv_at hl 0 rfl) ?_
      refine lv_aload_n C.x C.b md_F_placeOfFirst_9 rfl (lv_at hl 3 rfl) ?_
      refine mf_gf C (ci := 3) (N := 4) rfl mi_F 0 (by decide) mt_84 hx (v := .ref al) rfl md_F_placeOfFirst_10 ?_
      refine mf_cks (va_runV (As := []) (rest := [.int (nI ks.length)]) C.f (k_A_size l D k5 t0 A H al _ hAL) (mf_cV C mt_205 mt_202 mt_4 mt_203 mt_204 mh_A_size ⟨by decide, by decide⟩) (mf_preV C.ev hS (mf_rv C (ci := 0) (N := 3) rfl hal)) rfl rfl hl.1 rfl (lv_room (Nat.le_of_ble_eq_true rfl)) md_F_placeOfFirst_13 ⟨by omega, by omega⟩) ?_
      rw [List.length_map]
      refine lv_icmp_ge (tgt := 75) C.x C.b md_F_placeOfFirst_16 (by decide) (fun h1 => ?_) (fun h1 => ?_)
      · skip
        refine lv_iload_n C.x C.b md_F_placeOfFirst_75 rfl (lv_at hl 1 rfl) ?_
        rw [show mf_first s0 (mf_L ks) = r from mf_pick_all (by rw [show (mf_L ks).length = ks.length from List.length_map _]; exact i0)]
        exact mf_ri C.x C.b hH hr hlk md_F_placeOfFirst_76
      · exact absurd (Int32.le_refl _) h1
    | succ n ih =>
      intro k r ls hk i0 hl
      have hkk : k < ks.length := by omega
      have hkl : k < ks.length := by omega
      obtain ⟨⟨a, o⟩, hq⟩ := mf_at_lt hkl
      have ho : va_at D mf_cl (a, .inr (1, mf_fs o)) H := (hks (a, o) (List.mem_of_getElem? hq)).1
      rcases r with _ | ⟨j, y⟩
      · have hl : lv_has ls 6 [(4, .int (nI k)), (2, .int (-1)), (3, .int 0), (0, .ref x), (1, .int s0)] := hl
        refine lv_iload C.x C.b md_F_placeOfFirst_7 (lv_at hl 0 rfl) ?_
        refine lv_aload_n C.x C.b md_F_placeOfFirst_9 rfl (lv_at hl 3 rfl) ?_
        refine mf_gf C (ci := 3) (N := 4) rfl mi_F 0 (by decide) mt_84 hx (v := .ref al) rfl md_F_placeOfFirst_10 ?_
        refine mf_cks (va_runV (As := []) (rest := [.int (nI k)]) C.f (k_A_size l D k5 t0 A H al _ hAL) (mf_cV C mt_205 mt_202 mt_4 mt_203 mt_204 mh_A_size ⟨by decide, by decide⟩) (mf_preV C.ev hS (mf_rv C (ci := 0) (N := 3) rfl hal)) rfl rfl hl.1 rfl (lv_room (Nat.le_of_ble_eq_true rfl)) md_F_placeOfFirst_13 ⟨by omega, by omega⟩) ?_
        rw [List.length_map]
        refine lv_icmp_ge (tgt := 75) C.x C.b md_F_placeOfFirst_16 (by decide) (fun h2 => ?_) (fun h2 => ?_)
        · exact absurd h2 (nI_ge hkk (by omega))
        · skip
          refine lv_aload_n C.x C.b md_F_placeOfFirst_19 rfl (lv_at hl 3 rfl) ?_
          refine mf_gf C (ci := 3) (N := 4) rfl mi_F 0 (by decide) mt_84 hx (v := .ref al) rfl md_F_placeOfFirst_20 ?_
          refine lv_iload C.x C.b md_F_placeOfFirst_23 (lv_at hl 0 rfl) ?_
          refine mf_cks (va_runV (As := [.int (nI k)]) (rest := []) C.f (k_A_get l D k5 t0 A H al k a _ hAL (mf_kq hq)) (mf_cV C mt_209 mt_206 mt_4 mt_207 mt_208 mh_A_get ⟨by decide, by decide⟩) (mf_preV C.ev hS (mf_rv C (ci := 0) (N := 3) rfl hal)) rfl rfl hl.1 rfl (lv_room (Nat.le_of_ble_eq_true rfl)) md_F_placeOfFirst_25 ⟨by omega, by omega⟩) ?_
          refine mf_cast C (ci := 1) (N := 6) rfl mt_220 ho md_F_placeOfFirst_28 ?_
          refine lv_astore (lv' := [(5, .ref a), (4, .int (nI k)), (2, .int (-1)), (3, .int 0), (0, .ref x), (1, .int s0)]) C.x C.b md_F_placeOfFirst_31 hl (by decide) rfl (fun ls hl => ?_)
          refine lv_aload C.x C.b md_F_placeOfFirst_33 (lv_at hl 0 rfl) ?_
          refine lv_iload_n C.x C.b md_F_placeOfFirst_35 rfl (lv_at hl 5 rfl) ?_
          refine mf_cks (va_runVN (As := [.int s0]) (rest := []) C.f (k_O_restsOn l D k5 t0 A H a o s0 ho) ⟨mf_cN C mt_282 (C.ev.2.1.2.1 ("MatchFloor", 166, my_O_restsOn) (List.mem_of_getElem? (i := 2) rfl)) mt_14 mh_O_restsOn ⟨by decide, by decide⟩, C.t mt_281, C.t ms_4⟩ (mf_preV C.ev hS (mf_rv C (ci := 1) (N := 6) rfl ho)) rfl rfl hl.1 rfl (lv_room (Nat.le_of_ble_eq_true rfl)) md_F_placeOfFirst_36 ⟨by omega, by omega⟩) ?_
          refine lv_if_eq (tgt := 69) C.x C.b md_F_placeOfFirst_39 (by decide) (fun h3 => ?_) (fun h3 => ?_)
          · skip
            refine lv_iinc (k := 1) (v := nI (k + 1)) (lv' := [(4, .int (nI (k + 1))), (5, .ref a), (2, .int (-1)), (3, .int 0), (0, .ref x), (1, .int s0)]) C.x C.b md_F_placeOfFirst_69 hl rfl (nI_1 _) (by decide) rfl (fun ls hl => ?_)
            refine lv_goto (tgt := 7) C.x C.b md_F_placeOfFirst_72 (by decide) ?_
            exact ih (k + 1) none ls (by omega) (mf_step (mf_kl hq) i0 (by first | (simp [mf_cmp, mf_lt, h2, Int32.not_le.mp h2, mf_bI_0.mp h3]; done) | (exfalso; simp_all; done))) (lv_sub hl [0, 2, 3, 4, 5] rfl)
          · skip
            refine lv_iload_n C.x C.b md_F_placeOfFirst_42 rfl (lv_at hl 2 rfl) ?_
            refine lv_iconst (v := (-1)) C.x C.b md_F_placeOfFirst_43 (by decide) ?_
            refine lv_icmp_eq (tgt := 60) C.x C.b md_F_placeOfFirst_44 (by decide) (fun h4 => ?_) (fun h4 => ?_)
            · skip
              refine lv_iload C.x C.b md_F_placeOfFirst_60 (lv_at hl 1 rfl) ?_
              refine lv_istore_n (lv' := [(2, .int (nI k)), (5, .ref a), (4, .int (nI k)), (3, .int 0), (0, .ref x), (1, .int s0)]) C.x C.b md_F_placeOfFirst_62 rfl hl (by decide) rfl (fun ls hl => ?_)
              refine lv_aload C.x C.b md_F_placeOfFirst_63 (lv_at hl 1 rfl) ?_
              refine mf_gfN C (ci := 1) (N := 6) rfl mi_O 4 (by decide) (C.ev.2.1.1 (92, "MatchFloor$Order", "price", "I") (List.mem_of_getElem? (i := 8) rfl)) ho (v := .int (mf_pr o)) rfl md_F_placeOfFirst_65 ?_
              refine lv_istore_n (lv' := [(3, .int (mf_pr o)), (2, .int (nI k)), (5, .ref a), (4, .int (nI k)), (0, .ref x), (1, .int s0)]) C.x C.b md_F_placeOfFirst_68 rfl hl (by decide) rfl (fun ls hl => ?_)
              refine lv_iinc (k := 3) (v := nI (k + 1)) (lv' := [(4, .int (nI (k + 1))), (3, .int (mf_pr o)), (2, .int (nI k)), (5, .ref a), (0, .ref x), (1, .int s0)]) C.x C.b md_F_placeOfFirst_69 hl rfl (nI_1 _) (by decide) rfl (fun ls hl => ?_)
              refine lv_goto (tgt := 7) C.x C.b md_F_placeOfFirst_72 (by decide) ?_
              exact ih (k + 1) (some (k, o)) ls (by omega) (mf_step (mf_kl hq) i0 (by first | (simp [mf_cmp, mf_lt, h2, Int32.not_le.mp h2, mf_bI_1.mp h3, h4]; done) | (exfalso; simp_all; done))) (lv_sub hl [0, 2, 1, 4, 5] rfl)
            · exact absurd rfl h4
      · have hl : lv_has ls 6 [(4, .int (nI k)), (2, .int (nI j)), (3, .int (mf_pr y)), (0, .ref x), (1, .int s0)] := hl
        have hj : j < k := mf_pick_lt i0
        refine lv_iload C.x C.b md_F_placeOfFirst_7 (lv_at hl 0 rfl) ?_
        refine lv_aload_n C.x C.b md_F_placeOfFirst_9 rfl (lv_at hl 3 rfl) ?_
        refine mf_gf C (ci := 3) (N := 4) rfl mi_F 0 (by decide) mt_84 hx (v := .ref al) rfl md_F_placeOfFirst_10 ?_
        refine mf_cks (va_runV (As := []) (rest := [.int (nI k)]) C.f (k_A_size l D k5 t0 A H al _ hAL) (mf_cV C mt_205 mt_202 mt_4 mt_203 mt_204 mh_A_size ⟨by decide, by decide⟩) (mf_preV C.ev hS (mf_rv C (ci := 0) (N := 3) rfl hal)) rfl rfl hl.1 rfl (lv_room (Nat.le_of_ble_eq_true rfl)) md_F_placeOfFirst_13 ⟨by omega, by omega⟩) ?_
        rw [List.length_map]
        refine lv_icmp_ge (tgt := 75) C.x C.b md_F_placeOfFirst_16 (by decide) (fun h5 => ?_) (fun h5 => ?_)
        · exact absurd h5 (nI_ge hkk (by omega))
        · skip
          refine lv_aload_n C.x C.b md_F_placeOfFirst_19 rfl (lv_at hl 3 rfl) ?_
          refine mf_gf C (ci := 3) (N := 4) rfl mi_F 0 (by decide) mt_84 hx (v := .ref al) rfl md_F_placeOfFirst_20 ?_
          refine lv_iload C.x C.b md_F_placeOfFirst_23 (lv_at hl 0 rfl) ?_
          refine mf_cks (va_runV (As := [.int (nI k)]) (rest := []) C.f (k_A_get l D k5 t0 A H al k a _ hAL (mf_kq hq)) (mf_cV C mt_209 mt_206 mt_4 mt_207 mt_208 mh_A_get ⟨by decide, by decide⟩) (mf_preV C.ev hS (mf_rv C (ci := 0) (N := 3) rfl hal)) rfl rfl hl.1 rfl (lv_room (Nat.le_of_ble_eq_true rfl)) md_F_placeOfFirst_25 ⟨by omega, by omega⟩) ?_
          refine mf_cast C (ci := 1) (N := 6) rfl mt_220 ho md_F_placeOfFirst_28 ?_
          refine lv_astore (lv' := [(5, .ref a), (4, .int (nI k)), (2, .int (nI j)), (3, .int (mf_pr y)), (0, .ref x), (1, .int s0)]) C.x C.b md_F_placeOfFirst_31 hl (by decide) rfl (fun ls hl => ?_)
          refine lv_aload C.x C.b md_F_placeOfFirst_33 (lv_at hl 0 rfl) ?_
          refine lv_iload_n C.x C.b md_F_placeOfFirst_35 rfl (lv_at hl 5 rfl) ?_
          refine mf_cks (va_runVN (As := [.int s0]) (rest := []) C.f (k_O_restsOn l D k5 t0 A H a o s0 ho) ⟨mf_cN C mt_282 (C.ev.2.1.2.1 ("MatchFloor", 166, my_O_restsOn) (List.mem_of_getElem? (i := 2) rfl)) mt_14 mh_O_restsOn ⟨by decide, by decide⟩, C.t mt_281, C.t ms_4⟩ (mf_preV C.ev hS (mf_rv C (ci := 1) (N := 6) rfl ho)) rfl rfl hl.1 rfl (lv_room (Nat.le_of_ble_eq_true rfl)) md_F_placeOfFirst_36 ⟨by omega, by omega⟩) ?_
          refine lv_if_eq (tgt := 69) C.x C.b md_F_placeOfFirst_39 (by decide) (fun h6 => ?_) (fun h6 => ?_)
          · skip
            refine lv_iinc (k := 1) (v := nI (k + 1)) (lv' := [(4, .int (nI (k + 1))), (5, .ref a), (2, .int (nI j)), (3, .int (mf_pr y)), (0, .ref x), (1, .int s0)]) C.x C.b md_F_placeOfFirst_69 hl rfl (nI_1 _) (by decide) rfl (fun ls hl => ?_)
            refine lv_goto (tgt := 7) C.x C.b md_F_placeOfFirst_72 (by decide) ?_
            exact ih (k + 1) (some (j, y)) ls (by omega) (mf_step (mf_kl hq) i0 (by first | (simp [mf_cmp, mf_lt, h5, Int32.not_le.mp h5, mf_bI_0.mp h6]; done) | (exfalso; simp_all; done))) (lv_sub hl [0, 2, 3, 4, 5] rfl)
          · skip
            refine lv_iload_n C.x C.b md_F_placeOfFirst_42 rfl (lv_at hl 2 rfl) ?_
            refine lv_iconst (v := (-1)) C.x C.b md_F_placeOfFirst_43 (by decide) ?_
            refine lv_icmp_eq (tgt := 60) C.x C.b md_F_placeOfFirst_44 (by decide) (fun h7 => ?_) (fun h7 => ?_)
            · exact absurd h7 (mf_nI_ne (by omega))
            · skip
              refine lv_iload_n C.x C.b md_F_placeOfFirst_47 rfl (lv_at hl 5 rfl) ?_
              refine lv_aload C.x C.b md_F_placeOfFirst_48 (lv_at hl 0 rfl) ?_
              refine mf_gfN C (ci := 1) (N := 6) rfl mi_O 4 (by decide) (C.ev.2.1.1 (92, "MatchFloor$Order", "price", "I") (List.mem_of_getElem? (i := 8) rfl)) ho (v := .int (mf_pr o)) rfl md_F_placeOfFirst_50 ?_
              refine lv_iload_n C.x C.b md_F_placeOfFirst_53 rfl (lv_at hl 3 rfl) ?_
              refine mf_cks (va_runS (As := [.int s0, .int (mf_pr o), .int (mf_pr y)]) (rest := []) C.f (k_F_isBetter l D k5 t0 A H s0 (mf_pr o) (mf_pr y)) (mf_cS C mt_290 mt_295 mt_1 mt_289 mh_F_isBetter ⟨by decide, by decide⟩) (mf_preS C.ev hS) rfl rfl hl.1 rfl (lv_room (Nat.le_of_ble_eq_true rfl)) md_F_placeOfFirst_54 ⟨by omega, by omega⟩) ?_
              refine lv_if_eq (tgt := 69) C.x C.b md_F_placeOfFirst_57 (by decide) (fun h8 => ?_) (fun h8 => ?_)
              · skip
                refine lv_iinc (k := 1) (v := nI (k + 1)) (lv' := [(4, .int (nI (k + 1))), (5, .ref a), (2, .int (nI j)), (3, .int (mf_pr y)), (0, .ref x), (1, .int s0)]) C.x C.b md_F_placeOfFirst_69 hl rfl (nI_1 _) (by decide) rfl (fun ls hl => ?_)
                refine lv_goto (tgt := 7) C.x C.b md_F_placeOfFirst_72 (by decide) ?_
                exact ih (k + 1) (some (j, y)) ls (by omega) (mf_step (mf_kl hq) i0 (by first | (simp [mf_cmp, mf_lt, h5, Int32.not_le.mp h5, mf_bI_1.mp h6, h7, mf_bI_0.mp h8]; done) | (exfalso; simp_all; done))) (lv_sub hl [0, 2, 3, 4, 5] rfl)
              · skip
                refine lv_iload C.x C.b md_F_placeOfFirst_60 (lv_at hl 1 rfl) ?_
                refine lv_istore_n (lv' := [(2, .int (nI k)), (5, .ref a), (4, .int (nI k)), (3, .int (mf_pr y)), (0, .ref x), (1, .int s0)]) C.x C.b md_F_placeOfFirst_62 rfl hl (by decide) rfl (fun ls hl => ?_)
                refine lv_aload C.x C.b md_F_placeOfFirst_63 (lv_at hl 1 rfl) ?_
                refine mf_gfN C (ci := 1) (N := 6) rfl mi_O 4 (by decide) (C.ev.2.1.1 (92, "MatchFloor$Order", "price", "I") (List.mem_of_getElem? (i := 8) rfl)) ho (v := .int (mf_pr o)) rfl md_F_placeOfFirst_65 ?_
                refine lv_istore_n (lv' := [(3, .int (mf_pr o)), (2, .int (nI k)), (5, .ref a), (4, .int (nI k)), (0, .ref x), (1, .int s0)]) C.x C.b md_F_placeOfFirst_68 rfl hl (by decide) rfl (fun ls hl => ?_)
                refine lv_iinc (k := 3) (v := nI (k + 1)) (lv' := [(4, .int (nI (k + 1))), (3, .int (mf_pr o)), (2, .int (nI k)), (5, .ref a), (0, .ref x), (1, .int s0)]) C.x C.b md_F_placeOfFirst_69 hl rfl (nI_1 _) (by decide) rfl (fun ls hl => ?_)
                refine lv_goto (tgt := 7) C.x C.b md_F_placeOfFirst_72 (by decide) ?_
                exact ih (k + 1) (some (k, o)) ls (by omega) (mf_step (mf_kl hq) i0 (by first | (simp [mf_cmp, mf_lt, h5, Int32.not_le.mp h5, mf_bI_1.mp h6, h7, mf_bI_1.mp h8]; done) | (exfalso; simp_all; done))) (lv_sub hl [0, 2, 1, 4, 5] rfl)
  refine lv_iconst (v := (-1)) C.x C.b md_F_placeOfFirst_0 (by decide) ?_
  refine lv_istore_n (lv' := [(2, .int (-1)), (0, .ref x), (1, .int s0)]) C.x C.b md_F_placeOfFirst_1 rfl hl (by decide) rfl (fun ls hl => ?_)
  refine lv_iconst (v := 0) C.x C.b md_F_placeOfFirst_2 (by decide) ?_
  refine lv_istore_n (lv' := [(3, .int 0), (2, .int (-1)), (0, .ref x), (1, .int s0)]) C.x C.b md_F_placeOfFirst_3 rfl hl (by decide) rfl (fun ls hl => ?_)
  refine lv_iconst (v := 0) C.x C.b md_F_placeOfFirst_4 (by decide) ?_
  refine lv_istore (lv' := [(4, .int 0), (3, .int 0), (2, .int (-1)), (0, .ref x), (1, .int s0)]) C.x C.b md_F_placeOfFirst_5 hl (by decide) rfl (fun ls hl => ?_)
  exact loop ks.length 0 none ls (by omega) rfl (lv_sub hl [0, 2, 1, 3, 4] rfl)
set_option maxRecDepth 100000 in
set_option maxHeartbeats 4000000 in
theorem k_F_nextPrice (l : Launch) (D : va_G) (k5 : mf_k5) (t0 : Nat × Nat) (A : Nat → Prop) (H : Heap) (x al tp : Nat) (due met : Int32) (ks : List (Nat × mf_O)) (s0 b0 : Int32) (hC : mf_CL D k5 t0 A H x al tp due met ks) (hpr : ∀ r ∈ mf_L ks, mf_pr r ≠ 0) : mf_cRO l my_F_nextPrice mc_F_nextPrice 8 (some .int) { frames := 3, cells := 0, slots := 0, locals := 64 } D (mf_tys k5) t0 A H [.ref x, .int s0, .int b0] (some (.int (mf_prOf (fun r => r) (mf_pick (mf_behind s0 b0) (mf_lt s0) (mf_L ks))))) := by
  obtain ⟨hx, hAx, hAL, hks, hnd⟩ := hC
  obtain ⟨ed, mc, hal, hA1, hle, hor⟩ := id hAL
  rw [List.length_map] at hle
  refine mf_of (by decide) (Nat.le_of_ble_eq_true rfl) ?_
  intro p e s m below meth c ls C hH hr hlk hnm hmt hl hS
  have hl : lv_has ls 8 [(0, .ref x), (1, .int s0), (2, .int b0)] := hl
  have loop : ∀ (n k : Nat) (r : Option (Nat × mf_O)) (ls : Array Slot), k + n = ks.length → mf_pick (mf_behind s0 b0) (mf_lt s0) ((mf_L ks).take k) = r → lv_has ls 8 [(4, .int (nI k)), (3, .int (mf_prOf (fun r => r) r)), (0, .ref x), (1, .int s0), (2, .int b0)] → W p l e ({ frames := 3, cells := 0, slots := 0, locals := 64 } : Room) s m (([.ref x, .int s0, .int b0] : List Value).toArray) below meth c H [] 0 0 (MQ below (mf_K (some (.int (mf_prOf (fun r => r) (mf_pick (mf_behind s0 b0) (mf_lt s0) (mf_L ks)))))) (([.ref x, .int s0, .int b0] : List Value).toArray) s 0 0 (fun _ => False)) (F0 m 5 ls []) := by
    intro n
    induction n with
    | zero =>
      intro k r ls hk i0 hl
      obtain rfl : k = ks.length := by omega
      refine lv_iload C.x C.b md_F_nextPrice_5 (lv_at hl 0 rfl) ?_
      refine lv_aload_n C.x C.b md_F_nextPrice_7 rfl (lv_at hl 2 rfl) ?_
      refine mf_gf C (ci := 3) (N := 4) rfl mi_F 0 (by decide) mt_84 hx (v := .ref al) rfl md_F_nextPrice_8 ?_
      refine mf_cks (va_runV (As := []) (rest := [.int (nI ks.length)]) C.f (k_A_size l D k5 t0 A H al _ hAL) (mf_cV C mt_205 mt_202 mt_4 mt_203 mt_204 mh_A_size ⟨by decide, by decide⟩) (mf_preV C.ev hS (mf_rv C (ci := 0) (N := 3) rfl hal)) rfl rfl hl.1 rfl (lv_room (Nat.le_of_ble_eq_true rfl)) md_F_nextPrice_11 ⟨by omega, by omega⟩) ?_
      rw [List.length_map]
      refine lv_icmp_ge (tgt := 110) C.x C.b md_F_nextPrice_14 (by decide) (fun h1 => ?_) (fun h1 => ?_)
      · skip
        refine lv_iload_n C.x C.b md_F_nextPrice_110 rfl (lv_at hl 1 rfl) ?_
        rw [show mf_pick (mf_behind s0 b0) (mf_lt s0) (mf_L ks) = r from mf_pick_all (by rw [show (mf_L ks).length = ks.length from List.length_map _]; exact i0)]
        exact mf_ri C.x C.b hH hr hlk md_F_nextPrice_111
      · exact absurd (Int32.le_refl _) h1
    | succ n ih =>
      intro k r ls hk i0 hl
      have hkk : k < ks.length := by omega
      have hkl : k < ks.length := by omega
      obtain ⟨⟨a, o⟩, hq⟩ := mf_at_lt hkl
      have ho : va_at D mf_cl (a, .inr (1, mf_fs o)) H := (hks (a, o) (List.mem_of_getElem? hq)).1
      rcases r with _ | ⟨j, y⟩
      · have hl : lv_has ls 8 [(4, .int (nI k)), (3, .int 0), (0, .ref x), (1, .int s0), (2, .int b0)] := hl
        refine lv_iload C.x C.b md_F_nextPrice_5 (lv_at hl 0 rfl) ?_
        refine lv_aload_n C.x C.b md_F_nextPrice_7 rfl (lv_at hl 2 rfl) ?_
        refine mf_gf C (ci := 3) (N := 4) rfl mi_F 0 (by decide) mt_84 hx (v := .ref al) rfl md_F_nextPrice_8 ?_
        refine mf_cks (va_runV (As := []) (rest := [.int (nI k)]) C.f (k_A_size l D k5 t0 A H al _ hAL) (mf_cV C mt_205 mt_202 mt_4 mt_203 mt_204 mh_A_size ⟨by decide, by decide⟩) (mf_preV C.ev hS (mf_rv C (ci := 0) (N := 3) rfl hal)) rfl rfl hl.1 rfl (lv_room (Nat.le_of_ble_eq_true rfl)) md_F_nextPrice_11 ⟨by omega, by omega⟩) ?_
        rw [List.length_map]
        refine lv_icmp_ge (tgt := 110) C.x C.b md_F_nextPrice_14 (by decide) (fun h2 => ?_) (fun h2 => ?_)
        · exact absurd h2 (nI_ge hkk (by omega))
        · skip
          refine lv_aload_n C.x C.b md_F_nextPrice_17 rfl (lv_at hl 2 rfl) ?_
          refine mf_gf C (ci := 3) (N := 4) rfl mi_F 0 (by decide) mt_84 hx (v := .ref al) rfl md_F_nextPrice_18 ?_
          refine lv_iload C.x C.b md_F_nextPrice_21 (lv_at hl 0 rfl) ?_
          refine mf_cks (va_runV (As := [.int (nI k)]) (rest := []) C.f (k_A_get l D k5 t0 A H al k a _ hAL (mf_kq hq)) (mf_cV C mt_209 mt_206 mt_4 mt_207 mt_208 mh_A_get ⟨by decide, by decide⟩) (mf_preV C.ev hS (mf_rv C (ci := 0) (N := 3) rfl hal)) rfl rfl hl.1 rfl (lv_room (Nat.le_of_ble_eq_true rfl)) md_F_nextPrice_23 ⟨by omega, by omega⟩) ?_
          refine mf_cast C (ci := 1) (N := 6) rfl mt_220 ho md_F_nextPrice_26 ?_
          refine lv_astore (lv' := [(5, .ref a), (4, .int (nI k)), (3, .int 0), (0, .ref x), (1, .int s0), (2, .int b0)]) C.x C.b md_F_nextPrice_29 hl (by decide) rfl (fun ls hl => ?_)
          refine lv_iload_n C.x C.b md_F_nextPrice_31 rfl (lv_at hl 5 rfl) ?_
          refine lv_if_eq (tgt := 48) C.x C.b md_F_nextPrice_32 (by decide) (fun h3 => ?_) (fun h3 => ?_)
          · skip
            refine lv_iconst (v := 1) C.x C.b md_F_nextPrice_48 (by decide) ?_
            refine lv_goto (tgt := 53) C.x C.b md_F_nextPrice_49 (by decide) ?_
            refine lv_istore (lv' := [(6, .int 1), (5, .ref a), (4, .int (nI k)), (3, .int 0), (0, .ref x), (1, .int s0), (2, .int b0)]) C.x C.b md_F_nextPrice_53 hl (by decide) rfl (fun ls hl => ?_)
            refine lv_iload_n C.x C.b md_F_nextPrice_55 rfl (lv_at hl 3 rfl) ?_
            refine lv_if_eq (tgt := 72) C.x C.b md_F_nextPrice_56 (by decide) (fun h4 => ?_) (fun h4 => ?_)
            · skip
              refine lv_iconst (v := 1) C.x C.b md_F_nextPrice_72 (by decide) ?_
              refine lv_goto (tgt := 77) C.x C.b md_F_nextPrice_73 (by decide) ?_
              refine lv_istore (lv' := [(7, .int 1), (6, .int 1), (5, .ref a), (4, .int (nI k)), (3, .int 0), (0, .ref x), (1, .int s0), (2, .int b0)]) C.x C.b md_F_nextPrice_77 hl (by decide) rfl (fun ls hl => ?_)
              refine lv_aload C.x C.b md_F_nextPrice_79 (lv_at hl 2 rfl) ?_
              refine lv_iload_n C.x C.b md_F_nextPrice_81 rfl (lv_at hl 6 rfl) ?_
              refine mf_cks (va_runVN (As := [.int s0]) (rest := []) C.f (k_O_restsOn l D k5 t0 A H a o s0 ho) ⟨mf_cN C mt_282 (C.ev.2.1.2.1 ("MatchFloor", 166, my_O_restsOn) (List.mem_of_getElem? (i := 2) rfl)) mt_14 mh_O_restsOn ⟨by decide, by decide⟩, C.t mt_281, C.t ms_4⟩ (mf_preV C.ev hS (mf_rv C (ci := 1) (N := 6) rfl ho)) rfl rfl hl.1 rfl (lv_room (Nat.le_of_ble_eq_true rfl)) md_F_nextPrice_82 ⟨by omega, by omega⟩) ?_
              refine lv_if_eq (tgt := 104) C.x C.b md_F_nextPrice_85 (by decide) (fun h5 => ?_) (fun h5 => ?_)
              · skip
                refine lv_iinc (k := 3) (v := nI (k + 1)) (lv' := [(4, .int (nI (k + 1))), (7, .int 1), (6, .int 1), (5, .ref a), (3, .int 0), (0, .ref x), (1, .int s0), (2, .int b0)]) C.x C.b md_F_nextPrice_104 hl rfl (nI_1 _) (by decide) rfl (fun ls hl => ?_)
                refine lv_goto (tgt := 5) C.x C.b md_F_nextPrice_107 (by decide) ?_
                exact ih (k + 1) none ls (by omega) (mf_step (mf_kl hq) i0 (by first | (simp [mf_cmp, mf_lt, mf_behind, h2, Int32.not_le.mp h2, h3, h4, mf_bI_0.mp h5]; done) | (exfalso; simp_all; done))) (lv_sub hl [0, 4, 5, 6, 7] rfl)
              · skip
                refine lv_iload C.x C.b md_F_nextPrice_88 (lv_at hl 1 rfl) ?_
                refine lv_if_eq (tgt := 104) C.x C.b md_F_nextPrice_90 (by decide) (fun h6 => ?_) (fun h6 => ?_)
                · exact absurd h6 (by decide)
                · skip
                  refine lv_iload C.x C.b md_F_nextPrice_93 (lv_at hl 0 rfl) ?_
                  refine lv_if_eq (tgt := 104) C.x C.b md_F_nextPrice_95 (by decide) (fun h7 => ?_) (fun h7 => ?_)
                  · exact absurd h7 (by decide)
                  · skip
                    refine lv_aload C.x C.b md_F_nextPrice_98 (lv_at hl 2 rfl) ?_
                    refine mf_gfN C (ci := 1) (N := 6) rfl mi_O 4 (by decide) (C.ev.2.1.1 (92, "MatchFloor$Order", "price", "I") (List.mem_of_getElem? (i := 8) rfl)) ho (v := .int (mf_pr o)) rfl md_F_nextPrice_100 ?_
                    refine lv_istore_n (lv' := [(3, .int (mf_pr o)), (7, .int 1), (6, .int 1), (5, .ref a), (4, .int (nI k)), (0, .ref x), (1, .int s0), (2, .int b0)]) C.x C.b md_F_nextPrice_103 rfl hl (by decide) rfl (fun ls hl => ?_)
                    refine lv_iinc (k := 4) (v := nI (k + 1)) (lv' := [(4, .int (nI (k + 1))), (3, .int (mf_pr o)), (7, .int 1), (6, .int 1), (5, .ref a), (0, .ref x), (1, .int s0), (2, .int b0)]) C.x C.b md_F_nextPrice_104 hl rfl (nI_1 _) (by decide) rfl (fun ls hl => ?_)
                    refine lv_goto (tgt := 5) C.x C.b md_F_nextPrice_107 (by decide) ?_
                    exact ih (k + 1) (some (k, o)) ls (by omega) (mf_step (mf_kl hq) i0 (by first | (simp [mf_cmp, mf_lt, mf_behind, h2, Int32.not_le.mp h2, h3, h4, mf_bI_1.mp h5, h6, h7]; done) | (exfalso; simp_all; done))) (lv_sub hl [0, 1, 5, 6, 7] rfl)
            · exact absurd rfl h4
          · skip
            refine lv_iload_n C.x C.b md_F_nextPrice_35 rfl (lv_at hl 4 rfl) ?_
            refine lv_iload_n C.x C.b md_F_nextPrice_36 rfl (lv_at hl 5 rfl) ?_
            refine lv_aload C.x C.b md_F_nextPrice_37 (lv_at hl 0 rfl) ?_
            refine mf_gfN C (ci := 1) (N := 6) rfl mi_O 4 (by decide) (C.ev.2.1.1 (92, "MatchFloor$Order", "price", "I") (List.mem_of_getElem? (i := 8) rfl)) ho (v := .int (mf_pr o)) rfl md_F_nextPrice_39 ?_
            refine mf_cks (va_runS (As := [.int s0, .int b0, .int (mf_pr o)]) (rest := []) C.f (k_F_isBetter l D k5 t0 A H s0 b0 (mf_pr o)) (mf_cS C mt_290 mt_295 mt_1 mt_289 mh_F_isBetter ⟨by decide, by decide⟩) (mf_preS C.ev hS) rfl rfl hl.1 rfl (lv_room (Nat.le_of_ble_eq_true rfl)) md_F_nextPrice_42 ⟨by omega, by omega⟩) ?_
            refine lv_if_eq (tgt := 52) C.x C.b md_F_nextPrice_45 (by decide) (fun h8 => ?_) (fun h8 => ?_)
            · skip
              refine lv_iconst (v := 0) C.x C.b md_F_nextPrice_52 (by decide) ?_
              refine lv_istore (lv' := [(6, .int 0), (5, .ref a), (4, .int (nI k)), (3, .int 0), (0, .ref x), (1, .int s0), (2, .int b0)]) C.x C.b md_F_nextPrice_53 hl (by decide) rfl (fun ls hl => ?_)
              refine lv_iload_n C.x C.b md_F_nextPrice_55 rfl (lv_at hl 3 rfl) ?_
              refine lv_if_eq (tgt := 72) C.x C.b md_F_nextPrice_56 (by decide) (fun h9 => ?_) (fun h9 => ?_)
              · skip
                refine lv_iconst (v := 1) C.x C.b md_F_nextPrice_72 (by decide) ?_
                refine lv_goto (tgt := 77) C.x C.b md_F_nextPrice_73 (by decide) ?_
                refine lv_istore (lv' := [(7, .int 1), (6, .int 0), (5, .ref a), (4, .int (nI k)), (3, .int 0), (0, .ref x), (1, .int s0), (2, .int b0)]) C.x C.b md_F_nextPrice_77 hl (by decide) rfl (fun ls hl => ?_)
                refine lv_aload C.x C.b md_F_nextPrice_79 (lv_at hl 2 rfl) ?_
                refine lv_iload_n C.x C.b md_F_nextPrice_81 rfl (lv_at hl 6 rfl) ?_
                refine mf_cks (va_runVN (As := [.int s0]) (rest := []) C.f (k_O_restsOn l D k5 t0 A H a o s0 ho) ⟨mf_cN C mt_282 (C.ev.2.1.2.1 ("MatchFloor", 166, my_O_restsOn) (List.mem_of_getElem? (i := 2) rfl)) mt_14 mh_O_restsOn ⟨by decide, by decide⟩, C.t mt_281, C.t ms_4⟩ (mf_preV C.ev hS (mf_rv C (ci := 1) (N := 6) rfl ho)) rfl rfl hl.1 rfl (lv_room (Nat.le_of_ble_eq_true rfl)) md_F_nextPrice_82 ⟨by omega, by omega⟩) ?_
                refine lv_if_eq (tgt := 104) C.x C.b md_F_nextPrice_85 (by decide) (fun h10 => ?_) (fun h10 => ?_)
                · skip
                  refine lv_iinc (k := 3) (v := nI (k + 1)) (lv' := [(4, .int (nI (k + 1))), (7, .int 1), (6, .int 0), (5, .ref a), (3, .int 0), (0, .ref x), (1, .int s0), (2, .int b0)]) C.x C.b md_F_nextPrice_104 hl rfl (nI_1 _) (by decide) rfl (fun ls hl => ?_)
                  refine lv_goto (tgt := 5) C.x C.b md_F_nextPrice_107 (by decide) ?_
                  exact ih (k + 1) none ls (by omega) (mf_step (mf_kl hq) i0 (by first | (simp [mf_cmp, mf_lt, mf_behind, h2, Int32.not_le.mp h2, h3, mf_bI_0.mp h8, h9, mf_bI_0.mp h10]; done) | (exfalso; simp_all; done))) (lv_sub hl [0, 4, 5, 6, 7] rfl)
                · skip
                  refine lv_iload C.x C.b md_F_nextPrice_88 (lv_at hl 1 rfl) ?_
                  refine lv_if_eq (tgt := 104) C.x C.b md_F_nextPrice_90 (by decide) (fun h11 => ?_) (fun h11 => ?_)
                  · skip
                    refine lv_iinc (k := 3) (v := nI (k + 1)) (lv' := [(4, .int (nI (k + 1))), (7, .int 1), (6, .int 0), (5, .ref a), (3, .int 0), (0, .ref x), (1, .int s0), (2, .int b0)]) C.x C.b md_F_nextPrice_104 hl rfl (nI_1 _) (by decide) rfl (fun ls hl => ?_)
                    refine lv_goto (tgt := 5) C.x C.b md_F_nextPrice_107 (by decide) ?_
                    exact ih (k + 1) none ls (by omega) (mf_step (mf_kl hq) i0 (by first | (simp [mf_cmp, mf_lt, mf_behind, h2, Int32.not_le.mp h2, h3, mf_bI_0.mp h8, h9, mf_bI_1.mp h10, h11]; done) | (exfalso; simp_all; done))) (lv_sub hl [0, 4, 5, 6, 7] rfl)
                  · exact absurd rfl h11
              · exact absurd rfl h9
            · skip
              refine lv_iconst (v := 1) C.x C.b md_F_nextPrice_48 (by decide) ?_
              refine lv_goto (tgt := 53) C.x C.b md_F_nextPrice_49 (by decide) ?_
              refine lv_istore (lv' := [(6, .int 1), (5, .ref a), (4, .int (nI k)), (3, .int 0), (0, .ref x), (1, .int s0), (2, .int b0)]) C.x C.b md_F_nextPrice_53 hl (by decide) rfl (fun ls hl => ?_)
              refine lv_iload_n C.x C.b md_F_nextPrice_55 rfl (lv_at hl 3 rfl) ?_
              refine lv_if_eq (tgt := 72) C.x C.b md_F_nextPrice_56 (by decide) (fun h12 => ?_) (fun h12 => ?_)
              · skip
                refine lv_iconst (v := 1) C.x C.b md_F_nextPrice_72 (by decide) ?_
                refine lv_goto (tgt := 77) C.x C.b md_F_nextPrice_73 (by decide) ?_
                refine lv_istore (lv' := [(7, .int 1), (6, .int 1), (5, .ref a), (4, .int (nI k)), (3, .int 0), (0, .ref x), (1, .int s0), (2, .int b0)]) C.x C.b md_F_nextPrice_77 hl (by decide) rfl (fun ls hl => ?_)
                refine lv_aload C.x C.b md_F_nextPrice_79 (lv_at hl 2 rfl) ?_
                refine lv_iload_n C.x C.b md_F_nextPrice_81 rfl (lv_at hl 6 rfl) ?_
                refine mf_cks (va_runVN (As := [.int s0]) (rest := []) C.f (k_O_restsOn l D k5 t0 A H a o s0 ho) ⟨mf_cN C mt_282 (C.ev.2.1.2.1 ("MatchFloor", 166, my_O_restsOn) (List.mem_of_getElem? (i := 2) rfl)) mt_14 mh_O_restsOn ⟨by decide, by decide⟩, C.t mt_281, C.t ms_4⟩ (mf_preV C.ev hS (mf_rv C (ci := 1) (N := 6) rfl ho)) rfl rfl hl.1 rfl (lv_room (Nat.le_of_ble_eq_true rfl)) md_F_nextPrice_82 ⟨by omega, by omega⟩) ?_
                refine lv_if_eq (tgt := 104) C.x C.b md_F_nextPrice_85 (by decide) (fun h13 => ?_) (fun h13 => ?_)
                · skip
                  refine lv_iinc (k := 3) (v := nI (k + 1)) (lv' := [(4, .int (nI (k + 1))), (7, .int 1), (6, .int 1), (5, .ref a), (3, .int 0), (0, .ref x), (1, .int s0), (2, .int b0)]) C.x C.b md_F_nextPrice_104 hl rfl (nI_1 _) (by decide) rfl (fun ls hl => ?_)
                  refine lv_goto (tgt := 5) C.x C.b md_F_nextPrice_107 (by decide) ?_
                  exact ih (k + 1) none ls (by omega) (mf_step (mf_kl hq) i0 (by first | (simp [mf_cmp, mf_lt, mf_behind, h2, Int32.not_le.mp h2, h3, mf_bI_1.mp h8, h12, mf_bI_0.mp h13]; done) | (exfalso; simp_all; done))) (lv_sub hl [0, 4, 5, 6, 7] rfl)
                · skip
                  refine lv_iload C.x C.b md_F_nextPrice_88 (lv_at hl 1 rfl) ?_
                  refine lv_if_eq (tgt := 104) C.x C.b md_F_nextPrice_90 (by decide) (fun h14 => ?_) (fun h14 => ?_)
                  · exact absurd h14 (by decide)
                  · skip
                    refine lv_iload C.x C.b md_F_nextPrice_93 (lv_at hl 0 rfl) ?_
                    refine lv_if_eq (tgt := 104) C.x C.b md_F_nextPrice_95 (by decide) (fun h15 => ?_) (fun h15 => ?_)
                    · exact absurd h15 (by decide)
                    · skip
                      refine lv_aload C.x C.b md_F_nextPrice_98 (lv_at hl 2 rfl) ?_
                      refine mf_gfN C (ci := 1) (N := 6) rfl mi_O 4 (by decide) (C.ev.2.1.1 (92, "MatchFloor$Order", "price", "I") (List.mem_of_getElem? (i := 8) rfl)) ho (v := .int (mf_pr o)) rfl md_F_nextPrice_100 ?_
                      refine lv_istore_n (lv' := [(3, .int (mf_pr o)), (7, .int 1), (6, .int 1), (5, .ref a), (4, .int (nI k)), (0, .ref x), (1, .int s0), (2, .int b0)]) C.x C.b md_F_nextPrice_103 rfl hl (by decide) rfl (fun ls hl => ?_)
                      refine lv_iinc (k := 4) (v := nI (k + 1)) (lv' := [(4, .int (nI (k + 1))), (3, .int (mf_pr o)), (7, .int 1), (6, .int 1), (5, .ref a), (0, .ref x), (1, .int s0), (2, .int b0)]) C.x C.b md_F_nextPrice_104 hl rfl (nI_1 _) (by decide) rfl (fun ls hl => ?_)
                      refine lv_goto (tgt := 5) C.x C.b md_F_nextPrice_107 (by decide) ?_
                      exact ih (k + 1) (some (k, o)) ls (by omega) (mf_step (mf_kl hq) i0 (by first | (simp [mf_cmp, mf_lt, mf_behind, h2, Int32.not_le.mp h2, h3, mf_bI_1.mp h8, h12, mf_bI_1.mp h13, h14, h15]; done) | (exfalso; simp_all; done))) (lv_sub hl [0, 1, 5, 6, 7] rfl)
              · exact absurd rfl h12
      · have hl : lv_has ls 8 [(4, .int (nI k)), (3, .int (mf_pr y)), (0, .ref x), (1, .int s0), (2, .int b0)] := hl
        have hj : j < k := mf_pick_lt i0
        have hy0 : ¬ mf_pr y = 0 := hpr y (mf_pick_mem i0)
        refine lv_iload C.x C.b md_F_nextPrice_5 (lv_at hl 0 rfl) ?_
        refine lv_aload_n C.x C.b md_F_nextPrice_7 rfl (lv_at hl 2 rfl) ?_
        refine mf_gf C (ci := 3) (N := 4) rfl mi_F 0 (by decide) mt_84 hx (v := .ref al) rfl md_F_nextPrice_8 ?_
        refine mf_cks (va_runV (As := []) (rest := [.int (nI k)]) C.f (k_A_size l D k5 t0 A H al _ hAL) (mf_cV C mt_205 mt_202 mt_4 mt_203 mt_204 mh_A_size ⟨by decide, by decide⟩) (mf_preV C.ev hS (mf_rv C (ci := 0) (N := 3) rfl hal)) rfl rfl hl.1 rfl (lv_room (Nat.le_of_ble_eq_true rfl)) md_F_nextPrice_11 ⟨by omega, by omega⟩) ?_
        rw [List.length_map]
        refine lv_icmp_ge (tgt := 110) C.x C.b md_F_nextPrice_14 (by decide) (fun h16 => ?_) (fun h16 => ?_)
        · exact absurd h16 (nI_ge hkk (by omega))
        · skip
          refine lv_aload_n C.x C.b md_F_nextPrice_17 rfl (lv_at hl 2 rfl) ?_
          refine mf_gf C (ci := 3) (N := 4) rfl mi_F 0 (by decide) mt_84 hx (v := .ref al) rfl md_F_nextPrice_18 ?_
          refine lv_iload C.x C.b md_F_nextPrice_21 (lv_at hl 0 rfl) ?_
          refine mf_cks (va_runV (As := [.int (nI k)]) (rest := []) C.f (k_A_get l D k5 t0 A H al k a _ hAL (mf_kq hq)) (mf_cV C mt_209 mt_206 mt_4 mt_207 mt_208 mh_A_get ⟨by decide, by decide⟩) (mf_preV C.ev hS (mf_rv C (ci := 0) (N := 3) rfl hal)) rfl rfl hl.1 rfl (lv_room (Nat.le_of_ble_eq_true rfl)) md_F_nextPrice_23 ⟨by omega, by omega⟩) ?_
          refine mf_cast C (ci := 1) (N := 6) rfl mt_220 ho md_F_nextPrice_26 ?_
          refine lv_astore (lv' := [(5, .ref a), (4, .int (nI k)), (3, .int (mf_pr y)), (0, .ref x), (1, .int s0), (2, .int b0)]) C.x C.b md_F_nextPrice_29 hl (by decide) rfl (fun ls hl => ?_)
          refine lv_iload_n C.x C.b md_F_nextPrice_31 rfl (lv_at hl 5 rfl) ?_
          refine lv_if_eq (tgt := 48) C.x C.b md_F_nextPrice_32 (by decide) (fun h17 => ?_) (fun h17 => ?_)
          · skip
            refine lv_iconst (v := 1) C.x C.b md_F_nextPrice_48 (by decide) ?_
            refine lv_goto (tgt := 53) C.x C.b md_F_nextPrice_49 (by decide) ?_
            refine lv_istore (lv' := [(6, .int 1), (5, .ref a), (4, .int (nI k)), (3, .int (mf_pr y)), (0, .ref x), (1, .int s0), (2, .int b0)]) C.x C.b md_F_nextPrice_53 hl (by decide) rfl (fun ls hl => ?_)
            refine lv_iload_n C.x C.b md_F_nextPrice_55 rfl (lv_at hl 3 rfl) ?_
            refine lv_if_eq (tgt := 72) C.x C.b md_F_nextPrice_56 (by decide) (fun h18 => ?_) (fun h18 => ?_)
            · exact absurd h18 hy0
            · skip
              refine lv_iload_n C.x C.b md_F_nextPrice_59 rfl (lv_at hl 5 rfl) ?_
              refine lv_aload C.x C.b md_F_nextPrice_60 (lv_at hl 1 rfl) ?_
              refine mf_gfN C (ci := 1) (N := 6) rfl mi_O 4 (by decide) (C.ev.2.1.1 (92, "MatchFloor$Order", "price", "I") (List.mem_of_getElem? (i := 8) rfl)) ho (v := .int (mf_pr o)) rfl md_F_nextPrice_62 ?_
              refine lv_iload_n C.x C.b md_F_nextPrice_65 rfl (lv_at hl 3 rfl) ?_
              refine mf_cks (va_runS (As := [.int s0, .int (mf_pr o), .int (mf_pr y)]) (rest := []) C.f (k_F_isBetter l D k5 t0 A H s0 (mf_pr o) (mf_pr y)) (mf_cS C mt_290 mt_295 mt_1 mt_289 mh_F_isBetter ⟨by decide, by decide⟩) (mf_preS C.ev hS) rfl rfl hl.1 rfl (lv_room (Nat.le_of_ble_eq_true rfl)) md_F_nextPrice_66 ⟨by omega, by omega⟩) ?_
              refine lv_if_eq (tgt := 76) C.x C.b md_F_nextPrice_69 (by decide) (fun h19 => ?_) (fun h19 => ?_)
              · skip
                refine lv_iconst (v := 0) C.x C.b md_F_nextPrice_76 (by decide) ?_
                refine lv_istore (lv' := [(7, .int 0), (6, .int 1), (5, .ref a), (4, .int (nI k)), (3, .int (mf_pr y)), (0, .ref x), (1, .int s0), (2, .int b0)]) C.x C.b md_F_nextPrice_77 hl (by decide) rfl (fun ls hl => ?_)
                refine lv_aload C.x C.b md_F_nextPrice_79 (lv_at hl 2 rfl) ?_
                refine lv_iload_n C.x C.b md_F_nextPrice_81 rfl (lv_at hl 6 rfl) ?_
                refine mf_cks (va_runVN (As := [.int s0]) (rest := []) C.f (k_O_restsOn l D k5 t0 A H a o s0 ho) ⟨mf_cN C mt_282 (C.ev.2.1.2.1 ("MatchFloor", 166, my_O_restsOn) (List.mem_of_getElem? (i := 2) rfl)) mt_14 mh_O_restsOn ⟨by decide, by decide⟩, C.t mt_281, C.t ms_4⟩ (mf_preV C.ev hS (mf_rv C (ci := 1) (N := 6) rfl ho)) rfl rfl hl.1 rfl (lv_room (Nat.le_of_ble_eq_true rfl)) md_F_nextPrice_82 ⟨by omega, by omega⟩) ?_
                refine lv_if_eq (tgt := 104) C.x C.b md_F_nextPrice_85 (by decide) (fun h20 => ?_) (fun h20 => ?_)
                · skip
                  refine lv_iinc (k := 3) (v := nI (k + 1)) (lv' := [(4, .int (nI (k + 1))), (7, .int 0), (6, .int 1), (5, .ref a), (3, .int (mf_pr y)), (0, .ref x), (1, .int s0), (2, .int b0)]) C.x C.b md_F_nextPrice_104 hl rfl (nI_1 _) (by decide) rfl (fun ls hl => ?_)
                  refine lv_goto (tgt := 5) C.x C.b md_F_nextPrice_107 (by decide) ?_
                  exact ih (k + 1) (some (j, y)) ls (by omega) (mf_step (mf_kl hq) i0 (by first | (simp [mf_cmp, mf_lt, mf_behind, h16, Int32.not_le.mp h16, h17, h18, mf_bI_0.mp h19, mf_bI_0.mp h20]; done) | (exfalso; simp_all; done))) (lv_sub hl [0, 4, 5, 6, 7] rfl)
                · skip
                  refine lv_iload C.x C.b md_F_nextPrice_88 (lv_at hl 1 rfl) ?_
                  refine lv_if_eq (tgt := 104) C.x C.b md_F_nextPrice_90 (by decide) (fun h21 => ?_) (fun h21 => ?_)
                  · exact absurd h21 (by decide)
                  · skip
                    refine lv_iload C.x C.b md_F_nextPrice_93 (lv_at hl 0 rfl) ?_
                    refine lv_if_eq (tgt := 104) C.x C.b md_F_nextPrice_95 (by decide) (fun h22 => ?_) (fun h22 => ?_)
                    · skip
                      refine lv_iinc (k := 3) (v := nI (k + 1)) (lv' := [(4, .int (nI (k + 1))), (7, .int 0), (6, .int 1), (5, .ref a), (3, .int (mf_pr y)), (0, .ref x), (1, .int s0), (2, .int b0)]) C.x C.b md_F_nextPrice_104 hl rfl (nI_1 _) (by decide) rfl (fun ls hl => ?_)
                      refine lv_goto (tgt := 5) C.x C.b md_F_nextPrice_107 (by decide) ?_
                      exact ih (k + 1) (some (j, y)) ls (by omega) (mf_step (mf_kl hq) i0 (by first | (simp [mf_cmp, mf_lt, mf_behind, h16, Int32.not_le.mp h16, h17, h18, mf_bI_0.mp h19, mf_bI_1.mp h20, h21, h22]; done) | (exfalso; simp_all; done))) (lv_sub hl [0, 4, 5, 6, 7] rfl)
                    · exact absurd rfl h22
              · skip
                refine lv_iconst (v := 1) C.x C.b md_F_nextPrice_72 (by decide) ?_
                refine lv_goto (tgt := 77) C.x C.b md_F_nextPrice_73 (by decide) ?_
                refine lv_istore (lv' := [(7, .int 1), (6, .int 1), (5, .ref a), (4, .int (nI k)), (3, .int (mf_pr y)), (0, .ref x), (1, .int s0), (2, .int b0)]) C.x C.b md_F_nextPrice_77 hl (by decide) rfl (fun ls hl => ?_)
                refine lv_aload C.x C.b md_F_nextPrice_79 (lv_at hl 2 rfl) ?_
                refine lv_iload_n C.x C.b md_F_nextPrice_81 rfl (lv_at hl 6 rfl) ?_
                refine mf_cks (va_runVN (As := [.int s0]) (rest := []) C.f (k_O_restsOn l D k5 t0 A H a o s0 ho) ⟨mf_cN C mt_282 (C.ev.2.1.2.1 ("MatchFloor", 166, my_O_restsOn) (List.mem_of_getElem? (i := 2) rfl)) mt_14 mh_O_restsOn ⟨by decide, by decide⟩, C.t mt_281, C.t ms_4⟩ (mf_preV C.ev hS (mf_rv C (ci := 1) (N := 6) rfl ho)) rfl rfl hl.1 rfl (lv_room (Nat.le_of_ble_eq_true rfl)) md_F_nextPrice_82 ⟨by omega, by omega⟩) ?_
                refine lv_if_eq (tgt := 104) C.x C.b md_F_nextPrice_85 (by decide) (fun h23 => ?_) (fun h23 => ?_)
                · skip
                  refine lv_iinc (k := 3) (v := nI (k + 1)) (lv' := [(4, .int (nI (k + 1))), (7, .int 1), (6, .int 1), (5, .ref a), (3, .int (mf_pr y)), (0, .ref x), (1, .int s0), (2, .int b0)]) C.x C.b md_F_nextPrice_104 hl rfl (nI_1 _) (by decide) rfl (fun ls hl => ?_)
                  refine lv_goto (tgt := 5) C.x C.b md_F_nextPrice_107 (by decide) ?_
                  exact ih (k + 1) (some (j, y)) ls (by omega) (mf_step (mf_kl hq) i0 (by first | (simp [mf_cmp, mf_lt, mf_behind, h16, Int32.not_le.mp h16, h17, h18, mf_bI_1.mp h19, mf_bI_0.mp h23]; done) | (exfalso; simp_all; done))) (lv_sub hl [0, 4, 5, 6, 7] rfl)
                · skip
                  refine lv_iload C.x C.b md_F_nextPrice_88 (lv_at hl 1 rfl) ?_
                  refine lv_if_eq (tgt := 104) C.x C.b md_F_nextPrice_90 (by decide) (fun h24 => ?_) (fun h24 => ?_)
                  · exact absurd h24 (by decide)
                  · skip
                    refine lv_iload C.x C.b md_F_nextPrice_93 (lv_at hl 0 rfl) ?_
                    refine lv_if_eq (tgt := 104) C.x C.b md_F_nextPrice_95 (by decide) (fun h25 => ?_) (fun h25 => ?_)
                    · exact absurd h25 (by decide)
                    · skip
                      refine lv_aload C.x C.b md_F_nextPrice_98 (lv_at hl 2 rfl) ?_
                      refine mf_gfN C (ci := 1) (N := 6) rfl mi_O 4 (by decide) (C.ev.2.1.1 (92, "MatchFloor$Order", "price", "I") (List.mem_of_getElem? (i := 8) rfl)) ho (v := .int (mf_pr o)) rfl md_F_nextPrice_100 ?_
                      refine lv_istore_n (lv' := [(3, .int (mf_pr o)), (7, .int 1), (6, .int 1), (5, .ref a), (4, .int (nI k)), (0, .ref x), (1, .int s0), (2, .int b0)]) C.x C.b md_F_nextPrice_103 rfl hl (by decide) rfl (fun ls hl => ?_)
                      refine lv_iinc (k := 4) (v := nI (k + 1)) (lv' := [(4, .int (nI (k + 1))), (3, .int (mf_pr o)), (7, .int 1), (6, .int 1), (5, .ref a), (0, .ref x), (1, .int s0), (2, .int b0)]) C.x C.b md_F_nextPrice_104 hl rfl (nI_1 _) (by decide) rfl (fun ls hl => ?_)
                      refine lv_goto (tgt := 5) C.x C.b md_F_nextPrice_107 (by decide) ?_
                      exact ih (k + 1) (some (k, o)) ls (by omega) (mf_step (mf_kl hq) i0 (by first | (simp [mf_cmp, mf_lt, mf_behind, h16, Int32.not_le.mp h16, h17, h18, mf_bI_1.mp h19, mf_bI_1.mp h23, h24, h25]; done) | (exfalso; simp_all; done))) (lv_sub hl [0, 1, 5, 6, 7] rfl)
          · skip
            refine lv_iload_n C.x C.b md_F_nextPrice_35 rfl (lv_at hl 4 rfl) ?_
            refine lv_iload_n C.x C.b md_F_nextPrice_36 rfl (lv_at hl 5 rfl) ?_
            refine lv_aload C.x C.b md_F_nextPrice_37 (lv_at hl 0 rfl) ?_
            refine mf_gfN C (ci := 1) (N := 6) rfl mi_O 4 (by decide) (C.ev.2.1.1 (92, "MatchFloor$Order", "price", "I") (List.mem_of_getElem? (i := 8) rfl)) ho (v := .int (mf_pr o)) rfl md_F_nextPrice_39 ?_
            refine mf_cks (va_runS (As := [.int s0, .int b0, .int (mf_pr o)]) (rest := []) C.f (k_F_isBetter l D k5 t0 A H s0 b0 (mf_pr o)) (mf_cS C mt_290 mt_295 mt_1 mt_289 mh_F_isBetter ⟨by decide, by decide⟩) (mf_preS C.ev hS) rfl rfl hl.1 rfl (lv_room (Nat.le_of_ble_eq_true rfl)) md_F_nextPrice_42 ⟨by omega, by omega⟩) ?_
            refine lv_if_eq (tgt := 52) C.x C.b md_F_nextPrice_45 (by decide) (fun h26 => ?_) (fun h26 => ?_)
            · skip
              refine lv_iconst (v := 0) C.x C.b md_F_nextPrice_52 (by decide) ?_
              refine lv_istore (lv' := [(6, .int 0), (5, .ref a), (4, .int (nI k)), (3, .int (mf_pr y)), (0, .ref x), (1, .int s0), (2, .int b0)]) C.x C.b md_F_nextPrice_53 hl (by decide) rfl (fun ls hl => ?_)
              refine lv_iload_n C.x C.b md_F_nextPrice_55 rfl (lv_at hl 3 rfl) ?_
              refine lv_if_eq (tgt := 72) C.x C.b md_F_nextPrice_56 (by decide) (fun h27 => ?_) (fun h27 => ?_)
              · exact absurd h27 hy0
              · skip
                refine lv_iload_n C.x C.b md_F_nextPrice_59 rfl (lv_at hl 5 rfl) ?_
                refine lv_aload C.x C.b md_F_nextPrice_60 (lv_at hl 1 rfl) ?_
                refine mf_gfN C (ci := 1) (N := 6) rfl mi_O 4 (by decide) (C.ev.2.1.1 (92, "MatchFloor$Order", "price", "I") (List.mem_of_getElem? (i := 8) rfl)) ho (v := .int (mf_pr o)) rfl md_F_nextPrice_62 ?_
                refine lv_iload_n C.x C.b md_F_nextPrice_65 rfl (lv_at hl 3 rfl) ?_
                refine mf_cks (va_runS (As := [.int s0, .int (mf_pr o), .int (mf_pr y)]) (rest := []) C.f (k_F_isBetter l D k5 t0 A H s0 (mf_pr o) (mf_pr y)) (mf_cS C mt_290 mt_295 mt_1 mt_289 mh_F_isBetter ⟨by decide, by decide⟩) (mf_preS C.ev hS) rfl rfl hl.1 rfl (lv_room (Nat.le_of_ble_eq_true rfl)) md_F_nextPrice_66 ⟨by omega, by omega⟩) ?_
                refine lv_if_eq (tgt := 76) C.x C.b md_F_nextPrice_69 (by decide) (fun h28 => ?_) (fun h28 => ?_)
                · skip
                  refine lv_iconst (v := 0) C.x C.b md_F_nextPrice_76 (by decide) ?_
                  refine lv_istore (lv' := [(7, .int 0), (6, .int 0), (5, .ref a), (4, .int (nI k)), (3, .int (mf_pr y)), (0, .ref x), (1, .int s0), (2, .int b0)]) C.x C.b md_F_nextPrice_77 hl (by decide) rfl (fun ls hl => ?_)
                  refine lv_aload C.x C.b md_F_nextPrice_79 (lv_at hl 2 rfl) ?_
                  refine lv_iload_n C.x C.b md_F_nextPrice_81 rfl (lv_at hl 6 rfl) ?_
                  refine mf_cks (va_runVN (As := [.int s0]) (rest := []) C.f (k_O_restsOn l D k5 t0 A H a o s0 ho) ⟨mf_cN C mt_282 (C.ev.2.1.2.1 ("MatchFloor", 166, my_O_restsOn) (List.mem_of_getElem? (i := 2) rfl)) mt_14 mh_O_restsOn ⟨by decide, by decide⟩, C.t mt_281, C.t ms_4⟩ (mf_preV C.ev hS (mf_rv C (ci := 1) (N := 6) rfl ho)) rfl rfl hl.1 rfl (lv_room (Nat.le_of_ble_eq_true rfl)) md_F_nextPrice_82 ⟨by omega, by omega⟩) ?_
                  refine lv_if_eq (tgt := 104) C.x C.b md_F_nextPrice_85 (by decide) (fun h29 => ?_) (fun h29 => ?_)
                  · skip
                    refine lv_iinc (k := 3) (v := nI (k + 1)) (lv' := [(4, .int (nI (k + 1))), (7, .int 0), (6, .int 0), (5, .ref a), (3, .int (mf_pr y)), (0, .ref x), (1, .int s0), (2, .int b0)]) C.x C.b md_F_nextPrice_104 hl rfl (nI_1 _) (by decide) rfl (fun ls hl => ?_)
                    refine lv_goto (tgt := 5) C.x C.b md_F_nextPrice_107 (by decide) ?_
                    exact ih (k + 1) (some (j, y)) ls (by omega) (mf_step (mf_kl hq) i0 (by first | (simp [mf_cmp, mf_lt, mf_behind, h16, Int32.not_le.mp h16, h17, mf_bI_0.mp h26, h27, mf_bI_0.mp h28, mf_bI_0.mp h29]; done) | (exfalso; simp_all; done))) (lv_sub hl [0, 4, 5, 6, 7] rfl)
                  · skip
                    refine lv_iload C.x C.b md_F_nextPrice_88 (lv_at hl 1 rfl) ?_
                    refine lv_if_eq (tgt := 104) C.x C.b md_F_nextPrice_90 (by decide) (fun h30 => ?_) (fun h30 => ?_)
                    · skip
                      refine lv_iinc (k := 3) (v := nI (k + 1)) (lv' := [(4, .int (nI (k + 1))), (7, .int 0), (6, .int 0), (5, .ref a), (3, .int (mf_pr y)), (0, .ref x), (1, .int s0), (2, .int b0)]) C.x C.b md_F_nextPrice_104 hl rfl (nI_1 _) (by decide) rfl (fun ls hl => ?_)
                      refine lv_goto (tgt := 5) C.x C.b md_F_nextPrice_107 (by decide) ?_
                      exact ih (k + 1) (some (j, y)) ls (by omega) (mf_step (mf_kl hq) i0 (by first | (simp [mf_cmp, mf_lt, mf_behind, h16, Int32.not_le.mp h16, h17, mf_bI_0.mp h26, h27, mf_bI_0.mp h28, mf_bI_1.mp h29, h30]; done) | (exfalso; simp_all; done))) (lv_sub hl [0, 4, 5, 6, 7] rfl)
                    · exact absurd rfl h30
                · skip
                  refine lv_iconst (v := 1) C.x C.b md_F_nextPrice_72 (by decide) ?_
                  refine lv_goto (tgt := 77) C.x C.b md_F_nextPrice_73 (by decide) ?_
                  refine lv_istore (lv' := [(7, .int 1), (6, .int 0), (5, .ref a), (4, .int (nI k)), (3, .int (mf_pr y)), (0, .ref x), (1, .int s0), (2, .int b0)]) C.x C.b md_F_nextPrice_77 hl (by decide) rfl (fun ls hl => ?_)
                  refine lv_aload C.x C.b md_F_nextPrice_79 (lv_at hl 2 rfl) ?_
                  refine lv_iload_n C.x C.b md_F_nextPrice_81 rfl (lv_at hl 6 rfl) ?_
                  refine mf_cks (va_runVN (As := [.int s0]) (rest := []) C.f (k_O_restsOn l D k5 t0 A H a o s0 ho) ⟨mf_cN C mt_282 (C.ev.2.1.2.1 ("MatchFloor", 166, my_O_restsOn) (List.mem_of_getElem? (i := 2) rfl)) mt_14 mh_O_restsOn ⟨by decide, by decide⟩, C.t mt_281, C.t ms_4⟩ (mf_preV C.ev hS (mf_rv C (ci := 1) (N := 6) rfl ho)) rfl rfl hl.1 rfl (lv_room (Nat.le_of_ble_eq_true rfl)) md_F_nextPrice_82 ⟨by omega, by omega⟩) ?_
                  refine lv_if_eq (tgt := 104) C.x C.b md_F_nextPrice_85 (by decide) (fun h31 => ?_) (fun h31 => ?_)
                  · skip
                    refine lv_iinc (k := 3) (v := nI (k + 1)) (lv' := [(4, .int (nI (k + 1))), (7, .int 1), (6, .int 0), (5, .ref a), (3, .int (mf_pr y)), (0, .ref x), (1, .int s0), (2, .int b0)]) C.x C.b md_F_nextPrice_104 hl rfl (nI_1 _) (by decide) rfl (fun ls hl => ?_)
                    refine lv_goto (tgt := 5) C.x C.b md_F_nextPrice_107 (by decide) ?_
                    exact ih (k + 1) (some (j, y)) ls (by omega) (mf_step (mf_kl hq) i0 (by first | (simp [mf_cmp, mf_lt, mf_behind, h16, Int32.not_le.mp h16, h17, mf_bI_0.mp h26, h27, mf_bI_1.mp h28, mf_bI_0.mp h31]; done) | (exfalso; simp_all; done))) (lv_sub hl [0, 4, 5, 6, 7] rfl)
                  · skip
                    refine lv_iload C.x C.b md_F_nextPrice_88 (lv_at hl 1 rfl) ?_
                    refine lv_if_eq (tgt := 104) C.x C.b md_F_nextPrice_90 (by decide) (fun h32 => ?_) (fun h32 => ?_)
                    · skip
                      refine lv_iinc (k := 3) (v := nI (k + 1)) (lv' := [(4, .int (nI (k + 1))), (7, .int 1), (6, .int 0), (5, .ref a), (3, .int (mf_pr y)), (0, .ref x), (1, .int s0), (2, .int b0)]) C.x C.b md_F_nextPrice_104 hl rfl (nI_1 _) (by decide) rfl (fun ls hl => ?_)
                      refine lv_goto (tgt := 5) C.x C.b md_F_nextPrice_107 (by decide) ?_
                      exact ih (k + 1) (some (j, y)) ls (by omega) (mf_step (mf_kl hq) i0 (by first | (simp [mf_cmp, mf_lt, mf_behind, h16, Int32.not_le.mp h16, h17, mf_bI_0.mp h26, h27, mf_bI_1.mp h28, mf_bI_1.mp h31, h32]; done) | (exfalso; simp_all; done))) (lv_sub hl [0, 4, 5, 6, 7] rfl)
                    · exact absurd rfl h32
            · skip
              refine lv_iconst (v := 1) C.x C.b md_F_nextPrice_48 (by decide) ?_
              refine lv_goto (tgt := 53) C.x C.b md_F_nextPrice_49 (by decide) ?_
              refine lv_istore (lv' := [(6, .int 1), (5, .ref a), (4, .int (nI k)), (3, .int (mf_pr y)), (0, .ref x), (1, .int s0), (2, .int b0)]) C.x C.b md_F_nextPrice_53 hl (by decide) rfl (fun ls hl => ?_)
              refine lv_iload_n C.x C.b md_F_nextPrice_55 rfl (lv_at hl 3 rfl) ?_
              refine lv_if_eq (tgt := 72) C.x C.b md_F_nextPrice_56 (by decide) (fun h33 => ?_) (fun h33 => ?_)
              · exact absurd h33 hy0
              · skip
                refine lv_iload_n C.x C.b md_F_nextPrice_59 rfl (lv_at hl 5 rfl) ?_
                refine lv_aload C.x C.b md_F_nextPrice_60 (lv_at hl 1 rfl) ?_
                refine mf_gfN C (ci := 1) (N := 6) rfl mi_O 4 (by decide) (C.ev.2.1.1 (92, "MatchFloor$Order", "price", "I") (List.mem_of_getElem? (i := 8) rfl)) ho (v := .int (mf_pr o)) rfl md_F_nextPrice_62 ?_
                refine lv_iload_n C.x C.b md_F_nextPrice_65 rfl (lv_at hl 3 rfl) ?_
                refine mf_cks (va_runS (As := [.int s0, .int (mf_pr o), .int (mf_pr y)]) (rest := []) C.f (k_F_isBetter l D k5 t0 A H s0 (mf_pr o) (mf_pr y)) (mf_cS C mt_290 mt_295 mt_1 mt_289 mh_F_isBetter ⟨by decide, by decide⟩) (mf_preS C.ev hS) rfl rfl hl.1 rfl (lv_room (Nat.le_of_ble_eq_true rfl)) md_F_nextPrice_66 ⟨by omega, by omega⟩) ?_
                refine lv_if_eq (tgt := 76) C.x C.b md_F_nextPrice_69 (by decide) (fun h34 => ?_) (fun h34 => ?_)
                · skip
                  refine lv_iconst (v := 0) C.x C.b md_F_nextPrice_76 (by decide) ?_
                  refine lv_istore (lv' := [(7, .int 0), (6, .int 1), (5, .ref a), (4, .int (nI k)), (3, .int (mf_pr y)), (0, .ref x), (1, .int s0), (2, .int b0)]) C.x C.b md_F_nextPrice_77 hl (by decide) rfl (fun ls hl => ?_)
                  refine lv_aload C.x C.b md_F_nextPrice_79 (lv_at hl 2 rfl) ?_
                  refine lv_iload_n C.x C.b md_F_nextPrice_81 rfl (lv_at hl 6 rfl) ?_
                  refine mf_cks (va_runVN (As := [.int s0]) (rest := []) C.f (k_O_restsOn l D k5 t0 A H a o s0 ho) ⟨mf_cN C mt_282 (C.ev.2.1.2.1 ("MatchFloor", 166, my_O_restsOn) (List.mem_of_getElem? (i := 2) rfl)) mt_14 mh_O_restsOn ⟨by decide, by decide⟩, C.t mt_281, C.t ms_4⟩ (mf_preV C.ev hS (mf_rv C (ci := 1) (N := 6) rfl ho)) rfl rfl hl.1 rfl (lv_room (Nat.le_of_ble_eq_true rfl)) md_F_nextPrice_82 ⟨by omega, by omega⟩) ?_
                  refine lv_if_eq (tgt := 104) C.x C.b md_F_nextPrice_85 (by decide) (fun h35 => ?_) (fun h35 => ?_)
                  · skip
                    refine lv_iinc (k := 3) (v := nI (k + 1)) (lv' := [(4, .int (nI (k + 1))), (7, .int 0), (6, .int 1), (5, .ref a), (3, .int (mf_pr y)), (0, .ref x), (1, .int s0), (2, .int b0)]) C.x C.b md_F_nextPrice_104 hl rfl (nI_1 _) (by decide) rfl (fun ls hl => ?_)
                    refine lv_goto (tgt := 5) C.x C.b md_F_nextPrice_107 (by decide) ?_
                    exact ih (k + 1) (some (j, y)) ls (by omega) (mf_step (mf_kl hq) i0 (by first | (simp [mf_cmp, mf_lt, mf_behind, h16, Int32.not_le.mp h16, h17, mf_bI_1.mp h26, h33, mf_bI_0.mp h34, mf_bI_0.mp h35]; done) | (exfalso; simp_all; done))) (lv_sub hl [0, 4, 5, 6, 7] rfl)
                  · skip
                    refine lv_iload C.x C.b md_F_nextPrice_88 (lv_at hl 1 rfl) ?_
                    refine lv_if_eq (tgt := 104) C.x C.b md_F_nextPrice_90 (by decide) (fun h36 => ?_) (fun h36 => ?_)
                    · exact absurd h36 (by decide)
                    · skip
                      refine lv_iload C.x C.b md_F_nextPrice_93 (lv_at hl 0 rfl) ?_
                      refine lv_if_eq (tgt := 104) C.x C.b md_F_nextPrice_95 (by decide) (fun h37 => ?_) (fun h37 => ?_)
                      · skip
                        refine lv_iinc (k := 3) (v := nI (k + 1)) (lv' := [(4, .int (nI (k + 1))), (7, .int 0), (6, .int 1), (5, .ref a), (3, .int (mf_pr y)), (0, .ref x), (1, .int s0), (2, .int b0)]) C.x C.b md_F_nextPrice_104 hl rfl (nI_1 _) (by decide) rfl (fun ls hl => ?_)
                        refine lv_goto (tgt := 5) C.x C.b md_F_nextPrice_107 (by decide) ?_
                        exact ih (k + 1) (some (j, y)) ls (by omega) (mf_step (mf_kl hq) i0 (by first | (simp [mf_cmp, mf_lt, mf_behind, h16, Int32.not_le.mp h16, h17, mf_bI_1.mp h26, h33, mf_bI_0.mp h34, mf_bI_1.mp h35, h36, h37]; done) | (exfalso; simp_all; done))) (lv_sub hl [0, 4, 5, 6, 7] rfl)
                      · exact absurd rfl h37
                · skip
                  refine lv_iconst (v := 1) C.x C.b md_F_nextPrice_72 (by decide) ?_
                  refine lv_goto (tgt := 77) C.x C.b md_F_nextPrice_73 (by decide) ?_
                  refine lv_istore (lv' := [(7, .int 1), (6, .int 1), (5, .ref a), (4, .int (nI k)), (3, .int (mf_pr y)), (0, .ref x), (1, .int s0), (2, .int b0)]) C.x C.b md_F_nextPrice_77 hl (by decide) rfl (fun ls hl => ?_)
                  refine lv_aload C.x C.b md_F_nextPrice_79 (lv_at hl 2 rfl) ?_
                  refine lv_iload_n C.x C.b md_F_nextPrice_81 rfl (lv_at hl 6 rfl) ?_
                  refine mf_cks (va_runVN (As := [.int s0]) (rest := []) C.f (k_O_restsOn l D k5 t0 A H a o s0 ho) ⟨mf_cN C mt_282 (C.ev.2.1.2.1 ("MatchFloor", 166, my_O_restsOn) (List.mem_of_getElem? (i := 2) rfl)) mt_14 mh_O_restsOn ⟨by decide, by decide⟩, C.t mt_281, C.t ms_4⟩ (mf_preV C.ev hS (mf_rv C (ci := 1) (N := 6) rfl ho)) rfl rfl hl.1 rfl (lv_room (Nat.le_of_ble_eq_true rfl)) md_F_nextPrice_82 ⟨by omega, by omega⟩) ?_
                  refine lv_if_eq (tgt := 104) C.x C.b md_F_nextPrice_85 (by decide) (fun h38 => ?_) (fun h38 => ?_)
                  · skip
                    refine lv_iinc (k := 3) (v := nI (k + 1)) (lv' := [(4, .int (nI (k + 1))), (7, .int 1), (6, .int 1), (5, .ref a), (3, .int (mf_pr y)), (0, .ref x), (1, .int s0), (2, .int b0)]) C.x C.b md_F_nextPrice_104 hl rfl (nI_1 _) (by decide) rfl (fun ls hl => ?_)
                    refine lv_goto (tgt := 5) C.x C.b md_F_nextPrice_107 (by decide) ?_
                    exact ih (k + 1) (some (j, y)) ls (by omega) (mf_step (mf_kl hq) i0 (by first | (simp [mf_cmp, mf_lt, mf_behind, h16, Int32.not_le.mp h16, h17, mf_bI_1.mp h26, h33, mf_bI_1.mp h34, mf_bI_0.mp h38]; done) | (exfalso; simp_all; done))) (lv_sub hl [0, 4, 5, 6, 7] rfl)
                  · skip
                    refine lv_iload C.x C.b md_F_nextPrice_88 (lv_at hl 1 rfl) ?_
                    refine lv_if_eq (tgt := 104) C.x C.b md_F_nextPrice_90 (by decide) (fun h39 => ?_) (fun h39 => ?_)
                    · exact absurd h39 (by decide)
                    · skip
                      refine lv_iload C.x C.b md_F_nextPrice_93 (lv_at hl 0 rfl) ?_
                      refine lv_if_eq (tgt := 104) C.x C.b md_F_nextPrice_95 (by decide) (fun h40 => ?_) (fun h40 => ?_)
                      · exact absurd h40 (by decide)
                      · skip
                        refine lv_aload C.x C.b md_F_nextPrice_98 (lv_at hl 2 rfl) ?_
                        refine mf_gfN C (ci := 1) (N := 6) rfl mi_O 4 (by decide) (C.ev.2.1.1 (92, "MatchFloor$Order", "price", "I") (List.mem_of_getElem? (i := 8) rfl)) ho (v := .int (mf_pr o)) rfl md_F_nextPrice_100 ?_
                        refine lv_istore_n (lv' := [(3, .int (mf_pr o)), (7, .int 1), (6, .int 1), (5, .ref a), (4, .int (nI k)), (0, .ref x), (1, .int s0), (2, .int b0)]) C.x C.b md_F_nextPrice_103 rfl hl (by decide) rfl (fun ls hl => ?_)
                        refine lv_iinc (k := 4) (v := nI (k + 1)) (lv' := [(4, .int (nI (k + 1))), (3, .int (mf_pr o)), (7, .int 1), (6, .int 1), (5, .ref a), (0, .ref x), (1, .int s0), (2, .int b0)]) C.x C.b md_F_nextPrice_104 hl rfl (nI_1 _) (by decide) rfl (fun ls hl => ?_)
                        refine lv_goto (tgt := 5) C.x C.b md_F_nextPrice_107 (by decide) ?_
                        exact ih (k + 1) (some (k, o)) ls (by omega) (mf_step (mf_kl hq) i0 (by first | (simp [mf_cmp, mf_lt, mf_behind, h16, Int32.not_le.mp h16, h17, mf_bI_1.mp h26, h33, mf_bI_1.mp h34, mf_bI_1.mp h38, h39, h40]; done) | (exfalso; simp_all; done))) (lv_sub hl [0, 1, 5, 6, 7] rfl)
  refine lv_iconst (v := 0) C.x C.b md_F_nextPrice_0 (by decide) ?_
  refine lv_istore_n (lv' := [(3, .int 0), (0, .ref x), (1, .int s0), (2, .int b0)]) C.x C.b md_F_nextPrice_1 rfl hl (by decide) rfl (fun ls hl => ?_)
  refine lv_iconst (v := 0) C.x C.b md_F_nextPrice_2 (by decide) ?_
  refine lv_istore (lv' := [(4, .int 0), (3, .int 0), (0, .ref x), (1, .int s0), (2, .int b0)]) C.x C.b md_F_nextPrice_3 hl (by decide) rfl (fun ls hl => ?_)
  exact loop ks.length 0 none ls (by omega) rfl (lv_sub hl [0, 1, 2, 3, 4] rfl)
theorem k_F_next (l : Launch) (D : va_G) (k5 : mf_k5) (t0 : Nat × Nat) (A : Nat → Prop) (H : Heap) (x al tp : Nat) (due met : Int32) (ks : List (Nat × mf_O)) (s0 b0 : Int32) (hC : mf_CL D k5 t0 A H x al tp due met ks) (hpr : ∀ r ∈ mf_L ks, mf_pr r ≠ 0) : mf_cRO l my_F_nextPrice mc_F_nextPrice 8 (some .int) { frames := 3, cells := 0, slots := 0, locals := 64 } D (mf_tys k5) t0 A H [.ref x, .int s0, .int b0] (some (.int (mf_next s0 b0 (mf_L ks)))) := k_F_nextPrice l D k5 t0 A H x al tp due met ks s0 b0 hC hpr
set_option maxRecDepth 100000 in
set_option maxHeartbeats 4000000 in
theorem k_F_countLevels (l : Launch) (D : va_G) (k5 : mf_k5) (t0 : Nat × Nat) (A : Nat → Prop) (H : Heap) (x al tp : Nat) (due met : Int32) (ks : List (Nat × mf_O)) (s0 : Int32) (hC : mf_CL D k5 t0 A H x al tp due met ks) (hpr : ∀ r ∈ mf_L ks, mf_pr r ≠ 0) : mf_cRO l my_F_countLevels mc_F_countLevels 4 (some .int) { frames := 4, cells := 0, slots := 0, locals := 91 } D (mf_tys k5) t0 A H [.ref x, .int s0] (some (.int (nI (mf_lv (fun b => mf_next s0 b (mf_L ks)) 40 (mf_next s0 0 (mf_L ks)) 0)))) := by
  have hC0 := hC
  obtain ⟨hx, hAx, hAL, hks, hnd⟩ := id hC
  obtain ⟨ed, mc, hal, hA1, hle, hor⟩ := id hAL
  rw [List.length_map] at hle
  refine mf_of (by decide) (Nat.le_of_ble_eq_true rfl) ?_
  intro p e s m below meth c ls C hH hr hlk hnm hmt hl hS
  have hl : lv_has ls 4 [(0, .ref x), (1, .int s0)] := hl
  have loop : ∀ (n k : Nat) (p0 : Int32) (ls : Array Slot), k + n = 40 → mf_lv (fun b => mf_next s0 b (mf_L ks)) n p0 k = mf_lv (fun b => mf_next s0 b (mf_L ks)) 40 (mf_next s0 0 (mf_L ks)) 0 → lv_has ls 4 [(3, .int p0), (2, .int (nI k)), (0, .ref x), (1, .int s0)] → W p l e ({ frames := 4, cells := 0, slots := 0, locals := 91 } : Room) s m (([.ref x, .int s0] : List Value).toArray) below meth c H [] 0 0 (MQ below (mf_K (some (.int (nI (mf_lv (fun b => mf_next s0 b (mf_L ks)) 40 (mf_next s0 0 (mf_L ks)) 0))))) (([.ref x, .int s0] : List Value).toArray) s 0 0 (fun _ => False)) (F0 m 9 ls []) := by
    intro n
    induction n with
    | zero =>
      intro k p0 ls hk i0 hl
      obtain rfl : k = 40 := by omega
      refine lv_iload_n C.x C.b md_F_countLevels_9 rfl (lv_at hl 0 rfl) ?_
      refine lv_if_eq (tgt := 32) C.x C.b md_F_countLevels_10 (by decide) (fun h1 => ?_) (fun h1 => ?_)
      · skip
        refine lv_iload_n C.x C.b md_F_countLevels_32 rfl (lv_at hl 1 rfl) ?_
        rw [show nI (mf_lv (fun b => mf_next s0 b (mf_L ks)) 40 (mf_next s0 0 (mf_L ks)) 0) = (nI 40) by rw [← i0]; rfl]
        exact mf_ri C.x C.b hH hr hlk md_F_countLevels_33
      · skip
        refine lv_iload_n C.x C.b md_F_countLevels_13 rfl (lv_at hl 1 rfl) ?_
        refine lv_bipush (v := 40) C.x C.b md_F_countLevels_14 (by decide) ?_
        refine lv_icmp_ge (tgt := 32) C.x C.b md_F_countLevels_16 (by decide) (fun h2 => ?_) (fun h2 => ?_)
        · skip
          refine lv_iload_n C.x C.b md_F_countLevels_32 rfl (lv_at hl 1 rfl) ?_
          rw [show nI (mf_lv (fun b => mf_next s0 b (mf_L ks)) 40 (mf_next s0 0 (mf_L ks)) 0) = (nI 40) by rw [← i0]; rfl]
          exact mf_ri C.x C.b hH hr hlk md_F_countLevels_33
        · exact absurd (by decide : (40 : Int32) ≤ nI 40) h2
    | succ n ih =>
      intro k p0 ls hk i0 hl
      refine lv_iload_n C.x C.b md_F_countLevels_9 rfl (lv_at hl 0 rfl) ?_
      refine lv_if_eq (tgt := 32) C.x C.b md_F_countLevels_10 (by decide) (fun h3 => ?_) (fun h3 => ?_)
      · skip
        refine lv_iload_n C.x C.b md_F_countLevels_32 rfl (lv_at hl 1 rfl) ?_
        rw [show nI (mf_lv (fun b => mf_next s0 b (mf_L ks)) 40 (mf_next s0 0 (mf_L ks)) 0) = (nI k) by rw [← i0]; rw [h3, mf_lv_0]]
        exact mf_ri C.x C.b hH hr hlk md_F_countLevels_33
      · skip
        refine lv_iload_n C.x C.b md_F_countLevels_13 rfl (lv_at hl 1 rfl) ?_
        refine lv_bipush (v := 40) C.x C.b md_F_countLevels_14 (by decide) ?_
        refine lv_icmp_ge (tgt := 32) C.x C.b md_F_countLevels_16 (by decide) (fun h4 => ?_) (fun h4 => ?_)
        · exact absurd h4 (nI_ge (a := k) (b := 40) (by omega) (by omega))
        · skip
          refine lv_iinc (k := 1) (v := nI (k + 1)) (lv' := [(2, .int (nI (k + 1))), (3, .int p0), (0, .ref x), (1, .int s0)]) C.x C.b md_F_countLevels_19 hl rfl (nI_1 _) (by decide) rfl (fun ls hl => ?_)
          refine lv_aload_n C.x C.b md_F_countLevels_22 rfl (lv_at hl 2 rfl) ?_
          refine lv_iload_n C.x C.b md_F_countLevels_23 rfl (lv_at hl 3 rfl) ?_
          refine lv_iload_n C.x C.b md_F_countLevels_24 rfl (lv_at hl 1 rfl) ?_
          refine mf_cks (va_runV (As := [.int s0, .int p0]) (rest := []) C.f (k_F_next l D k5 t0 A H x al tp due met ks s0 p0 hC hpr) (mf_cV C mt_451 mt_448 mt_1 mt_450 ms_19 mh_F_nextPrice ⟨by decide, by decide⟩) (mf_preV C.ev hS (mf_rv C (ci := 3) (N := 4) rfl hx)) rfl rfl hl.1 rfl (lv_room (Nat.le_of_ble_eq_true rfl)) md_F_countLevels_25 ⟨by omega, by omega⟩) ?_
          refine lv_istore_n (lv' := [(3, .int (mf_next s0 p0 (mf_L ks))), (2, .int (nI (k + 1))), (0, .ref x), (1, .int s0)]) C.x C.b md_F_countLevels_28 rfl hl (by decide) rfl (fun ls hl => ?_)
          refine lv_goto (tgt := 9) C.x C.b md_F_countLevels_29 (by decide) ?_
          exact ih (k + 1) _ ls (by omega) (by rw [← i0, mf_lv_1 _ _ _ h3]) (lv_sub hl [0, 1, 2, 3] rfl)
  refine lv_iconst (v := 0) C.x C.b md_F_countLevels_0 (by decide) ?_
  refine lv_istore_n (lv' := [(2, .int 0), (0, .ref x), (1, .int s0)]) C.x C.b md_F_countLevels_1 rfl hl (by decide) rfl (fun ls hl => ?_)
  refine lv_aload_n C.x C.b md_F_countLevels_2 rfl (lv_at hl 1 rfl) ?_
  refine lv_iload_n C.x C.b md_F_countLevels_3 rfl (lv_at hl 2 rfl) ?_
  refine lv_iconst (v := 0) C.x C.b md_F_countLevels_4 (by decide) ?_
  refine mf_cks (va_runV (As := [.int s0, .int 0]) (rest := []) C.f (k_F_next l D k5 t0 A H x al tp due met ks s0 0 hC hpr) (mf_cV C mt_451 mt_448 mt_1 mt_450 ms_19 mh_F_nextPrice ⟨by decide, by decide⟩) (mf_preV C.ev hS (mf_rv C (ci := 3) (N := 4) rfl hx)) rfl rfl hl.1 rfl (lv_room (Nat.le_of_ble_eq_true rfl)) md_F_countLevels_5 ⟨by omega, by omega⟩) ?_
  refine lv_istore_n (lv' := [(3, .int (mf_next s0 0 (mf_L ks))), (2, .int 0), (0, .ref x), (1, .int s0)]) C.x C.b md_F_countLevels_8 rfl hl (by decide) rfl (fun ls hl => ?_)
  exact loop 40 0 _ ls (by omega) rfl (lv_sub hl [0, 1, 2, 3] rfl)
set_option maxRecDepth 100000 in
set_option maxHeartbeats 4000000 in
theorem k_F_priceOfLevel (l : Launch) (D : va_G) (k5 : mf_k5) (t0 : Nat × Nat) (A : Nat → Prop) (H : Heap) (x al tp : Nat) (due met : Int32) (ks : List (Nat × mf_O)) (s0 : Int32) (j : Nat) (hC : mf_CL D k5 t0 A H x al tp due met ks) (hpr : ∀ r ∈ mf_L ks, mf_pr r ≠ 0) (hj : j < 2 ^ 31) : mf_cRO l my_F_priceOfLevel mc_F_priceOfLevel 5 (some .int) { frames := 4, cells := 0, slots := 0, locals := 91 } D (mf_tys k5) t0 A H [.ref x, .int s0, .int (nI j)] (some (.int (mf_it (fun b => mf_next s0 b (mf_L ks)) j))) := by
  have hC0 := hC
  obtain ⟨hx, hAx, hAL, hks, hnd⟩ := id hC
  obtain ⟨ed, mc, hal, hA1, hle, hor⟩ := id hAL
  rw [List.length_map] at hle
  refine mf_of (by decide) (Nat.le_of_ble_eq_true rfl) ?_
  intro p e s m below meth c ls C hH hr hlk hnm hmt hl hS
  have hl : lv_has ls 5 [(0, .ref x), (1, .int s0), (2, .int (nI j))] := hl
  have loop : ∀ (n k : Nat) (ls : Array Slot), k + n = j → lv_has ls 5 [(4, .int (nI k)), (3, .int (mf_it (fun b => mf_next s0 b (mf_L ks)) k)), (0, .ref x), (1, .int s0), (2, .int (nI j))] → W p l e ({ frames := 4, cells := 0, slots := 0, locals := 91 } : Room) s m (([.ref x, .int s0, .int (nI j)] : List Value).toArray) below meth c H [] 0 0 (MQ below (mf_K (some (.int (mf_it (fun b => mf_next s0 b (mf_L ks)) j)))) (([.ref x, .int s0, .int (nI j)] : List Value).toArray) s 0 0 (fun _ => False)) (F0 m 10 ls []) := by
    intro n
    induction n with
    | zero =>
      intro k ls hk hl
      obtain rfl : j = k := by omega
      refine lv_iload C.x C.b md_F_priceOfLevel_10 (lv_at hl 0 rfl) ?_
      refine lv_iload_n C.x C.b md_F_priceOfLevel_12 rfl (lv_at hl 4 rfl) ?_
      refine lv_icmp_ge (tgt := 29) C.x C.b md_F_priceOfLevel_13 (by decide) (fun h1 => ?_) (fun h1 => ?_)
      · skip
        refine lv_iload_n C.x C.b md_F_priceOfLevel_29 rfl (lv_at hl 1 rfl) ?_
        exact mf_ri C.x C.b hH hr hlk md_F_priceOfLevel_30
      · exact absurd (Int32.le_refl _) h1
    | succ n ih =>
      intro k ls hk hl
      have hkk : k < j := by omega
      refine lv_iload C.x C.b md_F_priceOfLevel_10 (lv_at hl 0 rfl) ?_
      refine lv_iload_n C.x C.b md_F_priceOfLevel_12 rfl (lv_at hl 4 rfl) ?_
      refine lv_icmp_ge (tgt := 29) C.x C.b md_F_priceOfLevel_13 (by decide) (fun h2 => ?_) (fun h2 => ?_)
      · exact absurd h2 (nI_ge hkk hj)
      · skip
        refine lv_aload_n C.x C.b md_F_priceOfLevel_16 rfl (lv_at hl 2 rfl) ?_
        refine lv_iload_n C.x C.b md_F_priceOfLevel_17 rfl (lv_at hl 3 rfl) ?_
        refine lv_iload_n C.x C.b md_F_priceOfLevel_18 rfl (lv_at hl 1 rfl) ?_
        refine mf_cks (va_runV (As := [.int s0, .int (mf_it (fun b => mf_next s0 b (mf_L ks)) k)]) (rest := []) C.f (k_F_next l D k5 t0 A H x al tp due met ks s0 (mf_it (fun b => mf_next s0 b (mf_L ks)) k) hC hpr) (mf_cV C mt_451 mt_448 mt_1 mt_450 ms_19 mh_F_nextPrice ⟨by decide, by decide⟩) (mf_preV C.ev hS (mf_rv C (ci := 3) (N := 4) rfl hx)) rfl rfl hl.1 rfl (lv_room (Nat.le_of_ble_eq_true rfl)) md_F_priceOfLevel_19 ⟨by omega, by omega⟩) ?_
        refine lv_istore_n (lv' := [(3, .int (mf_next s0 (mf_it (fun b => mf_next s0 b (mf_L ks)) k) (mf_L ks))), (4, .int (nI k)), (0, .ref x), (1, .int s0), (2, .int (nI j))]) C.x C.b md_F_priceOfLevel_22 rfl hl (by decide) rfl (fun ls hl => ?_)
        refine lv_iinc (k := 1) (v := nI (k + 1)) (lv' := [(4, .int (nI (k + 1))), (3, .int (mf_next s0 (mf_it (fun b => mf_next s0 b (mf_L ks)) k) (mf_L ks))), (0, .ref x), (1, .int s0), (2, .int (nI j))]) C.x C.b md_F_priceOfLevel_23 hl rfl (nI_1 _) (by decide) rfl (fun ls hl => ?_)
        refine lv_goto (tgt := 10) C.x C.b md_F_priceOfLevel_26 (by decide) ?_
        exact ih (k + 1) ls (by omega) (lv_sub hl [0, 1, 2, 3, 4] rfl)
  refine lv_aload_n C.x C.b md_F_priceOfLevel_0 rfl (lv_at hl 0 rfl) ?_
  refine lv_iload_n C.x C.b md_F_priceOfLevel_1 rfl (lv_at hl 1 rfl) ?_
  refine lv_iconst (v := 0) C.x C.b md_F_priceOfLevel_2 (by decide) ?_
  refine mf_cks (va_runV (As := [.int s0, .int 0]) (rest := []) C.f (k_F_next l D k5 t0 A H x al tp due met ks s0 0 hC hpr) (mf_cV C mt_451 mt_448 mt_1 mt_450 ms_19 mh_F_nextPrice ⟨by decide, by decide⟩) (mf_preV C.ev hS (mf_rv C (ci := 3) (N := 4) rfl hx)) rfl rfl hl.1 rfl (lv_room (Nat.le_of_ble_eq_true rfl)) md_F_priceOfLevel_3 ⟨by omega, by omega⟩) ?_
  refine lv_istore_n (lv' := [(3, .int (mf_next s0 0 (mf_L ks))), (0, .ref x), (1, .int s0), (2, .int (nI j))]) C.x C.b md_F_priceOfLevel_6 rfl hl (by decide) rfl (fun ls hl => ?_)
  refine lv_iconst (v := 0) C.x C.b md_F_priceOfLevel_7 (by decide) ?_
  refine lv_istore (lv' := [(4, .int 0), (3, .int (mf_next s0 0 (mf_L ks))), (0, .ref x), (1, .int s0), (2, .int (nI j))]) C.x C.b md_F_priceOfLevel_8 hl (by decide) rfl (fun ls hl => ?_)
  exact loop j 0 ls (by omega) (lv_sub hl [0, 1, 2, 3, 4] rfl)
set_option maxRecDepth 100000 in
set_option maxHeartbeats 4000000 in
theorem k_F_isRefused (l : Launch) (D : va_G) (k5 : mf_k5) (t0 : Nat × Nat) (A : Nat → Prop) (H : Heap) (x al tp : Nat) (due met : Int32) (ks : List (Nat × mf_O)) (ca : Nat) (cr : mf_O) (kd : Int32) (hC : mf_CL D k5 t0 A H x al tp due met ks) (hca : va_at D mf_cl (ca, .inr (1, mf_fs cr)) H) : mf_cRO l my_F_isRefused mc_F_isRefused 4 (some .boolean) { frames := 4, cells := 0, slots := 0, locals := 89 } D (mf_tys k5) t0 A H [.ref x, .ref ca, .int kd] (some (.int (mf_bI (mf_refused cr kd (mf_L ks))))) := by
  have hC0 := hC
  obtain ⟨hx, hAx, hAL, hks, hnd⟩ := id hC
  obtain ⟨ed, mc, hal, hA1, hle, hor⟩ := id hAL
  rw [List.length_map] at hle
  refine mf_of (by decide) (Nat.le_of_ble_eq_true rfl) ?_
  intro p e s m below meth c ls C hH hr hlk hnm hmt hl hS
  have hl : lv_has ls 4 [(0, .ref x), (1, .ref ca), (2, .int kd)] := hl
  refine lv_iload_n C.x C.b md_F_isRefused_0 rfl (lv_at hl 2 rfl) ?_
  refine lv_iconst (v := 3) C.x C.b md_F_isRefused_1 (by decide) ?_
  refine lv_icmp_ne (tgt := 23) C.x C.b md_F_isRefused_2 (by decide) (fun h1 => ?_) (fun h1 => ?_)
  · skip
    refine lv_iload_n C.x C.b md_F_isRefused_23 rfl (lv_at hl 2 rfl) ?_
    refine lv_iconst (v := 4) C.x C.b md_F_isRefused_24 (by decide) ?_
    refine lv_icmp_ne (tgt := 72) C.x C.b md_F_isRefused_25 (by decide) (fun h2 => ?_) (fun h2 => ?_)
    · skip
      refine lv_iconst (v := 0) C.x C.b md_F_isRefused_72 (by decide) ?_
      rw [show mf_bI (mf_refused cr kd (mf_L ks)) = 0 by first | (simp [mf_bI, mf_refused, h1, h2]; done) | (exfalso; simp_all; done)]
      exact mf_rz C.x C.b hH hr hlk rfl md_F_isRefused_73
    · skip
      refine lv_aload_n C.x C.b md_F_isRefused_28 rfl (lv_at hl 0 rfl) ?_
      refine lv_aload_n C.x C.b md_F_isRefused_29 rfl (lv_at hl 1 rfl) ?_
      refine mf_gfN C (ci := 1) (N := 6) rfl mi_O 2 (by decide) (C.ev.2.1.1 (125, "MatchFloor$Order", "side", "I") (List.mem_of_getElem? (i := 6) rfl)) hca (v := .int (mf_sd cr)) rfl md_F_isRefused_30 ?_
      refine mf_cks (va_runS (As := [.int (mf_sd cr)]) (rest := [.ref x]) C.f (k_F_otherSide l D k5 t0 A H (mf_sd cr)) (mf_cS C mt_278 mt_276 mt_1 mt_277 mh_F_otherSide ⟨by decide, by decide⟩) (mf_preS C.ev hS) rfl rfl hl.1 rfl (lv_room (Nat.le_of_ble_eq_true rfl)) md_F_isRefused_33 ⟨by omega, by omega⟩) ?_
      refine mf_cks (va_runV (As := [.int (mf_other (mf_sd cr))]) (rest := []) C.f (k_F_placeOfFirst l D k5 t0 A H x al tp due met ks (mf_other (mf_sd cr)) hC0) (mf_cV C mt_294 mt_291 mt_1 mt_293 ms_6 mh_F_placeOfFirst ⟨by decide, by decide⟩) (mf_preV C.ev hS (mf_rv C (ci := 3) (N := 4) rfl hx)) rfl rfl hl.1 rfl (lv_room (Nat.le_of_ble_eq_true rfl)) md_F_isRefused_36 ⟨by omega, by omega⟩) ?_
      rcases hfst : mf_first (mf_other (mf_sd cr)) (mf_L ks) with _ | ⟨j, r⟩
      · refine W.eq (g2 := F0 m 39 ls [.int (-1)]) rfl ?_
        refine lv_istore_n (lv' := [(3, .int (-1)), (0, .ref x), (1, .ref ca), (2, .int kd)]) C.x C.b md_F_isRefused_39 rfl hl (by decide) rfl (fun ls hl => ?_)
        refine lv_iload_n C.x C.b md_F_isRefused_40 rfl (lv_at hl 0 rfl) ?_
        refine lv_iconst (v := (-1)) C.x C.b md_F_isRefused_41 (by decide) ?_
        refine lv_icmp_eq (tgt := 70) C.x C.b md_F_isRefused_42 (by decide) (fun h3 => ?_) (fun h3 => ?_)
        · skip
          refine lv_iconst (v := 0) C.x C.b md_F_isRefused_70 (by decide) ?_
          rw [show mf_bI (mf_refused cr kd (mf_L ks)) = 0 by first | (simp [mf_bI, mf_refused, h1, h2, hfst, h3]; done) | (exfalso; simp_all; done)]
          exact mf_rz C.x C.b hH hr hlk rfl md_F_isRefused_71
        · exact absurd rfl h3
      · refine W.eq (g2 := F0 m 39 ls [.int (nI j)]) rfl ?_
        obtain ⟨a, hq⟩ := mf_pick_ka hfst
        have hjl : j < ks.length := (List.getElem?_eq_some_iff.mp hq).1
        have ho : va_at D mf_cl (a, .inr (1, mf_fs r)) H := (hks (a, r) (List.mem_of_getElem? hq)).1
        refine lv_istore_n (lv' := [(3, .int (nI j)), (0, .ref x), (1, .ref ca), (2, .int kd)]) C.x C.b md_F_isRefused_39 rfl hl (by decide) rfl (fun ls hl => ?_)
        refine lv_iload_n C.x C.b md_F_isRefused_40 rfl (lv_at hl 0 rfl) ?_
        refine lv_iconst (v := (-1)) C.x C.b md_F_isRefused_41 (by decide) ?_
        refine lv_icmp_eq (tgt := 70) C.x C.b md_F_isRefused_42 (by decide) (fun h4 => ?_) (fun h4 => ?_)
        · exact absurd h4 (mf_nI_ne (by omega))
        · skip
          refine lv_aload_n C.x C.b md_F_isRefused_45 rfl (lv_at hl 1 rfl) ?_
          refine mf_gf C (ci := 3) (N := 4) rfl mi_F 0 (by decide) mt_84 hx (v := .ref al) rfl md_F_isRefused_46 ?_
          refine lv_iload_n C.x C.b md_F_isRefused_49 rfl (lv_at hl 0 rfl) ?_
          refine mf_cks (va_runV (As := [.int (nI j)]) (rest := []) C.f (k_A_get l D k5 t0 A H al j a _ hAL (mf_kq hq)) (mf_cV C mt_209 mt_206 mt_4 mt_207 mt_208 mh_A_get ⟨by decide, by decide⟩) (mf_preV C.ev hS (mf_rv C (ci := 0) (N := 3) rfl hal)) rfl rfl hl.1 rfl (lv_room (Nat.le_of_ble_eq_true rfl)) md_F_isRefused_50 ⟨by omega, by omega⟩) ?_
          refine mf_cast C (ci := 1) (N := 6) rfl mt_220 ho md_F_isRefused_53 ?_
          refine lv_aload_n C.x C.b md_F_isRefused_56 rfl (lv_at hl 2 rfl) ?_
          refine mf_gfN C (ci := 1) (N := 6) rfl mi_O 4 (by decide) (C.ev.2.1.1 (92, "MatchFloor$Order", "price", "I") (List.mem_of_getElem? (i := 8) rfl)) hca (v := .int (mf_pr cr)) rfl md_F_isRefused_57 ?_
          refine mf_cks (va_runVN (As := [.int (mf_pr cr)]) (rest := []) C.f (k_O_isFitBy l D k5 t0 A H a r (mf_pr cr) ho) ⟨mf_cN C mt_286 (C.ev.2.1.2.1 ("MatchFloor", 186, my_O_isFitBy) (List.mem_of_getElem? (i := 3) rfl)) mt_14 mh_O_isFitBy ⟨by decide, by decide⟩, C.t mt_285, C.t ms_5⟩ (mf_preV C.ev hS (mf_rv C (ci := 1) (N := 6) rfl ho)) rfl rfl hl.1 rfl (lv_room (Nat.le_of_ble_eq_true rfl)) md_F_isRefused_60 ⟨by omega, by omega⟩) ?_
          refine lv_if_eq (tgt := 70) C.x C.b md_F_isRefused_63 (by decide) (fun h5 => ?_) (fun h5 => ?_)
          · skip
            refine lv_iconst (v := 0) C.x C.b md_F_isRefused_70 (by decide) ?_
            rw [show mf_bI (mf_refused cr kd (mf_L ks)) = 0 by first | (simp [mf_bI, mf_refused, h1, h2, hfst, h4, mf_bI_0.mp h5]; done) | (exfalso; simp_all; done)]
            exact mf_rz C.x C.b hH hr hlk rfl md_F_isRefused_71
          · skip
            refine lv_iconst (v := 1) C.x C.b md_F_isRefused_66 (by decide) ?_
            refine lv_goto (tgt := 71) C.x C.b md_F_isRefused_67 (by decide) ?_
            rw [show mf_bI (mf_refused cr kd (mf_L ks)) = 1 by first | (simp [mf_bI, mf_refused, h1, h2, hfst, h4, mf_bI_1.mp h5]; done) | (exfalso; simp_all; done)]
            exact mf_rz C.x C.b hH hr hlk rfl md_F_isRefused_71
  · skip
    refine lv_aload_n C.x C.b md_F_isRefused_5 rfl (lv_at hl 0 rfl) ?_
    refine lv_aload_n C.x C.b md_F_isRefused_6 rfl (lv_at hl 1 rfl) ?_
    refine mf_cks (va_runV (As := [.ref ca]) (rest := []) C.f (k_F_leftFor l D k5 t0 A H x al tp due met ks ca cr hC0 hca) (mf_cV C mt_275 mt_272 mt_1 mt_274 ms_3 mh_F_leftFor ⟨by decide, by decide⟩) (mf_preV C.ev hS (mf_rv C (ci := 3) (N := 4) rfl hx)) rfl rfl hl.1 rfl (lv_room (Nat.le_of_ble_eq_true rfl)) md_F_isRefused_7 ⟨by omega, by omega⟩) ?_
    refine lv_aload_n C.x C.b md_F_isRefused_10 rfl (lv_at hl 1 rfl) ?_
    refine mf_gfN C (ci := 1) (N := 6) rfl mi_O 5 (by decide) (C.ev.2.1.1 (81, "MatchFloor$Order", "left", "I") (List.mem_of_getElem? (i := 9) rfl)) hca (v := .int (mf_lf cr)) rfl md_F_isRefused_11 ?_
    refine lv_icmp_ge (tgt := 21) C.x C.b md_F_isRefused_14 (by decide) (fun h6 => ?_) (fun h6 => ?_)
    · skip
      refine lv_iconst (v := 0) C.x C.b md_F_isRefused_21 (by decide) ?_
      rw [show mf_bI (mf_refused cr kd (mf_L ks)) = 0 by first | (simp [mf_bI, mf_refused, h1, h6, Int32.not_lt.mpr h6]; done) | (unfold mf_refused; rw [if_pos h1, decide_eq_false (Int32.not_lt.mpr h6)]; rfl) | (exfalso; simp_all; done)]
      exact mf_rz C.x C.b hH hr hlk rfl md_F_isRefused_22
    · skip
      refine lv_iconst (v := 1) C.x C.b md_F_isRefused_17 (by decide) ?_
      refine lv_goto (tgt := 22) C.x C.b md_F_isRefused_18 (by decide) ?_
      rw [show mf_bI (mf_refused cr kd (mf_L ks)) = 1 by first | (simp [mf_bI, mf_refused, h1, h6, Int32.not_le.mp h6]; done) | (unfold mf_refused; rw [if_pos h1, decide_eq_true (Int32.not_le.mp h6)]; rfl) | (exfalso; simp_all; done)]
      exact mf_rz C.x C.b hH hr hlk rfl md_F_isRefused_22
