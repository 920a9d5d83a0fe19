/-! the model: amend, submit -/
theorem mf_Rc.setw {R : List mf_T} {i ow sd pr lf tm : Int32} {f0 f1 f2 f3 f4 f5 f6 : Nat → Int32} (h : mf_Rc (R ++ [((i, ow, sd, 0, pr, lf), tm)]) f0 f1 f2 f3 f4 f5 f6) {v : Int32} (hv : vp_nar .boolean v = v) : mf_Rc (R ++ [((i, ow, sd, v, pr, lf), tm)]) f0 f1 f2 f3 f4 f5 (upd f6 R.length v) := by
  intro j y hj
  by_cases e : j < R.length
  · rw [List.getElem?_append_left e] at hj
    obtain ⟨h0, h1, h2, h3, h4, h5, h6, h7⟩ := h j y (by rw [List.getElem?_append_left e]; exact hj)
    exact ⟨h0, h1, h2, h3, h4, h5, (mf_upd_ne (by omega)).trans h6, h7⟩
  · have hl := (List.getElem?_eq_some_iff.mp hj).1
    rw [List.length_append] at hl
    have e2 : j = R.length := by have : [(((i, ow, sd, v, pr, lf), tm) : mf_T)].length = 1 := rfl; omega
    subst e2
    rw [List.getElem?_append_right (Nat.le_refl _), Nat.sub_self] at hj
    cases hj
    obtain ⟨h0, h1, h2, h3, h4, h5, h6, h7⟩ := h R.length ((i, ow, sd, 0, pr, lf), tm) (by rw [List.getElem?_append_right (Nat.le_refl _), Nat.sub_self]; rfl)
    exact ⟨h0, h1, h2, h3, h4, h5, mf_upd_at, hv⟩
theorem mf_snoc_len {α : Type} (R : List α) (x : α) : (R ++ [x]).length = R.length + 1 := by rw [List.length_append]; rfl
theorem mf_bIn (b : Bool) : vp_nar .boolean (mf_bI b) = mf_bI b := by cases b <;> decide
theorem mf_eq40 {n : Nat} (h : nI n = 40) (hn : n ≤ 40) : n = 40 := (nI_eq (by omega) (by decide)).mp (show nI n = nI 40 from h)
theorem mf_ne40 {n : Nat} (h : ¬ nI n = 40) (hn : n ≤ 40) : n < 40 := Nat.lt_of_le_of_ne hn (fun z => h (by rw [z]; rfl))
set_option maxRecDepth 100000 in
set_option maxHeartbeats 4000000 in
theorem k_M_amend (l : Launch) (D : va_G) (k5 : mf_k5) (t0 : Nat × Nat) (A : Nat → Prop) (H : Heap) (mo : Nat) (aa : Nat → Nat) (cd ck sp mt : Int32) (R : List mf_T) (g : mf_G) (i p0 q0 : Int32) (hM : mf_MD D k5 A H mo aa cd (R, ck, sp, mt, g)) (hg : g.1 + 41 * 41 < 2 ^ 31) : mf_cWR l my_M_amend mc_M_amend 10 (some .int) { frames := 4, cells := 0, slots := 0, locals := 99 } D (mf_tys k5) t0 A H [.ref mo, .int i, .int p0, .int q0] (some (.int (rf_amend i p0 q0 (R, ck, sp, mt, g)).1.2)) (fun H1 => mf_MD D k5 A H1 mo aa (nI (rf_amend i p0 q0 (R, ck, sp, mt, g)).1.1) (rf_amend i p0 q0 (R, ck, sp, mt, g)).2) (A) 0 0 := by
  obtain ⟨f0, f1, f2, f3, f4, f5, f6, f7, f8, f9, f10, hP, hD, hle, hRF, hRG⟩ := id hM
  have hP : va_P D mf_cl [(mo, .inr (4, [.int cd, .int (nI R.length), .int ck, .ref (aa 0), .ref (aa 1), .ref (aa 2), .ref (aa 3), .ref (aa 4), .ref (aa 5), .ref (aa 6), .int (nI g.1), .ref (aa 7), .ref (aa 8), .ref (aa 9), .ref (aa 10), .int g.2.1, .long g.2.2.2.1, .int g.2.2.1, .int sp, .int mt])), (aa 0, .inl (k5.2.2.1, 40, .inl f0)), (aa 1, .inl (k5.2.2.1, 40, .inl f1)), (aa 2, .inl (k5.2.2.1, 40, .inl f2)), (aa 3, .inl (k5.2.2.1, 40, .inl f3)), (aa 4, .inl (k5.2.2.1, 40, .inl f4)), (aa 5, .inl (k5.2.2.1, 40, .inl f5)), (aa 6, .inl (k5.2.2.2.1, 40, .inl f6)), (aa 7, .inl (k5.2.2.1, 32, .inl f7)), (aa 8, .inl (k5.2.2.1, 32, .inl f8)), (aa 9, .inl (k5.2.2.1, 32, .inl f9)), (aa 10, .inl (k5.2.2.1, 32, .inl f10))] H := hP
  have hle : R.length ≤ 40 := hle
  have hD : va_D A [(mo, .inr (4, [.int cd, .int (nI R.length), .int ck, .ref (aa 0), .ref (aa 1), .ref (aa 2), .ref (aa 3), .ref (aa 4), .ref (aa 5), .ref (aa 6), .int (nI g.1), .ref (aa 7), .ref (aa 8), .ref (aa 9), .ref (aa 10), .int g.2.1, .long g.2.2.2.1, .int g.2.2.1, .int sp, .int mt])), (aa 0, .inl (k5.2.2.1, 40, .inl f0)), (aa 1, .inl (k5.2.2.1, 40, .inl f1)), (aa 2, .inl (k5.2.2.1, 40, .inl f2)), (aa 3, .inl (k5.2.2.1, 40, .inl f3)), (aa 4, .inl (k5.2.2.1, 40, .inl f4)), (aa 5, .inl (k5.2.2.1, 40, .inl f5)), (aa 6, .inl (k5.2.2.2.1, 40, .inl f6)), (aa 7, .inl (k5.2.2.1, 32, .inl f7)), (aa 8, .inl (k5.2.2.1, 32, .inl f8)), (aa 9, .inl (k5.2.2.1, 32, .inl f9)), (aa 10, .inl (k5.2.2.1, 32, .inl f10))] := hD
  have hRF : mf_Rc R f0 f1 f2 f3 f4 f5 f6 := hRF
  have hRG : mf_Rg g f7 f8 f9 f10 := hRG
  refine mf_of (by decide) (Nat.le_of_ble_eq_true rfl) ?_
  intro p e s m below meth c ls C hH hr hlk hnm hmt hl hS
  have hl : lv_has ls 10 [(0, .ref mo), (1, .int i), (2, .int p0), (3, .int q0)] := hl
  refine lv_iload_n C.x C.b md_M_amend_0 rfl (lv_at hl 2 rfl) ?_
  refine lv_iconst (v := 1) C.x C.b md_M_amend_1 (by decide) ?_
  refine lv_sipush (v := 10000) C.x C.b md_M_amend_2 (by decide) ?_
  refine mf_cks (va_runS (As := [.int p0, .int 1, .int 10000]) (rest := []) C.f (k_M_among l D k5 t0 A H p0 1 10000) (mf_cS C mt_607 mt_605 mt_6 mt_606 mh_M_among ⟨by decide, by decide⟩) (mf_preS C.ev hS) rfl rfl hl.1 rfl (lv_room (Nat.le_of_ble_eq_true rfl)) md_M_amend_5 ⟨by first | omega | exact Nat.le_of_ble_eq_true rfl, by first | omega | exact Nat.le_of_ble_eq_true rfl⟩) ?_
  refine lv_if_eq (tgt := 25) C.x C.b md_M_amend_8 (by decide) (fun h1 => ?_) (fun h1 => ?_)
  · skip
    refine lv_iconst (v := 0) C.x C.b md_M_amend_25 (by decide) ?_
    refine lv_istore (lv' := [(4, .int 0), (0, .ref mo), (1, .int i), (2, .int p0), (3, .int q0)]) C.x C.b md_M_amend_26 hl (by decide) rfl (fun ls hl => ?_)
    refine lv_iload C.x C.b md_M_amend_28 (lv_at hl 0 rfl) ?_
    refine lv_if_eq (tgt := 41) C.x C.b md_M_amend_30 (by decide) (fun h2 => ?_) (fun h2 => ?_)
    · skip
      refine lv_iconst (v := (-1)) C.x C.b md_M_amend_41 (by decide) ?_
      refine lv_istore (lv' := [(5, .int (-1)), (4, .int 0), (0, .ref mo), (1, .int i), (2, .int p0), (3, .int q0)]) C.x C.b md_M_amend_42 hl (by decide) rfl (fun ls hl => ?_)
      refine lv_aload_n C.x C.b md_M_amend_44 rfl (lv_at hl 2 rfl) ?_
      refine lv_iload C.x C.b md_M_amend_45 (lv_at hl 1 rfl) ?_
      refine lv_if_ne (tgt := 54) C.x C.b md_M_amend_47 (by decide) (fun h3 => ?_) (fun h3 => ?_)
      · exact absurd h3 (fun z => z rfl)
      · skip
        refine lv_iconst (v := 1) C.x C.b md_M_amend_50 (by decide) ?_
        refine lv_goto (tgt := 64) C.x C.b md_M_amend_51 (by decide) ?_
        refine va_put (D := D) (ci := 4) (v := .int 1) (ty := .int) (C := mf_RM) (T := mf_TM) (N := 20) C.x C.b C.2.2.1 mi_M mf_tyM mp_M mn_M C.o C.k hP hD hS 0 rfl rfl 0 (by decide) (C.t mt_535) (fun _ h => h) rfl (by decide +kernel) rfl rfl (Nat.le_of_ble_eq_true rfl) md_M_amend_64 (fun H locs hP hD hS => ?_)
        have hP : va_P D mf_cl [(mo, .inr (4, [.int 1, .int (nI R.length), .int ck, .ref (aa 0), .ref (aa 1), .ref (aa 2), .ref (aa 3), .ref (aa 4), .ref (aa 5), .ref (aa 6), .int (nI g.1), .ref (aa 7), .ref (aa 8), .ref (aa 9), .ref (aa 10), .int g.2.1, .long g.2.2.2.1, .int g.2.2.1, .int sp, .int mt])), (aa 0, .inl (k5.2.2.1, 40, .inl f0)), (aa 1, .inl (k5.2.2.1, 40, .inl f1)), (aa 2, .inl (k5.2.2.1, 40, .inl f2)), (aa 3, .inl (k5.2.2.1, 40, .inl f3)), (aa 4, .inl (k5.2.2.1, 40, .inl f4)), (aa 5, .inl (k5.2.2.1, 40, .inl f5)), (aa 6, .inl (k5.2.2.2.1, 40, .inl f6)), (aa 7, .inl (k5.2.2.1, 32, .inl f7)), (aa 8, .inl (k5.2.2.1, 32, .inl f8)), (aa 9, .inl (k5.2.2.1, 32, .inl f9)), (aa 10, .inl (k5.2.2.1, 32, .inl f10))] H := hP
        have hD : va_D A [(mo, .inr (4, [.int 1, .int (nI R.length), .int ck, .ref (aa 0), .ref (aa 1), .ref (aa 2), .ref (aa 3), .ref (aa 4), .ref (aa 5), .ref (aa 6), .int (nI g.1), .ref (aa 7), .ref (aa 8), .ref (aa 9), .ref (aa 10), .int g.2.1, .long g.2.2.2.1, .int g.2.2.1, .int sp, .int mt])), (aa 0, .inl (k5.2.2.1, 40, .inl f0)), (aa 1, .inl (k5.2.2.1, 40, .inl f1)), (aa 2, .inl (k5.2.2.1, 40, .inl f2)), (aa 3, .inl (k5.2.2.1, 40, .inl f3)), (aa 4, .inl (k5.2.2.1, 40, .inl f4)), (aa 5, .inl (k5.2.2.1, 40, .inl f5)), (aa 6, .inl (k5.2.2.2.1, 40, .inl f6)), (aa 7, .inl (k5.2.2.1, 32, .inl f7)), (aa 8, .inl (k5.2.2.1, 32, .inl f8)), (aa 9, .inl (k5.2.2.1, 32, .inl f9)), (aa 10, .inl (k5.2.2.1, 32, .inl f10))] := hD
        refine lv_aload_n C.x C.b md_M_amend_67 rfl (lv_at hl 2 rfl) ?_
        refine mf_gf C (ci := 4) (N := 20) rfl mi_M 0 (by decide) mt_535 (hP 0 _ rfl) (v := .int 1) rfl md_M_amend_68 ?_
        refine lv_if_le (tgt := 76) C.x C.b md_M_amend_71 (by decide) (fun h4 => ?_) (fun h4 => ?_)
        · exact absurd h4 (by decide)
        · skip
          refine lv_iconst (v := 0) C.x C.b md_M_amend_74 (by decide) ?_
          have hsp : rf_amend i p0 q0 (R, ck, sp, mt, g) = ((1, 0), R, ck, sp, mt, g) := by exact if_neg (fun z => by simp only [mf_prOk, mf_qtOk, Bool.and_eq_true, decide_eq_true_eq] at z; exact mf_andF (mf_bI_0.mp h1) z.1)
          rw [hsp]
          exact mf_wi C.x C.b hr hlk md_M_amend_75 ⟨f0, f1, f2, f3, f4, f5, f6, f7, f8, f9, f10, hP, hD, hle, hRF, hRG⟩ (by rw [← hH]; exact ⟨hS.1, hS.2.1⟩) hH hS.2.2 (Nat.le_refl _) (Nat.le_refl _)
    · exact absurd rfl h2
  · skip
    refine lv_iload_n C.x C.b md_M_amend_11 rfl (lv_at hl 3 rfl) ?_
    refine lv_iconst (v := 1) C.x C.b md_M_amend_12 (by decide) ?_
    refine lv_ldc (v := 1000000) C.x C.b C.o (C.t mt_608) md_M_amend_13 ?_
    refine mf_cks (va_runS (As := [.int q0, .int 1, .int 1000000]) (rest := []) C.f (k_M_among l D k5 t0 A H q0 1 1000000) (mf_cS C mt_607 mt_605 mt_6 mt_606 mh_M_among ⟨by decide, by decide⟩) (mf_preS C.ev hS) rfl rfl hl.1 rfl (lv_room (Nat.le_of_ble_eq_true rfl)) md_M_amend_15 ⟨by first | omega | exact Nat.le_of_ble_eq_true rfl, by first | omega | exact Nat.le_of_ble_eq_true rfl⟩) ?_
    refine lv_if_eq (tgt := 25) C.x C.b md_M_amend_18 (by decide) (fun h5 => ?_) (fun h5 => ?_)
    · skip
      refine lv_iconst (v := 0) C.x C.b md_M_amend_25 (by decide) ?_
      refine lv_istore (lv' := [(4, .int 0), (0, .ref mo), (1, .int i), (2, .int p0), (3, .int q0)]) C.x C.b md_M_amend_26 hl (by decide) rfl (fun ls hl => ?_)
      refine lv_iload C.x C.b md_M_amend_28 (lv_at hl 0 rfl) ?_
      refine lv_if_eq (tgt := 41) C.x C.b md_M_amend_30 (by decide) (fun h6 => ?_) (fun h6 => ?_)
      · skip
        refine lv_iconst (v := (-1)) C.x C.b md_M_amend_41 (by decide) ?_
        refine lv_istore (lv' := [(5, .int (-1)), (4, .int 0), (0, .ref mo), (1, .int i), (2, .int p0), (3, .int q0)]) C.x C.b md_M_amend_42 hl (by decide) rfl (fun ls hl => ?_)
        refine lv_aload_n C.x C.b md_M_amend_44 rfl (lv_at hl 2 rfl) ?_
        refine lv_iload C.x C.b md_M_amend_45 (lv_at hl 1 rfl) ?_
        refine lv_if_ne (tgt := 54) C.x C.b md_M_amend_47 (by decide) (fun h7 => ?_) (fun h7 => ?_)
        · exact absurd h7 (fun z => z rfl)
        · skip
          refine lv_iconst (v := 1) C.x C.b md_M_amend_50 (by decide) ?_
          refine lv_goto (tgt := 64) C.x C.b md_M_amend_51 (by decide) ?_
          refine va_put (D := D) (ci := 4) (v := .int 1) (ty := .int) (C := mf_RM) (T := mf_TM) (N := 20) C.x C.b C.2.2.1 mi_M mf_tyM mp_M mn_M C.o C.k hP hD hS 0 rfl rfl 0 (by decide) (C.t mt_535) (fun _ h => h) rfl (by decide +kernel) rfl rfl (Nat.le_of_ble_eq_true rfl) md_M_amend_64 (fun H locs hP hD hS => ?_)
          have hP : va_P D mf_cl [(mo, .inr (4, [.int 1, .int (nI R.length), .int ck, .ref (aa 0), .ref (aa 1), .ref (aa 2), .ref (aa 3), .ref (aa 4), .ref (aa 5), .ref (aa 6), .int (nI g.1), .ref (aa 7), .ref (aa 8), .ref (aa 9), .ref (aa 10), .int g.2.1, .long g.2.2.2.1, .int g.2.2.1, .int sp, .int mt])), (aa 0, .inl (k5.2.2.1, 40, .inl f0)), (aa 1, .inl (k5.2.2.1, 40, .inl f1)), (aa 2, .inl (k5.2.2.1, 40, .inl f2)), (aa 3, .inl (k5.2.2.1, 40, .inl f3)), (aa 4, .inl (k5.2.2.1, 40, .inl f4)), (aa 5, .inl (k5.2.2.1, 40, .inl f5)), (aa 6, .inl (k5.2.2.2.1, 40, .inl f6)), (aa 7, .inl (k5.2.2.1, 32, .inl f7)), (aa 8, .inl (k5.2.2.1, 32, .inl f8)), (aa 9, .inl (k5.2.2.1, 32, .inl f9)), (aa 10, .inl (k5.2.2.1, 32, .inl f10))] H := hP
          have hD : va_D A [(mo, .inr (4, [.int 1, .int (nI R.length), .int ck, .ref (aa 0), .ref (aa 1), .ref (aa 2), .ref (aa 3), .ref (aa 4), .ref (aa 5), .ref (aa 6), .int (nI g.1), .ref (aa 7), .ref (aa 8), .ref (aa 9), .ref (aa 10), .int g.2.1, .long g.2.2.2.1, .int g.2.2.1, .int sp, .int mt])), (aa 0, .inl (k5.2.2.1, 40, .inl f0)), (aa 1, .inl (k5.2.2.1, 40, .inl f1)), (aa 2, .inl (k5.2.2.1, 40, .inl f2)), (aa 3, .inl (k5.2.2.1, 40, .inl f3)), (aa 4, .inl (k5.2.2.1, 40, .inl f4)), (aa 5, .inl (k5.2.2.1, 40, .inl f5)), (aa 6, .inl (k5.2.2.2.1, 40, .inl f6)), (aa 7, .inl (k5.2.2.1, 32, .inl f7)), (aa 8, .inl (k5.2.2.1, 32, .inl f8)), (aa 9, .inl (k5.2.2.1, 32, .inl f9)), (aa 10, .inl (k5.2.2.1, 32, .inl f10))] := hD
          refine lv_aload_n C.x C.b md_M_amend_67 rfl (lv_at hl 2 rfl) ?_
          refine mf_gf C (ci := 4) (N := 20) rfl mi_M 0 (by decide) mt_535 (hP 0 _ rfl) (v := .int 1) rfl md_M_amend_68 ?_
          refine lv_if_le (tgt := 76) C.x C.b md_M_amend_71 (by decide) (fun h8 => ?_) (fun h8 => ?_)
          · exact absurd h8 (by decide)
          · skip
            refine lv_iconst (v := 0) C.x C.b md_M_amend_74 (by decide) ?_
            have hsp : rf_amend i p0 q0 (R, ck, sp, mt, g) = ((1, 0), R, ck, sp, mt, g) := by exact if_neg (fun z => by simp only [mf_prOk, mf_qtOk, Bool.and_eq_true, decide_eq_true_eq] at z; exact mf_andF (mf_bI_0.mp h5) z.2)
            rw [hsp]
            exact mf_wi C.x C.b hr hlk md_M_amend_75 ⟨f0, f1, f2, f3, f4, f5, f6, f7, f8, f9, f10, hP, hD, hle, hRF, hRG⟩ (by rw [← hH]; exact ⟨hS.1, hS.2.1⟩) hH hS.2.2 (Nat.le_refl _) (Nat.le_refl _)
      · exact absurd rfl h6
    · skip
      refine lv_iconst (v := 1) C.x C.b md_M_amend_21 (by decide) ?_
      refine lv_goto (tgt := 26) C.x C.b md_M_amend_22 (by decide) ?_
      refine lv_istore (lv' := [(4, .int 1), (0, .ref mo), (1, .int i), (2, .int p0), (3, .int q0)]) C.x C.b md_M_amend_26 hl (by decide) rfl (fun ls hl => ?_)
      refine lv_iload C.x C.b md_M_amend_28 (lv_at hl 0 rfl) ?_
      refine lv_if_eq (tgt := 41) C.x C.b md_M_amend_30 (by decide) (fun h9 => ?_) (fun h9 => ?_)
      · exact absurd h9 (by decide)
      · skip
        refine lv_aload_n C.x C.b md_M_amend_33 rfl (lv_at hl 1 rfl) ?_
        refine lv_iload_n C.x C.b md_M_amend_34 rfl (lv_at hl 2 rfl) ?_
        have hgd : (mf_prOk p0 && mf_qtOk q0) = true := by simp only [mf_prOk, mf_qtOk, Bool.and_eq_true, decide_eq_true_eq]; exact ⟨⟨(mf_andT (mf_bI_1.mp h1)).1, (mf_andT (mf_bI_1.mp h1)).2⟩, (mf_andT (mf_bI_1.mp h5)).1, (mf_andT (mf_bI_1.mp h5)).2⟩
        refine mf_cks (va_runV (As := [.int i]) (rest := []) C.f (k_M_find l D k5 t0 A H mo aa cd ck sp mt R g i hM) (mf_cV C mt_612 mt_609 mt_6 mt_611 ms_27 mh_M_find ⟨by decide, by decide⟩) (mf_preV C.ev hS (mf_rv C (ci := 4) (N := 20) rfl (hP 0 _ rfl))) rfl rfl hl.1 rfl (lv_room (Nat.le_of_ble_eq_true rfl)) md_M_amend_35 ⟨by first | omega | exact Nat.le_of_ble_eq_true rfl, by first | omega | exact Nat.le_of_ble_eq_true rfl⟩) ?_
        rcases hp : rf_find i R with _ | ⟨k, x⟩
        · rw [show mf_ix (none : Option (Nat × mf_T)) = -1 from rfl]
          refine lv_goto (tgt := 42) C.x C.b md_M_amend_38 (by decide) ?_
          refine lv_istore (lv' := [(5, .int (-1)), (4, .int 1), (0, .ref mo), (1, .int i), (2, .int p0), (3, .int q0)]) C.x C.b md_M_amend_42 hl (by decide) rfl (fun ls hl => ?_)
          refine lv_aload_n C.x C.b md_M_amend_44 rfl (lv_at hl 2 rfl) ?_
          refine lv_iload C.x C.b md_M_amend_45 (lv_at hl 1 rfl) ?_
          refine lv_if_ne (tgt := 54) C.x C.b md_M_amend_47 (by decide) (fun h10 => ?_) (fun h10 => ?_)
          · skip
            refine lv_iload C.x C.b md_M_amend_54 (lv_at hl 0 rfl) ?_
            refine lv_if_ge (tgt := 63) C.x C.b md_M_amend_56 (by decide) (fun h11 => ?_) (fun h11 => ?_)
            · exact absurd h11 (by decide)
            · skip
              refine lv_iconst (v := 2) C.x C.b md_M_amend_59 (by decide) ?_
              refine lv_goto (tgt := 64) C.x C.b md_M_amend_60 (by decide) ?_
              refine va_put (D := D) (ci := 4) (v := .int 2) (ty := .int) (C := mf_RM) (T := mf_TM) (N := 20) C.x C.b C.2.2.1 mi_M mf_tyM mp_M mn_M C.o C.k hP hD hS 0 rfl rfl 0 (by decide) (C.t mt_535) (fun _ h => h) rfl (by decide +kernel) rfl rfl (Nat.le_of_ble_eq_true rfl) md_M_amend_64 (fun H locs hP hD hS => ?_)
              have hP : va_P D mf_cl [(mo, .inr (4, [.int 2, .int (nI R.length), .int ck, .ref (aa 0), .ref (aa 1), .ref (aa 2), .ref (aa 3), .ref (aa 4), .ref (aa 5), .ref (aa 6), .int (nI g.1), .ref (aa 7), .ref (aa 8), .ref (aa 9), .ref (aa 10), .int g.2.1, .long g.2.2.2.1, .int g.2.2.1, .int sp, .int mt])), (aa 0, .inl (k5.2.2.1, 40, .inl f0)), (aa 1, .inl (k5.2.2.1, 40, .inl f1)), (aa 2, .inl (k5.2.2.1, 40, .inl f2)), (aa 3, .inl (k5.2.2.1, 40, .inl f3)), (aa 4, .inl (k5.2.2.1, 40, .inl f4)), (aa 5, .inl (k5.2.2.1, 40, .inl f5)), (aa 6, .inl (k5.2.2.2.1, 40, .inl f6)), (aa 7, .inl (k5.2.2.1, 32, .inl f7)), (aa 8, .inl (k5.2.2.1, 32, .inl f8)), (aa 9, .inl (k5.2.2.1, 32, .inl f9)), (aa 10, .inl (k5.2.2.1, 32, .inl f10))] H := hP
              have hD : va_D A [(mo, .inr (4, [.int 2, .int (nI R.length), .int ck, .ref (aa 0), .ref (aa 1), .ref (aa 2), .ref (aa 3), .ref (aa 4), .ref (aa 5), .ref (aa 6), .int (nI g.1), .ref (aa 7), .ref (aa 8), .ref (aa 9), .ref (aa 10), .int g.2.1, .long g.2.2.2.1, .int g.2.2.1, .int sp, .int mt])), (aa 0, .inl (k5.2.2.1, 40, .inl f0)), (aa 1, .inl (k5.2.2.1, 40, .inl f1)), (aa 2, .inl (k5.2.2.1, 40, .inl f2)), (aa 3, .inl (k5.2.2.1, 40, .inl f3)), (aa 4, .inl (k5.2.2.1, 40, .inl f4)), (aa 5, .inl (k5.2.2.1, 40, .inl f5)), (aa 6, .inl (k5.2.2.2.1, 40, .inl f6)), (aa 7, .inl (k5.2.2.1, 32, .inl f7)), (aa 8, .inl (k5.2.2.1, 32, .inl f8)), (aa 9, .inl (k5.2.2.1, 32, .inl f9)), (aa 10, .inl (k5.2.2.1, 32, .inl f10))] := hD
              refine lv_aload_n C.x C.b md_M_amend_67 rfl (lv_at hl 2 rfl) ?_
              refine mf_gf C (ci := 4) (N := 20) rfl mi_M 0 (by decide) mt_535 (hP 0 _ rfl) (v := .int 2) rfl md_M_amend_68 ?_
              refine lv_if_le (tgt := 76) C.x C.b md_M_amend_71 (by decide) (fun h12 => ?_) (fun h12 => ?_)
              · exact absurd h12 (by decide)
              · skip
                refine lv_iconst (v := 0) C.x C.b md_M_amend_74 (by decide) ?_
                have hsp : rf_amend i p0 q0 (R, ck, sp, mt, g) = ((2, 0), R, ck, sp, mt, g) := by unfold rf_amend; rw [if_pos hgd]; dsimp only; rw [hp]
                rw [hsp]
                exact mf_wi C.x C.b hr hlk md_M_amend_75 ⟨f0, f1, f2, f3, f4, f5, f6, f7, f8, f9, f10, hP, hD, hle, hRF, hRG⟩ (by rw [← hH]; exact ⟨hS.1, hS.2.1⟩) hH hS.2.2 (Nat.le_refl _) (Nat.le_refl _)
          · exact absurd h10 (by decide)
        · rw [show mf_ix (some (k, x)) = nI k from rfl]
          have hq : R[k]? = some x := ((mf_pick_in _ _ R).2 k x hp).1
          have hkl := (List.getElem?_eq_some_iff.mp hq).1
          have hu := hRF k x hq
          refine lv_goto (tgt := 42) C.x C.b md_M_amend_38 (by decide) ?_
          refine lv_istore (lv' := [(5, .int (nI k)), (4, .int 1), (0, .ref mo), (1, .int i), (2, .int p0), (3, .int q0)]) C.x C.b md_M_amend_42 hl (by decide) rfl (fun ls hl => ?_)
          refine lv_aload_n C.x C.b md_M_amend_44 rfl (lv_at hl 2 rfl) ?_
          refine lv_iload C.x C.b md_M_amend_45 (lv_at hl 1 rfl) ?_
          refine lv_if_ne (tgt := 54) C.x C.b md_M_amend_47 (by decide) (fun h13 => ?_) (fun h13 => ?_)
          · skip
            refine lv_iload C.x C.b md_M_amend_54 (lv_at hl 0 rfl) ?_
            refine lv_if_ge (tgt := 63) C.x C.b md_M_amend_56 (by decide) (fun h14 => ?_) (fun h14 => ?_)
            · skip
              refine lv_iconst (v := 0) C.x C.b md_M_amend_63 (by decide) ?_
              refine va_put (D := D) (ci := 4) (v := .int 0) (ty := .int) (C := mf_RM) (T := mf_TM) (N := 20) C.x C.b C.2.2.1 mi_M mf_tyM mp_M mn_M C.o C.k hP hD hS 0 rfl rfl 0 (by decide) (C.t mt_535) (fun _ h => h) rfl (by decide +kernel) rfl rfl (Nat.le_of_ble_eq_true rfl) md_M_amend_64 (fun H locs hP hD hS => ?_)
              have hP : va_P D mf_cl [(mo, .inr (4, [.int 0, .int (nI R.length), .int ck, .ref (aa 0), .ref (aa 1), .ref (aa 2), .ref (aa 3), .ref (aa 4), .ref (aa 5), .ref (aa 6), .int (nI g.1), .ref (aa 7), .ref (aa 8), .ref (aa 9), .ref (aa 10), .int g.2.1, .long g.2.2.2.1, .int g.2.2.1, .int sp, .int mt])), (aa 0, .inl (k5.2.2.1, 40, .inl f0)), (aa 1, .inl (k5.2.2.1, 40, .inl f1)), (aa 2, .inl (k5.2.2.1, 40, .inl f2)), (aa 3, .inl (k5.2.2.1, 40, .inl f3)), (aa 4, .inl (k5.2.2.1, 40, .inl f4)), (aa 5, .inl (k5.2.2.1, 40, .inl f5)), (aa 6, .inl (k5.2.2.2.1, 40, .inl f6)), (aa 7, .inl (k5.2.2.1, 32, .inl f7)), (aa 8, .inl (k5.2.2.1, 32, .inl f8)), (aa 9, .inl (k5.2.2.1, 32, .inl f9)), (aa 10, .inl (k5.2.2.1, 32, .inl f10))] H := hP
              have hD : va_D A [(mo, .inr (4, [.int 0, .int (nI R.length), .int ck, .ref (aa 0), .ref (aa 1), .ref (aa 2), .ref (aa 3), .ref (aa 4), .ref (aa 5), .ref (aa 6), .int (nI g.1), .ref (aa 7), .ref (aa 8), .ref (aa 9), .ref (aa 10), .int g.2.1, .long g.2.2.2.1, .int g.2.2.1, .int sp, .int mt])), (aa 0, .inl (k5.2.2.1, 40, .inl f0)), (aa 1, .inl (k5.2.2.1, 40, .inl f1)), (aa 2, .inl (k5.2.2.1, 40, .inl f2)), (aa 3, .inl (k5.2.2.1, 40, .inl f3)), (aa 4, .inl (k5.2.2.1, 40, .inl f4)), (aa 5, .inl (k5.2.2.1, 40, .inl f5)), (aa 6, .inl (k5.2.2.2.1, 40, .inl f6)), (aa 7, .inl (k5.2.2.1, 32, .inl f7)), (aa 8, .inl (k5.2.2.1, 32, .inl f8)), (aa 9, .inl (k5.2.2.1, 32, .inl f9)), (aa 10, .inl (k5.2.2.1, 32, .inl f10))] := hD
              have hM1 : mf_MD D k5 A H mo aa 0 (R, ck, sp, mt, g) := ⟨f0, f1, f2, f3, f4, f5, f6, f7, f8, f9, f10, hP, hD, hle, hRF, hRG⟩
              have rest : ∀ ls : Array Slot, ¬ (mf_wt x.1 = 0 ∧ mf_pr x.1 = p0 ∧ q0 ≤ mf_lf x.1) → lv_has ls 10 [(5, .int (nI k)), (0, .ref mo), (1, .int i), (2, .int p0), (3, .int q0)] → W p l e ({ frames := 4, cells := 0, slots := 0, locals := 99 } : Room) s m (([.ref mo, .int i, .int p0, .int q0] : List Value).toArray) below meth c H locs 0 0 (MQ below (mf_Kw (some (.int (rf_amend i p0 q0 (R, ck, sp, mt, g)).1.2)) (fun H1 => mf_MD D k5 A H1 mo aa (nI (rf_amend i p0 q0 (R, ck, sp, mt, g)).1.1) (rf_amend i p0 q0 (R, ck, sp, mt, g)).2) (A)) (([.ref mo, .int i, .int p0, .int q0] : List Value).toArray) s 0 0 A) (F0 m 118 ls []) := by
                intro ls hns hl
                have hdl := mf_drop_l hq
                refine lv_aload_n C.x C.b md_M_amend_118 rfl (lv_at hl 1 rfl) ?_
                refine mf_gf C (ci := 4) (N := 20) rfl mi_M 4 (by decide) mt_539 (hP 0 _ rfl) (v := .ref (aa 1)) rfl md_M_amend_119 ?_
                refine lv_iload C.x C.b md_M_amend_122 (lv_at hl 0 rfl) ?_
                refine mf_iv C (t := 2) rfl (hP 2 _ rfl) (by omega) (by decide) hu.2.1 md_M_amend_124 ?_
                refine lv_istore (lv' := [(6, .int (mf_ow x.1)), (5, .int (nI k)), (0, .ref mo), (1, .int i), (2, .int p0), (3, .int q0)]) C.x C.b md_M_amend_125 hl (by decide) rfl (fun ls hl => ?_)
                refine lv_aload_n C.x C.b md_M_amend_127 rfl (lv_at hl 2 rfl) ?_
                refine mf_gf C (ci := 4) (N := 20) rfl mi_M 5 (by decide) mt_540 (hP 0 _ rfl) (v := .ref (aa 2)) rfl md_M_amend_128 ?_
                refine lv_iload C.x C.b md_M_amend_131 (lv_at hl 1 rfl) ?_
                refine mf_iv C (t := 2) rfl (hP 3 _ rfl) (by omega) (by decide) hu.2.2.1 md_M_amend_133 ?_
                refine lv_istore (lv' := [(7, .int (mf_sd x.1)), (6, .int (mf_ow x.1)), (5, .int (nI k)), (0, .ref mo), (1, .int i), (2, .int p0), (3, .int q0)]) C.x C.b md_M_amend_134 hl (by decide) rfl (fun ls hl => ?_)
                refine lv_aload_n C.x C.b md_M_amend_136 rfl (lv_at hl 3 rfl) ?_
                refine mf_gf C (ci := 4) (N := 20) rfl mi_M 9 (by decide) mt_544 (hP 0 _ rfl) (v := .ref (aa 6)) rfl md_M_amend_137 ?_
                refine lv_iload C.x C.b md_M_amend_140 (lv_at hl 2 rfl) ?_
                refine mf_zv C (t := 3) rfl (hP 7 _ rfl) (by omega) (by decide) hu.2.2.2.2.2.2.1 md_M_amend_142 ?_
                refine lv_istore (lv' := [(8, .int (mf_wt x.1)), (7, .int (mf_sd x.1)), (6, .int (mf_ow x.1)), (5, .int (nI k)), (0, .ref mo), (1, .int i), (2, .int p0), (3, .int q0)]) C.x C.b md_M_amend_143 hl (by decide) rfl (fun ls hl => ?_)
                refine lv_aload_n C.x C.b md_M_amend_145 rfl (lv_at hl 4 rfl) ?_
                refine lv_iload C.x C.b md_M_amend_146 (lv_at hl 3 rfl) ?_
                refine mf_cwn (va_runV (As := [.int (nI k)]) (rest := []) C.f (k_M_drop l D k5 t0 A H mo aa 0 ck sp mt R g k x hM1 hq) (mf_cV C mt_640 mt_637 mt_6 mt_639 ms_34 mh_M_drop ⟨by decide, by decide⟩) (mf_preV C.ev hS (mf_rv C (ci := 4) (N := 20) rfl (hP 0 _ rfl))) rfl rfl hl.1 rfl (lv_room (Nat.le_of_ble_eq_true rfl)) md_M_amend_148 ⟨by first | omega | exact Nat.le_of_ble_eq_true rfl, by first | omega | exact Nat.le_of_ble_eq_true rfl⟩) hS (fun _ _ h => h) (fun H locs hM3 hz3 hk3 hS => ?_)
                obtain ⟨_, _, _, _, _, _, _, _, _, _, _, hP3, -⟩ := id hM3
                have aft : ∀ (ls : Array Slot) (H2 : Heap) (locs : List Loc) (q1 : Int32) (R1 : List mf_T) (mt1 : Int32) (g1 : mf_G), mf_MD D k5 A H2 mo aa 0 (R1, ck, sp, mt1, g1) → R1.length < 40 → g1.1 + 41 * 40 < 2 ^ 31 → (if mf_wt x.1 = 0 then rf_match i (mf_ow x.1) (mf_sd x.1) p0 41 q0 (rf_drop R k, mt, g) else (q0, rf_drop R k, mt, g)) = (q1, R1, mt1, g1) → va_S A s.heap H2 locs → lv_has ls 10 [(9, .int q1), (8, .int (mf_wt x.1)), (7, .int (mf_sd x.1)), (6, .int (mf_ow x.1)), (0, .ref mo), (1, .int i), (2, .int p0), (3, .int q0)] → W p l e ({ frames := 4, cells := 0, slots := 0, locals := 99 } : Room) s m (([.ref mo, .int i, .int p0, .int q0] : List Value).toArray) below meth c H2 locs 0 0 (MQ below (mf_Kw (some (.int (rf_amend i p0 q0 (R, ck, sp, mt, g)).1.2)) (fun H1 => mf_MD D k5 A H1 mo aa (nI (rf_amend i p0 q0 (R, ck, sp, mt, g)).1.1) (rf_amend i p0 q0 (R, ck, sp, mt, g)).2) (A)) (([.ref mo, .int i, .int p0, .int q0] : List Value).toArray) s 0 0 A) (F0 m 173 ls []) := by
                  intro ls H2 locs q1 R1 mt1 g1 hM5 hR40 hgs hma hS hl
                  obtain ⟨_, _, _, _, _, _, _, _, _, _, _, hP5, -⟩ := id hM5
                  refine lv_iload C.x C.b md_M_amend_173 (lv_at hl 0 rfl) ?_
                  refine lv_if_le (tgt := 203) C.x C.b md_M_amend_175 (by decide) (fun h15 => ?_) (fun h15 => ?_)
                  · skip
                    refine lv_aload_n C.x C.b md_M_amend_203 rfl (lv_at hl 4 rfl) ?_
                    refine mf_cwn (va_runV (As := []) (rest := []) C.f (k_M_runStops l D k5 t0 A _ mo aa 0 (R1, ck, sp, mt1, g1) hM5 hgs) (mf_cV C mt_652 mt_649 mt_6 mt_651 ms_37 mh_M_runStops ⟨by decide, by decide⟩) (mf_preV C.ev hS (mf_rv C (ci := 4) (N := 20) rfl (hP5 0 _ rfl))) rfl rfl hl.1 rfl (lv_room (Nat.le_of_ble_eq_true rfl)) md_M_amend_204 ⟨by first | omega | exact Nat.le_of_ble_eq_true rfl, by first | omega | exact Nat.le_of_ble_eq_true rfl⟩) hS (fun _ _ h => h) (fun H locs hM9 hz9 hk9 hS => ?_)
                    refine lv_iload_n C.x C.b md_M_amend_207 rfl (lv_at hl 7 rfl) ?_
                    refine lv_iload C.x C.b md_M_amend_208 (lv_at hl 0 rfl) ?_
                    refine lv_isub C.x C.b md_M_amend_210 ?_
                    have hsp : rf_amend i p0 q0 (R, ck, sp, mt, g) = ((0, (q0 - q1)), rf_stops 40 (R1, ck, sp, mt1, g1)) := by unfold rf_amend; rw [if_pos hgd]; dsimp only; rw [hp]; dsimp only; rw [if_neg hns, hma]; dsimp only; rw [if_neg (Int32.not_lt.mpr h15)]; try rfl
                    rw [hsp]
                    exact mf_wi C.x C.b hr hlk md_M_amend_211 hM9 (by rw [← hH]; exact ⟨hS.1, hS.2.1⟩) hH hS.2.2 (Nat.le_refl _) (Nat.le_refl _)
                  · skip
                    refine lv_aload_n C.x C.b md_M_amend_178 rfl (lv_at hl 4 rfl) ?_
                    refine lv_iload_n C.x C.b md_M_amend_179 rfl (lv_at hl 5 rfl) ?_
                    refine lv_iload C.x C.b md_M_amend_180 (lv_at hl 3 rfl) ?_
                    refine lv_iload C.x C.b md_M_amend_182 (lv_at hl 2 rfl) ?_
                    refine lv_iload_n C.x C.b md_M_amend_184 rfl (lv_at hl 6 rfl) ?_
                    refine lv_iload C.x C.b md_M_amend_185 (lv_at hl 0 rfl) ?_
                    refine mf_cwn (va_runV (As := [.int i, .int (mf_ow x.1), .int (mf_sd x.1), .int p0, .int q1]) (rest := []) C.f (k_M_keep l D k5 t0 A H2 mo aa 0 ck sp mt1 R1 g1 i (mf_ow x.1) (mf_sd x.1) p0 q1 hM5 hR40) (mf_cV C mt_648 mt_645 mt_6 mt_647 ms_36 mh_M_keep ⟨by decide, by decide⟩) (mf_preV C.ev hS (mf_rv C (ci := 4) (N := 20) rfl (hP5 0 _ rfl))) rfl rfl hl.1 rfl (lv_room (Nat.le_of_ble_eq_true rfl)) md_M_amend_187 ⟨by first | omega | exact Nat.le_of_ble_eq_true rfl, by first | omega | exact Nat.le_of_ble_eq_true rfl⟩) hS (fun _ _ h => h) (fun H locs hM6 hz6 hk6 hS => ?_)
                    obtain ⟨f0, f1, f2, f3, f4, f5, f6, f7, f8, f9, f10, hP, hD, hle, hRF, hRG⟩ := id hM6
                    have hP : va_P D mf_cl [(mo, .inr (4, [.int 0, .int (nI (R1 ++ [(((i, (mf_ow x.1), (mf_sd x.1), 0, p0, q1), ck + 1) : mf_T)]).length), .int (ck + 1), .ref (aa 0), .ref (aa 1), .ref (aa 2), .ref (aa 3), .ref (aa 4), .ref (aa 5), .ref (aa 6), .int (nI g1.1), .ref (aa 7), .ref (aa 8), .ref (aa 9), .ref (aa 10), .int g1.2.1, .long g1.2.2.2.1, .int g1.2.2.1, .int sp, .int mt1])), (aa 0, .inl (k5.2.2.1, 40, .inl f0)), (aa 1, .inl (k5.2.2.1, 40, .inl f1)), (aa 2, .inl (k5.2.2.1, 40, .inl f2)), (aa 3, .inl (k5.2.2.1, 40, .inl f3)), (aa 4, .inl (k5.2.2.1, 40, .inl f4)), (aa 5, .inl (k5.2.2.1, 40, .inl f5)), (aa 6, .inl (k5.2.2.2.1, 40, .inl f6)), (aa 7, .inl (k5.2.2.1, 32, .inl f7)), (aa 8, .inl (k5.2.2.1, 32, .inl f8)), (aa 9, .inl (k5.2.2.1, 32, .inl f9)), (aa 10, .inl (k5.2.2.1, 32, .inl f10))] H := hP
                    have hD : va_D A [(mo, .inr (4, [.int 0, .int (nI (R1 ++ [(((i, (mf_ow x.1), (mf_sd x.1), 0, p0, q1), ck + 1) : mf_T)]).length), .int (ck + 1), .ref (aa 0), .ref (aa 1), .ref (aa 2), .ref (aa 3), .ref (aa 4), .ref (aa 5), .ref (aa 6), .int (nI g1.1), .ref (aa 7), .ref (aa 8), .ref (aa 9), .ref (aa 10), .int g1.2.1, .long g1.2.2.2.1, .int g1.2.2.1, .int sp, .int mt1])), (aa 0, .inl (k5.2.2.1, 40, .inl f0)), (aa 1, .inl (k5.2.2.1, 40, .inl f1)), (aa 2, .inl (k5.2.2.1, 40, .inl f2)), (aa 3, .inl (k5.2.2.1, 40, .inl f3)), (aa 4, .inl (k5.2.2.1, 40, .inl f4)), (aa 5, .inl (k5.2.2.1, 40, .inl f5)), (aa 6, .inl (k5.2.2.2.1, 40, .inl f6)), (aa 7, .inl (k5.2.2.1, 32, .inl f7)), (aa 8, .inl (k5.2.2.1, 32, .inl f8)), (aa 9, .inl (k5.2.2.1, 32, .inl f9)), (aa 10, .inl (k5.2.2.1, 32, .inl f10))] := hD
                    rw [mf_snoc_len] at hP hD
                    have hP : va_P D mf_cl [(mo, .inr (4, [.int 0, .int (nI (R1.length + 1)), .int (ck + 1), .ref (aa 0), .ref (aa 1), .ref (aa 2), .ref (aa 3), .ref (aa 4), .ref (aa 5), .ref (aa 6), .int (nI g1.1), .ref (aa 7), .ref (aa 8), .ref (aa 9), .ref (aa 10), .int g1.2.1, .long g1.2.2.2.1, .int g1.2.2.1, .int sp, .int mt1])), (aa 0, .inl (k5.2.2.1, 40, .inl f0)), (aa 1, .inl (k5.2.2.1, 40, .inl f1)), (aa 2, .inl (k5.2.2.1, 40, .inl f2)), (aa 3, .inl (k5.2.2.1, 40, .inl f3)), (aa 4, .inl (k5.2.2.1, 40, .inl f4)), (aa 5, .inl (k5.2.2.1, 40, .inl f5)), (aa 6, .inl (k5.2.2.2.1, 40, .inl f6)), (aa 7, .inl (k5.2.2.1, 32, .inl f7)), (aa 8, .inl (k5.2.2.1, 32, .inl f8)), (aa 9, .inl (k5.2.2.1, 32, .inl f9)), (aa 10, .inl (k5.2.2.1, 32, .inl f10))] H := hP
                    have hD : va_D A [(mo, .inr (4, [.int 0, .int (nI (R1.length + 1)), .int (ck + 1), .ref (aa 0), .ref (aa 1), .ref (aa 2), .ref (aa 3), .ref (aa 4), .ref (aa 5), .ref (aa 6), .int (nI g1.1), .ref (aa 7), .ref (aa 8), .ref (aa 9), .ref (aa 10), .int g1.2.1, .long g1.2.2.2.1, .int g1.2.2.1, .int sp, .int mt1])), (aa 0, .inl (k5.2.2.1, 40, .inl f0)), (aa 1, .inl (k5.2.2.1, 40, .inl f1)), (aa 2, .inl (k5.2.2.1, 40, .inl f2)), (aa 3, .inl (k5.2.2.1, 40, .inl f3)), (aa 4, .inl (k5.2.2.1, 40, .inl f4)), (aa 5, .inl (k5.2.2.1, 40, .inl f5)), (aa 6, .inl (k5.2.2.2.1, 40, .inl f6)), (aa 7, .inl (k5.2.2.1, 32, .inl f7)), (aa 8, .inl (k5.2.2.1, 32, .inl f8)), (aa 9, .inl (k5.2.2.1, 32, .inl f9)), (aa 10, .inl (k5.2.2.1, 32, .inl f10))] := hD
                    have hRF : mf_Rc (R1 ++ [((i, (mf_ow x.1), (mf_sd x.1), 0, p0, q1), ck + 1)]) f0 f1 f2 f3 f4 f5 f6 := hRF
                    refine lv_aload_n C.x C.b md_M_amend_190 rfl (lv_at hl 4 rfl) ?_
                    refine mf_gf C (ci := 4) (N := 20) rfl mi_M 9 (by decide) mt_544 (hP 0 _ rfl) (v := .ref (aa 6)) rfl md_M_amend_191 ?_
                    refine lv_aload_n C.x C.b md_M_amend_194 rfl (lv_at hl 4 rfl) ?_
                    refine mf_gf C (ci := 4) (N := 20) rfl mi_M 1 (by decide) mt_536 (hP 0 _ rfl) (v := .int (nI (R1.length + 1))) rfl md_M_amend_195 ?_
                    refine lv_iconst (v := 1) C.x C.b md_M_amend_198 (by decide) ?_
                    refine lv_isub C.x C.b md_M_amend_199 ?_
                    rw [nI_pred]
                    refine lv_iload C.x C.b md_M_amend_200 (lv_at hl 1 rfl) ?_
                    refine va_zast C.x C.b C.k hP hD hS 7 3 rfl rfl (vp_in_nI (show R1.length < 40 from hR40) (by decide)) md_M_amend_202 (fun H locs hP hD hS => ?_)
                    rw [nI_clamp (by omega), hu.2.2.2.2.2.2.2] at hP hD
                    have hP : va_P D mf_cl [(mo, .inr (4, [.int 0, .int (nI (R1.length + 1)), .int (ck + 1), .ref (aa 0), .ref (aa 1), .ref (aa 2), .ref (aa 3), .ref (aa 4), .ref (aa 5), .ref (aa 6), .int (nI g1.1), .ref (aa 7), .ref (aa 8), .ref (aa 9), .ref (aa 10), .int g1.2.1, .long g1.2.2.2.1, .int g1.2.2.1, .int sp, .int mt1])), (aa 0, .inl (k5.2.2.1, 40, .inl f0)), (aa 1, .inl (k5.2.2.1, 40, .inl f1)), (aa 2, .inl (k5.2.2.1, 40, .inl f2)), (aa 3, .inl (k5.2.2.1, 40, .inl f3)), (aa 4, .inl (k5.2.2.1, 40, .inl f4)), (aa 5, .inl (k5.2.2.1, 40, .inl f5)), (aa 6, .inl (k5.2.2.2.1, 40, .inl (upd f6 R1.length (mf_wt x.1)))), (aa 7, .inl (k5.2.2.1, 32, .inl f7)), (aa 8, .inl (k5.2.2.1, 32, .inl f8)), (aa 9, .inl (k5.2.2.1, 32, .inl f9)), (aa 10, .inl (k5.2.2.1, 32, .inl f10))] H := hP
                    have hD : va_D A [(mo, .inr (4, [.int 0, .int (nI (R1.length + 1)), .int (ck + 1), .ref (aa 0), .ref (aa 1), .ref (aa 2), .ref (aa 3), .ref (aa 4), .ref (aa 5), .ref (aa 6), .int (nI g1.1), .ref (aa 7), .ref (aa 8), .ref (aa 9), .ref (aa 10), .int g1.2.1, .long g1.2.2.2.1, .int g1.2.2.1, .int sp, .int mt1])), (aa 0, .inl (k5.2.2.1, 40, .inl f0)), (aa 1, .inl (k5.2.2.1, 40, .inl f1)), (aa 2, .inl (k5.2.2.1, 40, .inl f2)), (aa 3, .inl (k5.2.2.1, 40, .inl f3)), (aa 4, .inl (k5.2.2.1, 40, .inl f4)), (aa 5, .inl (k5.2.2.1, 40, .inl f5)), (aa 6, .inl (k5.2.2.2.1, 40, .inl (upd f6 R1.length (mf_wt x.1)))), (aa 7, .inl (k5.2.2.1, 32, .inl f7)), (aa 8, .inl (k5.2.2.1, 32, .inl f8)), (aa 9, .inl (k5.2.2.1, 32, .inl f9)), (aa 10, .inl (k5.2.2.1, 32, .inl f10))] := hD
                    have hM7 : mf_MD D k5 A H mo aa 0 (R1 ++ [((i, (mf_ow x.1), (mf_sd x.1), (mf_wt x.1), p0, q1), ck + 1)], ck + 1, sp, mt1, g1) := ⟨_, _, _, _, _, _, _, _, _, _, _, by rw [mf_snoc_len]; exact hP, by rw [mf_snoc_len]; exact hD, by rw [mf_snoc_len]; exact hR40, hRF.setw (hu.2.2.2.2.2.2.2), hRG⟩
                    refine lv_aload_n C.x C.b md_M_amend_203 rfl (lv_at hl 4 rfl) ?_
                    refine mf_cwn (va_runV (As := []) (rest := []) C.f (k_M_runStops l D k5 t0 A _ mo aa 0 (R1 ++ [((i, (mf_ow x.1), (mf_sd x.1), (mf_wt x.1), p0, q1), ck + 1)], ck + 1, sp, mt1, g1) hM7 hgs) (mf_cV C mt_652 mt_649 mt_6 mt_651 ms_37 mh_M_runStops ⟨by decide, by decide⟩) (mf_preV C.ev hS (mf_rv C (ci := 4) (N := 20) rfl (hP 0 _ rfl))) rfl rfl hl.1 rfl (lv_room (Nat.le_of_ble_eq_true rfl)) md_M_amend_204 ⟨by first | omega | exact Nat.le_of_ble_eq_true rfl, by first | omega | exact Nat.le_of_ble_eq_true rfl⟩) hS (fun _ _ h => h) (fun H locs hM9 hz9 hk9 hS => ?_)
                    refine lv_iload_n C.x C.b md_M_amend_207 rfl (lv_at hl 7 rfl) ?_
                    refine lv_iload C.x C.b md_M_amend_208 (lv_at hl 0 rfl) ?_
                    refine lv_isub C.x C.b md_M_amend_210 ?_
                    have hsp : rf_amend i p0 q0 (R, ck, sp, mt, g) = ((0, (q0 - q1)), rf_stops 40 (R1 ++ [((i, (mf_ow x.1), (mf_sd x.1), (mf_wt x.1), p0, q1), ck + 1)], ck + 1, sp, mt1, g1)) := by unfold rf_amend; rw [if_pos hgd]; dsimp only; rw [hp]; dsimp only; rw [if_neg hns, hma]; dsimp only; rw [if_pos (Int32.not_le.mp h15)]; try rfl
                    rw [hsp]
                    exact mf_wi C.x C.b hr hlk md_M_amend_211 hM9 (by rw [← hH]; exact ⟨hS.1, hS.2.1⟩) hH hS.2.2 (Nat.le_refl _) (Nat.le_refl _)
                refine lv_iload C.x C.b md_M_amend_151 (lv_at hl 0 rfl) ?_
                refine lv_if_eq (tgt := 160) C.x C.b md_M_amend_153 (by decide) (fun h16 => ?_) (fun h16 => ?_)
                · skip
                  refine lv_aload_n C.x C.b md_M_amend_160 rfl (lv_at hl 4 rfl) ?_
                  refine lv_iload_n C.x C.b md_M_amend_161 rfl (lv_at hl 5 rfl) ?_
                  refine lv_iload C.x C.b md_M_amend_162 (lv_at hl 2 rfl) ?_
                  refine lv_iload C.x C.b md_M_amend_164 (lv_at hl 1 rfl) ?_
                  refine lv_iload_n C.x C.b md_M_amend_166 rfl (lv_at hl 6 rfl) ?_
                  refine lv_iload_n C.x C.b md_M_amend_167 rfl (lv_at hl 7 rfl) ?_
                  refine mf_cws (va_runV (As := [.int i, .int (mf_ow x.1), .int (mf_sd x.1), .int p0, .int q0]) (rest := []) C.f (k_M_match l D k5 t0 A H mo aa 0 ck sp mt (rf_drop R k) g i (mf_ow x.1) (mf_sd x.1) p0 q0 hM3 (by omega)) (mf_cV C mt_636 mt_633 mt_6 mt_635 ms_33 mh_M_match ⟨by decide, by decide⟩) (mf_preV C.ev hS (mf_rv C (ci := 4) (N := 20) rfl (hP3 0 _ rfl))) rfl rfl hl.1 rfl (lv_room (Nat.le_of_ble_eq_true rfl)) md_M_amend_168 ⟨by first | omega | exact Nat.le_of_ble_eq_true rfl, by first | omega | exact Nat.le_of_ble_eq_true rfl⟩) hS (fun _ _ h => h) (fun H locs hM5 hz5 hk5 hS => ?_)
                  have hgn := rf_match_g i (mf_ow x.1) (mf_sd x.1) p0 41 q0 (rf_drop R k, mt, g)
                  have hln := rf_match_len i (mf_ow x.1) (mf_sd x.1) p0 41 q0 (rf_drop R k, mt, g)
                  obtain ⟨⟨q1, R1, mt1, g1⟩, hq1⟩ : ∃ q, rf_match i (mf_ow x.1) (mf_sd x.1) p0 41 q0 (rf_drop R k, mt, g) = q := ⟨_, rfl⟩
                  have hma : (if mf_wt x.1 = 0 then rf_match i (mf_ow x.1) (mf_sd x.1) p0 41 q0 (rf_drop R k, mt, g) else (q0, rf_drop R k, mt, g)) = (q1, R1, mt1, g1) := (if_pos h16).trans hq1
                  rw [hq1] at hM5 hgn hln ⊢
                  have hgn : g1.1 ≤ g.1 + 41 := hgn
                  have hln : R1.length ≤ (rf_drop R k).length := hln
                  refine lv_istore (lv' := [(9, .int q1), (8, .int (mf_wt x.1)), (7, .int (mf_sd x.1)), (6, .int (mf_ow x.1)), (5, .int (nI k)), (0, .ref mo), (1, .int i), (2, .int p0), (3, .int q0)]) C.x C.b md_M_amend_171 hl (by decide) rfl (fun ls hl => ?_)
                  exact aft ls _ _ q1 R1 mt1 g1 hM5 (by omega) (by omega) hma hS (lv_sub hl [0, 1, 2, 3, 5, 6, 7, 8] rfl)
                · skip
                  refine lv_iload_n C.x C.b md_M_amend_156 rfl (lv_at hl 7 rfl) ?_
                  refine lv_goto (tgt := 171) C.x C.b md_M_amend_157 (by decide) ?_
                  refine lv_istore (lv' := [(9, .int q0), (8, .int (mf_wt x.1)), (7, .int (mf_sd x.1)), (6, .int (mf_ow x.1)), (5, .int (nI k)), (0, .ref mo), (1, .int i), (2, .int p0), (3, .int q0)]) C.x C.b md_M_amend_171 hl (by decide) rfl (fun ls hl => ?_)
                  exact aft ls _ _ q0 (rf_drop R k) mt g hM3 (by omega) (by omega) (if_neg h16) hS (lv_sub hl [0, 1, 2, 3, 5, 6, 7, 8] rfl)
              refine lv_aload_n C.x C.b md_M_amend_67 rfl (lv_at hl 2 rfl) ?_
              refine mf_gf C (ci := 4) (N := 20) rfl mi_M 0 (by decide) mt_535 (hP 0 _ rfl) (v := .int 0) rfl md_M_amend_68 ?_
              refine lv_if_le (tgt := 76) C.x C.b md_M_amend_71 (by decide) (fun h17 => ?_) (fun h17 => ?_)
              · skip
                refine lv_aload_n C.x C.b md_M_amend_76 rfl (lv_at hl 2 rfl) ?_
                refine mf_gf C (ci := 4) (N := 20) rfl mi_M 9 (by decide) mt_544 (hP 0 _ rfl) (v := .ref (aa 6)) rfl md_M_amend_77 ?_
                refine lv_iload C.x C.b md_M_amend_80 (lv_at hl 0 rfl) ?_
                refine mf_zv C (t := 3) rfl (hP 7 _ rfl) (by omega) (by decide) hu.2.2.2.2.2.2.1 md_M_amend_82 ?_
                refine lv_if_ne (tgt := 118) C.x C.b md_M_amend_83 (by decide) (fun h18 => ?_) (fun h18 => ?_)
                · skip
                  exact rest ls (fun z => h18 z.1) (lv_sub hl [0, 2, 3, 4, 5] rfl)
                · skip
                  refine lv_aload_n C.x C.b md_M_amend_86 rfl (lv_at hl 2 rfl) ?_
                  refine mf_gf C (ci := 4) (N := 20) rfl mi_M 6 (by decide) mt_541 (hP 0 _ rfl) (v := .ref (aa 3)) rfl md_M_amend_87 ?_
                  refine lv_iload C.x C.b md_M_amend_90 (lv_at hl 0 rfl) ?_
                  refine mf_iv C (t := 2) rfl (hP 4 _ rfl) (by omega) (by decide) hu.2.2.2.1 md_M_amend_92 ?_
                  refine lv_iload_n C.x C.b md_M_amend_93 rfl (lv_at hl 4 rfl) ?_
                  refine lv_icmp_ne (tgt := 118) C.x C.b md_M_amend_94 (by decide) (fun h19 => ?_) (fun h19 => ?_)
                  · skip
                    exact rest ls (fun z => h19 z.2.1) (lv_sub hl [0, 2, 3, 4, 5] rfl)
                  · skip
                    refine lv_iload_n C.x C.b md_M_amend_97 rfl (lv_at hl 5 rfl) ?_
                    refine lv_aload_n C.x C.b md_M_amend_98 rfl (lv_at hl 2 rfl) ?_
                    refine mf_gf C (ci := 4) (N := 20) rfl mi_M 7 (by decide) mt_542 (hP 0 _ rfl) (v := .ref (aa 4)) rfl md_M_amend_99 ?_
                    refine lv_iload C.x C.b md_M_amend_102 (lv_at hl 0 rfl) ?_
                    refine mf_iv C (t := 2) rfl (hP 5 _ rfl) (by omega) (by decide) hu.2.2.2.2.1 md_M_amend_104 ?_
                    refine lv_icmp_gt (tgt := 118) C.x C.b md_M_amend_105 (by decide) (fun h20 => ?_) (fun h20 => ?_)
                    · skip
                      exact rest ls (fun z => Int32.not_le.mpr h20 z.2.2) (lv_sub hl [0, 2, 3, 4, 5] rfl)
                    · skip
                      refine lv_aload_n C.x C.b md_M_amend_108 rfl (lv_at hl 2 rfl) ?_
                      refine mf_gf C (ci := 4) (N := 20) rfl mi_M 7 (by decide) mt_542 (hP 0 _ rfl) (v := .ref (aa 4)) rfl md_M_amend_109 ?_
                      refine lv_iload C.x C.b md_M_amend_112 (lv_at hl 0 rfl) ?_
                      refine lv_iload_n C.x C.b md_M_amend_114 rfl (lv_at hl 5 rfl) ?_
                      refine va_iast C.x C.b C.k hP hD hS 5 2 rfl rfl (vp_in_nI (show k < 40 by omega) (by decide)) md_M_amend_115 (fun H locs hP hD hS => ?_)
                      rw [nI_clamp (by omega)] at hP hD
                      have hP : va_P D mf_cl [(mo, .inr (4, [.int 0, .int (nI R.length), .int ck, .ref (aa 0), .ref (aa 1), .ref (aa 2), .ref (aa 3), .ref (aa 4), .ref (aa 5), .ref (aa 6), .int (nI g.1), .ref (aa 7), .ref (aa 8), .ref (aa 9), .ref (aa 10), .int g.2.1, .long g.2.2.2.1, .int g.2.2.1, .int sp, .int mt])), (aa 0, .inl (k5.2.2.1, 40, .inl f0)), (aa 1, .inl (k5.2.2.1, 40, .inl f1)), (aa 2, .inl (k5.2.2.1, 40, .inl f2)), (aa 3, .inl (k5.2.2.1, 40, .inl f3)), (aa 4, .inl (k5.2.2.1, 40, .inl (upd f4 k q0))), (aa 5, .inl (k5.2.2.1, 40, .inl f5)), (aa 6, .inl (k5.2.2.2.1, 40, .inl f6)), (aa 7, .inl (k5.2.2.1, 32, .inl f7)), (aa 8, .inl (k5.2.2.1, 32, .inl f8)), (aa 9, .inl (k5.2.2.1, 32, .inl f9)), (aa 10, .inl (k5.2.2.1, 32, .inl f10))] H := hP
                      have hD : va_D A [(mo, .inr (4, [.int 0, .int (nI R.length), .int ck, .ref (aa 0), .ref (aa 1), .ref (aa 2), .ref (aa 3), .ref (aa 4), .ref (aa 5), .ref (aa 6), .int (nI g.1), .ref (aa 7), .ref (aa 8), .ref (aa 9), .ref (aa 10), .int g.2.1, .long g.2.2.2.1, .int g.2.2.1, .int sp, .int mt])), (aa 0, .inl (k5.2.2.1, 40, .inl f0)), (aa 1, .inl (k5.2.2.1, 40, .inl f1)), (aa 2, .inl (k5.2.2.1, 40, .inl f2)), (aa 3, .inl (k5.2.2.1, 40, .inl f3)), (aa 4, .inl (k5.2.2.1, 40, .inl (upd f4 k q0))), (aa 5, .inl (k5.2.2.1, 40, .inl f5)), (aa 6, .inl (k5.2.2.2.1, 40, .inl f6)), (aa 7, .inl (k5.2.2.1, 32, .inl f7)), (aa 8, .inl (k5.2.2.1, 32, .inl f8)), (aa 9, .inl (k5.2.2.1, 32, .inl f9)), (aa 10, .inl (k5.2.2.1, 32, .inl f10))] := hD
                      refine lv_iconst (v := 0) C.x C.b md_M_amend_116 (by decide) ?_
                      have hsp : rf_amend i p0 q0 (R, ck, sp, mt, g) = ((0, 0), R.set k (mf_setLf x.1 q0, x.2), ck, sp, mt, g) := by unfold rf_amend; rw [if_pos hgd]; dsimp only; rw [hp]; dsimp only; rw [if_pos ⟨h18, h19, Int32.not_lt.mp h20⟩]
                      rw [hsp]
                      exact mf_wi C.x C.b hr hlk md_M_amend_117 ⟨f0, f1, f2, f3, _, f5, f6, f7, f8, f9, f10, by rw [List.length_set]; exact hP, by rw [List.length_set]; exact hD, by rw [List.length_set]; exact hle, hRF.setl hq _, hRG⟩ (by rw [← hH]; exact ⟨hS.1, hS.2.1⟩) hH hS.2.2 (Nat.le_refl _) (Nat.le_refl _)
              · exact absurd (by decide) h17
            · exact absurd (Int32.not_lt.mp (nI_pos (by omega))) h14
          · exact absurd h13 (by decide)
theorem mf_nI_ne9 {a b : Nat} (ha : a < 2 ^ 31) (hb : b < 2 ^ 31) (h : a ≠ b) : ¬ nI a = nI b := fun z => h (by have := congrArg Int32.toInt z; rw [nI_toInt ha, nI_toInt hb] at this; omega)
set_option maxRecDepth 100000 in
set_option maxHeartbeats 4000000 in
theorem k_M_submit (l : Launch) (D : va_G) (k5 : mf_k5) (t0 : Nat × Nat) (A : Nat → Prop) (H : Heap) (mo : Nat) (aa : Nat → Nat) (cd ck sp mt : Int32) (R : List mf_T) (g : mf_G) (i h0 p0 q0 : Int32) (hM : mf_MD D k5 A H mo aa cd (R, ck, sp, mt, g)) (hg : g.1 + 41 * 41 < 2 ^ 31) : mf_cWR l my_M_submit mc_M_submit 10 (some .int) { frames := 4, cells := 0, slots := 0, locals := 99 } D (mf_tys k5) t0 A H [.ref mo, .int i, .int h0, .int p0, .int q0] (some (.int (rf_submit i h0 p0 q0 (R, ck, sp, mt, g)).1.2)) (fun H1 => mf_MD D k5 A H1 mo aa (nI (rf_submit i h0 p0 q0 (R, ck, sp, mt, g)).1.1) (rf_submit i h0 p0 q0 (R, ck, sp, mt, g)).2) (A) 0 0 := by
  obtain ⟨f0, f1, f2, f3, f4, f5, f6, f7, f8, f9, f10, hP, hD, hle, hRF, hRG⟩ := id hM
  have hP : va_P D mf_cl [(mo, .inr (4, [.int cd, .int (nI R.length), .int ck, .ref (aa 0), .ref (aa 1), .ref (aa 2), .ref (aa 3), .ref (aa 4), .ref (aa 5), .ref (aa 6), .int (nI g.1), .ref (aa 7), .ref (aa 8), .ref (aa 9), .ref (aa 10), .int g.2.1, .long g.2.2.2.1, .int g.2.2.1, .int sp, .int mt])), (aa 0, .inl (k5.2.2.1, 40, .inl f0)), (aa 1, .inl (k5.2.2.1, 40, .inl f1)), (aa 2, .inl (k5.2.2.1, 40, .inl f2)), (aa 3, .inl (k5.2.2.1, 40, .inl f3)), (aa 4, .inl (k5.2.2.1, 40, .inl f4)), (aa 5, .inl (k5.2.2.1, 40, .inl f5)), (aa 6, .inl (k5.2.2.2.1, 40, .inl f6)), (aa 7, .inl (k5.2.2.1, 32, .inl f7)), (aa 8, .inl (k5.2.2.1, 32, .inl f8)), (aa 9, .inl (k5.2.2.1, 32, .inl f9)), (aa 10, .inl (k5.2.2.1, 32, .inl f10))] H := hP
  have hle : R.length ≤ 40 := hle
  have hD : va_D A [(mo, .inr (4, [.int cd, .int (nI R.length), .int ck, .ref (aa 0), .ref (aa 1), .ref (aa 2), .ref (aa 3), .ref (aa 4), .ref (aa 5), .ref (aa 6), .int (nI g.1), .ref (aa 7), .ref (aa 8), .ref (aa 9), .ref (aa 10), .int g.2.1, .long g.2.2.2.1, .int g.2.2.1, .int sp, .int mt])), (aa 0, .inl (k5.2.2.1, 40, .inl f0)), (aa 1, .inl (k5.2.2.1, 40, .inl f1)), (aa 2, .inl (k5.2.2.1, 40, .inl f2)), (aa 3, .inl (k5.2.2.1, 40, .inl f3)), (aa 4, .inl (k5.2.2.1, 40, .inl f4)), (aa 5, .inl (k5.2.2.1, 40, .inl f5)), (aa 6, .inl (k5.2.2.2.1, 40, .inl f6)), (aa 7, .inl (k5.2.2.1, 32, .inl f7)), (aa 8, .inl (k5.2.2.1, 32, .inl f8)), (aa 9, .inl (k5.2.2.1, 32, .inl f9)), (aa 10, .inl (k5.2.2.1, 32, .inl f10))] := hD
  have hRF : mf_Rc R f0 f1 f2 f3 f4 f5 f6 := hRF
  have hRG : mf_Rg g f7 f8 f9 f10 := hRG
  refine mf_of (by decide) (Nat.le_of_ble_eq_true rfl) ?_
  intro p e s m below meth c ls C hH hr hlk hnm hmt hl hS
  have hl : lv_has ls 10 [(0, .ref mo), (1, .int i), (2, .int h0), (3, .int p0), (4, .int q0)] := hl
  refine lv_iload_n C.x C.b md_M_submit_0 rfl (lv_at hl 2 rfl) ?_
  refine lv_iconst (v := 4) C.x C.b md_M_submit_1 (by decide) ?_
  refine lv_ishr C.x C.b md_M_submit_2 ?_
  refine lv_istore (lv' := [(5, .int (h0 >>> (4 &&& 31))), (0, .ref mo), (1, .int i), (2, .int h0), (3, .int p0), (4, .int q0)]) C.x C.b md_M_submit_3 hl (by decide) rfl (fun ls hl => ?_)
  refine lv_iload_n C.x C.b md_M_submit_5 rfl (lv_at hl 3 rfl) ?_
  refine lv_iconst (v := 1) C.x C.b md_M_submit_6 (by decide) ?_
  refine lv_ishr C.x C.b md_M_submit_7 ?_
  refine lv_bipush (v := 7) C.x C.b md_M_submit_8 (by decide) ?_
  refine lv_iand C.x C.b md_M_submit_10 ?_
  refine lv_istore (lv' := [(6, .int ((h0 >>> (1 &&& 31)) &&& 7)), (5, .int (h0 >>> (4 &&& 31))), (0, .ref mo), (1, .int i), (2, .int h0), (3, .int p0), (4, .int q0)]) C.x C.b md_M_submit_11 hl (by decide) rfl (fun ls hl => ?_)
  refine lv_iload_n C.x C.b md_M_submit_13 rfl (lv_at hl 4 rfl) ?_
  refine lv_iconst (v := 1) C.x C.b md_M_submit_14 (by decide) ?_
  refine lv_iand C.x C.b md_M_submit_15 ?_
  refine lv_istore (lv' := [(7, .int (h0 &&& 1)), (6, .int ((h0 >>> (1 &&& 31)) &&& 7)), (5, .int (h0 >>> (4 &&& 31))), (0, .ref mo), (1, .int i), (2, .int h0), (3, .int p0), (4, .int q0)]) C.x C.b md_M_submit_16 hl (by decide) rfl (fun ls hl => ?_)
  rw [show ((1 : Int32) &&& 31) = 1 from by decide, show ((4 : Int32) &&& 31) = 4 from by decide] at hl
  have hl : lv_has ls 10 [(7, .int (h0 &&& 1)), (6, .int (mf_kind h0)), (5, .int (h0 >>> 4)), (0, .ref mo), (1, .int i), (2, .int h0), (3, .int p0), (4, .int q0)] := hl
  refine lv_iload_n C.x C.b md_M_submit_18 rfl (lv_at hl 5 rfl) ?_
  refine lv_iconst (v := 0) C.x C.b md_M_submit_19 (by decide) ?_
  refine lv_bipush (v := 127) C.x C.b md_M_submit_20 (by decide) ?_
  refine mf_cks (va_runS (As := [.int h0, .int 0, .int 127]) (rest := []) C.f (k_M_among l D k5 t0 A H h0 0 127) (mf_cS C mt_607 mt_605 mt_6 mt_606 mh_M_among ⟨by decide, by decide⟩) (mf_preS C.ev hS) rfl rfl hl.1 rfl (lv_room (Nat.le_of_ble_eq_true rfl)) md_M_submit_22 ⟨by first | omega | exact Nat.le_of_ble_eq_true rfl, by first | omega | exact Nat.le_of_ble_eq_true rfl⟩) ?_
  refine lv_if_eq (tgt := 60) C.x C.b md_M_submit_25 (by decide) (fun h1 => ?_) (fun h1 => ?_)
  · skip
    refine lv_iconst (v := 0) C.x C.b md_M_submit_60 (by decide) ?_
    refine lv_istore (lv' := [(8, .int 0), (7, .int (h0 &&& 1)), (6, .int (mf_kind h0)), (5, .int (h0 >>> 4)), (0, .ref mo), (1, .int i), (2, .int h0), (3, .int p0), (4, .int q0)]) C.x C.b md_M_submit_61 hl (by decide) rfl (fun ls hl => ?_)
    refine lv_aload_n C.x C.b md_M_submit_63 rfl (lv_at hl 4 rfl) ?_
    refine lv_iload C.x C.b md_M_submit_64 (lv_at hl 0 rfl) ?_
    refine lv_if_ne (tgt := 73) C.x C.b md_M_submit_66 (by decide) (fun h2 => ?_) (fun h2 => ?_)
    · exact absurd h2 (fun z => z rfl)
    · skip
      refine lv_iconst (v := 1) C.x C.b md_M_submit_69 (by decide) ?_
      refine lv_goto (tgt := 74) C.x C.b md_M_submit_70 (by decide) ?_
      refine va_put (D := D) (ci := 4) (v := .int 1) (ty := .int) (C := mf_RM) (T := mf_TM) (N := 20) C.x C.b C.2.2.1 mi_M mf_tyM mp_M mn_M C.o C.k hP hD hS 0 rfl rfl 0 (by decide) (C.t mt_535) (fun _ h => h) rfl (by decide +kernel) rfl rfl (Nat.le_of_ble_eq_true rfl) md_M_submit_74 (fun H locs hP hD hS => ?_)
      have hP : va_P D mf_cl [(mo, .inr (4, [.int 1, .int (nI R.length), .int ck, .ref (aa 0), .ref (aa 1), .ref (aa 2), .ref (aa 3), .ref (aa 4), .ref (aa 5), .ref (aa 6), .int (nI g.1), .ref (aa 7), .ref (aa 8), .ref (aa 9), .ref (aa 10), .int g.2.1, .long g.2.2.2.1, .int g.2.2.1, .int sp, .int mt])), (aa 0, .inl (k5.2.2.1, 40, .inl f0)), (aa 1, .inl (k5.2.2.1, 40, .inl f1)), (aa 2, .inl (k5.2.2.1, 40, .inl f2)), (aa 3, .inl (k5.2.2.1, 40, .inl f3)), (aa 4, .inl (k5.2.2.1, 40, .inl f4)), (aa 5, .inl (k5.2.2.1, 40, .inl f5)), (aa 6, .inl (k5.2.2.2.1, 40, .inl f6)), (aa 7, .inl (k5.2.2.1, 32, .inl f7)), (aa 8, .inl (k5.2.2.1, 32, .inl f8)), (aa 9, .inl (k5.2.2.1, 32, .inl f9)), (aa 10, .inl (k5.2.2.1, 32, .inl f10))] H := hP
      have hD : va_D A [(mo, .inr (4, [.int 1, .int (nI R.length), .int ck, .ref (aa 0), .ref (aa 1), .ref (aa 2), .ref (aa 3), .ref (aa 4), .ref (aa 5), .ref (aa 6), .int (nI g.1), .ref (aa 7), .ref (aa 8), .ref (aa 9), .ref (aa 10), .int g.2.1, .long g.2.2.2.1, .int g.2.2.1, .int sp, .int mt])), (aa 0, .inl (k5.2.2.1, 40, .inl f0)), (aa 1, .inl (k5.2.2.1, 40, .inl f1)), (aa 2, .inl (k5.2.2.1, 40, .inl f2)), (aa 3, .inl (k5.2.2.1, 40, .inl f3)), (aa 4, .inl (k5.2.2.1, 40, .inl f4)), (aa 5, .inl (k5.2.2.1, 40, .inl f5)), (aa 6, .inl (k5.2.2.2.1, 40, .inl f6)), (aa 7, .inl (k5.2.2.1, 32, .inl f7)), (aa 8, .inl (k5.2.2.1, 32, .inl f8)), (aa 9, .inl (k5.2.2.1, 32, .inl f9)), (aa 10, .inl (k5.2.2.1, 32, .inl f10))] := hD
      refine lv_iload C.x C.b md_M_submit_77 (lv_at hl 0 rfl) ?_
      refine lv_if_eq (tgt := 120) C.x C.b md_M_submit_79 (by decide) (fun h3 => ?_) (fun h3 => ?_)
      · skip
        refine lv_aload_n C.x C.b md_M_submit_120 rfl (lv_at hl 4 rfl) ?_
        refine mf_gf C (ci := 4) (N := 20) rfl mi_M 0 (by decide) mt_535 (hP 0 _ rfl) (v := .int 1) rfl md_M_submit_121 ?_
        refine lv_if_le (tgt := 129) C.x C.b md_M_submit_124 (by decide) (fun h4 => ?_) (fun h4 => ?_)
        · exact absurd h4 (by decide)
        · skip
          refine lv_iconst (v := 0) C.x C.b md_M_submit_127 (by decide) ?_
          have hsp : rf_submit i h0 p0 q0 (R, ck, sp, mt, g) = ((1, 0), R, ck, sp, mt, g) := by exact if_neg (fun z => by simp only [mf_howOk, mf_prOk, mf_qtOk, Bool.and_eq_true, decide_eq_true_eq] at z; exact mf_andF (mf_bI_0.mp h1) ⟨z.1.1, z.1.2.1⟩)
          rw [hsp]
          exact mf_wi C.x C.b hr hlk md_M_submit_128 ⟨f0, f1, f2, f3, f4, f5, f6, f7, f8, f9, f10, hP, hD, hle, hRF, hRG⟩ (by rw [← hH]; exact ⟨hS.1, hS.2.1⟩) hH hS.2.2 (Nat.le_refl _) (Nat.le_refl _)
      · exact absurd rfl h3
  · skip
    refine lv_iload C.x C.b md_M_submit_28 (lv_at hl 1 rfl) ?_
    refine lv_iconst (v := 5) C.x C.b md_M_submit_30 (by decide) ?_
    refine lv_icmp_gt (tgt := 60) C.x C.b md_M_submit_31 (by decide) (fun h5 => ?_) (fun h5 => ?_)
    · skip
      refine lv_iconst (v := 0) C.x C.b md_M_submit_60 (by decide) ?_
      refine lv_istore (lv' := [(8, .int 0), (7, .int (h0 &&& 1)), (6, .int (mf_kind h0)), (5, .int (h0 >>> 4)), (0, .ref mo), (1, .int i), (2, .int h0), (3, .int p0), (4, .int q0)]) C.x C.b md_M_submit_61 hl (by decide) rfl (fun ls hl => ?_)
      refine lv_aload_n C.x C.b md_M_submit_63 rfl (lv_at hl 4 rfl) ?_
      refine lv_iload C.x C.b md_M_submit_64 (lv_at hl 0 rfl) ?_
      refine lv_if_ne (tgt := 73) C.x C.b md_M_submit_66 (by decide) (fun h6 => ?_) (fun h6 => ?_)
      · exact absurd h6 (fun z => z rfl)
      · skip
        refine lv_iconst (v := 1) C.x C.b md_M_submit_69 (by decide) ?_
        refine lv_goto (tgt := 74) C.x C.b md_M_submit_70 (by decide) ?_
        refine va_put (D := D) (ci := 4) (v := .int 1) (ty := .int) (C := mf_RM) (T := mf_TM) (N := 20) C.x C.b C.2.2.1 mi_M mf_tyM mp_M mn_M C.o C.k hP hD hS 0 rfl rfl 0 (by decide) (C.t mt_535) (fun _ h => h) rfl (by decide +kernel) rfl rfl (Nat.le_of_ble_eq_true rfl) md_M_submit_74 (fun H locs hP hD hS => ?_)
        have hP : va_P D mf_cl [(mo, .inr (4, [.int 1, .int (nI R.length), .int ck, .ref (aa 0), .ref (aa 1), .ref (aa 2), .ref (aa 3), .ref (aa 4), .ref (aa 5), .ref (aa 6), .int (nI g.1), .ref (aa 7), .ref (aa 8), .ref (aa 9), .ref (aa 10), .int g.2.1, .long g.2.2.2.1, .int g.2.2.1, .int sp, .int mt])), (aa 0, .inl (k5.2.2.1, 40, .inl f0)), (aa 1, .inl (k5.2.2.1, 40, .inl f1)), (aa 2, .inl (k5.2.2.1, 40, .inl f2)), (aa 3, .inl (k5.2.2.1, 40, .inl f3)), (aa 4, .inl (k5.2.2.1, 40, .inl f4)), (aa 5, .inl (k5.2.2.1, 40, .inl f5)), (aa 6, .inl (k5.2.2.2.1, 40, .inl f6)), (aa 7, .inl (k5.2.2.1, 32, .inl f7)), (aa 8, .inl (k5.2.2.1, 32, .inl f8)), (aa 9, .inl (k5.2.2.1, 32, .inl f9)), (aa 10, .inl (k5.2.2.1, 32, .inl f10))] H := hP
        have hD : va_D A [(mo, .inr (4, [.int 1, .int (nI R.length), .int ck, .ref (aa 0), .ref (aa 1), .ref (aa 2), .ref (aa 3), .ref (aa 4), .ref (aa 5), .ref (aa 6), .int (nI g.1), .ref (aa 7), .ref (aa 8), .ref (aa 9), .ref (aa 10), .int g.2.1, .long g.2.2.2.1, .int g.2.2.1, .int sp, .int mt])), (aa 0, .inl (k5.2.2.1, 40, .inl f0)), (aa 1, .inl (k5.2.2.1, 40, .inl f1)), (aa 2, .inl (k5.2.2.1, 40, .inl f2)), (aa 3, .inl (k5.2.2.1, 40, .inl f3)), (aa 4, .inl (k5.2.2.1, 40, .inl f4)), (aa 5, .inl (k5.2.2.1, 40, .inl f5)), (aa 6, .inl (k5.2.2.2.1, 40, .inl f6)), (aa 7, .inl (k5.2.2.1, 32, .inl f7)), (aa 8, .inl (k5.2.2.1, 32, .inl f8)), (aa 9, .inl (k5.2.2.1, 32, .inl f9)), (aa 10, .inl (k5.2.2.1, 32, .inl f10))] := hD
        refine lv_iload C.x C.b md_M_submit_77 (lv_at hl 0 rfl) ?_
        refine lv_if_eq (tgt := 120) C.x C.b md_M_submit_79 (by decide) (fun h7 => ?_) (fun h7 => ?_)
        · skip
          refine lv_aload_n C.x C.b md_M_submit_120 rfl (lv_at hl 4 rfl) ?_
          refine mf_gf C (ci := 4) (N := 20) rfl mi_M 0 (by decide) mt_535 (hP 0 _ rfl) (v := .int 1) rfl md_M_submit_121 ?_
          refine lv_if_le (tgt := 129) C.x C.b md_M_submit_124 (by decide) (fun h8 => ?_) (fun h8 => ?_)
          · exact absurd h8 (by decide)
          · skip
            refine lv_iconst (v := 0) C.x C.b md_M_submit_127 (by decide) ?_
            have hsp : rf_submit i h0 p0 q0 (R, ck, sp, mt, g) = ((1, 0), R, ck, sp, mt, g) := by exact if_neg (fun z => by simp only [mf_howOk, mf_prOk, mf_qtOk, Bool.and_eq_true, decide_eq_true_eq] at z; exact Int32.not_le.mpr h5 z.1.2.2)
            rw [hsp]
            exact mf_wi C.x C.b hr hlk md_M_submit_128 ⟨f0, f1, f2, f3, f4, f5, f6, f7, f8, f9, f10, hP, hD, hle, hRF, hRG⟩ (by rw [← hH]; exact ⟨hS.1, hS.2.1⟩) hH hS.2.2 (Nat.le_refl _) (Nat.le_refl _)
        · exact absurd rfl h7
    · skip
      refine lv_iload_n C.x C.b md_M_submit_34 rfl (lv_at hl 6 rfl) ?_
      refine lv_iconst (v := 1) C.x C.b md_M_submit_35 (by decide) ?_
      refine lv_sipush (v := 10000) C.x C.b md_M_submit_36 (by decide) ?_
      refine mf_cks (va_runS (As := [.int p0, .int 1, .int 10000]) (rest := []) C.f (k_M_among l D k5 t0 A H p0 1 10000) (mf_cS C mt_607 mt_605 mt_6 mt_606 mh_M_among ⟨by decide, by decide⟩) (mf_preS C.ev hS) rfl rfl hl.1 rfl (lv_room (Nat.le_of_ble_eq_true rfl)) md_M_submit_39 ⟨by first | omega | exact Nat.le_of_ble_eq_true rfl, by first | omega | exact Nat.le_of_ble_eq_true rfl⟩) ?_
      refine lv_if_eq (tgt := 60) C.x C.b md_M_submit_42 (by decide) (fun h9 => ?_) (fun h9 => ?_)
      · skip
        refine lv_iconst (v := 0) C.x C.b md_M_submit_60 (by decide) ?_
        refine lv_istore (lv' := [(8, .int 0), (7, .int (h0 &&& 1)), (6, .int (mf_kind h0)), (5, .int (h0 >>> 4)), (0, .ref mo), (1, .int i), (2, .int h0), (3, .int p0), (4, .int q0)]) C.x C.b md_M_submit_61 hl (by decide) rfl (fun ls hl => ?_)
        refine lv_aload_n C.x C.b md_M_submit_63 rfl (lv_at hl 4 rfl) ?_
        refine lv_iload C.x C.b md_M_submit_64 (lv_at hl 0 rfl) ?_
        refine lv_if_ne (tgt := 73) C.x C.b md_M_submit_66 (by decide) (fun h10 => ?_) (fun h10 => ?_)
        · exact absurd h10 (fun z => z rfl)
        · skip
          refine lv_iconst (v := 1) C.x C.b md_M_submit_69 (by decide) ?_
          refine lv_goto (tgt := 74) C.x C.b md_M_submit_70 (by decide) ?_
          refine va_put (D := D) (ci := 4) (v := .int 1) (ty := .int) (C := mf_RM) (T := mf_TM) (N := 20) C.x C.b C.2.2.1 mi_M mf_tyM mp_M mn_M C.o C.k hP hD hS 0 rfl rfl 0 (by decide) (C.t mt_535) (fun _ h => h) rfl (by decide +kernel) rfl rfl (Nat.le_of_ble_eq_true rfl) md_M_submit_74 (fun H locs hP hD hS => ?_)
          have hP : va_P D mf_cl [(mo, .inr (4, [.int 1, .int (nI R.length), .int ck, .ref (aa 0), .ref (aa 1), .ref (aa 2), .ref (aa 3), .ref (aa 4), .ref (aa 5), .ref (aa 6), .int (nI g.1), .ref (aa 7), .ref (aa 8), .ref (aa 9), .ref (aa 10), .int g.2.1, .long g.2.2.2.1, .int g.2.2.1, .int sp, .int mt])), (aa 0, .inl (k5.2.2.1, 40, .inl f0)), (aa 1, .inl (k5.2.2.1, 40, .inl f1)), (aa 2, .inl (k5.2.2.1, 40, .inl f2)), (aa 3, .inl (k5.2.2.1, 40, .inl f3)), (aa 4, .inl (k5.2.2.1, 40, .inl f4)), (aa 5, .inl (k5.2.2.1, 40, .inl f5)), (aa 6, .inl (k5.2.2.2.1, 40, .inl f6)), (aa 7, .inl (k5.2.2.1, 32, .inl f7)), (aa 8, .inl (k5.2.2.1, 32, .inl f8)), (aa 9, .inl (k5.2.2.1, 32, .inl f9)), (aa 10, .inl (k5.2.2.1, 32, .inl f10))] H := hP
          have hD : va_D A [(mo, .inr (4, [.int 1, .int (nI R.length), .int ck, .ref (aa 0), .ref (aa 1), .ref (aa 2), .ref (aa 3), .ref (aa 4), .ref (aa 5), .ref (aa 6), .int (nI g.1), .ref (aa 7), .ref (aa 8), .ref (aa 9), .ref (aa 10), .int g.2.1, .long g.2.2.2.1, .int g.2.2.1, .int sp, .int mt])), (aa 0, .inl (k5.2.2.1, 40, .inl f0)), (aa 1, .inl (k5.2.2.1, 40, .inl f1)), (aa 2, .inl (k5.2.2.1, 40, .inl f2)), (aa 3, .inl (k5.2.2.1, 40, .inl f3)), (aa 4, .inl (k5.2.2.1, 40, .inl f4)), (aa 5, .inl (k5.2.2.1, 40, .inl f5)), (aa 6, .inl (k5.2.2.2.1, 40, .inl f6)), (aa 7, .inl (k5.2.2.1, 32, .inl f7)), (aa 8, .inl (k5.2.2.1, 32, .inl f8)), (aa 9, .inl (k5.2.2.1, 32, .inl f9)), (aa 10, .inl (k5.2.2.1, 32, .inl f10))] := hD
          refine lv_iload C.x C.b md_M_submit_77 (lv_at hl 0 rfl) ?_
          refine lv_if_eq (tgt := 120) C.x C.b md_M_submit_79 (by decide) (fun h11 => ?_) (fun h11 => ?_)
          · skip
            refine lv_aload_n C.x C.b md_M_submit_120 rfl (lv_at hl 4 rfl) ?_
            refine mf_gf C (ci := 4) (N := 20) rfl mi_M 0 (by decide) mt_535 (hP 0 _ rfl) (v := .int 1) rfl md_M_submit_121 ?_
            refine lv_if_le (tgt := 129) C.x C.b md_M_submit_124 (by decide) (fun h12 => ?_) (fun h12 => ?_)
            · exact absurd h12 (by decide)
            · skip
              refine lv_iconst (v := 0) C.x C.b md_M_submit_127 (by decide) ?_
              have hsp : rf_submit i h0 p0 q0 (R, ck, sp, mt, g) = ((1, 0), R, ck, sp, mt, g) := by exact if_neg (fun z => by simp only [mf_howOk, mf_prOk, mf_qtOk, Bool.and_eq_true, decide_eq_true_eq] at z; exact mf_andF (mf_bI_0.mp h9) z.2.1)
              rw [hsp]
              exact mf_wi C.x C.b hr hlk md_M_submit_128 ⟨f0, f1, f2, f3, f4, f5, f6, f7, f8, f9, f10, hP, hD, hle, hRF, hRG⟩ (by rw [← hH]; exact ⟨hS.1, hS.2.1⟩) hH hS.2.2 (Nat.le_refl _) (Nat.le_refl _)
          · exact absurd rfl h11
      · skip
        refine lv_iload C.x C.b md_M_submit_45 (lv_at hl 7 rfl) ?_
        refine lv_iconst (v := 1) C.x C.b md_M_submit_47 (by decide) ?_
        refine lv_ldc (v := 1000000) C.x C.b C.o (C.t mt_608) md_M_submit_48 ?_
        refine mf_cks (va_runS (As := [.int q0, .int 1, .int 1000000]) (rest := []) C.f (k_M_among l D k5 t0 A H q0 1 1000000) (mf_cS C mt_607 mt_605 mt_6 mt_606 mh_M_among ⟨by decide, by decide⟩) (mf_preS C.ev hS) rfl rfl hl.1 rfl (lv_room (Nat.le_of_ble_eq_true rfl)) md_M_submit_50 ⟨by first | omega | exact Nat.le_of_ble_eq_true rfl, by first | omega | exact Nat.le_of_ble_eq_true rfl⟩) ?_
        refine lv_if_eq (tgt := 60) C.x C.b md_M_submit_53 (by decide) (fun h13 => ?_) (fun h13 => ?_)
        · skip
          refine lv_iconst (v := 0) C.x C.b md_M_submit_60 (by decide) ?_
          refine lv_istore (lv' := [(8, .int 0), (7, .int (h0 &&& 1)), (6, .int (mf_kind h0)), (5, .int (h0 >>> 4)), (0, .ref mo), (1, .int i), (2, .int h0), (3, .int p0), (4, .int q0)]) C.x C.b md_M_submit_61 hl (by decide) rfl (fun ls hl => ?_)
          refine lv_aload_n C.x C.b md_M_submit_63 rfl (lv_at hl 4 rfl) ?_
          refine lv_iload C.x C.b md_M_submit_64 (lv_at hl 0 rfl) ?_
          refine lv_if_ne (tgt := 73) C.x C.b md_M_submit_66 (by decide) (fun h14 => ?_) (fun h14 => ?_)
          · exact absurd h14 (fun z => z rfl)
          · skip
            refine lv_iconst (v := 1) C.x C.b md_M_submit_69 (by decide) ?_
            refine lv_goto (tgt := 74) C.x C.b md_M_submit_70 (by decide) ?_
            refine va_put (D := D) (ci := 4) (v := .int 1) (ty := .int) (C := mf_RM) (T := mf_TM) (N := 20) C.x C.b C.2.2.1 mi_M mf_tyM mp_M mn_M C.o C.k hP hD hS 0 rfl rfl 0 (by decide) (C.t mt_535) (fun _ h => h) rfl (by decide +kernel) rfl rfl (Nat.le_of_ble_eq_true rfl) md_M_submit_74 (fun H locs hP hD hS => ?_)
            have hP : va_P D mf_cl [(mo, .inr (4, [.int 1, .int (nI R.length), .int ck, .ref (aa 0), .ref (aa 1), .ref (aa 2), .ref (aa 3), .ref (aa 4), .ref (aa 5), .ref (aa 6), .int (nI g.1), .ref (aa 7), .ref (aa 8), .ref (aa 9), .ref (aa 10), .int g.2.1, .long g.2.2.2.1, .int g.2.2.1, .int sp, .int mt])), (aa 0, .inl (k5.2.2.1, 40, .inl f0)), (aa 1, .inl (k5.2.2.1, 40, .inl f1)), (aa 2, .inl (k5.2.2.1, 40, .inl f2)), (aa 3, .inl (k5.2.2.1, 40, .inl f3)), (aa 4, .inl (k5.2.2.1, 40, .inl f4)), (aa 5, .inl (k5.2.2.1, 40, .inl f5)), (aa 6, .inl (k5.2.2.2.1, 40, .inl f6)), (aa 7, .inl (k5.2.2.1, 32, .inl f7)), (aa 8, .inl (k5.2.2.1, 32, .inl f8)), (aa 9, .inl (k5.2.2.1, 32, .inl f9)), (aa 10, .inl (k5.2.2.1, 32, .inl f10))] H := hP
            have hD : va_D A [(mo, .inr (4, [.int 1, .int (nI R.length), .int ck, .ref (aa 0), .ref (aa 1), .ref (aa 2), .ref (aa 3), .ref (aa 4), .ref (aa 5), .ref (aa 6), .int (nI g.1), .ref (aa 7), .ref (aa 8), .ref (aa 9), .ref (aa 10), .int g.2.1, .long g.2.2.2.1, .int g.2.2.1, .int sp, .int mt])), (aa 0, .inl (k5.2.2.1, 40, .inl f0)), (aa 1, .inl (k5.2.2.1, 40, .inl f1)), (aa 2, .inl (k5.2.2.1, 40, .inl f2)), (aa 3, .inl (k5.2.2.1, 40, .inl f3)), (aa 4, .inl (k5.2.2.1, 40, .inl f4)), (aa 5, .inl (k5.2.2.1, 40, .inl f5)), (aa 6, .inl (k5.2.2.2.1, 40, .inl f6)), (aa 7, .inl (k5.2.2.1, 32, .inl f7)), (aa 8, .inl (k5.2.2.1, 32, .inl f8)), (aa 9, .inl (k5.2.2.1, 32, .inl f9)), (aa 10, .inl (k5.2.2.1, 32, .inl f10))] := hD
            refine lv_iload C.x C.b md_M_submit_77 (lv_at hl 0 rfl) ?_
            refine lv_if_eq (tgt := 120) C.x C.b md_M_submit_79 (by decide) (fun h15 => ?_) (fun h15 => ?_)
            · skip
              refine lv_aload_n C.x C.b md_M_submit_120 rfl (lv_at hl 4 rfl) ?_
              refine mf_gf C (ci := 4) (N := 20) rfl mi_M 0 (by decide) mt_535 (hP 0 _ rfl) (v := .int 1) rfl md_M_submit_121 ?_
              refine lv_if_le (tgt := 129) C.x C.b md_M_submit_124 (by decide) (fun h16 => ?_) (fun h16 => ?_)
              · exact absurd h16 (by decide)
              · skip
                refine lv_iconst (v := 0) C.x C.b md_M_submit_127 (by decide) ?_
                have hsp : rf_submit i h0 p0 q0 (R, ck, sp, mt, g) = ((1, 0), R, ck, sp, mt, g) := by exact if_neg (fun z => by simp only [mf_howOk, mf_prOk, mf_qtOk, Bool.and_eq_true, decide_eq_true_eq] at z; exact mf_andF (mf_bI_0.mp h13) z.2.2)
                rw [hsp]
                exact mf_wi C.x C.b hr hlk md_M_submit_128 ⟨f0, f1, f2, f3, f4, f5, f6, f7, f8, f9, f10, hP, hD, hle, hRF, hRG⟩ (by rw [← hH]; exact ⟨hS.1, hS.2.1⟩) hH hS.2.2 (Nat.le_refl _) (Nat.le_refl _)
            · exact absurd rfl h15
        · skip
          refine lv_iconst (v := 1) C.x C.b md_M_submit_56 (by decide) ?_
          refine lv_goto (tgt := 61) C.x C.b md_M_submit_57 (by decide) ?_
          refine lv_istore (lv' := [(8, .int 1), (7, .int (h0 &&& 1)), (6, .int (mf_kind h0)), (5, .int (h0 >>> 4)), (0, .ref mo), (1, .int i), (2, .int h0), (3, .int p0), (4, .int q0)]) C.x C.b md_M_submit_61 hl (by decide) rfl (fun ls hl => ?_)
          refine lv_aload_n C.x C.b md_M_submit_63 rfl (lv_at hl 4 rfl) ?_
          refine lv_iload C.x C.b md_M_submit_64 (lv_at hl 0 rfl) ?_
          refine lv_if_ne (tgt := 73) C.x C.b md_M_submit_66 (by decide) (fun h17 => ?_) (fun h17 => ?_)
          · skip
            refine lv_iconst (v := 0) C.x C.b md_M_submit_73 (by decide) ?_
            refine va_put (D := D) (ci := 4) (v := .int 0) (ty := .int) (C := mf_RM) (T := mf_TM) (N := 20) C.x C.b C.2.2.1 mi_M mf_tyM mp_M mn_M C.o C.k hP hD hS 0 rfl rfl 0 (by decide) (C.t mt_535) (fun _ h => h) rfl (by decide +kernel) rfl rfl (Nat.le_of_ble_eq_true rfl) md_M_submit_74 (fun H locs hP hD hS => ?_)
            have hP : va_P D mf_cl [(mo, .inr (4, [.int 0, .int (nI R.length), .int ck, .ref (aa 0), .ref (aa 1), .ref (aa 2), .ref (aa 3), .ref (aa 4), .ref (aa 5), .ref (aa 6), .int (nI g.1), .ref (aa 7), .ref (aa 8), .ref (aa 9), .ref (aa 10), .int g.2.1, .long g.2.2.2.1, .int g.2.2.1, .int sp, .int mt])), (aa 0, .inl (k5.2.2.1, 40, .inl f0)), (aa 1, .inl (k5.2.2.1, 40, .inl f1)), (aa 2, .inl (k5.2.2.1, 40, .inl f2)), (aa 3, .inl (k5.2.2.1, 40, .inl f3)), (aa 4, .inl (k5.2.2.1, 40, .inl f4)), (aa 5, .inl (k5.2.2.1, 40, .inl f5)), (aa 6, .inl (k5.2.2.2.1, 40, .inl f6)), (aa 7, .inl (k5.2.2.1, 32, .inl f7)), (aa 8, .inl (k5.2.2.1, 32, .inl f8)), (aa 9, .inl (k5.2.2.1, 32, .inl f9)), (aa 10, .inl (k5.2.2.1, 32, .inl f10))] H := hP
            have hD : va_D A [(mo, .inr (4, [.int 0, .int (nI R.length), .int ck, .ref (aa 0), .ref (aa 1), .ref (aa 2), .ref (aa 3), .ref (aa 4), .ref (aa 5), .ref (aa 6), .int (nI g.1), .ref (aa 7), .ref (aa 8), .ref (aa 9), .ref (aa 10), .int g.2.1, .long g.2.2.2.1, .int g.2.2.1, .int sp, .int mt])), (aa 0, .inl (k5.2.2.1, 40, .inl f0)), (aa 1, .inl (k5.2.2.1, 40, .inl f1)), (aa 2, .inl (k5.2.2.1, 40, .inl f2)), (aa 3, .inl (k5.2.2.1, 40, .inl f3)), (aa 4, .inl (k5.2.2.1, 40, .inl f4)), (aa 5, .inl (k5.2.2.1, 40, .inl f5)), (aa 6, .inl (k5.2.2.2.1, 40, .inl f6)), (aa 7, .inl (k5.2.2.1, 32, .inl f7)), (aa 8, .inl (k5.2.2.1, 32, .inl f8)), (aa 9, .inl (k5.2.2.1, 32, .inl f9)), (aa 10, .inl (k5.2.2.1, 32, .inl f10))] := hD
            have hgd : (mf_howOk h0 && (mf_prOk p0 && mf_qtOk q0)) = true := by simp only [mf_howOk, mf_prOk, mf_qtOk, Bool.and_eq_true, decide_eq_true_eq]; exact ⟨⟨(mf_andT (mf_bI_1.mp h1)).1, (mf_andT (mf_bI_1.mp h1)).2, Int32.not_lt.mp h5⟩, ⟨(mf_andT (mf_bI_1.mp h9)).1, (mf_andT (mf_bI_1.mp h9)).2⟩, (mf_andT (mf_bI_1.mp h13)).1, (mf_andT (mf_bI_1.mp h13)).2⟩
            have hM0 : mf_MD D k5 A H mo aa 0 (R, ck, sp, mt, g) := ⟨f0, f1, f2, f3, f4, f5, f6, f7, f8, f9, f10, hP, hD, hle, hRF, hRG⟩
            refine lv_iload C.x C.b md_M_submit_77 (lv_at hl 0 rfl) ?_
            refine lv_if_eq (tgt := 120) C.x C.b md_M_submit_79 (by decide) (fun h18 => ?_) (fun h18 => ?_)
            · exact absurd h18 (by decide)
            · skip
              refine lv_aload_n C.x C.b md_M_submit_82 rfl (lv_at hl 4 rfl) ?_
              refine lv_iload_n C.x C.b md_M_submit_83 rfl (lv_at hl 5 rfl) ?_
              refine mf_cks (va_runV (As := [.int i]) (rest := []) C.f (k_M_find l D k5 t0 A H mo aa 0 ck sp mt R g i hM0) (mf_cV C mt_612 mt_609 mt_6 mt_611 ms_27 mh_M_find ⟨by decide, by decide⟩) (mf_preV C.ev hS (mf_rv C (ci := 4) (N := 20) rfl (hP 0 _ rfl))) rfl rfl hl.1 rfl (lv_room (Nat.le_of_ble_eq_true rfl)) md_M_submit_84 ⟨by first | omega | exact Nat.le_of_ble_eq_true rfl, by first | omega | exact Nat.le_of_ble_eq_true rfl⟩) ?_
              rcases hp : rf_find i R with _ | ⟨k, x⟩
              · rw [show mf_ix (none : Option (Nat × mf_T)) = -1 from rfl]
                refine lv_if_ge (tgt := 115) C.x C.b md_M_submit_87 (by decide) (fun h19 => ?_) (fun h19 => ?_)
                · exact absurd h19 (by decide)
                · skip
                  refine lv_aload_n C.x C.b md_M_submit_90 rfl (lv_at hl 4 rfl) ?_
                  refine mf_gf C (ci := 4) (N := 20) rfl mi_M 1 (by decide) mt_536 (hP 0 _ rfl) (v := .int (nI R.length)) rfl md_M_submit_91 ?_
                  refine lv_bipush (v := 40) C.x C.b md_M_submit_94 (by decide) ?_
                  refine lv_icmp_eq (tgt := 115) C.x C.b md_M_submit_96 (by decide) (fun h20 => ?_) (fun h20 => ?_)
                  · skip
                    refine lv_aload_n C.x C.b md_M_submit_115 rfl (lv_at hl 4 rfl) ?_
                    refine lv_iconst (v := 2) C.x C.b md_M_submit_116 (by decide) ?_
                    refine va_put (D := D) (ci := 4) (v := .int 2) (ty := .int) (C := mf_RM) (T := mf_TM) (N := 20) C.x C.b C.2.2.1 mi_M mf_tyM mp_M mn_M C.o C.k hP hD hS 0 rfl rfl 0 (by decide) (C.t mt_535) (fun _ h => h) rfl (by decide +kernel) rfl rfl (Nat.le_of_ble_eq_true rfl) md_M_submit_117 (fun H locs hP hD hS => ?_)
                    have hP : va_P D mf_cl [(mo, .inr (4, [.int 2, .int (nI R.length), .int ck, .ref (aa 0), .ref (aa 1), .ref (aa 2), .ref (aa 3), .ref (aa 4), .ref (aa 5), .ref (aa 6), .int (nI g.1), .ref (aa 7), .ref (aa 8), .ref (aa 9), .ref (aa 10), .int g.2.1, .long g.2.2.2.1, .int g.2.2.1, .int sp, .int mt])), (aa 0, .inl (k5.2.2.1, 40, .inl f0)), (aa 1, .inl (k5.2.2.1, 40, .inl f1)), (aa 2, .inl (k5.2.2.1, 40, .inl f2)), (aa 3, .inl (k5.2.2.1, 40, .inl f3)), (aa 4, .inl (k5.2.2.1, 40, .inl f4)), (aa 5, .inl (k5.2.2.1, 40, .inl f5)), (aa 6, .inl (k5.2.2.2.1, 40, .inl f6)), (aa 7, .inl (k5.2.2.1, 32, .inl f7)), (aa 8, .inl (k5.2.2.1, 32, .inl f8)), (aa 9, .inl (k5.2.2.1, 32, .inl f9)), (aa 10, .inl (k5.2.2.1, 32, .inl f10))] H := hP
                    have hD : va_D A [(mo, .inr (4, [.int 2, .int (nI R.length), .int ck, .ref (aa 0), .ref (aa 1), .ref (aa 2), .ref (aa 3), .ref (aa 4), .ref (aa 5), .ref (aa 6), .int (nI g.1), .ref (aa 7), .ref (aa 8), .ref (aa 9), .ref (aa 10), .int g.2.1, .long g.2.2.2.1, .int g.2.2.1, .int sp, .int mt])), (aa 0, .inl (k5.2.2.1, 40, .inl f0)), (aa 1, .inl (k5.2.2.1, 40, .inl f1)), (aa 2, .inl (k5.2.2.1, 40, .inl f2)), (aa 3, .inl (k5.2.2.1, 40, .inl f3)), (aa 4, .inl (k5.2.2.1, 40, .inl f4)), (aa 5, .inl (k5.2.2.1, 40, .inl f5)), (aa 6, .inl (k5.2.2.2.1, 40, .inl f6)), (aa 7, .inl (k5.2.2.1, 32, .inl f7)), (aa 8, .inl (k5.2.2.1, 32, .inl f8)), (aa 9, .inl (k5.2.2.1, 32, .inl f9)), (aa 10, .inl (k5.2.2.1, 32, .inl f10))] := hD
                    refine lv_aload_n C.x C.b md_M_submit_120 rfl (lv_at hl 4 rfl) ?_
                    refine mf_gf C (ci := 4) (N := 20) rfl mi_M 0 (by decide) mt_535 (hP 0 _ rfl) (v := .int 2) rfl md_M_submit_121 ?_
                    refine lv_if_le (tgt := 129) C.x C.b md_M_submit_124 (by decide) (fun h21 => ?_) (fun h21 => ?_)
                    · exact absurd h21 (by decide)
                    · skip
                      refine lv_iconst (v := 0) C.x C.b md_M_submit_127 (by decide) ?_
                      have hsp : rf_submit i h0 p0 q0 (R, ck, sp, mt, g) = ((2, 0), R, ck, sp, mt, g) := by unfold rf_submit; rw [if_pos hgd]; exact if_pos (by simp [show R.length = 40 from mf_eq40 h20 hle])
                      rw [hsp]
                      exact mf_wi C.x C.b hr hlk md_M_submit_128 ⟨f0, f1, f2, f3, f4, f5, f6, f7, f8, f9, f10, hP, hD, hle, hRF, hRG⟩ (by rw [← hH]; exact ⟨hS.1, hS.2.1⟩) hH hS.2.2 (Nat.le_refl _) (Nat.le_refl _)
                  · skip
                    refine lv_aload_n C.x C.b md_M_submit_99 rfl (lv_at hl 4 rfl) ?_
                    refine lv_iload C.x C.b md_M_submit_100 (lv_at hl 3 rfl) ?_
                    refine lv_iload C.x C.b md_M_submit_102 (lv_at hl 1 rfl) ?_
                    refine lv_iload C.x C.b md_M_submit_104 (lv_at hl 2 rfl) ?_
                    refine lv_iload_n C.x C.b md_M_submit_106 rfl (lv_at hl 7 rfl) ?_
                    refine lv_iload C.x C.b md_M_submit_107 (lv_at hl 8 rfl) ?_
                    refine mf_cks (va_runV (As := [.int (h0 >>> 4), .int (h0 &&& 1), .int (mf_kind h0), .int p0, .int q0]) (rest := []) C.f (k_M_refused l D k5 t0 A H mo aa 0 ck sp mt R g (h0 >>> 4) (h0 &&& 1) (mf_kind h0) p0 q0 hM0) (mf_cV C mt_616 mt_613 mt_6 mt_615 ms_28 mh_M_refused ⟨by decide, by decide⟩) (mf_preV C.ev hS (mf_rv C (ci := 4) (N := 20) rfl (hP 0 _ rfl))) rfl rfl hl.1 rfl (lv_room (Nat.le_of_ble_eq_true rfl)) md_M_submit_109 ⟨by first | omega | exact Nat.le_of_ble_eq_true rfl, by first | omega | exact Nat.le_of_ble_eq_true rfl⟩) ?_
                    refine lv_if_eq (tgt := 120) C.x C.b md_M_submit_112 (by decide) (fun h22 => ?_) (fun h22 => ?_)
                    · skip
                      refine lv_aload_n C.x C.b md_M_submit_120 rfl (lv_at hl 4 rfl) ?_
                      refine mf_gf C (ci := 4) (N := 20) rfl mi_M 0 (by decide) mt_535 (hP 0 _ rfl) (v := .int 0) rfl md_M_submit_121 ?_
                      refine lv_if_le (tgt := 129) C.x C.b md_M_submit_124 (by decide) (fun h23 => ?_) (fun h23 => ?_)
                      · skip
                        have hR0 : R.length < 40 := mf_ne40 h20 hle
                        have hno : ¬ ((rf_find i (R, ck, sp, mt, g).1).isSome || (decide ((R, ck, sp, mt, g).1.length = 40) || rf_refused (h0 >>> 4) (h0 &&& 1) (mf_kind h0) p0 q0 (R, ck, sp, mt, g).1)) = true := by dsimp only; rw [hp, decide_eq_false (by omega), show rf_refused (h0 >>> 4) (h0 &&& 1) (mf_kind h0) p0 q0 R = false from mf_bI_0.mp h22]; simp
                        have aft : ∀ (ls : Array Slot) (H2 : Heap) (locs : List Loc) (q1 : Int32) (R1 : List mf_T) (mt1 : Int32) (g1 : mf_G), mf_MD D k5 A H2 mo aa 0 (R1, ck, sp, mt1, g1) → R1.length < 40 → g1.1 + 41 * 40 < 2 ^ 31 → (if mf_kind h0 < 4 then rf_match i (h0 >>> 4) (h0 &&& 1) (if mf_kind h0 = 1 then 0 else p0) 41 q0 (R, mt, g) else (q0, R, mt, g)) = (q1, R1, mt1, g1) → va_S A s.heap H2 locs → lv_has ls 10 [(9, .int q1), (7, .int (h0 &&& 1)), (6, .int (mf_kind h0)), (5, .int (h0 >>> 4)), (0, .ref mo), (1, .int i), (2, .int h0), (3, .int p0), (4, .int q0)] → W p l e ({ frames := 4, cells := 0, slots := 0, locals := 99 } : Room) s m (([.ref mo, .int i, .int h0, .int p0, .int q0] : List Value).toArray) below meth c H2 locs 0 0 (MQ below (mf_Kw (some (.int (rf_submit i h0 p0 q0 (R, ck, sp, mt, g)).1.2)) (fun H1 => mf_MD D k5 A H1 mo aa (nI (rf_submit i h0 p0 q0 (R, ck, sp, mt, g)).1.1) (rf_submit i h0 p0 q0 (R, ck, sp, mt, g)).2) (A)) (([.ref mo, .int i, .int h0, .int p0, .int q0] : List Value).toArray) s 0 0 A) (F0 m 163 ls []) := by
                          intro ls H2 locs q1 R1 mt1 g1 hM5 hR40 hgs hma hS hl
                          obtain ⟨_, _, _, _, _, _, _, _, _, _, _, hP5, -⟩ := id hM5
                          have kp : ∀ ls : Array Slot, (3 < mf_kind h0 ∨ (mf_kind h0 = 0 ∧ 0 < q1)) → lv_has ls 10 [(9, .int q1), (7, .int (h0 &&& 1)), (6, .int (mf_kind h0)), (5, .int (h0 >>> 4)), (0, .ref mo), (1, .int i), (2, .int h0), (3, .int p0), (4, .int q0)] → W p l e ({ frames := 4, cells := 0, slots := 0, locals := 99 } : Room) s m (([.ref mo, .int i, .int h0, .int p0, .int q0] : List Value).toArray) below meth c H2 locs 0 0 (MQ below (mf_Kw (some (.int (rf_submit i h0 p0 q0 (R, ck, sp, mt, g)).1.2)) (fun H1 => mf_MD D k5 A H1 mo aa (nI (rf_submit i h0 p0 q0 (R, ck, sp, mt, g)).1.1) (rf_submit i h0 p0 q0 (R, ck, sp, mt, g)).2) (A)) (([.ref mo, .int i, .int h0, .int p0, .int q0] : List Value).toArray) s 0 0 A) (F0 m 179 ls []) := by
                            intro ls hkc hl
                            refine lv_aload_n C.x C.b md_M_submit_179 rfl (lv_at hl 4 rfl) ?_
                            refine lv_iload_n C.x C.b md_M_submit_180 rfl (lv_at hl 5 rfl) ?_
                            refine lv_iload C.x C.b md_M_submit_181 (lv_at hl 3 rfl) ?_
                            refine lv_iload C.x C.b md_M_submit_183 (lv_at hl 1 rfl) ?_
                            refine lv_iload_n C.x C.b md_M_submit_185 rfl (lv_at hl 7 rfl) ?_
                            refine lv_iload C.x C.b md_M_submit_186 (lv_at hl 0 rfl) ?_
                            refine mf_cwn (va_runV (As := [.int i, .int (h0 >>> 4), .int (h0 &&& 1), .int p0, .int q1]) (rest := []) C.f (k_M_keep l D k5 t0 A H2 mo aa 0 ck sp mt1 R1 g1 i (h0 >>> 4) (h0 &&& 1) p0 q1 hM5 hR40) (mf_cV C mt_648 mt_645 mt_6 mt_647 ms_36 mh_M_keep ⟨by decide, by decide⟩) (mf_preV C.ev hS (mf_rv C (ci := 4) (N := 20) rfl (hP5 0 _ rfl))) rfl rfl hl.1 rfl (lv_room (Nat.le_of_ble_eq_true rfl)) md_M_submit_188 ⟨by first | omega | exact Nat.le_of_ble_eq_true rfl, by first | omega | exact Nat.le_of_ble_eq_true rfl⟩) hS (fun _ _ h => h) (fun H locs hM6 hz6 hk6 hS => ?_)
                            obtain ⟨f0, f1, f2, f3, f4, f5, f6, f7, f8, f9, f10, hP, hD, hle, hRF, hRG⟩ := id hM6
                            have hP : va_P D mf_cl [(mo, .inr (4, [.int 0, .int (nI (R1 ++ [(((i, (h0 >>> 4), (h0 &&& 1), 0, p0, q1), ck + 1) : mf_T)]).length), .int (ck + 1), .ref (aa 0), .ref (aa 1), .ref (aa 2), .ref (aa 3), .ref (aa 4), .ref (aa 5), .ref (aa 6), .int (nI g1.1), .ref (aa 7), .ref (aa 8), .ref (aa 9), .ref (aa 10), .int g1.2.1, .long g1.2.2.2.1, .int g1.2.2.1, .int sp, .int mt1])), (aa 0, .inl (k5.2.2.1, 40, .inl f0)), (aa 1, .inl (k5.2.2.1, 40, .inl f1)), (aa 2, .inl (k5.2.2.1, 40, .inl f2)), (aa 3, .inl (k5.2.2.1, 40, .inl f3)), (aa 4, .inl (k5.2.2.1, 40, .inl f4)), (aa 5, .inl (k5.2.2.1, 40, .inl f5)), (aa 6, .inl (k5.2.2.2.1, 40, .inl f6)), (aa 7, .inl (k5.2.2.1, 32, .inl f7)), (aa 8, .inl (k5.2.2.1, 32, .inl f8)), (aa 9, .inl (k5.2.2.1, 32, .inl f9)), (aa 10, .inl (k5.2.2.1, 32, .inl f10))] H := hP
                            have hD : va_D A [(mo, .inr (4, [.int 0, .int (nI (R1 ++ [(((i, (h0 >>> 4), (h0 &&& 1), 0, p0, q1), ck + 1) : mf_T)]).length), .int (ck + 1), .ref (aa 0), .ref (aa 1), .ref (aa 2), .ref (aa 3), .ref (aa 4), .ref (aa 5), .ref (aa 6), .int (nI g1.1), .ref (aa 7), .ref (aa 8), .ref (aa 9), .ref (aa 10), .int g1.2.1, .long g1.2.2.2.1, .int g1.2.2.1, .int sp, .int mt1])), (aa 0, .inl (k5.2.2.1, 40, .inl f0)), (aa 1, .inl (k5.2.2.1, 40, .inl f1)), (aa 2, .inl (k5.2.2.1, 40, .inl f2)), (aa 3, .inl (k5.2.2.1, 40, .inl f3)), (aa 4, .inl (k5.2.2.1, 40, .inl f4)), (aa 5, .inl (k5.2.2.1, 40, .inl f5)), (aa 6, .inl (k5.2.2.2.1, 40, .inl f6)), (aa 7, .inl (k5.2.2.1, 32, .inl f7)), (aa 8, .inl (k5.2.2.1, 32, .inl f8)), (aa 9, .inl (k5.2.2.1, 32, .inl f9)), (aa 10, .inl (k5.2.2.1, 32, .inl f10))] := hD
                            rw [mf_snoc_len] at hP hD
                            have hP : va_P D mf_cl [(mo, .inr (4, [.int 0, .int (nI (R1.length + 1)), .int (ck + 1), .ref (aa 0), .ref (aa 1), .ref (aa 2), .ref (aa 3), .ref (aa 4), .ref (aa 5), .ref (aa 6), .int (nI g1.1), .ref (aa 7), .ref (aa 8), .ref (aa 9), .ref (aa 10), .int g1.2.1, .long g1.2.2.2.1, .int g1.2.2.1, .int sp, .int mt1])), (aa 0, .inl (k5.2.2.1, 40, .inl f0)), (aa 1, .inl (k5.2.2.1, 40, .inl f1)), (aa 2, .inl (k5.2.2.1, 40, .inl f2)), (aa 3, .inl (k5.2.2.1, 40, .inl f3)), (aa 4, .inl (k5.2.2.1, 40, .inl f4)), (aa 5, .inl (k5.2.2.1, 40, .inl f5)), (aa 6, .inl (k5.2.2.2.1, 40, .inl f6)), (aa 7, .inl (k5.2.2.1, 32, .inl f7)), (aa 8, .inl (k5.2.2.1, 32, .inl f8)), (aa 9, .inl (k5.2.2.1, 32, .inl f9)), (aa 10, .inl (k5.2.2.1, 32, .inl f10))] H := hP
                            have hD : va_D A [(mo, .inr (4, [.int 0, .int (nI (R1.length + 1)), .int (ck + 1), .ref (aa 0), .ref (aa 1), .ref (aa 2), .ref (aa 3), .ref (aa 4), .ref (aa 5), .ref (aa 6), .int (nI g1.1), .ref (aa 7), .ref (aa 8), .ref (aa 9), .ref (aa 10), .int g1.2.1, .long g1.2.2.2.1, .int g1.2.2.1, .int sp, .int mt1])), (aa 0, .inl (k5.2.2.1, 40, .inl f0)), (aa 1, .inl (k5.2.2.1, 40, .inl f1)), (aa 2, .inl (k5.2.2.1, 40, .inl f2)), (aa 3, .inl (k5.2.2.1, 40, .inl f3)), (aa 4, .inl (k5.2.2.1, 40, .inl f4)), (aa 5, .inl (k5.2.2.1, 40, .inl f5)), (aa 6, .inl (k5.2.2.2.1, 40, .inl f6)), (aa 7, .inl (k5.2.2.1, 32, .inl f7)), (aa 8, .inl (k5.2.2.1, 32, .inl f8)), (aa 9, .inl (k5.2.2.1, 32, .inl f9)), (aa 10, .inl (k5.2.2.1, 32, .inl f10))] := hD
                            have hRF : mf_Rc (R1 ++ [((i, (h0 >>> 4), (h0 &&& 1), 0, p0, q1), ck + 1)]) f0 f1 f2 f3 f4 f5 f6 := hRF
                            refine lv_aload_n C.x C.b md_M_submit_191 rfl (lv_at hl 4 rfl) ?_
                            refine mf_gf C (ci := 4) (N := 20) rfl mi_M 9 (by decide) mt_544 (hP 0 _ rfl) (v := .ref (aa 6)) rfl md_M_submit_192 ?_
                            refine lv_aload_n C.x C.b md_M_submit_195 rfl (lv_at hl 4 rfl) ?_
                            refine mf_gf C (ci := 4) (N := 20) rfl mi_M 1 (by decide) mt_536 (hP 0 _ rfl) (v := .int (nI (R1.length + 1))) rfl md_M_submit_196 ?_
                            refine lv_iconst (v := 1) C.x C.b md_M_submit_199 (by decide) ?_
                            refine lv_isub C.x C.b md_M_submit_200 ?_
                            rw [nI_pred]
                            refine lv_iload C.x C.b md_M_submit_201 (lv_at hl 2 rfl) ?_
                            refine lv_iconst (v := 5) C.x C.b md_M_submit_203 (by decide) ?_
                            refine lv_icmp_ne (tgt := 211) C.x C.b md_M_submit_204 (by decide) (fun hk5 => ?_) (fun hk5 => ?_)
                            · skip
                              refine lv_iconst (v := 0) C.x C.b md_M_submit_211 (by decide) ?_
                              refine va_zast C.x C.b C.k hP hD hS 7 3 rfl rfl (vp_in_nI (show R1.length < 40 from hR40) (by decide)) md_M_submit_212 (fun H locs hP hD hS => ?_)
                              rw [nI_clamp (by omega), (show vp_nar .boolean (0 : Int32) = 0 from by decide)] at hP hD
                              have hP : va_P D mf_cl [(mo, .inr (4, [.int 0, .int (nI (R1.length + 1)), .int (ck + 1), .ref (aa 0), .ref (aa 1), .ref (aa 2), .ref (aa 3), .ref (aa 4), .ref (aa 5), .ref (aa 6), .int (nI g1.1), .ref (aa 7), .ref (aa 8), .ref (aa 9), .ref (aa 10), .int g1.2.1, .long g1.2.2.2.1, .int g1.2.2.1, .int sp, .int mt1])), (aa 0, .inl (k5.2.2.1, 40, .inl f0)), (aa 1, .inl (k5.2.2.1, 40, .inl f1)), (aa 2, .inl (k5.2.2.1, 40, .inl f2)), (aa 3, .inl (k5.2.2.1, 40, .inl f3)), (aa 4, .inl (k5.2.2.1, 40, .inl f4)), (aa 5, .inl (k5.2.2.1, 40, .inl f5)), (aa 6, .inl (k5.2.2.2.1, 40, .inl (upd f6 R1.length 0))), (aa 7, .inl (k5.2.2.1, 32, .inl f7)), (aa 8, .inl (k5.2.2.1, 32, .inl f8)), (aa 9, .inl (k5.2.2.1, 32, .inl f9)), (aa 10, .inl (k5.2.2.1, 32, .inl f10))] H := hP
                              have hD : va_D A [(mo, .inr (4, [.int 0, .int (nI (R1.length + 1)), .int (ck + 1), .ref (aa 0), .ref (aa 1), .ref (aa 2), .ref (aa 3), .ref (aa 4), .ref (aa 5), .ref (aa 6), .int (nI g1.1), .ref (aa 7), .ref (aa 8), .ref (aa 9), .ref (aa 10), .int g1.2.1, .long g1.2.2.2.1, .int g1.2.2.1, .int sp, .int mt1])), (aa 0, .inl (k5.2.2.1, 40, .inl f0)), (aa 1, .inl (k5.2.2.1, 40, .inl f1)), (aa 2, .inl (k5.2.2.1, 40, .inl f2)), (aa 3, .inl (k5.2.2.1, 40, .inl f3)), (aa 4, .inl (k5.2.2.1, 40, .inl f4)), (aa 5, .inl (k5.2.2.1, 40, .inl f5)), (aa 6, .inl (k5.2.2.2.1, 40, .inl (upd f6 R1.length 0))), (aa 7, .inl (k5.2.2.1, 32, .inl f7)), (aa 8, .inl (k5.2.2.1, 32, .inl f8)), (aa 9, .inl (k5.2.2.1, 32, .inl f9)), (aa 10, .inl (k5.2.2.1, 32, .inl f10))] := hD
                              have hM7 : mf_MD D k5 A H mo aa 0 (R1 ++ [((i, (h0 >>> 4), (h0 &&& 1), 0, p0, q1), ck + 1)], ck + 1, sp, mt1, g1) := ⟨_, _, _, _, _, _, _, _, _, _, _, by rw [mf_snoc_len]; exact hP, by rw [mf_snoc_len]; exact hD, by rw [mf_snoc_len]; exact hR40, hRF.setw ((show vp_nar .boolean (0 : Int32) = 0 from by decide)), hRG⟩
                              refine lv_aload_n C.x C.b md_M_submit_213 rfl (lv_at hl 4 rfl) ?_
                              refine mf_cwn (va_runV (As := []) (rest := []) C.f (k_M_runStops l D k5 t0 A _ mo aa 0 (R1 ++ [((i, (h0 >>> 4), (h0 &&& 1), 0, p0, q1), ck + 1)], ck + 1, sp, mt1, g1) hM7 hgs) (mf_cV C mt_652 mt_649 mt_6 mt_651 ms_37 mh_M_runStops ⟨by decide, by decide⟩) (mf_preV C.ev hS (mf_rv C (ci := 4) (N := 20) rfl (hP 0 _ rfl))) rfl rfl hl.1 rfl (lv_room (Nat.le_of_ble_eq_true rfl)) md_M_submit_214 ⟨by first | omega | exact Nat.le_of_ble_eq_true rfl, by first | omega | exact Nat.le_of_ble_eq_true rfl⟩) hS (fun _ _ h => h) (fun H locs hM9 hz9 hk9 hS => ?_)
                              refine lv_iload C.x C.b md_M_submit_217 (lv_at hl 8 rfl) ?_
                              refine lv_iload C.x C.b md_M_submit_219 (lv_at hl 0 rfl) ?_
                              refine lv_isub C.x C.b md_M_submit_221 ?_
                              have hsp : rf_submit i h0 p0 q0 (R, ck, sp, mt, g) = ((0, (q0 - q1)), rf_stops 40 (R1 ++ [((i, (h0 >>> 4), (h0 &&& 1), 0, p0, q1), ck + 1)], ck + 1, sp, mt1, g1)) := by unfold rf_submit; rw [if_pos hgd, if_neg hno]; dsimp only; rw [hma]; try dsimp only; rw [if_pos hkc]; rw [decide_eq_false hk5]; try rfl
                              rw [hsp]
                              exact mf_wi C.x C.b hr hlk md_M_submit_222 hM9 (by rw [← hH]; exact ⟨hS.1, hS.2.1⟩) hH hS.2.2 (Nat.le_refl _) (Nat.le_refl _)
                            · skip
                              refine lv_iconst (v := 1) C.x C.b md_M_submit_207 (by decide) ?_
                              refine lv_goto (tgt := 212) C.x C.b md_M_submit_208 (by decide) ?_
                              refine va_zast C.x C.b C.k hP hD hS 7 3 rfl rfl (vp_in_nI (show R1.length < 40 from hR40) (by decide)) md_M_submit_212 (fun H locs hP hD hS => ?_)
                              rw [nI_clamp (by omega), (show vp_nar .boolean (1 : Int32) = 1 from by decide)] at hP hD
                              have hP : va_P D mf_cl [(mo, .inr (4, [.int 0, .int (nI (R1.length + 1)), .int (ck + 1), .ref (aa 0), .ref (aa 1), .ref (aa 2), .ref (aa 3), .ref (aa 4), .ref (aa 5), .ref (aa 6), .int (nI g1.1), .ref (aa 7), .ref (aa 8), .ref (aa 9), .ref (aa 10), .int g1.2.1, .long g1.2.2.2.1, .int g1.2.2.1, .int sp, .int mt1])), (aa 0, .inl (k5.2.2.1, 40, .inl f0)), (aa 1, .inl (k5.2.2.1, 40, .inl f1)), (aa 2, .inl (k5.2.2.1, 40, .inl f2)), (aa 3, .inl (k5.2.2.1, 40, .inl f3)), (aa 4, .inl (k5.2.2.1, 40, .inl f4)), (aa 5, .inl (k5.2.2.1, 40, .inl f5)), (aa 6, .inl (k5.2.2.2.1, 40, .inl (upd f6 R1.length 1))), (aa 7, .inl (k5.2.2.1, 32, .inl f7)), (aa 8, .inl (k5.2.2.1, 32, .inl f8)), (aa 9, .inl (k5.2.2.1, 32, .inl f9)), (aa 10, .inl (k5.2.2.1, 32, .inl f10))] H := hP
                              have hD : va_D A [(mo, .inr (4, [.int 0, .int (nI (R1.length + 1)), .int (ck + 1), .ref (aa 0), .ref (aa 1), .ref (aa 2), .ref (aa 3), .ref (aa 4), .ref (aa 5), .ref (aa 6), .int (nI g1.1), .ref (aa 7), .ref (aa 8), .ref (aa 9), .ref (aa 10), .int g1.2.1, .long g1.2.2.2.1, .int g1.2.2.1, .int sp, .int mt1])), (aa 0, .inl (k5.2.2.1, 40, .inl f0)), (aa 1, .inl (k5.2.2.1, 40, .inl f1)), (aa 2, .inl (k5.2.2.1, 40, .inl f2)), (aa 3, .inl (k5.2.2.1, 40, .inl f3)), (aa 4, .inl (k5.2.2.1, 40, .inl f4)), (aa 5, .inl (k5.2.2.1, 40, .inl f5)), (aa 6, .inl (k5.2.2.2.1, 40, .inl (upd f6 R1.length 1))), (aa 7, .inl (k5.2.2.1, 32, .inl f7)), (aa 8, .inl (k5.2.2.1, 32, .inl f8)), (aa 9, .inl (k5.2.2.1, 32, .inl f9)), (aa 10, .inl (k5.2.2.1, 32, .inl f10))] := hD
                              have hM7 : mf_MD D k5 A H mo aa 0 (R1 ++ [((i, (h0 >>> 4), (h0 &&& 1), 1, p0, q1), ck + 1)], ck + 1, sp, mt1, g1) := ⟨_, _, _, _, _, _, _, _, _, _, _, by rw [mf_snoc_len]; exact hP, by rw [mf_snoc_len]; exact hD, by rw [mf_snoc_len]; exact hR40, hRF.setw ((show vp_nar .boolean (1 : Int32) = 1 from by decide)), hRG⟩
                              refine lv_aload_n C.x C.b md_M_submit_213 rfl (lv_at hl 4 rfl) ?_
                              refine mf_cwn (va_runV (As := []) (rest := []) C.f (k_M_runStops l D k5 t0 A _ mo aa 0 (R1 ++ [((i, (h0 >>> 4), (h0 &&& 1), 1, p0, q1), ck + 1)], ck + 1, sp, mt1, g1) hM7 hgs) (mf_cV C mt_652 mt_649 mt_6 mt_651 ms_37 mh_M_runStops ⟨by decide, by decide⟩) (mf_preV C.ev hS (mf_rv C (ci := 4) (N := 20) rfl (hP 0 _ rfl))) rfl rfl hl.1 rfl (lv_room (Nat.le_of_ble_eq_true rfl)) md_M_submit_214 ⟨by first | omega | exact Nat.le_of_ble_eq_true rfl, by first | omega | exact Nat.le_of_ble_eq_true rfl⟩) hS (fun _ _ h => h) (fun H locs hM9 hz9 hk9 hS => ?_)
                              refine lv_iload C.x C.b md_M_submit_217 (lv_at hl 8 rfl) ?_
                              refine lv_iload C.x C.b md_M_submit_219 (lv_at hl 0 rfl) ?_
                              refine lv_isub C.x C.b md_M_submit_221 ?_
                              have hsp : rf_submit i h0 p0 q0 (R, ck, sp, mt, g) = ((0, (q0 - q1)), rf_stops 40 (R1 ++ [((i, (h0 >>> 4), (h0 &&& 1), 1, p0, q1), ck + 1)], ck + 1, sp, mt1, g1)) := by unfold rf_submit; rw [if_pos hgd, if_neg hno]; dsimp only; rw [hma]; try dsimp only; rw [if_pos hkc]; rw [decide_eq_true hk5]; try rfl
                              rw [hsp]
                              exact mf_wi C.x C.b hr hlk md_M_submit_222 hM9 (by rw [← hH]; exact ⟨hS.1, hS.2.1⟩) hH hS.2.2 (Nat.le_refl _) (Nat.le_refl _)
                          refine lv_iload C.x C.b md_M_submit_163 (lv_at hl 2 rfl) ?_
                          refine lv_iconst (v := 3) C.x C.b md_M_submit_165 (by decide) ?_
                          refine lv_icmp_gt (tgt := 179) C.x C.b md_M_submit_166 (by decide) (fun h24 => ?_) (fun h24 => ?_)
                          · exact kp ls (Or.inl h24) (lv_sub hl [0, 1, 2, 3, 4, 5, 6, 7, 8] rfl)
                          · skip
                            refine lv_iload C.x C.b md_M_submit_169 (lv_at hl 2 rfl) ?_
                            refine lv_if_ne (tgt := 213) C.x C.b md_M_submit_171 (by decide) (fun h25 => ?_) (fun h25 => ?_)
                            · skip
                              refine lv_aload_n C.x C.b md_M_submit_213 rfl (lv_at hl 4 rfl) ?_
                              refine mf_cwn (va_runV (As := []) (rest := []) C.f (k_M_runStops l D k5 t0 A _ mo aa 0 (R1, ck, sp, mt1, g1) hM5 hgs) (mf_cV C mt_652 mt_649 mt_6 mt_651 ms_37 mh_M_runStops ⟨by decide, by decide⟩) (mf_preV C.ev hS (mf_rv C (ci := 4) (N := 20) rfl (hP5 0 _ rfl))) rfl rfl hl.1 rfl (lv_room (Nat.le_of_ble_eq_true rfl)) md_M_submit_214 ⟨by first | omega | exact Nat.le_of_ble_eq_true rfl, by first | omega | exact Nat.le_of_ble_eq_true rfl⟩) hS (fun _ _ h => h) (fun H locs hM9 hz9 hk9 hS => ?_)
                              refine lv_iload C.x C.b md_M_submit_217 (lv_at hl 8 rfl) ?_
                              refine lv_iload C.x C.b md_M_submit_219 (lv_at hl 0 rfl) ?_
                              refine lv_isub C.x C.b md_M_submit_221 ?_
                              have hsp : rf_submit i h0 p0 q0 (R, ck, sp, mt, g) = ((0, (q0 - q1)), rf_stops 40 (R1, ck, sp, mt1, g1)) := by unfold rf_submit; rw [if_pos hgd, if_neg hno]; dsimp only; rw [hma]; try dsimp only; rw [if_neg (fun z => z.elim (fun z => absurd z h24) (fun z => absurd z.1 h25))]; try rfl
                              rw [hsp]
                              exact mf_wi C.x C.b hr hlk md_M_submit_222 hM9 (by rw [← hH]; exact ⟨hS.1, hS.2.1⟩) hH hS.2.2 (Nat.le_refl _) (Nat.le_refl _)
                            · skip
                              refine lv_iload C.x C.b md_M_submit_174 (lv_at hl 0 rfl) ?_
                              refine lv_if_le (tgt := 213) C.x C.b md_M_submit_176 (by decide) (fun h26 => ?_) (fun h26 => ?_)
                              · skip
                                refine lv_aload_n C.x C.b md_M_submit_213 rfl (lv_at hl 4 rfl) ?_
                                refine mf_cwn (va_runV (As := []) (rest := []) C.f (k_M_runStops l D k5 t0 A _ mo aa 0 (R1, ck, sp, mt1, g1) hM5 hgs) (mf_cV C mt_652 mt_649 mt_6 mt_651 ms_37 mh_M_runStops ⟨by decide, by decide⟩) (mf_preV C.ev hS (mf_rv C (ci := 4) (N := 20) rfl (hP5 0 _ rfl))) rfl rfl hl.1 rfl (lv_room (Nat.le_of_ble_eq_true rfl)) md_M_submit_214 ⟨by first | omega | exact Nat.le_of_ble_eq_true rfl, by first | omega | exact Nat.le_of_ble_eq_true rfl⟩) hS (fun _ _ h => h) (fun H locs hM9 hz9 hk9 hS => ?_)
                                refine lv_iload C.x C.b md_M_submit_217 (lv_at hl 8 rfl) ?_
                                refine lv_iload C.x C.b md_M_submit_219 (lv_at hl 0 rfl) ?_
                                refine lv_isub C.x C.b md_M_submit_221 ?_
                                have hsp : rf_submit i h0 p0 q0 (R, ck, sp, mt, g) = ((0, (q0 - q1)), rf_stops 40 (R1, ck, sp, mt1, g1)) := by unfold rf_submit; rw [if_pos hgd, if_neg hno]; dsimp only; rw [hma]; try dsimp only; rw [if_neg (fun z => z.elim (fun z => absurd z h24) (fun z => absurd z.2 (Int32.not_lt.mpr h26)))]; try rfl
                                rw [hsp]
                                exact mf_wi C.x C.b hr hlk md_M_submit_222 hM9 (by rw [← hH]; exact ⟨hS.1, hS.2.1⟩) hH hS.2.2 (Nat.le_refl _) (Nat.le_refl _)
                              · exact kp ls (Or.inr ⟨h25, Int32.not_le.mp h26⟩) (lv_sub hl [0, 1, 2, 3, 4, 5, 6, 7, 8] rfl)
                        refine lv_iload C.x C.b md_M_submit_129 (lv_at hl 8 rfl) ?_
                        refine lv_istore (lv' := [(9, .int q0), (8, .int 1), (7, .int (h0 &&& 1)), (6, .int (mf_kind h0)), (5, .int (h0 >>> 4)), (0, .ref mo), (1, .int i), (2, .int h0), (3, .int p0), (4, .int q0)]) C.x C.b md_M_submit_131 hl (by decide) rfl (fun ls hl => ?_)
                        refine lv_iload C.x C.b md_M_submit_133 (lv_at hl 3 rfl) ?_
                        refine lv_iconst (v := 4) C.x C.b md_M_submit_135 (by decide) ?_
                        refine lv_icmp_ge (tgt := 163) C.x C.b md_M_submit_136 (by decide) (fun h27 => ?_) (fun h27 => ?_)
                        · exact aft ls _ _ q0 R mt g hM0 hR0 (by omega) (if_neg (Int32.not_lt.mpr h27)) hS (lv_sub hl [0, 2, 3, 4, 5, 6, 7, 8, 9] rfl)
                        · skip
                          refine lv_aload_n C.x C.b md_M_submit_139 rfl (lv_at hl 5 rfl) ?_
                          refine lv_iload_n C.x C.b md_M_submit_140 rfl (lv_at hl 6 rfl) ?_
                          refine lv_iload C.x C.b md_M_submit_141 (lv_at hl 4 rfl) ?_
                          refine lv_iload C.x C.b md_M_submit_143 (lv_at hl 2 rfl) ?_
                          refine lv_iload C.x C.b md_M_submit_145 (lv_at hl 3 rfl) ?_
                          refine lv_iconst (v := 1) C.x C.b md_M_submit_147 (by decide) ?_
                          refine lv_icmp_ne (tgt := 155) C.x C.b md_M_submit_148 (by decide) (fun h28 => ?_) (fun h28 => ?_)
                          · skip
                            refine lv_iload_n C.x C.b md_M_submit_155 rfl (lv_at hl 8 rfl) ?_
                            refine lv_iload C.x C.b md_M_submit_156 (lv_at hl 9 rfl) ?_
                            refine mf_cws (va_runV (As := [.int i, .int (h0 >>> 4), .int (h0 &&& 1), .int p0, .int q0]) (rest := []) C.f (k_M_match l D k5 t0 A H mo aa 0 ck sp mt R g i (h0 >>> 4) (h0 &&& 1) p0 q0 hM0 (by omega)) (mf_cV C mt_636 mt_633 mt_6 mt_635 ms_33 mh_M_match ⟨by decide, by decide⟩) (mf_preV C.ev hS (mf_rv C (ci := 4) (N := 20) rfl (hP 0 _ rfl))) rfl rfl hl.1 rfl (lv_room (Nat.le_of_ble_eq_true rfl)) md_M_submit_158 ⟨by first | omega | exact Nat.le_of_ble_eq_true rfl, by first | omega | exact Nat.le_of_ble_eq_true rfl⟩) hS (fun _ _ h => h) (fun H locs hM5 hz5 hk5 hS => ?_)
                            have hgn := rf_match_g i (h0 >>> 4) (h0 &&& 1) p0 41 q0 (R, mt, g)
                            have hln := rf_match_len i (h0 >>> 4) (h0 &&& 1) p0 41 q0 (R, mt, g)
                            obtain ⟨⟨q1, R1, mt1, g1⟩, hq1⟩ : ∃ q, rf_match i (h0 >>> 4) (h0 &&& 1) p0 41 q0 (R, mt, g) = q := ⟨_, rfl⟩
                            have hma : (if mf_kind h0 < 4 then rf_match i (h0 >>> 4) (h0 &&& 1) (if mf_kind h0 = 1 then 0 else p0) 41 q0 (R, mt, g) else (q0, R, mt, g)) = (q1, R1, mt1, g1) := by rw [if_pos (Int32.not_le.mp h27), if_neg h28]; exact hq1
                            rw [hq1] at hM5 hgn hln ⊢
                            have hgn : g1.1 ≤ g.1 + 41 := hgn
                            have hln : R1.length ≤ R.length := hln
                            refine lv_istore (lv' := [(9, .int q1), (8, .int 1), (7, .int (h0 &&& 1)), (6, .int (mf_kind h0)), (5, .int (h0 >>> 4)), (0, .ref mo), (1, .int i), (2, .int h0), (3, .int p0), (4, .int q0)]) C.x C.b md_M_submit_161 hl (by decide) rfl (fun ls hl => ?_)
                            exact aft ls _ _ q1 R1 mt1 g1 hM5 (by omega) (by omega) hma hS (lv_sub hl [0, 2, 3, 4, 5, 6, 7, 8, 9] rfl)
                          · skip
                            refine lv_iconst (v := 0) C.x C.b md_M_submit_151 (by decide) ?_
                            refine lv_goto (tgt := 156) C.x C.b md_M_submit_152 (by decide) ?_
                            refine lv_iload C.x C.b md_M_submit_156 (lv_at hl 9 rfl) ?_
                            refine mf_cws (va_runV (As := [.int i, .int (h0 >>> 4), .int (h0 &&& 1), .int 0, .int q0]) (rest := []) C.f (k_M_match l D k5 t0 A H mo aa 0 ck sp mt R g i (h0 >>> 4) (h0 &&& 1) 0 q0 hM0 (by omega)) (mf_cV C mt_636 mt_633 mt_6 mt_635 ms_33 mh_M_match ⟨by decide, by decide⟩) (mf_preV C.ev hS (mf_rv C (ci := 4) (N := 20) rfl (hP 0 _ rfl))) rfl rfl hl.1 rfl (lv_room (Nat.le_of_ble_eq_true rfl)) md_M_submit_158 ⟨by first | omega | exact Nat.le_of_ble_eq_true rfl, by first | omega | exact Nat.le_of_ble_eq_true rfl⟩) hS (fun _ _ h => h) (fun H locs hM5 hz5 hk5 hS => ?_)
                            have hgn := rf_match_g i (h0 >>> 4) (h0 &&& 1) 0 41 q0 (R, mt, g)
                            have hln := rf_match_len i (h0 >>> 4) (h0 &&& 1) 0 41 q0 (R, mt, g)
                            obtain ⟨⟨q1, R1, mt1, g1⟩, hq1⟩ : ∃ q, rf_match i (h0 >>> 4) (h0 &&& 1) 0 41 q0 (R, mt, g) = q := ⟨_, rfl⟩
                            have hma : (if mf_kind h0 < 4 then rf_match i (h0 >>> 4) (h0 &&& 1) (if mf_kind h0 = 1 then 0 else p0) 41 q0 (R, mt, g) else (q0, R, mt, g)) = (q1, R1, mt1, g1) := by rw [if_pos (Int32.not_le.mp h27), if_pos h28]; exact hq1
                            rw [hq1] at hM5 hgn hln ⊢
                            have hgn : g1.1 ≤ g.1 + 41 := hgn
                            have hln : R1.length ≤ R.length := hln
                            refine lv_istore (lv' := [(9, .int q1), (8, .int 1), (7, .int (h0 &&& 1)), (6, .int (mf_kind h0)), (5, .int (h0 >>> 4)), (0, .ref mo), (1, .int i), (2, .int h0), (3, .int p0), (4, .int q0)]) C.x C.b md_M_submit_161 hl (by decide) rfl (fun ls hl => ?_)
                            exact aft ls _ _ q1 R1 mt1 g1 hM5 (by omega) (by omega) hma hS (lv_sub hl [0, 2, 3, 4, 5, 6, 7, 8, 9] rfl)
                      · exact absurd (by decide) h23
                    · skip
                      refine lv_aload_n C.x C.b md_M_submit_115 rfl (lv_at hl 4 rfl) ?_
                      refine lv_iconst (v := 2) C.x C.b md_M_submit_116 (by decide) ?_
                      refine va_put (D := D) (ci := 4) (v := .int 2) (ty := .int) (C := mf_RM) (T := mf_TM) (N := 20) C.x C.b C.2.2.1 mi_M mf_tyM mp_M mn_M C.o C.k hP hD hS 0 rfl rfl 0 (by decide) (C.t mt_535) (fun _ h => h) rfl (by decide +kernel) rfl rfl (Nat.le_of_ble_eq_true rfl) md_M_submit_117 (fun H locs hP hD hS => ?_)
                      have hP : va_P D mf_cl [(mo, .inr (4, [.int 2, .int (nI R.length), .int ck, .ref (aa 0), .ref (aa 1), .ref (aa 2), .ref (aa 3), .ref (aa 4), .ref (aa 5), .ref (aa 6), .int (nI g.1), .ref (aa 7), .ref (aa 8), .ref (aa 9), .ref (aa 10), .int g.2.1, .long g.2.2.2.1, .int g.2.2.1, .int sp, .int mt])), (aa 0, .inl (k5.2.2.1, 40, .inl f0)), (aa 1, .inl (k5.2.2.1, 40, .inl f1)), (aa 2, .inl (k5.2.2.1, 40, .inl f2)), (aa 3, .inl (k5.2.2.1, 40, .inl f3)), (aa 4, .inl (k5.2.2.1, 40, .inl f4)), (aa 5, .inl (k5.2.2.1, 40, .inl f5)), (aa 6, .inl (k5.2.2.2.1, 40, .inl f6)), (aa 7, .inl (k5.2.2.1, 32, .inl f7)), (aa 8, .inl (k5.2.2.1, 32, .inl f8)), (aa 9, .inl (k5.2.2.1, 32, .inl f9)), (aa 10, .inl (k5.2.2.1, 32, .inl f10))] H := hP
                      have hD : va_D A [(mo, .inr (4, [.int 2, .int (nI R.length), .int ck, .ref (aa 0), .ref (aa 1), .ref (aa 2), .ref (aa 3), .ref (aa 4), .ref (aa 5), .ref (aa 6), .int (nI g.1), .ref (aa 7), .ref (aa 8), .ref (aa 9), .ref (aa 10), .int g.2.1, .long g.2.2.2.1, .int g.2.2.1, .int sp, .int mt])), (aa 0, .inl (k5.2.2.1, 40, .inl f0)), (aa 1, .inl (k5.2.2.1, 40, .inl f1)), (aa 2, .inl (k5.2.2.1, 40, .inl f2)), (aa 3, .inl (k5.2.2.1, 40, .inl f3)), (aa 4, .inl (k5.2.2.1, 40, .inl f4)), (aa 5, .inl (k5.2.2.1, 40, .inl f5)), (aa 6, .inl (k5.2.2.2.1, 40, .inl f6)), (aa 7, .inl (k5.2.2.1, 32, .inl f7)), (aa 8, .inl (k5.2.2.1, 32, .inl f8)), (aa 9, .inl (k5.2.2.1, 32, .inl f9)), (aa 10, .inl (k5.2.2.1, 32, .inl f10))] := hD
                      refine lv_aload_n C.x C.b md_M_submit_120 rfl (lv_at hl 4 rfl) ?_
                      refine mf_gf C (ci := 4) (N := 20) rfl mi_M 0 (by decide) mt_535 (hP 0 _ rfl) (v := .int 2) rfl md_M_submit_121 ?_
                      refine lv_if_le (tgt := 129) C.x C.b md_M_submit_124 (by decide) (fun h29 => ?_) (fun h29 => ?_)
                      · exact absurd h29 (by decide)
                      · skip
                        refine lv_iconst (v := 0) C.x C.b md_M_submit_127 (by decide) ?_
                        have hsp : rf_submit i h0 p0 q0 (R, ck, sp, mt, g) = ((2, 0), R, ck, sp, mt, g) := by unfold rf_submit; rw [if_pos hgd]; exact if_pos (by simp [show rf_refused (h0 >>> 4) (h0 &&& 1) (mf_kind h0) p0 q0 R = true from mf_bI_1.mp h22])
                        rw [hsp]
                        exact mf_wi C.x C.b hr hlk md_M_submit_128 ⟨f0, f1, f2, f3, f4, f5, f6, f7, f8, f9, f10, hP, hD, hle, hRF, hRG⟩ (by rw [← hH]; exact ⟨hS.1, hS.2.1⟩) hH hS.2.2 (Nat.le_refl _) (Nat.le_refl _)
              · rw [show mf_ix (some (k, x)) = nI k from rfl]
                have hq : R[k]? = some x := ((mf_pick_in _ _ R).2 k x hp).1
                have hkl := (List.getElem?_eq_some_iff.mp hq).1
                have hu := hRF k x hq
                refine lv_if_ge (tgt := 115) C.x C.b md_M_submit_87 (by decide) (fun h30 => ?_) (fun h30 => ?_)
                · skip
                  refine lv_aload_n C.x C.b md_M_submit_115 rfl (lv_at hl 4 rfl) ?_
                  refine lv_iconst (v := 2) C.x C.b md_M_submit_116 (by decide) ?_
                  refine va_put (D := D) (ci := 4) (v := .int 2) (ty := .int) (C := mf_RM) (T := mf_TM) (N := 20) C.x C.b C.2.2.1 mi_M mf_tyM mp_M mn_M C.o C.k hP hD hS 0 rfl rfl 0 (by decide) (C.t mt_535) (fun _ h => h) rfl (by decide +kernel) rfl rfl (Nat.le_of_ble_eq_true rfl) md_M_submit_117 (fun H locs hP hD hS => ?_)
                  have hP : va_P D mf_cl [(mo, .inr (4, [.int 2, .int (nI R.length), .int ck, .ref (aa 0), .ref (aa 1), .ref (aa 2), .ref (aa 3), .ref (aa 4), .ref (aa 5), .ref (aa 6), .int (nI g.1), .ref (aa 7), .ref (aa 8), .ref (aa 9), .ref (aa 10), .int g.2.1, .long g.2.2.2.1, .int g.2.2.1, .int sp, .int mt])), (aa 0, .inl (k5.2.2.1, 40, .inl f0)), (aa 1, .inl (k5.2.2.1, 40, .inl f1)), (aa 2, .inl (k5.2.2.1, 40, .inl f2)), (aa 3, .inl (k5.2.2.1, 40, .inl f3)), (aa 4, .inl (k5.2.2.1, 40, .inl f4)), (aa 5, .inl (k5.2.2.1, 40, .inl f5)), (aa 6, .inl (k5.2.2.2.1, 40, .inl f6)), (aa 7, .inl (k5.2.2.1, 32, .inl f7)), (aa 8, .inl (k5.2.2.1, 32, .inl f8)), (aa 9, .inl (k5.2.2.1, 32, .inl f9)), (aa 10, .inl (k5.2.2.1, 32, .inl f10))] H := hP
                  have hD : va_D A [(mo, .inr (4, [.int 2, .int (nI R.length), .int ck, .ref (aa 0), .ref (aa 1), .ref (aa 2), .ref (aa 3), .ref (aa 4), .ref (aa 5), .ref (aa 6), .int (nI g.1), .ref (aa 7), .ref (aa 8), .ref (aa 9), .ref (aa 10), .int g.2.1, .long g.2.2.2.1, .int g.2.2.1, .int sp, .int mt])), (aa 0, .inl (k5.2.2.1, 40, .inl f0)), (aa 1, .inl (k5.2.2.1, 40, .inl f1)), (aa 2, .inl (k5.2.2.1, 40, .inl f2)), (aa 3, .inl (k5.2.2.1, 40, .inl f3)), (aa 4, .inl (k5.2.2.1, 40, .inl f4)), (aa 5, .inl (k5.2.2.1, 40, .inl f5)), (aa 6, .inl (k5.2.2.2.1, 40, .inl f6)), (aa 7, .inl (k5.2.2.1, 32, .inl f7)), (aa 8, .inl (k5.2.2.1, 32, .inl f8)), (aa 9, .inl (k5.2.2.1, 32, .inl f9)), (aa 10, .inl (k5.2.2.1, 32, .inl f10))] := hD
                  refine lv_aload_n C.x C.b md_M_submit_120 rfl (lv_at hl 4 rfl) ?_
                  refine mf_gf C (ci := 4) (N := 20) rfl mi_M 0 (by decide) mt_535 (hP 0 _ rfl) (v := .int 2) rfl md_M_submit_121 ?_
                  refine lv_if_le (tgt := 129) C.x C.b md_M_submit_124 (by decide) (fun h31 => ?_) (fun h31 => ?_)
                  · exact absurd h31 (by decide)
                  · skip
                    refine lv_iconst (v := 0) C.x C.b md_M_submit_127 (by decide) ?_
                    have hsp : rf_submit i h0 p0 q0 (R, ck, sp, mt, g) = ((2, 0), R, ck, sp, mt, g) := by unfold rf_submit; rw [if_pos hgd]; exact if_pos (by simp [hp])
                    rw [hsp]
                    exact mf_wi C.x C.b hr hlk md_M_submit_128 ⟨f0, f1, f2, f3, f4, f5, f6, f7, f8, f9, f10, hP, hD, hle, hRF, hRG⟩ (by rw [← hH]; exact ⟨hS.1, hS.2.1⟩) hH hS.2.2 (Nat.le_refl _) (Nat.le_refl _)
                · exact absurd (Int32.not_lt.mp (nI_pos (by omega))) h30
          · exact absurd h17 (by decide)
