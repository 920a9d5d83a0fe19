/-! the model: its public methods -/
set_option maxRecDepth 100000 in
set_option maxHeartbeats 4000000 in
theorem k_M_fills (l : Launch) (D : va_G) (k5 : mf_k5) (t0 : Nat × Nat) (A : Nat → Prop) (H : Heap) (mo : Nat) (aa : Nat → Nat) (cd ck sp mt : Int32) (R : List mf_T) (g : mf_G) (hM : mf_MD D k5 A H mo aa cd (R, ck, sp, mt, g)) : mf_cWR l my_M_fills mc_M_fills 1 (some .int) { frames := 0, cells := 0, slots := 0, locals := 0 } D (mf_tys k5) t0 A H [.ref mo] (some (.int (nI g.1))) (fun H1 => mf_MD D k5 A H1 mo aa 0 (R, ck, sp, mt, g)) (A) 0 0 := by
  obtain ⟨f0, f1, f2, f3, f4, f5, f6, f7, f8, f9, f10, hP, hD, hle, hRF, hRG⟩ := id hM
  have hP : va_P D mf_cl [(mo, .inr (4, [.int cd, .int (nI R.length), .int ck, .ref (aa 0), .ref (aa 1), .ref (aa 2), .ref (aa 3), .ref (aa 4), .ref (aa 5), .ref (aa 6), .int (nI g.1), .ref (aa 7), .ref (aa 8), .ref (aa 9), .ref (aa 10), .int g.2.1, .long g.2.2.2.1, .int g.2.2.1, .int sp, .int mt])), (aa 0, .inl (k5.2.2.1, 40, .inl f0)), (aa 1, .inl (k5.2.2.1, 40, .inl f1)), (aa 2, .inl (k5.2.2.1, 40, .inl f2)), (aa 3, .inl (k5.2.2.1, 40, .inl f3)), (aa 4, .inl (k5.2.2.1, 40, .inl f4)), (aa 5, .inl (k5.2.2.1, 40, .inl f5)), (aa 6, .inl (k5.2.2.2.1, 40, .inl f6)), (aa 7, .inl (k5.2.2.1, 32, .inl f7)), (aa 8, .inl (k5.2.2.1, 32, .inl f8)), (aa 9, .inl (k5.2.2.1, 32, .inl f9)), (aa 10, .inl (k5.2.2.1, 32, .inl f10))] H := hP
  have hle : R.length ≤ 40 := hle
  have hD : va_D A [(mo, .inr (4, [.int cd, .int (nI R.length), .int ck, .ref (aa 0), .ref (aa 1), .ref (aa 2), .ref (aa 3), .ref (aa 4), .ref (aa 5), .ref (aa 6), .int (nI g.1), .ref (aa 7), .ref (aa 8), .ref (aa 9), .ref (aa 10), .int g.2.1, .long g.2.2.2.1, .int g.2.2.1, .int sp, .int mt])), (aa 0, .inl (k5.2.2.1, 40, .inl f0)), (aa 1, .inl (k5.2.2.1, 40, .inl f1)), (aa 2, .inl (k5.2.2.1, 40, .inl f2)), (aa 3, .inl (k5.2.2.1, 40, .inl f3)), (aa 4, .inl (k5.2.2.1, 40, .inl f4)), (aa 5, .inl (k5.2.2.1, 40, .inl f5)), (aa 6, .inl (k5.2.2.2.1, 40, .inl f6)), (aa 7, .inl (k5.2.2.1, 32, .inl f7)), (aa 8, .inl (k5.2.2.1, 32, .inl f8)), (aa 9, .inl (k5.2.2.1, 32, .inl f9)), (aa 10, .inl (k5.2.2.1, 32, .inl f10))] := hD
  refine mf_of (by decide) (Nat.le_of_ble_eq_true rfl) ?_
  intro p e s m below meth c ls C hH hr hlk hnm hmt hl hS
  have hl : lv_has ls 1 [(0, .ref mo)] := hl
  refine lv_aload_n C.x C.b md_M_fills_0 rfl (lv_at hl 0 rfl) ?_
  refine lv_iconst (v := 0) C.x C.b md_M_fills_1 (by decide) ?_
  refine va_put (D := D) (ci := 4) (v := .int 0) (ty := .int) (C := mf_RM) (T := mf_TM) (N := 20) C.x C.b C.2.2.1 mi_M mf_tyM mp_M mn_M C.o C.k hP hD hS 0 rfl rfl 0 (by decide) (C.t mt_535) (fun _ h => h) rfl (by decide +kernel) rfl rfl (Nat.le_of_ble_eq_true rfl) md_M_fills_2 (fun H locs hP hD hS => ?_)
  have hP : va_P D mf_cl [(mo, .inr (4, [.int 0, .int (nI R.length), .int ck, .ref (aa 0), .ref (aa 1), .ref (aa 2), .ref (aa 3), .ref (aa 4), .ref (aa 5), .ref (aa 6), .int (nI g.1), .ref (aa 7), .ref (aa 8), .ref (aa 9), .ref (aa 10), .int g.2.1, .long g.2.2.2.1, .int g.2.2.1, .int sp, .int mt])), (aa 0, .inl (k5.2.2.1, 40, .inl f0)), (aa 1, .inl (k5.2.2.1, 40, .inl f1)), (aa 2, .inl (k5.2.2.1, 40, .inl f2)), (aa 3, .inl (k5.2.2.1, 40, .inl f3)), (aa 4, .inl (k5.2.2.1, 40, .inl f4)), (aa 5, .inl (k5.2.2.1, 40, .inl f5)), (aa 6, .inl (k5.2.2.2.1, 40, .inl f6)), (aa 7, .inl (k5.2.2.1, 32, .inl f7)), (aa 8, .inl (k5.2.2.1, 32, .inl f8)), (aa 9, .inl (k5.2.2.1, 32, .inl f9)), (aa 10, .inl (k5.2.2.1, 32, .inl f10))] H := hP
  have hD : va_D A [(mo, .inr (4, [.int 0, .int (nI R.length), .int ck, .ref (aa 0), .ref (aa 1), .ref (aa 2), .ref (aa 3), .ref (aa 4), .ref (aa 5), .ref (aa 6), .int (nI g.1), .ref (aa 7), .ref (aa 8), .ref (aa 9), .ref (aa 10), .int g.2.1, .long g.2.2.2.1, .int g.2.2.1, .int sp, .int mt])), (aa 0, .inl (k5.2.2.1, 40, .inl f0)), (aa 1, .inl (k5.2.2.1, 40, .inl f1)), (aa 2, .inl (k5.2.2.1, 40, .inl f2)), (aa 3, .inl (k5.2.2.1, 40, .inl f3)), (aa 4, .inl (k5.2.2.1, 40, .inl f4)), (aa 5, .inl (k5.2.2.1, 40, .inl f5)), (aa 6, .inl (k5.2.2.2.1, 40, .inl f6)), (aa 7, .inl (k5.2.2.1, 32, .inl f7)), (aa 8, .inl (k5.2.2.1, 32, .inl f8)), (aa 9, .inl (k5.2.2.1, 32, .inl f9)), (aa 10, .inl (k5.2.2.1, 32, .inl f10))] := hD
  refine lv_aload_n C.x C.b md_M_fills_5 rfl (lv_at hl 0 rfl) ?_
  refine mf_gf C (ci := 4) (N := 20) rfl mi_M 10 (by decide) mt_545 (hP 0 _ rfl) (v := .int (nI g.1)) rfl md_M_fills_6 ?_
  exact mf_wi C.x C.b hr hlk md_M_fills_9 ⟨f0, f1, f2, f3, f4, f5, f6, f7, f8, f9, f10, hP, hD, hle, hRF, hRG⟩ (by rw [← hH]; exact ⟨hS.1, hS.2.1⟩) hH hS.2.2 (Nat.le_refl _) (Nat.le_refl _)
set_option maxRecDepth 100000 in
set_option maxHeartbeats 4000000 in
theorem k_M_last (l : Launch) (D : va_G) (k5 : mf_k5) (t0 : Nat × Nat) (A : Nat → Prop) (H : Heap) (mo : Nat) (aa : Nat → Nat) (cd ck sp mt : Int32) (R : List mf_T) (g : mf_G) (hM : mf_MD D k5 A H mo aa cd (R, ck, sp, mt, g)) : mf_cWR l my_M_last mc_M_last 1 (some .int) { frames := 0, cells := 0, slots := 0, locals := 0 } D (mf_tys k5) t0 A H [.ref mo] (some (.int g.2.1)) (fun H1 => mf_MD D k5 A H1 mo aa 0 (R, ck, sp, mt, g)) (A) 0 0 := by
  obtain ⟨f0, f1, f2, f3, f4, f5, f6, f7, f8, f9, f10, hP, hD, hle, hRF, hRG⟩ := id hM
  have hP : va_P D mf_cl [(mo, .inr (4, [.int cd, .int (nI R.length), .int ck, .ref (aa 0), .ref (aa 1), .ref (aa 2), .ref (aa 3), .ref (aa 4), .ref (aa 5), .ref (aa 6), .int (nI g.1), .ref (aa 7), .ref (aa 8), .ref (aa 9), .ref (aa 10), .int g.2.1, .long g.2.2.2.1, .int g.2.2.1, .int sp, .int mt])), (aa 0, .inl (k5.2.2.1, 40, .inl f0)), (aa 1, .inl (k5.2.2.1, 40, .inl f1)), (aa 2, .inl (k5.2.2.1, 40, .inl f2)), (aa 3, .inl (k5.2.2.1, 40, .inl f3)), (aa 4, .inl (k5.2.2.1, 40, .inl f4)), (aa 5, .inl (k5.2.2.1, 40, .inl f5)), (aa 6, .inl (k5.2.2.2.1, 40, .inl f6)), (aa 7, .inl (k5.2.2.1, 32, .inl f7)), (aa 8, .inl (k5.2.2.1, 32, .inl f8)), (aa 9, .inl (k5.2.2.1, 32, .inl f9)), (aa 10, .inl (k5.2.2.1, 32, .inl f10))] H := hP
  have hle : R.length ≤ 40 := hle
  have hD : va_D A [(mo, .inr (4, [.int cd, .int (nI R.length), .int ck, .ref (aa 0), .ref (aa 1), .ref (aa 2), .ref (aa 3), .ref (aa 4), .ref (aa 5), .ref (aa 6), .int (nI g.1), .ref (aa 7), .ref (aa 8), .ref (aa 9), .ref (aa 10), .int g.2.1, .long g.2.2.2.1, .int g.2.2.1, .int sp, .int mt])), (aa 0, .inl (k5.2.2.1, 40, .inl f0)), (aa 1, .inl (k5.2.2.1, 40, .inl f1)), (aa 2, .inl (k5.2.2.1, 40, .inl f2)), (aa 3, .inl (k5.2.2.1, 40, .inl f3)), (aa 4, .inl (k5.2.2.1, 40, .inl f4)), (aa 5, .inl (k5.2.2.1, 40, .inl f5)), (aa 6, .inl (k5.2.2.2.1, 40, .inl f6)), (aa 7, .inl (k5.2.2.1, 32, .inl f7)), (aa 8, .inl (k5.2.2.1, 32, .inl f8)), (aa 9, .inl (k5.2.2.1, 32, .inl f9)), (aa 10, .inl (k5.2.2.1, 32, .inl f10))] := hD
  refine mf_of (by decide) (Nat.le_of_ble_eq_true rfl) ?_
  intro p e s m below meth c ls C hH hr hlk hnm hmt hl hS
  have hl : lv_has ls 1 [(0, .ref mo)] := hl
  refine lv_aload_n C.x C.b md_M_last_0 rfl (lv_at hl 0 rfl) ?_
  refine lv_iconst (v := 0) C.x C.b md_M_last_1 (by decide) ?_
  refine va_put (D := D) (ci := 4) (v := .int 0) (ty := .int) (C := mf_RM) (T := mf_TM) (N := 20) C.x C.b C.2.2.1 mi_M mf_tyM mp_M mn_M C.o C.k hP hD hS 0 rfl rfl 0 (by decide) (C.t mt_535) (fun _ h => h) rfl (by decide +kernel) rfl rfl (Nat.le_of_ble_eq_true rfl) md_M_last_2 (fun H locs hP hD hS => ?_)
  have hP : va_P D mf_cl [(mo, .inr (4, [.int 0, .int (nI R.length), .int ck, .ref (aa 0), .ref (aa 1), .ref (aa 2), .ref (aa 3), .ref (aa 4), .ref (aa 5), .ref (aa 6), .int (nI g.1), .ref (aa 7), .ref (aa 8), .ref (aa 9), .ref (aa 10), .int g.2.1, .long g.2.2.2.1, .int g.2.2.1, .int sp, .int mt])), (aa 0, .inl (k5.2.2.1, 40, .inl f0)), (aa 1, .inl (k5.2.2.1, 40, .inl f1)), (aa 2, .inl (k5.2.2.1, 40, .inl f2)), (aa 3, .inl (k5.2.2.1, 40, .inl f3)), (aa 4, .inl (k5.2.2.1, 40, .inl f4)), (aa 5, .inl (k5.2.2.1, 40, .inl f5)), (aa 6, .inl (k5.2.2.2.1, 40, .inl f6)), (aa 7, .inl (k5.2.2.1, 32, .inl f7)), (aa 8, .inl (k5.2.2.1, 32, .inl f8)), (aa 9, .inl (k5.2.2.1, 32, .inl f9)), (aa 10, .inl (k5.2.2.1, 32, .inl f10))] H := hP
  have hD : va_D A [(mo, .inr (4, [.int 0, .int (nI R.length), .int ck, .ref (aa 0), .ref (aa 1), .ref (aa 2), .ref (aa 3), .ref (aa 4), .ref (aa 5), .ref (aa 6), .int (nI g.1), .ref (aa 7), .ref (aa 8), .ref (aa 9), .ref (aa 10), .int g.2.1, .long g.2.2.2.1, .int g.2.2.1, .int sp, .int mt])), (aa 0, .inl (k5.2.2.1, 40, .inl f0)), (aa 1, .inl (k5.2.2.1, 40, .inl f1)), (aa 2, .inl (k5.2.2.1, 40, .inl f2)), (aa 3, .inl (k5.2.2.1, 40, .inl f3)), (aa 4, .inl (k5.2.2.1, 40, .inl f4)), (aa 5, .inl (k5.2.2.1, 40, .inl f5)), (aa 6, .inl (k5.2.2.2.1, 40, .inl f6)), (aa 7, .inl (k5.2.2.1, 32, .inl f7)), (aa 8, .inl (k5.2.2.1, 32, .inl f8)), (aa 9, .inl (k5.2.2.1, 32, .inl f9)), (aa 10, .inl (k5.2.2.1, 32, .inl f10))] := hD
  refine lv_aload_n C.x C.b md_M_last_5 rfl (lv_at hl 0 rfl) ?_
  refine mf_gf C (ci := 4) (N := 20) rfl mi_M 15 (by decide) mt_550 (hP 0 _ rfl) (v := .int g.2.1) rfl md_M_last_6 ?_
  exact mf_wi C.x C.b hr hlk md_M_last_9 ⟨f0, f1, f2, f3, f4, f5, f6, f7, f8, f9, f10, hP, hD, hle, hRF, hRG⟩ (by rw [← hH]; exact ⟨hS.1, hS.2.1⟩) hH hS.2.2 (Nat.le_refl _) (Nat.le_refl _)
set_option maxRecDepth 100000 in
set_option maxHeartbeats 4000000 in
theorem k_M_cancel (l : Launch) (D : va_G) (k5 : mf_k5) (t0 : Nat × Nat) (A : Nat → Prop) (H : Heap) (mo : Nat) (aa : Nat → Nat) (cd ck sp mt : Int32) (R : List mf_T) (g : mf_G) (i : Int32) (hM : mf_MD D k5 A H mo aa cd (R, ck, sp, mt, g)) : mf_cWR l my_M_cancel mc_M_cancel 4 (some .int) { frames := 1, cells := 0, slots := 0, locals := 23 } D (mf_tys k5) t0 A H [.ref mo, .int i] (some (.int (rf_cancel i (R, ck, sp, mt, g)).1.2)) (fun H1 => mf_MD D k5 A H1 mo aa (nI (rf_cancel i (R, ck, sp, mt, g)).1.1) (rf_cancel i (R, ck, sp, mt, g)).2) (A) 0 0 := by
  obtain ⟨f0, f1, f2, f3, f4, f5, f6, f7, f8, f9, f10, hP, hD, hle, hRF, hRG⟩ := id hM
  have hP : va_P D mf_cl [(mo, .inr (4, [.int cd, .int (nI R.length), .int ck, .ref (aa 0), .ref (aa 1), .ref (aa 2), .ref (aa 3), .ref (aa 4), .ref (aa 5), .ref (aa 6), .int (nI g.1), .ref (aa 7), .ref (aa 8), .ref (aa 9), .ref (aa 10), .int g.2.1, .long g.2.2.2.1, .int g.2.2.1, .int sp, .int mt])), (aa 0, .inl (k5.2.2.1, 40, .inl f0)), (aa 1, .inl (k5.2.2.1, 40, .inl f1)), (aa 2, .inl (k5.2.2.1, 40, .inl f2)), (aa 3, .inl (k5.2.2.1, 40, .inl f3)), (aa 4, .inl (k5.2.2.1, 40, .inl f4)), (aa 5, .inl (k5.2.2.1, 40, .inl f5)), (aa 6, .inl (k5.2.2.2.1, 40, .inl f6)), (aa 7, .inl (k5.2.2.1, 32, .inl f7)), (aa 8, .inl (k5.2.2.1, 32, .inl f8)), (aa 9, .inl (k5.2.2.1, 32, .inl f9)), (aa 10, .inl (k5.2.2.1, 32, .inl f10))] H := hP
  have hle : R.length ≤ 40 := hle
  have hD : va_D A [(mo, .inr (4, [.int cd, .int (nI R.length), .int ck, .ref (aa 0), .ref (aa 1), .ref (aa 2), .ref (aa 3), .ref (aa 4), .ref (aa 5), .ref (aa 6), .int (nI g.1), .ref (aa 7), .ref (aa 8), .ref (aa 9), .ref (aa 10), .int g.2.1, .long g.2.2.2.1, .int g.2.2.1, .int sp, .int mt])), (aa 0, .inl (k5.2.2.1, 40, .inl f0)), (aa 1, .inl (k5.2.2.1, 40, .inl f1)), (aa 2, .inl (k5.2.2.1, 40, .inl f2)), (aa 3, .inl (k5.2.2.1, 40, .inl f3)), (aa 4, .inl (k5.2.2.1, 40, .inl f4)), (aa 5, .inl (k5.2.2.1, 40, .inl f5)), (aa 6, .inl (k5.2.2.2.1, 40, .inl f6)), (aa 7, .inl (k5.2.2.1, 32, .inl f7)), (aa 8, .inl (k5.2.2.1, 32, .inl f8)), (aa 9, .inl (k5.2.2.1, 32, .inl f9)), (aa 10, .inl (k5.2.2.1, 32, .inl f10))] := hD
  have hRF : mf_Rc R f0 f1 f2 f3 f4 f5 f6 := hRF
  have hRG : mf_Rg g f7 f8 f9 f10 := hRG
  refine mf_of (by decide) (Nat.le_of_ble_eq_true rfl) ?_
  intro p e s m below meth c ls C hH hr hlk hnm hmt hl hS
  have hl : lv_has ls 4 [(0, .ref mo), (1, .int i)] := hl
  refine lv_aload_n C.x C.b md_M_cancel_0 rfl (lv_at hl 0 rfl) ?_
  refine lv_iload_n C.x C.b md_M_cancel_1 rfl (lv_at hl 1 rfl) ?_
  refine mf_cks (va_runV (As := [.int i]) (rest := []) C.f (k_M_find l D k5 t0 A H mo aa cd ck sp mt R g i hM) (mf_cV C mt_612 mt_609 mt_6 mt_611 ms_27 mh_M_find ⟨by decide, by decide⟩) (mf_preV C.ev hS (mf_rv C (ci := 4) (N := 20) rfl (hP 0 _ rfl))) rfl rfl hl.1 rfl (lv_room (Nat.le_of_ble_eq_true rfl)) md_M_cancel_2 ⟨by first | omega | exact Nat.le_of_ble_eq_true rfl, by first | omega | exact Nat.le_of_ble_eq_true rfl⟩) ?_
  rcases hp : rf_find i R with _ | ⟨k, x⟩
  · rw [show mf_ix (none : Option (Nat × mf_T)) = -1 from rfl]
    refine lv_istore_n (lv' := [(2, .int (-1)), (0, .ref mo), (1, .int i)]) C.x C.b md_M_cancel_5 rfl hl (by decide) rfl (fun ls hl => ?_)
    refine lv_aload_n C.x C.b md_M_cancel_6 rfl (lv_at hl 1 rfl) ?_
    refine lv_iload_n C.x C.b md_M_cancel_7 rfl (lv_at hl 0 rfl) ?_
    refine lv_if_ge (tgt := 15) C.x C.b md_M_cancel_8 (by decide) (fun h1 => ?_) (fun h1 => ?_)
    · exact absurd h1 (by decide)
    · skip
      refine lv_iconst (v := 1) C.x C.b md_M_cancel_11 (by decide) ?_
      refine lv_goto (tgt := 16) C.x C.b md_M_cancel_12 (by decide) ?_
      refine va_put (D := D) (ci := 4) (v := .int 1) (ty := .int) (C := mf_RM) (T := mf_TM) (N := 20) C.x C.b C.2.2.1 mi_M mf_tyM mp_M mn_M C.o C.k hP hD hS 0 rfl rfl 0 (by decide) (C.t mt_535) (fun _ h => h) rfl (by decide +kernel) rfl rfl (Nat.le_of_ble_eq_true rfl) md_M_cancel_16 (fun H locs hP hD hS => ?_)
      have hP : va_P D mf_cl [(mo, .inr (4, [.int 1, .int (nI R.length), .int ck, .ref (aa 0), .ref (aa 1), .ref (aa 2), .ref (aa 3), .ref (aa 4), .ref (aa 5), .ref (aa 6), .int (nI g.1), .ref (aa 7), .ref (aa 8), .ref (aa 9), .ref (aa 10), .int g.2.1, .long g.2.2.2.1, .int g.2.2.1, .int sp, .int mt])), (aa 0, .inl (k5.2.2.1, 40, .inl f0)), (aa 1, .inl (k5.2.2.1, 40, .inl f1)), (aa 2, .inl (k5.2.2.1, 40, .inl f2)), (aa 3, .inl (k5.2.2.1, 40, .inl f3)), (aa 4, .inl (k5.2.2.1, 40, .inl f4)), (aa 5, .inl (k5.2.2.1, 40, .inl f5)), (aa 6, .inl (k5.2.2.2.1, 40, .inl f6)), (aa 7, .inl (k5.2.2.1, 32, .inl f7)), (aa 8, .inl (k5.2.2.1, 32, .inl f8)), (aa 9, .inl (k5.2.2.1, 32, .inl f9)), (aa 10, .inl (k5.2.2.1, 32, .inl f10))] H := hP
      have hD : va_D A [(mo, .inr (4, [.int 1, .int (nI R.length), .int ck, .ref (aa 0), .ref (aa 1), .ref (aa 2), .ref (aa 3), .ref (aa 4), .ref (aa 5), .ref (aa 6), .int (nI g.1), .ref (aa 7), .ref (aa 8), .ref (aa 9), .ref (aa 10), .int g.2.1, .long g.2.2.2.1, .int g.2.2.1, .int sp, .int mt])), (aa 0, .inl (k5.2.2.1, 40, .inl f0)), (aa 1, .inl (k5.2.2.1, 40, .inl f1)), (aa 2, .inl (k5.2.2.1, 40, .inl f2)), (aa 3, .inl (k5.2.2.1, 40, .inl f3)), (aa 4, .inl (k5.2.2.1, 40, .inl f4)), (aa 5, .inl (k5.2.2.1, 40, .inl f5)), (aa 6, .inl (k5.2.2.2.1, 40, .inl f6)), (aa 7, .inl (k5.2.2.1, 32, .inl f7)), (aa 8, .inl (k5.2.2.1, 32, .inl f8)), (aa 9, .inl (k5.2.2.1, 32, .inl f9)), (aa 10, .inl (k5.2.2.1, 32, .inl f10))] := hD
      refine lv_iload_n C.x C.b md_M_cancel_19 rfl (lv_at hl 0 rfl) ?_
      refine lv_if_ge (tgt := 25) C.x C.b md_M_cancel_20 (by decide) (fun h2 => ?_) (fun h2 => ?_)
      · exact absurd h2 (by decide)
      · skip
        refine lv_iconst (v := 0) C.x C.b md_M_cancel_23 (by decide) ?_
        have hsp : rf_cancel i (R, ck, sp, mt, g) = ((1, 0), R, ck, sp, mt, g) := by simp [rf_cancel, hp]
        rw [hsp]
        exact mf_wi C.x C.b hr hlk md_M_cancel_24 ⟨f0, f1, f2, f3, f4, f5, f6, f7, f8, f9, f10, hP, hD, hle, hRF, hRG⟩ (by rw [← hH]; exact ⟨hS.1, hS.2.1⟩) hH hS.2.2 (Nat.le_refl _) (Nat.le_refl _)
  · rw [show mf_ix (some (k, x)) = nI k from rfl]
    have hq : R[k]? = some x := ((mf_pick_in _ _ R).2 k x hp).1
    have hkl := (List.getElem?_eq_some_iff.mp hq).1
    have hu := hRF k x hq
    refine lv_istore_n (lv' := [(2, .int (nI k)), (0, .ref mo), (1, .int i)]) C.x C.b md_M_cancel_5 rfl hl (by decide) rfl (fun ls hl => ?_)
    refine lv_aload_n C.x C.b md_M_cancel_6 rfl (lv_at hl 1 rfl) ?_
    refine lv_iload_n C.x C.b md_M_cancel_7 rfl (lv_at hl 0 rfl) ?_
    refine lv_if_ge (tgt := 15) C.x C.b md_M_cancel_8 (by decide) (fun h3 => ?_) (fun h3 => ?_)
    · skip
      refine lv_iconst (v := 0) C.x C.b md_M_cancel_15 (by decide) ?_
      refine va_put (D := D) (ci := 4) (v := .int 0) (ty := .int) (C := mf_RM) (T := mf_TM) (N := 20) C.x C.b C.2.2.1 mi_M mf_tyM mp_M mn_M C.o C.k hP hD hS 0 rfl rfl 0 (by decide) (C.t mt_535) (fun _ h => h) rfl (by decide +kernel) rfl rfl (Nat.le_of_ble_eq_true rfl) md_M_cancel_16 (fun H locs hP hD hS => ?_)
      have hP : va_P D mf_cl [(mo, .inr (4, [.int 0, .int (nI R.length), .int ck, .ref (aa 0), .ref (aa 1), .ref (aa 2), .ref (aa 3), .ref (aa 4), .ref (aa 5), .ref (aa 6), .int (nI g.1), .ref (aa 7), .ref (aa 8), .ref (aa 9), .ref (aa 10), .int g.2.1, .long g.2.2.2.1, .int g.2.2.1, .int sp, .int mt])), (aa 0, .inl (k5.2.2.1, 40, .inl f0)), (aa 1, .inl (k5.2.2.1, 40, .inl f1)), (aa 2, .inl (k5.2.2.1, 40, .inl f2)), (aa 3, .inl (k5.2.2.1, 40, .inl f3)), (aa 4, .inl (k5.2.2.1, 40, .inl f4)), (aa 5, .inl (k5.2.2.1, 40, .inl f5)), (aa 6, .inl (k5.2.2.2.1, 40, .inl f6)), (aa 7, .inl (k5.2.2.1, 32, .inl f7)), (aa 8, .inl (k5.2.2.1, 32, .inl f8)), (aa 9, .inl (k5.2.2.1, 32, .inl f9)), (aa 10, .inl (k5.2.2.1, 32, .inl f10))] H := hP
      have hD : va_D A [(mo, .inr (4, [.int 0, .int (nI R.length), .int ck, .ref (aa 0), .ref (aa 1), .ref (aa 2), .ref (aa 3), .ref (aa 4), .ref (aa 5), .ref (aa 6), .int (nI g.1), .ref (aa 7), .ref (aa 8), .ref (aa 9), .ref (aa 10), .int g.2.1, .long g.2.2.2.1, .int g.2.2.1, .int sp, .int mt])), (aa 0, .inl (k5.2.2.1, 40, .inl f0)), (aa 1, .inl (k5.2.2.1, 40, .inl f1)), (aa 2, .inl (k5.2.2.1, 40, .inl f2)), (aa 3, .inl (k5.2.2.1, 40, .inl f3)), (aa 4, .inl (k5.2.2.1, 40, .inl f4)), (aa 5, .inl (k5.2.2.1, 40, .inl f5)), (aa 6, .inl (k5.2.2.2.1, 40, .inl f6)), (aa 7, .inl (k5.2.2.1, 32, .inl f7)), (aa 8, .inl (k5.2.2.1, 32, .inl f8)), (aa 9, .inl (k5.2.2.1, 32, .inl f9)), (aa 10, .inl (k5.2.2.1, 32, .inl f10))] := hD
      refine lv_iload_n C.x C.b md_M_cancel_19 rfl (lv_at hl 0 rfl) ?_
      refine lv_if_ge (tgt := 25) C.x C.b md_M_cancel_20 (by decide) (fun h4 => ?_) (fun h4 => ?_)
      · skip
        refine lv_aload_n C.x C.b md_M_cancel_25 rfl (lv_at hl 1 rfl) ?_
        refine mf_gf C (ci := 4) (N := 20) rfl mi_M 7 (by decide) mt_542 (hP 0 _ rfl) (v := .ref (aa 4)) rfl md_M_cancel_26 ?_
        refine lv_iload_n C.x C.b md_M_cancel_29 rfl (lv_at hl 0 rfl) ?_
        refine mf_iv C (t := 2) rfl (hP 5 _ rfl) (by omega) (by decide) hu.2.2.2.2.1 md_M_cancel_30 ?_
        refine lv_istore_n (lv' := [(3, .int (mf_lf x.1)), (2, .int (nI k)), (0, .ref mo), (1, .int i)]) C.x C.b md_M_cancel_31 rfl hl (by decide) rfl (fun ls hl => ?_)
        refine lv_aload_n C.x C.b md_M_cancel_32 rfl (lv_at hl 2 rfl) ?_
        refine lv_iload_n C.x C.b md_M_cancel_33 rfl (lv_at hl 1 rfl) ?_
        have hM1 : mf_MD D k5 A H mo aa 0 (R, ck, sp, mt, g) := ⟨f0, f1, f2, f3, f4, f5, f6, f7, f8, f9, f10, hP, hD, hle, hRF, hRG⟩
        refine mf_cwn (va_runV (As := [.int (nI k)]) (rest := []) C.f (k_M_drop l D k5 t0 A H mo aa 0 ck sp mt R g k x hM1 hq) (mf_cV C mt_640 mt_637 mt_6 mt_639 ms_34 mh_M_drop ⟨by decide, by decide⟩) (mf_preV C.ev hS (mf_rv C (ci := 4) (N := 20) rfl (hP 0 _ rfl))) rfl rfl hl.1 rfl (lv_room (Nat.le_of_ble_eq_true rfl)) md_M_cancel_34 ⟨by first | omega | exact Nat.le_of_ble_eq_true rfl, by first | omega | exact Nat.le_of_ble_eq_true rfl⟩) hS (fun _ _ h => h) (fun H locs hM3 hz3 hk3 hS => ?_)
        refine lv_iload_n C.x C.b md_M_cancel_37 rfl (lv_at hl 0 rfl) ?_
        have hsp : rf_cancel i (R, ck, sp, mt, g) = ((0, mf_lf x.1), rf_drop R k, ck, sp, mt, g) := by simp [rf_cancel, hp]
        rw [hsp]
        exact mf_wi C.x C.b hr hlk md_M_cancel_38 hM3 (by rw [← hH]; exact ⟨hS.1, hS.2.1⟩) hH hS.2.2 (Nat.le_refl _) (Nat.le_refl _)
      · exact absurd (Int32.not_lt.mp (nI_pos (by omega))) h4
    · exact absurd (Int32.not_lt.mp (nI_pos (by omega))) h3
