/-! MatchFloor: methods of the document that read -/
theorem mf_toutN {x : Int32} {n : Nat} (hn : n < 2 ^ 31) (h : ∀ k, k ≤ n → x ≠ nI k) : x.toInt < 0 ∨ (n : Int) < x.toInt := by
  rcases Int.lt_or_le x.toInt 0 with q | q
  · exact Or.inl q
  · right
    rcases Int.lt_or_le (n : Int) x.toInt with z | z
    · exact z
    · exact absurd (Int32.toInt_inj.mp (by rw [nI_toInt (by omega)]; omega)) (h x.toInt.toNat (by omega))
theorem mf_tout3 {x : Int32} (h0 : ¬ x = 0) (h1 : ¬ x = 1) (h2 : ¬ x = 2) (h3 : ¬ x = 3) : x.toInt < 0 ∨ (3 : Int) < x.toInt := mf_toutN (n := 3) (by decide) (fun k hk => match k, hk with
  | 0, _ => h0 | 1, _ => h1 | 2, _ => h2 | 3, _ => h3)
theorem mf_tout4 {x : Int32} (h0 : ¬ x = 0) (h1 : ¬ x = 1) (h2 : ¬ x = 2) (h3 : ¬ x = 3) (h4 : ¬ x = 4) : x.toInt < 0 ∨ (4 : Int) < x.toInt := mf_toutN (n := 4) (by decide) (fun k hk => match k, hk with
  | 0, _ => h0 | 1, _ => h1 | 2, _ => h2 | 3, _ => h3 | 4, _ => h4)
theorem mf_nI_of {x : Int32} {n : Nat} (h0 : 0 ≤ x) (h1 : x ≤ nI n) (hn : n < 2 ^ 31) : ∃ k, k ≤ n ∧ x = nI k := by
  have e0 : (0 : Int) ≤ x.toInt := Int32.le_iff_toInt_le.mp h0
  have e1 := Int32.le_iff_toInt_le.mp h1
  rw [nI_toInt hn] at e1
  exact ⟨x.toInt.toNat, by omega, Int32.toInt_inj.mp (by rw [nI_toInt (by omega)]; omega)⟩
set_option maxRecDepth 100000 in
set_option maxHeartbeats 4000000 in
theorem k_F_levels (l : Launch) (D : va_G) (k5 : mf_k5) (t0 : Nat × Nat) (A : Nat → Prop) (H : Heap) (hlt : l.stackTraces = false) (x al tp : Nat) (s0 : Int32) (L : List mf_O) (due met : Int32) (g : mf_G) (hM : mf_SS D k5 t0 A H x al tp (L, due, met, g)) (hpr : ∀ r ∈ L, mf_pr r ≠ 0) : mf_cX l my_F_levels mc_F_levels 2 (some .int) { frames := 6, cells := 1, slots := 6, locals := 114 } D (mf_tys k5) t0 A H [.ref x, .int s0] ((mf_levels s0 (L, due, met, g)).1 = 0) (some (.int (mf_levels s0 (L, due, met, g)).2)) (fun H1 => mf_SS D k5 t0 A H1 x al tp (L, due, met, g)) (mf_fr A H []) (fun E => ((mf_levels s0 (L, due, met, g)).1 = 1 ∧ E = "java/lang/IllegalArgumentException")) 1 6 := by
  obtain ⟨ks, hL, hC, hT⟩ := id hM
  have hL : mf_L ks = L := hL
  have hC : mf_CL D k5 t0 A H x al tp due met ks := hC
  have hT : mf_TP D k5 A H tp g := hT
  obtain ⟨hx, hAx, hAL, hks, hnd⟩ := id hC
  obtain ⟨ed, mc, hal, hA1, hle, hor⟩ := id hAL
  rw [List.length_map] at hle
  subst hL
  obtain ⟨rw, rr, rf, rx, htp, hA3, hrest⟩ := id hT
  refine mf_ofX (by decide) (Nat.le_of_ble_eq_true rfl) ?_
  intro p e s m below meth c ls C hH hr hlk hnm hmt hl hS hex
  have hl : lv_has ls 2 [(0, .ref x), (1, .int s0)] := hl
  refine lv_iload_n C.x C.b md_F_levels_0 rfl (lv_at hl 1 rfl) ?_
  refine mf_cks (va_runS (As := [.int s0]) (rest := []) C.f (k_F_isSide l D k5 t0 A H s0) (mf_cS C mt_442 mt_440 mt_1 mt_441 mh_F_isSide ⟨by decide, by decide⟩) (mf_preS C.ev hS) rfl rfl hl.1 rfl (lv_room (Nat.le_of_ble_eq_true rfl)) md_F_levels_1 ⟨by first | omega | exact Nat.le_of_ble_eq_true rfl, by first | omega | exact Nat.le_of_ble_eq_true rfl⟩) ?_
  refine lv_if_ne (tgt := 17) C.x C.b md_F_levels_4 (by decide) (fun h1 => ?_) (fun h1 => ?_)
  · skip
    refine lv_aload_n C.x C.b md_F_levels_17 rfl (lv_at hl 0 rfl) ?_
    refine lv_iload_n C.x C.b md_F_levels_18 rfl (lv_at hl 1 rfl) ?_
    refine mf_cks (va_runV (As := [.int s0]) (rest := []) C.f (k_F_countLevels l D k5 t0 A H x al tp due met ks s0 hC hpr) (mf_cV C mt_447 mt_444 mt_1 mt_446 ms_18 mh_F_countLevels ⟨by decide, by decide⟩) (mf_preV C.ev hS (mf_rv C (ci := 3) (N := 4) rfl hx)) rfl rfl hl.1 rfl (lv_room (Nat.le_of_ble_eq_true rfl)) md_F_levels_19 ⟨by first | omega | exact Nat.le_of_ble_eq_true rfl, by first | omega | exact Nat.le_of_ble_eq_true rfl⟩) ?_
    have hsp : mf_levels s0 (mf_L ks, due, met, g) = (0, (nI (mf_lv (fun b => mf_next s0 b (mf_L ks)) 40 (mf_next s0 0 (mf_L ks)) 0))) := by simp [mf_levels, of_decide_eq_true (mf_bI_1.mp h1)]
    rw [hsp]
    exact mf_xi rfl C.x C.b hr hlk md_F_levels_22 hM mf_Eq.rf hH (fun q h => by cases h) (by decide) (by decide)
  · skip
    have hsp : mf_levels s0 (mf_L ks, due, met, g) = (1, 0) := by simp [mf_levels, of_decide_eq_false (mf_bI_0.mp h1)]
    rw [hsp]
    exact mf_thrI C hlt ⟨rfl, rfl⟩ (List.mem_of_getElem? (i := 7) rfl) hS (fun q hq => by rw [hH]) hl.1 md_F_levels_7 md_F_levels_10 md_F_levels_11 md_F_levels_13 md_F_levels_16 hex (by decide) (by decide) (by decide) (by decide) hlk (by decide) (by decide)
set_option maxRecDepth 100000 in
set_option maxHeartbeats 4000000 in
theorem k_F_figure (l : Launch) (D : va_G) (k5 : mf_k5) (t0 : Nat × Nat) (A : Nat → Prop) (H : Heap) (hlt : l.stackTraces = false) (x al tp : Nat) (k0 : Int32) (L : List mf_O) (due met : Int32) (g : mf_G) (hM : mf_SS D k5 t0 A H x al tp (L, due, met, g)) : mf_cX l my_F_figure mc_F_figure 2 (some .int) { frames := 6, cells := 1, slots := 6, locals := 90 } D (mf_tys k5) t0 A H [.ref x, .int k0] ((mf_figure k0 (L, due, met, g)).1 = 0) (some (.int (mf_figure k0 (L, due, met, g)).2)) (fun H1 => mf_SS D k5 t0 A H1 x al tp (L, due, met, g)) (mf_fr A H []) (fun E => ((mf_figure k0 (L, due, met, g)).1 = 1 ∧ E = "java/lang/IllegalArgumentException")) 1 6 := by
  obtain ⟨ks, hL, hC, hT⟩ := id hM
  have hL : mf_L ks = L := hL
  have hC : mf_CL D k5 t0 A H x al tp due met ks := hC
  have hT : mf_TP D k5 A H tp g := hT
  obtain ⟨hx, hAx, hAL, hks, hnd⟩ := id hC
  obtain ⟨ed, mc, hal, hA1, hle, hor⟩ := id hAL
  rw [List.length_map] at hle
  subst hL
  obtain ⟨rw, rr, rf, rx, htp, hA3, hrest⟩ := id hT
  refine mf_ofX (by decide) (Nat.le_of_ble_eq_true rfl) ?_
  intro p e s m below meth c ls C hH hr hlk hnm hmt hl hS hex
  have hl : lv_has ls 2 [(0, .ref x), (1, .int k0)] := hl
  refine lv_iload_n C.x C.b md_F_figure_0 rfl (lv_at hl 1 rfl) ?_
  by_cases hk0 : k0 = 0
  · refine lv_tableIn (tgt := 36) C.x C.b md_F_figure_1 (by rw [hk0]; decide) (by rw [hk0]; decide) (by rw [hk0]; rfl) (by decide) ?_
    refine lv_aload_n C.x C.b md_F_figure_36 rfl (lv_at hl 0 rfl) ?_
    refine mf_gf C (ci := 3) (N := 4) rfl mi_F 0 (by decide) mt_84 hx (v := .ref al) rfl md_F_figure_37 ?_
    refine mf_cks (va_runV (As := []) (rest := []) C.f (k_A_size l D k5 t0 A H al _ hAL) (mf_cV C mt_205 mt_202 mt_4 mt_203 mt_204 mh_A_size ⟨by decide, by decide⟩) (mf_preV C.ev hS (mf_rv C (ci := 0) (N := 3) rfl hal)) rfl rfl hl.1 rfl (lv_room (Nat.le_of_ble_eq_true rfl)) md_F_figure_40 ⟨by first | omega | exact Nat.le_of_ble_eq_true rfl, by first | omega | exact Nat.le_of_ble_eq_true rfl⟩) ?_
    rw [List.length_map]
    have hsp : mf_figure k0 (mf_L ks, due, met, g) = (0, (nI ks.length)) := by simp [mf_figure, hk0]
    rw [hsp]
    exact mf_xi rfl C.x C.b hr hlk md_F_figure_43 hM mf_Eq.rf hH (fun q h => by cases h) (by decide) (by decide)
  by_cases hk1 : k0 = 1
  · refine lv_tableIn (tgt := 44) C.x C.b md_F_figure_1 (by rw [hk1]; decide) (by rw [hk1]; decide) (by rw [hk1]; rfl) (by decide) ?_
    refine lv_aload_n C.x C.b md_F_figure_44 rfl (lv_at hl 0 rfl) ?_
    refine mf_cks (va_runV (As := []) (rest := []) C.f (k_F_countWaiting l D k5 t0 A H x al tp due met ks hC) (mf_cV C mt_527 mt_524 mt_1 mt_526 ms_26 mh_F_countWaiting ⟨by decide, by decide⟩) (mf_preV C.ev hS (mf_rv C (ci := 3) (N := 4) rfl hx)) rfl rfl hl.1 rfl (lv_room (Nat.le_of_ble_eq_true rfl)) md_F_figure_45 ⟨by first | omega | exact Nat.le_of_ble_eq_true rfl, by first | omega | exact Nat.le_of_ble_eq_true rfl⟩) ?_
    have hsp : mf_figure k0 (mf_L ks, due, met, g) = (0, (mf_sum (fun r => if mf_wt r = 0 then 0 else 1) (mf_L ks))) := by simp [mf_figure, hk0, hk1]
    rw [hsp]
    exact mf_xi rfl C.x C.b hr hlk md_F_figure_48 hM mf_Eq.rf hH (fun q h => by cases h) (by decide) (by decide)
  by_cases hk2 : k0 = 2
  · refine lv_tableIn (tgt := 49) C.x C.b md_F_figure_1 (by rw [hk2]; decide) (by rw [hk2]; decide) (by rw [hk2]; rfl) (by decide) ?_
    refine lv_aload_n C.x C.b md_F_figure_49 rfl (lv_at hl 0 rfl) ?_
    refine mf_gf C (ci := 3) (N := 4) rfl mi_F 2 (by decide) mt_86 hx (v := .int due) rfl md_F_figure_50 ?_
    have hsp : mf_figure k0 (mf_L ks, due, met, g) = (0, due) := by simp [mf_figure, hk0, hk1, hk2]
    rw [hsp]
    exact mf_xi rfl C.x C.b hr hlk md_F_figure_53 hM mf_Eq.rf hH (fun q h => by cases h) (by decide) (by decide)
  by_cases hk3 : k0 = 3
  · refine lv_tableIn (tgt := 54) C.x C.b md_F_figure_1 (by rw [hk3]; decide) (by rw [hk3]; decide) (by rw [hk3]; rfl) (by decide) ?_
    refine lv_aload_n C.x C.b md_F_figure_54 rfl (lv_at hl 0 rfl) ?_
    refine mf_gf C (ci := 3) (N := 4) rfl mi_F 3 (by decide) mt_87 hx (v := .int met) rfl md_F_figure_55 ?_
    have hsp : mf_figure k0 (mf_L ks, due, met, g) = (0, met) := by simp [mf_figure, hk0, hk1, hk2, hk3]
    rw [hsp]
    exact mf_xi rfl C.x C.b hr hlk md_F_figure_58 hM mf_Eq.rf hH (fun q h => by cases h) (by decide) (by decide)
  by_cases hk4 : k0 = 4
  · refine lv_tableIn (tgt := 59) C.x C.b md_F_figure_1 (by rw [hk4]; decide) (by rw [hk4]; decide) (by rw [hk4]; rfl) (by decide) ?_
    refine lv_aload_n C.x C.b md_F_figure_59 rfl (lv_at hl 0 rfl) ?_
    refine mf_gf C (ci := 3) (N := 4) rfl mi_F 1 (by decide) mt_85 hx (v := .ref tp) rfl md_F_figure_60 ?_
    refine mf_gfN C (ci := 2) (N := 5) rfl mi_T 3 (by decide) (C.ev.2.1.1 (157, "MatchFloor$Tape", "quantity", "I") (List.mem_of_getElem? (i := 2) rfl)) htp (v := .int g.2.2.1) rfl md_F_figure_63 ?_
    have hsp : mf_figure k0 (mf_L ks, due, met, g) = (0, g.2.2.1) := by simp [mf_figure, hk0, hk1, hk2, hk3, hk4]
    rw [hsp]
    exact mf_xi rfl C.x C.b hr hlk md_F_figure_66 hM mf_Eq.rf hH (fun q h => by cases h) (by decide) (by decide)
  refine lv_tableOut (tgt := 67) C.x C.b md_F_figure_1 (mf_tout4 hk0 hk1 hk2 hk3 hk4) (by decide) ?_
  have hsp : mf_figure k0 (mf_L ks, due, met, g) = (1, 0) := by simp [mf_figure, hk0, hk1, hk2, hk3, hk4]
  rw [hsp]
  exact mf_thrI C hlt ⟨rfl, rfl⟩ (List.mem_of_getElem? (i := 12) rfl) hS (fun q hq => by rw [hH]) hl.1 md_F_figure_67 md_F_figure_70 md_F_figure_71 md_F_figure_73 md_F_figure_76 hex (by decide) (by decide) (by decide) (by decide) hlk (by decide) (by decide)
