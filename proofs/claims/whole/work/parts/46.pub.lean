/-! MatchFloor: methods of the document that read -/
theorem mf_toutN {x : Int32} {n : Nat} (hn : n < 2 ^ 31) (h : ∀ k, k ≤ n → x ≠ nI k) : x.toInt < 0 ∨ (n : Int) < x.toInt := by
  rcases Int.lt_or_le x.toInt 0 with q | q
  · exact Or.inl q
  · right
    rcases Int.lt_or_le (n : Int) x.toInt with z | z
    · exact z
    · exact absurd (Int32.toInt_inj.mp (by rw [nI_toInt (by omega)]; omega)) (h x.toInt.toNat (by omega))
theorem mf_tout3 {x : Int32} (h0 : ¬ x = 0) (h1 : ¬ x = 1) (h2 : ¬ x = 2) (h3 : ¬ x = 3) : x.toInt < 0 ∨ (3 : Int) < x.toInt := mf_toutN (n := 3) (by decide) (fun k hk => match k, hk with
  | 0, _ => h0 | 1, _ => h1 | 2, _ => h2 | 3, _ => h3)
theorem mf_tout4 {x : Int32} (h0 : ¬ x = 0) (h1 : ¬ x = 1) (h2 : ¬ x = 2) (h3 : ¬ x = 3) (h4 : ¬ x = 4) : x.toInt < 0 ∨ (4 : Int) < x.toInt := mf_toutN (n := 4) (by decide) (fun k hk => match k, hk with
  | 0, _ => h0 | 1, _ => h1 | 2, _ => h2 | 3, _ => h3 | 4, _ => h4)
theorem mf_nI_of {x : Int32} {n : Nat} (h0 : 0 ≤ x) (h1 : x ≤ nI n) (hn : n < 2 ^ 31) : ∃ k, k ≤ n ∧ x = nI k := by
  have e0 : (0 : Int) ≤ x.toInt := Int32.le_iff_toInt_le.mp h0
  have e1 := Int32.le_iff_toInt_le.mp h1
  rw [nI_toInt hn] at e1
  exact ⟨x.toInt.toNat, by omega, Int32.toInt_inj.mp (by rw [nI_toInt (by omega)]; omega)⟩
set_option maxRecDepth 100000 in
set_option maxHeartbeats 4000000 in
theorem k_F_levels (l : Launch) (D : va_G) (k5 : mf_k5) (t0 : Nat × Nat) (A : Nat → Prop) (H : Heap) (hlt : l.stackTraces = false) (x al tp : Nat) (s0 : Int32) (L : List mf_O) (due met : Int32) (g : mf_G) (hM : mf_SS D k5 t0 A H x al tp (L, due, met, g)) (hpr : ∀ r ∈ L, mf_pr r ≠ 0) : mf_cX l my_F_levels mc_F_levels 2 (some .int) { frames := 6, cells := 1, slots := 6, locals := 114 } D (mf_tys k5) t0 A H [.ref x, .int s0] ((mf_levels s0 (L, due, met, g)).1 = 0) (some (.int (mf_levels s0 (L, due, met, g)).2)) (fun H1 => mf_SS D k5 t0 A H1 x al tp (L, due, met, g)) (mf_fr A H []) (fun E => ((mf_levels s0 (L, due, met, g)).1 = 1 ∧ E = "java/lang/IllegalArgumentException")) 1 6 := by
  obtain ⟨ks, hL, hC, hT⟩ := id hM
  have hL : mf_L ks = L := hL
  have hC : mf_CL D k5 t0 A H x al tp due met ks := hC
  have hT : mf_TP D k5 A H tp g := hT
  obtain ⟨hx, hAx, hAL, hks, hnd⟩ := id hC
  obtain ⟨ed, mc, hal, hA1, hle, hor⟩ := id hAL
  rw [List.length_map] at hle
  subst hL
  obtain ⟨rw, rr, rf, rx, htp, hA3, hrest⟩ := id hT
  refine mf_ofX (by decide) (Nat.le_of_ble_eq_true rfl) ?_
  intro p e s m below meth c ls C hH hr hlk hnm hmt hl hS hex
  have hl : lv_has ls 2 [(0, .ref x), (1, .int s0)] := hl
  refine lv_iload_n C.x C.b md_F_levels_0 rfl (lv_at hl 1 rfl) ?_
  refine mf_cks (va_runS (As := [.int s0]) (rest := []) C.f (k_F_isSide l D k5 t0 A H s0) (mf_cS C mt_442 mt_440 mt_1 mt_441 mh_F_isSide ⟨by decide, by decide⟩) (mf_preS C.ev hS) rfl rfl hl.1 rfl (lv_room (Nat.le_of_ble_eq_true rfl)) md_F_levels_1 ⟨by first | omega | exact Nat.le_of_ble_eq_true rfl, by first | omega | exact Nat.le_of_ble_eq_true rfl⟩) ?_
  refine lv_if_ne (tgt := 17) C.x C.b md_F_levels_4 (by decide) (fun h1 => ?_) (fun h1 => ?_)
  · skip
    refine lv_aload_n C.x C.b md_F_levels_17 rfl (lv_at hl 0 rfl) ?_
    refine lv_iload_n C.x C.b md_F_levels_18 rfl (lv_at hl 1 rfl) ?_
    refine mf_cks (va_runV (As := [.int s0]) (rest := []) C.f (k_F_countLevels l D k5 t0 A H x al tp due met ks s0 hC hpr) (mf_cV C mt_447 mt_444 mt_1 mt_446 ms_18 mh_F_countLevels ⟨by decide, by decide⟩) (mf_preV C.ev hS (mf_rv C (ci := 3) (N := 4) rfl hx)) rfl rfl hl.1 rfl (lv_room (Nat.le_of_ble_eq_true rfl)) md_F_levels_19 ⟨by first | omega | exact Nat.le_of_ble_eq_true rfl, by first | omega | exact Nat.le_of_ble_eq_true rfl⟩) ?_
    have hsp : mf_levels s0 (mf_L ks, due, met, g) = (0, (nI (mf_lv (fun b => mf_next s0 b (mf_L ks)) 40 (mf_next s0 0 (mf_L ks)) 0))) := by simp [mf_levels, of_decide_eq_true (mf_bI_1.mp h1)]
    rw [hsp]
    exact mf_xi rfl C.x C.b hr hlk md_F_levels_22 hM mf_Eq.rf hH (fun q h => by cases h) (by decide) (by decide)
  · skip
    have hsp : mf_levels s0 (mf_L ks, due, met, g) = (1, 0) := by simp [mf_levels, of_decide_eq_false (mf_bI_0.mp h1)]
    rw [hsp]
    exact mf_thrI C hlt ⟨rfl, rfl⟩ (List.mem_of_getElem? (i := 7) rfl) hS (fun q hq => by rw [hH]) hl.1 md_F_levels_7 md_F_levels_10 md_F_levels_11 md_F_levels_13 md_F_levels_16 hex (by decide) (by decide) (by decide) (by decide) hlk (by decide) (by decide)
set_option maxRecDepth 100000 in
set_option maxHeartbeats 4000000 in
theorem k_F_figure (l : Launch) (D : va_G) (k5 : mf_k5) (t0 : Nat × Nat) (A : Nat → Prop) (H : Heap) (hlt : l.stackTraces = false) (x al tp : Nat) (k0 : Int32) (L : List mf_O) (due met : Int32) (g : mf_G) (hM : mf_SS D k5 t0 A H x al tp (L, due, met, g)) : mf_cX l my_F_figure mc_F_figure 2 (some .int) { frames := 6, cells := 1, slots := 6, locals := 90 } D (mf_tys k5) t0 A H [.ref x, .int k0] ((mf_figure k0 (L, due, met, g)).1 = 0) (some (.int (mf_figure k0 (L, due, met, g)).2)) (fun H1 => mf_SS D k5 t0 A H1 x al tp (L, due, met, g)) (mf_fr A H []) (fun E => ((mf_figure k0 (L, due, met, g)).1 = 1 ∧ E = "java/lang/IllegalArgumentException")) 1 6 := by
  obtain ⟨ks, hL, hC, hT⟩ := id hM
  have hL : mf_L ks = L := hL
  have hC : mf_CL D k5 t0 A H x al tp due met ks := hC
  have hT : mf_TP D k5 A H tp g := hT
  obtain ⟨hx, hAx, hAL, hks, hnd⟩ := id hC
  obtain ⟨ed, mc, hal, hA1, hle, hor⟩ := id hAL
  rw [List.length_map] at hle
  subst hL
  obtain ⟨rw, rr, rf, rx, htp, hA3, hrest⟩ := id hT
  refine mf_ofX (by decide) (Nat.le_of_ble_eq_true rfl) ?_
  intro p e s m below meth c ls C hH hr hlk hnm hmt hl hS hex
  have hl : lv_has ls 2 [(0, .ref x), (1, .int k0)] := hl
  refine lv_iload_n C.x C.b md_F_figure_0 rfl (lv_at hl 1 rfl) ?_
  by_cases hk0 : k0 = 0
  · refine lv_tableIn (tgt := 36) C.x C.b md_F_figure_1 (by rw [hk0]; decide) (by rw [hk0]; decide) (by rw [hk0]; rfl) (by decide) ?_
    refine lv_aload_n C.x C.b md_F_figure_36 rfl (lv_at hl 0 rfl) ?_
    refine mf_gf C (ci := 3) (N := 4) rfl mi_F 0 (by decide) mt_84 hx (v := .ref al) rfl md_F_figure_37 ?_
    refine mf_cks (va_runV (As := []) (rest := []) C.f (k_A_size l D k5 t0 A H al _ hAL) (mf_cV C mt_205 mt_202 mt_4 mt_203 mt_204 mh_A_size ⟨by decide, by decide⟩) (mf_preV C.ev hS (mf_rv C (ci := 0) (N := 3) rfl hal)) rfl rfl hl.1 rfl (lv_room (Nat.le_of_ble_eq_true rfl)) md_F_figure_40 ⟨by first | omega | exact Nat.le_of_ble_eq_true rfl, by first | omega | exact Nat.le_of_ble_eq_true rfl⟩) ?_
    rw [List.length_map]
    have hsp : mf_figure k0 (mf_L ks, due, met, g) = (0, (nI ks.length)) := by simp [mf_figure, hk0]
    rw [hsp]
    exact mf_xi rfl C.x C.b hr hlk md_F_figure_43 hM mf_Eq.rf hH (fun q h => by cases h) (by decide) (by decide)
  by_cases hk1 : k0 = 1
  · refine lv_tableIn (tgt := 44) C.x C.b md_F_figure_1 (by rw [hk1]; decide) (by rw [hk1]; decide) (by rw [hk1]; rfl) (by decide) ?_
    refine lv_aload_n C.x C.b md_F_figure_44 rfl (lv_at hl 0 rfl) ?_
    refine mf_cks (va_runV (As := []) (rest := []) C.f (k_F_countWaiting l D k5 t0 A H x al tp due met ks hC) (mf_cV C mt_527 mt_524 mt_1 mt_526 ms_26 mh_F_countWaiting ⟨by decide, by decide⟩) (mf_preV C.ev hS (mf_rv C (ci := 3) (N := 4) rfl hx)) rfl rfl hl.1 rfl (lv_room (Nat.le_of_ble_eq_true rfl)) md_F_figure_45 ⟨by first | omega | exact Nat.le_of_ble_eq_true rfl, by first | omega | exact Nat.le_of_ble_eq_true rfl⟩) ?_
    have hsp : mf_figure k0 (mf_L ks, due, met, g) = (0, (mf_sum (fun r => if mf_wt r = 0 then 0 else 1) (mf_L ks))) := by simp [mf_figure, hk0, hk1]
    rw [hsp]
    exact mf_xi rfl C.x C.b hr hlk md_F_figure_48 hM mf_Eq.rf hH (fun q h => by cases h) (by decide) (by decide)
  by_cases hk2 : k0 = 2
  · refine lv_tableIn (tgt := 49) C.x C.b md_F_figure_1 (by rw [hk2]; decide) (by rw [hk2]; decide) (by rw [hk2]; rfl) (by decide) ?_
    refine lv_aload_n C.x C.b md_F_figure_49 rfl (lv_at hl 0 rfl) ?_
    refine mf_gf C (ci := 3) (N := 4) rfl mi_F 2 (by decide) mt_86 hx (v := .int due) rfl md_F_figure_50 ?_
    have hsp : mf_figure k0 (mf_L ks, due, met, g) = (0, due) := by simp [mf_figure, hk0, hk1, hk2]
    rw [hsp]
    exact mf_xi rfl C.x C.b hr hlk md_F_figure_53 hM mf_Eq.rf hH (fun q h => by cases h) (by decide) (by decide)
  by_cases hk3 : k0 = 3
  · refine lv_tableIn (tgt := 54) C.x C.b md_F_figure_1 (by rw [hk3]; decide) (by rw [hk3]; decide) (by rw [hk3]; rfl) (by decide) ?_
    refine lv_aload_n C.x C.b md_F_figure_54 rfl (lv_at hl 0 rfl) ?_
    refine mf_gf C (ci := 3) (N := 4) rfl mi_F 3 (by decide) mt_87 hx (v := .int met) rfl md_F_figure_55 ?_
    have hsp : mf_figure k0 (mf_L ks, due, met, g) = (0, met) := by simp [mf_figure, hk0, hk1, hk2, hk3]
    rw [hsp]
    exact mf_xi rfl C.x C.b hr hlk md_F_figure_58 hM mf_Eq.rf hH (fun q h => by cases h) (by decide) (by decide)
  by_cases hk4 : k0 = 4
  · refine lv_tableIn (tgt := 59) C.x C.b md_F_figure_1 (by rw [hk4]; decide) (by rw [hk4]; decide) (by rw [hk4]; rfl) (by decide) ?_
    refine lv_aload_n C.x C.b md_F_figure_59 rfl (lv_at hl 0 rfl) ?_
    refine mf_gf C (ci := 3) (N := 4) rfl mi_F 1 (by decide) mt_85 hx (v := .ref tp) rfl md_F_figure_60 ?_
    refine mf_gfN C (ci := 2) (N := 5) rfl mi_T 3 (by decide) (C.ev.2.1.1 (157, "MatchFloor$Tape", "quantity", "I") (List.mem_of_getElem? (i := 2) rfl)) htp (v := .int g.2.2.1) rfl md_F_figure_63 ?_
    have hsp : mf_figure k0 (mf_L ks, due, met, g) = (0, g.2.2.1) := by simp [mf_figure, hk0, hk1, hk2, hk3, hk4]
    rw [hsp]
    exact mf_xi rfl C.x C.b hr hlk md_F_figure_66 hM mf_Eq.rf hH (fun q h => by cases h) (by decide) (by decide)
  refine lv_tableOut (tgt := 67) C.x C.b md_F_figure_1 (mf_tout4 hk0 hk1 hk2 hk3 hk4) (by decide) ?_
  have hsp : mf_figure k0 (mf_L ks, due, met, g) = (1, 0) := by simp [mf_figure, hk0, hk1, hk2, hk3, hk4]
  rw [hsp]
  exact mf_thrI C hlt ⟨rfl, rfl⟩ (List.mem_of_getElem? (i := 12) rfl) hS (fun q hq => by rw [hH]) hl.1 md_F_figure_67 md_F_figure_70 md_F_figure_71 md_F_figure_73 md_F_figure_76 hex (by decide) (by decide) (by decide) (by decide) hlk (by decide) (by decide)
theorem mf_no3 {x : Int32} (h0 : ¬ x = 0) (h1 : ¬ x = 1) (h2 : ¬ x = 2) (h3 : ¬ x = 3) : ¬ (0 ≤ x ∧ x ≤ 3) := fun ⟨a, b⟩ => by
  obtain ⟨k, hk, rfl⟩ := mf_nI_of (n := 3) a b (by decide)
  match k, hk with
  | 0, _ => exact h0 rfl
  | 1, _ => exact h1 rfl
  | 2, _ => exact h2 rfl
  | 3, _ => exact h3 rfl
theorem mf_nI_pos {x : Int32} (h : 0 ≤ x) : ∃ k, k < 2 ^ 31 ∧ x = nI k := by
  have e0 : (0 : Int) ≤ x.toInt := Int32.le_iff_toInt_le.mp h
  have e1 : x.toInt < 2 ^ 31 := Int32.toInt_lt x
  exact ⟨x.toInt.toNat, by omega, Int32.toInt_inj.mp (by rw [nI_toInt (by omega)]; omega)⟩
theorem mf_nI_lel {x : Int32} {n : Nat} (hn : n + 1 < 2 ^ 31) (h : x < nI (n + 1)) : x ≤ nI n := by
  rw [Int32.lt_iff_toInt_lt, nI_toInt hn] at h
  rw [Int32.le_iff_toInt_le, nI_toInt (by omega)]
  omega
theorem mf_nI_lt {a b : Nat} (ha : a < 2 ^ 31) (h : nI a < nI b) : a < b := Nat.lt_of_not_le fun z => nI_nlt z ha h
set_option maxRecDepth 100000 in
set_option maxHeartbeats 4000000 in
theorem k_F_order (l : Launch) (D : va_G) (k5 : mf_k5) (t0 : Nat × Nat) (A : Nat → Prop) (H : Heap) (hlt : l.stackTraces = false) (x al tp : Nat) (i w0 : Int32) (L : List mf_O) (due met : Int32) (g : mf_G) (hM : mf_SS D k5 t0 A H x al tp (L, due, met, g)) : mf_cX l my_F_order mc_F_order 5 (some .int) { frames := 6, cells := 1, slots := 6, locals := 90 } D (mf_tys k5) t0 A H [.ref x, .int i, .int w0] ((mf_ordr i w0 (L, due, met, g)).1 = 0) (some (.int (mf_ordr i w0 (L, due, met, g)).2)) (fun H1 => mf_SS D k5 t0 A H1 x al tp (L, due, met, g)) (mf_fr A H []) (fun E => ((mf_ordr i w0 (L, due, met, g)).1 = 1 ∧ E = "java/util/NoSuchElementException") ∨ ((mf_ordr i w0 (L, due, met, g)).1 = 2 ∧ E = "java/lang/IllegalArgumentException")) 1 6 := by
  obtain ⟨ks, hL, hC, hT⟩ := id hM
  have hL : mf_L ks = L := hL
  have hC : mf_CL D k5 t0 A H x al tp due met ks := hC
  have hT : mf_TP D k5 A H tp g := hT
  obtain ⟨hx, hAx, hAL, hks, hnd⟩ := id hC
  obtain ⟨ed, mc, hal, hA1, hle, hor⟩ := id hAL
  rw [List.length_map] at hle
  subst hL
  obtain ⟨rw, rr, rf, rx, htp, hA3, hrest⟩ := id hT
  refine mf_ofX (by decide) (Nat.le_of_ble_eq_true rfl) ?_
  intro p e s m below meth c ls C hH hr hlk hnm hmt hl hS hex
  have hl : lv_has ls 5 [(0, .ref x), (1, .int i), (2, .int w0)] := hl
  refine lv_aload_n C.x C.b md_F_order_0 rfl (lv_at hl 0 rfl) ?_
  refine lv_iload_n C.x C.b md_F_order_1 rfl (lv_at hl 1 rfl) ?_
  refine mf_cks (va_runV (As := [.int i]) (rest := []) C.f (k_F_placeOf l D k5 t0 A H x al tp due met ks i hC) (mf_cV C mt_201 mt_198 mt_1 mt_200 ms_1 mh_F_placeOf ⟨by decide, by decide⟩) (mf_preV C.ev hS (mf_rv C (ci := 3) (N := 4) rfl hx)) rfl rfl hl.1 rfl (lv_room (Nat.le_of_ble_eq_true rfl)) md_F_order_2 ⟨by first | omega | exact Nat.le_of_ble_eq_true rfl, by first | omega | exact Nat.le_of_ble_eq_true rfl⟩) ?_
  rcases hp : mf_place i (mf_L ks) with _ | ⟨j, r⟩
  · rw [show mf_ix (none : Option (Nat × mf_O)) = -1 from rfl]
    refine lv_istore_n (lv' := [(3, .int (-1)), (0, .ref x), (1, .int i), (2, .int w0)]) C.x C.b md_F_order_5 rfl hl (by decide) rfl (fun ls hl => ?_)
    refine lv_iload_n C.x C.b md_F_order_6 rfl (lv_at hl 0 rfl) ?_
    refine lv_iconst (v := (-1)) C.x C.b md_F_order_7 (by decide) ?_
    refine lv_icmp_ne (tgt := 21) C.x C.b md_F_order_8 (by decide) (fun h1 => ?_) (fun h1 => ?_)
    · exact absurd h1 (Classical.not_not.mpr rfl)
    · skip
      have hsp : mf_ordr i w0 (mf_L ks, due, met, g) = (1, 0) := by simp [mf_ordr, hp, h1]
      rw [hsp]
      exact mf_thrN C hlt (Or.inl ⟨rfl, rfl⟩) (List.mem_of_getElem? (i := 5) rfl) hS (fun q hq => by rw [hH]) hl.1 md_F_order_11 md_F_order_14 md_F_order_15 md_F_order_17 md_F_order_20 hex (by decide) (by decide) (by decide) (by decide) hlk (by decide) (by decide)
  · rw [show mf_ix (some (j, r)) = nI j from rfl]
    obtain ⟨a, hq⟩ : ∃ a, ks[j]? = some (a, r) := mf_pick_ka hp
    have ha : va_at D mf_cl (a, .inr (1, mf_fs r)) H := (hks _ (List.mem_of_getElem? hq)).1
    have hAa : A a := (hks _ (List.mem_of_getElem? hq)).2
    have hjn : j < ks.length := (List.getElem?_eq_some_iff.mp hq).1
    refine lv_istore_n (lv' := [(3, .int (nI j)), (0, .ref x), (1, .int i), (2, .int w0)]) C.x C.b md_F_order_5 rfl hl (by decide) rfl (fun ls hl => ?_)
    refine lv_iload_n C.x C.b md_F_order_6 rfl (lv_at hl 0 rfl) ?_
    refine lv_iconst (v := (-1)) C.x C.b md_F_order_7 (by decide) ?_
    refine lv_icmp_ne (tgt := 21) C.x C.b md_F_order_8 (by decide) (fun h2 => ?_) (fun h2 => ?_)
    · skip
      refine lv_aload_n C.x C.b md_F_order_21 rfl (lv_at hl 1 rfl) ?_
      refine mf_gf C (ci := 3) (N := 4) rfl mi_F 0 (by decide) mt_84 hx (v := .ref al) rfl md_F_order_22 ?_
      refine lv_iload_n C.x C.b md_F_order_25 rfl (lv_at hl 0 rfl) ?_
      refine mf_cks (va_runV (As := [.int (nI j)]) (rest := []) C.f (k_A_get l D k5 t0 A H al j a _ hAL (mf_kq hq)) (mf_cV C mt_209 mt_206 mt_4 mt_207 mt_208 mh_A_get ⟨by decide, by decide⟩) (mf_preV C.ev hS (mf_rv C (ci := 0) (N := 3) rfl hal)) rfl rfl hl.1 rfl (lv_room (Nat.le_of_ble_eq_true rfl)) md_F_order_26 ⟨by first | omega | exact Nat.le_of_ble_eq_true rfl, by first | omega | exact Nat.le_of_ble_eq_true rfl⟩) ?_
      refine mf_cast C (ci := 1) (N := 6) rfl mt_220 ha md_F_order_29 ?_
      refine lv_astore (lv' := [(4, .ref a), (3, .int (nI j)), (0, .ref x), (1, .int i), (2, .int w0)]) C.x C.b md_F_order_32 hl (by decide) rfl (fun ls hl => ?_)
      refine lv_iload_n C.x C.b md_F_order_34 rfl (lv_at hl 4 rfl) ?_
      by_cases hk0 : w0 = 0
      · refine lv_tableIn (tgt := 64) C.x C.b md_F_order_35 (by rw [hk0]; decide) (by rw [hk0]; decide) (by rw [hk0]; rfl) (by decide) ?_
        refine lv_bipush (v := 16) C.x C.b md_F_order_64 (by decide) ?_
        refine lv_aload C.x C.b md_F_order_66 (lv_at hl 0 rfl) ?_
        refine mf_gfN C (ci := 1) (N := 6) rfl mi_O 1 (by decide) (C.ev.2.1.1 (97, "MatchFloor$Order", "owner", "I") (List.mem_of_getElem? (i := 5) rfl)) ha (v := .int (mf_ow r)) rfl md_F_order_68 ?_
        refine lv_imul C.x C.b md_F_order_71 ?_
        refine lv_aload C.x C.b md_F_order_72 (lv_at hl 0 rfl) ?_
        refine mf_gfN C (ci := 1) (N := 6) rfl mi_O 3 (by decide) (C.ev.2.1.1 (88, "MatchFloor$Order", "waits", "Z") (List.mem_of_getElem? (i := 7) rfl)) ha (v := .int (mf_wt r)) rfl md_F_order_74 ?_
        refine lv_if_eq (tgt := 84) C.x C.b md_F_order_77 (by decide) (fun h3 => ?_) (fun h3 => ?_)
        · skip
          refine lv_iconst (v := 0) C.x C.b md_F_order_84 (by decide) ?_
          refine lv_iadd C.x C.b md_F_order_85 ?_
          refine lv_aload C.x C.b md_F_order_86 (lv_at hl 0 rfl) ?_
          refine mf_gfN C (ci := 1) (N := 6) rfl mi_O 2 (by decide) (C.ev.2.1.1 (125, "MatchFloor$Order", "side", "I") (List.mem_of_getElem? (i := 6) rfl)) ha (v := .int (mf_sd r)) rfl md_F_order_88 ?_
          refine lv_iadd C.x C.b md_F_order_91 ?_
          have hsp : mf_ordr i w0 (mf_L ks, due, met, g) = (0, (((16 * (mf_ow r)) + 0) + (mf_sd r))) := by simp [mf_ordr, hp, h2, hk0, h3]
          rw [hsp]
          exact mf_xi rfl C.x C.b hr hlk md_F_order_92 hM mf_Eq.rf hH (fun q h => by cases h) (by decide) (by decide)
        · skip
          refine lv_iconst (v := 2) C.x C.b md_F_order_80 (by decide) ?_
          refine lv_goto (tgt := 85) C.x C.b md_F_order_81 (by decide) ?_
          refine lv_iadd C.x C.b md_F_order_85 ?_
          refine lv_aload C.x C.b md_F_order_86 (lv_at hl 0 rfl) ?_
          refine mf_gfN C (ci := 1) (N := 6) rfl mi_O 2 (by decide) (C.ev.2.1.1 (125, "MatchFloor$Order", "side", "I") (List.mem_of_getElem? (i := 6) rfl)) ha (v := .int (mf_sd r)) rfl md_F_order_88 ?_
          refine lv_iadd C.x C.b md_F_order_91 ?_
          have hsp : mf_ordr i w0 (mf_L ks, due, met, g) = (0, (((16 * (mf_ow r)) + 2) + (mf_sd r))) := by simp [mf_ordr, hp, h2, hk0, h3]
          rw [hsp]
          exact mf_xi rfl C.x C.b hr hlk md_F_order_92 hM mf_Eq.rf hH (fun q h => by cases h) (by decide) (by decide)
      by_cases hk1 : w0 = 1
      · refine lv_tableIn (tgt := 93) C.x C.b md_F_order_35 (by rw [hk1]; decide) (by rw [hk1]; decide) (by rw [hk1]; rfl) (by decide) ?_
        refine lv_aload C.x C.b md_F_order_93 (lv_at hl 0 rfl) ?_
        refine mf_gfN C (ci := 1) (N := 6) rfl mi_O 4 (by decide) (C.ev.2.1.1 (92, "MatchFloor$Order", "price", "I") (List.mem_of_getElem? (i := 8) rfl)) ha (v := .int (mf_pr r)) rfl md_F_order_95 ?_
        have hsp : mf_ordr i w0 (mf_L ks, due, met, g) = (0, (mf_pr r)) := by simp [mf_ordr, hp, h2, hk0, hk1]
        rw [hsp]
        exact mf_xi rfl C.x C.b hr hlk md_F_order_98 hM mf_Eq.rf hH (fun q h => by cases h) (by decide) (by decide)
      by_cases hk2 : w0 = 2
      · refine lv_tableIn (tgt := 99) C.x C.b md_F_order_35 (by rw [hk2]; decide) (by rw [hk2]; decide) (by rw [hk2]; rfl) (by decide) ?_
        refine lv_aload C.x C.b md_F_order_99 (lv_at hl 0 rfl) ?_
        refine mf_gfN C (ci := 1) (N := 6) rfl mi_O 5 (by decide) (C.ev.2.1.1 (81, "MatchFloor$Order", "left", "I") (List.mem_of_getElem? (i := 9) rfl)) ha (v := .int (mf_lf r)) rfl md_F_order_101 ?_
        have hsp : mf_ordr i w0 (mf_L ks, due, met, g) = (0, (mf_lf r)) := by simp [mf_ordr, hp, h2, hk0, hk1, hk2]
        rw [hsp]
        exact mf_xi rfl C.x C.b hr hlk md_F_order_104 hM mf_Eq.rf hH (fun q h => by cases h) (by decide) (by decide)
      by_cases hk3 : w0 = 3
      · refine lv_tableIn (tgt := 105) C.x C.b md_F_order_35 (by rw [hk3]; decide) (by rw [hk3]; decide) (by rw [hk3]; rfl) (by decide) ?_
        refine lv_aload_n C.x C.b md_F_order_105 rfl (lv_at hl 2 rfl) ?_
        refine lv_iload_n C.x C.b md_F_order_106 rfl (lv_at hl 1 rfl) ?_
        refine mf_cks (va_runV (As := [.int (nI j)]) (rest := []) C.f (k_F_ordersBefore l D k5 t0 A H x al tp due met ks j a r hC hq) (mf_cV C mt_499 mt_496 mt_1 mt_498 ms_23 mh_F_ordersBefore ⟨by decide, by decide⟩) (mf_preV C.ev hS (mf_rv C (ci := 3) (N := 4) rfl hx)) rfl rfl hl.1 rfl (lv_room (Nat.le_of_ble_eq_true rfl)) md_F_order_107 ⟨by first | omega | exact Nat.le_of_ble_eq_true rfl, by first | omega | exact Nat.le_of_ble_eq_true rfl⟩) ?_
        have hsp : mf_ordr i w0 (mf_L ks, due, met, g) = (0, (mf_sum (fun q => if mf_queues q r then 1 else 0) ((mf_L ks).take j))) := by simp [mf_ordr, hp, h2, hk0, hk1, hk2, hk3]
        rw [hsp]
        exact mf_xi rfl C.x C.b hr hlk md_F_order_110 hM mf_Eq.rf hH (fun q h => by cases h) (by decide) (by decide)
      refine lv_tableOut (tgt := 111) C.x C.b md_F_order_35 (mf_tout3 hk0 hk1 hk2 hk3) (by decide) ?_
      have hsp : mf_ordr i w0 (mf_L ks, due, met, g) = (2, 0) := by unfold mf_ordr; rw [hp]; exact if_neg (mf_no3 hk0 hk1 hk2 hk3)
      rw [hsp]
      exact mf_thrI C hlt (Or.inr ⟨rfl, rfl⟩) (List.mem_of_getElem? (i := 10) rfl) hS (fun q hq => by rw [hH]) hl.1 md_F_order_111 md_F_order_114 md_F_order_115 md_F_order_117 md_F_order_120 hex (by decide) (by decide) (by decide) (by decide) hlk (by decide) (by decide)
    · exact absurd h2 (mf_nI_ne (by omega))
set_option maxRecDepth 100000 in
set_option maxHeartbeats 4000000 in
theorem k_F_fill (l : Launch) (D : va_G) (k5 : mf_k5) (t0 : Nat × Nat) (A : Nat → Prop) (H : Heap) (hlt : l.stackTraces = false) (x al tp : Nat) (k0 w0 : Int32) (L : List mf_O) (due met : Int32) (g : mf_G) (hM : mf_SS D k5 t0 A H x al tp (L, due, met, g)) (hg : g.1 < 2 ^ 31) : mf_cX l my_F_fill mc_F_fill 3 (some .int) { frames := 6, cells := 1, slots := 6, locals := 90 } D (mf_tys k5) t0 A H [.ref x, .int k0, .int w0] ((mf_fill k0 w0 g).1 = 0) (some (.int (mf_fill k0 w0 g).2)) (fun H1 => mf_SS D k5 t0 A H1 x al tp (L, due, met, g)) (mf_fr A H []) (fun E => ((mf_fill k0 w0 g).1 = 1 ∧ E = "java/lang/IllegalArgumentException") ∨ ((mf_fill k0 w0 g).1 = 2 ∧ E = "java/lang/IndexOutOfBoundsException")) 1 6 := by
  obtain ⟨ks, hL, hC, hT⟩ := id hM
  have hL : mf_L ks = L := hL
  have hC : mf_CL D k5 t0 A H x al tp due met ks := hC
  have hT : mf_TP D k5 A H tp g := hT
  obtain ⟨hx, hAx, hAL, hks, hnd⟩ := id hC
  obtain ⟨ed, mc, hal, hA1, hle, hor⟩ := id hAL
  rw [List.length_map] at hle
  subst hL
  obtain ⟨rw, rr, rf, rx, htp, hA3, hrest⟩ := id hT
  refine mf_ofX (by decide) (Nat.le_of_ble_eq_true rfl) ?_
  intro p e s m below meth c ls C hH hr hlk hnm hmt hl hS hex
  have hl : lv_has ls 3 [(0, .ref x), (1, .int k0), (2, .int w0)] := hl
  refine lv_iload_n C.x C.b md_F_fill_0 rfl (lv_at hl 2 rfl) ?_
  refine lv_if_lt (tgt := 9) C.x C.b md_F_fill_1 (by decide) (fun h1 => ?_) (fun h1 => ?_)
  · skip
    have e0 : (0 : Int32).toInt = 0 := by decide
    have e3 : (3 : Int32).toInt = 3 := by decide
    have e4 : (4 : Int32).toInt = 4 := by decide
    have e31 : (31 : Int32).toInt = 31 := by decide
    have e32 : (32 : Int32).toInt = 32 := by decide
    have hsp : mf_fill k0 w0 g = (1, 0) := by unfold mf_fill; refine if_neg (fun z => ?_); simp only [ge_iff_le, Int32.lt_iff_toInt_lt, Int32.le_iff_toInt_le, e0, e3, e4, e31, e32] at z h1; omega
    rw [hsp]
    exact mf_thrI C hlt (Or.inl ⟨rfl, rfl⟩) (List.mem_of_getElem? (i := 10) rfl) hS (fun q hq => by rw [hH]) hl.1 md_F_fill_9 md_F_fill_12 md_F_fill_13 md_F_fill_15 md_F_fill_18 hex (by decide) (by decide) (by decide) (by decide) hlk (by decide) (by decide)
  · skip
    refine lv_iload_n C.x C.b md_F_fill_4 rfl (lv_at hl 2 rfl) ?_
    refine lv_iconst (v := 4) C.x C.b md_F_fill_5 (by decide) ?_
    refine lv_icmp_lt (tgt := 19) C.x C.b md_F_fill_6 (by decide) (fun h2 => ?_) (fun h2 => ?_)
    · skip
      refine lv_iload_n C.x C.b md_F_fill_19 rfl (lv_at hl 1 rfl) ?_
      refine lv_if_lt (tgt := 40) C.x C.b md_F_fill_20 (by decide) (fun h3 => ?_) (fun h3 => ?_)
      · skip
        have e0 : (0 : Int32).toInt = 0 := by decide
        have e3 : (3 : Int32).toInt = 3 := by decide
        have e4 : (4 : Int32).toInt = 4 := by decide
        have e31 : (31 : Int32).toInt = 31 := by decide
        have e32 : (32 : Int32).toInt = 32 := by decide
        have hsp : mf_fill k0 w0 g = (2, 0) := by unfold mf_fill; rw [if_pos (by constructor <;> (simp only [ge_iff_le, Int32.lt_iff_toInt_lt, Int32.le_iff_toInt_le, e0, e3, e4, e31, e32] at h1 h2 h3 ⊢; omega))]; refine if_neg (fun z => ?_); simp only [ge_iff_le, Int32.lt_iff_toInt_lt, Int32.le_iff_toInt_le, e0, e3, e4, e31, e32] at z h1 h2 h3; omega
        rw [hsp]
        exact mf_thrO C hlt (Or.inr ⟨rfl, rfl⟩) (List.mem_of_getElem? (i := 11) rfl) hS (fun q hq => by rw [hH]) hl.1 md_F_fill_40 md_F_fill_43 md_F_fill_44 md_F_fill_46 md_F_fill_49 hex (by decide) (by decide) (by decide) (by decide) hlk (by decide) (by decide)
      · skip
        refine lv_iload_n C.x C.b md_F_fill_23 rfl (lv_at hl 1 rfl) ?_
        refine lv_bipush (v := 32) C.x C.b md_F_fill_24 (by decide) ?_
        refine lv_icmp_ge (tgt := 40) C.x C.b md_F_fill_26 (by decide) (fun h4 => ?_) (fun h4 => ?_)
        · skip
          have e0 : (0 : Int32).toInt = 0 := by decide
          have e3 : (3 : Int32).toInt = 3 := by decide
          have e4 : (4 : Int32).toInt = 4 := by decide
          have e31 : (31 : Int32).toInt = 31 := by decide
          have e32 : (32 : Int32).toInt = 32 := by decide
          have hsp : mf_fill k0 w0 g = (2, 0) := by unfold mf_fill; rw [if_pos (by constructor <;> (simp only [ge_iff_le, Int32.lt_iff_toInt_lt, Int32.le_iff_toInt_le, e0, e3, e4, e31, e32] at h1 h2 h3 h4 ⊢; omega))]; refine if_neg (fun z => ?_); simp only [ge_iff_le, Int32.lt_iff_toInt_lt, Int32.le_iff_toInt_le, e0, e3, e4, e31, e32] at z h1 h2 h3 h4; omega
          rw [hsp]
          exact mf_thrO C hlt (Or.inr ⟨rfl, rfl⟩) (List.mem_of_getElem? (i := 11) rfl) hS (fun q hq => by rw [hH]) hl.1 md_F_fill_40 md_F_fill_43 md_F_fill_44 md_F_fill_46 md_F_fill_49 hex (by decide) (by decide) (by decide) (by decide) hlk (by decide) (by decide)
        · skip
          refine lv_iload_n C.x C.b md_F_fill_29 rfl (lv_at hl 1 rfl) ?_
          refine lv_aload_n C.x C.b md_F_fill_30 rfl (lv_at hl 0 rfl) ?_
          refine mf_gf C (ci := 3) (N := 4) rfl mi_F 1 (by decide) mt_85 hx (v := .ref tp) rfl md_F_fill_31 ?_
          refine mf_gfN C (ci := 2) (N := 5) rfl mi_T 1 (by decide) (C.ev.2.1.1 (133, "MatchFloor$Tape", "count", "I") (List.mem_of_getElem? (i := 0) rfl)) htp (v := .int (nI g.1)) rfl md_F_fill_34 ?_
          refine lv_icmp_lt (tgt := 50) C.x C.b md_F_fill_37 (by decide) (fun h5 => ?_) (fun h5 => ?_)
          · skip
            refine lv_aload_n C.x C.b md_F_fill_50 rfl (lv_at hl 0 rfl) ?_
            refine mf_gf C (ci := 3) (N := 4) rfl mi_F 1 (by decide) mt_85 hx (v := .ref tp) rfl md_F_fill_51 ?_
            refine lv_iload_n C.x C.b md_F_fill_54 rfl (lv_at hl 1 rfl) ?_
            refine lv_iload_n C.x C.b md_F_fill_55 rfl (lv_at hl 2 rfl) ?_
            obtain ⟨wn, hwn, rfl⟩ := mf_nI_of (n := 3) (Int32.not_lt.mp h1) (mf_nI_lel (n := 3) (by decide) h2) (by decide)
            obtain ⟨kn, hkn, rfl⟩ := mf_nI_of (n := 31) (Int32.not_lt.mp h3) (mf_nI_lel (n := 31) (by decide) (Int32.not_le.mp h4)) (by decide)
            have hkg : kn < g.1 := mf_nI_lt (by omega) h5
            refine mf_cks (va_runVN (As := [.int (nI kn), .int (nI wn)]) (rest := []) C.f (k_T_read l D k5 t0 A H tp kn wn g hT hkg hg (by omega)) ⟨mf_cN C mt_516 (C.ev.2.1.2.1 ("MatchFloor", 138, my_T_read) (List.mem_of_getElem? (i := 9) rfl)) mt_5 mh_T_read ⟨by decide, by decide⟩, C.t mt_515, C.t ms_25⟩ (mf_preV C.ev hS (mf_rv C (ci := 2) (N := 5) rfl htp)) rfl rfl hl.1 rfl (lv_room (Nat.le_of_ble_eq_true rfl)) md_F_fill_56 ⟨by first | omega | exact Nat.le_of_ble_eq_true rfl, by first | omega | exact Nat.le_of_ble_eq_true rfl⟩) ?_
            have hsp : mf_fill (nI kn) (nI wn) g = (0, g.2.2.2.2 ((g.1 - 1 - kn) % 32) wn) := by
              unfold mf_fill
              rw [if_pos ⟨Int32.not_lt.mp h1, (nI_leI (b := 3) (by omega) (by decide)).mpr (by omega)⟩, if_pos ⟨Int32.not_lt.mp h3, (nI_leI (b := 31) (by omega) (by decide)).mpr (by omega), h5⟩, nI_clamp (by omega), nI_clamp (by omega)]
            rw [hsp]
            exact mf_xi rfl C.x C.b hr hlk md_F_fill_59 hM mf_Eq.rf hH (fun q h => by cases h) (by decide) (by decide)
          · skip
            have e0 : (0 : Int32).toInt = 0 := by decide
            have e3 : (3 : Int32).toInt = 3 := by decide
            have e4 : (4 : Int32).toInt = 4 := by decide
            have e31 : (31 : Int32).toInt = 31 := by decide
            have e32 : (32 : Int32).toInt = 32 := by decide
            have hsp : mf_fill k0 w0 g = (2, 0) := by unfold mf_fill; rw [if_pos (by constructor <;> (simp only [ge_iff_le, Int32.lt_iff_toInt_lt, Int32.le_iff_toInt_le, e0, e3, e4, e31, e32] at h1 h2 h3 h4 h5 ⊢; omega))]; refine if_neg (fun z => ?_); simp only [ge_iff_le, Int32.lt_iff_toInt_lt, Int32.le_iff_toInt_le, e0, e3, e4, e31, e32] at z h1 h2 h3 h4 h5; omega
            rw [hsp]
            exact mf_thrO C hlt (Or.inr ⟨rfl, rfl⟩) (List.mem_of_getElem? (i := 11) rfl) hS (fun q hq => by rw [hH]) hl.1 md_F_fill_40 md_F_fill_43 md_F_fill_44 md_F_fill_46 md_F_fill_49 hex (by decide) (by decide) (by decide) (by decide) hlk (by decide) (by decide)
    · skip
      have e0 : (0 : Int32).toInt = 0 := by decide
      have e3 : (3 : Int32).toInt = 3 := by decide
      have e4 : (4 : Int32).toInt = 4 := by decide
      have e31 : (31 : Int32).toInt = 31 := by decide
      have e32 : (32 : Int32).toInt = 32 := by decide
      have hsp : mf_fill k0 w0 g = (1, 0) := by unfold mf_fill; refine if_neg (fun z => ?_); simp only [ge_iff_le, Int32.lt_iff_toInt_lt, Int32.le_iff_toInt_le, e0, e3, e4, e31, e32] at z h1 h2; omega
      rw [hsp]
      exact mf_thrI C hlt (Or.inl ⟨rfl, rfl⟩) (List.mem_of_getElem? (i := 10) rfl) hS (fun q hq => by rw [hH]) hl.1 md_F_fill_9 md_F_fill_12 md_F_fill_13 md_F_fill_15 md_F_fill_18 hex (by decide) (by decide) (by decide) (by decide) hlk (by decide) (by decide)
