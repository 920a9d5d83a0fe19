/-! MatchFloor: level, cancel -/
set_option maxRecDepth 100000 in
set_option maxHeartbeats 4000000 in
theorem k_F_level (l : Launch) (D : va_G) (k5 : mf_k5) (t0 : Nat × Nat) (A : Nat → Prop) (H : Heap) (hlt : l.stackTraces = false) (x al tp : Nat) (s0 k0 w0 : Int32) (L : List mf_O) (due met : Int32) (g : mf_G) (hM : mf_SS D k5 t0 A H x al tp (L, due, met, g)) (hpr : ∀ r ∈ L, mf_pr r ≠ 0) : mf_cX l my_F_level mc_F_level 5 (some .int) { frames := 6, cells := 1, slots := 6, locals := 115 } D (mf_tys k5) t0 A H [.ref x, .int s0, .int k0, .int w0] ((mf_level s0 k0 w0 (L, due, met, g)).1 = 0) (some (.int (mf_level s0 k0 w0 (L, due, met, g)).2)) (fun H1 => mf_SS D k5 t0 A H1 x al tp (L, due, met, g)) (mf_fr A H []) (fun E => ((mf_level s0 k0 w0 (L, due, met, g)).1 = 1 ∧ E = "java/lang/IllegalArgumentException") ∨ ((mf_level s0 k0 w0 (L, due, met, g)).1 = 2 ∧ E = "java/lang/IndexOutOfBoundsException")) 1 6 := by
  obtain ⟨ks, hL, hC, hT⟩ := id hM
  have hL : mf_L ks = L := hL
  have hC : mf_CL D k5 t0 A H x al tp due met ks := hC
  have hT : mf_TP D k5 A H tp g := hT
  obtain ⟨hx, hAx, hAL, hks, hnd⟩ := id hC
  obtain ⟨ed, mc, hal, hA1, hle, hor⟩ := id hAL
  rw [List.length_map] at hle
  subst hL
  obtain ⟨rw, rr, rf, rx, htp, hA3, hrest⟩ := id hT
  refine mf_ofX (by decide) (Nat.le_of_ble_eq_true rfl) ?_
  intro p e s m below meth c ls C hH hr hlk hnm hmt hl hS hex
  have hl : lv_has ls 5 [(0, .ref x), (1, .int s0), (2, .int k0), (3, .int w0)] := hl
  refine lv_iload_n C.x C.b md_F_level_0 rfl (lv_at hl 1 rfl) ?_
  refine mf_cks (va_runS (As := [.int s0]) (rest := []) C.f (k_F_isSide l D k5 t0 A H s0) (mf_cS C mt_442 mt_440 mt_1 mt_441 mh_F_isSide ⟨by decide, by decide⟩) (mf_preS C.ev hS) rfl rfl hl.1 rfl (lv_room (Nat.le_of_ble_eq_true rfl)) md_F_level_1 ⟨by first | omega | exact Nat.le_of_ble_eq_true rfl, by first | omega | exact Nat.le_of_ble_eq_true rfl⟩) ?_
  refine lv_if_eq (tgt := 16) C.x C.b md_F_level_4 (by decide) (fun h1 => ?_) (fun h1 => ?_)
  · skip
    have hsp : mf_level s0 k0 w0 (mf_L ks, due, met, g) = (1, 0) := by unfold mf_level; exact if_neg (fun z => of_decide_eq_false (mf_bI_0.mp h1) z.1)
    rw [hsp]
    exact mf_thrI C hlt (Or.inl ⟨rfl, rfl⟩) (List.mem_of_getElem? (i := 8) rfl) hS (fun q hq => by rw [hH]) hl.1 md_F_level_16 md_F_level_19 md_F_level_20 md_F_level_22 md_F_level_25 hex (by decide) (by decide) (by decide) (by decide) hlk (by decide) (by decide)
  · skip
    refine lv_iload_n C.x C.b md_F_level_7 rfl (lv_at hl 3 rfl) ?_
    refine lv_if_lt (tgt := 16) C.x C.b md_F_level_8 (by decide) (fun h2 => ?_) (fun h2 => ?_)
    · skip
      have hsp : mf_level s0 k0 w0 (mf_L ks, due, met, g) = (1, 0) := by have e0 : (0 : Int32).toInt = 0 := (by decide); have e2 : (2 : Int32).toInt = 2 := (by decide); have e7 : (7 : Int32).toInt = 7 := (by decide); unfold mf_level; refine if_neg (fun z => ?_); have z1 := z.2.1; have z2 := z.2.2; simp only [ge_iff_le, Int32.lt_iff_toInt_lt, Int32.le_iff_toInt_le, e0, e2, e7] at z1 z2 h2; omega
      rw [hsp]
      exact mf_thrI C hlt (Or.inl ⟨rfl, rfl⟩) (List.mem_of_getElem? (i := 8) rfl) hS (fun q hq => by rw [hH]) hl.1 md_F_level_16 md_F_level_19 md_F_level_20 md_F_level_22 md_F_level_25 hex (by decide) (by decide) (by decide) (by decide) hlk (by decide) (by decide)
    · skip
      refine lv_iload_n C.x C.b md_F_level_11 rfl (lv_at hl 3 rfl) ?_
      refine lv_iconst (v := 2) C.x C.b md_F_level_12 (by decide) ?_
      refine lv_icmp_le (tgt := 26) C.x C.b md_F_level_13 (by decide) (fun h3 => ?_) (fun h3 => ?_)
      · skip
        refine lv_iload_n C.x C.b md_F_level_26 rfl (lv_at hl 2 rfl) ?_
        refine lv_if_lt (tgt := 39) C.x C.b md_F_level_27 (by decide) (fun h4 => ?_) (fun h4 => ?_)
        · skip
          have hsp : mf_level s0 k0 w0 (mf_L ks, due, met, g) = (2, 0) := by have e0 : (0 : Int32).toInt = 0 := (by decide); have e2 : (2 : Int32).toInt = 2 := (by decide); have e7 : (7 : Int32).toInt = 7 := (by decide); unfold mf_level; rw [if_pos ⟨of_decide_eq_true (mf_bI_1.mp h1), Int32.not_lt.mp h2, by have q := h3; first | exact q | (simp only [ge_iff_le, Int32.lt_iff_toInt_lt, Int32.le_iff_toInt_le, e0, e2, e7] at q ⊢; omega)⟩]; refine if_neg (fun z => ?_); have z1 := z.1; have z2 := z.2; first | exact absurd z1 (Int32.not_le.mpr h4) | exact absurd z2 h4
          rw [hsp]
          exact mf_thrO C hlt (Or.inr ⟨rfl, rfl⟩) (List.mem_of_getElem? (i := 9) rfl) hS (fun q hq => by rw [hH]) hl.1 md_F_level_39 md_F_level_42 md_F_level_43 md_F_level_45 md_F_level_48 hex (by decide) (by decide) (by decide) (by decide) hlk (by decide) (by decide)
        · skip
          refine lv_iload_n C.x C.b md_F_level_30 rfl (lv_at hl 2 rfl) ?_
          refine lv_aload_n C.x C.b md_F_level_31 rfl (lv_at hl 0 rfl) ?_
          refine lv_iload_n C.x C.b md_F_level_32 rfl (lv_at hl 1 rfl) ?_
          refine mf_cks (va_runV (As := [.int s0]) (rest := [.int k0]) C.f (k_F_countLevels l D k5 t0 A H x al tp due met ks s0 hC hpr) (mf_cV C mt_447 mt_444 mt_1 mt_446 ms_18 mh_F_countLevels ⟨by decide, by decide⟩) (mf_preV C.ev hS (mf_rv C (ci := 3) (N := 4) rfl hx)) rfl rfl hl.1 rfl (lv_room (Nat.le_of_ble_eq_true rfl)) md_F_level_33 ⟨by first | omega | exact Nat.le_of_ble_eq_true rfl, by first | omega | exact Nat.le_of_ble_eq_true rfl⟩) ?_
          refine lv_icmp_lt (tgt := 49) C.x C.b md_F_level_36 (by decide) (fun h5 => ?_) (fun h5 => ?_)
          · skip
            refine lv_aload_n C.x C.b md_F_level_49 rfl (lv_at hl 0 rfl) ?_
            refine lv_iload_n C.x C.b md_F_level_50 rfl (lv_at hl 1 rfl) ?_
            refine lv_iload_n C.x C.b md_F_level_51 rfl (lv_at hl 2 rfl) ?_
            have hc1 : (s0 = 0 ∨ s0 = 1) ∧ 0 ≤ w0 ∧ w0 ≤ 2 := ⟨of_decide_eq_true (mf_bI_1.mp h1), Int32.not_lt.mp h2, h3⟩
            have hc2 : 0 ≤ k0 ∧ k0 < (nI (mf_lv (fun b => mf_next s0 b (mf_L ks)) 40 (mf_next s0 0 (mf_L ks)) 0)) := ⟨Int32.not_lt.mp h4, h5⟩
            have hsp0 := congrArg (fun z : mf_A => z) (show mf_level s0 k0 w0 (mf_L ks, due, met, g) = _ from by unfold mf_level; rw [if_pos hc1, if_pos hc2])
            obtain ⟨kn, hkn, rfl⟩ := mf_nI_pos hc2.1
            rw [nI_clamp hkn] at hsp0
            refine mf_cks (va_runV (As := [.int s0, .int (nI kn)]) (rest := []) C.f (k_F_priceOfLevel l D k5 t0 A H x al tp due met ks s0 kn hC hpr hkn) (mf_cV C mt_480 mt_477 mt_1 mt_479 ms_20 mh_F_priceOfLevel ⟨by decide, by decide⟩) (mf_preV C.ev hS (mf_rv C (ci := 3) (N := 4) rfl hx)) rfl rfl hl.1 rfl (lv_room (Nat.le_of_ble_eq_true rfl)) md_F_level_52 ⟨by first | omega | exact Nat.le_of_ble_eq_true rfl, by first | omega | exact Nat.le_of_ble_eq_true rfl⟩) ?_
            refine lv_istore (lv' := [(4, .int (mf_it (fun b => mf_next s0 b (mf_L ks)) kn)), (0, .ref x), (1, .int s0), (2, .int (nI kn)), (3, .int w0)]) C.x C.b md_F_level_55 hl (by decide) rfl (fun ls hl => ?_)
            refine lv_iload_n C.x C.b md_F_level_57 rfl (lv_at hl 4 rfl) ?_
            by_cases hk0 : w0 = 0
            · refine lv_lookup (tgt := 84) (off := 26) C.x C.b md_F_level_58 (by decide) (by rw [hk0]; decide) (by decide) ?_
              refine lv_iload C.x C.b md_F_level_84 (lv_at hl 0 rfl) ?_
              have hsp : mf_level s0 (nI kn) w0 (mf_L ks, due, met, g) = (0, (mf_it (fun b => mf_next s0 b (mf_L ks)) kn)) := by refine hsp0.trans ?_; simp [hk0]
              rw [hsp]
              exact mf_xi rfl C.x C.b hr hlk md_F_level_86 hM mf_Eq.rf hH (fun q h => by cases h) (by decide) (by decide)
            by_cases hk1 : w0 = 1
            · refine lv_lookup (tgt := 87) (off := 29) C.x C.b md_F_level_58 (by decide) (by rw [hk1]; decide) (by decide) ?_
              refine lv_aload_n C.x C.b md_F_level_87 rfl (lv_at hl 1 rfl) ?_
              refine lv_iload_n C.x C.b md_F_level_88 rfl (lv_at hl 2 rfl) ?_
              refine lv_iload C.x C.b md_F_level_89 (lv_at hl 0 rfl) ?_
              refine mf_cks (va_runV (As := [.int s0, .int (mf_it (fun b => mf_next s0 b (mf_L ks)) kn)]) (rest := []) C.f (k_F_leftAt l D k5 t0 A H x al tp due met ks s0 (mf_it (fun b => mf_next s0 b (mf_L ks)) kn) hC) (mf_cV C mt_484 mt_481 mt_1 mt_483 ms_21 mh_F_leftAt ⟨by decide, by decide⟩) (mf_preV C.ev hS (mf_rv C (ci := 3) (N := 4) rfl hx)) rfl rfl hl.1 rfl (lv_room (Nat.le_of_ble_eq_true rfl)) md_F_level_91 ⟨by first | omega | exact Nat.le_of_ble_eq_true rfl, by first | omega | exact Nat.le_of_ble_eq_true rfl⟩) ?_
              have hsp : mf_level s0 (nI kn) w0 (mf_L ks, due, met, g) = (0, (mf_sum (fun r => if mf_at s0 (mf_it (fun b => mf_next s0 b (mf_L ks)) kn) r then mf_lf r else 0) (mf_L ks))) := by refine hsp0.trans ?_; simp [hk0, hk1]
              rw [hsp]
              exact mf_xi rfl C.x C.b hr hlk md_F_level_94 hM mf_Eq.rf hH (fun q h => by cases h) (by decide) (by decide)
            refine lv_lookup (tgt := 95) (off := 37) C.x C.b md_F_level_58 (by decide) ((lv_osw hk0 rfl).trans ((lv_osw hk1 rfl).trans rfl)) (by decide) ?_
            refine lv_aload_n C.x C.b md_F_level_95 rfl (lv_at hl 1 rfl) ?_
            refine lv_iload_n C.x C.b md_F_level_96 rfl (lv_at hl 2 rfl) ?_
            refine lv_iload C.x C.b md_F_level_97 (lv_at hl 0 rfl) ?_
            refine mf_cks (va_runV (As := [.int s0, .int (mf_it (fun b => mf_next s0 b (mf_L ks)) kn)]) (rest := []) C.f (k_F_ordersAt l D k5 t0 A H x al tp due met ks s0 (mf_it (fun b => mf_next s0 b (mf_L ks)) kn) hC) (mf_cV C mt_488 mt_485 mt_1 mt_487 ms_22 mh_F_ordersAt ⟨by decide, by decide⟩) (mf_preV C.ev hS (mf_rv C (ci := 3) (N := 4) rfl hx)) rfl rfl hl.1 rfl (lv_room (Nat.le_of_ble_eq_true rfl)) md_F_level_99 ⟨by first | omega | exact Nat.le_of_ble_eq_true rfl, by first | omega | exact Nat.le_of_ble_eq_true rfl⟩) ?_
            have hsp : mf_level s0 (nI kn) w0 (mf_L ks, due, met, g) = (0, (mf_sum (fun r => if mf_at s0 (mf_it (fun b => mf_next s0 b (mf_L ks)) kn) r then 1 else 0) (mf_L ks))) := by refine hsp0.trans ?_; simp [hk0, hk1]
            rw [hsp]
            exact mf_xi rfl C.x C.b hr hlk md_F_level_102 hM mf_Eq.rf hH (fun q h => by cases h) (by decide) (by decide)
          · skip
            have hsp : mf_level s0 k0 w0 (mf_L ks, due, met, g) = (2, 0) := by have e0 : (0 : Int32).toInt = 0 := (by decide); have e2 : (2 : Int32).toInt = 2 := (by decide); have e7 : (7 : Int32).toInt = 7 := (by decide); unfold mf_level; rw [if_pos ⟨of_decide_eq_true (mf_bI_1.mp h1), Int32.not_lt.mp h2, by have q := h3; first | exact q | (simp only [ge_iff_le, Int32.lt_iff_toInt_lt, Int32.le_iff_toInt_le, e0, e2, e7] at q ⊢; omega)⟩]; refine if_neg (fun z => ?_); have z1 := z.1; have z2 := z.2; first | exact absurd z1 (Int32.not_le.mpr h5) | exact absurd z2 h5
            rw [hsp]
            exact mf_thrO C hlt (Or.inr ⟨rfl, rfl⟩) (List.mem_of_getElem? (i := 9) rfl) hS (fun q hq => by rw [hH]) hl.1 md_F_level_39 md_F_level_42 md_F_level_43 md_F_level_45 md_F_level_48 hex (by decide) (by decide) (by decide) (by decide) hlk (by decide) (by decide)
      · skip
        have hsp : mf_level s0 k0 w0 (mf_L ks, due, met, g) = (1, 0) := by have e0 : (0 : Int32).toInt = 0 := (by decide); have e2 : (2 : Int32).toInt = 2 := (by decide); have e7 : (7 : Int32).toInt = 7 := (by decide); unfold mf_level; refine if_neg (fun z => ?_); have z1 := z.2.1; have z2 := z.2.2; simp only [ge_iff_le, Int32.lt_iff_toInt_lt, Int32.le_iff_toInt_le, e0, e2, e7] at z1 z2 h2 h3; omega
        rw [hsp]
        exact mf_thrI C hlt (Or.inl ⟨rfl, rfl⟩) (List.mem_of_getElem? (i := 8) rfl) hS (fun q hq => by rw [hH]) hl.1 md_F_level_16 md_F_level_19 md_F_level_20 md_F_level_22 md_F_level_25 hex (by decide) (by decide) (by decide) (by decide) hlk (by decide) (by decide)
set_option maxRecDepth 100000 in
set_option maxHeartbeats 4000000 in
theorem k_F_cancel (l : Launch) (D : va_G) (k5 : mf_k5) (t0 : Nat × Nat) (A : Nat → Prop) (H : Heap) (hlt : l.stackTraces = false) (x al tp : Nat) (i : Int32) (L : List mf_O) (due met : Int32) (g : mf_G) (hM : mf_SS D k5 t0 A H x al tp (L, due, met, g)) : mf_cX l my_F_cancel mc_F_cancel 3 (some .int) { frames := 6, cells := 1, slots := 6, locals := 106 } D (mf_tys k5) t0 A H [.ref x, .int i] ((mf_cancel i (L, due, met, g)).1.1 = 0) (some (.int (mf_cancel i (L, due, met, g)).1.2)) (fun H1 => mf_SS D k5 t0 A H1 x al tp (mf_cancel i (L, due, met, g)).2) (mf_fr A H [D.1 0, k5.1]) (fun E => ((mf_cancel i (L, due, met, g)).1.1 = 1 ∧ E = "java/util/NoSuchElementException")) 1 6 := by
  obtain ⟨ks, hL, hC, hT⟩ := id hM
  have hL : mf_L ks = L := hL
  have hC : mf_CL D k5 t0 A H x al tp due met ks := hC
  have hT : mf_TP D k5 A H tp g := hT
  obtain ⟨hx, hAx, hAL, hks, hnd⟩ := id hC
  obtain ⟨ed, mc, hal, hA1, hle, hor⟩ := id hAL
  rw [List.length_map] at hle
  subst hL
  obtain ⟨rw, rr, rf, rx, htp, hA3, hrest⟩ := id hT
  have hel : ∀ b ∈ ks.map (fun q => q.1), ∃ fs, va_at D mf_cl (b, .inr (1, fs)) H := fun b hb => by
    obtain ⟨q, hq1, hq2⟩ := List.mem_map.mp hb
    exact ⟨_, by rw [← hq2]; exact (hks q hq1).1⟩
  refine mf_ofX (by decide) (Nat.le_of_ble_eq_true rfl) ?_
  intro p e s m below meth c ls C hH hr hlk hnm hmt hl hS hex
  have hl : lv_has ls 3 [(0, .ref x), (1, .int i)] := hl
  refine lv_aload_n C.x C.b md_F_cancel_0 rfl (lv_at hl 0 rfl) ?_
  refine lv_iload_n C.x C.b md_F_cancel_1 rfl (lv_at hl 1 rfl) ?_
  refine mf_cks (va_runV (As := [.int i]) (rest := []) C.f (k_F_placeOf l D k5 t0 A H x al tp due met ks i hC) (mf_cV C mt_201 mt_198 mt_1 mt_200 ms_1 mh_F_placeOf ⟨by decide, by decide⟩) (mf_preV C.ev hS (mf_rv C (ci := 3) (N := 4) rfl hx)) rfl rfl hl.1 rfl (lv_room (Nat.le_of_ble_eq_true rfl)) md_F_cancel_2 ⟨by first | omega | exact Nat.le_of_ble_eq_true rfl, by first | omega | exact Nat.le_of_ble_eq_true rfl⟩) ?_
  rcases hp : mf_place i (mf_L ks) with _ | ⟨j, r⟩
  · rw [show mf_ix (none : Option (Nat × mf_O)) = -1 from rfl]
    refine lv_istore_n (lv' := [(2, .int (-1)), (0, .ref x), (1, .int i)]) C.x C.b md_F_cancel_5 rfl hl (by decide) rfl (fun ls hl => ?_)
    refine lv_iload_n C.x C.b md_F_cancel_6 rfl (lv_at hl 0 rfl) ?_
    refine lv_iconst (v := (-1)) C.x C.b md_F_cancel_7 (by decide) ?_
    refine lv_icmp_ne (tgt := 21) C.x C.b md_F_cancel_8 (by decide) (fun h1 => ?_) (fun h1 => ?_)
    · exact absurd h1 (Classical.not_not.mpr rfl)
    · skip
      have hsp : mf_cancel i (mf_L ks, due, met, g) = ((1, 0), mf_L ks, due, met, g) := by simp [mf_cancel, hp]
      rw [hsp]
      exact mf_thrN C hlt ⟨rfl, rfl⟩ (List.mem_of_getElem? (i := 5) rfl) hS (fun q hq => by rw [hH]) hl.1 md_F_cancel_11 md_F_cancel_14 md_F_cancel_15 md_F_cancel_17 md_F_cancel_20 hex (by decide) (by decide) (by decide) (by decide) hlk (by decide) (by decide)
  · rw [show mf_ix (some (j, r)) = nI j from rfl]
    obtain ⟨a, hq⟩ : ∃ a, ks[j]? = some (a, r) := mf_pick_ka hp
    have ha : va_at D mf_cl (a, .inr (1, mf_fs r)) H := (hks _ (List.mem_of_getElem? hq)).1
    have hAa : A a := (hks _ (List.mem_of_getElem? hq)).2
    have hjn : j < ks.length := (List.getElem?_eq_some_iff.mp hq).1
    refine lv_istore_n (lv' := [(2, .int (nI j)), (0, .ref x), (1, .int i)]) C.x C.b md_F_cancel_5 rfl hl (by decide) rfl (fun ls hl => ?_)
    refine lv_iload_n C.x C.b md_F_cancel_6 rfl (lv_at hl 0 rfl) ?_
    refine lv_iconst (v := (-1)) C.x C.b md_F_cancel_7 (by decide) ?_
    refine lv_icmp_ne (tgt := 21) C.x C.b md_F_cancel_8 (by decide) (fun h2 => ?_) (fun h2 => ?_)
    · skip
      refine lv_aload_n C.x C.b md_F_cancel_21 rfl (lv_at hl 1 rfl) ?_
      refine mf_gf C (ci := 3) (N := 4) rfl mi_F 0 (by decide) mt_84 hx (v := .ref al) rfl md_F_cancel_22 ?_
      refine lv_iload_n C.x C.b md_F_cancel_25 rfl (lv_at hl 0 rfl) ?_
      refine mf_cws (va_runV (As := [.int (nI j)]) (rest := []) C.f (k_A_remove l D k5 t0 A H al j a _ hAL (mf_kq hq) hel) (mf_cV C mt_312 mt_309 mt_4 mt_310 mt_311 mh_A_remove ⟨by decide, by decide⟩) (mf_preV C.ev hS (mf_rv C (ci := 0) (N := 3) rfl hal)) rfl rfl hl.1 rfl (lv_room (Nat.le_of_ble_eq_true rfl)) md_F_cancel_26 ⟨by first | omega | exact Nat.le_of_ble_eq_true rfl, by first | omega | exact Nat.le_of_ble_eq_true rfl⟩) hS (fun _ _ h => h.1) (fun H locs hB hz hk hS => ?_)
      have hE : mf_Eq A [D.1 0, k5.1] _ H := ⟨hz, hk⟩
      have hC1 := hC.er C.nd hE hB
      have hT1 := hT.cl C.nd hE (by simp)
      have ha1 := hE.ko ha (by simp [mf_nd C.nd (i := 1) (j := 0) rfl rfl (by decide), mf_nd C.nd (i := 1) (j := 5) rfl rfl (by decide)])
      refine mf_cast C (ci := 1) (N := 6) rfl mt_220 ha1 md_F_cancel_29 ?_
      refine mf_gfN C (ci := 1) (N := 6) rfl mi_O 5 (by decide) (C.ev.2.1.1 (81, "MatchFloor$Order", "left", "I") (List.mem_of_getElem? (i := 9) rfl)) ha1 (v := .int (mf_lf r)) rfl md_F_cancel_32 ?_
      have hsp : mf_cancel i (mf_L ks, due, met, g) = ((0, mf_lf r), (mf_L ks).eraseIdx j, due, met, g) := by simp [mf_cancel, hp]
      rw [hsp]
      exact mf_xi rfl C.x C.b hr hlk md_F_cancel_35 ⟨ks.eraseIdx j, (mf_map_erase _ _ _).symm, hC1, hT1⟩ hE hH hS.2.2 (by decide) (by decide)
    · exact absurd h2 (mf_nI_ne (by omega))
