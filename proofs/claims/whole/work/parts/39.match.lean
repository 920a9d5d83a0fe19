/-! MatchFloor: matching -/
theorem mf_meet_g (c : mf_O) (j : Nat) (r : mf_O) (st : mf_M) : (mf_meet c j r st).2.2.2.1 ≤ st.2.2.1 + 1 := by
  unfold mf_meet
  split
  · exact Nat.le_succ _
  · exact Nat.le_refl _
theorem mf_match_g (p : Int32) : ∀ (n : Nat) (c : mf_O) (st : mf_M), (mf_match n p c st).2.2.2.1 ≤ st.2.2.1 + n := by
  intro n
  induction n with
  | zero => intro c st; exact Nat.le_refl _
  | succ n ih =>
    intro c st
    rw [mf_match]
    split
    · split
      · exact Nat.le_add_right _ _
      · split
        · rename_i q _ _
          have h1 := ih (mf_meet c q.1 q.2 st).1 (mf_meet c q.1 q.2 st).2
          have h2 := mf_meet_g c q.1 q.2 st
          omega
        · exact Nat.le_add_right _ _
    · exact Nat.le_add_right _ _
set_option maxRecDepth 100000 in
set_option maxHeartbeats 4000000 in
theorem k_F_match (l : Launch) (D : va_G) (k5 : mf_k5) (t0 : Nat × Nat) (A : Nat → Prop) (H : Heap) (x al tp ca : Nat) (due p0 : Int32) (co : mf_O) (st : mf_M) (hM : mf_MS D k5 t0 A H x al tp ca due (co, st)) (hg : st.2.2.1 + 41 < 2 ^ 31) : mf_cWR l my_F_match mc_F_match 5 none { frames := 4, cells := 0, slots := 0, locals := 130 } D (mf_tys k5) t0 A H [.ref x, .ref ca, .int p0] none (fun H1 => mf_MS D k5 t0 A H1 x al tp ca due (mf_match 41 p0 co st)) (mf_fr A H (mf_cM D k5)) 0 0 := by
  refine mf_of (by decide) (Nat.le_of_ble_eq_true rfl) ?_
  intro p e s m below meth c ls C hH hr hlk hnm hmt hl hS
  have hl : lv_has ls 5 [(0, .ref x), (1, .ref ca), (2, .int p0)] := hl
  have loop : ∀ (n k : Nat) (ls : Array Slot) (H2 : Heap) (locs : List Loc) (cx : mf_O) (L : List mf_O) (met : Int32) (g : mf_G), n + k = 41 → mf_MS D k5 t0 A H2 x al tp ca due (cx, L, met, g) → g.1 + n < 2 ^ 31 → mf_Eq A (mf_cM D k5) H H2 → va_S A s.heap H2 locs → mf_match 41 p0 co st = mf_match n p0 cx (L, met, g) → lv_has ls 5 [(3, .int (nI k)), (0, .ref x), (1, .ref ca), (2, .int p0)] → W p l e ({ frames := 4, cells := 0, slots := 0, locals := 130 } : Room) s m (([.ref x, .ref ca, .int p0] : List Value).toArray) below meth c H2 locs 0 0 (MQ below (mf_Kw none (fun H1 => mf_MS D k5 t0 A H1 x al tp ca due (mf_match 41 p0 co st)) (mf_fr A H (mf_cM D k5))) (([.ref x, .ref ca, .int p0] : List Value).toArray) s 0 0 A) (F0 m 2 ls []) := by
    intro n
    induction n with
    | zero =>
      intro k ls H2 locs cx L met g hk hM hg hE hS hsp hl
      obtain rfl : k = 41 := by omega
      refine lv_iload_n C.x C.b md_F_match_2 rfl (lv_at hl 0 rfl) ?_
      refine lv_bipush (v := 40) C.x C.b md_F_match_3 (by decide) ?_
      refine lv_icmp_gt (tgt := 67) C.x C.b md_F_match_5 (by decide) (fun h1 => ?_) (fun h1 => ?_)
      · skip
        refine mf_wv C.x C.b hr hlk md_F_match_67 ?_ hE hH hS.2.2 (Nat.le_refl _) (Nat.le_refl _)
        rw [hsp, show mf_match 0 p0 cx (L, met, g) = (cx, L, met, g) from rfl]
        exact hM
      · exact absurd (by decide) h1
    | succ n ih =>
      intro k ls H2 locs cx L met g hk hM hg hE hS hsp hl
      obtain ⟨ks, hL, hC, hT, hca, hAc, hni⟩ := id hM
      have hL : mf_L ks = L := hL
      have hC : mf_CL D k5 t0 A H2 x al tp due met ks := hC
      have hT : mf_TP D k5 A H2 tp g := hT
      have hca : va_at D mf_cl (ca, .inr (1, mf_fs cx)) H2 := hca
      obtain ⟨hx, hAx, hAL, hks, hnd⟩ := id hC
      obtain ⟨ed, mc, hal, hA1, hle, hor⟩ := id hAL
      rw [List.length_map] at hle
      refine lv_iload_n C.x C.b md_F_match_2 rfl (lv_at hl 0 rfl) ?_
      refine lv_bipush (v := 40) C.x C.b md_F_match_3 (by decide) ?_
      refine lv_icmp_gt (tgt := 67) C.x C.b md_F_match_5 (by decide) (fun h2 => ?_) (fun h2 => ?_)
      · exact absurd h2 (nI_nlt (a := 40) (b := k) (by omega) (by decide))
      · skip
        refine lv_aload_n C.x C.b md_F_match_8 rfl (lv_at hl 2 rfl) ?_
        refine mf_gfN C (ci := 1) (N := 6) rfl mi_O 5 (by decide) (C.ev.2.1.1 (81, "MatchFloor$Order", "left", "I") (List.mem_of_getElem? (i := 9) rfl)) hca (v := .int (mf_lf cx)) rfl md_F_match_9 ?_
        refine lv_if_le (tgt := 67) C.x C.b md_F_match_12 (by decide) (fun h3 => ?_) (fun h3 => ?_)
        · skip
          refine mf_wv C.x C.b hr hlk md_F_match_67 ?_ hE hH hS.2.2 (Nat.le_refl _) (Nat.le_refl _)
          rw [hsp, show mf_match (n + 1) p0 cx (L, met, g) = (cx, L, met, g) from by unfold mf_match; rw [if_neg (Int32.not_lt.mpr h3)]]
          exact hM
        · skip
          have hpos := Int32.not_le.mp h3
          refine lv_aload_n C.x C.b md_F_match_15 rfl (lv_at hl 1 rfl) ?_
          refine lv_aload_n C.x C.b md_F_match_16 rfl (lv_at hl 2 rfl) ?_
          refine mf_gfN C (ci := 1) (N := 6) rfl mi_O 2 (by decide) (C.ev.2.1.1 (125, "MatchFloor$Order", "side", "I") (List.mem_of_getElem? (i := 6) rfl)) hca (v := .int (mf_sd cx)) rfl md_F_match_17 ?_
          refine mf_cks (va_runS (As := [.int (mf_sd cx)]) (rest := [.ref x]) C.f (k_F_otherSide l D k5 t0 A H2 (mf_sd cx)) (mf_cS C mt_278 mt_276 mt_1 mt_277 mh_F_otherSide ⟨by decide, by decide⟩) (mf_preS C.ev hS) rfl rfl hl.1 rfl (lv_room (Nat.le_of_ble_eq_true rfl)) md_F_match_20 ⟨by first | omega | exact Nat.le_of_ble_eq_true rfl, by first | omega | exact Nat.le_of_ble_eq_true rfl⟩) ?_
          refine mf_cks (va_runV (As := [.int (mf_other (mf_sd cx))]) (rest := []) C.f (k_F_placeOfFirst l D k5 t0 A H2 x al tp due met ks (mf_other (mf_sd cx)) hC) (mf_cV C mt_294 mt_291 mt_1 mt_293 ms_6 mh_F_placeOfFirst ⟨by decide, by decide⟩) (mf_preV C.ev hS (mf_rv C (ci := 3) (N := 4) rfl hx)) rfl rfl hl.1 rfl (lv_room (Nat.le_of_ble_eq_true rfl)) md_F_match_23 ⟨by first | omega | exact Nat.le_of_ble_eq_true rfl, by first | omega | exact Nat.le_of_ble_eq_true rfl⟩) ?_
          rw [hL]
          rcases hp : mf_first (mf_other (mf_sd cx)) L with _ | ⟨j, r⟩
          · skip
            show W p l e ({ frames := 4, cells := 0, slots := 0, locals := 130 } : Room) s m (([.ref x, .ref ca, .int p0] : List Value).toArray) below meth c H2 locs 0 0 (MQ below (mf_Kw none (fun H1 => mf_MS D k5 t0 A H1 x al tp ca due (mf_match 41 p0 co st)) (mf_fr A H (mf_cM D k5))) (([.ref x, .ref ca, .int p0] : List Value).toArray) s 0 0 A) (F0 m 26 ls [.int (-1)])
            refine lv_istore (lv' := [(4, .int (-1)), (3, .int (nI k)), (0, .ref x), (1, .ref ca), (2, .int p0)]) C.x C.b md_F_match_26 hl (by decide) rfl (fun ls hl => ?_)
            refine lv_iload C.x C.b md_F_match_28 (lv_at hl 0 rfl) ?_
            refine lv_iconst (v := (-1)) C.x C.b md_F_match_30 (by decide) ?_
            refine lv_icmp_eq (tgt := 53) C.x C.b md_F_match_31 (by decide) (fun h4 => ?_) (fun h4 => ?_)
            · skip
              refine mf_wv C.x C.b hr hlk md_F_match_53 ?_ hE hH hS.2.2 (Nat.le_refl _) (Nat.le_refl _)
              rw [hsp, show mf_match (n + 1) p0 cx (L, met, g) = (cx, L, met, g) from by unfold mf_match; rw [if_pos hpos]; dsimp only; rw [hp]]
              exact hM
            · exact absurd rfl h4
          · skip
            show W p l e ({ frames := 4, cells := 0, slots := 0, locals := 130 } : Room) s m (([.ref x, .ref ca, .int p0] : List Value).toArray) below meth c H2 locs 0 0 (MQ below (mf_Kw none (fun H1 => mf_MS D k5 t0 A H1 x al tp ca due (mf_match 41 p0 co st)) (mf_fr A H (mf_cM D k5))) (([.ref x, .ref ca, .int p0] : List Value).toArray) s 0 0 A) (F0 m 26 ls [.int (nI j)])
            have hjr : L[j]? = some r := ((mf_pick_in _ _ L).2 j r hp).1
            obtain ⟨a, hq⟩ : ∃ a, ks[j]? = some (a, r) := mf_ka_of (by rw [hL]; exact hjr)
            have ha : va_at D mf_cl (a, .inr (1, mf_fs r)) H2 := (hks _ (List.mem_of_getElem? hq)).1
            have hjn : j < ks.length := (List.getElem?_eq_some_iff.mp hq).1
            refine lv_istore (lv' := [(4, .int (nI j)), (3, .int (nI k)), (0, .ref x), (1, .ref ca), (2, .int p0)]) C.x C.b md_F_match_26 hl (by decide) rfl (fun ls hl => ?_)
            refine lv_iload C.x C.b md_F_match_28 (lv_at hl 0 rfl) ?_
            refine lv_iconst (v := (-1)) C.x C.b md_F_match_30 (by decide) ?_
            refine lv_icmp_eq (tgt := 53) C.x C.b md_F_match_31 (by decide) (fun h5 => ?_) (fun h5 => ?_)
            · exact absurd h5 (mf_nI_ne (by omega))
            · skip
              refine lv_aload_n C.x C.b md_F_match_34 rfl (lv_at hl 2 rfl) ?_
              refine mf_gf C (ci := 3) (N := 4) rfl mi_F 0 (by decide) mt_84 hx (v := .ref al) rfl md_F_match_35 ?_
              refine lv_iload C.x C.b md_F_match_38 (lv_at hl 0 rfl) ?_
              refine mf_cks (va_runV (As := [.int (nI j)]) (rest := []) C.f (k_A_get l D k5 t0 A H2 al j a _ hAL (mf_kq hq)) (mf_cV C mt_209 mt_206 mt_4 mt_207 mt_208 mh_A_get ⟨by decide, by decide⟩) (mf_preV C.ev hS (mf_rv C (ci := 0) (N := 3) rfl hal)) rfl rfl hl.1 rfl (lv_room (Nat.le_of_ble_eq_true rfl)) md_F_match_40 ⟨by first | omega | exact Nat.le_of_ble_eq_true rfl, by first | omega | exact Nat.le_of_ble_eq_true rfl⟩) ?_
              refine mf_cast C (ci := 1) (N := 6) rfl mt_220 ha md_F_match_43 ?_
              refine lv_iload_n C.x C.b md_F_match_46 rfl (lv_at hl 4 rfl) ?_
              refine mf_cks (va_runVN (As := [.int p0]) (rest := []) C.f (k_O_isFitBy l D k5 t0 A H2 a r p0 ha) ⟨mf_cN C mt_286 (C.ev.2.1.2.1 ("MatchFloor", 186, my_O_isFitBy) (List.mem_of_getElem? (i := 3) rfl)) mt_14 mh_O_isFitBy ⟨by decide, by decide⟩, C.t mt_285, C.t ms_5⟩ (mf_preV C.ev hS (mf_rv C (ci := 1) (N := 6) rfl ha)) rfl rfl hl.1 rfl (lv_room (Nat.le_of_ble_eq_true rfl)) md_F_match_47 ⟨by first | omega | exact Nat.le_of_ble_eq_true rfl, by first | omega | exact Nat.le_of_ble_eq_true rfl⟩) ?_
              refine lv_if_ne (tgt := 54) C.x C.b md_F_match_50 (by decide) (fun h6 => ?_) (fun h6 => ?_)
              · skip
                have hfit := mf_bI_1.mp h6
                refine lv_aload_n C.x C.b md_F_match_54 rfl (lv_at hl 2 rfl) ?_
                refine lv_aload_n C.x C.b md_F_match_55 rfl (lv_at hl 3 rfl) ?_
                refine lv_iload C.x C.b md_F_match_56 (lv_at hl 0 rfl) ?_
                refine mf_cwn (va_runV (As := [.ref ca, .int (nI j)]) (rest := []) C.f (k_F_meet l D k5 t0 A H2 x al tp ca j due met cx r L g hM hjr (by omega)) (mf_cV C mt_308 mt_305 mt_1 mt_307 ms_9 mh_F_meet ⟨by decide, by decide⟩) (mf_preV C.ev hS (mf_rv C (ci := 3) (N := 4) rfl hx)) rfl rfl hl.1 rfl (lv_room (Nat.le_of_ble_eq_true rfl)) md_F_match_58 ⟨by first | omega | exact Nat.le_of_ble_eq_true rfl, by first | omega | exact Nat.le_of_ble_eq_true rfl⟩) hS (fun _ _ h => h.1) (fun H locs hB hz hk2 hS => ?_)
                refine lv_iinc (k := 1) (v := nI (k + 1)) (lv' := [(3, .int (nI (k + 1))), (4, .int (nI j)), (0, .ref x), (1, .ref ca), (2, .int p0)]) C.x C.b md_F_match_61 hl rfl (nI_1 _) (by decide) rfl (fun ls hl => ?_)
                refine lv_goto (tgt := 2) C.x C.b md_F_match_64 (by decide) ?_
                have hE2 : mf_Eq A (mf_cM D k5) _ H := ⟨hz, hk2⟩
                have hgn := mf_meet_g cx j r (L, met, g)
                obtain ⟨⟨c1, L1, met1, g1⟩, hq1⟩ : ∃ q, mf_meet cx j r (L, met, g) = q := ⟨_, rfl⟩
                rw [hq1] at hB hgn
                have hgn : g1.1 ≤ g.1 + 1 := hgn
                refine ih (k + 1) ls _ _ c1 L1 met1 g1 (by omega) hB (by omega) (hE.tr (L := mf_cM D k5) hE2 (fun _ h => h) (fun _ h => h)) hS ?_ (lv_sub hl [0, 2, 3, 4] rfl)
                rw [hsp]
                show mf_match (n + 1) p0 cx (L, met, g) = _
                rw [mf_match, if_pos hpos]
                dsimp only
                rw [hp]
                dsimp only
                rw [if_pos hfit, hq1]
              · skip
                refine mf_wv C.x C.b hr hlk md_F_match_53 ?_ hE hH hS.2.2 (Nat.le_refl _) (Nat.le_refl _)
                rw [hsp, show mf_match (n + 1) p0 cx (L, met, g) = (cx, L, met, g) from by unfold mf_match; rw [if_pos hpos]; dsimp only; rw [hp]; dsimp only; rw [if_neg (by rw [mf_bI_0.mp h6]; decide)]]
                exact hM
  refine lv_iconst (v := 0) C.x C.b md_F_match_0 (by decide) ?_
  refine lv_istore_n (lv' := [(3, .int 0), (0, .ref x), (1, .ref ca), (2, .int p0)]) C.x C.b md_F_match_1 rfl hl (by decide) rfl (fun ls hl => ?_)
  obtain ⟨L, met, g⟩ := st
  exact loop 41 0 ls H [] co L met g rfl hM hg mf_Eq.rf hS rfl (lv_sub hl [0, 1, 2, 3] rfl)
