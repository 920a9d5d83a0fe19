/-! MatchFloor: withdraw, amend -/
set_option maxRecDepth 100000 in
set_option maxHeartbeats 4000000 in
theorem k_F_withdraw (l : Launch) (D : va_G) (k5 : mf_k5) (t0 : Nat × Nat) (A : Nat → Prop) (H : Heap) (hlt : l.stackTraces = false) (x al tp : Nat) (o : Int32) (L : List mf_O) (due met : Int32) (g : mf_G) (hM : mf_SS D k5 t0 A H x al tp (L, due, met, g)) : mf_cX l my_F_withdraw mc_F_withdraw 4 (some .int) { frames := 6, cells := 1, slots := 6, locals := 106 } D (mf_tys k5) t0 A H [.ref x, .int o] ((mf_withdraw o (L, due, met, g)).1.1 = 0) (some (.int (mf_withdraw o (L, due, met, g)).1.2)) (fun H1 => mf_SS D k5 t0 A H1 x al tp (mf_withdraw o (L, due, met, g)).2) (mf_fr A H [D.1 0, k5.1]) (fun E => ((mf_withdraw o (L, due, met, g)).1.1 = 1 ∧ E = "java/lang/IllegalArgumentException")) 1 6 := by
  obtain ⟨ks, hL, hC, hT⟩ := id hM
  have hL : mf_L ks = L := hL
  have hC : mf_CL D k5 t0 A H x al tp due met ks := hC
  have hT : mf_TP D k5 A H tp g := hT
  obtain ⟨hx, hAx, hAL, hks, hnd⟩ := id hC
  obtain ⟨ed, mc, hal, hA1, hle, hor⟩ := id hAL
  rw [List.length_map] at hle
  subst hL
  obtain ⟨rw, rr, rf, rx, htp, hA3, hrest⟩ := id hT
  refine mf_ofX (by decide) (Nat.le_of_ble_eq_true rfl) ?_
  intro p e s m below meth c ls C hH hr hlk hnm hmt hl hS hex
  have hl : lv_has ls 4 [(0, .ref x), (1, .int o)] := hl
  refine lv_iload_n C.x C.b md_F_withdraw_0 rfl (lv_at hl 1 rfl) ?_
  refine lv_if_lt (tgt := 10) C.x C.b md_F_withdraw_1 (by decide) (fun h1 => ?_) (fun h1 => ?_)
  · skip
    have hsp : mf_withdraw o (mf_L ks, due, met, g) = ((1, 0), mf_L ks, due, met, g) := by have e0 : (0 : Int32).toInt = 0 := (by decide); have e2 : (2 : Int32).toInt = 2 := (by decide); have e7 : (7 : Int32).toInt = 7 := (by decide); unfold mf_withdraw; refine if_neg (fun z => ?_); have z1 := z.1; have z2 := z.2; simp only [ge_iff_le, Int32.lt_iff_toInt_lt, Int32.le_iff_toInt_le, e0, e2, e7] at z1 z2 h1; omega
    rw [hsp]
    exact mf_thrI C hlt ⟨rfl, rfl⟩ (List.mem_of_getElem? (i := 6) rfl) hS (fun q hq => by rw [hH]) hl.1 md_F_withdraw_10 md_F_withdraw_13 md_F_withdraw_14 md_F_withdraw_16 md_F_withdraw_19 hex (by decide) (by decide) (by decide) (by decide) hlk (by decide) (by decide)
  · skip
    refine lv_iload_n C.x C.b md_F_withdraw_4 rfl (lv_at hl 1 rfl) ?_
    refine lv_bipush (v := 7) C.x C.b md_F_withdraw_5 (by decide) ?_
    refine lv_icmp_le (tgt := 20) C.x C.b md_F_withdraw_7 (by decide) (fun h2 => ?_) (fun h2 => ?_)
    · skip
      refine lv_aload_n C.x C.b md_F_withdraw_20 rfl (lv_at hl 0 rfl) ?_
      refine mf_gf C (ci := 3) (N := 4) rfl mi_F 0 (by decide) mt_84 hx (v := .ref al) rfl md_F_withdraw_21 ?_
      refine mf_cks (va_runV (As := []) (rest := []) C.f (k_A_size l D k5 t0 A H al _ hAL) (mf_cV C mt_205 mt_202 mt_4 mt_203 mt_204 mh_A_size ⟨by decide, by decide⟩) (mf_preV C.ev hS (mf_rv C (ci := 0) (N := 3) rfl hal)) rfl rfl hl.1 rfl (lv_room (Nat.le_of_ble_eq_true rfl)) md_F_withdraw_24 ⟨by first | omega | exact Nat.le_of_ble_eq_true rfl, by first | omega | exact Nat.le_of_ble_eq_true rfl⟩) ?_
      rw [List.length_map]
      refine lv_istore_n (lv' := [(2, .int (nI ks.length)), (0, .ref x), (1, .int o)]) C.x C.b md_F_withdraw_27 rfl hl (by decide) rfl (fun ls hl => ?_)
      refine lv_iload_n C.x C.b md_F_withdraw_28 rfl (lv_at hl 0 rfl) ?_
      refine lv_iconst (v := 1) C.x C.b md_F_withdraw_29 (by decide) ?_
      refine lv_isub C.x C.b md_F_withdraw_30 ?_
      refine lv_istore_n (lv' := [(3, .int ((nI ks.length) - 1)), (2, .int (nI ks.length)), (0, .ref x), (1, .int o)]) C.x C.b md_F_withdraw_31 rfl hl (by decide) rfl (fun ls hl => ?_)
      have hrg : 0 ≤ o ∧ o ≤ 7 := ⟨Int32.not_lt.mp h1, h2⟩
      have hsp : mf_withdraw o (mf_L ks, due, met, g) = ((0, nI ks.length - nI (mf_wd o ks.length (mf_L ks)).length), mf_wd o ks.length (mf_L ks), due, met, g) := by unfold mf_withdraw; rw [if_pos hrg]; simp only [List.length_map]
      rw [hsp]
      have loop : ∀ (k : Nat) (ls : Array Slot) (H2 : Heap) (locs : List Loc) (k2 : List (Nat × mf_O)), mf_CL D k5 t0 A H2 x al tp due met k2 → mf_TP D k5 A H2 tp g → k ≤ k2.length → mf_Eq A [D.1 0, k5.1] H H2 → va_S A s.heap H2 locs → mf_wd o ks.length (mf_L ks) = mf_wd o k (mf_L k2) → lv_has ls 4 [(3, .int (nI k - 1)), (2, .int (nI ks.length)), (0, .ref x), (1, .int o)] → W p l e ({ frames := 6, cells := 1, slots := 6, locals := 106 } : Room) s m (([.ref x, .int o] : List Value).toArray) below meth c H2 locs 0 0 (vx_MQ below (mf_Kx (((((0, nI ks.length - nI (mf_wd o ks.length (mf_L ks)).length), mf_wd o ks.length (mf_L ks), due, met, g) : mf_A × mf_S)).1.1 = 0) (some (.int ((((0, nI ks.length - nI (mf_wd o ks.length (mf_L ks)).length), mf_wd o ks.length (mf_L ks), due, met, g) : mf_A × mf_S)).1.2)) (fun H1 => mf_SS D k5 t0 A H1 x al tp ((((0, nI ks.length - nI (mf_wd o ks.length (mf_L ks)).length), mf_wd o ks.length (mf_L ks), due, met, g) : mf_A × mf_S)).2) (mf_fr A H [D.1 0, k5.1])) (mf_XC (fun E => ((((0, nI ks.length - nI (mf_wd o ks.length (mf_L ks)).length), mf_wd o ks.length (mf_L ks), due, met, g) : mf_A × mf_S).1.1 = 1 ∧ E = "java/lang/IllegalArgumentException"))) (([.ref x, .int o] : List Value).toArray) s 1 6 A) (F0 m 32 ls []) := by
        intro k
        induction k with
        | zero =>
          intro ls H2 locs k2 hC2 hT2 hk2 hE hS hw hl
          obtain ⟨ed2, mc2, hal2, hA2, hle2, -⟩ := id hC2.2.2.1
          refine lv_iload_n C.x C.b md_F_withdraw_32 rfl (lv_at hl 0 rfl) ?_
          refine lv_if_lt (tgt := 69) C.x C.b md_F_withdraw_33 (by decide) (fun h3 => ?_) (fun h3 => ?_)
          · skip
            refine lv_iload_n C.x C.b md_F_withdraw_69 rfl (lv_at hl 1 rfl) ?_
            refine lv_aload_n C.x C.b md_F_withdraw_70 rfl (lv_at hl 2 rfl) ?_
            refine mf_gf C (ci := 3) (N := 4) rfl mi_F 0 (by decide) mt_84 hC2.1 (v := .ref al) rfl md_F_withdraw_71 ?_
            refine mf_cks (va_runV (As := []) (rest := [.int (nI ks.length)]) C.f (k_A_size l D k5 t0 A H2 al _ hC2.2.2.1) (mf_cV C mt_205 mt_202 mt_4 mt_203 mt_204 mh_A_size ⟨by decide, by decide⟩) (mf_preV C.ev hS (mf_rv C (ci := 0) (N := 3) rfl hal2)) rfl rfl hl.1 rfl (lv_room (Nat.le_of_ble_eq_true rfl)) md_F_withdraw_74 ⟨by first | omega | exact Nat.le_of_ble_eq_true rfl, by first | omega | exact Nat.le_of_ble_eq_true rfl⟩) ?_
            rw [List.length_map]
            refine lv_isub C.x C.b md_F_withdraw_77 ?_
            rw [show mf_wd o ks.length (mf_L ks) = mf_L k2 from hw, show (mf_L k2).length = k2.length from List.length_map _]
            exact mf_xi rfl C.x C.b hr hlk md_F_withdraw_78 ⟨k2, rfl, hC2, hT2⟩ hE hH hS.2.2 (by decide) (by decide)
          · exact absurd (by decide) h3
        | succ k ih =>
          intro ls H2 locs k2 hC2 hT2 hk2 hE hS hw hl
          rw [nI_pred] at hl
          obtain ⟨ed2, mc2, hal2, hA2, hle2, -⟩ := id hC2.2.2.1
          rw [List.length_map] at hle2
          obtain ⟨⟨a, r⟩, hq⟩ := mf_at_lt (l := k2) (k := k) (by omega)
          have ha : va_at D mf_cl (a, .inr (1, mf_fs r)) H2 := (hC2.2.2.2.1 _ (List.mem_of_getElem? hq)).1
          have hel : ∀ b ∈ k2.map (fun q => q.1), ∃ fs, va_at D mf_cl (b, .inr (1, fs)) H2 := fun b hb => by
            obtain ⟨q, hq1, hq2⟩ := List.mem_map.mp hb
            exact ⟨_, by rw [← hq2]; exact (hC2.2.2.2.1 q hq1).1⟩
          refine lv_iload_n C.x C.b md_F_withdraw_32 rfl (lv_at hl 0 rfl) ?_
          refine lv_if_lt (tgt := 69) C.x C.b md_F_withdraw_33 (by decide) (fun h4 => ?_) (fun h4 => ?_)
          · exact absurd h4 (nI_pos (by omega))
          · skip
            refine lv_aload_n C.x C.b md_F_withdraw_36 rfl (lv_at hl 2 rfl) ?_
            refine mf_gf C (ci := 3) (N := 4) rfl mi_F 0 (by decide) mt_84 hC2.1 (v := .ref al) rfl md_F_withdraw_37 ?_
            refine lv_iload_n C.x C.b md_F_withdraw_40 rfl (lv_at hl 0 rfl) ?_
            refine mf_cks (va_runV (As := [.int (nI k)]) (rest := []) C.f (k_A_get l D k5 t0 A H2 al k a _ hC2.2.2.1 (mf_kq hq)) (mf_cV C mt_209 mt_206 mt_4 mt_207 mt_208 mh_A_get ⟨by decide, by decide⟩) (mf_preV C.ev hS (mf_rv C (ci := 0) (N := 3) rfl hal2)) rfl rfl hl.1 rfl (lv_room (Nat.le_of_ble_eq_true rfl)) md_F_withdraw_41 ⟨by first | omega | exact Nat.le_of_ble_eq_true rfl, by first | omega | exact Nat.le_of_ble_eq_true rfl⟩) ?_
            refine mf_cast C (ci := 1) (N := 6) rfl mt_220 ha md_F_withdraw_44 ?_
            refine mf_gfN C (ci := 1) (N := 6) rfl mi_O 1 (by decide) (C.ev.2.1.1 (97, "MatchFloor$Order", "owner", "I") (List.mem_of_getElem? (i := 5) rfl)) ha (v := .int (mf_ow r)) rfl md_F_withdraw_47 ?_
            refine lv_iload_n C.x C.b md_F_withdraw_50 rfl (lv_at hl 3 rfl) ?_
            refine lv_icmp_ne (tgt := 63) C.x C.b md_F_withdraw_51 (by decide) (fun h5 => ?_) (fun h5 => ?_)
            · skip
              refine lv_iinc (k := 0) (v := (nI k) + (-1)) (lv' := [(3, .int ((nI k) + (-1))), (2, .int (nI ks.length)), (0, .ref x), (1, .int o)]) C.x C.b md_F_withdraw_63 hl rfl rfl (by decide) rfl (fun ls hl => ?_)
              refine lv_goto (tgt := 32) C.x C.b md_F_withdraw_66 (by decide) ?_
              rw [show nI k + -1 = nI k - 1 from (Int32.sub_eq_add_neg _ _).symm] at hl
              exact ih ls _ _ k2 hC2 hT2 (by omega) hE hS (hw.trans (by rw [mf_wd, mf_kl hq]; dsimp only; rw [if_neg h5])) (lv_sub hl [0, 1, 2, 3] rfl)
            · skip
              refine lv_aload_n C.x C.b md_F_withdraw_54 rfl (lv_at hl 2 rfl) ?_
              refine mf_gf C (ci := 3) (N := 4) rfl mi_F 0 (by decide) mt_84 hC2.1 (v := .ref al) rfl md_F_withdraw_55 ?_
              refine lv_iload_n C.x C.b md_F_withdraw_58 rfl (lv_at hl 0 rfl) ?_
              refine mf_cws (va_runV (As := [.int (nI k)]) (rest := []) C.f (k_A_remove l D k5 t0 A H2 al k a _ hC2.2.2.1 (mf_kq hq) hel) (mf_cV C mt_312 mt_309 mt_4 mt_310 mt_311 mh_A_remove ⟨by decide, by decide⟩) (mf_preV C.ev hS (mf_rv C (ci := 0) (N := 3) rfl hal2)) rfl rfl hl.1 rfl (lv_room (Nat.le_of_ble_eq_true rfl)) md_F_withdraw_59 ⟨by first | omega | exact Nat.le_of_ble_eq_true rfl, by first | omega | exact Nat.le_of_ble_eq_true rfl⟩) hS (fun _ _ h => h.1) (fun H locs hB hz hk3 hS => ?_)
              have hE3 : mf_Eq A [D.1 0, k5.1] H2 H := ⟨hz, hk3⟩
              have hC3 := hC2.er C.nd hE3 hB
              have hT3 := hT2.cl C.nd hE3 (by simp)
              have hln := mf_erase_len hq
              refine lv_pop C.x C.b md_F_withdraw_62 rfl ?_
              refine lv_iinc (k := 0) (v := (nI k) + (-1)) (lv' := [(3, .int ((nI k) + (-1))), (2, .int (nI ks.length)), (0, .ref x), (1, .int o)]) C.x C.b md_F_withdraw_63 hl rfl rfl (by decide) rfl (fun ls hl => ?_)
              refine lv_goto (tgt := 32) C.x C.b md_F_withdraw_66 (by decide) ?_
              rw [show nI k + -1 = nI k - 1 from (Int32.sub_eq_add_neg _ _).symm] at hl
              exact ih ls _ _ (k2.eraseIdx k) hC3 hT3 (by omega) (hE.tr (L := [D.1 0, k5.1]) hE3 (fun _ h => h) (fun _ h => h)) hS (hw.trans (by rw [mf_wd, mf_kl hq]; dsimp only; rw [if_pos h5, mf_map_erase])) (lv_sub hl [0, 1, 2, 3] rfl)
      exact loop ks.length ls H [] ks hC hT (Nat.le_refl _) mf_Eq.rf hS rfl (lv_sub hl [0, 1, 2, 3] rfl)
    · skip
      have hsp : mf_withdraw o (mf_L ks, due, met, g) = ((1, 0), mf_L ks, due, met, g) := by have e0 : (0 : Int32).toInt = 0 := (by decide); have e2 : (2 : Int32).toInt = 2 := (by decide); have e7 : (7 : Int32).toInt = 7 := (by decide); unfold mf_withdraw; refine if_neg (fun z => ?_); have z1 := z.1; have z2 := z.2; simp only [ge_iff_le, Int32.lt_iff_toInt_lt, Int32.le_iff_toInt_le, e0, e2, e7] at z1 z2 h1 h2; omega
      rw [hsp]
      exact mf_thrI C hlt ⟨rfl, rfl⟩ (List.mem_of_getElem? (i := 6) rfl) hS (fun q hq => by rw [hH]) hl.1 md_F_withdraw_10 md_F_withdraw_13 md_F_withdraw_14 md_F_withdraw_16 md_F_withdraw_19 hex (by decide) (by decide) (by decide) (by decide) hlk (by decide) (by decide)
set_option maxRecDepth 100000 in
set_option maxHeartbeats 4000000 in
theorem k_F_amend (l : Launch) (D : va_G) (k5 : mf_k5) (t0 : Nat × Nat) (A : Nat → Prop) (H : Heap) (hlt : l.stackTraces = false) (x al tp : Nat) (i p0 q0 : Int32) (L : List mf_O) (due met : Int32) (g : mf_G) (hM : mf_SS D k5 t0 A H x al tp (L, due, met, g)) (hg : g.1 + 41 * 41 < 2 ^ 31) : mf_cX l my_F_amend mc_F_amend 6 (some .int) { frames := 8, cells := 1, slots := 60, locals := 216 } D (mf_tys k5) t0 A H [.ref x, .int i, .int p0, .int q0] ((mf_amend i p0 q0 (L, due, met, g)).1.1 = 0) (some (.int (mf_amend i p0 q0 (L, due, met, g)).1.2)) (fun H1 => mf_SS D k5 t0 A H1 x al tp (mf_amend i p0 q0 (L, due, met, g)).2) (mf_fr A H (mf_cM D k5)) (fun E => ((mf_amend i p0 q0 (L, due, met, g)).1.1 = 1 ∧ E = "java/lang/IllegalArgumentException") ∨ ((mf_amend i p0 q0 (L, due, met, g)).1.1 = 2 ∧ E = "java/util/NoSuchElementException")) 1 60 := by
  obtain ⟨ks, hL, hC, hT⟩ := id hM
  have hL : mf_L ks = L := hL
  have hC : mf_CL D k5 t0 A H x al tp due met ks := hC
  have hT : mf_TP D k5 A H tp g := hT
  obtain ⟨hx, hAx, hAL, hks, hnd⟩ := id hC
  obtain ⟨ed, mc, hal, hA1, hle, hor⟩ := id hAL
  rw [List.length_map] at hle
  subst hL
  obtain ⟨rw, rr, rf, rx, htp, hA3, hrest⟩ := id hT
  have hel : ∀ b ∈ ks.map (fun q => q.1), ∃ fs, va_at D mf_cl (b, .inr (1, fs)) H := fun b hb => by
    obtain ⟨q, hq1, hq2⟩ := List.mem_map.mp hb
    exact ⟨_, by rw [← hq2]; exact (hks q hq1).1⟩
  refine mf_ofX (by decide) (Nat.le_of_ble_eq_true rfl) ?_
  intro p e s m below meth c ls C hH hr hlk hnm hmt hl hS hex
  have hl : lv_has ls 6 [(0, .ref x), (1, .int i), (2, .int p0), (3, .int q0)] := hl
  refine lv_iload_n C.x C.b md_F_amend_0 rfl (lv_at hl 2 rfl) ?_
  refine mf_cks (va_runS (As := [.int p0]) (rest := []) C.f (k_F_isPrice l D k5 t0 A H p0) (mf_cS C mt_192 mt_190 mt_1 mt_191 mh_F_isPrice ⟨by decide, by decide⟩) (mf_preS C.ev hS) rfl rfl hl.1 rfl (lv_room (Nat.le_of_ble_eq_true rfl)) md_F_amend_1 ⟨by first | omega | exact Nat.le_of_ble_eq_true rfl, by first | omega | exact Nat.le_of_ble_eq_true rfl⟩) ?_
  refine lv_if_eq (tgt := 14) C.x C.b md_F_amend_4 (by decide) (fun h1 => ?_) (fun h1 => ?_)
  · skip
    have hsp : mf_amend i p0 q0 (mf_L ks, due, met, g) = ((1, 0), mf_L ks, due, met, g) := by unfold mf_amend; exact if_neg (by simp [mf_bI_0.mp h1])
    rw [hsp]
    exact mf_thrI C hlt (Or.inl ⟨rfl, rfl⟩) (List.mem_of_getElem? (i := 1) rfl) hS (fun q hq => by rw [hH]) hl.1 md_F_amend_14 md_F_amend_17 md_F_amend_18 md_F_amend_20 md_F_amend_23 hex (by decide) (by decide) (by decide) (by decide) hlk (by decide) (by decide)
  · skip
    refine lv_iload_n C.x C.b md_F_amend_7 rfl (lv_at hl 3 rfl) ?_
    refine mf_cks (va_runS (As := [.int q0]) (rest := []) C.f (k_F_isQuantity l D k5 t0 A H q0) (mf_cS C mt_195 mt_193 mt_1 mt_194 mh_F_isQuantity ⟨by decide, by decide⟩) (mf_preS C.ev hS) rfl rfl hl.1 rfl (lv_room (Nat.le_of_ble_eq_true rfl)) md_F_amend_8 ⟨by first | omega | exact Nat.le_of_ble_eq_true rfl, by first | omega | exact Nat.le_of_ble_eq_true rfl⟩) ?_
    refine lv_if_ne (tgt := 24) C.x C.b md_F_amend_11 (by decide) (fun h2 => ?_) (fun h2 => ?_)
    · skip
      refine lv_aload_n C.x C.b md_F_amend_24 rfl (lv_at hl 0 rfl) ?_
      refine lv_iload_n C.x C.b md_F_amend_25 rfl (lv_at hl 1 rfl) ?_
      refine mf_cks (va_runV (As := [.int i]) (rest := []) C.f (k_F_placeOf l D k5 t0 A H x al tp due met ks i hC) (mf_cV C mt_201 mt_198 mt_1 mt_200 ms_1 mh_F_placeOf ⟨by decide, by decide⟩) (mf_preV C.ev hS (mf_rv C (ci := 3) (N := 4) rfl hx)) rfl rfl hl.1 rfl (lv_room (Nat.le_of_ble_eq_true rfl)) md_F_amend_26 ⟨by first | omega | exact Nat.le_of_ble_eq_true rfl, by first | omega | exact Nat.le_of_ble_eq_true rfl⟩) ?_
      rcases hp : mf_place i (mf_L ks) with _ | ⟨j, r⟩
      · rw [show mf_ix (none : Option (Nat × mf_O)) = -1 from rfl]
        refine lv_istore (lv' := [(4, .int (-1)), (0, .ref x), (1, .int i), (2, .int p0), (3, .int q0)]) C.x C.b md_F_amend_29 hl (by decide) rfl (fun ls hl => ?_)
        refine lv_iload C.x C.b md_F_amend_31 (lv_at hl 0 rfl) ?_
        refine lv_iconst (v := (-1)) C.x C.b md_F_amend_33 (by decide) ?_
        refine lv_icmp_ne (tgt := 47) C.x C.b md_F_amend_34 (by decide) (fun h3 => ?_) (fun h3 => ?_)
        · exact absurd h3 (Classical.not_not.mpr rfl)
        · skip
          have hsp : mf_amend i p0 q0 (mf_L ks, due, met, g) = ((2, 0), mf_L ks, due, met, g) := by unfold mf_amend; rw [if_pos (by simp [mf_bI_1.mp h1, mf_bI_1.mp h2, h3])]; dsimp only; rw [hp]
          rw [hsp]
          exact mf_thrN C hlt (Or.inr ⟨rfl, rfl⟩) (List.mem_of_getElem? (i := 5) rfl) hS (fun q hq => by rw [hH]) hl.1 md_F_amend_37 md_F_amend_40 md_F_amend_41 md_F_amend_43 md_F_amend_46 hex (by decide) (by decide) (by decide) (by decide) hlk (by decide) (by decide)
      · rw [show mf_ix (some (j, r)) = nI j from rfl]
        obtain ⟨a, hq⟩ : ∃ a, ks[j]? = some (a, r) := mf_pick_ka hp
        have ha : va_at D mf_cl (a, .inr (1, mf_fs r)) H := (hks _ (List.mem_of_getElem? hq)).1
        have hAa : A a := (hks _ (List.mem_of_getElem? hq)).2
        have hjn : j < ks.length := (List.getElem?_eq_some_iff.mp hq).1
        refine lv_istore (lv' := [(4, .int (nI j)), (0, .ref x), (1, .int i), (2, .int p0), (3, .int q0)]) C.x C.b md_F_amend_29 hl (by decide) rfl (fun ls hl => ?_)
        refine lv_iload C.x C.b md_F_amend_31 (lv_at hl 0 rfl) ?_
        refine lv_iconst (v := (-1)) C.x C.b md_F_amend_33 (by decide) ?_
        refine lv_icmp_ne (tgt := 47) C.x C.b md_F_amend_34 (by decide) (fun h4 => ?_) (fun h4 => ?_)
        · skip
          refine lv_aload_n C.x C.b md_F_amend_47 rfl (lv_at hl 1 rfl) ?_
          refine mf_gf C (ci := 3) (N := 4) rfl mi_F 0 (by decide) mt_84 hx (v := .ref al) rfl md_F_amend_48 ?_
          refine lv_iload C.x C.b md_F_amend_51 (lv_at hl 0 rfl) ?_
          refine mf_cks (va_runV (As := [.int (nI j)]) (rest := []) C.f (k_A_get l D k5 t0 A H al j a _ hAL (mf_kq hq)) (mf_cV C mt_209 mt_206 mt_4 mt_207 mt_208 mh_A_get ⟨by decide, by decide⟩) (mf_preV C.ev hS (mf_rv C (ci := 0) (N := 3) rfl hal)) rfl rfl hl.1 rfl (lv_room (Nat.le_of_ble_eq_true rfl)) md_F_amend_53 ⟨by first | omega | exact Nat.le_of_ble_eq_true rfl, by first | omega | exact Nat.le_of_ble_eq_true rfl⟩) ?_
          refine mf_cast C (ci := 1) (N := 6) rfl mt_220 ha md_F_amend_56 ?_
          refine lv_astore (lv' := [(5, .ref a), (4, .int (nI j)), (0, .ref x), (1, .int i), (2, .int p0), (3, .int q0)]) C.x C.b md_F_amend_59 hl (by decide) rfl (fun ls hl => ?_)
          refine lv_aload C.x C.b md_F_amend_61 (lv_at hl 0 rfl) ?_
          refine mf_gfN C (ci := 1) (N := 6) rfl mi_O 3 (by decide) (C.ev.2.1.1 (88, "MatchFloor$Order", "waits", "Z") (List.mem_of_getElem? (i := 7) rfl)) ha (v := .int (mf_wt r)) rfl md_F_amend_63 ?_
          refine lv_if_ne (tgt := 95) C.x C.b md_F_amend_66 (by decide) (fun h5 => ?_) (fun h5 => ?_)
          · skip
            refine lv_aload_n C.x C.b md_F_amend_95 rfl (lv_at hl 2 rfl) ?_
            refine mf_gf C (ci := 3) (N := 4) rfl mi_F 0 (by decide) mt_84 hx (v := .ref al) rfl md_F_amend_96 ?_
            refine lv_iload C.x C.b md_F_amend_99 (lv_at hl 1 rfl) ?_
            refine mf_cws (va_runV (As := [.int (nI j)]) (rest := []) C.f (k_A_remove l D k5 t0 A H al j a _ hAL (mf_kq hq) hel) (mf_cV C mt_312 mt_309 mt_4 mt_310 mt_311 mh_A_remove ⟨by decide, by decide⟩) (mf_preV C.ev hS (mf_rv C (ci := 0) (N := 3) rfl hal)) rfl rfl hl.1 rfl (lv_room (Nat.le_of_ble_eq_true rfl)) md_F_amend_101 ⟨by first | omega | exact Nat.le_of_ble_eq_true rfl, by first | omega | exact Nat.le_of_ble_eq_true rfl⟩) hS (fun _ _ h => h.1) (fun H locs hB hz hk hS => ?_)
            have hE1 : mf_Eq A [D.1 0, k5.1] _ H := ⟨hz, hk⟩
            have hC1 := hC.er C.nd hE1 hB
            have hT1 := hT.cl C.nd hE1 (by simp)
            have ha1 := hE1.ko ha (by simp [mf_nd C.nd (i := 1) (j := 0) rfl rfl (by decide), mf_nd C.nd (i := 1) (j := 5) rfl rfl (by decide)])
            have hni : a ∉ (ks.eraseIdx j).map (fun q => q.1) := by rw [← mf_map_erase]; exact mf_nodup_erase hnd (mf_kq hq)
            have hln := mf_erase_len hq
            refine lv_pop C.x C.b md_F_amend_104 rfl ?_
            refine lv_aload C.x C.b md_F_amend_105 (lv_at hl 0 rfl) ?_
            refine lv_iload_n C.x C.b md_F_amend_107 rfl (lv_at hl 4 rfl) ?_
            refine mf_pfN C (ci := 1) (N := 6) rfl mi_O mp_O mn_O 4 (by decide) (C.ev.2.1.1 (92, "MatchFloor$Order", "price", "I") (List.mem_of_getElem? (i := 8) rfl)) rfl (v := .int p0) rfl rfl ha1 (Nat.le_of_ble_eq_true rfl) (fs' := mf_fs (mf_setPL r p0 (mf_lf r))) rfl hS hAa md_F_amend_108 (fun H2 locs ho2 hz2 hk2 hS => ?_)
            have hE2 : mf_Eq A [D.1 1] _ H2 := mf_Eq.one hz2 hk2 hAa (mf_co_o ha1)
            have hC2 := hC1.ot C.nd ha1 hAa hni hz2 hk2
            have hT2 := hT1.cl C.nd hE2 (by simp)
            refine lv_aload C.x C.b md_F_amend_111 (lv_at hl 0 rfl) ?_
            refine lv_iload_n C.x C.b md_F_amend_113 rfl (lv_at hl 5 rfl) ?_
            refine mf_pfN C (ci := 1) (N := 6) rfl mi_O mp_O mn_O 5 (by decide) (C.ev.2.1.1 (81, "MatchFloor$Order", "left", "I") (List.mem_of_getElem? (i := 9) rfl)) rfl (v := .int q0) rfl rfl ho2 (Nat.le_of_ble_eq_true rfl) (fs' := mf_fs (mf_setPL r p0 q0)) rfl hS hAa md_F_amend_114 (fun H3 locs ho3 hz3 hk3 hS => ?_)
            have hE3 : mf_Eq A [D.1 1] _ H3 := mf_Eq.one hz3 hk3 hAa (mf_co_o ho2)
            have hC3 := hC2.ot C.nd ho2 hAa hni hz3 hk3
            have hT3 := hT2.cl C.nd hE3 (by simp)
            have hE03 : mf_Eq A (mf_cM D k5) _ H3 := hE1.tr (L := mf_cM D k5) (hE2.tr (L := mf_cM D k5) hE3 (by simp) (by simp)) (by simp) (by simp)
            have hM3 : mf_MS D k5 t0 A H3 x al tp a due (mf_setPL r p0 q0, (mf_L ks).eraseIdx j, met, g) := ⟨ks.eraseIdx j, (mf_map_erase _ _ _).symm, hC3, hT3, ho3, hAa, hni⟩
            have hln3 : ((mf_L ks).eraseIdx j).length ≤ 39 := by rw [mf_map_erase, List.length_map]; omega
            have hnc : ¬ (mf_wt r = 0 ∧ p0 = mf_pr r ∧ q0 ≤ mf_lf r) := fun z => by first | exact h5 z.1 | exact h5 z.2.1 | exact absurd z.2.2 (Int32.not_le.mpr h5)
            have hsp0 : mf_amend i p0 q0 (mf_L ks, due, met, g) = ((0, (mf_comeIn (mf_setPL r p0 q0) (if mf_wt r = 0 then 0 else 5) ((mf_L ks).eraseIdx j, due, met, g)).1), (mf_comeIn (mf_setPL r p0 q0) (if mf_wt r = 0 then 0 else 5) ((mf_L ks).eraseIdx j, due, met, g)).2) := by unfold mf_amend; rw [if_pos (by simp [mf_bI_1.mp h1, mf_bI_1.mp h2])]; dsimp only; rw [hp]; dsimp only; rw [if_neg hnc]
            refine lv_aload_n C.x C.b md_F_amend_117 rfl (lv_at hl 2 rfl) ?_
            refine lv_aload C.x C.b md_F_amend_118 (lv_at hl 0 rfl) ?_
            refine lv_aload C.x C.b md_F_amend_120 (lv_at hl 0 rfl) ?_
            refine mf_gfN C (ci := 1) (N := 6) rfl mi_O 3 (by decide) (C.ev.2.1.1 (88, "MatchFloor$Order", "waits", "Z") (List.mem_of_getElem? (i := 7) rfl)) ho3 (v := .int (mf_wt r)) rfl md_F_amend_122 ?_
            refine lv_if_eq (tgt := 132) C.x C.b md_F_amend_125 (by decide) (fun h6 => ?_) (fun h6 => ?_)
            · skip
              refine lv_iconst (v := 0) C.x C.b md_F_amend_132 (by decide) ?_
              refine mf_cws (va_runV (As := [.ref a, .int 0]) (rest := []) C.f (k_F_comeIn l D k5 t0 A H3 x al tp a due met 0 _ _ g hM3 hln3 hg) (mf_cV C mt_300 mt_297 mt_1 mt_299 ms_7 mh_F_comeIn ⟨by decide, by decide⟩) (mf_preV C.ev hS (mf_rv C (ci := 3) (N := 4) rfl hC3.1)) rfl rfl hl.1 rfl (lv_room (Nat.le_of_ble_eq_true rfl)) md_F_amend_133 ⟨by first | omega | exact Nat.le_of_ble_eq_true rfl, by first | omega | exact Nat.le_of_ble_eq_true rfl⟩) hS (fun _ _ h => h.1) (fun H locs hB9 hz9 hk9 hS => ?_)
              have hsp : mf_amend i p0 q0 (mf_L ks, due, met, g) = ((0, (mf_comeIn (mf_setPL r p0 q0) 0 ((mf_L ks).eraseIdx j, due, met, g)).1), (mf_comeIn (mf_setPL r p0 q0) 0 ((mf_L ks).eraseIdx j, due, met, g)).2) := by rw [hsp0, if_pos h6]
              rw [hsp]
              exact mf_xi rfl C.x C.b hr hlk md_F_amend_136 hB9 (hE03.tr (L := mf_cM D k5) ⟨hz9, hk9⟩ (fun _ h => h) (fun _ h => h)) hH hS.2.2 (Nat.le_refl _) (Nat.le_refl _)
            · skip
              refine lv_iconst (v := 5) C.x C.b md_F_amend_128 (by decide) ?_
              refine lv_goto (tgt := 133) C.x C.b md_F_amend_129 (by decide) ?_
              refine mf_cws (va_runV (As := [.ref a, .int 5]) (rest := []) C.f (k_F_comeIn l D k5 t0 A H3 x al tp a due met 5 _ _ g hM3 hln3 hg) (mf_cV C mt_300 mt_297 mt_1 mt_299 ms_7 mh_F_comeIn ⟨by decide, by decide⟩) (mf_preV C.ev hS (mf_rv C (ci := 3) (N := 4) rfl hC3.1)) rfl rfl hl.1 rfl (lv_room (Nat.le_of_ble_eq_true rfl)) md_F_amend_133 ⟨by first | omega | exact Nat.le_of_ble_eq_true rfl, by first | omega | exact Nat.le_of_ble_eq_true rfl⟩) hS (fun _ _ h => h.1) (fun H locs hB9 hz9 hk9 hS => ?_)
              have hsp : mf_amend i p0 q0 (mf_L ks, due, met, g) = ((0, (mf_comeIn (mf_setPL r p0 q0) 5 ((mf_L ks).eraseIdx j, due, met, g)).1), (mf_comeIn (mf_setPL r p0 q0) 5 ((mf_L ks).eraseIdx j, due, met, g)).2) := by rw [hsp0, if_neg h6]
              rw [hsp]
              exact mf_xi rfl C.x C.b hr hlk md_F_amend_136 hB9 (hE03.tr (L := mf_cM D k5) ⟨hz9, hk9⟩ (fun _ h => h) (fun _ h => h)) hH hS.2.2 (Nat.le_refl _) (Nat.le_refl _)
          · skip
            refine lv_iload_n C.x C.b md_F_amend_69 rfl (lv_at hl 4 rfl) ?_
            refine lv_aload C.x C.b md_F_amend_70 (lv_at hl 0 rfl) ?_
            refine mf_gfN C (ci := 1) (N := 6) rfl mi_O 4 (by decide) (C.ev.2.1.1 (92, "MatchFloor$Order", "price", "I") (List.mem_of_getElem? (i := 8) rfl)) ha (v := .int (mf_pr r)) rfl md_F_amend_72 ?_
            refine lv_icmp_ne (tgt := 95) C.x C.b md_F_amend_75 (by decide) (fun h7 => ?_) (fun h7 => ?_)
            · skip
              refine lv_aload_n C.x C.b md_F_amend_95 rfl (lv_at hl 2 rfl) ?_
              refine mf_gf C (ci := 3) (N := 4) rfl mi_F 0 (by decide) mt_84 hx (v := .ref al) rfl md_F_amend_96 ?_
              refine lv_iload C.x C.b md_F_amend_99 (lv_at hl 1 rfl) ?_
              refine mf_cws (va_runV (As := [.int (nI j)]) (rest := []) C.f (k_A_remove l D k5 t0 A H al j a _ hAL (mf_kq hq) hel) (mf_cV C mt_312 mt_309 mt_4 mt_310 mt_311 mh_A_remove ⟨by decide, by decide⟩) (mf_preV C.ev hS (mf_rv C (ci := 0) (N := 3) rfl hal)) rfl rfl hl.1 rfl (lv_room (Nat.le_of_ble_eq_true rfl)) md_F_amend_101 ⟨by first | omega | exact Nat.le_of_ble_eq_true rfl, by first | omega | exact Nat.le_of_ble_eq_true rfl⟩) hS (fun _ _ h => h.1) (fun H locs hB hz hk hS => ?_)
              have hE1 : mf_Eq A [D.1 0, k5.1] _ H := ⟨hz, hk⟩
              have hC1 := hC.er C.nd hE1 hB
              have hT1 := hT.cl C.nd hE1 (by simp)
              have ha1 := hE1.ko ha (by simp [mf_nd C.nd (i := 1) (j := 0) rfl rfl (by decide), mf_nd C.nd (i := 1) (j := 5) rfl rfl (by decide)])
              have hni : a ∉ (ks.eraseIdx j).map (fun q => q.1) := by rw [← mf_map_erase]; exact mf_nodup_erase hnd (mf_kq hq)
              have hln := mf_erase_len hq
              refine lv_pop C.x C.b md_F_amend_104 rfl ?_
              refine lv_aload C.x C.b md_F_amend_105 (lv_at hl 0 rfl) ?_
              refine lv_iload_n C.x C.b md_F_amend_107 rfl (lv_at hl 4 rfl) ?_
              refine mf_pfN C (ci := 1) (N := 6) rfl mi_O mp_O mn_O 4 (by decide) (C.ev.2.1.1 (92, "MatchFloor$Order", "price", "I") (List.mem_of_getElem? (i := 8) rfl)) rfl (v := .int p0) rfl rfl ha1 (Nat.le_of_ble_eq_true rfl) (fs' := mf_fs (mf_setPL r p0 (mf_lf r))) rfl hS hAa md_F_amend_108 (fun H2 locs ho2 hz2 hk2 hS => ?_)
              have hE2 : mf_Eq A [D.1 1] _ H2 := mf_Eq.one hz2 hk2 hAa (mf_co_o ha1)
              have hC2 := hC1.ot C.nd ha1 hAa hni hz2 hk2
              have hT2 := hT1.cl C.nd hE2 (by simp)
              refine lv_aload C.x C.b md_F_amend_111 (lv_at hl 0 rfl) ?_
              refine lv_iload_n C.x C.b md_F_amend_113 rfl (lv_at hl 5 rfl) ?_
              refine mf_pfN C (ci := 1) (N := 6) rfl mi_O mp_O mn_O 5 (by decide) (C.ev.2.1.1 (81, "MatchFloor$Order", "left", "I") (List.mem_of_getElem? (i := 9) rfl)) rfl (v := .int q0) rfl rfl ho2 (Nat.le_of_ble_eq_true rfl) (fs' := mf_fs (mf_setPL r p0 q0)) rfl hS hAa md_F_amend_114 (fun H3 locs ho3 hz3 hk3 hS => ?_)
              have hE3 : mf_Eq A [D.1 1] _ H3 := mf_Eq.one hz3 hk3 hAa (mf_co_o ho2)
              have hC3 := hC2.ot C.nd ho2 hAa hni hz3 hk3
              have hT3 := hT2.cl C.nd hE3 (by simp)
              have hE03 : mf_Eq A (mf_cM D k5) _ H3 := hE1.tr (L := mf_cM D k5) (hE2.tr (L := mf_cM D k5) hE3 (by simp) (by simp)) (by simp) (by simp)
              have hM3 : mf_MS D k5 t0 A H3 x al tp a due (mf_setPL r p0 q0, (mf_L ks).eraseIdx j, met, g) := ⟨ks.eraseIdx j, (mf_map_erase _ _ _).symm, hC3, hT3, ho3, hAa, hni⟩
              have hln3 : ((mf_L ks).eraseIdx j).length ≤ 39 := by rw [mf_map_erase, List.length_map]; omega
              have hnc : ¬ (mf_wt r = 0 ∧ p0 = mf_pr r ∧ q0 ≤ mf_lf r) := fun z => by first | exact h7 z.1 | exact h7 z.2.1 | exact absurd z.2.2 (Int32.not_le.mpr h7)
              have hsp0 : mf_amend i p0 q0 (mf_L ks, due, met, g) = ((0, (mf_comeIn (mf_setPL r p0 q0) (if mf_wt r = 0 then 0 else 5) ((mf_L ks).eraseIdx j, due, met, g)).1), (mf_comeIn (mf_setPL r p0 q0) (if mf_wt r = 0 then 0 else 5) ((mf_L ks).eraseIdx j, due, met, g)).2) := by unfold mf_amend; rw [if_pos (by simp [mf_bI_1.mp h1, mf_bI_1.mp h2])]; dsimp only; rw [hp]; dsimp only; rw [if_neg hnc]
              refine lv_aload_n C.x C.b md_F_amend_117 rfl (lv_at hl 2 rfl) ?_
              refine lv_aload C.x C.b md_F_amend_118 (lv_at hl 0 rfl) ?_
              refine lv_aload C.x C.b md_F_amend_120 (lv_at hl 0 rfl) ?_
              refine mf_gfN C (ci := 1) (N := 6) rfl mi_O 3 (by decide) (C.ev.2.1.1 (88, "MatchFloor$Order", "waits", "Z") (List.mem_of_getElem? (i := 7) rfl)) ho3 (v := .int (mf_wt r)) rfl md_F_amend_122 ?_
              refine lv_if_eq (tgt := 132) C.x C.b md_F_amend_125 (by decide) (fun h8 => ?_) (fun h8 => ?_)
              · skip
                refine lv_iconst (v := 0) C.x C.b md_F_amend_132 (by decide) ?_
                refine mf_cws (va_runV (As := [.ref a, .int 0]) (rest := []) C.f (k_F_comeIn l D k5 t0 A H3 x al tp a due met 0 _ _ g hM3 hln3 hg) (mf_cV C mt_300 mt_297 mt_1 mt_299 ms_7 mh_F_comeIn ⟨by decide, by decide⟩) (mf_preV C.ev hS (mf_rv C (ci := 3) (N := 4) rfl hC3.1)) rfl rfl hl.1 rfl (lv_room (Nat.le_of_ble_eq_true rfl)) md_F_amend_133 ⟨by first | omega | exact Nat.le_of_ble_eq_true rfl, by first | omega | exact Nat.le_of_ble_eq_true rfl⟩) hS (fun _ _ h => h.1) (fun H locs hB9 hz9 hk9 hS => ?_)
                have hsp : mf_amend i p0 q0 (mf_L ks, due, met, g) = ((0, (mf_comeIn (mf_setPL r p0 q0) 0 ((mf_L ks).eraseIdx j, due, met, g)).1), (mf_comeIn (mf_setPL r p0 q0) 0 ((mf_L ks).eraseIdx j, due, met, g)).2) := by rw [hsp0, if_pos h8]
                rw [hsp]
                exact mf_xi rfl C.x C.b hr hlk md_F_amend_136 hB9 (hE03.tr (L := mf_cM D k5) ⟨hz9, hk9⟩ (fun _ h => h) (fun _ h => h)) hH hS.2.2 (Nat.le_refl _) (Nat.le_refl _)
              · skip
                refine lv_iconst (v := 5) C.x C.b md_F_amend_128 (by decide) ?_
                refine lv_goto (tgt := 133) C.x C.b md_F_amend_129 (by decide) ?_
                refine mf_cws (va_runV (As := [.ref a, .int 5]) (rest := []) C.f (k_F_comeIn l D k5 t0 A H3 x al tp a due met 5 _ _ g hM3 hln3 hg) (mf_cV C mt_300 mt_297 mt_1 mt_299 ms_7 mh_F_comeIn ⟨by decide, by decide⟩) (mf_preV C.ev hS (mf_rv C (ci := 3) (N := 4) rfl hC3.1)) rfl rfl hl.1 rfl (lv_room (Nat.le_of_ble_eq_true rfl)) md_F_amend_133 ⟨by first | omega | exact Nat.le_of_ble_eq_true rfl, by first | omega | exact Nat.le_of_ble_eq_true rfl⟩) hS (fun _ _ h => h.1) (fun H locs hB9 hz9 hk9 hS => ?_)
                have hsp : mf_amend i p0 q0 (mf_L ks, due, met, g) = ((0, (mf_comeIn (mf_setPL r p0 q0) 5 ((mf_L ks).eraseIdx j, due, met, g)).1), (mf_comeIn (mf_setPL r p0 q0) 5 ((mf_L ks).eraseIdx j, due, met, g)).2) := by rw [hsp0, if_neg h8]
                rw [hsp]
                exact mf_xi rfl C.x C.b hr hlk md_F_amend_136 hB9 (hE03.tr (L := mf_cM D k5) ⟨hz9, hk9⟩ (fun _ h => h) (fun _ h => h)) hH hS.2.2 (Nat.le_refl _) (Nat.le_refl _)
            · skip
              refine lv_iload_n C.x C.b md_F_amend_78 rfl (lv_at hl 5 rfl) ?_
              refine lv_aload C.x C.b md_F_amend_79 (lv_at hl 0 rfl) ?_
              refine mf_gfN C (ci := 1) (N := 6) rfl mi_O 5 (by decide) (C.ev.2.1.1 (81, "MatchFloor$Order", "left", "I") (List.mem_of_getElem? (i := 9) rfl)) ha (v := .int (mf_lf r)) rfl md_F_amend_81 ?_
              refine lv_icmp_gt (tgt := 95) C.x C.b md_F_amend_84 (by decide) (fun h9 => ?_) (fun h9 => ?_)
              · skip
                refine lv_aload_n C.x C.b md_F_amend_95 rfl (lv_at hl 2 rfl) ?_
                refine mf_gf C (ci := 3) (N := 4) rfl mi_F 0 (by decide) mt_84 hx (v := .ref al) rfl md_F_amend_96 ?_
                refine lv_iload C.x C.b md_F_amend_99 (lv_at hl 1 rfl) ?_
                refine mf_cws (va_runV (As := [.int (nI j)]) (rest := []) C.f (k_A_remove l D k5 t0 A H al j a _ hAL (mf_kq hq) hel) (mf_cV C mt_312 mt_309 mt_4 mt_310 mt_311 mh_A_remove ⟨by decide, by decide⟩) (mf_preV C.ev hS (mf_rv C (ci := 0) (N := 3) rfl hal)) rfl rfl hl.1 rfl (lv_room (Nat.le_of_ble_eq_true rfl)) md_F_amend_101 ⟨by first | omega | exact Nat.le_of_ble_eq_true rfl, by first | omega | exact Nat.le_of_ble_eq_true rfl⟩) hS (fun _ _ h => h.1) (fun H locs hB hz hk hS => ?_)
                have hE1 : mf_Eq A [D.1 0, k5.1] _ H := ⟨hz, hk⟩
                have hC1 := hC.er C.nd hE1 hB
                have hT1 := hT.cl C.nd hE1 (by simp)
                have ha1 := hE1.ko ha (by simp [mf_nd C.nd (i := 1) (j := 0) rfl rfl (by decide), mf_nd C.nd (i := 1) (j := 5) rfl rfl (by decide)])
                have hni : a ∉ (ks.eraseIdx j).map (fun q => q.1) := by rw [← mf_map_erase]; exact mf_nodup_erase hnd (mf_kq hq)
                have hln := mf_erase_len hq
                refine lv_pop C.x C.b md_F_amend_104 rfl ?_
                refine lv_aload C.x C.b md_F_amend_105 (lv_at hl 0 rfl) ?_
                refine lv_iload_n C.x C.b md_F_amend_107 rfl (lv_at hl 4 rfl) ?_
                refine mf_pfN C (ci := 1) (N := 6) rfl mi_O mp_O mn_O 4 (by decide) (C.ev.2.1.1 (92, "MatchFloor$Order", "price", "I") (List.mem_of_getElem? (i := 8) rfl)) rfl (v := .int p0) rfl rfl ha1 (Nat.le_of_ble_eq_true rfl) (fs' := mf_fs (mf_setPL r p0 (mf_lf r))) rfl hS hAa md_F_amend_108 (fun H2 locs ho2 hz2 hk2 hS => ?_)
                have hE2 : mf_Eq A [D.1 1] _ H2 := mf_Eq.one hz2 hk2 hAa (mf_co_o ha1)
                have hC2 := hC1.ot C.nd ha1 hAa hni hz2 hk2
                have hT2 := hT1.cl C.nd hE2 (by simp)
                refine lv_aload C.x C.b md_F_amend_111 (lv_at hl 0 rfl) ?_
                refine lv_iload_n C.x C.b md_F_amend_113 rfl (lv_at hl 5 rfl) ?_
                refine mf_pfN C (ci := 1) (N := 6) rfl mi_O mp_O mn_O 5 (by decide) (C.ev.2.1.1 (81, "MatchFloor$Order", "left", "I") (List.mem_of_getElem? (i := 9) rfl)) rfl (v := .int q0) rfl rfl ho2 (Nat.le_of_ble_eq_true rfl) (fs' := mf_fs (mf_setPL r p0 q0)) rfl hS hAa md_F_amend_114 (fun H3 locs ho3 hz3 hk3 hS => ?_)
                have hE3 : mf_Eq A [D.1 1] _ H3 := mf_Eq.one hz3 hk3 hAa (mf_co_o ho2)
                have hC3 := hC2.ot C.nd ho2 hAa hni hz3 hk3
                have hT3 := hT2.cl C.nd hE3 (by simp)
                have hE03 : mf_Eq A (mf_cM D k5) _ H3 := hE1.tr (L := mf_cM D k5) (hE2.tr (L := mf_cM D k5) hE3 (by simp) (by simp)) (by simp) (by simp)
                have hM3 : mf_MS D k5 t0 A H3 x al tp a due (mf_setPL r p0 q0, (mf_L ks).eraseIdx j, met, g) := ⟨ks.eraseIdx j, (mf_map_erase _ _ _).symm, hC3, hT3, ho3, hAa, hni⟩
                have hln3 : ((mf_L ks).eraseIdx j).length ≤ 39 := by rw [mf_map_erase, List.length_map]; omega
                have hnc : ¬ (mf_wt r = 0 ∧ p0 = mf_pr r ∧ q0 ≤ mf_lf r) := fun z => by first | exact h9 z.1 | exact h9 z.2.1 | exact absurd z.2.2 (Int32.not_le.mpr h9)
                have hsp0 : mf_amend i p0 q0 (mf_L ks, due, met, g) = ((0, (mf_comeIn (mf_setPL r p0 q0) (if mf_wt r = 0 then 0 else 5) ((mf_L ks).eraseIdx j, due, met, g)).1), (mf_comeIn (mf_setPL r p0 q0) (if mf_wt r = 0 then 0 else 5) ((mf_L ks).eraseIdx j, due, met, g)).2) := by unfold mf_amend; rw [if_pos (by simp [mf_bI_1.mp h1, mf_bI_1.mp h2])]; dsimp only; rw [hp]; dsimp only; rw [if_neg hnc]
                refine lv_aload_n C.x C.b md_F_amend_117 rfl (lv_at hl 2 rfl) ?_
                refine lv_aload C.x C.b md_F_amend_118 (lv_at hl 0 rfl) ?_
                refine lv_aload C.x C.b md_F_amend_120 (lv_at hl 0 rfl) ?_
                refine mf_gfN C (ci := 1) (N := 6) rfl mi_O 3 (by decide) (C.ev.2.1.1 (88, "MatchFloor$Order", "waits", "Z") (List.mem_of_getElem? (i := 7) rfl)) ho3 (v := .int (mf_wt r)) rfl md_F_amend_122 ?_
                refine lv_if_eq (tgt := 132) C.x C.b md_F_amend_125 (by decide) (fun h10 => ?_) (fun h10 => ?_)
                · skip
                  refine lv_iconst (v := 0) C.x C.b md_F_amend_132 (by decide) ?_
                  refine mf_cws (va_runV (As := [.ref a, .int 0]) (rest := []) C.f (k_F_comeIn l D k5 t0 A H3 x al tp a due met 0 _ _ g hM3 hln3 hg) (mf_cV C mt_300 mt_297 mt_1 mt_299 ms_7 mh_F_comeIn ⟨by decide, by decide⟩) (mf_preV C.ev hS (mf_rv C (ci := 3) (N := 4) rfl hC3.1)) rfl rfl hl.1 rfl (lv_room (Nat.le_of_ble_eq_true rfl)) md_F_amend_133 ⟨by first | omega | exact Nat.le_of_ble_eq_true rfl, by first | omega | exact Nat.le_of_ble_eq_true rfl⟩) hS (fun _ _ h => h.1) (fun H locs hB9 hz9 hk9 hS => ?_)
                  have hsp : mf_amend i p0 q0 (mf_L ks, due, met, g) = ((0, (mf_comeIn (mf_setPL r p0 q0) 0 ((mf_L ks).eraseIdx j, due, met, g)).1), (mf_comeIn (mf_setPL r p0 q0) 0 ((mf_L ks).eraseIdx j, due, met, g)).2) := by rw [hsp0, if_pos h10]
                  rw [hsp]
                  exact mf_xi rfl C.x C.b hr hlk md_F_amend_136 hB9 (hE03.tr (L := mf_cM D k5) ⟨hz9, hk9⟩ (fun _ h => h) (fun _ h => h)) hH hS.2.2 (Nat.le_refl _) (Nat.le_refl _)
                · skip
                  refine lv_iconst (v := 5) C.x C.b md_F_amend_128 (by decide) ?_
                  refine lv_goto (tgt := 133) C.x C.b md_F_amend_129 (by decide) ?_
                  refine mf_cws (va_runV (As := [.ref a, .int 5]) (rest := []) C.f (k_F_comeIn l D k5 t0 A H3 x al tp a due met 5 _ _ g hM3 hln3 hg) (mf_cV C mt_300 mt_297 mt_1 mt_299 ms_7 mh_F_comeIn ⟨by decide, by decide⟩) (mf_preV C.ev hS (mf_rv C (ci := 3) (N := 4) rfl hC3.1)) rfl rfl hl.1 rfl (lv_room (Nat.le_of_ble_eq_true rfl)) md_F_amend_133 ⟨by first | omega | exact Nat.le_of_ble_eq_true rfl, by first | omega | exact Nat.le_of_ble_eq_true rfl⟩) hS (fun _ _ h => h.1) (fun H locs hB9 hz9 hk9 hS => ?_)
                  have hsp : mf_amend i p0 q0 (mf_L ks, due, met, g) = ((0, (mf_comeIn (mf_setPL r p0 q0) 5 ((mf_L ks).eraseIdx j, due, met, g)).1), (mf_comeIn (mf_setPL r p0 q0) 5 ((mf_L ks).eraseIdx j, due, met, g)).2) := by rw [hsp0, if_neg h10]
                  rw [hsp]
                  exact mf_xi rfl C.x C.b hr hlk md_F_amend_136 hB9 (hE03.tr (L := mf_cM D k5) ⟨hz9, hk9⟩ (fun _ h => h) (fun _ h => h)) hH hS.2.2 (Nat.le_refl _) (Nat.le_refl _)
              · skip
                refine lv_aload C.x C.b md_F_amend_87 (lv_at hl 0 rfl) ?_
                refine lv_iload_n C.x C.b md_F_amend_89 rfl (lv_at hl 5 rfl) ?_
                refine mf_pfN C (ci := 1) (N := 6) rfl mi_O mp_O mn_O 5 (by decide) (C.ev.2.1.1 (81, "MatchFloor$Order", "left", "I") (List.mem_of_getElem? (i := 9) rfl)) rfl (v := .int q0) rfl rfl ha (Nat.le_of_ble_eq_true rfl) (fs' := mf_fs (mf_setLf r q0)) rfl hS hAa md_F_amend_90 (fun H2 locs ho2 hz2 hk2 hS => ?_)
                have hE2 : mf_Eq A [D.1 1] H H2 := mf_Eq.one hz2 hk2 hAa (mf_co_o ha)
                have hC2 := hC.up C.nd hq ho2 hz2 hk2
                have hT2 := hT.cl C.nd hE2 (by simp)
                refine lv_iconst (v := 0) C.x C.b md_F_amend_93 (by decide) ?_
                have hsp : mf_amend i p0 q0 (mf_L ks, due, met, g) = ((0, 0), (mf_L ks).set j (mf_setLf r q0), due, met, g) := by unfold mf_amend; rw [if_pos (by simp [mf_bI_1.mp h1, mf_bI_1.mp h2])]; dsimp only; rw [hp]; dsimp only; rw [if_pos ⟨h5, h7, Int32.not_lt.mp h9⟩]
                rw [hsp]
                exact mf_xi rfl C.x C.b hr hlk md_F_amend_94 ⟨ks.set j (a, mf_setLf r q0), mf_L_set _ _ _ _, hC2, hT2⟩ (hE2.tr (L := mf_cM D k5) mf_Eq.rf (by simp) (fun _ h => h)) hH hS.2.2 (by decide) (by decide)
        · exact absurd h4 (mf_nI_ne (by omega))
    · skip
      have hsp : mf_amend i p0 q0 (mf_L ks, due, met, g) = ((1, 0), mf_L ks, due, met, g) := by unfold mf_amend; exact if_neg (by simp [mf_bI_1.mp h1, mf_bI_0.mp h2])
      rw [hsp]
      exact mf_thrI C hlt (Or.inl ⟨rfl, rfl⟩) (List.mem_of_getElem? (i := 1) rfl) hS (fun q hq => by rw [hH]) hl.1 md_F_amend_14 md_F_amend_17 md_F_amend_18 md_F_amend_20 md_F_amend_23 hex (by decide) (by decide) (by decide) (by decide) hlk (by decide) (by decide)
