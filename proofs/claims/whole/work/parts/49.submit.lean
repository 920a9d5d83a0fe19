/-! MatchFloor: submit -/
set_option maxRecDepth 100000 in
set_option maxHeartbeats 4000000 in
theorem k_F_submit (l : Launch) (D : va_G) (k5 : mf_k5) (t0 : Nat × Nat) (A : Nat → Prop) (H : Heap) (hlt : l.stackTraces = false) (x al tp : Nat) (i h0 p0 q0 : Int32) (L : List mf_O) (due met : Int32) (g : mf_G) (hM : mf_SS D k5 t0 A H x al tp (L, due, met, g)) (hg : g.1 + 41 * 41 < 2 ^ 31) : mf_cX l my_F_submit mc_F_submit 7 (some .int) { frames := 8, cells := 2, slots := 66, locals := 216 } D (mf_tys k5) t0 A H [.ref x, .int i, .int h0, .int p0, .int q0] ((mf_submit i h0 p0 q0 (L, due, met, g)).1.1 = 0) (some (.int (mf_submit i h0 p0 q0 (L, due, met, g)).1.2)) (fun H1 => mf_SS D k5 t0 A H1 x al tp (mf_submit i h0 p0 q0 (L, due, met, g)).2) (mf_fr A H (mf_cM D k5)) (fun E => ((mf_submit i h0 p0 q0 (L, due, met, g)).1.1 = 1 ∧ E = "java/lang/IllegalArgumentException") ∨ ((mf_submit i h0 p0 q0 (L, due, met, g)).1.1 = 2 ∧ E = "java/lang/IllegalStateException")) 2 66 := by
  obtain ⟨ks, hL, hC, hT⟩ := id hM
  have hL : mf_L ks = L := hL
  have hC : mf_CL D k5 t0 A H x al tp due met ks := hC
  have hT : mf_TP D k5 A H tp g := hT
  obtain ⟨hx, hAx, hAL, hks, hnd⟩ := id hC
  obtain ⟨ed, mc, hal, hA1, hle, hor⟩ := id hAL
  rw [List.length_map] at hle
  subst hL
  obtain ⟨rw, rr, rf, rx, htp, hA3, hrest⟩ := id hT
  refine mf_ofX (by decide) (Nat.le_of_ble_eq_true rfl) ?_
  intro p e s m below meth c ls C hH hr hlk hnm hmt hl hS hex
  have hl : lv_has ls 7 [(0, .ref x), (1, .int i), (2, .int h0), (3, .int p0), (4, .int q0)] := hl
  refine lv_iload_n C.x C.b md_F_submit_0 rfl (lv_at hl 2 rfl) ?_
  refine lv_if_lt (tgt := 18) C.x C.b md_F_submit_1 (by decide) (fun h1 => ?_) (fun h1 => ?_)
  · skip
    have hsp : mf_submit i h0 p0 q0 (mf_L ks, due, met, g) = ((1, 0), mf_L ks, due, met, g) := by unfold mf_submit; exact if_neg (by simp [mf_howOk, h1, Int32.not_le.mpr h1])
    rw [hsp]
    exact mf_thrI C hlt (Or.inl ⟨rfl, rfl⟩) (List.mem_of_getElem? (i := 0) rfl) hS (fun q hq => by rw [hH]) hl.1 md_F_submit_18 md_F_submit_21 md_F_submit_22 md_F_submit_24 md_F_submit_27 hex (by decide) (by decide) (by decide) (by decide) hlk (by decide) (by decide)
  · skip
    refine lv_iload_n C.x C.b md_F_submit_4 rfl (lv_at hl 2 rfl) ?_
    refine lv_bipush (v := 127) C.x C.b md_F_submit_5 (by decide) ?_
    refine lv_icmp_gt (tgt := 18) C.x C.b md_F_submit_7 (by decide) (fun h2 => ?_) (fun h2 => ?_)
    · skip
      have hsp : mf_submit i h0 p0 q0 (mf_L ks, due, met, g) = ((1, 0), mf_L ks, due, met, g) := by unfold mf_submit; exact if_neg (by simp [mf_howOk, h1, Int32.not_lt.mp h1, h2, Int32.not_le.mpr h2])
      rw [hsp]
      exact mf_thrI C hlt (Or.inl ⟨rfl, rfl⟩) (List.mem_of_getElem? (i := 0) rfl) hS (fun q hq => by rw [hH]) hl.1 md_F_submit_18 md_F_submit_21 md_F_submit_22 md_F_submit_24 md_F_submit_27 hex (by decide) (by decide) (by decide) (by decide) hlk (by decide) (by decide)
    · skip
      refine lv_iload_n C.x C.b md_F_submit_10 rfl (lv_at hl 2 rfl) ?_
      refine mf_cks (va_runS (As := [.int h0]) (rest := []) C.f (k_F_kindOf l D k5 t0 A H h0) (mf_cS C mt_120 mt_118 mt_1 mt_119 mh_F_kindOf ⟨by decide, by decide⟩) (mf_preS C.ev hS) rfl rfl hl.1 rfl (lv_room (Nat.le_of_ble_eq_true rfl)) md_F_submit_11 ⟨by first | omega | exact Nat.le_of_ble_eq_true rfl, by first | omega | exact Nat.le_of_ble_eq_true rfl⟩) ?_
      refine lv_iconst (v := 5) C.x C.b md_F_submit_14 (by decide) ?_
      refine lv_icmp_le (tgt := 28) C.x C.b md_F_submit_15 (by decide) (fun h3 => ?_) (fun h3 => ?_)
      · skip
        refine lv_iload_n C.x C.b md_F_submit_28 rfl (lv_at hl 3 rfl) ?_
        refine mf_cks (va_runS (As := [.int p0]) (rest := []) C.f (k_F_isPrice l D k5 t0 A H p0) (mf_cS C mt_192 mt_190 mt_1 mt_191 mh_F_isPrice ⟨by decide, by decide⟩) (mf_preS C.ev hS) rfl rfl hl.1 rfl (lv_room (Nat.le_of_ble_eq_true rfl)) md_F_submit_29 ⟨by first | omega | exact Nat.le_of_ble_eq_true rfl, by first | omega | exact Nat.le_of_ble_eq_true rfl⟩) ?_
        refine lv_if_eq (tgt := 43) C.x C.b md_F_submit_32 (by decide) (fun h4 => ?_) (fun h4 => ?_)
        · skip
          have hsp : mf_submit i h0 p0 q0 (mf_L ks, due, met, g) = ((1, 0), mf_L ks, due, met, g) := by unfold mf_submit; exact if_neg (by simp [mf_howOk, h1, Int32.not_lt.mp h1, h2, Int32.not_lt.mp h2, h3, Int32.not_lt.mpr h3, mf_bI_0.mp h4])
          rw [hsp]
          exact mf_thrI C hlt (Or.inl ⟨rfl, rfl⟩) (List.mem_of_getElem? (i := 1) rfl) hS (fun q hq => by rw [hH]) hl.1 md_F_submit_43 md_F_submit_46 md_F_submit_47 md_F_submit_49 md_F_submit_52 hex (by decide) (by decide) (by decide) (by decide) hlk (by decide) (by decide)
        · skip
          refine lv_iload C.x C.b md_F_submit_35 (lv_at hl 4 rfl) ?_
          refine mf_cks (va_runS (As := [.int q0]) (rest := []) C.f (k_F_isQuantity l D k5 t0 A H q0) (mf_cS C mt_195 mt_193 mt_1 mt_194 mh_F_isQuantity ⟨by decide, by decide⟩) (mf_preS C.ev hS) rfl rfl hl.1 rfl (lv_room (Nat.le_of_ble_eq_true rfl)) md_F_submit_37 ⟨by first | omega | exact Nat.le_of_ble_eq_true rfl, by first | omega | exact Nat.le_of_ble_eq_true rfl⟩) ?_
          refine lv_if_ne (tgt := 53) C.x C.b md_F_submit_40 (by decide) (fun h5 => ?_) (fun h5 => ?_)
          · skip
            refine lv_aload_n C.x C.b md_F_submit_53 rfl (lv_at hl 0 rfl) ?_
            refine lv_iload_n C.x C.b md_F_submit_54 rfl (lv_at hl 1 rfl) ?_
            refine mf_cks (va_runV (As := [.int i]) (rest := []) C.f (k_F_placeOf l D k5 t0 A H x al tp due met ks i hC) (mf_cV C mt_201 mt_198 mt_1 mt_200 ms_1 mh_F_placeOf ⟨by decide, by decide⟩) (mf_preV C.ev hS (mf_rv C (ci := 3) (N := 4) rfl hx)) rfl rfl hl.1 rfl (lv_room (Nat.le_of_ble_eq_true rfl)) md_F_submit_55 ⟨by first | omega | exact Nat.le_of_ble_eq_true rfl, by first | omega | exact Nat.le_of_ble_eq_true rfl⟩) ?_
            rcases hp : mf_place i (mf_L ks) with _ | ⟨j, r⟩
            · rw [show mf_ix (none : Option (Nat × mf_O)) = -1 from rfl]
              refine lv_iconst (v := (-1)) C.x C.b md_F_submit_58 (by decide) ?_
              refine lv_icmp_eq (tgt := 72) C.x C.b md_F_submit_59 (by decide) (fun h6 => ?_) (fun h6 => ?_)
              · skip
                refine lv_aload_n C.x C.b md_F_submit_72 rfl (lv_at hl 0 rfl) ?_
                refine mf_gf C (ci := 3) (N := 4) rfl mi_F 0 (by decide) mt_84 hx (v := .ref al) rfl md_F_submit_73 ?_
                refine mf_cks (va_runV (As := []) (rest := []) C.f (k_A_size l D k5 t0 A H al _ hAL) (mf_cV C mt_205 mt_202 mt_4 mt_203 mt_204 mh_A_size ⟨by decide, by decide⟩) (mf_preV C.ev hS (mf_rv C (ci := 0) (N := 3) rfl hal)) rfl rfl hl.1 rfl (lv_room (Nat.le_of_ble_eq_true rfl)) md_F_submit_76 ⟨by first | omega | exact Nat.le_of_ble_eq_true rfl, by first | omega | exact Nat.le_of_ble_eq_true rfl⟩) ?_
                rw [List.length_map]
                refine lv_bipush (v := 40) C.x C.b md_F_submit_79 (by decide) ?_
                refine lv_icmp_lt (tgt := 94) C.x C.b md_F_submit_81 (by decide) (fun h7 => ?_) (fun h7 => ?_)
                · skip
                  refine lv_iload_n C.x C.b md_F_submit_94 rfl (lv_at hl 2 rfl) ?_
                  refine mf_cks (va_runS (As := [.int h0]) (rest := []) C.f (k_F_kindOf l D k5 t0 A H h0) (mf_cS C mt_120 mt_118 mt_1 mt_119 mh_F_kindOf ⟨by decide, by decide⟩) (mf_preS C.ev hS) rfl rfl hl.1 rfl (lv_room (Nat.le_of_ble_eq_true rfl)) md_F_submit_95 ⟨by first | omega | exact Nat.le_of_ble_eq_true rfl, by first | omega | exact Nat.le_of_ble_eq_true rfl⟩) ?_
                  refine lv_istore (lv' := [(5, .int (mf_kind h0)), (0, .ref x), (1, .int i), (2, .int h0), (3, .int p0), (4, .int q0)]) C.x C.b md_F_submit_98 hl (by decide) rfl (fun ls hl => ?_)
                  refine mf_newo C (ci := 1) (N := 6) (fs := [.int 0, .int 0, .int 0, .int 0, .int 0, .int 0]) rfl mi_O mp_O mt_220 mt_238 mt_14 (by decide) hS (by decide) (by decide) md_F_submit_100 (fun ca H1 hca0 hne hAc hE1 hS => ?_)
                  refine lv_dup C.x C.b md_F_submit_103 rfl ?_
                  refine lv_iload_n C.x C.b md_F_submit_104 rfl (lv_at hl 2 rfl) ?_
                  refine lv_iload_n C.x C.b md_F_submit_105 rfl (lv_at hl 3 rfl) ?_
                  refine lv_iconst (v := 4) C.x C.b md_F_submit_106 (by decide) ?_
                  refine lv_ishr C.x C.b md_F_submit_107 ?_
                  refine lv_iload_n C.x C.b md_F_submit_108 rfl (lv_at hl 3 rfl) ?_
                  refine lv_iconst (v := 1) C.x C.b md_F_submit_109 (by decide) ?_
                  refine lv_iand C.x C.b md_F_submit_110 ?_
                  refine lv_iload C.x C.b md_F_submit_111 (lv_at hl 0 rfl) ?_
                  refine lv_iconst (v := 5) C.x C.b md_F_submit_113 (by decide) ?_
                  refine lv_icmp_ne (tgt := 121) C.x C.b md_F_submit_114 (by decide) (fun h8 => ?_) (fun h8 => ?_)
                  · skip
                    refine lv_iconst (v := 0) C.x C.b md_F_submit_121 (by decide) ?_
                    refine lv_iload_n C.x C.b md_F_submit_122 rfl (lv_at hl 4 rfl) ?_
                    refine lv_iload C.x C.b md_F_submit_123 (lv_at hl 5 rfl) ?_
                    refine mf_cwn (va_runIN (As := [.int i, .int (h0 >>> (4 &&& 31)), .int (h0 &&& 1), .int 0, .int p0, .int q0]) (rest := [.ref ca]) C.f (k_O_init l D k5 t0 A H1 ca i (h0 >>> (4 &&& 31)) (h0 &&& 1) p0 q0 false hca0 hAc) ⟨mf_cN C mt_241 (C.ev.2.1.2.1 ("MatchFloor", 59, my_O_init) (List.mem_of_getElem? (i := 1) rfl)) mt_14 mh_O_init ⟨by decide, by decide⟩, rfl, C.t mt_240⟩ (mf_preS C.ev hS) rfl rfl hl.1 rfl (lv_room (Nat.le_of_ble_eq_true rfl)) md_F_submit_125 ⟨by first | omega | exact Nat.le_of_ble_eq_true rfl, by first | omega | exact Nat.le_of_ble_eq_true rfl⟩) hS (fun z _ h => by rw [h]; exact hAc) (fun H locs hca1 hz1 hk1 hS => ?_)
                    have hord : (i, (h0 >>> (4 &&& 31)), (h0 &&& 1), mf_bI false, p0, q0) = mf_order i h0 p0 q0 := by unfold mf_order; rw [decide_eq_false h8, show ((4 : Int32) &&& 31) = 4 from by decide]
                    rw [hord] at hca1
                    have hE2 : mf_Eq A [] _ H := ⟨Nat.le_trans hE1.1 hz1, fun z hz hn => (hk1 z (Nat.lt_of_lt_of_le hz hE1.1) (fun y => by rw [y, hne] at hz; omega)).trans (hE1.2 z hz hn)⟩
                    have hC2 := hC.eq hE2 (by simp) (by simp) (by simp) (by simp)
                    have hT2 := hT.eq hE2 (by simp) (by simp) (by simp)
                    have hni : ca ∉ ks.map (fun q => q.1) := fun z => by
                      obtain ⟨y, hy1, hy2⟩ := List.mem_map.mp z
                      have hy3 : y.1 = ca := hy2
                      have := (hks y hy1).1.lt
                      rw [hy3, hne] at this
                      exact absurd this (Nat.lt_irrefl _)
                    have hM2 : mf_MS D k5 t0 A H x al tp ca due (mf_order i h0 p0 q0, mf_L ks, met, g) := ⟨ks, rfl, hC2, hT2, hca1, hAc, hni⟩
                    have hsame : ∀ z : Nat, z < s.heap.size → H[z]? = s.heap[z]? := fun z hz => by rw [hH] at hz ⊢; exact hE2.2 z hz (fun y => y.2.elim (fun y => by omega) (fun ⟨_, y, _⟩ => by cases y))
                    refine lv_astore (lv' := [(6, .ref ca), (5, .int (mf_kind h0)), (0, .ref x), (1, .int i), (2, .int h0), (3, .int p0), (4, .int q0)]) C.x C.b md_F_submit_128 hl (by decide) rfl (fun ls hl => ?_)
                    refine lv_aload_n C.x C.b md_F_submit_130 rfl (lv_at hl 2 rfl) ?_
                    refine lv_aload C.x C.b md_F_submit_131 (lv_at hl 0 rfl) ?_
                    refine lv_iload C.x C.b md_F_submit_133 (lv_at hl 1 rfl) ?_
                    refine mf_cks (va_runV (As := [.ref ca, .int (mf_kind h0)]) (rest := []) C.f (k_F_isRefused l D k5 t0 A H x al tp due met ks ca _ (mf_kind h0) hC2 hca1) (mf_cV C mt_271 mt_268 mt_1 mt_270 ms_2 mh_F_isRefused ⟨by decide, by decide⟩) (mf_preV C.ev hS (mf_rv C (ci := 3) (N := 4) rfl hC2.1)) rfl rfl hl.1 rfl (lv_room (Nat.le_of_ble_eq_true rfl)) md_F_submit_135 ⟨by first | omega | exact Nat.le_of_ble_eq_true rfl, by first | omega | exact Nat.le_of_ble_eq_true rfl⟩) ?_
                    refine lv_if_eq (tgt := 151) C.x C.b md_F_submit_138 (by decide) (fun h9 => ?_) (fun h9 => ?_)
                    · skip
                      refine lv_aload_n C.x C.b md_F_submit_151 rfl (lv_at hl 2 rfl) ?_
                      refine lv_aload C.x C.b md_F_submit_152 (lv_at hl 0 rfl) ?_
                      refine lv_iload C.x C.b md_F_submit_154 (lv_at hl 1 rfl) ?_
                      have hln : (mf_L ks).length ≤ 39 := by rw [List.length_map]; have := mf_nI_lt (b := 40) (by omega) h7; omega
                      refine mf_cws (va_runV (As := [.ref ca, .int (mf_kind h0)]) (rest := []) C.f (k_F_comeIn l D k5 t0 A H x al tp ca due met (mf_kind h0) _ _ g hM2 hln hg) (mf_cV C mt_300 mt_297 mt_1 mt_299 ms_7 mh_F_comeIn ⟨by decide, by decide⟩) (mf_preV C.ev hS (mf_rv C (ci := 3) (N := 4) rfl hC2.1)) rfl rfl hl.1 rfl (lv_room (Nat.le_of_ble_eq_true rfl)) md_F_submit_156 ⟨by first | omega | exact Nat.le_of_ble_eq_true rfl, by first | omega | exact Nat.le_of_ble_eq_true rfl⟩) hS (fun _ _ h => h.1) (fun H locs hB9 hz9 hk9 hS => ?_)
                      have hsp : mf_submit i h0 p0 q0 (mf_L ks, due, met, g) = ((0, (mf_comeIn (mf_order i h0 p0 q0) (mf_kind h0) (mf_L ks, due, met, g)).1), (mf_comeIn (mf_order i h0 p0 q0) (mf_kind h0) (mf_L ks, due, met, g)).2) := by
                        unfold mf_submit
                        rw [if_pos (by simp [mf_howOk, h1, Int32.not_lt.mp h1, h2, Int32.not_lt.mp h2, h3, Int32.not_lt.mpr h3, mf_bI_1.mp h4, mf_bI_1.mp h5, h6, h7, Int32.not_le.mpr h7, h8, mf_bI_0.mp h9])]
                        dsimp only
                        exact if_neg (by simp only [hp, List.length_map] at hln ⊢; rw [decide_eq_false (by omega), mf_bI_0.mp h9]; simp)
                      rw [hsp]
                      exact mf_xi rfl C.x C.b hr hlk md_F_submit_159 hB9 (hE2.tr (L := mf_cM D k5) ⟨hz9, hk9⟩ (by simp) (fun _ h => h)) hH hS.2.2 (by decide) (by decide)
                    · skip
                      have hsp : mf_submit i h0 p0 q0 (mf_L ks, due, met, g) = ((2, 0), mf_L ks, due, met, g) := by unfold mf_submit; rw [if_pos (by simp [mf_howOk, h1, Int32.not_lt.mp h1, h2, Int32.not_lt.mp h2, h3, Int32.not_lt.mpr h3, mf_bI_1.mp h4, mf_bI_1.mp h5, h6, h7, Int32.not_le.mpr h7, h8, mf_bI_1.mp h9])]; dsimp only; refine if_pos ?_; rw [show mf_refused (mf_order i h0 p0 q0) (mf_kind h0) (mf_L ks) = true from mf_bI_1.mp h9]; simp
                      rw [hsp]
                      exact mf_thrS C hlt (Or.inr ⟨rfl, rfl⟩) (List.mem_of_getElem? (i := 4) rfl) hS hsame hl.1 md_F_submit_141 md_F_submit_144 md_F_submit_145 md_F_submit_147 md_F_submit_150 hex (by decide) (by decide) (by decide) (by decide) hlk (by decide) (by decide)
                  · skip
                    refine lv_iconst (v := 1) C.x C.b md_F_submit_117 (by decide) ?_
                    refine lv_goto (tgt := 122) C.x C.b md_F_submit_118 (by decide) ?_
                    refine lv_iload_n C.x C.b md_F_submit_122 rfl (lv_at hl 4 rfl) ?_
                    refine lv_iload C.x C.b md_F_submit_123 (lv_at hl 5 rfl) ?_
                    refine mf_cwn (va_runIN (As := [.int i, .int (h0 >>> (4 &&& 31)), .int (h0 &&& 1), .int 1, .int p0, .int q0]) (rest := [.ref ca]) C.f (k_O_init l D k5 t0 A H1 ca i (h0 >>> (4 &&& 31)) (h0 &&& 1) p0 q0 true hca0 hAc) ⟨mf_cN C mt_241 (C.ev.2.1.2.1 ("MatchFloor", 59, my_O_init) (List.mem_of_getElem? (i := 1) rfl)) mt_14 mh_O_init ⟨by decide, by decide⟩, rfl, C.t mt_240⟩ (mf_preS C.ev hS) rfl rfl hl.1 rfl (lv_room (Nat.le_of_ble_eq_true rfl)) md_F_submit_125 ⟨by first | omega | exact Nat.le_of_ble_eq_true rfl, by first | omega | exact Nat.le_of_ble_eq_true rfl⟩) hS (fun z _ h => by rw [h]; exact hAc) (fun H locs hca1 hz1 hk1 hS => ?_)
                    have hord : (i, (h0 >>> (4 &&& 31)), (h0 &&& 1), mf_bI true, p0, q0) = mf_order i h0 p0 q0 := by unfold mf_order; rw [decide_eq_true h8, show ((4 : Int32) &&& 31) = 4 from by decide]
                    rw [hord] at hca1
                    have hE2 : mf_Eq A [] _ H := ⟨Nat.le_trans hE1.1 hz1, fun z hz hn => (hk1 z (Nat.lt_of_lt_of_le hz hE1.1) (fun y => by rw [y, hne] at hz; omega)).trans (hE1.2 z hz hn)⟩
                    have hC2 := hC.eq hE2 (by simp) (by simp) (by simp) (by simp)
                    have hT2 := hT.eq hE2 (by simp) (by simp) (by simp)
                    have hni : ca ∉ ks.map (fun q => q.1) := fun z => by
                      obtain ⟨y, hy1, hy2⟩ := List.mem_map.mp z
                      have hy3 : y.1 = ca := hy2
                      have := (hks y hy1).1.lt
                      rw [hy3, hne] at this
                      exact absurd this (Nat.lt_irrefl _)
                    have hM2 : mf_MS D k5 t0 A H x al tp ca due (mf_order i h0 p0 q0, mf_L ks, met, g) := ⟨ks, rfl, hC2, hT2, hca1, hAc, hni⟩
                    have hsame : ∀ z : Nat, z < s.heap.size → H[z]? = s.heap[z]? := fun z hz => by rw [hH] at hz ⊢; exact hE2.2 z hz (fun y => y.2.elim (fun y => by omega) (fun ⟨_, y, _⟩ => by cases y))
                    refine lv_astore (lv' := [(6, .ref ca), (5, .int (mf_kind h0)), (0, .ref x), (1, .int i), (2, .int h0), (3, .int p0), (4, .int q0)]) C.x C.b md_F_submit_128 hl (by decide) rfl (fun ls hl => ?_)
                    refine lv_aload_n C.x C.b md_F_submit_130 rfl (lv_at hl 2 rfl) ?_
                    refine lv_aload C.x C.b md_F_submit_131 (lv_at hl 0 rfl) ?_
                    refine lv_iload C.x C.b md_F_submit_133 (lv_at hl 1 rfl) ?_
                    refine mf_cks (va_runV (As := [.ref ca, .int (mf_kind h0)]) (rest := []) C.f (k_F_isRefused l D k5 t0 A H x al tp due met ks ca _ (mf_kind h0) hC2 hca1) (mf_cV C mt_271 mt_268 mt_1 mt_270 ms_2 mh_F_isRefused ⟨by decide, by decide⟩) (mf_preV C.ev hS (mf_rv C (ci := 3) (N := 4) rfl hC2.1)) rfl rfl hl.1 rfl (lv_room (Nat.le_of_ble_eq_true rfl)) md_F_submit_135 ⟨by first | omega | exact Nat.le_of_ble_eq_true rfl, by first | omega | exact Nat.le_of_ble_eq_true rfl⟩) ?_
                    refine lv_if_eq (tgt := 151) C.x C.b md_F_submit_138 (by decide) (fun h10 => ?_) (fun h10 => ?_)
                    · skip
                      refine lv_aload_n C.x C.b md_F_submit_151 rfl (lv_at hl 2 rfl) ?_
                      refine lv_aload C.x C.b md_F_submit_152 (lv_at hl 0 rfl) ?_
                      refine lv_iload C.x C.b md_F_submit_154 (lv_at hl 1 rfl) ?_
                      have hln : (mf_L ks).length ≤ 39 := by rw [List.length_map]; have := mf_nI_lt (b := 40) (by omega) h7; omega
                      refine mf_cws (va_runV (As := [.ref ca, .int (mf_kind h0)]) (rest := []) C.f (k_F_comeIn l D k5 t0 A H x al tp ca due met (mf_kind h0) _ _ g hM2 hln hg) (mf_cV C mt_300 mt_297 mt_1 mt_299 ms_7 mh_F_comeIn ⟨by decide, by decide⟩) (mf_preV C.ev hS (mf_rv C (ci := 3) (N := 4) rfl hC2.1)) rfl rfl hl.1 rfl (lv_room (Nat.le_of_ble_eq_true rfl)) md_F_submit_156 ⟨by first | omega | exact Nat.le_of_ble_eq_true rfl, by first | omega | exact Nat.le_of_ble_eq_true rfl⟩) hS (fun _ _ h => h.1) (fun H locs hB9 hz9 hk9 hS => ?_)
                      have hsp : mf_submit i h0 p0 q0 (mf_L ks, due, met, g) = ((0, (mf_comeIn (mf_order i h0 p0 q0) (mf_kind h0) (mf_L ks, due, met, g)).1), (mf_comeIn (mf_order i h0 p0 q0) (mf_kind h0) (mf_L ks, due, met, g)).2) := by
                        unfold mf_submit
                        rw [if_pos (by simp [mf_howOk, h1, Int32.not_lt.mp h1, h2, Int32.not_lt.mp h2, h3, Int32.not_lt.mpr h3, mf_bI_1.mp h4, mf_bI_1.mp h5, h6, h7, Int32.not_le.mpr h7, h8, mf_bI_0.mp h10])]
                        dsimp only
                        exact if_neg (by simp only [hp, List.length_map] at hln ⊢; rw [decide_eq_false (by omega), mf_bI_0.mp h10]; simp)
                      rw [hsp]
                      exact mf_xi rfl C.x C.b hr hlk md_F_submit_159 hB9 (hE2.tr (L := mf_cM D k5) ⟨hz9, hk9⟩ (by simp) (fun _ h => h)) hH hS.2.2 (by decide) (by decide)
                    · skip
                      have hsp : mf_submit i h0 p0 q0 (mf_L ks, due, met, g) = ((2, 0), mf_L ks, due, met, g) := by unfold mf_submit; rw [if_pos (by simp [mf_howOk, h1, Int32.not_lt.mp h1, h2, Int32.not_lt.mp h2, h3, Int32.not_lt.mpr h3, mf_bI_1.mp h4, mf_bI_1.mp h5, h6, h7, Int32.not_le.mpr h7, h8, mf_bI_1.mp h10])]; dsimp only; refine if_pos ?_; rw [show mf_refused (mf_order i h0 p0 q0) (mf_kind h0) (mf_L ks) = true from mf_bI_1.mp h10]; simp
                      rw [hsp]
                      exact mf_thrS C hlt (Or.inr ⟨rfl, rfl⟩) (List.mem_of_getElem? (i := 4) rfl) hS hsame hl.1 md_F_submit_141 md_F_submit_144 md_F_submit_145 md_F_submit_147 md_F_submit_150 hex (by decide) (by decide) (by decide) (by decide) hlk (by decide) (by decide)
                · skip
                  have hsp : mf_submit i h0 p0 q0 (mf_L ks, due, met, g) = ((2, 0), mf_L ks, due, met, g) := by unfold mf_submit; rw [if_pos (by simp [mf_howOk, h1, Int32.not_lt.mp h1, h2, Int32.not_lt.mp h2, h3, Int32.not_lt.mpr h3, mf_bI_1.mp h4, mf_bI_1.mp h5, h6, h7, Int32.not_lt.mp h7])]; dsimp only; refine if_pos ?_; have h40 : 40 ≤ ks.length := Nat.le_of_not_lt (fun z => h7 (nI_lt (b := 40) z (by decide))); simp [h40]
                  rw [hsp]
                  exact mf_thrS C hlt (Or.inr ⟨rfl, rfl⟩) (List.mem_of_getElem? (i := 3) rfl) hS (fun q hq => by rw [hH]) hl.1 md_F_submit_84 md_F_submit_87 md_F_submit_88 md_F_submit_90 md_F_submit_93 hex (by decide) (by decide) (by decide) (by decide) hlk (by decide) (by decide)
              · exact absurd rfl h6
            · rw [show mf_ix (some (j, r)) = nI j from rfl]
              obtain ⟨a, hq⟩ : ∃ a, ks[j]? = some (a, r) := mf_pick_ka hp
              have ha : va_at D mf_cl (a, .inr (1, mf_fs r)) H := (hks _ (List.mem_of_getElem? hq)).1
              have hAa : A a := (hks _ (List.mem_of_getElem? hq)).2
              have hjn : j < ks.length := (List.getElem?_eq_some_iff.mp hq).1
              refine lv_iconst (v := (-1)) C.x C.b md_F_submit_58 (by decide) ?_
              refine lv_icmp_eq (tgt := 72) C.x C.b md_F_submit_59 (by decide) (fun h11 => ?_) (fun h11 => ?_)
              · exact absurd h11 (mf_nI_ne (by omega))
              · skip
                have hsp : mf_submit i h0 p0 q0 (mf_L ks, due, met, g) = ((2, 0), mf_L ks, due, met, g) := by unfold mf_submit; rw [if_pos (by simp [mf_howOk, h1, Int32.not_lt.mp h1, h2, Int32.not_lt.mp h2, h3, Int32.not_lt.mpr h3, mf_bI_1.mp h4, mf_bI_1.mp h5, h11])]; dsimp only; refine if_pos ?_; simp [hp]
                rw [hsp]
                exact mf_thrS C hlt (Or.inr ⟨rfl, rfl⟩) (List.mem_of_getElem? (i := 2) rfl) hS (fun q hq => by rw [hH]) hl.1 md_F_submit_62 md_F_submit_65 md_F_submit_66 md_F_submit_68 md_F_submit_71 hex (by decide) (by decide) (by decide) (by decide) hlk (by decide) (by decide)
          · skip
            have hsp : mf_submit i h0 p0 q0 (mf_L ks, due, met, g) = ((1, 0), mf_L ks, due, met, g) := by unfold mf_submit; exact if_neg (by simp [mf_howOk, h1, Int32.not_lt.mp h1, h2, Int32.not_lt.mp h2, h3, Int32.not_lt.mpr h3, mf_bI_1.mp h4, mf_bI_0.mp h5])
            rw [hsp]
            exact mf_thrI C hlt (Or.inl ⟨rfl, rfl⟩) (List.mem_of_getElem? (i := 1) rfl) hS (fun q hq => by rw [hH]) hl.1 md_F_submit_43 md_F_submit_46 md_F_submit_47 md_F_submit_49 md_F_submit_52 hex (by decide) (by decide) (by decide) (by decide) hlk (by decide) (by decide)
      · skip
        have hsp : mf_submit i h0 p0 q0 (mf_L ks, due, met, g) = ((1, 0), mf_L ks, due, met, g) := by unfold mf_submit; exact if_neg (by simp [mf_howOk, h1, Int32.not_lt.mp h1, h2, Int32.not_lt.mp h2, h3, Int32.not_le.mp h3])
        rw [hsp]
        exact mf_thrI C hlt (Or.inl ⟨rfl, rfl⟩) (List.mem_of_getElem? (i := 0) rfl) hS (fun q hq => by rw [hH]) hl.1 md_F_submit_18 md_F_submit_21 md_F_submit_22 md_F_submit_24 md_F_submit_27 hex (by decide) (by decide) (by decide) (by decide) hlk (by decide) (by decide)
