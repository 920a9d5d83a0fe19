/-! MatchFloor: meeting -/
theorem mf_min_lt {a b : Int32} : (if b < a then b else a) = mf_min a b := by
  unfold mf_min
  by_cases h : a ≤ b
  · rw [if_pos h, if_neg (Int32.not_lt.mpr h)]
  · rw [if_neg h, if_pos (Int32.not_le.mp h)]
theorem mf_ka_of {ks : List (Nat × mf_O)} {j : Nat} {r : mf_O} (h : (mf_L ks)[j]? = some r) : ∃ a, ks[j]? = some (a, r) := by
  have h2 : (ks.map (fun q => q.2))[j]? = some r := h
  rw [List.getElem?_map] at h2
  obtain ⟨⟨a, o⟩, e1, e2⟩ := Option.map_eq_some_iff.mp h2
  cases e2
  exact ⟨a, e1⟩
theorem mf_L_set (ks : List (Nat × mf_O)) (j a : Nat) (r : mf_O) : mf_L (ks.set j (a, r)) = (mf_L ks).set j r := List.map_set
theorem mf_set_erase {α : Type} : ∀ (l : List α) (j : Nat) (x : α), (l.set j x).eraseIdx j = l.eraseIdx j
  | [], _, _ => rfl
  | _ :: _, 0, _ => rfl
  | a :: l, j + 1, x => congrArg (a :: ·) (mf_set_erase l j x)
theorem mf_set_fst {ks : List (Nat × mf_O)} {j a : Nat} {r r1 : mf_O} (hj : ks[j]? = some (a, r)) : (ks.set j (a, r1)).map (fun q => q.1) = ks.map (fun q => q.1) := by
  rw [List.map_set]
  apply List.ext_getElem?
  intro i
  rw [List.getElem?_set]
  by_cases hij : j = i
  · subst hij
    rw [if_pos rfl, List.getElem?_map, hj]
    have := (List.getElem?_eq_some_iff.mp hj).1
    rw [if_pos (by rw [List.length_map]; exact this)]; rfl
  · rw [if_neg hij]
set_option maxRecDepth 100000 in
set_option maxHeartbeats 4000000 in
theorem k_F_meet (l : Launch) (D : va_G) (k5 : mf_k5) (t0 : Nat × Nat) (A : Nat → Prop) (H : Heap) (x al tp ca j : Nat) (due met : Int32) (co r : mf_O) (L : List mf_O) (g : mf_G) (hM : mf_MS D k5 t0 A H x al tp ca due (co, L, met, g)) (hj : L[j]? = some r) (hg : g.1 + 1 < 2 ^ 31) : mf_cWR l my_F_meet mc_F_meet 5 none { frames := 3, cells := 0, slots := 0, locals := 106 } D (mf_tys k5) t0 A H [.ref x, .ref ca, .int (nI j)] none (fun H1 => mf_MS D k5 t0 A H1 x al tp ca due (mf_meet co j r (L, met, g))) (mf_fr A H (mf_cM D k5)) 0 0 := by
  obtain ⟨ks, hL, hC, hT, hca, hAc, hni⟩ := hM
  have hL : mf_L ks = L := hL
  have hC : mf_CL D k5 t0 A H x al tp due met ks := hC
  have hT : mf_TP D k5 A H tp g := hT
  have hca : va_at D mf_cl (ca, .inr (1, mf_fs co)) H := hca
  obtain ⟨hx, hAx, hAL, hks, hnd⟩ := id hC
  obtain ⟨ed, mc, hal, hA1, hle, hor⟩ := id hAL
  rw [List.length_map] at hle
  rw [← hL] at hj
  refine mf_of (by decide) (Nat.le_of_ble_eq_true rfl) ?_
  intro p e s m below meth c ls C hH hr hlk hnm hmt hl hS
  have hl : lv_has ls 5 [(0, .ref x), (1, .ref ca), (2, .int (nI j))] := hl
  obtain ⟨a, hq⟩ : ∃ a, ks[j]? = some (a, r) := mf_ka_of hj
  have ha := (hks _ (List.mem_of_getElem? hq)).1
  have hAa := (hks _ (List.mem_of_getElem? hq)).2
  have ha : va_at D mf_cl (a, .inr (1, mf_fs r)) H := ha
  have hjn : j < ks.length := (List.getElem?_eq_some_iff.mp hq).1
  have hel : ∀ b ∈ ks.map (fun q => q.1), ∃ fs, va_at D mf_cl (b, .inr (1, fs)) H := fun b hb => by
    obtain ⟨q, hq1, hq2⟩ := List.mem_map.mp hb
    exact ⟨_, by rw [← hq2]; exact (hks q hq1).1⟩
  have hnea : a ≠ ca := fun z => hni (by rw [← z]; exact List.mem_map.mpr ⟨_, List.mem_of_getElem? hq, rfl⟩)
  refine lv_aload_n C.x C.b md_F_meet_0 rfl (lv_at hl 0 rfl) ?_
  refine mf_gf C (ci := 3) (N := 4) rfl mi_F 0 (by decide) mt_84 hx (v := .ref al) rfl md_F_meet_1 ?_
  refine lv_iload_n C.x C.b md_F_meet_4 rfl (lv_at hl 2 rfl) ?_
  refine mf_cks (va_runV (As := [.int (nI j)]) (rest := []) C.f (k_A_get l D k5 t0 A H al j a _ hAL (mf_kq hq)) (mf_cV C mt_209 mt_206 mt_4 mt_207 mt_208 mh_A_get ⟨by decide, by decide⟩) (mf_preV C.ev hS (mf_rv C (ci := 0) (N := 3) rfl hal)) rfl rfl hl.1 rfl (lv_room (Nat.le_of_ble_eq_true rfl)) md_F_meet_5 ⟨by first | omega | exact Nat.le_of_ble_eq_true rfl, by first | omega | exact Nat.le_of_ble_eq_true rfl⟩) ?_
  refine mf_cast C (ci := 1) (N := 6) rfl mt_220 ha md_F_meet_8 ?_
  refine lv_astore_n (lv' := [(3, .ref a), (0, .ref x), (1, .ref ca), (2, .int (nI j))]) C.x C.b md_F_meet_11 rfl hl (by decide) rfl (fun ls hl => ?_)
  refine lv_aload_n C.x C.b md_F_meet_12 rfl (lv_at hl 0 rfl) ?_
  refine mf_gfN C (ci := 1) (N := 6) rfl mi_O 1 (by decide) (C.ev.2.1.1 (97, "MatchFloor$Order", "owner", "I") (List.mem_of_getElem? (i := 5) rfl)) ha (v := .int (mf_ow r)) rfl md_F_meet_13 ?_
  refine lv_aload_n C.x C.b md_F_meet_16 rfl (lv_at hl 2 rfl) ?_
  refine mf_gfN C (ci := 1) (N := 6) rfl mi_O 1 (by decide) (C.ev.2.1.1 (97, "MatchFloor$Order", "owner", "I") (List.mem_of_getElem? (i := 5) rfl)) hca (v := .int (mf_ow co)) rfl md_F_meet_17 ?_
  refine lv_icmp_ne (tgt := 43) C.x C.b md_F_meet_20 (by decide) (fun h1 => ?_) (fun h1 => ?_)
  · skip
    refine lv_aload_n C.x C.b md_F_meet_43 rfl (lv_at hl 2 rfl) ?_
    refine mf_gfN C (ci := 1) (N := 6) rfl mi_O 5 (by decide) (C.ev.2.1.1 (81, "MatchFloor$Order", "left", "I") (List.mem_of_getElem? (i := 9) rfl)) hca (v := .int (mf_lf co)) rfl md_F_meet_44 ?_
    refine lv_aload_n C.x C.b md_F_meet_47 rfl (lv_at hl 0 rfl) ?_
    refine mf_gfN C (ci := 1) (N := 6) rfl mi_O 5 (by decide) (C.ev.2.1.1 (81, "MatchFloor$Order", "left", "I") (List.mem_of_getElem? (i := 9) rfl)) ha (v := .int (mf_lf r)) rfl md_F_meet_48 ?_
    refine va_mmin C.x C.b (C.2.2.2.2.2.trans hl.1.symm) C.o (C.t mt_320) (C.t mt_321) (C.t mt_16) (C.t mt_322) (Nat.le_of_ble_eq_true rfl) (Nat.le_of_ble_eq_true rfl) (Nat.le_of_ble_eq_true rfl) (Nat.le_of_ble_eq_true rfl) md_F_meet_51 ?_
    rw [mf_min_lt]
    refine lv_istore (lv' := [(4, .int (mf_min (mf_lf co) (mf_lf r))), (3, .ref a), (0, .ref x), (1, .ref ca), (2, .int (nI j))]) C.x C.b md_F_meet_54 hl (by decide) rfl (fun ls hl => ?_)
    generalize hmn : mf_min (mf_lf co) (mf_lf r) = mn at hl ⊢
    refine lv_aload_n C.x C.b md_F_meet_56 rfl (lv_at hl 3 rfl) ?_
    refine lv_dup C.x C.b md_F_meet_57 rfl ?_
    refine mf_gfN C (ci := 1) (N := 6) rfl mi_O 5 (by decide) (C.ev.2.1.1 (81, "MatchFloor$Order", "left", "I") (List.mem_of_getElem? (i := 9) rfl)) hca (v := .int (mf_lf co)) rfl md_F_meet_58 ?_
    refine lv_iload C.x C.b md_F_meet_61 (lv_at hl 0 rfl) ?_
    refine lv_isub C.x C.b md_F_meet_63 ?_
    refine mf_pfN C (ci := 1) (N := 6) rfl mi_O mp_O mn_O 5 (by decide) (C.ev.2.1.1 (81, "MatchFloor$Order", "left", "I") (List.mem_of_getElem? (i := 9) rfl)) rfl (v := .int ((mf_lf co) - mn)) rfl rfl hca (Nat.le_of_ble_eq_true rfl) (fs' := mf_fs (mf_setLf co (mf_lf co - mn))) rfl hS hAc md_F_meet_64 (fun H1 locs ho1 hz1 hk1 hS => ?_)
    have hE1 : mf_Eq A [D.1 1] H H1 := mf_Eq.one hz1 hk1 hAc (mf_co_o hca)
    have hC1 := hC.ot C.nd hca hAc hni hz1 hk1
    have hT1 := hT.cl C.nd hE1 (by simp)
    have ha1 : va_at D mf_cl (a, .inr (1, mf_fs r)) H1 := ha.kept (hk1 a hnea)
    refine lv_aload_n C.x C.b md_F_meet_67 rfl (lv_at hl 1 rfl) ?_
    refine lv_dup C.x C.b md_F_meet_68 rfl ?_
    refine mf_gfN C (ci := 1) (N := 6) rfl mi_O 5 (by decide) (C.ev.2.1.1 (81, "MatchFloor$Order", "left", "I") (List.mem_of_getElem? (i := 9) rfl)) ha1 (v := .int (mf_lf r)) rfl md_F_meet_69 ?_
    refine lv_iload C.x C.b md_F_meet_72 (lv_at hl 0 rfl) ?_
    refine lv_isub C.x C.b md_F_meet_74 ?_
    refine mf_pfN C (ci := 1) (N := 6) rfl mi_O mp_O mn_O 5 (by decide) (C.ev.2.1.1 (81, "MatchFloor$Order", "left", "I") (List.mem_of_getElem? (i := 9) rfl)) rfl (v := .int ((mf_lf r) - mn)) rfl rfl ha1 (Nat.le_of_ble_eq_true rfl) (fs' := mf_fs (mf_setLf r (mf_lf r - mn))) rfl hS hAa md_F_meet_75 (fun H2 locs ho2 hz2 hk2 hS => ?_)
    have hE2 : mf_Eq A [D.1 1] H1 H2 := mf_Eq.one hz2 hk2 hAa (mf_co_o ha1)
    have hC2 := hC1.up C.nd hq ho2 hz2 hk2
    have hT2 := hT1.cl C.nd hE2 (by simp)
    have hca2 : va_at D mf_cl (ca, .inr (1, mf_fs (mf_setLf co (mf_lf co - mn)))) H2 := ho1.kept (hk2 ca (Ne.symm hnea))
    refine lv_aload_n C.x C.b md_F_meet_78 rfl (lv_at hl 2 rfl) ?_
    refine mf_gf C (ci := 3) (N := 4) rfl mi_F 1 (by decide) mt_85 hC2.1 (v := .ref tp) rfl md_F_meet_79 ?_
    refine lv_aload_n C.x C.b md_F_meet_82 rfl (lv_at hl 3 rfl) ?_
    refine mf_gfN C (ci := 1) (N := 6) rfl mi_O 0 (by decide) (C.ev.2.1.1 (163, "MatchFloor$Order", "id", "I") (List.mem_of_getElem? (i := 4) rfl)) hca2 (v := .int (mf_id co)) rfl md_F_meet_83 ?_
    refine lv_aload_n C.x C.b md_F_meet_86 rfl (lv_at hl 1 rfl) ?_
    refine mf_gfN C (ci := 1) (N := 6) rfl mi_O 0 (by decide) (C.ev.2.1.1 (163, "MatchFloor$Order", "id", "I") (List.mem_of_getElem? (i := 4) rfl)) ho2 (v := .int (mf_id r)) rfl md_F_meet_87 ?_
    refine lv_aload_n C.x C.b md_F_meet_90 rfl (lv_at hl 1 rfl) ?_
    refine mf_gfN C (ci := 1) (N := 6) rfl mi_O 4 (by decide) (C.ev.2.1.1 (92, "MatchFloor$Order", "price", "I") (List.mem_of_getElem? (i := 8) rfl)) ho2 (v := .int (mf_pr r)) rfl md_F_meet_91 ?_
    refine lv_iload C.x C.b md_F_meet_94 (lv_at hl 0 rfl) ?_
    obtain ⟨rw2, rr2, rf2, rx2, htp2, hA32, hrw2⟩ := id hT2
    refine mf_cwn (va_runVN (As := [.int (mf_id co), .int (mf_id r), .int (mf_pr r), .int mn]) (rest := []) C.f (k_T_write l D k5 t0 A H2 tp (mf_id co) (mf_id r) (mf_pr r) mn _ hT2 hg) ⟨mf_cN C mt_326 (C.ev.2.1.2.1 ("MatchFloor", 211, my_T_write) (List.mem_of_getElem? (i := 6) rfl)) mt_5 mh_T_write ⟨by decide, by decide⟩, C.t mt_325, C.t ms_11⟩ (mf_preV C.ev hS (mf_rv C (ci := 2) (N := 5) rfl htp2)) rfl rfl hl.1 rfl (lv_room (Nat.le_of_ble_eq_true rfl)) md_F_meet_96 ⟨by first | omega | exact Nat.le_of_ble_eq_true rfl, by first | omega | exact Nat.le_of_ble_eq_true rfl⟩) hS (fun _ _ h => h.1) (fun H locs hB hz hk hS => ?_)
    have hE3 : mf_Eq A [D.1 2, k5.2.2.1] H2 H := ⟨hz, hk⟩
    have hC3 := hC2.tp C.nd hE3
    have hca3 := hE3.ko hca2 (by simp [mf_nd C.nd (i := 1) (j := 2) rfl rfl (by decide), mf_nd C.nd (i := 1) (j := 7) rfl rfl (by decide)])
    have ha3 := hE3.ko ho2 (by simp [mf_nd C.nd (i := 1) (j := 2) rfl rfl (by decide), mf_nd C.nd (i := 1) (j := 7) rfl rfl (by decide)])
    have hE03 : mf_Eq A (mf_cM D k5) _ H := (hE1.tr (L := mf_cM D k5) (hE2.tr (L := mf_cM D k5) hE3 (by simp) (by simp)) (by simp) (by simp))
    refine lv_aload_n C.x C.b md_F_meet_99 rfl (lv_at hl 1 rfl) ?_
    refine mf_gfN C (ci := 1) (N := 6) rfl mi_O 5 (by decide) (C.ev.2.1.1 (81, "MatchFloor$Order", "left", "I") (List.mem_of_getElem? (i := 9) rfl)) ha3 (v := .int (mf_lf r - mn)) rfl md_F_meet_100 ?_
    refine lv_if_ne (tgt := 115) C.x C.b md_F_meet_103 (by decide) (fun h2 => ?_) (fun h2 => ?_)
    · refine mf_wv C.x C.b hr hlk md_F_meet_115 ⟨ks.set j (a, mf_setLf r (mf_lf r - mn)), ?_, ?_, ?_, ?_, hAc, ?_⟩ hE03 hH hS.2.2 (Nat.le_refl _) (Nat.le_refl _)
      · unfold mf_meet; rw [if_neg h1, hmn, ← hL]; show _ = if _ then _ else _; rw [if_neg h2]; exact mf_L_set _ _ _ _
      · unfold mf_meet; rw [if_neg h1]; exact hC3
      · unfold mf_meet; rw [if_neg h1, hmn]; exact hB
      · unfold mf_meet; rw [if_neg h1, hmn]; exact hca3
      · rw [mf_set_fst hq]; exact hni
    · skip
      have hq3 : (ks.set j (a, mf_setLf r (mf_lf r - mn)))[j]? = some (a, mf_setLf r (mf_lf r - mn)) := by rw [List.getElem?_set, if_pos rfl, if_pos hjn]
      have hel3 : ∀ b ∈ (ks.set j (a, mf_setLf r (mf_lf r - mn))).map (fun q => q.1), ∃ fs, va_at D mf_cl (b, .inr (1, fs)) H := fun b hb => by
        obtain ⟨q, hq1, hq2⟩ := List.mem_map.mp hb
        exact ⟨_, by rw [← hq2]; exact (hC3.2.2.2.1 q hq1).1⟩
      obtain ⟨ed3, mc3, hal3, -⟩ := id hC3.2.2.1
      refine lv_aload_n C.x C.b md_F_meet_106 rfl (lv_at hl 2 rfl) ?_
      refine mf_gf C (ci := 3) (N := 4) rfl mi_F 0 (by decide) mt_84 hC3.1 (v := .ref al) rfl md_F_meet_107 ?_
      refine lv_iload_n C.x C.b md_F_meet_110 rfl (lv_at hl 4 rfl) ?_
      refine mf_cws (va_runV (As := [.int (nI j)]) (rest := []) C.f (k_A_remove l D k5 t0 A H al j a _ hC3.2.2.1 (mf_kq hq3) hel3) (mf_cV C mt_312 mt_309 mt_4 mt_310 mt_311 mh_A_remove ⟨by decide, by decide⟩) (mf_preV C.ev hS (mf_rv C (ci := 0) (N := 3) rfl hal3)) rfl rfl hl.1 rfl (lv_room (Nat.le_of_ble_eq_true rfl)) md_F_meet_111 ⟨by first | omega | exact Nat.le_of_ble_eq_true rfl, by first | omega | exact Nat.le_of_ble_eq_true rfl⟩) hS (fun _ _ h => h.1) (fun H locs hB4 hz4 hk4 hS => ?_)
      have hE4 : mf_Eq A [D.1 0, k5.1] _ H := ⟨hz4, hk4⟩
      have hC4 := hC3.er C.nd hE4 hB4
      refine lv_pop C.x C.b md_F_meet_114 rfl ?_
      refine mf_wv C.x C.b hr hlk md_F_meet_115 ⟨(ks.set j (a, mf_setLf r (mf_lf r - mn))).eraseIdx j, ?_, ?_, ?_, ?_, hAc, ?_⟩ (hE03.tr (L := mf_cM D k5) hE4 (fun _ h => h) (by simp)) hH hS.2.2 (Nat.le_refl _) (Nat.le_refl _)
      · unfold mf_meet; rw [if_neg h1, hmn, ← hL]; show _ = if _ then _ else _; rw [if_pos h2, mf_set_erase]; exact (mf_map_erase _ _ _).symm
      · unfold mf_meet; rw [if_neg h1]; exact hC4
      · unfold mf_meet; rw [if_neg h1, hmn]; exact hB.cl C.nd hE4 (by simp)
      · unfold mf_meet; rw [if_neg h1, hmn]; exact hE4.ko hca3 (by simp [mf_nd C.nd (i := 1) (j := 0) rfl rfl (by decide), mf_nd C.nd (i := 1) (j := 5) rfl rfl (by decide)])
      · rw [mf_set_erase, ← mf_map_erase]; exact fun z => hni (List.mem_of_mem_eraseIdx z)
  · skip
    refine lv_aload_n C.x C.b md_F_meet_23 rfl (lv_at hl 1 rfl) ?_
    refine mf_gf C (ci := 3) (N := 4) rfl mi_F 0 (by decide) mt_84 hx (v := .ref al) rfl md_F_meet_24 ?_
    refine lv_iload_n C.x C.b md_F_meet_27 rfl (lv_at hl 3 rfl) ?_
    refine mf_cws (va_runV (As := [.int (nI j)]) (rest := []) C.f (k_A_remove l D k5 t0 A H al j a _ hAL (mf_kq hq) hel) (mf_cV C mt_312 mt_309 mt_4 mt_310 mt_311 mh_A_remove ⟨by decide, by decide⟩) (mf_preV C.ev hS (mf_rv C (ci := 0) (N := 3) rfl hal)) rfl rfl hl.1 rfl (lv_room (Nat.le_of_ble_eq_true rfl)) md_F_meet_28 ⟨by first | omega | exact Nat.le_of_ble_eq_true rfl, by first | omega | exact Nat.le_of_ble_eq_true rfl⟩) hS (fun _ _ h => h.1) (fun H locs hB hz hk hS => ?_)
    have hE1 : mf_Eq A [D.1 0, k5.1] _ H := ⟨hz, hk⟩
    have hC1 := hC.er C.nd hE1 hB
    refine lv_pop C.x C.b md_F_meet_31 rfl ?_
    refine lv_aload_n C.x C.b md_F_meet_32 rfl (lv_at hl 1 rfl) ?_
    refine lv_dup C.x C.b md_F_meet_33 rfl ?_
    refine mf_gf C (ci := 3) (N := 4) rfl mi_F 3 (by decide) mt_87 hC1.1 (v := .int met) rfl md_F_meet_34 ?_
    refine lv_iconst (v := 1) C.x C.b md_F_meet_37 (by decide) ?_
    refine lv_iadd C.x C.b md_F_meet_38 ?_
    refine mf_pf C (ci := 3) (N := 4) rfl mi_F mp_F mn_F 3 (by decide) mt_87 rfl (v := .int (met + 1)) rfl rfl hC1.1 (Nat.le_of_ble_eq_true rfl) (fs' := [.ref al, .ref tp, .int due, .int (met + 1)]) rfl hS hAx md_F_meet_39 (fun H2 locs hx2 hz2 ho2 hS => ?_)
    have hE2 : mf_Eq A [D.1 3] _ H2 := mf_Eq.one hz2 ho2 hAx (mf_co_o hC1.1)
    have hC2 := hC1.se C.nd hx2 hE2
    have hE3 : mf_Eq A (mf_cM D k5) _ H2 := hE1.tr (L := mf_cM D k5) hE2 (by simp) (by simp)
    have hE4 : mf_Eq A [D.1 0, k5.1, D.1 3] _ H2 := hE1.tr (L := [D.1 0, k5.1, D.1 3]) hE2 (by simp) (by simp)
    refine mf_wv C.x C.b hr hlk md_F_meet_42 ⟨ks.eraseIdx j, ?_, ?_, ?_, ?_, hAc, ?_⟩ hE3 hH hS.2.2 (Nat.le_refl _) (Nat.le_refl _)
    · unfold mf_meet; rw [if_pos h1, ← hL]; exact (mf_map_erase _ _ _).symm
    · unfold mf_meet; rw [if_pos h1]; exact hC2
    · unfold mf_meet; rw [if_pos h1]; exact hT.cl C.nd hE4 (by simp)
    · unfold mf_meet; rw [if_pos h1]; exact hE4.ko hca (by simp [mf_nd C.nd (i := 1) (j := 0) rfl rfl (by decide), mf_nd C.nd (i := 1) (j := 5) rfl rfl (by decide), mf_nd C.nd (i := 1) (j := 3) rfl rfl (by decide)])
    · rw [← mf_map_erase]; exact fun z => hni (List.mem_of_mem_eraseIdx z)
