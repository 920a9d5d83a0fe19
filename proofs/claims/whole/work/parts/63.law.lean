/-! the law: its twelve calls -/
set_option maxRecDepth 100000 in
set_option maxHeartbeats 4000000 in
theorem law_submit (l : Launch) (D : va_G) (k5 : mf_k5) (t0 : Nat × Nat) {p : Program} {e : Env} {s : State} {m : MethodId} {below : List Frame} {meth : Method} {c : Code} {Q : State → Prop} {H : Heap} {locs : List Loc} {cells slots : Nat} {ls : Array Slot} {b L x al tp mo o : Nat} {aa : Nat → Nat} {xs : Nat → Int32} (C : mf_Cx p s m #[.ref b] c "MatchFloorLaw" mc_L_law 7 D (mf_tys k5) t0 (fun q => s.heap.size ≤ q)) (hlt : l.stackTraces = false) (hX : va_X b L xs s s.heap) (hbl : b < s.heap.size) (hL : L ≤ 2560) (hm0 : ∀ q, mf_AM mo aa q → s.heap.size ≤ q) (hAo : mf_Ac s.heap.size mo aa o) {k : Nat} (hk : 5 * k + 5 ≤ L) (hI : mf_IV D k5 t0 s.heap.size x al tp mo o aa k H) (hS : va_S (fun q => s.heap.size ≤ q) s.heap H locs) (hl : lv_has ls 7 [(4, .int (nI (5 * k))), (3, .ref o), (2, .ref mo), (1, .ref x), (0, .ref b)]) (hc : cells + 2 ≤ 601024 ∧ slots + 66 ≤ 7293034) (kk : ∀ (H1 : Heap) (locs1 : List Loc) (ls1 : Array Slot), mf_IV D k5 t0 s.heap.size x al tp mo o aa (k + 1) H1 → va_S (fun q => s.heap.size ≤ q) s.heap H1 locs1 → lv_has ls1 7 [(4, .int (nI (5 * k))), (3, .ref o), (2, .ref mo), (1, .ref x), (0, .ref b)] → W p l e room_1 s m #[.ref b] below meth c H1 locs1 (cells + 2) (slots + 66) Q (F0 m 752 ls1 [])) : W p l e room_1 s m #[.ref b] below meth c H locs cells slots Q (F0 m 100 ls []) := by
  obtain ⟨⟨L1, r1⟩, ⟨R, ck, r2⟩, cd, f, hsim, hM, hR, ho⟩ := hI
  obtain rfl : r1 = r2 := hsim.2.2.1
  obtain ⟨due, met, g⟩ := r1
  have hg : g.1 ≤ 1681 * k := hsim.2.2.2.2
  have hbA : ¬ (s.heap.size ≤ b) := Nat.not_le.mpr hbl
  have hsC : ∀ q, mf_Ac s.heap.size mo aa q → s.heap.size ≤ q := fun q h => h.1
  have hnC : ∀ q, H.size ≤ q → mf_Ac s.heap.size mo aa q := fun q h => ⟨Nat.le_trans hS.1 h, fun z => absurd (hR.in q z).2 (Nat.not_lt.mpr h)⟩
  have hcc : cells + 2 ≤ room_1.cells := hc.1
  have hcs : slots + 66 ≤ room_1.slots := hc.2
  obtain ⟨a1, h1⟩ : ∃ a, xs (5 * k + 1) = a := ⟨_, rfl⟩
  obtain ⟨a2, h2⟩ : ∃ a, xs (5 * k + 2) = a := ⟨_, rfl⟩
  obtain ⟨a3, h3⟩ : ∃ a, xs (5 * k + 3) = a := ⟨_, rfl⟩
  obtain ⟨a4, h4⟩ : ∃ a, xs (5 * k + 4) = a := ⟨_, rfl⟩
  refine lv_aload_n C.x C.b md_L_law_100 rfl (lv_at hl 3 rfl) ?_
  refine lv_aload_n C.x C.b md_L_law_101 rfl (lv_at hl 4 rfl) ?_
  refine lv_iload C.x C.b md_L_law_102 (lv_at hl 0 rfl) ?_
  refine lv_iconst (v := 1) C.x C.b md_L_law_104 (by decide) ?_
  refine lv_iadd C.x C.b md_L_law_105 ?_
  refine mf_sld C hX hbl hbA hS (j := 5 * k + 1) (v := a1) (nI_add (5 * k) 1) (by omega) hL h1 md_L_law_106 ?_
  refine lv_aload_n C.x C.b md_L_law_107 rfl (lv_at hl 4 rfl) ?_
  refine lv_iload C.x C.b md_L_law_108 (lv_at hl 0 rfl) ?_
  refine lv_iconst (v := 2) C.x C.b md_L_law_110 (by decide) ?_
  refine lv_iadd C.x C.b md_L_law_111 ?_
  refine mf_sld C hX hbl hbA hS (j := 5 * k + 2) (v := a2) (nI_add (5 * k) 2) (by omega) hL h2 md_L_law_112 ?_
  refine lv_aload_n C.x C.b md_L_law_113 rfl (lv_at hl 4 rfl) ?_
  refine lv_iload C.x C.b md_L_law_114 (lv_at hl 0 rfl) ?_
  refine lv_iconst (v := 3) C.x C.b md_L_law_116 (by decide) ?_
  refine lv_iadd C.x C.b md_L_law_117 ?_
  refine mf_sld C hX hbl hbA hS (j := 5 * k + 3) (v := a3) (nI_add (5 * k) 3) (by omega) hL h3 md_L_law_118 ?_
  refine lv_aload_n C.x C.b md_L_law_119 rfl (lv_at hl 4 rfl) ?_
  refine lv_iload C.x C.b md_L_law_120 (lv_at hl 0 rfl) ?_
  refine lv_iconst (v := 4) C.x C.b md_L_law_122 (by decide) ?_
  refine lv_iadd C.x C.b md_L_law_123 ?_
  refine mf_sld C hX hbl hbA hS (j := 5 * k + 4) (v := a4) (nI_add (5 * k) 4) (by omega) hL h4 md_L_law_124 ?_
  refine lv_aload_n C.x C.b md_L_law_125 rfl (lv_at hl 1 rfl) ?_
  have hfx := mf_sim_facts hsim
  have hsm := mf_sim_submit (by omega) hsim a1 a2 a3 a4
  refine mf_cws (mf_rup (vx_runSW (As := [.ref x, .int a1, .int a2, .int a3, .int a4, .ref o]) (rest := []) C.f (k_L_submit l D k5 t0 (mf_Ac s.heap.size mo aa) H hlt x al tp a1 a2 a3 a4 L1 due met g o f hM (by omega) ho hAo) (mf_cSW C mt_111 mt_109 mt_0 mt_110 mh_L_submit ⟨by decide, by decide⟩) (mf_preSB C.ev hS hsC hnC) rfl rfl hl.1 rfl (lv_room (Nat.le_of_ble_eq_true rfl)) md_L_law_126 ⟨by first | omega | exact Nat.le_of_ble_eq_true rfl, by first | omega | exact Nat.le_of_ble_eq_true rfl⟩) hsC) hS (fun _ _ h => h.1.1) (fun H1 locs1 hB1 hz1 hk1 hS => ?_)
  obtain ⟨hM1, f1, ho1, hf1⟩ := hB1
  have hR1 := hR.kp (fun q hq hlt => hk1 q hlt (fun z => z.1.2 hq))
  have hsB1 : ∀ q, mf_BM mo aa H1 q → s.heap.size ≤ q := fun q h => h.elim (hm0 q) (fun h => Nat.le_trans hS.1 h)
  have hnB1 : ∀ q, H1.size ≤ q → mf_BM mo aa H1 q := fun q h => Or.inr h
  obtain ⟨fs1, hmo1⟩ := hR1.ob
  refine lv_istore (lv' := [(5, .int (nI (mf_submit a1 a2 a3 a4 (L1, due, met, g)).1.1)), (4, .int (nI (5 * k))), (3, .ref o), (2, .ref mo), (1, .ref x), (0, .ref b)]) C.x C.b md_L_law_129 hl (by decide) rfl (fun ls hl => ?_)
  refine lv_aload_n C.x C.b md_L_law_131 rfl (lv_at hl 3 rfl) ?_
  refine lv_aload_n C.x C.b md_L_law_132 rfl (lv_at hl 5 rfl) ?_
  refine lv_iload C.x C.b md_L_law_133 (lv_at hl 1 rfl) ?_
  refine lv_iconst (v := 1) C.x C.b md_L_law_135 (by decide) ?_
  refine lv_iadd C.x C.b md_L_law_136 ?_
  refine mf_sld C hX hbl hbA hS (j := 5 * k + 1) (v := a1) (nI_add (5 * k) 1) (by omega) hL h1 md_L_law_137 ?_
  refine lv_aload_n C.x C.b md_L_law_138 rfl (lv_at hl 5 rfl) ?_
  refine lv_iload C.x C.b md_L_law_139 (lv_at hl 1 rfl) ?_
  refine lv_iconst (v := 2) C.x C.b md_L_law_141 (by decide) ?_
  refine lv_iadd C.x C.b md_L_law_142 ?_
  refine mf_sld C hX hbl hbA hS (j := 5 * k + 2) (v := a2) (nI_add (5 * k) 2) (by omega) hL h2 md_L_law_143 ?_
  refine lv_aload_n C.x C.b md_L_law_144 rfl (lv_at hl 5 rfl) ?_
  refine lv_iload C.x C.b md_L_law_145 (lv_at hl 1 rfl) ?_
  refine lv_iconst (v := 3) C.x C.b md_L_law_147 (by decide) ?_
  refine lv_iadd C.x C.b md_L_law_148 ?_
  refine mf_sld C hX hbl hbA hS (j := 5 * k + 3) (v := a3) (nI_add (5 * k) 3) (by omega) hL h3 md_L_law_149 ?_
  refine lv_aload_n C.x C.b md_L_law_150 rfl (lv_at hl 5 rfl) ?_
  refine lv_iload C.x C.b md_L_law_151 (lv_at hl 1 rfl) ?_
  refine lv_iconst (v := 4) C.x C.b md_L_law_153 (by decide) ?_
  refine lv_iadd C.x C.b md_L_law_154 ?_
  refine mf_sld C hX hbl hbA hS (j := 5 * k + 4) (v := a4) (nI_add (5 * k) 4) (by omega) hL h4 md_L_law_155 ?_
  refine mf_cws (mf_rup (va_runV (As := [.int a1, .int a2, .int a3, .int a4]) (rest := []) C.f (k_M_submit l D k5 t0 (mf_BM mo aa H1) H1 mo aa cd ck due met R g a1 a2 a3 a4 (hR1.up (fun q h => Or.inl h)) (by omega)) (mf_cV C mt_604 mt_601 mt_6 mt_602 mt_603 mh_M_submit ⟨by decide, by decide⟩) (mf_preVB C.ev hS hsB1 hnB1 (mf_rv C (ci := 4) (N := 20) rfl hmo1)) rfl rfl hl.1 rfl (lv_room (Nat.le_of_ble_eq_true rfl)) md_L_law_156 ⟨by first | omega | exact Nat.le_of_ble_eq_true rfl, by first | omega | exact Nat.le_of_ble_eq_true rfl⟩) hsB1) hS (fun _ _ h => hsB1 _ h) (fun H2 locs2 hB2 hz2 hk2 hS => ?_)
  have hM2 := hM1.kp (B := mf_Ac s.heap.size mo aa) (fun q h _ => h) (fun q hq hlt => hk2 q hlt (fun z => z.elim hq.2 (fun z => absurd hlt (Nat.not_lt.mpr z))))
  have ho2 := ho1.kept (hk2 o ho1.lt (fun z => z.elim hAo.2 (fun z => absurd ho1.lt (Nat.not_lt.mpr z))))
  have hR2 := hB2.re
  have hsB2 : ∀ q, mf_BM mo aa H2 q → s.heap.size ≤ q := fun q h => h.elim (hm0 q) (fun h => Nat.le_trans hS.1 h)
  have hnB2 : ∀ q, H2.size ≤ q → mf_BM mo aa H2 q := fun q h => Or.inr h
  obtain ⟨fs2, hmo2⟩ := hR2.ob
  refine lv_istore (lv' := [(6, .int (rf_submit a1 a2 a3 a4 (R, ck, due, met, g)).1.2), (5, .int (nI (mf_submit a1 a2 a3 a4 (L1, due, met, g)).1.1)), (4, .int (nI (5 * k))), (3, .ref o), (2, .ref mo), (1, .ref x), (0, .ref b)]) C.x C.b md_L_law_159 hl (by decide) rfl (fun ls hl => ?_)
  refine lv_aload_n C.x C.b md_L_law_161 rfl (lv_at hl 4 rfl) ?_
  obtain ⟨⟨R2, ck2, sp2, mt2, g2⟩, hst2⟩ : ∃ z, (rf_submit a1 a2 a3 a4 (R, ck, due, met, g)).2 = z := ⟨_, rfl⟩
  have hR3 := hR2
  rw [hst2] at hR3
  refine mf_cks (va_runV (As := []) (rest := []) C.f (k_M_thrown l D k5 t0 (mf_BM mo aa H2) H2 mo aa (nI (rf_submit a1 a2 a3 a4 (R, ck, due, met, g)).1.1) ck2 sp2 mt2 R2 g2 (hR3.up (fun q h => Or.inl h))) (mf_cV C mt_600 mt_597 mt_6 mt_598 mt_599 mh_M_thrown ⟨by decide, by decide⟩) (mf_preVB C.ev hS hsB2 hnB2 (mf_rv C (ci := 4) (N := 20) rfl hmo2)) rfl rfl hl.1 rfl (lv_room (Nat.le_of_ble_eq_true rfl)) md_L_law_162 ⟨by first | omega | exact Nat.le_of_ble_eq_true rfl, by first | omega | exact Nat.le_of_ble_eq_true rfl⟩) ?_
  refine lv_iload C.x C.b md_L_law_165 (lv_at hl 1 rfl) ?_
  refine lv_icmp_eq (tgt := 172) C.x C.b md_L_law_167 (by decide) (fun h1 => ?_) (fun h1 => ?_)
  · skip
    refine lv_iload C.x C.b md_L_law_172 (lv_at hl 1 rfl) ?_
    refine lv_if_ne (tgt := 189) C.x C.b md_L_law_174 (by decide) (fun h2 => ?_) (fun h2 => ?_)
    · skip
      refine lv_goto (tgt := 752) C.x C.b md_L_law_189 (by decide) ?_
      refine W.widen (k := cells + 2) (n := slots + 66) (by omega) (by omega) ?_
      exact kk _ _ ls ⟨_, _, _, _, hsm.2, hM2, hR2, ho2⟩ hS (lv_sub hl [2, 3, 4, 5, 6] rfl)
    · have hz0 := mf_c0 (mf_submit_b _ _ _ _ _) h2
      refine lv_aload_n C.x C.b md_L_law_177 rfl (lv_at hl 3 rfl) ?_
      refine lv_iconst (v := 0) C.x C.b md_L_law_178 (by decide) ?_
      refine mf_ll C (t := 4) rfl ho2 (by decide) (by decide) (v := ((rf_submit a1 a2 a3 a4 (R, ck, due, met, g)).1.2).toInt64) ((hf1 hz0).trans (by rw [hsm.1])) md_L_law_179 ?_
      refine lv_iload C.x C.b md_L_law_180 (lv_at hl 0 rfl) ?_
      refine lv_i2l (v := ((rf_submit a1 a2 a3 a4 (R, ck, due, met, g)).1.2).toInt64) C.x C.b md_L_law_182 rfl ?_
      refine W.lcmp C.x C.b md_L_law_183 ?_
      rw [mf_cmp0]
      refine lv_if_eq (tgt := 189) C.x C.b md_L_law_184 (by decide) (fun h3 => ?_) (fun h3 => ?_)
      · skip
        refine lv_goto (tgt := 752) C.x C.b md_L_law_189 (by decide) ?_
        refine W.widen (k := cells + 2) (n := slots + 66) (by omega) (by omega) ?_
        exact kk _ _ ls ⟨_, _, _, _, hsm.2, hM2, hR2, ho2⟩ hS (lv_sub hl [2, 3, 4, 5, 6] rfl)
      · exact absurd rfl h3
  · exact absurd (by rw [hsm.1]) h1
set_option maxRecDepth 100000 in
set_option maxHeartbeats 4000000 in
theorem law_cancel (l : Launch) (D : va_G) (k5 : mf_k5) (t0 : Nat × Nat) {p : Program} {e : Env} {s : State} {m : MethodId} {below : List Frame} {meth : Method} {c : Code} {Q : State → Prop} {H : Heap} {locs : List Loc} {cells slots : Nat} {ls : Array Slot} {b L x al tp mo o : Nat} {aa : Nat → Nat} {xs : Nat → Int32} (C : mf_Cx p s m #[.ref b] c "MatchFloorLaw" mc_L_law 7 D (mf_tys k5) t0 (fun q => s.heap.size ≤ q)) (hlt : l.stackTraces = false) (hX : va_X b L xs s s.heap) (hbl : b < s.heap.size) (hL : L ≤ 2560) (hm0 : ∀ q, mf_AM mo aa q → s.heap.size ≤ q) (hAo : mf_Ac s.heap.size mo aa o) {k : Nat} (hk : 5 * k + 5 ≤ L) (hI : mf_IV D k5 t0 s.heap.size x al tp mo o aa k H) (hS : va_S (fun q => s.heap.size ≤ q) s.heap H locs) (hl : lv_has ls 7 [(4, .int (nI (5 * k))), (3, .ref o), (2, .ref mo), (1, .ref x), (0, .ref b)]) (hc : cells + 2 ≤ 601024 ∧ slots + 66 ≤ 7293034) (kk : ∀ (H1 : Heap) (locs1 : List Loc) (ls1 : Array Slot), mf_IV D k5 t0 s.heap.size x al tp mo o aa (k + 1) H1 → va_S (fun q => s.heap.size ≤ q) s.heap H1 locs1 → lv_has ls1 7 [(4, .int (nI (5 * k))), (3, .ref o), (2, .ref mo), (1, .ref x), (0, .ref b)] → W p l e room_1 s m #[.ref b] below meth c H1 locs1 (cells + 2) (slots + 66) Q (F0 m 752 ls1 [])) : W p l e room_1 s m #[.ref b] below meth c H locs cells slots Q (F0 m 192 ls []) := by
  obtain ⟨⟨L1, r1⟩, ⟨R, ck, r2⟩, cd, f, hsim, hM, hR, ho⟩ := hI
  obtain rfl : r1 = r2 := hsim.2.2.1
  obtain ⟨due, met, g⟩ := r1
  have hg : g.1 ≤ 1681 * k := hsim.2.2.2.2
  have hbA : ¬ (s.heap.size ≤ b) := Nat.not_le.mpr hbl
  have hsC : ∀ q, mf_Ac s.heap.size mo aa q → s.heap.size ≤ q := fun q h => h.1
  have hnC : ∀ q, H.size ≤ q → mf_Ac s.heap.size mo aa q := fun q h => ⟨Nat.le_trans hS.1 h, fun z => absurd (hR.in q z).2 (Nat.not_lt.mpr h)⟩
  have hcc : cells + 2 ≤ room_1.cells := hc.1
  have hcs : slots + 66 ≤ room_1.slots := hc.2
  obtain ⟨a1, h1⟩ : ∃ a, xs (5 * k + 1) = a := ⟨_, rfl⟩
  refine lv_aload_n C.x C.b md_L_law_192 rfl (lv_at hl 3 rfl) ?_
  refine lv_aload_n C.x C.b md_L_law_193 rfl (lv_at hl 4 rfl) ?_
  refine lv_iload C.x C.b md_L_law_194 (lv_at hl 0 rfl) ?_
  refine lv_iconst (v := 1) C.x C.b md_L_law_196 (by decide) ?_
  refine lv_iadd C.x C.b md_L_law_197 ?_
  refine mf_sld C hX hbl hbA hS (j := 5 * k + 1) (v := a1) (nI_add (5 * k) 1) (by omega) hL h1 md_L_law_198 ?_
  refine lv_aload_n C.x C.b md_L_law_199 rfl (lv_at hl 1 rfl) ?_
  have hfx := mf_sim_facts hsim
  have hsm := mf_sim_cancel hsim a1
  refine mf_cws (mf_rup (vx_runSW (As := [.ref x, .int a1, .ref o]) (rest := []) C.f (k_L_cancel l D k5 t0 (mf_Ac s.heap.size mo aa) H hlt x al tp a1 L1 due met g o f hM ho hAo) (mf_cSW C mt_396 mt_394 mt_0 mt_395 mh_L_cancel ⟨by decide, by decide⟩) (mf_preSB C.ev hS hsC hnC) rfl rfl hl.1 rfl (lv_room (Nat.le_of_ble_eq_true rfl)) md_L_law_200 ⟨by first | omega | exact Nat.le_of_ble_eq_true rfl, by first | omega | exact Nat.le_of_ble_eq_true rfl⟩) hsC) hS (fun _ _ h => h.1.1) (fun H1 locs1 hB1 hz1 hk1 hS => ?_)
  obtain ⟨hM1, f1, ho1, hf1⟩ := hB1
  have hR1 := hR.kp (fun q hq hlt => hk1 q hlt (fun z => z.1.2 hq))
  have hsB1 : ∀ q, mf_BM mo aa H1 q → s.heap.size ≤ q := fun q h => h.elim (hm0 q) (fun h => Nat.le_trans hS.1 h)
  have hnB1 : ∀ q, H1.size ≤ q → mf_BM mo aa H1 q := fun q h => Or.inr h
  obtain ⟨fs1, hmo1⟩ := hR1.ob
  refine lv_istore (lv' := [(5, .int (nI (mf_cancel a1 (L1, due, met, g)).1.1)), (4, .int (nI (5 * k))), (3, .ref o), (2, .ref mo), (1, .ref x), (0, .ref b)]) C.x C.b md_L_law_203 hl (by decide) rfl (fun ls hl => ?_)
  refine lv_aload_n C.x C.b md_L_law_205 rfl (lv_at hl 3 rfl) ?_
  refine lv_aload_n C.x C.b md_L_law_206 rfl (lv_at hl 5 rfl) ?_
  refine lv_iload C.x C.b md_L_law_207 (lv_at hl 1 rfl) ?_
  refine lv_iconst (v := 1) C.x C.b md_L_law_209 (by decide) ?_
  refine lv_iadd C.x C.b md_L_law_210 ?_
  refine mf_sld C hX hbl hbA hS (j := 5 * k + 1) (v := a1) (nI_add (5 * k) 1) (by omega) hL h1 md_L_law_211 ?_
  refine mf_cws (mf_rup (va_runV (As := [.int a1]) (rest := []) C.f (k_M_cancel l D k5 t0 (mf_BM mo aa H1) H1 mo aa cd ck due met R g a1 (hR1.up (fun q h => Or.inl h))) (mf_cV C mt_664 mt_661 mt_6 mt_662 mt_663 mh_M_cancel ⟨by decide, by decide⟩) (mf_preVB C.ev hS hsB1 hnB1 (mf_rv C (ci := 4) (N := 20) rfl hmo1)) rfl rfl hl.1 rfl (lv_room (Nat.le_of_ble_eq_true rfl)) md_L_law_212 ⟨by first | omega | exact Nat.le_of_ble_eq_true rfl, by first | omega | exact Nat.le_of_ble_eq_true rfl⟩) hsB1) hS (fun _ _ h => hsB1 _ h) (fun H2 locs2 hB2 hz2 hk2 hS => ?_)
  have hM2 := hM1.kp (B := mf_Ac s.heap.size mo aa) (fun q h _ => h) (fun q hq hlt => hk2 q hlt (fun z => z.elim hq.2 (fun z => absurd hlt (Nat.not_lt.mpr z))))
  have ho2 := ho1.kept (hk2 o ho1.lt (fun z => z.elim hAo.2 (fun z => absurd ho1.lt (Nat.not_lt.mpr z))))
  have hR2 := hB2.re
  have hsB2 : ∀ q, mf_BM mo aa H2 q → s.heap.size ≤ q := fun q h => h.elim (hm0 q) (fun h => Nat.le_trans hS.1 h)
  have hnB2 : ∀ q, H2.size ≤ q → mf_BM mo aa H2 q := fun q h => Or.inr h
  obtain ⟨fs2, hmo2⟩ := hR2.ob
  refine lv_istore (lv' := [(6, .int (rf_cancel a1 (R, ck, due, met, g)).1.2), (5, .int (nI (mf_cancel a1 (L1, due, met, g)).1.1)), (4, .int (nI (5 * k))), (3, .ref o), (2, .ref mo), (1, .ref x), (0, .ref b)]) C.x C.b md_L_law_215 hl (by decide) rfl (fun ls hl => ?_)
  refine lv_aload_n C.x C.b md_L_law_217 rfl (lv_at hl 4 rfl) ?_
  obtain ⟨⟨R2, ck2, sp2, mt2, g2⟩, hst2⟩ : ∃ z, (rf_cancel a1 (R, ck, due, met, g)).2 = z := ⟨_, rfl⟩
  have hR3 := hR2
  rw [hst2] at hR3
  refine mf_cks (va_runV (As := []) (rest := []) C.f (k_M_thrown l D k5 t0 (mf_BM mo aa H2) H2 mo aa (nI (rf_cancel a1 (R, ck, due, met, g)).1.1) ck2 sp2 mt2 R2 g2 (hR3.up (fun q h => Or.inl h))) (mf_cV C mt_600 mt_597 mt_6 mt_598 mt_599 mh_M_thrown ⟨by decide, by decide⟩) (mf_preVB C.ev hS hsB2 hnB2 (mf_rv C (ci := 4) (N := 20) rfl hmo2)) rfl rfl hl.1 rfl (lv_room (Nat.le_of_ble_eq_true rfl)) md_L_law_218 ⟨by first | omega | exact Nat.le_of_ble_eq_true rfl, by first | omega | exact Nat.le_of_ble_eq_true rfl⟩) ?_
  refine lv_iload C.x C.b md_L_law_221 (lv_at hl 1 rfl) ?_
  refine lv_icmp_eq (tgt := 228) C.x C.b md_L_law_223 (by decide) (fun h1 => ?_) (fun h1 => ?_)
  · skip
    refine lv_iload C.x C.b md_L_law_228 (lv_at hl 1 rfl) ?_
    refine lv_if_ne (tgt := 245) C.x C.b md_L_law_230 (by decide) (fun h2 => ?_) (fun h2 => ?_)
    · skip
      refine lv_goto (tgt := 752) C.x C.b md_L_law_245 (by decide) ?_
      refine W.widen (k := cells + 2) (n := slots + 66) (by omega) (by omega) ?_
      exact kk _ _ ls ⟨_, _, _, _, hsm.2, hM2, hR2, ho2⟩ hS (lv_sub hl [2, 3, 4, 5, 6] rfl)
    · have hz0 := mf_c0 (mf_cancel_b _ _) h2
      refine lv_aload_n C.x C.b md_L_law_233 rfl (lv_at hl 3 rfl) ?_
      refine lv_iconst (v := 0) C.x C.b md_L_law_234 (by decide) ?_
      refine mf_ll C (t := 4) rfl ho2 (by decide) (by decide) (v := ((rf_cancel a1 (R, ck, due, met, g)).1.2).toInt64) ((hf1 hz0).trans (by rw [hsm.1])) md_L_law_235 ?_
      refine lv_iload C.x C.b md_L_law_236 (lv_at hl 0 rfl) ?_
      refine lv_i2l (v := ((rf_cancel a1 (R, ck, due, met, g)).1.2).toInt64) C.x C.b md_L_law_238 rfl ?_
      refine W.lcmp C.x C.b md_L_law_239 ?_
      rw [mf_cmp0]
      refine lv_if_eq (tgt := 245) C.x C.b md_L_law_240 (by decide) (fun h3 => ?_) (fun h3 => ?_)
      · skip
        refine lv_goto (tgt := 752) C.x C.b md_L_law_245 (by decide) ?_
        refine W.widen (k := cells + 2) (n := slots + 66) (by omega) (by omega) ?_
        exact kk _ _ ls ⟨_, _, _, _, hsm.2, hM2, hR2, ho2⟩ hS (lv_sub hl [2, 3, 4, 5, 6] rfl)
      · exact absurd rfl h3
  · exact absurd (by rw [hsm.1]) h1
set_option maxRecDepth 100000 in
set_option maxHeartbeats 4000000 in
theorem law_amend (l : Launch) (D : va_G) (k5 : mf_k5) (t0 : Nat × Nat) {p : Program} {e : Env} {s : State} {m : MethodId} {below : List Frame} {meth : Method} {c : Code} {Q : State → Prop} {H : Heap} {locs : List Loc} {cells slots : Nat} {ls : Array Slot} {b L x al tp mo o : Nat} {aa : Nat → Nat} {xs : Nat → Int32} (C : mf_Cx p s m #[.ref b] c "MatchFloorLaw" mc_L_law 7 D (mf_tys k5) t0 (fun q => s.heap.size ≤ q)) (hlt : l.stackTraces = false) (hX : va_X b L xs s s.heap) (hbl : b < s.heap.size) (hL : L ≤ 2560) (hm0 : ∀ q, mf_AM mo aa q → s.heap.size ≤ q) (hAo : mf_Ac s.heap.size mo aa o) {k : Nat} (hk : 5 * k + 5 ≤ L) (hI : mf_IV D k5 t0 s.heap.size x al tp mo o aa k H) (hS : va_S (fun q => s.heap.size ≤ q) s.heap H locs) (hl : lv_has ls 7 [(4, .int (nI (5 * k))), (3, .ref o), (2, .ref mo), (1, .ref x), (0, .ref b)]) (hc : cells + 2 ≤ 601024 ∧ slots + 66 ≤ 7293034) (kk : ∀ (H1 : Heap) (locs1 : List Loc) (ls1 : Array Slot), mf_IV D k5 t0 s.heap.size x al tp mo o aa (k + 1) H1 → va_S (fun q => s.heap.size ≤ q) s.heap H1 locs1 → lv_has ls1 7 [(4, .int (nI (5 * k))), (3, .ref o), (2, .ref mo), (1, .ref x), (0, .ref b)] → W p l e room_1 s m #[.ref b] below meth c H1 locs1 (cells + 2) (slots + 66) Q (F0 m 752 ls1 [])) : W p l e room_1 s m #[.ref b] below meth c H locs cells slots Q (F0 m 248 ls []) := by
  obtain ⟨⟨L1, r1⟩, ⟨R, ck, r2⟩, cd, f, hsim, hM, hR, ho⟩ := hI
  obtain rfl : r1 = r2 := hsim.2.2.1
  obtain ⟨due, met, g⟩ := r1
  have hg : g.1 ≤ 1681 * k := hsim.2.2.2.2
  have hbA : ¬ (s.heap.size ≤ b) := Nat.not_le.mpr hbl
  have hsC : ∀ q, mf_Ac s.heap.size mo aa q → s.heap.size ≤ q := fun q h => h.1
  have hnC : ∀ q, H.size ≤ q → mf_Ac s.heap.size mo aa q := fun q h => ⟨Nat.le_trans hS.1 h, fun z => absurd (hR.in q z).2 (Nat.not_lt.mpr h)⟩
  have hcc : cells + 2 ≤ room_1.cells := hc.1
  have hcs : slots + 66 ≤ room_1.slots := hc.2
  obtain ⟨a1, h1⟩ : ∃ a, xs (5 * k + 1) = a := ⟨_, rfl⟩
  obtain ⟨a2, h2⟩ : ∃ a, xs (5 * k + 2) = a := ⟨_, rfl⟩
  obtain ⟨a3, h3⟩ : ∃ a, xs (5 * k + 3) = a := ⟨_, rfl⟩
  refine lv_aload_n C.x C.b md_L_law_248 rfl (lv_at hl 3 rfl) ?_
  refine lv_aload_n C.x C.b md_L_law_249 rfl (lv_at hl 4 rfl) ?_
  refine lv_iload C.x C.b md_L_law_250 (lv_at hl 0 rfl) ?_
  refine lv_iconst (v := 1) C.x C.b md_L_law_252 (by decide) ?_
  refine lv_iadd C.x C.b md_L_law_253 ?_
  refine mf_sld C hX hbl hbA hS (j := 5 * k + 1) (v := a1) (nI_add (5 * k) 1) (by omega) hL h1 md_L_law_254 ?_
  refine lv_aload_n C.x C.b md_L_law_255 rfl (lv_at hl 4 rfl) ?_
  refine lv_iload C.x C.b md_L_law_256 (lv_at hl 0 rfl) ?_
  refine lv_iconst (v := 2) C.x C.b md_L_law_258 (by decide) ?_
  refine lv_iadd C.x C.b md_L_law_259 ?_
  refine mf_sld C hX hbl hbA hS (j := 5 * k + 2) (v := a2) (nI_add (5 * k) 2) (by omega) hL h2 md_L_law_260 ?_
  refine lv_aload_n C.x C.b md_L_law_261 rfl (lv_at hl 4 rfl) ?_
  refine lv_iload C.x C.b md_L_law_262 (lv_at hl 0 rfl) ?_
  refine lv_iconst (v := 3) C.x C.b md_L_law_264 (by decide) ?_
  refine lv_iadd C.x C.b md_L_law_265 ?_
  refine mf_sld C hX hbl hbA hS (j := 5 * k + 3) (v := a3) (nI_add (5 * k) 3) (by omega) hL h3 md_L_law_266 ?_
  refine lv_aload_n C.x C.b md_L_law_267 rfl (lv_at hl 1 rfl) ?_
  have hfx := mf_sim_facts hsim
  have hsm := mf_sim_amend (by omega) hsim a1 a2 a3
  refine mf_cws (mf_rup (vx_runSW (As := [.ref x, .int a1, .int a2, .int a3, .ref o]) (rest := []) C.f (k_L_amend l D k5 t0 (mf_Ac s.heap.size mo aa) H hlt x al tp a1 a2 a3 L1 due met g o f hM (by omega) ho hAo) (mf_cSW C mt_420 mt_418 mt_0 mt_419 mh_L_amend ⟨by decide, by decide⟩) (mf_preSB C.ev hS hsC hnC) rfl rfl hl.1 rfl (lv_room (Nat.le_of_ble_eq_true rfl)) md_L_law_268 ⟨by first | omega | exact Nat.le_of_ble_eq_true rfl, by first | omega | exact Nat.le_of_ble_eq_true rfl⟩) hsC) hS (fun _ _ h => h.1.1) (fun H1 locs1 hB1 hz1 hk1 hS => ?_)
  obtain ⟨hM1, f1, ho1, hf1⟩ := hB1
  have hR1 := hR.kp (fun q hq hlt => hk1 q hlt (fun z => z.1.2 hq))
  have hsB1 : ∀ q, mf_BM mo aa H1 q → s.heap.size ≤ q := fun q h => h.elim (hm0 q) (fun h => Nat.le_trans hS.1 h)
  have hnB1 : ∀ q, H1.size ≤ q → mf_BM mo aa H1 q := fun q h => Or.inr h
  obtain ⟨fs1, hmo1⟩ := hR1.ob
  refine lv_istore (lv' := [(5, .int (nI (mf_amend a1 a2 a3 (L1, due, met, g)).1.1)), (4, .int (nI (5 * k))), (3, .ref o), (2, .ref mo), (1, .ref x), (0, .ref b)]) C.x C.b md_L_law_271 hl (by decide) rfl (fun ls hl => ?_)
  refine lv_aload_n C.x C.b md_L_law_273 rfl (lv_at hl 3 rfl) ?_
  refine lv_aload_n C.x C.b md_L_law_274 rfl (lv_at hl 5 rfl) ?_
  refine lv_iload C.x C.b md_L_law_275 (lv_at hl 1 rfl) ?_
  refine lv_iconst (v := 1) C.x C.b md_L_law_277 (by decide) ?_
  refine lv_iadd C.x C.b md_L_law_278 ?_
  refine mf_sld C hX hbl hbA hS (j := 5 * k + 1) (v := a1) (nI_add (5 * k) 1) (by omega) hL h1 md_L_law_279 ?_
  refine lv_aload_n C.x C.b md_L_law_280 rfl (lv_at hl 5 rfl) ?_
  refine lv_iload C.x C.b md_L_law_281 (lv_at hl 1 rfl) ?_
  refine lv_iconst (v := 2) C.x C.b md_L_law_283 (by decide) ?_
  refine lv_iadd C.x C.b md_L_law_284 ?_
  refine mf_sld C hX hbl hbA hS (j := 5 * k + 2) (v := a2) (nI_add (5 * k) 2) (by omega) hL h2 md_L_law_285 ?_
  refine lv_aload_n C.x C.b md_L_law_286 rfl (lv_at hl 5 rfl) ?_
  refine lv_iload C.x C.b md_L_law_287 (lv_at hl 1 rfl) ?_
  refine lv_iconst (v := 3) C.x C.b md_L_law_289 (by decide) ?_
  refine lv_iadd C.x C.b md_L_law_290 ?_
  refine mf_sld C hX hbl hbA hS (j := 5 * k + 3) (v := a3) (nI_add (5 * k) 3) (by omega) hL h3 md_L_law_291 ?_
  refine mf_cws (mf_rup (va_runV (As := [.int a1, .int a2, .int a3]) (rest := []) C.f (k_M_amend l D k5 t0 (mf_BM mo aa H1) H1 mo aa cd ck due met R g a1 a2 a3 (hR1.up (fun q h => Or.inl h)) (by omega)) (mf_cV C mt_668 mt_665 mt_6 mt_666 mt_667 mh_M_amend ⟨by decide, by decide⟩) (mf_preVB C.ev hS hsB1 hnB1 (mf_rv C (ci := 4) (N := 20) rfl hmo1)) rfl rfl hl.1 rfl (lv_room (Nat.le_of_ble_eq_true rfl)) md_L_law_292 ⟨by first | omega | exact Nat.le_of_ble_eq_true rfl, by first | omega | exact Nat.le_of_ble_eq_true rfl⟩) hsB1) hS (fun _ _ h => hsB1 _ h) (fun H2 locs2 hB2 hz2 hk2 hS => ?_)
  have hM2 := hM1.kp (B := mf_Ac s.heap.size mo aa) (fun q h _ => h) (fun q hq hlt => hk2 q hlt (fun z => z.elim hq.2 (fun z => absurd hlt (Nat.not_lt.mpr z))))
  have ho2 := ho1.kept (hk2 o ho1.lt (fun z => z.elim hAo.2 (fun z => absurd ho1.lt (Nat.not_lt.mpr z))))
  have hR2 := hB2.re
  have hsB2 : ∀ q, mf_BM mo aa H2 q → s.heap.size ≤ q := fun q h => h.elim (hm0 q) (fun h => Nat.le_trans hS.1 h)
  have hnB2 : ∀ q, H2.size ≤ q → mf_BM mo aa H2 q := fun q h => Or.inr h
  obtain ⟨fs2, hmo2⟩ := hR2.ob
  refine lv_istore (lv' := [(6, .int (rf_amend a1 a2 a3 (R, ck, due, met, g)).1.2), (5, .int (nI (mf_amend a1 a2 a3 (L1, due, met, g)).1.1)), (4, .int (nI (5 * k))), (3, .ref o), (2, .ref mo), (1, .ref x), (0, .ref b)]) C.x C.b md_L_law_295 hl (by decide) rfl (fun ls hl => ?_)
  refine lv_aload_n C.x C.b md_L_law_297 rfl (lv_at hl 4 rfl) ?_
  obtain ⟨⟨R2, ck2, sp2, mt2, g2⟩, hst2⟩ : ∃ z, (rf_amend a1 a2 a3 (R, ck, due, met, g)).2 = z := ⟨_, rfl⟩
  have hR3 := hR2
  rw [hst2] at hR3
  refine mf_cks (va_runV (As := []) (rest := []) C.f (k_M_thrown l D k5 t0 (mf_BM mo aa H2) H2 mo aa (nI (rf_amend a1 a2 a3 (R, ck, due, met, g)).1.1) ck2 sp2 mt2 R2 g2 (hR3.up (fun q h => Or.inl h))) (mf_cV C mt_600 mt_597 mt_6 mt_598 mt_599 mh_M_thrown ⟨by decide, by decide⟩) (mf_preVB C.ev hS hsB2 hnB2 (mf_rv C (ci := 4) (N := 20) rfl hmo2)) rfl rfl hl.1 rfl (lv_room (Nat.le_of_ble_eq_true rfl)) md_L_law_298 ⟨by first | omega | exact Nat.le_of_ble_eq_true rfl, by first | omega | exact Nat.le_of_ble_eq_true rfl⟩) ?_
  refine lv_iload C.x C.b md_L_law_301 (lv_at hl 1 rfl) ?_
  refine lv_icmp_eq (tgt := 308) C.x C.b md_L_law_303 (by decide) (fun h1 => ?_) (fun h1 => ?_)
  · skip
    refine lv_iload C.x C.b md_L_law_308 (lv_at hl 1 rfl) ?_
    refine lv_if_ne (tgt := 325) C.x C.b md_L_law_310 (by decide) (fun h2 => ?_) (fun h2 => ?_)
    · skip
      refine lv_goto (tgt := 752) C.x C.b md_L_law_325 (by decide) ?_
      refine W.widen (k := cells + 2) (n := slots + 66) (by omega) (by omega) ?_
      exact kk _ _ ls ⟨_, _, _, _, hsm.2, hM2, hR2, ho2⟩ hS (lv_sub hl [2, 3, 4, 5, 6] rfl)
    · have hz0 := mf_c0 (mf_amend_b _ _ _ _) h2
      refine lv_aload_n C.x C.b md_L_law_313 rfl (lv_at hl 3 rfl) ?_
      refine lv_iconst (v := 0) C.x C.b md_L_law_314 (by decide) ?_
      refine mf_ll C (t := 4) rfl ho2 (by decide) (by decide) (v := ((rf_amend a1 a2 a3 (R, ck, due, met, g)).1.2).toInt64) ((hf1 hz0).trans (by rw [hsm.1])) md_L_law_315 ?_
      refine lv_iload C.x C.b md_L_law_316 (lv_at hl 0 rfl) ?_
      refine lv_i2l (v := ((rf_amend a1 a2 a3 (R, ck, due, met, g)).1.2).toInt64) C.x C.b md_L_law_318 rfl ?_
      refine W.lcmp C.x C.b md_L_law_319 ?_
      rw [mf_cmp0]
      refine lv_if_eq (tgt := 325) C.x C.b md_L_law_320 (by decide) (fun h3 => ?_) (fun h3 => ?_)
      · skip
        refine lv_goto (tgt := 752) C.x C.b md_L_law_325 (by decide) ?_
        refine W.widen (k := cells + 2) (n := slots + 66) (by omega) (by omega) ?_
        exact kk _ _ ls ⟨_, _, _, _, hsm.2, hM2, hR2, ho2⟩ hS (lv_sub hl [2, 3, 4, 5, 6] rfl)
      · exact absurd rfl h3
  · exact absurd (by rw [hsm.1]) h1
set_option maxRecDepth 100000 in
set_option maxHeartbeats 4000000 in
theorem law_withdraw (l : Launch) (D : va_G) (k5 : mf_k5) (t0 : Nat × Nat) {p : Program} {e : Env} {s : State} {m : MethodId} {below : List Frame} {meth : Method} {c : Code} {Q : State → Prop} {H : Heap} {locs : List Loc} {cells slots : Nat} {ls : Array Slot} {b L x al tp mo o : Nat} {aa : Nat → Nat} {xs : Nat → Int32} (C : mf_Cx p s m #[.ref b] c "MatchFloorLaw" mc_L_law 7 D (mf_tys k5) t0 (fun q => s.heap.size ≤ q)) (hlt : l.stackTraces = false) (hX : va_X b L xs s s.heap) (hbl : b < s.heap.size) (hL : L ≤ 2560) (hm0 : ∀ q, mf_AM mo aa q → s.heap.size ≤ q) (hAo : mf_Ac s.heap.size mo aa o) {k : Nat} (hk : 5 * k + 5 ≤ L) (hI : mf_IV D k5 t0 s.heap.size x al tp mo o aa k H) (hS : va_S (fun q => s.heap.size ≤ q) s.heap H locs) (hl : lv_has ls 7 [(4, .int (nI (5 * k))), (3, .ref o), (2, .ref mo), (1, .ref x), (0, .ref b)]) (hc : cells + 2 ≤ 601024 ∧ slots + 66 ≤ 7293034) (kk : ∀ (H1 : Heap) (locs1 : List Loc) (ls1 : Array Slot), mf_IV D k5 t0 s.heap.size x al tp mo o aa (k + 1) H1 → va_S (fun q => s.heap.size ≤ q) s.heap H1 locs1 → lv_has ls1 7 [(4, .int (nI (5 * k))), (3, .ref o), (2, .ref mo), (1, .ref x), (0, .ref b)] → W p l e room_1 s m #[.ref b] below meth c H1 locs1 (cells + 2) (slots + 66) Q (F0 m 752 ls1 [])) : W p l e room_1 s m #[.ref b] below meth c H locs cells slots Q (F0 m 328 ls []) := by
  obtain ⟨⟨L1, r1⟩, ⟨R, ck, r2⟩, cd, f, hsim, hM, hR, ho⟩ := hI
  obtain rfl : r1 = r2 := hsim.2.2.1
  obtain ⟨due, met, g⟩ := r1
  have hg : g.1 ≤ 1681 * k := hsim.2.2.2.2
  have hbA : ¬ (s.heap.size ≤ b) := Nat.not_le.mpr hbl
  have hsC : ∀ q, mf_Ac s.heap.size mo aa q → s.heap.size ≤ q := fun q h => h.1
  have hnC : ∀ q, H.size ≤ q → mf_Ac s.heap.size mo aa q := fun q h => ⟨Nat.le_trans hS.1 h, fun z => absurd (hR.in q z).2 (Nat.not_lt.mpr h)⟩
  have hcc : cells + 2 ≤ room_1.cells := hc.1
  have hcs : slots + 66 ≤ room_1.slots := hc.2
  obtain ⟨a1, h1⟩ : ∃ a, xs (5 * k + 1) = a := ⟨_, rfl⟩
  refine lv_aload_n C.x C.b md_L_law_328 rfl (lv_at hl 3 rfl) ?_
  refine lv_aload_n C.x C.b md_L_law_329 rfl (lv_at hl 4 rfl) ?_
  refine lv_iload C.x C.b md_L_law_330 (lv_at hl 0 rfl) ?_
  refine lv_iconst (v := 1) C.x C.b md_L_law_332 (by decide) ?_
  refine lv_iadd C.x C.b md_L_law_333 ?_
  refine mf_sld C hX hbl hbA hS (j := 5 * k + 1) (v := a1) (nI_add (5 * k) 1) (by omega) hL h1 md_L_law_334 ?_
  refine lv_aload_n C.x C.b md_L_law_335 rfl (lv_at hl 1 rfl) ?_
  have hfx := mf_sim_facts hsim
  have hsm := mf_sim_withdraw hsim a1
  refine mf_cws (mf_rup (vx_runSW (As := [.ref x, .int a1, .ref o]) (rest := []) C.f (k_L_withdraw l D k5 t0 (mf_Ac s.heap.size mo aa) H hlt x al tp a1 L1 due met g o f hM ho hAo) (mf_cSW C mt_427 mt_425 mt_0 mt_426 mh_L_withdraw ⟨by decide, by decide⟩) (mf_preSB C.ev hS hsC hnC) rfl rfl hl.1 rfl (lv_room (Nat.le_of_ble_eq_true rfl)) md_L_law_336 ⟨by first | omega | exact Nat.le_of_ble_eq_true rfl, by first | omega | exact Nat.le_of_ble_eq_true rfl⟩) hsC) hS (fun _ _ h => h.1.1) (fun H1 locs1 hB1 hz1 hk1 hS => ?_)
  obtain ⟨hM1, f1, ho1, hf1⟩ := hB1
  have hR1 := hR.kp (fun q hq hlt => hk1 q hlt (fun z => z.1.2 hq))
  have hsB1 : ∀ q, mf_BM mo aa H1 q → s.heap.size ≤ q := fun q h => h.elim (hm0 q) (fun h => Nat.le_trans hS.1 h)
  have hnB1 : ∀ q, H1.size ≤ q → mf_BM mo aa H1 q := fun q h => Or.inr h
  obtain ⟨fs1, hmo1⟩ := hR1.ob
  refine lv_istore (lv' := [(5, .int (nI (mf_withdraw a1 (L1, due, met, g)).1.1)), (4, .int (nI (5 * k))), (3, .ref o), (2, .ref mo), (1, .ref x), (0, .ref b)]) C.x C.b md_L_law_339 hl (by decide) rfl (fun ls hl => ?_)
  refine lv_aload_n C.x C.b md_L_law_341 rfl (lv_at hl 3 rfl) ?_
  refine lv_aload_n C.x C.b md_L_law_342 rfl (lv_at hl 5 rfl) ?_
  refine lv_iload C.x C.b md_L_law_343 (lv_at hl 1 rfl) ?_
  refine lv_iconst (v := 1) C.x C.b md_L_law_345 (by decide) ?_
  refine lv_iadd C.x C.b md_L_law_346 ?_
  refine mf_sld C hX hbl hbA hS (j := 5 * k + 1) (v := a1) (nI_add (5 * k) 1) (by omega) hL h1 md_L_law_347 ?_
  refine mf_cws (mf_rup (va_runV (As := [.int a1]) (rest := []) C.f (k_M_withdraw l D k5 t0 (mf_BM mo aa H1) H1 mo aa cd ck due met R g a1 (hR1.up (fun q h => Or.inl h))) (mf_cV C mt_672 mt_669 mt_6 mt_670 mt_671 mh_M_withdraw ⟨by decide, by decide⟩) (mf_preVB C.ev hS hsB1 hnB1 (mf_rv C (ci := 4) (N := 20) rfl hmo1)) rfl rfl hl.1 rfl (lv_room (Nat.le_of_ble_eq_true rfl)) md_L_law_348 ⟨by first | omega | exact Nat.le_of_ble_eq_true rfl, by first | omega | exact Nat.le_of_ble_eq_true rfl⟩) hsB1) hS (fun _ _ h => hsB1 _ h) (fun H2 locs2 hB2 hz2 hk2 hS => ?_)
  have hM2 := hM1.kp (B := mf_Ac s.heap.size mo aa) (fun q h _ => h) (fun q hq hlt => hk2 q hlt (fun z => z.elim hq.2 (fun z => absurd hlt (Nat.not_lt.mpr z))))
  have ho2 := ho1.kept (hk2 o ho1.lt (fun z => z.elim hAo.2 (fun z => absurd ho1.lt (Nat.not_lt.mpr z))))
  have hR2 := hB2.re
  have hsB2 : ∀ q, mf_BM mo aa H2 q → s.heap.size ≤ q := fun q h => h.elim (hm0 q) (fun h => Nat.le_trans hS.1 h)
  have hnB2 : ∀ q, H2.size ≤ q → mf_BM mo aa H2 q := fun q h => Or.inr h
  obtain ⟨fs2, hmo2⟩ := hR2.ob
  refine lv_istore (lv' := [(6, .int (rf_withdraw a1 (R, ck, due, met, g)).1.2), (5, .int (nI (mf_withdraw a1 (L1, due, met, g)).1.1)), (4, .int (nI (5 * k))), (3, .ref o), (2, .ref mo), (1, .ref x), (0, .ref b)]) C.x C.b md_L_law_351 hl (by decide) rfl (fun ls hl => ?_)
  refine lv_aload_n C.x C.b md_L_law_353 rfl (lv_at hl 4 rfl) ?_
  obtain ⟨⟨R2, ck2, sp2, mt2, g2⟩, hst2⟩ : ∃ z, (rf_withdraw a1 (R, ck, due, met, g)).2 = z := ⟨_, rfl⟩
  have hR3 := hR2
  rw [hst2] at hR3
  refine mf_cks (va_runV (As := []) (rest := []) C.f (k_M_thrown l D k5 t0 (mf_BM mo aa H2) H2 mo aa (nI (rf_withdraw a1 (R, ck, due, met, g)).1.1) ck2 sp2 mt2 R2 g2 (hR3.up (fun q h => Or.inl h))) (mf_cV C mt_600 mt_597 mt_6 mt_598 mt_599 mh_M_thrown ⟨by decide, by decide⟩) (mf_preVB C.ev hS hsB2 hnB2 (mf_rv C (ci := 4) (N := 20) rfl hmo2)) rfl rfl hl.1 rfl (lv_room (Nat.le_of_ble_eq_true rfl)) md_L_law_354 ⟨by first | omega | exact Nat.le_of_ble_eq_true rfl, by first | omega | exact Nat.le_of_ble_eq_true rfl⟩) ?_
  refine lv_iload C.x C.b md_L_law_357 (lv_at hl 1 rfl) ?_
  refine lv_icmp_eq (tgt := 364) C.x C.b md_L_law_359 (by decide) (fun h1 => ?_) (fun h1 => ?_)
  · skip
    refine lv_iload C.x C.b md_L_law_364 (lv_at hl 1 rfl) ?_
    refine lv_if_ne (tgt := 381) C.x C.b md_L_law_366 (by decide) (fun h2 => ?_) (fun h2 => ?_)
    · skip
      refine lv_goto (tgt := 752) C.x C.b md_L_law_381 (by decide) ?_
      refine W.widen (k := cells + 2) (n := slots + 66) (by omega) (by omega) ?_
      exact kk _ _ ls ⟨_, _, _, _, hsm.2, hM2, hR2, ho2⟩ hS (lv_sub hl [2, 3, 4, 5, 6] rfl)
    · have hz0 := mf_c0 (mf_withdraw_b _ _) h2
      refine lv_aload_n C.x C.b md_L_law_369 rfl (lv_at hl 3 rfl) ?_
      refine lv_iconst (v := 0) C.x C.b md_L_law_370 (by decide) ?_
      refine mf_ll C (t := 4) rfl ho2 (by decide) (by decide) (v := ((rf_withdraw a1 (R, ck, due, met, g)).1.2).toInt64) ((hf1 hz0).trans (by rw [hsm.1])) md_L_law_371 ?_
      refine lv_iload C.x C.b md_L_law_372 (lv_at hl 0 rfl) ?_
      refine lv_i2l (v := ((rf_withdraw a1 (R, ck, due, met, g)).1.2).toInt64) C.x C.b md_L_law_374 rfl ?_
      refine W.lcmp C.x C.b md_L_law_375 ?_
      rw [mf_cmp0]
      refine lv_if_eq (tgt := 381) C.x C.b md_L_law_376 (by decide) (fun h3 => ?_) (fun h3 => ?_)
      · skip
        refine lv_goto (tgt := 752) C.x C.b md_L_law_381 (by decide) ?_
        refine W.widen (k := cells + 2) (n := slots + 66) (by omega) (by omega) ?_
        exact kk _ _ ls ⟨_, _, _, _, hsm.2, hM2, hR2, ho2⟩ hS (lv_sub hl [2, 3, 4, 5, 6] rfl)
      · exact absurd rfl h3
  · exact absurd (by rw [hsm.1]) h1
set_option maxRecDepth 100000 in
set_option maxHeartbeats 4000000 in
theorem law_levels (l : Launch) (D : va_G) (k5 : mf_k5) (t0 : Nat × Nat) {p : Program} {e : Env} {s : State} {m : MethodId} {below : List Frame} {meth : Method} {c : Code} {Q : State → Prop} {H : Heap} {locs : List Loc} {cells slots : Nat} {ls : Array Slot} {b L x al tp mo o : Nat} {aa : Nat → Nat} {xs : Nat → Int32} (C : mf_Cx p s m #[.ref b] c "MatchFloorLaw" mc_L_law 7 D (mf_tys k5) t0 (fun q => s.heap.size ≤ q)) (hlt : l.stackTraces = false) (hX : va_X b L xs s s.heap) (hbl : b < s.heap.size) (hL : L ≤ 2560) (hm0 : ∀ q, mf_AM mo aa q → s.heap.size ≤ q) (hAo : mf_Ac s.heap.size mo aa o) {k : Nat} (hk : 5 * k + 5 ≤ L) (hI : mf_IV D k5 t0 s.heap.size x al tp mo o aa k H) (hS : va_S (fun q => s.heap.size ≤ q) s.heap H locs) (hl : lv_has ls 7 [(4, .int (nI (5 * k))), (3, .ref o), (2, .ref mo), (1, .ref x), (0, .ref b)]) (hc : cells + 2 ≤ 601024 ∧ slots + 66 ≤ 7293034) (kk : ∀ (H1 : Heap) (locs1 : List Loc) (ls1 : Array Slot), mf_IV D k5 t0 s.heap.size x al tp mo o aa (k + 1) H1 → va_S (fun q => s.heap.size ≤ q) s.heap H1 locs1 → lv_has ls1 7 [(4, .int (nI (5 * k))), (3, .ref o), (2, .ref mo), (1, .ref x), (0, .ref b)] → W p l e room_1 s m #[.ref b] below meth c H1 locs1 (cells + 2) (slots + 66) Q (F0 m 752 ls1 [])) : W p l e room_1 s m #[.ref b] below meth c H locs cells slots Q (F0 m 384 ls []) := by
  obtain ⟨⟨L1, r1⟩, ⟨R, ck, r2⟩, cd, f, hsim, hM, hR, ho⟩ := hI
  obtain rfl : r1 = r2 := hsim.2.2.1
  obtain ⟨due, met, g⟩ := r1
  have hg : g.1 ≤ 1681 * k := hsim.2.2.2.2
  have hbA : ¬ (s.heap.size ≤ b) := Nat.not_le.mpr hbl
  have hsC : ∀ q, mf_Ac s.heap.size mo aa q → s.heap.size ≤ q := fun q h => h.1
  have hnC : ∀ q, H.size ≤ q → mf_Ac s.heap.size mo aa q := fun q h => ⟨Nat.le_trans hS.1 h, fun z => absurd (hR.in q z).2 (Nat.not_lt.mpr h)⟩
  have hcc : cells + 2 ≤ room_1.cells := hc.1
  have hcs : slots + 66 ≤ room_1.slots := hc.2
  obtain ⟨a1, h1⟩ : ∃ a, xs (5 * k + 1) = a := ⟨_, rfl⟩
  refine lv_aload_n C.x C.b md_L_law_384 rfl (lv_at hl 3 rfl) ?_
  refine lv_aload_n C.x C.b md_L_law_385 rfl (lv_at hl 4 rfl) ?_
  refine lv_iload C.x C.b md_L_law_386 (lv_at hl 0 rfl) ?_
  refine lv_iconst (v := 1) C.x C.b md_L_law_388 (by decide) ?_
  refine lv_iadd C.x C.b md_L_law_389 ?_
  refine mf_sld C hX hbl hbA hS (j := 5 * k + 1) (v := a1) (nI_add (5 * k) 1) (by omega) hL h1 md_L_law_390 ?_
  refine lv_aload_n C.x C.b md_L_law_391 rfl (lv_at hl 1 rfl) ?_
  have hfx := mf_sim_facts hsim
  have hsm : mf_levels a1 (L1, due, met, g) = rf_levels a1 (R, ck, due, met, g) := mf_sim_levels hsim a1
  refine mf_cws (mf_rup (vx_runSW (As := [.ref x, .int a1, .ref o]) (rest := []) C.f (k_L_levels l D k5 t0 (mf_Ac s.heap.size mo aa) H hlt x al tp a1 L1 due met g o f hM hfx.1 ho hAo) (mf_cSW C mt_435 mt_433 mt_0 mt_434 mh_L_levels ⟨by decide, by decide⟩) (mf_preSB C.ev hS hsC hnC) rfl rfl hl.1 rfl (lv_room (Nat.le_of_ble_eq_true rfl)) md_L_law_392 ⟨by first | omega | exact Nat.le_of_ble_eq_true rfl, by first | omega | exact Nat.le_of_ble_eq_true rfl⟩) hsC) hS (fun _ _ h => h.1.1) (fun H1 locs1 hB1 hz1 hk1 hS => ?_)
  obtain ⟨hM1, f1, ho1, hf1⟩ := hB1
  have hR1 := hR.kp (fun q hq hlt => hk1 q hlt (fun z => z.1.2 hq))
  have hsB1 : ∀ q, mf_BM mo aa H1 q → s.heap.size ≤ q := fun q h => h.elim (hm0 q) (fun h => Nat.le_trans hS.1 h)
  have hnB1 : ∀ q, H1.size ≤ q → mf_BM mo aa H1 q := fun q h => Or.inr h
  obtain ⟨fs1, hmo1⟩ := hR1.ob
  refine lv_istore (lv' := [(5, .int (nI (mf_levels a1 (L1, due, met, g)).1)), (4, .int (nI (5 * k))), (3, .ref o), (2, .ref mo), (1, .ref x), (0, .ref b)]) C.x C.b md_L_law_395 hl (by decide) rfl (fun ls hl => ?_)
  refine lv_aload_n C.x C.b md_L_law_397 rfl (lv_at hl 3 rfl) ?_
  refine lv_aload_n C.x C.b md_L_law_398 rfl (lv_at hl 5 rfl) ?_
  refine lv_iload C.x C.b md_L_law_399 (lv_at hl 1 rfl) ?_
  refine lv_iconst (v := 1) C.x C.b md_L_law_401 (by decide) ?_
  refine lv_iadd C.x C.b md_L_law_402 ?_
  refine mf_sld C hX hbl hbA hS (j := 5 * k + 1) (v := a1) (nI_add (5 * k) 1) (by omega) hL h1 md_L_law_403 ?_
  refine mf_cws (mf_rup (va_runV (As := [.int a1]) (rest := []) C.f (k_M_levels l D k5 t0 (mf_BM mo aa H1) H1 mo aa cd ck due met R g a1 L1 (hR1.up (fun q h => Or.inl h)) hfx.2.1 (hfx.2.2.1 a1) hfx.2.2.2.1 hfx.2.2.2.2) (mf_cV C mt_676 mt_673 mt_6 mt_674 mt_675 mh_M_levels ⟨by decide, by decide⟩) (mf_preVB C.ev hS hsB1 hnB1 (mf_rv C (ci := 4) (N := 20) rfl hmo1)) rfl rfl hl.1 rfl (lv_room (Nat.le_of_ble_eq_true rfl)) md_L_law_404 ⟨by first | omega | exact Nat.le_of_ble_eq_true rfl, by first | omega | exact Nat.le_of_ble_eq_true rfl⟩) hsB1) hS (fun _ _ h => hsB1 _ h) (fun H2 locs2 hB2 hz2 hk2 hS => ?_)
  have hM2 := hM1.kp (B := mf_Ac s.heap.size mo aa) (fun q h _ => h) (fun q hq hlt => hk2 q hlt (fun z => z.elim hq.2 (fun z => absurd hlt (Nat.not_lt.mpr z))))
  have ho2 := ho1.kept (hk2 o ho1.lt (fun z => z.elim hAo.2 (fun z => absurd ho1.lt (Nat.not_lt.mpr z))))
  have hR2 := hB2.re
  have hsB2 : ∀ q, mf_BM mo aa H2 q → s.heap.size ≤ q := fun q h => h.elim (hm0 q) (fun h => Nat.le_trans hS.1 h)
  have hnB2 : ∀ q, H2.size ≤ q → mf_BM mo aa H2 q := fun q h => Or.inr h
  obtain ⟨fs2, hmo2⟩ := hR2.ob
  refine lv_istore (lv' := [(6, .int (rf_levels a1 (R, ck, due, met, g)).2), (5, .int (nI (mf_levels a1 (L1, due, met, g)).1)), (4, .int (nI (5 * k))), (3, .ref o), (2, .ref mo), (1, .ref x), (0, .ref b)]) C.x C.b md_L_law_407 hl (by decide) rfl (fun ls hl => ?_)
  refine lv_aload_n C.x C.b md_L_law_409 rfl (lv_at hl 4 rfl) ?_
  refine mf_cks (va_runV (As := []) (rest := []) C.f (k_M_thrown l D k5 t0 (mf_BM mo aa H2) H2 mo aa (nI (rf_levels a1 (R, ck, due, met, g)).1) ck due met R g (hR2.up (fun q h => Or.inl h))) (mf_cV C mt_600 mt_597 mt_6 mt_598 mt_599 mh_M_thrown ⟨by decide, by decide⟩) (mf_preVB C.ev hS hsB2 hnB2 (mf_rv C (ci := 4) (N := 20) rfl hmo2)) rfl rfl hl.1 rfl (lv_room (Nat.le_of_ble_eq_true rfl)) md_L_law_410 ⟨by first | omega | exact Nat.le_of_ble_eq_true rfl, by first | omega | exact Nat.le_of_ble_eq_true rfl⟩) ?_
  refine lv_iload C.x C.b md_L_law_413 (lv_at hl 1 rfl) ?_
  refine lv_icmp_eq (tgt := 420) C.x C.b md_L_law_415 (by decide) (fun h1 => ?_) (fun h1 => ?_)
  · skip
    refine lv_iload C.x C.b md_L_law_420 (lv_at hl 1 rfl) ?_
    refine lv_if_ne (tgt := 437) C.x C.b md_L_law_422 (by decide) (fun h2 => ?_) (fun h2 => ?_)
    · skip
      refine lv_goto (tgt := 752) C.x C.b md_L_law_437 (by decide) ?_
      refine W.widen (k := cells + 2) (n := slots + 66) (by omega) (by omega) ?_
      exact kk _ _ ls ⟨_, _, _, _, hsim.up, hM2, hR2, ho2⟩ hS (lv_sub hl [2, 3, 4, 5, 6] rfl)
    · have hz0 := mf_c0 (mf_levels_b _ _) h2
      refine lv_aload_n C.x C.b md_L_law_425 rfl (lv_at hl 3 rfl) ?_
      refine lv_iconst (v := 0) C.x C.b md_L_law_426 (by decide) ?_
      refine mf_ll C (t := 4) rfl ho2 (by decide) (by decide) (v := ((rf_levels a1 (R, ck, due, met, g)).2).toInt64) ((hf1 hz0).trans (by rw [hsm])) md_L_law_427 ?_
      refine lv_iload C.x C.b md_L_law_428 (lv_at hl 0 rfl) ?_
      refine lv_i2l (v := ((rf_levels a1 (R, ck, due, met, g)).2).toInt64) C.x C.b md_L_law_430 rfl ?_
      refine W.lcmp C.x C.b md_L_law_431 ?_
      rw [mf_cmp0]
      refine lv_if_eq (tgt := 437) C.x C.b md_L_law_432 (by decide) (fun h3 => ?_) (fun h3 => ?_)
      · skip
        refine lv_goto (tgt := 752) C.x C.b md_L_law_437 (by decide) ?_
        refine W.widen (k := cells + 2) (n := slots + 66) (by omega) (by omega) ?_
        exact kk _ _ ls ⟨_, _, _, _, hsim.up, hM2, hR2, ho2⟩ hS (lv_sub hl [2, 3, 4, 5, 6] rfl)
      · exact absurd rfl h3
  · exact absurd (by rw [hsm]) h1
set_option maxRecDepth 100000 in
set_option maxHeartbeats 4000000 in
theorem law_level (l : Launch) (D : va_G) (k5 : mf_k5) (t0 : Nat × Nat) {p : Program} {e : Env} {s : State} {m : MethodId} {below : List Frame} {meth : Method} {c : Code} {Q : State → Prop} {H : Heap} {locs : List Loc} {cells slots : Nat} {ls : Array Slot} {b L x al tp mo o : Nat} {aa : Nat → Nat} {xs : Nat → Int32} (C : mf_Cx p s m #[.ref b] c "MatchFloorLaw" mc_L_law 7 D (mf_tys k5) t0 (fun q => s.heap.size ≤ q)) (hlt : l.stackTraces = false) (hX : va_X b L xs s s.heap) (hbl : b < s.heap.size) (hL : L ≤ 2560) (hm0 : ∀ q, mf_AM mo aa q → s.heap.size ≤ q) (hAo : mf_Ac s.heap.size mo aa o) {k : Nat} (hk : 5 * k + 5 ≤ L) (hI : mf_IV D k5 t0 s.heap.size x al tp mo o aa k H) (hS : va_S (fun q => s.heap.size ≤ q) s.heap H locs) (hl : lv_has ls 7 [(4, .int (nI (5 * k))), (3, .ref o), (2, .ref mo), (1, .ref x), (0, .ref b)]) (hc : cells + 2 ≤ 601024 ∧ slots + 66 ≤ 7293034) (kk : ∀ (H1 : Heap) (locs1 : List Loc) (ls1 : Array Slot), mf_IV D k5 t0 s.heap.size x al tp mo o aa (k + 1) H1 → va_S (fun q => s.heap.size ≤ q) s.heap H1 locs1 → lv_has ls1 7 [(4, .int (nI (5 * k))), (3, .ref o), (2, .ref mo), (1, .ref x), (0, .ref b)] → W p l e room_1 s m #[.ref b] below meth c H1 locs1 (cells + 2) (slots + 66) Q (F0 m 752 ls1 [])) : W p l e room_1 s m #[.ref b] below meth c H locs cells slots Q (F0 m 440 ls []) := by
  obtain ⟨⟨L1, r1⟩, ⟨R, ck, r2⟩, cd, f, hsim, hM, hR, ho⟩ := hI
  obtain rfl : r1 = r2 := hsim.2.2.1
  obtain ⟨due, met, g⟩ := r1
  have hg : g.1 ≤ 1681 * k := hsim.2.2.2.2
  have hbA : ¬ (s.heap.size ≤ b) := Nat.not_le.mpr hbl
  have hsC : ∀ q, mf_Ac s.heap.size mo aa q → s.heap.size ≤ q := fun q h => h.1
  have hnC : ∀ q, H.size ≤ q → mf_Ac s.heap.size mo aa q := fun q h => ⟨Nat.le_trans hS.1 h, fun z => absurd (hR.in q z).2 (Nat.not_lt.mpr h)⟩
  have hcc : cells + 2 ≤ room_1.cells := hc.1
  have hcs : slots + 66 ≤ room_1.slots := hc.2
  obtain ⟨a1, h1⟩ : ∃ a, xs (5 * k + 1) = a := ⟨_, rfl⟩
  obtain ⟨a2, h2⟩ : ∃ a, xs (5 * k + 2) = a := ⟨_, rfl⟩
  obtain ⟨a3, h3⟩ : ∃ a, xs (5 * k + 3) = a := ⟨_, rfl⟩
  refine lv_aload_n C.x C.b md_L_law_440 rfl (lv_at hl 3 rfl) ?_
  refine lv_aload_n C.x C.b md_L_law_441 rfl (lv_at hl 4 rfl) ?_
  refine lv_iload C.x C.b md_L_law_442 (lv_at hl 0 rfl) ?_
  refine lv_iconst (v := 1) C.x C.b md_L_law_444 (by decide) ?_
  refine lv_iadd C.x C.b md_L_law_445 ?_
  refine mf_sld C hX hbl hbA hS (j := 5 * k + 1) (v := a1) (nI_add (5 * k) 1) (by omega) hL h1 md_L_law_446 ?_
  refine lv_aload_n C.x C.b md_L_law_447 rfl (lv_at hl 4 rfl) ?_
  refine lv_iload C.x C.b md_L_law_448 (lv_at hl 0 rfl) ?_
  refine lv_iconst (v := 2) C.x C.b md_L_law_450 (by decide) ?_
  refine lv_iadd C.x C.b md_L_law_451 ?_
  refine mf_sld C hX hbl hbA hS (j := 5 * k + 2) (v := a2) (nI_add (5 * k) 2) (by omega) hL h2 md_L_law_452 ?_
  refine lv_aload_n C.x C.b md_L_law_453 rfl (lv_at hl 4 rfl) ?_
  refine lv_iload C.x C.b md_L_law_454 (lv_at hl 0 rfl) ?_
  refine lv_iconst (v := 3) C.x C.b md_L_law_456 (by decide) ?_
  refine lv_iadd C.x C.b md_L_law_457 ?_
  refine mf_sld C hX hbl hbA hS (j := 5 * k + 3) (v := a3) (nI_add (5 * k) 3) (by omega) hL h3 md_L_law_458 ?_
  refine lv_aload_n C.x C.b md_L_law_459 rfl (lv_at hl 1 rfl) ?_
  have hfx := mf_sim_facts hsim
  have hsm : mf_level a1 a2 a3 (L1, due, met, g) = rf_level a1 a2 a3 (R, ck, due, met, g) := mf_sim_level hsim a1 a2 a3
  refine mf_cws (mf_rup (vx_runSW (As := [.ref x, .int a1, .int a2, .int a3, .ref o]) (rest := []) C.f (k_L_level l D k5 t0 (mf_Ac s.heap.size mo aa) H hlt x al tp a1 a2 a3 L1 due met g o f hM hfx.1 ho hAo) (mf_cSW C mt_454 mt_452 mt_0 mt_453 mh_L_level ⟨by decide, by decide⟩) (mf_preSB C.ev hS hsC hnC) rfl rfl hl.1 rfl (lv_room (Nat.le_of_ble_eq_true rfl)) md_L_law_460 ⟨by first | omega | exact Nat.le_of_ble_eq_true rfl, by first | omega | exact Nat.le_of_ble_eq_true rfl⟩) hsC) hS (fun _ _ h => h.1.1) (fun H1 locs1 hB1 hz1 hk1 hS => ?_)
  obtain ⟨hM1, f1, ho1, hf1⟩ := hB1
  have hR1 := hR.kp (fun q hq hlt => hk1 q hlt (fun z => z.1.2 hq))
  have hsB1 : ∀ q, mf_BM mo aa H1 q → s.heap.size ≤ q := fun q h => h.elim (hm0 q) (fun h => Nat.le_trans hS.1 h)
  have hnB1 : ∀ q, H1.size ≤ q → mf_BM mo aa H1 q := fun q h => Or.inr h
  obtain ⟨fs1, hmo1⟩ := hR1.ob
  refine lv_istore (lv' := [(5, .int (nI (mf_level a1 a2 a3 (L1, due, met, g)).1)), (4, .int (nI (5 * k))), (3, .ref o), (2, .ref mo), (1, .ref x), (0, .ref b)]) C.x C.b md_L_law_463 hl (by decide) rfl (fun ls hl => ?_)
  refine lv_aload_n C.x C.b md_L_law_465 rfl (lv_at hl 3 rfl) ?_
  refine lv_aload_n C.x C.b md_L_law_466 rfl (lv_at hl 5 rfl) ?_
  refine lv_iload C.x C.b md_L_law_467 (lv_at hl 1 rfl) ?_
  refine lv_iconst (v := 1) C.x C.b md_L_law_469 (by decide) ?_
  refine lv_iadd C.x C.b md_L_law_470 ?_
  refine mf_sld C hX hbl hbA hS (j := 5 * k + 1) (v := a1) (nI_add (5 * k) 1) (by omega) hL h1 md_L_law_471 ?_
  refine lv_aload_n C.x C.b md_L_law_472 rfl (lv_at hl 5 rfl) ?_
  refine lv_iload C.x C.b md_L_law_473 (lv_at hl 1 rfl) ?_
  refine lv_iconst (v := 2) C.x C.b md_L_law_475 (by decide) ?_
  refine lv_iadd C.x C.b md_L_law_476 ?_
  refine mf_sld C hX hbl hbA hS (j := 5 * k + 2) (v := a2) (nI_add (5 * k) 2) (by omega) hL h2 md_L_law_477 ?_
  refine lv_aload_n C.x C.b md_L_law_478 rfl (lv_at hl 5 rfl) ?_
  refine lv_iload C.x C.b md_L_law_479 (lv_at hl 1 rfl) ?_
  refine lv_iconst (v := 3) C.x C.b md_L_law_481 (by decide) ?_
  refine lv_iadd C.x C.b md_L_law_482 ?_
  refine mf_sld C hX hbl hbA hS (j := 5 * k + 3) (v := a3) (nI_add (5 * k) 3) (by omega) hL h3 md_L_law_483 ?_
  refine mf_cws (mf_rup (va_runV (As := [.int a1, .int a2, .int a3]) (rest := []) C.f (k_M_level l D k5 t0 (mf_BM mo aa H1) H1 mo aa cd ck due met R g a1 a2 a3 (hR1.up (fun q h => Or.inl h)) hfx.2.1) (mf_cV C mt_684 mt_681 mt_6 mt_682 mt_683 mh_M_level ⟨by decide, by decide⟩) (mf_preVB C.ev hS hsB1 hnB1 (mf_rv C (ci := 4) (N := 20) rfl hmo1)) rfl rfl hl.1 rfl (lv_room (Nat.le_of_ble_eq_true rfl)) md_L_law_484 ⟨by first | omega | exact Nat.le_of_ble_eq_true rfl, by first | omega | exact Nat.le_of_ble_eq_true rfl⟩) hsB1) hS (fun _ _ h => hsB1 _ h) (fun H2 locs2 hB2 hz2 hk2 hS => ?_)
  have hM2 := hM1.kp (B := mf_Ac s.heap.size mo aa) (fun q h _ => h) (fun q hq hlt => hk2 q hlt (fun z => z.elim hq.2 (fun z => absurd hlt (Nat.not_lt.mpr z))))
  have ho2 := ho1.kept (hk2 o ho1.lt (fun z => z.elim hAo.2 (fun z => absurd ho1.lt (Nat.not_lt.mpr z))))
  have hR2 := hB2.re
  have hsB2 : ∀ q, mf_BM mo aa H2 q → s.heap.size ≤ q := fun q h => h.elim (hm0 q) (fun h => Nat.le_trans hS.1 h)
  have hnB2 : ∀ q, H2.size ≤ q → mf_BM mo aa H2 q := fun q h => Or.inr h
  obtain ⟨fs2, hmo2⟩ := hR2.ob
  refine lv_istore (lv' := [(6, .int (rf_level a1 a2 a3 (R, ck, due, met, g)).2), (5, .int (nI (mf_level a1 a2 a3 (L1, due, met, g)).1)), (4, .int (nI (5 * k))), (3, .ref o), (2, .ref mo), (1, .ref x), (0, .ref b)]) C.x C.b md_L_law_487 hl (by decide) rfl (fun ls hl => ?_)
  refine lv_aload_n C.x C.b md_L_law_489 rfl (lv_at hl 4 rfl) ?_
  refine mf_cks (va_runV (As := []) (rest := []) C.f (k_M_thrown l D k5 t0 (mf_BM mo aa H2) H2 mo aa (nI (rf_level a1 a2 a3 (R, ck, due, met, g)).1) ck due met R g (hR2.up (fun q h => Or.inl h))) (mf_cV C mt_600 mt_597 mt_6 mt_598 mt_599 mh_M_thrown ⟨by decide, by decide⟩) (mf_preVB C.ev hS hsB2 hnB2 (mf_rv C (ci := 4) (N := 20) rfl hmo2)) rfl rfl hl.1 rfl (lv_room (Nat.le_of_ble_eq_true rfl)) md_L_law_490 ⟨by first | omega | exact Nat.le_of_ble_eq_true rfl, by first | omega | exact Nat.le_of_ble_eq_true rfl⟩) ?_
  refine lv_iload C.x C.b md_L_law_493 (lv_at hl 1 rfl) ?_
  refine lv_icmp_eq (tgt := 500) C.x C.b md_L_law_495 (by decide) (fun h1 => ?_) (fun h1 => ?_)
  · skip
    refine lv_iload C.x C.b md_L_law_500 (lv_at hl 1 rfl) ?_
    refine lv_if_ne (tgt := 517) C.x C.b md_L_law_502 (by decide) (fun h2 => ?_) (fun h2 => ?_)
    · skip
      refine lv_goto (tgt := 752) C.x C.b md_L_law_517 (by decide) ?_
      refine W.widen (k := cells + 2) (n := slots + 66) (by omega) (by omega) ?_
      exact kk _ _ ls ⟨_, _, _, _, hsim.up, hM2, hR2, ho2⟩ hS (lv_sub hl [2, 3, 4, 5, 6] rfl)
    · have hz0 := mf_c0 (mf_level_b _ _ _ _) h2
      refine lv_aload_n C.x C.b md_L_law_505 rfl (lv_at hl 3 rfl) ?_
      refine lv_iconst (v := 0) C.x C.b md_L_law_506 (by decide) ?_
      refine mf_ll C (t := 4) rfl ho2 (by decide) (by decide) (v := ((rf_level a1 a2 a3 (R, ck, due, met, g)).2).toInt64) ((hf1 hz0).trans (by rw [hsm])) md_L_law_507 ?_
      refine lv_iload C.x C.b md_L_law_508 (lv_at hl 0 rfl) ?_
      refine lv_i2l (v := ((rf_level a1 a2 a3 (R, ck, due, met, g)).2).toInt64) C.x C.b md_L_law_510 rfl ?_
      refine W.lcmp C.x C.b md_L_law_511 ?_
      rw [mf_cmp0]
      refine lv_if_eq (tgt := 517) C.x C.b md_L_law_512 (by decide) (fun h3 => ?_) (fun h3 => ?_)
      · skip
        refine lv_goto (tgt := 752) C.x C.b md_L_law_517 (by decide) ?_
        refine W.widen (k := cells + 2) (n := slots + 66) (by omega) (by omega) ?_
        exact kk _ _ ls ⟨_, _, _, _, hsim.up, hM2, hR2, ho2⟩ hS (lv_sub hl [2, 3, 4, 5, 6] rfl)
      · exact absurd rfl h3
  · exact absurd (by rw [hsm]) h1
set_option maxRecDepth 100000 in
set_option maxHeartbeats 4000000 in
theorem law_order (l : Launch) (D : va_G) (k5 : mf_k5) (t0 : Nat × Nat) {p : Program} {e : Env} {s : State} {m : MethodId} {below : List Frame} {meth : Method} {c : Code} {Q : State → Prop} {H : Heap} {locs : List Loc} {cells slots : Nat} {ls : Array Slot} {b L x al tp mo o : Nat} {aa : Nat → Nat} {xs : Nat → Int32} (C : mf_Cx p s m #[.ref b] c "MatchFloorLaw" mc_L_law 7 D (mf_tys k5) t0 (fun q => s.heap.size ≤ q)) (hlt : l.stackTraces = false) (hX : va_X b L xs s s.heap) (hbl : b < s.heap.size) (hL : L ≤ 2560) (hm0 : ∀ q, mf_AM mo aa q → s.heap.size ≤ q) (hAo : mf_Ac s.heap.size mo aa o) {k : Nat} (hk : 5 * k + 5 ≤ L) (hI : mf_IV D k5 t0 s.heap.size x al tp mo o aa k H) (hS : va_S (fun q => s.heap.size ≤ q) s.heap H locs) (hl : lv_has ls 7 [(4, .int (nI (5 * k))), (3, .ref o), (2, .ref mo), (1, .ref x), (0, .ref b)]) (hc : cells + 2 ≤ 601024 ∧ slots + 66 ≤ 7293034) (kk : ∀ (H1 : Heap) (locs1 : List Loc) (ls1 : Array Slot), mf_IV D k5 t0 s.heap.size x al tp mo o aa (k + 1) H1 → va_S (fun q => s.heap.size ≤ q) s.heap H1 locs1 → lv_has ls1 7 [(4, .int (nI (5 * k))), (3, .ref o), (2, .ref mo), (1, .ref x), (0, .ref b)] → W p l e room_1 s m #[.ref b] below meth c H1 locs1 (cells + 2) (slots + 66) Q (F0 m 752 ls1 [])) : W p l e room_1 s m #[.ref b] below meth c H locs cells slots Q (F0 m 520 ls []) := by
  obtain ⟨⟨L1, r1⟩, ⟨R, ck, r2⟩, cd, f, hsim, hM, hR, ho⟩ := hI
  obtain rfl : r1 = r2 := hsim.2.2.1
  obtain ⟨due, met, g⟩ := r1
  have hg : g.1 ≤ 1681 * k := hsim.2.2.2.2
  have hbA : ¬ (s.heap.size ≤ b) := Nat.not_le.mpr hbl
  have hsC : ∀ q, mf_Ac s.heap.size mo aa q → s.heap.size ≤ q := fun q h => h.1
  have hnC : ∀ q, H.size ≤ q → mf_Ac s.heap.size mo aa q := fun q h => ⟨Nat.le_trans hS.1 h, fun z => absurd (hR.in q z).2 (Nat.not_lt.mpr h)⟩
  have hcc : cells + 2 ≤ room_1.cells := hc.1
  have hcs : slots + 66 ≤ room_1.slots := hc.2
  obtain ⟨a1, h1⟩ : ∃ a, xs (5 * k + 1) = a := ⟨_, rfl⟩
  obtain ⟨a2, h2⟩ : ∃ a, xs (5 * k + 2) = a := ⟨_, rfl⟩
  refine lv_aload_n C.x C.b md_L_law_520 rfl (lv_at hl 3 rfl) ?_
  refine lv_aload_n C.x C.b md_L_law_521 rfl (lv_at hl 4 rfl) ?_
  refine lv_iload C.x C.b md_L_law_522 (lv_at hl 0 rfl) ?_
  refine lv_iconst (v := 1) C.x C.b md_L_law_524 (by decide) ?_
  refine lv_iadd C.x C.b md_L_law_525 ?_
  refine mf_sld C hX hbl hbA hS (j := 5 * k + 1) (v := a1) (nI_add (5 * k) 1) (by omega) hL h1 md_L_law_526 ?_
  refine lv_aload_n C.x C.b md_L_law_527 rfl (lv_at hl 4 rfl) ?_
  refine lv_iload C.x C.b md_L_law_528 (lv_at hl 0 rfl) ?_
  refine lv_iconst (v := 2) C.x C.b md_L_law_530 (by decide) ?_
  refine lv_iadd C.x C.b md_L_law_531 ?_
  refine mf_sld C hX hbl hbA hS (j := 5 * k + 2) (v := a2) (nI_add (5 * k) 2) (by omega) hL h2 md_L_law_532 ?_
  refine lv_aload_n C.x C.b md_L_law_533 rfl (lv_at hl 1 rfl) ?_
  have hfx := mf_sim_facts hsim
  have hsm : mf_ordr a1 a2 (L1, due, met, g) = rf_ordr a1 a2 (R, ck, due, met, g) := mf_sim_ordr hsim a1 a2
  refine mf_cws (mf_rup (vx_runSW (As := [.ref x, .int a1, .int a2, .ref o]) (rest := []) C.f (k_L_order l D k5 t0 (mf_Ac s.heap.size mo aa) H hlt x al tp a1 a2 L1 due met g o f hM ho hAo) (mf_cSW C mt_491 mt_489 mt_0 mt_490 mh_L_order ⟨by decide, by decide⟩) (mf_preSB C.ev hS hsC hnC) rfl rfl hl.1 rfl (lv_room (Nat.le_of_ble_eq_true rfl)) md_L_law_534 ⟨by first | omega | exact Nat.le_of_ble_eq_true rfl, by first | omega | exact Nat.le_of_ble_eq_true rfl⟩) hsC) hS (fun _ _ h => h.1.1) (fun H1 locs1 hB1 hz1 hk1 hS => ?_)
  obtain ⟨hM1, f1, ho1, hf1⟩ := hB1
  have hR1 := hR.kp (fun q hq hlt => hk1 q hlt (fun z => z.1.2 hq))
  have hsB1 : ∀ q, mf_BM mo aa H1 q → s.heap.size ≤ q := fun q h => h.elim (hm0 q) (fun h => Nat.le_trans hS.1 h)
  have hnB1 : ∀ q, H1.size ≤ q → mf_BM mo aa H1 q := fun q h => Or.inr h
  obtain ⟨fs1, hmo1⟩ := hR1.ob
  refine lv_istore (lv' := [(5, .int (nI (mf_ordr a1 a2 (L1, due, met, g)).1)), (4, .int (nI (5 * k))), (3, .ref o), (2, .ref mo), (1, .ref x), (0, .ref b)]) C.x C.b md_L_law_537 hl (by decide) rfl (fun ls hl => ?_)
  refine lv_aload_n C.x C.b md_L_law_539 rfl (lv_at hl 3 rfl) ?_
  refine lv_aload_n C.x C.b md_L_law_540 rfl (lv_at hl 5 rfl) ?_
  refine lv_iload C.x C.b md_L_law_541 (lv_at hl 1 rfl) ?_
  refine lv_iconst (v := 1) C.x C.b md_L_law_543 (by decide) ?_
  refine lv_iadd C.x C.b md_L_law_544 ?_
  refine mf_sld C hX hbl hbA hS (j := 5 * k + 1) (v := a1) (nI_add (5 * k) 1) (by omega) hL h1 md_L_law_545 ?_
  refine lv_aload_n C.x C.b md_L_law_546 rfl (lv_at hl 5 rfl) ?_
  refine lv_iload C.x C.b md_L_law_547 (lv_at hl 1 rfl) ?_
  refine lv_iconst (v := 2) C.x C.b md_L_law_549 (by decide) ?_
  refine lv_iadd C.x C.b md_L_law_550 ?_
  refine mf_sld C hX hbl hbA hS (j := 5 * k + 2) (v := a2) (nI_add (5 * k) 2) (by omega) hL h2 md_L_law_551 ?_
  refine mf_cws (mf_rup (va_runV (As := [.int a1, .int a2]) (rest := []) C.f (k_M_order l D k5 t0 (mf_BM mo aa H1) H1 mo aa cd ck due met R g a1 a2 (hR1.up (fun q h => Or.inl h))) (mf_cV C mt_688 mt_685 mt_6 mt_686 mt_687 mh_M_order ⟨by decide, by decide⟩) (mf_preVB C.ev hS hsB1 hnB1 (mf_rv C (ci := 4) (N := 20) rfl hmo1)) rfl rfl hl.1 rfl (lv_room (Nat.le_of_ble_eq_true rfl)) md_L_law_552 ⟨by first | omega | exact Nat.le_of_ble_eq_true rfl, by first | omega | exact Nat.le_of_ble_eq_true rfl⟩) hsB1) hS (fun _ _ h => hsB1 _ h) (fun H2 locs2 hB2 hz2 hk2 hS => ?_)
  have hM2 := hM1.kp (B := mf_Ac s.heap.size mo aa) (fun q h _ => h) (fun q hq hlt => hk2 q hlt (fun z => z.elim hq.2 (fun z => absurd hlt (Nat.not_lt.mpr z))))
  have ho2 := ho1.kept (hk2 o ho1.lt (fun z => z.elim hAo.2 (fun z => absurd ho1.lt (Nat.not_lt.mpr z))))
  have hR2 := hB2.re
  have hsB2 : ∀ q, mf_BM mo aa H2 q → s.heap.size ≤ q := fun q h => h.elim (hm0 q) (fun h => Nat.le_trans hS.1 h)
  have hnB2 : ∀ q, H2.size ≤ q → mf_BM mo aa H2 q := fun q h => Or.inr h
  obtain ⟨fs2, hmo2⟩ := hR2.ob
  refine lv_istore (lv' := [(6, .int (rf_ordr a1 a2 (R, ck, due, met, g)).2), (5, .int (nI (mf_ordr a1 a2 (L1, due, met, g)).1)), (4, .int (nI (5 * k))), (3, .ref o), (2, .ref mo), (1, .ref x), (0, .ref b)]) C.x C.b md_L_law_555 hl (by decide) rfl (fun ls hl => ?_)
  refine lv_aload_n C.x C.b md_L_law_557 rfl (lv_at hl 4 rfl) ?_
  refine mf_cks (va_runV (As := []) (rest := []) C.f (k_M_thrown l D k5 t0 (mf_BM mo aa H2) H2 mo aa (nI (rf_ordr a1 a2 (R, ck, due, met, g)).1) ck due met R g (hR2.up (fun q h => Or.inl h))) (mf_cV C mt_600 mt_597 mt_6 mt_598 mt_599 mh_M_thrown ⟨by decide, by decide⟩) (mf_preVB C.ev hS hsB2 hnB2 (mf_rv C (ci := 4) (N := 20) rfl hmo2)) rfl rfl hl.1 rfl (lv_room (Nat.le_of_ble_eq_true rfl)) md_L_law_558 ⟨by first | omega | exact Nat.le_of_ble_eq_true rfl, by first | omega | exact Nat.le_of_ble_eq_true rfl⟩) ?_
  refine lv_iload C.x C.b md_L_law_561 (lv_at hl 1 rfl) ?_
  refine lv_icmp_eq (tgt := 568) C.x C.b md_L_law_563 (by decide) (fun h1 => ?_) (fun h1 => ?_)
  · skip
    refine lv_iload C.x C.b md_L_law_568 (lv_at hl 1 rfl) ?_
    refine lv_if_ne (tgt := 585) C.x C.b md_L_law_570 (by decide) (fun h2 => ?_) (fun h2 => ?_)
    · skip
      refine lv_goto (tgt := 752) C.x C.b md_L_law_585 (by decide) ?_
      refine W.widen (k := cells + 2) (n := slots + 66) (by omega) (by omega) ?_
      exact kk _ _ ls ⟨_, _, _, _, hsim.up, hM2, hR2, ho2⟩ hS (lv_sub hl [2, 3, 4, 5, 6] rfl)
    · have hz0 := mf_c0 (mf_ordr_b _ _ _) h2
      refine lv_aload_n C.x C.b md_L_law_573 rfl (lv_at hl 3 rfl) ?_
      refine lv_iconst (v := 0) C.x C.b md_L_law_574 (by decide) ?_
      refine mf_ll C (t := 4) rfl ho2 (by decide) (by decide) (v := ((rf_ordr a1 a2 (R, ck, due, met, g)).2).toInt64) ((hf1 hz0).trans (by rw [hsm])) md_L_law_575 ?_
      refine lv_iload C.x C.b md_L_law_576 (lv_at hl 0 rfl) ?_
      refine lv_i2l (v := ((rf_ordr a1 a2 (R, ck, due, met, g)).2).toInt64) C.x C.b md_L_law_578 rfl ?_
      refine W.lcmp C.x C.b md_L_law_579 ?_
      rw [mf_cmp0]
      refine lv_if_eq (tgt := 585) C.x C.b md_L_law_580 (by decide) (fun h3 => ?_) (fun h3 => ?_)
      · skip
        refine lv_goto (tgt := 752) C.x C.b md_L_law_585 (by decide) ?_
        refine W.widen (k := cells + 2) (n := slots + 66) (by omega) (by omega) ?_
        exact kk _ _ ls ⟨_, _, _, _, hsim.up, hM2, hR2, ho2⟩ hS (lv_sub hl [2, 3, 4, 5, 6] rfl)
      · exact absurd rfl h3
  · exact absurd (by rw [hsm]) h1
set_option maxRecDepth 100000 in
set_option maxHeartbeats 4000000 in
theorem law_fill (l : Launch) (D : va_G) (k5 : mf_k5) (t0 : Nat × Nat) {p : Program} {e : Env} {s : State} {m : MethodId} {below : List Frame} {meth : Method} {c : Code} {Q : State → Prop} {H : Heap} {locs : List Loc} {cells slots : Nat} {ls : Array Slot} {b L x al tp mo o : Nat} {aa : Nat → Nat} {xs : Nat → Int32} (C : mf_Cx p s m #[.ref b] c "MatchFloorLaw" mc_L_law 7 D (mf_tys k5) t0 (fun q => s.heap.size ≤ q)) (hlt : l.stackTraces = false) (hX : va_X b L xs s s.heap) (hbl : b < s.heap.size) (hL : L ≤ 2560) (hm0 : ∀ q, mf_AM mo aa q → s.heap.size ≤ q) (hAo : mf_Ac s.heap.size mo aa o) {k : Nat} (hk : 5 * k + 5 ≤ L) (hI : mf_IV D k5 t0 s.heap.size x al tp mo o aa k H) (hS : va_S (fun q => s.heap.size ≤ q) s.heap H locs) (hl : lv_has ls 7 [(4, .int (nI (5 * k))), (3, .ref o), (2, .ref mo), (1, .ref x), (0, .ref b)]) (hc : cells + 2 ≤ 601024 ∧ slots + 66 ≤ 7293034) (kk : ∀ (H1 : Heap) (locs1 : List Loc) (ls1 : Array Slot), mf_IV D k5 t0 s.heap.size x al tp mo o aa (k + 1) H1 → va_S (fun q => s.heap.size ≤ q) s.heap H1 locs1 → lv_has ls1 7 [(4, .int (nI (5 * k))), (3, .ref o), (2, .ref mo), (1, .ref x), (0, .ref b)] → W p l e room_1 s m #[.ref b] below meth c H1 locs1 (cells + 2) (slots + 66) Q (F0 m 752 ls1 [])) : W p l e room_1 s m #[.ref b] below meth c H locs cells slots Q (F0 m 588 ls []) := by
  obtain ⟨⟨L1, r1⟩, ⟨R, ck, r2⟩, cd, f, hsim, hM, hR, ho⟩ := hI
  obtain rfl : r1 = r2 := hsim.2.2.1
  obtain ⟨due, met, g⟩ := r1
  have hg : g.1 ≤ 1681 * k := hsim.2.2.2.2
  have hbA : ¬ (s.heap.size ≤ b) := Nat.not_le.mpr hbl
  have hsC : ∀ q, mf_Ac s.heap.size mo aa q → s.heap.size ≤ q := fun q h => h.1
  have hnC : ∀ q, H.size ≤ q → mf_Ac s.heap.size mo aa q := fun q h => ⟨Nat.le_trans hS.1 h, fun z => absurd (hR.in q z).2 (Nat.not_lt.mpr h)⟩
  have hcc : cells + 2 ≤ room_1.cells := hc.1
  have hcs : slots + 66 ≤ room_1.slots := hc.2
  obtain ⟨a1, h1⟩ : ∃ a, xs (5 * k + 1) = a := ⟨_, rfl⟩
  obtain ⟨a2, h2⟩ : ∃ a, xs (5 * k + 2) = a := ⟨_, rfl⟩
  refine lv_aload_n C.x C.b md_L_law_588 rfl (lv_at hl 3 rfl) ?_
  refine lv_aload_n C.x C.b md_L_law_589 rfl (lv_at hl 4 rfl) ?_
  refine lv_iload C.x C.b md_L_law_590 (lv_at hl 0 rfl) ?_
  refine lv_iconst (v := 1) C.x C.b md_L_law_592 (by decide) ?_
  refine lv_iadd C.x C.b md_L_law_593 ?_
  refine mf_sld C hX hbl hbA hS (j := 5 * k + 1) (v := a1) (nI_add (5 * k) 1) (by omega) hL h1 md_L_law_594 ?_
  refine lv_aload_n C.x C.b md_L_law_595 rfl (lv_at hl 4 rfl) ?_
  refine lv_iload C.x C.b md_L_law_596 (lv_at hl 0 rfl) ?_
  refine lv_iconst (v := 2) C.x C.b md_L_law_598 (by decide) ?_
  refine lv_iadd C.x C.b md_L_law_599 ?_
  refine mf_sld C hX hbl hbA hS (j := 5 * k + 2) (v := a2) (nI_add (5 * k) 2) (by omega) hL h2 md_L_law_600 ?_
  refine lv_aload_n C.x C.b md_L_law_601 rfl (lv_at hl 1 rfl) ?_
  have hfx := mf_sim_facts hsim
  have hsm : mf_fill a1 a2 g = mf_fill a1 a2 g := rfl
  refine mf_cws (mf_rup (vx_runSW (As := [.ref x, .int a1, .int a2, .ref o]) (rest := []) C.f (k_L_fill l D k5 t0 (mf_Ac s.heap.size mo aa) H hlt x al tp a1 a2 L1 due met g o f hM (by omega) ho hAo) (mf_cSW C mt_507 mt_505 mt_0 mt_506 mh_L_fill ⟨by decide, by decide⟩) (mf_preSB C.ev hS hsC hnC) rfl rfl hl.1 rfl (lv_room (Nat.le_of_ble_eq_true rfl)) md_L_law_602 ⟨by first | omega | exact Nat.le_of_ble_eq_true rfl, by first | omega | exact Nat.le_of_ble_eq_true rfl⟩) hsC) hS (fun _ _ h => h.1.1) (fun H1 locs1 hB1 hz1 hk1 hS => ?_)
  obtain ⟨hM1, f1, ho1, hf1⟩ := hB1
  have hR1 := hR.kp (fun q hq hlt => hk1 q hlt (fun z => z.1.2 hq))
  have hsB1 : ∀ q, mf_BM mo aa H1 q → s.heap.size ≤ q := fun q h => h.elim (hm0 q) (fun h => Nat.le_trans hS.1 h)
  have hnB1 : ∀ q, H1.size ≤ q → mf_BM mo aa H1 q := fun q h => Or.inr h
  obtain ⟨fs1, hmo1⟩ := hR1.ob
  refine lv_istore (lv' := [(5, .int (nI (mf_fill a1 a2 g).1)), (4, .int (nI (5 * k))), (3, .ref o), (2, .ref mo), (1, .ref x), (0, .ref b)]) C.x C.b md_L_law_605 hl (by decide) rfl (fun ls hl => ?_)
  refine lv_aload_n C.x C.b md_L_law_607 rfl (lv_at hl 3 rfl) ?_
  refine lv_aload_n C.x C.b md_L_law_608 rfl (lv_at hl 5 rfl) ?_
  refine lv_iload C.x C.b md_L_law_609 (lv_at hl 1 rfl) ?_
  refine lv_iconst (v := 1) C.x C.b md_L_law_611 (by decide) ?_
  refine lv_iadd C.x C.b md_L_law_612 ?_
  refine mf_sld C hX hbl hbA hS (j := 5 * k + 1) (v := a1) (nI_add (5 * k) 1) (by omega) hL h1 md_L_law_613 ?_
  refine lv_aload_n C.x C.b md_L_law_614 rfl (lv_at hl 5 rfl) ?_
  refine lv_iload C.x C.b md_L_law_615 (lv_at hl 1 rfl) ?_
  refine lv_iconst (v := 2) C.x C.b md_L_law_617 (by decide) ?_
  refine lv_iadd C.x C.b md_L_law_618 ?_
  refine mf_sld C hX hbl hbA hS (j := 5 * k + 2) (v := a2) (nI_add (5 * k) 2) (by omega) hL h2 md_L_law_619 ?_
  refine mf_cws (mf_rup (va_runV (As := [.int a1, .int a2]) (rest := []) C.f (k_M_fill l D k5 t0 (mf_BM mo aa H1) H1 mo aa cd ck due met R g a1 a2 (hR1.up (fun q h => Or.inl h)) (by omega)) (mf_cV C mt_692 mt_689 mt_6 mt_690 mt_691 mh_M_fill ⟨by decide, by decide⟩) (mf_preVB C.ev hS hsB1 hnB1 (mf_rv C (ci := 4) (N := 20) rfl hmo1)) rfl rfl hl.1 rfl (lv_room (Nat.le_of_ble_eq_true rfl)) md_L_law_620 ⟨by first | omega | exact Nat.le_of_ble_eq_true rfl, by first | omega | exact Nat.le_of_ble_eq_true rfl⟩) hsB1) hS (fun _ _ h => hsB1 _ h) (fun H2 locs2 hB2 hz2 hk2 hS => ?_)
  have hM2 := hM1.kp (B := mf_Ac s.heap.size mo aa) (fun q h _ => h) (fun q hq hlt => hk2 q hlt (fun z => z.elim hq.2 (fun z => absurd hlt (Nat.not_lt.mpr z))))
  have ho2 := ho1.kept (hk2 o ho1.lt (fun z => z.elim hAo.2 (fun z => absurd ho1.lt (Nat.not_lt.mpr z))))
  have hR2 := hB2.re
  have hsB2 : ∀ q, mf_BM mo aa H2 q → s.heap.size ≤ q := fun q h => h.elim (hm0 q) (fun h => Nat.le_trans hS.1 h)
  have hnB2 : ∀ q, H2.size ≤ q → mf_BM mo aa H2 q := fun q h => Or.inr h
  obtain ⟨fs2, hmo2⟩ := hR2.ob
  refine lv_istore (lv' := [(6, .int (mf_fill a1 a2 g).2), (5, .int (nI (mf_fill a1 a2 g).1)), (4, .int (nI (5 * k))), (3, .ref o), (2, .ref mo), (1, .ref x), (0, .ref b)]) C.x C.b md_L_law_623 hl (by decide) rfl (fun ls hl => ?_)
  refine lv_aload_n C.x C.b md_L_law_625 rfl (lv_at hl 4 rfl) ?_
  refine mf_cks (va_runV (As := []) (rest := []) C.f (k_M_thrown l D k5 t0 (mf_BM mo aa H2) H2 mo aa (nI (mf_fill a1 a2 g).1) ck due met R g (hR2.up (fun q h => Or.inl h))) (mf_cV C mt_600 mt_597 mt_6 mt_598 mt_599 mh_M_thrown ⟨by decide, by decide⟩) (mf_preVB C.ev hS hsB2 hnB2 (mf_rv C (ci := 4) (N := 20) rfl hmo2)) rfl rfl hl.1 rfl (lv_room (Nat.le_of_ble_eq_true rfl)) md_L_law_626 ⟨by first | omega | exact Nat.le_of_ble_eq_true rfl, by first | omega | exact Nat.le_of_ble_eq_true rfl⟩) ?_
  refine lv_iload C.x C.b md_L_law_629 (lv_at hl 1 rfl) ?_
  refine lv_icmp_eq (tgt := 636) C.x C.b md_L_law_631 (by decide) (fun h1 => ?_) (fun h1 => ?_)
  · skip
    refine lv_iload C.x C.b md_L_law_636 (lv_at hl 1 rfl) ?_
    refine lv_if_ne (tgt := 653) C.x C.b md_L_law_638 (by decide) (fun h2 => ?_) (fun h2 => ?_)
    · skip
      refine lv_goto (tgt := 752) C.x C.b md_L_law_653 (by decide) ?_
      refine W.widen (k := cells + 2) (n := slots + 66) (by omega) (by omega) ?_
      exact kk _ _ ls ⟨_, _, _, _, hsim.up, hM2, hR2, ho2⟩ hS (lv_sub hl [2, 3, 4, 5, 6] rfl)
    · have hz0 := mf_c0 (mf_fill_b _ _ _) h2
      refine lv_aload_n C.x C.b md_L_law_641 rfl (lv_at hl 3 rfl) ?_
      refine lv_iconst (v := 0) C.x C.b md_L_law_642 (by decide) ?_
      refine mf_ll C (t := 4) rfl ho2 (by decide) (by decide) (v := ((mf_fill a1 a2 g).2).toInt64) ((hf1 hz0).trans (by rw [hsm])) md_L_law_643 ?_
      refine lv_iload C.x C.b md_L_law_644 (lv_at hl 0 rfl) ?_
      refine lv_i2l (v := ((mf_fill a1 a2 g).2).toInt64) C.x C.b md_L_law_646 rfl ?_
      refine W.lcmp C.x C.b md_L_law_647 ?_
      rw [mf_cmp0]
      refine lv_if_eq (tgt := 653) C.x C.b md_L_law_648 (by decide) (fun h3 => ?_) (fun h3 => ?_)
      · skip
        refine lv_goto (tgt := 752) C.x C.b md_L_law_653 (by decide) ?_
        refine W.widen (k := cells + 2) (n := slots + 66) (by omega) (by omega) ?_
        exact kk _ _ ls ⟨_, _, _, _, hsim.up, hM2, hR2, ho2⟩ hS (lv_sub hl [2, 3, 4, 5, 6] rfl)
      · exact absurd rfl h3
  · exact absurd (by rw [hsm]) h1
set_option maxRecDepth 100000 in
set_option maxHeartbeats 4000000 in
theorem law_figure (l : Launch) (D : va_G) (k5 : mf_k5) (t0 : Nat × Nat) {p : Program} {e : Env} {s : State} {m : MethodId} {below : List Frame} {meth : Method} {c : Code} {Q : State → Prop} {H : Heap} {locs : List Loc} {cells slots : Nat} {ls : Array Slot} {b L x al tp mo o : Nat} {aa : Nat → Nat} {xs : Nat → Int32} (C : mf_Cx p s m #[.ref b] c "MatchFloorLaw" mc_L_law 7 D (mf_tys k5) t0 (fun q => s.heap.size ≤ q)) (hlt : l.stackTraces = false) (hX : va_X b L xs s s.heap) (hbl : b < s.heap.size) (hL : L ≤ 2560) (hm0 : ∀ q, mf_AM mo aa q → s.heap.size ≤ q) (hAo : mf_Ac s.heap.size mo aa o) {k : Nat} (hk : 5 * k + 5 ≤ L) (hI : mf_IV D k5 t0 s.heap.size x al tp mo o aa k H) (hS : va_S (fun q => s.heap.size ≤ q) s.heap H locs) (hl : lv_has ls 7 [(4, .int (nI (5 * k))), (3, .ref o), (2, .ref mo), (1, .ref x), (0, .ref b)]) (hc : cells + 2 ≤ 601024 ∧ slots + 66 ≤ 7293034) (kk : ∀ (H1 : Heap) (locs1 : List Loc) (ls1 : Array Slot), mf_IV D k5 t0 s.heap.size x al tp mo o aa (k + 1) H1 → va_S (fun q => s.heap.size ≤ q) s.heap H1 locs1 → lv_has ls1 7 [(4, .int (nI (5 * k))), (3, .ref o), (2, .ref mo), (1, .ref x), (0, .ref b)] → W p l e room_1 s m #[.ref b] below meth c H1 locs1 (cells + 2) (slots + 66) Q (F0 m 752 ls1 [])) : W p l e room_1 s m #[.ref b] below meth c H locs cells slots Q (F0 m 696 ls []) := by
  obtain ⟨⟨L1, r1⟩, ⟨R, ck, r2⟩, cd, f, hsim, hM, hR, ho⟩ := hI
  obtain rfl : r1 = r2 := hsim.2.2.1
  obtain ⟨due, met, g⟩ := r1
  have hg : g.1 ≤ 1681 * k := hsim.2.2.2.2
  have hbA : ¬ (s.heap.size ≤ b) := Nat.not_le.mpr hbl
  have hsC : ∀ q, mf_Ac s.heap.size mo aa q → s.heap.size ≤ q := fun q h => h.1
  have hnC : ∀ q, H.size ≤ q → mf_Ac s.heap.size mo aa q := fun q h => ⟨Nat.le_trans hS.1 h, fun z => absurd (hR.in q z).2 (Nat.not_lt.mpr h)⟩
  have hcc : cells + 2 ≤ room_1.cells := hc.1
  have hcs : slots + 66 ≤ room_1.slots := hc.2
  obtain ⟨a1, h1⟩ : ∃ a, xs (5 * k + 1) = a := ⟨_, rfl⟩
  refine lv_aload_n C.x C.b md_L_law_696 rfl (lv_at hl 3 rfl) ?_
  refine lv_aload_n C.x C.b md_L_law_697 rfl (lv_at hl 4 rfl) ?_
  refine lv_iload C.x C.b md_L_law_698 (lv_at hl 0 rfl) ?_
  refine lv_iconst (v := 1) C.x C.b md_L_law_700 (by decide) ?_
  refine lv_iadd C.x C.b md_L_law_701 ?_
  refine mf_sld C hX hbl hbA hS (j := 5 * k + 1) (v := a1) (nI_add (5 * k) 1) (by omega) hL h1 md_L_law_702 ?_
  refine lv_aload_n C.x C.b md_L_law_703 rfl (lv_at hl 1 rfl) ?_
  have hfx := mf_sim_facts hsim
  have hsm : mf_figure a1 (L1, due, met, g) = rf_figure a1 (R, ck, due, met, g) := mf_sim_figure hsim a1
  refine mf_cws (mf_rup (vx_runSW (As := [.ref x, .int a1, .ref o]) (rest := []) C.f (k_L_figure l D k5 t0 (mf_Ac s.heap.size mo aa) H hlt x al tp a1 L1 due met g o f hM ho hAo) (mf_cSW C mt_519 mt_517 mt_0 mt_518 mh_L_figure ⟨by decide, by decide⟩) (mf_preSB C.ev hS hsC hnC) rfl rfl hl.1 rfl (lv_room (Nat.le_of_ble_eq_true rfl)) md_L_law_704 ⟨by first | omega | exact Nat.le_of_ble_eq_true rfl, by first | omega | exact Nat.le_of_ble_eq_true rfl⟩) hsC) hS (fun _ _ h => h.1.1) (fun H1 locs1 hB1 hz1 hk1 hS => ?_)
  obtain ⟨hM1, f1, ho1, hf1⟩ := hB1
  have hR1 := hR.kp (fun q hq hlt => hk1 q hlt (fun z => z.1.2 hq))
  have hsB1 : ∀ q, mf_BM mo aa H1 q → s.heap.size ≤ q := fun q h => h.elim (hm0 q) (fun h => Nat.le_trans hS.1 h)
  have hnB1 : ∀ q, H1.size ≤ q → mf_BM mo aa H1 q := fun q h => Or.inr h
  obtain ⟨fs1, hmo1⟩ := hR1.ob
  refine lv_istore (lv' := [(5, .int (nI (mf_figure a1 (L1, due, met, g)).1)), (4, .int (nI (5 * k))), (3, .ref o), (2, .ref mo), (1, .ref x), (0, .ref b)]) C.x C.b md_L_law_707 hl (by decide) rfl (fun ls hl => ?_)
  refine lv_aload_n C.x C.b md_L_law_709 rfl (lv_at hl 3 rfl) ?_
  refine lv_aload_n C.x C.b md_L_law_710 rfl (lv_at hl 5 rfl) ?_
  refine lv_iload C.x C.b md_L_law_711 (lv_at hl 1 rfl) ?_
  refine lv_iconst (v := 1) C.x C.b md_L_law_713 (by decide) ?_
  refine lv_iadd C.x C.b md_L_law_714 ?_
  refine mf_sld C hX hbl hbA hS (j := 5 * k + 1) (v := a1) (nI_add (5 * k) 1) (by omega) hL h1 md_L_law_715 ?_
  refine mf_cws (mf_rup (va_runV (As := [.int a1]) (rest := []) C.f (k_M_figure l D k5 t0 (mf_BM mo aa H1) H1 mo aa cd ck due met R g a1 (hR1.up (fun q h => Or.inl h))) (mf_cV C mt_708 mt_705 mt_6 mt_706 mt_707 mh_M_figure ⟨by decide, by decide⟩) (mf_preVB C.ev hS hsB1 hnB1 (mf_rv C (ci := 4) (N := 20) rfl hmo1)) rfl rfl hl.1 rfl (lv_room (Nat.le_of_ble_eq_true rfl)) md_L_law_716 ⟨by first | omega | exact Nat.le_of_ble_eq_true rfl, by first | omega | exact Nat.le_of_ble_eq_true rfl⟩) hsB1) hS (fun _ _ h => hsB1 _ h) (fun H2 locs2 hB2 hz2 hk2 hS => ?_)
  have hM2 := hM1.kp (B := mf_Ac s.heap.size mo aa) (fun q h _ => h) (fun q hq hlt => hk2 q hlt (fun z => z.elim hq.2 (fun z => absurd hlt (Nat.not_lt.mpr z))))
  have ho2 := ho1.kept (hk2 o ho1.lt (fun z => z.elim hAo.2 (fun z => absurd ho1.lt (Nat.not_lt.mpr z))))
  have hR2 := hB2.re
  have hsB2 : ∀ q, mf_BM mo aa H2 q → s.heap.size ≤ q := fun q h => h.elim (hm0 q) (fun h => Nat.le_trans hS.1 h)
  have hnB2 : ∀ q, H2.size ≤ q → mf_BM mo aa H2 q := fun q h => Or.inr h
  obtain ⟨fs2, hmo2⟩ := hR2.ob
  refine lv_istore (lv' := [(6, .int (rf_figure a1 (R, ck, due, met, g)).2), (5, .int (nI (mf_figure a1 (L1, due, met, g)).1)), (4, .int (nI (5 * k))), (3, .ref o), (2, .ref mo), (1, .ref x), (0, .ref b)]) C.x C.b md_L_law_719 hl (by decide) rfl (fun ls hl => ?_)
  refine lv_aload_n C.x C.b md_L_law_721 rfl (lv_at hl 4 rfl) ?_
  refine mf_cks (va_runV (As := []) (rest := []) C.f (k_M_thrown l D k5 t0 (mf_BM mo aa H2) H2 mo aa (nI (rf_figure a1 (R, ck, due, met, g)).1) ck due met R g (hR2.up (fun q h => Or.inl h))) (mf_cV C mt_600 mt_597 mt_6 mt_598 mt_599 mh_M_thrown ⟨by decide, by decide⟩) (mf_preVB C.ev hS hsB2 hnB2 (mf_rv C (ci := 4) (N := 20) rfl hmo2)) rfl rfl hl.1 rfl (lv_room (Nat.le_of_ble_eq_true rfl)) md_L_law_722 ⟨by first | omega | exact Nat.le_of_ble_eq_true rfl, by first | omega | exact Nat.le_of_ble_eq_true rfl⟩) ?_
  refine lv_iload C.x C.b md_L_law_725 (lv_at hl 1 rfl) ?_
  refine lv_icmp_eq (tgt := 732) C.x C.b md_L_law_727 (by decide) (fun h1 => ?_) (fun h1 => ?_)
  · skip
    refine lv_iload C.x C.b md_L_law_732 (lv_at hl 1 rfl) ?_
    refine lv_if_ne (tgt := 749) C.x C.b md_L_law_734 (by decide) (fun h2 => ?_) (fun h2 => ?_)
    · skip
      refine lv_goto (tgt := 752) C.x C.b md_L_law_749 (by decide) ?_
      refine W.widen (k := cells + 2) (n := slots + 66) (by omega) (by omega) ?_
      exact kk _ _ ls ⟨_, _, _, _, hsim.up, hM2, hR2, ho2⟩ hS (lv_sub hl [2, 3, 4, 5, 6] rfl)
    · have hz0 := mf_c0 (mf_figure_b _ _) h2
      refine lv_aload_n C.x C.b md_L_law_737 rfl (lv_at hl 3 rfl) ?_
      refine lv_iconst (v := 0) C.x C.b md_L_law_738 (by decide) ?_
      refine mf_ll C (t := 4) rfl ho2 (by decide) (by decide) (v := ((rf_figure a1 (R, ck, due, met, g)).2).toInt64) ((hf1 hz0).trans (by rw [hsm])) md_L_law_739 ?_
      refine lv_iload C.x C.b md_L_law_740 (lv_at hl 0 rfl) ?_
      refine lv_i2l (v := ((rf_figure a1 (R, ck, due, met, g)).2).toInt64) C.x C.b md_L_law_742 rfl ?_
      refine W.lcmp C.x C.b md_L_law_743 ?_
      rw [mf_cmp0]
      refine lv_if_eq (tgt := 749) C.x C.b md_L_law_744 (by decide) (fun h3 => ?_) (fun h3 => ?_)
      · skip
        refine lv_goto (tgt := 752) C.x C.b md_L_law_749 (by decide) ?_
        refine W.widen (k := cells + 2) (n := slots + 66) (by omega) (by omega) ?_
        exact kk _ _ ls ⟨_, _, _, _, hsim.up, hM2, hR2, ho2⟩ hS (lv_sub hl [2, 3, 4, 5, 6] rfl)
      · exact absurd rfl h3
  · exact absurd (by rw [hsm]) h1
set_option maxRecDepth 100000 in
set_option maxHeartbeats 4000000 in
theorem law_fills (l : Launch) (D : va_G) (k5 : mf_k5) (t0 : Nat × Nat) {p : Program} {e : Env} {s : State} {m : MethodId} {below : List Frame} {meth : Method} {c : Code} {Q : State → Prop} {H : Heap} {locs : List Loc} {cells slots : Nat} {ls : Array Slot} {b L x al tp mo o : Nat} {aa : Nat → Nat} {xs : Nat → Int32} (C : mf_Cx p s m #[.ref b] c "MatchFloorLaw" mc_L_law 7 D (mf_tys k5) t0 (fun q => s.heap.size ≤ q)) (hlt : l.stackTraces = false) (hX : va_X b L xs s s.heap) (hbl : b < s.heap.size) (hL : L ≤ 2560) (hm0 : ∀ q, mf_AM mo aa q → s.heap.size ≤ q) (hAo : mf_Ac s.heap.size mo aa o) {k : Nat} (hk : 5 * k + 5 ≤ L) (hI : mf_IV D k5 t0 s.heap.size x al tp mo o aa k H) (hS : va_S (fun q => s.heap.size ≤ q) s.heap H locs) (hl : lv_has ls 7 [(4, .int (nI (5 * k))), (3, .ref o), (2, .ref mo), (1, .ref x), (0, .ref b)]) (hc : cells + 2 ≤ 601024 ∧ slots + 66 ≤ 7293034) (kk : ∀ (H1 : Heap) (locs1 : List Loc) (ls1 : Array Slot), mf_IV D k5 t0 s.heap.size x al tp mo o aa (k + 1) H1 → va_S (fun q => s.heap.size ≤ q) s.heap H1 locs1 → lv_has ls1 7 [(4, .int (nI (5 * k))), (3, .ref o), (2, .ref mo), (1, .ref x), (0, .ref b)] → W p l e room_1 s m #[.ref b] below meth c H1 locs1 (cells + 2) (slots + 66) Q (F0 m 752 ls1 [])) : W p l e room_1 s m #[.ref b] below meth c H locs cells slots Q (F0 m 656 ls []) := by
  obtain ⟨⟨L1, r1⟩, ⟨R, ck, r2⟩, cd, f, hsim, hM, hR, ho⟩ := hI
  obtain rfl : r1 = r2 := hsim.2.2.1
  obtain ⟨due, met, g⟩ := r1
  have hg : g.1 ≤ 1681 * k := hsim.2.2.2.2
  have hbA : ¬ (s.heap.size ≤ b) := Nat.not_le.mpr hbl
  have hsC : ∀ q, mf_Ac s.heap.size mo aa q → s.heap.size ≤ q := fun q h => h.1
  have hnC : ∀ q, H.size ≤ q → mf_Ac s.heap.size mo aa q := fun q h => ⟨Nat.le_trans hS.1 h, fun z => absurd (hR.in q z).2 (Nat.not_lt.mpr h)⟩
  have hcc : cells + 2 ≤ room_1.cells := hc.1
  have hcs : slots + 66 ≤ room_1.slots := hc.2
  obtain ⟨fs0, hxx⟩ := hM.ob
  refine lv_aload_n C.x C.b md_L_law_656 rfl (lv_at hl 3 rfl) ?_
  refine mf_cks (va_runV (As := []) (rest := []) C.f (k_F_fills l D k5 t0 (mf_Ac s.heap.size mo aa) H x al tp L1 due met g hM) (mf_cV C mt_100 mt_97 mt_1 mt_98 mt_99 mh_F_fills ⟨by decide, by decide⟩) (mf_preVB C.ev hS hsC hnC (mf_rv C (ci := 3) (N := 4) rfl hxx)) rfl rfl hl.1 rfl (lv_room (Nat.le_of_ble_eq_true rfl)) md_L_law_657 ⟨by first | omega | exact Nat.le_of_ble_eq_true rfl, by first | omega | exact Nat.le_of_ble_eq_true rfl⟩) ?_
  have hsB1 : ∀ q, mf_BM mo aa H q → s.heap.size ≤ q := fun q h => h.elim (hm0 q) (fun h => Nat.le_trans hS.1 h)
  have hnB1 : ∀ q, H.size ≤ q → mf_BM mo aa H q := fun q h => Or.inr h
  obtain ⟨fs1, hmo1⟩ := hR.ob
  refine lv_aload_n C.x C.b md_L_law_660 rfl (lv_at hl 2 rfl) ?_
  refine mf_cws (mf_rup (va_runV (As := []) (rest := [.int (nI g.1)]) C.f (k_M_fills l D k5 t0 (mf_BM mo aa H) H mo aa cd ck due met R g (hR.up (fun q h => Or.inl h))) (mf_cV C mt_696 mt_693 mt_6 mt_694 mt_695 mh_M_fills ⟨by decide, by decide⟩) (mf_preVB C.ev hS hsB1 hnB1 (mf_rv C (ci := 4) (N := 20) rfl hmo1)) rfl rfl hl.1 rfl (lv_room (Nat.le_of_ble_eq_true rfl)) md_L_law_661 ⟨by first | omega | exact Nat.le_of_ble_eq_true rfl, by first | omega | exact Nat.le_of_ble_eq_true rfl⟩) hsB1) hS (fun _ _ h => hsB1 _ h) (fun H2 locs2 hB2 hz2 hk2 hS => ?_)
  have hM2 := hM.kp (B := mf_Ac s.heap.size mo aa) (fun q h _ => h) (fun q hq hlt => hk2 q hlt (fun z => z.elim hq.2 (fun z => absurd hlt (Nat.not_lt.mpr z))))
  have ho2 := ho.kept (hk2 o ho.lt (fun z => z.elim hAo.2 (fun z => absurd ho.lt (Nat.not_lt.mpr z))))
  have hR2 := hB2.re
  refine lv_icmp_eq (tgt := 752) C.x C.b md_L_law_664 (by decide) (fun h1 => ?_) (fun h1 => ?_)
  · skip
    refine W.widen (k := cells + 2) (n := slots + 66) (by omega) (by omega) ?_
    exact kk _ _ ls ⟨_, _, _, _, hsim.up, hM2, hR2, ho2⟩ hS (lv_sub hl [0, 1, 2, 3, 4] rfl)
  · exact absurd rfl h1
set_option maxRecDepth 100000 in
set_option maxHeartbeats 4000000 in
theorem law_last (l : Launch) (D : va_G) (k5 : mf_k5) (t0 : Nat × Nat) {p : Program} {e : Env} {s : State} {m : MethodId} {below : List Frame} {meth : Method} {c : Code} {Q : State → Prop} {H : Heap} {locs : List Loc} {cells slots : Nat} {ls : Array Slot} {b L x al tp mo o : Nat} {aa : Nat → Nat} {xs : Nat → Int32} (C : mf_Cx p s m #[.ref b] c "MatchFloorLaw" mc_L_law 7 D (mf_tys k5) t0 (fun q => s.heap.size ≤ q)) (hlt : l.stackTraces = false) (hX : va_X b L xs s s.heap) (hbl : b < s.heap.size) (hL : L ≤ 2560) (hm0 : ∀ q, mf_AM mo aa q → s.heap.size ≤ q) (hAo : mf_Ac s.heap.size mo aa o) {k : Nat} (hk : 5 * k + 5 ≤ L) (hI : mf_IV D k5 t0 s.heap.size x al tp mo o aa k H) (hS : va_S (fun q => s.heap.size ≤ q) s.heap H locs) (hl : lv_has ls 7 [(4, .int (nI (5 * k))), (3, .ref o), (2, .ref mo), (1, .ref x), (0, .ref b)]) (hc : cells + 2 ≤ 601024 ∧ slots + 66 ≤ 7293034) (kk : ∀ (H1 : Heap) (locs1 : List Loc) (ls1 : Array Slot), mf_IV D k5 t0 s.heap.size x al tp mo o aa (k + 1) H1 → va_S (fun q => s.heap.size ≤ q) s.heap H1 locs1 → lv_has ls1 7 [(4, .int (nI (5 * k))), (3, .ref o), (2, .ref mo), (1, .ref x), (0, .ref b)] → W p l e room_1 s m #[.ref b] below meth c H1 locs1 (cells + 2) (slots + 66) Q (F0 m 752 ls1 [])) : W p l e room_1 s m #[.ref b] below meth c H locs cells slots Q (F0 m 669 ls []) := by
  obtain ⟨⟨L1, r1⟩, ⟨R, ck, r2⟩, cd, f, hsim, hM, hR, ho⟩ := hI
  obtain rfl : r1 = r2 := hsim.2.2.1
  obtain ⟨due, met, g⟩ := r1
  have hg : g.1 ≤ 1681 * k := hsim.2.2.2.2
  have hbA : ¬ (s.heap.size ≤ b) := Nat.not_le.mpr hbl
  have hsC : ∀ q, mf_Ac s.heap.size mo aa q → s.heap.size ≤ q := fun q h => h.1
  have hnC : ∀ q, H.size ≤ q → mf_Ac s.heap.size mo aa q := fun q h => ⟨Nat.le_trans hS.1 h, fun z => absurd (hR.in q z).2 (Nat.not_lt.mpr h)⟩
  have hcc : cells + 2 ≤ room_1.cells := hc.1
  have hcs : slots + 66 ≤ room_1.slots := hc.2
  obtain ⟨fs0, hxx⟩ := hM.ob
  refine lv_aload_n C.x C.b md_L_law_669 rfl (lv_at hl 3 rfl) ?_
  refine mf_cks (va_runV (As := []) (rest := []) C.f (k_F_last l D k5 t0 (mf_Ac s.heap.size mo aa) H x al tp L1 due met g hM) (mf_cV C mt_104 mt_101 mt_1 mt_102 mt_103 mh_F_last ⟨by decide, by decide⟩) (mf_preVB C.ev hS hsC hnC (mf_rv C (ci := 3) (N := 4) rfl hxx)) rfl rfl hl.1 rfl (lv_room (Nat.le_of_ble_eq_true rfl)) md_L_law_670 ⟨by first | omega | exact Nat.le_of_ble_eq_true rfl, by first | omega | exact Nat.le_of_ble_eq_true rfl⟩) ?_
  have hsB1 : ∀ q, mf_BM mo aa H q → s.heap.size ≤ q := fun q h => h.elim (hm0 q) (fun h => Nat.le_trans hS.1 h)
  have hnB1 : ∀ q, H.size ≤ q → mf_BM mo aa H q := fun q h => Or.inr h
  obtain ⟨fs1, hmo1⟩ := hR.ob
  refine lv_aload_n C.x C.b md_L_law_673 rfl (lv_at hl 2 rfl) ?_
  refine mf_cws (mf_rup (va_runV (As := []) (rest := [.int g.2.1]) C.f (k_M_last l D k5 t0 (mf_BM mo aa H) H mo aa cd ck due met R g (hR.up (fun q h => Or.inl h))) (mf_cV C mt_700 mt_697 mt_6 mt_698 mt_699 mh_M_last ⟨by decide, by decide⟩) (mf_preVB C.ev hS hsB1 hnB1 (mf_rv C (ci := 4) (N := 20) rfl hmo1)) rfl rfl hl.1 rfl (lv_room (Nat.le_of_ble_eq_true rfl)) md_L_law_674 ⟨by first | omega | exact Nat.le_of_ble_eq_true rfl, by first | omega | exact Nat.le_of_ble_eq_true rfl⟩) hsB1) hS (fun _ _ h => hsB1 _ h) (fun H2 locs2 hB2 hz2 hk2 hS => ?_)
  have hM2 := hM.kp (B := mf_Ac s.heap.size mo aa) (fun q h _ => h) (fun q hq hlt => hk2 q hlt (fun z => z.elim hq.2 (fun z => absurd hlt (Nat.not_lt.mpr z))))
  have ho2 := ho.kept (hk2 o ho.lt (fun z => z.elim hAo.2 (fun z => absurd ho.lt (Nat.not_lt.mpr z))))
  have hR2 := hB2.re
  refine lv_icmp_eq (tgt := 752) C.x C.b md_L_law_677 (by decide) (fun h1 => ?_) (fun h1 => ?_)
  · skip
    refine W.widen (k := cells + 2) (n := slots + 66) (by omega) (by omega) ?_
    exact kk _ _ ls ⟨_, _, _, _, hsim.up, hM2, hR2, ho2⟩ hS (lv_sub hl [0, 1, 2, 3, 4] rfl)
  · exact absurd rfl h1
set_option maxRecDepth 100000 in
set_option maxHeartbeats 4000000 in
theorem law_turnover (l : Launch) (D : va_G) (k5 : mf_k5) (t0 : Nat × Nat) {p : Program} {e : Env} {s : State} {m : MethodId} {below : List Frame} {meth : Method} {c : Code} {Q : State → Prop} {H : Heap} {locs : List Loc} {cells slots : Nat} {ls : Array Slot} {b L x al tp mo o : Nat} {aa : Nat → Nat} {xs : Nat → Int32} (C : mf_Cx p s m #[.ref b] c "MatchFloorLaw" mc_L_law 7 D (mf_tys k5) t0 (fun q => s.heap.size ≤ q)) (hlt : l.stackTraces = false) (hX : va_X b L xs s s.heap) (hbl : b < s.heap.size) (hL : L ≤ 2560) (hm0 : ∀ q, mf_AM mo aa q → s.heap.size ≤ q) (hAo : mf_Ac s.heap.size mo aa o) {k : Nat} (hk : 5 * k + 5 ≤ L) (hI : mf_IV D k5 t0 s.heap.size x al tp mo o aa k H) (hS : va_S (fun q => s.heap.size ≤ q) s.heap H locs) (hl : lv_has ls 7 [(4, .int (nI (5 * k))), (3, .ref o), (2, .ref mo), (1, .ref x), (0, .ref b)]) (hc : cells + 2 ≤ 601024 ∧ slots + 66 ≤ 7293034) (kk : ∀ (H1 : Heap) (locs1 : List Loc) (ls1 : Array Slot), mf_IV D k5 t0 s.heap.size x al tp mo o aa (k + 1) H1 → va_S (fun q => s.heap.size ≤ q) s.heap H1 locs1 → lv_has ls1 7 [(4, .int (nI (5 * k))), (3, .ref o), (2, .ref mo), (1, .ref x), (0, .ref b)] → W p l e room_1 s m #[.ref b] below meth c H1 locs1 (cells + 2) (slots + 66) Q (F0 m 752 ls1 [])) : W p l e room_1 s m #[.ref b] below meth c H locs cells slots Q (F0 m 682 ls []) := by
  obtain ⟨⟨L1, r1⟩, ⟨R, ck, r2⟩, cd, f, hsim, hM, hR, ho⟩ := hI
  obtain rfl : r1 = r2 := hsim.2.2.1
  obtain ⟨due, met, g⟩ := r1
  have hg : g.1 ≤ 1681 * k := hsim.2.2.2.2
  have hbA : ¬ (s.heap.size ≤ b) := Nat.not_le.mpr hbl
  have hsC : ∀ q, mf_Ac s.heap.size mo aa q → s.heap.size ≤ q := fun q h => h.1
  have hnC : ∀ q, H.size ≤ q → mf_Ac s.heap.size mo aa q := fun q h => ⟨Nat.le_trans hS.1 h, fun z => absurd (hR.in q z).2 (Nat.not_lt.mpr h)⟩
  have hcc : cells + 2 ≤ room_1.cells := hc.1
  have hcs : slots + 66 ≤ room_1.slots := hc.2
  obtain ⟨fs0, hxx⟩ := hM.ob
  refine lv_aload_n C.x C.b md_L_law_682 rfl (lv_at hl 3 rfl) ?_
  refine mf_cks (va_runV (As := []) (rest := []) C.f (k_F_turnover l D k5 t0 (mf_Ac s.heap.size mo aa) H x al tp L1 due met g hM) (mf_cV C mt_108 mt_105 mt_1 mt_106 mt_107 mh_F_turnover ⟨by decide, by decide⟩) (mf_preVB C.ev hS hsC hnC (mf_rv C (ci := 3) (N := 4) rfl hxx)) rfl rfl hl.1 rfl (lv_room (Nat.le_of_ble_eq_true rfl)) md_L_law_683 ⟨by first | omega | exact Nat.le_of_ble_eq_true rfl, by first | omega | exact Nat.le_of_ble_eq_true rfl⟩) ?_
  have hsB1 : ∀ q, mf_BM mo aa H q → s.heap.size ≤ q := fun q h => h.elim (hm0 q) (fun h => Nat.le_trans hS.1 h)
  have hnB1 : ∀ q, H.size ≤ q → mf_BM mo aa H q := fun q h => Or.inr h
  obtain ⟨fs1, hmo1⟩ := hR.ob
  refine lv_aload_n C.x C.b md_L_law_686 rfl (lv_at hl 2 rfl) ?_
  refine mf_cws (mf_rup (va_runV (As := []) (rest := [.long g.2.2.2.1]) C.f (k_M_turnover l D k5 t0 (mf_BM mo aa H) H mo aa cd ck due met R g (hR.up (fun q h => Or.inl h))) (mf_cV C mt_704 mt_701 mt_6 mt_702 mt_703 mh_M_turnover ⟨by decide, by decide⟩) (mf_preVB C.ev hS hsB1 hnB1 (mf_rv C (ci := 4) (N := 20) rfl hmo1)) rfl rfl hl.1 rfl (lv_room (Nat.le_of_ble_eq_true rfl)) md_L_law_687 ⟨by first | omega | exact Nat.le_of_ble_eq_true rfl, by first | omega | exact Nat.le_of_ble_eq_true rfl⟩) hsB1) hS (fun _ _ h => hsB1 _ h) (fun H2 locs2 hB2 hz2 hk2 hS => ?_)
  have hM2 := hM.kp (B := mf_Ac s.heap.size mo aa) (fun q h _ => h) (fun q hq hlt => hk2 q hlt (fun z => z.elim hq.2 (fun z => absurd hlt (Nat.not_lt.mpr z))))
  have ho2 := ho.kept (hk2 o ho.lt (fun z => z.elim hAo.2 (fun z => absurd ho.lt (Nat.not_lt.mpr z))))
  have hR2 := hB2.re
  refine W.lcmp C.x C.b md_L_law_690 ?_
  rw [mf_cmp0]
  refine lv_if_eq (tgt := 752) C.x C.b md_L_law_691 (by decide) (fun h1 => ?_) (fun h1 => ?_)
  · skip
    refine W.widen (k := cells + 2) (n := slots + 66) (by omega) (by omega) ?_
    exact kk _ _ ls ⟨_, _, _, _, hsim.up, hM2, hR2, ho2⟩ hS (lv_sub hl [0, 1, 2, 3, 4] rfl)
  · exact absurd rfl h1
