/-! ArrayList: growing -/
set_option maxRecDepth 100000 in
set_option maxHeartbeats 4000000 in
theorem k_As_newLength (l : Launch) (D : va_G) (k5 : mf_k5) (t0 : Nat × Nat) (A : Nat → Prop) (H : Heap) (n : Nat) (h1 : 10 ≤ n) (h2 : n ≤ 40) : mf_cRO l my_As_newLength mc_As_newLength 4 (some .int) { frames := 1, cells := 0, slots := 0, locals := 40 } D (mf_tys k5) t0 A H [.int (nI n), .int 1, .int (nI (n / 2))] (some (.int (nI (n + n / 2)))) := by
  refine mf_of (by decide) (Nat.le_of_ble_eq_true rfl) ?_
  intro p e s m below meth c ls C hH hr hlk hnm hmt hl hS
  have hl : lv_has ls 4 [(0, .int (nI n)), (1, .int 1), (2, .int (nI (n / 2)))] := hl
  refine lv_iload_n C.x C.b md_As_newLength_0 rfl (lv_at hl 0 rfl) ?_
  refine lv_iload_n C.x C.b md_As_newLength_1 rfl (lv_at hl 1 rfl) ?_
  refine lv_iload_n C.x C.b md_As_newLength_2 rfl (lv_at hl 2 rfl) ?_
  refine va_mmax C.x C.b (C.2.2.2.2.2.trans hl.1.symm) C.o (C.t mt_349) (C.t mt_350) (C.t mt_16) (C.t mt_351) (Nat.le_of_ble_eq_true rfl) (Nat.le_of_ble_eq_true rfl) (Nat.le_of_ble_eq_true rfl) (Nat.le_of_ble_eq_true rfl) md_As_newLength_3 ?_
  rw [if_pos (show (1 : Int32) < nI (n / 2) from nI_lt (a := 1) (by omega) (by omega))]
  refine lv_iadd C.x C.b md_As_newLength_6 ?_
  rw [nI_add]
  refine lv_istore_n (lv' := [(3, .int (nI (n + n / 2))), (0, .int (nI n)), (1, .int 1), (2, .int (nI (n / 2)))]) C.x C.b md_As_newLength_7 rfl hl (by decide) rfl (fun ls hl => ?_)
  refine lv_iconst (v := 0) C.x C.b md_As_newLength_8 (by decide) ?_
  refine lv_iload_n C.x C.b md_As_newLength_9 rfl (lv_at hl 0 rfl) ?_
  refine lv_icmp_ge (tgt := 21) C.x C.b md_As_newLength_10 (by decide) (fun h1 => ?_) (fun h1 => ?_)
  · exact absurd h1 (nI_nle (by omega) (by omega))
  · skip
    refine lv_iload_n C.x C.b md_As_newLength_13 rfl (lv_at hl 0 rfl) ?_
    refine lv_ldc (v := 2147483639) C.x C.b C.o (C.t mt_352) md_As_newLength_14 ?_
    refine lv_icmp_gt (tgt := 21) C.x C.b md_As_newLength_16 (by decide) (fun h2 => ?_) (fun h2 => ?_)
    · exact absurd h2 (nI_nlt (a := 2147483639) (b := n + n / 2) (by omega) (by decide))
    · skip
      refine lv_iload_n C.x C.b md_As_newLength_19 rfl (lv_at hl 0 rfl) ?_
      exact mf_ri C.x C.b hH hr hlk md_As_newLength_20
set_option maxRecDepth 100000 in
set_option maxHeartbeats 4000000 in
theorem k_Ar_copyOf2 (l : Launch) (D : va_G) (k5 : mf_k5) (t0 : Nat × Nat) (A : Nat → Prop) (H : Heap) (ed n n2 : Nat) (f : Nat → Option Nat) (hed : va_at D mf_cl (ed, .inl (k5.1, n, .inr (.inr (.inr (.inr f))))) H) (hAe : A ed) (hn : n ≤ n2) (hn2 : n2 ≤ 60) (hel : ∀ j, j < n → ∃ y fs, f j = some y ∧ va_at D mf_cl (y, .inr (1, fs)) H) : mf_cRR l my_Ar_copyOf2 mc_Ar_copyOf2 4 (some (.array (.object "java/lang/Object"))) { frames := 1, cells := 1, slots := 60, locals := 60 } D (mf_tys k5) t0 A H [.ref ed, .int (nI n2), .ref t0.2]  (fun a H1 => ∃ f1, va_at D mf_cl (a, .inl (k5.1, n2, .inr (.inr (.inr (.inr f1))))) H1 ∧ A a ∧ H.size ≤ a ∧ ∀ j, j < n → f1 j = f j) (mf_fr A H []) 1 60 := by
  refine mf_of (by decide) (Nat.le_of_ble_eq_true rfl) ?_
  intro p e s m below meth c ls C hH hr hlk hnm hmt hl hS
  have hl : lv_has ls 4 [(0, .ref ed), (1, .int (nI n2)), (2, .ref t0.2)] := hl
  refine lv_aload_n C.x C.b md_Ar_copyOf2_0 rfl (lv_at hl 2 rfl) ?_
  refine va_ldcM (mi := t0.2) C.x C.b C.o (C.t mt_375) C.ev.2.1.2.2.2.2.2.2.2 md_Ar_copyOf2_1 ?_
  refine lv_acmp_ne (rx := some t0.2) (ry := some t0.2) (tgt := 13) C.x C.b md_Ar_copyOf2_3 (by decide) (fun h => absurd rfl h) (fun _ => ?_)
  refine lv_iload_n C.x C.b md_Ar_copyOf2_6 rfl (lv_at hl 1 rfl) ?_
  obtain ⟨A1, hA1⟩ : ∃ A1 : Nat → Prop, A1 = fun q => q = ed ∨ H.size ≤ q := ⟨_, rfl⟩
  have hD : va_D A1 [(ed, .inl (k5.1, n, .inr (.inr (.inr (.inr f)))))] := mf_D1 (by rw [hA1]; exact Or.inl rfl)
  have hP : va_P D mf_cl [(ed, .inl (k5.1, n, .inr (.inr (.inr (.inr f)))))] H := mf_one hed
  have hS : va_S A1 s.heap H [] := by rw [hH]; exact va_S.rf
  have hA : ∀ q, s.heap.size ≤ q → A1 q := fun q hq => by rw [hA1]; exact Or.inr (by rw [← hH]; exact hq)
  obtain ⟨H0, e0⟩ : ∃ H0, H0 = H := ⟨_, rfl⟩
  rw [← e0] at hed hel
  refine va_newq C.x C.b C.o (C.t mt_377) C.ev.2.1.2.2.2.1 C.k hP hD hS hA (nI_pos (by omega)) (nI_clamp (by omega)) (by omega) (by decide) (by show 0 + n2 ≤ 60; omega) md_Ar_copyOf2_7 (fun q cA H hK hP hD hS => ?_)
  obtain rfl : cA = k5.1 := Option.some.inj ((va_nmO (hK.2 5 _ rfl).2 rfl).symm.trans (va_nmO (C.k.2 0 _ rfl).2 rfl))
  have hP : va_P D mf_cl [(ed, .inl (k5.1, n, .inr (.inr (.inr (.inr f))))), (q, .inl (k5.1, n2, .inr (.inr (.inr (.inr (fun _ => none))))))] H := hP
  have hD : va_D A1 [(ed, .inl (k5.1, n, .inr (.inr (.inr (.inr f))))), (q, .inl (k5.1, n2, .inr (.inr (.inr (.inr (fun _ => none))))))] := hD
  refine W.widen (k := 1) (n := 60) (by omega) (by omega) ?_
  refine lv_goto (tgt := 24) C.x C.b md_Ar_copyOf2_10 (by decide) ?_
  refine lv_astore_n (lv' := [(3, .ref q), (0, .ref ed), (1, .int (nI n2)), (2, .ref t0.2)]) C.x C.b md_Ar_copyOf2_24 rfl hl (by decide) rfl (fun ls hl => ?_)
  refine lv_aload_n C.x C.b md_Ar_copyOf2_25 rfl (lv_at hl 1 rfl) ?_
  refine lv_iconst (v := 0) C.x C.b md_Ar_copyOf2_26 (by decide) ?_
  refine lv_aload_n C.x C.b md_Ar_copyOf2_27 rfl (lv_at hl 0 rfl) ?_
  refine lv_iconst (v := 0) C.x C.b md_Ar_copyOf2_28 (by decide) ?_
  refine lv_aload_n C.x C.b md_Ar_copyOf2_29 rfl (lv_at hl 1 rfl) ?_
  refine va_alen C.x C.b C.k hP 0 0 rfl rfl (v := nI n) rfl md_Ar_copyOf2_30 ?_
  refine lv_iload_n C.x C.b md_Ar_copyOf2_31 rfl (lv_at hl 2 rfl) ?_
  refine va_mmin C.x C.b (C.2.2.2.2.2.trans hl.1.symm) C.o (C.t mt_378) (C.t mt_321) (C.t mt_16) (C.t mt_322) (Nat.le_of_ble_eq_true rfl) (Nat.le_of_ble_eq_true rfl) (Nat.le_of_ble_eq_true rfl) (Nat.le_of_ble_eq_true rfl) md_Ar_copyOf2_32 ?_
  rw [if_neg (nI_nlt (by omega) (by omega))]
  have hel2 : ∀ j, j < n → ∃ y fs, f j = some y ∧ va_at D mf_cl (y, .inr (1, fs)) H := by
    intro j hj
    obtain ⟨y, fs, e1, e2⟩ := hel j hj
    refine ⟨y, fs, e1, e2.kept ?_⟩
    rw [hS.2.1 y (by rw [hH, ← e0]; exact e2.lt) ?_, hH, e0]
    rw [hA1]
    rintro (z | z)
    · exact mf_ne_c (mf_co_o e2) (mf_co_a hed) (mf_nd C.nd (i := 1) (j := 5) rfl rfl (by decide)) z
    · have := e2.lt; rw [e0] at this; omega
  refine va_copyq (C := "MatchFloor$Order") C.x C.b (C.2.2.2.2.2.trans hl.1.symm) C.o (C.t mt_379) (C.t mt_319) (C.t mt_318) (C.t mt_15) C.k hP hD hS 0 1 0 0 rfl rfl rfl rfl (by decide) (by decide) (nI_pos (by omega)) (by rw [nI_clamp (by omega)]; show 0 + n ≤ n; omega) (by rw [nI_clamp (by omega)]; show 0 + n ≤ n2; omega) (fun j hj y hy => ?_) (vb_asgC C.ev.2.1.2.2.1) (Nat.le_of_ble_eq_true rfl) (Nat.le_of_ble_eq_true rfl) md_Ar_copyOf2_35 (fun H locs hP hD hS => ?_)
  · rw [nI_clamp (by omega)] at hj
    obtain ⟨y2, fs, e1, e2⟩ := hel2 j hj
    have hy : f (0 + j) = some y := hy
    rw [Nat.zero_add] at hy
    cases hy.symm.trans e1
    exact mf_rv C (ci := 1) (N := 6) rfl e2
  rw [nI_clamp (by omega)] at hP hD
  have hP : va_P D mf_cl [(ed, .inl (k5.1, n, .inr (.inr (.inr (.inr f))))), (q, .inl (k5.1, n2, .inr (.inr (.inr (.inr (va_cpy f (fun _ => none) 0 0 n))))))] H := hP
  refine lv_aload_n C.x C.b md_Ar_copyOf2_38 rfl (lv_at hl 0 rfl) ?_
  have hqn : s.heap.size ≤ q := by
    have h9 := hD.2 1 _ rfl
    rw [hA1] at h9
    rcases h9 with h9 | h9
    · have h8 := hD.1 0 1 _ _ rfl rfl h9.symm; cases h8
    · rw [hH]; exact h9
  refine mf_wr C.x C.b hr (Or.inr ⟨_, rfl⟩) hlk md_Ar_copyOf2_39 ⟨va_cpy f (fun _ => none) 0 0 n, hP 1 _ rfl, C.aa q hqn, by rw [← hH]; exact hqn, fun j hj => by rw [pk_cpy_in (Nat.zero_le _) (by omega)]; congr 1; omega⟩ ?_ hH (fun z hz => ?_) (Nat.le_refl _) (Nat.le_refl _)
  · rw [← hH]
    refine ⟨hS.1, fun z h1 h2 => ?_⟩
    by_cases hz : z = ed
    · rw [hz, show H[ed]? = some _ from hP 0 _ rfl, hH, ← e0]; exact hed.symm
    · exact hS.2.1 z h1 (by rw [hA1]; exact fun v => v.elim hz (fun y => by rw [← hH] at y; omega))
  · have h9 := hS.2.2 z hz
    rw [hA1] at h9
    rcases h9 with h9 | h9
    · rw [h9]; exact hAe
    · exact C.aa _ (by rw [hH]; exact h9)
set_option maxRecDepth 100000 in
set_option maxHeartbeats 4000000 in
theorem k_Ar_copyOf (l : Launch) (D : va_G) (k5 : mf_k5) (t0 : Nat × Nat) (A : Nat → Prop) (H : Heap) (ed n n2 : Nat) (f : Nat → Option Nat) (hed : va_at D mf_cl (ed, .inl (k5.1, n, .inr (.inr (.inr (.inr f))))) H) (hAe : A ed) (hn : n ≤ n2) (hn2 : n2 ≤ 60) (hel : ∀ j, j < n → ∃ y fs, f j = some y ∧ va_at D mf_cl (y, .inr (1, fs)) H) : mf_cRR l my_Ar_copyOf mc_Ar_copyOf 2 (some (.array (.object "java/lang/Object"))) { frames := 2, cells := 1, slots := 60, locals := 83 } D (mf_tys k5) t0 A H [.ref ed, .int (nI n2)]  (fun a H1 => ∃ f1, va_at D mf_cl (a, .inl (k5.1, n2, .inr (.inr (.inr (.inr f1))))) H1 ∧ A a ∧ H.size ≤ a ∧ ∀ j, j < n → f1 j = f j) (mf_fr A H []) 1 60 := by
  refine mf_of (by decide) (Nat.le_of_ble_eq_true rfl) ?_
  intro p e s m below meth c ls C hH hr hlk hnm hmt hl hS
  have hl : lv_has ls 2 [(0, .ref ed), (1, .int (nI n2))] := hl
  refine lv_aload_n C.x C.b md_Ar_copyOf_0 rfl (lv_at hl 0 rfl) ?_
  refine lv_iload_n C.x C.b md_Ar_copyOf_1 rfl (lv_at hl 1 rfl) ?_
  refine lv_aload_n C.x C.b md_Ar_copyOf_2 rfl (lv_at hl 0 rfl) ?_
  refine va_getC (C := "[Ljava/lang/Object;") (mi := t0.2) C.x C.b (C.2.2.2.2.2.trans hl.1.symm) C.o (C.t mt_359) C.ev.2.1.2.2.2.2.2.1 (C.t mt_713) (C.t mt_360) (C.t mt_371) C.ev.2.1.2.2.2.2.2.2.2 ⟨_, hed, rfl, va_nmO (C.k.2 0 _ rfl).2 rfl⟩ (Nat.le_of_ble_eq_true rfl) (Nat.le_of_ble_eq_true rfl) md_Ar_copyOf_3 ?_
  refine mf_cwr (va_runS (As := [.ref ed, .int (nI n2), .ref t0.2]) (rest := []) C.f (k_Ar_copyOf2 l D k5 t0 A H ed n n2 f hed hAe hn hn2 hel) (mf_cS C mt_374 mt_372 mt_18 mt_373 mh_Ar_copyOf2 ⟨by decide, by decide⟩) (mf_preS C.ev hS) rfl rfl hl.1 rfl (lv_room (Nat.le_of_ble_eq_true rfl)) md_Ar_copyOf_6 ⟨by first | omega | exact Nat.le_of_ble_eq_true rfl, by first | omega | exact Nat.le_of_ble_eq_true rfl⟩) hS (fun _ _ h => h.1) (fun q H locs hB hz hk hS => ?_)
  exact mf_wr C.x C.b hr (Or.inr ⟨_, rfl⟩) hlk md_Ar_copyOf_9 hB ⟨hz, hk⟩ hH hS.2.2 (Nat.le_refl _) (Nat.le_refl _)
set_option maxRecDepth 100000 in
set_option maxHeartbeats 4000000 in
theorem k_A_grow1_E (l : Launch) (D : va_G) (k5 : mf_k5) (t0 : Nat × Nat) (A : Nat → Prop) (H : Heap) (al : Nat) (mc : Int32) (f : Nat → Option Nat) (hal : va_at D mf_cl (al, .inr (0, [.ref t0.1, .int (nI 0), .int mc])) H) (hAa : A al) : mf_cRR l my_A_grow1 mc_A_grow1 4 (some (.array (.object "java/lang/Object"))) { frames := 3, cells := 1, slots := 60, locals := 104 } D (mf_tys k5) t0 A H [.ref al, .int (nI (0 + 1))]  (fun a H1 => ∃ cap f1, va_at D mf_cl (al, .inr (0, [.ref a, .int (nI 0), .int mc])) H1 ∧ va_at D mf_cl (a, .inl (k5.1, cap, .inr (.inr (.inr (.inr f1))))) H1 ∧ A a ∧ H.size ≤ a ∧ 0 < cap ∧ 10 ≤ cap ∧ cap ≤ 60 ∧ ∀ j, j < 0 → f1 j = f j) (mf_fr A H [D.1 0]) 1 60 := by
  refine mf_of (by decide) (Nat.le_of_ble_eq_true rfl) ?_
  intro p e s m below meth c ls C hH hr hlk hnm hmt hl hS
  have hl : lv_has ls 4 [(0, .ref al), (1, .int (nI (0 + 1)))] := hl
  refine lv_aload_n C.x C.b md_A_grow1_0 rfl (lv_at hl 0 rfl) ?_
  refine mf_gf C (ci := 0) (N := 3) rfl mi_A 0 (by decide) mt_43 hal (v := .ref t0.1) rfl md_A_grow1_1 ?_
  refine va_tlen C.x C.b C.ev.2.2.1.2.2.2 hS (v := 0) rfl md_A_grow1_4 ?_
  refine lv_istore_n (lv' := [(2, .int 0), (0, .ref al), (1, .int (nI (0 + 1)))]) C.x C.b md_A_grow1_5 rfl hl (by decide) rfl (fun ls hl => ?_)
  refine lv_iload_n C.x C.b md_A_grow1_6 rfl (lv_at hl 0 rfl) ?_
  refine lv_if_gt (tgt := 20) C.x C.b md_A_grow1_7 (by decide) (fun h1 => ?_) (fun h1 => ?_)
  · exact absurd h1 (by decide)
  · skip
    refine lv_aload_n C.x C.b md_A_grow1_10 rfl (lv_at hl 1 rfl) ?_
    refine mf_gf C (ci := 0) (N := 3) rfl mi_A 0 (by decide) mt_43 hal (v := .ref t0.1) rfl md_A_grow1_11 ?_
    refine va_gets C.x C.b C.ev.2.2.1.2.2.1 hS C.o (C.t mt_41) (fun _ h => h) md_A_grow1_14 ?_
    refine lv_acmp_eq (rx := some t0.1) (ry := some t0.1) (tgt := 45) C.x C.b md_A_grow1_17 (by decide) (fun _ => ?_) (fun h => absurd rfl h)
    refine lv_aload_n C.x C.b md_A_grow1_45 rfl (lv_at hl 1 rfl) ?_
    refine lv_bipush (v := 10) C.x C.b md_A_grow1_46 (by decide) ?_
    refine lv_iload_n C.x C.b md_A_grow1_48 rfl (lv_at hl 2 rfl) ?_
    refine va_mmax C.x C.b (C.2.2.2.2.2.trans hl.1.symm) C.o (C.t mt_380) (C.t mt_350) (C.t mt_16) (C.t mt_351) (Nat.le_of_ble_eq_true rfl) (Nat.le_of_ble_eq_true rfl) (Nat.le_of_ble_eq_true rfl) (Nat.le_of_ble_eq_true rfl) md_A_grow1_49 ?_
    rw [if_neg (by decide)]
    obtain ⟨A1, hA1⟩ : ∃ A1 : Nat → Prop, A1 = fun q => q = al ∨ H.size ≤ q := ⟨_, rfl⟩
    have hup : ∀ q, A1 q → mf_fr A H [D.1 0] q := by
      intro q h9
      rw [hA1] at h9
      rcases h9 with h9 | h9
      · rw [h9]; exact mf_fr_c hAa (mf_co_o hal) (by simp)
      · exact ⟨C.aa q (by rw [hH]; exact h9), Or.inl h9⟩
    have hD : va_D A1 [(al, .inr (0, [.ref t0.1, .int (nI 0), .int mc]))] := mf_D1 (by rw [hA1]; exact Or.inl rfl)
    have hP : va_P D mf_cl [(al, .inr (0, [.ref t0.1, .int (nI 0), .int mc]))] H := mf_one hal
    have hS : va_S A1 s.heap H [] := by rw [hH]; exact va_S.rf
    have hA : ∀ q, s.heap.size ≤ q → A1 q := fun q hq => by rw [hA1]; exact Or.inr (by rw [← hH]; exact hq)
    refine va_newq C.x C.b C.o (C.t mt_381) C.ev.2.1.2.2.2.1 C.k hP hD hS hA (n := 10) (N' := 10) (by decide) (by decide) (by decide) (by decide) (by decide) md_A_grow1_52 (fun q cA H hK hP hD hS => ?_)
    obtain rfl : cA = k5.1 := Option.some.inj ((va_nmO (hK.2 5 _ rfl).2 rfl).symm.trans (va_nmO (C.k.2 0 _ rfl).2 rfl))
    have hP : va_P D mf_cl [(al, .inr (0, [.ref t0.1, .int (nI 0), .int mc])), (q, .inl (k5.1, 10, .inr (.inr (.inr (.inr (fun _ => none))))))] H := hP
    have hD : va_D A1 [(al, .inr (0, [.ref t0.1, .int (nI 0), .int mc])), (q, .inl (k5.1, 10, .inr (.inr (.inr (.inr (fun _ => none))))))] := hD
    refine lv_dup_x1 C.x C.b md_A_grow1_55 rfl rfl ?_
    refine va_put (D := D) (ci := 0) (v := .ref q) (ty := .array (.object "java/lang/Object")) (C := mf_RA) (T := mf_TA) (N := 3) C.x C.b C.2.2.1 mi_A mf_tyA mp_A mn_A C.o C.k hP hD hS 0 rfl rfl 0 (by decide) (C.t mt_43) (fun _ h => h) rfl (by decide +kernel) rfl rfl (Nat.le_of_ble_eq_true rfl) md_A_grow1_56 (fun H locs hP hD hS => ?_)
    have hP : va_P D mf_cl [(al, .inr (0, [.ref q, .int (nI 0), .int mc])), (q, .inl (k5.1, 10, .inr (.inr (.inr (.inr (fun _ => none))))))] H := hP
    have hD : va_D A1 [(al, .inr (0, [.ref q, .int (nI 0), .int mc])), (q, .inl (k5.1, 10, .inr (.inr (.inr (.inr (fun _ => none))))))] := hD
    have hqn : s.heap.size ≤ q := by
      have h9 := hD.2 1 _ rfl
      rw [hA1] at h9
      rcases h9 with h9 | h9
      · have h8 := hD.1 0 1 _ _ rfl rfl h9.symm; cases h8
      · rw [hH]; exact h9
    refine mf_wr C.x C.b hr (Or.inr ⟨_, rfl⟩) hlk md_A_grow1_59 ⟨10, fun _ => none, hP 0 _ rfl, hP 1 _ rfl, C.aa q hqn, by rw [← hH]; exact hqn, by decide, by decide, by decide, fun j hj => absurd hj (Nat.not_lt_zero _)⟩ ?_ hH (fun z hz => ?_) (by decide) (by decide)
    · rw [← hH]
      exact ⟨hS.1, fun z h1 h2 => hS.2.1 z h1 (fun v => h2 (by rw [hH]; exact hup z v))⟩
    · exact (hup _ (hS.2.2 z hz)).1
set_option maxRecDepth 100000 in
set_option maxHeartbeats 4000000 in
theorem k_A_grow1_F (l : Launch) (D : va_G) (k5 : mf_k5) (t0 : Nat × Nat) (A : Nat → Prop) (H : Heap) (al ed n : Nat) (mc : Int32) (f : Nat → Option Nat) (hal : va_at D mf_cl (al, .inr (0, [.ref ed, .int (nI n), .int mc])) H) (hAa : A al) (hed : va_at D mf_cl (ed, .inl (k5.1, n, .inr (.inr (.inr (.inr f))))) H) (hAe : A ed) (h10 : 10 ≤ n) (h39 : n ≤ 40) (hel : ∀ j, j < n → ∃ y fs, f j = some y ∧ va_at D mf_cl (y, .inr (1, fs)) H) : mf_cRR l my_A_grow1 mc_A_grow1 4 (some (.array (.object "java/lang/Object"))) { frames := 3, cells := 1, slots := 60, locals := 104 } D (mf_tys k5) t0 A H [.ref al, .int (nI (n + 1))]  (fun a H1 => ∃ cap f1, va_at D mf_cl (al, .inr (0, [.ref a, .int (nI n), .int mc])) H1 ∧ va_at D mf_cl (a, .inl (k5.1, cap, .inr (.inr (.inr (.inr f1))))) H1 ∧ A a ∧ H.size ≤ a ∧ n < cap ∧ 10 ≤ cap ∧ cap ≤ 60 ∧ ∀ j, j < n → f1 j = f j) (mf_fr A H [D.1 0]) 1 60 := by
  refine mf_of (by decide) (Nat.le_of_ble_eq_true rfl) ?_
  intro p e s m below meth c ls C hH hr hlk hnm hmt hl hS
  have hl : lv_has ls 4 [(0, .ref al), (1, .int (nI (n + 1)))] := hl
  refine lv_aload_n C.x C.b md_A_grow1_0 rfl (lv_at hl 0 rfl) ?_
  refine mf_gf C (ci := 0) (N := 3) rfl mi_A 0 (by decide) mt_43 hal (v := .ref ed) rfl md_A_grow1_1 ?_
  refine va_alen C.x C.b C.k (mf_one hed) 0 0 rfl rfl (v := nI n) rfl md_A_grow1_4 ?_
  refine lv_istore_n (lv' := [(2, .int (nI n)), (0, .ref al), (1, .int (nI (n + 1)))]) C.x C.b md_A_grow1_5 rfl hl (by decide) rfl (fun ls hl => ?_)
  refine lv_iload_n C.x C.b md_A_grow1_6 rfl (lv_at hl 0 rfl) ?_
  refine lv_if_gt (tgt := 20) C.x C.b md_A_grow1_7 (by decide) (fun h1 => ?_) (fun h1 => ?_)
  · skip
    refine lv_iload_n C.x C.b md_A_grow1_20 rfl (lv_at hl 0 rfl) ?_
    refine lv_iload_n C.x C.b md_A_grow1_21 rfl (lv_at hl 2 rfl) ?_
    refine lv_iload_n C.x C.b md_A_grow1_22 rfl (lv_at hl 0 rfl) ?_
    refine lv_isub C.x C.b md_A_grow1_23 ?_
    rw [show nI (n + 1) - nI n = 1 by rw [pk_sub (by omega), show n + 1 - n = 1 by omega]; rfl]
    refine lv_iload_n C.x C.b md_A_grow1_24 rfl (lv_at hl 0 rfl) ?_
    refine lv_iconst (v := 1) C.x C.b md_A_grow1_25 (by decide) ?_
    refine lv_ishr C.x C.b md_A_grow1_26 ?_
    rw [show nI n >>> ((1 : Int32) &&& 31) = nI (n / 2) from pk_shrN (by omega) _ 1 (by decide)]
    refine mf_cks (va_runS (As := [.int (nI n), .int 1, .int (nI (n / 2))]) (rest := []) C.f (k_As_newLength l D k5 t0 A H n h10 h39) (mf_cS C mt_348 mt_346 mt_17 mt_347 mh_As_newLength ⟨by decide, by decide⟩) (mf_preS C.ev hS) rfl rfl hl.1 rfl (lv_room (Nat.le_of_ble_eq_true rfl)) md_A_grow1_27 ⟨by first | omega | exact Nat.le_of_ble_eq_true rfl, by first | omega | exact Nat.le_of_ble_eq_true rfl⟩) ?_
    refine lv_istore_n (lv' := [(3, .int (nI (n + n / 2))), (2, .int (nI n)), (0, .ref al), (1, .int (nI (n + 1)))]) C.x C.b md_A_grow1_30 rfl hl (by decide) rfl (fun ls hl => ?_)
    refine lv_aload_n C.x C.b md_A_grow1_31 rfl (lv_at hl 2 rfl) ?_
    refine lv_aload_n C.x C.b md_A_grow1_32 rfl (lv_at hl 2 rfl) ?_
    refine mf_gf C (ci := 0) (N := 3) rfl mi_A 0 (by decide) mt_43 hal (v := .ref ed) rfl md_A_grow1_33 ?_
    refine lv_iload_n C.x C.b md_A_grow1_36 rfl (lv_at hl 0 rfl) ?_
    refine mf_cwr (va_runS (As := [.ref ed, .int (nI (n + n / 2))]) (rest := [.ref al]) C.f (k_Ar_copyOf l D k5 t0 A H ed n (n + n / 2) f hed hAe (by omega) (by omega) hel) (mf_cS C mt_358 mt_356 mt_18 mt_357 mh_Ar_copyOf ⟨by decide, by decide⟩) (mf_preS C.ev hS) rfl rfl hl.1 rfl (lv_room (Nat.le_of_ble_eq_true rfl)) md_A_grow1_37 ⟨by first | omega | exact Nat.le_of_ble_eq_true rfl, by first | omega | exact Nat.le_of_ble_eq_true rfl⟩) hS (fun _ _ h => h.1) (fun q H locs hB hz hk hS => ?_)
    obtain ⟨f1, hq1, hAq, hqn, hf1⟩ := hB
    have hE1 : mf_Eq A [] _ H := ⟨hz, hk⟩
    have hal1 := hE1.ko hal (by simp)
    refine lv_dup_x1 C.x C.b md_A_grow1_40 rfl rfl ?_
    refine mf_pf C (ci := 0) (N := 3) rfl mi_A mp_A mn_A 0 (by decide) mt_43 rfl (v := .ref q) rfl rfl hal1 (Nat.le_of_ble_eq_true rfl) (fs' := [.ref q, .int (nI n), .int mc]) rfl hS hAa md_A_grow1_41 (fun H2 locs hal2 hz2 ho2 hS => ?_)
    have hE2 : mf_Eq A [D.1 0] H H2 := mf_Eq.one hz2 ho2 hAa (mf_co_o hal1)
    refine mf_wr C.x C.b hr (Or.inr ⟨_, rfl⟩) hlk md_A_grow1_44 ⟨n + n / 2, f1, hal2, hE2.ka hq1 (by simp [mf_nd C.nd (i := 5) (j := 0) rfl rfl (by decide)]), hAq, hqn, by omega, by omega, by omega, hf1⟩ (hE1.tr hE2 (by simp) (by simp)) hH hS.2.2 (Nat.le_refl _) (Nat.le_refl _)
  · exact absurd (nI_lt (a := 0) (by omega) (by omega)) h1
set_option maxRecDepth 100000 in
theorem k_A_grow1 (l : Launch) (D : va_G) (k5 : mf_k5) (t0 : Nat × Nat) (A : Nat → Prop) (H : Heap) (al ed n : Nat) (mc : Int32) (f : Nat → Option Nat) (hal : va_at D mf_cl (al, .inr (0, [.ref ed, .int (nI n), .int mc])) H) (hAa : A al) (hor : (n = 0 ∧ ed = t0.1) ∨ (va_at D mf_cl (ed, .inl (k5.1, n, .inr (.inr (.inr (.inr f))))) H ∧ A ed ∧ 10 ≤ n ∧ n ≤ 40 ∧ ∀ j, j < n → ∃ y fs, f j = some y ∧ va_at D mf_cl (y, .inr (1, fs)) H)) : mf_cRR l my_A_grow1 mc_A_grow1 4 (some (.array (.object "java/lang/Object"))) { frames := 3, cells := 1, slots := 60, locals := 104 } D (mf_tys k5) t0 A H [.ref al, .int (nI (n + 1))] (fun a H1 => ∃ cap f1, va_at D mf_cl (al, .inr (0, [.ref a, .int (nI n), .int mc])) H1 ∧ va_at D mf_cl (a, .inl (k5.1, cap, .inr (.inr (.inr (.inr f1))))) H1 ∧ A a ∧ H.size ≤ a ∧ n < cap ∧ 10 ≤ cap ∧ cap ≤ 60 ∧ ∀ j, j < n → f1 j = f j) (mf_fr A H [D.1 0]) 1 60 := by
  rcases hor with ⟨rfl, rfl⟩ | ⟨h1, h2, h3, h4, h5⟩
  · exact k_A_grow1_E l D k5 t0 A H al mc f hal hAa
  · exact k_A_grow1_F l D k5 t0 A H al ed n mc f hal hAa h1 h2 h3 h4 h5
set_option maxRecDepth 100000 in
set_option maxHeartbeats 4000000 in
theorem k_A_grow (l : Launch) (D : va_G) (k5 : mf_k5) (t0 : Nat × Nat) (A : Nat → Prop) (H : Heap) (al ed n : Nat) (mc : Int32) (f : Nat → Option Nat) (hal : va_at D mf_cl (al, .inr (0, [.ref ed, .int (nI n), .int mc])) H) (hAa : A al) (hor : (n = 0 ∧ ed = t0.1) ∨ (va_at D mf_cl (ed, .inl (k5.1, n, .inr (.inr (.inr (.inr f))))) H ∧ A ed ∧ 10 ≤ n ∧ n ≤ 40 ∧ ∀ j, j < n → ∃ y fs, f j = some y ∧ va_at D mf_cl (y, .inr (1, fs)) H)) : mf_cRR l my_A_grow mc_A_grow 1 (some (.array (.object "java/lang/Object"))) { frames := 4, cells := 1, slots := 60, locals := 127 } D (mf_tys k5) t0 A H [.ref al]  (fun a H1 => ∃ cap f1, va_at D mf_cl (al, .inr (0, [.ref a, .int (nI n), .int mc])) H1 ∧ va_at D mf_cl (a, .inl (k5.1, cap, .inr (.inr (.inr (.inr f1))))) H1 ∧ A a ∧ H.size ≤ a ∧ n < cap ∧ 10 ≤ cap ∧ cap ≤ 60 ∧ ∀ j, j < n → f1 j = f j) (mf_fr A H [D.1 0]) 1 60 := by
  refine mf_of (by decide) (Nat.le_of_ble_eq_true rfl) ?_
  intro p e s m below meth c ls C hH hr hlk hnm hmt hl hS
  have hl : lv_has ls 1 [(0, .ref al)] := hl
  refine lv_aload_n C.x C.b md_A_grow_0 rfl (lv_at hl 0 rfl) ?_
  refine lv_aload_n C.x C.b md_A_grow_1 rfl (lv_at hl 0 rfl) ?_
  refine mf_gf C (ci := 0) (N := 3) rfl mi_A 1 (by decide) mt_44 hal (v := .int (nI n)) rfl md_A_grow_2 ?_
  refine lv_iconst (v := 1) C.x C.b md_A_grow_5 (by decide) ?_
  refine lv_iadd C.x C.b md_A_grow_6 ?_
  rw [nI_1]
  refine mf_cwr (va_runV (As := [.int (nI (n + 1))]) (rest := []) C.f (k_A_grow1 l D k5 t0 A H al ed n mc f hal hAa hor) (mf_cV C mt_345 mt_342 mt_4 mt_344 ms_14 mh_A_grow1 ⟨by decide, by decide⟩) (mf_preV C.ev hS (mf_rv C (ci := 0) (N := 3) rfl hal)) rfl rfl hl.1 rfl (lv_room (Nat.le_of_ble_eq_true rfl)) md_A_grow_7 ⟨by first | omega | exact Nat.le_of_ble_eq_true rfl, by first | omega | exact Nat.le_of_ble_eq_true rfl⟩) hS (fun _ _ h => h.1) (fun q H locs hB hz hk hS => ?_)
  exact mf_wr C.x C.b hr (Or.inr ⟨_, rfl⟩) hlk md_A_grow_10 hB ⟨hz, hk⟩ hH hS.2.2 (Nat.le_refl _) (Nat.le_refl _)
