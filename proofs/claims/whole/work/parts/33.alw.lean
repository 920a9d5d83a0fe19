/-! ArrayList: writing -/
set_option maxRecDepth 100000 in
set_option maxHeartbeats 4000000 in
theorem k_A_fastRemove (l : Launch) (D : va_G) (k5 : mf_k5) (t0 : Nat × Nat) (A : Nat → Prop) (H : Heap) (al ed cap n i : Nat) (mc : Int32) (f : Nat → Option Nat) (hal : va_at D mf_cl (al, .inr (0, [.ref ed, .int (nI (n + 1)), .int mc])) H) (hed : va_at D mf_cl (ed, .inl (k5.1, cap, .inr (.inr (.inr (.inr f))))) H) (hAa : A al) (hAe : A ed) (hi : i ≤ n) (hn : n < cap) (hc : cap ≤ 60) (hel : ∀ j, j < n + 1 → ∃ y fs, f j = some y ∧ va_at D mf_cl (y, .inr (1, fs)) H) : mf_cWR l my_A_fastRemove mc_A_fastRemove 4 none { frames := 1, cells := 0, slots := 0, locals := 60 } D (mf_tys k5) t0 A H [.ref al, .ref ed, .int (nI i)] none (fun H1 => ∃ f1, va_at D mf_cl (al, .inr (0, [.ref ed, .int (nI n), .int (mc + 1)])) H1 ∧ va_at D mf_cl (ed, .inl (k5.1, cap, .inr (.inr (.inr (.inr f1))))) H1 ∧ ∀ j, j < n → f1 j = if j < i then f j else f (j + 1)) (mf_fr A H [D.1 0, k5.1]) 0 0 := by
  refine mf_of (by decide) (Nat.le_of_ble_eq_true rfl) ?_
  intro p e s m below meth c ls C hH hr hlk hnm hmt hl hS
  have hl : lv_has ls 4 [(0, .ref al), (1, .ref ed), (2, .int (nI i))] := hl
  obtain ⟨A1, hA1⟩ : ∃ A1, A1 = mf_fr A H [D.1 0, k5.1] := ⟨_, rfl⟩
  rw [← hA1]
  have hco : mf_co H al = some (D.1 0) := mf_co_o hal
  have hce : mf_co H ed = some k5.1 := mf_co_a hed
  have hD : va_D A1 [(al, .inr (0, [.ref ed, .int (nI (n + 1)), .int mc])), (ed, .inl (k5.1, cap, .inr (.inr (.inr (.inr f)))))] := by
    rw [hA1]
    exact mf_D2 (mf_ne_c hco hce (mf_nd C.nd (i := 0) (j := 5) rfl rfl (by decide))) (mf_fr_c hAa hco (by simp)) (mf_fr_c hAe hce (by simp))
  have hP : va_P D mf_cl [(al, .inr (0, [.ref ed, .int (nI (n + 1)), .int mc])), (ed, .inl (k5.1, cap, .inr (.inr (.inr (.inr f)))))] H := mf_two hal hed
  have hS : va_S A1 s.heap H [] := by rw [hH]; exact va_S.rf
  have hH0 : s.heap = H := hH
  obtain ⟨H0, e0⟩ : ∃ H0, H0 = H := ⟨_, rfl⟩
  refine lv_aload_n C.x C.b md_A_fastRemove_0 rfl (lv_at hl 0 rfl) ?_
  refine lv_dup C.x C.b md_A_fastRemove_1 rfl ?_
  refine mf_gfS C (ci := 0) (N := 3) (ref := "java/util/ArrayList") rfl mi_A 2 (by decide) mt_46 mt_47 (hP 0 _ rfl) (v := .int mc) rfl md_A_fastRemove_2 ?_
  refine lv_iconst (v := 1) C.x C.b md_A_fastRemove_5 (by decide) ?_
  refine lv_iadd C.x C.b md_A_fastRemove_6 ?_
  refine va_put (D := D) (ci := 0) (v := .int (mc + 1)) (ty := .int) (C := mf_RA) (T := mf_TA) (N := 3) C.x C.b C.2.2.1 mi_A mf_tyA mp_A mn_A C.o C.k hP hD hS 0 rfl rfl 2 (by decide) (C.t mt_46) (fun x h => u_same (C.t mt_47) x h) rfl (by decide +kernel) rfl rfl (Nat.le_of_ble_eq_true rfl) md_A_fastRemove_7 (fun H locs hP hD hS => ?_)
  have hP : va_P D mf_cl [(al, .inr (0, [.ref ed, .int (nI (n + 1)), .int (mc + 1)])), (ed, .inl (k5.1, cap, .inr (.inr (.inr (.inr f)))))] H := hP
  have hD : va_D A1 [(al, .inr (0, [.ref ed, .int (nI (n + 1)), .int (mc + 1)])), (ed, .inl (k5.1, cap, .inr (.inr (.inr (.inr f)))))] := hD
  refine lv_aload_n C.x C.b md_A_fastRemove_10 rfl (lv_at hl 0 rfl) ?_
  refine mf_gf C (ci := 0) (N := 3) rfl mi_A 1 (by decide) mt_44 (hP 0 _ rfl) (v := .int (nI (n + 1))) rfl md_A_fastRemove_11 ?_
  refine lv_iconst (v := 1) C.x C.b md_A_fastRemove_14 (by decide) ?_
  refine lv_isub C.x C.b md_A_fastRemove_15 ?_
  rw [nI_pred]
  refine lv_dup C.x C.b md_A_fastRemove_16 rfl ?_
  refine lv_istore_n (lv' := [(3, .int (nI n)), (0, .ref al), (1, .ref ed), (2, .int (nI i))]) C.x C.b md_A_fastRemove_17 rfl hl (by decide) rfl (fun ls hl => ?_)
  refine lv_iload_n C.x C.b md_A_fastRemove_18 rfl (lv_at hl 3 rfl) ?_
  refine lv_icmp_le (tgt := 34) C.x C.b md_A_fastRemove_19 (by decide) (fun h1 => ?_) (fun h1 => ?_)
  · skip
    have hin : i = n := by
      have := (nI_leI (by omega) (by omega)).mp h1
      omega
    refine lv_aload_n C.x C.b md_A_fastRemove_34 rfl (lv_at hl 2 rfl) ?_
    refine lv_aload_n C.x C.b md_A_fastRemove_35 rfl (lv_at hl 1 rfl) ?_
    refine lv_iload_n C.x C.b md_A_fastRemove_36 rfl (lv_at hl 0 rfl) ?_
    refine lv_dup_x1 C.x C.b md_A_fastRemove_37 rfl rfl ?_
    refine va_put (D := D) (ci := 0) (v := .int (nI n)) (ty := .int) (C := mf_RA) (T := mf_TA) (N := 3) C.x C.b C.2.2.1 mi_A mf_tyA mp_A mn_A C.o C.k hP hD hS 0 rfl rfl 1 (by decide) (C.t mt_44) (fun _ h => h) rfl (by decide +kernel) rfl rfl (Nat.le_of_ble_eq_true rfl) md_A_fastRemove_38 (fun H locs hP hD hS => ?_)
    have hP : va_P D mf_cl [(al, .inr (0, [.ref ed, .int (nI n), .int (mc + 1)])), (ed, .inl (k5.1, cap, .inr (.inr (.inr (.inr f)))))] H := hP
    have hD : va_D A1 [(al, .inr (0, [.ref ed, .int (nI n), .int (mc + 1)])), (ed, .inl (k5.1, cap, .inr (.inr (.inr (.inr f)))))] := hD
    refine lv_null C.x C.b md_A_fastRemove_41 ?_
    refine va_astqN C.x C.b C.k hP hD hS 1 0 rfl rfl (vp_in_nI (show n < cap by omega) (by omega)) md_A_fastRemove_42 (fun H locs hP hD hS => ?_)
    rw [nI_clamp (by omega)] at hP
    have hP : va_P D mf_cl [(al, .inr (0, [.ref ed, .int (nI n), .int (mc + 1)])), (ed, .inl (k5.1, cap, .inr (.inr (.inr (.inr (va_up f n none))))))] H := hP
    refine mf_wv C.x C.b hr hlk md_A_fastRemove_43 ⟨va_up f n none, hP 0 _ rfl, hP 1 _ rfl, fun j hj => ?_⟩ (by rw [← hH]; exact ⟨hS.1, hS.2.1⟩) hH (fun q hq => by have h9 := hS.2.2 q hq; rw [hA1] at h9; exact h9.1) (Nat.le_refl _) (Nat.le_refl _)
    rw [va_up_ne _ _ (by omega), if_pos (by omega)]
  · skip
    have hin : i < n := Nat.lt_of_not_le fun z => h1 ((nI_leI (by omega) (by omega)).mpr z)
    refine lv_aload_n C.x C.b md_A_fastRemove_22 rfl (lv_at hl 2 rfl) ?_
    refine lv_iload_n C.x C.b md_A_fastRemove_23 rfl (lv_at hl 3 rfl) ?_
    refine lv_iconst (v := 1) C.x C.b md_A_fastRemove_24 (by decide) ?_
    refine lv_iadd C.x C.b md_A_fastRemove_25 ?_
    rw [nI_1]
    refine lv_aload_n C.x C.b md_A_fastRemove_26 rfl (lv_at hl 2 rfl) ?_
    refine lv_iload_n C.x C.b md_A_fastRemove_27 rfl (lv_at hl 3 rfl) ?_
    refine lv_iload_n C.x C.b md_A_fastRemove_28 rfl (lv_at hl 0 rfl) ?_
    refine lv_iload_n C.x C.b md_A_fastRemove_29 rfl (lv_at hl 3 rfl) ?_
    refine lv_isub C.x C.b md_A_fastRemove_30 ?_
    rw [pk_sub (by omega)]
    have hEq : mf_Eq A [D.1 0, k5.1] H0 H := by
      refine mf_S_eq (locs := locs) ?_
      rw [e0, ← hA1, ← hH]
      exact hS
    rw [← e0] at hel
    refine va_copyq (C := "MatchFloor$Order") C.x C.b (C.2.2.2.2.2.trans hl.1.symm) C.o (C.t mt_317) (C.t mt_319) (C.t mt_318) (C.t mt_15) C.k hP hD hS 1 1 0 0 rfl rfl rfl rfl (nI_pos (by omega)) (nI_pos (by omega)) (nI_pos (by omega)) (by rw [nI_clamp (by omega), nI_clamp (by omega)]; omega) (by rw [nI_clamp (by omega), nI_clamp (by omega)]; omega) (fun j hj y hy => ?_) (vb_asgC C.ev.2.1.2.2.1) (by decide) (by decide) md_A_fastRemove_31 (fun H locs hP hD hS => ?_)
    · rw [nI_clamp (by omega)] at hj hy
      obtain ⟨y2, fs, e1, e2⟩ := hel (i + 1 + j) (by omega)
      cases hy.symm.trans e1
      exact mf_rv C (ci := 1) (N := 6) rfl (hEq.ko e2 (by simp [mf_nd C.nd (i := 1) (j := 0) rfl rfl (by decide), mf_nd C.nd (i := 1) (j := 5) rfl rfl (by decide)]))
    rw [nI_clamp (by omega), nI_clamp (by omega), nI_clamp (by omega)] at hP hD
    have hP : va_P D mf_cl [(al, .inr (0, [.ref ed, .int (nI (n + 1)), .int (mc + 1)])), (ed, .inl (k5.1, cap, .inr (.inr (.inr (.inr (va_cpy f f (i + 1) i (n - i)))))))] H := hP
    have hD : va_D A1 [(al, .inr (0, [.ref ed, .int (nI (n + 1)), .int (mc + 1)])), (ed, .inl (k5.1, cap, .inr (.inr (.inr (.inr (va_cpy f f (i + 1) i (n - i)))))))] := hD
    refine lv_aload_n C.x C.b md_A_fastRemove_34 rfl (lv_at hl 2 rfl) ?_
    refine lv_aload_n C.x C.b md_A_fastRemove_35 rfl (lv_at hl 1 rfl) ?_
    refine lv_iload_n C.x C.b md_A_fastRemove_36 rfl (lv_at hl 0 rfl) ?_
    refine lv_dup_x1 C.x C.b md_A_fastRemove_37 rfl rfl ?_
    refine va_put (D := D) (ci := 0) (v := .int (nI n)) (ty := .int) (C := mf_RA) (T := mf_TA) (N := 3) C.x C.b C.2.2.1 mi_A mf_tyA mp_A mn_A C.o C.k hP hD hS 0 rfl rfl 1 (by decide) (C.t mt_44) (fun _ h => h) rfl (by decide +kernel) rfl rfl (Nat.le_of_ble_eq_true rfl) md_A_fastRemove_38 (fun H locs hP hD hS => ?_)
    have hP : va_P D mf_cl [(al, .inr (0, [.ref ed, .int (nI n), .int (mc + 1)])), (ed, .inl (k5.1, cap, .inr (.inr (.inr (.inr (va_cpy f f (i + 1) i (n - i)))))))] H := hP
    have hD : va_D A1 [(al, .inr (0, [.ref ed, .int (nI n), .int (mc + 1)])), (ed, .inl (k5.1, cap, .inr (.inr (.inr (.inr (va_cpy f f (i + 1) i (n - i)))))))] := hD
    refine lv_null C.x C.b md_A_fastRemove_41 ?_
    refine va_astqN C.x C.b C.k hP hD hS 1 0 rfl rfl (vp_in_nI (show n < cap by omega) (by omega)) md_A_fastRemove_42 (fun H locs hP hD hS => ?_)
    rw [nI_clamp (by omega)] at hP
    have hP : va_P D mf_cl [(al, .inr (0, [.ref ed, .int (nI n), .int (mc + 1)])), (ed, .inl (k5.1, cap, .inr (.inr (.inr (.inr (va_up (va_cpy f f (i + 1) i (n - i)) n none))))))] H := hP
    refine mf_wv C.x C.b hr hlk md_A_fastRemove_43 ⟨va_up (va_cpy f f (i + 1) i (n - i)) n none, hP 0 _ rfl, hP 1 _ rfl, fun j hj => ?_⟩ (by rw [← hH]; exact ⟨hS.1, hS.2.1⟩) hH (fun q hq => by have h9 := hS.2.2 q hq; rw [hA1] at h9; exact h9.1) (Nat.le_refl _) (Nat.le_refl _)
    rw [va_up_ne _ _ (by omega)]
    by_cases hji : j < i
    · rw [if_pos hji, pk_cpy_out (Or.inl hji)]
    · rw [if_neg hji, pk_cpy_in (by omega) (by omega)]
      congr 1; omega
set_option maxRecDepth 100000 in
set_option maxHeartbeats 4000000 in
theorem k_A_remove (l : Launch) (D : va_G) (k5 : mf_k5) (t0 : Nat × Nat) (A : Nat → Prop) (H : Heap) (al i a : Nat) (as : List Nat) (hA : mf_AL D k5 t0 A H al as) (hi : as[i]? = some a) (he : ∀ b ∈ as, ∃ fs, va_at D mf_cl (b, .inr (1, fs)) H) : mf_cWR l my_A_remove mc_A_remove 4 (some (.object "java/lang/Object")) { frames := 2, cells := 0, slots := 0, locals := 83 } D (mf_tys k5) t0 A H [.ref al, .int (nI i)] (some (.ref a)) (fun H1 => mf_AL D k5 t0 A H1 al (as.eraseIdx i)) (mf_fr A H [D.1 0, k5.1]) 0 0 := by
  obtain ⟨ed, mc, hal, hA1, hle, ⟨rfl, -⟩ | ⟨cap, f, hed, hA2, h1, h2, h3, hf⟩⟩ := hA
  · simp at hi
  have hi1 : i < as.length := (List.getElem?_eq_some_iff.mp hi).1
  obtain ⟨n, hn⟩ : ∃ n, as.length = n + 1 := ⟨as.length - 1, by omega⟩
  have hle1 : (as.eraseIdx i).length = n := by have := mf_erase_len hi; omega
  rw [hn] at hal
  have hel : ∀ j, j < n + 1 → ∃ y fs, f j = some y ∧ va_at D mf_cl (y, .inr (1, fs)) H := by
    intro j hj
    obtain ⟨y, hy⟩ := mf_at_lt (l := as) (k := j) (by omega)
    obtain ⟨fs, h9⟩ := he y (List.mem_of_getElem? hy)
    exact ⟨y, fs, hf j y hy, h9⟩
  refine mf_of (by decide) (Nat.le_of_ble_eq_true rfl) ?_
  intro p e s m below meth c ls C hH hr hlk hnm hmt hl hS
  have hl : lv_has ls 4 [(0, .ref al), (1, .int (nI i))] := hl
  refine lv_iload_n C.x C.b md_A_remove_0 rfl (lv_at hl 1 rfl) ?_
  refine lv_aload_n C.x C.b md_A_remove_1 rfl (lv_at hl 0 rfl) ?_
  refine mf_gf C (ci := 0) (N := 3) rfl mi_A 1 (by decide) mt_44 hal (v := .int (nI (n + 1))) rfl md_A_remove_2 ?_
  refine mf_cks (va_runS (As := [.int (nI i), .int (nI (n + 1))]) (rest := []) C.f (k_Ob_checkIndex l D k5 t0 A H (nI i) (nI (n + 1)) (nI_pos (by omega)) (nI_lt (by omega) (by omega))) (mf_cS C mt_212 mt_210 mt_11 mt_211 mh_Ob_checkIndex ⟨by decide, by decide⟩) (mf_preS C.ev hS) rfl rfl hl.1 rfl (lv_room (Nat.le_of_ble_eq_true rfl)) md_A_remove_5 ⟨by omega, by omega⟩) ?_
  refine lv_pop C.x C.b md_A_remove_8 rfl ?_
  refine lv_aload_n C.x C.b md_A_remove_9 rfl (lv_at hl 0 rfl) ?_
  refine mf_gf C (ci := 0) (N := 3) rfl mi_A 0 (by decide) mt_43 hal (v := .ref ed) rfl md_A_remove_10 ?_
  refine lv_astore_n (lv' := [(2, .ref ed), (0, .ref al), (1, .int (nI i))]) C.x C.b md_A_remove_13 rfl hl (by decide) rfl (fun ls hl => ?_)
  refine lv_aload_n C.x C.b md_A_remove_14 rfl (lv_at hl 0 rfl) ?_
  refine lv_iload_n C.x C.b md_A_remove_15 rfl (lv_at hl 2 rfl) ?_
  refine mf_aald C (t := 0) rfl hed (i := i) (by omega) (by omega) (hf i a hi) md_A_remove_16 ?_
  refine lv_astore_n (lv' := [(3, .ref a), (2, .ref ed), (0, .ref al), (1, .int (nI i))]) C.x C.b md_A_remove_17 rfl hl (by decide) rfl (fun ls hl => ?_)
  refine lv_aload_n C.x C.b md_A_remove_18 rfl (lv_at hl 2 rfl) ?_
  refine lv_aload_n C.x C.b md_A_remove_19 rfl (lv_at hl 1 rfl) ?_
  refine lv_iload_n C.x C.b md_A_remove_20 rfl (lv_at hl 3 rfl) ?_
  refine mf_cwn (va_runV (As := [.ref ed, .int (nI i)]) (rest := []) C.f (k_A_fastRemove l D k5 t0 A H al ed cap n i mc f hal hed hA1 hA2 (by omega) (by omega) h3 hel) (mf_cV C mt_316 mt_313 mt_4 mt_315 ms_10 mh_A_fastRemove ⟨by decide, by decide⟩) (mf_preV C.ev hS (mf_rv C (ci := 0) (N := 3) rfl hal)) rfl rfl hl.1 rfl (lv_room (Nat.le_of_ble_eq_true rfl)) md_A_remove_21 ⟨by omega, by omega⟩) hS (fun _ _ h => h.1) (fun H locs hB hz hk hS => ?_)
  refine lv_aload_n C.x C.b md_A_remove_24 rfl (lv_at hl 0 rfl) ?_
  obtain ⟨f1, hal1, hed1, hf1⟩ := hB
  refine mf_wa C.x C.b hr (Or.inl ⟨_, rfl⟩) hlk md_A_remove_25 ⟨ed, mc + 1, ?_, hA1, ?_, Or.inr ⟨cap, f1, hed1, hA2, ?_, h2, h3, fun j b hj => ?_⟩⟩ ⟨hz, hk⟩ hH hS.2.2 (Nat.le_refl _) (Nat.le_refl _)
  · rw [hle1]; exact hal1
  · omega
  · omega
  · have hjn : j < n := by have := (List.getElem?_eq_some_iff.mp hj).1; omega
    rw [hf1 j hjn]
    rw [List.getElem?_eraseIdx] at hj
    by_cases hji : j < i
    · rw [if_pos hji] at hj ⊢; exact hf j b hj
    · rw [if_neg hji] at hj ⊢; exact hf (j + 1) b hj
