/-! the law: its loop and its start -/
set_option maxRecDepth 100000 in
set_option maxHeartbeats 4000000 in
theorem law_loop (l : Launch) (D : va_G) (k5 : mf_k5) (t0 : Nat × Nat) {p : Program} {e : Env} {s : State} {m : MethodId} {below : List Frame} {meth : Method} {c : Code} {Q : State → Prop} {b L x al tp mo o : Nat} {aa : Nat → Nat} {xs : Nat → Int32} (C : mf_Cx p s m #[.ref b] c "MatchFloorLaw" mc_L_law 7 D (mf_tys k5) t0 (fun q => s.heap.size ≤ q)) (hlt : l.stackTraces = false) (hX : va_X b L xs s s.heap) (hbl : b < s.heap.size) (hL : L ≤ 2560) (hm0 : ∀ q, mf_AM mo aa q → s.heap.size ≤ q) (hAo : mf_Ac s.heap.size mo aa o) (fin : ∀ (H : Heap) (locs : List Loc) (ls : Array Slot), va_S (fun q => s.heap.size ≤ q) s.heap H locs → W p l e room_1 s m #[.ref b] below meth c H locs 601024 7293034 Q (F0 m 759 ls [.int 1])) : ∀ (n k : Nat) (H : Heap) (locs : List Loc) (ls : Array Slot), k + n = 512 → mf_IV D k5 t0 s.heap.size x al tp mo o aa k H → va_S (fun q => s.heap.size ≤ q) s.heap H locs → lv_has ls 7 [(4, .int (nI (5 * k))), (3, .ref o), (2, .ref mo), (1, .ref x), (0, .ref b)] → W p l e room_1 s m #[.ref b] below meth c H locs (49 + 2 * k) (601 + 66 * k) Q (F0 m 23 ls []) := by
  have hbA : ¬ (s.heap.size ≤ b) := Nat.not_le.mpr hbl
  intro n
  induction n with
  | zero =>
    intro k H locs ls hkn hI hS hl
    refine lv_iload C.x C.b md_L_law_23 (lv_at hl 0 rfl) ?_
    refine lv_aload_n C.x C.b md_L_law_25 rfl (lv_at hl 4 rfl) ?_
    refine va_slen C.x C.b hX hbl hbA hS md_L_law_26 ?_
    refine lv_iconst (v := 5) C.x C.b md_L_law_27 (by decide) ?_
    refine lv_isub C.x C.b md_L_law_28 ?_
    refine lv_icmp_gt (tgt := 758) C.x C.b md_L_law_29 (by decide) (fun h1 => ?_) (fun h1 => ?_)
    · skip
      refine lv_iconst (v := 1) C.x C.b md_L_law_758 (by decide) ?_
      refine W.widen (k := 601024) (n := 7293034) (by omega) (by omega) ?_
      exact fin _ _ ls hS
    · have h9 := mf_lawc hL (by omega) h1
      omega
  | succ n ih =>
    intro k H locs ls hkn hI hS hl
    have nxt : ∀ (H1 : Heap) (locs1 : List Loc) (ls1 : Array Slot), mf_IV D k5 t0 s.heap.size x al tp mo o aa (k + 1) H1 → va_S (fun q => s.heap.size ≤ q) s.heap H1 locs1 → lv_has ls1 7 [(4, .int (nI (5 * k))), (3, .ref o), (2, .ref mo), (1, .ref x), (0, .ref b)] → W p l e room_1 s m #[.ref b] below meth c H1 locs1 (49 + 2 * k + 2) (601 + 66 * k + 66) Q (F0 m 752 ls1 []) := by
      intro H1 locs1 ls hI hS hl
      refine lv_iinc (k := 0) (v := (nI (5 * k)) + 5) (lv' := [(4, .int ((nI (5 * k)) + 5)), (3, .ref o), (2, .ref mo), (1, .ref x), (0, .ref b)]) C.x C.b md_L_law_752 hl rfl rfl (by decide) rfl (fun ls hl => ?_)
      rw [show nI (5 * k) + 5 = nI (5 * (k + 1)) from (nI_add (5 * k) 5).trans (by rw [Nat.mul_succ])] at hl
      refine lv_goto (tgt := 23) C.x C.b md_L_law_755 (by decide) ?_
      refine W.widen (k := 49 + 2 * (k + 1)) (n := 601 + 66 * (k + 1)) (by omega) (by omega) ?_
      exact ih (k + 1) H1 locs1 ls (by omega) hI hS (lv_sub hl [0, 1, 2, 3, 4] rfl)
    refine lv_iload C.x C.b md_L_law_23 (lv_at hl 0 rfl) ?_
    refine lv_aload_n C.x C.b md_L_law_25 rfl (lv_at hl 4 rfl) ?_
    refine va_slen C.x C.b hX hbl hbA hS md_L_law_26 ?_
    refine lv_iconst (v := 5) C.x C.b md_L_law_27 (by decide) ?_
    refine lv_isub C.x C.b md_L_law_28 ?_
    refine lv_icmp_gt (tgt := 758) C.x C.b md_L_law_29 (by decide) (fun h2 => ?_) (fun h2 => ?_)
    · skip
      refine lv_iconst (v := 1) C.x C.b md_L_law_758 (by decide) ?_
      refine W.widen (k := 601024) (n := 7293034) (by omega) (by omega) ?_
      exact fin _ _ ls hS
    · have hk := mf_lawc hL (by omega) h2
      obtain ⟨a0, h0⟩ : ∃ a, xs (5 * k) = a := ⟨_, rfl⟩
      refine lv_aload_n C.x C.b md_L_law_32 rfl (lv_at hl 4 rfl) ?_
      refine lv_iload C.x C.b md_L_law_33 (lv_at hl 0 rfl) ?_
      refine mf_sld C hX hbl hbA hS (j := 5 * k) (v := a0) rfl (by omega) hL h0 md_L_law_35 ?_
      refine lv_bipush (v := 15) C.x C.b md_L_law_36 (by decide) ?_
      refine lv_iand C.x C.b md_L_law_38 ?_
      generalize a0 &&& 15 = z
      by_cases hk0 : z = 0
      · refine lv_tableIn (tgt := 100) C.x C.b md_L_law_39 (by rw [hk0]; decide) (by rw [hk0]; decide) (by rw [hk0]; rfl) (by decide) ?_
        exact law_submit l D k5 t0 C hlt hX hbl hL hm0 hAo hk hI hS (lv_sub hl [0, 1, 2, 3, 4] rfl) ⟨by omega, by omega⟩ nxt
      by_cases hk1 : z = 1
      · refine lv_tableIn (tgt := 192) C.x C.b md_L_law_39 (by rw [hk1]; decide) (by rw [hk1]; decide) (by rw [hk1]; rfl) (by decide) ?_
        exact law_cancel l D k5 t0 C hlt hX hbl hL hm0 hAo hk hI hS (lv_sub hl [0, 1, 2, 3, 4] rfl) ⟨by omega, by omega⟩ nxt
      by_cases hk2 : z = 2
      · refine lv_tableIn (tgt := 248) C.x C.b md_L_law_39 (by rw [hk2]; decide) (by rw [hk2]; decide) (by rw [hk2]; rfl) (by decide) ?_
        exact law_amend l D k5 t0 C hlt hX hbl hL hm0 hAo hk hI hS (lv_sub hl [0, 1, 2, 3, 4] rfl) ⟨by omega, by omega⟩ nxt
      by_cases hk3 : z = 3
      · refine lv_tableIn (tgt := 328) C.x C.b md_L_law_39 (by rw [hk3]; decide) (by rw [hk3]; decide) (by rw [hk3]; rfl) (by decide) ?_
        exact law_withdraw l D k5 t0 C hlt hX hbl hL hm0 hAo hk hI hS (lv_sub hl [0, 1, 2, 3, 4] rfl) ⟨by omega, by omega⟩ nxt
      by_cases hk4 : z = 4
      · refine lv_tableIn (tgt := 384) C.x C.b md_L_law_39 (by rw [hk4]; decide) (by rw [hk4]; decide) (by rw [hk4]; rfl) (by decide) ?_
        exact law_levels l D k5 t0 C hlt hX hbl hL hm0 hAo hk hI hS (lv_sub hl [0, 1, 2, 3, 4] rfl) ⟨by omega, by omega⟩ nxt
      by_cases hk5 : z = 5
      · refine lv_tableIn (tgt := 440) C.x C.b md_L_law_39 (by rw [hk5]; decide) (by rw [hk5]; decide) (by rw [hk5]; rfl) (by decide) ?_
        exact law_level l D k5 t0 C hlt hX hbl hL hm0 hAo hk hI hS (lv_sub hl [0, 1, 2, 3, 4] rfl) ⟨by omega, by omega⟩ nxt
      by_cases hk6 : z = 6
      · refine lv_tableIn (tgt := 520) C.x C.b md_L_law_39 (by rw [hk6]; decide) (by rw [hk6]; decide) (by rw [hk6]; rfl) (by decide) ?_
        exact law_order l D k5 t0 C hlt hX hbl hL hm0 hAo hk hI hS (lv_sub hl [0, 1, 2, 3, 4] rfl) ⟨by omega, by omega⟩ nxt
      by_cases hk7 : z = 7
      · refine lv_tableIn (tgt := 588) C.x C.b md_L_law_39 (by rw [hk7]; decide) (by rw [hk7]; decide) (by rw [hk7]; rfl) (by decide) ?_
        exact law_fill l D k5 t0 C hlt hX hbl hL hm0 hAo hk hI hS (lv_sub hl [0, 1, 2, 3, 4] rfl) ⟨by omega, by omega⟩ nxt
      by_cases hk8 : z = 8
      · refine lv_tableIn (tgt := 656) C.x C.b md_L_law_39 (by rw [hk8]; decide) (by rw [hk8]; decide) (by rw [hk8]; rfl) (by decide) ?_
        exact law_fills l D k5 t0 C hlt hX hbl hL hm0 hAo hk hI hS (lv_sub hl [0, 1, 2, 3, 4] rfl) ⟨by omega, by omega⟩ nxt
      by_cases hk9 : z = 9
      · refine lv_tableIn (tgt := 669) C.x C.b md_L_law_39 (by rw [hk9]; decide) (by rw [hk9]; decide) (by rw [hk9]; rfl) (by decide) ?_
        exact law_last l D k5 t0 C hlt hX hbl hL hm0 hAo hk hI hS (lv_sub hl [0, 1, 2, 3, 4] rfl) ⟨by omega, by omega⟩ nxt
      by_cases hk10 : z = 10
      · refine lv_tableIn (tgt := 682) C.x C.b md_L_law_39 (by rw [hk10]; decide) (by rw [hk10]; decide) (by rw [hk10]; rfl) (by decide) ?_
        exact law_turnover l D k5 t0 C hlt hX hbl hL hm0 hAo hk hI hS (lv_sub hl [0, 1, 2, 3, 4] rfl) ⟨by omega, by omega⟩ nxt
      by_cases hk11 : z = 11
      · refine lv_tableIn (tgt := 696) C.x C.b md_L_law_39 (by rw [hk11]; decide) (by rw [hk11]; decide) (by rw [hk11]; rfl) (by decide) ?_
        exact law_figure l D k5 t0 C hlt hX hbl hL hm0 hAo hk hI hS (lv_sub hl [0, 1, 2, 3, 4] rfl) ⟨by omega, by omega⟩ nxt
      refine lv_tableOut (tgt := 752) C.x C.b md_L_law_39 (mf_tout11 hk0 hk1 hk2 hk3 hk4 hk5 hk6 hk7 hk8 hk9 hk10 hk11) (by decide) ?_
      obtain ⟨st, rst, cd, f, hsim, hM, hR, ho⟩ := hI
      refine W.widen (k := 49 + 2 * k + 2) (n := 601 + 66 * k + 66) (by omega) (by omega) ?_
      exact nxt H locs ls ⟨st, rst, cd, f, hsim.up, hM, hR, ho⟩ hS (lv_sub hl [0, 1, 2, 3, 4] rfl)
set_option maxRecDepth 100000 in
set_option maxHeartbeats 4000000 in
theorem law_all (l : Launch) (D : va_G) (k5 : mf_k5) (t0 : Nat × Nat) {p : Program} {e : Env} {s : State} {m : MethodId} {below : List Frame} {meth : Method} {c : Code} {Q : State → Prop} {ls : Array Slot} {b L : Nat} {xs : Nat → Int32} (C : mf_Cx p s m #[.ref b] c "MatchFloorLaw" mc_L_law 7 D (mf_tys k5) t0 (fun q => s.heap.size ≤ q)) (hlt : l.stackTraces = false) (hX : va_X b L xs s s.heap) (hbl : b < s.heap.size) (hL : L ≤ 2560) (fin : ∀ (H : Heap) (locs : List Loc) (ls : Array Slot), va_S (fun q => s.heap.size ≤ q) s.heap H locs → W p l e room_1 s m #[.ref b] below meth c H locs 601024 7293034 Q (F0 m 759 ls [.int 1])) (hl : lv_has ls 7 [(0, .ref b)]) : W p l e room_1 s m #[.ref b] below meth c s.heap [] 0 0 Q (F0 m 0 ls []) := by
  have hS : va_S (fun q => s.heap.size ≤ q) s.heap s.heap [] := va_S.rf
  refine mf_newo C (ci := 3) (N := 4) (fs := [.null, .null, .int 0, .int 0]) rfl mi_F mp_F mt_21 mt_22 mt_1 (by decide) hS (by decide) (by decide) md_L_law_0 (fun x H1 hx hne hAx hE1 hS => ?_)
  refine lv_dup C.x C.b md_L_law_3 rfl ?_
  refine mf_cwn (va_runI (As := []) (rest := [.ref x]) C.f (k_F_init l D k5 t0 (fun q => s.heap.size ≤ q) H1 x hx hAx) (mf_cI C mt_25 mt_23 mt_1 mt_24 rfl mh_F_init ⟨by decide, by decide⟩) (mf_preS C.ev hS) rfl rfl hl.1 rfl (lv_room (Nat.le_of_ble_eq_true rfl)) md_L_law_4 ⟨by first | omega | exact Nat.le_of_ble_eq_true rfl, by first | omega | exact Nat.le_of_ble_eq_true rfl⟩) hS (fun _ _ h => h.1) (fun H2 locs2 hB2 hz2 hk2 hS => ?_)
  obtain ⟨al, tp, hM⟩ := hB2
  have hS2 := hS
  refine lv_astore_n (lv' := [(1, .ref x), (0, .ref b)]) C.x C.b md_L_law_7 rfl hl (by decide) rfl (fun ls hl => ?_)
  refine mf_newo C (ci := 4) (N := 20) (fs := [.int 0, .int 0, .int 0, .null, .null, .null, .null, .null, .null, .null, .int 0, .null, .null, .null, .null, .int 0, .long 0, .int 0, .int 0, .int 0]) rfl mi_M mp_M mt_529 mt_530 mt_6 (by decide) hS (by decide) (by decide) md_L_law_8 (fun mo H3 hmo hne3 hAmo hE3 hS => ?_)
  refine lv_dup C.x C.b md_L_law_11 rfl ?_
  have hsB : ∀ q, (q = mo ∨ H3.size ≤ q) → s.heap.size ≤ q := fun q h => h.elim (fun h => by rw [h]; exact hAmo) (fun h => Nat.le_trans hS.1 h)
  refine mf_cwn (mf_rup (va_runI (As := []) (rest := [.ref mo]) C.f (k_M_init l D k5 t0 (fun q => q = mo ∨ H3.size ≤ q) H3 mo hmo (Or.inl rfl)) (mf_cI C mt_533 mt_531 mt_6 mt_532 rfl mh_M_init ⟨by decide, by decide⟩) (mf_preSB C.ev hS hsB (fun q h => Or.inr h)) rfl rfl hl.1 rfl (lv_room (Nat.le_of_ble_eq_true rfl)) md_L_law_12 ⟨by first | omega | exact Nat.le_of_ble_eq_true rfl, by first | omega | exact Nat.le_of_ble_eq_true rfl⟩) hsB) hS (fun _ _ h => hsB _ h) (fun H4 locs4 hB4 hz4 hk4 hS => ?_)
  obtain ⟨aa, hR⟩ := hB4
  have hge : ∀ q, mf_AM mo aa q → H2.size ≤ q := fun q h => (hR.in q h).1.elim (fun z => by rw [z, hne3]; exact Nat.le_refl _) (fun z => Nat.le_trans hE3.1 z)
  have hm0 : ∀ q, mf_AM mo aa q → s.heap.size ≤ q := fun q h => Nat.le_trans hS2.1 (hge q h)
  have hM4 := hM.kp (B := mf_Ac s.heap.size mo aa) (H1 := H4) (fun q hq hlt => ⟨hq, fun z => absurd (hge q z) (Nat.not_le.mpr hlt)⟩) (fun q hq hlt => (hk4 q (Nat.lt_of_lt_of_le hlt hE3.1) (fun z => z.elim (fun z => by rw [z, hne3] at hlt; exact Nat.lt_irrefl _ hlt) (fun z => absurd (Nat.lt_of_lt_of_le hlt hE3.1) (Nat.not_lt.mpr z)))).trans (hE3.2 q hlt (fun z => z.2.elim (fun z => absurd hlt (Nat.not_lt.mpr z)) (fun ⟨_, z, _⟩ => by cases z))))
  refine lv_astore_n (lv' := [(2, .ref mo), (1, .ref x), (0, .ref b)]) C.x C.b md_L_law_15 rfl hl (by decide) rfl (fun ls hl => ?_)
  refine lv_iconst (v := 1) C.x C.b md_L_law_16 (by decide) ?_
  refine va_newaK (atype := .long) (N := 1) (n := 1) (rest := []) C.x C.b (C.t mt_709) rfl md_L_law_17 rfl (by decide) (by decide) (by decide) (by decide) (by decide) rfl (fun H5 cA e5 z5 o5 hAr hNm => ?_)
  obtain rfl : cA = k5.2.2.2.2 := Option.some.inj ((show s.vm.findClass "[J" = some cA from hNm).symm.trans (va_nm_long (C.k.2 4 _ rfl).2))
  have ho : va_at D mf_cl (H4.size, .inl (k5.2.2.2.2, 1, .inr (.inl (fun _ => 0)))) H5 := e5
  refine W.eq (g2 := F0 m 19 ls [.ref H4.size]) rfl ?_
  have hS5 : va_S (fun q => s.heap.size ≤ q) s.heap H5 locs4 := ⟨Nat.le_trans hS.1 (by omega), fun q h1 h2 => (o5 q (Nat.lt_of_lt_of_le h1 hS.1)).trans (hS.2.1 q h1 h2), hS.2.2⟩
  have hM5 := hM4.kp (B := mf_Ac s.heap.size mo aa) (fun q h _ => h) (fun q _ hlt => o5 q hlt)
  have hR5 := hR.re.kp (fun q _ hlt => o5 q hlt)
  have hAo : mf_Ac s.heap.size mo aa H4.size := ⟨hS.1, fun z => absurd (hR.in _ z).2 (Nat.lt_irrefl _)⟩
  refine lv_astore_n (lv' := [(3, .ref H4.size), (2, .ref mo), (1, .ref x), (0, .ref b)]) C.x C.b md_L_law_19 rfl hl (by decide) rfl (fun ls hl => ?_)
  refine lv_iconst (v := 0) C.x C.b md_L_law_20 (by decide) ?_
  refine lv_istore (lv' := [(4, .int 0), (3, .ref H4.size), (2, .ref mo), (1, .ref x), (0, .ref b)]) C.x C.b md_L_law_21 hl (by decide) rfl (fun ls hl => ?_)
  refine W.widen (k := 49 + 2 * 0) (n := 601 + 66 * 0) (by decide) (by decide) ?_
  exact law_loop l D k5 t0 C hlt hX hbl hL hm0 hAo fin 512 0 H5 _ ls rfl ⟨_, _, _, _, mf_sim_0 mf_g0 rfl, hM5, hR5, ho⟩ hS5 (lv_sub hl [0, 1, 2, 3, 4] rfl)
