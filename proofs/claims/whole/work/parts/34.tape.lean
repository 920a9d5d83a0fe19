/-! the tape -/
set_option maxRecDepth 100000 in
set_option maxHeartbeats 4000000 in
theorem k_Ma_floorMod (l : Launch) (D : va_G) (k5 : mf_k5) (t0 : Nat × Nat) (A : Nat → Prop) (H : Heap) (n : Nat) (hn : n < 2 ^ 31) : mf_cRO l my_Ma_floorMod mc_Ma_floorMod 3 (some .int) { frames := 0, cells := 0, slots := 0, locals := 0 } D (mf_tys k5) t0 A H [.int (nI n), .int 32] (some (.int (nI (n % 32)))) := by
  refine mf_ofF (by decide +kernel) (Nat.le_of_ble_eq_true rfl) ?_
  intro p e s m below meth c ls C hH hr hlk hnm hmt hl hS
  have hl : lv_has ls 3 [(0, .int (nI n)), (1, .int 32)] := hl
  refine lv_iload_n C.x C.b md_Ma_floorMod_0 rfl (lv_at hl 0 rfl) ?_
  refine lv_iload_n C.x C.b md_Ma_floorMod_1 rfl (lv_at hl 1 rfl) ?_
  refine lv_irem C.x C.b md_Ma_floorMod_2 (by decide) ?_
  rw [mf_mod32 hn]
  refine lv_istore_n (lv' := [(2, .int (nI (n % 32))), (0, .int (nI n)), (1, .int 32)]) C.x C.b md_Ma_floorMod_3 rfl hl (by decide) rfl (fun ls hl => ?_)
  refine lv_iload_n C.x C.b md_Ma_floorMod_4 rfl (lv_at hl 1 rfl) ?_
  refine lv_iload_n C.x C.b md_Ma_floorMod_5 rfl (lv_at hl 2 rfl) ?_
  refine lv_ixor C.x C.b md_Ma_floorMod_6 ?_
  refine lv_if_ge (tgt := 18) C.x C.b md_Ma_floorMod_7 (by decide) (fun h1 => ?_) (fun h1 => ?_)
  · skip
    refine lv_iload_n C.x C.b md_Ma_floorMod_18 rfl (lv_at hl 0 rfl) ?_
    exact mf_ri C.x C.b hH hr hlk md_Ma_floorMod_19
  · exact absurd (mf_xor_pos hn) h1
set_option maxRecDepth 100000 in
set_option maxHeartbeats 4000000 in
theorem k_T_read (l : Launch) (D : va_G) (k5 : mf_k5) (t0 : Nat × Nat) (A : Nat → Prop) (H : Heap) (tp k w0 : Nat) (g : mf_G) (hT : mf_TP D k5 A H tp g) (hk : k < g.1) (hg : g.1 < 2 ^ 31) (hw : w0 < 4) : mf_cRO l my_T_read mc_T_read 3 (some .int) { frames := 1, cells := 0, slots := 0, locals := 22 } D (mf_tys k5) t0 A H [.ref tp, .int (nI k), .int (nI w0)] (some (.int (g.2.2.2.2 ((g.1 - 1 - k) % 32) w0))) := by
  obtain ⟨rw, rr, rf, rx, htp, hA3, hrw, hA4, hrf, hrr, hin⟩ := hT
  refine mf_of (by decide) (Nat.le_of_ble_eq_true rfl) ?_
  intro p e s m below meth c ls C hH hr hlk hnm hmt hl hS
  have hl : lv_has ls 3 [(0, .ref tp), (1, .int (nI k)), (2, .int (nI w0))] := hl
  refine lv_aload_n C.x C.b md_T_read_0 rfl (lv_at hl 0 rfl) ?_
  refine mf_gf C (ci := 2) (N := 5) rfl mi_T 0 (by decide) mt_63 htp (v := .ref rw) rfl md_T_read_1 ?_
  refine lv_aload_n C.x C.b md_T_read_4 rfl (lv_at hl 0 rfl) ?_
  refine mf_gf C (ci := 2) (N := 5) rfl mi_T 1 (by decide) mt_64 htp (v := .int (nI g.1)) rfl md_T_read_5 ?_
  refine lv_iconst (v := 1) C.x C.b md_T_read_8 (by decide) ?_
  refine lv_isub C.x C.b md_T_read_9 ?_
  refine lv_iload_n C.x C.b md_T_read_10 rfl (lv_at hl 1 rfl) ?_
  refine lv_isub C.x C.b md_T_read_11 ?_
  rw [show nI g.1 - 1 - nI k = nI (g.1 - 1 - k) by rw [show nI g.1 - 1 = nI (g.1 - 1) from pk_sub (b := 1) (by omega), pk_sub (by omega)]]
  refine lv_bipush (v := 32) C.x C.b md_T_read_12 (by decide) ?_
  refine mf_cks (va_runS (As := [.int (nI (g.1 - 1 - k)), .int 32]) (rest := [.ref rw]) C.f (k_Ma_floorMod l D k5 t0 A H (g.1 - 1 - k) (by omega)) (mf_cS C mt_329 mt_327 mt_16 mt_328 mh_Ma_floorMod ⟨by decide, by decide⟩) (mf_preS C.ev hS) rfl rfl hl.1 rfl (lv_room (Nat.le_of_ble_eq_true rfl)) md_T_read_14 ⟨by omega, by omega⟩) ?_
  have hj : (g.1 - 1 - k) % 32 < 32 := Nat.mod_lt _ (by decide)
  refine mf_aaldA C (t := 1) rfl hrw hj (by decide) (hrf _ hj) md_T_read_17 ?_
  refine lv_iload_n C.x C.b md_T_read_18 rfl (lv_at hl 2 rfl) ?_
  refine mf_iald C (t := 2) rfl (hrr _ hj).1 hw (by decide) md_T_read_19 ?_
  rw [(hrr _ hj).2.2 w0 hw]
  exact mf_ri C.x C.b hH hr hlk md_T_read_20
set_option maxRecDepth 100000 in
set_option maxHeartbeats 4000000 in
theorem k_T_write (l : Launch) (D : va_G) (k5 : mf_k5) (t0 : Nat × Nat) (A : Nat → Prop) (H : Heap) (tp : Nat) (i k p0 n : Int32) (g : mf_G) (hT : mf_TP D k5 A H tp g) (hg : g.1 + 1 < 2 ^ 31) : mf_cWR l my_T_write mc_T_write 6 none { frames := 1, cells := 0, slots := 0, locals := 22 } D (mf_tys k5) t0 A H [.ref tp, .int i, .int k, .int p0, .int n] none (fun H1 => mf_TP D k5 A H1 tp (mf_write g i k p0 n)) (mf_fr A H [D.1 2, k5.2.2.1]) 0 0 := by
  obtain ⟨rw, rr, rf, rx, htp, hA3, hrw, hA4, hrf, hrr, hin⟩ := hT
  refine mf_of (by decide) (Nat.le_of_ble_eq_true rfl) ?_
  intro p e s m below meth c ls C hH hr hlk hnm hmt hl hS
  have hl : lv_has ls 6 [(0, .ref tp), (1, .int i), (2, .int k), (3, .int p0), (4, .int n)] := hl
  refine lv_aload_n C.x C.b md_T_write_0 rfl (lv_at hl 0 rfl) ?_
  refine mf_gf C (ci := 2) (N := 5) rfl mi_T 0 (by decide) mt_63 htp (v := .ref rw) rfl md_T_write_1 ?_
  refine lv_aload_n C.x C.b md_T_write_4 rfl (lv_at hl 0 rfl) ?_
  refine mf_gf C (ci := 2) (N := 5) rfl mi_T 1 (by decide) mt_64 htp (v := .int (nI g.1)) rfl md_T_write_5 ?_
  refine lv_bipush (v := 32) C.x C.b md_T_write_8 (by decide) ?_
  refine mf_cks (va_runS (As := [.int (nI g.1), .int 32]) (rest := [.ref rw]) C.f (k_Ma_floorMod l D k5 t0 A H g.1 (by omega)) (mf_cS C mt_329 mt_327 mt_16 mt_328 mh_Ma_floorMod ⟨by decide, by decide⟩) (mf_preS C.ev hS) rfl rfl hl.1 rfl (lv_room (Nat.le_of_ble_eq_true rfl)) md_T_write_10 ⟨by omega, by omega⟩) ?_
  have hj : g.1 % 32 < 32 := Nat.mod_lt _ (by decide)
  refine mf_aaldA C (t := 1) rfl hrw hj (by decide) (hrf _ hj) md_T_write_13 ?_
  obtain ⟨hrj, hAj, hxj⟩ := hrr _ hj
  generalize hrow : rr (g.1 % 32) = row at hrj hAj ⊢
  generalize hrxj : rx (g.1 % 32) = fx at hrj hxj
  obtain ⟨A1, hA1⟩ : ∃ A1 : Nat → Prop, A1 = fun q => q = tp ∨ q = row := ⟨_, rfl⟩
  have hne : tp ≠ row := mf_ne_c (mf_co_o htp) (mf_co_a hrj) (mf_nd C.nd (i := 2) (j := 7) rfl rfl (by decide))
  have hD : va_D A1 [(tp, .inr (2, [.ref rw, .int (nI g.1), .int g.2.1, .int g.2.2.1, .long g.2.2.2.1])), (row, .inl (k5.2.2.1, 4, .inl fx))] := mf_D2 hne (by rw [hA1]; exact Or.inl rfl) (by rw [hA1]; exact Or.inr rfl)
  have hP : va_P D mf_cl [(tp, .inr (2, [.ref rw, .int (nI g.1), .int g.2.1, .int g.2.2.1, .long g.2.2.2.1])), (row, .inl (k5.2.2.1, 4, .inl fx))] H := mf_two htp hrj
  have hS : va_S A1 s.heap H [] := by rw [hH]; exact va_S.rf
  refine lv_astore (lv' := [(5, .ref row), (0, .ref tp), (1, .int i), (2, .int k), (3, .int p0), (4, .int n)]) C.x C.b md_T_write_14 hl (by decide) rfl (fun ls hl => ?_)
  refine lv_aload C.x C.b md_T_write_16 (lv_at hl 0 rfl) ?_
  refine lv_iconst (v := 0) C.x C.b md_T_write_18 (by decide) ?_
  refine lv_iload_n C.x C.b md_T_write_19 rfl (lv_at hl 2 rfl) ?_
  refine va_iast C.x C.b C.k hP hD hS 1 2 rfl rfl (pk_in 0 4 (by decide)) md_T_write_20 (fun H locs hP hD hS => ?_)
  have hP : va_P D mf_cl [(tp, .inr (2, [.ref rw, .int (nI g.1), .int g.2.1, .int g.2.2.1, .long g.2.2.2.1])), (row, .inl (k5.2.2.1, 4, .inl (upd fx 0 i)))] H := hP
  have hD : va_D A1 [(tp, .inr (2, [.ref rw, .int (nI g.1), .int g.2.1, .int g.2.2.1, .long g.2.2.2.1])), (row, .inl (k5.2.2.1, 4, .inl (upd fx 0 i)))] := hD
  refine lv_aload C.x C.b md_T_write_21 (lv_at hl 0 rfl) ?_
  refine lv_iconst (v := 1) C.x C.b md_T_write_23 (by decide) ?_
  refine lv_iload_n C.x C.b md_T_write_24 rfl (lv_at hl 3 rfl) ?_
  refine va_iast C.x C.b C.k hP hD hS 1 2 rfl rfl (pk_in 1 4 (by decide)) md_T_write_25 (fun H locs hP hD hS => ?_)
  have hP : va_P D mf_cl [(tp, .inr (2, [.ref rw, .int (nI g.1), .int g.2.1, .int g.2.2.1, .long g.2.2.2.1])), (row, .inl (k5.2.2.1, 4, .inl (upd (upd fx 0 i) 1 k)))] H := hP
  have hD : va_D A1 [(tp, .inr (2, [.ref rw, .int (nI g.1), .int g.2.1, .int g.2.2.1, .long g.2.2.2.1])), (row, .inl (k5.2.2.1, 4, .inl (upd (upd fx 0 i) 1 k)))] := hD
  refine lv_aload C.x C.b md_T_write_26 (lv_at hl 0 rfl) ?_
  refine lv_iconst (v := 2) C.x C.b md_T_write_28 (by decide) ?_
  refine lv_iload_n C.x C.b md_T_write_29 rfl (lv_at hl 4 rfl) ?_
  refine va_iast C.x C.b C.k hP hD hS 1 2 rfl rfl (pk_in 2 4 (by decide)) md_T_write_30 (fun H locs hP hD hS => ?_)
  have hP : va_P D mf_cl [(tp, .inr (2, [.ref rw, .int (nI g.1), .int g.2.1, .int g.2.2.1, .long g.2.2.2.1])), (row, .inl (k5.2.2.1, 4, .inl (upd (upd (upd fx 0 i) 1 k) 2 p0)))] H := hP
  have hD : va_D A1 [(tp, .inr (2, [.ref rw, .int (nI g.1), .int g.2.1, .int g.2.2.1, .long g.2.2.2.1])), (row, .inl (k5.2.2.1, 4, .inl (upd (upd (upd fx 0 i) 1 k) 2 p0)))] := hD
  refine lv_aload C.x C.b md_T_write_31 (lv_at hl 0 rfl) ?_
  refine lv_iconst (v := 3) C.x C.b md_T_write_33 (by decide) ?_
  refine lv_iload C.x C.b md_T_write_34 (lv_at hl 5 rfl) ?_
  refine va_iast C.x C.b C.k hP hD hS 1 2 rfl rfl (pk_in 3 4 (by decide)) md_T_write_36 (fun H locs hP hD hS => ?_)
  have hP : va_P D mf_cl [(tp, .inr (2, [.ref rw, .int (nI g.1), .int g.2.1, .int g.2.2.1, .long g.2.2.2.1])), (row, .inl (k5.2.2.1, 4, .inl (upd (upd (upd (upd fx 0 i) 1 k) 2 p0) 3 n)))] H := hP
  have hD : va_D A1 [(tp, .inr (2, [.ref rw, .int (nI g.1), .int g.2.1, .int g.2.2.1, .long g.2.2.2.1])), (row, .inl (k5.2.2.1, 4, .inl (upd (upd (upd (upd fx 0 i) 1 k) 2 p0) 3 n)))] := hD
  refine lv_aload_n C.x C.b md_T_write_37 rfl (lv_at hl 1 rfl) ?_
  refine lv_dup C.x C.b md_T_write_38 rfl ?_
  refine mf_gf C (ci := 2) (N := 5) rfl mi_T 1 (by decide) mt_64 (hP 0 _ rfl) (v := .int (nI g.1)) rfl md_T_write_39 ?_
  refine lv_iconst (v := 1) C.x C.b md_T_write_42 (by decide) ?_
  refine lv_iadd C.x C.b md_T_write_43 ?_
  rw [nI_1]
  refine va_put (D := D) (ci := 2) (v := .int (nI (g.1 + 1))) (ty := .int) (C := mf_RT) (T := mf_TT) (N := 5) C.x C.b C.2.2.1 mi_T mf_tyT mp_T mn_T C.o C.k hP hD hS 0 rfl rfl 1 (by decide) (C.t mt_64) (fun _ h => h) rfl (by decide +kernel) rfl rfl (Nat.le_of_ble_eq_true rfl) md_T_write_44 (fun H locs hP hD hS => ?_)
  have hP : va_P D mf_cl [(tp, .inr (2, [.ref rw, .int (nI (g.1 + 1)), .int g.2.1, .int g.2.2.1, .long g.2.2.2.1])), (row, .inl (k5.2.2.1, 4, .inl (upd (upd (upd (upd fx 0 i) 1 k) 2 p0) 3 n)))] H := hP
  have hD : va_D A1 [(tp, .inr (2, [.ref rw, .int (nI (g.1 + 1)), .int g.2.1, .int g.2.2.1, .long g.2.2.2.1])), (row, .inl (k5.2.2.1, 4, .inl (upd (upd (upd (upd fx 0 i) 1 k) 2 p0) 3 n)))] := hD
  refine lv_aload_n C.x C.b md_T_write_47 rfl (lv_at hl 1 rfl) ?_
  refine lv_iload_n C.x C.b md_T_write_48 rfl (lv_at hl 4 rfl) ?_
  refine va_put (D := D) (ci := 2) (v := .int p0) (ty := .int) (C := mf_RT) (T := mf_TT) (N := 5) C.x C.b C.2.2.1 mi_T mf_tyT mp_T mn_T C.o C.k hP hD hS 0 rfl rfl 2 (by decide) (C.t mt_66) (fun _ h => h) rfl (by decide +kernel) rfl rfl (Nat.le_of_ble_eq_true rfl) md_T_write_49 (fun H locs hP hD hS => ?_)
  have hP : va_P D mf_cl [(tp, .inr (2, [.ref rw, .int (nI (g.1 + 1)), .int p0, .int g.2.2.1, .long g.2.2.2.1])), (row, .inl (k5.2.2.1, 4, .inl (upd (upd (upd (upd fx 0 i) 1 k) 2 p0) 3 n)))] H := hP
  have hD : va_D A1 [(tp, .inr (2, [.ref rw, .int (nI (g.1 + 1)), .int p0, .int g.2.2.1, .long g.2.2.2.1])), (row, .inl (k5.2.2.1, 4, .inl (upd (upd (upd (upd fx 0 i) 1 k) 2 p0) 3 n)))] := hD
  refine lv_aload_n C.x C.b md_T_write_52 rfl (lv_at hl 1 rfl) ?_
  refine lv_dup C.x C.b md_T_write_53 rfl ?_
  refine mf_gf C (ci := 2) (N := 5) rfl mi_T 3 (by decide) mt_68 (hP 0 _ rfl) (v := .int g.2.2.1) rfl md_T_write_54 ?_
  refine lv_iload C.x C.b md_T_write_57 (lv_at hl 5 rfl) ?_
  refine lv_iadd C.x C.b md_T_write_59 ?_
  refine va_put (D := D) (ci := 2) (v := .int (g.2.2.1 + n)) (ty := .int) (C := mf_RT) (T := mf_TT) (N := 5) C.x C.b C.2.2.1 mi_T mf_tyT mp_T mn_T C.o C.k hP hD hS 0 rfl rfl 3 (by decide) (C.t mt_68) (fun _ h => h) rfl (by decide +kernel) rfl rfl (Nat.le_of_ble_eq_true rfl) md_T_write_60 (fun H locs hP hD hS => ?_)
  have hP : va_P D mf_cl [(tp, .inr (2, [.ref rw, .int (nI (g.1 + 1)), .int p0, .int (g.2.2.1 + n), .long g.2.2.2.1])), (row, .inl (k5.2.2.1, 4, .inl (upd (upd (upd (upd fx 0 i) 1 k) 2 p0) 3 n)))] H := hP
  have hD : va_D A1 [(tp, .inr (2, [.ref rw, .int (nI (g.1 + 1)), .int p0, .int (g.2.2.1 + n), .long g.2.2.2.1])), (row, .inl (k5.2.2.1, 4, .inl (upd (upd (upd (upd fx 0 i) 1 k) 2 p0) 3 n)))] := hD
  refine lv_aload_n C.x C.b md_T_write_63 rfl (lv_at hl 1 rfl) ?_
  refine lv_dup C.x C.b md_T_write_64 rfl ?_
  refine mf_gf C (ci := 2) (N := 5) rfl mi_T 4 (by decide) mt_70 (hP 0 _ rfl) (v := .long g.2.2.2.1) rfl md_T_write_65 ?_
  refine lv_iload_n C.x C.b md_T_write_68 rfl (lv_at hl 4 rfl) ?_
  refine lv_i2l (v := p0.toInt64) C.x C.b md_T_write_69 rfl ?_
  refine lv_iload C.x C.b md_T_write_70 (lv_at hl 5 rfl) ?_
  refine lv_i2l (v := n.toInt64) C.x C.b md_T_write_72 rfl ?_
  refine lv_lmul C.x C.b md_T_write_73 ?_
  refine lv_ladd C.x C.b md_T_write_74 ?_
  refine va_put (D := D) (ci := 2) (v := .long (g.2.2.2.1 + (p0.toInt64 * n.toInt64))) (ty := .long) (C := mf_RT) (T := mf_TT) (N := 5) C.x C.b C.2.2.1 mi_T mf_tyT mp_T mn_T C.o C.k hP hD hS 0 rfl rfl 4 (by decide) (C.t mt_70) (fun _ h => h) rfl (by decide +kernel) rfl rfl (Nat.le_of_ble_eq_true rfl) md_T_write_75 (fun H locs hP hD hS => ?_)
  have hP : va_P D mf_cl [(tp, .inr (2, [.ref rw, .int (nI (g.1 + 1)), .int p0, .int (g.2.2.1 + n), .long (g.2.2.2.1 + p0.toInt64 * n.toInt64)])), (row, .inl (k5.2.2.1, 4, .inl (upd (upd (upd (upd fx 0 i) 1 k) 2 p0) 3 n)))] H := hP
  have hD : va_D A1 [(tp, .inr (2, [.ref rw, .int (nI (g.1 + 1)), .int p0, .int (g.2.2.1 + n), .long (g.2.2.2.1 + p0.toInt64 * n.toInt64)])), (row, .inl (k5.2.2.1, 4, .inl (upd (upd (upd (upd fx 0 i) 1 k) 2 p0) 3 n)))] := hD
  have hoff : ∀ q, q ≠ tp → q ≠ row → q < s.heap.size → H[q]? = s.heap[q]? := fun q h1 h2 h3 => hS.2.1 q h3 (by rw [hA1]; exact fun z => z.elim h1 h2)
  refine mf_wv C.x C.b hr hlk md_T_write_78 ⟨rw, rr, rf, fun j => if j = g.1 % 32 then (upd (upd (upd (upd fx 0 i) 1 k) 2 p0) 3 n) else rx j, hP 0 _ rfl, hA3, hrw.kept ?_, hA4, hrf, fun j hj2 => ?_, hin⟩ ?_ hH (fun q hq => ?_) (Nat.le_refl _) (Nat.le_refl _)
  · rw [hoff rw (mf_ne_c (mf_co_a hrw) (mf_co_o htp) (mf_nd C.nd (i := 6) (j := 2) rfl rfl (by decide))) (mf_ne_c (mf_co_a hrw) (mf_co_a hrj) (mf_nd C.nd (i := 6) (j := 7) rfl rfl (by decide))) (by rw [hH]; exact hrw.lt), hH]
  · by_cases hjj : j = g.1 % 32
    · subst hjj
      simp only [if_true]
      rw [hrow]
      refine ⟨hP 1 _ rfl, hAj, fun c hc => ?_⟩
      show _ = (mf_write g i k p0 n).2.2.2.2 _ c
      unfold mf_write
      simp only [if_true]
      match c, hc with
      | 0, _ => simp [upd]
      | 1, _ => simp [upd]
      | 2, _ => simp [upd]
      | 3, _ => simp [upd]
    · simp only [hjj, if_false]
      obtain ⟨g1, g2, g3⟩ := hrr j hj2
      refine ⟨g1.kept ?_, g2, fun c hc => ?_⟩
      · rw [hoff (rr j) (mf_ne_c (mf_co_a g1) (mf_co_o htp) (mf_nd C.nd (i := 7) (j := 2) rfl rfl (by decide))) (fun z => hjj (hin j _ hj2 hj (z.trans hrow.symm))) (by rw [hH]; exact g1.lt), hH]
      · rw [g3 c hc]
        show _ = (mf_write g i k p0 n).2.2.2.2 j c
        unfold mf_write
        simp only [hjj, if_false]
  · rw [← hH]
    refine ⟨hS.1, fun q h1 h2 => hoff q (fun z => h2 ?_) (fun z => h2 ?_) h1⟩
    · rw [z, hH]; exact mf_fr_c hA3 (mf_co_o htp) (by simp)
    · rw [z, hH]; exact mf_fr_c hAj (mf_co_a hrj) (by simp)
  · have h9 := hS.2.2 q hq
    rw [hA1] at h9
    rcases h9 with h9 | h9
    · rw [h9]; exact hA3
    · rw [h9]; exact hAj
