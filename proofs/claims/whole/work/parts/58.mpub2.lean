/-! the model: turnover, fill -/
theorem mf_w3 {x : Int32} (h : 0 ≤ x ∧ x ≤ 3) (h0 : ¬ x = 0) (h1 : ¬ x = 1) (h2 : ¬ x = 2) : x.toNatClampNeg = 3 := by
  by_cases h3 : x = 3
  · rw [h3]; decide
  · exact absurd h (mf_no3 h0 h1 h2 h3)
theorem mf_andT {a b : Prop} [Decidable a] [Decidable b] (h : (decide a && decide b) = true) : a ∧ b := by simpa using h
theorem mf_andF {a b : Prop} [Decidable a] [Decidable b] (h : (decide a && decide b) = false) : ¬ (a ∧ b) := fun z => by rw [decide_eq_true z.1, decide_eq_true z.2] at h; cases h
theorem mf_wl {p : Program} {l : Launch} {e : Env} {R : Room} {s : State} {m : MethodId} {args : Array Value} {below : List Frame} {meth : Method} {c : Code} {H : Heap} {locs : List Loc} {cells slots : Nat} {cc : ByteArray} {pc : Nat} {ls : Array Slot} {A A1 : Nat → Prop} {mc ms : Nat} {B : Heap → Prop} {H0 : Heap} {v : Int64} (hx : p.tables.exec = Jvm.exec) (hb : c.code = cc) (hr : meth.sig.returnType = some .long) (hlk : meth.locks = false) (hdg : decode cc pc = .ok (.lreturn, 1)) (hB : B H) (hF : H0.size ≤ H.size ∧ ∀ q, q < H0.size → ¬ A1 q → H[q]? = H0[q]?) (h0 : s.heap = H0) (hf : ∀ q ∈ locs, A q.base) (hc : cells ≤ mc) (hs : slots ≤ ms) : W p l e R s m args below meth c H locs cells slots (MQ below (mf_Kw (some (.long v)) B A1) args s mc ms A) (F0 m pc ls [.long v]) := by
  subst h0
  refine W.widen hc hs ?_
  exact W.lret hx hb hr (fun t ht _ => ⟨rfl, by rw [ht]; exact hB, by rw [ht]; exact hF.1, fun q h1 h2 => by rw [ht]; exact hF.2 q h1 h2⟩) hf hdg hlk
set_option maxRecDepth 100000 in
set_option maxHeartbeats 4000000 in
theorem k_M_turnover (l : Launch) (D : va_G) (k5 : mf_k5) (t0 : Nat × Nat) (A : Nat → Prop) (H : Heap) (mo : Nat) (aa : Nat → Nat) (cd ck sp mt : Int32) (R : List mf_T) (g : mf_G) (hM : mf_MD D k5 A H mo aa cd (R, ck, sp, mt, g)) : mf_cWR l my_M_turnover mc_M_turnover 1 (some .long) { frames := 0, cells := 0, slots := 0, locals := 0 } D (mf_tys k5) t0 A H [.ref mo] (some (.long g.2.2.2.1)) (fun H1 => mf_MD D k5 A H1 mo aa 0 (R, ck, sp, mt, g)) (A) 0 0 := by
  obtain ⟨f0, f1, f2, f3, f4, f5, f6, f7, f8, f9, f10, hP, hD, hle, hRF, hRG⟩ := id hM
  have hP : va_P D mf_cl [(mo, .inr (4, [.int cd, .int (nI R.length), .int ck, .ref (aa 0), .ref (aa 1), .ref (aa 2), .ref (aa 3), .ref (aa 4), .ref (aa 5), .ref (aa 6), .int (nI g.1), .ref (aa 7), .ref (aa 8), .ref (aa 9), .ref (aa 10), .int g.2.1, .long g.2.2.2.1, .int g.2.2.1, .int sp, .int mt])), (aa 0, .inl (k5.2.2.1, 40, .inl f0)), (aa 1, .inl (k5.2.2.1, 40, .inl f1)), (aa 2, .inl (k5.2.2.1, 40, .inl f2)), (aa 3, .inl (k5.2.2.1, 40, .inl f3)), (aa 4, .inl (k5.2.2.1, 40, .inl f4)), (aa 5, .inl (k5.2.2.1, 40, .inl f5)), (aa 6, .inl (k5.2.2.2.1, 40, .inl f6)), (aa 7, .inl (k5.2.2.1, 32, .inl f7)), (aa 8, .inl (k5.2.2.1, 32, .inl f8)), (aa 9, .inl (k5.2.2.1, 32, .inl f9)), (aa 10, .inl (k5.2.2.1, 32, .inl f10))] H := hP
  have hle : R.length ≤ 40 := hle
  have hD : va_D A [(mo, .inr (4, [.int cd, .int (nI R.length), .int ck, .ref (aa 0), .ref (aa 1), .ref (aa 2), .ref (aa 3), .ref (aa 4), .ref (aa 5), .ref (aa 6), .int (nI g.1), .ref (aa 7), .ref (aa 8), .ref (aa 9), .ref (aa 10), .int g.2.1, .long g.2.2.2.1, .int g.2.2.1, .int sp, .int mt])), (aa 0, .inl (k5.2.2.1, 40, .inl f0)), (aa 1, .inl (k5.2.2.1, 40, .inl f1)), (aa 2, .inl (k5.2.2.1, 40, .inl f2)), (aa 3, .inl (k5.2.2.1, 40, .inl f3)), (aa 4, .inl (k5.2.2.1, 40, .inl f4)), (aa 5, .inl (k5.2.2.1, 40, .inl f5)), (aa 6, .inl (k5.2.2.2.1, 40, .inl f6)), (aa 7, .inl (k5.2.2.1, 32, .inl f7)), (aa 8, .inl (k5.2.2.1, 32, .inl f8)), (aa 9, .inl (k5.2.2.1, 32, .inl f9)), (aa 10, .inl (k5.2.2.1, 32, .inl f10))] := hD
  refine mf_of (by decide) (Nat.le_of_ble_eq_true rfl) ?_
  intro p e s m below meth c ls C hH hr hlk hnm hmt hl hS
  have hl : lv_has ls 1 [(0, .ref mo)] := hl
  refine lv_aload_n C.x C.b md_M_turnover_0 rfl (lv_at hl 0 rfl) ?_
  refine lv_iconst (v := 0) C.x C.b md_M_turnover_1 (by decide) ?_
  refine va_put (D := D) (ci := 4) (v := .int 0) (ty := .int) (C := mf_RM) (T := mf_TM) (N := 20) C.x C.b C.2.2.1 mi_M mf_tyM mp_M mn_M C.o C.k hP hD hS 0 rfl rfl 0 (by decide) (C.t mt_535) (fun _ h => h) rfl (by decide +kernel) rfl rfl (Nat.le_of_ble_eq_true rfl) md_M_turnover_2 (fun H locs hP hD hS => ?_)
  have hP : va_P D mf_cl [(mo, .inr (4, [.int 0, .int (nI R.length), .int ck, .ref (aa 0), .ref (aa 1), .ref (aa 2), .ref (aa 3), .ref (aa 4), .ref (aa 5), .ref (aa 6), .int (nI g.1), .ref (aa 7), .ref (aa 8), .ref (aa 9), .ref (aa 10), .int g.2.1, .long g.2.2.2.1, .int g.2.2.1, .int sp, .int mt])), (aa 0, .inl (k5.2.2.1, 40, .inl f0)), (aa 1, .inl (k5.2.2.1, 40, .inl f1)), (aa 2, .inl (k5.2.2.1, 40, .inl f2)), (aa 3, .inl (k5.2.2.1, 40, .inl f3)), (aa 4, .inl (k5.2.2.1, 40, .inl f4)), (aa 5, .inl (k5.2.2.1, 40, .inl f5)), (aa 6, .inl (k5.2.2.2.1, 40, .inl f6)), (aa 7, .inl (k5.2.2.1, 32, .inl f7)), (aa 8, .inl (k5.2.2.1, 32, .inl f8)), (aa 9, .inl (k5.2.2.1, 32, .inl f9)), (aa 10, .inl (k5.2.2.1, 32, .inl f10))] H := hP
  have hD : va_D A [(mo, .inr (4, [.int 0, .int (nI R.length), .int ck, .ref (aa 0), .ref (aa 1), .ref (aa 2), .ref (aa 3), .ref (aa 4), .ref (aa 5), .ref (aa 6), .int (nI g.1), .ref (aa 7), .ref (aa 8), .ref (aa 9), .ref (aa 10), .int g.2.1, .long g.2.2.2.1, .int g.2.2.1, .int sp, .int mt])), (aa 0, .inl (k5.2.2.1, 40, .inl f0)), (aa 1, .inl (k5.2.2.1, 40, .inl f1)), (aa 2, .inl (k5.2.2.1, 40, .inl f2)), (aa 3, .inl (k5.2.2.1, 40, .inl f3)), (aa 4, .inl (k5.2.2.1, 40, .inl f4)), (aa 5, .inl (k5.2.2.1, 40, .inl f5)), (aa 6, .inl (k5.2.2.2.1, 40, .inl f6)), (aa 7, .inl (k5.2.2.1, 32, .inl f7)), (aa 8, .inl (k5.2.2.1, 32, .inl f8)), (aa 9, .inl (k5.2.2.1, 32, .inl f9)), (aa 10, .inl (k5.2.2.1, 32, .inl f10))] := hD
  refine lv_aload_n C.x C.b md_M_turnover_5 rfl (lv_at hl 0 rfl) ?_
  refine mf_gf C (ci := 4) (N := 20) rfl mi_M 16 (by decide) mt_551 (hP 0 _ rfl) (v := .long g.2.2.2.1) rfl md_M_turnover_6 ?_
  exact mf_wl C.x C.b hr hlk md_M_turnover_9 ⟨f0, f1, f2, f3, f4, f5, f6, f7, f8, f9, f10, hP, hD, hle, hRF, hRG⟩ (by rw [← hH]; exact ⟨hS.1, hS.2.1⟩) hH hS.2.2 (Nat.le_refl _) (Nat.le_refl _)
set_option maxRecDepth 100000 in
set_option maxHeartbeats 4000000 in
theorem k_M_fill (l : Launch) (D : va_G) (k5 : mf_k5) (t0 : Nat × Nat) (A : Nat → Prop) (H : Heap) (mo : Nat) (aa : Nat → Nat) (cd ck sp mt : Int32) (R : List mf_T) (g : mf_G) (k0 w0 : Int32) (hM : mf_MD D k5 A H mo aa cd (R, ck, sp, mt, g)) (hg : g.1 < 2 ^ 31) : mf_cWR l my_M_fill mc_M_fill 4 (some .int) { frames := 1, cells := 0, slots := 0, locals := 22 } D (mf_tys k5) t0 A H [.ref mo, .int k0, .int w0] (some (.int (mf_fill k0 w0 g).2)) (fun H1 => mf_MD D k5 A H1 mo aa (nI (mf_fill k0 w0 g).1) (R, ck, sp, mt, g)) (A) 0 0 := by
  obtain ⟨f0, f1, f2, f3, f4, f5, f6, f7, f8, f9, f10, hP, hD, hle, hRF, hRG⟩ := id hM
  have hP : va_P D mf_cl [(mo, .inr (4, [.int cd, .int (nI R.length), .int ck, .ref (aa 0), .ref (aa 1), .ref (aa 2), .ref (aa 3), .ref (aa 4), .ref (aa 5), .ref (aa 6), .int (nI g.1), .ref (aa 7), .ref (aa 8), .ref (aa 9), .ref (aa 10), .int g.2.1, .long g.2.2.2.1, .int g.2.2.1, .int sp, .int mt])), (aa 0, .inl (k5.2.2.1, 40, .inl f0)), (aa 1, .inl (k5.2.2.1, 40, .inl f1)), (aa 2, .inl (k5.2.2.1, 40, .inl f2)), (aa 3, .inl (k5.2.2.1, 40, .inl f3)), (aa 4, .inl (k5.2.2.1, 40, .inl f4)), (aa 5, .inl (k5.2.2.1, 40, .inl f5)), (aa 6, .inl (k5.2.2.2.1, 40, .inl f6)), (aa 7, .inl (k5.2.2.1, 32, .inl f7)), (aa 8, .inl (k5.2.2.1, 32, .inl f8)), (aa 9, .inl (k5.2.2.1, 32, .inl f9)), (aa 10, .inl (k5.2.2.1, 32, .inl f10))] H := hP
  have hle : R.length ≤ 40 := hle
  have hD : va_D A [(mo, .inr (4, [.int cd, .int (nI R.length), .int ck, .ref (aa 0), .ref (aa 1), .ref (aa 2), .ref (aa 3), .ref (aa 4), .ref (aa 5), .ref (aa 6), .int (nI g.1), .ref (aa 7), .ref (aa 8), .ref (aa 9), .ref (aa 10), .int g.2.1, .long g.2.2.2.1, .int g.2.2.1, .int sp, .int mt])), (aa 0, .inl (k5.2.2.1, 40, .inl f0)), (aa 1, .inl (k5.2.2.1, 40, .inl f1)), (aa 2, .inl (k5.2.2.1, 40, .inl f2)), (aa 3, .inl (k5.2.2.1, 40, .inl f3)), (aa 4, .inl (k5.2.2.1, 40, .inl f4)), (aa 5, .inl (k5.2.2.1, 40, .inl f5)), (aa 6, .inl (k5.2.2.2.1, 40, .inl f6)), (aa 7, .inl (k5.2.2.1, 32, .inl f7)), (aa 8, .inl (k5.2.2.1, 32, .inl f8)), (aa 9, .inl (k5.2.2.1, 32, .inl f9)), (aa 10, .inl (k5.2.2.1, 32, .inl f10))] := hD
  have hRF : mf_Rc R f0 f1 f2 f3 f4 f5 f6 := hRF
  have hRG : mf_Rg g f7 f8 f9 f10 := hRG
  refine mf_of (by decide) (Nat.le_of_ble_eq_true rfl) ?_
  intro p e s m below meth c ls C hH hr hlk hnm hmt hl hS
  have hl : lv_has ls 4 [(0, .ref mo), (1, .int k0), (2, .int w0)] := hl
  refine lv_aload_n C.x C.b md_M_fill_0 rfl (lv_at hl 0 rfl) ?_
  refine lv_iload_n C.x C.b md_M_fill_1 rfl (lv_at hl 2 rfl) ?_
  refine lv_iconst (v := 0) C.x C.b md_M_fill_2 (by decide) ?_
  refine lv_iconst (v := 3) C.x C.b md_M_fill_3 (by decide) ?_
  refine mf_cks (va_runS (As := [.int w0, .int 0, .int 3]) (rest := [.ref mo]) C.f (k_M_among l D k5 t0 A H w0 0 3) (mf_cS C mt_607 mt_605 mt_6 mt_606 mh_M_among ⟨by decide, by decide⟩) (mf_preS C.ev hS) rfl rfl hl.1 rfl (lv_room (Nat.le_of_ble_eq_true rfl)) md_M_fill_4 ⟨by first | omega | exact Nat.le_of_ble_eq_true rfl, by first | omega | exact Nat.le_of_ble_eq_true rfl⟩) ?_
  refine lv_if_ne (tgt := 14) C.x C.b md_M_fill_7 (by decide) (fun h1 => ?_) (fun h1 => ?_)
  · skip
    refine lv_iload_n C.x C.b md_M_fill_14 rfl (lv_at hl 1 rfl) ?_
    refine lv_if_lt (tgt := 32) C.x C.b md_M_fill_15 (by decide) (fun h2 => ?_) (fun h2 => ?_)
    · skip
      refine lv_iconst (v := 2) C.x C.b md_M_fill_32 (by decide) ?_
      refine lv_goto (tgt := 37) C.x C.b md_M_fill_33 (by decide) ?_
      refine va_put (D := D) (ci := 4) (v := .int 2) (ty := .int) (C := mf_RM) (T := mf_TM) (N := 20) C.x C.b C.2.2.1 mi_M mf_tyM mp_M mn_M C.o C.k hP hD hS 0 rfl rfl 0 (by decide) (C.t mt_535) (fun _ h => h) rfl (by decide +kernel) rfl rfl (Nat.le_of_ble_eq_true rfl) md_M_fill_37 (fun H locs hP hD hS => ?_)
      have hP : va_P D mf_cl [(mo, .inr (4, [.int 2, .int (nI R.length), .int ck, .ref (aa 0), .ref (aa 1), .ref (aa 2), .ref (aa 3), .ref (aa 4), .ref (aa 5), .ref (aa 6), .int (nI g.1), .ref (aa 7), .ref (aa 8), .ref (aa 9), .ref (aa 10), .int g.2.1, .long g.2.2.2.1, .int g.2.2.1, .int sp, .int mt])), (aa 0, .inl (k5.2.2.1, 40, .inl f0)), (aa 1, .inl (k5.2.2.1, 40, .inl f1)), (aa 2, .inl (k5.2.2.1, 40, .inl f2)), (aa 3, .inl (k5.2.2.1, 40, .inl f3)), (aa 4, .inl (k5.2.2.1, 40, .inl f4)), (aa 5, .inl (k5.2.2.1, 40, .inl f5)), (aa 6, .inl (k5.2.2.2.1, 40, .inl f6)), (aa 7, .inl (k5.2.2.1, 32, .inl f7)), (aa 8, .inl (k5.2.2.1, 32, .inl f8)), (aa 9, .inl (k5.2.2.1, 32, .inl f9)), (aa 10, .inl (k5.2.2.1, 32, .inl f10))] H := hP
      have hD : va_D A [(mo, .inr (4, [.int 2, .int (nI R.length), .int ck, .ref (aa 0), .ref (aa 1), .ref (aa 2), .ref (aa 3), .ref (aa 4), .ref (aa 5), .ref (aa 6), .int (nI g.1), .ref (aa 7), .ref (aa 8), .ref (aa 9), .ref (aa 10), .int g.2.1, .long g.2.2.2.1, .int g.2.2.1, .int sp, .int mt])), (aa 0, .inl (k5.2.2.1, 40, .inl f0)), (aa 1, .inl (k5.2.2.1, 40, .inl f1)), (aa 2, .inl (k5.2.2.1, 40, .inl f2)), (aa 3, .inl (k5.2.2.1, 40, .inl f3)), (aa 4, .inl (k5.2.2.1, 40, .inl f4)), (aa 5, .inl (k5.2.2.1, 40, .inl f5)), (aa 6, .inl (k5.2.2.2.1, 40, .inl f6)), (aa 7, .inl (k5.2.2.1, 32, .inl f7)), (aa 8, .inl (k5.2.2.1, 32, .inl f8)), (aa 9, .inl (k5.2.2.1, 32, .inl f9)), (aa 10, .inl (k5.2.2.1, 32, .inl f10))] := hD
      refine lv_aload_n C.x C.b md_M_fill_40 rfl (lv_at hl 0 rfl) ?_
      refine mf_gf C (ci := 4) (N := 20) rfl mi_M 0 (by decide) mt_535 (hP 0 _ rfl) (v := .int 2) rfl md_M_fill_41 ?_
      refine lv_if_le (tgt := 49) C.x C.b md_M_fill_44 (by decide) (fun h3 => ?_) (fun h3 => ?_)
      · exact absurd h3 (by decide)
      · skip
        refine lv_iconst (v := 0) C.x C.b md_M_fill_47 (by decide) ?_
        have hsp : mf_fill k0 w0 g = (2, 0) := by unfold mf_fill; rw [if_pos ⟨(mf_andT (mf_bI_1.mp h1)).1, (mf_andT (mf_bI_1.mp h1)).2⟩]; refine if_neg (fun z => ?_); have z1 := z.1; have z2 := z.2.1; have z3 := z.2.2; exact absurd z1 (Int32.not_le.mpr h2)
        rw [hsp]
        exact mf_wi C.x C.b hr hlk md_M_fill_48 ⟨f0, f1, f2, f3, f4, f5, f6, f7, f8, f9, f10, hP, hD, hle, hRF, hRG⟩ (by rw [← hH]; exact ⟨hS.1, hS.2.1⟩) hH hS.2.2 (Nat.le_refl _) (Nat.le_refl _)
    · skip
      refine lv_iload_n C.x C.b md_M_fill_18 rfl (lv_at hl 1 rfl) ?_
      refine lv_bipush (v := 31) C.x C.b md_M_fill_19 (by decide) ?_
      refine lv_icmp_gt (tgt := 32) C.x C.b md_M_fill_21 (by decide) (fun h4 => ?_) (fun h4 => ?_)
      · skip
        refine lv_iconst (v := 2) C.x C.b md_M_fill_32 (by decide) ?_
        refine lv_goto (tgt := 37) C.x C.b md_M_fill_33 (by decide) ?_
        refine va_put (D := D) (ci := 4) (v := .int 2) (ty := .int) (C := mf_RM) (T := mf_TM) (N := 20) C.x C.b C.2.2.1 mi_M mf_tyM mp_M mn_M C.o C.k hP hD hS 0 rfl rfl 0 (by decide) (C.t mt_535) (fun _ h => h) rfl (by decide +kernel) rfl rfl (Nat.le_of_ble_eq_true rfl) md_M_fill_37 (fun H locs hP hD hS => ?_)
        have hP : va_P D mf_cl [(mo, .inr (4, [.int 2, .int (nI R.length), .int ck, .ref (aa 0), .ref (aa 1), .ref (aa 2), .ref (aa 3), .ref (aa 4), .ref (aa 5), .ref (aa 6), .int (nI g.1), .ref (aa 7), .ref (aa 8), .ref (aa 9), .ref (aa 10), .int g.2.1, .long g.2.2.2.1, .int g.2.2.1, .int sp, .int mt])), (aa 0, .inl (k5.2.2.1, 40, .inl f0)), (aa 1, .inl (k5.2.2.1, 40, .inl f1)), (aa 2, .inl (k5.2.2.1, 40, .inl f2)), (aa 3, .inl (k5.2.2.1, 40, .inl f3)), (aa 4, .inl (k5.2.2.1, 40, .inl f4)), (aa 5, .inl (k5.2.2.1, 40, .inl f5)), (aa 6, .inl (k5.2.2.2.1, 40, .inl f6)), (aa 7, .inl (k5.2.2.1, 32, .inl f7)), (aa 8, .inl (k5.2.2.1, 32, .inl f8)), (aa 9, .inl (k5.2.2.1, 32, .inl f9)), (aa 10, .inl (k5.2.2.1, 32, .inl f10))] H := hP
        have hD : va_D A [(mo, .inr (4, [.int 2, .int (nI R.length), .int ck, .ref (aa 0), .ref (aa 1), .ref (aa 2), .ref (aa 3), .ref (aa 4), .ref (aa 5), .ref (aa 6), .int (nI g.1), .ref (aa 7), .ref (aa 8), .ref (aa 9), .ref (aa 10), .int g.2.1, .long g.2.2.2.1, .int g.2.2.1, .int sp, .int mt])), (aa 0, .inl (k5.2.2.1, 40, .inl f0)), (aa 1, .inl (k5.2.2.1, 40, .inl f1)), (aa 2, .inl (k5.2.2.1, 40, .inl f2)), (aa 3, .inl (k5.2.2.1, 40, .inl f3)), (aa 4, .inl (k5.2.2.1, 40, .inl f4)), (aa 5, .inl (k5.2.2.1, 40, .inl f5)), (aa 6, .inl (k5.2.2.2.1, 40, .inl f6)), (aa 7, .inl (k5.2.2.1, 32, .inl f7)), (aa 8, .inl (k5.2.2.1, 32, .inl f8)), (aa 9, .inl (k5.2.2.1, 32, .inl f9)), (aa 10, .inl (k5.2.2.1, 32, .inl f10))] := hD
        refine lv_aload_n C.x C.b md_M_fill_40 rfl (lv_at hl 0 rfl) ?_
        refine mf_gf C (ci := 4) (N := 20) rfl mi_M 0 (by decide) mt_535 (hP 0 _ rfl) (v := .int 2) rfl md_M_fill_41 ?_
        refine lv_if_le (tgt := 49) C.x C.b md_M_fill_44 (by decide) (fun h5 => ?_) (fun h5 => ?_)
        · exact absurd h5 (by decide)
        · skip
          refine lv_iconst (v := 0) C.x C.b md_M_fill_47 (by decide) ?_
          have hsp : mf_fill k0 w0 g = (2, 0) := by unfold mf_fill; rw [if_pos ⟨(mf_andT (mf_bI_1.mp h1)).1, (mf_andT (mf_bI_1.mp h1)).2⟩]; refine if_neg (fun z => ?_); have z1 := z.1; have z2 := z.2.1; have z3 := z.2.2; exact absurd z2 (Int32.not_le.mpr h4)
          rw [hsp]
          exact mf_wi C.x C.b hr hlk md_M_fill_48 ⟨f0, f1, f2, f3, f4, f5, f6, f7, f8, f9, f10, hP, hD, hle, hRF, hRG⟩ (by rw [← hH]; exact ⟨hS.1, hS.2.1⟩) hH hS.2.2 (Nat.le_refl _) (Nat.le_refl _)
      · skip
        refine lv_iload_n C.x C.b md_M_fill_24 rfl (lv_at hl 1 rfl) ?_
        refine lv_aload_n C.x C.b md_M_fill_25 rfl (lv_at hl 0 rfl) ?_
        refine mf_gf C (ci := 4) (N := 20) rfl mi_M 10 (by decide) mt_545 (hP 0 _ rfl) (v := .int (nI g.1)) rfl md_M_fill_26 ?_
        refine lv_icmp_lt (tgt := 36) C.x C.b md_M_fill_29 (by decide) (fun h6 => ?_) (fun h6 => ?_)
        · skip
          refine lv_iconst (v := 0) C.x C.b md_M_fill_36 (by decide) ?_
          refine va_put (D := D) (ci := 4) (v := .int 0) (ty := .int) (C := mf_RM) (T := mf_TM) (N := 20) C.x C.b C.2.2.1 mi_M mf_tyM mp_M mn_M C.o C.k hP hD hS 0 rfl rfl 0 (by decide) (C.t mt_535) (fun _ h => h) rfl (by decide +kernel) rfl rfl (Nat.le_of_ble_eq_true rfl) md_M_fill_37 (fun H locs hP hD hS => ?_)
          have hP : va_P D mf_cl [(mo, .inr (4, [.int 0, .int (nI R.length), .int ck, .ref (aa 0), .ref (aa 1), .ref (aa 2), .ref (aa 3), .ref (aa 4), .ref (aa 5), .ref (aa 6), .int (nI g.1), .ref (aa 7), .ref (aa 8), .ref (aa 9), .ref (aa 10), .int g.2.1, .long g.2.2.2.1, .int g.2.2.1, .int sp, .int mt])), (aa 0, .inl (k5.2.2.1, 40, .inl f0)), (aa 1, .inl (k5.2.2.1, 40, .inl f1)), (aa 2, .inl (k5.2.2.1, 40, .inl f2)), (aa 3, .inl (k5.2.2.1, 40, .inl f3)), (aa 4, .inl (k5.2.2.1, 40, .inl f4)), (aa 5, .inl (k5.2.2.1, 40, .inl f5)), (aa 6, .inl (k5.2.2.2.1, 40, .inl f6)), (aa 7, .inl (k5.2.2.1, 32, .inl f7)), (aa 8, .inl (k5.2.2.1, 32, .inl f8)), (aa 9, .inl (k5.2.2.1, 32, .inl f9)), (aa 10, .inl (k5.2.2.1, 32, .inl f10))] H := hP
          have hD : va_D A [(mo, .inr (4, [.int 0, .int (nI R.length), .int ck, .ref (aa 0), .ref (aa 1), .ref (aa 2), .ref (aa 3), .ref (aa 4), .ref (aa 5), .ref (aa 6), .int (nI g.1), .ref (aa 7), .ref (aa 8), .ref (aa 9), .ref (aa 10), .int g.2.1, .long g.2.2.2.1, .int g.2.2.1, .int sp, .int mt])), (aa 0, .inl (k5.2.2.1, 40, .inl f0)), (aa 1, .inl (k5.2.2.1, 40, .inl f1)), (aa 2, .inl (k5.2.2.1, 40, .inl f2)), (aa 3, .inl (k5.2.2.1, 40, .inl f3)), (aa 4, .inl (k5.2.2.1, 40, .inl f4)), (aa 5, .inl (k5.2.2.1, 40, .inl f5)), (aa 6, .inl (k5.2.2.2.1, 40, .inl f6)), (aa 7, .inl (k5.2.2.1, 32, .inl f7)), (aa 8, .inl (k5.2.2.1, 32, .inl f8)), (aa 9, .inl (k5.2.2.1, 32, .inl f9)), (aa 10, .inl (k5.2.2.1, 32, .inl f10))] := hD
          refine lv_aload_n C.x C.b md_M_fill_40 rfl (lv_at hl 0 rfl) ?_
          refine mf_gf C (ci := 4) (N := 20) rfl mi_M 0 (by decide) mt_535 (hP 0 _ rfl) (v := .int 0) rfl md_M_fill_41 ?_
          refine lv_if_le (tgt := 49) C.x C.b md_M_fill_44 (by decide) (fun h7 => ?_) (fun h7 => ?_)
          · skip
            refine lv_aload_n C.x C.b md_M_fill_49 rfl (lv_at hl 0 rfl) ?_
            refine mf_gf C (ci := 4) (N := 20) rfl mi_M 10 (by decide) mt_545 (hP 0 _ rfl) (v := .int (nI g.1)) rfl md_M_fill_50 ?_
            refine lv_iconst (v := 1) C.x C.b md_M_fill_53 (by decide) ?_
            refine lv_isub C.x C.b md_M_fill_54 ?_
            refine lv_iload_n C.x C.b md_M_fill_55 rfl (lv_at hl 1 rfl) ?_
            refine lv_isub C.x C.b md_M_fill_56 ?_
            refine lv_bipush (v := 32) C.x C.b md_M_fill_57 (by decide) ?_
            obtain ⟨kn, hkn, rfl⟩ := mf_nI_of (n := 31) (Int32.not_lt.mp h2) (Int32.not_lt.mp h4) (by decide)
            have hwr : 0 ≤ w0 ∧ w0 ≤ 3 := ⟨(mf_andT (mf_bI_1.mp h1)).1, (mf_andT (mf_bI_1.mp h1)).2⟩
            have hkg : kn < g.1 := mf_nI_lt (by omega) h6
            have hj : (g.1 - 1 - kn) % 32 < 32 := Nat.mod_lt _ (by decide)
            rw [show nI g.1 - 1 - nI kn = nI (g.1 - 1 - kn) by rw [show nI g.1 - 1 = nI (g.1 - 1) from pk_sub (b := 1) (by omega), pk_sub (by omega)]]
            refine lv_irem C.x C.b md_M_fill_59 (by decide) ?_
            rw [mf_mod32 (by omega)]
            generalize hc9 : (g.1 - 1 - kn) % 32 = c9 at hj ⊢
            have hsp0 : ∀ v, g.2.2.2.2 c9 w0.toNatClampNeg = v → mf_fill (nI kn) w0 g = (0, v) := fun v hv => by unfold mf_fill; rw [if_pos ⟨(mf_andT (mf_bI_1.mp h1)).1, (mf_andT (mf_bI_1.mp h1)).2⟩, if_pos ⟨Int32.not_lt.mp h2, Int32.not_lt.mp h4, h6⟩, nI_clamp (by omega), hc9, hv]
            refine lv_istore_n (lv' := [(3, .int (nI c9)), (0, .ref mo), (1, .int (nI kn)), (2, .int w0)]) C.x C.b md_M_fill_60 rfl hl (by decide) rfl (fun ls hl => ?_)
            refine lv_iload_n C.x C.b md_M_fill_61 rfl (lv_at hl 3 rfl) ?_
            refine lv_if_ne (tgt := 74) C.x C.b md_M_fill_62 (by decide) (fun h8 => ?_) (fun h8 => ?_)
            · skip
              refine lv_iload_n C.x C.b md_M_fill_74 rfl (lv_at hl 3 rfl) ?_
              refine lv_iconst (v := 1) C.x C.b md_M_fill_75 (by decide) ?_
              refine lv_icmp_ne (tgt := 88) C.x C.b md_M_fill_76 (by decide) (fun h9 => ?_) (fun h9 => ?_)
              · skip
                refine lv_iload_n C.x C.b md_M_fill_88 rfl (lv_at hl 3 rfl) ?_
                refine lv_iconst (v := 2) C.x C.b md_M_fill_89 (by decide) ?_
                refine lv_icmp_ne (tgt := 102) C.x C.b md_M_fill_90 (by decide) (fun h10 => ?_) (fun h10 => ?_)
                · skip
                  refine lv_aload_n C.x C.b md_M_fill_102 rfl (lv_at hl 1 rfl) ?_
                  refine mf_gf C (ci := 4) (N := 20) rfl mi_M 14 (by decide) mt_549 (hP 0 _ rfl) (v := .ref (aa 10)) rfl md_M_fill_103 ?_
                  refine lv_iload_n C.x C.b md_M_fill_106 rfl (lv_at hl 0 rfl) ?_
                  refine mf_iv C (t := 2) rfl (hP 11 _ rfl) hj (by decide) (hRG c9 hj).2.2.2 md_M_fill_107 ?_
                  have hw9 : w0.toNatClampNeg = 3 := mf_w3 hwr h8 h9 h10
                  rw [hsp0 (g.2.2.2.2 c9 3) (by rw [hw9])]
                  exact mf_wi C.x C.b hr hlk md_M_fill_108 ⟨f0, f1, f2, f3, f4, f5, f6, f7, f8, f9, f10, hP, hD, hle, hRF, hRG⟩ (by rw [← hH]; exact ⟨hS.1, hS.2.1⟩) hH hS.2.2 (Nat.le_refl _) (Nat.le_refl _)
                · skip
                  refine lv_aload_n C.x C.b md_M_fill_93 rfl (lv_at hl 1 rfl) ?_
                  refine mf_gf C (ci := 4) (N := 20) rfl mi_M 13 (by decide) mt_548 (hP 0 _ rfl) (v := .ref (aa 9)) rfl md_M_fill_94 ?_
                  refine lv_iload_n C.x C.b md_M_fill_97 rfl (lv_at hl 0 rfl) ?_
                  refine mf_iv C (t := 2) rfl (hP 10 _ rfl) hj (by decide) (hRG c9 hj).2.2.1 md_M_fill_98 ?_
                  refine lv_goto (tgt := 108) C.x C.b md_M_fill_99 (by decide) ?_
                  have hw9 : w0.toNatClampNeg = 2 := by rw [h10]; decide
                  rw [hsp0 (g.2.2.2.2 c9 2) (by rw [hw9])]
                  exact mf_wi C.x C.b hr hlk md_M_fill_108 ⟨f0, f1, f2, f3, f4, f5, f6, f7, f8, f9, f10, hP, hD, hle, hRF, hRG⟩ (by rw [← hH]; exact ⟨hS.1, hS.2.1⟩) hH hS.2.2 (Nat.le_refl _) (Nat.le_refl _)
              · skip
                refine lv_aload_n C.x C.b md_M_fill_79 rfl (lv_at hl 1 rfl) ?_
                refine mf_gf C (ci := 4) (N := 20) rfl mi_M 12 (by decide) mt_547 (hP 0 _ rfl) (v := .ref (aa 8)) rfl md_M_fill_80 ?_
                refine lv_iload_n C.x C.b md_M_fill_83 rfl (lv_at hl 0 rfl) ?_
                refine mf_iv C (t := 2) rfl (hP 9 _ rfl) hj (by decide) (hRG c9 hj).2.1 md_M_fill_84 ?_
                refine lv_goto (tgt := 108) C.x C.b md_M_fill_85 (by decide) ?_
                have hw9 : w0.toNatClampNeg = 1 := by rw [h9]; decide
                rw [hsp0 (g.2.2.2.2 c9 1) (by rw [hw9])]
                exact mf_wi C.x C.b hr hlk md_M_fill_108 ⟨f0, f1, f2, f3, f4, f5, f6, f7, f8, f9, f10, hP, hD, hle, hRF, hRG⟩ (by rw [← hH]; exact ⟨hS.1, hS.2.1⟩) hH hS.2.2 (Nat.le_refl _) (Nat.le_refl _)
            · skip
              refine lv_aload_n C.x C.b md_M_fill_65 rfl (lv_at hl 1 rfl) ?_
              refine mf_gf C (ci := 4) (N := 20) rfl mi_M 11 (by decide) mt_546 (hP 0 _ rfl) (v := .ref (aa 7)) rfl md_M_fill_66 ?_
              refine lv_iload_n C.x C.b md_M_fill_69 rfl (lv_at hl 0 rfl) ?_
              refine mf_iv C (t := 2) rfl (hP 8 _ rfl) hj (by decide) (hRG c9 hj).1 md_M_fill_70 ?_
              refine lv_goto (tgt := 108) C.x C.b md_M_fill_71 (by decide) ?_
              have hw9 : w0.toNatClampNeg = 0 := by rw [h8]; decide
              rw [hsp0 (g.2.2.2.2 c9 0) (by rw [hw9])]
              exact mf_wi C.x C.b hr hlk md_M_fill_108 ⟨f0, f1, f2, f3, f4, f5, f6, f7, f8, f9, f10, hP, hD, hle, hRF, hRG⟩ (by rw [← hH]; exact ⟨hS.1, hS.2.1⟩) hH hS.2.2 (Nat.le_refl _) (Nat.le_refl _)
          · exact absurd (by decide) h7
        · skip
          refine lv_iconst (v := 2) C.x C.b md_M_fill_32 (by decide) ?_
          refine lv_goto (tgt := 37) C.x C.b md_M_fill_33 (by decide) ?_
          refine va_put (D := D) (ci := 4) (v := .int 2) (ty := .int) (C := mf_RM) (T := mf_TM) (N := 20) C.x C.b C.2.2.1 mi_M mf_tyM mp_M mn_M C.o C.k hP hD hS 0 rfl rfl 0 (by decide) (C.t mt_535) (fun _ h => h) rfl (by decide +kernel) rfl rfl (Nat.le_of_ble_eq_true rfl) md_M_fill_37 (fun H locs hP hD hS => ?_)
          have hP : va_P D mf_cl [(mo, .inr (4, [.int 2, .int (nI R.length), .int ck, .ref (aa 0), .ref (aa 1), .ref (aa 2), .ref (aa 3), .ref (aa 4), .ref (aa 5), .ref (aa 6), .int (nI g.1), .ref (aa 7), .ref (aa 8), .ref (aa 9), .ref (aa 10), .int g.2.1, .long g.2.2.2.1, .int g.2.2.1, .int sp, .int mt])), (aa 0, .inl (k5.2.2.1, 40, .inl f0)), (aa 1, .inl (k5.2.2.1, 40, .inl f1)), (aa 2, .inl (k5.2.2.1, 40, .inl f2)), (aa 3, .inl (k5.2.2.1, 40, .inl f3)), (aa 4, .inl (k5.2.2.1, 40, .inl f4)), (aa 5, .inl (k5.2.2.1, 40, .inl f5)), (aa 6, .inl (k5.2.2.2.1, 40, .inl f6)), (aa 7, .inl (k5.2.2.1, 32, .inl f7)), (aa 8, .inl (k5.2.2.1, 32, .inl f8)), (aa 9, .inl (k5.2.2.1, 32, .inl f9)), (aa 10, .inl (k5.2.2.1, 32, .inl f10))] H := hP
          have hD : va_D A [(mo, .inr (4, [.int 2, .int (nI R.length), .int ck, .ref (aa 0), .ref (aa 1), .ref (aa 2), .ref (aa 3), .ref (aa 4), .ref (aa 5), .ref (aa 6), .int (nI g.1), .ref (aa 7), .ref (aa 8), .ref (aa 9), .ref (aa 10), .int g.2.1, .long g.2.2.2.1, .int g.2.2.1, .int sp, .int mt])), (aa 0, .inl (k5.2.2.1, 40, .inl f0)), (aa 1, .inl (k5.2.2.1, 40, .inl f1)), (aa 2, .inl (k5.2.2.1, 40, .inl f2)), (aa 3, .inl (k5.2.2.1, 40, .inl f3)), (aa 4, .inl (k5.2.2.1, 40, .inl f4)), (aa 5, .inl (k5.2.2.1, 40, .inl f5)), (aa 6, .inl (k5.2.2.2.1, 40, .inl f6)), (aa 7, .inl (k5.2.2.1, 32, .inl f7)), (aa 8, .inl (k5.2.2.1, 32, .inl f8)), (aa 9, .inl (k5.2.2.1, 32, .inl f9)), (aa 10, .inl (k5.2.2.1, 32, .inl f10))] := hD
          refine lv_aload_n C.x C.b md_M_fill_40 rfl (lv_at hl 0 rfl) ?_
          refine mf_gf C (ci := 4) (N := 20) rfl mi_M 0 (by decide) mt_535 (hP 0 _ rfl) (v := .int 2) rfl md_M_fill_41 ?_
          refine lv_if_le (tgt := 49) C.x C.b md_M_fill_44 (by decide) (fun h11 => ?_) (fun h11 => ?_)
          · exact absurd h11 (by decide)
          · skip
            refine lv_iconst (v := 0) C.x C.b md_M_fill_47 (by decide) ?_
            have hsp : mf_fill k0 w0 g = (2, 0) := by unfold mf_fill; rw [if_pos ⟨(mf_andT (mf_bI_1.mp h1)).1, (mf_andT (mf_bI_1.mp h1)).2⟩]; refine if_neg (fun z => ?_); have z1 := z.1; have z2 := z.2.1; have z3 := z.2.2; exact absurd z3 h6
            rw [hsp]
            exact mf_wi C.x C.b hr hlk md_M_fill_48 ⟨f0, f1, f2, f3, f4, f5, f6, f7, f8, f9, f10, hP, hD, hle, hRF, hRG⟩ (by rw [← hH]; exact ⟨hS.1, hS.2.1⟩) hH hS.2.2 (Nat.le_refl _) (Nat.le_refl _)
  · skip
    refine lv_iconst (v := 1) C.x C.b md_M_fill_10 (by decide) ?_
    refine lv_goto (tgt := 37) C.x C.b md_M_fill_11 (by decide) ?_
    refine va_put (D := D) (ci := 4) (v := .int 1) (ty := .int) (C := mf_RM) (T := mf_TM) (N := 20) C.x C.b C.2.2.1 mi_M mf_tyM mp_M mn_M C.o C.k hP hD hS 0 rfl rfl 0 (by decide) (C.t mt_535) (fun _ h => h) rfl (by decide +kernel) rfl rfl (Nat.le_of_ble_eq_true rfl) md_M_fill_37 (fun H locs hP hD hS => ?_)
    have hP : va_P D mf_cl [(mo, .inr (4, [.int 1, .int (nI R.length), .int ck, .ref (aa 0), .ref (aa 1), .ref (aa 2), .ref (aa 3), .ref (aa 4), .ref (aa 5), .ref (aa 6), .int (nI g.1), .ref (aa 7), .ref (aa 8), .ref (aa 9), .ref (aa 10), .int g.2.1, .long g.2.2.2.1, .int g.2.2.1, .int sp, .int mt])), (aa 0, .inl (k5.2.2.1, 40, .inl f0)), (aa 1, .inl (k5.2.2.1, 40, .inl f1)), (aa 2, .inl (k5.2.2.1, 40, .inl f2)), (aa 3, .inl (k5.2.2.1, 40, .inl f3)), (aa 4, .inl (k5.2.2.1, 40, .inl f4)), (aa 5, .inl (k5.2.2.1, 40, .inl f5)), (aa 6, .inl (k5.2.2.2.1, 40, .inl f6)), (aa 7, .inl (k5.2.2.1, 32, .inl f7)), (aa 8, .inl (k5.2.2.1, 32, .inl f8)), (aa 9, .inl (k5.2.2.1, 32, .inl f9)), (aa 10, .inl (k5.2.2.1, 32, .inl f10))] H := hP
    have hD : va_D A [(mo, .inr (4, [.int 1, .int (nI R.length), .int ck, .ref (aa 0), .ref (aa 1), .ref (aa 2), .ref (aa 3), .ref (aa 4), .ref (aa 5), .ref (aa 6), .int (nI g.1), .ref (aa 7), .ref (aa 8), .ref (aa 9), .ref (aa 10), .int g.2.1, .long g.2.2.2.1, .int g.2.2.1, .int sp, .int mt])), (aa 0, .inl (k5.2.2.1, 40, .inl f0)), (aa 1, .inl (k5.2.2.1, 40, .inl f1)), (aa 2, .inl (k5.2.2.1, 40, .inl f2)), (aa 3, .inl (k5.2.2.1, 40, .inl f3)), (aa 4, .inl (k5.2.2.1, 40, .inl f4)), (aa 5, .inl (k5.2.2.1, 40, .inl f5)), (aa 6, .inl (k5.2.2.2.1, 40, .inl f6)), (aa 7, .inl (k5.2.2.1, 32, .inl f7)), (aa 8, .inl (k5.2.2.1, 32, .inl f8)), (aa 9, .inl (k5.2.2.1, 32, .inl f9)), (aa 10, .inl (k5.2.2.1, 32, .inl f10))] := hD
    refine lv_aload_n C.x C.b md_M_fill_40 rfl (lv_at hl 0 rfl) ?_
    refine mf_gf C (ci := 4) (N := 20) rfl mi_M 0 (by decide) mt_535 (hP 0 _ rfl) (v := .int 1) rfl md_M_fill_41 ?_
    refine lv_if_le (tgt := 49) C.x C.b md_M_fill_44 (by decide) (fun h12 => ?_) (fun h12 => ?_)
    · exact absurd h12 (by decide)
    · skip
      refine lv_iconst (v := 0) C.x C.b md_M_fill_47 (by decide) ?_
      have hsp : mf_fill k0 w0 g = (1, 0) := by unfold mf_fill; exact if_neg (mf_andF (mf_bI_0.mp h1))
      rw [hsp]
      exact mf_wi C.x C.b hr hlk md_M_fill_48 ⟨f0, f1, f2, f3, f4, f5, f6, f7, f8, f9, f10, hP, hD, hle, hRF, hRG⟩ (by rw [← hH]; exact ⟨hS.1, hS.2.1⟩) hH hS.2.2 (Nat.le_refl _) (Nat.le_refl _)
