/-! the model: figure, withdraw, levels, order, level -/
theorem mf_no4 {x : Int32} (h0 : ¬ x = 0) (h1 : ¬ x = 1) (h2 : ¬ x = 2) (h3 : ¬ x = 3) (h4 : ¬ x = 4) : ¬ (0 ≤ x ∧ x ≤ 4) := fun ⟨a, b⟩ => by
  have a := Int32.le_iff_toInt_le.mp a
  have b := Int32.le_iff_toInt_le.mp b
  have a : (0 : Int) ≤ x.toInt := a
  have b : x.toInt ≤ (4 : Int) := b
  rcases mf_tout4 h0 h1 h2 h3 h4 with z | z <;> omega
theorem mf_is01 {x : Int32} (h : 0 ≤ x ∧ x ≤ 1) : x = 0 ∨ x = 1 := by
  obtain ⟨k, hk, rfl⟩ := mf_nI_of (n := 1) h.1 h.2 (by decide)
  match k, hk with
  | 0, _ => exact Or.inl rfl
  | 1, _ => exact Or.inr rfl
theorem mf_no01 {x : Int32} (h : ¬ (0 ≤ x ∧ x ≤ 1)) : ¬ (x = 0 ∨ x = 1) := fun z => h (by rcases z with rfl | rfl <;> decide)
theorem mf_le0 {x : Int32} (h0 : 0 ≤ x) (h1 : x ≤ 0) : x = 0 := by
  have a : (0 : Int) ≤ x.toInt := Int32.le_iff_toInt_le.mp h0
  have b : x.toInt ≤ (0 : Int) := Int32.le_iff_toInt_le.mp h1
  exact Int32.toInt_inj.mp (show x.toInt = (0 : Int) by omega)
theorem mf_gt0 {x : Int32} (h1 : ¬ x ≤ 0) : ¬ x = 0 := fun z => h1 (by rw [z]; decide)
theorem mf_m1 (n : Nat) : nI n + (-1) = nI n - 1 := (Int32.sub_eq_add_neg _ _).symm
/-- the levels' loop of the model ends -/
def mf_Fu (s : Int32) (L : List mf_O) (n : Nat) (p : Int32) : Prop := 0 ≤ p ∧ (p = 0 ∨ L.countP (mf_behind s p) + 1 ≤ n)
theorem mf_Fu.start {s : Int32} {L : List mf_O} (hl : L.length ≤ 40) (ho : ∀ r ∈ L, mf_ok r) : mf_Fu s L 40 (mf_next s 0 L) := by
  refine ⟨mf_next_nonneg ho, ?_⟩
  by_cases h : mf_next s 0 L = 0
  · exact Or.inl h
  · have h1 := mf_next_less h
    have h2 := List.countP_le_length (p := mf_behind s 0) (l := L)
    exact Or.inr (by omega)
theorem mf_Fu.zero {s p : Int32} {L : List mf_O} (h : mf_Fu s L 0 p) : p = 0 := h.2.elim (fun z => z) (fun z => absurd z (Nat.not_succ_le_zero _))
theorem mf_Fu.step {s p : Int32} {L : List mf_O} {n : Nat} (ho : ∀ r ∈ L, mf_ok r) (h : mf_Fu s L (n + 1) p) (hp : ¬ p = 0) : mf_Fu s L n (mf_next s p L) := by
  refine ⟨mf_next_nonneg ho, ?_⟩
  have h2 := h.2.resolve_left hp
  by_cases h3 : mf_next s p L = 0
  · exact Or.inl h3
  · have h1 := mf_next_less h3
    exact Or.inr (by omega)
theorem rf_walk_0 (nx : Int32 → Int32) (k : Nat) {p : Int32} (h : p ≤ 0) : rf_walk nx k p = p := by
  cases k with
  | zero => rfl
  | succ k => rw [rf_walk, if_neg (Int32.not_lt.mpr h)]
theorem rf_walk_1 (nx : Int32 → Int32) (k : Nat) {p : Int32} (h : ¬ p ≤ 0) : rf_walk nx (k + 1) p = rf_walk nx k (nx p) := by
  rw [rf_walk, if_pos (Int32.not_le.mp h)]
theorem k_M_next (l : Launch) (D : va_G) (k5 : mf_k5) (t0 : Nat × Nat) (A : Nat → Prop) (H : Heap) (mo : Nat) (aa : Nat → Nat) (cd ck sp mt : Int32) (R : List mf_T) (g : mf_G) (s0 b0 : Int32) (hM : mf_MD D k5 A H mo aa cd (R, ck, sp, mt, g)) (hpr : ∀ x ∈ R, mf_pr x.1 ≠ 0) : mf_cRO l my_M_nextPrice mc_M_nextPrice 6 (some .int) { frames := 0, cells := 0, slots := 0, locals := 0 } D (mf_tys k5) t0 A H [.ref mo, .int s0, .int b0] (some (.int (rf_next s0 b0 R))) := k_M_nextPrice l D k5 t0 A H mo aa cd ck sp mt R g s0 b0 hM hpr
set_option maxRecDepth 100000 in
set_option maxHeartbeats 4000000 in
theorem k_M_figure (l : Launch) (D : va_G) (k5 : mf_k5) (t0 : Nat × Nat) (A : Nat → Prop) (H : Heap) (mo : Nat) (aa : Nat → Nat) (cd ck sp mt : Int32) (R : List mf_T) (g : mf_G) (k0 : Int32) (hM : mf_MD D k5 A H mo aa cd (R, ck, sp, mt, g)) : mf_cWR l my_M_figure mc_M_figure 4 (some .int) { frames := 1, cells := 0, slots := 0, locals := 22 } D (mf_tys k5) t0 A H [.ref mo, .int k0] (some (.int (rf_figure k0 (R, ck, sp, mt, g)).2)) (fun H1 => mf_MD D k5 A H1 mo aa (nI (rf_figure k0 (R, ck, sp, mt, g)).1) (R, ck, sp, mt, g)) (A) 0 0 := by
  obtain ⟨f0, f1, f2, f3, f4, f5, f6, f7, f8, f9, f10, hP, hD, hle, hRF, hRG⟩ := id hM
  have hP : va_P D mf_cl [(mo, .inr (4, [.int cd, .int (nI R.length), .int ck, .ref (aa 0), .ref (aa 1), .ref (aa 2), .ref (aa 3), .ref (aa 4), .ref (aa 5), .ref (aa 6), .int (nI g.1), .ref (aa 7), .ref (aa 8), .ref (aa 9), .ref (aa 10), .int g.2.1, .long g.2.2.2.1, .int g.2.2.1, .int sp, .int mt])), (aa 0, .inl (k5.2.2.1, 40, .inl f0)), (aa 1, .inl (k5.2.2.1, 40, .inl f1)), (aa 2, .inl (k5.2.2.1, 40, .inl f2)), (aa 3, .inl (k5.2.2.1, 40, .inl f3)), (aa 4, .inl (k5.2.2.1, 40, .inl f4)), (aa 5, .inl (k5.2.2.1, 40, .inl f5)), (aa 6, .inl (k5.2.2.2.1, 40, .inl f6)), (aa 7, .inl (k5.2.2.1, 32, .inl f7)), (aa 8, .inl (k5.2.2.1, 32, .inl f8)), (aa 9, .inl (k5.2.2.1, 32, .inl f9)), (aa 10, .inl (k5.2.2.1, 32, .inl f10))] H := hP
  have hle : R.length ≤ 40 := hle
  have hD : va_D A [(mo, .inr (4, [.int cd, .int (nI R.length), .int ck, .ref (aa 0), .ref (aa 1), .ref (aa 2), .ref (aa 3), .ref (aa 4), .ref (aa 5), .ref (aa 6), .int (nI g.1), .ref (aa 7), .ref (aa 8), .ref (aa 9), .ref (aa 10), .int g.2.1, .long g.2.2.2.1, .int g.2.2.1, .int sp, .int mt])), (aa 0, .inl (k5.2.2.1, 40, .inl f0)), (aa 1, .inl (k5.2.2.1, 40, .inl f1)), (aa 2, .inl (k5.2.2.1, 40, .inl f2)), (aa 3, .inl (k5.2.2.1, 40, .inl f3)), (aa 4, .inl (k5.2.2.1, 40, .inl f4)), (aa 5, .inl (k5.2.2.1, 40, .inl f5)), (aa 6, .inl (k5.2.2.2.1, 40, .inl f6)), (aa 7, .inl (k5.2.2.1, 32, .inl f7)), (aa 8, .inl (k5.2.2.1, 32, .inl f8)), (aa 9, .inl (k5.2.2.1, 32, .inl f9)), (aa 10, .inl (k5.2.2.1, 32, .inl f10))] := hD
  have hRF : mf_Rc R f0 f1 f2 f3 f4 f5 f6 := hRF
  have hRG : mf_Rg g f7 f8 f9 f10 := hRG
  refine mf_of (by decide) (Nat.le_of_ble_eq_true rfl) ?_
  intro p e s m below meth c ls C hH hr hlk hnm hmt hl hS
  have hl : lv_has ls 4 [(0, .ref mo), (1, .int k0)] := hl
  refine lv_aload_n C.x C.b md_M_figure_0 rfl (lv_at hl 0 rfl) ?_
  refine lv_iload_n C.x C.b md_M_figure_1 rfl (lv_at hl 1 rfl) ?_
  refine lv_iconst (v := 0) C.x C.b md_M_figure_2 (by decide) ?_
  refine lv_iconst (v := 4) C.x C.b md_M_figure_3 (by decide) ?_
  refine mf_cks (va_runS (As := [.int k0, .int 0, .int 4]) (rest := [.ref mo]) C.f (k_M_among l D k5 t0 A H k0 0 4) (mf_cS C mt_607 mt_605 mt_6 mt_606 mh_M_among ⟨by decide, by decide⟩) (mf_preS C.ev hS) rfl rfl hl.1 rfl (lv_room (Nat.le_of_ble_eq_true rfl)) md_M_figure_4 ⟨by first | omega | exact Nat.le_of_ble_eq_true rfl, by first | omega | exact Nat.le_of_ble_eq_true rfl⟩) ?_
  refine lv_if_eq (tgt := 14) C.x C.b md_M_figure_7 (by decide) (fun h1 => ?_) (fun h1 => ?_)
  · skip
    refine lv_iconst (v := 1) C.x C.b md_M_figure_14 (by decide) ?_
    refine va_put (D := D) (ci := 4) (v := .int 1) (ty := .int) (C := mf_RM) (T := mf_TM) (N := 20) C.x C.b C.2.2.1 mi_M mf_tyM mp_M mn_M C.o C.k hP hD hS 0 rfl rfl 0 (by decide) (C.t mt_535) (fun _ h => h) rfl (by decide +kernel) rfl rfl (Nat.le_of_ble_eq_true rfl) md_M_figure_15 (fun H locs hP hD hS => ?_)
    have hP : va_P D mf_cl [(mo, .inr (4, [.int 1, .int (nI R.length), .int ck, .ref (aa 0), .ref (aa 1), .ref (aa 2), .ref (aa 3), .ref (aa 4), .ref (aa 5), .ref (aa 6), .int (nI g.1), .ref (aa 7), .ref (aa 8), .ref (aa 9), .ref (aa 10), .int g.2.1, .long g.2.2.2.1, .int g.2.2.1, .int sp, .int mt])), (aa 0, .inl (k5.2.2.1, 40, .inl f0)), (aa 1, .inl (k5.2.2.1, 40, .inl f1)), (aa 2, .inl (k5.2.2.1, 40, .inl f2)), (aa 3, .inl (k5.2.2.1, 40, .inl f3)), (aa 4, .inl (k5.2.2.1, 40, .inl f4)), (aa 5, .inl (k5.2.2.1, 40, .inl f5)), (aa 6, .inl (k5.2.2.2.1, 40, .inl f6)), (aa 7, .inl (k5.2.2.1, 32, .inl f7)), (aa 8, .inl (k5.2.2.1, 32, .inl f8)), (aa 9, .inl (k5.2.2.1, 32, .inl f9)), (aa 10, .inl (k5.2.2.1, 32, .inl f10))] H := hP
    have hD : va_D A [(mo, .inr (4, [.int 1, .int (nI R.length), .int ck, .ref (aa 0), .ref (aa 1), .ref (aa 2), .ref (aa 3), .ref (aa 4), .ref (aa 5), .ref (aa 6), .int (nI g.1), .ref (aa 7), .ref (aa 8), .ref (aa 9), .ref (aa 10), .int g.2.1, .long g.2.2.2.1, .int g.2.2.1, .int sp, .int mt])), (aa 0, .inl (k5.2.2.1, 40, .inl f0)), (aa 1, .inl (k5.2.2.1, 40, .inl f1)), (aa 2, .inl (k5.2.2.1, 40, .inl f2)), (aa 3, .inl (k5.2.2.1, 40, .inl f3)), (aa 4, .inl (k5.2.2.1, 40, .inl f4)), (aa 5, .inl (k5.2.2.1, 40, .inl f5)), (aa 6, .inl (k5.2.2.2.1, 40, .inl f6)), (aa 7, .inl (k5.2.2.1, 32, .inl f7)), (aa 8, .inl (k5.2.2.1, 32, .inl f8)), (aa 9, .inl (k5.2.2.1, 32, .inl f9)), (aa 10, .inl (k5.2.2.1, 32, .inl f10))] := hD
    refine lv_iconst (v := 0) C.x C.b md_M_figure_18 (by decide) ?_
    refine lv_istore_n (lv' := [(2, .int 0), (0, .ref mo), (1, .int k0)]) C.x C.b md_M_figure_19 rfl hl (by decide) rfl (fun ls hl => ?_)
    refine lv_iconst (v := 0) C.x C.b md_M_figure_20 (by decide) ?_
    refine lv_istore_n (lv' := [(3, .int 0), (2, .int 0), (0, .ref mo), (1, .int k0)]) C.x C.b md_M_figure_21 rfl hl (by decide) rfl (fun ls hl => ?_)
    have loop : ∀ (n k : Nat) (r : Int32) (ls : Array Slot), k + n = R.length → mf_sum (fun x : mf_T => if mf_wt x.1 = 0 then 0 else 1) (R.take k) = r → lv_has ls 4 [(3, .int (nI k)), (2, .int r), (0, .ref mo), (1, .int k0)] → W p l e ({ frames := 1, cells := 0, slots := 0, locals := 22 } : Room) s m (([.ref mo, .int k0] : List Value).toArray) below meth c H locs 0 0 (MQ below (mf_Kw (some (.int (rf_figure k0 (R, ck, sp, mt, g)).2)) (fun H1 => mf_MD D k5 A H1 mo aa (nI (rf_figure k0 (R, ck, sp, mt, g)).1) (R, ck, sp, mt, g)) (A)) (([.ref mo, .int k0] : List Value).toArray) s 0 0 A) (F0 m 22 ls []) := by
      intro n
      induction n with
      | zero =>
        intro k r ls hk i0 hl
        obtain rfl : k = R.length := by omega
        rw [List.take_length] at i0
        refine lv_iload_n C.x C.b md_M_figure_22 rfl (lv_at hl 0 rfl) ?_
        refine lv_aload_n C.x C.b md_M_figure_23 rfl (lv_at hl 2 rfl) ?_
        refine mf_gf C (ci := 4) (N := 20) rfl mi_M 1 (by decide) mt_536 (hP 0 _ rfl) (v := .int (nI R.length)) rfl md_M_figure_24 ?_
        refine lv_icmp_ge (tgt := 53) C.x C.b md_M_figure_27 (by decide) (fun h2 => ?_) (fun h2 => ?_)
        · skip
          refine lv_iload_n C.x C.b md_M_figure_53 rfl (lv_at hl 3 rfl) ?_
          by_cases hk0 : k0 = 0
          · refine lv_tableIn (tgt := 88) C.x C.b md_M_figure_54 (by rw [hk0]; decide) (by rw [hk0]; decide) (by rw [hk0]; rfl) (by decide) ?_
            refine lv_aload_n C.x C.b md_M_figure_88 rfl (lv_at hl 2 rfl) ?_
            refine mf_gf C (ci := 4) (N := 20) rfl mi_M 1 (by decide) mt_536 (hP 0 _ rfl) (v := .int (nI R.length)) rfl md_M_figure_89 ?_
            exact absurd (⟨by rw [hk0]; decide, by rw [hk0]; decide⟩ : 0 ≤ k0 ∧ k0 ≤ 4) (mf_andF (mf_bI_0.mp h1))
          by_cases hk1 : k0 = 1
          · refine lv_tableIn (tgt := 93) C.x C.b md_M_figure_54 (by rw [hk1]; decide) (by rw [hk1]; decide) (by rw [hk1]; rfl) (by decide) ?_
            refine lv_iload_n C.x C.b md_M_figure_93 rfl (lv_at hl 1 rfl) ?_
            exact absurd (⟨by rw [hk1]; decide, by rw [hk1]; decide⟩ : 0 ≤ k0 ∧ k0 ≤ 4) (mf_andF (mf_bI_0.mp h1))
          by_cases hk2 : k0 = 2
          · refine lv_tableIn (tgt := 95) C.x C.b md_M_figure_54 (by rw [hk2]; decide) (by rw [hk2]; decide) (by rw [hk2]; rfl) (by decide) ?_
            refine lv_aload_n C.x C.b md_M_figure_95 rfl (lv_at hl 2 rfl) ?_
            refine mf_gf C (ci := 4) (N := 20) rfl mi_M 18 (by decide) mt_553 (hP 0 _ rfl) (v := .int sp) rfl md_M_figure_96 ?_
            exact absurd (⟨by rw [hk2]; decide, by rw [hk2]; decide⟩ : 0 ≤ k0 ∧ k0 ≤ 4) (mf_andF (mf_bI_0.mp h1))
          by_cases hk3 : k0 = 3
          · refine lv_tableIn (tgt := 100) C.x C.b md_M_figure_54 (by rw [hk3]; decide) (by rw [hk3]; decide) (by rw [hk3]; rfl) (by decide) ?_
            refine lv_aload_n C.x C.b md_M_figure_100 rfl (lv_at hl 2 rfl) ?_
            refine mf_gf C (ci := 4) (N := 20) rfl mi_M 19 (by decide) mt_554 (hP 0 _ rfl) (v := .int mt) rfl md_M_figure_101 ?_
            exact absurd (⟨by rw [hk3]; decide, by rw [hk3]; decide⟩ : 0 ≤ k0 ∧ k0 ≤ 4) (mf_andF (mf_bI_0.mp h1))
          by_cases hk4 : k0 = 4
          · refine lv_tableIn (tgt := 105) C.x C.b md_M_figure_54 (by rw [hk4]; decide) (by rw [hk4]; decide) (by rw [hk4]; rfl) (by decide) ?_
            refine lv_aload_n C.x C.b md_M_figure_105 rfl (lv_at hl 2 rfl) ?_
            refine mf_gf C (ci := 4) (N := 20) rfl mi_M 17 (by decide) mt_552 (hP 0 _ rfl) (v := .int g.2.2.1) rfl md_M_figure_106 ?_
            exact absurd (⟨by rw [hk4]; decide, by rw [hk4]; decide⟩ : 0 ≤ k0 ∧ k0 ≤ 4) (mf_andF (mf_bI_0.mp h1))
          refine lv_tableOut (tgt := 110) C.x C.b md_M_figure_54 (mf_tout4 hk0 hk1 hk2 hk3 hk4) (by decide) ?_
          refine lv_iconst (v := 0) C.x C.b md_M_figure_110 (by decide) ?_
          have hsp : rf_figure k0 (R, ck, sp, mt, g) = (1, 0) := by exact ((if_neg hk0).trans ((if_neg hk1).trans ((if_neg hk2).trans ((if_neg hk3).trans ((if_neg hk4).trans rfl)))))
          rw [hsp]
          exact mf_wi C.x C.b hr hlk md_M_figure_111 ⟨f0, f1, f2, f3, f4, f5, f6, f7, f8, f9, f10, hP, hD, hle, hRF, hRG⟩ (by rw [← hH]; exact ⟨hS.1, hS.2.1⟩) hH hS.2.2 (Nat.le_refl _) (Nat.le_refl _)
        · exact absurd (Int32.le_refl _) h2
      | succ n ih =>
        intro k r ls hk i0 hl
        have hkk : k < R.length := by omega
        obtain ⟨x, hq⟩ := mf_at_lt hkk
        have hu := hRF k x hq
        refine lv_iload_n C.x C.b md_M_figure_22 rfl (lv_at hl 0 rfl) ?_
        refine lv_aload_n C.x C.b md_M_figure_23 rfl (lv_at hl 2 rfl) ?_
        refine mf_gf C (ci := 4) (N := 20) rfl mi_M 1 (by decide) mt_536 (hP 0 _ rfl) (v := .int (nI R.length)) rfl md_M_figure_24 ?_
        refine lv_icmp_ge (tgt := 53) C.x C.b md_M_figure_27 (by decide) (fun h3 => ?_) (fun h3 => ?_)
        · exact absurd h3 (nI_ge hkk (by omega))
        · skip
          refine lv_iload_n C.x C.b md_M_figure_30 rfl (lv_at hl 1 rfl) ?_
          refine lv_aload_n C.x C.b md_M_figure_31 rfl (lv_at hl 2 rfl) ?_
          refine mf_gf C (ci := 4) (N := 20) rfl mi_M 9 (by decide) mt_544 (hP 0 _ rfl) (v := .ref (aa 6)) rfl md_M_figure_32 ?_
          refine lv_iload_n C.x C.b md_M_figure_35 rfl (lv_at hl 0 rfl) ?_
          refine mf_zv C (t := 3) rfl (hP 7 _ rfl) (by omega) (by decide) hu.2.2.2.2.2.2.1 md_M_figure_36 ?_
          refine lv_if_eq (tgt := 44) C.x C.b md_M_figure_37 (by decide) (fun h4 => ?_) (fun h4 => ?_)
          · skip
            refine lv_iconst (v := 0) C.x C.b md_M_figure_44 (by decide) ?_
            refine lv_iadd C.x C.b md_M_figure_45 ?_
            refine lv_istore_n (lv' := [(2, .int (r + 0)), (3, .int (nI k)), (0, .ref mo), (1, .int k0)]) C.x C.b md_M_figure_46 rfl hl (by decide) rfl (fun ls hl => ?_)
            refine lv_iinc (k := 1) (v := nI (k + 1)) (lv' := [(3, .int (nI (k + 1))), (2, .int (r + 0)), (0, .ref mo), (1, .int k0)]) C.x C.b md_M_figure_47 hl rfl (nI_1 _) (by decide) rfl (fun ls hl => ?_)
            refine lv_goto (tgt := 22) C.x C.b md_M_figure_50 (by decide) ?_
            exact ih (k + 1) (r + 0) ls (by omega) (mf_sstep hq i0 (by first | (simp [h3, Int32.not_le.mp h3, h4]; done) | (exfalso; simp_all; done))) (lv_sub hl [0, 1, 2, 3] rfl)
          · skip
            refine lv_iconst (v := 1) C.x C.b md_M_figure_40 (by decide) ?_
            refine lv_goto (tgt := 45) C.x C.b md_M_figure_41 (by decide) ?_
            refine lv_iadd C.x C.b md_M_figure_45 ?_
            refine lv_istore_n (lv' := [(2, .int (r + 1)), (3, .int (nI k)), (0, .ref mo), (1, .int k0)]) C.x C.b md_M_figure_46 rfl hl (by decide) rfl (fun ls hl => ?_)
            refine lv_iinc (k := 1) (v := nI (k + 1)) (lv' := [(3, .int (nI (k + 1))), (2, .int (r + 1)), (0, .ref mo), (1, .int k0)]) C.x C.b md_M_figure_47 hl rfl (nI_1 _) (by decide) rfl (fun ls hl => ?_)
            refine lv_goto (tgt := 22) C.x C.b md_M_figure_50 (by decide) ?_
            exact ih (k + 1) (r + 1) ls (by omega) (mf_sstep hq i0 (by first | (simp [h3, Int32.not_le.mp h3, h4]; done) | (exfalso; simp_all; done))) (lv_sub hl [0, 1, 2, 3] rfl)
    exact loop R.length 0 0 ls (by omega) rfl (lv_sub hl [0, 1, 2, 3] rfl)
  · skip
    refine lv_iconst (v := 0) C.x C.b md_M_figure_10 (by decide) ?_
    refine lv_goto (tgt := 15) C.x C.b md_M_figure_11 (by decide) ?_
    refine va_put (D := D) (ci := 4) (v := .int 0) (ty := .int) (C := mf_RM) (T := mf_TM) (N := 20) C.x C.b C.2.2.1 mi_M mf_tyM mp_M mn_M C.o C.k hP hD hS 0 rfl rfl 0 (by decide) (C.t mt_535) (fun _ h => h) rfl (by decide +kernel) rfl rfl (Nat.le_of_ble_eq_true rfl) md_M_figure_15 (fun H locs hP hD hS => ?_)
    have hP : va_P D mf_cl [(mo, .inr (4, [.int 0, .int (nI R.length), .int ck, .ref (aa 0), .ref (aa 1), .ref (aa 2), .ref (aa 3), .ref (aa 4), .ref (aa 5), .ref (aa 6), .int (nI g.1), .ref (aa 7), .ref (aa 8), .ref (aa 9), .ref (aa 10), .int g.2.1, .long g.2.2.2.1, .int g.2.2.1, .int sp, .int mt])), (aa 0, .inl (k5.2.2.1, 40, .inl f0)), (aa 1, .inl (k5.2.2.1, 40, .inl f1)), (aa 2, .inl (k5.2.2.1, 40, .inl f2)), (aa 3, .inl (k5.2.2.1, 40, .inl f3)), (aa 4, .inl (k5.2.2.1, 40, .inl f4)), (aa 5, .inl (k5.2.2.1, 40, .inl f5)), (aa 6, .inl (k5.2.2.2.1, 40, .inl f6)), (aa 7, .inl (k5.2.2.1, 32, .inl f7)), (aa 8, .inl (k5.2.2.1, 32, .inl f8)), (aa 9, .inl (k5.2.2.1, 32, .inl f9)), (aa 10, .inl (k5.2.2.1, 32, .inl f10))] H := hP
    have hD : va_D A [(mo, .inr (4, [.int 0, .int (nI R.length), .int ck, .ref (aa 0), .ref (aa 1), .ref (aa 2), .ref (aa 3), .ref (aa 4), .ref (aa 5), .ref (aa 6), .int (nI g.1), .ref (aa 7), .ref (aa 8), .ref (aa 9), .ref (aa 10), .int g.2.1, .long g.2.2.2.1, .int g.2.2.1, .int sp, .int mt])), (aa 0, .inl (k5.2.2.1, 40, .inl f0)), (aa 1, .inl (k5.2.2.1, 40, .inl f1)), (aa 2, .inl (k5.2.2.1, 40, .inl f2)), (aa 3, .inl (k5.2.2.1, 40, .inl f3)), (aa 4, .inl (k5.2.2.1, 40, .inl f4)), (aa 5, .inl (k5.2.2.1, 40, .inl f5)), (aa 6, .inl (k5.2.2.2.1, 40, .inl f6)), (aa 7, .inl (k5.2.2.1, 32, .inl f7)), (aa 8, .inl (k5.2.2.1, 32, .inl f8)), (aa 9, .inl (k5.2.2.1, 32, .inl f9)), (aa 10, .inl (k5.2.2.1, 32, .inl f10))] := hD
    refine lv_iconst (v := 0) C.x C.b md_M_figure_18 (by decide) ?_
    refine lv_istore_n (lv' := [(2, .int 0), (0, .ref mo), (1, .int k0)]) C.x C.b md_M_figure_19 rfl hl (by decide) rfl (fun ls hl => ?_)
    refine lv_iconst (v := 0) C.x C.b md_M_figure_20 (by decide) ?_
    refine lv_istore_n (lv' := [(3, .int 0), (2, .int 0), (0, .ref mo), (1, .int k0)]) C.x C.b md_M_figure_21 rfl hl (by decide) rfl (fun ls hl => ?_)
    have loop : ∀ (n k : Nat) (r : Int32) (ls : Array Slot), k + n = R.length → mf_sum (fun x : mf_T => if mf_wt x.1 = 0 then 0 else 1) (R.take k) = r → lv_has ls 4 [(3, .int (nI k)), (2, .int r), (0, .ref mo), (1, .int k0)] → W p l e ({ frames := 1, cells := 0, slots := 0, locals := 22 } : Room) s m (([.ref mo, .int k0] : List Value).toArray) below meth c H locs 0 0 (MQ below (mf_Kw (some (.int (rf_figure k0 (R, ck, sp, mt, g)).2)) (fun H1 => mf_MD D k5 A H1 mo aa (nI (rf_figure k0 (R, ck, sp, mt, g)).1) (R, ck, sp, mt, g)) (A)) (([.ref mo, .int k0] : List Value).toArray) s 0 0 A) (F0 m 22 ls []) := by
      intro n
      induction n with
      | zero =>
        intro k r ls hk i0 hl
        obtain rfl : k = R.length := by omega
        rw [List.take_length] at i0
        refine lv_iload_n C.x C.b md_M_figure_22 rfl (lv_at hl 0 rfl) ?_
        refine lv_aload_n C.x C.b md_M_figure_23 rfl (lv_at hl 2 rfl) ?_
        refine mf_gf C (ci := 4) (N := 20) rfl mi_M 1 (by decide) mt_536 (hP 0 _ rfl) (v := .int (nI R.length)) rfl md_M_figure_24 ?_
        refine lv_icmp_ge (tgt := 53) C.x C.b md_M_figure_27 (by decide) (fun h5 => ?_) (fun h5 => ?_)
        · skip
          refine lv_iload_n C.x C.b md_M_figure_53 rfl (lv_at hl 3 rfl) ?_
          by_cases hk0 : k0 = 0
          · refine lv_tableIn (tgt := 88) C.x C.b md_M_figure_54 (by rw [hk0]; decide) (by rw [hk0]; decide) (by rw [hk0]; rfl) (by decide) ?_
            refine lv_aload_n C.x C.b md_M_figure_88 rfl (lv_at hl 2 rfl) ?_
            refine mf_gf C (ci := 4) (N := 20) rfl mi_M 1 (by decide) mt_536 (hP 0 _ rfl) (v := .int (nI R.length)) rfl md_M_figure_89 ?_
            have hsp : rf_figure k0 (R, ck, sp, mt, g) = (0, (nI R.length)) := by exact (if_pos hk0)
            rw [hsp]
            exact mf_wi C.x C.b hr hlk md_M_figure_92 ⟨f0, f1, f2, f3, f4, f5, f6, f7, f8, f9, f10, hP, hD, hle, hRF, hRG⟩ (by rw [← hH]; exact ⟨hS.1, hS.2.1⟩) hH hS.2.2 (Nat.le_refl _) (Nat.le_refl _)
          by_cases hk1 : k0 = 1
          · refine lv_tableIn (tgt := 93) C.x C.b md_M_figure_54 (by rw [hk1]; decide) (by rw [hk1]; decide) (by rw [hk1]; rfl) (by decide) ?_
            refine lv_iload_n C.x C.b md_M_figure_93 rfl (lv_at hl 1 rfl) ?_
            have hsp : rf_figure k0 (R, ck, sp, mt, g) = (0, r) := by exact ((if_neg hk0).trans ((if_pos hk1).trans (congrArg (Prod.mk 0) i0)))
            rw [hsp]
            exact mf_wi C.x C.b hr hlk md_M_figure_94 ⟨f0, f1, f2, f3, f4, f5, f6, f7, f8, f9, f10, hP, hD, hle, hRF, hRG⟩ (by rw [← hH]; exact ⟨hS.1, hS.2.1⟩) hH hS.2.2 (Nat.le_refl _) (Nat.le_refl _)
          by_cases hk2 : k0 = 2
          · refine lv_tableIn (tgt := 95) C.x C.b md_M_figure_54 (by rw [hk2]; decide) (by rw [hk2]; decide) (by rw [hk2]; rfl) (by decide) ?_
            refine lv_aload_n C.x C.b md_M_figure_95 rfl (lv_at hl 2 rfl) ?_
            refine mf_gf C (ci := 4) (N := 20) rfl mi_M 18 (by decide) mt_553 (hP 0 _ rfl) (v := .int sp) rfl md_M_figure_96 ?_
            have hsp : rf_figure k0 (R, ck, sp, mt, g) = (0, sp) := by exact ((if_neg hk0).trans ((if_neg hk1).trans (if_pos hk2)))
            rw [hsp]
            exact mf_wi C.x C.b hr hlk md_M_figure_99 ⟨f0, f1, f2, f3, f4, f5, f6, f7, f8, f9, f10, hP, hD, hle, hRF, hRG⟩ (by rw [← hH]; exact ⟨hS.1, hS.2.1⟩) hH hS.2.2 (Nat.le_refl _) (Nat.le_refl _)
          by_cases hk3 : k0 = 3
          · refine lv_tableIn (tgt := 100) C.x C.b md_M_figure_54 (by rw [hk3]; decide) (by rw [hk3]; decide) (by rw [hk3]; rfl) (by decide) ?_
            refine lv_aload_n C.x C.b md_M_figure_100 rfl (lv_at hl 2 rfl) ?_
            refine mf_gf C (ci := 4) (N := 20) rfl mi_M 19 (by decide) mt_554 (hP 0 _ rfl) (v := .int mt) rfl md_M_figure_101 ?_
            have hsp : rf_figure k0 (R, ck, sp, mt, g) = (0, mt) := by exact ((if_neg hk0).trans ((if_neg hk1).trans ((if_neg hk2).trans (if_pos hk3))))
            rw [hsp]
            exact mf_wi C.x C.b hr hlk md_M_figure_104 ⟨f0, f1, f2, f3, f4, f5, f6, f7, f8, f9, f10, hP, hD, hle, hRF, hRG⟩ (by rw [← hH]; exact ⟨hS.1, hS.2.1⟩) hH hS.2.2 (Nat.le_refl _) (Nat.le_refl _)
          by_cases hk4 : k0 = 4
          · refine lv_tableIn (tgt := 105) C.x C.b md_M_figure_54 (by rw [hk4]; decide) (by rw [hk4]; decide) (by rw [hk4]; rfl) (by decide) ?_
            refine lv_aload_n C.x C.b md_M_figure_105 rfl (lv_at hl 2 rfl) ?_
            refine mf_gf C (ci := 4) (N := 20) rfl mi_M 17 (by decide) mt_552 (hP 0 _ rfl) (v := .int g.2.2.1) rfl md_M_figure_106 ?_
            have hsp : rf_figure k0 (R, ck, sp, mt, g) = (0, g.2.2.1) := by exact ((if_neg hk0).trans ((if_neg hk1).trans ((if_neg hk2).trans ((if_neg hk3).trans (if_pos hk4)))))
            rw [hsp]
            exact mf_wi C.x C.b hr hlk md_M_figure_109 ⟨f0, f1, f2, f3, f4, f5, f6, f7, f8, f9, f10, hP, hD, hle, hRF, hRG⟩ (by rw [← hH]; exact ⟨hS.1, hS.2.1⟩) hH hS.2.2 (Nat.le_refl _) (Nat.le_refl _)
          refine lv_tableOut (tgt := 110) C.x C.b md_M_figure_54 (mf_tout4 hk0 hk1 hk2 hk3 hk4) (by decide) ?_
          refine lv_iconst (v := 0) C.x C.b md_M_figure_110 (by decide) ?_
          exact absurd ⟨(mf_andT (mf_bI_1.mp h1)).1, (mf_andT (mf_bI_1.mp h1)).2⟩ (mf_no4 hk0 hk1 hk2 hk3 hk4)
        · exact absurd (Int32.le_refl _) h5
      | succ n ih =>
        intro k r ls hk i0 hl
        have hkk : k < R.length := by omega
        obtain ⟨x, hq⟩ := mf_at_lt hkk
        have hu := hRF k x hq
        refine lv_iload_n C.x C.b md_M_figure_22 rfl (lv_at hl 0 rfl) ?_
        refine lv_aload_n C.x C.b md_M_figure_23 rfl (lv_at hl 2 rfl) ?_
        refine mf_gf C (ci := 4) (N := 20) rfl mi_M 1 (by decide) mt_536 (hP 0 _ rfl) (v := .int (nI R.length)) rfl md_M_figure_24 ?_
        refine lv_icmp_ge (tgt := 53) C.x C.b md_M_figure_27 (by decide) (fun h6 => ?_) (fun h6 => ?_)
        · exact absurd h6 (nI_ge hkk (by omega))
        · skip
          refine lv_iload_n C.x C.b md_M_figure_30 rfl (lv_at hl 1 rfl) ?_
          refine lv_aload_n C.x C.b md_M_figure_31 rfl (lv_at hl 2 rfl) ?_
          refine mf_gf C (ci := 4) (N := 20) rfl mi_M 9 (by decide) mt_544 (hP 0 _ rfl) (v := .ref (aa 6)) rfl md_M_figure_32 ?_
          refine lv_iload_n C.x C.b md_M_figure_35 rfl (lv_at hl 0 rfl) ?_
          refine mf_zv C (t := 3) rfl (hP 7 _ rfl) (by omega) (by decide) hu.2.2.2.2.2.2.1 md_M_figure_36 ?_
          refine lv_if_eq (tgt := 44) C.x C.b md_M_figure_37 (by decide) (fun h7 => ?_) (fun h7 => ?_)
          · skip
            refine lv_iconst (v := 0) C.x C.b md_M_figure_44 (by decide) ?_
            refine lv_iadd C.x C.b md_M_figure_45 ?_
            refine lv_istore_n (lv' := [(2, .int (r + 0)), (3, .int (nI k)), (0, .ref mo), (1, .int k0)]) C.x C.b md_M_figure_46 rfl hl (by decide) rfl (fun ls hl => ?_)
            refine lv_iinc (k := 1) (v := nI (k + 1)) (lv' := [(3, .int (nI (k + 1))), (2, .int (r + 0)), (0, .ref mo), (1, .int k0)]) C.x C.b md_M_figure_47 hl rfl (nI_1 _) (by decide) rfl (fun ls hl => ?_)
            refine lv_goto (tgt := 22) C.x C.b md_M_figure_50 (by decide) ?_
            exact ih (k + 1) (r + 0) ls (by omega) (mf_sstep hq i0 (by first | (simp [h6, Int32.not_le.mp h6, h7]; done) | (exfalso; simp_all; done))) (lv_sub hl [0, 1, 2, 3] rfl)
          · skip
            refine lv_iconst (v := 1) C.x C.b md_M_figure_40 (by decide) ?_
            refine lv_goto (tgt := 45) C.x C.b md_M_figure_41 (by decide) ?_
            refine lv_iadd C.x C.b md_M_figure_45 ?_
            refine lv_istore_n (lv' := [(2, .int (r + 1)), (3, .int (nI k)), (0, .ref mo), (1, .int k0)]) C.x C.b md_M_figure_46 rfl hl (by decide) rfl (fun ls hl => ?_)
            refine lv_iinc (k := 1) (v := nI (k + 1)) (lv' := [(3, .int (nI (k + 1))), (2, .int (r + 1)), (0, .ref mo), (1, .int k0)]) C.x C.b md_M_figure_47 hl rfl (nI_1 _) (by decide) rfl (fun ls hl => ?_)
            refine lv_goto (tgt := 22) C.x C.b md_M_figure_50 (by decide) ?_
            exact ih (k + 1) (r + 1) ls (by omega) (mf_sstep hq i0 (by first | (simp [h6, Int32.not_le.mp h6, h7]; done) | (exfalso; simp_all; done))) (lv_sub hl [0, 1, 2, 3] rfl)
    exact loop R.length 0 0 ls (by omega) rfl (lv_sub hl [0, 1, 2, 3] rfl)
set_option maxRecDepth 100000 in
set_option maxHeartbeats 4000000 in
theorem k_M_withdraw (l : Launch) (D : va_G) (k5 : mf_k5) (t0 : Nat × Nat) (A : Nat → Prop) (H : Heap) (mo : Nat) (aa : Nat → Nat) (cd ck sp mt : Int32) (R : List mf_T) (g : mf_G) (o0 : Int32) (hM : mf_MD D k5 A H mo aa cd (R, ck, sp, mt, g)) : mf_cWR l my_M_withdraw mc_M_withdraw 4 (some .int) { frames := 1, cells := 0, slots := 0, locals := 22 } D (mf_tys k5) t0 A H [.ref mo, .int o0] (some (.int (rf_withdraw o0 (R, ck, sp, mt, g)).1.2)) (fun H1 => mf_MD D k5 A H1 mo aa (nI (rf_withdraw o0 (R, ck, sp, mt, g)).1.1) (rf_withdraw o0 (R, ck, sp, mt, g)).2) (A) 0 0 := by
  obtain ⟨f0, f1, f2, f3, f4, f5, f6, f7, f8, f9, f10, hP, hD, hle, hRF, hRG⟩ := id hM
  have hP : va_P D mf_cl [(mo, .inr (4, [.int cd, .int (nI R.length), .int ck, .ref (aa 0), .ref (aa 1), .ref (aa 2), .ref (aa 3), .ref (aa 4), .ref (aa 5), .ref (aa 6), .int (nI g.1), .ref (aa 7), .ref (aa 8), .ref (aa 9), .ref (aa 10), .int g.2.1, .long g.2.2.2.1, .int g.2.2.1, .int sp, .int mt])), (aa 0, .inl (k5.2.2.1, 40, .inl f0)), (aa 1, .inl (k5.2.2.1, 40, .inl f1)), (aa 2, .inl (k5.2.2.1, 40, .inl f2)), (aa 3, .inl (k5.2.2.1, 40, .inl f3)), (aa 4, .inl (k5.2.2.1, 40, .inl f4)), (aa 5, .inl (k5.2.2.1, 40, .inl f5)), (aa 6, .inl (k5.2.2.2.1, 40, .inl f6)), (aa 7, .inl (k5.2.2.1, 32, .inl f7)), (aa 8, .inl (k5.2.2.1, 32, .inl f8)), (aa 9, .inl (k5.2.2.1, 32, .inl f9)), (aa 10, .inl (k5.2.2.1, 32, .inl f10))] H := hP
  have hle : R.length ≤ 40 := hle
  have hD : va_D A [(mo, .inr (4, [.int cd, .int (nI R.length), .int ck, .ref (aa 0), .ref (aa 1), .ref (aa 2), .ref (aa 3), .ref (aa 4), .ref (aa 5), .ref (aa 6), .int (nI g.1), .ref (aa 7), .ref (aa 8), .ref (aa 9), .ref (aa 10), .int g.2.1, .long g.2.2.2.1, .int g.2.2.1, .int sp, .int mt])), (aa 0, .inl (k5.2.2.1, 40, .inl f0)), (aa 1, .inl (k5.2.2.1, 40, .inl f1)), (aa 2, .inl (k5.2.2.1, 40, .inl f2)), (aa 3, .inl (k5.2.2.1, 40, .inl f3)), (aa 4, .inl (k5.2.2.1, 40, .inl f4)), (aa 5, .inl (k5.2.2.1, 40, .inl f5)), (aa 6, .inl (k5.2.2.2.1, 40, .inl f6)), (aa 7, .inl (k5.2.2.1, 32, .inl f7)), (aa 8, .inl (k5.2.2.1, 32, .inl f8)), (aa 9, .inl (k5.2.2.1, 32, .inl f9)), (aa 10, .inl (k5.2.2.1, 32, .inl f10))] := hD
  have hRF : mf_Rc R f0 f1 f2 f3 f4 f5 f6 := hRF
  have hRG : mf_Rg g f7 f8 f9 f10 := hRG
  refine mf_of (by decide) (Nat.le_of_ble_eq_true rfl) ?_
  intro p e s m below meth c ls C hH hr hlk hnm hmt hl hS
  have hl : lv_has ls 4 [(0, .ref mo), (1, .int o0)] := hl
  refine lv_aload_n C.x C.b md_M_withdraw_0 rfl (lv_at hl 0 rfl) ?_
  refine lv_iload_n C.x C.b md_M_withdraw_1 rfl (lv_at hl 1 rfl) ?_
  refine lv_iconst (v := 0) C.x C.b md_M_withdraw_2 (by decide) ?_
  refine lv_bipush (v := 7) C.x C.b md_M_withdraw_3 (by decide) ?_
  refine mf_cks (va_runS (As := [.int o0, .int 0, .int 7]) (rest := [.ref mo]) C.f (k_M_among l D k5 t0 A H o0 0 7) (mf_cS C mt_607 mt_605 mt_6 mt_606 mh_M_among ⟨by decide, by decide⟩) (mf_preS C.ev hS) rfl rfl hl.1 rfl (lv_room (Nat.le_of_ble_eq_true rfl)) md_M_withdraw_5 ⟨by first | omega | exact Nat.le_of_ble_eq_true rfl, by first | omega | exact Nat.le_of_ble_eq_true rfl⟩) ?_
  refine lv_if_eq (tgt := 15) C.x C.b md_M_withdraw_8 (by decide) (fun h1 => ?_) (fun h1 => ?_)
  · skip
    refine lv_iconst (v := 1) C.x C.b md_M_withdraw_15 (by decide) ?_
    refine va_put (D := D) (ci := 4) (v := .int 1) (ty := .int) (C := mf_RM) (T := mf_TM) (N := 20) C.x C.b C.2.2.1 mi_M mf_tyM mp_M mn_M C.o C.k hP hD hS 0 rfl rfl 0 (by decide) (C.t mt_535) (fun _ h => h) rfl (by decide +kernel) rfl rfl (Nat.le_of_ble_eq_true rfl) md_M_withdraw_16 (fun H locs hP hD hS => ?_)
    have hP : va_P D mf_cl [(mo, .inr (4, [.int 1, .int (nI R.length), .int ck, .ref (aa 0), .ref (aa 1), .ref (aa 2), .ref (aa 3), .ref (aa 4), .ref (aa 5), .ref (aa 6), .int (nI g.1), .ref (aa 7), .ref (aa 8), .ref (aa 9), .ref (aa 10), .int g.2.1, .long g.2.2.2.1, .int g.2.2.1, .int sp, .int mt])), (aa 0, .inl (k5.2.2.1, 40, .inl f0)), (aa 1, .inl (k5.2.2.1, 40, .inl f1)), (aa 2, .inl (k5.2.2.1, 40, .inl f2)), (aa 3, .inl (k5.2.2.1, 40, .inl f3)), (aa 4, .inl (k5.2.2.1, 40, .inl f4)), (aa 5, .inl (k5.2.2.1, 40, .inl f5)), (aa 6, .inl (k5.2.2.2.1, 40, .inl f6)), (aa 7, .inl (k5.2.2.1, 32, .inl f7)), (aa 8, .inl (k5.2.2.1, 32, .inl f8)), (aa 9, .inl (k5.2.2.1, 32, .inl f9)), (aa 10, .inl (k5.2.2.1, 32, .inl f10))] H := hP
    have hD : va_D A [(mo, .inr (4, [.int 1, .int (nI R.length), .int ck, .ref (aa 0), .ref (aa 1), .ref (aa 2), .ref (aa 3), .ref (aa 4), .ref (aa 5), .ref (aa 6), .int (nI g.1), .ref (aa 7), .ref (aa 8), .ref (aa 9), .ref (aa 10), .int g.2.1, .long g.2.2.2.1, .int g.2.2.1, .int sp, .int mt])), (aa 0, .inl (k5.2.2.1, 40, .inl f0)), (aa 1, .inl (k5.2.2.1, 40, .inl f1)), (aa 2, .inl (k5.2.2.1, 40, .inl f2)), (aa 3, .inl (k5.2.2.1, 40, .inl f3)), (aa 4, .inl (k5.2.2.1, 40, .inl f4)), (aa 5, .inl (k5.2.2.1, 40, .inl f5)), (aa 6, .inl (k5.2.2.2.1, 40, .inl f6)), (aa 7, .inl (k5.2.2.1, 32, .inl f7)), (aa 8, .inl (k5.2.2.1, 32, .inl f8)), (aa 9, .inl (k5.2.2.1, 32, .inl f9)), (aa 10, .inl (k5.2.2.1, 32, .inl f10))] := hD
    refine lv_iconst (v := 0) C.x C.b md_M_withdraw_19 (by decide) ?_
    refine lv_istore_n (lv' := [(2, .int 0), (0, .ref mo), (1, .int o0)]) C.x C.b md_M_withdraw_20 rfl hl (by decide) rfl (fun ls hl => ?_)
    refine lv_aload_n C.x C.b md_M_withdraw_21 rfl (lv_at hl 1 rfl) ?_
    refine mf_gf C (ci := 4) (N := 20) rfl mi_M 1 (by decide) mt_536 (hP 0 _ rfl) (v := .int (nI R.length)) rfl md_M_withdraw_22 ?_
    refine lv_iconst (v := 1) C.x C.b md_M_withdraw_25 (by decide) ?_
    refine lv_isub C.x C.b md_M_withdraw_26 ?_
    refine lv_istore_n (lv' := [(3, .int ((nI R.length) - 1)), (2, .int 0), (0, .ref mo), (1, .int o0)]) C.x C.b md_M_withdraw_27 rfl hl (by decide) rfl (fun ls hl => ?_)
    refine lv_iload_n C.x C.b md_M_withdraw_28 rfl (lv_at hl 0 rfl) ?_
    refine lv_if_lt (tgt := 63) C.x C.b md_M_withdraw_29 (by decide) (fun h2 => ?_) (fun h2 => ?_)
    · skip
      refine lv_iload_n C.x C.b md_M_withdraw_63 rfl (lv_at hl 1 rfl) ?_
      have hsp : rf_withdraw o0 (R, ck, sp, mt, g) = ((1, 0), R, ck, sp, mt, g) := by exact if_neg (mf_andF (mf_bI_0.mp h1))
      rw [hsp]
      exact mf_wi C.x C.b hr hlk md_M_withdraw_64 ⟨f0, f1, f2, f3, f4, f5, f6, f7, f8, f9, f10, hP, hD, hle, hRF, hRG⟩ (by rw [← hH]; exact ⟨hS.1, hS.2.1⟩) hH hS.2.2 (Nat.le_refl _) (Nat.le_refl _)
    · skip
      refine lv_aload_n C.x C.b md_M_withdraw_32 rfl (lv_at hl 2 rfl) ?_
      refine mf_gf C (ci := 4) (N := 20) rfl mi_M 0 (by decide) mt_535 (hP 0 _ rfl) (v := .int 1) rfl md_M_withdraw_33 ?_
      refine lv_if_ne (tgt := 63) C.x C.b md_M_withdraw_36 (by decide) (fun h3 => ?_) (fun h3 => ?_)
      · skip
        refine lv_iload_n C.x C.b md_M_withdraw_63 rfl (lv_at hl 1 rfl) ?_
        have hsp : rf_withdraw o0 (R, ck, sp, mt, g) = ((1, 0), R, ck, sp, mt, g) := by exact if_neg (mf_andF (mf_bI_0.mp h1))
        rw [hsp]
        exact mf_wi C.x C.b hr hlk md_M_withdraw_64 ⟨f0, f1, f2, f3, f4, f5, f6, f7, f8, f9, f10, hP, hD, hle, hRF, hRG⟩ (by rw [← hH]; exact ⟨hS.1, hS.2.1⟩) hH hS.2.2 (Nat.le_refl _) (Nat.le_refl _)
      · exact absurd h3 (by decide)
  · skip
    refine lv_iconst (v := 0) C.x C.b md_M_withdraw_11 (by decide) ?_
    refine lv_goto (tgt := 16) C.x C.b md_M_withdraw_12 (by decide) ?_
    refine va_put (D := D) (ci := 4) (v := .int 0) (ty := .int) (C := mf_RM) (T := mf_TM) (N := 20) C.x C.b C.2.2.1 mi_M mf_tyM mp_M mn_M C.o C.k hP hD hS 0 rfl rfl 0 (by decide) (C.t mt_535) (fun _ h => h) rfl (by decide +kernel) rfl rfl (Nat.le_of_ble_eq_true rfl) md_M_withdraw_16 (fun H locs hP hD hS => ?_)
    have hP : va_P D mf_cl [(mo, .inr (4, [.int 0, .int (nI R.length), .int ck, .ref (aa 0), .ref (aa 1), .ref (aa 2), .ref (aa 3), .ref (aa 4), .ref (aa 5), .ref (aa 6), .int (nI g.1), .ref (aa 7), .ref (aa 8), .ref (aa 9), .ref (aa 10), .int g.2.1, .long g.2.2.2.1, .int g.2.2.1, .int sp, .int mt])), (aa 0, .inl (k5.2.2.1, 40, .inl f0)), (aa 1, .inl (k5.2.2.1, 40, .inl f1)), (aa 2, .inl (k5.2.2.1, 40, .inl f2)), (aa 3, .inl (k5.2.2.1, 40, .inl f3)), (aa 4, .inl (k5.2.2.1, 40, .inl f4)), (aa 5, .inl (k5.2.2.1, 40, .inl f5)), (aa 6, .inl (k5.2.2.2.1, 40, .inl f6)), (aa 7, .inl (k5.2.2.1, 32, .inl f7)), (aa 8, .inl (k5.2.2.1, 32, .inl f8)), (aa 9, .inl (k5.2.2.1, 32, .inl f9)), (aa 10, .inl (k5.2.2.1, 32, .inl f10))] H := hP
    have hD : va_D A [(mo, .inr (4, [.int 0, .int (nI R.length), .int ck, .ref (aa 0), .ref (aa 1), .ref (aa 2), .ref (aa 3), .ref (aa 4), .ref (aa 5), .ref (aa 6), .int (nI g.1), .ref (aa 7), .ref (aa 8), .ref (aa 9), .ref (aa 10), .int g.2.1, .long g.2.2.2.1, .int g.2.2.1, .int sp, .int mt])), (aa 0, .inl (k5.2.2.1, 40, .inl f0)), (aa 1, .inl (k5.2.2.1, 40, .inl f1)), (aa 2, .inl (k5.2.2.1, 40, .inl f2)), (aa 3, .inl (k5.2.2.1, 40, .inl f3)), (aa 4, .inl (k5.2.2.1, 40, .inl f4)), (aa 5, .inl (k5.2.2.1, 40, .inl f5)), (aa 6, .inl (k5.2.2.2.1, 40, .inl f6)), (aa 7, .inl (k5.2.2.1, 32, .inl f7)), (aa 8, .inl (k5.2.2.1, 32, .inl f8)), (aa 9, .inl (k5.2.2.1, 32, .inl f9)), (aa 10, .inl (k5.2.2.1, 32, .inl f10))] := hD
    refine lv_iconst (v := 0) C.x C.b md_M_withdraw_19 (by decide) ?_
    refine lv_istore_n (lv' := [(2, .int 0), (0, .ref mo), (1, .int o0)]) C.x C.b md_M_withdraw_20 rfl hl (by decide) rfl (fun ls hl => ?_)
    refine lv_aload_n C.x C.b md_M_withdraw_21 rfl (lv_at hl 1 rfl) ?_
    refine mf_gf C (ci := 4) (N := 20) rfl mi_M 1 (by decide) mt_536 (hP 0 _ rfl) (v := .int (nI R.length)) rfl md_M_withdraw_22 ?_
    refine lv_iconst (v := 1) C.x C.b md_M_withdraw_25 (by decide) ?_
    refine lv_isub C.x C.b md_M_withdraw_26 ?_
    refine lv_istore_n (lv' := [(3, .int ((nI R.length) - 1)), (2, .int 0), (0, .ref mo), (1, .int o0)]) C.x C.b md_M_withdraw_27 rfl hl (by decide) rfl (fun ls hl => ?_)
    have hM0 : mf_MD D k5 A H mo aa 0 (R, ck, sp, mt, g) := ⟨f0, f1, f2, f3, f4, f5, f6, f7, f8, f9, f10, hP, hD, hle, hRF, hRG⟩
    have loop : ∀ (n : Nat) (ls : Array Slot) (H2 : Heap) (locs : List Loc) (R1 : List mf_T) (c1 : Int32), mf_MD D k5 A H2 mo aa 0 (R1, ck, sp, mt, g) → n ≤ R1.length → va_S A s.heap H2 locs → rf_wd o0 R.length R 0 = rf_wd o0 n R1 c1 → lv_has ls 4 [(3, .int (nI n - 1)), (2, .int c1), (0, .ref mo), (1, .int o0)] → W p l e ({ frames := 1, cells := 0, slots := 0, locals := 22 } : Room) s m (([.ref mo, .int o0] : List Value).toArray) below meth c H2 locs 0 0 (MQ below (mf_Kw (some (.int (rf_withdraw o0 (R, ck, sp, mt, g)).1.2)) (fun H1 => mf_MD D k5 A H1 mo aa (nI (rf_withdraw o0 (R, ck, sp, mt, g)).1.1) (rf_withdraw o0 (R, ck, sp, mt, g)).2) (A)) (([.ref mo, .int o0] : List Value).toArray) s 0 0 A) (F0 m 28 ls []) := by
      intro n
      induction n with
      | zero =>
        intro ls H2 locs R1 c1 hM hn hS hsp hl
        refine lv_iload_n C.x C.b md_M_withdraw_28 rfl (lv_at hl 0 rfl) ?_
        refine lv_if_lt (tgt := 63) C.x C.b md_M_withdraw_29 (by decide) (fun h4 => ?_) (fun h4 => ?_)
        · skip
          refine lv_iload_n C.x C.b md_M_withdraw_63 rfl (lv_at hl 1 rfl) ?_
          have hsp : rf_withdraw o0 (R, ck, sp, mt, g) = ((0, c1), R1, ck, sp, mt, g) := by unfold rf_withdraw; rw [if_pos ⟨(mf_andT (mf_bI_1.mp h1)).1, (mf_andT (mf_bI_1.mp h1)).2⟩]; dsimp only; rw [hsp]; rfl
          rw [hsp]
          exact mf_wi C.x C.b hr hlk md_M_withdraw_64 hM (by rw [← hH]; exact ⟨hS.1, hS.2.1⟩) hH hS.2.2 (Nat.le_refl _) (Nat.le_refl _)
        · exact absurd (by decide) h4
      | succ n ih =>
        intro ls H2 locs R1 c1 hM hn hS hsp hl
        rw [nI_pred] at hl
        have hl : lv_has ls 4 [(3, .int (nI n)), (2, .int c1), (0, .ref mo), (1, .int o0)] := hl
        obtain ⟨f0, f1, f2, f3, f4, f5, f6, f7, f8, f9, f10, hP, hD, hle, hRF, hRG⟩ := id hM
        have hP : va_P D mf_cl [(mo, .inr (4, [.int 0, .int (nI R1.length), .int ck, .ref (aa 0), .ref (aa 1), .ref (aa 2), .ref (aa 3), .ref (aa 4), .ref (aa 5), .ref (aa 6), .int (nI g.1), .ref (aa 7), .ref (aa 8), .ref (aa 9), .ref (aa 10), .int g.2.1, .long g.2.2.2.1, .int g.2.2.1, .int sp, .int mt])), (aa 0, .inl (k5.2.2.1, 40, .inl f0)), (aa 1, .inl (k5.2.2.1, 40, .inl f1)), (aa 2, .inl (k5.2.2.1, 40, .inl f2)), (aa 3, .inl (k5.2.2.1, 40, .inl f3)), (aa 4, .inl (k5.2.2.1, 40, .inl f4)), (aa 5, .inl (k5.2.2.1, 40, .inl f5)), (aa 6, .inl (k5.2.2.2.1, 40, .inl f6)), (aa 7, .inl (k5.2.2.1, 32, .inl f7)), (aa 8, .inl (k5.2.2.1, 32, .inl f8)), (aa 9, .inl (k5.2.2.1, 32, .inl f9)), (aa 10, .inl (k5.2.2.1, 32, .inl f10))] H2 := hP
        have hle : R1.length ≤ 40 := hle
        have hRF : mf_Rc R1 f0 f1 f2 f3 f4 f5 f6 := hRF
        obtain ⟨x, hq⟩ := mf_at_lt (l := R1) (k := n) (by omega)
        have hu := hRF n x hq
        have hdl := mf_drop_l hq
        refine lv_iload_n C.x C.b md_M_withdraw_28 rfl (lv_at hl 0 rfl) ?_
        refine lv_if_lt (tgt := 63) C.x C.b md_M_withdraw_29 (by decide) (fun h5 => ?_) (fun h5 => ?_)
        · exact absurd h5 (nI_pos (by omega))
        · skip
          refine lv_aload_n C.x C.b md_M_withdraw_32 rfl (lv_at hl 2 rfl) ?_
          refine mf_gf C (ci := 4) (N := 20) rfl mi_M 0 (by decide) mt_535 (hP 0 _ rfl) (v := .int 0) rfl md_M_withdraw_33 ?_
          refine lv_if_ne (tgt := 63) C.x C.b md_M_withdraw_36 (by decide) (fun h6 => ?_) (fun h6 => ?_)
          · exact absurd rfl h6
          · skip
            refine lv_aload_n C.x C.b md_M_withdraw_39 rfl (lv_at hl 2 rfl) ?_
            refine mf_gf C (ci := 4) (N := 20) rfl mi_M 4 (by decide) mt_539 (hP 0 _ rfl) (v := .ref (aa 1)) rfl md_M_withdraw_40 ?_
            refine lv_iload_n C.x C.b md_M_withdraw_43 rfl (lv_at hl 0 rfl) ?_
            refine mf_iv C (t := 2) rfl (hP 2 _ rfl) (by omega) (by decide) hu.2.1 md_M_withdraw_44 ?_
            refine lv_iload_n C.x C.b md_M_withdraw_45 rfl (lv_at hl 3 rfl) ?_
            refine lv_icmp_ne (tgt := 57) C.x C.b md_M_withdraw_46 (by decide) (fun h7 => ?_) (fun h7 => ?_)
            · skip
              refine lv_iinc (k := 0) (v := (nI n) + (-1)) (lv' := [(3, .int ((nI n) + (-1))), (2, .int c1), (0, .ref mo), (1, .int o0)]) C.x C.b md_M_withdraw_57 hl rfl rfl (by decide) rfl (fun ls hl => ?_)
              refine lv_goto (tgt := 28) C.x C.b md_M_withdraw_60 (by decide) ?_
              rw [mf_m1] at hl
              exact ih ls _ _ R1 c1 hM (by omega) hS (hsp.trans (by rw [rf_wd, hq]; exact if_neg h7)) (lv_sub hl [0, 1, 2, 3] rfl)
            · skip
              refine lv_aload_n C.x C.b md_M_withdraw_49 rfl (lv_at hl 2 rfl) ?_
              refine lv_iload_n C.x C.b md_M_withdraw_50 rfl (lv_at hl 0 rfl) ?_
              refine mf_cwn (va_runV (As := [.int (nI n)]) (rest := []) C.f (k_M_drop l D k5 t0 A H2 mo aa 0 ck sp mt R1 g n x hM hq) (mf_cV C mt_640 mt_637 mt_6 mt_639 ms_34 mh_M_drop ⟨by decide, by decide⟩) (mf_preV C.ev hS (mf_rv C (ci := 4) (N := 20) rfl (hP 0 _ rfl))) rfl rfl hl.1 rfl (lv_room (Nat.le_of_ble_eq_true rfl)) md_M_withdraw_51 ⟨by first | omega | exact Nat.le_of_ble_eq_true rfl, by first | omega | exact Nat.le_of_ble_eq_true rfl⟩) hS (fun _ _ h => h) (fun H locs hM3 hz3 hk3 hS => ?_)
              refine lv_iinc (k := 1) (v := c1 + 1) (lv' := [(2, .int (c1 + 1)), (3, .int (nI n)), (0, .ref mo), (1, .int o0)]) C.x C.b md_M_withdraw_54 hl rfl rfl (by decide) rfl (fun ls hl => ?_)
              refine lv_iinc (k := 1) (v := (nI n) + (-1)) (lv' := [(3, .int ((nI n) + (-1))), (2, .int (c1 + 1)), (0, .ref mo), (1, .int o0)]) C.x C.b md_M_withdraw_57 hl rfl rfl (by decide) rfl (fun ls hl => ?_)
              refine lv_goto (tgt := 28) C.x C.b md_M_withdraw_60 (by decide) ?_
              rw [mf_m1] at hl
              exact ih ls _ _ (rf_drop R1 n) (c1 + 1) hM3 (by omega) hS (hsp.trans (by rw [rf_wd, hq]; exact if_pos h7)) (lv_sub hl [0, 1, 2, 3] rfl)
    exact loop R.length ls H _ R 0 hM0 (Nat.le_refl _) hS rfl (lv_sub hl [0, 1, 2, 3] rfl)
set_option maxRecDepth 100000 in
set_option maxHeartbeats 4000000 in
theorem k_M_levels (l : Launch) (D : va_G) (k5 : mf_k5) (t0 : Nat × Nat) (A : Nat → Prop) (H : Heap) (mo : Nat) (aa : Nat → Nat) (cd ck sp mt : Int32) (R : List mf_T) (g : mf_G) (s0 : Int32) (L : List mf_O) (hM : mf_MD D k5 A H mo aa cd (R, ck, sp, mt, g)) (hpr : ∀ x ∈ R, mf_pr x.1 ≠ 0) (hnx : ∀ b, rf_next s0 b R = mf_next s0 b L) (hll : L.length ≤ 40) (hok : ∀ r ∈ L, mf_ok r) : mf_cWR l my_M_levels mc_M_levels 4 (some .int) { frames := 1, cells := 0, slots := 0, locals := 25 } D (mf_tys k5) t0 A H [.ref mo, .int s0] (some (.int (rf_levels s0 (R, ck, sp, mt, g)).2)) (fun H1 => mf_MD D k5 A H1 mo aa (nI (rf_levels s0 (R, ck, sp, mt, g)).1) (R, ck, sp, mt, g)) (A) 0 0 := by
  obtain ⟨f0, f1, f2, f3, f4, f5, f6, f7, f8, f9, f10, hP, hD, hle, hRF, hRG⟩ := id hM
  have hP : va_P D mf_cl [(mo, .inr (4, [.int cd, .int (nI R.length), .int ck, .ref (aa 0), .ref (aa 1), .ref (aa 2), .ref (aa 3), .ref (aa 4), .ref (aa 5), .ref (aa 6), .int (nI g.1), .ref (aa 7), .ref (aa 8), .ref (aa 9), .ref (aa 10), .int g.2.1, .long g.2.2.2.1, .int g.2.2.1, .int sp, .int mt])), (aa 0, .inl (k5.2.2.1, 40, .inl f0)), (aa 1, .inl (k5.2.2.1, 40, .inl f1)), (aa 2, .inl (k5.2.2.1, 40, .inl f2)), (aa 3, .inl (k5.2.2.1, 40, .inl f3)), (aa 4, .inl (k5.2.2.1, 40, .inl f4)), (aa 5, .inl (k5.2.2.1, 40, .inl f5)), (aa 6, .inl (k5.2.2.2.1, 40, .inl f6)), (aa 7, .inl (k5.2.2.1, 32, .inl f7)), (aa 8, .inl (k5.2.2.1, 32, .inl f8)), (aa 9, .inl (k5.2.2.1, 32, .inl f9)), (aa 10, .inl (k5.2.2.1, 32, .inl f10))] H := hP
  have hle : R.length ≤ 40 := hle
  have hD : va_D A [(mo, .inr (4, [.int cd, .int (nI R.length), .int ck, .ref (aa 0), .ref (aa 1), .ref (aa 2), .ref (aa 3), .ref (aa 4), .ref (aa 5), .ref (aa 6), .int (nI g.1), .ref (aa 7), .ref (aa 8), .ref (aa 9), .ref (aa 10), .int g.2.1, .long g.2.2.2.1, .int g.2.2.1, .int sp, .int mt])), (aa 0, .inl (k5.2.2.1, 40, .inl f0)), (aa 1, .inl (k5.2.2.1, 40, .inl f1)), (aa 2, .inl (k5.2.2.1, 40, .inl f2)), (aa 3, .inl (k5.2.2.1, 40, .inl f3)), (aa 4, .inl (k5.2.2.1, 40, .inl f4)), (aa 5, .inl (k5.2.2.1, 40, .inl f5)), (aa 6, .inl (k5.2.2.2.1, 40, .inl f6)), (aa 7, .inl (k5.2.2.1, 32, .inl f7)), (aa 8, .inl (k5.2.2.1, 32, .inl f8)), (aa 9, .inl (k5.2.2.1, 32, .inl f9)), (aa 10, .inl (k5.2.2.1, 32, .inl f10))] := hD
  have hRF : mf_Rc R f0 f1 f2 f3 f4 f5 f6 := hRF
  have hRG : mf_Rg g f7 f8 f9 f10 := hRG
  refine mf_of (by decide) (Nat.le_of_ble_eq_true rfl) ?_
  intro p e s m below meth c ls C hH hr hlk hnm hmt hl hS
  have hl : lv_has ls 4 [(0, .ref mo), (1, .int s0)] := hl
  refine lv_aload_n C.x C.b md_M_levels_0 rfl (lv_at hl 0 rfl) ?_
  refine lv_iload_n C.x C.b md_M_levels_1 rfl (lv_at hl 1 rfl) ?_
  refine lv_iconst (v := 0) C.x C.b md_M_levels_2 (by decide) ?_
  refine lv_iconst (v := 1) C.x C.b md_M_levels_3 (by decide) ?_
  refine mf_cks (va_runS (As := [.int s0, .int 0, .int 1]) (rest := [.ref mo]) C.f (k_M_among l D k5 t0 A H s0 0 1) (mf_cS C mt_607 mt_605 mt_6 mt_606 mh_M_among ⟨by decide, by decide⟩) (mf_preS C.ev hS) rfl rfl hl.1 rfl (lv_room (Nat.le_of_ble_eq_true rfl)) md_M_levels_4 ⟨by first | omega | exact Nat.le_of_ble_eq_true rfl, by first | omega | exact Nat.le_of_ble_eq_true rfl⟩) ?_
  refine lv_if_eq (tgt := 14) C.x C.b md_M_levels_7 (by decide) (fun h1 => ?_) (fun h1 => ?_)
  · skip
    refine lv_iconst (v := 1) C.x C.b md_M_levels_14 (by decide) ?_
    refine va_put (D := D) (ci := 4) (v := .int 1) (ty := .int) (C := mf_RM) (T := mf_TM) (N := 20) C.x C.b C.2.2.1 mi_M mf_tyM mp_M mn_M C.o C.k hP hD hS 0 rfl rfl 0 (by decide) (C.t mt_535) (fun _ h => h) rfl (by decide +kernel) rfl rfl (Nat.le_of_ble_eq_true rfl) md_M_levels_15 (fun H locs hP hD hS => ?_)
    have hP : va_P D mf_cl [(mo, .inr (4, [.int 1, .int (nI R.length), .int ck, .ref (aa 0), .ref (aa 1), .ref (aa 2), .ref (aa 3), .ref (aa 4), .ref (aa 5), .ref (aa 6), .int (nI g.1), .ref (aa 7), .ref (aa 8), .ref (aa 9), .ref (aa 10), .int g.2.1, .long g.2.2.2.1, .int g.2.2.1, .int sp, .int mt])), (aa 0, .inl (k5.2.2.1, 40, .inl f0)), (aa 1, .inl (k5.2.2.1, 40, .inl f1)), (aa 2, .inl (k5.2.2.1, 40, .inl f2)), (aa 3, .inl (k5.2.2.1, 40, .inl f3)), (aa 4, .inl (k5.2.2.1, 40, .inl f4)), (aa 5, .inl (k5.2.2.1, 40, .inl f5)), (aa 6, .inl (k5.2.2.2.1, 40, .inl f6)), (aa 7, .inl (k5.2.2.1, 32, .inl f7)), (aa 8, .inl (k5.2.2.1, 32, .inl f8)), (aa 9, .inl (k5.2.2.1, 32, .inl f9)), (aa 10, .inl (k5.2.2.1, 32, .inl f10))] H := hP
    have hD : va_D A [(mo, .inr (4, [.int 1, .int (nI R.length), .int ck, .ref (aa 0), .ref (aa 1), .ref (aa 2), .ref (aa 3), .ref (aa 4), .ref (aa 5), .ref (aa 6), .int (nI g.1), .ref (aa 7), .ref (aa 8), .ref (aa 9), .ref (aa 10), .int g.2.1, .long g.2.2.2.1, .int g.2.2.1, .int sp, .int mt])), (aa 0, .inl (k5.2.2.1, 40, .inl f0)), (aa 1, .inl (k5.2.2.1, 40, .inl f1)), (aa 2, .inl (k5.2.2.1, 40, .inl f2)), (aa 3, .inl (k5.2.2.1, 40, .inl f3)), (aa 4, .inl (k5.2.2.1, 40, .inl f4)), (aa 5, .inl (k5.2.2.1, 40, .inl f5)), (aa 6, .inl (k5.2.2.2.1, 40, .inl f6)), (aa 7, .inl (k5.2.2.1, 32, .inl f7)), (aa 8, .inl (k5.2.2.1, 32, .inl f8)), (aa 9, .inl (k5.2.2.1, 32, .inl f9)), (aa 10, .inl (k5.2.2.1, 32, .inl f10))] := hD
    refine lv_iconst (v := 0) C.x C.b md_M_levels_18 (by decide) ?_
    refine lv_istore_n (lv' := [(2, .int 0), (0, .ref mo), (1, .int s0)]) C.x C.b md_M_levels_19 rfl hl (by decide) rfl (fun ls hl => ?_)
    refine lv_aload_n C.x C.b md_M_levels_20 rfl (lv_at hl 1 rfl) ?_
    refine mf_gf C (ci := 4) (N := 20) rfl mi_M 0 (by decide) mt_535 (hP 0 _ rfl) (v := .int 1) rfl md_M_levels_21 ?_
    refine lv_if_le (tgt := 31) C.x C.b md_M_levels_24 (by decide) (fun h2 => ?_) (fun h2 => ?_)
    · exact absurd h2 (by decide)
    · skip
      refine lv_iconst (v := 0) C.x C.b md_M_levels_27 (by decide) ?_
      refine lv_goto (tgt := 37) C.x C.b md_M_levels_28 (by decide) ?_
      refine lv_istore_n (lv' := [(3, .int 0), (2, .int 0), (0, .ref mo), (1, .int s0)]) C.x C.b md_M_levels_37 rfl hl (by decide) rfl (fun ls hl => ?_)
      refine lv_iload_n C.x C.b md_M_levels_38 rfl (lv_at hl 0 rfl) ?_
      refine lv_if_le (tgt := 55) C.x C.b md_M_levels_39 (by decide) (fun h3 => ?_) (fun h3 => ?_)
      · skip
        refine lv_iload_n C.x C.b md_M_levels_55 rfl (lv_at hl 1 rfl) ?_
        have hsp : rf_levels s0 (R, ck, sp, mt, g) = (1, 0) := by exact if_neg (mf_no01 (mf_andF (mf_bI_0.mp h1)))
        rw [hsp]
        exact mf_wi C.x C.b hr hlk md_M_levels_56 ⟨f0, f1, f2, f3, f4, f5, f6, f7, f8, f9, f10, hP, hD, hle, hRF, hRG⟩ (by rw [← hH]; exact ⟨hS.1, hS.2.1⟩) hH hS.2.2 (Nat.le_refl _) (Nat.le_refl _)
      · exact absurd (by decide) h3
  · skip
    refine lv_iconst (v := 0) C.x C.b md_M_levels_10 (by decide) ?_
    refine lv_goto (tgt := 15) C.x C.b md_M_levels_11 (by decide) ?_
    refine va_put (D := D) (ci := 4) (v := .int 0) (ty := .int) (C := mf_RM) (T := mf_TM) (N := 20) C.x C.b C.2.2.1 mi_M mf_tyM mp_M mn_M C.o C.k hP hD hS 0 rfl rfl 0 (by decide) (C.t mt_535) (fun _ h => h) rfl (by decide +kernel) rfl rfl (Nat.le_of_ble_eq_true rfl) md_M_levels_15 (fun H locs hP hD hS => ?_)
    have hP : va_P D mf_cl [(mo, .inr (4, [.int 0, .int (nI R.length), .int ck, .ref (aa 0), .ref (aa 1), .ref (aa 2), .ref (aa 3), .ref (aa 4), .ref (aa 5), .ref (aa 6), .int (nI g.1), .ref (aa 7), .ref (aa 8), .ref (aa 9), .ref (aa 10), .int g.2.1, .long g.2.2.2.1, .int g.2.2.1, .int sp, .int mt])), (aa 0, .inl (k5.2.2.1, 40, .inl f0)), (aa 1, .inl (k5.2.2.1, 40, .inl f1)), (aa 2, .inl (k5.2.2.1, 40, .inl f2)), (aa 3, .inl (k5.2.2.1, 40, .inl f3)), (aa 4, .inl (k5.2.2.1, 40, .inl f4)), (aa 5, .inl (k5.2.2.1, 40, .inl f5)), (aa 6, .inl (k5.2.2.2.1, 40, .inl f6)), (aa 7, .inl (k5.2.2.1, 32, .inl f7)), (aa 8, .inl (k5.2.2.1, 32, .inl f8)), (aa 9, .inl (k5.2.2.1, 32, .inl f9)), (aa 10, .inl (k5.2.2.1, 32, .inl f10))] H := hP
    have hD : va_D A [(mo, .inr (4, [.int 0, .int (nI R.length), .int ck, .ref (aa 0), .ref (aa 1), .ref (aa 2), .ref (aa 3), .ref (aa 4), .ref (aa 5), .ref (aa 6), .int (nI g.1), .ref (aa 7), .ref (aa 8), .ref (aa 9), .ref (aa 10), .int g.2.1, .long g.2.2.2.1, .int g.2.2.1, .int sp, .int mt])), (aa 0, .inl (k5.2.2.1, 40, .inl f0)), (aa 1, .inl (k5.2.2.1, 40, .inl f1)), (aa 2, .inl (k5.2.2.1, 40, .inl f2)), (aa 3, .inl (k5.2.2.1, 40, .inl f3)), (aa 4, .inl (k5.2.2.1, 40, .inl f4)), (aa 5, .inl (k5.2.2.1, 40, .inl f5)), (aa 6, .inl (k5.2.2.2.1, 40, .inl f6)), (aa 7, .inl (k5.2.2.1, 32, .inl f7)), (aa 8, .inl (k5.2.2.1, 32, .inl f8)), (aa 9, .inl (k5.2.2.1, 32, .inl f9)), (aa 10, .inl (k5.2.2.1, 32, .inl f10))] := hD
    have hM0 : mf_MD D k5 A H mo aa 0 (R, ck, sp, mt, g) := ⟨f0, f1, f2, f3, f4, f5, f6, f7, f8, f9, f10, hP, hD, hle, hRF, hRG⟩
    refine lv_iconst (v := 0) C.x C.b md_M_levels_18 (by decide) ?_
    refine lv_istore_n (lv' := [(2, .int 0), (0, .ref mo), (1, .int s0)]) C.x C.b md_M_levels_19 rfl hl (by decide) rfl (fun ls hl => ?_)
    refine lv_aload_n C.x C.b md_M_levels_20 rfl (lv_at hl 1 rfl) ?_
    refine mf_gf C (ci := 4) (N := 20) rfl mi_M 0 (by decide) mt_535 (hP 0 _ rfl) (v := .int 0) rfl md_M_levels_21 ?_
    refine lv_if_le (tgt := 31) C.x C.b md_M_levels_24 (by decide) (fun h4 => ?_) (fun h4 => ?_)
    · skip
      refine lv_aload_n C.x C.b md_M_levels_31 rfl (lv_at hl 1 rfl) ?_
      refine lv_iload_n C.x C.b md_M_levels_32 rfl (lv_at hl 2 rfl) ?_
      refine lv_iconst (v := 0) C.x C.b md_M_levels_33 (by decide) ?_
      refine mf_cks (va_runV (As := [.int s0, .int 0]) (rest := []) C.f (k_M_next l D k5 t0 A H mo aa 0 ck sp mt R g s0 0 hM0 hpr) (mf_cV C mt_680 mt_677 mt_6 mt_679 ms_40 mh_M_nextPrice ⟨by decide, by decide⟩) (mf_preV C.ev hS (mf_rv C (ci := 4) (N := 20) rfl (hP 0 _ rfl))) rfl rfl hl.1 rfl (lv_room (Nat.le_of_ble_eq_true rfl)) md_M_levels_34 ⟨by first | omega | exact Nat.le_of_ble_eq_true rfl, by first | omega | exact Nat.le_of_ble_eq_true rfl⟩) ?_
      refine lv_istore_n (lv' := [(3, .int (rf_next s0 0 R)), (2, .int 0), (0, .ref mo), (1, .int s0)]) C.x C.b md_M_levels_37 rfl hl (by decide) rfl (fun ls hl => ?_)
      have hsp : rf_levels s0 (R, ck, sp, mt, g) = (0, nI (mf_lv (fun b => rf_next s0 b R) 40 (rf_next s0 0 R) 0)) := if_pos (mf_is01 ⟨(mf_andT (mf_bI_1.mp h1)).1, (mf_andT (mf_bI_1.mp h1)).2⟩)
      rw [hsp]
      have loop : ∀ (n k : Nat) (p0 : Int32) (ls : Array Slot), mf_Fu s0 L n p0 → mf_lv (fun b => rf_next s0 b R) n p0 k = mf_lv (fun b => rf_next s0 b R) 40 (rf_next s0 0 R) 0 → lv_has ls 4 [(3, .int p0), (2, .int (nI k)), (0, .ref mo), (1, .int s0)] → W p l e ({ frames := 1, cells := 0, slots := 0, locals := 25 } : Room) s m (([.ref mo, .int s0] : List Value).toArray) below meth c H locs 0 0 (MQ below (mf_Kw (some (.int ((0, nI (mf_lv (fun b => rf_next s0 b R) 40 (rf_next s0 0 R) 0)) : mf_A).2)) (fun H1 => mf_MD D k5 A H1 mo aa (nI ((0, nI (mf_lv (fun b => rf_next s0 b R) 40 (rf_next s0 0 R) 0)) : mf_A).1) (R, ck, sp, mt, g)) (A)) (([.ref mo, .int s0] : List Value).toArray) s 0 0 A) (F0 m 38 ls []) := by
        intro n
        induction n with
        | zero =>
          intro k p0 ls i0 i1 hl
          refine lv_iload_n C.x C.b md_M_levels_38 rfl (lv_at hl 0 rfl) ?_
          refine lv_if_le (tgt := 55) C.x C.b md_M_levels_39 (by decide) (fun h5 => ?_) (fun h5 => ?_)
          · skip
            refine lv_iload_n C.x C.b md_M_levels_55 rfl (lv_at hl 1 rfl) ?_
            rw [← i1, i0.zero, mf_lv_0]
            exact mf_wi C.x C.b hr hlk md_M_levels_56 ⟨f0, f1, f2, f3, f4, f5, f6, f7, f8, f9, f10, hP, hD, hle, hRF, hRG⟩ (by rw [← hH]; exact ⟨hS.1, hS.2.1⟩) hH hS.2.2 (Nat.le_refl _) (Nat.le_refl _)
          · exact absurd i0.zero (mf_gt0 h5)
        | succ n ih =>
          intro k p0 ls i0 i1 hl
          refine lv_iload_n C.x C.b md_M_levels_38 rfl (lv_at hl 0 rfl) ?_
          refine lv_if_le (tgt := 55) C.x C.b md_M_levels_39 (by decide) (fun h6 => ?_) (fun h6 => ?_)
          · skip
            refine lv_iload_n C.x C.b md_M_levels_55 rfl (lv_at hl 1 rfl) ?_
            rw [← i1, mf_le0 i0.1 h6, mf_lv_0]
            exact mf_wi C.x C.b hr hlk md_M_levels_56 ⟨f0, f1, f2, f3, f4, f5, f6, f7, f8, f9, f10, hP, hD, hle, hRF, hRG⟩ (by rw [← hH]; exact ⟨hS.1, hS.2.1⟩) hH hS.2.2 (Nat.le_refl _) (Nat.le_refl _)
          · skip
            refine lv_iinc (k := 1) (v := nI (k + 1)) (lv' := [(2, .int (nI (k + 1))), (3, .int p0), (0, .ref mo), (1, .int s0)]) C.x C.b md_M_levels_42 hl rfl (nI_1 _) (by decide) rfl (fun ls hl => ?_)
            refine lv_aload_n C.x C.b md_M_levels_45 rfl (lv_at hl 2 rfl) ?_
            refine lv_iload_n C.x C.b md_M_levels_46 rfl (lv_at hl 3 rfl) ?_
            refine lv_iload_n C.x C.b md_M_levels_47 rfl (lv_at hl 1 rfl) ?_
            refine mf_cks (va_runV (As := [.int s0, .int p0]) (rest := []) C.f (k_M_next l D k5 t0 A H mo aa 0 ck sp mt R g s0 p0 hM0 hpr) (mf_cV C mt_680 mt_677 mt_6 mt_679 ms_40 mh_M_nextPrice ⟨by decide, by decide⟩) (mf_preV C.ev hS (mf_rv C (ci := 4) (N := 20) rfl (hP 0 _ rfl))) rfl rfl hl.1 rfl (lv_room (Nat.le_of_ble_eq_true rfl)) md_M_levels_48 ⟨by first | omega | exact Nat.le_of_ble_eq_true rfl, by first | omega | exact Nat.le_of_ble_eq_true rfl⟩) ?_
            refine lv_istore_n (lv' := [(3, .int (rf_next s0 p0 R)), (2, .int (nI (k + 1))), (0, .ref mo), (1, .int s0)]) C.x C.b md_M_levels_51 rfl hl (by decide) rfl (fun ls hl => ?_)
            refine lv_goto (tgt := 38) C.x C.b md_M_levels_52 (by decide) ?_
            exact ih (k + 1) _ ls (by rw [hnx]; exact i0.step hok (mf_gt0 h6)) (by rw [← i1, mf_lv_1 _ _ _ (mf_gt0 h6)]) (lv_sub hl [0, 1, 2, 3] rfl)
      exact loop 40 0 _ ls (by rw [hnx]; exact mf_Fu.start hll hok) rfl (lv_sub hl [0, 1, 2, 3] rfl)
    · exact absurd (by decide) h4
set_option maxRecDepth 100000 in
set_option maxHeartbeats 4000000 in
theorem k_M_order (l : Launch) (D : va_G) (k5 : mf_k5) (t0 : Nat × Nat) (A : Nat → Prop) (H : Heap) (mo : Nat) (aa : Nat → Nat) (cd ck sp mt : Int32) (R : List mf_T) (g : mf_G) (i w0 : Int32) (hM : mf_MD D k5 A H mo aa cd (R, ck, sp, mt, g)) : mf_cWR l my_M_order mc_M_order 7 (some .int) { frames := 1, cells := 0, slots := 0, locals := 23 } D (mf_tys k5) t0 A H [.ref mo, .int i, .int w0] (some (.int (rf_ordr i w0 (R, ck, sp, mt, g)).2)) (fun H1 => mf_MD D k5 A H1 mo aa (nI (rf_ordr i w0 (R, ck, sp, mt, g)).1) (R, ck, sp, mt, g)) (A) 0 0 := by
  obtain ⟨f0, f1, f2, f3, f4, f5, f6, f7, f8, f9, f10, hP, hD, hle, hRF, hRG⟩ := id hM
  have hP : va_P D mf_cl [(mo, .inr (4, [.int cd, .int (nI R.length), .int ck, .ref (aa 0), .ref (aa 1), .ref (aa 2), .ref (aa 3), .ref (aa 4), .ref (aa 5), .ref (aa 6), .int (nI g.1), .ref (aa 7), .ref (aa 8), .ref (aa 9), .ref (aa 10), .int g.2.1, .long g.2.2.2.1, .int g.2.2.1, .int sp, .int mt])), (aa 0, .inl (k5.2.2.1, 40, .inl f0)), (aa 1, .inl (k5.2.2.1, 40, .inl f1)), (aa 2, .inl (k5.2.2.1, 40, .inl f2)), (aa 3, .inl (k5.2.2.1, 40, .inl f3)), (aa 4, .inl (k5.2.2.1, 40, .inl f4)), (aa 5, .inl (k5.2.2.1, 40, .inl f5)), (aa 6, .inl (k5.2.2.2.1, 40, .inl f6)), (aa 7, .inl (k5.2.2.1, 32, .inl f7)), (aa 8, .inl (k5.2.2.1, 32, .inl f8)), (aa 9, .inl (k5.2.2.1, 32, .inl f9)), (aa 10, .inl (k5.2.2.1, 32, .inl f10))] H := hP
  have hle : R.length ≤ 40 := hle
  have hD : va_D A [(mo, .inr (4, [.int cd, .int (nI R.length), .int ck, .ref (aa 0), .ref (aa 1), .ref (aa 2), .ref (aa 3), .ref (aa 4), .ref (aa 5), .ref (aa 6), .int (nI g.1), .ref (aa 7), .ref (aa 8), .ref (aa 9), .ref (aa 10), .int g.2.1, .long g.2.2.2.1, .int g.2.2.1, .int sp, .int mt])), (aa 0, .inl (k5.2.2.1, 40, .inl f0)), (aa 1, .inl (k5.2.2.1, 40, .inl f1)), (aa 2, .inl (k5.2.2.1, 40, .inl f2)), (aa 3, .inl (k5.2.2.1, 40, .inl f3)), (aa 4, .inl (k5.2.2.1, 40, .inl f4)), (aa 5, .inl (k5.2.2.1, 40, .inl f5)), (aa 6, .inl (k5.2.2.2.1, 40, .inl f6)), (aa 7, .inl (k5.2.2.1, 32, .inl f7)), (aa 8, .inl (k5.2.2.1, 32, .inl f8)), (aa 9, .inl (k5.2.2.1, 32, .inl f9)), (aa 10, .inl (k5.2.2.1, 32, .inl f10))] := hD
  have hRF : mf_Rc R f0 f1 f2 f3 f4 f5 f6 := hRF
  have hRG : mf_Rg g f7 f8 f9 f10 := hRG
  refine mf_of (by decide) (Nat.le_of_ble_eq_true rfl) ?_
  intro p e s m below meth c ls C hH hr hlk hnm hmt hl hS
  have hl : lv_has ls 7 [(0, .ref mo), (1, .int i), (2, .int w0)] := hl
  refine lv_aload_n C.x C.b md_M_order_0 rfl (lv_at hl 0 rfl) ?_
  refine lv_iload_n C.x C.b md_M_order_1 rfl (lv_at hl 1 rfl) ?_
  refine mf_cks (va_runV (As := [.int i]) (rest := []) C.f (k_M_find l D k5 t0 A H mo aa cd ck sp mt R g i hM) (mf_cV C mt_612 mt_609 mt_6 mt_611 ms_27 mh_M_find ⟨by decide, by decide⟩) (mf_preV C.ev hS (mf_rv C (ci := 4) (N := 20) rfl (hP 0 _ rfl))) rfl rfl hl.1 rfl (lv_room (Nat.le_of_ble_eq_true rfl)) md_M_order_2 ⟨by first | omega | exact Nat.le_of_ble_eq_true rfl, by first | omega | exact Nat.le_of_ble_eq_true rfl⟩) ?_
  rcases hp : rf_find i R with _ | ⟨k, x⟩
  · rw [show mf_ix (none : Option (Nat × mf_T)) = -1 from rfl]
    refine lv_istore_n (lv' := [(3, .int (-1)), (0, .ref mo), (1, .int i), (2, .int w0)]) C.x C.b md_M_order_5 rfl hl (by decide) rfl (fun ls hl => ?_)
    refine lv_aload_n C.x C.b md_M_order_6 rfl (lv_at hl 1 rfl) ?_
    refine lv_iload_n C.x C.b md_M_order_7 rfl (lv_at hl 0 rfl) ?_
    refine lv_if_ge (tgt := 15) C.x C.b md_M_order_8 (by decide) (fun h1 => ?_) (fun h1 => ?_)
    · exact absurd h1 (by decide)
    · skip
      refine lv_iconst (v := 1) C.x C.b md_M_order_11 (by decide) ?_
      refine lv_goto (tgt := 29) C.x C.b md_M_order_12 (by decide) ?_
      refine va_put (D := D) (ci := 4) (v := .int 1) (ty := .int) (C := mf_RM) (T := mf_TM) (N := 20) C.x C.b C.2.2.1 mi_M mf_tyM mp_M mn_M C.o C.k hP hD hS 0 rfl rfl 0 (by decide) (C.t mt_535) (fun _ h => h) rfl (by decide +kernel) rfl rfl (Nat.le_of_ble_eq_true rfl) md_M_order_29 (fun H locs hP hD hS => ?_)
      have hP : va_P D mf_cl [(mo, .inr (4, [.int 1, .int (nI R.length), .int ck, .ref (aa 0), .ref (aa 1), .ref (aa 2), .ref (aa 3), .ref (aa 4), .ref (aa 5), .ref (aa 6), .int (nI g.1), .ref (aa 7), .ref (aa 8), .ref (aa 9), .ref (aa 10), .int g.2.1, .long g.2.2.2.1, .int g.2.2.1, .int sp, .int mt])), (aa 0, .inl (k5.2.2.1, 40, .inl f0)), (aa 1, .inl (k5.2.2.1, 40, .inl f1)), (aa 2, .inl (k5.2.2.1, 40, .inl f2)), (aa 3, .inl (k5.2.2.1, 40, .inl f3)), (aa 4, .inl (k5.2.2.1, 40, .inl f4)), (aa 5, .inl (k5.2.2.1, 40, .inl f5)), (aa 6, .inl (k5.2.2.2.1, 40, .inl f6)), (aa 7, .inl (k5.2.2.1, 32, .inl f7)), (aa 8, .inl (k5.2.2.1, 32, .inl f8)), (aa 9, .inl (k5.2.2.1, 32, .inl f9)), (aa 10, .inl (k5.2.2.1, 32, .inl f10))] H := hP
      have hD : va_D A [(mo, .inr (4, [.int 1, .int (nI R.length), .int ck, .ref (aa 0), .ref (aa 1), .ref (aa 2), .ref (aa 3), .ref (aa 4), .ref (aa 5), .ref (aa 6), .int (nI g.1), .ref (aa 7), .ref (aa 8), .ref (aa 9), .ref (aa 10), .int g.2.1, .long g.2.2.2.1, .int g.2.2.1, .int sp, .int mt])), (aa 0, .inl (k5.2.2.1, 40, .inl f0)), (aa 1, .inl (k5.2.2.1, 40, .inl f1)), (aa 2, .inl (k5.2.2.1, 40, .inl f2)), (aa 3, .inl (k5.2.2.1, 40, .inl f3)), (aa 4, .inl (k5.2.2.1, 40, .inl f4)), (aa 5, .inl (k5.2.2.1, 40, .inl f5)), (aa 6, .inl (k5.2.2.2.1, 40, .inl f6)), (aa 7, .inl (k5.2.2.1, 32, .inl f7)), (aa 8, .inl (k5.2.2.1, 32, .inl f8)), (aa 9, .inl (k5.2.2.1, 32, .inl f9)), (aa 10, .inl (k5.2.2.1, 32, .inl f10))] := hD
      refine lv_aload_n C.x C.b md_M_order_32 rfl (lv_at hl 1 rfl) ?_
      refine mf_gf C (ci := 4) (N := 20) rfl mi_M 0 (by decide) mt_535 (hP 0 _ rfl) (v := .int 1) rfl md_M_order_33 ?_
      refine lv_if_le (tgt := 41) C.x C.b md_M_order_36 (by decide) (fun h2 => ?_) (fun h2 => ?_)
      · exact absurd h2 (by decide)
      · skip
        refine lv_iconst (v := 0) C.x C.b md_M_order_39 (by decide) ?_
        have hsp : rf_ordr i w0 (R, ck, sp, mt, g) = (1, 0) := by unfold rf_ordr; rw [hp]
        rw [hsp]
        exact mf_wi C.x C.b hr hlk md_M_order_40 ⟨f0, f1, f2, f3, f4, f5, f6, f7, f8, f9, f10, hP, hD, hle, hRF, hRG⟩ (by rw [← hH]; exact ⟨hS.1, hS.2.1⟩) hH hS.2.2 (Nat.le_refl _) (Nat.le_refl _)
  · rw [show mf_ix (some (k, x)) = nI k from rfl]
    have hq : R[k]? = some x := ((mf_pick_in _ _ R).2 k x hp).1
    have hkl := (List.getElem?_eq_some_iff.mp hq).1
    have hu := hRF k x hq
    refine lv_istore_n (lv' := [(3, .int (nI k)), (0, .ref mo), (1, .int i), (2, .int w0)]) C.x C.b md_M_order_5 rfl hl (by decide) rfl (fun ls hl => ?_)
    refine lv_aload_n C.x C.b md_M_order_6 rfl (lv_at hl 1 rfl) ?_
    refine lv_iload_n C.x C.b md_M_order_7 rfl (lv_at hl 0 rfl) ?_
    refine lv_if_ge (tgt := 15) C.x C.b md_M_order_8 (by decide) (fun h3 => ?_) (fun h3 => ?_)
    · skip
      refine lv_iload_n C.x C.b md_M_order_15 rfl (lv_at hl 3 rfl) ?_
      refine lv_iconst (v := 0) C.x C.b md_M_order_16 (by decide) ?_
      refine lv_iconst (v := 3) C.x C.b md_M_order_17 (by decide) ?_
      refine mf_cks (va_runS (As := [.int w0, .int 0, .int 3]) (rest := [.ref mo]) C.f (k_M_among l D k5 t0 A H w0 0 3) (mf_cS C mt_607 mt_605 mt_6 mt_606 mh_M_among ⟨by decide, by decide⟩) (mf_preS C.ev hS) rfl rfl hl.1 rfl (lv_room (Nat.le_of_ble_eq_true rfl)) md_M_order_18 ⟨by first | omega | exact Nat.le_of_ble_eq_true rfl, by first | omega | exact Nat.le_of_ble_eq_true rfl⟩) ?_
      refine lv_if_eq (tgt := 28) C.x C.b md_M_order_21 (by decide) (fun h4 => ?_) (fun h4 => ?_)
      · skip
        refine lv_iconst (v := 2) C.x C.b md_M_order_28 (by decide) ?_
        refine va_put (D := D) (ci := 4) (v := .int 2) (ty := .int) (C := mf_RM) (T := mf_TM) (N := 20) C.x C.b C.2.2.1 mi_M mf_tyM mp_M mn_M C.o C.k hP hD hS 0 rfl rfl 0 (by decide) (C.t mt_535) (fun _ h => h) rfl (by decide +kernel) rfl rfl (Nat.le_of_ble_eq_true rfl) md_M_order_29 (fun H locs hP hD hS => ?_)
        have hP : va_P D mf_cl [(mo, .inr (4, [.int 2, .int (nI R.length), .int ck, .ref (aa 0), .ref (aa 1), .ref (aa 2), .ref (aa 3), .ref (aa 4), .ref (aa 5), .ref (aa 6), .int (nI g.1), .ref (aa 7), .ref (aa 8), .ref (aa 9), .ref (aa 10), .int g.2.1, .long g.2.2.2.1, .int g.2.2.1, .int sp, .int mt])), (aa 0, .inl (k5.2.2.1, 40, .inl f0)), (aa 1, .inl (k5.2.2.1, 40, .inl f1)), (aa 2, .inl (k5.2.2.1, 40, .inl f2)), (aa 3, .inl (k5.2.2.1, 40, .inl f3)), (aa 4, .inl (k5.2.2.1, 40, .inl f4)), (aa 5, .inl (k5.2.2.1, 40, .inl f5)), (aa 6, .inl (k5.2.2.2.1, 40, .inl f6)), (aa 7, .inl (k5.2.2.1, 32, .inl f7)), (aa 8, .inl (k5.2.2.1, 32, .inl f8)), (aa 9, .inl (k5.2.2.1, 32, .inl f9)), (aa 10, .inl (k5.2.2.1, 32, .inl f10))] H := hP
        have hD : va_D A [(mo, .inr (4, [.int 2, .int (nI R.length), .int ck, .ref (aa 0), .ref (aa 1), .ref (aa 2), .ref (aa 3), .ref (aa 4), .ref (aa 5), .ref (aa 6), .int (nI g.1), .ref (aa 7), .ref (aa 8), .ref (aa 9), .ref (aa 10), .int g.2.1, .long g.2.2.2.1, .int g.2.2.1, .int sp, .int mt])), (aa 0, .inl (k5.2.2.1, 40, .inl f0)), (aa 1, .inl (k5.2.2.1, 40, .inl f1)), (aa 2, .inl (k5.2.2.1, 40, .inl f2)), (aa 3, .inl (k5.2.2.1, 40, .inl f3)), (aa 4, .inl (k5.2.2.1, 40, .inl f4)), (aa 5, .inl (k5.2.2.1, 40, .inl f5)), (aa 6, .inl (k5.2.2.2.1, 40, .inl f6)), (aa 7, .inl (k5.2.2.1, 32, .inl f7)), (aa 8, .inl (k5.2.2.1, 32, .inl f8)), (aa 9, .inl (k5.2.2.1, 32, .inl f9)), (aa 10, .inl (k5.2.2.1, 32, .inl f10))] := hD
        refine lv_aload_n C.x C.b md_M_order_32 rfl (lv_at hl 1 rfl) ?_
        refine mf_gf C (ci := 4) (N := 20) rfl mi_M 0 (by decide) mt_535 (hP 0 _ rfl) (v := .int 2) rfl md_M_order_33 ?_
        refine lv_if_le (tgt := 41) C.x C.b md_M_order_36 (by decide) (fun h5 => ?_) (fun h5 => ?_)
        · exact absurd h5 (by decide)
        · skip
          refine lv_iconst (v := 0) C.x C.b md_M_order_39 (by decide) ?_
          have hsp : rf_ordr i w0 (R, ck, sp, mt, g) = (2, 0) := by unfold rf_ordr; rw [hp]; exact if_neg (mf_andF (mf_bI_0.mp h4))
          rw [hsp]
          exact mf_wi C.x C.b hr hlk md_M_order_40 ⟨f0, f1, f2, f3, f4, f5, f6, f7, f8, f9, f10, hP, hD, hle, hRF, hRG⟩ (by rw [← hH]; exact ⟨hS.1, hS.2.1⟩) hH hS.2.2 (Nat.le_refl _) (Nat.le_refl _)
      · skip
        refine lv_iconst (v := 0) C.x C.b md_M_order_24 (by decide) ?_
        refine lv_goto (tgt := 29) C.x C.b md_M_order_25 (by decide) ?_
        refine va_put (D := D) (ci := 4) (v := .int 0) (ty := .int) (C := mf_RM) (T := mf_TM) (N := 20) C.x C.b C.2.2.1 mi_M mf_tyM mp_M mn_M C.o C.k hP hD hS 0 rfl rfl 0 (by decide) (C.t mt_535) (fun _ h => h) rfl (by decide +kernel) rfl rfl (Nat.le_of_ble_eq_true rfl) md_M_order_29 (fun H locs hP hD hS => ?_)
        have hP : va_P D mf_cl [(mo, .inr (4, [.int 0, .int (nI R.length), .int ck, .ref (aa 0), .ref (aa 1), .ref (aa 2), .ref (aa 3), .ref (aa 4), .ref (aa 5), .ref (aa 6), .int (nI g.1), .ref (aa 7), .ref (aa 8), .ref (aa 9), .ref (aa 10), .int g.2.1, .long g.2.2.2.1, .int g.2.2.1, .int sp, .int mt])), (aa 0, .inl (k5.2.2.1, 40, .inl f0)), (aa 1, .inl (k5.2.2.1, 40, .inl f1)), (aa 2, .inl (k5.2.2.1, 40, .inl f2)), (aa 3, .inl (k5.2.2.1, 40, .inl f3)), (aa 4, .inl (k5.2.2.1, 40, .inl f4)), (aa 5, .inl (k5.2.2.1, 40, .inl f5)), (aa 6, .inl (k5.2.2.2.1, 40, .inl f6)), (aa 7, .inl (k5.2.2.1, 32, .inl f7)), (aa 8, .inl (k5.2.2.1, 32, .inl f8)), (aa 9, .inl (k5.2.2.1, 32, .inl f9)), (aa 10, .inl (k5.2.2.1, 32, .inl f10))] H := hP
        have hD : va_D A [(mo, .inr (4, [.int 0, .int (nI R.length), .int ck, .ref (aa 0), .ref (aa 1), .ref (aa 2), .ref (aa 3), .ref (aa 4), .ref (aa 5), .ref (aa 6), .int (nI g.1), .ref (aa 7), .ref (aa 8), .ref (aa 9), .ref (aa 10), .int g.2.1, .long g.2.2.2.1, .int g.2.2.1, .int sp, .int mt])), (aa 0, .inl (k5.2.2.1, 40, .inl f0)), (aa 1, .inl (k5.2.2.1, 40, .inl f1)), (aa 2, .inl (k5.2.2.1, 40, .inl f2)), (aa 3, .inl (k5.2.2.1, 40, .inl f3)), (aa 4, .inl (k5.2.2.1, 40, .inl f4)), (aa 5, .inl (k5.2.2.1, 40, .inl f5)), (aa 6, .inl (k5.2.2.2.1, 40, .inl f6)), (aa 7, .inl (k5.2.2.1, 32, .inl f7)), (aa 8, .inl (k5.2.2.1, 32, .inl f8)), (aa 9, .inl (k5.2.2.1, 32, .inl f9)), (aa 10, .inl (k5.2.2.1, 32, .inl f10))] := hD
        refine lv_aload_n C.x C.b md_M_order_32 rfl (lv_at hl 1 rfl) ?_
        refine mf_gf C (ci := 4) (N := 20) rfl mi_M 0 (by decide) mt_535 (hP 0 _ rfl) (v := .int 0) rfl md_M_order_33 ?_
        refine lv_if_le (tgt := 41) C.x C.b md_M_order_36 (by decide) (fun h6 => ?_) (fun h6 => ?_)
        · skip
          refine lv_iconst (v := 0) C.x C.b md_M_order_41 (by decide) ?_
          refine lv_istore (lv' := [(4, .int 0), (3, .int (nI k)), (0, .ref mo), (1, .int i), (2, .int w0)]) C.x C.b md_M_order_42 hl (by decide) rfl (fun ls hl => ?_)
          refine lv_iconst (v := 0) C.x C.b md_M_order_44 (by decide) ?_
          refine lv_istore (lv' := [(5, .int 0), (4, .int 0), (3, .int (nI k)), (0, .ref mo), (1, .int i), (2, .int w0)]) C.x C.b md_M_order_45 hl (by decide) rfl (fun ls hl => ?_)
          have loop : ∀ (n j : Nat) (r : Int32) (ls : Array Slot), j + n = R.length → mf_sum (fun y : mf_T => if rf_same x.1 y.1 && decide (y.2 < x.2) then 1 else 0) (R.take j) = r → lv_has ls 7 [(5, .int (nI j)), (4, .int r), (3, .int (nI k)), (0, .ref mo), (1, .int i), (2, .int w0)] → W p l e ({ frames := 1, cells := 0, slots := 0, locals := 23 } : Room) s m (([.ref mo, .int i, .int w0] : List Value).toArray) below meth c H locs 0 0 (MQ below (mf_Kw (some (.int (rf_ordr i w0 (R, ck, sp, mt, g)).2)) (fun H1 => mf_MD D k5 A H1 mo aa (nI (rf_ordr i w0 (R, ck, sp, mt, g)).1) (R, ck, sp, mt, g)) (A)) (([.ref mo, .int i, .int w0] : List Value).toArray) s 0 0 A) (F0 m 47 ls []) := by
            intro n
            induction n with
            | zero =>
              intro j r ls hk i0 hl
              obtain rfl : j = R.length := by omega
              rw [List.take_length] at i0
              refine lv_iload C.x C.b md_M_order_47 (lv_at hl 0 rfl) ?_
              refine lv_aload_n C.x C.b md_M_order_49 rfl (lv_at hl 3 rfl) ?_
              refine mf_gf C (ci := 4) (N := 20) rfl mi_M 1 (by decide) mt_536 (hP 0 _ rfl) (v := .int (nI R.length)) rfl md_M_order_50 ?_
              refine lv_icmp_ge (tgt := 161) C.x C.b md_M_order_53 (by decide) (fun h7 => ?_) (fun h7 => ?_)
              · skip
                refine lv_iload_n C.x C.b md_M_order_161 rfl (lv_at hl 5 rfl) ?_
                refine lv_if_ne (tgt := 199) C.x C.b md_M_order_162 (by decide) (fun h8 => ?_) (fun h8 => ?_)
                · skip
                  refine lv_iload_n C.x C.b md_M_order_199 rfl (lv_at hl 5 rfl) ?_
                  refine lv_iconst (v := 1) C.x C.b md_M_order_200 (by decide) ?_
                  refine lv_icmp_ne (tgt := 213) C.x C.b md_M_order_201 (by decide) (fun h9 => ?_) (fun h9 => ?_)
                  · skip
                    refine lv_iload_n C.x C.b md_M_order_213 rfl (lv_at hl 5 rfl) ?_
                    refine lv_iconst (v := 2) C.x C.b md_M_order_214 (by decide) ?_
                    refine lv_icmp_ne (tgt := 227) C.x C.b md_M_order_215 (by decide) (fun h10 => ?_) (fun h10 => ?_)
                    · skip
                      refine lv_iload C.x C.b md_M_order_227 (lv_at hl 1 rfl) ?_
                      have hsp : rf_ordr i w0 (R, ck, sp, mt, g) = (0, r) := by subst i0; unfold rf_ordr; rw [hp]; dsimp only; rw [if_pos ⟨(mf_andT (mf_bI_1.mp h4)).1, (mf_andT (mf_bI_1.mp h4)).2⟩]; simp [h3, Int32.not_lt.mpr h3, h6, Int32.not_lt.mpr h6, h7, Int32.not_lt.mpr h7, h8, h9, h10]
                      rw [hsp]
                      exact mf_wi C.x C.b hr hlk md_M_order_229 ⟨f0, f1, f2, f3, f4, f5, f6, f7, f8, f9, f10, hP, hD, hle, hRF, hRG⟩ (by rw [← hH]; exact ⟨hS.1, hS.2.1⟩) hH hS.2.2 (Nat.le_refl _) (Nat.le_refl _)
                    · skip
                      refine lv_aload_n C.x C.b md_M_order_218 rfl (lv_at hl 3 rfl) ?_
                      refine mf_gf C (ci := 4) (N := 20) rfl mi_M 7 (by decide) mt_542 (hP 0 _ rfl) (v := .ref (aa 4)) rfl md_M_order_219 ?_
                      refine lv_iload_n C.x C.b md_M_order_222 rfl (lv_at hl 2 rfl) ?_
                      refine mf_iv C (t := 2) rfl (hP 5 _ rfl) (by omega) (by decide) hu.2.2.2.2.1 md_M_order_223 ?_
                      refine lv_goto (tgt := 229) C.x C.b md_M_order_224 (by decide) ?_
                      have hsp : rf_ordr i w0 (R, ck, sp, mt, g) = (0, (mf_lf x.1)) := by subst i0; unfold rf_ordr; rw [hp]; dsimp only; rw [if_pos ⟨(mf_andT (mf_bI_1.mp h4)).1, (mf_andT (mf_bI_1.mp h4)).2⟩]; simp [h3, Int32.not_lt.mpr h3, h6, Int32.not_lt.mpr h6, h7, Int32.not_lt.mpr h7, h8, h9, h10]
                      rw [hsp]
                      exact mf_wi C.x C.b hr hlk md_M_order_229 ⟨f0, f1, f2, f3, f4, f5, f6, f7, f8, f9, f10, hP, hD, hle, hRF, hRG⟩ (by rw [← hH]; exact ⟨hS.1, hS.2.1⟩) hH hS.2.2 (Nat.le_refl _) (Nat.le_refl _)
                  · skip
                    refine lv_aload_n C.x C.b md_M_order_204 rfl (lv_at hl 3 rfl) ?_
                    refine mf_gf C (ci := 4) (N := 20) rfl mi_M 6 (by decide) mt_541 (hP 0 _ rfl) (v := .ref (aa 3)) rfl md_M_order_205 ?_
                    refine lv_iload_n C.x C.b md_M_order_208 rfl (lv_at hl 2 rfl) ?_
                    refine mf_iv C (t := 2) rfl (hP 4 _ rfl) (by omega) (by decide) hu.2.2.2.1 md_M_order_209 ?_
                    refine lv_goto (tgt := 229) C.x C.b md_M_order_210 (by decide) ?_
                    have hsp : rf_ordr i w0 (R, ck, sp, mt, g) = (0, (mf_pr x.1)) := by subst i0; unfold rf_ordr; rw [hp]; dsimp only; rw [if_pos ⟨(mf_andT (mf_bI_1.mp h4)).1, (mf_andT (mf_bI_1.mp h4)).2⟩]; simp [h3, Int32.not_lt.mpr h3, h6, Int32.not_lt.mpr h6, h7, Int32.not_lt.mpr h7, h8, h9]
                    rw [hsp]
                    exact mf_wi C.x C.b hr hlk md_M_order_229 ⟨f0, f1, f2, f3, f4, f5, f6, f7, f8, f9, f10, hP, hD, hle, hRF, hRG⟩ (by rw [← hH]; exact ⟨hS.1, hS.2.1⟩) hH hS.2.2 (Nat.le_refl _) (Nat.le_refl _)
                · skip
                  refine lv_bipush (v := 16) C.x C.b md_M_order_165 (by decide) ?_
                  refine lv_aload_n C.x C.b md_M_order_167 rfl (lv_at hl 3 rfl) ?_
                  refine mf_gf C (ci := 4) (N := 20) rfl mi_M 4 (by decide) mt_539 (hP 0 _ rfl) (v := .ref (aa 1)) rfl md_M_order_168 ?_
                  refine lv_iload_n C.x C.b md_M_order_171 rfl (lv_at hl 2 rfl) ?_
                  refine mf_iv C (t := 2) rfl (hP 2 _ rfl) (by omega) (by decide) hu.2.1 md_M_order_172 ?_
                  refine lv_imul C.x C.b md_M_order_173 ?_
                  refine lv_aload_n C.x C.b md_M_order_174 rfl (lv_at hl 3 rfl) ?_
                  refine mf_gf C (ci := 4) (N := 20) rfl mi_M 5 (by decide) mt_540 (hP 0 _ rfl) (v := .ref (aa 2)) rfl md_M_order_175 ?_
                  refine lv_iload_n C.x C.b md_M_order_178 rfl (lv_at hl 2 rfl) ?_
                  refine mf_iv C (t := 2) rfl (hP 3 _ rfl) (by omega) (by decide) hu.2.2.1 md_M_order_179 ?_
                  refine lv_iadd C.x C.b md_M_order_180 ?_
                  refine lv_aload_n C.x C.b md_M_order_181 rfl (lv_at hl 3 rfl) ?_
                  refine mf_gf C (ci := 4) (N := 20) rfl mi_M 9 (by decide) mt_544 (hP 0 _ rfl) (v := .ref (aa 6)) rfl md_M_order_182 ?_
                  refine lv_iload_n C.x C.b md_M_order_185 rfl (lv_at hl 2 rfl) ?_
                  refine mf_zv C (t := 3) rfl (hP 7 _ rfl) (by omega) (by decide) hu.2.2.2.2.2.2.1 md_M_order_186 ?_
                  refine lv_if_eq (tgt := 194) C.x C.b md_M_order_187 (by decide) (fun h11 => ?_) (fun h11 => ?_)
                  · skip
                    refine lv_iconst (v := 0) C.x C.b md_M_order_194 (by decide) ?_
                    refine lv_iadd C.x C.b md_M_order_195 ?_
                    refine lv_goto (tgt := 229) C.x C.b md_M_order_196 (by decide) ?_
                    have hsp : rf_ordr i w0 (R, ck, sp, mt, g) = (0, (((16 * (mf_ow x.1)) + (mf_sd x.1)) + 0)) := by subst i0; unfold rf_ordr; rw [hp]; dsimp only; rw [if_pos ⟨(mf_andT (mf_bI_1.mp h4)).1, (mf_andT (mf_bI_1.mp h4)).2⟩]; simp [h3, Int32.not_lt.mpr h3, h6, Int32.not_lt.mpr h6, h7, Int32.not_lt.mpr h7, h8, h11]
                    rw [hsp]
                    exact mf_wi C.x C.b hr hlk md_M_order_229 ⟨f0, f1, f2, f3, f4, f5, f6, f7, f8, f9, f10, hP, hD, hle, hRF, hRG⟩ (by rw [← hH]; exact ⟨hS.1, hS.2.1⟩) hH hS.2.2 (Nat.le_refl _) (Nat.le_refl _)
                  · skip
                    refine lv_iconst (v := 2) C.x C.b md_M_order_190 (by decide) ?_
                    refine lv_goto (tgt := 195) C.x C.b md_M_order_191 (by decide) ?_
                    refine lv_iadd C.x C.b md_M_order_195 ?_
                    refine lv_goto (tgt := 229) C.x C.b md_M_order_196 (by decide) ?_
                    have hsp : rf_ordr i w0 (R, ck, sp, mt, g) = (0, (((16 * (mf_ow x.1)) + (mf_sd x.1)) + 2)) := by subst i0; unfold rf_ordr; rw [hp]; dsimp only; rw [if_pos ⟨(mf_andT (mf_bI_1.mp h4)).1, (mf_andT (mf_bI_1.mp h4)).2⟩]; simp [h3, Int32.not_lt.mpr h3, h6, Int32.not_lt.mpr h6, h7, Int32.not_lt.mpr h7, h8, h11]
                    rw [hsp]
                    exact mf_wi C.x C.b hr hlk md_M_order_229 ⟨f0, f1, f2, f3, f4, f5, f6, f7, f8, f9, f10, hP, hD, hle, hRF, hRG⟩ (by rw [← hH]; exact ⟨hS.1, hS.2.1⟩) hH hS.2.2 (Nat.le_refl _) (Nat.le_refl _)
              · exact absurd (Int32.le_refl _) h7
            | succ n ih =>
              intro j r ls hk i0 hl
              have hkk : j < R.length := by omega
              obtain ⟨y, hqj⟩ := mf_at_lt hkk
              have huj := hRF j y hqj
              refine lv_iload C.x C.b md_M_order_47 (lv_at hl 0 rfl) ?_
              refine lv_aload_n C.x C.b md_M_order_49 rfl (lv_at hl 3 rfl) ?_
              refine mf_gf C (ci := 4) (N := 20) rfl mi_M 1 (by decide) mt_536 (hP 0 _ rfl) (v := .int (nI R.length)) rfl md_M_order_50 ?_
              refine lv_icmp_ge (tgt := 161) C.x C.b md_M_order_53 (by decide) (fun h12 => ?_) (fun h12 => ?_)
              · exact absurd h12 (nI_ge hkk (by omega))
              · skip
                refine lv_aload_n C.x C.b md_M_order_56 rfl (lv_at hl 3 rfl) ?_
                refine mf_gf C (ci := 4) (N := 20) rfl mi_M 9 (by decide) mt_544 (hP 0 _ rfl) (v := .ref (aa 6)) rfl md_M_order_57 ?_
                refine lv_iload_n C.x C.b md_M_order_60 rfl (lv_at hl 2 rfl) ?_
                refine mf_zv C (t := 3) rfl (hP 7 _ rfl) (by omega) (by decide) hu.2.2.2.2.2.2.1 md_M_order_61 ?_
                refine lv_if_eq (tgt := 75) C.x C.b md_M_order_62 (by decide) (fun h13 => ?_) (fun h13 => ?_)
                · skip
                  refine lv_aload_n C.x C.b md_M_order_75 rfl (lv_at hl 3 rfl) ?_
                  refine mf_gf C (ci := 4) (N := 20) rfl mi_M 9 (by decide) mt_544 (hP 0 _ rfl) (v := .ref (aa 6)) rfl md_M_order_76 ?_
                  refine lv_iload C.x C.b md_M_order_79 (lv_at hl 0 rfl) ?_
                  refine mf_zv C (t := 3) rfl (hP 7 _ rfl) (by omega) (by decide) huj.2.2.2.2.2.2.1 md_M_order_81 ?_
                  refine lv_if_ne (tgt := 121) C.x C.b md_M_order_82 (by decide) (fun h14 => ?_) (fun h14 => ?_)
                  · skip
                    refine lv_iconst (v := 0) C.x C.b md_M_order_121 (by decide) ?_
                    refine lv_istore (lv' := [(6, .int 0), (5, .int (nI j)), (4, .int r), (3, .int (nI k)), (0, .ref mo), (1, .int i), (2, .int w0)]) C.x C.b md_M_order_122 hl (by decide) rfl (fun ls hl => ?_)
                    refine lv_iload C.x C.b md_M_order_124 (lv_at hl 2 rfl) ?_
                    refine lv_iload C.x C.b md_M_order_126 (lv_at hl 0 rfl) ?_
                    refine lv_if_eq (tgt := 151) C.x C.b md_M_order_128 (by decide) (fun h15 => ?_) (fun h15 => ?_)
                    · skip
                      refine lv_iconst (v := 0) C.x C.b md_M_order_151 (by decide) ?_
                      refine lv_iadd C.x C.b md_M_order_152 ?_
                      refine lv_istore (lv' := [(4, .int (r + 0)), (6, .int 0), (5, .int (nI j)), (3, .int (nI k)), (0, .ref mo), (1, .int i), (2, .int w0)]) C.x C.b md_M_order_153 hl (by decide) rfl (fun ls hl => ?_)
                      refine lv_iinc (k := 2) (v := nI (j + 1)) (lv' := [(5, .int (nI (j + 1))), (4, .int (r + 0)), (6, .int 0), (3, .int (nI k)), (0, .ref mo), (1, .int i), (2, .int w0)]) C.x C.b md_M_order_155 hl rfl (nI_1 _) (by decide) rfl (fun ls hl => ?_)
                      refine lv_goto (tgt := 47) C.x C.b md_M_order_158 (by decide) ?_
                      exact ih (j + 1) (r + 0) ls (by omega) (mf_sstep hqj i0 (by first | (simp [rf_same, h12, Int32.not_le.mp h12, h13, h14, h15]; done) | (exfalso; simp_all; done))) (lv_sub hl [0, 1, 3, 4, 5, 6] rfl)
                    · exact absurd rfl h15
                  · skip
                    refine lv_aload_n C.x C.b md_M_order_85 rfl (lv_at hl 3 rfl) ?_
                    refine mf_gf C (ci := 4) (N := 20) rfl mi_M 5 (by decide) mt_540 (hP 0 _ rfl) (v := .ref (aa 2)) rfl md_M_order_86 ?_
                    refine lv_iload C.x C.b md_M_order_89 (lv_at hl 0 rfl) ?_
                    refine mf_iv C (t := 2) rfl (hP 3 _ rfl) (by omega) (by decide) huj.2.2.1 md_M_order_91 ?_
                    refine lv_aload_n C.x C.b md_M_order_92 rfl (lv_at hl 3 rfl) ?_
                    refine mf_gf C (ci := 4) (N := 20) rfl mi_M 5 (by decide) mt_540 (hP 0 _ rfl) (v := .ref (aa 2)) rfl md_M_order_93 ?_
                    refine lv_iload_n C.x C.b md_M_order_96 rfl (lv_at hl 2 rfl) ?_
                    refine mf_iv C (t := 2) rfl (hP 3 _ rfl) (by omega) (by decide) hu.2.2.1 md_M_order_97 ?_
                    refine lv_icmp_ne (tgt := 121) C.x C.b md_M_order_98 (by decide) (fun h16 => ?_) (fun h16 => ?_)
                    · skip
                      refine lv_iconst (v := 0) C.x C.b md_M_order_121 (by decide) ?_
                      refine lv_istore (lv' := [(6, .int 0), (5, .int (nI j)), (4, .int r), (3, .int (nI k)), (0, .ref mo), (1, .int i), (2, .int w0)]) C.x C.b md_M_order_122 hl (by decide) rfl (fun ls hl => ?_)
                      refine lv_iload C.x C.b md_M_order_124 (lv_at hl 2 rfl) ?_
                      refine lv_iload C.x C.b md_M_order_126 (lv_at hl 0 rfl) ?_
                      refine lv_if_eq (tgt := 151) C.x C.b md_M_order_128 (by decide) (fun h17 => ?_) (fun h17 => ?_)
                      · skip
                        refine lv_iconst (v := 0) C.x C.b md_M_order_151 (by decide) ?_
                        refine lv_iadd C.x C.b md_M_order_152 ?_
                        refine lv_istore (lv' := [(4, .int (r + 0)), (6, .int 0), (5, .int (nI j)), (3, .int (nI k)), (0, .ref mo), (1, .int i), (2, .int w0)]) C.x C.b md_M_order_153 hl (by decide) rfl (fun ls hl => ?_)
                        refine lv_iinc (k := 2) (v := nI (j + 1)) (lv' := [(5, .int (nI (j + 1))), (4, .int (r + 0)), (6, .int 0), (3, .int (nI k)), (0, .ref mo), (1, .int i), (2, .int w0)]) C.x C.b md_M_order_155 hl rfl (nI_1 _) (by decide) rfl (fun ls hl => ?_)
                        refine lv_goto (tgt := 47) C.x C.b md_M_order_158 (by decide) ?_
                        exact ih (j + 1) (r + 0) ls (by omega) (mf_sstep hqj i0 (by first | (simp [rf_same, h12, Int32.not_le.mp h12, h13, h14, h16, h17]; done) | (exfalso; simp_all; done))) (lv_sub hl [0, 1, 3, 4, 5, 6] rfl)
                      · exact absurd rfl h17
                    · skip
                      refine lv_aload_n C.x C.b md_M_order_101 rfl (lv_at hl 3 rfl) ?_
                      refine mf_gf C (ci := 4) (N := 20) rfl mi_M 6 (by decide) mt_541 (hP 0 _ rfl) (v := .ref (aa 3)) rfl md_M_order_102 ?_
                      refine lv_iload C.x C.b md_M_order_105 (lv_at hl 0 rfl) ?_
                      refine mf_iv C (t := 2) rfl (hP 4 _ rfl) (by omega) (by decide) huj.2.2.2.1 md_M_order_107 ?_
                      refine lv_aload_n C.x C.b md_M_order_108 rfl (lv_at hl 3 rfl) ?_
                      refine mf_gf C (ci := 4) (N := 20) rfl mi_M 6 (by decide) mt_541 (hP 0 _ rfl) (v := .ref (aa 3)) rfl md_M_order_109 ?_
                      refine lv_iload_n C.x C.b md_M_order_112 rfl (lv_at hl 2 rfl) ?_
                      refine mf_iv C (t := 2) rfl (hP 4 _ rfl) (by omega) (by decide) hu.2.2.2.1 md_M_order_113 ?_
                      refine lv_icmp_ne (tgt := 121) C.x C.b md_M_order_114 (by decide) (fun h18 => ?_) (fun h18 => ?_)
                      · skip
                        refine lv_iconst (v := 0) C.x C.b md_M_order_121 (by decide) ?_
                        refine lv_istore (lv' := [(6, .int 0), (5, .int (nI j)), (4, .int r), (3, .int (nI k)), (0, .ref mo), (1, .int i), (2, .int w0)]) C.x C.b md_M_order_122 hl (by decide) rfl (fun ls hl => ?_)
                        refine lv_iload C.x C.b md_M_order_124 (lv_at hl 2 rfl) ?_
                        refine lv_iload C.x C.b md_M_order_126 (lv_at hl 0 rfl) ?_
                        refine lv_if_eq (tgt := 151) C.x C.b md_M_order_128 (by decide) (fun h19 => ?_) (fun h19 => ?_)
                        · skip
                          refine lv_iconst (v := 0) C.x C.b md_M_order_151 (by decide) ?_
                          refine lv_iadd C.x C.b md_M_order_152 ?_
                          refine lv_istore (lv' := [(4, .int (r + 0)), (6, .int 0), (5, .int (nI j)), (3, .int (nI k)), (0, .ref mo), (1, .int i), (2, .int w0)]) C.x C.b md_M_order_153 hl (by decide) rfl (fun ls hl => ?_)
                          refine lv_iinc (k := 2) (v := nI (j + 1)) (lv' := [(5, .int (nI (j + 1))), (4, .int (r + 0)), (6, .int 0), (3, .int (nI k)), (0, .ref mo), (1, .int i), (2, .int w0)]) C.x C.b md_M_order_155 hl rfl (nI_1 _) (by decide) rfl (fun ls hl => ?_)
                          refine lv_goto (tgt := 47) C.x C.b md_M_order_158 (by decide) ?_
                          exact ih (j + 1) (r + 0) ls (by omega) (mf_sstep hqj i0 (by first | (simp [rf_same, h12, Int32.not_le.mp h12, h13, h14, h16, h18, h19]; done) | (exfalso; simp_all; done))) (lv_sub hl [0, 1, 3, 4, 5, 6] rfl)
                        · exact absurd rfl h19
                      · skip
                        refine lv_iconst (v := 1) C.x C.b md_M_order_117 (by decide) ?_
                        refine lv_goto (tgt := 122) C.x C.b md_M_order_118 (by decide) ?_
                        refine lv_istore (lv' := [(6, .int 1), (5, .int (nI j)), (4, .int r), (3, .int (nI k)), (0, .ref mo), (1, .int i), (2, .int w0)]) C.x C.b md_M_order_122 hl (by decide) rfl (fun ls hl => ?_)
                        refine lv_iload C.x C.b md_M_order_124 (lv_at hl 2 rfl) ?_
                        refine lv_iload C.x C.b md_M_order_126 (lv_at hl 0 rfl) ?_
                        refine lv_if_eq (tgt := 151) C.x C.b md_M_order_128 (by decide) (fun h20 => ?_) (fun h20 => ?_)
                        · exact absurd h20 (by decide)
                        · skip
                          refine lv_aload_n C.x C.b md_M_order_131 rfl (lv_at hl 4 rfl) ?_
                          refine mf_gf C (ci := 4) (N := 20) rfl mi_M 8 (by decide) mt_543 (hP 0 _ rfl) (v := .ref (aa 5)) rfl md_M_order_132 ?_
                          refine lv_iload C.x C.b md_M_order_135 (lv_at hl 1 rfl) ?_
                          refine mf_iv C (t := 2) rfl (hP 6 _ rfl) (by omega) (by decide) huj.2.2.2.2.2.1 md_M_order_137 ?_
                          refine lv_aload_n C.x C.b md_M_order_138 rfl (lv_at hl 4 rfl) ?_
                          refine mf_gf C (ci := 4) (N := 20) rfl mi_M 8 (by decide) mt_543 (hP 0 _ rfl) (v := .ref (aa 5)) rfl md_M_order_139 ?_
                          refine lv_iload_n C.x C.b md_M_order_142 rfl (lv_at hl 3 rfl) ?_
                          refine mf_iv C (t := 2) rfl (hP 6 _ rfl) (by omega) (by decide) hu.2.2.2.2.2.1 md_M_order_143 ?_
                          refine lv_icmp_ge (tgt := 151) C.x C.b md_M_order_144 (by decide) (fun h21 => ?_) (fun h21 => ?_)
                          · skip
                            refine lv_iconst (v := 0) C.x C.b md_M_order_151 (by decide) ?_
                            refine lv_iadd C.x C.b md_M_order_152 ?_
                            refine lv_istore (lv' := [(4, .int (r + 0)), (6, .int 1), (5, .int (nI j)), (3, .int (nI k)), (0, .ref mo), (1, .int i), (2, .int w0)]) C.x C.b md_M_order_153 hl (by decide) rfl (fun ls hl => ?_)
                            refine lv_iinc (k := 2) (v := nI (j + 1)) (lv' := [(5, .int (nI (j + 1))), (4, .int (r + 0)), (6, .int 1), (3, .int (nI k)), (0, .ref mo), (1, .int i), (2, .int w0)]) C.x C.b md_M_order_155 hl rfl (nI_1 _) (by decide) rfl (fun ls hl => ?_)
                            refine lv_goto (tgt := 47) C.x C.b md_M_order_158 (by decide) ?_
                            exact ih (j + 1) (r + 0) ls (by omega) (mf_sstep hqj i0 (by first | (simp [rf_same, h12, Int32.not_le.mp h12, h13, h14, h16, h18, h20, h21, Int32.not_lt.mpr h21]; done) | (exfalso; simp_all; done))) (lv_sub hl [0, 1, 3, 4, 5, 6] rfl)
                          · skip
                            refine lv_iconst (v := 1) C.x C.b md_M_order_147 (by decide) ?_
                            refine lv_goto (tgt := 152) C.x C.b md_M_order_148 (by decide) ?_
                            refine lv_iadd C.x C.b md_M_order_152 ?_
                            refine lv_istore (lv' := [(4, .int (r + 1)), (6, .int 1), (5, .int (nI j)), (3, .int (nI k)), (0, .ref mo), (1, .int i), (2, .int w0)]) C.x C.b md_M_order_153 hl (by decide) rfl (fun ls hl => ?_)
                            refine lv_iinc (k := 2) (v := nI (j + 1)) (lv' := [(5, .int (nI (j + 1))), (4, .int (r + 1)), (6, .int 1), (3, .int (nI k)), (0, .ref mo), (1, .int i), (2, .int w0)]) C.x C.b md_M_order_155 hl rfl (nI_1 _) (by decide) rfl (fun ls hl => ?_)
                            refine lv_goto (tgt := 47) C.x C.b md_M_order_158 (by decide) ?_
                            exact ih (j + 1) (r + 1) ls (by omega) (mf_sstep hqj i0 (by first | (simp [rf_same, h12, Int32.not_le.mp h12, h13, h14, h16, h18, h20, h21, Int32.not_le.mp h21]; done) | (exfalso; simp_all; done))) (lv_sub hl [0, 1, 3, 4, 5, 6] rfl)
                · skip
                  refine lv_aload_n C.x C.b md_M_order_65 rfl (lv_at hl 3 rfl) ?_
                  refine mf_gf C (ci := 4) (N := 20) rfl mi_M 9 (by decide) mt_544 (hP 0 _ rfl) (v := .ref (aa 6)) rfl md_M_order_66 ?_
                  refine lv_iload C.x C.b md_M_order_69 (lv_at hl 0 rfl) ?_
                  refine mf_zv C (t := 3) rfl (hP 7 _ rfl) (by omega) (by decide) huj.2.2.2.2.2.2.1 md_M_order_71 ?_
                  refine lv_goto (tgt := 122) C.x C.b md_M_order_72 (by decide) ?_
                  refine lv_istore (lv' := [(6, .int (mf_wt y.1)), (5, .int (nI j)), (4, .int r), (3, .int (nI k)), (0, .ref mo), (1, .int i), (2, .int w0)]) C.x C.b md_M_order_122 hl (by decide) rfl (fun ls hl => ?_)
                  refine lv_iload C.x C.b md_M_order_124 (lv_at hl 2 rfl) ?_
                  refine lv_iload C.x C.b md_M_order_126 (lv_at hl 0 rfl) ?_
                  refine lv_if_eq (tgt := 151) C.x C.b md_M_order_128 (by decide) (fun h22 => ?_) (fun h22 => ?_)
                  · skip
                    refine lv_iconst (v := 0) C.x C.b md_M_order_151 (by decide) ?_
                    refine lv_iadd C.x C.b md_M_order_152 ?_
                    refine lv_istore (lv' := [(4, .int (r + 0)), (6, .int (mf_wt y.1)), (5, .int (nI j)), (3, .int (nI k)), (0, .ref mo), (1, .int i), (2, .int w0)]) C.x C.b md_M_order_153 hl (by decide) rfl (fun ls hl => ?_)
                    refine lv_iinc (k := 2) (v := nI (j + 1)) (lv' := [(5, .int (nI (j + 1))), (4, .int (r + 0)), (6, .int (mf_wt y.1)), (3, .int (nI k)), (0, .ref mo), (1, .int i), (2, .int w0)]) C.x C.b md_M_order_155 hl rfl (nI_1 _) (by decide) rfl (fun ls hl => ?_)
                    refine lv_goto (tgt := 47) C.x C.b md_M_order_158 (by decide) ?_
                    exact ih (j + 1) (r + 0) ls (by omega) (mf_sstep hqj i0 (by first | (simp [rf_same, h12, Int32.not_le.mp h12, h13, h22]; done) | (exfalso; simp_all; done))) (lv_sub hl [0, 1, 3, 4, 5, 6] rfl)
                  · skip
                    refine lv_aload_n C.x C.b md_M_order_131 rfl (lv_at hl 4 rfl) ?_
                    refine mf_gf C (ci := 4) (N := 20) rfl mi_M 8 (by decide) mt_543 (hP 0 _ rfl) (v := .ref (aa 5)) rfl md_M_order_132 ?_
                    refine lv_iload C.x C.b md_M_order_135 (lv_at hl 1 rfl) ?_
                    refine mf_iv C (t := 2) rfl (hP 6 _ rfl) (by omega) (by decide) huj.2.2.2.2.2.1 md_M_order_137 ?_
                    refine lv_aload_n C.x C.b md_M_order_138 rfl (lv_at hl 4 rfl) ?_
                    refine mf_gf C (ci := 4) (N := 20) rfl mi_M 8 (by decide) mt_543 (hP 0 _ rfl) (v := .ref (aa 5)) rfl md_M_order_139 ?_
                    refine lv_iload_n C.x C.b md_M_order_142 rfl (lv_at hl 3 rfl) ?_
                    refine mf_iv C (t := 2) rfl (hP 6 _ rfl) (by omega) (by decide) hu.2.2.2.2.2.1 md_M_order_143 ?_
                    refine lv_icmp_ge (tgt := 151) C.x C.b md_M_order_144 (by decide) (fun h23 => ?_) (fun h23 => ?_)
                    · skip
                      refine lv_iconst (v := 0) C.x C.b md_M_order_151 (by decide) ?_
                      refine lv_iadd C.x C.b md_M_order_152 ?_
                      refine lv_istore (lv' := [(4, .int (r + 0)), (6, .int (mf_wt y.1)), (5, .int (nI j)), (3, .int (nI k)), (0, .ref mo), (1, .int i), (2, .int w0)]) C.x C.b md_M_order_153 hl (by decide) rfl (fun ls hl => ?_)
                      refine lv_iinc (k := 2) (v := nI (j + 1)) (lv' := [(5, .int (nI (j + 1))), (4, .int (r + 0)), (6, .int (mf_wt y.1)), (3, .int (nI k)), (0, .ref mo), (1, .int i), (2, .int w0)]) C.x C.b md_M_order_155 hl rfl (nI_1 _) (by decide) rfl (fun ls hl => ?_)
                      refine lv_goto (tgt := 47) C.x C.b md_M_order_158 (by decide) ?_
                      exact ih (j + 1) (r + 0) ls (by omega) (mf_sstep hqj i0 (by first | (simp [rf_same, h12, Int32.not_le.mp h12, h13, h22, h23, Int32.not_lt.mpr h23]; done) | (exfalso; simp_all; done))) (lv_sub hl [0, 1, 3, 4, 5, 6] rfl)
                    · skip
                      refine lv_iconst (v := 1) C.x C.b md_M_order_147 (by decide) ?_
                      refine lv_goto (tgt := 152) C.x C.b md_M_order_148 (by decide) ?_
                      refine lv_iadd C.x C.b md_M_order_152 ?_
                      refine lv_istore (lv' := [(4, .int (r + 1)), (6, .int (mf_wt y.1)), (5, .int (nI j)), (3, .int (nI k)), (0, .ref mo), (1, .int i), (2, .int w0)]) C.x C.b md_M_order_153 hl (by decide) rfl (fun ls hl => ?_)
                      refine lv_iinc (k := 2) (v := nI (j + 1)) (lv' := [(5, .int (nI (j + 1))), (4, .int (r + 1)), (6, .int (mf_wt y.1)), (3, .int (nI k)), (0, .ref mo), (1, .int i), (2, .int w0)]) C.x C.b md_M_order_155 hl rfl (nI_1 _) (by decide) rfl (fun ls hl => ?_)
                      refine lv_goto (tgt := 47) C.x C.b md_M_order_158 (by decide) ?_
                      exact ih (j + 1) (r + 1) ls (by omega) (mf_sstep hqj i0 (by first | (simp [rf_same, h12, Int32.not_le.mp h12, h13, h22, h23, Int32.not_le.mp h23]; done) | (exfalso; simp_all; done))) (lv_sub hl [0, 1, 3, 4, 5, 6] rfl)
          exact loop R.length 0 0 ls (by omega) rfl (lv_sub hl [0, 1, 2, 3, 4, 5] rfl)
        · exact absurd (by decide) h6
    · exact absurd (Int32.not_lt.mp (nI_pos (by omega))) h3
set_option maxRecDepth 100000 in
set_option maxHeartbeats 4000000 in
theorem k_M_level (l : Launch) (D : va_G) (k5 : mf_k5) (t0 : Nat × Nat) (A : Nat → Prop) (H : Heap) (mo : Nat) (aa : Nat → Nat) (cd ck sp mt : Int32) (R : List mf_T) (g : mf_G) (s0 k0 w0 : Int32) (hM : mf_MD D k5 A H mo aa cd (R, ck, sp, mt, g)) (hpr : ∀ x ∈ R, mf_pr x.1 ≠ 0) : mf_cWR l my_M_level mc_M_level 9 (some .int) { frames := 1, cells := 0, slots := 0, locals := 25 } D (mf_tys k5) t0 A H [.ref mo, .int s0, .int k0, .int w0] (some (.int (rf_level s0 k0 w0 (R, ck, sp, mt, g)).2)) (fun H1 => mf_MD D k5 A H1 mo aa (nI (rf_level s0 k0 w0 (R, ck, sp, mt, g)).1) (R, ck, sp, mt, g)) (A) 0 0 := by
  obtain ⟨f0, f1, f2, f3, f4, f5, f6, f7, f8, f9, f10, hP, hD, hle, hRF, hRG⟩ := id hM
  have hP : va_P D mf_cl [(mo, .inr (4, [.int cd, .int (nI R.length), .int ck, .ref (aa 0), .ref (aa 1), .ref (aa 2), .ref (aa 3), .ref (aa 4), .ref (aa 5), .ref (aa 6), .int (nI g.1), .ref (aa 7), .ref (aa 8), .ref (aa 9), .ref (aa 10), .int g.2.1, .long g.2.2.2.1, .int g.2.2.1, .int sp, .int mt])), (aa 0, .inl (k5.2.2.1, 40, .inl f0)), (aa 1, .inl (k5.2.2.1, 40, .inl f1)), (aa 2, .inl (k5.2.2.1, 40, .inl f2)), (aa 3, .inl (k5.2.2.1, 40, .inl f3)), (aa 4, .inl (k5.2.2.1, 40, .inl f4)), (aa 5, .inl (k5.2.2.1, 40, .inl f5)), (aa 6, .inl (k5.2.2.2.1, 40, .inl f6)), (aa 7, .inl (k5.2.2.1, 32, .inl f7)), (aa 8, .inl (k5.2.2.1, 32, .inl f8)), (aa 9, .inl (k5.2.2.1, 32, .inl f9)), (aa 10, .inl (k5.2.2.1, 32, .inl f10))] H := hP
  have hle : R.length ≤ 40 := hle
  have hD : va_D A [(mo, .inr (4, [.int cd, .int (nI R.length), .int ck, .ref (aa 0), .ref (aa 1), .ref (aa 2), .ref (aa 3), .ref (aa 4), .ref (aa 5), .ref (aa 6), .int (nI g.1), .ref (aa 7), .ref (aa 8), .ref (aa 9), .ref (aa 10), .int g.2.1, .long g.2.2.2.1, .int g.2.2.1, .int sp, .int mt])), (aa 0, .inl (k5.2.2.1, 40, .inl f0)), (aa 1, .inl (k5.2.2.1, 40, .inl f1)), (aa 2, .inl (k5.2.2.1, 40, .inl f2)), (aa 3, .inl (k5.2.2.1, 40, .inl f3)), (aa 4, .inl (k5.2.2.1, 40, .inl f4)), (aa 5, .inl (k5.2.2.1, 40, .inl f5)), (aa 6, .inl (k5.2.2.2.1, 40, .inl f6)), (aa 7, .inl (k5.2.2.1, 32, .inl f7)), (aa 8, .inl (k5.2.2.1, 32, .inl f8)), (aa 9, .inl (k5.2.2.1, 32, .inl f9)), (aa 10, .inl (k5.2.2.1, 32, .inl f10))] := hD
  have hRF : mf_Rc R f0 f1 f2 f3 f4 f5 f6 := hRF
  have hRG : mf_Rg g f7 f8 f9 f10 := hRG
  refine mf_of (by decide) (Nat.le_of_ble_eq_true rfl) ?_
  intro p e s m below meth c ls C hH hr hlk hnm hmt hl hS
  have hl : lv_has ls 9 [(0, .ref mo), (1, .int s0), (2, .int k0), (3, .int w0)] := hl
  refine lv_aload_n C.x C.b md_M_level_0 rfl (lv_at hl 0 rfl) ?_
  refine lv_iload_n C.x C.b md_M_level_1 rfl (lv_at hl 1 rfl) ?_
  refine lv_iconst (v := 0) C.x C.b md_M_level_2 (by decide) ?_
  refine lv_iconst (v := 1) C.x C.b md_M_level_3 (by decide) ?_
  refine mf_cks (va_runS (As := [.int s0, .int 0, .int 1]) (rest := [.ref mo]) C.f (k_M_among l D k5 t0 A H s0 0 1) (mf_cS C mt_607 mt_605 mt_6 mt_606 mh_M_among ⟨by decide, by decide⟩) (mf_preS C.ev hS) rfl rfl hl.1 rfl (lv_room (Nat.le_of_ble_eq_true rfl)) md_M_level_4 ⟨by first | omega | exact Nat.le_of_ble_eq_true rfl, by first | omega | exact Nat.le_of_ble_eq_true rfl⟩) ?_
  refine lv_if_eq (tgt := 23) C.x C.b md_M_level_7 (by decide) (fun h1 => ?_) (fun h1 => ?_)
  · skip
    refine lv_iconst (v := 1) C.x C.b md_M_level_23 (by decide) ?_
    refine va_put (D := D) (ci := 4) (v := .int 1) (ty := .int) (C := mf_RM) (T := mf_TM) (N := 20) C.x C.b C.2.2.1 mi_M mf_tyM mp_M mn_M C.o C.k hP hD hS 0 rfl rfl 0 (by decide) (C.t mt_535) (fun _ h => h) rfl (by decide +kernel) rfl rfl (Nat.le_of_ble_eq_true rfl) md_M_level_24 (fun H locs hP hD hS => ?_)
    have hP : va_P D mf_cl [(mo, .inr (4, [.int 1, .int (nI R.length), .int ck, .ref (aa 0), .ref (aa 1), .ref (aa 2), .ref (aa 3), .ref (aa 4), .ref (aa 5), .ref (aa 6), .int (nI g.1), .ref (aa 7), .ref (aa 8), .ref (aa 9), .ref (aa 10), .int g.2.1, .long g.2.2.2.1, .int g.2.2.1, .int sp, .int mt])), (aa 0, .inl (k5.2.2.1, 40, .inl f0)), (aa 1, .inl (k5.2.2.1, 40, .inl f1)), (aa 2, .inl (k5.2.2.1, 40, .inl f2)), (aa 3, .inl (k5.2.2.1, 40, .inl f3)), (aa 4, .inl (k5.2.2.1, 40, .inl f4)), (aa 5, .inl (k5.2.2.1, 40, .inl f5)), (aa 6, .inl (k5.2.2.2.1, 40, .inl f6)), (aa 7, .inl (k5.2.2.1, 32, .inl f7)), (aa 8, .inl (k5.2.2.1, 32, .inl f8)), (aa 9, .inl (k5.2.2.1, 32, .inl f9)), (aa 10, .inl (k5.2.2.1, 32, .inl f10))] H := hP
    have hD : va_D A [(mo, .inr (4, [.int 1, .int (nI R.length), .int ck, .ref (aa 0), .ref (aa 1), .ref (aa 2), .ref (aa 3), .ref (aa 4), .ref (aa 5), .ref (aa 6), .int (nI g.1), .ref (aa 7), .ref (aa 8), .ref (aa 9), .ref (aa 10), .int g.2.1, .long g.2.2.2.1, .int g.2.2.1, .int sp, .int mt])), (aa 0, .inl (k5.2.2.1, 40, .inl f0)), (aa 1, .inl (k5.2.2.1, 40, .inl f1)), (aa 2, .inl (k5.2.2.1, 40, .inl f2)), (aa 3, .inl (k5.2.2.1, 40, .inl f3)), (aa 4, .inl (k5.2.2.1, 40, .inl f4)), (aa 5, .inl (k5.2.2.1, 40, .inl f5)), (aa 6, .inl (k5.2.2.2.1, 40, .inl f6)), (aa 7, .inl (k5.2.2.1, 32, .inl f7)), (aa 8, .inl (k5.2.2.1, 32, .inl f8)), (aa 9, .inl (k5.2.2.1, 32, .inl f9)), (aa 10, .inl (k5.2.2.1, 32, .inl f10))] := hD
    refine lv_aload_n C.x C.b md_M_level_27 rfl (lv_at hl 0 rfl) ?_
    refine mf_gf C (ci := 4) (N := 20) rfl mi_M 0 (by decide) mt_535 (hP 0 _ rfl) (v := .int 1) rfl md_M_level_28 ?_
    refine lv_if_le (tgt := 36) C.x C.b md_M_level_31 (by decide) (fun h2 => ?_) (fun h2 => ?_)
    · exact absurd h2 (by decide)
    · skip
      refine lv_iconst (v := 0) C.x C.b md_M_level_34 (by decide) ?_
      have hsp : rf_level s0 k0 w0 (R, ck, sp, mt, g) = (1, 0) := by exact if_neg (fun z => mf_no01 (mf_andF (mf_bI_0.mp h1)) z.1)
      rw [hsp]
      exact mf_wi C.x C.b hr hlk md_M_level_35 ⟨f0, f1, f2, f3, f4, f5, f6, f7, f8, f9, f10, hP, hD, hle, hRF, hRG⟩ (by rw [← hH]; exact ⟨hS.1, hS.2.1⟩) hH hS.2.2 (Nat.le_refl _) (Nat.le_refl _)
  · skip
    refine lv_iload_n C.x C.b md_M_level_10 rfl (lv_at hl 3 rfl) ?_
    refine lv_iconst (v := 0) C.x C.b md_M_level_11 (by decide) ?_
    refine lv_iconst (v := 2) C.x C.b md_M_level_12 (by decide) ?_
    refine mf_cks (va_runS (As := [.int w0, .int 0, .int 2]) (rest := [.ref mo]) C.f (k_M_among l D k5 t0 A H w0 0 2) (mf_cS C mt_607 mt_605 mt_6 mt_606 mh_M_among ⟨by decide, by decide⟩) (mf_preS C.ev hS) rfl rfl hl.1 rfl (lv_room (Nat.le_of_ble_eq_true rfl)) md_M_level_13 ⟨by first | omega | exact Nat.le_of_ble_eq_true rfl, by first | omega | exact Nat.le_of_ble_eq_true rfl⟩) ?_
    refine lv_if_eq (tgt := 23) C.x C.b md_M_level_16 (by decide) (fun h3 => ?_) (fun h3 => ?_)
    · skip
      refine lv_iconst (v := 1) C.x C.b md_M_level_23 (by decide) ?_
      refine va_put (D := D) (ci := 4) (v := .int 1) (ty := .int) (C := mf_RM) (T := mf_TM) (N := 20) C.x C.b C.2.2.1 mi_M mf_tyM mp_M mn_M C.o C.k hP hD hS 0 rfl rfl 0 (by decide) (C.t mt_535) (fun _ h => h) rfl (by decide +kernel) rfl rfl (Nat.le_of_ble_eq_true rfl) md_M_level_24 (fun H locs hP hD hS => ?_)
      have hP : va_P D mf_cl [(mo, .inr (4, [.int 1, .int (nI R.length), .int ck, .ref (aa 0), .ref (aa 1), .ref (aa 2), .ref (aa 3), .ref (aa 4), .ref (aa 5), .ref (aa 6), .int (nI g.1), .ref (aa 7), .ref (aa 8), .ref (aa 9), .ref (aa 10), .int g.2.1, .long g.2.2.2.1, .int g.2.2.1, .int sp, .int mt])), (aa 0, .inl (k5.2.2.1, 40, .inl f0)), (aa 1, .inl (k5.2.2.1, 40, .inl f1)), (aa 2, .inl (k5.2.2.1, 40, .inl f2)), (aa 3, .inl (k5.2.2.1, 40, .inl f3)), (aa 4, .inl (k5.2.2.1, 40, .inl f4)), (aa 5, .inl (k5.2.2.1, 40, .inl f5)), (aa 6, .inl (k5.2.2.2.1, 40, .inl f6)), (aa 7, .inl (k5.2.2.1, 32, .inl f7)), (aa 8, .inl (k5.2.2.1, 32, .inl f8)), (aa 9, .inl (k5.2.2.1, 32, .inl f9)), (aa 10, .inl (k5.2.2.1, 32, .inl f10))] H := hP
      have hD : va_D A [(mo, .inr (4, [.int 1, .int (nI R.length), .int ck, .ref (aa 0), .ref (aa 1), .ref (aa 2), .ref (aa 3), .ref (aa 4), .ref (aa 5), .ref (aa 6), .int (nI g.1), .ref (aa 7), .ref (aa 8), .ref (aa 9), .ref (aa 10), .int g.2.1, .long g.2.2.2.1, .int g.2.2.1, .int sp, .int mt])), (aa 0, .inl (k5.2.2.1, 40, .inl f0)), (aa 1, .inl (k5.2.2.1, 40, .inl f1)), (aa 2, .inl (k5.2.2.1, 40, .inl f2)), (aa 3, .inl (k5.2.2.1, 40, .inl f3)), (aa 4, .inl (k5.2.2.1, 40, .inl f4)), (aa 5, .inl (k5.2.2.1, 40, .inl f5)), (aa 6, .inl (k5.2.2.2.1, 40, .inl f6)), (aa 7, .inl (k5.2.2.1, 32, .inl f7)), (aa 8, .inl (k5.2.2.1, 32, .inl f8)), (aa 9, .inl (k5.2.2.1, 32, .inl f9)), (aa 10, .inl (k5.2.2.1, 32, .inl f10))] := hD
      refine lv_aload_n C.x C.b md_M_level_27 rfl (lv_at hl 0 rfl) ?_
      refine mf_gf C (ci := 4) (N := 20) rfl mi_M 0 (by decide) mt_535 (hP 0 _ rfl) (v := .int 1) rfl md_M_level_28 ?_
      refine lv_if_le (tgt := 36) C.x C.b md_M_level_31 (by decide) (fun h4 => ?_) (fun h4 => ?_)
      · exact absurd h4 (by decide)
      · skip
        refine lv_iconst (v := 0) C.x C.b md_M_level_34 (by decide) ?_
        have hsp : rf_level s0 k0 w0 (R, ck, sp, mt, g) = (1, 0) := by exact if_neg (fun z => mf_andF (mf_bI_0.mp h3) ⟨z.2.1, z.2.2⟩)
        rw [hsp]
        exact mf_wi C.x C.b hr hlk md_M_level_35 ⟨f0, f1, f2, f3, f4, f5, f6, f7, f8, f9, f10, hP, hD, hle, hRF, hRG⟩ (by rw [← hH]; exact ⟨hS.1, hS.2.1⟩) hH hS.2.2 (Nat.le_refl _) (Nat.le_refl _)
    · skip
      refine lv_iconst (v := 0) C.x C.b md_M_level_19 (by decide) ?_
      refine lv_goto (tgt := 24) C.x C.b md_M_level_20 (by decide) ?_
      refine va_put (D := D) (ci := 4) (v := .int 0) (ty := .int) (C := mf_RM) (T := mf_TM) (N := 20) C.x C.b C.2.2.1 mi_M mf_tyM mp_M mn_M C.o C.k hP hD hS 0 rfl rfl 0 (by decide) (C.t mt_535) (fun _ h => h) rfl (by decide +kernel) rfl rfl (Nat.le_of_ble_eq_true rfl) md_M_level_24 (fun H locs hP hD hS => ?_)
      have hP : va_P D mf_cl [(mo, .inr (4, [.int 0, .int (nI R.length), .int ck, .ref (aa 0), .ref (aa 1), .ref (aa 2), .ref (aa 3), .ref (aa 4), .ref (aa 5), .ref (aa 6), .int (nI g.1), .ref (aa 7), .ref (aa 8), .ref (aa 9), .ref (aa 10), .int g.2.1, .long g.2.2.2.1, .int g.2.2.1, .int sp, .int mt])), (aa 0, .inl (k5.2.2.1, 40, .inl f0)), (aa 1, .inl (k5.2.2.1, 40, .inl f1)), (aa 2, .inl (k5.2.2.1, 40, .inl f2)), (aa 3, .inl (k5.2.2.1, 40, .inl f3)), (aa 4, .inl (k5.2.2.1, 40, .inl f4)), (aa 5, .inl (k5.2.2.1, 40, .inl f5)), (aa 6, .inl (k5.2.2.2.1, 40, .inl f6)), (aa 7, .inl (k5.2.2.1, 32, .inl f7)), (aa 8, .inl (k5.2.2.1, 32, .inl f8)), (aa 9, .inl (k5.2.2.1, 32, .inl f9)), (aa 10, .inl (k5.2.2.1, 32, .inl f10))] H := hP
      have hD : va_D A [(mo, .inr (4, [.int 0, .int (nI R.length), .int ck, .ref (aa 0), .ref (aa 1), .ref (aa 2), .ref (aa 3), .ref (aa 4), .ref (aa 5), .ref (aa 6), .int (nI g.1), .ref (aa 7), .ref (aa 8), .ref (aa 9), .ref (aa 10), .int g.2.1, .long g.2.2.2.1, .int g.2.2.1, .int sp, .int mt])), (aa 0, .inl (k5.2.2.1, 40, .inl f0)), (aa 1, .inl (k5.2.2.1, 40, .inl f1)), (aa 2, .inl (k5.2.2.1, 40, .inl f2)), (aa 3, .inl (k5.2.2.1, 40, .inl f3)), (aa 4, .inl (k5.2.2.1, 40, .inl f4)), (aa 5, .inl (k5.2.2.1, 40, .inl f5)), (aa 6, .inl (k5.2.2.2.1, 40, .inl f6)), (aa 7, .inl (k5.2.2.1, 32, .inl f7)), (aa 8, .inl (k5.2.2.1, 32, .inl f8)), (aa 9, .inl (k5.2.2.1, 32, .inl f9)), (aa 10, .inl (k5.2.2.1, 32, .inl f10))] := hD
      have hM0 : mf_MD D k5 A H mo aa 0 (R, ck, sp, mt, g) := ⟨f0, f1, f2, f3, f4, f5, f6, f7, f8, f9, f10, hP, hD, hle, hRF, hRG⟩
      refine lv_aload_n C.x C.b md_M_level_27 rfl (lv_at hl 0 rfl) ?_
      refine mf_gf C (ci := 4) (N := 20) rfl mi_M 0 (by decide) mt_535 (hP 0 _ rfl) (v := .int 0) rfl md_M_level_28 ?_
      refine lv_if_le (tgt := 36) C.x C.b md_M_level_31 (by decide) (fun h5 => ?_) (fun h5 => ?_)
      · skip
        refine lv_iload_n C.x C.b md_M_level_36 rfl (lv_at hl 2 rfl) ?_
        refine lv_if_ge (tgt := 44) C.x C.b md_M_level_37 (by decide) (fun h6 => ?_) (fun h6 => ?_)
        · skip
          refine lv_aload_n C.x C.b md_M_level_44 rfl (lv_at hl 0 rfl) ?_
          refine lv_iload_n C.x C.b md_M_level_45 rfl (lv_at hl 1 rfl) ?_
          refine lv_iconst (v := 0) C.x C.b md_M_level_46 (by decide) ?_
          refine mf_cks (va_runV (As := [.int s0, .int 0]) (rest := []) C.f (k_M_next l D k5 t0 A H mo aa 0 ck sp mt R g s0 0 hM0 hpr) (mf_cV C mt_680 mt_677 mt_6 mt_679 ms_40 mh_M_nextPrice ⟨by decide, by decide⟩) (mf_preV C.ev hS (mf_rv C (ci := 4) (N := 20) rfl (hP 0 _ rfl))) rfl rfl hl.1 rfl (lv_room (Nat.le_of_ble_eq_true rfl)) md_M_level_47 ⟨by first | omega | exact Nat.le_of_ble_eq_true rfl, by first | omega | exact Nat.le_of_ble_eq_true rfl⟩) ?_
          refine lv_istore (lv' := [(4, .int (rf_next s0 0 R)), (0, .ref mo), (1, .int s0), (2, .int k0), (3, .int w0)]) C.x C.b md_M_level_50 hl (by decide) rfl (fun ls hl => ?_)
          refine lv_iconst (v := 0) C.x C.b md_M_level_52 (by decide) ?_
          refine lv_istore (lv' := [(5, .int 0), (4, .int (rf_next s0 0 R)), (0, .ref mo), (1, .int s0), (2, .int k0), (3, .int w0)]) C.x C.b md_M_level_53 hl (by decide) rfl (fun ls hl => ?_)
          have aft : ∀ (pw : Int32) (ls : Array Slot), (if k0 < 0 then 0 else rf_walk (fun b => rf_next s0 b R) k0.toNatClampNeg (rf_next s0 0 R)) = pw → lv_has ls 9 [(4, .int pw), (0, .ref mo), (1, .int s0), (2, .int k0), (3, .int w0)] → W p l e ({ frames := 1, cells := 0, slots := 0, locals := 25 } : Room) s m (([.ref mo, .int s0, .int k0, .int w0] : List Value).toArray) below meth c H locs 0 0 (MQ below (mf_Kw (some (.int (rf_level s0 k0 w0 (R, ck, sp, mt, g)).2)) (fun H1 => mf_MD D k5 A H1 mo aa (nI (rf_level s0 k0 w0 (R, ck, sp, mt, g)).1) (R, ck, sp, mt, g)) (A)) (([.ref mo, .int s0, .int k0, .int w0] : List Value).toArray) s 0 0 A) (F0 m 81 ls []) := by
            intro pw ls hpw hl
            refine lv_aload_n C.x C.b md_M_level_81 rfl (lv_at hl 1 rfl) ?_
            refine lv_iload C.x C.b md_M_level_82 (lv_at hl 0 rfl) ?_
            refine lv_if_ne (tgt := 91) C.x C.b md_M_level_84 (by decide) (fun hz => ?_) (fun hz => ?_)
            · skip
              refine lv_iconst (v := 0) C.x C.b md_M_level_91 (by decide) ?_
              refine va_put (D := D) (ci := 4) (v := .int 0) (ty := .int) (C := mf_RM) (T := mf_TM) (N := 20) C.x C.b C.2.2.1 mi_M mf_tyM mp_M mn_M C.o C.k hP hD hS 0 rfl rfl 0 (by decide) (C.t mt_535) (fun _ h => h) rfl (by decide +kernel) rfl rfl (Nat.le_of_ble_eq_true rfl) md_M_level_92 (fun H locs hP hD hS => ?_)
              have hP : va_P D mf_cl [(mo, .inr (4, [.int 0, .int (nI R.length), .int ck, .ref (aa 0), .ref (aa 1), .ref (aa 2), .ref (aa 3), .ref (aa 4), .ref (aa 5), .ref (aa 6), .int (nI g.1), .ref (aa 7), .ref (aa 8), .ref (aa 9), .ref (aa 10), .int g.2.1, .long g.2.2.2.1, .int g.2.2.1, .int sp, .int mt])), (aa 0, .inl (k5.2.2.1, 40, .inl f0)), (aa 1, .inl (k5.2.2.1, 40, .inl f1)), (aa 2, .inl (k5.2.2.1, 40, .inl f2)), (aa 3, .inl (k5.2.2.1, 40, .inl f3)), (aa 4, .inl (k5.2.2.1, 40, .inl f4)), (aa 5, .inl (k5.2.2.1, 40, .inl f5)), (aa 6, .inl (k5.2.2.2.1, 40, .inl f6)), (aa 7, .inl (k5.2.2.1, 32, .inl f7)), (aa 8, .inl (k5.2.2.1, 32, .inl f8)), (aa 9, .inl (k5.2.2.1, 32, .inl f9)), (aa 10, .inl (k5.2.2.1, 32, .inl f10))] H := hP
              have hD : va_D A [(mo, .inr (4, [.int 0, .int (nI R.length), .int ck, .ref (aa 0), .ref (aa 1), .ref (aa 2), .ref (aa 3), .ref (aa 4), .ref (aa 5), .ref (aa 6), .int (nI g.1), .ref (aa 7), .ref (aa 8), .ref (aa 9), .ref (aa 10), .int g.2.1, .long g.2.2.2.1, .int g.2.2.1, .int sp, .int mt])), (aa 0, .inl (k5.2.2.1, 40, .inl f0)), (aa 1, .inl (k5.2.2.1, 40, .inl f1)), (aa 2, .inl (k5.2.2.1, 40, .inl f2)), (aa 3, .inl (k5.2.2.1, 40, .inl f3)), (aa 4, .inl (k5.2.2.1, 40, .inl f4)), (aa 5, .inl (k5.2.2.1, 40, .inl f5)), (aa 6, .inl (k5.2.2.2.1, 40, .inl f6)), (aa 7, .inl (k5.2.2.1, 32, .inl f7)), (aa 8, .inl (k5.2.2.1, 32, .inl f8)), (aa 9, .inl (k5.2.2.1, 32, .inl f9)), (aa 10, .inl (k5.2.2.1, 32, .inl f10))] := hD
              refine lv_iconst (v := 0) C.x C.b md_M_level_95 (by decide) ?_
              refine lv_istore (lv' := [(5, .int 0), (4, .int pw), (0, .ref mo), (1, .int s0), (2, .int k0), (3, .int w0)]) C.x C.b md_M_level_96 hl (by decide) rfl (fun ls hl => ?_)
              refine lv_iconst (v := 0) C.x C.b md_M_level_98 (by decide) ?_
              refine lv_istore (lv' := [(6, .int 0), (5, .int 0), (4, .int pw), (0, .ref mo), (1, .int s0), (2, .int k0), (3, .int w0)]) C.x C.b md_M_level_99 hl (by decide) rfl (fun ls hl => ?_)
              refine lv_iconst (v := 0) C.x C.b md_M_level_101 (by decide) ?_
              refine lv_istore (lv' := [(7, .int 0), (6, .int 0), (5, .int 0), (4, .int pw), (0, .ref mo), (1, .int s0), (2, .int k0), (3, .int w0)]) C.x C.b md_M_level_102 hl (by decide) rfl (fun ls hl => ?_)
              have loop : ∀ (n k : Nat) (r1 r2 : Int32) (ls : Array Slot), k + n = R.length → mf_sum (fun x : mf_T => if mf_at s0 pw x.1 then mf_lf x.1 else 0) (R.take k) = r1 → mf_sum (fun x : mf_T => if mf_at s0 pw x.1 then 1 else 0) (R.take k) = r2 → lv_has ls 9 [(7, .int (nI k)), (5, .int r1), (6, .int r2), (4, .int pw), (0, .ref mo), (1, .int s0), (2, .int k0), (3, .int w0)] → W p l e ({ frames := 1, cells := 0, slots := 0, locals := 25 } : Room) s m (([.ref mo, .int s0, .int k0, .int w0] : List Value).toArray) below meth c H locs 0 0 (MQ below (mf_Kw (some (.int (rf_level s0 k0 w0 (R, ck, sp, mt, g)).2)) (fun H1 => mf_MD D k5 A H1 mo aa (nI (rf_level s0 k0 w0 (R, ck, sp, mt, g)).1) (R, ck, sp, mt, g)) (A)) (([.ref mo, .int s0, .int k0, .int w0] : List Value).toArray) s 0 0 A) (F0 m 104 ls []) := by
                intro n
                induction n with
                | zero =>
                  intro k r1 r2 ls hk i0 i1 hl
                  obtain rfl : k = R.length := by omega
                  rw [List.take_length] at i0
                  rw [List.take_length] at i1
                  refine lv_iload C.x C.b md_M_level_104 (lv_at hl 0 rfl) ?_
                  refine lv_aload_n C.x C.b md_M_level_106 rfl (lv_at hl 4 rfl) ?_
                  refine mf_gf C (ci := 4) (N := 20) rfl mi_M 1 (by decide) mt_536 (hP 0 _ rfl) (v := .int (nI R.length)) rfl md_M_level_107 ?_
                  refine lv_icmp_ge (tgt := 195) C.x C.b md_M_level_110 (by decide) (fun h7 => ?_) (fun h7 => ?_)
                  · skip
                    refine lv_aload_n C.x C.b md_M_level_195 rfl (lv_at hl 4 rfl) ?_
                    refine mf_gf C (ci := 4) (N := 20) rfl mi_M 0 (by decide) mt_535 (hP 0 _ rfl) (v := .int 0) rfl md_M_level_196 ?_
                    refine lv_if_le (tgt := 206) C.x C.b md_M_level_199 (by decide) (fun h8 => ?_) (fun h8 => ?_)
                    · skip
                      refine lv_iload_n C.x C.b md_M_level_206 rfl (lv_at hl 7 rfl) ?_
                      refine lv_if_ne (tgt := 215) C.x C.b md_M_level_207 (by decide) (fun h9 => ?_) (fun h9 => ?_)
                      · skip
                        refine lv_iload_n C.x C.b md_M_level_215 rfl (lv_at hl 7 rfl) ?_
                        refine lv_iconst (v := 1) C.x C.b md_M_level_216 (by decide) ?_
                        refine lv_icmp_ne (tgt := 225) C.x C.b md_M_level_217 (by decide) (fun h10 => ?_) (fun h10 => ?_)
                        · skip
                          refine lv_iload C.x C.b md_M_level_225 (lv_at hl 2 rfl) ?_
                          have hsp : rf_level s0 k0 w0 (R, ck, sp, mt, g) = (0, r2) := by subst i0 i1; unfold rf_level; rw [if_pos ⟨mf_is01 ⟨(mf_andT (mf_bI_1.mp h1)).1, (mf_andT (mf_bI_1.mp h1)).2⟩, (mf_andT (mf_bI_1.mp h3)).1, (mf_andT (mf_bI_1.mp h3)).2⟩]; dsimp only; rw [hpw]; rw [if_neg hz]; simp [h7, Int32.not_lt.mpr h7, h8, Int32.not_lt.mpr h8, h9, h10]
                          rw [hsp]
                          exact mf_wi C.x C.b hr hlk md_M_level_227 ⟨f0, f1, f2, f3, f4, f5, f6, f7, f8, f9, f10, hP, hD, hle, hRF, hRG⟩ (by rw [← hH]; exact ⟨hS.1, hS.2.1⟩) hH hS.2.2 (Nat.le_refl _) (Nat.le_refl _)
                        · skip
                          refine lv_iload C.x C.b md_M_level_220 (lv_at hl 1 rfl) ?_
                          refine lv_goto (tgt := 227) C.x C.b md_M_level_222 (by decide) ?_
                          have hsp : rf_level s0 k0 w0 (R, ck, sp, mt, g) = (0, r1) := by subst i0 i1; unfold rf_level; rw [if_pos ⟨mf_is01 ⟨(mf_andT (mf_bI_1.mp h1)).1, (mf_andT (mf_bI_1.mp h1)).2⟩, (mf_andT (mf_bI_1.mp h3)).1, (mf_andT (mf_bI_1.mp h3)).2⟩]; dsimp only; rw [hpw]; rw [if_neg hz]; simp [h7, Int32.not_lt.mpr h7, h8, Int32.not_lt.mpr h8, h9, h10]
                          rw [hsp]
                          exact mf_wi C.x C.b hr hlk md_M_level_227 ⟨f0, f1, f2, f3, f4, f5, f6, f7, f8, f9, f10, hP, hD, hle, hRF, hRG⟩ (by rw [← hH]; exact ⟨hS.1, hS.2.1⟩) hH hS.2.2 (Nat.le_refl _) (Nat.le_refl _)
                      · skip
                        refine lv_iload C.x C.b md_M_level_210 (lv_at hl 3 rfl) ?_
                        refine lv_goto (tgt := 227) C.x C.b md_M_level_212 (by decide) ?_
                        have hsp : rf_level s0 k0 w0 (R, ck, sp, mt, g) = (0, pw) := by subst i0 i1; unfold rf_level; rw [if_pos ⟨mf_is01 ⟨(mf_andT (mf_bI_1.mp h1)).1, (mf_andT (mf_bI_1.mp h1)).2⟩, (mf_andT (mf_bI_1.mp h3)).1, (mf_andT (mf_bI_1.mp h3)).2⟩]; dsimp only; rw [hpw]; rw [if_neg hz]; simp [h7, Int32.not_lt.mpr h7, h8, Int32.not_lt.mpr h8, h9]
                        rw [hsp]
                        exact mf_wi C.x C.b hr hlk md_M_level_227 ⟨f0, f1, f2, f3, f4, f5, f6, f7, f8, f9, f10, hP, hD, hle, hRF, hRG⟩ (by rw [← hH]; exact ⟨hS.1, hS.2.1⟩) hH hS.2.2 (Nat.le_refl _) (Nat.le_refl _)
                    · exact absurd (by decide) h8
                  · exact absurd (Int32.le_refl _) h7
                | succ n ih =>
                  intro k r1 r2 ls hk i0 i1 hl
                  have hkk : k < R.length := by omega
                  obtain ⟨x, hq⟩ := mf_at_lt hkk
                  have hu := hRF k x hq
                  refine lv_iload C.x C.b md_M_level_104 (lv_at hl 0 rfl) ?_
                  refine lv_aload_n C.x C.b md_M_level_106 rfl (lv_at hl 4 rfl) ?_
                  refine mf_gf C (ci := 4) (N := 20) rfl mi_M 1 (by decide) mt_536 (hP 0 _ rfl) (v := .int (nI R.length)) rfl md_M_level_107 ?_
                  refine lv_icmp_ge (tgt := 195) C.x C.b md_M_level_110 (by decide) (fun h11 => ?_) (fun h11 => ?_)
                  · exact absurd h11 (nI_ge hkk (by omega))
                  · skip
                    refine lv_aload_n C.x C.b md_M_level_113 rfl (lv_at hl 4 rfl) ?_
                    refine mf_gf C (ci := 4) (N := 20) rfl mi_M 9 (by decide) mt_544 (hP 0 _ rfl) (v := .ref (aa 6)) rfl md_M_level_114 ?_
                    refine lv_iload C.x C.b md_M_level_117 (lv_at hl 0 rfl) ?_
                    refine mf_zv C (t := 3) rfl (hP 7 _ rfl) (by omega) (by decide) hu.2.2.2.2.2.2.1 md_M_level_119 ?_
                    refine lv_if_ne (tgt := 150) C.x C.b md_M_level_120 (by decide) (fun h12 => ?_) (fun h12 => ?_)
                    · skip
                      refine lv_iconst (v := 0) C.x C.b md_M_level_150 (by decide) ?_
                      refine lv_istore (lv' := [(8, .int 0), (7, .int (nI k)), (5, .int r1), (6, .int r2), (4, .int pw), (0, .ref mo), (1, .int s0), (2, .int k0), (3, .int w0)]) C.x C.b md_M_level_151 hl (by decide) rfl (fun ls hl => ?_)
                      refine lv_iload C.x C.b md_M_level_153 (lv_at hl 2 rfl) ?_
                      refine lv_iload C.x C.b md_M_level_155 (lv_at hl 0 rfl) ?_
                      refine lv_if_eq (tgt := 170) C.x C.b md_M_level_157 (by decide) (fun h13 => ?_) (fun h13 => ?_)
                      · skip
                        refine lv_iconst (v := 0) C.x C.b md_M_level_170 (by decide) ?_
                        refine lv_iadd C.x C.b md_M_level_171 ?_
                        refine lv_istore (lv' := [(5, .int (r1 + 0)), (8, .int 0), (7, .int (nI k)), (6, .int r2), (4, .int pw), (0, .ref mo), (1, .int s0), (2, .int k0), (3, .int w0)]) C.x C.b md_M_level_172 hl (by decide) rfl (fun ls hl => ?_)
                        refine lv_iload C.x C.b md_M_level_174 (lv_at hl 3 rfl) ?_
                        refine lv_iload C.x C.b md_M_level_176 (lv_at hl 1 rfl) ?_
                        refine lv_if_eq (tgt := 185) C.x C.b md_M_level_178 (by decide) (fun h14 => ?_) (fun h14 => ?_)
                        · skip
                          refine lv_iconst (v := 0) C.x C.b md_M_level_185 (by decide) ?_
                          refine lv_iadd C.x C.b md_M_level_186 ?_
                          refine lv_istore (lv' := [(6, .int (r2 + 0)), (5, .int (r1 + 0)), (8, .int 0), (7, .int (nI k)), (4, .int pw), (0, .ref mo), (1, .int s0), (2, .int k0), (3, .int w0)]) C.x C.b md_M_level_187 hl (by decide) rfl (fun ls hl => ?_)
                          refine lv_iinc (k := 3) (v := nI (k + 1)) (lv' := [(7, .int (nI (k + 1))), (6, .int (r2 + 0)), (5, .int (r1 + 0)), (8, .int 0), (4, .int pw), (0, .ref mo), (1, .int s0), (2, .int k0), (3, .int w0)]) C.x C.b md_M_level_189 hl rfl (nI_1 _) (by decide) rfl (fun ls hl => ?_)
                          refine lv_goto (tgt := 104) C.x C.b md_M_level_192 (by decide) ?_
                          exact ih (k + 1) (r1 + 0) (r2 + 0) ls (by omega) (mf_sstep hq i0 (by first | (simp [mf_at, mf_rests, h11, Int32.not_le.mp h11, h12, h13, h14]; done) | (exfalso; simp_all; done))) (mf_sstep hq i1 (by first | (simp [mf_at, mf_rests, h11, Int32.not_le.mp h11, h12, h13, h14]; done) | (exfalso; simp_all; done))) (lv_sub hl [0, 2, 1, 4, 5, 6, 7, 8] rfl)
                        · exact absurd rfl h14
                      · exact absurd rfl h13
                    · skip
                      refine lv_aload_n C.x C.b md_M_level_123 rfl (lv_at hl 4 rfl) ?_
                      refine mf_gf C (ci := 4) (N := 20) rfl mi_M 5 (by decide) mt_540 (hP 0 _ rfl) (v := .ref (aa 2)) rfl md_M_level_124 ?_
                      refine lv_iload C.x C.b md_M_level_127 (lv_at hl 0 rfl) ?_
                      refine mf_iv C (t := 2) rfl (hP 3 _ rfl) (by omega) (by decide) hu.2.2.1 md_M_level_129 ?_
                      refine lv_iload_n C.x C.b md_M_level_130 rfl (lv_at hl 5 rfl) ?_
                      refine lv_icmp_ne (tgt := 150) C.x C.b md_M_level_131 (by decide) (fun h15 => ?_) (fun h15 => ?_)
                      · skip
                        refine lv_iconst (v := 0) C.x C.b md_M_level_150 (by decide) ?_
                        refine lv_istore (lv' := [(8, .int 0), (7, .int (nI k)), (5, .int r1), (6, .int r2), (4, .int pw), (0, .ref mo), (1, .int s0), (2, .int k0), (3, .int w0)]) C.x C.b md_M_level_151 hl (by decide) rfl (fun ls hl => ?_)
                        refine lv_iload C.x C.b md_M_level_153 (lv_at hl 2 rfl) ?_
                        refine lv_iload C.x C.b md_M_level_155 (lv_at hl 0 rfl) ?_
                        refine lv_if_eq (tgt := 170) C.x C.b md_M_level_157 (by decide) (fun h16 => ?_) (fun h16 => ?_)
                        · skip
                          refine lv_iconst (v := 0) C.x C.b md_M_level_170 (by decide) ?_
                          refine lv_iadd C.x C.b md_M_level_171 ?_
                          refine lv_istore (lv' := [(5, .int (r1 + 0)), (8, .int 0), (7, .int (nI k)), (6, .int r2), (4, .int pw), (0, .ref mo), (1, .int s0), (2, .int k0), (3, .int w0)]) C.x C.b md_M_level_172 hl (by decide) rfl (fun ls hl => ?_)
                          refine lv_iload C.x C.b md_M_level_174 (lv_at hl 3 rfl) ?_
                          refine lv_iload C.x C.b md_M_level_176 (lv_at hl 1 rfl) ?_
                          refine lv_if_eq (tgt := 185) C.x C.b md_M_level_178 (by decide) (fun h17 => ?_) (fun h17 => ?_)
                          · skip
                            refine lv_iconst (v := 0) C.x C.b md_M_level_185 (by decide) ?_
                            refine lv_iadd C.x C.b md_M_level_186 ?_
                            refine lv_istore (lv' := [(6, .int (r2 + 0)), (5, .int (r1 + 0)), (8, .int 0), (7, .int (nI k)), (4, .int pw), (0, .ref mo), (1, .int s0), (2, .int k0), (3, .int w0)]) C.x C.b md_M_level_187 hl (by decide) rfl (fun ls hl => ?_)
                            refine lv_iinc (k := 3) (v := nI (k + 1)) (lv' := [(7, .int (nI (k + 1))), (6, .int (r2 + 0)), (5, .int (r1 + 0)), (8, .int 0), (4, .int pw), (0, .ref mo), (1, .int s0), (2, .int k0), (3, .int w0)]) C.x C.b md_M_level_189 hl rfl (nI_1 _) (by decide) rfl (fun ls hl => ?_)
                            refine lv_goto (tgt := 104) C.x C.b md_M_level_192 (by decide) ?_
                            exact ih (k + 1) (r1 + 0) (r2 + 0) ls (by omega) (mf_sstep hq i0 (by first | (simp [mf_at, mf_rests, h11, Int32.not_le.mp h11, h12, h15, h16, h17]; done) | (exfalso; simp_all; done))) (mf_sstep hq i1 (by first | (simp [mf_at, mf_rests, h11, Int32.not_le.mp h11, h12, h15, h16, h17]; done) | (exfalso; simp_all; done))) (lv_sub hl [0, 2, 1, 4, 5, 6, 7, 8] rfl)
                          · exact absurd rfl h17
                        · exact absurd rfl h16
                      · skip
                        refine lv_aload_n C.x C.b md_M_level_134 rfl (lv_at hl 4 rfl) ?_
                        refine mf_gf C (ci := 4) (N := 20) rfl mi_M 6 (by decide) mt_541 (hP 0 _ rfl) (v := .ref (aa 3)) rfl md_M_level_135 ?_
                        refine lv_iload C.x C.b md_M_level_138 (lv_at hl 0 rfl) ?_
                        refine mf_iv C (t := 2) rfl (hP 4 _ rfl) (by omega) (by decide) hu.2.2.2.1 md_M_level_140 ?_
                        refine lv_iload C.x C.b md_M_level_141 (lv_at hl 3 rfl) ?_
                        refine lv_icmp_ne (tgt := 150) C.x C.b md_M_level_143 (by decide) (fun h18 => ?_) (fun h18 => ?_)
                        · skip
                          refine lv_iconst (v := 0) C.x C.b md_M_level_150 (by decide) ?_
                          refine lv_istore (lv' := [(8, .int 0), (7, .int (nI k)), (5, .int r1), (6, .int r2), (4, .int pw), (0, .ref mo), (1, .int s0), (2, .int k0), (3, .int w0)]) C.x C.b md_M_level_151 hl (by decide) rfl (fun ls hl => ?_)
                          refine lv_iload C.x C.b md_M_level_153 (lv_at hl 2 rfl) ?_
                          refine lv_iload C.x C.b md_M_level_155 (lv_at hl 0 rfl) ?_
                          refine lv_if_eq (tgt := 170) C.x C.b md_M_level_157 (by decide) (fun h19 => ?_) (fun h19 => ?_)
                          · skip
                            refine lv_iconst (v := 0) C.x C.b md_M_level_170 (by decide) ?_
                            refine lv_iadd C.x C.b md_M_level_171 ?_
                            refine lv_istore (lv' := [(5, .int (r1 + 0)), (8, .int 0), (7, .int (nI k)), (6, .int r2), (4, .int pw), (0, .ref mo), (1, .int s0), (2, .int k0), (3, .int w0)]) C.x C.b md_M_level_172 hl (by decide) rfl (fun ls hl => ?_)
                            refine lv_iload C.x C.b md_M_level_174 (lv_at hl 3 rfl) ?_
                            refine lv_iload C.x C.b md_M_level_176 (lv_at hl 1 rfl) ?_
                            refine lv_if_eq (tgt := 185) C.x C.b md_M_level_178 (by decide) (fun h20 => ?_) (fun h20 => ?_)
                            · skip
                              refine lv_iconst (v := 0) C.x C.b md_M_level_185 (by decide) ?_
                              refine lv_iadd C.x C.b md_M_level_186 ?_
                              refine lv_istore (lv' := [(6, .int (r2 + 0)), (5, .int (r1 + 0)), (8, .int 0), (7, .int (nI k)), (4, .int pw), (0, .ref mo), (1, .int s0), (2, .int k0), (3, .int w0)]) C.x C.b md_M_level_187 hl (by decide) rfl (fun ls hl => ?_)
                              refine lv_iinc (k := 3) (v := nI (k + 1)) (lv' := [(7, .int (nI (k + 1))), (6, .int (r2 + 0)), (5, .int (r1 + 0)), (8, .int 0), (4, .int pw), (0, .ref mo), (1, .int s0), (2, .int k0), (3, .int w0)]) C.x C.b md_M_level_189 hl rfl (nI_1 _) (by decide) rfl (fun ls hl => ?_)
                              refine lv_goto (tgt := 104) C.x C.b md_M_level_192 (by decide) ?_
                              exact ih (k + 1) (r1 + 0) (r2 + 0) ls (by omega) (mf_sstep hq i0 (by first | (simp [mf_at, mf_rests, h11, Int32.not_le.mp h11, h12, h15, h18, h19, h20]; done) | (exfalso; simp_all; done))) (mf_sstep hq i1 (by first | (simp [mf_at, mf_rests, h11, Int32.not_le.mp h11, h12, h15, h18, h19, h20]; done) | (exfalso; simp_all; done))) (lv_sub hl [0, 2, 1, 4, 5, 6, 7, 8] rfl)
                            · exact absurd rfl h20
                          · exact absurd rfl h19
                        · skip
                          refine lv_iconst (v := 1) C.x C.b md_M_level_146 (by decide) ?_
                          refine lv_goto (tgt := 151) C.x C.b md_M_level_147 (by decide) ?_
                          refine lv_istore (lv' := [(8, .int 1), (7, .int (nI k)), (5, .int r1), (6, .int r2), (4, .int pw), (0, .ref mo), (1, .int s0), (2, .int k0), (3, .int w0)]) C.x C.b md_M_level_151 hl (by decide) rfl (fun ls hl => ?_)
                          refine lv_iload C.x C.b md_M_level_153 (lv_at hl 2 rfl) ?_
                          refine lv_iload C.x C.b md_M_level_155 (lv_at hl 0 rfl) ?_
                          refine lv_if_eq (tgt := 170) C.x C.b md_M_level_157 (by decide) (fun h21 => ?_) (fun h21 => ?_)
                          · exact absurd h21 (by decide)
                          · skip
                            refine lv_aload_n C.x C.b md_M_level_160 rfl (lv_at hl 5 rfl) ?_
                            refine mf_gf C (ci := 4) (N := 20) rfl mi_M 7 (by decide) mt_542 (hP 0 _ rfl) (v := .ref (aa 4)) rfl md_M_level_161 ?_
                            refine lv_iload C.x C.b md_M_level_164 (lv_at hl 1 rfl) ?_
                            refine mf_iv C (t := 2) rfl (hP 5 _ rfl) (by omega) (by decide) hu.2.2.2.2.1 md_M_level_166 ?_
                            refine lv_goto (tgt := 171) C.x C.b md_M_level_167 (by decide) ?_
                            refine lv_iadd C.x C.b md_M_level_171 ?_
                            refine lv_istore (lv' := [(5, .int (r1 + (mf_lf x.1))), (8, .int 1), (7, .int (nI k)), (6, .int r2), (4, .int pw), (0, .ref mo), (1, .int s0), (2, .int k0), (3, .int w0)]) C.x C.b md_M_level_172 hl (by decide) rfl (fun ls hl => ?_)
                            refine lv_iload C.x C.b md_M_level_174 (lv_at hl 3 rfl) ?_
                            refine lv_iload C.x C.b md_M_level_176 (lv_at hl 1 rfl) ?_
                            refine lv_if_eq (tgt := 185) C.x C.b md_M_level_178 (by decide) (fun h22 => ?_) (fun h22 => ?_)
                            · exact absurd h22 (by decide)
                            · skip
                              refine lv_iconst (v := 1) C.x C.b md_M_level_181 (by decide) ?_
                              refine lv_goto (tgt := 186) C.x C.b md_M_level_182 (by decide) ?_
                              refine lv_iadd C.x C.b md_M_level_186 ?_
                              refine lv_istore (lv' := [(6, .int (r2 + 1)), (5, .int (r1 + (mf_lf x.1))), (8, .int 1), (7, .int (nI k)), (4, .int pw), (0, .ref mo), (1, .int s0), (2, .int k0), (3, .int w0)]) C.x C.b md_M_level_187 hl (by decide) rfl (fun ls hl => ?_)
                              refine lv_iinc (k := 3) (v := nI (k + 1)) (lv' := [(7, .int (nI (k + 1))), (6, .int (r2 + 1)), (5, .int (r1 + (mf_lf x.1))), (8, .int 1), (4, .int pw), (0, .ref mo), (1, .int s0), (2, .int k0), (3, .int w0)]) C.x C.b md_M_level_189 hl rfl (nI_1 _) (by decide) rfl (fun ls hl => ?_)
                              refine lv_goto (tgt := 104) C.x C.b md_M_level_192 (by decide) ?_
                              exact ih (k + 1) (r1 + (mf_lf x.1)) (r2 + 1) ls (by omega) (mf_sstep hq i0 (by first | (simp [mf_at, mf_rests, h11, Int32.not_le.mp h11, h12, h15, h18, h21, h22]; done) | (exfalso; simp_all; done))) (mf_sstep hq i1 (by first | (simp [mf_at, mf_rests, h11, Int32.not_le.mp h11, h12, h15, h18, h21, h22]; done) | (exfalso; simp_all; done))) (lv_sub hl [0, 2, 1, 4, 5, 6, 7, 8] rfl)
              exact loop R.length 0 0 0 ls (by omega) rfl rfl (lv_sub hl [0, 2, 1, 3, 4, 5, 6, 7] rfl)
            · skip
              refine lv_iconst (v := 2) C.x C.b md_M_level_87 (by decide) ?_
              refine lv_goto (tgt := 92) C.x C.b md_M_level_88 (by decide) ?_
              refine va_put (D := D) (ci := 4) (v := .int 2) (ty := .int) (C := mf_RM) (T := mf_TM) (N := 20) C.x C.b C.2.2.1 mi_M mf_tyM mp_M mn_M C.o C.k hP hD hS 0 rfl rfl 0 (by decide) (C.t mt_535) (fun _ h => h) rfl (by decide +kernel) rfl rfl (Nat.le_of_ble_eq_true rfl) md_M_level_92 (fun H locs hP hD hS => ?_)
              have hP : va_P D mf_cl [(mo, .inr (4, [.int 2, .int (nI R.length), .int ck, .ref (aa 0), .ref (aa 1), .ref (aa 2), .ref (aa 3), .ref (aa 4), .ref (aa 5), .ref (aa 6), .int (nI g.1), .ref (aa 7), .ref (aa 8), .ref (aa 9), .ref (aa 10), .int g.2.1, .long g.2.2.2.1, .int g.2.2.1, .int sp, .int mt])), (aa 0, .inl (k5.2.2.1, 40, .inl f0)), (aa 1, .inl (k5.2.2.1, 40, .inl f1)), (aa 2, .inl (k5.2.2.1, 40, .inl f2)), (aa 3, .inl (k5.2.2.1, 40, .inl f3)), (aa 4, .inl (k5.2.2.1, 40, .inl f4)), (aa 5, .inl (k5.2.2.1, 40, .inl f5)), (aa 6, .inl (k5.2.2.2.1, 40, .inl f6)), (aa 7, .inl (k5.2.2.1, 32, .inl f7)), (aa 8, .inl (k5.2.2.1, 32, .inl f8)), (aa 9, .inl (k5.2.2.1, 32, .inl f9)), (aa 10, .inl (k5.2.2.1, 32, .inl f10))] H := hP
              have hD : va_D A [(mo, .inr (4, [.int 2, .int (nI R.length), .int ck, .ref (aa 0), .ref (aa 1), .ref (aa 2), .ref (aa 3), .ref (aa 4), .ref (aa 5), .ref (aa 6), .int (nI g.1), .ref (aa 7), .ref (aa 8), .ref (aa 9), .ref (aa 10), .int g.2.1, .long g.2.2.2.1, .int g.2.2.1, .int sp, .int mt])), (aa 0, .inl (k5.2.2.1, 40, .inl f0)), (aa 1, .inl (k5.2.2.1, 40, .inl f1)), (aa 2, .inl (k5.2.2.1, 40, .inl f2)), (aa 3, .inl (k5.2.2.1, 40, .inl f3)), (aa 4, .inl (k5.2.2.1, 40, .inl f4)), (aa 5, .inl (k5.2.2.1, 40, .inl f5)), (aa 6, .inl (k5.2.2.2.1, 40, .inl f6)), (aa 7, .inl (k5.2.2.1, 32, .inl f7)), (aa 8, .inl (k5.2.2.1, 32, .inl f8)), (aa 9, .inl (k5.2.2.1, 32, .inl f9)), (aa 10, .inl (k5.2.2.1, 32, .inl f10))] := hD
              refine lv_iconst (v := 0) C.x C.b md_M_level_95 (by decide) ?_
              refine lv_istore (lv' := [(5, .int 0), (4, .int pw), (0, .ref mo), (1, .int s0), (2, .int k0), (3, .int w0)]) C.x C.b md_M_level_96 hl (by decide) rfl (fun ls hl => ?_)
              refine lv_iconst (v := 0) C.x C.b md_M_level_98 (by decide) ?_
              refine lv_istore (lv' := [(6, .int 0), (5, .int 0), (4, .int pw), (0, .ref mo), (1, .int s0), (2, .int k0), (3, .int w0)]) C.x C.b md_M_level_99 hl (by decide) rfl (fun ls hl => ?_)
              refine lv_iconst (v := 0) C.x C.b md_M_level_101 (by decide) ?_
              refine lv_istore (lv' := [(7, .int 0), (6, .int 0), (5, .int 0), (4, .int pw), (0, .ref mo), (1, .int s0), (2, .int k0), (3, .int w0)]) C.x C.b md_M_level_102 hl (by decide) rfl (fun ls hl => ?_)
              have loop : ∀ (n k : Nat) (r1 r2 : Int32) (ls : Array Slot), k + n = R.length → mf_sum (fun x : mf_T => if mf_at s0 pw x.1 then mf_lf x.1 else 0) (R.take k) = r1 → mf_sum (fun x : mf_T => if mf_at s0 pw x.1 then 1 else 0) (R.take k) = r2 → lv_has ls 9 [(7, .int (nI k)), (5, .int r1), (6, .int r2), (4, .int pw), (0, .ref mo), (1, .int s0), (2, .int k0), (3, .int w0)] → W p l e ({ frames := 1, cells := 0, slots := 0, locals := 25 } : Room) s m (([.ref mo, .int s0, .int k0, .int w0] : List Value).toArray) below meth c H locs 0 0 (MQ below (mf_Kw (some (.int (rf_level s0 k0 w0 (R, ck, sp, mt, g)).2)) (fun H1 => mf_MD D k5 A H1 mo aa (nI (rf_level s0 k0 w0 (R, ck, sp, mt, g)).1) (R, ck, sp, mt, g)) (A)) (([.ref mo, .int s0, .int k0, .int w0] : List Value).toArray) s 0 0 A) (F0 m 104 ls []) := by
                intro n
                induction n with
                | zero =>
                  intro k r1 r2 ls hk i0 i1 hl
                  obtain rfl : k = R.length := by omega
                  rw [List.take_length] at i0
                  rw [List.take_length] at i1
                  refine lv_iload C.x C.b md_M_level_104 (lv_at hl 0 rfl) ?_
                  refine lv_aload_n C.x C.b md_M_level_106 rfl (lv_at hl 4 rfl) ?_
                  refine mf_gf C (ci := 4) (N := 20) rfl mi_M 1 (by decide) mt_536 (hP 0 _ rfl) (v := .int (nI R.length)) rfl md_M_level_107 ?_
                  refine lv_icmp_ge (tgt := 195) C.x C.b md_M_level_110 (by decide) (fun h23 => ?_) (fun h23 => ?_)
                  · skip
                    refine lv_aload_n C.x C.b md_M_level_195 rfl (lv_at hl 4 rfl) ?_
                    refine mf_gf C (ci := 4) (N := 20) rfl mi_M 0 (by decide) mt_535 (hP 0 _ rfl) (v := .int 2) rfl md_M_level_196 ?_
                    refine lv_if_le (tgt := 206) C.x C.b md_M_level_199 (by decide) (fun h24 => ?_) (fun h24 => ?_)
                    · exact absurd h24 (by decide)
                    · skip
                      refine lv_iconst (v := 0) C.x C.b md_M_level_202 (by decide) ?_
                      refine lv_goto (tgt := 227) C.x C.b md_M_level_203 (by decide) ?_
                      have hsp : rf_level s0 k0 w0 (R, ck, sp, mt, g) = (2, 0) := by unfold rf_level; rw [if_pos ⟨mf_is01 ⟨(mf_andT (mf_bI_1.mp h1)).1, (mf_andT (mf_bI_1.mp h1)).2⟩, (mf_andT (mf_bI_1.mp h3)).1, (mf_andT (mf_bI_1.mp h3)).2⟩]; dsimp only; rw [hpw]; exact if_pos hz
                      rw [hsp]
                      exact mf_wi C.x C.b hr hlk md_M_level_227 ⟨f0, f1, f2, f3, f4, f5, f6, f7, f8, f9, f10, hP, hD, hle, hRF, hRG⟩ (by rw [← hH]; exact ⟨hS.1, hS.2.1⟩) hH hS.2.2 (Nat.le_refl _) (Nat.le_refl _)
                  · exact absurd (Int32.le_refl _) h23
                | succ n ih =>
                  intro k r1 r2 ls hk i0 i1 hl
                  have hkk : k < R.length := by omega
                  obtain ⟨x, hq⟩ := mf_at_lt hkk
                  have hu := hRF k x hq
                  refine lv_iload C.x C.b md_M_level_104 (lv_at hl 0 rfl) ?_
                  refine lv_aload_n C.x C.b md_M_level_106 rfl (lv_at hl 4 rfl) ?_
                  refine mf_gf C (ci := 4) (N := 20) rfl mi_M 1 (by decide) mt_536 (hP 0 _ rfl) (v := .int (nI R.length)) rfl md_M_level_107 ?_
                  refine lv_icmp_ge (tgt := 195) C.x C.b md_M_level_110 (by decide) (fun h25 => ?_) (fun h25 => ?_)
                  · exact absurd h25 (nI_ge hkk (by omega))
                  · skip
                    refine lv_aload_n C.x C.b md_M_level_113 rfl (lv_at hl 4 rfl) ?_
                    refine mf_gf C (ci := 4) (N := 20) rfl mi_M 9 (by decide) mt_544 (hP 0 _ rfl) (v := .ref (aa 6)) rfl md_M_level_114 ?_
                    refine lv_iload C.x C.b md_M_level_117 (lv_at hl 0 rfl) ?_
                    refine mf_zv C (t := 3) rfl (hP 7 _ rfl) (by omega) (by decide) hu.2.2.2.2.2.2.1 md_M_level_119 ?_
                    refine lv_if_ne (tgt := 150) C.x C.b md_M_level_120 (by decide) (fun h26 => ?_) (fun h26 => ?_)
                    · skip
                      refine lv_iconst (v := 0) C.x C.b md_M_level_150 (by decide) ?_
                      refine lv_istore (lv' := [(8, .int 0), (7, .int (nI k)), (5, .int r1), (6, .int r2), (4, .int pw), (0, .ref mo), (1, .int s0), (2, .int k0), (3, .int w0)]) C.x C.b md_M_level_151 hl (by decide) rfl (fun ls hl => ?_)
                      refine lv_iload C.x C.b md_M_level_153 (lv_at hl 2 rfl) ?_
                      refine lv_iload C.x C.b md_M_level_155 (lv_at hl 0 rfl) ?_
                      refine lv_if_eq (tgt := 170) C.x C.b md_M_level_157 (by decide) (fun h27 => ?_) (fun h27 => ?_)
                      · skip
                        refine lv_iconst (v := 0) C.x C.b md_M_level_170 (by decide) ?_
                        refine lv_iadd C.x C.b md_M_level_171 ?_
                        refine lv_istore (lv' := [(5, .int (r1 + 0)), (8, .int 0), (7, .int (nI k)), (6, .int r2), (4, .int pw), (0, .ref mo), (1, .int s0), (2, .int k0), (3, .int w0)]) C.x C.b md_M_level_172 hl (by decide) rfl (fun ls hl => ?_)
                        refine lv_iload C.x C.b md_M_level_174 (lv_at hl 3 rfl) ?_
                        refine lv_iload C.x C.b md_M_level_176 (lv_at hl 1 rfl) ?_
                        refine lv_if_eq (tgt := 185) C.x C.b md_M_level_178 (by decide) (fun h28 => ?_) (fun h28 => ?_)
                        · skip
                          refine lv_iconst (v := 0) C.x C.b md_M_level_185 (by decide) ?_
                          refine lv_iadd C.x C.b md_M_level_186 ?_
                          refine lv_istore (lv' := [(6, .int (r2 + 0)), (5, .int (r1 + 0)), (8, .int 0), (7, .int (nI k)), (4, .int pw), (0, .ref mo), (1, .int s0), (2, .int k0), (3, .int w0)]) C.x C.b md_M_level_187 hl (by decide) rfl (fun ls hl => ?_)
                          refine lv_iinc (k := 3) (v := nI (k + 1)) (lv' := [(7, .int (nI (k + 1))), (6, .int (r2 + 0)), (5, .int (r1 + 0)), (8, .int 0), (4, .int pw), (0, .ref mo), (1, .int s0), (2, .int k0), (3, .int w0)]) C.x C.b md_M_level_189 hl rfl (nI_1 _) (by decide) rfl (fun ls hl => ?_)
                          refine lv_goto (tgt := 104) C.x C.b md_M_level_192 (by decide) ?_
                          exact ih (k + 1) (r1 + 0) (r2 + 0) ls (by omega) (mf_sstep hq i0 (by first | (simp [mf_at, mf_rests, h25, Int32.not_le.mp h25, h26, h27, h28]; done) | (exfalso; simp_all; done))) (mf_sstep hq i1 (by first | (simp [mf_at, mf_rests, h25, Int32.not_le.mp h25, h26, h27, h28]; done) | (exfalso; simp_all; done))) (lv_sub hl [0, 2, 1, 4, 5, 6, 7, 8] rfl)
                        · exact absurd rfl h28
                      · exact absurd rfl h27
                    · skip
                      refine lv_aload_n C.x C.b md_M_level_123 rfl (lv_at hl 4 rfl) ?_
                      refine mf_gf C (ci := 4) (N := 20) rfl mi_M 5 (by decide) mt_540 (hP 0 _ rfl) (v := .ref (aa 2)) rfl md_M_level_124 ?_
                      refine lv_iload C.x C.b md_M_level_127 (lv_at hl 0 rfl) ?_
                      refine mf_iv C (t := 2) rfl (hP 3 _ rfl) (by omega) (by decide) hu.2.2.1 md_M_level_129 ?_
                      refine lv_iload_n C.x C.b md_M_level_130 rfl (lv_at hl 5 rfl) ?_
                      refine lv_icmp_ne (tgt := 150) C.x C.b md_M_level_131 (by decide) (fun h29 => ?_) (fun h29 => ?_)
                      · skip
                        refine lv_iconst (v := 0) C.x C.b md_M_level_150 (by decide) ?_
                        refine lv_istore (lv' := [(8, .int 0), (7, .int (nI k)), (5, .int r1), (6, .int r2), (4, .int pw), (0, .ref mo), (1, .int s0), (2, .int k0), (3, .int w0)]) C.x C.b md_M_level_151 hl (by decide) rfl (fun ls hl => ?_)
                        refine lv_iload C.x C.b md_M_level_153 (lv_at hl 2 rfl) ?_
                        refine lv_iload C.x C.b md_M_level_155 (lv_at hl 0 rfl) ?_
                        refine lv_if_eq (tgt := 170) C.x C.b md_M_level_157 (by decide) (fun h30 => ?_) (fun h30 => ?_)
                        · skip
                          refine lv_iconst (v := 0) C.x C.b md_M_level_170 (by decide) ?_
                          refine lv_iadd C.x C.b md_M_level_171 ?_
                          refine lv_istore (lv' := [(5, .int (r1 + 0)), (8, .int 0), (7, .int (nI k)), (6, .int r2), (4, .int pw), (0, .ref mo), (1, .int s0), (2, .int k0), (3, .int w0)]) C.x C.b md_M_level_172 hl (by decide) rfl (fun ls hl => ?_)
                          refine lv_iload C.x C.b md_M_level_174 (lv_at hl 3 rfl) ?_
                          refine lv_iload C.x C.b md_M_level_176 (lv_at hl 1 rfl) ?_
                          refine lv_if_eq (tgt := 185) C.x C.b md_M_level_178 (by decide) (fun h31 => ?_) (fun h31 => ?_)
                          · skip
                            refine lv_iconst (v := 0) C.x C.b md_M_level_185 (by decide) ?_
                            refine lv_iadd C.x C.b md_M_level_186 ?_
                            refine lv_istore (lv' := [(6, .int (r2 + 0)), (5, .int (r1 + 0)), (8, .int 0), (7, .int (nI k)), (4, .int pw), (0, .ref mo), (1, .int s0), (2, .int k0), (3, .int w0)]) C.x C.b md_M_level_187 hl (by decide) rfl (fun ls hl => ?_)
                            refine lv_iinc (k := 3) (v := nI (k + 1)) (lv' := [(7, .int (nI (k + 1))), (6, .int (r2 + 0)), (5, .int (r1 + 0)), (8, .int 0), (4, .int pw), (0, .ref mo), (1, .int s0), (2, .int k0), (3, .int w0)]) C.x C.b md_M_level_189 hl rfl (nI_1 _) (by decide) rfl (fun ls hl => ?_)
                            refine lv_goto (tgt := 104) C.x C.b md_M_level_192 (by decide) ?_
                            exact ih (k + 1) (r1 + 0) (r2 + 0) ls (by omega) (mf_sstep hq i0 (by first | (simp [mf_at, mf_rests, h25, Int32.not_le.mp h25, h26, h29, h30, h31]; done) | (exfalso; simp_all; done))) (mf_sstep hq i1 (by first | (simp [mf_at, mf_rests, h25, Int32.not_le.mp h25, h26, h29, h30, h31]; done) | (exfalso; simp_all; done))) (lv_sub hl [0, 2, 1, 4, 5, 6, 7, 8] rfl)
                          · exact absurd rfl h31
                        · exact absurd rfl h30
                      · skip
                        refine lv_aload_n C.x C.b md_M_level_134 rfl (lv_at hl 4 rfl) ?_
                        refine mf_gf C (ci := 4) (N := 20) rfl mi_M 6 (by decide) mt_541 (hP 0 _ rfl) (v := .ref (aa 3)) rfl md_M_level_135 ?_
                        refine lv_iload C.x C.b md_M_level_138 (lv_at hl 0 rfl) ?_
                        refine mf_iv C (t := 2) rfl (hP 4 _ rfl) (by omega) (by decide) hu.2.2.2.1 md_M_level_140 ?_
                        refine lv_iload C.x C.b md_M_level_141 (lv_at hl 3 rfl) ?_
                        refine lv_icmp_ne (tgt := 150) C.x C.b md_M_level_143 (by decide) (fun h32 => ?_) (fun h32 => ?_)
                        · skip
                          refine lv_iconst (v := 0) C.x C.b md_M_level_150 (by decide) ?_
                          refine lv_istore (lv' := [(8, .int 0), (7, .int (nI k)), (5, .int r1), (6, .int r2), (4, .int pw), (0, .ref mo), (1, .int s0), (2, .int k0), (3, .int w0)]) C.x C.b md_M_level_151 hl (by decide) rfl (fun ls hl => ?_)
                          refine lv_iload C.x C.b md_M_level_153 (lv_at hl 2 rfl) ?_
                          refine lv_iload C.x C.b md_M_level_155 (lv_at hl 0 rfl) ?_
                          refine lv_if_eq (tgt := 170) C.x C.b md_M_level_157 (by decide) (fun h33 => ?_) (fun h33 => ?_)
                          · skip
                            refine lv_iconst (v := 0) C.x C.b md_M_level_170 (by decide) ?_
                            refine lv_iadd C.x C.b md_M_level_171 ?_
                            refine lv_istore (lv' := [(5, .int (r1 + 0)), (8, .int 0), (7, .int (nI k)), (6, .int r2), (4, .int pw), (0, .ref mo), (1, .int s0), (2, .int k0), (3, .int w0)]) C.x C.b md_M_level_172 hl (by decide) rfl (fun ls hl => ?_)
                            refine lv_iload C.x C.b md_M_level_174 (lv_at hl 3 rfl) ?_
                            refine lv_iload C.x C.b md_M_level_176 (lv_at hl 1 rfl) ?_
                            refine lv_if_eq (tgt := 185) C.x C.b md_M_level_178 (by decide) (fun h34 => ?_) (fun h34 => ?_)
                            · skip
                              refine lv_iconst (v := 0) C.x C.b md_M_level_185 (by decide) ?_
                              refine lv_iadd C.x C.b md_M_level_186 ?_
                              refine lv_istore (lv' := [(6, .int (r2 + 0)), (5, .int (r1 + 0)), (8, .int 0), (7, .int (nI k)), (4, .int pw), (0, .ref mo), (1, .int s0), (2, .int k0), (3, .int w0)]) C.x C.b md_M_level_187 hl (by decide) rfl (fun ls hl => ?_)
                              refine lv_iinc (k := 3) (v := nI (k + 1)) (lv' := [(7, .int (nI (k + 1))), (6, .int (r2 + 0)), (5, .int (r1 + 0)), (8, .int 0), (4, .int pw), (0, .ref mo), (1, .int s0), (2, .int k0), (3, .int w0)]) C.x C.b md_M_level_189 hl rfl (nI_1 _) (by decide) rfl (fun ls hl => ?_)
                              refine lv_goto (tgt := 104) C.x C.b md_M_level_192 (by decide) ?_
                              exact ih (k + 1) (r1 + 0) (r2 + 0) ls (by omega) (mf_sstep hq i0 (by first | (simp [mf_at, mf_rests, h25, Int32.not_le.mp h25, h26, h29, h32, h33, h34]; done) | (exfalso; simp_all; done))) (mf_sstep hq i1 (by first | (simp [mf_at, mf_rests, h25, Int32.not_le.mp h25, h26, h29, h32, h33, h34]; done) | (exfalso; simp_all; done))) (lv_sub hl [0, 2, 1, 4, 5, 6, 7, 8] rfl)
                            · exact absurd rfl h34
                          · exact absurd rfl h33
                        · skip
                          refine lv_iconst (v := 1) C.x C.b md_M_level_146 (by decide) ?_
                          refine lv_goto (tgt := 151) C.x C.b md_M_level_147 (by decide) ?_
                          refine lv_istore (lv' := [(8, .int 1), (7, .int (nI k)), (5, .int r1), (6, .int r2), (4, .int pw), (0, .ref mo), (1, .int s0), (2, .int k0), (3, .int w0)]) C.x C.b md_M_level_151 hl (by decide) rfl (fun ls hl => ?_)
                          refine lv_iload C.x C.b md_M_level_153 (lv_at hl 2 rfl) ?_
                          refine lv_iload C.x C.b md_M_level_155 (lv_at hl 0 rfl) ?_
                          refine lv_if_eq (tgt := 170) C.x C.b md_M_level_157 (by decide) (fun h35 => ?_) (fun h35 => ?_)
                          · exact absurd h35 (by decide)
                          · skip
                            refine lv_aload_n C.x C.b md_M_level_160 rfl (lv_at hl 5 rfl) ?_
                            refine mf_gf C (ci := 4) (N := 20) rfl mi_M 7 (by decide) mt_542 (hP 0 _ rfl) (v := .ref (aa 4)) rfl md_M_level_161 ?_
                            refine lv_iload C.x C.b md_M_level_164 (lv_at hl 1 rfl) ?_
                            refine mf_iv C (t := 2) rfl (hP 5 _ rfl) (by omega) (by decide) hu.2.2.2.2.1 md_M_level_166 ?_
                            refine lv_goto (tgt := 171) C.x C.b md_M_level_167 (by decide) ?_
                            refine lv_iadd C.x C.b md_M_level_171 ?_
                            refine lv_istore (lv' := [(5, .int (r1 + (mf_lf x.1))), (8, .int 1), (7, .int (nI k)), (6, .int r2), (4, .int pw), (0, .ref mo), (1, .int s0), (2, .int k0), (3, .int w0)]) C.x C.b md_M_level_172 hl (by decide) rfl (fun ls hl => ?_)
                            refine lv_iload C.x C.b md_M_level_174 (lv_at hl 3 rfl) ?_
                            refine lv_iload C.x C.b md_M_level_176 (lv_at hl 1 rfl) ?_
                            refine lv_if_eq (tgt := 185) C.x C.b md_M_level_178 (by decide) (fun h36 => ?_) (fun h36 => ?_)
                            · exact absurd h36 (by decide)
                            · skip
                              refine lv_iconst (v := 1) C.x C.b md_M_level_181 (by decide) ?_
                              refine lv_goto (tgt := 186) C.x C.b md_M_level_182 (by decide) ?_
                              refine lv_iadd C.x C.b md_M_level_186 ?_
                              refine lv_istore (lv' := [(6, .int (r2 + 1)), (5, .int (r1 + (mf_lf x.1))), (8, .int 1), (7, .int (nI k)), (4, .int pw), (0, .ref mo), (1, .int s0), (2, .int k0), (3, .int w0)]) C.x C.b md_M_level_187 hl (by decide) rfl (fun ls hl => ?_)
                              refine lv_iinc (k := 3) (v := nI (k + 1)) (lv' := [(7, .int (nI (k + 1))), (6, .int (r2 + 1)), (5, .int (r1 + (mf_lf x.1))), (8, .int 1), (4, .int pw), (0, .ref mo), (1, .int s0), (2, .int k0), (3, .int w0)]) C.x C.b md_M_level_189 hl rfl (nI_1 _) (by decide) rfl (fun ls hl => ?_)
                              refine lv_goto (tgt := 104) C.x C.b md_M_level_192 (by decide) ?_
                              exact ih (k + 1) (r1 + (mf_lf x.1)) (r2 + 1) ls (by omega) (mf_sstep hq i0 (by first | (simp [mf_at, mf_rests, h25, Int32.not_le.mp h25, h26, h29, h32, h35, h36]; done) | (exfalso; simp_all; done))) (mf_sstep hq i1 (by first | (simp [mf_at, mf_rests, h25, Int32.not_le.mp h25, h26, h29, h32, h35, h36]; done) | (exfalso; simp_all; done))) (lv_sub hl [0, 2, 1, 4, 5, 6, 7, 8] rfl)
              exact loop R.length 0 0 0 ls (by omega) rfl rfl (lv_sub hl [0, 2, 1, 3, 4, 5, 6, 7] rfl)
          obtain ⟨j, hj, hkj⟩ := mf_nI_pos h6
          have hpj : ∀ v, rf_walk (fun b => rf_next s0 b R) j (rf_next s0 0 R) = v → (if k0 < 0 then 0 else rf_walk (fun b => rf_next s0 b R) k0.toNatClampNeg (rf_next s0 0 R)) = v := fun v hv => by rw [if_neg (Int32.not_lt.mpr h6), hkj, nI_clamp hj]; exact hv
          have loop : ∀ (n k : Nat) (p0 : Int32) (ls : Array Slot), k + n = j → rf_walk (fun b => rf_next s0 b R) j (rf_next s0 0 R) = rf_walk (fun b => rf_next s0 b R) n p0 → lv_has ls 9 [(5, .int (nI k)), (4, .int p0), (0, .ref mo), (1, .int s0), (2, .int k0), (3, .int w0)] → W p l e ({ frames := 1, cells := 0, slots := 0, locals := 25 } : Room) s m (([.ref mo, .int s0, .int k0, .int w0] : List Value).toArray) below meth c H locs 0 0 (MQ below (mf_Kw (some (.int (rf_level s0 k0 w0 (R, ck, sp, mt, g)).2)) (fun H1 => mf_MD D k5 A H1 mo aa (nI (rf_level s0 k0 w0 (R, ck, sp, mt, g)).1) (R, ck, sp, mt, g)) (A)) (([.ref mo, .int s0, .int k0, .int w0] : List Value).toArray) s 0 0 A) (F0 m 55 ls []) := by
            intro n
            induction n with
            | zero =>
              intro k p0 ls hk i0 hl
              obtain rfl : k = j := by omega
              refine lv_iload C.x C.b md_M_level_55 (lv_at hl 0 rfl) ?_
              refine lv_iload_n C.x C.b md_M_level_57 rfl (lv_at hl 4 rfl) ?_
              refine lv_icmp_ge (tgt := 81) C.x C.b md_M_level_58 (by decide) (fun h37 => ?_) (fun h37 => ?_)
              · exact aft _ ls (hpj _ i0) (lv_sub hl [1, 2, 3, 4, 5] rfl)
              · exact absurd (by rw [hkj]; exact Int32.le_refl _) h37
            | succ n ih =>
              intro k p0 ls hk i0 hl
              refine lv_iload C.x C.b md_M_level_55 (lv_at hl 0 rfl) ?_
              refine lv_iload_n C.x C.b md_M_level_57 rfl (lv_at hl 4 rfl) ?_
              refine lv_icmp_ge (tgt := 81) C.x C.b md_M_level_58 (by decide) (fun h38 => ?_) (fun h38 => ?_)
              · exact absurd (by rw [hkj] at h38; exact h38) (nI_ge (a := k) (b := j) (by omega) (by omega))
              · skip
                refine lv_iload C.x C.b md_M_level_61 (lv_at hl 1 rfl) ?_
                refine lv_if_le (tgt := 81) C.x C.b md_M_level_63 (by decide) (fun h39 => ?_) (fun h39 => ?_)
                · exact aft _ ls (hpj _ (i0.trans (rf_walk_0 _ _ h39))) (lv_sub hl [1, 2, 3, 4, 5] rfl)
                · skip
                  refine lv_aload_n C.x C.b md_M_level_66 rfl (lv_at hl 2 rfl) ?_
                  refine lv_iload_n C.x C.b md_M_level_67 rfl (lv_at hl 3 rfl) ?_
                  refine lv_iload C.x C.b md_M_level_68 (lv_at hl 1 rfl) ?_
                  refine mf_cks (va_runV (As := [.int s0, .int p0]) (rest := []) C.f (k_M_next l D k5 t0 A H mo aa 0 ck sp mt R g s0 p0 hM0 hpr) (mf_cV C mt_680 mt_677 mt_6 mt_679 ms_40 mh_M_nextPrice ⟨by decide, by decide⟩) (mf_preV C.ev hS (mf_rv C (ci := 4) (N := 20) rfl (hP 0 _ rfl))) rfl rfl hl.1 rfl (lv_room (Nat.le_of_ble_eq_true rfl)) md_M_level_70 ⟨by first | omega | exact Nat.le_of_ble_eq_true rfl, by first | omega | exact Nat.le_of_ble_eq_true rfl⟩) ?_
                  refine lv_istore (lv' := [(4, .int (rf_next s0 p0 R)), (5, .int (nI k)), (0, .ref mo), (1, .int s0), (2, .int k0), (3, .int w0)]) C.x C.b md_M_level_73 hl (by decide) rfl (fun ls hl => ?_)
                  refine lv_iinc (k := 1) (v := nI (k + 1)) (lv' := [(5, .int (nI (k + 1))), (4, .int (rf_next s0 p0 R)), (0, .ref mo), (1, .int s0), (2, .int k0), (3, .int w0)]) C.x C.b md_M_level_75 hl rfl (nI_1 _) (by decide) rfl (fun ls hl => ?_)
                  refine lv_goto (tgt := 55) C.x C.b md_M_level_78 (by decide) ?_
                  exact ih (k + 1) _ ls (by omega) (i0.trans (rf_walk_1 _ _ h39)) (lv_sub hl [0, 1, 2, 3, 4, 5] rfl)
          exact loop j 0 _ ls (by omega) rfl (lv_sub hl [0, 1, 2, 3, 4, 5] rfl)
        · skip
          refine lv_iconst (v := 0) C.x C.b md_M_level_40 (by decide) ?_
          refine lv_goto (tgt := 50) C.x C.b md_M_level_41 (by decide) ?_
          refine lv_istore (lv' := [(4, .int 0), (0, .ref mo), (1, .int s0), (2, .int k0), (3, .int w0)]) C.x C.b md_M_level_50 hl (by decide) rfl (fun ls hl => ?_)
          refine lv_iconst (v := 0) C.x C.b md_M_level_52 (by decide) ?_
          refine lv_istore (lv' := [(5, .int 0), (4, .int 0), (0, .ref mo), (1, .int s0), (2, .int k0), (3, .int w0)]) C.x C.b md_M_level_53 hl (by decide) rfl (fun ls hl => ?_)
          have aft : ∀ (pw : Int32) (ls : Array Slot), (if k0 < 0 then 0 else rf_walk (fun b => rf_next s0 b R) k0.toNatClampNeg (rf_next s0 0 R)) = pw → lv_has ls 9 [(4, .int pw), (0, .ref mo), (1, .int s0), (2, .int k0), (3, .int w0)] → W p l e ({ frames := 1, cells := 0, slots := 0, locals := 25 } : Room) s m (([.ref mo, .int s0, .int k0, .int w0] : List Value).toArray) below meth c H locs 0 0 (MQ below (mf_Kw (some (.int (rf_level s0 k0 w0 (R, ck, sp, mt, g)).2)) (fun H1 => mf_MD D k5 A H1 mo aa (nI (rf_level s0 k0 w0 (R, ck, sp, mt, g)).1) (R, ck, sp, mt, g)) (A)) (([.ref mo, .int s0, .int k0, .int w0] : List Value).toArray) s 0 0 A) (F0 m 81 ls []) := by
            intro pw ls hpw hl
            refine lv_aload_n C.x C.b md_M_level_81 rfl (lv_at hl 1 rfl) ?_
            refine lv_iload C.x C.b md_M_level_82 (lv_at hl 0 rfl) ?_
            refine lv_if_ne (tgt := 91) C.x C.b md_M_level_84 (by decide) (fun hz => ?_) (fun hz => ?_)
            · skip
              refine lv_iconst (v := 0) C.x C.b md_M_level_91 (by decide) ?_
              refine va_put (D := D) (ci := 4) (v := .int 0) (ty := .int) (C := mf_RM) (T := mf_TM) (N := 20) C.x C.b C.2.2.1 mi_M mf_tyM mp_M mn_M C.o C.k hP hD hS 0 rfl rfl 0 (by decide) (C.t mt_535) (fun _ h => h) rfl (by decide +kernel) rfl rfl (Nat.le_of_ble_eq_true rfl) md_M_level_92 (fun H locs hP hD hS => ?_)
              have hP : va_P D mf_cl [(mo, .inr (4, [.int 0, .int (nI R.length), .int ck, .ref (aa 0), .ref (aa 1), .ref (aa 2), .ref (aa 3), .ref (aa 4), .ref (aa 5), .ref (aa 6), .int (nI g.1), .ref (aa 7), .ref (aa 8), .ref (aa 9), .ref (aa 10), .int g.2.1, .long g.2.2.2.1, .int g.2.2.1, .int sp, .int mt])), (aa 0, .inl (k5.2.2.1, 40, .inl f0)), (aa 1, .inl (k5.2.2.1, 40, .inl f1)), (aa 2, .inl (k5.2.2.1, 40, .inl f2)), (aa 3, .inl (k5.2.2.1, 40, .inl f3)), (aa 4, .inl (k5.2.2.1, 40, .inl f4)), (aa 5, .inl (k5.2.2.1, 40, .inl f5)), (aa 6, .inl (k5.2.2.2.1, 40, .inl f6)), (aa 7, .inl (k5.2.2.1, 32, .inl f7)), (aa 8, .inl (k5.2.2.1, 32, .inl f8)), (aa 9, .inl (k5.2.2.1, 32, .inl f9)), (aa 10, .inl (k5.2.2.1, 32, .inl f10))] H := hP
              have hD : va_D A [(mo, .inr (4, [.int 0, .int (nI R.length), .int ck, .ref (aa 0), .ref (aa 1), .ref (aa 2), .ref (aa 3), .ref (aa 4), .ref (aa 5), .ref (aa 6), .int (nI g.1), .ref (aa 7), .ref (aa 8), .ref (aa 9), .ref (aa 10), .int g.2.1, .long g.2.2.2.1, .int g.2.2.1, .int sp, .int mt])), (aa 0, .inl (k5.2.2.1, 40, .inl f0)), (aa 1, .inl (k5.2.2.1, 40, .inl f1)), (aa 2, .inl (k5.2.2.1, 40, .inl f2)), (aa 3, .inl (k5.2.2.1, 40, .inl f3)), (aa 4, .inl (k5.2.2.1, 40, .inl f4)), (aa 5, .inl (k5.2.2.1, 40, .inl f5)), (aa 6, .inl (k5.2.2.2.1, 40, .inl f6)), (aa 7, .inl (k5.2.2.1, 32, .inl f7)), (aa 8, .inl (k5.2.2.1, 32, .inl f8)), (aa 9, .inl (k5.2.2.1, 32, .inl f9)), (aa 10, .inl (k5.2.2.1, 32, .inl f10))] := hD
              refine lv_iconst (v := 0) C.x C.b md_M_level_95 (by decide) ?_
              refine lv_istore (lv' := [(5, .int 0), (4, .int pw), (0, .ref mo), (1, .int s0), (2, .int k0), (3, .int w0)]) C.x C.b md_M_level_96 hl (by decide) rfl (fun ls hl => ?_)
              refine lv_iconst (v := 0) C.x C.b md_M_level_98 (by decide) ?_
              refine lv_istore (lv' := [(6, .int 0), (5, .int 0), (4, .int pw), (0, .ref mo), (1, .int s0), (2, .int k0), (3, .int w0)]) C.x C.b md_M_level_99 hl (by decide) rfl (fun ls hl => ?_)
              refine lv_iconst (v := 0) C.x C.b md_M_level_101 (by decide) ?_
              refine lv_istore (lv' := [(7, .int 0), (6, .int 0), (5, .int 0), (4, .int pw), (0, .ref mo), (1, .int s0), (2, .int k0), (3, .int w0)]) C.x C.b md_M_level_102 hl (by decide) rfl (fun ls hl => ?_)
              have loop : ∀ (n k : Nat) (r1 r2 : Int32) (ls : Array Slot), k + n = R.length → mf_sum (fun x : mf_T => if mf_at s0 pw x.1 then mf_lf x.1 else 0) (R.take k) = r1 → mf_sum (fun x : mf_T => if mf_at s0 pw x.1 then 1 else 0) (R.take k) = r2 → lv_has ls 9 [(7, .int (nI k)), (5, .int r1), (6, .int r2), (4, .int pw), (0, .ref mo), (1, .int s0), (2, .int k0), (3, .int w0)] → W p l e ({ frames := 1, cells := 0, slots := 0, locals := 25 } : Room) s m (([.ref mo, .int s0, .int k0, .int w0] : List Value).toArray) below meth c H locs 0 0 (MQ below (mf_Kw (some (.int (rf_level s0 k0 w0 (R, ck, sp, mt, g)).2)) (fun H1 => mf_MD D k5 A H1 mo aa (nI (rf_level s0 k0 w0 (R, ck, sp, mt, g)).1) (R, ck, sp, mt, g)) (A)) (([.ref mo, .int s0, .int k0, .int w0] : List Value).toArray) s 0 0 A) (F0 m 104 ls []) := by
                intro n
                induction n with
                | zero =>
                  intro k r1 r2 ls hk i0 i1 hl
                  obtain rfl : k = R.length := by omega
                  rw [List.take_length] at i0
                  rw [List.take_length] at i1
                  refine lv_iload C.x C.b md_M_level_104 (lv_at hl 0 rfl) ?_
                  refine lv_aload_n C.x C.b md_M_level_106 rfl (lv_at hl 4 rfl) ?_
                  refine mf_gf C (ci := 4) (N := 20) rfl mi_M 1 (by decide) mt_536 (hP 0 _ rfl) (v := .int (nI R.length)) rfl md_M_level_107 ?_
                  refine lv_icmp_ge (tgt := 195) C.x C.b md_M_level_110 (by decide) (fun h40 => ?_) (fun h40 => ?_)
                  · skip
                    refine lv_aload_n C.x C.b md_M_level_195 rfl (lv_at hl 4 rfl) ?_
                    refine mf_gf C (ci := 4) (N := 20) rfl mi_M 0 (by decide) mt_535 (hP 0 _ rfl) (v := .int 0) rfl md_M_level_196 ?_
                    refine lv_if_le (tgt := 206) C.x C.b md_M_level_199 (by decide) (fun h41 => ?_) (fun h41 => ?_)
                    · skip
                      refine lv_iload_n C.x C.b md_M_level_206 rfl (lv_at hl 7 rfl) ?_
                      refine lv_if_ne (tgt := 215) C.x C.b md_M_level_207 (by decide) (fun h42 => ?_) (fun h42 => ?_)
                      · skip
                        refine lv_iload_n C.x C.b md_M_level_215 rfl (lv_at hl 7 rfl) ?_
                        refine lv_iconst (v := 1) C.x C.b md_M_level_216 (by decide) ?_
                        refine lv_icmp_ne (tgt := 225) C.x C.b md_M_level_217 (by decide) (fun h43 => ?_) (fun h43 => ?_)
                        · skip
                          refine lv_iload C.x C.b md_M_level_225 (lv_at hl 2 rfl) ?_
                          have hsp : rf_level s0 k0 w0 (R, ck, sp, mt, g) = (0, r2) := by subst i0 i1; unfold rf_level; rw [if_pos ⟨mf_is01 ⟨(mf_andT (mf_bI_1.mp h1)).1, (mf_andT (mf_bI_1.mp h1)).2⟩, (mf_andT (mf_bI_1.mp h3)).1, (mf_andT (mf_bI_1.mp h3)).2⟩]; dsimp only; rw [hpw]; rw [if_neg hz]; simp [h40, Int32.not_lt.mpr h40, h41, Int32.not_lt.mpr h41, h42, h43]
                          rw [hsp]
                          exact mf_wi C.x C.b hr hlk md_M_level_227 ⟨f0, f1, f2, f3, f4, f5, f6, f7, f8, f9, f10, hP, hD, hle, hRF, hRG⟩ (by rw [← hH]; exact ⟨hS.1, hS.2.1⟩) hH hS.2.2 (Nat.le_refl _) (Nat.le_refl _)
                        · skip
                          refine lv_iload C.x C.b md_M_level_220 (lv_at hl 1 rfl) ?_
                          refine lv_goto (tgt := 227) C.x C.b md_M_level_222 (by decide) ?_
                          have hsp : rf_level s0 k0 w0 (R, ck, sp, mt, g) = (0, r1) := by subst i0 i1; unfold rf_level; rw [if_pos ⟨mf_is01 ⟨(mf_andT (mf_bI_1.mp h1)).1, (mf_andT (mf_bI_1.mp h1)).2⟩, (mf_andT (mf_bI_1.mp h3)).1, (mf_andT (mf_bI_1.mp h3)).2⟩]; dsimp only; rw [hpw]; rw [if_neg hz]; simp [h40, Int32.not_lt.mpr h40, h41, Int32.not_lt.mpr h41, h42, h43]
                          rw [hsp]
                          exact mf_wi C.x C.b hr hlk md_M_level_227 ⟨f0, f1, f2, f3, f4, f5, f6, f7, f8, f9, f10, hP, hD, hle, hRF, hRG⟩ (by rw [← hH]; exact ⟨hS.1, hS.2.1⟩) hH hS.2.2 (Nat.le_refl _) (Nat.le_refl _)
                      · skip
                        refine lv_iload C.x C.b md_M_level_210 (lv_at hl 3 rfl) ?_
                        refine lv_goto (tgt := 227) C.x C.b md_M_level_212 (by decide) ?_
                        have hsp : rf_level s0 k0 w0 (R, ck, sp, mt, g) = (0, pw) := by subst i0 i1; unfold rf_level; rw [if_pos ⟨mf_is01 ⟨(mf_andT (mf_bI_1.mp h1)).1, (mf_andT (mf_bI_1.mp h1)).2⟩, (mf_andT (mf_bI_1.mp h3)).1, (mf_andT (mf_bI_1.mp h3)).2⟩]; dsimp only; rw [hpw]; rw [if_neg hz]; simp [h40, Int32.not_lt.mpr h40, h41, Int32.not_lt.mpr h41, h42]
                        rw [hsp]
                        exact mf_wi C.x C.b hr hlk md_M_level_227 ⟨f0, f1, f2, f3, f4, f5, f6, f7, f8, f9, f10, hP, hD, hle, hRF, hRG⟩ (by rw [← hH]; exact ⟨hS.1, hS.2.1⟩) hH hS.2.2 (Nat.le_refl _) (Nat.le_refl _)
                    · exact absurd (by decide) h41
                  · exact absurd (Int32.le_refl _) h40
                | succ n ih =>
                  intro k r1 r2 ls hk i0 i1 hl
                  have hkk : k < R.length := by omega
                  obtain ⟨x, hq⟩ := mf_at_lt hkk
                  have hu := hRF k x hq
                  refine lv_iload C.x C.b md_M_level_104 (lv_at hl 0 rfl) ?_
                  refine lv_aload_n C.x C.b md_M_level_106 rfl (lv_at hl 4 rfl) ?_
                  refine mf_gf C (ci := 4) (N := 20) rfl mi_M 1 (by decide) mt_536 (hP 0 _ rfl) (v := .int (nI R.length)) rfl md_M_level_107 ?_
                  refine lv_icmp_ge (tgt := 195) C.x C.b md_M_level_110 (by decide) (fun h44 => ?_) (fun h44 => ?_)
                  · exact absurd h44 (nI_ge hkk (by omega))
                  · skip
                    refine lv_aload_n C.x C.b md_M_level_113 rfl (lv_at hl 4 rfl) ?_
                    refine mf_gf C (ci := 4) (N := 20) rfl mi_M 9 (by decide) mt_544 (hP 0 _ rfl) (v := .ref (aa 6)) rfl md_M_level_114 ?_
                    refine lv_iload C.x C.b md_M_level_117 (lv_at hl 0 rfl) ?_
                    refine mf_zv C (t := 3) rfl (hP 7 _ rfl) (by omega) (by decide) hu.2.2.2.2.2.2.1 md_M_level_119 ?_
                    refine lv_if_ne (tgt := 150) C.x C.b md_M_level_120 (by decide) (fun h45 => ?_) (fun h45 => ?_)
                    · skip
                      refine lv_iconst (v := 0) C.x C.b md_M_level_150 (by decide) ?_
                      refine lv_istore (lv' := [(8, .int 0), (7, .int (nI k)), (5, .int r1), (6, .int r2), (4, .int pw), (0, .ref mo), (1, .int s0), (2, .int k0), (3, .int w0)]) C.x C.b md_M_level_151 hl (by decide) rfl (fun ls hl => ?_)
                      refine lv_iload C.x C.b md_M_level_153 (lv_at hl 2 rfl) ?_
                      refine lv_iload C.x C.b md_M_level_155 (lv_at hl 0 rfl) ?_
                      refine lv_if_eq (tgt := 170) C.x C.b md_M_level_157 (by decide) (fun h46 => ?_) (fun h46 => ?_)
                      · skip
                        refine lv_iconst (v := 0) C.x C.b md_M_level_170 (by decide) ?_
                        refine lv_iadd C.x C.b md_M_level_171 ?_
                        refine lv_istore (lv' := [(5, .int (r1 + 0)), (8, .int 0), (7, .int (nI k)), (6, .int r2), (4, .int pw), (0, .ref mo), (1, .int s0), (2, .int k0), (3, .int w0)]) C.x C.b md_M_level_172 hl (by decide) rfl (fun ls hl => ?_)
                        refine lv_iload C.x C.b md_M_level_174 (lv_at hl 3 rfl) ?_
                        refine lv_iload C.x C.b md_M_level_176 (lv_at hl 1 rfl) ?_
                        refine lv_if_eq (tgt := 185) C.x C.b md_M_level_178 (by decide) (fun h47 => ?_) (fun h47 => ?_)
                        · skip
                          refine lv_iconst (v := 0) C.x C.b md_M_level_185 (by decide) ?_
                          refine lv_iadd C.x C.b md_M_level_186 ?_
                          refine lv_istore (lv' := [(6, .int (r2 + 0)), (5, .int (r1 + 0)), (8, .int 0), (7, .int (nI k)), (4, .int pw), (0, .ref mo), (1, .int s0), (2, .int k0), (3, .int w0)]) C.x C.b md_M_level_187 hl (by decide) rfl (fun ls hl => ?_)
                          refine lv_iinc (k := 3) (v := nI (k + 1)) (lv' := [(7, .int (nI (k + 1))), (6, .int (r2 + 0)), (5, .int (r1 + 0)), (8, .int 0), (4, .int pw), (0, .ref mo), (1, .int s0), (2, .int k0), (3, .int w0)]) C.x C.b md_M_level_189 hl rfl (nI_1 _) (by decide) rfl (fun ls hl => ?_)
                          refine lv_goto (tgt := 104) C.x C.b md_M_level_192 (by decide) ?_
                          exact ih (k + 1) (r1 + 0) (r2 + 0) ls (by omega) (mf_sstep hq i0 (by first | (simp [mf_at, mf_rests, h44, Int32.not_le.mp h44, h45, h46, h47]; done) | (exfalso; simp_all; done))) (mf_sstep hq i1 (by first | (simp [mf_at, mf_rests, h44, Int32.not_le.mp h44, h45, h46, h47]; done) | (exfalso; simp_all; done))) (lv_sub hl [0, 2, 1, 4, 5, 6, 7, 8] rfl)
                        · exact absurd rfl h47
                      · exact absurd rfl h46
                    · skip
                      refine lv_aload_n C.x C.b md_M_level_123 rfl (lv_at hl 4 rfl) ?_
                      refine mf_gf C (ci := 4) (N := 20) rfl mi_M 5 (by decide) mt_540 (hP 0 _ rfl) (v := .ref (aa 2)) rfl md_M_level_124 ?_
                      refine lv_iload C.x C.b md_M_level_127 (lv_at hl 0 rfl) ?_
                      refine mf_iv C (t := 2) rfl (hP 3 _ rfl) (by omega) (by decide) hu.2.2.1 md_M_level_129 ?_
                      refine lv_iload_n C.x C.b md_M_level_130 rfl (lv_at hl 5 rfl) ?_
                      refine lv_icmp_ne (tgt := 150) C.x C.b md_M_level_131 (by decide) (fun h48 => ?_) (fun h48 => ?_)
                      · skip
                        refine lv_iconst (v := 0) C.x C.b md_M_level_150 (by decide) ?_
                        refine lv_istore (lv' := [(8, .int 0), (7, .int (nI k)), (5, .int r1), (6, .int r2), (4, .int pw), (0, .ref mo), (1, .int s0), (2, .int k0), (3, .int w0)]) C.x C.b md_M_level_151 hl (by decide) rfl (fun ls hl => ?_)
                        refine lv_iload C.x C.b md_M_level_153 (lv_at hl 2 rfl) ?_
                        refine lv_iload C.x C.b md_M_level_155 (lv_at hl 0 rfl) ?_
                        refine lv_if_eq (tgt := 170) C.x C.b md_M_level_157 (by decide) (fun h49 => ?_) (fun h49 => ?_)
                        · skip
                          refine lv_iconst (v := 0) C.x C.b md_M_level_170 (by decide) ?_
                          refine lv_iadd C.x C.b md_M_level_171 ?_
                          refine lv_istore (lv' := [(5, .int (r1 + 0)), (8, .int 0), (7, .int (nI k)), (6, .int r2), (4, .int pw), (0, .ref mo), (1, .int s0), (2, .int k0), (3, .int w0)]) C.x C.b md_M_level_172 hl (by decide) rfl (fun ls hl => ?_)
                          refine lv_iload C.x C.b md_M_level_174 (lv_at hl 3 rfl) ?_
                          refine lv_iload C.x C.b md_M_level_176 (lv_at hl 1 rfl) ?_
                          refine lv_if_eq (tgt := 185) C.x C.b md_M_level_178 (by decide) (fun h50 => ?_) (fun h50 => ?_)
                          · skip
                            refine lv_iconst (v := 0) C.x C.b md_M_level_185 (by decide) ?_
                            refine lv_iadd C.x C.b md_M_level_186 ?_
                            refine lv_istore (lv' := [(6, .int (r2 + 0)), (5, .int (r1 + 0)), (8, .int 0), (7, .int (nI k)), (4, .int pw), (0, .ref mo), (1, .int s0), (2, .int k0), (3, .int w0)]) C.x C.b md_M_level_187 hl (by decide) rfl (fun ls hl => ?_)
                            refine lv_iinc (k := 3) (v := nI (k + 1)) (lv' := [(7, .int (nI (k + 1))), (6, .int (r2 + 0)), (5, .int (r1 + 0)), (8, .int 0), (4, .int pw), (0, .ref mo), (1, .int s0), (2, .int k0), (3, .int w0)]) C.x C.b md_M_level_189 hl rfl (nI_1 _) (by decide) rfl (fun ls hl => ?_)
                            refine lv_goto (tgt := 104) C.x C.b md_M_level_192 (by decide) ?_
                            exact ih (k + 1) (r1 + 0) (r2 + 0) ls (by omega) (mf_sstep hq i0 (by first | (simp [mf_at, mf_rests, h44, Int32.not_le.mp h44, h45, h48, h49, h50]; done) | (exfalso; simp_all; done))) (mf_sstep hq i1 (by first | (simp [mf_at, mf_rests, h44, Int32.not_le.mp h44, h45, h48, h49, h50]; done) | (exfalso; simp_all; done))) (lv_sub hl [0, 2, 1, 4, 5, 6, 7, 8] rfl)
                          · exact absurd rfl h50
                        · exact absurd rfl h49
                      · skip
                        refine lv_aload_n C.x C.b md_M_level_134 rfl (lv_at hl 4 rfl) ?_
                        refine mf_gf C (ci := 4) (N := 20) rfl mi_M 6 (by decide) mt_541 (hP 0 _ rfl) (v := .ref (aa 3)) rfl md_M_level_135 ?_
                        refine lv_iload C.x C.b md_M_level_138 (lv_at hl 0 rfl) ?_
                        refine mf_iv C (t := 2) rfl (hP 4 _ rfl) (by omega) (by decide) hu.2.2.2.1 md_M_level_140 ?_
                        refine lv_iload C.x C.b md_M_level_141 (lv_at hl 3 rfl) ?_
                        refine lv_icmp_ne (tgt := 150) C.x C.b md_M_level_143 (by decide) (fun h51 => ?_) (fun h51 => ?_)
                        · skip
                          refine lv_iconst (v := 0) C.x C.b md_M_level_150 (by decide) ?_
                          refine lv_istore (lv' := [(8, .int 0), (7, .int (nI k)), (5, .int r1), (6, .int r2), (4, .int pw), (0, .ref mo), (1, .int s0), (2, .int k0), (3, .int w0)]) C.x C.b md_M_level_151 hl (by decide) rfl (fun ls hl => ?_)
                          refine lv_iload C.x C.b md_M_level_153 (lv_at hl 2 rfl) ?_
                          refine lv_iload C.x C.b md_M_level_155 (lv_at hl 0 rfl) ?_
                          refine lv_if_eq (tgt := 170) C.x C.b md_M_level_157 (by decide) (fun h52 => ?_) (fun h52 => ?_)
                          · skip
                            refine lv_iconst (v := 0) C.x C.b md_M_level_170 (by decide) ?_
                            refine lv_iadd C.x C.b md_M_level_171 ?_
                            refine lv_istore (lv' := [(5, .int (r1 + 0)), (8, .int 0), (7, .int (nI k)), (6, .int r2), (4, .int pw), (0, .ref mo), (1, .int s0), (2, .int k0), (3, .int w0)]) C.x C.b md_M_level_172 hl (by decide) rfl (fun ls hl => ?_)
                            refine lv_iload C.x C.b md_M_level_174 (lv_at hl 3 rfl) ?_
                            refine lv_iload C.x C.b md_M_level_176 (lv_at hl 1 rfl) ?_
                            refine lv_if_eq (tgt := 185) C.x C.b md_M_level_178 (by decide) (fun h53 => ?_) (fun h53 => ?_)
                            · skip
                              refine lv_iconst (v := 0) C.x C.b md_M_level_185 (by decide) ?_
                              refine lv_iadd C.x C.b md_M_level_186 ?_
                              refine lv_istore (lv' := [(6, .int (r2 + 0)), (5, .int (r1 + 0)), (8, .int 0), (7, .int (nI k)), (4, .int pw), (0, .ref mo), (1, .int s0), (2, .int k0), (3, .int w0)]) C.x C.b md_M_level_187 hl (by decide) rfl (fun ls hl => ?_)
                              refine lv_iinc (k := 3) (v := nI (k + 1)) (lv' := [(7, .int (nI (k + 1))), (6, .int (r2 + 0)), (5, .int (r1 + 0)), (8, .int 0), (4, .int pw), (0, .ref mo), (1, .int s0), (2, .int k0), (3, .int w0)]) C.x C.b md_M_level_189 hl rfl (nI_1 _) (by decide) rfl (fun ls hl => ?_)
                              refine lv_goto (tgt := 104) C.x C.b md_M_level_192 (by decide) ?_
                              exact ih (k + 1) (r1 + 0) (r2 + 0) ls (by omega) (mf_sstep hq i0 (by first | (simp [mf_at, mf_rests, h44, Int32.not_le.mp h44, h45, h48, h51, h52, h53]; done) | (exfalso; simp_all; done))) (mf_sstep hq i1 (by first | (simp [mf_at, mf_rests, h44, Int32.not_le.mp h44, h45, h48, h51, h52, h53]; done) | (exfalso; simp_all; done))) (lv_sub hl [0, 2, 1, 4, 5, 6, 7, 8] rfl)
                            · exact absurd rfl h53
                          · exact absurd rfl h52
                        · skip
                          refine lv_iconst (v := 1) C.x C.b md_M_level_146 (by decide) ?_
                          refine lv_goto (tgt := 151) C.x C.b md_M_level_147 (by decide) ?_
                          refine lv_istore (lv' := [(8, .int 1), (7, .int (nI k)), (5, .int r1), (6, .int r2), (4, .int pw), (0, .ref mo), (1, .int s0), (2, .int k0), (3, .int w0)]) C.x C.b md_M_level_151 hl (by decide) rfl (fun ls hl => ?_)
                          refine lv_iload C.x C.b md_M_level_153 (lv_at hl 2 rfl) ?_
                          refine lv_iload C.x C.b md_M_level_155 (lv_at hl 0 rfl) ?_
                          refine lv_if_eq (tgt := 170) C.x C.b md_M_level_157 (by decide) (fun h54 => ?_) (fun h54 => ?_)
                          · exact absurd h54 (by decide)
                          · skip
                            refine lv_aload_n C.x C.b md_M_level_160 rfl (lv_at hl 5 rfl) ?_
                            refine mf_gf C (ci := 4) (N := 20) rfl mi_M 7 (by decide) mt_542 (hP 0 _ rfl) (v := .ref (aa 4)) rfl md_M_level_161 ?_
                            refine lv_iload C.x C.b md_M_level_164 (lv_at hl 1 rfl) ?_
                            refine mf_iv C (t := 2) rfl (hP 5 _ rfl) (by omega) (by decide) hu.2.2.2.2.1 md_M_level_166 ?_
                            refine lv_goto (tgt := 171) C.x C.b md_M_level_167 (by decide) ?_
                            refine lv_iadd C.x C.b md_M_level_171 ?_
                            refine lv_istore (lv' := [(5, .int (r1 + (mf_lf x.1))), (8, .int 1), (7, .int (nI k)), (6, .int r2), (4, .int pw), (0, .ref mo), (1, .int s0), (2, .int k0), (3, .int w0)]) C.x C.b md_M_level_172 hl (by decide) rfl (fun ls hl => ?_)
                            refine lv_iload C.x C.b md_M_level_174 (lv_at hl 3 rfl) ?_
                            refine lv_iload C.x C.b md_M_level_176 (lv_at hl 1 rfl) ?_
                            refine lv_if_eq (tgt := 185) C.x C.b md_M_level_178 (by decide) (fun h55 => ?_) (fun h55 => ?_)
                            · exact absurd h55 (by decide)
                            · skip
                              refine lv_iconst (v := 1) C.x C.b md_M_level_181 (by decide) ?_
                              refine lv_goto (tgt := 186) C.x C.b md_M_level_182 (by decide) ?_
                              refine lv_iadd C.x C.b md_M_level_186 ?_
                              refine lv_istore (lv' := [(6, .int (r2 + 1)), (5, .int (r1 + (mf_lf x.1))), (8, .int 1), (7, .int (nI k)), (4, .int pw), (0, .ref mo), (1, .int s0), (2, .int k0), (3, .int w0)]) C.x C.b md_M_level_187 hl (by decide) rfl (fun ls hl => ?_)
                              refine lv_iinc (k := 3) (v := nI (k + 1)) (lv' := [(7, .int (nI (k + 1))), (6, .int (r2 + 1)), (5, .int (r1 + (mf_lf x.1))), (8, .int 1), (4, .int pw), (0, .ref mo), (1, .int s0), (2, .int k0), (3, .int w0)]) C.x C.b md_M_level_189 hl rfl (nI_1 _) (by decide) rfl (fun ls hl => ?_)
                              refine lv_goto (tgt := 104) C.x C.b md_M_level_192 (by decide) ?_
                              exact ih (k + 1) (r1 + (mf_lf x.1)) (r2 + 1) ls (by omega) (mf_sstep hq i0 (by first | (simp [mf_at, mf_rests, h44, Int32.not_le.mp h44, h45, h48, h51, h54, h55]; done) | (exfalso; simp_all; done))) (mf_sstep hq i1 (by first | (simp [mf_at, mf_rests, h44, Int32.not_le.mp h44, h45, h48, h51, h54, h55]; done) | (exfalso; simp_all; done))) (lv_sub hl [0, 2, 1, 4, 5, 6, 7, 8] rfl)
              exact loop R.length 0 0 0 ls (by omega) rfl rfl (lv_sub hl [0, 2, 1, 3, 4, 5, 6, 7] rfl)
            · skip
              refine lv_iconst (v := 2) C.x C.b md_M_level_87 (by decide) ?_
              refine lv_goto (tgt := 92) C.x C.b md_M_level_88 (by decide) ?_
              refine va_put (D := D) (ci := 4) (v := .int 2) (ty := .int) (C := mf_RM) (T := mf_TM) (N := 20) C.x C.b C.2.2.1 mi_M mf_tyM mp_M mn_M C.o C.k hP hD hS 0 rfl rfl 0 (by decide) (C.t mt_535) (fun _ h => h) rfl (by decide +kernel) rfl rfl (Nat.le_of_ble_eq_true rfl) md_M_level_92 (fun H locs hP hD hS => ?_)
              have hP : va_P D mf_cl [(mo, .inr (4, [.int 2, .int (nI R.length), .int ck, .ref (aa 0), .ref (aa 1), .ref (aa 2), .ref (aa 3), .ref (aa 4), .ref (aa 5), .ref (aa 6), .int (nI g.1), .ref (aa 7), .ref (aa 8), .ref (aa 9), .ref (aa 10), .int g.2.1, .long g.2.2.2.1, .int g.2.2.1, .int sp, .int mt])), (aa 0, .inl (k5.2.2.1, 40, .inl f0)), (aa 1, .inl (k5.2.2.1, 40, .inl f1)), (aa 2, .inl (k5.2.2.1, 40, .inl f2)), (aa 3, .inl (k5.2.2.1, 40, .inl f3)), (aa 4, .inl (k5.2.2.1, 40, .inl f4)), (aa 5, .inl (k5.2.2.1, 40, .inl f5)), (aa 6, .inl (k5.2.2.2.1, 40, .inl f6)), (aa 7, .inl (k5.2.2.1, 32, .inl f7)), (aa 8, .inl (k5.2.2.1, 32, .inl f8)), (aa 9, .inl (k5.2.2.1, 32, .inl f9)), (aa 10, .inl (k5.2.2.1, 32, .inl f10))] H := hP
              have hD : va_D A [(mo, .inr (4, [.int 2, .int (nI R.length), .int ck, .ref (aa 0), .ref (aa 1), .ref (aa 2), .ref (aa 3), .ref (aa 4), .ref (aa 5), .ref (aa 6), .int (nI g.1), .ref (aa 7), .ref (aa 8), .ref (aa 9), .ref (aa 10), .int g.2.1, .long g.2.2.2.1, .int g.2.2.1, .int sp, .int mt])), (aa 0, .inl (k5.2.2.1, 40, .inl f0)), (aa 1, .inl (k5.2.2.1, 40, .inl f1)), (aa 2, .inl (k5.2.2.1, 40, .inl f2)), (aa 3, .inl (k5.2.2.1, 40, .inl f3)), (aa 4, .inl (k5.2.2.1, 40, .inl f4)), (aa 5, .inl (k5.2.2.1, 40, .inl f5)), (aa 6, .inl (k5.2.2.2.1, 40, .inl f6)), (aa 7, .inl (k5.2.2.1, 32, .inl f7)), (aa 8, .inl (k5.2.2.1, 32, .inl f8)), (aa 9, .inl (k5.2.2.1, 32, .inl f9)), (aa 10, .inl (k5.2.2.1, 32, .inl f10))] := hD
              refine lv_iconst (v := 0) C.x C.b md_M_level_95 (by decide) ?_
              refine lv_istore (lv' := [(5, .int 0), (4, .int pw), (0, .ref mo), (1, .int s0), (2, .int k0), (3, .int w0)]) C.x C.b md_M_level_96 hl (by decide) rfl (fun ls hl => ?_)
              refine lv_iconst (v := 0) C.x C.b md_M_level_98 (by decide) ?_
              refine lv_istore (lv' := [(6, .int 0), (5, .int 0), (4, .int pw), (0, .ref mo), (1, .int s0), (2, .int k0), (3, .int w0)]) C.x C.b md_M_level_99 hl (by decide) rfl (fun ls hl => ?_)
              refine lv_iconst (v := 0) C.x C.b md_M_level_101 (by decide) ?_
              refine lv_istore (lv' := [(7, .int 0), (6, .int 0), (5, .int 0), (4, .int pw), (0, .ref mo), (1, .int s0), (2, .int k0), (3, .int w0)]) C.x C.b md_M_level_102 hl (by decide) rfl (fun ls hl => ?_)
              have loop : ∀ (n k : Nat) (r1 r2 : Int32) (ls : Array Slot), k + n = R.length → mf_sum (fun x : mf_T => if mf_at s0 pw x.1 then mf_lf x.1 else 0) (R.take k) = r1 → mf_sum (fun x : mf_T => if mf_at s0 pw x.1 then 1 else 0) (R.take k) = r2 → lv_has ls 9 [(7, .int (nI k)), (5, .int r1), (6, .int r2), (4, .int pw), (0, .ref mo), (1, .int s0), (2, .int k0), (3, .int w0)] → W p l e ({ frames := 1, cells := 0, slots := 0, locals := 25 } : Room) s m (([.ref mo, .int s0, .int k0, .int w0] : List Value).toArray) below meth c H locs 0 0 (MQ below (mf_Kw (some (.int (rf_level s0 k0 w0 (R, ck, sp, mt, g)).2)) (fun H1 => mf_MD D k5 A H1 mo aa (nI (rf_level s0 k0 w0 (R, ck, sp, mt, g)).1) (R, ck, sp, mt, g)) (A)) (([.ref mo, .int s0, .int k0, .int w0] : List Value).toArray) s 0 0 A) (F0 m 104 ls []) := by
                intro n
                induction n with
                | zero =>
                  intro k r1 r2 ls hk i0 i1 hl
                  obtain rfl : k = R.length := by omega
                  rw [List.take_length] at i0
                  rw [List.take_length] at i1
                  refine lv_iload C.x C.b md_M_level_104 (lv_at hl 0 rfl) ?_
                  refine lv_aload_n C.x C.b md_M_level_106 rfl (lv_at hl 4 rfl) ?_
                  refine mf_gf C (ci := 4) (N := 20) rfl mi_M 1 (by decide) mt_536 (hP 0 _ rfl) (v := .int (nI R.length)) rfl md_M_level_107 ?_
                  refine lv_icmp_ge (tgt := 195) C.x C.b md_M_level_110 (by decide) (fun h56 => ?_) (fun h56 => ?_)
                  · skip
                    refine lv_aload_n C.x C.b md_M_level_195 rfl (lv_at hl 4 rfl) ?_
                    refine mf_gf C (ci := 4) (N := 20) rfl mi_M 0 (by decide) mt_535 (hP 0 _ rfl) (v := .int 2) rfl md_M_level_196 ?_
                    refine lv_if_le (tgt := 206) C.x C.b md_M_level_199 (by decide) (fun h57 => ?_) (fun h57 => ?_)
                    · exact absurd h57 (by decide)
                    · skip
                      refine lv_iconst (v := 0) C.x C.b md_M_level_202 (by decide) ?_
                      refine lv_goto (tgt := 227) C.x C.b md_M_level_203 (by decide) ?_
                      have hsp : rf_level s0 k0 w0 (R, ck, sp, mt, g) = (2, 0) := by unfold rf_level; rw [if_pos ⟨mf_is01 ⟨(mf_andT (mf_bI_1.mp h1)).1, (mf_andT (mf_bI_1.mp h1)).2⟩, (mf_andT (mf_bI_1.mp h3)).1, (mf_andT (mf_bI_1.mp h3)).2⟩]; dsimp only; rw [hpw]; exact if_pos hz
                      rw [hsp]
                      exact mf_wi C.x C.b hr hlk md_M_level_227 ⟨f0, f1, f2, f3, f4, f5, f6, f7, f8, f9, f10, hP, hD, hle, hRF, hRG⟩ (by rw [← hH]; exact ⟨hS.1, hS.2.1⟩) hH hS.2.2 (Nat.le_refl _) (Nat.le_refl _)
                  · exact absurd (Int32.le_refl _) h56
                | succ n ih =>
                  intro k r1 r2 ls hk i0 i1 hl
                  have hkk : k < R.length := by omega
                  obtain ⟨x, hq⟩ := mf_at_lt hkk
                  have hu := hRF k x hq
                  refine lv_iload C.x C.b md_M_level_104 (lv_at hl 0 rfl) ?_
                  refine lv_aload_n C.x C.b md_M_level_106 rfl (lv_at hl 4 rfl) ?_
                  refine mf_gf C (ci := 4) (N := 20) rfl mi_M 1 (by decide) mt_536 (hP 0 _ rfl) (v := .int (nI R.length)) rfl md_M_level_107 ?_
                  refine lv_icmp_ge (tgt := 195) C.x C.b md_M_level_110 (by decide) (fun h58 => ?_) (fun h58 => ?_)
                  · exact absurd h58 (nI_ge hkk (by omega))
                  · skip
                    refine lv_aload_n C.x C.b md_M_level_113 rfl (lv_at hl 4 rfl) ?_
                    refine mf_gf C (ci := 4) (N := 20) rfl mi_M 9 (by decide) mt_544 (hP 0 _ rfl) (v := .ref (aa 6)) rfl md_M_level_114 ?_
                    refine lv_iload C.x C.b md_M_level_117 (lv_at hl 0 rfl) ?_
                    refine mf_zv C (t := 3) rfl (hP 7 _ rfl) (by omega) (by decide) hu.2.2.2.2.2.2.1 md_M_level_119 ?_
                    refine lv_if_ne (tgt := 150) C.x C.b md_M_level_120 (by decide) (fun h59 => ?_) (fun h59 => ?_)
                    · skip
                      refine lv_iconst (v := 0) C.x C.b md_M_level_150 (by decide) ?_
                      refine lv_istore (lv' := [(8, .int 0), (7, .int (nI k)), (5, .int r1), (6, .int r2), (4, .int pw), (0, .ref mo), (1, .int s0), (2, .int k0), (3, .int w0)]) C.x C.b md_M_level_151 hl (by decide) rfl (fun ls hl => ?_)
                      refine lv_iload C.x C.b md_M_level_153 (lv_at hl 2 rfl) ?_
                      refine lv_iload C.x C.b md_M_level_155 (lv_at hl 0 rfl) ?_
                      refine lv_if_eq (tgt := 170) C.x C.b md_M_level_157 (by decide) (fun h60 => ?_) (fun h60 => ?_)
                      · skip
                        refine lv_iconst (v := 0) C.x C.b md_M_level_170 (by decide) ?_
                        refine lv_iadd C.x C.b md_M_level_171 ?_
                        refine lv_istore (lv' := [(5, .int (r1 + 0)), (8, .int 0), (7, .int (nI k)), (6, .int r2), (4, .int pw), (0, .ref mo), (1, .int s0), (2, .int k0), (3, .int w0)]) C.x C.b md_M_level_172 hl (by decide) rfl (fun ls hl => ?_)
                        refine lv_iload C.x C.b md_M_level_174 (lv_at hl 3 rfl) ?_
                        refine lv_iload C.x C.b md_M_level_176 (lv_at hl 1 rfl) ?_
                        refine lv_if_eq (tgt := 185) C.x C.b md_M_level_178 (by decide) (fun h61 => ?_) (fun h61 => ?_)
                        · skip
                          refine lv_iconst (v := 0) C.x C.b md_M_level_185 (by decide) ?_
                          refine lv_iadd C.x C.b md_M_level_186 ?_
                          refine lv_istore (lv' := [(6, .int (r2 + 0)), (5, .int (r1 + 0)), (8, .int 0), (7, .int (nI k)), (4, .int pw), (0, .ref mo), (1, .int s0), (2, .int k0), (3, .int w0)]) C.x C.b md_M_level_187 hl (by decide) rfl (fun ls hl => ?_)
                          refine lv_iinc (k := 3) (v := nI (k + 1)) (lv' := [(7, .int (nI (k + 1))), (6, .int (r2 + 0)), (5, .int (r1 + 0)), (8, .int 0), (4, .int pw), (0, .ref mo), (1, .int s0), (2, .int k0), (3, .int w0)]) C.x C.b md_M_level_189 hl rfl (nI_1 _) (by decide) rfl (fun ls hl => ?_)
                          refine lv_goto (tgt := 104) C.x C.b md_M_level_192 (by decide) ?_
                          exact ih (k + 1) (r1 + 0) (r2 + 0) ls (by omega) (mf_sstep hq i0 (by first | (simp [mf_at, mf_rests, h58, Int32.not_le.mp h58, h59, h60, h61]; done) | (exfalso; simp_all; done))) (mf_sstep hq i1 (by first | (simp [mf_at, mf_rests, h58, Int32.not_le.mp h58, h59, h60, h61]; done) | (exfalso; simp_all; done))) (lv_sub hl [0, 2, 1, 4, 5, 6, 7, 8] rfl)
                        · exact absurd rfl h61
                      · exact absurd rfl h60
                    · skip
                      refine lv_aload_n C.x C.b md_M_level_123 rfl (lv_at hl 4 rfl) ?_
                      refine mf_gf C (ci := 4) (N := 20) rfl mi_M 5 (by decide) mt_540 (hP 0 _ rfl) (v := .ref (aa 2)) rfl md_M_level_124 ?_
                      refine lv_iload C.x C.b md_M_level_127 (lv_at hl 0 rfl) ?_
                      refine mf_iv C (t := 2) rfl (hP 3 _ rfl) (by omega) (by decide) hu.2.2.1 md_M_level_129 ?_
                      refine lv_iload_n C.x C.b md_M_level_130 rfl (lv_at hl 5 rfl) ?_
                      refine lv_icmp_ne (tgt := 150) C.x C.b md_M_level_131 (by decide) (fun h62 => ?_) (fun h62 => ?_)
                      · skip
                        refine lv_iconst (v := 0) C.x C.b md_M_level_150 (by decide) ?_
                        refine lv_istore (lv' := [(8, .int 0), (7, .int (nI k)), (5, .int r1), (6, .int r2), (4, .int pw), (0, .ref mo), (1, .int s0), (2, .int k0), (3, .int w0)]) C.x C.b md_M_level_151 hl (by decide) rfl (fun ls hl => ?_)
                        refine lv_iload C.x C.b md_M_level_153 (lv_at hl 2 rfl) ?_
                        refine lv_iload C.x C.b md_M_level_155 (lv_at hl 0 rfl) ?_
                        refine lv_if_eq (tgt := 170) C.x C.b md_M_level_157 (by decide) (fun h63 => ?_) (fun h63 => ?_)
                        · skip
                          refine lv_iconst (v := 0) C.x C.b md_M_level_170 (by decide) ?_
                          refine lv_iadd C.x C.b md_M_level_171 ?_
                          refine lv_istore (lv' := [(5, .int (r1 + 0)), (8, .int 0), (7, .int (nI k)), (6, .int r2), (4, .int pw), (0, .ref mo), (1, .int s0), (2, .int k0), (3, .int w0)]) C.x C.b md_M_level_172 hl (by decide) rfl (fun ls hl => ?_)
                          refine lv_iload C.x C.b md_M_level_174 (lv_at hl 3 rfl) ?_
                          refine lv_iload C.x C.b md_M_level_176 (lv_at hl 1 rfl) ?_
                          refine lv_if_eq (tgt := 185) C.x C.b md_M_level_178 (by decide) (fun h64 => ?_) (fun h64 => ?_)
                          · skip
                            refine lv_iconst (v := 0) C.x C.b md_M_level_185 (by decide) ?_
                            refine lv_iadd C.x C.b md_M_level_186 ?_
                            refine lv_istore (lv' := [(6, .int (r2 + 0)), (5, .int (r1 + 0)), (8, .int 0), (7, .int (nI k)), (4, .int pw), (0, .ref mo), (1, .int s0), (2, .int k0), (3, .int w0)]) C.x C.b md_M_level_187 hl (by decide) rfl (fun ls hl => ?_)
                            refine lv_iinc (k := 3) (v := nI (k + 1)) (lv' := [(7, .int (nI (k + 1))), (6, .int (r2 + 0)), (5, .int (r1 + 0)), (8, .int 0), (4, .int pw), (0, .ref mo), (1, .int s0), (2, .int k0), (3, .int w0)]) C.x C.b md_M_level_189 hl rfl (nI_1 _) (by decide) rfl (fun ls hl => ?_)
                            refine lv_goto (tgt := 104) C.x C.b md_M_level_192 (by decide) ?_
                            exact ih (k + 1) (r1 + 0) (r2 + 0) ls (by omega) (mf_sstep hq i0 (by first | (simp [mf_at, mf_rests, h58, Int32.not_le.mp h58, h59, h62, h63, h64]; done) | (exfalso; simp_all; done))) (mf_sstep hq i1 (by first | (simp [mf_at, mf_rests, h58, Int32.not_le.mp h58, h59, h62, h63, h64]; done) | (exfalso; simp_all; done))) (lv_sub hl [0, 2, 1, 4, 5, 6, 7, 8] rfl)
                          · exact absurd rfl h64
                        · exact absurd rfl h63
                      · skip
                        refine lv_aload_n C.x C.b md_M_level_134 rfl (lv_at hl 4 rfl) ?_
                        refine mf_gf C (ci := 4) (N := 20) rfl mi_M 6 (by decide) mt_541 (hP 0 _ rfl) (v := .ref (aa 3)) rfl md_M_level_135 ?_
                        refine lv_iload C.x C.b md_M_level_138 (lv_at hl 0 rfl) ?_
                        refine mf_iv C (t := 2) rfl (hP 4 _ rfl) (by omega) (by decide) hu.2.2.2.1 md_M_level_140 ?_
                        refine lv_iload C.x C.b md_M_level_141 (lv_at hl 3 rfl) ?_
                        refine lv_icmp_ne (tgt := 150) C.x C.b md_M_level_143 (by decide) (fun h65 => ?_) (fun h65 => ?_)
                        · skip
                          refine lv_iconst (v := 0) C.x C.b md_M_level_150 (by decide) ?_
                          refine lv_istore (lv' := [(8, .int 0), (7, .int (nI k)), (5, .int r1), (6, .int r2), (4, .int pw), (0, .ref mo), (1, .int s0), (2, .int k0), (3, .int w0)]) C.x C.b md_M_level_151 hl (by decide) rfl (fun ls hl => ?_)
                          refine lv_iload C.x C.b md_M_level_153 (lv_at hl 2 rfl) ?_
                          refine lv_iload C.x C.b md_M_level_155 (lv_at hl 0 rfl) ?_
                          refine lv_if_eq (tgt := 170) C.x C.b md_M_level_157 (by decide) (fun h66 => ?_) (fun h66 => ?_)
                          · skip
                            refine lv_iconst (v := 0) C.x C.b md_M_level_170 (by decide) ?_
                            refine lv_iadd C.x C.b md_M_level_171 ?_
                            refine lv_istore (lv' := [(5, .int (r1 + 0)), (8, .int 0), (7, .int (nI k)), (6, .int r2), (4, .int pw), (0, .ref mo), (1, .int s0), (2, .int k0), (3, .int w0)]) C.x C.b md_M_level_172 hl (by decide) rfl (fun ls hl => ?_)
                            refine lv_iload C.x C.b md_M_level_174 (lv_at hl 3 rfl) ?_
                            refine lv_iload C.x C.b md_M_level_176 (lv_at hl 1 rfl) ?_
                            refine lv_if_eq (tgt := 185) C.x C.b md_M_level_178 (by decide) (fun h67 => ?_) (fun h67 => ?_)
                            · skip
                              refine lv_iconst (v := 0) C.x C.b md_M_level_185 (by decide) ?_
                              refine lv_iadd C.x C.b md_M_level_186 ?_
                              refine lv_istore (lv' := [(6, .int (r2 + 0)), (5, .int (r1 + 0)), (8, .int 0), (7, .int (nI k)), (4, .int pw), (0, .ref mo), (1, .int s0), (2, .int k0), (3, .int w0)]) C.x C.b md_M_level_187 hl (by decide) rfl (fun ls hl => ?_)
                              refine lv_iinc (k := 3) (v := nI (k + 1)) (lv' := [(7, .int (nI (k + 1))), (6, .int (r2 + 0)), (5, .int (r1 + 0)), (8, .int 0), (4, .int pw), (0, .ref mo), (1, .int s0), (2, .int k0), (3, .int w0)]) C.x C.b md_M_level_189 hl rfl (nI_1 _) (by decide) rfl (fun ls hl => ?_)
                              refine lv_goto (tgt := 104) C.x C.b md_M_level_192 (by decide) ?_
                              exact ih (k + 1) (r1 + 0) (r2 + 0) ls (by omega) (mf_sstep hq i0 (by first | (simp [mf_at, mf_rests, h58, Int32.not_le.mp h58, h59, h62, h65, h66, h67]; done) | (exfalso; simp_all; done))) (mf_sstep hq i1 (by first | (simp [mf_at, mf_rests, h58, Int32.not_le.mp h58, h59, h62, h65, h66, h67]; done) | (exfalso; simp_all; done))) (lv_sub hl [0, 2, 1, 4, 5, 6, 7, 8] rfl)
                            · exact absurd rfl h67
                          · exact absurd rfl h66
                        · skip
                          refine lv_iconst (v := 1) C.x C.b md_M_level_146 (by decide) ?_
                          refine lv_goto (tgt := 151) C.x C.b md_M_level_147 (by decide) ?_
                          refine lv_istore (lv' := [(8, .int 1), (7, .int (nI k)), (5, .int r1), (6, .int r2), (4, .int pw), (0, .ref mo), (1, .int s0), (2, .int k0), (3, .int w0)]) C.x C.b md_M_level_151 hl (by decide) rfl (fun ls hl => ?_)
                          refine lv_iload C.x C.b md_M_level_153 (lv_at hl 2 rfl) ?_
                          refine lv_iload C.x C.b md_M_level_155 (lv_at hl 0 rfl) ?_
                          refine lv_if_eq (tgt := 170) C.x C.b md_M_level_157 (by decide) (fun h68 => ?_) (fun h68 => ?_)
                          · exact absurd h68 (by decide)
                          · skip
                            refine lv_aload_n C.x C.b md_M_level_160 rfl (lv_at hl 5 rfl) ?_
                            refine mf_gf C (ci := 4) (N := 20) rfl mi_M 7 (by decide) mt_542 (hP 0 _ rfl) (v := .ref (aa 4)) rfl md_M_level_161 ?_
                            refine lv_iload C.x C.b md_M_level_164 (lv_at hl 1 rfl) ?_
                            refine mf_iv C (t := 2) rfl (hP 5 _ rfl) (by omega) (by decide) hu.2.2.2.2.1 md_M_level_166 ?_
                            refine lv_goto (tgt := 171) C.x C.b md_M_level_167 (by decide) ?_
                            refine lv_iadd C.x C.b md_M_level_171 ?_
                            refine lv_istore (lv' := [(5, .int (r1 + (mf_lf x.1))), (8, .int 1), (7, .int (nI k)), (6, .int r2), (4, .int pw), (0, .ref mo), (1, .int s0), (2, .int k0), (3, .int w0)]) C.x C.b md_M_level_172 hl (by decide) rfl (fun ls hl => ?_)
                            refine lv_iload C.x C.b md_M_level_174 (lv_at hl 3 rfl) ?_
                            refine lv_iload C.x C.b md_M_level_176 (lv_at hl 1 rfl) ?_
                            refine lv_if_eq (tgt := 185) C.x C.b md_M_level_178 (by decide) (fun h69 => ?_) (fun h69 => ?_)
                            · exact absurd h69 (by decide)
                            · skip
                              refine lv_iconst (v := 1) C.x C.b md_M_level_181 (by decide) ?_
                              refine lv_goto (tgt := 186) C.x C.b md_M_level_182 (by decide) ?_
                              refine lv_iadd C.x C.b md_M_level_186 ?_
                              refine lv_istore (lv' := [(6, .int (r2 + 1)), (5, .int (r1 + (mf_lf x.1))), (8, .int 1), (7, .int (nI k)), (4, .int pw), (0, .ref mo), (1, .int s0), (2, .int k0), (3, .int w0)]) C.x C.b md_M_level_187 hl (by decide) rfl (fun ls hl => ?_)
                              refine lv_iinc (k := 3) (v := nI (k + 1)) (lv' := [(7, .int (nI (k + 1))), (6, .int (r2 + 1)), (5, .int (r1 + (mf_lf x.1))), (8, .int 1), (4, .int pw), (0, .ref mo), (1, .int s0), (2, .int k0), (3, .int w0)]) C.x C.b md_M_level_189 hl rfl (nI_1 _) (by decide) rfl (fun ls hl => ?_)
                              refine lv_goto (tgt := 104) C.x C.b md_M_level_192 (by decide) ?_
                              exact ih (k + 1) (r1 + (mf_lf x.1)) (r2 + 1) ls (by omega) (mf_sstep hq i0 (by first | (simp [mf_at, mf_rests, h58, Int32.not_le.mp h58, h59, h62, h65, h68, h69]; done) | (exfalso; simp_all; done))) (mf_sstep hq i1 (by first | (simp [mf_at, mf_rests, h58, Int32.not_le.mp h58, h59, h62, h65, h68, h69]; done) | (exfalso; simp_all; done))) (lv_sub hl [0, 2, 1, 4, 5, 6, 7, 8] rfl)
              exact loop R.length 0 0 0 ls (by omega) rfl rfl (lv_sub hl [0, 2, 1, 3, 4, 5, 6, 7] rfl)
          refine lv_iload C.x C.b md_M_level_55 (lv_at hl 0 rfl) ?_
          refine lv_iload_n C.x C.b md_M_level_57 rfl (lv_at hl 4 rfl) ?_
          refine lv_icmp_ge (tgt := 81) C.x C.b md_M_level_58 (by decide) (fun h70 => ?_) (fun h70 => ?_)
          · exact aft _ ls (if_pos (Int32.not_le.mp h6)) (lv_sub hl [1, 2, 3, 4, 5] rfl)
          · exact absurd (mf_le_of_lt (Int32.not_le.mp h6)) h70
      · exact absurd (by decide) h5
