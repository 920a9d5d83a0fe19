/-! the model: what its cells hold, its tests -/
/-- the columns of the model's book, and its ring of fills -/
def mf_Rc (R : List mf_T) (f0 f1 f2 f3 f4 f5 f6 : Nat → Int32) : Prop := ∀ k x, R[k]? = some x → f0 k = mf_id x.1 ∧ f1 k = mf_ow x.1 ∧ f2 k = mf_sd x.1 ∧ f3 k = mf_pr x.1 ∧ f4 k = mf_lf x.1 ∧ f5 k = x.2 ∧ f6 k = mf_wt x.1 ∧ vp_nar .boolean (mf_wt x.1) = mf_wt x.1
def mf_Rg (g : mf_G) (f7 f8 f9 f10 : Nat → Int32) : Prop := ∀ c, c < 32 → f7 c = g.2.2.2.2 c 0 ∧ f8 c = g.2.2.2.2 c 1 ∧ f9 c = g.2.2.2.2 c 2 ∧ f10 c = g.2.2.2.2 c 3
def mf_MD (D : va_G) (k5 : mf_k5) (A : Nat → Prop) (H : Heap) (mo : Nat) (aa : Nat → Nat) (cd : Int32) (st : rf_S) : Prop := ∃ f0 f1 f2 f3 f4 f5 f6 f7 f8 f9 f10 : Nat → Int32, va_P D mf_cl [(mo, .inr (4, [.int cd, .int (nI st.1.length), .int st.2.1, .ref (aa 0), .ref (aa 1), .ref (aa 2), .ref (aa 3), .ref (aa 4), .ref (aa 5), .ref (aa 6), .int (nI st.2.2.2.2.1), .ref (aa 7), .ref (aa 8), .ref (aa 9), .ref (aa 10), .int st.2.2.2.2.2.1, .long st.2.2.2.2.2.2.2.1, .int st.2.2.2.2.2.2.1, .int st.2.2.1, .int st.2.2.2.1])), (aa 0, .inl (k5.2.2.1, 40, .inl f0)), (aa 1, .inl (k5.2.2.1, 40, .inl f1)), (aa 2, .inl (k5.2.2.1, 40, .inl f2)), (aa 3, .inl (k5.2.2.1, 40, .inl f3)), (aa 4, .inl (k5.2.2.1, 40, .inl f4)), (aa 5, .inl (k5.2.2.1, 40, .inl f5)), (aa 6, .inl (k5.2.2.2.1, 40, .inl f6)), (aa 7, .inl (k5.2.2.1, 32, .inl f7)), (aa 8, .inl (k5.2.2.1, 32, .inl f8)), (aa 9, .inl (k5.2.2.1, 32, .inl f9)), (aa 10, .inl (k5.2.2.1, 32, .inl f10))] H ∧ va_D A [(mo, .inr (4, [.int cd, .int (nI st.1.length), .int st.2.1, .ref (aa 0), .ref (aa 1), .ref (aa 2), .ref (aa 3), .ref (aa 4), .ref (aa 5), .ref (aa 6), .int (nI st.2.2.2.2.1), .ref (aa 7), .ref (aa 8), .ref (aa 9), .ref (aa 10), .int st.2.2.2.2.2.1, .long st.2.2.2.2.2.2.2.1, .int st.2.2.2.2.2.2.1, .int st.2.2.1, .int st.2.2.2.1])), (aa 0, .inl (k5.2.2.1, 40, .inl f0)), (aa 1, .inl (k5.2.2.1, 40, .inl f1)), (aa 2, .inl (k5.2.2.1, 40, .inl f2)), (aa 3, .inl (k5.2.2.1, 40, .inl f3)), (aa 4, .inl (k5.2.2.1, 40, .inl f4)), (aa 5, .inl (k5.2.2.1, 40, .inl f5)), (aa 6, .inl (k5.2.2.2.1, 40, .inl f6)), (aa 7, .inl (k5.2.2.1, 32, .inl f7)), (aa 8, .inl (k5.2.2.1, 32, .inl f8)), (aa 9, .inl (k5.2.2.1, 32, .inl f9)), (aa 10, .inl (k5.2.2.1, 32, .inl f10))] ∧ st.1.length ≤ 40 ∧ mf_Rc st.1 f0 f1 f2 f3 f4 f5 f6 ∧ mf_Rg st.2.2.2.2 f7 f8 f9 f10
section MFV
variable {p : Program} {l : Launch} {e : Env} {R : Room} {s : State} {m : MethodId} {args : Array Value} {below : List Frame} {meth : Method} {c : Code} {H : Heap} {locs : List Loc} {cells slots : Nat} {Q : State → Prop}
variable {cc : ByteArray} {nL pc : Nat} {ls : Array Slot} {rest : List Value} {D : va_G} {t0 : Nat × Nat} {A : Nat → Prop} {a : Nat} {tys : List (ClassId × FieldType)} {own : String}
theorem mf_iv (C : mf_Cx p s m args c own cc nL D tys t0 A) {cA : ClassId} {t n i : Nat} {f : Nat → Int32} {v : Int32} (ht : tys[t]? = some (cA, .int)) (hat : va_at D mf_cl (a, .inl (cA, n, .inl f)) H) (hi : i < n) (hn : n < 2 ^ 31) (hv : f i = v) (hdg : decode cc pc = .ok (.iaload, 1))
    (kk : W p l e R s m args below meth c H locs cells slots Q (F0 m (pc + 1) ls (.int v :: rest))) : W p l e R s m args below meth c H locs cells slots Q (F0 m pc ls (.int (nI i) :: .ref a :: rest)) := by
  refine va_iald C.x C.b C.k (mf_one hat) 0 t rfl ht (vp_in_nI hi hn) hdg ?_
  rw [nI_clamp (by omega), hv]
  exact kk
theorem mf_zv (C : mf_Cx p s m args c own cc nL D tys t0 A) {cA : ClassId} {t n i : Nat} {f : Nat → Int32} {v : Int32} (ht : tys[t]? = some (cA, .boolean)) (hat : va_at D mf_cl (a, .inl (cA, n, .inl f)) H) (hi : i < n) (hn : n < 2 ^ 31) (hv : f i = v) (hdg : decode cc pc = .ok (.baload, 1))
    (kk : W p l e R s m args below meth c H locs cells slots Q (F0 m (pc + 1) ls (.int v :: rest))) : W p l e R s m args below meth c H locs cells slots Q (F0 m pc ls (.int (nI i) :: .ref a :: rest)) := by
  refine va_zald C.x C.b C.k (mf_one hat) 0 t rfl ht (vp_in_nI hi hn) hdg ?_
  rw [nI_clamp (by omega), hv]
  exact kk
end MFV
set_option maxRecDepth 100000 in
set_option maxHeartbeats 4000000 in
theorem k_M_among (l : Launch) (D : va_G) (k5 : mf_k5) (t0 : Nat × Nat) (A : Nat → Prop) (H : Heap) (a b z : Int32) : mf_cRO l my_M_among mc_M_among 3 (some .boolean) { frames := 0, cells := 0, slots := 0, locals := 0 } D (mf_tys k5) t0 A H [.int a, .int b, .int z] (some (.int (mf_bI (decide (b ≤ a) && decide (a ≤ z))))) := by
  refine mf_of (by decide) (Nat.le_of_ble_eq_true rfl) ?_
  intro p e s m below meth c ls C hH hr hlk hnm hmt hl hS
  have hl : lv_has ls 3 [(0, .int a), (1, .int b), (2, .int z)] := hl
  refine lv_iload_n C.x C.b md_M_among_0 rfl (lv_at hl 0 rfl) ?_
  refine lv_iload_n C.x C.b md_M_among_1 rfl (lv_at hl 1 rfl) ?_
  refine lv_icmp_lt (tgt := 14) C.x C.b md_M_among_2 (by decide) (fun h1 => ?_) (fun h1 => ?_)
  · skip
    refine lv_iconst (v := 0) C.x C.b md_M_among_14 (by decide) ?_
    rw [show mf_bI (decide (b ≤ a) && decide (a ≤ z)) = 0 by simp [mf_bI, h1, Int32.not_le.mpr h1]]
    exact mf_rz C.x C.b hH hr hlk rfl md_M_among_15
  · skip
    refine lv_iload_n C.x C.b md_M_among_5 rfl (lv_at hl 0 rfl) ?_
    refine lv_iload_n C.x C.b md_M_among_6 rfl (lv_at hl 2 rfl) ?_
    refine lv_icmp_gt (tgt := 14) C.x C.b md_M_among_7 (by decide) (fun h2 => ?_) (fun h2 => ?_)
    · skip
      refine lv_iconst (v := 0) C.x C.b md_M_among_14 (by decide) ?_
      rw [show mf_bI (decide (b ≤ a) && decide (a ≤ z)) = 0 by simp [mf_bI, h1, Int32.not_lt.mp h1, h2, Int32.not_le.mpr h2]]
      exact mf_rz C.x C.b hH hr hlk rfl md_M_among_15
    · skip
      refine lv_iconst (v := 1) C.x C.b md_M_among_10 (by decide) ?_
      refine lv_goto (tgt := 15) C.x C.b md_M_among_11 (by decide) ?_
      rw [show mf_bI (decide (b ≤ a) && decide (a ≤ z)) = 1 by simp [mf_bI, h1, Int32.not_lt.mp h1, h2, Int32.not_lt.mp h2]]
      exact mf_rz C.x C.b hH hr hlk rfl md_M_among_15
set_option maxRecDepth 100000 in
set_option maxHeartbeats 4000000 in
theorem k_M_thrown (l : Launch) (D : va_G) (k5 : mf_k5) (t0 : Nat × Nat) (A : Nat → Prop) (H : Heap) (mo : Nat) (aa : Nat → Nat) (cd ck sp mt : Int32) (R : List mf_T) (g : mf_G) (hM : mf_MD D k5 A H mo aa cd (R, ck, sp, mt, g)) : mf_cRO l my_M_thrown mc_M_thrown 1 (some .int) { frames := 0, cells := 0, slots := 0, locals := 0 } D (mf_tys k5) t0 A H [.ref mo] (some (.int cd)) := by
  obtain ⟨f0, f1, f2, f3, f4, f5, f6, f7, f8, f9, f10, hP, hD, hle, hRF, hRG⟩ := id hM
  have hP : va_P D mf_cl [(mo, .inr (4, [.int cd, .int (nI R.length), .int ck, .ref (aa 0), .ref (aa 1), .ref (aa 2), .ref (aa 3), .ref (aa 4), .ref (aa 5), .ref (aa 6), .int (nI g.1), .ref (aa 7), .ref (aa 8), .ref (aa 9), .ref (aa 10), .int g.2.1, .long g.2.2.2.1, .int g.2.2.1, .int sp, .int mt])), (aa 0, .inl (k5.2.2.1, 40, .inl f0)), (aa 1, .inl (k5.2.2.1, 40, .inl f1)), (aa 2, .inl (k5.2.2.1, 40, .inl f2)), (aa 3, .inl (k5.2.2.1, 40, .inl f3)), (aa 4, .inl (k5.2.2.1, 40, .inl f4)), (aa 5, .inl (k5.2.2.1, 40, .inl f5)), (aa 6, .inl (k5.2.2.2.1, 40, .inl f6)), (aa 7, .inl (k5.2.2.1, 32, .inl f7)), (aa 8, .inl (k5.2.2.1, 32, .inl f8)), (aa 9, .inl (k5.2.2.1, 32, .inl f9)), (aa 10, .inl (k5.2.2.1, 32, .inl f10))] H := hP
  have hle : R.length ≤ 40 := hle
  refine mf_of (by decide) (Nat.le_of_ble_eq_true rfl) ?_
  intro p e s m below meth c ls C hH hr hlk hnm hmt hl hS
  have hl : lv_has ls 1 [(0, .ref mo)] := hl
  refine lv_aload_n C.x C.b md_M_thrown_0 rfl (lv_at hl 0 rfl) ?_
  refine mf_gf C (ci := 4) (N := 20) rfl mi_M 0 (by decide) mt_535 (hP 0 _ rfl) (v := .int cd) rfl md_M_thrown_1 ?_
  exact mf_ri C.x C.b hH hr hlk md_M_thrown_4
set_option maxRecDepth 100000 in
set_option maxHeartbeats 4000000 in
theorem k_M_fits (l : Launch) (D : va_G) (k5 : mf_k5) (t0 : Nat × Nat) (A : Nat → Prop) (H : Heap) (mo : Nat) (aa : Nat → Nat) (cd ck sp mt : Int32) (R : List mf_T) (g : mf_G) (s0 p0 : Int32) (k : Nat) (x : mf_T) (hM : mf_MD D k5 A H mo aa cd (R, ck, sp, mt, g)) (hq : R[k]? = some x) : mf_cRO l my_M_fits mc_M_fits 4 (some .boolean) { frames := 0, cells := 0, slots := 0, locals := 0 } D (mf_tys k5) t0 A H [.ref mo, .int s0, .int p0, .int (nI k)] (some (.int (mf_bI (rf_fits s0 p0 x.1)))) := by
  obtain ⟨f0, f1, f2, f3, f4, f5, f6, f7, f8, f9, f10, hP, hD, hle, hRF, hRG⟩ := id hM
  have hP : va_P D mf_cl [(mo, .inr (4, [.int cd, .int (nI R.length), .int ck, .ref (aa 0), .ref (aa 1), .ref (aa 2), .ref (aa 3), .ref (aa 4), .ref (aa 5), .ref (aa 6), .int (nI g.1), .ref (aa 7), .ref (aa 8), .ref (aa 9), .ref (aa 10), .int g.2.1, .long g.2.2.2.1, .int g.2.2.1, .int sp, .int mt])), (aa 0, .inl (k5.2.2.1, 40, .inl f0)), (aa 1, .inl (k5.2.2.1, 40, .inl f1)), (aa 2, .inl (k5.2.2.1, 40, .inl f2)), (aa 3, .inl (k5.2.2.1, 40, .inl f3)), (aa 4, .inl (k5.2.2.1, 40, .inl f4)), (aa 5, .inl (k5.2.2.1, 40, .inl f5)), (aa 6, .inl (k5.2.2.2.1, 40, .inl f6)), (aa 7, .inl (k5.2.2.1, 32, .inl f7)), (aa 8, .inl (k5.2.2.1, 32, .inl f8)), (aa 9, .inl (k5.2.2.1, 32, .inl f9)), (aa 10, .inl (k5.2.2.1, 32, .inl f10))] H := hP
  have hle : R.length ≤ 40 := hle
  have hu := hRF k x hq
  have hu40 : k < R.length := (List.getElem?_eq_some_iff.mp hq).1
  refine mf_of (by decide) (Nat.le_of_ble_eq_true rfl) ?_
  intro p e s m below meth c ls C hH hr hlk hnm hmt hl hS
  have hl : lv_has ls 4 [(0, .ref mo), (1, .int s0), (2, .int p0), (3, .int (nI k))] := hl
  refine lv_iload_n C.x C.b md_M_fits_0 rfl (lv_at hl 2 rfl) ?_
  refine lv_if_eq (tgt := 31) C.x C.b md_M_fits_1 (by decide) (fun h1 => ?_) (fun h1 => ?_)
  · skip
    refine lv_iconst (v := 1) C.x C.b md_M_fits_31 (by decide) ?_
    refine lv_goto (tgt := 36) C.x C.b md_M_fits_32 (by decide) ?_
    rw [show mf_bI (rf_fits s0 p0 x.1) = 1 by first | (simp [mf_bI, rf_fits, h1]; done) | (exfalso; simp_all; done)]
    exact mf_rz C.x C.b hH hr hlk rfl md_M_fits_36
  · skip
    refine lv_iload_n C.x C.b md_M_fits_4 rfl (lv_at hl 1 rfl) ?_
    refine lv_if_ne (tgt := 21) C.x C.b md_M_fits_5 (by decide) (fun h2 => ?_) (fun h2 => ?_)
    · skip
      refine lv_iload_n C.x C.b md_M_fits_21 rfl (lv_at hl 2 rfl) ?_
      refine lv_aload_n C.x C.b md_M_fits_22 rfl (lv_at hl 0 rfl) ?_
      refine mf_gf C (ci := 4) (N := 20) rfl mi_M 6 (by decide) mt_541 (hP 0 _ rfl) (v := .ref (aa 3)) rfl md_M_fits_23 ?_
      refine lv_iload_n C.x C.b md_M_fits_26 rfl (lv_at hl 3 rfl) ?_
      refine mf_iv C (t := 2) rfl (hP 4 _ rfl) (by omega) (by decide) hu.2.2.2.1 md_M_fits_27 ?_
      refine lv_icmp_gt (tgt := 35) C.x C.b md_M_fits_28 (by decide) (fun h3 => ?_) (fun h3 => ?_)
      · skip
        refine lv_iconst (v := 0) C.x C.b md_M_fits_35 (by decide) ?_
        rw [show mf_bI (rf_fits s0 p0 x.1) = 0 by first | (simp [mf_bI, rf_fits, h1, h2, h3, Int32.not_le.mpr h3]; done) | (exfalso; simp_all; done)]
        exact mf_rz C.x C.b hH hr hlk rfl md_M_fits_36
      · skip
        refine lv_iconst (v := 1) C.x C.b md_M_fits_31 (by decide) ?_
        refine lv_goto (tgt := 36) C.x C.b md_M_fits_32 (by decide) ?_
        rw [show mf_bI (rf_fits s0 p0 x.1) = 1 by first | (simp [mf_bI, rf_fits, h1, h2, h3, Int32.not_lt.mp h3]; done) | (exfalso; simp_all; done)]
        exact mf_rz C.x C.b hH hr hlk rfl md_M_fits_36
    · skip
      refine lv_iload_n C.x C.b md_M_fits_8 rfl (lv_at hl 2 rfl) ?_
      refine lv_aload_n C.x C.b md_M_fits_9 rfl (lv_at hl 0 rfl) ?_
      refine mf_gf C (ci := 4) (N := 20) rfl mi_M 6 (by decide) mt_541 (hP 0 _ rfl) (v := .ref (aa 3)) rfl md_M_fits_10 ?_
      refine lv_iload_n C.x C.b md_M_fits_13 rfl (lv_at hl 3 rfl) ?_
      refine mf_iv C (t := 2) rfl (hP 4 _ rfl) (by omega) (by decide) hu.2.2.2.1 md_M_fits_14 ?_
      refine lv_icmp_lt (tgt := 35) C.x C.b md_M_fits_15 (by decide) (fun h4 => ?_) (fun h4 => ?_)
      · skip
        refine lv_iconst (v := 0) C.x C.b md_M_fits_35 (by decide) ?_
        rw [show mf_bI (rf_fits s0 p0 x.1) = 0 by first | (simp [mf_bI, rf_fits, h1, h2, h4, Int32.not_le.mpr h4]; done) | (exfalso; simp_all; done)]
        exact mf_rz C.x C.b hH hr hlk rfl md_M_fits_36
      · skip
        refine lv_goto (tgt := 31) C.x C.b md_M_fits_18 (by decide) ?_
        refine lv_iconst (v := 1) C.x C.b md_M_fits_31 (by decide) ?_
        refine lv_goto (tgt := 36) C.x C.b md_M_fits_32 (by decide) ?_
        rw [show mf_bI (rf_fits s0 p0 x.1) = 1 by first | (simp [mf_bI, rf_fits, h1, h2, h4, Int32.not_lt.mp h4]; done) | (exfalso; simp_all; done)]
        exact mf_rz C.x C.b hH hr hlk rfl md_M_fits_36
set_option maxRecDepth 100000 in
set_option maxHeartbeats 4000000 in
theorem k_M_comesBefore (l : Launch) (D : va_G) (k5 : mf_k5) (t0 : Nat × Nat) (A : Nat → Prop) (H : Heap) (mo : Nat) (aa : Nat → Nat) (cd ck sp mt : Int32) (R : List mf_T) (g : mf_G) (k j : Nat) (x y : mf_T) (hM : mf_MD D k5 A H mo aa cd (R, ck, sp, mt, g)) (hq : R[k]? = some x) (hqj : R[j]? = some y) : mf_cRO l my_M_comesBefore mc_M_comesBefore 3 (some .boolean) { frames := 0, cells := 0, slots := 0, locals := 0 } D (mf_tys k5) t0 A H [.ref mo, .int (nI k), .int (nI j)] (some (.int (mf_bI (rf_before x y)))) := by
  obtain ⟨f0, f1, f2, f3, f4, f5, f6, f7, f8, f9, f10, hP, hD, hle, hRF, hRG⟩ := id hM
  have hP : va_P D mf_cl [(mo, .inr (4, [.int cd, .int (nI R.length), .int ck, .ref (aa 0), .ref (aa 1), .ref (aa 2), .ref (aa 3), .ref (aa 4), .ref (aa 5), .ref (aa 6), .int (nI g.1), .ref (aa 7), .ref (aa 8), .ref (aa 9), .ref (aa 10), .int g.2.1, .long g.2.2.2.1, .int g.2.2.1, .int sp, .int mt])), (aa 0, .inl (k5.2.2.1, 40, .inl f0)), (aa 1, .inl (k5.2.2.1, 40, .inl f1)), (aa 2, .inl (k5.2.2.1, 40, .inl f2)), (aa 3, .inl (k5.2.2.1, 40, .inl f3)), (aa 4, .inl (k5.2.2.1, 40, .inl f4)), (aa 5, .inl (k5.2.2.1, 40, .inl f5)), (aa 6, .inl (k5.2.2.2.1, 40, .inl f6)), (aa 7, .inl (k5.2.2.1, 32, .inl f7)), (aa 8, .inl (k5.2.2.1, 32, .inl f8)), (aa 9, .inl (k5.2.2.1, 32, .inl f9)), (aa 10, .inl (k5.2.2.1, 32, .inl f10))] H := hP
  have hle : R.length ≤ 40 := hle
  have hu := hRF k x hq
  have hu40 : k < R.length := (List.getElem?_eq_some_iff.mp hq).1
  have hrj := hRF j y hqj
  have hrj40 : j < R.length := (List.getElem?_eq_some_iff.mp hqj).1
  refine mf_of (by decide) (Nat.le_of_ble_eq_true rfl) ?_
  intro p e s m below meth c ls C hH hr hlk hnm hmt hl hS
  have hl : lv_has ls 3 [(0, .ref mo), (1, .int (nI k)), (2, .int (nI j))] := hl
  refine lv_aload_n C.x C.b md_M_comesBefore_0 rfl (lv_at hl 0 rfl) ?_
  refine mf_gf C (ci := 4) (N := 20) rfl mi_M 6 (by decide) mt_541 (hP 0 _ rfl) (v := .ref (aa 3)) rfl md_M_comesBefore_1 ?_
  refine lv_iload_n C.x C.b md_M_comesBefore_4 rfl (lv_at hl 1 rfl) ?_
  refine mf_iv C (t := 2) rfl (hP 4 _ rfl) (by omega) (by decide) hu.2.2.2.1 md_M_comesBefore_5 ?_
  refine lv_aload_n C.x C.b md_M_comesBefore_6 rfl (lv_at hl 0 rfl) ?_
  refine mf_gf C (ci := 4) (N := 20) rfl mi_M 6 (by decide) mt_541 (hP 0 _ rfl) (v := .ref (aa 3)) rfl md_M_comesBefore_7 ?_
  refine lv_iload_n C.x C.b md_M_comesBefore_10 rfl (lv_at hl 2 rfl) ?_
  refine mf_iv C (t := 2) rfl (hP 4 _ rfl) (by omega) (by decide) hrj.2.2.2.1 md_M_comesBefore_11 ?_
  refine lv_icmp_eq (tgt := 68) C.x C.b md_M_comesBefore_12 (by decide) (fun h1 => ?_) (fun h1 => ?_)
  · skip
    refine lv_aload_n C.x C.b md_M_comesBefore_68 rfl (lv_at hl 0 rfl) ?_
    refine mf_gf C (ci := 4) (N := 20) rfl mi_M 8 (by decide) mt_543 (hP 0 _ rfl) (v := .ref (aa 5)) rfl md_M_comesBefore_69 ?_
    refine lv_iload_n C.x C.b md_M_comesBefore_72 rfl (lv_at hl 1 rfl) ?_
    refine mf_iv C (t := 2) rfl (hP 6 _ rfl) (by omega) (by decide) hu.2.2.2.2.2.1 md_M_comesBefore_73 ?_
    refine lv_aload_n C.x C.b md_M_comesBefore_74 rfl (lv_at hl 0 rfl) ?_
    refine mf_gf C (ci := 4) (N := 20) rfl mi_M 8 (by decide) mt_543 (hP 0 _ rfl) (v := .ref (aa 5)) rfl md_M_comesBefore_75 ?_
    refine lv_iload_n C.x C.b md_M_comesBefore_78 rfl (lv_at hl 2 rfl) ?_
    refine mf_iv C (t := 2) rfl (hP 6 _ rfl) (by omega) (by decide) hrj.2.2.2.2.2.1 md_M_comesBefore_79 ?_
    refine lv_icmp_ge (tgt := 87) C.x C.b md_M_comesBefore_80 (by decide) (fun h2 => ?_) (fun h2 => ?_)
    · skip
      refine lv_iconst (v := 0) C.x C.b md_M_comesBefore_87 (by decide) ?_
      rw [show mf_bI (rf_before x y) = 0 by first | (simp [mf_bI, rf_before, h1, h2, Int32.not_lt.mpr h2]; done) | (exfalso; simp_all; done)]
      exact mf_rz C.x C.b hH hr hlk rfl md_M_comesBefore_88
    · skip
      refine lv_iconst (v := 1) C.x C.b md_M_comesBefore_83 (by decide) ?_
      refine lv_goto (tgt := 88) C.x C.b md_M_comesBefore_84 (by decide) ?_
      rw [show mf_bI (rf_before x y) = 1 by first | (simp [mf_bI, rf_before, h1, h2, Int32.not_le.mp h2]; done) | (exfalso; simp_all; done)]
      exact mf_rz C.x C.b hH hr hlk rfl md_M_comesBefore_88
  · skip
    refine lv_aload_n C.x C.b md_M_comesBefore_15 rfl (lv_at hl 0 rfl) ?_
    refine mf_gf C (ci := 4) (N := 20) rfl mi_M 5 (by decide) mt_540 (hP 0 _ rfl) (v := .ref (aa 2)) rfl md_M_comesBefore_16 ?_
    refine lv_iload_n C.x C.b md_M_comesBefore_19 rfl (lv_at hl 1 rfl) ?_
    refine mf_iv C (t := 2) rfl (hP 3 _ rfl) (by omega) (by decide) hu.2.2.1 md_M_comesBefore_20 ?_
    refine lv_if_ne (tgt := 47) C.x C.b md_M_comesBefore_21 (by decide) (fun h3 => ?_) (fun h3 => ?_)
    · skip
      refine lv_aload_n C.x C.b md_M_comesBefore_47 rfl (lv_at hl 0 rfl) ?_
      refine mf_gf C (ci := 4) (N := 20) rfl mi_M 6 (by decide) mt_541 (hP 0 _ rfl) (v := .ref (aa 3)) rfl md_M_comesBefore_48 ?_
      refine lv_iload_n C.x C.b md_M_comesBefore_51 rfl (lv_at hl 1 rfl) ?_
      refine mf_iv C (t := 2) rfl (hP 4 _ rfl) (by omega) (by decide) hu.2.2.2.1 md_M_comesBefore_52 ?_
      refine lv_aload_n C.x C.b md_M_comesBefore_53 rfl (lv_at hl 0 rfl) ?_
      refine mf_gf C (ci := 4) (N := 20) rfl mi_M 6 (by decide) mt_541 (hP 0 _ rfl) (v := .ref (aa 3)) rfl md_M_comesBefore_54 ?_
      refine lv_iload_n C.x C.b md_M_comesBefore_57 rfl (lv_at hl 2 rfl) ?_
      refine mf_iv C (t := 2) rfl (hP 4 _ rfl) (by omega) (by decide) hrj.2.2.2.1 md_M_comesBefore_58 ?_
      refine lv_icmp_ge (tgt := 66) C.x C.b md_M_comesBefore_59 (by decide) (fun h4 => ?_) (fun h4 => ?_)
      · skip
        refine lv_iconst (v := 0) C.x C.b md_M_comesBefore_66 (by decide) ?_
        rw [show mf_bI (rf_before x y) = 0 by first | (simp [mf_bI, rf_before, h1, h3, h4, Int32.not_lt.mpr h4]; done) | (exfalso; simp_all; done)]
        exact mf_rz C.x C.b hH hr hlk rfl md_M_comesBefore_67
      · skip
        refine lv_iconst (v := 1) C.x C.b md_M_comesBefore_62 (by decide) ?_
        refine lv_goto (tgt := 67) C.x C.b md_M_comesBefore_63 (by decide) ?_
        rw [show mf_bI (rf_before x y) = 1 by first | (simp [mf_bI, rf_before, h1, h3, h4, Int32.not_le.mp h4]; done) | (exfalso; simp_all; done)]
        exact mf_rz C.x C.b hH hr hlk rfl md_M_comesBefore_67
    · skip
      refine lv_aload_n C.x C.b md_M_comesBefore_24 rfl (lv_at hl 0 rfl) ?_
      refine mf_gf C (ci := 4) (N := 20) rfl mi_M 6 (by decide) mt_541 (hP 0 _ rfl) (v := .ref (aa 3)) rfl md_M_comesBefore_25 ?_
      refine lv_iload_n C.x C.b md_M_comesBefore_28 rfl (lv_at hl 1 rfl) ?_
      refine mf_iv C (t := 2) rfl (hP 4 _ rfl) (by omega) (by decide) hu.2.2.2.1 md_M_comesBefore_29 ?_
      refine lv_aload_n C.x C.b md_M_comesBefore_30 rfl (lv_at hl 0 rfl) ?_
      refine mf_gf C (ci := 4) (N := 20) rfl mi_M 6 (by decide) mt_541 (hP 0 _ rfl) (v := .ref (aa 3)) rfl md_M_comesBefore_31 ?_
      refine lv_iload_n C.x C.b md_M_comesBefore_34 rfl (lv_at hl 2 rfl) ?_
      refine mf_iv C (t := 2) rfl (hP 4 _ rfl) (by omega) (by decide) hrj.2.2.2.1 md_M_comesBefore_35 ?_
      refine lv_icmp_le (tgt := 43) C.x C.b md_M_comesBefore_36 (by decide) (fun h5 => ?_) (fun h5 => ?_)
      · skip
        refine lv_iconst (v := 0) C.x C.b md_M_comesBefore_43 (by decide) ?_
        refine lv_goto (tgt := 67) C.x C.b md_M_comesBefore_44 (by decide) ?_
        rw [show mf_bI (rf_before x y) = 0 by first | (simp [mf_bI, rf_before, h1, h3, h5, Int32.not_lt.mpr h5]; done) | (exfalso; simp_all; done)]
        exact mf_rz C.x C.b hH hr hlk rfl md_M_comesBefore_67
      · skip
        refine lv_iconst (v := 1) C.x C.b md_M_comesBefore_39 (by decide) ?_
        refine lv_goto (tgt := 67) C.x C.b md_M_comesBefore_40 (by decide) ?_
        rw [show mf_bI (rf_before x y) = 1 by first | (simp [mf_bI, rf_before, h1, h3, h5, Int32.not_le.mp h5]; done) | (exfalso; simp_all; done)]
        exact mf_rz C.x C.b hH hr hlk rfl md_M_comesBefore_67
set_option maxRecDepth 100000 in
set_option maxHeartbeats 4000000 in
theorem k_M_isDue (l : Launch) (D : va_G) (k5 : mf_k5) (t0 : Nat × Nat) (A : Nat → Prop) (H : Heap) (mo : Nat) (aa : Nat → Nat) (cd ck sp mt : Int32) (R : List mf_T) (g : mf_G) (k : Nat) (x : mf_T) (hM : mf_MD D k5 A H mo aa cd (R, ck, sp, mt, g)) (hq : R[k]? = some x) : mf_cRO l my_M_isDue mc_M_isDue 2 (some .boolean) { frames := 0, cells := 0, slots := 0, locals := 0 } D (mf_tys k5) t0 A H [.ref mo, .int (nI k)] (some (.int (mf_bI (rf_isDue g.2.1 x.1)))) := by
  obtain ⟨f0, f1, f2, f3, f4, f5, f6, f7, f8, f9, f10, hP, hD, hle, hRF, hRG⟩ := id hM
  have hP : va_P D mf_cl [(mo, .inr (4, [.int cd, .int (nI R.length), .int ck, .ref (aa 0), .ref (aa 1), .ref (aa 2), .ref (aa 3), .ref (aa 4), .ref (aa 5), .ref (aa 6), .int (nI g.1), .ref (aa 7), .ref (aa 8), .ref (aa 9), .ref (aa 10), .int g.2.1, .long g.2.2.2.1, .int g.2.2.1, .int sp, .int mt])), (aa 0, .inl (k5.2.2.1, 40, .inl f0)), (aa 1, .inl (k5.2.2.1, 40, .inl f1)), (aa 2, .inl (k5.2.2.1, 40, .inl f2)), (aa 3, .inl (k5.2.2.1, 40, .inl f3)), (aa 4, .inl (k5.2.2.1, 40, .inl f4)), (aa 5, .inl (k5.2.2.1, 40, .inl f5)), (aa 6, .inl (k5.2.2.2.1, 40, .inl f6)), (aa 7, .inl (k5.2.2.1, 32, .inl f7)), (aa 8, .inl (k5.2.2.1, 32, .inl f8)), (aa 9, .inl (k5.2.2.1, 32, .inl f9)), (aa 10, .inl (k5.2.2.1, 32, .inl f10))] H := hP
  have hle : R.length ≤ 40 := hle
  have hu := hRF k x hq
  have hu40 : k < R.length := (List.getElem?_eq_some_iff.mp hq).1
  refine mf_of (by decide) (Nat.le_of_ble_eq_true rfl) ?_
  intro p e s m below meth c ls C hH hr hlk hnm hmt hl hS
  have hl : lv_has ls 2 [(0, .ref mo), (1, .int (nI k))] := hl
  refine lv_aload_n C.x C.b md_M_isDue_0 rfl (lv_at hl 0 rfl) ?_
  refine mf_gf C (ci := 4) (N := 20) rfl mi_M 9 (by decide) mt_544 (hP 0 _ rfl) (v := .ref (aa 6)) rfl md_M_isDue_1 ?_
  refine lv_iload_n C.x C.b md_M_isDue_4 rfl (lv_at hl 1 rfl) ?_
  refine mf_zv C (t := 3) rfl (hP 7 _ rfl) (by omega) (by decide) hu.2.2.2.2.2.2.1 md_M_isDue_5 ?_
  refine lv_if_eq (tgt := 58) C.x C.b md_M_isDue_6 (by decide) (fun h1 => ?_) (fun h1 => ?_)
  · skip
    refine lv_iconst (v := 0) C.x C.b md_M_isDue_58 (by decide) ?_
    rw [show mf_bI (rf_isDue g.2.1 x.1) = 0 by first | (simp [mf_bI, rf_isDue, h1]; done) | (exfalso; simp_all; done)]
    exact mf_rz C.x C.b hH hr hlk rfl md_M_isDue_59
  · skip
    refine lv_aload_n C.x C.b md_M_isDue_9 rfl (lv_at hl 0 rfl) ?_
    refine mf_gf C (ci := 4) (N := 20) rfl mi_M 15 (by decide) mt_550 (hP 0 _ rfl) (v := .int g.2.1) rfl md_M_isDue_10 ?_
    refine lv_if_le (tgt := 58) C.x C.b md_M_isDue_13 (by decide) (fun h2 => ?_) (fun h2 => ?_)
    · skip
      refine lv_iconst (v := 0) C.x C.b md_M_isDue_58 (by decide) ?_
      rw [show mf_bI (rf_isDue g.2.1 x.1) = 0 by first | (simp [mf_bI, rf_isDue, h1, h2, Int32.not_lt.mpr h2]; done) | (exfalso; simp_all; done)]
      exact mf_rz C.x C.b hH hr hlk rfl md_M_isDue_59
    · skip
      refine lv_aload_n C.x C.b md_M_isDue_16 rfl (lv_at hl 0 rfl) ?_
      refine mf_gf C (ci := 4) (N := 20) rfl mi_M 5 (by decide) mt_540 (hP 0 _ rfl) (v := .ref (aa 2)) rfl md_M_isDue_17 ?_
      refine lv_iload_n C.x C.b md_M_isDue_20 rfl (lv_at hl 1 rfl) ?_
      refine mf_iv C (t := 2) rfl (hP 3 _ rfl) (by omega) (by decide) hu.2.2.1 md_M_isDue_21 ?_
      refine lv_if_ne (tgt := 41) C.x C.b md_M_isDue_22 (by decide) (fun h3 => ?_) (fun h3 => ?_)
      · skip
        refine lv_aload_n C.x C.b md_M_isDue_41 rfl (lv_at hl 0 rfl) ?_
        refine mf_gf C (ci := 4) (N := 20) rfl mi_M 15 (by decide) mt_550 (hP 0 _ rfl) (v := .int g.2.1) rfl md_M_isDue_42 ?_
        refine lv_aload_n C.x C.b md_M_isDue_45 rfl (lv_at hl 0 rfl) ?_
        refine mf_gf C (ci := 4) (N := 20) rfl mi_M 6 (by decide) mt_541 (hP 0 _ rfl) (v := .ref (aa 3)) rfl md_M_isDue_46 ?_
        refine lv_iload_n C.x C.b md_M_isDue_49 rfl (lv_at hl 1 rfl) ?_
        refine mf_iv C (t := 2) rfl (hP 4 _ rfl) (by omega) (by decide) hu.2.2.2.1 md_M_isDue_50 ?_
        refine lv_icmp_gt (tgt := 58) C.x C.b md_M_isDue_51 (by decide) (fun h4 => ?_) (fun h4 => ?_)
        · skip
          refine lv_iconst (v := 0) C.x C.b md_M_isDue_58 (by decide) ?_
          rw [show mf_bI (rf_isDue g.2.1 x.1) = 0 by first | (simp [mf_bI, rf_isDue, h1, h2, Int32.not_le.mp h2, h3, h4, Int32.not_le.mpr h4]; done) | (exfalso; simp_all; done)]
          exact mf_rz C.x C.b hH hr hlk rfl md_M_isDue_59
        · skip
          refine lv_iconst (v := 1) C.x C.b md_M_isDue_54 (by decide) ?_
          refine lv_goto (tgt := 59) C.x C.b md_M_isDue_55 (by decide) ?_
          rw [show mf_bI (rf_isDue g.2.1 x.1) = 1 by first | (simp [mf_bI, rf_isDue, h1, h2, Int32.not_le.mp h2, h3, h4, Int32.not_lt.mp h4]; done) | (exfalso; simp_all; done)]
          exact mf_rz C.x C.b hH hr hlk rfl md_M_isDue_59
      · skip
        refine lv_aload_n C.x C.b md_M_isDue_25 rfl (lv_at hl 0 rfl) ?_
        refine mf_gf C (ci := 4) (N := 20) rfl mi_M 15 (by decide) mt_550 (hP 0 _ rfl) (v := .int g.2.1) rfl md_M_isDue_26 ?_
        refine lv_aload_n C.x C.b md_M_isDue_29 rfl (lv_at hl 0 rfl) ?_
        refine mf_gf C (ci := 4) (N := 20) rfl mi_M 6 (by decide) mt_541 (hP 0 _ rfl) (v := .ref (aa 3)) rfl md_M_isDue_30 ?_
        refine lv_iload_n C.x C.b md_M_isDue_33 rfl (lv_at hl 1 rfl) ?_
        refine mf_iv C (t := 2) rfl (hP 4 _ rfl) (by omega) (by decide) hu.2.2.2.1 md_M_isDue_34 ?_
        refine lv_icmp_lt (tgt := 58) C.x C.b md_M_isDue_35 (by decide) (fun h5 => ?_) (fun h5 => ?_)
        · skip
          refine lv_iconst (v := 0) C.x C.b md_M_isDue_58 (by decide) ?_
          rw [show mf_bI (rf_isDue g.2.1 x.1) = 0 by first | (simp [mf_bI, rf_isDue, h1, h2, Int32.not_le.mp h2, h3, h5, Int32.not_le.mpr h5]; done) | (exfalso; simp_all; done)]
          exact mf_rz C.x C.b hH hr hlk rfl md_M_isDue_59
        · skip
          refine lv_goto (tgt := 54) C.x C.b md_M_isDue_38 (by decide) ?_
          refine lv_iconst (v := 1) C.x C.b md_M_isDue_54 (by decide) ?_
          refine lv_goto (tgt := 59) C.x C.b md_M_isDue_55 (by decide) ?_
          rw [show mf_bI (rf_isDue g.2.1 x.1) = 1 by first | (simp [mf_bI, rf_isDue, h1, h2, Int32.not_le.mp h2, h3, h5, Int32.not_lt.mp h5]; done) | (exfalso; simp_all; done)]
          exact mf_rz C.x C.b hH hr hlk rfl md_M_isDue_59
