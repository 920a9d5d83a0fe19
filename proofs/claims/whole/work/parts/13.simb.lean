/-! matching and stops, value for value -/
def mf_Sub (Z' Z : List mf_T) : Prop := Z'.length ≤ Z.length ∧ ∀ x ∈ Z', ∃ y ∈ Z, mf_id x.1 = mf_id y.1 ∧ x.2 = y.2
theorem mf_Sub.rf {Z : List mf_T} : mf_Sub Z Z := ⟨Nat.le_refl _, fun x h => ⟨x, h, rfl, rfl⟩⟩
theorem mf_Sub.tr {A B C : List mf_T} (h1 : mf_Sub A B) (h2 : mf_Sub B C) : mf_Sub A C := ⟨Nat.le_trans h1.1 h2.1, fun x h => by
  obtain ⟨y, a, b, c⟩ := h1.2 x h
  obtain ⟨z, d, e, f⟩ := h2.2 y a
  exact ⟨z, d, b.trans e, c.trans f⟩⟩
theorem mf_Sub.erase {Z : List mf_T} {j : Nat} : mf_Sub (Z.eraseIdx j) Z := ⟨(List.eraseIdx_sublist Z j).length_le, fun x h => ⟨x, List.eraseIdx_subset h, rfl, rfl⟩⟩
theorem mf_Sub.set {Z : List mf_T} {j : Nat} {x : mf_T} {y : mf_O} (hj : Z[j]? = some x) (hi : mf_id y = mf_id x.1) : mf_Sub (Z.set j (y, x.2)) Z := ⟨by rw [List.length_set]; exact Nat.le_refl _, fun z h => by
  rcases List.mem_or_eq_of_mem_set h with h | h
  · exact ⟨z, h, rfl, rfl⟩
  · rw [h]; exact ⟨x, List.mem_of_getElem? hj, hi, rfl⟩⟩
theorem mf_other_1 {s : Int32} (h : s = 0 ∨ s = 1) : 1 - s = mf_other s := by
  rcases h with rfl | rfl <;> decide
theorem mf_other_in {s : Int32} : mf_other s = 0 ∨ mf_other s = 1 := by
  unfold mf_other; split <;> simp
theorem mf_other_2 {s : Int32} (h : s = 0 ∨ s = 1) : mf_other (mf_other s) = s := by
  rcases h with rfl | rfl <;> decide
theorem mf_fit_eq {s p : Int32} {r : mf_O} (hs : s = 0 ∨ s = 1) (hr : mf_sd r = mf_other s) : mf_fit r p = rf_fits s p r := by
  unfold mf_fit rf_fits
  rw [hr, mf_other_2 hs]
  have h1 : ∀ a b : Int32, (decide (a = b) || decide (b < a)) = decide (b ≤ a) := by
    intro a b
    rw [Bool.eq_iff_iff]
    simp only [Bool.or_eq_true, decide_eq_true_eq, ← Int32.toInt_inj, Int32.lt_iff_toInt_lt, Int32.le_iff_toInt_le]
    omega
  have h2 : ∀ a b : Int32, (decide (a = b) || decide (a < b)) = decide (a ≤ b) := by
    intro a b
    rw [Bool.eq_iff_iff]
    simp only [Bool.or_eq_true, decide_eq_true_eq, ← Int32.toInt_inj, Int32.lt_iff_toInt_lt, Int32.le_iff_toInt_le]
    omega
  congr 1
  unfold mf_better
  by_cases h0 : s = 0
  · rw [if_pos h0, if_pos h0, h1]
  · rw [if_neg h0, if_neg h0, h2]
theorem mf_min_eq (a b : Int32) : mf_min a b = rf_min a b := by
  unfold mf_min rf_min
  by_cases h : a < b
  · rw [if_pos h, if_pos (Int32.le_iff_lt_or_eq.mpr (Or.inl h))]
  · rw [if_neg h]
    by_cases h2 : a ≤ b
    · rw [if_pos h2]; exact Int32.le_antisymm h2 (Int32.not_lt.mp h)
    · rw [if_neg h2]
theorem mf_le_of_lt {a b : Int32} (h : a < b) : a ≤ b := Int32.le_iff_lt_or_eq.mpr (Or.inl h)
theorem mf_sim_meet {Z : List mf_T} {L : List mf_O} {R : List mf_T} (h : mf_Bk Z L R) (c : mf_O) {j k : Nat} {y : mf_O} {t : Int32} (hj : Z[j]? = some (y, t)) (hk : R[k]? = some (y, t)) (met : Int32) (g : mf_G) :
    (mf_meet c j y (L, met, g)).1 = mf_setLf c (rf_meet (mf_id c) (mf_ow c) (mf_lf c) k (y, t) (R, met, g)).1 ∧ (mf_meet c j y (L, met, g)).2.2 = (rf_meet (mf_id c) (mf_ow c) (mf_lf c) k (y, t) (R, met, g)).2.2 ∧
    (0 ≤ g.2.1 → 0 ≤ (mf_meet c j y (L, met, g)).2.2.2.2.1) ∧ (mf_meet c j y (L, met, g)).2.2.2.1 ≤ g.1 + 1 ∧
    ∃ Z', mf_Bk Z' (mf_meet c j y (L, met, g)).2.1 (rf_meet (mf_id c) (mf_ow c) (mf_lf c) k (y, t) (R, met, g)).2.1 ∧ mf_Sub Z' Z := by
  have hy : mf_ok y := h.2.2.2.1 _ (List.mem_of_getElem? hj)
  unfold mf_meet rf_meet
  rw [mf_min_eq]
  by_cases ho : mf_ow y = mf_ow c
  · rw [if_pos ho, if_pos ho]
    exact ⟨rfl, rfl, fun h => h, Nat.le_succ _, Z.eraseIdx j, mf_bk_erase h hj hk, mf_Sub.erase⟩
  · rw [if_neg ho, if_neg ho]
    refine ⟨rfl, rfl, fun _ => mf_le_of_lt hy.2, Nat.le_refl _, ?_⟩
    by_cases hz : mf_lf y - rf_min (mf_lf c) (mf_lf y) = 0
    · simp only [hz, if_true]
      exact ⟨Z.eraseIdx j, mf_bk_erase h hj hk, mf_Sub.erase⟩
    · simp only [hz, if_false]
      exact ⟨Z.set j (mf_setLf y (mf_lf y - rf_min (mf_lf c) (mf_lf y)), t), mf_bk_set h hj hk rfl hy, mf_Sub.set hj rfl⟩
theorem mf_sim_match (p : Int32) : ∀ (f : Nat) (Z : List mf_T) (L : List mf_O) (R : List mf_T) (c : mf_O) (met : Int32) (g : mf_G), mf_Bk Z L R → (mf_sd c = 0 ∨ mf_sd c = 1) →
    (mf_match f p c (L, met, g)).1 = mf_setLf c (rf_match (mf_id c) (mf_ow c) (mf_sd c) p f (mf_lf c) (R, met, g)).1 ∧ (mf_match f p c (L, met, g)).2.2 = (rf_match (mf_id c) (mf_ow c) (mf_sd c) p f (mf_lf c) (R, met, g)).2.2 ∧
    (0 ≤ g.2.1 → 0 ≤ (mf_match f p c (L, met, g)).2.2.2.2.1) ∧ (mf_match f p c (L, met, g)).2.2.2.1 ≤ g.1 + f ∧
    ∃ Z', mf_Bk Z' (mf_match f p c (L, met, g)).2.1 (rf_match (mf_id c) (mf_ow c) (mf_sd c) p f (mf_lf c) (R, met, g)).2.1 ∧ mf_Sub Z' Z := by
  intro f
  induction f with
  | zero => intro Z L R c met g h hs; exact ⟨rfl, rfl, fun h => h, Nat.le_refl _, Z, h, mf_Sub.rf⟩
  | succ f ih =>
    intro Z L R c met g h hs
    unfold mf_match rf_match
    by_cases h0 : 0 < mf_lf c
    · rw [if_pos h0, if_pos h0, mf_other_1 hs]
      rcases mf_sim_first h (mf_other (mf_sd c)) with ⟨e1, e2⟩ | ⟨j, k, y, t, e1, e2, hj, hk⟩
      · simp only [e1, e2]
        exact ⟨by first | rfl | trivial, by first | rfl | trivial, fun h => h, Nat.le_add_right _ _, Z, h, mf_Sub.rf⟩
      · simp only [e1, e2]
        have hsy : mf_sd y = mf_other (mf_sd c) := mf_rests_sd ((mf_pick_in _ _ _).2 j y e1).2
        rw [mf_fit_eq hs hsy]
        by_cases hf : rf_fits (mf_sd c) p y = true
        · rw [if_pos hf, if_pos hf]
          obtain ⟨m1, m2, m3, m4, Z1, m5, m6⟩ := mf_sim_meet h c hj hk met g
          generalize mf_meet c j y (L, met, g) = a at m1 m2 m3 m4 m5 ⊢
          generalize rf_meet (mf_id c) (mf_ow c) (mf_lf c) k (y, t) (R, met, g) = b at m1 m2 m3 m4 m5 ⊢
          obtain ⟨a1, aL, am, ag⟩ := a
          obtain ⟨b1, bR, bm, bg⟩ := b
          simp only at m1 m2 m3 m4 m5 ⊢
          cases m2
          subst m1
          obtain ⟨i1, i2, i3, i4, Z2, i5, i6⟩ := ih Z1 aL bR (mf_setLf c b1) am ag m5 hs
          exact ⟨i1, i2, fun h => i3 (m3 h), by omega, Z2, i5, i6.tr m6⟩
        · rw [if_neg hf, if_neg hf]
          exact ⟨rfl, rfl, fun h => h, Nat.le_add_right _ _, Z, h, mf_Sub.rf⟩
    · rw [if_neg h0, if_neg h0]
      exact ⟨rfl, rfl, fun h => h, Nat.le_add_right _ _, Z, h, mf_Sub.rf⟩
theorem mf_sim_stops : ∀ (f : Nat) (Z : List mf_T) (L : List mf_O) (R : List mf_T) (clk due met : Int32) (g : mf_G), mf_Bk Z L R → 0 ≤ g.2.1 →
    (rf_stops f (R, clk, due, met, g)).2.1 = clk ∧ (mf_stops f (L, due, met, g)).2 = (rf_stops f (R, clk, due, met, g)).2.2 ∧ 0 ≤ (mf_stops f (L, due, met, g)).2.2.2.2.1 ∧ (mf_stops f (L, due, met, g)).2.2.2.1 ≤ g.1 + 41 * f ∧
    ∃ Z', mf_Bk Z' (mf_stops f (L, due, met, g)).1 (rf_stops f (R, clk, due, met, g)).1 ∧ mf_Sub Z' Z := by
  intro f
  induction f with
  | zero => intro Z L R clk due met g h hg; exact ⟨rfl, rfl, hg, Nat.le_refl _, Z, h, mf_Sub.rf⟩
  | succ f ih =>
    intro Z L R clk due met g h hg
    unfold mf_stops rf_stops
    rcases mf_sim_due h hg with ⟨e1, e2⟩ | ⟨j, k, y, t, e1, e2, hj, hk⟩
    · simp only [e1, e2]
      exact ⟨by first | rfl | trivial, by first | rfl | trivial, hg, Nat.le_add_right _ _, Z, h, mf_Sub.rf⟩
    · simp only [e1, e2]
      have hy : mf_ok y := h.2.2.2.1 _ (List.mem_of_getElem? hj)
      obtain ⟨m1, m2, m3, m4, Z1, m5, m6⟩ := mf_sim_match 0 41 (Z.eraseIdx j) (L.eraseIdx j) (rf_drop R k) y met g (mf_bk_erase h hj hk) hy.1
      generalize mf_match 41 0 y (L.eraseIdx j, met, g) = a at m1 m2 m3 m4 m5 ⊢
      generalize rf_match (mf_id y) (mf_ow y) (mf_sd y) 0 41 (mf_lf y) (rf_drop R k, met, g) = b at m1 m2 m3 m4 m5 ⊢
      obtain ⟨a1, aL, am, ag⟩ := a
      obtain ⟨b1, bR, bm, bg⟩ := b
      simp only at m1 m2 m3 m4 m5 ⊢
      cases m2
      obtain ⟨i1, i2, i3, i4, Z2, i5, i6⟩ := ih Z1 aL bR clk (due + 1) am ag m5 (m3 hg)
      exact ⟨i1, i2, i3, by omega, Z2, i5, (i6.tr m6).tr mf_Sub.erase⟩
theorem mf_sim_in {Z : List mf_T} {L : List mf_O} {R : List mf_T} (h : mf_Bk Z L R) (hl : Z.length ≤ 39) {c : mf_O} (hc : mf_ok c) (hid : ∀ x ∈ Z, mf_id x.1 ≠ mf_id c) {clk : Int32} (ht : ∀ x ∈ Z, x.2 ≤ clk) (hk : clk < clk + 1) (kind due met : Int32) {g : mf_G} (hg : 0 ≤ g.2.1)
    {m : Int32 × rf_M} (hm : m = if kind = 4 ∨ kind = 5 then (mf_lf c, R, met, g) else rf_match (mf_id c) (mf_ow c) (mf_sd c) (if kind = 1 then 0 else mf_pr c) 41 (mf_lf c) (R, met, g))
    {b : List mf_T × Int32} (hb : b = if (kind = 0 ∨ kind = 4 ∨ kind = 5) ∧ 0 < m.1 then rf_keep (mf_setLf c m.1) (m.2.1, clk) else (m.2.1, clk)) :
    (mf_comeIn c kind (L, due, met, g)).1 = mf_lf c - m.1 ∧ (mf_comeIn c kind (L, due, met, g)).2.2 = (rf_stops 40 (b.1, b.2, due, m.2.2)).2.2 ∧ 0 ≤ (mf_comeIn c kind (L, due, met, g)).2.2.2.2.2.1 ∧ (mf_comeIn c kind (L, due, met, g)).2.2.2.2.1 ≤ g.1 + 1681 ∧
    ((rf_stops 40 (b.1, b.2, due, m.2.2)).2.1 = clk ∨ (rf_stops 40 (b.1, b.2, due, m.2.2)).2.1 = clk + 1) ∧
    ∃ Z', mf_Bk Z' (mf_comeIn c kind (L, due, met, g)).2.1 (rf_stops 40 (b.1, b.2, due, m.2.2)).1 ∧ Z'.length ≤ 40 ∧ ∀ x ∈ Z', x.2 ≤ (rf_stops 40 (b.1, b.2, due, m.2.2)).2.1 := by
  have hA : ∃ a : mf_O × mf_M, a = (if kind = 4 ∨ kind = 5 then (c, L, met, g) else mf_match 41 (if kind = 1 then 0 else mf_pr c) c (L, met, g)) ∧ a.1 = mf_setLf c m.1 ∧ a.2.2 = m.2.2 ∧ 0 ≤ a.2.2.2.2.1 ∧ a.2.2.2.1 ≤ g.1 + 41 ∧ ∃ Z', mf_Bk Z' a.2.1 m.2.1 ∧ mf_Sub Z' Z := by
    by_cases hkd : kind = 4 ∨ kind = 5
    · rw [if_pos hkd] at hm
      rw [if_pos hkd]
      subst hm
      exact ⟨_, rfl, rfl, rfl, hg, Nat.le_add_right _ _, Z, h, mf_Sub.rf⟩
    · rw [if_neg hkd] at hm
      rw [if_neg hkd]
      obtain ⟨m1, m2, m3, m4, Z1, m5, m6⟩ := mf_sim_match (if kind = 1 then 0 else mf_pr c) 41 Z L R c met g h hc.1
      subst hm
      exact ⟨_, rfl, m1, m2, m3 hg, m4, Z1, m5, m6⟩
  obtain ⟨a, ea, a1, a2, a3, a4, Z1, hB1, hS1⟩ := hA
  unfold mf_comeIn
  simp only [← ea]
  obtain ⟨ac, aL, am, ag⟩ := a
  obtain ⟨mq, mR, mm, mg⟩ := m
  simp only at a1 a2 a3 a4 hB1 hb ⊢
  cases a2
  subst a1
  show mf_lf c - mq = mf_lf c - mq ∧ _
  refine ⟨rfl, ?_⟩
  have hbk : ∃ Z2, mf_Bk Z2 (if (kind = 0 ∨ kind = 4 ∨ kind = 5) ∧ 0 < mf_lf (mf_setLf c mq) then aL ++ [mf_setLf c mq] else aL) b.1 ∧ Z2.length ≤ 40 ∧ (∀ x ∈ Z2, x.2 ≤ b.2) ∧ (b.2 = clk ∨ b.2 = clk + 1) := by
    by_cases hc2 : (kind = 0 ∨ kind = 4 ∨ kind = 5) ∧ 0 < mq
    · rw [if_pos hc2] at hb
      rw [if_pos (show (kind = 0 ∨ kind = 4 ∨ kind = 5) ∧ 0 < mf_lf (mf_setLf c mq) from hc2)]
      subst hb
      refine ⟨Z1 ++ [(mf_setLf c mq, clk + 1)], mf_bk_push hB1 hc (fun x hx => ?_) (fun x hx => ?_), ?_, fun x hx => ?_, Or.inr rfl⟩
      · obtain ⟨y, hy, e1, e2⟩ := hS1.2 x hx
        rw [e1]; exact hid y hy
      · obtain ⟨y, hy, e1, e2⟩ := hS1.2 x hx
        rw [e2]; exact Int32.lt_of_le_of_lt (ht y hy) hk
      · rw [List.length_append]
        have := hS1.1
        simp
        omega
      · rcases List.mem_append.mp hx with hx | hx
        · obtain ⟨y, hy, e1, e2⟩ := hS1.2 x hx
          rw [e2]; exact mf_le_of_lt (Int32.lt_of_le_of_lt (ht y hy) hk)
        · rw [List.mem_singleton.mp hx]; exact Int32.le_refl _
    · rw [if_neg hc2] at hb
      rw [if_neg (show ¬ ((kind = 0 ∨ kind = 4 ∨ kind = 5) ∧ 0 < mf_lf (mf_setLf c mq)) from hc2)]
      subst hb
      refine ⟨Z1, hB1, by have := hS1.1; omega, fun x hx => ?_, Or.inl rfl⟩
      obtain ⟨y, hy, e1, e2⟩ := hS1.2 x hx
      rw [e2]; exact ht y hy
  obtain ⟨Z2, hB2, hl2, ht2, hb2⟩ := hbk
  generalize (if (kind = 0 ∨ kind = 4 ∨ kind = 5) ∧ 0 < mf_lf (mf_setLf c mq) then aL ++ [mf_setLf c mq] else aL) = L2 at hB2 ⊢
  obtain ⟨i1, i2, i3, i4, Z3, i5, i6⟩ := mf_sim_stops 40 Z2 L2 b.1 b.2 due am ag hB2 a3
  refine ⟨i2, i3, by omega, by rw [i1]; exact hb2, Z3, i5, by have := i6.1; omega, fun x hx => ?_⟩
  obtain ⟨y, hy, e1, e2⟩ := i6.2 x hx
  rw [e2, i1]; exact ht2 y hy
