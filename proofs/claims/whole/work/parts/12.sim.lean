/-! the class and the reference, value for value -/
theorem mf_pw {α : Type} {P : α → α → Prop} {l : List α} (h : l.Pairwise P) {i j : Nat} {a b : α} (hij : i < j) (hi : l[i]? = some a) (hj : l[j]? = some b) : P a b := by
  obtain ⟨h1, e1⟩ := List.getElem?_eq_some_iff.mp hi
  obtain ⟨h2, e2⟩ := List.getElem?_eq_some_iff.mp hj
  have := List.pairwise_iff_getElem.mp h i j h1 h2 hij
  rw [e1, e2] at this
  exact this
theorem mf_pick_in {α : Type} (ok : α → Bool) (lt : α → α → Bool) : ∀ l : List α, (mf_pick ok lt l = none → ∀ x ∈ l, ok x = false) ∧ ∀ j y, mf_pick ok lt l = some (j, y) → l[j]? = some y ∧ ok y = true := by
  refine mf_snoc ⟨fun _ x h => (List.not_mem_nil h).elim, fun j y h => by simp [mf_pick_nil] at h⟩ ?_
  intro l x ⟨h1, h2⟩
  rw [mf_pick_snoc]
  by_cases hc : (ok x && mf_cmp lt x (mf_pick ok lt l)) = true
  · rw [if_pos hc]
    refine ⟨fun h => (by cases h), fun j y h => ?_⟩
    cases h
    exact ⟨by rw [List.getElem?_append_right (Nat.le_refl _)]; simp, by cases hx : ok x <;> simp [hx] at hc ⊢⟩
  · rw [if_neg hc]
    refine ⟨fun h z hz => ?_, fun j y h => ?_⟩
    · rcases List.mem_append.mp hz with hz | hz
      · exact h1 h z hz
      · rw [List.mem_singleton.mp hz]
        rw [h] at hc
        cases hx : ok x with
        | false => rfl
        | true => simp [hx, mf_cmp] at hc
    · obtain ⟨a1, a2⟩ := h2 j y h
      exact ⟨by rw [List.getElem?_append_left (List.getElem?_eq_some_iff.mp a1).1]; exact a1, a2⟩
/-- an order that may be kept -/
def mf_ok (r : mf_O) : Prop := (mf_sd r = 0 ∨ mf_sd r = 1) ∧ 0 < mf_pr r
/-- the books stand for each other: Z has the class's orders, in their order, with the reference's times -/
def mf_Bk (Z : List mf_T) (L : List mf_O) (R : List mf_T) : Prop := L = Z.map (·.1) ∧ Z.Pairwise (fun a b => a.2 < b.2) ∧ R.Perm Z ∧ (∀ x ∈ Z, mf_ok x.1) ∧ Z.Pairwise (fun a b => mf_id a.1 ≠ mf_id b.1)
theorem mf_sim_gen {Z R : List mf_T} (hP : R.Perm Z) {ok : mf_O → Bool} {ltc : mf_O → mf_O → Bool} {ltr : mf_T → mf_T → Bool}
    (hu : ∀ j y t i x k, mf_pick ok ltc (Z.map (·.1)) = some (j, y) → Z[j]? = some (y, t) → mf_pick (fun x : mf_T => ok x.1) ltr R = some (k, x) → Z[i]? = some x → i = j) :
    (mf_pick ok ltc (Z.map (·.1)) = none ∧ mf_pick (fun x : mf_T => ok x.1) ltr R = none) ∨ ∃ j k y t, mf_pick ok ltc (Z.map (·.1)) = some (j, y) ∧ mf_pick (fun x : mf_T => ok x.1) ltr R = some (k, (y, t)) ∧ Z[j]? = some (y, t) ∧ R[k]? = some (y, t) := by
  obtain ⟨c1, c2⟩ := mf_pick_in ok ltc (Z.map (·.1))
  obtain ⟨r1, r2⟩ := mf_pick_in (fun x : mf_T => ok x.1) ltr R
  cases hc : mf_pick ok ltc (Z.map (·.1)) with
  | none =>
    refine Or.inl ⟨rfl, ?_⟩
    cases hr : mf_pick (fun x : mf_T => ok x.1) ltr R with
    | none => rfl
    | some kx =>
      obtain ⟨k, x⟩ := kx
      obtain ⟨a1, a2⟩ := r2 k x hr
      have hx : x ∈ Z := hP.mem_iff.mp (List.mem_of_getElem? a1)
      have := c1 hc x.1 (List.mem_map.mpr ⟨x, hx, rfl⟩)
      rw [this] at a2; cases a2
  | some jy =>
    obtain ⟨j, y⟩ := jy
    obtain ⟨a1, a2⟩ := c2 j y hc
    rw [List.getElem?_map] at a1
    obtain ⟨x0, b1, b2⟩ := Option.map_eq_some_iff.mp a1
    obtain ⟨y', t⟩ := x0
    cases b2
    have hm : (y', t) ∈ R := hP.mem_iff.mpr (List.mem_of_getElem? b1)
    cases hr : mf_pick (fun x : mf_T => ok x.1) ltr R with
    | none =>
      have h9 : ok y' = false := r1 hr (y', t) hm
      have a2' : ok y' = true := a2
      rw [h9] at a2'; cases a2'
    | some kx =>
      obtain ⟨k, x⟩ := kx
      obtain ⟨d1, d2⟩ := r2 k x hr
      obtain ⟨i, hi⟩ := List.getElem?_of_mem (hP.mem_iff.mp (List.mem_of_getElem? d1))
      have hij := hu j y' t i x k hc b1 hr hi
      subst hij
      cases hi.symm.trans b1
      exact Or.inr ⟨i, k, y', t, rfl, rfl, b1, d1⟩
theorem rf_before_tr {s : Int32} {a b c : mf_T} (ha : mf_sd a.1 = s) (hb : mf_sd b.1 = s) (h1 : rf_before a b = true) (h2 : rf_before b c = true) : rf_before a c = true := by
  unfold rf_before at *
  rw [ha] at *
  rw [hb] at h2
  by_cases hs : s = 0
  · simp only [hs, if_true] at *
    split at h1 <;> split at h2 <;> split <;> simp_all [Int32.lt_iff_toInt_lt] <;> omega
  · simp only [hs, if_false] at *
    split at h1 <;> split at h2 <;> split <;> simp_all [Int32.lt_iff_toInt_lt] <;> omega
theorem mf_ne_toInt {a b : Int32} : ¬ a = b ↔ a.toInt ≠ b.toInt := by
  rw [Ne, Int32.toInt_inj]
theorem rf_before_nt {s : Int32} {a b c : mf_T} (ha : mf_sd a.1 = s) (hb : mf_sd b.1 = s) (h1 : rf_before a b = false) (h2 : rf_before b c = false) : rf_before a c = false := by
  unfold rf_before at *
  rw [ha] at *
  rw [hb] at h2
  simp only [← Int32.toInt_inj] at *
  by_cases hs : s.toInt = (0 : Int32).toInt
  · simp only [hs, if_true] at *
    split at h1 <;> split at h2 <;> split <;> simp_all [Int32.le_iff_toInt_le] <;> omega
  · simp only [hs, if_false] at *
    split at h1 <;> split at h2 <;> split <;> simp_all [Int32.le_iff_toInt_le] <;> omega
theorem rf_before_ir {a : mf_T} : rf_before a a = false := by
  unfold rf_before; simp
theorem mf_rests_sd {r : mf_O} {s : Int32} (h : mf_rests r s = true) : mf_sd r = s := by
  unfold mf_rests at h
  simp at h
  exact h.2
theorem mf_sim_first {Z : List mf_T} {L : List mf_O} {R : List mf_T} (h : mf_Bk Z L R) (s : Int32) :
    (mf_first s L = none ∧ rf_first s R = none) ∨ ∃ j k y t, mf_first s L = some (j, y) ∧ rf_first s R = some (k, (y, t)) ∧ Z[j]? = some (y, t) ∧ R[k]? = some (y, t) := by
  obtain ⟨rfl, hso, hP, -, -⟩ := h
  refine mf_sim_gen hP (ok := fun r => mf_rests r s) (ltc := mf_lt s) (ltr := rf_before) ?_
  intro j y t i x k hc hj hr hi
  obtain ⟨c1, c2, c3, c4⟩ := (mf_pick_spec (ok := fun r => mf_rests r s) (lt := mf_lt s) (fun a b c _ _ _ h1 h2 => mf_better_tr h1 h2) (fun a b c _ _ _ h1 h2 => mf_better_nt h1 h2) (fun a _ => mf_better_ir) (Z.map (·.1))).2 j y hc
  obtain ⟨r1, r2, r3, r4⟩ := (mf_pick_spec (ok := fun x : mf_T => mf_rests x.1 s) (lt := rf_before) (fun a b c h1 h2 _ h3 h4 => rf_before_tr (mf_rests_sd h1) (mf_rests_sd h2) h3 h4) (fun a b c h1 h2 _ h3 h4 => rf_before_nt (mf_rests_sd h1) (mf_rests_sd h2) h3 h4) (fun a _ => rf_before_ir) R).2 k x hr
  have hm : (y, t) ∈ R := hP.mem_iff.mpr (List.mem_of_getElem? hj)
  have h1 : rf_before (y, t) x = false := r3 _ hm c2
  have h2 : mf_lt s x.1 y = false := c3 x.1 (List.mem_map.mpr ⟨x, List.mem_of_getElem? hi, rfl⟩) r2
  have hsx : mf_sd x.1 = s := mf_rests_sd r2
  have hsy : mf_sd y = s := mf_rests_sd c2
  have hpr : mf_pr x.1 = mf_pr y := by
    unfold rf_before at h1
    unfold mf_lt mf_better at h2
    rw [show mf_sd ((y, t) : mf_T).1 = s from hsy] at h1
    simp only [← Int32.toInt_inj] at *
    by_cases hs : s.toInt = (0 : Int32).toInt
    · simp only [hs, if_true] at *
      split at h1 <;> simp_all [Int32.le_iff_toInt_le] <;> omega
    · simp only [hs, if_false] at *
      split at h1 <;> simp_all [Int32.le_iff_toInt_le] <;> omega
  have ht : ¬ t < x.2 := by
    unfold rf_before at h1
    rw [if_pos hpr.symm] at h1
    simpa using h1
  rcases Nat.lt_trichotomy i j with hij | hij | hij
  · have h4 : mf_lt s y x.1 = true := c4 i x.1 hij (by rw [List.getElem?_map, hi]; rfl) r2
    unfold mf_lt at h4
    rw [hpr, mf_better_ir] at h4; cases h4
  · exact hij
  · exact absurd (mf_pw hso hij hj hi) ht
theorem mf_sim_find {Z : List mf_T} {L : List mf_O} {R : List mf_T} (h : mf_Bk Z L R) (a : Int32) :
    (mf_place a L = none ∧ rf_find a R = none) ∨ ∃ j k y t, mf_place a L = some (j, y) ∧ rf_find a R = some (k, (y, t)) ∧ Z[j]? = some (y, t) ∧ R[k]? = some (y, t) := by
  obtain ⟨rfl, hso, hP, -, hid⟩ := h
  refine mf_sim_gen hP (ok := fun r => decide (mf_id r = a)) (ltc := fun _ _ => false) (ltr := fun _ _ => true) ?_
  intro j y t i x k hc hj hr hi
  have h1 := (mf_pick_in _ _ _).2 j y hc
  have h2 := (mf_pick_in _ _ _).2 k x hr
  have e1 : mf_id y = a := by simpa using h1.2
  have e2 : mf_id x.1 = a := by simpa using h2.2
  rcases Nat.lt_trichotomy i j with hij | hij | hij
  · exact absurd (e2.trans e1.symm) (mf_pw hid hij hi hj)
  · exact hij
  · exact absurd (e1.trans e2.symm) (mf_pw hid hij hj hi)
theorem mf_due_eq {t : Int32} (ht : 0 ≤ t) : (fun r => mf_due r t) = rf_isDue t := by
  funext r
  unfold mf_due rf_isDue
  have : (!decide (t = 0)) = decide (0 < t) := by
    by_cases h : t = 0
    · simp [h]
    · have : 0 < t := Int32.lt_of_le_of_ne ht (Ne.symm h)
      simp [h, this]
  rw [this]
theorem mf_sim_due {Z : List mf_T} {L : List mf_O} {R : List mf_T} (h : mf_Bk Z L R) {a : Int32} (ha : 0 ≤ a) :
    (mf_dueAt a L = none ∧ rf_dueAt a R = none) ∨ ∃ j k y t, mf_dueAt a L = some (j, y) ∧ rf_dueAt a R = some (k, (y, t)) ∧ Z[j]? = some (y, t) ∧ R[k]? = some (y, t) := by
  obtain ⟨rfl, hso, hP, -, -⟩ := h
  unfold mf_dueAt
  rw [mf_due_eq ha]
  refine mf_sim_gen hP (ok := rf_isDue a) (ltc := fun _ _ => false) (ltr := fun a b => decide (a.2 < b.2)) ?_
  intro j y t i x k hc hj hr hi
  obtain ⟨c1, c2, c3, c4⟩ := (mf_pick_spec (ok := rf_isDue a) (lt := fun _ _ => false) (fun _ _ _ _ _ _ h _ => h) (fun _ _ _ _ _ _ h _ => h) (fun _ _ => rfl) (Z.map (·.1))).2 j y hc
  obtain ⟨r1, r2, r3, r4⟩ := (mf_pick_spec (ok := fun x : mf_T => rf_isDue a x.1) (lt := fun a b => decide (a.2 < b.2)) (fun a b c _ _ _ h1 h2 => by simp only [decide_eq_true_eq] at *; exact Int32.lt_trans h1 h2) (fun a b c _ _ _ h1 h2 => by simp only [decide_eq_false_iff_not, Int32.not_lt] at *; exact Int32.le_trans h2 h1) (fun a _ => by simp) R).2 k x hr
  have hm : (y, t) ∈ R := hP.mem_iff.mpr (List.mem_of_getElem? hj)
  have h1 : ¬ t < x.2 := by simpa using r3 _ hm c2
  rcases Nat.lt_trichotomy i j with hij | hij | hij
  · exact absurd (c4 i x.1 hij (by rw [List.getElem?_map, hi]; rfl) r2) (by simp)
  · exact hij
  · exact absurd (mf_pw hso hij hj hi) h1
-- changes of the books
theorem mf_perm_erase {α : Type} {l : List α} {k : Nat} {x : α} (h : l[k]? = some x) : l.Perm (x :: l.eraseIdx k) := by
  obtain ⟨h1, h2⟩ := List.getElem?_eq_some_iff.mp h
  rw [List.eraseIdx_eq_take_drop_succ]
  have e : l = l.take k ++ x :: l.drop (k + 1) := by
    rw [← h2, List.getElem_cons_drop]
    exact (List.take_append_drop k l).symm
  exact (List.Perm.of_eq e).trans List.perm_middle
theorem mf_perm_set {α : Type} {l : List α} {k : Nat} {x y : α} (h : l[k]? = some x) : (l.set k y).Perm (y :: l.eraseIdx k) := by
  have hk := (List.getElem?_eq_some_iff.mp h).1
  have := mf_perm_erase (l := l.set k y) (k := k) (x := y) (by rw [List.getElem?_set_self hk])
  rwa [List.eraseIdx_set_eq] at this
theorem mf_perm_drop {α : Type} {l : List α} {k : Nat} {x : α} (h : l[k]? = some x) : l.Perm (x :: rf_drop l k) := by
  have hk := (List.getElem?_eq_some_iff.mp h).1
  have hne : l ≠ [] := fun e => by rw [e] at hk; exact absurd hk (Nat.not_lt_zero _)
  have hz := List.getLast?_eq_some_getLast hne
  unfold rf_drop
  rw [hz]
  show l.Perm (x :: (l.set k (l.getLast hne)).dropLast)
  have hsplit : l = l.dropLast ++ [l.getLast hne] := (List.dropLast_concat_getLast hne).symm
  generalize l.getLast hne = z at hsplit hz
  generalize l.dropLast = a at hsplit
  subst hsplit
  by_cases hka : k < a.length
  · rw [List.set_append_left _ _ hka, List.dropLast_concat]
    rw [List.getElem?_append_left hka] at h
    refine (List.perm_append_singleton z a).trans ?_
    refine ((mf_perm_erase h).cons z).trans ?_
    refine (List.Perm.swap x z _).trans ?_
    exact (mf_perm_set (y := z) h).symm.cons x
  · have hk2 : k = a.length := by
      rw [List.length_append] at hk
      simp at hk
      omega
    subst hk2
    rw [List.getElem?_append_right (Nat.le_refl _)] at h
    simp at h
    subst h
    rw [List.set_append_right _ _ (Nat.le_refl _)]
    simp
theorem mf_map_erase {α β : Type} (f : α → β) (l : List α) (k : Nat) : (l.map f).eraseIdx k = (l.eraseIdx k).map f := by
  rw [List.eraseIdx_eq_take_drop_succ, List.eraseIdx_eq_take_drop_succ, List.map_append, List.map_take, List.map_drop]
theorem mf_bk_erase {Z : List mf_T} {L : List mf_O} {R : List mf_T} {j k : Nat} {x : mf_T} (h : mf_Bk Z L R) (hj : Z[j]? = some x) (hk : R[k]? = some x) : mf_Bk (Z.eraseIdx j) (L.eraseIdx j) (rf_drop R k) := by
  obtain ⟨rfl, hso, hP, ho, hid⟩ := h
  refine ⟨mf_map_erase _ _ _, hso.sublist (List.eraseIdx_sublist _ _), ?_, fun y hy => ho y (List.eraseIdx_subset hy), hid.sublist (List.eraseIdx_sublist _ _)⟩
  exact List.Perm.cons_inv (((mf_perm_drop hk).symm.trans hP).trans (mf_perm_erase hj))
theorem mf_pw_key {α κ : Type} {P : κ → κ → Prop} (f : α → κ) {l : List α} (h : l.Pairwise (fun a b => P (f a) (f b))) {j : Nat} {x y : α} (hj : l[j]? = some x) (e : f y = f x) : (l.set j y).Pairwise (fun a b => P (f a) (f b)) := by
  have h1 : (l.map f).Pairwise P := List.pairwise_map.mpr h
  have h2 : (l.set j y).map f = l.map f := by
    rw [List.map_set, e]
    obtain ⟨a, b⟩ := List.getElem?_eq_some_iff.mp hj
    rw [← b, ← List.getElem_map f (h := by rw [List.length_map]; exact a)]
    exact List.set_getElem_self _
  rw [← h2] at h1
  exact List.pairwise_map.mp h1
theorem mf_bk_set {Z : List mf_T} {L : List mf_O} {R : List mf_T} {j k : Nat} {x : mf_T} {y : mf_O} (h : mf_Bk Z L R) (hj : Z[j]? = some x) (hk : R[k]? = some x) (hi : mf_id y = mf_id x.1) (hy : mf_ok y) : mf_Bk (Z.set j (y, x.2)) (L.set j y) (R.set k (y, x.2)) := by
  obtain ⟨rfl, hso, hP, ho, hid⟩ := h
  refine ⟨by rw [List.map_set], mf_pw_key (fun a : mf_T => a.2) (P := fun a b => a < b) hso hj rfl, ?_, fun z hz => ?_, mf_pw_key (fun a : mf_T => mf_id a.1) (P := fun a b => a ≠ b) hid hj hi⟩
  · have h1 : (R.eraseIdx k).Perm (Z.eraseIdx j) := List.Perm.cons_inv (((mf_perm_erase hk).symm.trans hP).trans (mf_perm_erase hj))
    exact ((mf_perm_set hk).trans (h1.cons _)).trans (mf_perm_set hj).symm
  · rcases List.mem_or_eq_of_mem_set hz with hz | hz
    · exact ho z hz
    · rw [hz]; exact hy
theorem mf_bk_push {Z : List mf_T} {L : List mf_O} {R : List mf_T} {c : mf_O} {t : Int32} (h : mf_Bk Z L R) (hc : mf_ok c) (hi : ∀ x ∈ Z, mf_id x.1 ≠ mf_id c) (ht : ∀ x ∈ Z, x.2 < t) : mf_Bk (Z ++ [(c, t)]) (L ++ [c]) (R ++ [(c, t)]) := by
  obtain ⟨rfl, hso, hP, ho, hid⟩ := h
  refine ⟨by rw [List.map_append]; rfl, ?_, hP.append_right _, fun z hz => ?_, ?_⟩
  · refine List.pairwise_append.mpr ⟨hso, List.pairwise_singleton _ _, fun a ha b hb => ?_⟩
    rw [List.mem_singleton.mp hb]; exact ht a ha
  · rcases List.mem_append.mp hz with hz | hz
    · exact ho z hz
    · rw [List.mem_singleton.mp hz]; exact hc
  · refine List.pairwise_append.mpr ⟨hid, List.pairwise_singleton _ _, fun a ha b hb => ?_⟩
    rw [List.mem_singleton.mp hb]; exact hi a ha
