/-! the public calls, value for value -/
theorem mf_fold_add {α : Type} (f : α → Int32) : ∀ (l : List α) (a : Int32), l.foldl (fun a x => a + f x) a = a + mf_sum f l := by
  intro l
  induction l with
  | nil => intro a; simp [mf_sum]
  | cons x l ih =>
    intro a
    unfold mf_sum
    rw [List.foldl_cons, List.foldl_cons, ih, ih (0 + f x), Int32.zero_add, Int32.add_assoc]
theorem mf_sum_nil {α : Type} (f : α → Int32) : mf_sum f [] = 0 := rfl
theorem mf_sum_cons {α : Type} (f : α → Int32) (x : α) (l : List α) : mf_sum f (x :: l) = f x + mf_sum f l := by
  show (x :: l).foldl (fun a x => a + f x) 0 = _
  rw [List.foldl_cons, mf_fold_add, Int32.zero_add]
theorem mf_sum_append {α : Type} (f : α → Int32) (a b : List α) : mf_sum f (a ++ b) = mf_sum f a + mf_sum f b := by
  show (a ++ b).foldl (fun a x => a + f x) 0 = _
  rw [List.foldl_append, mf_fold_add]; rfl
theorem mf_sum_snoc {α : Type} (f : α → Int32) (l : List α) (x : α) : mf_sum f (l ++ [x]) = mf_sum f l + f x := by
  rw [mf_sum_append, mf_sum_cons, mf_sum_nil, Int32.add_zero]
theorem mf_sum_map {α β : Type} (f : β → Int32) (g : α → β) (l : List α) : mf_sum f (l.map g) = mf_sum (fun x => f (g x)) l := by
  induction l with
  | nil => rfl
  | cons x l ih => rw [List.map_cons, mf_sum_cons, mf_sum_cons, ih]
theorem mf_sum_perm {α : Type} (f : α → Int32) {a b : List α} (h : a.Perm b) : mf_sum f a = mf_sum f b := by
  induction h with
  | nil => rfl
  | cons x _ ih => rw [mf_sum_cons, mf_sum_cons, ih]
  | swap x y l => rw [mf_sum_cons, mf_sum_cons, mf_sum_cons, mf_sum_cons, ← Int32.add_assoc, ← Int32.add_assoc, Int32.add_comm (f x)]
  | trans _ _ h1 h2 => exact h1.trans h2
theorem mf_sum_congr {α : Type} {f g : α → Int32} {l : List α} (h : ∀ x ∈ l, f x = g x) : mf_sum f l = mf_sum g l := by
  induction l with
  | nil => rfl
  | cons x l ih => rw [mf_sum_cons, mf_sum_cons, h x List.mem_cons_self, ih (fun y hy => h y (List.mem_cons_of_mem _ hy))]
theorem mf_sum_zero {α : Type} {f : α → Int32} {l : List α} (h : ∀ x ∈ l, f x = 0) : mf_sum f l = 0 := by
  induction l with
  | nil => rfl
  | cons x l ih => rw [mf_sum_cons, h x List.mem_cons_self, ih (fun y hy => h y (List.mem_cons_of_mem _ hy)), Int32.add_zero]
/-- a sum over the class's orders is the sum over the reference's -/
theorem mf_sim_sum {Z : List mf_T} {L : List mf_O} {R : List mf_T} (h : mf_Bk Z L R) {f g : mf_O → Int32} (hf : ∀ x ∈ Z, f x.1 = g x.1) : mf_sum f L = mf_sum (fun x : mf_T => g x.1) R := by
  obtain ⟨rfl, -, hP, -, -⟩ := h
  rw [mf_sum_map, mf_sum_perm _ hP]
  exact mf_sum_congr hf
theorem mf_bk_len {Z : List mf_T} {L : List mf_O} {R : List mf_T} (h : mf_Bk Z L R) : L.length = Z.length ∧ R.length = Z.length := by
  obtain ⟨rfl, -, hP, -, -⟩ := h
  exact ⟨List.length_map _, hP.length_eq⟩
def mf_Sim (n : Nat) (st : mf_S) (rst : rf_S) : Prop := (∃ Z, mf_Bk Z st.1 rst.1 ∧ Z.length ≤ 40 ∧ ∀ x ∈ Z, x.2 ≤ rst.2.1) ∧ (∃ c, c ≤ n ∧ rst.2.1 = nI c) ∧ st.2 = rst.2.2 ∧ 0 ≤ st.2.2.2.2.1 ∧ st.2.2.2.1 ≤ 1681 * n
theorem mf_Sim.up {n : Nat} {st : mf_S} {rst : rf_S} (h : mf_Sim n st rst) : mf_Sim (n + 1) st rst := by
  obtain ⟨h1, ⟨c, h2, h3⟩, h4, h5, h6⟩ := h
  exact ⟨h1, ⟨c, by omega, h3⟩, h4, h5, by omega⟩
theorem mf_erase_ne {Z : List mf_T} {j : Nat} {x : mf_T} (h : Z.Pairwise (fun a b => mf_id a.1 ≠ mf_id b.1)) (hj : Z[j]? = some x) : ∀ z ∈ Z.eraseIdx j, mf_id z.1 ≠ mf_id x.1 := by
  have h1 := (List.Perm.pairwise_iff (R := fun a b : mf_T => mf_id a.1 ≠ mf_id b.1) (fun h => Ne.symm h) (mf_perm_erase hj)).mp h
  intro z hz
  exact Ne.symm ((List.pairwise_cons.mp h1).1 z hz)
theorem mf_erase_len {α : Type} {l : List α} {j : Nat} {x : α} (hj : l[j]? = some x) : (l.eraseIdx j).length + 1 = l.length := by
  have := (mf_perm_erase hj).length_eq
  rw [List.length_cons] at this
  omega
theorem mf_refused_eq {Z : List mf_T} {L : List mf_O} {R : List mf_T} (h : mf_Bk Z L R) {c : mf_O} (hs : mf_sd c = 0 ∨ mf_sd c = 1) (kind : Int32) : mf_refused c kind L = rf_refused (mf_ow c) (mf_sd c) kind (mf_pr c) (mf_lf c) R := by
  unfold mf_refused rf_refused
  by_cases h3 : kind = 3
  · rw [if_pos h3, if_pos h3]
    unfold rf_within
    rw [mf_sim_sum h (f := fun r => if mf_rests r (mf_other (mf_sd c)) && (mf_fit r (mf_pr c) && !decide (mf_ow r = mf_ow c)) then mf_lf r else 0) (g := fun r => if decide (mf_wt r = 0) && (!decide (mf_sd r = mf_sd c) && (!decide (mf_ow r = mf_ow c) && rf_fits (mf_sd c) (mf_pr c) r)) then mf_lf r else 0)]
    intro x hx
    obtain ⟨ho, -⟩ := h.2.2.2.1 x hx
    have hsd : mf_sd x.1 = mf_other (mf_sd c) ↔ ¬ mf_sd x.1 = mf_sd c := by
      unfold mf_other
      rcases ho with ho | ho <;> rcases hs with hs | hs <;> rw [ho, hs] <;> decide
    have hb : (mf_rests x.1 (mf_other (mf_sd c)) && (mf_fit x.1 (mf_pr c) && !decide (mf_ow x.1 = mf_ow c))) = (decide (mf_wt x.1 = 0) && (!decide (mf_sd x.1 = mf_sd c) && (!decide (mf_ow x.1 = mf_ow c) && rf_fits (mf_sd c) (mf_pr c) x.1))) := by
      unfold mf_rests
      by_cases e : mf_sd x.1 = mf_other (mf_sd c)
      · have e2 := hsd.mp e
        rw [mf_fit_eq hs e, decide_eq_true e, decide_eq_false e2]
        simp only [Bool.and_true, Bool.not_false, Bool.true_and]
        rw [Bool.and_comm (rf_fits _ _ _)]
      · have e2 : mf_sd x.1 = mf_sd c := Classical.byContradiction fun z => e (hsd.mpr z)
        rw [decide_eq_false e, decide_eq_true e2]
        simp only [Bool.and_false, Bool.not_true, Bool.false_and]
    show (if _ then _ else _) = (if _ then _ else _)
    rw [hb]
  · rw [if_neg h3, if_neg h3]
    by_cases h4 : kind = 4
    · rw [if_pos h4, mf_other_1 hs]
      simp only [h4, decide_true, Bool.true_and]
      rcases mf_sim_first h (mf_other (mf_sd c)) with ⟨e1, e2⟩ | ⟨j, k, y, t, e1, e2, hj, hk⟩
      · rw [e1, e2]
      · rw [e1, e2]
        exact mf_fit_eq hs (mf_rests_sd ((mf_pick_in _ _ _).2 j y e1).2)
    · rw [if_neg h4]
      simp [h4]
theorem mf_kind_in {h : Int32} (hk : mf_kind h ≤ 5) : mf_kind h = 0 ∨ mf_kind h = 1 ∨ mf_kind h = 2 ∨ mf_kind h = 3 ∨ mf_kind h = 4 ∨ mf_kind h = 5 := by
  obtain ⟨j, hj, e⟩ := pk_andE (h >>> 1) (m := 7) 3 (by decide)
  have e' : mf_kind h = nI j := e
  rw [e'] at hk ⊢
  match j, hj with
  | 0, _ => decide
  | 1, _ => decide
  | 2, _ => decide
  | 3, _ => decide
  | 4, _ => decide
  | 5, _ => decide
  | 6, _ => exact absurd hk (by decide)
  | 7, _ => exact absurd hk (by decide)
theorem mf_and1_in (h : Int32) : h &&& 1 = 0 ∨ h &&& 1 = 1 := by
  obtain ⟨j, hj, e⟩ := pk_andE h (m := 1) 1 (by decide)
  rw [e]
  match j, hj with
  | 0, _ => decide
  | 1, _ => decide
theorem mf_lt_succ {c n : Nat} (hn : n < 1000000) (hc : c ≤ n) : nI c < nI c + 1 := by
  rw [nI_1]; exact nI_lt (by omega) (by omega)
theorem mf_sim_fin {n : Nat} (hn : n < 1000000) {clk : Int32} {c : Nat} (hc : c ≤ n) (ec : clk = nI c) {x : Int32} (h : x = clk ∨ x = clk + 1) : ∃ c, c ≤ n + 1 ∧ x = nI c := by
  rcases h with h | h
  · exact ⟨c, by omega, h.trans ec⟩
  · exact ⟨c + 1, by omega, by rw [h, ec, nI_1]⟩
theorem mf_pos_of {q : Int32} (h : 1 ≤ q) : 0 < q := by
  rw [Int32.le_iff_toInt_le] at h
  rw [Int32.lt_iff_toInt_lt]
  have h1 : (1 : Int32).toInt = 1 := by decide
  have h0 : (0 : Int32).toInt = 0 := by decide
  omega
theorem mf_sim_submit {n : Nat} {st : mf_S} {rst : rf_S} (hn : n < 1000000) (h : mf_Sim n st rst) (i hw p q : Int32) : (mf_submit i hw p q st).1 = (rf_submit i hw p q rst).1 ∧ mf_Sim (n + 1) (mf_submit i hw p q st).2 (rf_submit i hw p q rst).2 := by
  have hup := h.up
  obtain ⟨L, due, met, g⟩ := st
  obtain ⟨R, clk, due', met', g'⟩ := rst
  obtain ⟨⟨Z, hB, hl, ht⟩, ⟨c, hc, ec⟩, h4, h5, h6⟩ := h
  simp only at hB ht ec h4 h5 h6
  cases h4
  unfold mf_submit rf_submit
  by_cases hgood : (mf_howOk hw && (mf_prOk p && mf_qtOk q)) = true
  · rw [if_pos hgood, if_pos hgood]
    simp only [Bool.and_eq_true, mf_howOk, mf_prOk, mf_qtOk, decide_eq_true_eq] at hgood
    obtain ⟨⟨-, -, hkd5⟩, ⟨hp1, -⟩, hq1, -⟩ := hgood
    obtain ⟨hL, hR⟩ := mf_bk_len hB
    have hs : mf_sd (mf_order i hw p q) = 0 ∨ mf_sd (mf_order i hw p q) = 1 := mf_and1_in hw
    have href : mf_refused (mf_order i hw p q) (mf_kind hw) L = rf_refused (hw >>> 4) (hw &&& 1) (mf_kind hw) p q R := mf_refused_eq hB hs (mf_kind hw)
    have hlen : decide (40 ≤ L.length) = decide (R.length = 40) := by
      rw [hL, hR]
      by_cases e : Z.length = 40
      · simp [e]
      · rw [decide_eq_false (by omega), decide_eq_false e]
    simp only [href, hlen]
    rcases mf_sim_find hB i with ⟨e1, e2⟩ | ⟨j, k, y, t, e1, e2, hj, hk⟩
    · simp only [e1, e2, Option.isSome_none, Bool.false_or]
      by_cases hrf : (decide (R.length = 40) || rf_refused (hw >>> 4) (hw &&& 1) (mf_kind hw) p q R) = true
      · rw [if_pos hrf, if_pos hrf]
        exact ⟨by first | rfl | trivial, hup⟩
      · rw [if_neg hrf, if_neg hrf]
        have hl39 : Z.length ≤ 39 := by
          have : ¬ R.length = 40 := fun e => hrf (by simp [e])
          omega
        have hid : ∀ x ∈ Z, mf_id x.1 ≠ mf_id (mf_order i hw p q) := by
          intro x hx hx2
          have := (mf_pick_in _ _ _).1 e1 x.1 (by rw [hB.1]; exact List.mem_map.mpr ⟨x, hx, rfl⟩)
          simp at this
          exact this hx2
        have hclk : clk < clk + 1 := by rw [ec]; exact mf_lt_succ hn hc
        have hm' : (if mf_kind hw < 4 then rf_match i (hw >>> 4) (hw &&& 1) (if mf_kind hw = 1 then 0 else p) 41 q (R, met, g) else (q, R, met, g)) = if mf_kind hw = 4 ∨ mf_kind hw = 5 then (mf_lf (mf_order i hw p q), R, met, g) else rf_match (mf_id (mf_order i hw p q)) (mf_ow (mf_order i hw p q)) (mf_sd (mf_order i hw p q)) (if mf_kind hw = 1 then 0 else mf_pr (mf_order i hw p q)) 41 (mf_lf (mf_order i hw p q)) (R, met, g) := by
          rcases mf_kind_in hkd5 with e | e | e | e | e | e <;> rw [e] <;> rfl
        generalize hm : (if mf_kind hw < 4 then rf_match i (hw >>> 4) (hw &&& 1) (if mf_kind hw = 1 then 0 else p) 41 q (R, met, g) else (q, R, met, g)) = m at hm' ⊢
        have hin2 := mf_sim_in hB hl39 (c := mf_order i hw p q) ⟨hs, mf_pos_of hp1⟩ hid ht hclk (mf_kind hw) due met h5 hm' (b := if 3 < mf_kind hw ∨ (mf_kind hw = 0 ∧ 0 < m.1) then rf_keep (i, hw >>> 4, hw &&& 1, mf_bI (decide (mf_kind hw = 5)), p, m.1) (m.2.1, clk) else (m.2.1, clk)) (by
          have hpos : mf_kind hw = 4 ∨ mf_kind hw = 5 → 0 < m.1 := by
            intro e
            rw [← hm, if_neg (by rcases e with e | e <;> rw [e] <;> decide)]
            exact mf_pos_of hq1
          have hiff : (3 < mf_kind hw ∨ (mf_kind hw = 0 ∧ 0 < m.1)) ↔ ((mf_kind hw = 0 ∨ mf_kind hw = 4 ∨ mf_kind hw = 5) ∧ 0 < m.1) := by
            rcases mf_kind_in hkd5 with e | e | e | e | e | e
            · rw [e]; simp <;> decide
            · rw [e]; simp <;> decide
            · rw [e]; simp <;> decide
            · rw [e]; simp
            · have := hpos (Or.inl e); rw [e]; simp [this] <;> decide
            · have := hpos (Or.inr e); rw [e]; simp [this] <;> decide
          by_cases hcc : (mf_kind hw = 0 ∨ mf_kind hw = 4 ∨ mf_kind hw = 5) ∧ 0 < m.1
          · rw [if_pos hcc, if_pos (hiff.mpr hcc)]; rfl
          · rw [if_neg hcc, if_neg (fun z => hcc (hiff.mp z))])
        obtain ⟨q1, q2, q3, q4, q5, Z', q6, q7, q8⟩ := hin2
        refine ⟨?_, ⟨Z', q6, q7, q8⟩, mf_sim_fin hn hc ec q5, q2, q3, ?_⟩
        · show ((0 : Nat), _) = ((0 : Nat), _)
          rw [q1]; rfl
        · show (mf_comeIn _ _ _).2.2.2.2.1 ≤ _
          omega
    · simp only [e1, e2, Option.isSome_some, Bool.true_or, if_true]
      exact ⟨by first | rfl | trivial, hup⟩
  · rw [if_neg hgood, if_neg hgood]
    exact ⟨by first | rfl | trivial, hup⟩
theorem mf_sim_cancel {n : Nat} {st : mf_S} {rst : rf_S} (h : mf_Sim n st rst) (i : Int32) : (mf_cancel i st).1 = (rf_cancel i rst).1 ∧ mf_Sim (n + 1) (mf_cancel i st).2 (rf_cancel i rst).2 := by
  have hup := h.up
  obtain ⟨⟨Z, hB, hl, ht⟩, h2, h3, h5, h6⟩ := h
  unfold mf_cancel rf_cancel
  rcases mf_sim_find hB i with ⟨e1, e2⟩ | ⟨j, k, y, t, e1, e2, hj, hk⟩
  · rw [e1, e2]; exact ⟨by first | rfl | trivial, hup⟩
  · rw [e1, e2]
    exact ⟨rfl, ⟨Z.eraseIdx j, mf_bk_erase hB hj hk, by have := mf_erase_len hj; omega, fun x hx => ht x (List.eraseIdx_subset hx)⟩, hup.2.1, h3, h5, hup.2.2.2.2⟩
theorem mf_sim_amend {n : Nat} {st : mf_S} {rst : rf_S} (hn : n < 1000000) (h : mf_Sim n st rst) (i p q : Int32) : (mf_amend i p q st).1 = (rf_amend i p q rst).1 ∧ mf_Sim (n + 1) (mf_amend i p q st).2 (rf_amend i p q rst).2 := by
  have hup := h.up
  obtain ⟨L, due, met, g⟩ := st
  obtain ⟨R, clk, due', met', g'⟩ := rst
  obtain ⟨⟨Z, hB, hl, ht⟩, ⟨c, hc, ec⟩, h4, h5, h6⟩ := h
  simp only at hB ht ec h4 h5 h6
  cases h4
  unfold mf_amend rf_amend
  by_cases hgood : (mf_prOk p && mf_qtOk q) = true
  · rw [if_pos hgood, if_pos hgood]
    simp only [Bool.and_eq_true, mf_prOk, mf_qtOk, decide_eq_true_eq] at hgood
    obtain ⟨⟨hp1, -⟩, hq1, -⟩ := hgood
    rcases mf_sim_find hB i with ⟨e1, e2⟩ | ⟨j, k, y, t, e1, e2, hj, hk⟩
    · simp only [e1, e2]; exact ⟨by first | rfl | trivial, hup⟩
    · simp only [e1, e2]
      have hy : mf_ok y := hB.2.2.2.1 _ (List.mem_of_getElem? hj)
      have hyi : mf_id y = i := by simpa using ((mf_pick_in _ _ _).2 j y e1).2
      by_cases hst : mf_wt y = 0 ∧ p = mf_pr y ∧ q ≤ mf_lf y
      · rw [if_pos hst, if_pos ⟨hst.1, hst.2.1.symm, hst.2.2⟩]
        refine ⟨rfl, ⟨Z.set j (mf_setLf y q, t), mf_bk_set hB hj hk rfl hy, by rw [List.length_set]; exact hl, fun x hx => ?_⟩, hup.2.1, rfl, h5, hup.2.2.2.2⟩
        rcases List.mem_or_eq_of_mem_set hx with hx | hx
        · exact ht x hx
        · rw [hx]; exact ht (y, t) (List.mem_of_getElem? hj)
      · rw [if_neg hst, if_neg (show ¬ (mf_wt y = 0 ∧ mf_pr y = p ∧ q ≤ mf_lf y) from fun z => hst ⟨z.1, z.2.1.symm, z.2.2⟩)]
        have hclk : clk < clk + 1 := by rw [ec]; exact mf_lt_succ hn hc
        have hm' : (if mf_wt y = 0 then rf_match i (mf_ow y) (mf_sd y) p 41 q (rf_drop R k, met, g) else (q, rf_drop R k, met, g)) = if (if mf_wt y = 0 then (0 : Int32) else 5) = 4 ∨ (if mf_wt y = 0 then (0 : Int32) else 5) = 5 then (mf_lf (mf_setPL y p q), rf_drop R k, met, g) else rf_match (mf_id (mf_setPL y p q)) (mf_ow (mf_setPL y p q)) (mf_sd (mf_setPL y p q)) (if (if mf_wt y = 0 then (0 : Int32) else 5) = 1 then 0 else mf_pr (mf_setPL y p q)) 41 (mf_lf (mf_setPL y p q)) (rf_drop R k, met, g) := by
          by_cases hw : mf_wt y = 0
          · rw [if_pos hw, if_pos hw, ← hyi]; rfl
          · rw [if_neg hw, if_neg hw]; rfl
        generalize hm : (if mf_wt y = 0 then rf_match i (mf_ow y) (mf_sd y) p 41 q (rf_drop R k, met, g) else (q, rf_drop R k, met, g)) = m at hm' ⊢
        have hin2 := mf_sim_in (mf_bk_erase hB hj hk) (by have := mf_erase_len hj; omega) (c := mf_setPL y p q) ⟨hy.1, mf_pos_of hp1⟩ (fun x hx => mf_erase_ne hB.2.2.2.2 hj x hx) (fun x hx => ht x (List.eraseIdx_subset hx)) hclk (if mf_wt y = 0 then 0 else 5) due met h5 hm' (b := if 0 < m.1 then rf_keep (i, mf_ow y, mf_sd y, mf_wt y, p, m.1) (m.2.1, clk) else (m.2.1, clk)) (by
          have hiff : 0 < m.1 ↔ (((if mf_wt y = 0 then (0 : Int32) else 5) = 0 ∨ (if mf_wt y = 0 then (0 : Int32) else 5) = 4 ∨ (if mf_wt y = 0 then (0 : Int32) else 5) = 5) ∧ 0 < m.1) := by
            by_cases hw : mf_wt y = 0
            · simp [hw]
            · simp [hw]
          by_cases hcc : 0 < m.1
          · rw [if_pos hcc, if_pos (hiff.mp hcc), ← hyi]; rfl
          · rw [if_neg hcc, if_neg (fun z => hcc z.2)])
        obtain ⟨q1, q2, q3, q4, q5, Z', q6, q7, q8⟩ := hin2
        refine ⟨?_, ⟨Z', q6, q7, q8⟩, mf_sim_fin hn hc ec q5, q2, q3, ?_⟩
        · show ((0 : Nat), _) = ((0 : Nat), _)
          rw [q1]; rfl
        · show (mf_comeIn _ _ _).2.2.2.2.1 ≤ _
          omega
  · rw [if_neg hgood, if_neg hgood]
    exact ⟨by first | rfl | trivial, hup⟩
-- withdraw
theorem mf_wd_eq (o : Int32) : ∀ (k : Nat) (L : List mf_O), k ≤ L.length → mf_wd o k L = (L.take k).filter (fun r => !decide (mf_ow r = o)) ++ L.drop k := by
  intro k
  induction k with
  | zero => intro L _; rfl
  | succ k ih =>
    intro L hk
    unfold mf_wd
    have hk' : k < L.length := hk
    have e : L[k]? = some L[k] := List.getElem?_eq_getElem hk'
    rw [e]
    simp only
    rw [List.take_succ, e, List.filter_append]
    by_cases ho : mf_ow L[k] = o
    · rw [if_pos ho, ih _ (by have := mf_erase_len e; omega)]
      have h1 : (L.eraseIdx k).take k = L.take k := by
        rw [List.eraseIdx_eq_take_drop_succ, List.take_append_of_le_length (by rw [List.length_take]; omega), List.take_take, Nat.min_self]
      have h2 : (L.eraseIdx k).drop k = L.drop (k + 1) := by
        rw [List.eraseIdx_eq_take_drop_succ, List.drop_append_of_le_length (by rw [List.length_take]; omega)]
        rw [List.drop_eq_nil_of_le (by rw [List.length_take]; omega)]; rfl
      rw [h1, h2]
      simp [ho]
    · rw [if_neg ho, ih _ (by omega)]
      rw [← List.getElem_cons_drop hk']
      simp [ho]
theorem rf_wd_eq (o : Int32) : ∀ (k : Nat) (R : List mf_T) (m : Int32), k ≤ R.length → (rf_wd o k R m).1.Perm ((R.take k).filter (fun x => !decide (mf_ow x.1 = o)) ++ R.drop k) ∧ (rf_wd o k R m).2 = m + mf_sum (fun x : mf_T => if mf_ow x.1 = o then 1 else 0) (R.take k) := by
  intro k
  induction k with
  | zero => intro R m _; exact ⟨List.Perm.refl _, by simp [rf_wd, mf_sum]⟩
  | succ k ih =>
    intro R m hk
    unfold rf_wd
    have hk' : k < R.length := hk
    have e : R[k]? = some R[k] := List.getElem?_eq_getElem hk'
    rw [e]
    simp only
    rw [List.take_succ, e, List.filter_append]
    have hne : R ≠ [] := fun z => by rw [z] at hk'; exact absurd hk' (Nat.not_lt_zero _)
    by_cases ho : mf_ow R[k].1 = o
    · rw [if_pos ho]
      have hd : rf_drop R k = (R.set k (R.getLast hne)).dropLast := by
        unfold rf_drop; rw [List.getLast?_eq_some_getLast hne]
      have hlen : (rf_drop R k).length = R.length - 1 := by rw [hd, List.length_dropLast, List.length_set]
      have h1 : (rf_drop R k).take k = R.take k := by
        rw [hd, List.dropLast_eq_take, List.take_take, List.length_set, Nat.min_eq_left (by omega), List.take_set_of_le (Nat.le_refl _)]
      have h2 : (rf_drop R k).Perm (R.take k ++ R.drop (k + 1)) := by
        have a := (mf_perm_drop e).symm.trans (mf_perm_erase e)
        rw [List.eraseIdx_eq_take_drop_succ] at a
        exact a.cons_inv
      have h3 : ((rf_drop R k).drop k).Perm (R.drop (k + 1)) := by
        have a : ((rf_drop R k).take k ++ (rf_drop R k).drop k).Perm (R.take k ++ R.drop (k + 1)) := by rw [List.take_append_drop]; exact h2
        rw [h1] at a
        exact (List.perm_append_left_iff _).mp a
      obtain ⟨i1, i2⟩ := ih (rf_drop R k) (m + 1) (by omega)
      rw [h1] at i1 i2
      refine ⟨?_, ?_⟩
      · have : (Option.some R[k]).toList.filter (fun x : mf_T => !decide (mf_ow x.1 = o)) = [] := by simp [ho]
        rw [this, List.append_nil]
        exact i1.trans (h3.append_left _)
      · rw [i2]
        show _ = m + mf_sum _ (R.take k ++ [R[k]])
        rw [mf_sum_snoc, if_pos ho, Int32.add_assoc, Int32.add_comm 1]
    · rw [if_neg ho]
      obtain ⟨i1, i2⟩ := ih R m (by omega)
      refine ⟨?_, ?_⟩
      · have : (Option.some R[k]).toList.filter (fun x : mf_T => !decide (mf_ow x.1 = o)) = [R[k]] := by simp [ho]
        rw [this, List.append_assoc]
        rw [← List.getElem_cons_drop hk'] at i1
        exact i1
      · rw [i2]
        show _ = m + mf_sum _ (R.take k ++ [R[k]])
        rw [mf_sum_snoc, if_neg ho, Int32.add_zero]
theorem mf_sub2 (a b : Int32) : (a + 1) - (b + 1) = a - b := by
  rw [Int32.sub_eq_add_neg, Int32.neg_add, Int32.sub_eq_add_neg (-b), Int32.add_comm (-b), ← Int32.add_assoc, Int32.add_assoc a, show (1 : Int32) + -1 = 0 by decide, Int32.add_zero, ← Int32.sub_eq_add_neg]
theorem mf_cnt_len (o : Int32) : ∀ R : List mf_T, nI R.length - nI (R.filter (fun x => !decide (mf_ow x.1 = o))).length = mf_sum (fun x : mf_T => if mf_ow x.1 = o then 1 else 0) R := by
  refine mf_snoc (show nI 0 - nI 0 = 0 by decide) ?_
  intro l x ih
  rw [mf_sum_snoc, ← ih, List.filter_append, List.length_append, List.length_append]
  by_cases ho : mf_ow x.1 = o
  · simp only [ho, decide_true, Bool.not_true, List.filter_cons, List.filter_nil, if_true, Bool.false_eq_true, if_false, List.length_nil, List.length_cons, Nat.add_zero, Nat.zero_add]
    rw [← nI_1]
    rw [Int32.sub_eq_add_neg, Int32.sub_eq_add_neg, Int32.add_assoc, Int32.add_assoc, Int32.add_comm 1]
  · simp only [ho, decide_false, Bool.not_false, List.filter_cons, List.filter_nil, if_true, if_false, List.length_nil, List.length_cons, Nat.zero_add]
    rw [← nI_1, ← nI_1, Int32.add_zero, mf_sub2]
theorem mf_sim_withdraw {n : Nat} {st : mf_S} {rst : rf_S} (h : mf_Sim n st rst) (o : Int32) : (mf_withdraw o st).1 = (rf_withdraw o rst).1 ∧ mf_Sim (n + 1) (mf_withdraw o st).2 (rf_withdraw o rst).2 := by
  have hup := h.up
  obtain ⟨⟨Z, hB, hl, ht⟩, h2, h3, h5, h6⟩ := h
  unfold mf_withdraw rf_withdraw
  by_cases ho : 0 ≤ o ∧ o ≤ 7
  · rw [if_pos ho, if_pos ho]
    obtain ⟨r1, r2⟩ := rf_wd_eq o rst.1.length rst.1 0 (Nat.le_refl _)
    have e1 := mf_wd_eq o st.1.length st.1 (Nat.le_refl _)
    rw [List.take_length, List.drop_length, List.append_nil] at r1 e1
    rw [List.take_length] at r2
    have hB' : mf_Bk (Z.filter (fun x => !decide (mf_ow x.1 = o))) (mf_wd o st.1.length st.1) (rf_wd o rst.1.length rst.1 0).1 := by
      obtain ⟨b1, b2, b3, b4, b5⟩ := hB
      refine ⟨?_, b2.sublist List.filter_sublist, r1.trans (b3.filter _), fun x hx => b4 x (List.mem_filter.mp hx).1, b5.sublist List.filter_sublist⟩
      rw [e1, b1, List.filter_map]; rfl
    refine ⟨?_, ⟨_, hB', Nat.le_trans (List.length_filter_le _ _) hl, fun x hx => ht x (List.mem_filter.mp hx).1⟩, hup.2.1, h3, h5, hup.2.2.2.2⟩
    show ((0 : Nat), _) = ((0 : Nat), _)
    rw [r2, Int32.zero_add, ← mf_cnt_len]
    have l1 := mf_bk_len hB
    have l2 := mf_bk_len hB'
    have l3 := (r1.length_eq)
    rw [l2.1, l1.1, ← l1.2, ← l3, l2.2]
  · rw [if_neg ho, if_neg ho]
    exact ⟨by first | rfl | trivial, hup⟩
