/-! MatchFloor: the values behind the cells. An order: id, owner, side, waits, price, left. -/
abbrev mf_O : Type := Int32 × Int32 × Int32 × Int32 × Int32 × Int32
abbrev mf_id (r : mf_O) : Int32 := r.1
abbrev mf_ow (r : mf_O) : Int32 := r.2.1
abbrev mf_sd (r : mf_O) : Int32 := r.2.2.1
abbrev mf_wt (r : mf_O) : Int32 := r.2.2.2.1
abbrev mf_pr (r : mf_O) : Int32 := r.2.2.2.2.1
abbrev mf_lf (r : mf_O) : Int32 := r.2.2.2.2.2
def mf_setLf (r : mf_O) (v : Int32) : mf_O := (r.1, r.2.1, r.2.2.1, r.2.2.2.1, r.2.2.2.2.1, v)
def mf_setPL (r : mf_O) (p v : Int32) : mf_O := (r.1, r.2.1, r.2.2.1, r.2.2.2.1, p, v)
def mf_bI (b : Bool) : Int32 := if b then 1 else 0
def mf_oI : Option Nat → Int32
  | none => -1
  | some k => nI k
def mf_other (s : Int32) : Int32 := if s = 0 then 1 else 0
def mf_better (s p t : Int32) : Bool := if s = 0 then decide (t < p) else decide (p < t)
def mf_rests (r : mf_O) (s : Int32) : Bool := decide (mf_wt r = 0) && decide (mf_sd r = s)
def mf_fit (r : mf_O) (p : Int32) : Bool := decide (p = 0) || (decide (p = mf_pr r) || mf_better (mf_other (mf_sd r)) p (mf_pr r))
def mf_due (r : mf_O) (t : Int32) : Bool := !decide (mf_wt r = 0) && (!decide (t = 0) && (if mf_sd r = 0 then decide (mf_pr r ≤ t) else decide (t ≤ mf_pr r)))
def mf_queues (r q : mf_O) : Bool := if mf_wt r = 0 ∧ mf_wt q = 0 then decide (mf_sd r = mf_sd q) && decide (mf_pr r = mf_pr q) else !decide (mf_wt r = 0) && !decide (mf_wt q = 0)
def mf_min (a b : Int32) : Int32 := if a ≤ b then a else b
/-- what all fills come to: their number, the last price, the volume, the turnover, the ring of the last 32 -/
abbrev mf_G : Type := Nat × Int32 × Int32 × Int64 × (Nat → Nat → Int32)
def mf_write (g : mf_G) (i k p n : Int32) : mf_G := (g.1 + 1, p, g.2.2.1 + n, g.2.2.2.1 + p.toInt64 * n.toInt64, fun j c => if j = g.1 % 32 then (if c = 0 then i else if c = 1 then k else if c = 2 then p else n) else g.2.2.2.2 j c)
-- induction from the end
theorem mf_snoc {α : Type} {P : List α → Prop} (h0 : P []) (hs : ∀ l x, P l → P (l ++ [x])) : ∀ l, P l := by
  intro l
  have h : ∀ r : List α, P r.reverse := by
    intro r
    induction r with
    | nil => exact h0
    | cons x r ih => rw [List.reverse_cons]; exact hs _ _ ih
  have h2 := h l.reverse
  rwa [List.reverse_reverse] at h2
def mf_cmp {α : Type} (lt : α → α → Bool) (x : α) : Option (Nat × α) → Bool
  | none => true
  | some y => lt x y.2
/-- the pick of a scan: the first best of those that are ok -/
def mf_ps {α : Type} (ok : α → Bool) (lt : α → α → Bool) (st : Nat × Option (Nat × α)) (x : α) : Nat × Option (Nat × α) :=
  (st.1 + 1, if ok x && mf_cmp lt x st.2 then some (st.1, x) else st.2)
def mf_pick {α : Type} (ok : α → Bool) (lt : α → α → Bool) (l : List α) : Option (Nat × α) := (l.foldl (mf_ps ok lt) (0, none)).2
theorem mf_ps_len {α : Type} (ok : α → Bool) (lt : α → α → Bool) : ∀ l : List α, (l.foldl (mf_ps ok lt) (0, none)).1 = l.length := by
  refine mf_snoc rfl ?_
  intro l x h
  rw [List.foldl_append, List.length_append]
  show (l.foldl (mf_ps ok lt) (0, none)).1 + 1 = _
  rw [h]; rfl
theorem mf_pick_nil {α : Type} (ok : α → Bool) (lt : α → α → Bool) : mf_pick ok lt [] = none := rfl
theorem mf_pick_snoc {α : Type} (ok : α → Bool) (lt : α → α → Bool) (l : List α) (x : α) : mf_pick ok lt (l ++ [x]) = if ok x && mf_cmp lt x (mf_pick ok lt l) then some (l.length, x) else mf_pick ok lt l := by
  unfold mf_pick
  rw [List.foldl_append]
  rw [← mf_ps_len ok lt l]
  rfl
theorem mf_pick_spec {α : Type} {ok : α → Bool} {lt : α → α → Bool} (htr : ∀ a b c, ok a = true → ok b = true → ok c = true → lt a b = true → lt b c = true → lt a c = true) (hnt : ∀ a b c, ok a = true → ok b = true → ok c = true → lt a b = false → lt b c = false → lt a c = false) (hir : ∀ a, ok a = true → lt a a = false) : ∀ l : List α,
    (mf_pick ok lt l = none → ∀ x ∈ l, ok x = false) ∧ ∀ j y, mf_pick ok lt l = some (j, y) → l[j]? = some y ∧ ok y = true ∧ (∀ x ∈ l, ok x = true → lt x y = false) ∧ ∀ i x, i < j → l[i]? = some x → ok x = true → lt y x = true := by
  refine mf_snoc ⟨fun _ x h => (List.not_mem_nil h).elim, fun j y h => by simp [mf_pick_nil] at h⟩ ?_
  intro l x ⟨h1, h2⟩
  rw [mf_pick_snoc]
  cases hx : ok x with
  | false =>
    simp only [Bool.false_and, Bool.false_eq_true, if_false]
    refine ⟨fun h z hz => ?_, fun j y h => ?_⟩
    · rcases List.mem_append.mp hz with hz | hz
      · exact h1 h z hz
      · rw [List.mem_singleton.mp hz]; exact hx
    · obtain ⟨a1, a2, a3, a4⟩ := h2 j y h
      have hj : j < l.length := (List.getElem?_eq_some_iff.mp a1).1
      refine ⟨by rw [List.getElem?_append_left hj]; exact a1, a2, fun z hz ho => ?_, fun i z hi hz ho => ?_⟩
      · rcases List.mem_append.mp hz with hz | hz
        · exact a3 z hz ho
        · rw [List.mem_singleton.mp hz] at ho; rw [hx] at ho; cases ho
      · rw [List.getElem?_append_left (by omega)] at hz
        exact a4 i z hi hz ho
  | true =>
    simp only [Bool.true_and]
    cases hp : mf_pick ok lt l with
    | none =>
      simp only [mf_cmp, if_true]
      have h0 := h1 hp
      refine ⟨fun h => (by cases h), fun j y h => ?_⟩
      cases h
      refine ⟨by rw [List.getElem?_append_right (Nat.le_refl _)]; simp, hx, fun z hz ho => ?_, fun i z hi hz ho => ?_⟩
      · rcases List.mem_append.mp hz with hz | hz
        · rw [h0 z hz] at ho; cases ho
        · rw [List.mem_singleton.mp hz]; exact hir _ hx
      · rw [List.getElem?_append_left hi] at hz
        rw [h0 z (List.mem_of_getElem? hz)] at ho; cases ho
    | some jy =>
      obtain ⟨j0, y0⟩ := jy
      obtain ⟨a1, a2, a3, a4⟩ := h2 j0 y0 hp
      have hj0 : j0 < l.length := (List.getElem?_eq_some_iff.mp a1).1
      cases hl : lt x y0 with
      | true =>
        simp only [mf_cmp, hl, if_true]
        refine ⟨fun h => (by cases h), fun j y h => ?_⟩
        cases h
        refine ⟨by rw [List.getElem?_append_right (Nat.le_refl _)]; simp, hx, fun z hz ho => ?_, fun i z hi hz ho => ?_⟩
        · rcases List.mem_append.mp hz with hz | hz
          · cases hzx : lt z x with
            | false => rfl
            | true =>
              have := htr z x y0 ho hx a2 hzx hl
              rw [a3 z hz ho] at this; cases this
          · rw [List.mem_singleton.mp hz]; exact hir _ hx
        · rw [List.getElem?_append_left hi] at hz
          cases hxz : lt x z with
          | true => rfl
          | false =>
            have := hnt x z y0 hx ho a2 hxz (a3 z (List.mem_of_getElem? hz) ho)
            rw [hl] at this; cases this
      | false =>
        simp only [mf_cmp, hl, Bool.false_eq_true, if_false]
        refine ⟨fun h => (by cases h), fun j y h => ?_⟩
        cases h
        refine ⟨by rw [List.getElem?_append_left hj0]; exact a1, a2, fun z hz ho => ?_, fun i z hi hz ho => ?_⟩
        · rcases List.mem_append.mp hz with hz | hz
          · exact a3 z hz ho
          · rw [List.mem_singleton.mp hz]; exact hl
        · rw [List.getElem?_append_left (by omega)] at hz
          exact a4 i z hi hz ho
-- orders of prices
theorem mf_better_tr {s a b c : Int32} (h1 : mf_better s a b = true) (h2 : mf_better s b c = true) : mf_better s a c = true := by
  unfold mf_better at *
  split at h1 <;> simp_all [Int32.lt_iff_toInt_lt] <;> omega
theorem mf_better_nt {s a b c : Int32} (h1 : mf_better s a b = false) (h2 : mf_better s b c = false) : mf_better s a c = false := by
  unfold mf_better at *
  split at h1 <;> simp_all [Int32.le_iff_toInt_le] <;> omega
theorem mf_better_ir {s a : Int32} : mf_better s a a = false := by
  unfold mf_better; split <;> simp
theorem mf_better_eq {s a b : Int32} (h1 : mf_better s a b = false) (h2 : mf_better s b a = false) : a = b := by
  unfold mf_better at *
  split at h1 <;> simp_all [Int32.le_iff_toInt_le] <;> exact Int32.toInt_inj.mp (by omega)
theorem mf_better_as {s a b : Int32} (h1 : mf_better s a b = true) : mf_better s b a = false := by
  unfold mf_better at *
  split at h1 <;> simp_all [Int32.lt_iff_toInt_lt, Int32.le_iff_toInt_le] <;> omega
