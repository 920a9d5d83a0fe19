/-! scans, a step at a time -/
theorem mf_take_snoc {α : Type} {l : List α} {k : Nat} {x : α} (h : l[k]? = some x) : l.take (k + 1) = l.take k ++ [x] := by
  rw [List.take_succ, h]; rfl
theorem mf_take_len {α : Type} {l : List α} {k : Nat} {x : α} (h : l[k]? = some x) : (l.take k).length = k := by
  rw [List.length_take]
  have := (List.getElem?_eq_some_iff.mp h).1
  omega
theorem mf_pick_take {α : Type} (ok : α → Bool) (lt : α → α → Bool) {l : List α} {k : Nat} {x : α} (h : l[k]? = some x) : mf_pick ok lt (l.take (k + 1)) = if ok x && mf_cmp lt x (mf_pick ok lt (l.take k)) then some (k, x) else mf_pick ok lt (l.take k) := by
  rw [mf_take_snoc h, mf_pick_snoc, mf_take_len h]
theorem mf_sum_take {α : Type} (f : α → Int32) {l : List α} {k : Nat} {x : α} (h : l[k]? = some x) : mf_sum f (l.take (k + 1)) = mf_sum f (l.take k) + f x := by
  rw [mf_take_snoc h, mf_sum_snoc]
theorem mf_pick_stay {α : Type} {ok : α → Bool} {l : List α} {y : Nat × α} (h : mf_pick ok (fun _ _ => false) l = some y) : ∀ b : List α, mf_pick ok (fun _ _ => false) (l ++ b) = some y := by
  refine mf_snoc (by rw [List.append_nil]; exact h) ?_
  intro b x ih
  rw [← List.append_assoc, mf_pick_snoc, ih]
  simp [mf_cmp]
/-- found at place k -/
theorem mf_pick_found {α : Type} {ok : α → Bool} {l : List α} {k : Nat} {x : α} (h0 : mf_pick ok (fun _ _ => false) (l.take k) = none) (h : l[k]? = some x) (hx : ok x = true) : mf_pick ok (fun _ _ => false) l = some (k, x) := by
  have h1 : mf_pick ok (fun _ _ => false) (l.take (k + 1)) = some (k, x) := by
    rw [mf_pick_take _ _ h, h0, hx]; rfl
  have h2 := mf_pick_stay h1 (l.drop (k + 1))
  rwa [List.take_append_drop] at h2
theorem mf_pick_pass {α : Type} {ok : α → Bool} {lt : α → α → Bool} {l : List α} {k : Nat} {x : α} (h0 : mf_pick ok lt (l.take k) = none) (h : l[k]? = some x) (hx : ok x = false) : mf_pick ok lt (l.take (k + 1)) = none := by
  rw [mf_pick_take _ _ h, h0, hx]; rfl
theorem mf_pick_all {α : Type} {ok : α → Bool} {lt : α → α → Bool} {l : List α} {r : Option (Nat × α)} (h : mf_pick ok lt (l.take l.length) = r) : mf_pick ok lt l = r := by
  rwa [List.take_length] at h
theorem mf_bI_0 {b : Bool} : mf_bI b = 0 ↔ b = false := by cases b <;> decide
theorem mf_bI_1 {b : Bool} : ¬ mf_bI b = 0 ↔ b = true := by cases b <;> decide
theorem mf_bI_t : mf_bI true = 1 := rfl
theorem mf_bI_f : mf_bI false = 0 := rfl
theorem mf_at_lt {α : Type} {l : List α} {k : Nat} (h : k < l.length) : ∃ x, l[k]? = some x := ⟨_, List.getElem?_eq_getElem h⟩
/-- the levels' loop ends -/
def mf_mu (s p : Int32) (L : List mf_O) : Nat := L.countP (mf_behind s p)
theorem mf_lv_0 (nx : Int32 → Int32) (f c : Nat) : mf_lv nx f 0 c = c := by
  cases f with
  | zero => rfl
  | succ f => unfold mf_lv; rw [if_pos rfl]
theorem mf_lv_1 (nx : Int32 → Int32) (f c : Nat) {p : Int32} (h : p ≠ 0) : mf_lv nx (f + 1) p c = mf_lv nx f (nx p) (c + 1) := by
  show (if p = 0 then c else mf_lv nx f (nx p) (c + 1)) = _
  rw [if_neg h]
