section
/-! MatchFloor: the values behind the cells. An order: id, owner, side, waits, price, left. -/
abbrev mf_O : Type := Int32 × Int32 × Int32 × Int32 × Int32 × Int32
abbrev mf_id (r : mf_O) : Int32 := r.1
abbrev mf_ow (r : mf_O) : Int32 := r.2.1
abbrev mf_sd (r : mf_O) : Int32 := r.2.2.1
abbrev mf_wt (r : mf_O) : Int32 := r.2.2.2.1
abbrev mf_pr (r : mf_O) : Int32 := r.2.2.2.2.1
abbrev mf_lf (r : mf_O) : Int32 := r.2.2.2.2.2
def mf_setLf (r : mf_O) (v : Int32) : mf_O := (r.1, r.2.1, r.2.2.1, r.2.2.2.1, r.2.2.2.2.1, v)
def mf_setPL (r : mf_O) (p v : Int32) : mf_O := (r.1, r.2.1, r.2.2.1, r.2.2.2.1, p, v)
def mf_bI (b : Bool) : Int32 := if b then 1 else 0
def mf_oI : Option Nat → Int32
  | none => -1
  | some k => nI k
def mf_other (s : Int32) : Int32 := if s = 0 then 1 else 0
def mf_better (s p t : Int32) : Bool := if s = 0 then decide (t < p) else decide (p < t)
def mf_rests (r : mf_O) (s : Int32) : Bool := decide (mf_wt r = 0) && decide (mf_sd r = s)
def mf_fit (r : mf_O) (p : Int32) : Bool := decide (p = 0) || (decide (p = mf_pr r) || mf_better (mf_other (mf_sd r)) p (mf_pr r))
def mf_due (r : mf_O) (t : Int32) : Bool := !decide (mf_wt r = 0) && (!decide (t = 0) && (if mf_sd r = 0 then decide (mf_pr r ≤ t) else decide (t ≤ mf_pr r)))
def mf_queues (r q : mf_O) : Bool := if mf_wt r = 0 ∧ mf_wt q = 0 then decide (mf_sd r = mf_sd q) && decide (mf_pr r = mf_pr q) else !decide (mf_wt r = 0) && !decide (mf_wt q = 0)
def mf_min (a b : Int32) : Int32 := if a ≤ b then a else b
/-- what all fills come to: their number, the last price, the volume, the turnover, the ring of the last 32 -/
abbrev mf_G : Type := Nat × Int32 × Int32 × Int64 × (Nat → Nat → Int32)
def mf_write (g : mf_G) (i k p n : Int32) : mf_G := (g.1 + 1, p, g.2.2.1 + n, g.2.2.2.1 + p.toInt64 * n.toInt64, fun j c => if j = g.1 % 32 then (if c = 0 then i else if c = 1 then k else if c = 2 then p else n) else g.2.2.2.2 j c)
-- induction from the end
theorem mf_snoc {α : Type} {P : List α → Prop} (h0 : P []) (hs : ∀ l x, P l → P (l ++ [x])) : ∀ l, P l := by
  intro l
  have h : ∀ r : List α, P r.reverse := by
    intro r
    induction r with
    | nil => exact h0
    | cons x r ih => rw [List.reverse_cons]; exact hs _ _ ih
  have h2 := h l.reverse
  rwa [List.reverse_reverse] at h2
def mf_cmp {α : Type} (lt : α → α → Bool) (x : α) : Option (Nat × α) → Bool
  | none => true
  | some y => lt x y.2
/-- the pick of a scan: the first best of those that are ok -/
def mf_ps {α : Type} (ok : α → Bool) (lt : α → α → Bool) (st : Nat × Option (Nat × α)) (x : α) : Nat × Option (Nat × α) :=
  (st.1 + 1, if ok x && mf_cmp lt x st.2 then some (st.1, x) else st.2)
def mf_pick {α : Type} (ok : α → Bool) (lt : α → α → Bool) (l : List α) : Option (Nat × α) := (l.foldl (mf_ps ok lt) (0, none)).2
theorem mf_ps_len {α : Type} (ok : α → Bool) (lt : α → α → Bool) : ∀ l : List α, (l.foldl (mf_ps ok lt) (0, none)).1 = l.length := by
  refine mf_snoc rfl ?_
  intro l x h
  rw [List.foldl_append, List.length_append]
  show (l.foldl (mf_ps ok lt) (0, none)).1 + 1 = _
  rw [h]; rfl
theorem mf_pick_nil {α : Type} (ok : α → Bool) (lt : α → α → Bool) : mf_pick ok lt [] = none := rfl
theorem mf_pick_snoc {α : Type} (ok : α → Bool) (lt : α → α → Bool) (l : List α) (x : α) : mf_pick ok lt (l ++ [x]) = if ok x && mf_cmp lt x (mf_pick ok lt l) then some (l.length, x) else mf_pick ok lt l := by
  unfold mf_pick
  rw [List.foldl_append]
  rw [← mf_ps_len ok lt l]
  rfl
theorem mf_pick_spec {α : Type} {ok : α → Bool} {lt : α → α → Bool} (htr : ∀ a b c, ok a = true → ok b = true → ok c = true → lt a b = true → lt b c = true → lt a c = true) (hnt : ∀ a b c, ok a = true → ok b = true → ok c = true → lt a b = false → lt b c = false → lt a c = false) (hir : ∀ a, ok a = true → lt a a = false) : ∀ l : List α,
    (mf_pick ok lt l = none → ∀ x ∈ l, ok x = false) ∧ ∀ j y, mf_pick ok lt l = some (j, y) → l[j]? = some y ∧ ok y = true ∧ (∀ x ∈ l, ok x = true → lt x y = false) ∧ ∀ i x, i < j → l[i]? = some x → ok x = true → lt y x = true := by
  refine mf_snoc ⟨fun _ x h => (List.not_mem_nil h).elim, fun j y h => by simp [mf_pick_nil] at h⟩ ?_
  intro l x ⟨h1, h2⟩
  rw [mf_pick_snoc]
  cases hx : ok x with
  | false =>
    simp only [Bool.false_and, Bool.false_eq_true, if_false]
    refine ⟨fun h z hz => ?_, fun j y h => ?_⟩
    · rcases List.mem_append.mp hz with hz | hz
      · exact h1 h z hz
      · rw [List.mem_singleton.mp hz]; exact hx
    · obtain ⟨a1, a2, a3, a4⟩ := h2 j y h
      have hj : j < l.length := (List.getElem?_eq_some_iff.mp a1).1
      refine ⟨by rw [List.getElem?_append_left hj]; exact a1, a2, fun z hz ho => ?_, fun i z hi hz ho => ?_⟩
      · rcases List.mem_append.mp hz with hz | hz
        · exact a3 z hz ho
        · rw [List.mem_singleton.mp hz] at ho; rw [hx] at ho; cases ho
      · rw [List.getElem?_append_left (by omega)] at hz
        exact a4 i z hi hz ho
  | true =>
    simp only [Bool.true_and]
    cases hp : mf_pick ok lt l with
    | none =>
      simp only [mf_cmp, if_true]
      have h0 := h1 hp
      refine ⟨fun h => (by cases h), fun j y h => ?_⟩
      cases h
      refine ⟨by rw [List.getElem?_append_right (Nat.le_refl _)]; simp, hx, fun z hz ho => ?_, fun i z hi hz ho => ?_⟩
      · rcases List.mem_append.mp hz with hz | hz
        · rw [h0 z hz] at ho; cases ho
        · rw [List.mem_singleton.mp hz]; exact hir _ hx
      · rw [List.getElem?_append_left hi] at hz
        rw [h0 z (List.mem_of_getElem? hz)] at ho; cases ho
    | some jy =>
      obtain ⟨j0, y0⟩ := jy
      obtain ⟨a1, a2, a3, a4⟩ := h2 j0 y0 hp
      have hj0 : j0 < l.length := (List.getElem?_eq_some_iff.mp a1).1
      cases hl : lt x y0 with
      | true =>
        simp only [mf_cmp, hl, if_true]
        refine ⟨fun h => (by cases h), fun j y h => ?_⟩
        cases h
        refine ⟨by rw [List.getElem?_append_right (Nat.le_refl _)]; simp, hx, fun z hz ho => ?_, fun i z hi hz ho => ?_⟩
        · rcases List.mem_append.mp hz with hz | hz
          · cases hzx : lt z x with
            | false => rfl
            | true =>
              have := htr z x y0 ho hx a2 hzx hl
              rw [a3 z hz ho] at this; cases this
          · rw [List.mem_singleton.mp hz]; exact hir _ hx
        · rw [List.getElem?_append_left hi] at hz
          cases hxz : lt x z with
          | true => rfl
          | false =>
            have := hnt x z y0 hx ho a2 hxz (a3 z (List.mem_of_getElem? hz) ho)
            rw [hl] at this; cases this
      | false =>
        simp only [mf_cmp, hl, Bool.false_eq_true, if_false]
        refine ⟨fun h => (by cases h), fun j y h => ?_⟩
        cases h
        refine ⟨by rw [List.getElem?_append_left hj0]; exact a1, a2, fun z hz ho => ?_, fun i z hi hz ho => ?_⟩
        · rcases List.mem_append.mp hz with hz | hz
          · exact a3 z hz ho
          · rw [List.mem_singleton.mp hz]; exact hl
        · rw [List.getElem?_append_left (by omega)] at hz
          exact a4 i z hi hz ho
-- orders of prices
theorem mf_better_tr {s a b c : Int32} (h1 : mf_better s a b = true) (h2 : mf_better s b c = true) : mf_better s a c = true := by
  unfold mf_better at *
  split at h1 <;> simp_all [Int32.lt_iff_toInt_lt] <;> omega
theorem mf_better_nt {s a b c : Int32} (h1 : mf_better s a b = false) (h2 : mf_better s b c = false) : mf_better s a c = false := by
  unfold mf_better at *
  split at h1 <;> simp_all [Int32.le_iff_toInt_le] <;> omega
theorem mf_better_ir {s a : Int32} : mf_better s a a = false := by
  unfold mf_better; split <;> simp
theorem mf_better_eq {s a b : Int32} (h1 : mf_better s a b = false) (h2 : mf_better s b a = false) : a = b := by
  unfold mf_better at *
  split at h1 <;> simp_all [Int32.le_iff_toInt_le] <;> exact Int32.toInt_inj.mp (by omega)
theorem mf_better_as {s a b : Int32} (h1 : mf_better s a b = true) : mf_better s b a = false := by
  unfold mf_better at *
  split at h1 <;> simp_all [Int32.lt_iff_toInt_lt, Int32.le_iff_toInt_le] <;> omega
end
section
/-! what the class does, and what the reference does, as functions of values -/
abbrev mf_T : Type := mf_O × Int32
def mf_lt (s : Int32) (a b : mf_O) : Bool := mf_better s (mf_pr a) (mf_pr b)
def mf_first (s : Int32) (L : List mf_O) : Option (Nat × mf_O) := mf_pick (fun r => mf_rests r s) (mf_lt s) L
def rf_before (a b : mf_T) : Bool := if mf_pr a.1 = mf_pr b.1 then decide (a.2 < b.2) else if mf_sd a.1 = 0 then decide (mf_pr b.1 < mf_pr a.1) else decide (mf_pr a.1 < mf_pr b.1)
def rf_first (s : Int32) (R : List mf_T) : Option (Nat × mf_T) := mf_pick (fun x => mf_rests x.1 s) rf_before R
def mf_place (i : Int32) (L : List mf_O) : Option (Nat × mf_O) := mf_pick (fun r => decide (mf_id r = i)) (fun _ _ => false) L
def rf_find (i : Int32) (R : List mf_T) : Option (Nat × mf_T) := mf_pick (fun x => decide (mf_id x.1 = i)) (fun _ _ => true) R
def mf_dueAt (t : Int32) (L : List mf_O) : Option (Nat × mf_O) := mf_pick (fun r => mf_due r t) (fun _ _ => false) L
def rf_isDue (t : Int32) (r : mf_O) : Bool := !decide (mf_wt r = 0) && (decide (0 < t) && (if mf_sd r = 0 then decide (mf_pr r ≤ t) else decide (t ≤ mf_pr r)))
def rf_dueAt (t : Int32) (R : List mf_T) : Option (Nat × mf_T) := mf_pick (fun x => rf_isDue t x.1) (fun a b => decide (a.2 < b.2)) R
def rf_drop {α : Type} (R : List α) (k : Nat) : List α := match R.getLast? with
  | none => []
  | some z => (R.set k z).dropLast
def mf_sum {α : Type} (f : α → Int32) (l : List α) : Int32 := l.foldl (fun a x => a + f x) 0
-- prices, levels
def mf_behind (s b : Int32) (r : mf_O) : Bool := mf_rests r s && (decide (b = 0) || mf_better s b (mf_pr r))
def mf_prOf {α : Type} (f : α → mf_O) : Option (Nat × α) → Int32
  | none => 0
  | some x => mf_pr (f x.2)
def mf_next (s b : Int32) (L : List mf_O) : Int32 := mf_prOf (fun r => r) (mf_pick (mf_behind s b) (mf_lt s) L)
def rf_next (s b : Int32) (R : List mf_T) : Int32 := mf_prOf (fun x : mf_T => x.1) (mf_pick (fun x : mf_T => mf_behind s b x.1) (fun x y => mf_lt s x.1 y.1) R)
def mf_lv (nx : Int32 → Int32) : Nat → Int32 → Nat → Nat
  | 0, _, c => c
  | k + 1, p, c => if p = 0 then c else mf_lv nx k (nx p) (c + 1)
def mf_it (nx : Int32 → Int32) : Nat → Int32
  | 0 => nx 0
  | k + 1 => nx (mf_it nx k)
def mf_at (s p : Int32) (r : mf_O) : Bool := mf_rests r s && decide (mf_pr r = p)
-- matching
abbrev mf_M : Type := List mf_O × Int32 × mf_G
abbrev rf_M : Type := List mf_T × Int32 × mf_G
def mf_meet (c : mf_O) (j : Nat) (r : mf_O) (st : mf_M) : mf_O × mf_M :=
  if mf_ow r = mf_ow c then (c, st.1.eraseIdx j, st.2.1 + 1, st.2.2)
  else (mf_setLf c (mf_lf c - mf_min (mf_lf c) (mf_lf r)), if mf_lf r - mf_min (mf_lf c) (mf_lf r) = 0 then st.1.eraseIdx j else st.1.set j (mf_setLf r (mf_lf r - mf_min (mf_lf c) (mf_lf r))), st.2.1, mf_write st.2.2 (mf_id c) (mf_id r) (mf_pr r) (mf_min (mf_lf c) (mf_lf r)))
def mf_match : Nat → Int32 → mf_O → mf_M → mf_O × mf_M
  | 0, _, c, st => (c, st)
  | k + 1, p, c, st => if 0 < mf_lf c then (match mf_first (mf_other (mf_sd c)) st.1 with
      | none => (c, st)
      | some x => if mf_fit x.2 p then mf_match k p (mf_meet c x.1 x.2 st).1 (mf_meet c x.1 x.2 st).2 else (c, st)) else (c, st)
def rf_fits (s p : Int32) (r : mf_O) : Bool := decide (p = 0) || (if s = 0 then decide (mf_pr r ≤ p) else decide (p ≤ mf_pr r))
def rf_min (a b : Int32) : Int32 := if a < b then a else b
def rf_meet (i o q : Int32) (k : Nat) (x : mf_T) (st : rf_M) : Int32 × rf_M :=
  if mf_ow x.1 = o then (q, rf_drop st.1 k, st.2.1 + 1, st.2.2)
  else (q - rf_min q (mf_lf x.1), if mf_lf x.1 - rf_min q (mf_lf x.1) = 0 then rf_drop st.1 k else st.1.set k (mf_setLf x.1 (mf_lf x.1 - rf_min q (mf_lf x.1)), x.2), st.2.1, mf_write st.2.2 i (mf_id x.1) (mf_pr x.1) (rf_min q (mf_lf x.1)))
def rf_match (i o s p : Int32) : Nat → Int32 → rf_M → Int32 × rf_M
  | 0, q, st => (q, st)
  | k + 1, q, st => if 0 < q then (match rf_first (1 - s) st.1 with
      | none => (q, st)
      | some x => if rf_fits s p x.2.1 then rf_match i o s p k (rf_meet i o q x.1 x.2 st).1 (rf_meet i o q x.1 x.2 st).2 else (q, st)) else (q, st)
/-- a state: the orders, the due stops, those that met their owner, the fills -/
abbrev mf_S : Type := List mf_O × Int32 × Int32 × mf_G
/-- the reference's: the orders with their times, the clock, the stops, the met, the fills -/
abbrev rf_S : Type := List mf_T × Int32 × Int32 × Int32 × mf_G
def mf_stops : Nat → mf_S → mf_S
  | 0, st => st
  | k + 1, st => match mf_dueAt st.2.2.2.2.1 st.1 with
      | none => st
      | some x => mf_stops k ((mf_match 41 0 x.2 (st.1.eraseIdx x.1, st.2.2)).2.1, st.2.1 + 1, (mf_match 41 0 x.2 (st.1.eraseIdx x.1, st.2.2)).2.2)
def rf_stops : Nat → rf_S → rf_S
  | 0, st => st
  | k + 1, st => match rf_dueAt st.2.2.2.2.2.1 st.1 with
      | none => st
      | some x => rf_stops k ((rf_match (mf_id x.2.1) (mf_ow x.2.1) (mf_sd x.2.1) 0 41 (mf_lf x.2.1) (rf_drop st.1 x.1, st.2.2.2)).2.1, st.2.1, st.2.2.1 + 1, (rf_match (mf_id x.2.1) (mf_ow x.2.1) (mf_sd x.2.1) 0 41 (mf_lf x.2.1) (rf_drop st.1 x.1, st.2.2.2)).2.2)
-- coming in
def mf_comeIn (c : mf_O) (kind : Int32) (st : mf_S) : Int32 × mf_S :=
  let q := if kind = 4 ∨ kind = 5 then (c, st.1, st.2.2) else mf_match 41 (if kind = 1 then 0 else mf_pr c) c (st.1, st.2.2)
  (mf_lf c - mf_lf q.1, mf_stops 40 (if (kind = 0 ∨ kind = 4 ∨ kind = 5) ∧ 0 < mf_lf q.1 then q.2.1 ++ [q.1] else q.2.1, st.2.1, q.2.2))
def mf_kind (h : Int32) : Int32 := (h >>> 1) &&& 7
def mf_refused (c : mf_O) (kind : Int32) (L : List mf_O) : Bool :=
  if kind = 3 then decide (mf_sum (fun r => if mf_rests r (mf_other (mf_sd c)) && (mf_fit r (mf_pr c) && !decide (mf_ow r = mf_ow c)) then mf_lf r else 0) L < mf_lf c)
  else if kind = 4 then (match mf_first (mf_other (mf_sd c)) L with | none => false | some x => mf_fit x.2 (mf_pr c))
  else false
def mf_prOk (p : Int32) : Bool := decide (1 ≤ p) && decide (p ≤ 10000)
def mf_qtOk (p : Int32) : Bool := decide (1 ≤ p) && decide (p ≤ 1000000)
def mf_howOk (h : Int32) : Bool := decide (0 ≤ h) && (decide (h ≤ 127) && decide (mf_kind h ≤ 5))
def mf_order (i h p q : Int32) : mf_O := (i, h >>> 4, h &&& 1, mf_bI (decide (mf_kind h = 5)), p, q)
/-- an answer: 0 and the number, or the number of the fault -/
abbrev mf_A : Type := Nat × Int32
def mf_submit (i h p q : Int32) (st : mf_S) : mf_A × mf_S :=
  if mf_howOk h && (mf_prOk p && mf_qtOk q) then
    (if (mf_place i st.1).isSome || (decide (40 ≤ st.1.length) || mf_refused (mf_order i h p q) (mf_kind h) st.1) then ((2, 0), st)
     else ((0, (mf_comeIn (mf_order i h p q) (mf_kind h) st).1), (mf_comeIn (mf_order i h p q) (mf_kind h) st).2))
  else ((1, 0), st)
def mf_cancel (i : Int32) (st : mf_S) : mf_A × mf_S := match mf_place i st.1 with
  | none => ((1, 0), st)
  | some x => ((0, mf_lf x.2), st.1.eraseIdx x.1, st.2)
def mf_amend (i p q : Int32) (st : mf_S) : mf_A × mf_S :=
  if mf_prOk p && mf_qtOk q then (match mf_place i st.1 with
    | none => ((2, 0), st)
    | some x => if mf_wt x.2 = 0 ∧ p = mf_pr x.2 ∧ q ≤ mf_lf x.2 then ((0, 0), st.1.set x.1 (mf_setLf x.2 q), st.2)
      else ((0, (mf_comeIn (mf_setPL x.2 p q) (if mf_wt x.2 = 0 then 0 else 5) (st.1.eraseIdx x.1, st.2)).1), (mf_comeIn (mf_setPL x.2 p q) (if mf_wt x.2 = 0 then 0 else 5) (st.1.eraseIdx x.1, st.2)).2))
  else ((1, 0), st)
def mf_wd (o : Int32) : Nat → List mf_O → List mf_O
  | 0, L => L
  | k + 1, L => mf_wd o k (match L[k]? with | none => L | some r => if mf_ow r = o then L.eraseIdx k else L)
def mf_withdraw (o : Int32) (st : mf_S) : mf_A × mf_S :=
  if 0 ≤ o ∧ o ≤ 7 then ((0, nI st.1.length - nI (mf_wd o st.1.length st.1).length), mf_wd o st.1.length st.1, st.2) else ((1, 0), st)
def mf_levels (s : Int32) (st : mf_S) : mf_A :=
  if s = 0 ∨ s = 1 then (0, nI (mf_lv (fun b => mf_next s b st.1) 40 (mf_next s 0 st.1) 0)) else (1, 0)
def mf_level (s k w : Int32) (st : mf_S) : mf_A :=
  if (s = 0 ∨ s = 1) ∧ 0 ≤ w ∧ w ≤ 2 then
    (if 0 ≤ k ∧ k < nI (mf_lv (fun b => mf_next s b st.1) 40 (mf_next s 0 st.1) 0) then
      (0, if w = 0 then mf_it (fun b => mf_next s b st.1) k.toNatClampNeg else
          if w = 1 then mf_sum (fun r => if mf_at s (mf_it (fun b => mf_next s b st.1) k.toNatClampNeg) r then mf_lf r else 0) st.1
          else mf_sum (fun r => if mf_at s (mf_it (fun b => mf_next s b st.1) k.toNatClampNeg) r then 1 else 0) st.1)
     else (2, 0))
  else (1, 0)
def mf_ordr (i w : Int32) (st : mf_S) : mf_A := match mf_place i st.1 with
  | none => (1, 0)
  | some x => if 0 ≤ w ∧ w ≤ 3 then
      (0, if w = 0 then 16 * mf_ow x.2 + (if mf_wt x.2 = 0 then 0 else 2) + mf_sd x.2 else if w = 1 then mf_pr x.2 else if w = 2 then mf_lf x.2
          else mf_sum (fun r => if mf_queues r x.2 then 1 else 0) (st.1.take x.1))
    else (2, 0)
def mf_fill (k w : Int32) (g : mf_G) : mf_A :=
  if 0 ≤ w ∧ w ≤ 3 then (if 0 ≤ k ∧ k ≤ 31 ∧ k < nI g.1 then (0, g.2.2.2.2 ((g.1 - 1 - k.toNatClampNeg) % 32) w.toNatClampNeg) else (2, 0)) else (1, 0)
def mf_figure (k : Int32) (st : mf_S) : mf_A :=
  if k = 0 then (0, nI st.1.length) else if k = 1 then (0, mf_sum (fun r => if mf_wt r = 0 then 0 else 1) st.1) else if k = 2 then (0, st.2.1) else if k = 3 then (0, st.2.2.1) else if k = 4 then (0, st.2.2.2.2.2.1) else (1, 0)
-- the reference's
def rf_keep (c : mf_O) (st : List mf_T × Int32) : List mf_T × Int32 := (st.1 ++ [(c, st.2 + 1)], st.2 + 1)
def rf_within (o s p : Int32) (R : List mf_T) : Int32 := mf_sum (fun x : mf_T => if decide (mf_wt x.1 = 0) && (!decide (mf_sd x.1 = s) && (!decide (mf_ow x.1 = o) && rf_fits s p x.1)) then mf_lf x.1 else 0) R
def rf_refused (o s kind p q : Int32) (R : List mf_T) : Bool :=
  if kind = 3 then decide (rf_within o s p R < q)
  else decide (kind = 4) && (match rf_first (1 - s) R with | none => false | some x => rf_fits s p x.2.1)
def rf_submit (i h p q : Int32) (st : rf_S) : mf_A × rf_S :=
  if mf_howOk h && (mf_prOk p && mf_qtOk q) then
    (if (rf_find i st.1).isSome || (decide (st.1.length = 40) || rf_refused (h >>> 4) (h &&& 1) (mf_kind h) p q st.1) then ((2, 0), st)
     else
      let m := if mf_kind h < 4 then rf_match i (h >>> 4) (h &&& 1) (if mf_kind h = 1 then 0 else p) 41 q (st.1, st.2.2.2) else (q, st.1, st.2.2.2)
      let b := if 3 < mf_kind h ∨ (mf_kind h = 0 ∧ 0 < m.1) then rf_keep (i, h >>> 4, h &&& 1, mf_bI (decide (mf_kind h = 5)), p, m.1) (m.2.1, st.2.1) else (m.2.1, st.2.1)
      ((0, q - m.1), rf_stops 40 (b.1, b.2, st.2.2.1, m.2.2)))
  else ((1, 0), st)
def rf_cancel (i : Int32) (st : rf_S) : mf_A × rf_S := match rf_find i st.1 with
  | none => ((1, 0), st)
  | some x => ((0, mf_lf x.2.1), rf_drop st.1 x.1, st.2)
def rf_amend (i p q : Int32) (st : rf_S) : mf_A × rf_S :=
  if mf_prOk p && mf_qtOk q then (match rf_find i st.1 with
    | none => ((2, 0), st)
    | some x => if mf_wt x.2.1 = 0 ∧ mf_pr x.2.1 = p ∧ q ≤ mf_lf x.2.1 then ((0, 0), st.1.set x.1 (mf_setLf x.2.1 q, x.2.2), st.2)
      else
      let m := if mf_wt x.2.1 = 0 then rf_match i (mf_ow x.2.1) (mf_sd x.2.1) p 41 q (rf_drop st.1 x.1, st.2.2.2) else (q, rf_drop st.1 x.1, st.2.2.2)
      let b := if 0 < m.1 then rf_keep (i, mf_ow x.2.1, mf_sd x.2.1, mf_wt x.2.1, p, m.1) (m.2.1, st.2.1) else (m.2.1, st.2.1)
      ((0, q - m.1), rf_stops 40 (b.1, b.2, st.2.2.1, m.2.2)))
  else ((1, 0), st)
def rf_wd (o : Int32) : Nat → List mf_T → Int32 → List mf_T × Int32
  | 0, R, n => (R, n)
  | k + 1, R, n => match R[k]? with
      | none => rf_wd o k R n
      | some x => if mf_ow x.1 = o then rf_wd o k (rf_drop R k) (n + 1) else rf_wd o k R n
def rf_withdraw (o : Int32) (st : rf_S) : mf_A × rf_S :=
  if 0 ≤ o ∧ o ≤ 7 then ((0, (rf_wd o st.1.length st.1 0).2), (rf_wd o st.1.length st.1 0).1, st.2) else ((1, 0), st)
def rf_levels (s : Int32) (st : rf_S) : mf_A :=
  if s = 0 ∨ s = 1 then (0, nI (mf_lv (fun b => rf_next s b st.1) 40 (rf_next s 0 st.1) 0)) else (1, 0)
/-- the price of the level: 0 where there is none -/
def rf_walk (nx : Int32 → Int32) : Nat → Int32 → Int32
  | 0, p => p
  | k + 1, p => if 0 < p then rf_walk nx k (nx p) else p
def rf_level (s k w : Int32) (st : rf_S) : mf_A :=
  if (s = 0 ∨ s = 1) ∧ 0 ≤ w ∧ w ≤ 2 then
    (let p := if k < 0 then 0 else rf_walk (fun b => rf_next s b st.1) k.toNatClampNeg (rf_next s 0 st.1)
     if p = 0 then (2, 0) else
      (0, if w = 0 then p else if w = 1 then mf_sum (fun x : mf_T => if mf_at s p x.1 then mf_lf x.1 else 0) st.1 else mf_sum (fun x : mf_T => if mf_at s p x.1 then 1 else 0) st.1))
  else (1, 0)
def rf_same (k j : mf_O) : Bool := if mf_wt k = 0 then decide (mf_wt j = 0) && (decide (mf_sd j = mf_sd k) && decide (mf_pr j = mf_pr k)) else !decide (mf_wt j = 0)
def rf_ordr (i w : Int32) (st : rf_S) : mf_A := match rf_find i st.1 with
  | none => (1, 0)
  | some x => if 0 ≤ w ∧ w ≤ 3 then
      (0, if w = 0 then 16 * mf_ow x.2.1 + mf_sd x.2.1 + (if mf_wt x.2.1 = 0 then 0 else 2) else if w = 1 then mf_pr x.2.1 else if w = 2 then mf_lf x.2.1
          else mf_sum (fun y : mf_T => if rf_same x.2.1 y.1 && decide (y.2 < x.2.2) then 1 else 0) st.1)
    else (2, 0)
def rf_figure (k : Int32) (st : rf_S) : mf_A :=
  if k = 0 then (0, nI st.1.length) else if k = 1 then (0, mf_sum (fun x : mf_T => if mf_wt x.1 = 0 then 0 else 1) st.1) else if k = 2 then (0, st.2.2.1) else if k = 3 then (0, st.2.2.2.1) else if k = 4 then (0, st.2.2.2.2.2.2.1) else (1, 0)
end
section
/-! the class and the reference, value for value -/
theorem mf_pw {α : Type} {P : α → α → Prop} {l : List α} (h : l.Pairwise P) {i j : Nat} {a b : α} (hij : i < j) (hi : l[i]? = some a) (hj : l[j]? = some b) : P a b := by
  obtain ⟨h1, e1⟩ := List.getElem?_eq_some_iff.mp hi
  obtain ⟨h2, e2⟩ := List.getElem?_eq_some_iff.mp hj
  have := List.pairwise_iff_getElem.mp h i j h1 h2 hij
  rw [e1, e2] at this
  exact this
theorem mf_pick_in {α : Type} (ok : α → Bool) (lt : α → α → Bool) : ∀ l : List α, (mf_pick ok lt l = none → ∀ x ∈ l, ok x = false) ∧ ∀ j y, mf_pick ok lt l = some (j, y) → l[j]? = some y ∧ ok y = true := by
  refine mf_snoc ⟨fun _ x h => (List.not_mem_nil h).elim, fun j y h => by simp [mf_pick_nil] at h⟩ ?_
  intro l x ⟨h1, h2⟩
  rw [mf_pick_snoc]
  by_cases hc : (ok x && mf_cmp lt x (mf_pick ok lt l)) = true
  · rw [if_pos hc]
    refine ⟨fun h => (by cases h), fun j y h => ?_⟩
    cases h
    exact ⟨by rw [List.getElem?_append_right (Nat.le_refl _)]; simp, by cases hx : ok x <;> simp [hx] at hc ⊢⟩
  · rw [if_neg hc]
    refine ⟨fun h z hz => ?_, fun j y h => ?_⟩
    · rcases List.mem_append.mp hz with hz | hz
      · exact h1 h z hz
      · rw [List.mem_singleton.mp hz]
        rw [h] at hc
        cases hx : ok x with
        | false => rfl
        | true => simp [hx, mf_cmp] at hc
    · obtain ⟨a1, a2⟩ := h2 j y h
      exact ⟨by rw [List.getElem?_append_left (List.getElem?_eq_some_iff.mp a1).1]; exact a1, a2⟩
/-- an order that may be kept -/
def mf_ok (r : mf_O) : Prop := (mf_sd r = 0 ∨ mf_sd r = 1) ∧ 0 < mf_pr r
/-- the books stand for each other: Z has the class's orders, in their order, with the reference's times -/
def mf_Bk (Z : List mf_T) (L : List mf_O) (R : List mf_T) : Prop := L = Z.map (·.1) ∧ Z.Pairwise (fun a b => a.2 < b.2) ∧ R.Perm Z ∧ (∀ x ∈ Z, mf_ok x.1) ∧ Z.Pairwise (fun a b => mf_id a.1 ≠ mf_id b.1)
theorem mf_sim_gen {Z R : List mf_T} (hP : R.Perm Z) {ok : mf_O → Bool} {ltc : mf_O → mf_O → Bool} {ltr : mf_T → mf_T → Bool}
    (hu : ∀ j y t i x k, mf_pick ok ltc (Z.map (·.1)) = some (j, y) → Z[j]? = some (y, t) → mf_pick (fun x : mf_T => ok x.1) ltr R = some (k, x) → Z[i]? = some x → i = j) :
    (mf_pick ok ltc (Z.map (·.1)) = none ∧ mf_pick (fun x : mf_T => ok x.1) ltr R = none) ∨ ∃ j k y t, mf_pick ok ltc (Z.map (·.1)) = some (j, y) ∧ mf_pick (fun x : mf_T => ok x.1) ltr R = some (k, (y, t)) ∧ Z[j]? = some (y, t) ∧ R[k]? = some (y, t) := by
  obtain ⟨c1, c2⟩ := mf_pick_in ok ltc (Z.map (·.1))
  obtain ⟨r1, r2⟩ := mf_pick_in (fun x : mf_T => ok x.1) ltr R
  cases hc : mf_pick ok ltc (Z.map (·.1)) with
  | none =>
    refine Or.inl ⟨rfl, ?_⟩
    cases hr : mf_pick (fun x : mf_T => ok x.1) ltr R with
    | none => rfl
    | some kx =>
      obtain ⟨k, x⟩ := kx
      obtain ⟨a1, a2⟩ := r2 k x hr
      have hx : x ∈ Z := hP.mem_iff.mp (List.mem_of_getElem? a1)
      have := c1 hc x.1 (List.mem_map.mpr ⟨x, hx, rfl⟩)
      rw [this] at a2; cases a2
  | some jy =>
    obtain ⟨j, y⟩ := jy
    obtain ⟨a1, a2⟩ := c2 j y hc
    rw [List.getElem?_map] at a1
    obtain ⟨x0, b1, b2⟩ := Option.map_eq_some_iff.mp a1
    obtain ⟨y', t⟩ := x0
    cases b2
    have hm : (y', t) ∈ R := hP.mem_iff.mpr (List.mem_of_getElem? b1)
    cases hr : mf_pick (fun x : mf_T => ok x.1) ltr R with
    | none =>
      have h9 : ok y' = false := r1 hr (y', t) hm
      have a2' : ok y' = true := a2
      rw [h9] at a2'; cases a2'
    | some kx =>
      obtain ⟨k, x⟩ := kx
      obtain ⟨d1, d2⟩ := r2 k x hr
      obtain ⟨i, hi⟩ := List.getElem?_of_mem (hP.mem_iff.mp (List.mem_of_getElem? d1))
      have hij := hu j y' t i x k hc b1 hr hi
      subst hij
      cases hi.symm.trans b1
      exact Or.inr ⟨i, k, y', t, rfl, rfl, b1, d1⟩
theorem rf_before_tr {s : Int32} {a b c : mf_T} (ha : mf_sd a.1 = s) (hb : mf_sd b.1 = s) (h1 : rf_before a b = true) (h2 : rf_before b c = true) : rf_before a c = true := by
  unfold rf_before at *
  rw [ha] at *
  rw [hb] at h2
  by_cases hs : s = 0
  · simp only [hs, if_true] at *
    split at h1 <;> split at h2 <;> split <;> simp_all [Int32.lt_iff_toInt_lt] <;> omega
  · simp only [hs, if_false] at *
    split at h1 <;> split at h2 <;> split <;> simp_all [Int32.lt_iff_toInt_lt] <;> omega
theorem mf_ne_toInt {a b : Int32} : ¬ a = b ↔ a.toInt ≠ b.toInt := by
  rw [Ne, Int32.toInt_inj]
theorem rf_before_nt {s : Int32} {a b c : mf_T} (ha : mf_sd a.1 = s) (hb : mf_sd b.1 = s) (h1 : rf_before a b = false) (h2 : rf_before b c = false) : rf_before a c = false := by
  unfold rf_before at *
  rw [ha] at *
  rw [hb] at h2
  simp only [← Int32.toInt_inj] at *
  by_cases hs : s.toInt = (0 : Int32).toInt
  · simp only [hs, if_true] at *
    split at h1 <;> split at h2 <;> split <;> simp_all [Int32.le_iff_toInt_le] <;> omega
  · simp only [hs, if_false] at *
    split at h1 <;> split at h2 <;> split <;> simp_all [Int32.le_iff_toInt_le] <;> omega
theorem rf_before_ir {a : mf_T} : rf_before a a = false := by
  unfold rf_before; simp
theorem mf_rests_sd {r : mf_O} {s : Int32} (h : mf_rests r s = true) : mf_sd r = s := by
  unfold mf_rests at h
  simp at h
  exact h.2
theorem mf_sim_first {Z : List mf_T} {L : List mf_O} {R : List mf_T} (h : mf_Bk Z L R) (s : Int32) :
    (mf_first s L = none ∧ rf_first s R = none) ∨ ∃ j k y t, mf_first s L = some (j, y) ∧ rf_first s R = some (k, (y, t)) ∧ Z[j]? = some (y, t) ∧ R[k]? = some (y, t) := by
  obtain ⟨rfl, hso, hP, -, -⟩ := h
  refine mf_sim_gen hP (ok := fun r => mf_rests r s) (ltc := mf_lt s) (ltr := rf_before) ?_
  intro j y t i x k hc hj hr hi
  obtain ⟨c1, c2, c3, c4⟩ := (mf_pick_spec (ok := fun r => mf_rests r s) (lt := mf_lt s) (fun a b c _ _ _ h1 h2 => mf_better_tr h1 h2) (fun a b c _ _ _ h1 h2 => mf_better_nt h1 h2) (fun a _ => mf_better_ir) (Z.map (·.1))).2 j y hc
  obtain ⟨r1, r2, r3, r4⟩ := (mf_pick_spec (ok := fun x : mf_T => mf_rests x.1 s) (lt := rf_before) (fun a b c h1 h2 _ h3 h4 => rf_before_tr (mf_rests_sd h1) (mf_rests_sd h2) h3 h4) (fun a b c h1 h2 _ h3 h4 => rf_before_nt (mf_rests_sd h1) (mf_rests_sd h2) h3 h4) (fun a _ => rf_before_ir) R).2 k x hr
  have hm : (y, t) ∈ R := hP.mem_iff.mpr (List.mem_of_getElem? hj)
  have h1 : rf_before (y, t) x = false := r3 _ hm c2
  have h2 : mf_lt s x.1 y = false := c3 x.1 (List.mem_map.mpr ⟨x, List.mem_of_getElem? hi, rfl⟩) r2
  have hsx : mf_sd x.1 = s := mf_rests_sd r2
  have hsy : mf_sd y = s := mf_rests_sd c2
  have hpr : mf_pr x.1 = mf_pr y := by
    unfold rf_before at h1
    unfold mf_lt mf_better at h2
    rw [show mf_sd ((y, t) : mf_T).1 = s from hsy] at h1
    simp only [← Int32.toInt_inj] at *
    by_cases hs : s.toInt = (0 : Int32).toInt
    · simp only [hs, if_true] at *
      split at h1 <;> simp_all [Int32.le_iff_toInt_le] <;> omega
    · simp only [hs, if_false] at *
      split at h1 <;> simp_all [Int32.le_iff_toInt_le] <;> omega
  have ht : ¬ t < x.2 := by
    unfold rf_before at h1
    rw [if_pos hpr.symm] at h1
    simpa using h1
  rcases Nat.lt_trichotomy i j with hij | hij | hij
  · have h4 : mf_lt s y x.1 = true := c4 i x.1 hij (by rw [List.getElem?_map, hi]; rfl) r2
    unfold mf_lt at h4
    rw [hpr, mf_better_ir] at h4; cases h4
  · exact hij
  · exact absurd (mf_pw hso hij hj hi) ht
theorem mf_sim_find {Z : List mf_T} {L : List mf_O} {R : List mf_T} (h : mf_Bk Z L R) (a : Int32) :
    (mf_place a L = none ∧ rf_find a R = none) ∨ ∃ j k y t, mf_place a L = some (j, y) ∧ rf_find a R = some (k, (y, t)) ∧ Z[j]? = some (y, t) ∧ R[k]? = some (y, t) := by
  obtain ⟨rfl, hso, hP, -, hid⟩ := h
  refine mf_sim_gen hP (ok := fun r => decide (mf_id r = a)) (ltc := fun _ _ => false) (ltr := fun _ _ => true) ?_
  intro j y t i x k hc hj hr hi
  have h1 := (mf_pick_in _ _ _).2 j y hc
  have h2 := (mf_pick_in _ _ _).2 k x hr
  have e1 : mf_id y = a := by simpa using h1.2
  have e2 : mf_id x.1 = a := by simpa using h2.2
  rcases Nat.lt_trichotomy i j with hij | hij | hij
  · exact absurd (e2.trans e1.symm) (mf_pw hid hij hi hj)
  · exact hij
  · exact absurd (e1.trans e2.symm) (mf_pw hid hij hj hi)
theorem mf_due_eq {t : Int32} (ht : 0 ≤ t) : (fun r => mf_due r t) = rf_isDue t := by
  funext r
  unfold mf_due rf_isDue
  have : (!decide (t = 0)) = decide (0 < t) := by
    by_cases h : t = 0
    · simp [h]
    · have : 0 < t := Int32.lt_of_le_of_ne ht (Ne.symm h)
      simp [h, this]
  rw [this]
theorem mf_sim_due {Z : List mf_T} {L : List mf_O} {R : List mf_T} (h : mf_Bk Z L R) {a : Int32} (ha : 0 ≤ a) :
    (mf_dueAt a L = none ∧ rf_dueAt a R = none) ∨ ∃ j k y t, mf_dueAt a L = some (j, y) ∧ rf_dueAt a R = some (k, (y, t)) ∧ Z[j]? = some (y, t) ∧ R[k]? = some (y, t) := by
  obtain ⟨rfl, hso, hP, -, -⟩ := h
  unfold mf_dueAt
  rw [mf_due_eq ha]
  refine mf_sim_gen hP (ok := rf_isDue a) (ltc := fun _ _ => false) (ltr := fun a b => decide (a.2 < b.2)) ?_
  intro j y t i x k hc hj hr hi
  obtain ⟨c1, c2, c3, c4⟩ := (mf_pick_spec (ok := rf_isDue a) (lt := fun _ _ => false) (fun _ _ _ _ _ _ h _ => h) (fun _ _ _ _ _ _ h _ => h) (fun _ _ => rfl) (Z.map (·.1))).2 j y hc
  obtain ⟨r1, r2, r3, r4⟩ := (mf_pick_spec (ok := fun x : mf_T => rf_isDue a x.1) (lt := fun a b => decide (a.2 < b.2)) (fun a b c _ _ _ h1 h2 => by simp only [decide_eq_true_eq] at *; exact Int32.lt_trans h1 h2) (fun a b c _ _ _ h1 h2 => by simp only [decide_eq_false_iff_not, Int32.not_lt] at *; exact Int32.le_trans h2 h1) (fun a _ => by simp) R).2 k x hr
  have hm : (y, t) ∈ R := hP.mem_iff.mpr (List.mem_of_getElem? hj)
  have h1 : ¬ t < x.2 := by simpa using r3 _ hm c2
  rcases Nat.lt_trichotomy i j with hij | hij | hij
  · exact absurd (c4 i x.1 hij (by rw [List.getElem?_map, hi]; rfl) r2) (by simp)
  · exact hij
  · exact absurd (mf_pw hso hij hj hi) h1
-- changes of the books
theorem mf_perm_erase {α : Type} {l : List α} {k : Nat} {x : α} (h : l[k]? = some x) : l.Perm (x :: l.eraseIdx k) := by
  obtain ⟨h1, h2⟩ := List.getElem?_eq_some_iff.mp h
  rw [List.eraseIdx_eq_take_drop_succ]
  have e : l = l.take k ++ x :: l.drop (k + 1) := by
    rw [← h2, List.getElem_cons_drop]
    exact (List.take_append_drop k l).symm
  exact (List.Perm.of_eq e).trans List.perm_middle
theorem mf_perm_set {α : Type} {l : List α} {k : Nat} {x y : α} (h : l[k]? = some x) : (l.set k y).Perm (y :: l.eraseIdx k) := by
  have hk := (List.getElem?_eq_some_iff.mp h).1
  have := mf_perm_erase (l := l.set k y) (k := k) (x := y) (by rw [List.getElem?_set_self hk])
  rwa [List.eraseIdx_set_eq] at this
theorem mf_perm_drop {α : Type} {l : List α} {k : Nat} {x : α} (h : l[k]? = some x) : l.Perm (x :: rf_drop l k) := by
  have hk := (List.getElem?_eq_some_iff.mp h).1
  have hne : l ≠ [] := fun e => by rw [e] at hk; exact absurd hk (Nat.not_lt_zero _)
  have hz := List.getLast?_eq_some_getLast hne
  unfold rf_drop
  rw [hz]
  show l.Perm (x :: (l.set k (l.getLast hne)).dropLast)
  have hsplit : l = l.dropLast ++ [l.getLast hne] := (List.dropLast_concat_getLast hne).symm
  generalize l.getLast hne = z at hsplit hz
  generalize l.dropLast = a at hsplit
  subst hsplit
  by_cases hka : k < a.length
  · rw [List.set_append_left _ _ hka, List.dropLast_concat]
    rw [List.getElem?_append_left hka] at h
    refine (List.perm_append_singleton z a).trans ?_
    refine ((mf_perm_erase h).cons z).trans ?_
    refine (List.Perm.swap x z _).trans ?_
    exact (mf_perm_set (y := z) h).symm.cons x
  · have hk2 : k = a.length := by
      rw [List.length_append] at hk
      simp at hk
      omega
    subst hk2
    rw [List.getElem?_append_right (Nat.le_refl _)] at h
    simp at h
    subst h
    rw [List.set_append_right _ _ (Nat.le_refl _)]
    simp
theorem mf_map_erase {α β : Type} (f : α → β) (l : List α) (k : Nat) : (l.map f).eraseIdx k = (l.eraseIdx k).map f := by
  rw [List.eraseIdx_eq_take_drop_succ, List.eraseIdx_eq_take_drop_succ, List.map_append, List.map_take, List.map_drop]
theorem mf_bk_erase {Z : List mf_T} {L : List mf_O} {R : List mf_T} {j k : Nat} {x : mf_T} (h : mf_Bk Z L R) (hj : Z[j]? = some x) (hk : R[k]? = some x) : mf_Bk (Z.eraseIdx j) (L.eraseIdx j) (rf_drop R k) := by
  obtain ⟨rfl, hso, hP, ho, hid⟩ := h
  refine ⟨mf_map_erase _ _ _, hso.sublist (List.eraseIdx_sublist _ _), ?_, fun y hy => ho y (List.eraseIdx_subset hy), hid.sublist (List.eraseIdx_sublist _ _)⟩
  exact List.Perm.cons_inv (((mf_perm_drop hk).symm.trans hP).trans (mf_perm_erase hj))
theorem mf_pw_key {α κ : Type} {P : κ → κ → Prop} (f : α → κ) {l : List α} (h : l.Pairwise (fun a b => P (f a) (f b))) {j : Nat} {x y : α} (hj : l[j]? = some x) (e : f y = f x) : (l.set j y).Pairwise (fun a b => P (f a) (f b)) := by
  have h1 : (l.map f).Pairwise P := List.pairwise_map.mpr h
  have h2 : (l.set j y).map f = l.map f := by
    rw [List.map_set, e]
    obtain ⟨a, b⟩ := List.getElem?_eq_some_iff.mp hj
    rw [← b, ← List.getElem_map f (h := by rw [List.length_map]; exact a)]
    exact List.set_getElem_self _
  rw [← h2] at h1
  exact List.pairwise_map.mp h1
theorem mf_bk_set {Z : List mf_T} {L : List mf_O} {R : List mf_T} {j k : Nat} {x : mf_T} {y : mf_O} (h : mf_Bk Z L R) (hj : Z[j]? = some x) (hk : R[k]? = some x) (hi : mf_id y = mf_id x.1) (hy : mf_ok y) : mf_Bk (Z.set j (y, x.2)) (L.set j y) (R.set k (y, x.2)) := by
  obtain ⟨rfl, hso, hP, ho, hid⟩ := h
  refine ⟨by rw [List.map_set], mf_pw_key (fun a : mf_T => a.2) (P := fun a b => a < b) hso hj rfl, ?_, fun z hz => ?_, mf_pw_key (fun a : mf_T => mf_id a.1) (P := fun a b => a ≠ b) hid hj hi⟩
  · have h1 : (R.eraseIdx k).Perm (Z.eraseIdx j) := List.Perm.cons_inv (((mf_perm_erase hk).symm.trans hP).trans (mf_perm_erase hj))
    exact ((mf_perm_set hk).trans (h1.cons _)).trans (mf_perm_set hj).symm
  · rcases List.mem_or_eq_of_mem_set hz with hz | hz
    · exact ho z hz
    · rw [hz]; exact hy
theorem mf_bk_push {Z : List mf_T} {L : List mf_O} {R : List mf_T} {c : mf_O} {t : Int32} (h : mf_Bk Z L R) (hc : mf_ok c) (hi : ∀ x ∈ Z, mf_id x.1 ≠ mf_id c) (ht : ∀ x ∈ Z, x.2 < t) : mf_Bk (Z ++ [(c, t)]) (L ++ [c]) (R ++ [(c, t)]) := by
  obtain ⟨rfl, hso, hP, ho, hid⟩ := h
  refine ⟨by rw [List.map_append]; rfl, ?_, hP.append_right _, fun z hz => ?_, ?_⟩
  · refine List.pairwise_append.mpr ⟨hso, List.pairwise_singleton _ _, fun a ha b hb => ?_⟩
    rw [List.mem_singleton.mp hb]; exact ht a ha
  · rcases List.mem_append.mp hz with hz | hz
    · exact ho z hz
    · rw [List.mem_singleton.mp hz]; exact hc
  · refine List.pairwise_append.mpr ⟨hid, List.pairwise_singleton _ _, fun a ha b hb => ?_⟩
    rw [List.mem_singleton.mp hb]; exact hi a ha
end
section
/-! matching and stops, value for value -/
def mf_Sub (Z' Z : List mf_T) : Prop := Z'.length ≤ Z.length ∧ ∀ x ∈ Z', ∃ y ∈ Z, mf_id x.1 = mf_id y.1 ∧ x.2 = y.2
theorem mf_Sub.rf {Z : List mf_T} : mf_Sub Z Z := ⟨Nat.le_refl _, fun x h => ⟨x, h, rfl, rfl⟩⟩
theorem mf_Sub.tr {A B C : List mf_T} (h1 : mf_Sub A B) (h2 : mf_Sub B C) : mf_Sub A C := ⟨Nat.le_trans h1.1 h2.1, fun x h => by
  obtain ⟨y, a, b, c⟩ := h1.2 x h
  obtain ⟨z, d, e, f⟩ := h2.2 y a
  exact ⟨z, d, b.trans e, c.trans f⟩⟩
theorem mf_Sub.erase {Z : List mf_T} {j : Nat} : mf_Sub (Z.eraseIdx j) Z := ⟨(List.eraseIdx_sublist Z j).length_le, fun x h => ⟨x, List.eraseIdx_subset h, rfl, rfl⟩⟩
theorem mf_Sub.set {Z : List mf_T} {j : Nat} {x : mf_T} {y : mf_O} (hj : Z[j]? = some x) (hi : mf_id y = mf_id x.1) : mf_Sub (Z.set j (y, x.2)) Z := ⟨by rw [List.length_set]; exact Nat.le_refl _, fun z h => by
  rcases List.mem_or_eq_of_mem_set h with h | h
  · exact ⟨z, h, rfl, rfl⟩
  · rw [h]; exact ⟨x, List.mem_of_getElem? hj, hi, rfl⟩⟩
theorem mf_other_1 {s : Int32} (h : s = 0 ∨ s = 1) : 1 - s = mf_other s := by
  rcases h with rfl | rfl <;> decide
theorem mf_other_in {s : Int32} : mf_other s = 0 ∨ mf_other s = 1 := by
  unfold mf_other; split <;> simp
theorem mf_other_2 {s : Int32} (h : s = 0 ∨ s = 1) : mf_other (mf_other s) = s := by
  rcases h with rfl | rfl <;> decide
theorem mf_fit_eq {s p : Int32} {r : mf_O} (hs : s = 0 ∨ s = 1) (hr : mf_sd r = mf_other s) : mf_fit r p = rf_fits s p r := by
  unfold mf_fit rf_fits
  rw [hr, mf_other_2 hs]
  have h1 : ∀ a b : Int32, (decide (a = b) || decide (b < a)) = decide (b ≤ a) := by
    intro a b
    rw [Bool.eq_iff_iff]
    simp only [Bool.or_eq_true, decide_eq_true_eq, ← Int32.toInt_inj, Int32.lt_iff_toInt_lt, Int32.le_iff_toInt_le]
    omega
  have h2 : ∀ a b : Int32, (decide (a = b) || decide (a < b)) = decide (a ≤ b) := by
    intro a b
    rw [Bool.eq_iff_iff]
    simp only [Bool.or_eq_true, decide_eq_true_eq, ← Int32.toInt_inj, Int32.lt_iff_toInt_lt, Int32.le_iff_toInt_le]
    omega
  congr 1
  unfold mf_better
  by_cases h0 : s = 0
  · rw [if_pos h0, if_pos h0, h1]
  · rw [if_neg h0, if_neg h0, h2]
theorem mf_min_eq (a b : Int32) : mf_min a b = rf_min a b := by
  unfold mf_min rf_min
  by_cases h : a < b
  · rw [if_pos h, if_pos (Int32.le_iff_lt_or_eq.mpr (Or.inl h))]
  · rw [if_neg h]
    by_cases h2 : a ≤ b
    · rw [if_pos h2]; exact Int32.le_antisymm h2 (Int32.not_lt.mp h)
    · rw [if_neg h2]
theorem mf_le_of_lt {a b : Int32} (h : a < b) : a ≤ b := Int32.le_iff_lt_or_eq.mpr (Or.inl h)
theorem mf_sim_meet {Z : List mf_T} {L : List mf_O} {R : List mf_T} (h : mf_Bk Z L R) (c : mf_O) {j k : Nat} {y : mf_O} {t : Int32} (hj : Z[j]? = some (y, t)) (hk : R[k]? = some (y, t)) (met : Int32) (g : mf_G) :
    (mf_meet c j y (L, met, g)).1 = mf_setLf c (rf_meet (mf_id c) (mf_ow c) (mf_lf c) k (y, t) (R, met, g)).1 ∧ (mf_meet c j y (L, met, g)).2.2 = (rf_meet (mf_id c) (mf_ow c) (mf_lf c) k (y, t) (R, met, g)).2.2 ∧
    (0 ≤ g.2.1 → 0 ≤ (mf_meet c j y (L, met, g)).2.2.2.2.1) ∧ (mf_meet c j y (L, met, g)).2.2.2.1 ≤ g.1 + 1 ∧
    ∃ Z', mf_Bk Z' (mf_meet c j y (L, met, g)).2.1 (rf_meet (mf_id c) (mf_ow c) (mf_lf c) k (y, t) (R, met, g)).2.1 ∧ mf_Sub Z' Z := by
  have hy : mf_ok y := h.2.2.2.1 _ (List.mem_of_getElem? hj)
  unfold mf_meet rf_meet
  rw [mf_min_eq]
  by_cases ho : mf_ow y = mf_ow c
  · rw [if_pos ho, if_pos ho]
    exact ⟨rfl, rfl, fun h => h, Nat.le_succ _, Z.eraseIdx j, mf_bk_erase h hj hk, mf_Sub.erase⟩
  · rw [if_neg ho, if_neg ho]
    refine ⟨rfl, rfl, fun _ => mf_le_of_lt hy.2, Nat.le_refl _, ?_⟩
    by_cases hz : mf_lf y - rf_min (mf_lf c) (mf_lf y) = 0
    · simp only [hz, if_true]
      exact ⟨Z.eraseIdx j, mf_bk_erase h hj hk, mf_Sub.erase⟩
    · simp only [hz, if_false]
      exact ⟨Z.set j (mf_setLf y (mf_lf y - rf_min (mf_lf c) (mf_lf y)), t), mf_bk_set h hj hk rfl hy, mf_Sub.set hj rfl⟩
theorem mf_sim_match (p : Int32) : ∀ (f : Nat) (Z : List mf_T) (L : List mf_O) (R : List mf_T) (c : mf_O) (met : Int32) (g : mf_G), mf_Bk Z L R → (mf_sd c = 0 ∨ mf_sd c = 1) →
    (mf_match f p c (L, met, g)).1 = mf_setLf c (rf_match (mf_id c) (mf_ow c) (mf_sd c) p f (mf_lf c) (R, met, g)).1 ∧ (mf_match f p c (L, met, g)).2.2 = (rf_match (mf_id c) (mf_ow c) (mf_sd c) p f (mf_lf c) (R, met, g)).2.2 ∧
    (0 ≤ g.2.1 → 0 ≤ (mf_match f p c (L, met, g)).2.2.2.2.1) ∧ (mf_match f p c (L, met, g)).2.2.2.1 ≤ g.1 + f ∧
    ∃ Z', mf_Bk Z' (mf_match f p c (L, met, g)).2.1 (rf_match (mf_id c) (mf_ow c) (mf_sd c) p f (mf_lf c) (R, met, g)).2.1 ∧ mf_Sub Z' Z := by
  intro f
  induction f with
  | zero => intro Z L R c met g h hs; exact ⟨rfl, rfl, fun h => h, Nat.le_refl _, Z, h, mf_Sub.rf⟩
  | succ f ih =>
    intro Z L R c met g h hs
    unfold mf_match rf_match
    by_cases h0 : 0 < mf_lf c
    · rw [if_pos h0, if_pos h0, mf_other_1 hs]
      rcases mf_sim_first h (mf_other (mf_sd c)) with ⟨e1, e2⟩ | ⟨j, k, y, t, e1, e2, hj, hk⟩
      · simp only [e1, e2]
        exact ⟨by first | rfl | trivial, by first | rfl | trivial, fun h => h, Nat.le_add_right _ _, Z, h, mf_Sub.rf⟩
      · simp only [e1, e2]
        have hsy : mf_sd y = mf_other (mf_sd c) := mf_rests_sd ((mf_pick_in _ _ _).2 j y e1).2
        rw [mf_fit_eq hs hsy]
        by_cases hf : rf_fits (mf_sd c) p y = true
        · rw [if_pos hf, if_pos hf]
          obtain ⟨m1, m2, m3, m4, Z1, m5, m6⟩ := mf_sim_meet h c hj hk met g
          generalize mf_meet c j y (L, met, g) = a at m1 m2 m3 m4 m5 ⊢
          generalize rf_meet (mf_id c) (mf_ow c) (mf_lf c) k (y, t) (R, met, g) = b at m1 m2 m3 m4 m5 ⊢
          obtain ⟨a1, aL, am, ag⟩ := a
          obtain ⟨b1, bR, bm, bg⟩ := b
          simp only at m1 m2 m3 m4 m5 ⊢
          cases m2
          subst m1
          obtain ⟨i1, i2, i3, i4, Z2, i5, i6⟩ := ih Z1 aL bR (mf_setLf c b1) am ag m5 hs
          exact ⟨i1, i2, fun h => i3 (m3 h), by omega, Z2, i5, i6.tr m6⟩
        · rw [if_neg hf, if_neg hf]
          exact ⟨rfl, rfl, fun h => h, Nat.le_add_right _ _, Z, h, mf_Sub.rf⟩
    · rw [if_neg h0, if_neg h0]
      exact ⟨rfl, rfl, fun h => h, Nat.le_add_right _ _, Z, h, mf_Sub.rf⟩
theorem mf_sim_stops : ∀ (f : Nat) (Z : List mf_T) (L : List mf_O) (R : List mf_T) (clk due met : Int32) (g : mf_G), mf_Bk Z L R → 0 ≤ g.2.1 →
    (rf_stops f (R, clk, due, met, g)).2.1 = clk ∧ (mf_stops f (L, due, met, g)).2 = (rf_stops f (R, clk, due, met, g)).2.2 ∧ 0 ≤ (mf_stops f (L, due, met, g)).2.2.2.2.1 ∧ (mf_stops f (L, due, met, g)).2.2.2.1 ≤ g.1 + 41 * f ∧
    ∃ Z', mf_Bk Z' (mf_stops f (L, due, met, g)).1 (rf_stops f (R, clk, due, met, g)).1 ∧ mf_Sub Z' Z := by
  intro f
  induction f with
  | zero => intro Z L R clk due met g h hg; exact ⟨rfl, rfl, hg, Nat.le_refl _, Z, h, mf_Sub.rf⟩
  | succ f ih =>
    intro Z L R clk due met g h hg
    unfold mf_stops rf_stops
    rcases mf_sim_due h hg with ⟨e1, e2⟩ | ⟨j, k, y, t, e1, e2, hj, hk⟩
    · simp only [e1, e2]
      exact ⟨by first | rfl | trivial, by first | rfl | trivial, hg, Nat.le_add_right _ _, Z, h, mf_Sub.rf⟩
    · simp only [e1, e2]
      have hy : mf_ok y := h.2.2.2.1 _ (List.mem_of_getElem? hj)
      obtain ⟨m1, m2, m3, m4, Z1, m5, m6⟩ := mf_sim_match 0 41 (Z.eraseIdx j) (L.eraseIdx j) (rf_drop R k) y met g (mf_bk_erase h hj hk) hy.1
      generalize mf_match 41 0 y (L.eraseIdx j, met, g) = a at m1 m2 m3 m4 m5 ⊢
      generalize rf_match (mf_id y) (mf_ow y) (mf_sd y) 0 41 (mf_lf y) (rf_drop R k, met, g) = b at m1 m2 m3 m4 m5 ⊢
      obtain ⟨a1, aL, am, ag⟩ := a
      obtain ⟨b1, bR, bm, bg⟩ := b
      simp only at m1 m2 m3 m4 m5 ⊢
      cases m2
      obtain ⟨i1, i2, i3, i4, Z2, i5, i6⟩ := ih Z1 aL bR clk (due + 1) am ag m5 (m3 hg)
      exact ⟨i1, i2, i3, by omega, Z2, i5, (i6.tr m6).tr mf_Sub.erase⟩
theorem mf_sim_in {Z : List mf_T} {L : List mf_O} {R : List mf_T} (h : mf_Bk Z L R) (hl : Z.length ≤ 39) {c : mf_O} (hc : mf_ok c) (hid : ∀ x ∈ Z, mf_id x.1 ≠ mf_id c) {clk : Int32} (ht : ∀ x ∈ Z, x.2 ≤ clk) (hk : clk < clk + 1) (kind due met : Int32) {g : mf_G} (hg : 0 ≤ g.2.1)
    {m : Int32 × rf_M} (hm : m = if kind = 4 ∨ kind = 5 then (mf_lf c, R, met, g) else rf_match (mf_id c) (mf_ow c) (mf_sd c) (if kind = 1 then 0 else mf_pr c) 41 (mf_lf c) (R, met, g))
    {b : List mf_T × Int32} (hb : b = if (kind = 0 ∨ kind = 4 ∨ kind = 5) ∧ 0 < m.1 then rf_keep (mf_setLf c m.1) (m.2.1, clk) else (m.2.1, clk)) :
    (mf_comeIn c kind (L, due, met, g)).1 = mf_lf c - m.1 ∧ (mf_comeIn c kind (L, due, met, g)).2.2 = (rf_stops 40 (b.1, b.2, due, m.2.2)).2.2 ∧ 0 ≤ (mf_comeIn c kind (L, due, met, g)).2.2.2.2.2.1 ∧ (mf_comeIn c kind (L, due, met, g)).2.2.2.2.1 ≤ g.1 + 1681 ∧
    ((rf_stops 40 (b.1, b.2, due, m.2.2)).2.1 = clk ∨ (rf_stops 40 (b.1, b.2, due, m.2.2)).2.1 = clk + 1) ∧
    ∃ Z', mf_Bk Z' (mf_comeIn c kind (L, due, met, g)).2.1 (rf_stops 40 (b.1, b.2, due, m.2.2)).1 ∧ Z'.length ≤ 40 ∧ ∀ x ∈ Z', x.2 ≤ (rf_stops 40 (b.1, b.2, due, m.2.2)).2.1 := by
  have hA : ∃ a : mf_O × mf_M, a = (if kind = 4 ∨ kind = 5 then (c, L, met, g) else mf_match 41 (if kind = 1 then 0 else mf_pr c) c (L, met, g)) ∧ a.1 = mf_setLf c m.1 ∧ a.2.2 = m.2.2 ∧ 0 ≤ a.2.2.2.2.1 ∧ a.2.2.2.1 ≤ g.1 + 41 ∧ ∃ Z', mf_Bk Z' a.2.1 m.2.1 ∧ mf_Sub Z' Z := by
    by_cases hkd : kind = 4 ∨ kind = 5
    · rw [if_pos hkd] at hm
      rw [if_pos hkd]
      subst hm
      exact ⟨_, rfl, rfl, rfl, hg, Nat.le_add_right _ _, Z, h, mf_Sub.rf⟩
    · rw [if_neg hkd] at hm
      rw [if_neg hkd]
      obtain ⟨m1, m2, m3, m4, Z1, m5, m6⟩ := mf_sim_match (if kind = 1 then 0 else mf_pr c) 41 Z L R c met g h hc.1
      subst hm
      exact ⟨_, rfl, m1, m2, m3 hg, m4, Z1, m5, m6⟩
  obtain ⟨a, ea, a1, a2, a3, a4, Z1, hB1, hS1⟩ := hA
  unfold mf_comeIn
  simp only [← ea]
  obtain ⟨ac, aL, am, ag⟩ := a
  obtain ⟨mq, mR, mm, mg⟩ := m
  simp only at a1 a2 a3 a4 hB1 hb ⊢
  cases a2
  subst a1
  show mf_lf c - mq = mf_lf c - mq ∧ _
  refine ⟨rfl, ?_⟩
  have hbk : ∃ Z2, mf_Bk Z2 (if (kind = 0 ∨ kind = 4 ∨ kind = 5) ∧ 0 < mf_lf (mf_setLf c mq) then aL ++ [mf_setLf c mq] else aL) b.1 ∧ Z2.length ≤ 40 ∧ (∀ x ∈ Z2, x.2 ≤ b.2) ∧ (b.2 = clk ∨ b.2 = clk + 1) := by
    by_cases hc2 : (kind = 0 ∨ kind = 4 ∨ kind = 5) ∧ 0 < mq
    · rw [if_pos hc2] at hb
      rw [if_pos (show (kind = 0 ∨ kind = 4 ∨ kind = 5) ∧ 0 < mf_lf (mf_setLf c mq) from hc2)]
      subst hb
      refine ⟨Z1 ++ [(mf_setLf c mq, clk + 1)], mf_bk_push hB1 hc (fun x hx => ?_) (fun x hx => ?_), ?_, fun x hx => ?_, Or.inr rfl⟩
      · obtain ⟨y, hy, e1, e2⟩ := hS1.2 x hx
        rw [e1]; exact hid y hy
      · obtain ⟨y, hy, e1, e2⟩ := hS1.2 x hx
        rw [e2]; exact Int32.lt_of_le_of_lt (ht y hy) hk
      · rw [List.length_append]
        have := hS1.1
        simp
        omega
      · rcases List.mem_append.mp hx with hx | hx
        · obtain ⟨y, hy, e1, e2⟩ := hS1.2 x hx
          rw [e2]; exact mf_le_of_lt (Int32.lt_of_le_of_lt (ht y hy) hk)
        · rw [List.mem_singleton.mp hx]; exact Int32.le_refl _
    · rw [if_neg hc2] at hb
      rw [if_neg (show ¬ ((kind = 0 ∨ kind = 4 ∨ kind = 5) ∧ 0 < mf_lf (mf_setLf c mq)) from hc2)]
      subst hb
      refine ⟨Z1, hB1, by have := hS1.1; omega, fun x hx => ?_, Or.inl rfl⟩
      obtain ⟨y, hy, e1, e2⟩ := hS1.2 x hx
      rw [e2]; exact ht y hy
  obtain ⟨Z2, hB2, hl2, ht2, hb2⟩ := hbk
  generalize (if (kind = 0 ∨ kind = 4 ∨ kind = 5) ∧ 0 < mf_lf (mf_setLf c mq) then aL ++ [mf_setLf c mq] else aL) = L2 at hB2 ⊢
  obtain ⟨i1, i2, i3, i4, Z3, i5, i6⟩ := mf_sim_stops 40 Z2 L2 b.1 b.2 due am ag hB2 a3
  refine ⟨i2, i3, by omega, by rw [i1]; exact hb2, Z3, i5, by have := i6.1; omega, fun x hx => ?_⟩
  obtain ⟨y, hy, e1, e2⟩ := i6.2 x hx
  rw [e2, i1]; exact ht2 y hy
end
section
/-! the public calls, value for value -/
theorem mf_fold_add {α : Type} (f : α → Int32) : ∀ (l : List α) (a : Int32), l.foldl (fun a x => a + f x) a = a + mf_sum f l := by
  intro l
  induction l with
  | nil => intro a; simp [mf_sum]
  | cons x l ih =>
    intro a
    unfold mf_sum
    rw [List.foldl_cons, List.foldl_cons, ih, ih (0 + f x), Int32.zero_add, Int32.add_assoc]
theorem mf_sum_nil {α : Type} (f : α → Int32) : mf_sum f [] = 0 := rfl
theorem mf_sum_cons {α : Type} (f : α → Int32) (x : α) (l : List α) : mf_sum f (x :: l) = f x + mf_sum f l := by
  show (x :: l).foldl (fun a x => a + f x) 0 = _
  rw [List.foldl_cons, mf_fold_add, Int32.zero_add]
theorem mf_sum_append {α : Type} (f : α → Int32) (a b : List α) : mf_sum f (a ++ b) = mf_sum f a + mf_sum f b := by
  show (a ++ b).foldl (fun a x => a + f x) 0 = _
  rw [List.foldl_append, mf_fold_add]; rfl
theorem mf_sum_snoc {α : Type} (f : α → Int32) (l : List α) (x : α) : mf_sum f (l ++ [x]) = mf_sum f l + f x := by
  rw [mf_sum_append, mf_sum_cons, mf_sum_nil, Int32.add_zero]
theorem mf_sum_map {α β : Type} (f : β → Int32) (g : α → β) (l : List α) : mf_sum f (l.map g) = mf_sum (fun x => f (g x)) l := by
  induction l with
  | nil => rfl
  | cons x l ih => rw [List.map_cons, mf_sum_cons, mf_sum_cons, ih]
theorem mf_sum_perm {α : Type} (f : α → Int32) {a b : List α} (h : a.Perm b) : mf_sum f a = mf_sum f b := by
  induction h with
  | nil => rfl
  | cons x _ ih => rw [mf_sum_cons, mf_sum_cons, ih]
  | swap x y l => rw [mf_sum_cons, mf_sum_cons, mf_sum_cons, mf_sum_cons, ← Int32.add_assoc, ← Int32.add_assoc, Int32.add_comm (f x)]
  | trans _ _ h1 h2 => exact h1.trans h2
theorem mf_sum_congr {α : Type} {f g : α → Int32} {l : List α} (h : ∀ x ∈ l, f x = g x) : mf_sum f l = mf_sum g l := by
  induction l with
  | nil => rfl
  | cons x l ih => rw [mf_sum_cons, mf_sum_cons, h x List.mem_cons_self, ih (fun y hy => h y (List.mem_cons_of_mem _ hy))]
theorem mf_sum_zero {α : Type} {f : α → Int32} {l : List α} (h : ∀ x ∈ l, f x = 0) : mf_sum f l = 0 := by
  induction l with
  | nil => rfl
  | cons x l ih => rw [mf_sum_cons, h x List.mem_cons_self, ih (fun y hy => h y (List.mem_cons_of_mem _ hy)), Int32.add_zero]
/-- a sum over the class's orders is the sum over the reference's -/
theorem mf_sim_sum {Z : List mf_T} {L : List mf_O} {R : List mf_T} (h : mf_Bk Z L R) {f g : mf_O → Int32} (hf : ∀ x ∈ Z, f x.1 = g x.1) : mf_sum f L = mf_sum (fun x : mf_T => g x.1) R := by
  obtain ⟨rfl, -, hP, -, -⟩ := h
  rw [mf_sum_map, mf_sum_perm _ hP]
  exact mf_sum_congr hf
theorem mf_bk_len {Z : List mf_T} {L : List mf_O} {R : List mf_T} (h : mf_Bk Z L R) : L.length = Z.length ∧ R.length = Z.length := by
  obtain ⟨rfl, -, hP, -, -⟩ := h
  exact ⟨List.length_map _, hP.length_eq⟩
def mf_Sim (n : Nat) (st : mf_S) (rst : rf_S) : Prop := (∃ Z, mf_Bk Z st.1 rst.1 ∧ Z.length ≤ 40 ∧ ∀ x ∈ Z, x.2 ≤ rst.2.1) ∧ (∃ c, c ≤ n ∧ rst.2.1 = nI c) ∧ st.2 = rst.2.2 ∧ 0 ≤ st.2.2.2.2.1 ∧ st.2.2.2.1 ≤ 1681 * n
theorem mf_Sim.up {n : Nat} {st : mf_S} {rst : rf_S} (h : mf_Sim n st rst) : mf_Sim (n + 1) st rst := by
  obtain ⟨h1, ⟨c, h2, h3⟩, h4, h5, h6⟩ := h
  exact ⟨h1, ⟨c, by omega, h3⟩, h4, h5, by omega⟩
theorem mf_erase_ne {Z : List mf_T} {j : Nat} {x : mf_T} (h : Z.Pairwise (fun a b => mf_id a.1 ≠ mf_id b.1)) (hj : Z[j]? = some x) : ∀ z ∈ Z.eraseIdx j, mf_id z.1 ≠ mf_id x.1 := by
  have h1 := (List.Perm.pairwise_iff (R := fun a b : mf_T => mf_id a.1 ≠ mf_id b.1) (fun h => Ne.symm h) (mf_perm_erase hj)).mp h
  intro z hz
  exact Ne.symm ((List.pairwise_cons.mp h1).1 z hz)
theorem mf_erase_len {α : Type} {l : List α} {j : Nat} {x : α} (hj : l[j]? = some x) : (l.eraseIdx j).length + 1 = l.length := by
  have := (mf_perm_erase hj).length_eq
  rw [List.length_cons] at this
  omega
theorem mf_refused_eq {Z : List mf_T} {L : List mf_O} {R : List mf_T} (h : mf_Bk Z L R) {c : mf_O} (hs : mf_sd c = 0 ∨ mf_sd c = 1) (kind : Int32) : mf_refused c kind L = rf_refused (mf_ow c) (mf_sd c) kind (mf_pr c) (mf_lf c) R := by
  unfold mf_refused rf_refused
  by_cases h3 : kind = 3
  · rw [if_pos h3, if_pos h3]
    unfold rf_within
    rw [mf_sim_sum h (f := fun r => if mf_rests r (mf_other (mf_sd c)) && (mf_fit r (mf_pr c) && !decide (mf_ow r = mf_ow c)) then mf_lf r else 0) (g := fun r => if decide (mf_wt r = 0) && (!decide (mf_sd r = mf_sd c) && (!decide (mf_ow r = mf_ow c) && rf_fits (mf_sd c) (mf_pr c) r)) then mf_lf r else 0)]
    intro x hx
    obtain ⟨ho, -⟩ := h.2.2.2.1 x hx
    have hsd : mf_sd x.1 = mf_other (mf_sd c) ↔ ¬ mf_sd x.1 = mf_sd c := by
      unfold mf_other
      rcases ho with ho | ho <;> rcases hs with hs | hs <;> rw [ho, hs] <;> decide
    have hb : (mf_rests x.1 (mf_other (mf_sd c)) && (mf_fit x.1 (mf_pr c) && !decide (mf_ow x.1 = mf_ow c))) = (decide (mf_wt x.1 = 0) && (!decide (mf_sd x.1 = mf_sd c) && (!decide (mf_ow x.1 = mf_ow c) && rf_fits (mf_sd c) (mf_pr c) x.1))) := by
      unfold mf_rests
      by_cases e : mf_sd x.1 = mf_other (mf_sd c)
      · have e2 := hsd.mp e
        rw [mf_fit_eq hs e, decide_eq_true e, decide_eq_false e2]
        simp only [Bool.and_true, Bool.not_false, Bool.true_and]
        rw [Bool.and_comm (rf_fits _ _ _)]
      · have e2 : mf_sd x.1 = mf_sd c := Classical.byContradiction fun z => e (hsd.mpr z)
        rw [decide_eq_false e, decide_eq_true e2]
        simp only [Bool.and_false, Bool.not_true, Bool.false_and]
    show (if _ then _ else _) = (if _ then _ else _)
    rw [hb]
  · rw [if_neg h3, if_neg h3]
    by_cases h4 : kind = 4
    · rw [if_pos h4, mf_other_1 hs]
      simp only [h4, decide_true, Bool.true_and]
      rcases mf_sim_first h (mf_other (mf_sd c)) with ⟨e1, e2⟩ | ⟨j, k, y, t, e1, e2, hj, hk⟩
      · rw [e1, e2]
      · rw [e1, e2]
        exact mf_fit_eq hs (mf_rests_sd ((mf_pick_in _ _ _).2 j y e1).2)
    · rw [if_neg h4]
      simp [h4]
theorem mf_kind_in {h : Int32} (hk : mf_kind h ≤ 5) : mf_kind h = 0 ∨ mf_kind h = 1 ∨ mf_kind h = 2 ∨ mf_kind h = 3 ∨ mf_kind h = 4 ∨ mf_kind h = 5 := by
  obtain ⟨j, hj, e⟩ := pk_andE (h >>> 1) (m := 7) 3 (by decide)
  have e' : mf_kind h = nI j := e
  rw [e'] at hk ⊢
  match j, hj with
  | 0, _ => decide
  | 1, _ => decide
  | 2, _ => decide
  | 3, _ => decide
  | 4, _ => decide
  | 5, _ => decide
  | 6, _ => exact absurd hk (by decide)
  | 7, _ => exact absurd hk (by decide)
theorem mf_and1_in (h : Int32) : h &&& 1 = 0 ∨ h &&& 1 = 1 := by
  obtain ⟨j, hj, e⟩ := pk_andE h (m := 1) 1 (by decide)
  rw [e]
  match j, hj with
  | 0, _ => decide
  | 1, _ => decide
theorem mf_lt_succ {c n : Nat} (hn : n < 1000000) (hc : c ≤ n) : nI c < nI c + 1 := by
  rw [nI_1]; exact nI_lt (by omega) (by omega)
theorem mf_sim_fin {n : Nat} (hn : n < 1000000) {clk : Int32} {c : Nat} (hc : c ≤ n) (ec : clk = nI c) {x : Int32} (h : x = clk ∨ x = clk + 1) : ∃ c, c ≤ n + 1 ∧ x = nI c := by
  rcases h with h | h
  · exact ⟨c, by omega, h.trans ec⟩
  · exact ⟨c + 1, by omega, by rw [h, ec, nI_1]⟩
theorem mf_pos_of {q : Int32} (h : 1 ≤ q) : 0 < q := by
  rw [Int32.le_iff_toInt_le] at h
  rw [Int32.lt_iff_toInt_lt]
  have h1 : (1 : Int32).toInt = 1 := by decide
  have h0 : (0 : Int32).toInt = 0 := by decide
  omega
theorem mf_sim_submit {n : Nat} {st : mf_S} {rst : rf_S} (hn : n < 1000000) (h : mf_Sim n st rst) (i hw p q : Int32) : (mf_submit i hw p q st).1 = (rf_submit i hw p q rst).1 ∧ mf_Sim (n + 1) (mf_submit i hw p q st).2 (rf_submit i hw p q rst).2 := by
  have hup := h.up
  obtain ⟨L, due, met, g⟩ := st
  obtain ⟨R, clk, due', met', g'⟩ := rst
  obtain ⟨⟨Z, hB, hl, ht⟩, ⟨c, hc, ec⟩, h4, h5, h6⟩ := h
  simp only at hB ht ec h4 h5 h6
  cases h4
  unfold mf_submit rf_submit
  by_cases hgood : (mf_howOk hw && (mf_prOk p && mf_qtOk q)) = true
  · rw [if_pos hgood, if_pos hgood]
    simp only [Bool.and_eq_true, mf_howOk, mf_prOk, mf_qtOk, decide_eq_true_eq] at hgood
    obtain ⟨⟨-, -, hkd5⟩, ⟨hp1, -⟩, hq1, -⟩ := hgood
    obtain ⟨hL, hR⟩ := mf_bk_len hB
    have hs : mf_sd (mf_order i hw p q) = 0 ∨ mf_sd (mf_order i hw p q) = 1 := mf_and1_in hw
    have href : mf_refused (mf_order i hw p q) (mf_kind hw) L = rf_refused (hw >>> 4) (hw &&& 1) (mf_kind hw) p q R := mf_refused_eq hB hs (mf_kind hw)
    have hlen : decide (40 ≤ L.length) = decide (R.length = 40) := by
      rw [hL, hR]
      by_cases e : Z.length = 40
      · simp [e]
      · rw [decide_eq_false (by omega), decide_eq_false e]
    simp only [href, hlen]
    rcases mf_sim_find hB i with ⟨e1, e2⟩ | ⟨j, k, y, t, e1, e2, hj, hk⟩
    · simp only [e1, e2, Option.isSome_none, Bool.false_or]
      by_cases hrf : (decide (R.length = 40) || rf_refused (hw >>> 4) (hw &&& 1) (mf_kind hw) p q R) = true
      · rw [if_pos hrf, if_pos hrf]
        exact ⟨by first | rfl | trivial, hup⟩
      · rw [if_neg hrf, if_neg hrf]
        have hl39 : Z.length ≤ 39 := by
          have : ¬ R.length = 40 := fun e => hrf (by simp [e])
          omega
        have hid : ∀ x ∈ Z, mf_id x.1 ≠ mf_id (mf_order i hw p q) := by
          intro x hx hx2
          have := (mf_pick_in _ _ _).1 e1 x.1 (by rw [hB.1]; exact List.mem_map.mpr ⟨x, hx, rfl⟩)
          simp at this
          exact this hx2
        have hclk : clk < clk + 1 := by rw [ec]; exact mf_lt_succ hn hc
        have hm' : (if mf_kind hw < 4 then rf_match i (hw >>> 4) (hw &&& 1) (if mf_kind hw = 1 then 0 else p) 41 q (R, met, g) else (q, R, met, g)) = if mf_kind hw = 4 ∨ mf_kind hw = 5 then (mf_lf (mf_order i hw p q), R, met, g) else rf_match (mf_id (mf_order i hw p q)) (mf_ow (mf_order i hw p q)) (mf_sd (mf_order i hw p q)) (if mf_kind hw = 1 then 0 else mf_pr (mf_order i hw p q)) 41 (mf_lf (mf_order i hw p q)) (R, met, g) := by
          rcases mf_kind_in hkd5 with e | e | e | e | e | e <;> rw [e] <;> rfl
        generalize hm : (if mf_kind hw < 4 then rf_match i (hw >>> 4) (hw &&& 1) (if mf_kind hw = 1 then 0 else p) 41 q (R, met, g) else (q, R, met, g)) = m at hm' ⊢
        have hin2 := mf_sim_in hB hl39 (c := mf_order i hw p q) ⟨hs, mf_pos_of hp1⟩ hid ht hclk (mf_kind hw) due met h5 hm' (b := if 3 < mf_kind hw ∨ (mf_kind hw = 0 ∧ 0 < m.1) then rf_keep (i, hw >>> 4, hw &&& 1, mf_bI (decide (mf_kind hw = 5)), p, m.1) (m.2.1, clk) else (m.2.1, clk)) (by
          have hpos : mf_kind hw = 4 ∨ mf_kind hw = 5 → 0 < m.1 := by
            intro e
            rw [← hm, if_neg (by rcases e with e | e <;> rw [e] <;> decide)]
            exact mf_pos_of hq1
          have hiff : (3 < mf_kind hw ∨ (mf_kind hw = 0 ∧ 0 < m.1)) ↔ ((mf_kind hw = 0 ∨ mf_kind hw = 4 ∨ mf_kind hw = 5) ∧ 0 < m.1) := by
            rcases mf_kind_in hkd5 with e | e | e | e | e | e
            · rw [e]; simp <;> decide
            · rw [e]; simp <;> decide
            · rw [e]; simp <;> decide
            · rw [e]; simp
            · have := hpos (Or.inl e); rw [e]; simp [this] <;> decide
            · have := hpos (Or.inr e); rw [e]; simp [this] <;> decide
          by_cases hcc : (mf_kind hw = 0 ∨ mf_kind hw = 4 ∨ mf_kind hw = 5) ∧ 0 < m.1
          · rw [if_pos hcc, if_pos (hiff.mpr hcc)]; rfl
          · rw [if_neg hcc, if_neg (fun z => hcc (hiff.mp z))])
        obtain ⟨q1, q2, q3, q4, q5, Z', q6, q7, q8⟩ := hin2
        refine ⟨?_, ⟨Z', q6, q7, q8⟩, mf_sim_fin hn hc ec q5, q2, q3, ?_⟩
        · show ((0 : Nat), _) = ((0 : Nat), _)
          rw [q1]; rfl
        · show (mf_comeIn _ _ _).2.2.2.2.1 ≤ _
          omega
    · simp only [e1, e2, Option.isSome_some, Bool.true_or, if_true]
      exact ⟨by first | rfl | trivial, hup⟩
  · rw [if_neg hgood, if_neg hgood]
    exact ⟨by first | rfl | trivial, hup⟩
theorem mf_sim_cancel {n : Nat} {st : mf_S} {rst : rf_S} (h : mf_Sim n st rst) (i : Int32) : (mf_cancel i st).1 = (rf_cancel i rst).1 ∧ mf_Sim (n + 1) (mf_cancel i st).2 (rf_cancel i rst).2 := by
  have hup := h.up
  obtain ⟨⟨Z, hB, hl, ht⟩, h2, h3, h5, h6⟩ := h
  unfold mf_cancel rf_cancel
  rcases mf_sim_find hB i with ⟨e1, e2⟩ | ⟨j, k, y, t, e1, e2, hj, hk⟩
  · rw [e1, e2]; exact ⟨by first | rfl | trivial, hup⟩
  · rw [e1, e2]
    exact ⟨rfl, ⟨Z.eraseIdx j, mf_bk_erase hB hj hk, by have := mf_erase_len hj; omega, fun x hx => ht x (List.eraseIdx_subset hx)⟩, hup.2.1, h3, h5, hup.2.2.2.2⟩
theorem mf_sim_amend {n : Nat} {st : mf_S} {rst : rf_S} (hn : n < 1000000) (h : mf_Sim n st rst) (i p q : Int32) : (mf_amend i p q st).1 = (rf_amend i p q rst).1 ∧ mf_Sim (n + 1) (mf_amend i p q st).2 (rf_amend i p q rst).2 := by
  have hup := h.up
  obtain ⟨L, due, met, g⟩ := st
  obtain ⟨R, clk, due', met', g'⟩ := rst
  obtain ⟨⟨Z, hB, hl, ht⟩, ⟨c, hc, ec⟩, h4, h5, h6⟩ := h
  simp only at hB ht ec h4 h5 h6
  cases h4
  unfold mf_amend rf_amend
  by_cases hgood : (mf_prOk p && mf_qtOk q) = true
  · rw [if_pos hgood, if_pos hgood]
    simp only [Bool.and_eq_true, mf_prOk, mf_qtOk, decide_eq_true_eq] at hgood
    obtain ⟨⟨hp1, -⟩, hq1, -⟩ := hgood
    rcases mf_sim_find hB i with ⟨e1, e2⟩ | ⟨j, k, y, t, e1, e2, hj, hk⟩
    · simp only [e1, e2]; exact ⟨by first | rfl | trivial, hup⟩
    · simp only [e1, e2]
      have hy : mf_ok y := hB.2.2.2.1 _ (List.mem_of_getElem? hj)
      have hyi : mf_id y = i := by simpa using ((mf_pick_in _ _ _).2 j y e1).2
      by_cases hst : mf_wt y = 0 ∧ p = mf_pr y ∧ q ≤ mf_lf y
      · rw [if_pos hst, if_pos ⟨hst.1, hst.2.1.symm, hst.2.2⟩]
        refine ⟨rfl, ⟨Z.set j (mf_setLf y q, t), mf_bk_set hB hj hk rfl hy, by rw [List.length_set]; exact hl, fun x hx => ?_⟩, hup.2.1, rfl, h5, hup.2.2.2.2⟩
        rcases List.mem_or_eq_of_mem_set hx with hx | hx
        · exact ht x hx
        · rw [hx]; exact ht (y, t) (List.mem_of_getElem? hj)
      · rw [if_neg hst, if_neg (show ¬ (mf_wt y = 0 ∧ mf_pr y = p ∧ q ≤ mf_lf y) from fun z => hst ⟨z.1, z.2.1.symm, z.2.2⟩)]
        have hclk : clk < clk + 1 := by rw [ec]; exact mf_lt_succ hn hc
        have hm' : (if mf_wt y = 0 then rf_match i (mf_ow y) (mf_sd y) p 41 q (rf_drop R k, met, g) else (q, rf_drop R k, met, g)) = if (if mf_wt y = 0 then (0 : Int32) else 5) = 4 ∨ (if mf_wt y = 0 then (0 : Int32) else 5) = 5 then (mf_lf (mf_setPL y p q), rf_drop R k, met, g) else rf_match (mf_id (mf_setPL y p q)) (mf_ow (mf_setPL y p q)) (mf_sd (mf_setPL y p q)) (if (if mf_wt y = 0 then (0 : Int32) else 5) = 1 then 0 else mf_pr (mf_setPL y p q)) 41 (mf_lf (mf_setPL y p q)) (rf_drop R k, met, g) := by
          by_cases hw : mf_wt y = 0
          · rw [if_pos hw, if_pos hw, ← hyi]; rfl
          · rw [if_neg hw, if_neg hw]; rfl
        generalize hm : (if mf_wt y = 0 then rf_match i (mf_ow y) (mf_sd y) p 41 q (rf_drop R k, met, g) else (q, rf_drop R k, met, g)) = m at hm' ⊢
        have hin2 := mf_sim_in (mf_bk_erase hB hj hk) (by have := mf_erase_len hj; omega) (c := mf_setPL y p q) ⟨hy.1, mf_pos_of hp1⟩ (fun x hx => mf_erase_ne hB.2.2.2.2 hj x hx) (fun x hx => ht x (List.eraseIdx_subset hx)) hclk (if mf_wt y = 0 then 0 else 5) due met h5 hm' (b := if 0 < m.1 then rf_keep (i, mf_ow y, mf_sd y, mf_wt y, p, m.1) (m.2.1, clk) else (m.2.1, clk)) (by
          have hiff : 0 < m.1 ↔ (((if mf_wt y = 0 then (0 : Int32) else 5) = 0 ∨ (if mf_wt y = 0 then (0 : Int32) else 5) = 4 ∨ (if mf_wt y = 0 then (0 : Int32) else 5) = 5) ∧ 0 < m.1) := by
            by_cases hw : mf_wt y = 0
            · simp [hw]
            · simp [hw]
          by_cases hcc : 0 < m.1
          · rw [if_pos hcc, if_pos (hiff.mp hcc), ← hyi]; rfl
          · rw [if_neg hcc, if_neg (fun z => hcc z.2)])
        obtain ⟨q1, q2, q3, q4, q5, Z', q6, q7, q8⟩ := hin2
        refine ⟨?_, ⟨Z', q6, q7, q8⟩, mf_sim_fin hn hc ec q5, q2, q3, ?_⟩
        · show ((0 : Nat), _) = ((0 : Nat), _)
          rw [q1]; rfl
        · show (mf_comeIn _ _ _).2.2.2.2.1 ≤ _
          omega
  · rw [if_neg hgood, if_neg hgood]
    exact ⟨by first | rfl | trivial, hup⟩
-- withdraw
theorem mf_wd_eq (o : Int32) : ∀ (k : Nat) (L : List mf_O), k ≤ L.length → mf_wd o k L = (L.take k).filter (fun r => !decide (mf_ow r = o)) ++ L.drop k := by
  intro k
  induction k with
  | zero => intro L _; rfl
  | succ k ih =>
    intro L hk
    unfold mf_wd
    have hk' : k < L.length := hk
    have e : L[k]? = some L[k] := List.getElem?_eq_getElem hk'
    rw [e]
    simp only
    rw [List.take_succ, e, List.filter_append]
    by_cases ho : mf_ow L[k] = o
    · rw [if_pos ho, ih _ (by have := mf_erase_len e; omega)]
      have h1 : (L.eraseIdx k).take k = L.take k := by
        rw [List.eraseIdx_eq_take_drop_succ, List.take_append_of_le_length (by rw [List.length_take]; omega), List.take_take, Nat.min_self]
      have h2 : (L.eraseIdx k).drop k = L.drop (k + 1) := by
        rw [List.eraseIdx_eq_take_drop_succ, List.drop_append_of_le_length (by rw [List.length_take]; omega)]
        rw [List.drop_eq_nil_of_le (by rw [List.length_take]; omega)]; rfl
      rw [h1, h2]
      simp [ho]
    · rw [if_neg ho, ih _ (by omega)]
      rw [← List.getElem_cons_drop hk']
      simp [ho]
theorem rf_wd_eq (o : Int32) : ∀ (k : Nat) (R : List mf_T) (m : Int32), k ≤ R.length → (rf_wd o k R m).1.Perm ((R.take k).filter (fun x => !decide (mf_ow x.1 = o)) ++ R.drop k) ∧ (rf_wd o k R m).2 = m + mf_sum (fun x : mf_T => if mf_ow x.1 = o then 1 else 0) (R.take k) := by
  intro k
  induction k with
  | zero => intro R m _; exact ⟨List.Perm.refl _, by simp [rf_wd, mf_sum]⟩
  | succ k ih =>
    intro R m hk
    unfold rf_wd
    have hk' : k < R.length := hk
    have e : R[k]? = some R[k] := List.getElem?_eq_getElem hk'
    rw [e]
    simp only
    rw [List.take_succ, e, List.filter_append]
    have hne : R ≠ [] := fun z => by rw [z] at hk'; exact absurd hk' (Nat.not_lt_zero _)
    by_cases ho : mf_ow R[k].1 = o
    · rw [if_pos ho]
      have hd : rf_drop R k = (R.set k (R.getLast hne)).dropLast := by
        unfold rf_drop; rw [List.getLast?_eq_some_getLast hne]
      have hlen : (rf_drop R k).length = R.length - 1 := by rw [hd, List.length_dropLast, List.length_set]
      have h1 : (rf_drop R k).take k = R.take k := by
        rw [hd, List.dropLast_eq_take, List.take_take, List.length_set, Nat.min_eq_left (by omega), List.take_set_of_le (Nat.le_refl _)]
      have h2 : (rf_drop R k).Perm (R.take k ++ R.drop (k + 1)) := by
        have a := (mf_perm_drop e).symm.trans (mf_perm_erase e)
        rw [List.eraseIdx_eq_take_drop_succ] at a
        exact a.cons_inv
      have h3 : ((rf_drop R k).drop k).Perm (R.drop (k + 1)) := by
        have a : ((rf_drop R k).take k ++ (rf_drop R k).drop k).Perm (R.take k ++ R.drop (k + 1)) := by rw [List.take_append_drop]; exact h2
        rw [h1] at a
        exact (List.perm_append_left_iff _).mp a
      obtain ⟨i1, i2⟩ := ih (rf_drop R k) (m + 1) (by omega)
      rw [h1] at i1 i2
      refine ⟨?_, ?_⟩
      · have : (Option.some R[k]).toList.filter (fun x : mf_T => !decide (mf_ow x.1 = o)) = [] := by simp [ho]
        rw [this, List.append_nil]
        exact i1.trans (h3.append_left _)
      · rw [i2]
        show _ = m + mf_sum _ (R.take k ++ [R[k]])
        rw [mf_sum_snoc, if_pos ho, Int32.add_assoc, Int32.add_comm 1]
    · rw [if_neg ho]
      obtain ⟨i1, i2⟩ := ih R m (by omega)
      refine ⟨?_, ?_⟩
      · have : (Option.some R[k]).toList.filter (fun x : mf_T => !decide (mf_ow x.1 = o)) = [R[k]] := by simp [ho]
        rw [this, List.append_assoc]
        rw [← List.getElem_cons_drop hk'] at i1
        exact i1
      · rw [i2]
        show _ = m + mf_sum _ (R.take k ++ [R[k]])
        rw [mf_sum_snoc, if_neg ho, Int32.add_zero]
theorem mf_sub2 (a b : Int32) : (a + 1) - (b + 1) = a - b := by
  rw [Int32.sub_eq_add_neg, Int32.neg_add, Int32.sub_eq_add_neg (-b), Int32.add_comm (-b), ← Int32.add_assoc, Int32.add_assoc a, show (1 : Int32) + -1 = 0 by decide, Int32.add_zero, ← Int32.sub_eq_add_neg]
theorem mf_cnt_len (o : Int32) : ∀ R : List mf_T, nI R.length - nI (R.filter (fun x => !decide (mf_ow x.1 = o))).length = mf_sum (fun x : mf_T => if mf_ow x.1 = o then 1 else 0) R := by
  refine mf_snoc (show nI 0 - nI 0 = 0 by decide) ?_
  intro l x ih
  rw [mf_sum_snoc, ← ih, List.filter_append, List.length_append, List.length_append]
  by_cases ho : mf_ow x.1 = o
  · simp only [ho, decide_true, Bool.not_true, List.filter_cons, List.filter_nil, if_true, Bool.false_eq_true, if_false, List.length_nil, List.length_cons, Nat.add_zero, Nat.zero_add]
    rw [← nI_1]
    rw [Int32.sub_eq_add_neg, Int32.sub_eq_add_neg, Int32.add_assoc, Int32.add_assoc, Int32.add_comm 1]
  · simp only [ho, decide_false, Bool.not_false, List.filter_cons, List.filter_nil, if_true, if_false, List.length_nil, List.length_cons, Nat.zero_add]
    rw [← nI_1, ← nI_1, Int32.add_zero, mf_sub2]
theorem mf_sim_withdraw {n : Nat} {st : mf_S} {rst : rf_S} (h : mf_Sim n st rst) (o : Int32) : (mf_withdraw o st).1 = (rf_withdraw o rst).1 ∧ mf_Sim (n + 1) (mf_withdraw o st).2 (rf_withdraw o rst).2 := by
  have hup := h.up
  obtain ⟨⟨Z, hB, hl, ht⟩, h2, h3, h5, h6⟩ := h
  unfold mf_withdraw rf_withdraw
  by_cases ho : 0 ≤ o ∧ o ≤ 7
  · rw [if_pos ho, if_pos ho]
    obtain ⟨r1, r2⟩ := rf_wd_eq o rst.1.length rst.1 0 (Nat.le_refl _)
    have e1 := mf_wd_eq o st.1.length st.1 (Nat.le_refl _)
    rw [List.take_length, List.drop_length, List.append_nil] at r1 e1
    rw [List.take_length] at r2
    have hB' : mf_Bk (Z.filter (fun x => !decide (mf_ow x.1 = o))) (mf_wd o st.1.length st.1) (rf_wd o rst.1.length rst.1 0).1 := by
      obtain ⟨b1, b2, b3, b4, b5⟩ := hB
      refine ⟨?_, b2.sublist List.filter_sublist, r1.trans (b3.filter _), fun x hx => b4 x (List.mem_filter.mp hx).1, b5.sublist List.filter_sublist⟩
      rw [e1, b1, List.filter_map]; rfl
    refine ⟨?_, ⟨_, hB', Nat.le_trans (List.length_filter_le _ _) hl, fun x hx => ht x (List.mem_filter.mp hx).1⟩, hup.2.1, h3, h5, hup.2.2.2.2⟩
    show ((0 : Nat), _) = ((0 : Nat), _)
    rw [r2, Int32.zero_add, ← mf_cnt_len]
    have l1 := mf_bk_len hB
    have l2 := mf_bk_len hB'
    have l3 := (r1.length_eq)
    rw [l2.1, l1.1, ← l1.2, ← l3, l2.2]
  · rw [if_neg ho, if_neg ho]
    exact ⟨by first | rfl | trivial, hup⟩
end
section
/-! levels, value for value -/
theorem mf_pick_prs {s : Int32} (ok : mf_O → Bool) (L : List mf_O) : (mf_pick ok (mf_lt s) L = none → ∀ x ∈ L, ok x = false) ∧ ∀ j y, mf_pick ok (mf_lt s) L = some (j, y) → L[j]? = some y ∧ ok y = true ∧ (∀ x ∈ L, ok x = true → mf_lt s x y = false) := by
  have h := mf_pick_spec (ok := ok) (lt := mf_lt s) (fun a b c _ _ _ h1 h2 => mf_better_tr h1 h2) (fun a b c _ _ _ h1 h2 => mf_better_nt h1 h2) (fun a _ => mf_better_ir) L
  exact ⟨h.1, fun j y e => ⟨(h.2 j y e).1, (h.2 j y e).2.1, (h.2 j y e).2.2.1⟩⟩
theorem rf_pick_prs {s : Int32} (ok : mf_O → Bool) (R : List mf_T) : (mf_pick (fun x : mf_T => ok x.1) (fun x y => mf_lt s x.1 y.1) R = none → ∀ x ∈ R, ok x.1 = false) ∧ ∀ j y, mf_pick (fun x : mf_T => ok x.1) (fun x y => mf_lt s x.1 y.1) R = some (j, y) → R[j]? = some y ∧ ok y.1 = true ∧ (∀ x ∈ R, ok x.1 = true → mf_lt s x.1 y.1 = false) := by
  have h := mf_pick_spec (ok := fun x : mf_T => ok x.1) (lt := fun x y => mf_lt s x.1 y.1) (fun a b c _ _ _ h1 h2 => mf_better_tr h1 h2) (fun a b c _ _ _ h1 h2 => mf_better_nt h1 h2) (fun a _ => mf_better_ir) R
  exact ⟨h.1, fun j y e => ⟨(h.2 j y e).1, (h.2 j y e).2.1, (h.2 j y e).2.2.1⟩⟩
theorem mf_next_eq {Z : List mf_T} {L : List mf_O} {R : List mf_T} (h : mf_Bk Z L R) (s b : Int32) : rf_next s b R = mf_next s b L := by
  obtain ⟨rfl, -, hP, -, -⟩ := h
  unfold rf_next mf_next
  obtain ⟨c1, c2⟩ := mf_pick_prs (s := s) (mf_behind s b) (Z.map (·.1))
  obtain ⟨r1, r2⟩ := rf_pick_prs (s := s) (mf_behind s b) R
  cases hc : mf_pick (mf_behind s b) (mf_lt s) (Z.map (·.1)) with
  | none =>
    cases hr : mf_pick (fun x : mf_T => mf_behind s b x.1) (fun x y => mf_lt s x.1 y.1) R with
    | none => rfl
    | some kx =>
      obtain ⟨k, x⟩ := kx
      obtain ⟨a1, a2, a3⟩ := r2 k x hr
      have := c1 hc x.1 (List.mem_map.mpr ⟨x, hP.mem_iff.mp (List.mem_of_getElem? a1), rfl⟩)
      rw [this] at a2; cases a2
  | some jy =>
    obtain ⟨j, y⟩ := jy
    obtain ⟨b1, b2, b3⟩ := c2 j y hc
    rw [List.getElem?_map] at b1
    obtain ⟨x0, d1, d2⟩ := Option.map_eq_some_iff.mp b1
    have hm : x0 ∈ R := hP.mem_iff.mpr (List.mem_of_getElem? d1)
    subst d2
    cases hr : mf_pick (fun x : mf_T => mf_behind s b x.1) (fun x y => mf_lt s x.1 y.1) R with
    | none =>
      have := r1 hr x0 hm
      rw [this] at b2; cases b2
    | some kx =>
      obtain ⟨k, x⟩ := kx
      obtain ⟨a1, a2, a3⟩ := r2 k x hr
      show mf_pr x.1 = mf_pr x0.1
      exact mf_better_eq (b3 x.1 (List.mem_map.mpr ⟨x, hP.mem_iff.mp (List.mem_of_getElem? a1), rfl⟩) a2) (a3 x0 hm b2)
theorem mf_countP_lt {α : Type} {p q : α → Bool} : ∀ {l : List α}, (∀ x ∈ l, q x = true → p x = true) → ∀ {y : α}, y ∈ l → p y = true → q y = false → l.countP q + 1 ≤ l.countP p := by
  intro l
  induction l with
  | nil => intro _ y hy; exact (List.not_mem_nil hy).elim
  | cons a l ih =>
    intro h y hy hp hq
    have hmono : l.countP q ≤ l.countP p := List.countP_mono_left (fun x hx => h x (List.mem_cons_of_mem _ hx))
    rw [List.countP_cons, List.countP_cons]
    rcases List.mem_cons.mp hy with rfl | hy
    · rw [hp, hq]; simp; exact hmono
    · have := ih (fun x hx => h x (List.mem_cons_of_mem _ hx)) hy hp hq
      have ha := h a List.mem_cons_self
      cases hqa : q a with
      | false => simp; split <;> omega
      | true => rw [ha hqa]; simp; omega
/-- each level's price is one of the orders', and there are fewer behind it -/
theorem mf_next_less {s b : Int32} {L : List mf_O} (h : mf_next s b L ≠ 0) : L.countP (mf_behind s (mf_next s b L)) + 1 ≤ L.countP (mf_behind s b) := by
  unfold mf_next at *
  obtain ⟨c1, c2⟩ := mf_pick_prs (s := s) (mf_behind s b) L
  cases hc : mf_pick (mf_behind s b) (mf_lt s) L with
  | none => rw [hc] at h; exact absurd rfl h
  | some jy =>
    obtain ⟨j, y⟩ := jy
    rw [hc] at h
    have h' : mf_pr y ≠ 0 := h
    obtain ⟨b1, b2, b3⟩ := c2 j y hc
    show L.countP (mf_behind s (mf_pr y)) + 1 ≤ _
    refine mf_countP_lt (fun x hx hq => ?_) (List.mem_of_getElem? b1) b2 ?_
    · unfold mf_behind at *
      simp only [Bool.and_eq_true, Bool.or_eq_true, decide_eq_true_eq] at *
      refine ⟨hq.1, ?_⟩
      rcases hq.2 with e | e
      · exact absurd e h'
      · rcases b2.2 with e2 | e2
        · exact Or.inl e2
        · exact Or.inr (mf_better_tr e2 e)
    · unfold mf_behind
      rw [mf_better_ir]
      simp [h']
theorem mf_next_nonneg {s b : Int32} {L : List mf_O} (ho : ∀ r ∈ L, mf_ok r) : 0 ≤ mf_next s b L := by
  unfold mf_next
  cases hc : mf_pick (mf_behind s b) (mf_lt s) L with
  | none => exact Int32.le_refl _
  | some jy =>
    obtain ⟨j, y⟩ := jy
    exact mf_le_of_lt (ho y (List.mem_of_getElem? ((mf_pick_in _ _ _).2 j y hc).1)).2
theorem mf_it_bound {s : Int32} {L : List mf_O} : ∀ m : Nat, (∀ i, i ≤ m → mf_it (fun b => mf_next s b L) i ≠ 0) → L.countP (mf_behind s (mf_it (fun b => mf_next s b L) m)) + (m + 1) ≤ L.length := by
  intro m
  induction m with
  | zero =>
    intro h
    have h1 := mf_next_less (h 0 (Nat.le_refl _))
    have h2 : L.countP (mf_behind s 0) ≤ L.length := List.countP_le_length
    show L.countP (mf_behind s (mf_next s 0 L)) + 1 ≤ _
    omega
  | succ m ih =>
    intro h
    have h1 := ih (fun i hi => h i (by omega))
    have h2 := mf_next_less (b := mf_it (fun b => mf_next s b L) m) (h (m + 1) (Nat.le_refl _))
    show L.countP (mf_behind s (mf_next s (mf_it (fun b => mf_next s b L) m) L)) + (m + 1 + 1) ≤ _
    omega
theorem mf_next_none {s b : Int32} {L : List mf_O} (h : L.countP (mf_behind s b) = 0) : mf_next s b L = 0 := Classical.byContradiction fun z => by
  have := mf_next_less z
  omega
theorem mf_lv_spec (nx : Int32 → Int32) : ∀ (f j c : Nat), c ≤ mf_lv nx f (mf_it nx j) c ∧ mf_lv nx f (mf_it nx j) c ≤ c + f ∧ (∀ i, i < mf_lv nx f (mf_it nx j) c - c → mf_it nx (j + i) ≠ 0) ∧ (mf_lv nx f (mf_it nx j) c < c + f → mf_it nx (j + (mf_lv nx f (mf_it nx j) c - c)) = 0) := by
  intro f
  induction f with
  | zero => intro j c; exact ⟨Nat.le_refl _, Nat.le_refl _, fun i h => absurd h (by show ¬ i < c - c; omega), fun h => absurd h (by show ¬ c < c + 0; omega)⟩
  | succ f ih =>
    intro j c
    unfold mf_lv
    by_cases h0 : mf_it nx j = 0
    · rw [if_pos h0]
      exact ⟨Nat.le_refl _, by omega, fun i h => by omega, fun _ => by rw [Nat.sub_self]; exact h0⟩
    · rw [if_neg h0]
      obtain ⟨a1, a2, a3, a4⟩ := ih (j + 1) (c + 1)
      have e : nx (mf_it nx j) = mf_it nx (j + 1) := rfl
      rw [e]
      generalize mf_lv nx f (mf_it nx (j + 1)) (c + 1) = r at *
      refine ⟨by omega, by omega, fun i hi => ?_, fun h => ?_⟩
      · cases i with
        | zero => exact h0
        | succ i =>
          have := a3 i (by omega)
          rw [show j + (i + 1) = j + 1 + i by omega]; exact this
      · have := a4 (by omega)
        rw [show j + (r - c) = j + 1 + (r - (c + 1)) by omega]; exact this
theorem rf_walk_spec (nx : Int32 → Int32) (hn : ∀ b, 0 ≤ nx b) : ∀ (k j : Nat), ((∀ i, i ≤ k → mf_it nx (j + i) ≠ 0) → rf_walk nx k (mf_it nx j) = mf_it nx (j + k)) ∧ ((∃ i, i ≤ k ∧ mf_it nx (j + i) = 0) → rf_walk nx k (mf_it nx j) = 0) := by
  intro k
  have hpos : ∀ j, mf_it nx j ≠ 0 → 0 < mf_it nx j := fun j h => by
    cases j with
    | zero => exact Int32.lt_of_le_of_ne (hn 0) (Ne.symm h)
    | succ j => exact Int32.lt_of_le_of_ne (hn _) (Ne.symm h)
  induction k with
  | zero =>
    intro j
    refine ⟨fun _ => rfl, fun ⟨i, hi, e⟩ => ?_⟩
    rw [show i = 0 by omega] at e
    exact e
  | succ k ih =>
    intro j
    unfold rf_walk
    refine ⟨fun h => ?_, fun ⟨i, hi, e⟩ => ?_⟩
    · have h0 := h 0 (by omega)
      rw [if_pos (hpos j h0)]
      have := (ih (j + 1)).1 (fun i hi => by rw [show j + 1 + i = j + (i + 1) by omega]; exact h (i + 1) (by omega))
      rw [show j + (k + 1) = j + 1 + k by omega]
      exact this
    · by_cases h0 : mf_it nx j = 0
      · rw [h0, if_neg (by decide)]
      · rw [if_pos (hpos j h0)]
        have hi0 : i ≠ 0 := fun z => by rw [z] at e; exact h0 e
        exact (ih (j + 1)).2 ⟨i - 1, by omega, by rw [show j + 1 + (i - 1) = j + i by omega]; exact e⟩
theorem mf_levels_le {s : Int32} {L : List mf_O} : mf_lv (fun b => mf_next s b L) 40 (mf_next s 0 L) 0 ≤ 40 := (mf_lv_spec (fun b => mf_next s b L) 40 0 0).2.1
theorem mf_sim_levels {n : Nat} {st : mf_S} {rst : rf_S} (h : mf_Sim n st rst) (s : Int32) : mf_levels s st = rf_levels s rst := by
  obtain ⟨⟨Z, hB, hl, ht⟩, -⟩ := h
  unfold mf_levels rf_levels
  simp only [mf_next_eq hB]
theorem mf_sim_level {n : Nat} {st : mf_S} {rst : rf_S} (h : mf_Sim n st rst) (s k w : Int32) : mf_level s k w st = rf_level s k w rst := by
  obtain ⟨⟨Z, hB, hl, ht⟩, -⟩ := h
  unfold mf_level rf_level
  simp only [mf_next_eq hB]
  by_cases hc : (s = 0 ∨ s = 1) ∧ 0 ≤ w ∧ w ≤ 2
  · rw [if_pos hc, if_pos hc]
    have ho : ∀ r ∈ st.1, mf_ok r := by
      intro r hr
      rw [hB.1] at hr
      obtain ⟨x, hx, rfl⟩ := List.mem_map.mp hr
      exact hB.2.2.2.1 x hx
    have hlen : st.1.length ≤ 40 := by rw [(mf_bk_len hB).1]; exact hl
    by_cases hk0 : k < 0
    · rw [if_pos hk0, if_neg (fun z => absurd hk0 (Int32.not_lt.mpr z.1))]
      simp
    · rw [if_neg hk0]
      obtain ⟨kk, hkk, rfl⟩ := nI_of hk0
      rw [nI_clamp hkk]
      have hsp := mf_lv_spec (fun b => mf_next s b st.1) 40 0 0
      have hw := rf_walk_spec (fun b => mf_next s b st.1) (fun b => mf_next_nonneg ho) kk 0
      generalize hr : mf_lv (fun b => mf_next s b st.1) 40 (mf_next s 0 st.1) 0 = r at *
      have hr2 : mf_lv (fun b => mf_next s b st.1) 40 (mf_it (fun b => mf_next s b st.1) 0) 0 = r := hr
      rw [hr2] at hsp
      obtain ⟨-, s2, s3, s4⟩ := hsp
      by_cases hlt : kk < r
      · rw [if_pos ⟨Int32.not_lt.mp hk0, nI_lt hlt (by omega)⟩]
        have hall : ∀ i, i ≤ kk → mf_it (fun b => mf_next s b st.1) (0 + i) ≠ 0 := fun i hi => s3 i (by omega)
        have e := hw.1 hall
        rw [Nat.zero_add] at e
        have e' : rf_walk (fun b => mf_next s b st.1) kk (mf_next s 0 st.1) = mf_it (fun b => mf_next s b st.1) kk := e
        rw [e']
        have hne := hall kk (Nat.le_refl _)
        rw [Nat.zero_add] at hne
        rw [if_neg hne]
        simp only [mf_sim_sum hB (f := fun r => if mf_at s (mf_it (fun b => mf_next s b st.1) kk) r then mf_lf r else 0) (g := fun r => if mf_at s (mf_it (fun b => mf_next s b st.1) kk) r then mf_lf r else 0) (fun _ _ => rfl), mf_sim_sum hB (f := fun r => if mf_at s (mf_it (fun b => mf_next s b st.1) kk) r then 1 else 0) (g := fun r => if mf_at s (mf_it (fun b => mf_next s b st.1) kk) r then 1 else 0) (fun _ _ => rfl)]
      · rw [if_neg (fun z => absurd z.2 (nI_nlt (by omega) (by omega)))]
        have hex : ∃ i, i ≤ kk ∧ mf_it (fun b => mf_next s b st.1) (0 + i) = 0 := by
          by_cases h40 : r < 40
          · have := s4 (by omega)
            exact ⟨r, by omega, by simpa using this⟩
          · have hr40 : r = 40 := by omega
            refine ⟨40, by omega, ?_⟩
            have hb := mf_it_bound (s := s) (L := st.1) 39 (fun i hi => by have := s3 i (by omega); rw [Nat.zero_add] at this; exact this)
            show mf_next s (mf_it (fun b => mf_next s b st.1) 39) st.1 = 0
            exact mf_next_none (by omega)
        have e : rf_walk (fun b => mf_next s b st.1) kk (mf_next s 0 st.1) = 0 := hw.2 hex
        rw [e]
        simp
  · rw [if_neg hc, if_neg hc]
theorem mf_queues_eq (r y : mf_O) : mf_queues r y = rf_same y r := by
  unfold mf_queues rf_same
  by_cases h1 : mf_wt r = 0 <;> by_cases h2 : mf_wt y = 0 <;> simp [h1, h2]
theorem mf_sim_ordr {n : Nat} {st : mf_S} {rst : rf_S} (h : mf_Sim n st rst) (i w : Int32) : mf_ordr i w st = rf_ordr i w rst := by
  obtain ⟨⟨Z, hB, hl, ht⟩, -⟩ := h
  unfold mf_ordr rf_ordr
  rcases mf_sim_find hB i with ⟨e1, e2⟩ | ⟨j, k, y, t, e1, e2, hj, hk⟩
  · rw [e1, e2]
  · rw [e1, e2]
    simp only
    by_cases hw : 0 ≤ w ∧ w ≤ 3
    · rw [if_pos hw, if_pos hw]
      have hsum : mf_sum (fun r => if mf_queues r y then 1 else 0) (st.1.take j) = mf_sum (fun x : mf_T => if rf_same y x.1 && decide (x.2 < t) then 1 else 0) rst.1 := by
        rw [mf_sum_perm _ hB.2.2.1, hB.1, ← List.map_take, mf_sum_map]
        obtain ⟨hj1, hj2⟩ := List.getElem?_eq_some_iff.mp hj
        have e : Z = Z.take j ++ (y, t) :: Z.drop (j + 1) := by
          rw [← hj2, List.getElem_cons_drop]
          exact (List.take_append_drop j Z).symm
        have hso := hB.2.1
        have hR : mf_sum (fun x : mf_T => if rf_same y x.1 && decide (x.2 < t) then 1 else 0) Z = mf_sum (fun x : mf_T => if rf_same y x.1 && decide (x.2 < t) then 1 else 0) (Z.take j) := by
          rw [e] at hso
          obtain ⟨-, hs2, -⟩ := List.pairwise_append.mp hso
          have hs3 := (List.pairwise_cons.mp hs2).1
          conv => lhs; rw [e]
          rw [mf_sum_append, mf_sum_zero (l := (y, t) :: Z.drop (j + 1)), Int32.add_zero]
          intro x hx
          have hnot : ¬ x.2 < t := by
            rcases List.mem_cons.mp hx with rfl | hx
            · exact Int32.lt_irrefl
            · exact Int32.not_lt.mpr (mf_le_of_lt (hs3 x hx))
          rw [decide_eq_false hnot, Bool.and_false]; rfl
        rw [hR]
        refine mf_sum_congr (fun x hx => ?_)
        have hlt : x.2 < t := by
          rw [e] at hso
          exact (List.pairwise_append.mp hso).2.2 x hx (y, t) List.mem_cons_self
        rw [mf_queues_eq, decide_eq_true hlt, Bool.and_true]
      rw [hsum, Int32.add_assoc, Int32.add_comm (if mf_wt y = 0 then 0 else 2), ← Int32.add_assoc]
    · rw [if_neg hw, if_neg hw]
theorem mf_sim_figure {n : Nat} {st : mf_S} {rst : rf_S} (h : mf_Sim n st rst) (k : Int32) : mf_figure k st = rf_figure k rst := by
  obtain ⟨⟨Z, hB, hl, ht⟩, -, h3, -⟩ := h
  unfold mf_figure rf_figure
  rw [(mf_bk_len hB).1, (mf_bk_len hB).2, mf_sim_sum hB (f := fun r => if mf_wt r = 0 then 0 else 1) (g := fun r => if mf_wt r = 0 then 0 else 1) (fun _ _ => rfl), h3]
/-- the start -/
theorem mf_sim_0 (g : mf_G) (hg : g = (0, 0, 0, 0, fun _ _ => 0)) : mf_Sim 0 ([], 0, 0, g) ([], 0, 0, 0, g) := by
  subst hg
  exact ⟨⟨[], ⟨rfl, List.Pairwise.nil, List.Perm.refl _, fun _ h => (List.not_mem_nil h).elim, List.Pairwise.nil⟩, Nat.zero_le _, fun _ h => (List.not_mem_nil h).elim⟩, ⟨0, Nat.le_refl _, rfl⟩, rfl, Int32.le_refl _, Nat.le_refl _⟩
end
section
/-! scans, a step at a time -/
theorem mf_take_snoc {α : Type} {l : List α} {k : Nat} {x : α} (h : l[k]? = some x) : l.take (k + 1) = l.take k ++ [x] := by
  rw [List.take_succ, h]; rfl
theorem mf_take_len {α : Type} {l : List α} {k : Nat} {x : α} (h : l[k]? = some x) : (l.take k).length = k := by
  rw [List.length_take]
  have := (List.getElem?_eq_some_iff.mp h).1
  omega
theorem mf_pick_take {α : Type} (ok : α → Bool) (lt : α → α → Bool) {l : List α} {k : Nat} {x : α} (h : l[k]? = some x) : mf_pick ok lt (l.take (k + 1)) = if ok x && mf_cmp lt x (mf_pick ok lt (l.take k)) then some (k, x) else mf_pick ok lt (l.take k) := by
  rw [mf_take_snoc h, mf_pick_snoc, mf_take_len h]
theorem mf_sum_take {α : Type} (f : α → Int32) {l : List α} {k : Nat} {x : α} (h : l[k]? = some x) : mf_sum f (l.take (k + 1)) = mf_sum f (l.take k) + f x := by
  rw [mf_take_snoc h, mf_sum_snoc]
theorem mf_pick_stay {α : Type} {ok : α → Bool} {l : List α} {y : Nat × α} (h : mf_pick ok (fun _ _ => false) l = some y) : ∀ b : List α, mf_pick ok (fun _ _ => false) (l ++ b) = some y := by
  refine mf_snoc (by rw [List.append_nil]; exact h) ?_
  intro b x ih
  rw [← List.append_assoc, mf_pick_snoc, ih]
  simp [mf_cmp]
/-- found at place k -/
theorem mf_pick_found {α : Type} {ok : α → Bool} {l : List α} {k : Nat} {x : α} (h0 : mf_pick ok (fun _ _ => false) (l.take k) = none) (h : l[k]? = some x) (hx : ok x = true) : mf_pick ok (fun _ _ => false) l = some (k, x) := by
  have h1 : mf_pick ok (fun _ _ => false) (l.take (k + 1)) = some (k, x) := by
    rw [mf_pick_take _ _ h, h0, hx]; rfl
  have h2 := mf_pick_stay h1 (l.drop (k + 1))
  rwa [List.take_append_drop] at h2
theorem mf_pick_pass {α : Type} {ok : α → Bool} {lt : α → α → Bool} {l : List α} {k : Nat} {x : α} (h0 : mf_pick ok lt (l.take k) = none) (h : l[k]? = some x) (hx : ok x = false) : mf_pick ok lt (l.take (k + 1)) = none := by
  rw [mf_pick_take _ _ h, h0, hx]; rfl
theorem mf_pick_all {α : Type} {ok : α → Bool} {lt : α → α → Bool} {l : List α} {r : Option (Nat × α)} (h : mf_pick ok lt (l.take l.length) = r) : mf_pick ok lt l = r := by
  rwa [List.take_length] at h
theorem mf_bI_0 {b : Bool} : mf_bI b = 0 ↔ b = false := by cases b <;> decide
theorem mf_bI_1 {b : Bool} : ¬ mf_bI b = 0 ↔ b = true := by cases b <;> decide
theorem mf_bI_t : mf_bI true = 1 := rfl
theorem mf_bI_f : mf_bI false = 0 := rfl
theorem mf_at_lt {α : Type} {l : List α} {k : Nat} (h : k < l.length) : ∃ x, l[k]? = some x := ⟨_, List.getElem?_eq_getElem h⟩
/-- the levels' loop ends -/
def mf_mu (s p : Int32) (L : List mf_O) : Nat := L.countP (mf_behind s p)
theorem mf_lv_0 (nx : Int32 → Int32) (f c : Nat) : mf_lv nx f 0 c = c := by
  cases f with
  | zero => rfl
  | succ f => unfold mf_lv; rw [if_pos rfl]
theorem mf_lv_1 (nx : Int32 → Int32) (f c : Nat) {p : Int32} (h : p ≠ 0) : mf_lv nx (f + 1) p c = mf_lv nx f (nx p) (c + 1) := by
  show (if p = 0 then c else mf_lv nx f (nx p) (c + 1)) = _
  rw [if_neg h]
end
