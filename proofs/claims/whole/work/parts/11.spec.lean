/-! what the class does, and what the reference does, as functions of values -/
abbrev mf_T : Type := mf_O × Int32
def mf_lt (s : Int32) (a b : mf_O) : Bool := mf_better s (mf_pr a) (mf_pr b)
def mf_first (s : Int32) (L : List mf_O) : Option (Nat × mf_O) := mf_pick (fun r => mf_rests r s) (mf_lt s) L
def rf_before (a b : mf_T) : Bool := if mf_pr a.1 = mf_pr b.1 then decide (a.2 < b.2) else if mf_sd a.1 = 0 then decide (mf_pr b.1 < mf_pr a.1) else decide (mf_pr a.1 < mf_pr b.1)
def rf_first (s : Int32) (R : List mf_T) : Option (Nat × mf_T) := mf_pick (fun x => mf_rests x.1 s) rf_before R
def mf_place (i : Int32) (L : List mf_O) : Option (Nat × mf_O) := mf_pick (fun r => decide (mf_id r = i)) (fun _ _ => false) L
def rf_find (i : Int32) (R : List mf_T) : Option (Nat × mf_T) := mf_pick (fun x => decide (mf_id x.1 = i)) (fun _ _ => true) R
def mf_dueAt (t : Int32) (L : List mf_O) : Option (Nat × mf_O) := mf_pick (fun r => mf_due r t) (fun _ _ => false) L
def rf_isDue (t : Int32) (r : mf_O) : Bool := !decide (mf_wt r = 0) && (decide (0 < t) && (if mf_sd r = 0 then decide (mf_pr r ≤ t) else decide (t ≤ mf_pr r)))
def rf_dueAt (t : Int32) (R : List mf_T) : Option (Nat × mf_T) := mf_pick (fun x => rf_isDue t x.1) (fun a b => decide (a.2 < b.2)) R
def rf_drop {α : Type} (R : List α) (k : Nat) : List α := match R.getLast? with
  | none => []
  | some z => (R.set k z).dropLast
def mf_sum {α : Type} (f : α → Int32) (l : List α) : Int32 := l.foldl (fun a x => a + f x) 0
-- prices, levels
def mf_behind (s b : Int32) (r : mf_O) : Bool := mf_rests r s && (decide (b = 0) || mf_better s b (mf_pr r))
def mf_prOf {α : Type} (f : α → mf_O) : Option (Nat × α) → Int32
  | none => 0
  | some x => mf_pr (f x.2)
def mf_next (s b : Int32) (L : List mf_O) : Int32 := mf_prOf (fun r => r) (mf_pick (mf_behind s b) (mf_lt s) L)
def rf_next (s b : Int32) (R : List mf_T) : Int32 := mf_prOf (fun x : mf_T => x.1) (mf_pick (fun x : mf_T => mf_behind s b x.1) (fun x y => mf_lt s x.1 y.1) R)
def mf_lv (nx : Int32 → Int32) : Nat → Int32 → Nat → Nat
  | 0, _, c => c
  | k + 1, p, c => if p = 0 then c else mf_lv nx k (nx p) (c + 1)
def mf_it (nx : Int32 → Int32) : Nat → Int32
  | 0 => nx 0
  | k + 1 => nx (mf_it nx k)
def mf_at (s p : Int32) (r : mf_O) : Bool := mf_rests r s && decide (mf_pr r = p)
-- matching
abbrev mf_M : Type := List mf_O × Int32 × mf_G
abbrev rf_M : Type := List mf_T × Int32 × mf_G
def mf_meet (c : mf_O) (j : Nat) (r : mf_O) (st : mf_M) : mf_O × mf_M :=
  if mf_ow r = mf_ow c then (c, st.1.eraseIdx j, st.2.1 + 1, st.2.2)
  else (mf_setLf c (mf_lf c - mf_min (mf_lf c) (mf_lf r)), if mf_lf r - mf_min (mf_lf c) (mf_lf r) = 0 then st.1.eraseIdx j else st.1.set j (mf_setLf r (mf_lf r - mf_min (mf_lf c) (mf_lf r))), st.2.1, mf_write st.2.2 (mf_id c) (mf_id r) (mf_pr r) (mf_min (mf_lf c) (mf_lf r)))
def mf_match : Nat → Int32 → mf_O → mf_M → mf_O × mf_M
  | 0, _, c, st => (c, st)
  | k + 1, p, c, st => if 0 < mf_lf c then (match mf_first (mf_other (mf_sd c)) st.1 with
      | none => (c, st)
      | some x => if mf_fit x.2 p then mf_match k p (mf_meet c x.1 x.2 st).1 (mf_meet c x.1 x.2 st).2 else (c, st)) else (c, st)
def rf_fits (s p : Int32) (r : mf_O) : Bool := decide (p = 0) || (if s = 0 then decide (mf_pr r ≤ p) else decide (p ≤ mf_pr r))
def rf_min (a b : Int32) : Int32 := if a < b then a else b
def rf_meet (i o q : Int32) (k : Nat) (x : mf_T) (st : rf_M) : Int32 × rf_M :=
  if mf_ow x.1 = o then (q, rf_drop st.1 k, st.2.1 + 1, st.2.2)
  else (q - rf_min q (mf_lf x.1), if mf_lf x.1 - rf_min q (mf_lf x.1) = 0 then rf_drop st.1 k else st.1.set k (mf_setLf x.1 (mf_lf x.1 - rf_min q (mf_lf x.1)), x.2), st.2.1, mf_write st.2.2 i (mf_id x.1) (mf_pr x.1) (rf_min q (mf_lf x.1)))
def rf_match (i o s p : Int32) : Nat → Int32 → rf_M → Int32 × rf_M
  | 0, q, st => (q, st)
  | k + 1, q, st => if 0 < q then (match rf_first (1 - s) st.1 with
      | none => (q, st)
      | some x => if rf_fits s p x.2.1 then rf_match i o s p k (rf_meet i o q x.1 x.2 st).1 (rf_meet i o q x.1 x.2 st).2 else (q, st)) else (q, st)
/-- a state: the orders, the due stops, those that met their owner, the fills -/
abbrev mf_S : Type := List mf_O × Int32 × Int32 × mf_G
/-- the reference's: the orders with their times, the clock, the stops, the met, the fills -/
abbrev rf_S : Type := List mf_T × Int32 × Int32 × Int32 × mf_G
def mf_stops : Nat → mf_S → mf_S
  | 0, st => st
  | k + 1, st => match mf_dueAt st.2.2.2.2.1 st.1 with
      | none => st
      | some x => mf_stops k ((mf_match 41 0 x.2 (st.1.eraseIdx x.1, st.2.2)).2.1, st.2.1 + 1, (mf_match 41 0 x.2 (st.1.eraseIdx x.1, st.2.2)).2.2)
def rf_stops : Nat → rf_S → rf_S
  | 0, st => st
  | k + 1, st => match rf_dueAt st.2.2.2.2.2.1 st.1 with
      | none => st
      | some x => rf_stops k ((rf_match (mf_id x.2.1) (mf_ow x.2.1) (mf_sd x.2.1) 0 41 (mf_lf x.2.1) (rf_drop st.1 x.1, st.2.2.2)).2.1, st.2.1, st.2.2.1 + 1, (rf_match (mf_id x.2.1) (mf_ow x.2.1) (mf_sd x.2.1) 0 41 (mf_lf x.2.1) (rf_drop st.1 x.1, st.2.2.2)).2.2)
-- coming in
def mf_comeIn (c : mf_O) (kind : Int32) (st : mf_S) : Int32 × mf_S :=
  let q := if kind = 4 ∨ kind = 5 then (c, st.1, st.2.2) else mf_match 41 (if kind = 1 then 0 else mf_pr c) c (st.1, st.2.2)
  (mf_lf c - mf_lf q.1, mf_stops 40 (if (kind = 0 ∨ kind = 4 ∨ kind = 5) ∧ 0 < mf_lf q.1 then q.2.1 ++ [q.1] else q.2.1, st.2.1, q.2.2))
def mf_kind (h : Int32) : Int32 := (h >>> 1) &&& 7
def mf_refused (c : mf_O) (kind : Int32) (L : List mf_O) : Bool :=
  if kind = 3 then decide (mf_sum (fun r => if mf_rests r (mf_other (mf_sd c)) && (mf_fit r (mf_pr c) && !decide (mf_ow r = mf_ow c)) then mf_lf r else 0) L < mf_lf c)
  else if kind = 4 then (match mf_first (mf_other (mf_sd c)) L with | none => false | some x => mf_fit x.2 (mf_pr c))
  else false
def mf_prOk (p : Int32) : Bool := decide (1 ≤ p) && decide (p ≤ 10000)
def mf_qtOk (p : Int32) : Bool := decide (1 ≤ p) && decide (p ≤ 1000000)
def mf_howOk (h : Int32) : Bool := decide (0 ≤ h) && (decide (h ≤ 127) && decide (mf_kind h ≤ 5))
def mf_order (i h p q : Int32) : mf_O := (i, h >>> 4, h &&& 1, mf_bI (decide (mf_kind h = 5)), p, q)
/-- an answer: 0 and the number, or the number of the fault -/
abbrev mf_A : Type := Nat × Int32
def mf_submit (i h p q : Int32) (st : mf_S) : mf_A × mf_S :=
  if mf_howOk h && (mf_prOk p && mf_qtOk q) then
    (if (mf_place i st.1).isSome || (decide (40 ≤ st.1.length) || mf_refused (mf_order i h p q) (mf_kind h) st.1) then ((2, 0), st)
     else ((0, (mf_comeIn (mf_order i h p q) (mf_kind h) st).1), (mf_comeIn (mf_order i h p q) (mf_kind h) st).2))
  else ((1, 0), st)
def mf_cancel (i : Int32) (st : mf_S) : mf_A × mf_S := match mf_place i st.1 with
  | none => ((1, 0), st)
  | some x => ((0, mf_lf x.2), st.1.eraseIdx x.1, st.2)
def mf_amend (i p q : Int32) (st : mf_S) : mf_A × mf_S :=
  if mf_prOk p && mf_qtOk q then (match mf_place i st.1 with
    | none => ((2, 0), st)
    | some x => if mf_wt x.2 = 0 ∧ p = mf_pr x.2 ∧ q ≤ mf_lf x.2 then ((0, 0), st.1.set x.1 (mf_setLf x.2 q), st.2)
      else ((0, (mf_comeIn (mf_setPL x.2 p q) (if mf_wt x.2 = 0 then 0 else 5) (st.1.eraseIdx x.1, st.2)).1), (mf_comeIn (mf_setPL x.2 p q) (if mf_wt x.2 = 0 then 0 else 5) (st.1.eraseIdx x.1, st.2)).2))
  else ((1, 0), st)
def mf_wd (o : Int32) : Nat → List mf_O → List mf_O
  | 0, L => L
  | k + 1, L => mf_wd o k (match L[k]? with | none => L | some r => if mf_ow r = o then L.eraseIdx k else L)
def mf_withdraw (o : Int32) (st : mf_S) : mf_A × mf_S :=
  if 0 ≤ o ∧ o ≤ 7 then ((0, nI st.1.length - nI (mf_wd o st.1.length st.1).length), mf_wd o st.1.length st.1, st.2) else ((1, 0), st)
def mf_levels (s : Int32) (st : mf_S) : mf_A :=
  if s = 0 ∨ s = 1 then (0, nI (mf_lv (fun b => mf_next s b st.1) 40 (mf_next s 0 st.1) 0)) else (1, 0)
def mf_level (s k w : Int32) (st : mf_S) : mf_A :=
  if (s = 0 ∨ s = 1) ∧ 0 ≤ w ∧ w ≤ 2 then
    (if 0 ≤ k ∧ k < nI (mf_lv (fun b => mf_next s b st.1) 40 (mf_next s 0 st.1) 0) then
      (0, if w = 0 then mf_it (fun b => mf_next s b st.1) k.toNatClampNeg else
          if w = 1 then mf_sum (fun r => if mf_at s (mf_it (fun b => mf_next s b st.1) k.toNatClampNeg) r then mf_lf r else 0) st.1
          else mf_sum (fun r => if mf_at s (mf_it (fun b => mf_next s b st.1) k.toNatClampNeg) r then 1 else 0) st.1)
     else (2, 0))
  else (1, 0)
def mf_ordr (i w : Int32) (st : mf_S) : mf_A := match mf_place i st.1 with
  | none => (1, 0)
  | some x => if 0 ≤ w ∧ w ≤ 3 then
      (0, if w = 0 then 16 * mf_ow x.2 + (if mf_wt x.2 = 0 then 0 else 2) + mf_sd x.2 else if w = 1 then mf_pr x.2 else if w = 2 then mf_lf x.2
          else mf_sum (fun r => if mf_queues r x.2 then 1 else 0) (st.1.take x.1))
    else (2, 0)
def mf_fill (k w : Int32) (g : mf_G) : mf_A :=
  if 0 ≤ w ∧ w ≤ 3 then (if 0 ≤ k ∧ k ≤ 31 ∧ k < nI g.1 then (0, g.2.2.2.2 ((g.1 - 1 - k.toNatClampNeg) % 32) w.toNatClampNeg) else (2, 0)) else (1, 0)
def mf_figure (k : Int32) (st : mf_S) : mf_A :=
  if k = 0 then (0, nI st.1.length) else if k = 1 then (0, mf_sum (fun r => if mf_wt r = 0 then 0 else 1) st.1) else if k = 2 then (0, st.2.1) else if k = 3 then (0, st.2.2.1) else if k = 4 then (0, st.2.2.2.2.2.1) else (1, 0)
-- the reference's
def rf_keep (c : mf_O) (st : List mf_T × Int32) : List mf_T × Int32 := (st.1 ++ [(c, st.2 + 1)], st.2 + 1)
def rf_within (o s p : Int32) (R : List mf_T) : Int32 := mf_sum (fun x : mf_T => if decide (mf_wt x.1 = 0) && (!decide (mf_sd x.1 = s) && (!decide (mf_ow x.1 = o) && rf_fits s p x.1)) then mf_lf x.1 else 0) R
def rf_refused (o s kind p q : Int32) (R : List mf_T) : Bool :=
  if kind = 3 then decide (rf_within o s p R < q)
  else decide (kind = 4) && (match rf_first (1 - s) R with | none => false | some x => rf_fits s p x.2.1)
def rf_submit (i h p q : Int32) (st : rf_S) : mf_A × rf_S :=
  if mf_howOk h && (mf_prOk p && mf_qtOk q) then
    (if (rf_find i st.1).isSome || (decide (st.1.length = 40) || rf_refused (h >>> 4) (h &&& 1) (mf_kind h) p q st.1) then ((2, 0), st)
     else
      let m := if mf_kind h < 4 then rf_match i (h >>> 4) (h &&& 1) (if mf_kind h = 1 then 0 else p) 41 q (st.1, st.2.2.2) else (q, st.1, st.2.2.2)
      let b := if 3 < mf_kind h ∨ (mf_kind h = 0 ∧ 0 < m.1) then rf_keep (i, h >>> 4, h &&& 1, mf_bI (decide (mf_kind h = 5)), p, m.1) (m.2.1, st.2.1) else (m.2.1, st.2.1)
      ((0, q - m.1), rf_stops 40 (b.1, b.2, st.2.2.1, m.2.2)))
  else ((1, 0), st)
def rf_cancel (i : Int32) (st : rf_S) : mf_A × rf_S := match rf_find i st.1 with
  | none => ((1, 0), st)
  | some x => ((0, mf_lf x.2.1), rf_drop st.1 x.1, st.2)
def rf_amend (i p q : Int32) (st : rf_S) : mf_A × rf_S :=
  if mf_prOk p && mf_qtOk q then (match rf_find i st.1 with
    | none => ((2, 0), st)
    | some x => if mf_wt x.2.1 = 0 ∧ mf_pr x.2.1 = p ∧ q ≤ mf_lf x.2.1 then ((0, 0), st.1.set x.1 (mf_setLf x.2.1 q, x.2.2), st.2)
      else
      let m := if mf_wt x.2.1 = 0 then rf_match i (mf_ow x.2.1) (mf_sd x.2.1) p 41 q (rf_drop st.1 x.1, st.2.2.2) else (q, rf_drop st.1 x.1, st.2.2.2)
      let b := if 0 < m.1 then rf_keep (i, mf_ow x.2.1, mf_sd x.2.1, mf_wt x.2.1, p, m.1) (m.2.1, st.2.1) else (m.2.1, st.2.1)
      ((0, q - m.1), rf_stops 40 (b.1, b.2, st.2.2.1, m.2.2)))
  else ((1, 0), st)
def rf_wd (o : Int32) : Nat → List mf_T → Int32 → List mf_T × Int32
  | 0, R, n => (R, n)
  | k + 1, R, n => match R[k]? with
      | none => rf_wd o k R n
      | some x => if mf_ow x.1 = o then rf_wd o k (rf_drop R k) (n + 1) else rf_wd o k R n
def rf_withdraw (o : Int32) (st : rf_S) : mf_A × rf_S :=
  if 0 ≤ o ∧ o ≤ 7 then ((0, (rf_wd o st.1.length st.1 0).2), (rf_wd o st.1.length st.1 0).1, st.2) else ((1, 0), st)
def rf_levels (s : Int32) (st : rf_S) : mf_A :=
  if s = 0 ∨ s = 1 then (0, nI (mf_lv (fun b => rf_next s b st.1) 40 (rf_next s 0 st.1) 0)) else (1, 0)
/-- the price of the level: 0 where there is none -/
def rf_walk (nx : Int32 → Int32) : Nat → Int32 → Int32
  | 0, p => p
  | k + 1, p => if 0 < p then rf_walk nx k (nx p) else p
def rf_level (s k w : Int32) (st : rf_S) : mf_A :=
  if (s = 0 ∨ s = 1) ∧ 0 ≤ w ∧ w ≤ 2 then
    (let p := if k < 0 then 0 else rf_walk (fun b => rf_next s b st.1) k.toNatClampNeg (rf_next s 0 st.1)
     if p = 0 then (2, 0) else
      (0, if w = 0 then p else if w = 1 then mf_sum (fun x : mf_T => if mf_at s p x.1 then mf_lf x.1 else 0) st.1 else mf_sum (fun x : mf_T => if mf_at s p x.1 then 1 else 0) st.1))
  else (1, 0)
def rf_same (k j : mf_O) : Bool := if mf_wt k = 0 then decide (mf_wt j = 0) && (decide (mf_sd j = mf_sd k) && decide (mf_pr j = mf_pr k)) else !decide (mf_wt j = 0)
def rf_ordr (i w : Int32) (st : rf_S) : mf_A := match rf_find i st.1 with
  | none => (1, 0)
  | some x => if 0 ≤ w ∧ w ≤ 3 then
      (0, if w = 0 then 16 * mf_ow x.2.1 + mf_sd x.2.1 + (if mf_wt x.2.1 = 0 then 0 else 2) else if w = 1 then mf_pr x.2.1 else if w = 2 then mf_lf x.2.1
          else mf_sum (fun y : mf_T => if rf_same x.2.1 y.1 && decide (y.2 < x.2.2) then 1 else 0) st.1)
    else (2, 0)
def rf_figure (k : Int32) (st : rf_S) : mf_A :=
  if k = 0 then (0, nI st.1.length) else if k = 1 then (0, mf_sum (fun x : mf_T => if mf_wt x.1 = 0 then 0 else 1) st.1) else if k = 2 then (0, st.2.2.1) else if k = 3 then (0, st.2.2.2.1) else if k = 4 then (0, st.2.2.2.2.2.2.1) else (1, 0)
