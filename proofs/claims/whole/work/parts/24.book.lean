/-! the class's book, read -/
def mf_CL (D : va_G) (k5 : mf_k5) (t0 : Nat × Nat) (A : Nat → Prop) (H : Heap) (x al tp : Nat) (due met : Int32) (ks : List (Nat × mf_O)) : Prop := va_at D mf_cl (x, .inr (3, [.ref al, .ref tp, .int due, .int met])) H ∧ A x ∧ mf_AL D k5 t0 A H al (ks.map (fun q => q.1)) ∧ (∀ q ∈ ks, va_at D mf_cl (q.1, .inr (1, mf_fs q.2)) H ∧ A q.1) ∧ (ks.map (fun q => q.1)).Nodup
abbrev mf_L (ks : List (Nat × mf_O)) : List mf_O := ks.map (fun q => q.2)
def mf_ix {α : Type} (o : Option (Nat × α)) : Int32 := mf_oI (o.map (fun q => q.1))
theorem mf_nI_ne {j : Nat} (h : j < 2 ^ 31) : ¬ nI j = -1 := by
  intro e
  have h1 := nI_toInt h
  rw [e] at h1
  have h2 : (-1 : Int32).toInt = -1 := by decide
  omega
theorem mf_kq {ks : List (Nat × mf_O)} {k a : Nat} {o : mf_O} (h : ks[k]? = some (a, o)) : (ks.map (fun q => q.1))[k]? = some a := by
  rw [List.getElem?_map, h]; rfl
theorem mf_kl {ks : List (Nat × mf_O)} {k a : Nat} {o : mf_O} (h : ks[k]? = some (a, o)) : (mf_L ks)[k]? = some o := by
  show (ks.map _)[k]? = _
  rw [List.getElem?_map, h]; rfl
theorem mf_kt {ks : List (Nat × mf_O)} : (mf_L ks).take ks.length = mf_L ks := by
  have h : (mf_L ks).length = ks.length := List.length_map _
  rw [← h, List.take_length]
theorem mf_pick_lt {α : Type} {ok : α → Bool} {lt : α → α → Bool} {l : List α} {k j : Nat} {y : α} (h : mf_pick ok lt (l.take k) = some (j, y)) : j < k := by
  have h1 := ((mf_pick_in ok lt (l.take k)).2 j y h).1
  have h2 := (List.getElem?_eq_some_iff.mp h1).1
  rw [List.length_take] at h2
  omega
theorem mf_step {α : Type} {ok : α → Bool} {lt : α → α → Bool} {l : List α} {k : Nat} {x : α} {r r' : Option (Nat × α)} (h : l[k]? = some x) (hr : mf_pick ok lt (l.take k) = r) (e : (if ok x && mf_cmp lt x r then some (k, x) else r) = r') : mf_pick ok lt (l.take (k + 1)) = r' := by
  rw [mf_pick_take _ _ h, hr]; exact e
theorem mf_sstep {α : Type} {f : α → Int32} {l : List α} {k : Nat} {x : α} {r r' : Int32} (h : l[k]? = some x) (hr : mf_sum f (l.take k) = r) (e : r + f x = r') : mf_sum f (l.take (k + 1)) = r' := by
  rw [mf_sum_take _ h, hr]; exact e
def mf_TP (D : va_G) (k5 : mf_k5) (A : Nat → Prop) (H : Heap) (tp : Nat) (g : mf_G) : Prop := ∃ (rw : Nat) (rr : Nat → Nat) (rf : Nat → Option Nat) (rx : Nat → Nat → Int32), va_at D mf_cl (tp, .inr (2, [.ref rw, .int (nI g.1), .int g.2.1, .int g.2.2.1, .long g.2.2.2.1])) H ∧ A tp ∧ va_at D mf_cl (rw, .inl (k5.2.1, 32, .inr (.inr (.inr (.inr rf))))) H ∧ A rw ∧ (∀ i, i < 32 → rf i = some (rr i)) ∧ (∀ i, i < 32 → va_at D mf_cl (rr i, .inl (k5.2.2.1, 4, .inl (rx i))) H ∧ A (rr i) ∧ ∀ c, c < 4 → rx i c = g.2.2.2.2 i c) ∧ (∀ i j, i < 32 → j < 32 → rr i = rr j → i = j)
theorem mf_pick_mem {α : Type} {ok : α → Bool} {lt : α → α → Bool} {l : List α} {k j : Nat} {y : α} (h : mf_pick ok lt (l.take k) = some (j, y)) : y ∈ l := List.mem_of_mem_take (List.mem_of_getElem? ((mf_pick_in ok lt (l.take k)).2 j y h).1)
theorem mf_pick_ka {ok : mf_O → Bool} {lt : mf_O → mf_O → Bool} {ks : List (Nat × mf_O)} {j : Nat} {r : mf_O} (h : mf_pick ok lt (mf_L ks) = some (j, r)) : ∃ a, ks[j]? = some (a, r) := by
  have h1 := ((mf_pick_in ok lt (mf_L ks)).2 j r h).1
  have h2 : (ks.map (fun q => q.2))[j]? = some r := h1
  rw [List.getElem?_map] at h2
  obtain ⟨⟨a, o⟩, e1, e2⟩ := Option.map_eq_some_iff.mp h2
  cases e2
  exact ⟨a, e1⟩
