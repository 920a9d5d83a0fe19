/-! levels, value for value -/
theorem mf_pick_prs {s : Int32} (ok : mf_O → Bool) (L : List mf_O) : (mf_pick ok (mf_lt s) L = none → ∀ x ∈ L, ok x = false) ∧ ∀ j y, mf_pick ok (mf_lt s) L = some (j, y) → L[j]? = some y ∧ ok y = true ∧ (∀ x ∈ L, ok x = true → mf_lt s x y = false) := by
  have h := mf_pick_spec (ok := ok) (lt := mf_lt s) (fun a b c _ _ _ h1 h2 => mf_better_tr h1 h2) (fun a b c _ _ _ h1 h2 => mf_better_nt h1 h2) (fun a _ => mf_better_ir) L
  exact ⟨h.1, fun j y e => ⟨(h.2 j y e).1, (h.2 j y e).2.1, (h.2 j y e).2.2.1⟩⟩
theorem rf_pick_prs {s : Int32} (ok : mf_O → Bool) (R : List mf_T) : (mf_pick (fun x : mf_T => ok x.1) (fun x y => mf_lt s x.1 y.1) R = none → ∀ x ∈ R, ok x.1 = false) ∧ ∀ j y, mf_pick (fun x : mf_T => ok x.1) (fun x y => mf_lt s x.1 y.1) R = some (j, y) → R[j]? = some y ∧ ok y.1 = true ∧ (∀ x ∈ R, ok x.1 = true → mf_lt s x.1 y.1 = false) := by
  have h := mf_pick_spec (ok := fun x : mf_T => ok x.1) (lt := fun x y => mf_lt s x.1 y.1) (fun a b c _ _ _ h1 h2 => mf_better_tr h1 h2) (fun a b c _ _ _ h1 h2 => mf_better_nt h1 h2) (fun a _ => mf_better_ir) R
  exact ⟨h.1, fun j y e => ⟨(h.2 j y e).1, (h.2 j y e).2.1, (h.2 j y e).2.2.1⟩⟩
theorem mf_next_eq {Z : List mf_T} {L : List mf_O} {R : List mf_T} (h : mf_Bk Z L R) (s b : Int32) : rf_next s b R = mf_next s b L := by
  obtain ⟨rfl, -, hP, -, -⟩ := h
  unfold rf_next mf_next
  obtain ⟨c1, c2⟩ := mf_pick_prs (s := s) (mf_behind s b) (Z.map (·.1))
  obtain ⟨r1, r2⟩ := rf_pick_prs (s := s) (mf_behind s b) R
  cases hc : mf_pick (mf_behind s b) (mf_lt s) (Z.map (·.1)) with
  | none =>
    cases hr : mf_pick (fun x : mf_T => mf_behind s b x.1) (fun x y => mf_lt s x.1 y.1) R with
    | none => rfl
    | some kx =>
      obtain ⟨k, x⟩ := kx
      obtain ⟨a1, a2, a3⟩ := r2 k x hr
      have := c1 hc x.1 (List.mem_map.mpr ⟨x, hP.mem_iff.mp (List.mem_of_getElem? a1), rfl⟩)
      rw [this] at a2; cases a2
  | some jy =>
    obtain ⟨j, y⟩ := jy
    obtain ⟨b1, b2, b3⟩ := c2 j y hc
    rw [List.getElem?_map] at b1
    obtain ⟨x0, d1, d2⟩ := Option.map_eq_some_iff.mp b1
    have hm : x0 ∈ R := hP.mem_iff.mpr (List.mem_of_getElem? d1)
    subst d2
    cases hr : mf_pick (fun x : mf_T => mf_behind s b x.1) (fun x y => mf_lt s x.1 y.1) R with
    | none =>
      have := r1 hr x0 hm
      rw [this] at b2; cases b2
    | some kx =>
      obtain ⟨k, x⟩ := kx
      obtain ⟨a1, a2, a3⟩ := r2 k x hr
      show mf_pr x.1 = mf_pr x0.1
      exact mf_better_eq (b3 x.1 (List.mem_map.mpr ⟨x, hP.mem_iff.mp (List.mem_of_getElem? a1), rfl⟩) a2) (a3 x0 hm b2)
theorem mf_countP_lt {α : Type} {p q : α → Bool} : ∀ {l : List α}, (∀ x ∈ l, q x = true → p x = true) → ∀ {y : α}, y ∈ l → p y = true → q y = false → l.countP q + 1 ≤ l.countP p := by
  intro l
  induction l with
  | nil => intro _ y hy; exact (List.not_mem_nil hy).elim
  | cons a l ih =>
    intro h y hy hp hq
    have hmono : l.countP q ≤ l.countP p := List.countP_mono_left (fun x hx => h x (List.mem_cons_of_mem _ hx))
    rw [List.countP_cons, List.countP_cons]
    rcases List.mem_cons.mp hy with rfl | hy
    · rw [hp, hq]; simp; exact hmono
    · have := ih (fun x hx => h x (List.mem_cons_of_mem _ hx)) hy hp hq
      have ha := h a List.mem_cons_self
      cases hqa : q a with
      | false => simp; split <;> omega
      | true => rw [ha hqa]; simp; omega
/-- each level's price is one of the orders', and there are fewer behind it -/
theorem mf_next_less {s b : Int32} {L : List mf_O} (h : mf_next s b L ≠ 0) : L.countP (mf_behind s (mf_next s b L)) + 1 ≤ L.countP (mf_behind s b) := by
  unfold mf_next at *
  obtain ⟨c1, c2⟩ := mf_pick_prs (s := s) (mf_behind s b) L
  cases hc : mf_pick (mf_behind s b) (mf_lt s) L with
  | none => rw [hc] at h; exact absurd rfl h
  | some jy =>
    obtain ⟨j, y⟩ := jy
    rw [hc] at h
    have h' : mf_pr y ≠ 0 := h
    obtain ⟨b1, b2, b3⟩ := c2 j y hc
    show L.countP (mf_behind s (mf_pr y)) + 1 ≤ _
    refine mf_countP_lt (fun x hx hq => ?_) (List.mem_of_getElem? b1) b2 ?_
    · unfold mf_behind at *
      simp only [Bool.and_eq_true, Bool.or_eq_true, decide_eq_true_eq] at *
      refine ⟨hq.1, ?_⟩
      rcases hq.2 with e | e
      · exact absurd e h'
      · rcases b2.2 with e2 | e2
        · exact Or.inl e2
        · exact Or.inr (mf_better_tr e2 e)
    · unfold mf_behind
      rw [mf_better_ir]
      simp [h']
theorem mf_next_nonneg {s b : Int32} {L : List mf_O} (ho : ∀ r ∈ L, mf_ok r) : 0 ≤ mf_next s b L := by
  unfold mf_next
  cases hc : mf_pick (mf_behind s b) (mf_lt s) L with
  | none => exact Int32.le_refl _
  | some jy =>
    obtain ⟨j, y⟩ := jy
    exact mf_le_of_lt (ho y (List.mem_of_getElem? ((mf_pick_in _ _ _).2 j y hc).1)).2
theorem mf_it_bound {s : Int32} {L : List mf_O} : ∀ m : Nat, (∀ i, i ≤ m → mf_it (fun b => mf_next s b L) i ≠ 0) → L.countP (mf_behind s (mf_it (fun b => mf_next s b L) m)) + (m + 1) ≤ L.length := by
  intro m
  induction m with
  | zero =>
    intro h
    have h1 := mf_next_less (h 0 (Nat.le_refl _))
    have h2 : L.countP (mf_behind s 0) ≤ L.length := List.countP_le_length
    show L.countP (mf_behind s (mf_next s 0 L)) + 1 ≤ _
    omega
  | succ m ih =>
    intro h
    have h1 := ih (fun i hi => h i (by omega))
    have h2 := mf_next_less (b := mf_it (fun b => mf_next s b L) m) (h (m + 1) (Nat.le_refl _))
    show L.countP (mf_behind s (mf_next s (mf_it (fun b => mf_next s b L) m) L)) + (m + 1 + 1) ≤ _
    omega
theorem mf_next_none {s b : Int32} {L : List mf_O} (h : L.countP (mf_behind s b) = 0) : mf_next s b L = 0 := Classical.byContradiction fun z => by
  have := mf_next_less z
  omega
theorem mf_lv_spec (nx : Int32 → Int32) : ∀ (f j c : Nat), c ≤ mf_lv nx f (mf_it nx j) c ∧ mf_lv nx f (mf_it nx j) c ≤ c + f ∧ (∀ i, i < mf_lv nx f (mf_it nx j) c - c → mf_it nx (j + i) ≠ 0) ∧ (mf_lv nx f (mf_it nx j) c < c + f → mf_it nx (j + (mf_lv nx f (mf_it nx j) c - c)) = 0) := by
  intro f
  induction f with
  | zero => intro j c; exact ⟨Nat.le_refl _, Nat.le_refl _, fun i h => absurd h (by show ¬ i < c - c; omega), fun h => absurd h (by show ¬ c < c + 0; omega)⟩
  | succ f ih =>
    intro j c
    unfold mf_lv
    by_cases h0 : mf_it nx j = 0
    · rw [if_pos h0]
      exact ⟨Nat.le_refl _, by omega, fun i h => by omega, fun _ => by rw [Nat.sub_self]; exact h0⟩
    · rw [if_neg h0]
      obtain ⟨a1, a2, a3, a4⟩ := ih (j + 1) (c + 1)
      have e : nx (mf_it nx j) = mf_it nx (j + 1) := rfl
      rw [e]
      generalize mf_lv nx f (mf_it nx (j + 1)) (c + 1) = r at *
      refine ⟨by omega, by omega, fun i hi => ?_, fun h => ?_⟩
      · cases i with
        | zero => exact h0
        | succ i =>
          have := a3 i (by omega)
          rw [show j + (i + 1) = j + 1 + i by omega]; exact this
      · have := a4 (by omega)
        rw [show j + (r - c) = j + 1 + (r - (c + 1)) by omega]; exact this
theorem rf_walk_spec (nx : Int32 → Int32) (hn : ∀ b, 0 ≤ nx b) : ∀ (k j : Nat), ((∀ i, i ≤ k → mf_it nx (j + i) ≠ 0) → rf_walk nx k (mf_it nx j) = mf_it nx (j + k)) ∧ ((∃ i, i ≤ k ∧ mf_it nx (j + i) = 0) → rf_walk nx k (mf_it nx j) = 0) := by
  intro k
  have hpos : ∀ j, mf_it nx j ≠ 0 → 0 < mf_it nx j := fun j h => by
    cases j with
    | zero => exact Int32.lt_of_le_of_ne (hn 0) (Ne.symm h)
    | succ j => exact Int32.lt_of_le_of_ne (hn _) (Ne.symm h)
  induction k with
  | zero =>
    intro j
    refine ⟨fun _ => rfl, fun ⟨i, hi, e⟩ => ?_⟩
    rw [show i = 0 by omega] at e
    exact e
  | succ k ih =>
    intro j
    unfold rf_walk
    refine ⟨fun h => ?_, fun ⟨i, hi, e⟩ => ?_⟩
    · have h0 := h 0 (by omega)
      rw [if_pos (hpos j h0)]
      have := (ih (j + 1)).1 (fun i hi => by rw [show j + 1 + i = j + (i + 1) by omega]; exact h (i + 1) (by omega))
      rw [show j + (k + 1) = j + 1 + k by omega]
      exact this
    · by_cases h0 : mf_it nx j = 0
      · rw [h0, if_neg (by decide)]
      · rw [if_pos (hpos j h0)]
        have hi0 : i ≠ 0 := fun z => by rw [z] at e; exact h0 e
        exact (ih (j + 1)).2 ⟨i - 1, by omega, by rw [show j + 1 + (i - 1) = j + i by omega]; exact e⟩
theorem mf_levels_le {s : Int32} {L : List mf_O} : mf_lv (fun b => mf_next s b L) 40 (mf_next s 0 L) 0 ≤ 40 := (mf_lv_spec (fun b => mf_next s b L) 40 0 0).2.1
theorem mf_sim_levels {n : Nat} {st : mf_S} {rst : rf_S} (h : mf_Sim n st rst) (s : Int32) : mf_levels s st = rf_levels s rst := by
  obtain ⟨⟨Z, hB, hl, ht⟩, -⟩ := h
  unfold mf_levels rf_levels
  simp only [mf_next_eq hB]
theorem mf_sim_level {n : Nat} {st : mf_S} {rst : rf_S} (h : mf_Sim n st rst) (s k w : Int32) : mf_level s k w st = rf_level s k w rst := by
  obtain ⟨⟨Z, hB, hl, ht⟩, -⟩ := h
  unfold mf_level rf_level
  simp only [mf_next_eq hB]
  by_cases hc : (s = 0 ∨ s = 1) ∧ 0 ≤ w ∧ w ≤ 2
  · rw [if_pos hc, if_pos hc]
    have ho : ∀ r ∈ st.1, mf_ok r := by
      intro r hr
      rw [hB.1] at hr
      obtain ⟨x, hx, rfl⟩ := List.mem_map.mp hr
      exact hB.2.2.2.1 x hx
    have hlen : st.1.length ≤ 40 := by rw [(mf_bk_len hB).1]; exact hl
    by_cases hk0 : k < 0
    · rw [if_pos hk0, if_neg (fun z => absurd hk0 (Int32.not_lt.mpr z.1))]
      simp
    · rw [if_neg hk0]
      obtain ⟨kk, hkk, rfl⟩ := nI_of hk0
      rw [nI_clamp hkk]
      have hsp := mf_lv_spec (fun b => mf_next s b st.1) 40 0 0
      have hw := rf_walk_spec (fun b => mf_next s b st.1) (fun b => mf_next_nonneg ho) kk 0
      generalize hr : mf_lv (fun b => mf_next s b st.1) 40 (mf_next s 0 st.1) 0 = r at *
      have hr2 : mf_lv (fun b => mf_next s b st.1) 40 (mf_it (fun b => mf_next s b st.1) 0) 0 = r := hr
      rw [hr2] at hsp
      obtain ⟨-, s2, s3, s4⟩ := hsp
      by_cases hlt : kk < r
      · rw [if_pos ⟨Int32.not_lt.mp hk0, nI_lt hlt (by omega)⟩]
        have hall : ∀ i, i ≤ kk → mf_it (fun b => mf_next s b st.1) (0 + i) ≠ 0 := fun i hi => s3 i (by omega)
        have e := hw.1 hall
        rw [Nat.zero_add] at e
        have e' : rf_walk (fun b => mf_next s b st.1) kk (mf_next s 0 st.1) = mf_it (fun b => mf_next s b st.1) kk := e
        rw [e']
        have hne := hall kk (Nat.le_refl _)
        rw [Nat.zero_add] at hne
        rw [if_neg hne]
        simp only [mf_sim_sum hB (f := fun r => if mf_at s (mf_it (fun b => mf_next s b st.1) kk) r then mf_lf r else 0) (g := fun r => if mf_at s (mf_it (fun b => mf_next s b st.1) kk) r then mf_lf r else 0) (fun _ _ => rfl), mf_sim_sum hB (f := fun r => if mf_at s (mf_it (fun b => mf_next s b st.1) kk) r then 1 else 0) (g := fun r => if mf_at s (mf_it (fun b => mf_next s b st.1) kk) r then 1 else 0) (fun _ _ => rfl)]
      · rw [if_neg (fun z => absurd z.2 (nI_nlt (by omega) (by omega)))]
        have hex : ∃ i, i ≤ kk ∧ mf_it (fun b => mf_next s b st.1) (0 + i) = 0 := by
          by_cases h40 : r < 40
          · have := s4 (by omega)
            exact ⟨r, by omega, by simpa using this⟩
          · have hr40 : r = 40 := by omega
            refine ⟨40, by omega, ?_⟩
            have hb := mf_it_bound (s := s) (L := st.1) 39 (fun i hi => by have := s3 i (by omega); rw [Nat.zero_add] at this; exact this)
            show mf_next s (mf_it (fun b => mf_next s b st.1) 39) st.1 = 0
            exact mf_next_none (by omega)
        have e : rf_walk (fun b => mf_next s b st.1) kk (mf_next s 0 st.1) = 0 := hw.2 hex
        rw [e]
        simp
  · rw [if_neg hc, if_neg hc]
theorem mf_queues_eq (r y : mf_O) : mf_queues r y = rf_same y r := by
  unfold mf_queues rf_same
  by_cases h1 : mf_wt r = 0 <;> by_cases h2 : mf_wt y = 0 <;> simp [h1, h2]
theorem mf_sim_ordr {n : Nat} {st : mf_S} {rst : rf_S} (h : mf_Sim n st rst) (i w : Int32) : mf_ordr i w st = rf_ordr i w rst := by
  obtain ⟨⟨Z, hB, hl, ht⟩, -⟩ := h
  unfold mf_ordr rf_ordr
  rcases mf_sim_find hB i with ⟨e1, e2⟩ | ⟨j, k, y, t, e1, e2, hj, hk⟩
  · rw [e1, e2]
  · rw [e1, e2]
    simp only
    by_cases hw : 0 ≤ w ∧ w ≤ 3
    · rw [if_pos hw, if_pos hw]
      have hsum : mf_sum (fun r => if mf_queues r y then 1 else 0) (st.1.take j) = mf_sum (fun x : mf_T => if rf_same y x.1 && decide (x.2 < t) then 1 else 0) rst.1 := by
        rw [mf_sum_perm _ hB.2.2.1, hB.1, ← List.map_take, mf_sum_map]
        obtain ⟨hj1, hj2⟩ := List.getElem?_eq_some_iff.mp hj
        have e : Z = Z.take j ++ (y, t) :: Z.drop (j + 1) := by
          rw [← hj2, List.getElem_cons_drop]
          exact (List.take_append_drop j Z).symm
        have hso := hB.2.1
        have hR : mf_sum (fun x : mf_T => if rf_same y x.1 && decide (x.2 < t) then 1 else 0) Z = mf_sum (fun x : mf_T => if rf_same y x.1 && decide (x.2 < t) then 1 else 0) (Z.take j) := by
          rw [e] at hso
          obtain ⟨-, hs2, -⟩ := List.pairwise_append.mp hso
          have hs3 := (List.pairwise_cons.mp hs2).1
          conv => lhs; rw [e]
          rw [mf_sum_append, mf_sum_zero (l := (y, t) :: Z.drop (j + 1)), Int32.add_zero]
          intro x hx
          have hnot : ¬ x.2 < t := by
            rcases List.mem_cons.mp hx with rfl | hx
            · exact Int32.lt_irrefl
            · exact Int32.not_lt.mpr (mf_le_of_lt (hs3 x hx))
          rw [decide_eq_false hnot, Bool.and_false]; rfl
        rw [hR]
        refine mf_sum_congr (fun x hx => ?_)
        have hlt : x.2 < t := by
          rw [e] at hso
          exact (List.pairwise_append.mp hso).2.2 x hx (y, t) List.mem_cons_self
        rw [mf_queues_eq, decide_eq_true hlt, Bool.and_true]
      rw [hsum, Int32.add_assoc, Int32.add_comm (if mf_wt y = 0 then 0 else 2), ← Int32.add_assoc]
    · rw [if_neg hw, if_neg hw]
theorem mf_sim_figure {n : Nat} {st : mf_S} {rst : rf_S} (h : mf_Sim n st rst) (k : Int32) : mf_figure k st = rf_figure k rst := by
  obtain ⟨⟨Z, hB, hl, ht⟩, -, h3, -⟩ := h
  unfold mf_figure rf_figure
  rw [(mf_bk_len hB).1, (mf_bk_len hB).2, mf_sim_sum hB (f := fun r => if mf_wt r = 0 then 0 else 1) (g := fun r => if mf_wt r = 0 then 0 else 1) (fun _ _ => rfl), h3]
/-- the start -/
theorem mf_sim_0 (g : mf_G) (hg : g = (0, 0, 0, 0, fun _ _ => 0)) : mf_Sim 0 ([], 0, 0, g) ([], 0, 0, 0, g) := by
  subst hg
  exact ⟨⟨[], ⟨rfl, List.Pairwise.nil, List.Perm.refl _, fun _ h => (List.not_mem_nil h).elim, List.Pairwise.nil⟩, Nat.zero_le _, fun _ h => (List.not_mem_nil h).elim⟩, ⟨0, Nat.le_refl _, rfl⟩, rfl, Int32.le_refl _, Nat.le_refl _⟩
