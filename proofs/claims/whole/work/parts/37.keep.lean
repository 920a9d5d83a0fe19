/-! the book and the tape under changes of the heap -/
theorem mf_AL.eq {D : va_G} {k5 : mf_k5} {t0 : Nat × Nat} {A : Nat → Prop} {H H1 : Heap} {al : Nat} {as : List Nat} {L : List ClassId} (h : mf_AL D k5 t0 A H al as) (E : mf_Eq A L H H1) (n0 : D.1 0 ∉ L) (n5 : k5.1 ∉ L) : mf_AL D k5 t0 A H1 al as := by
  obtain ⟨ed, mc, h1, h2, h3, h4⟩ := h
  refine ⟨ed, mc, E.ko h1 n0, h2, h3, ?_⟩
  rcases h4 with h4 | ⟨cap, f, g1, g2⟩
  · exact Or.inl h4
  · exact Or.inr ⟨cap, f, E.ka g1 n5, g2⟩
theorem mf_TP.eq {D : va_G} {k5 : mf_k5} {A : Nat → Prop} {H H1 : Heap} {tp : Nat} {g : mf_G} {L : List ClassId} (h : mf_TP D k5 A H tp g) (E : mf_Eq A L H H1) (n2 : D.1 2 ∉ L) (n6 : k5.2.1 ∉ L) (n7 : k5.2.2.1 ∉ L) : mf_TP D k5 A H1 tp g := by
  obtain ⟨rw, rr, rf, rx, h1, h2, h3, h4, h5, h6, h7⟩ := h
  exact ⟨rw, rr, rf, rx, E.ko h1 n2, h2, E.ka h3 n6, h4, h5, fun i hi => ⟨E.ka (h6 i hi).1 n7, (h6 i hi).2⟩, h7⟩
theorem mf_CL.eq {D : va_G} {k5 : mf_k5} {t0 : Nat × Nat} {A : Nat → Prop} {H H1 : Heap} {x al tp : Nat} {due met : Int32} {ks : List (Nat × mf_O)} {L : List ClassId} (h : mf_CL D k5 t0 A H x al tp due met ks) (E : mf_Eq A L H H1) (n0 : D.1 0 ∉ L) (n1 : D.1 1 ∉ L) (n3 : D.1 3 ∉ L) (n5 : k5.1 ∉ L) : mf_CL D k5 t0 A H1 x al tp due met ks := by
  obtain ⟨h1, h2, h3, h4, h5⟩ := h
  exact ⟨E.ko h1 n3, h2, h3.eq E n0 n5, fun q hq => ⟨E.ko (h4 q hq).1 n1, (h4 q hq).2⟩, h5⟩
/-- an order was taken out of the list -/
theorem mf_CL.er {D : va_G} {k5 : mf_k5} {t0 : Nat × Nat} {A : Nat → Prop} {H H1 : Heap} {x al tp : Nat} {due met : Int32} {ks : List (Nat × mf_O)} (nd : (mf_ids D (mf_tys k5)).Nodup) (h : mf_CL D k5 t0 A H x al tp due met ks) {j : Nat} (E : mf_Eq A [D.1 0, k5.1] H H1) (hAL : mf_AL D k5 t0 A H1 al ((ks.map (fun q => q.1)).eraseIdx j)) : mf_CL D k5 t0 A H1 x al tp due met (ks.eraseIdx j) := by
  obtain ⟨h1, h2, h3, h4, h5⟩ := h
  refine ⟨E.ko h1 (by simp [mf_nd nd (i := 3) (j := 0) rfl rfl (by decide), mf_nd nd (i := 3) (j := 5) rfl rfl (by decide)]), h2, by rw [← mf_map_erase]; exact hAL, fun q hq => ?_, by rw [← mf_map_erase]; exact h5.sublist (List.eraseIdx_sublist _ _)⟩
  have h9 := h4 q (List.mem_of_mem_eraseIdx hq)
  exact ⟨E.ko h9.1 (by simp [mf_nd nd (i := 1) (j := 0) rfl rfl (by decide), mf_nd nd (i := 1) (j := 5) rfl rfl (by decide)]), h9.2⟩
theorem mf_CL.ad {D : va_G} {k5 : mf_k5} {t0 : Nat × Nat} {A : Nat → Prop} {H H1 : Heap} {x al tp : Nat} {due met : Int32} {ks : List (Nat × mf_O)} (nd : (mf_ids D (mf_tys k5)).Nodup) (h : mf_CL D k5 t0 A H x al tp due met ks) {a : Nat} {o : mf_O} (E : mf_Eq A [D.1 0, k5.1] H H1) (ha : va_at D mf_cl (a, .inr (1, mf_fs o)) H) (hAa : A a) (hni : a ∉ ks.map (fun q => q.1)) (hAL : mf_AL D k5 t0 A H1 al ((ks.map (fun q => q.1)) ++ [a])) : mf_CL D k5 t0 A H1 x al tp due met (ks ++ [(a, o)]) := by
  obtain ⟨h1, h2, h3, h4, h5⟩ := h
  refine ⟨E.ko h1 (by simp [mf_nd nd (i := 3) (j := 0) rfl rfl (by decide), mf_nd nd (i := 3) (j := 5) rfl rfl (by decide)]), h2, by rw [List.map_append]; exact hAL, fun q hq => ?_, ?_⟩
  · have ho : va_at D mf_cl (q.1, .inr (1, mf_fs q.2)) H ∧ A q.1 := by
      rcases List.mem_append.mp hq with z | z
      · exact h4 q z
      · rw [List.mem_singleton.mp z]; exact ⟨ha, hAa⟩
    exact ⟨E.ko ho.1 (by simp [mf_nd nd (i := 1) (j := 0) rfl rfl (by decide), mf_nd nd (i := 1) (j := 5) rfl rfl (by decide)]), ho.2⟩
  · rw [List.map_append]
    refine List.nodup_append.mpr ⟨h5, by simp, fun z hz y hy => ?_⟩
    have hy1 : y = a := by simpa using hy
    intro e
    exact hni (by rw [← hy1, ← e]; exact hz)
/-- an order was written -/
theorem mf_CL.up {D : va_G} {k5 : mf_k5} {t0 : Nat × Nat} {A : Nat → Prop} {H H1 : Heap} {x al tp : Nat} {due met : Int32} {ks : List (Nat × mf_O)} (nd : (mf_ids D (mf_tys k5)).Nodup) (h : mf_CL D k5 t0 A H x al tp due met ks) {j a : Nat} {r r1 : mf_O} (hj : ks[j]? = some (a, r)) (ha : va_at D mf_cl (a, .inr (1, mf_fs r1)) H1) (hz : H1.size = H.size) (ho : ∀ q, q ≠ a → H1[q]? = H[q]?) : mf_CL D k5 t0 A H1 x al tp due met (ks.set j (a, r1)) := by
  obtain ⟨h1, h2, h3, h4, h5⟩ := h
  have hr := h4 _ (List.mem_of_getElem? hj)
  have E : mf_Eq A [D.1 1] H H1 := mf_Eq.one hz ho hr.2 (mf_co_o hr.1)
  have hm : (ks.set j (a, r1)).map (fun q => q.1) = ks.map (fun q => q.1) := by
    rw [List.map_set]
    apply List.ext_getElem? 
    intro i
    rw [List.getElem?_set]
    by_cases hij : j = i
    · subst hij
      rw [if_pos rfl, List.getElem?_map, hj]
      have := (List.getElem?_eq_some_iff.mp hj).1
      rw [if_pos (by rw [List.length_map]; exact this)]; rfl
    · rw [if_neg hij]
  refine ⟨E.ko h1 (by simp [mf_nd nd (i := 3) (j := 1) rfl rfl (by decide)]), h2, by rw [hm]; exact h3.eq E (by simp [mf_nd nd (i := 0) (j := 1) rfl rfl (by decide)]) (by simp [mf_nd nd (i := 5) (j := 1) rfl rfl (by decide)]), fun q hq => ?_, by rw [hm]; exact h5⟩
  obtain ⟨i, hi⟩ := List.getElem?_of_mem hq
  rw [List.getElem?_set] at hi
  by_cases hij : j = i
  · rw [if_pos hij] at hi
    split at hi
    · cases hi; exact ⟨ha, hr.2⟩
    · cases hi
  · rw [if_neg hij] at hi
    have hq1 := h4 q (List.mem_of_getElem? hi)
    refine ⟨hq1.1.kept (ho q.1 fun e => hij ?_), hq1.2⟩
    have e1 := mf_kq hj
    have e2 : (ks.map (fun q => q.1))[i]? = some a := by rw [List.getElem?_map, hi]; exact congrArg some e
    obtain ⟨l1, g1⟩ := List.getElem?_eq_some_iff.mp e1
    obtain ⟨l2, g2⟩ := List.getElem?_eq_some_iff.mp e2
    exact (List.getElem_inj (h₀ := l1) (h₁ := l2) h5).mp (g1.trans g2.symm)
/-- an order outside of the list was written -/
theorem mf_CL.ot {D : va_G} {k5 : mf_k5} {t0 : Nat × Nat} {A : Nat → Prop} {H H1 : Heap} {x al tp : Nat} {due met : Int32} {ks : List (Nat × mf_O)} (nd : (mf_ids D (mf_tys k5)).Nodup) (h : mf_CL D k5 t0 A H x al tp due met ks) {ca : Nat} {fs : List Value} (ha : va_at D mf_cl (ca, .inr (1, fs)) H) (hA : A ca) (hni : ca ∉ ks.map (fun q => q.1)) (hz : H1.size = H.size) (ho : ∀ q, q ≠ ca → H1[q]? = H[q]?) : mf_CL D k5 t0 A H1 x al tp due met ks := by
  obtain ⟨h1, h2, h3, h4, h5⟩ := h
  have E : mf_Eq A [D.1 1] H H1 := mf_Eq.one hz ho hA (mf_co_o ha)
  refine ⟨E.ko h1 (by simp [mf_nd nd (i := 3) (j := 1) rfl rfl (by decide)]), h2, h3.eq E (by simp [mf_nd nd (i := 0) (j := 1) rfl rfl (by decide)]) (by simp [mf_nd nd (i := 5) (j := 1) rfl rfl (by decide)]), fun q hq => ⟨(h4 q hq).1.kept (ho q.1 fun e => hni ?_), (h4 q hq).2⟩, h5⟩
  rw [← e]
  exact List.mem_map_of_mem hq
/-- the object itself was written -/
theorem mf_CL.se {D : va_G} {k5 : mf_k5} {t0 : Nat × Nat} {A : Nat → Prop} {H H1 : Heap} {x al tp : Nat} {due met due1 met1 : Int32} {ks : List (Nat × mf_O)} (nd : (mf_ids D (mf_tys k5)).Nodup) (h : mf_CL D k5 t0 A H x al tp due met ks) (hx : va_at D mf_cl (x, .inr (3, [.ref al, .ref tp, .int due1, .int met1])) H1) (E : mf_Eq A [D.1 3] H H1) : mf_CL D k5 t0 A H1 x al tp due1 met1 ks := by
  obtain ⟨h1, h2, h3, h4, h5⟩ := h
  exact ⟨hx, h2, h3.eq E (by simp [mf_nd nd (i := 0) (j := 3) rfl rfl (by decide)]) (by simp [mf_nd nd (i := 5) (j := 3) rfl rfl (by decide)]), fun q hq => ⟨E.ko (h4 q hq).1 (by simp [mf_nd nd (i := 1) (j := 3) rfl rfl (by decide)]), (h4 q hq).2⟩, h5⟩
theorem mf_TP.cl {D : va_G} {k5 : mf_k5} {A : Nat → Prop} {H H1 : Heap} {tp : Nat} {g : mf_G} {L : List ClassId} (nd : (mf_ids D (mf_tys k5)).Nodup) (h : mf_TP D k5 A H tp g) (E : mf_Eq A L H H1) (hL : ∀ k ∈ L, k = D.1 0 ∨ k = D.1 1 ∨ k = D.1 3 ∨ k = k5.1) : mf_TP D k5 A H1 tp g := by
  refine h.eq E (fun z => ?_) (fun z => ?_) (fun z => ?_)
  · rcases hL _ z with y | y | y | y
    · exact mf_nd nd (i := 2) (j := 0) rfl rfl (by decide) y
    · exact mf_nd nd (i := 2) (j := 1) rfl rfl (by decide) y
    · exact mf_nd nd (i := 2) (j := 3) rfl rfl (by decide) y
    · exact mf_nd nd (i := 2) (j := 5) rfl rfl (by decide) y
  · rcases hL _ z with y | y | y | y
    · exact mf_nd nd (i := 6) (j := 0) rfl rfl (by decide) y
    · exact mf_nd nd (i := 6) (j := 1) rfl rfl (by decide) y
    · exact mf_nd nd (i := 6) (j := 3) rfl rfl (by decide) y
    · exact mf_nd nd (i := 6) (j := 5) rfl rfl (by decide) y
  · rcases hL _ z with y | y | y | y
    · exact mf_nd nd (i := 7) (j := 0) rfl rfl (by decide) y
    · exact mf_nd nd (i := 7) (j := 1) rfl rfl (by decide) y
    · exact mf_nd nd (i := 7) (j := 3) rfl rfl (by decide) y
    · exact mf_nd nd (i := 7) (j := 5) rfl rfl (by decide) y
theorem mf_CL.tp {D : va_G} {k5 : mf_k5} {t0 : Nat × Nat} {A : Nat → Prop} {H H1 : Heap} {x al tp : Nat} {due met : Int32} {ks : List (Nat × mf_O)} (nd : (mf_ids D (mf_tys k5)).Nodup) (h : mf_CL D k5 t0 A H x al tp due met ks) (E : mf_Eq A [D.1 2, k5.2.2.1] H H1) : mf_CL D k5 t0 A H1 x al tp due met ks :=
  h.eq E (by simp [mf_nd nd (i := 0) (j := 2) rfl rfl (by decide), mf_nd nd (i := 0) (j := 7) rfl rfl (by decide)]) (by simp [mf_nd nd (i := 1) (j := 2) rfl rfl (by decide), mf_nd nd (i := 1) (j := 7) rfl rfl (by decide)]) (by simp [mf_nd nd (i := 3) (j := 2) rfl rfl (by decide), mf_nd nd (i := 3) (j := 7) rfl rfl (by decide)]) (by simp [mf_nd nd (i := 5) (j := 2) rfl rfl (by decide), mf_nd nd (i := 5) (j := 7) rfl rfl (by decide)])
/-- an order that comes in, and what it comes into -/
def mf_MS (D : va_G) (k5 : mf_k5) (t0 : Nat × Nat) (A : Nat → Prop) (H : Heap) (x al tp ca : Nat) (due : Int32) (q : mf_O × mf_M) : Prop := ∃ ks, mf_L ks = q.2.1 ∧ mf_CL D k5 t0 A H x al tp due q.2.2.1 ks ∧ mf_TP D k5 A H tp q.2.2.2 ∧ va_at D mf_cl (ca, .inr (1, mf_fs q.1)) H ∧ A ca ∧ ca ∉ ks.map (fun z => z.1)
abbrev mf_cM (D : va_G) (k5 : mf_k5) : List ClassId := [D.1 0, D.1 1, D.1 2, D.1 3, k5.1, k5.2.2.1]
