/-! the law: two regions, one for the class and one for the model -/
theorem mf_ST.narrow {t0 : Nat × Nat} {A B : Nat → Prop} {U : State} {H : Heap} (h : mf_ST t0 A U H) (hs : ∀ q, B q → A q) : mf_ST t0 B U H := by
  obtain ⟨h1, h2, h3, h4⟩ := h
  exact ⟨h1.narrow hs, h2.narrow hs, h3.narrow hs, h4.narrow hs⟩
theorem mf_Env.atB {D : va_G} {tys : List (ClassId × FieldType)} {t0 : Nat × Nat} {A B : Nat → Prop} {s : State} {H : Heap} {locs : List Loc} (h : mf_Env D tys t0 A s) (hS : va_S A s.heap H locs) (hs : ∀ q, B q → A q) (hn : ∀ q, H.size ≤ q → B q) : ∀ U : State, U.heap = H → s.WarmedH U.vm → mf_P D tys t0 B H U := by
  intro U hU hW
  subst hU
  obtain ⟨h1, h2, h3, h4, h5⟩ := h
  exact ⟨rfl, va_K.moved hW.alike h1, h2.warm hW, ((h3.kept hS.2.1).moved hW.alike).narrow hs, hn, h5⟩
theorem mf_preSB {D : va_G} {tys : List (ClassId × FieldType)} {t0 : Nat × Nat} {A B : Nat → Prop} {s : State} {H : Heap} {locs : List Loc} {As : List Value} (h : mf_Env D tys t0 A s) (hS : va_S A s.heap H locs) (hs : ∀ q, B q → A q) (hn : ∀ q, H.size ≤ q → B q) : PreS s H (va_Pc As (mf_P D tys t0 B H)) As :=
  ⟨mf_blind, fun U hU hW => ⟨rfl, h.atB hS hs hn U hU hW⟩⟩
theorem mf_preVB {D : va_G} {tys : List (ClassId × FieldType)} {t0 : Nat × Nat} {A B : Nat → Prop} {s : State} {H : Heap} {locs : List Loc} {As : List Value} {b : Nat} {C : String} (h : mf_Env D tys t0 A s) (hS : va_S A s.heap H locs) (hs : ∀ q, B q → A q) (hn : ∀ q, H.size ≤ q → B q) (hr : ∃ cell : Cell, H[b]? = some cell ∧ cell.vm.isStatics = false ∧ s.vm.findClass C = some cell.cls) : PreV s H C b (va_Pc (.ref b :: As) (mf_P D tys t0 B H)) As :=
  ⟨mf_blind, hr, fun U hU hW => ⟨rfl, h.atB hS hs hn U hU hW⟩⟩
theorem mf_rup {p : Program} {l : Launch} {e : Env} {R : Room} {s : State} {m : MethodId} {args : Array Value} {below : List Frame} {meth : Method} {c : Code} {H : Heap} {locs : List Loc} {cells slots mc ms : Nat} {g : JFrame} {rest : List Value} {Qa : State → Outcome → State → Prop} {B A : Nat → Prop} (h : va_Run p l e R s m args below meth c H locs cells slots mc ms g rest Qa B) (hs : ∀ q, B q → A q) : va_Run p l e R s m args below meth c H locs cells slots mc ms g rest Qa A := fun T hT X => by
  obtain ⟨v, st₀, t, T', L, h0, X', hL, h1⟩ := h T hT X
  exact ⟨v, st₀, t, T', L, h0, X', fun q hq => hs _ (hL q hq), h1⟩
theorem mf_SS.kp {D : va_G} {k5 : mf_k5} {t0 : Nat × Nat} {A B : Nat → Prop} {H H1 : Heap} {x al tp : Nat} {st : mf_S} (h : mf_SS D k5 t0 A H x al tp st) (hb : ∀ q, A q → q < H.size → B q) (hk : ∀ q, A q → q < H.size → H1[q]? = H[q]?) : mf_SS D k5 t0 B H1 x al tp st := by
  obtain ⟨ks, e, ⟨hx, hAx, ⟨ed, mc, hal, hA1, hle, hor⟩, hks, hnd⟩, ⟨rw, rr, rf, rx, htp, hA3, hrw, hA4, hrf, hrr, hij⟩⟩ := h
  have kp : ∀ {q : Nat × va_E}, va_at D mf_cl q H → A q.1 → va_at D mf_cl q H1 := fun h hA => h.kept (hk _ hA h.lt)
  have kb : ∀ {q : Nat × va_E}, va_at D mf_cl q H → A q.1 → B q.1 := fun h hA => hb _ hA h.lt
  refine ⟨ks, e, ⟨kp hx hAx, kb hx hAx, ⟨ed, mc, kp hal hA1, kb hal hA1, hle, ?_⟩, fun q hq => ⟨kp (hks q hq).1 (hks q hq).2, kb (hks q hq).1 (hks q hq).2⟩, hnd⟩, ⟨rw, rr, rf, rx, kp htp hA3, kb htp hA3, kp hrw hA4, kb hrw hA4, hrf, fun i hi => ⟨kp (hrr i hi).1 (hrr i hi).2.1, kb (hrr i hi).1 (hrr i hi).2.1, (hrr i hi).2.2⟩, hij⟩⟩
  rcases hor with h | ⟨cap, f, h1, h2, h3⟩
  · exact Or.inl h
  · exact Or.inr ⟨cap, f, kp h1 h2, kb h1 h2, h3⟩
/-- the cells of the model -/
def mf_AM (mo : Nat) (aa : Nat → Nat) (q : Nat) : Prop := q = mo ∨ ∃ i, i < 11 ∧ q = aa i
def mf_BM (mo : Nat) (aa : Nat → Nat) (H : Heap) (q : Nat) : Prop := mf_AM mo aa q ∨ H.size ≤ q
def mf_Ac (h0 mo : Nat) (aa : Nat → Nat) (q : Nat) : Prop := h0 ≤ q ∧ ¬ mf_AM mo aa q
theorem mf_MD.kp {D : va_G} {k5 : mf_k5} {A : Nat → Prop} {H H1 : Heap} {mo : Nat} {aa : Nat → Nat} {cd : Int32} {st : rf_S} (h : mf_MD D k5 A H mo aa cd st) (hk : ∀ q, A q → q < H.size → H1[q]? = H[q]?) : mf_MD D k5 A H1 mo aa cd st := by
  obtain ⟨f0, f1, f2, f3, f4, f5, f6, f7, f8, f9, f10, hP, hD, h1⟩ := h
  exact ⟨f0, f1, f2, f3, f4, f5, f6, f7, f8, f9, f10, hP.kept (fun k q hq => hk _ (hD.2 k q hq) (hP k q hq).lt), hD, h1⟩
theorem mf_MD.up {D : va_G} {k5 : mf_k5} {A B : Nat → Prop} {H : Heap} {mo : Nat} {aa : Nat → Nat} {cd : Int32} {st : rf_S} (h : mf_MD D k5 A H mo aa cd st) (hs : ∀ q, A q → B q) : mf_MD D k5 B H mo aa cd st := by
  obtain ⟨f0, f1, f2, f3, f4, f5, f6, f7, f8, f9, f10, hP, hD, h1⟩ := h
  exact ⟨f0, f1, f2, f3, f4, f5, f6, f7, f8, f9, f10, hP, ⟨hD.1, fun k q hq => hs _ (hD.2 k q hq)⟩, h1⟩
theorem mf_MD.re {D : va_G} {k5 : mf_k5} {A : Nat → Prop} {H : Heap} {mo : Nat} {aa : Nat → Nat} {cd : Int32} {st : rf_S} (h : mf_MD D k5 A H mo aa cd st) : mf_MD D k5 (mf_AM mo aa) H mo aa cd st := by
  obtain ⟨f0, f1, f2, f3, f4, f5, f6, f7, f8, f9, f10, hP, hD, h1⟩ := h
  refine ⟨f0, f1, f2, f3, f4, f5, f6, f7, f8, f9, f10, hP, ⟨hD.1, fun k q hq => ?_⟩, h1⟩
  match k, hq with
  | 0, hq => cases hq; exact Or.inl rfl
  | 1, hq => cases hq; exact Or.inr ⟨0, by decide, rfl⟩
  | 2, hq => cases hq; exact Or.inr ⟨1, by decide, rfl⟩
  | 3, hq => cases hq; exact Or.inr ⟨2, by decide, rfl⟩
  | 4, hq => cases hq; exact Or.inr ⟨3, by decide, rfl⟩
  | 5, hq => cases hq; exact Or.inr ⟨4, by decide, rfl⟩
  | 6, hq => cases hq; exact Or.inr ⟨5, by decide, rfl⟩
  | 7, hq => cases hq; exact Or.inr ⟨6, by decide, rfl⟩
  | 8, hq => cases hq; exact Or.inr ⟨7, by decide, rfl⟩
  | 9, hq => cases hq; exact Or.inr ⟨8, by decide, rfl⟩
  | 10, hq => cases hq; exact Or.inr ⟨9, by decide, rfl⟩
  | 11, hq => cases hq; exact Or.inr ⟨10, by decide, rfl⟩
  | n + 12, hq => simp at hq
/-- where the model's cells lie -/
theorem mf_MD.in {D : va_G} {k5 : mf_k5} {A : Nat → Prop} {H : Heap} {mo : Nat} {aa : Nat → Nat} {cd : Int32} {st : rf_S} (h : mf_MD D k5 A H mo aa cd st) : ∀ q, mf_AM mo aa q → A q ∧ q < H.size := by
  obtain ⟨f0, f1, f2, f3, f4, f5, f6, f7, f8, f9, f10, hP, hD, h1⟩ := h
  rintro q (rfl | ⟨i, hi, rfl⟩)
  · exact ⟨hD.2 0 _ rfl, (hP 0 _ rfl).lt⟩
  · match i, hi with
    | 0, _ => exact ⟨hD.2 1 _ rfl, (hP 1 _ rfl).lt⟩
    | 1, _ => exact ⟨hD.2 2 _ rfl, (hP 2 _ rfl).lt⟩
    | 2, _ => exact ⟨hD.2 3 _ rfl, (hP 3 _ rfl).lt⟩
    | 3, _ => exact ⟨hD.2 4 _ rfl, (hP 4 _ rfl).lt⟩
    | 4, _ => exact ⟨hD.2 5 _ rfl, (hP 5 _ rfl).lt⟩
    | 5, _ => exact ⟨hD.2 6 _ rfl, (hP 6 _ rfl).lt⟩
    | 6, _ => exact ⟨hD.2 7 _ rfl, (hP 7 _ rfl).lt⟩
    | 7, _ => exact ⟨hD.2 8 _ rfl, (hP 8 _ rfl).lt⟩
    | 8, _ => exact ⟨hD.2 9 _ rfl, (hP 9 _ rfl).lt⟩
    | 9, _ => exact ⟨hD.2 10 _ rfl, (hP 10 _ rfl).lt⟩
    | 10, _ => exact ⟨hD.2 11 _ rfl, (hP 11 _ rfl).lt⟩
theorem mf_MD.ob {D : va_G} {k5 : mf_k5} {A : Nat → Prop} {H : Heap} {mo : Nat} {aa : Nat → Nat} {cd : Int32} {st : rf_S} (h : mf_MD D k5 A H mo aa cd st) : ∃ fs, va_at D mf_cl (mo, .inr (4, fs)) H := by
  obtain ⟨f0, f1, f2, f3, f4, f5, f6, f7, f8, f9, f10, hP, -⟩ := h
  exact ⟨_, hP 0 _ rfl⟩
theorem mf_SS.ob {D : va_G} {k5 : mf_k5} {t0 : Nat × Nat} {A : Nat → Prop} {H : Heap} {x al tp : Nat} {st : mf_S} (h : mf_SS D k5 t0 A H x al tp st) : ∃ fs, va_at D mf_cl (x, .inr (3, fs)) H := by
  obtain ⟨ks, e, ⟨hx, -⟩, -⟩ := h
  exact ⟨_, hx⟩
-- codes
theorem mf_c0 {c : Nat} (hb : c ≤ 2) (h : nI c = 0) : c = 0 := by
  have h1 : nI c = nI 0 := h
  exact (nI_eq (by omega) (by decide)).mp h1
theorem mf_submit_b (i h p q : Int32) (st : mf_S) : (mf_submit i h p q st).1.1 ≤ 2 := by
  unfold mf_submit; repeat' split
  all_goals simp
theorem mf_cancel_b (i : Int32) (st : mf_S) : (mf_cancel i st).1.1 ≤ 2 := by
  unfold mf_cancel; repeat' split
  all_goals simp
theorem mf_amend_b (i p q : Int32) (st : mf_S) : (mf_amend i p q st).1.1 ≤ 2 := by
  unfold mf_amend; repeat' split
  all_goals simp
theorem mf_withdraw_b (i : Int32) (st : mf_S) : (mf_withdraw i st).1.1 ≤ 2 := by
  unfold mf_withdraw; repeat' split
  all_goals simp
theorem mf_levels_b (i : Int32) (st : mf_S) : (mf_levels i st).1 ≤ 2 := by
  unfold mf_levels; repeat' split
  all_goals simp
theorem mf_level_b (i k w : Int32) (st : mf_S) : (mf_level i k w st).1 ≤ 2 := by
  unfold mf_level
  by_cases h1 : (i = 0 ∨ i = 1) ∧ 0 ≤ w ∧ w ≤ 2
  · rw [if_pos h1]
    by_cases h2 : 0 ≤ k ∧ k < nI (mf_lv (fun b => mf_next i b st.1) 40 (mf_next i 0 st.1) 0)
    · rw [if_pos h2]; exact Nat.zero_le _
    · rw [if_neg h2]; exact Nat.le_refl _
  · rw [if_neg h1]; exact Nat.le_succ _
theorem mf_ordr_b (i w : Int32) (st : mf_S) : (mf_ordr i w st).1 ≤ 2 := by
  unfold mf_ordr
  split
  · exact Nat.le_succ _
  · by_cases h : 0 ≤ w ∧ w ≤ 3
    · rw [if_pos h]; exact Nat.zero_le _
    · rw [if_neg h]; exact Nat.le_refl _
theorem mf_fill_b (k w : Int32) (g : mf_G) : (mf_fill k w g).1 ≤ 2 := by
  unfold mf_fill; repeat' split
  all_goals simp
theorem mf_figure_b (k : Int32) (st : mf_S) : (mf_figure k st).1 ≤ 2 := by
  unfold mf_figure; repeat' split
  all_goals simp
theorem mf_cmp0 (x : Int64) : lg_cmp x x = 0 := by simp [lg_cmp]
theorem mf_tout11 {x : Int32} (h0 : ¬ x = 0) (h1 : ¬ x = 1) (h2 : ¬ x = 2) (h3 : ¬ x = 3) (h4 : ¬ x = 4) (h5 : ¬ x = 5) (h6 : ¬ x = 6) (h7 : ¬ x = 7) (h8 : ¬ x = 8) (h9 : ¬ x = 9) (h10 : ¬ x = 10) (h11 : ¬ x = 11) : x.toInt < 0 ∨ (11 : Int) < x.toInt := mf_toutN (n := 11) (by decide) (fun k hk => match k, hk with
  | 0, _ => h0 | 1, _ => h1 | 2, _ => h2 | 3, _ => h3 | 4, _ => h4 | 5, _ => h5 | 6, _ => h6 | 7, _ => h7 | 8, _ => h8 | 9, _ => h9 | 10, _ => h10 | 11, _ => h11)
theorem mf_lawc {k L : Nat} (hL : L ≤ 2560) (hk : k ≤ 512) (h : ¬ nI (5 * k) > nI L - 5) : 5 * k + 5 ≤ L := by
  have h := Int32.not_lt.mp h
  rw [Int32.le_iff_toInt_le, nI_toInt (by omega)] at h
  have e : (nI L - 5).toInt = (L : Int) - 5 := by
    rw [Int32.toInt_sub, nI_toInt (by omega), show (5 : Int32).toInt = 5 from by decide]
    exact Int.bmod_eq_of_le (by omega) (by omega)
  rw [e] at h
  omega
theorem mf_L5 {k j : Nat} : nI (5 * k) + nI j = nI (5 * k + j) := nI_add _ _
theorem mf_sim_facts {n : Nat} {st : mf_S} {rst : rf_S} (h : mf_Sim n st rst) : (∀ r ∈ st.1, mf_pr r ≠ 0) ∧ (∀ x ∈ rst.1, mf_pr x.1 ≠ 0) ∧ (∀ a b, rf_next a b rst.1 = mf_next a b st.1) ∧ st.1.length ≤ 40 ∧ (∀ r ∈ st.1, mf_ok r) := by
  obtain ⟨⟨Z, hB, hZ, -⟩, -⟩ := h
  have hok : ∀ r ∈ st.1, mf_ok r := by
    intro r hr
    rw [hB.1] at hr
    obtain ⟨z, hz, rfl⟩ := List.mem_map.mp hr
    exact hB.2.2.2.1 z hz
  have hne : ∀ {r : mf_O}, mf_ok r → mf_pr r ≠ 0 := fun {r} h e => by
    have h2 := h.2
    rw [e] at h2
    exact absurd h2 (by decide)
  refine ⟨fun r hr => hne (hok r hr), fun x hx => hne (hB.2.2.2.1 x (hB.2.2.1.mem_iff.mp hx)), fun a b => mf_next_eq hB a b, ?_, hok⟩
  rw [(mf_bk_len hB).1]; exact hZ
/-- what stands at the law's loop -/
def mf_IV (D : va_G) (k5 : mf_k5) (t0 : Nat × Nat) (h0 x al tp mo o : Nat) (aa : Nat → Nat) (n : Nat) (H : Heap) : Prop := ∃ (st : mf_S) (rst : rf_S) (cd : Int32) (f : Nat → Int64), mf_Sim n st rst ∧ mf_SS D k5 t0 (mf_Ac h0 mo aa) H x al tp st ∧ mf_MD D k5 (mf_AM mo aa) H mo aa cd rst ∧ va_at D mf_cl (o, .inl (k5.2.2.2.2, 1, .inr (.inl f))) H
section MFW
variable {p : Program} {l : Launch} {e : Env} {R : Room} {s : State} {m : MethodId} {args : Array Value} {below : List Frame} {meth : Method} {c : Code} {H : Heap} {locs : List Loc} {cells slots : Nat} {Q : State → Prop}
variable {cc : ByteArray} {nL pc : Nat} {ls : Array Slot} {rest : List Value} {D : va_G} {t0 : Nat × Nat} {A : Nat → Prop} {a : Nat} {tys : List (ClassId × FieldType)} {own : String}
variable {y : MethodName} {bytes : ByteArray} {maxL index n : Nat} {ret : Option FieldType} {rm : Room}
theorem mf_cSW (C : mf_Cx p s m args c own cc nL D tys t0 A) {hh : List (Nat × Nat × Nat × Nat)} (hc : Cond.codeWith y bytes maxL ret hh ∈ mf_tb) (hl : Cond.methodLink own index y ∈ mf_tb) (hn : Cond.initialized y.cls ∈ mf_tb) (hs : Cond.static y ∈ mf_tb) (hd : mf_hd y n) (hR : rm.frames + 1 ≤ R.frames ∧ 8 + (maxL + 11) + rm.locals ≤ R.locals) : vx_CSW R s args own index y bytes maxL ret hh (mf_wsW y bytes maxL ret hh) rm rm.cells rm.slots n := by
  refine vx_cwSW n C.2.2.1 ?_ rfl rfl rfl hd hR
  intro w hw
  have hw2 : w ∈ mf_tb := by
    unfold va_wsS mf_wsW at hw
    rcases List.mem_append.mp hw with h | h
    · rcases List.mem_cons.mp h with h | h
      · rw [h]; exact hl
      · rcases List.mem_cons.mp h with h | h
        · rw [h]; exact hs
        · rw [List.mem_singleton.mp h]; exact hn
    · rcases List.mem_cons.mp h with h | h
      · rw [h]; exact hc
      · exact h
  exact ⟨hw2, good_of_word (mf_good _ hw2)⟩
theorem mf_sld (C : mf_Cx p s m args c own cc nL D tys t0 A) {b L : Nat} {xs : Nat → Int32} (hX : va_X b L xs s s.heap) (hbl : b < s.heap.size) (hbA : ¬ A b) (hS : va_S A s.heap H locs) {i : Int32} {j : Nat} {v : Int32} (hi : i = nI j) (hj : j < L) (hL : L ≤ 2560) (hv : xs j = v) (hdg : decode cc pc = .ok (.iaload, 1))
    (kk : W p l e R s m args below meth c H locs cells slots Q (F0 m (pc + 1) ls (.int v :: rest))) : W p l e R s m args below meth c H locs cells slots Q (F0 m pc ls (.int i :: .ref b :: rest)) := by
  subst hi
  refine va_sld C.x C.b hX hbl hbA hS (vp_in_nI hj (by omega)) hdg ?_
  rw [nI_clamp (by omega), hv]
  exact kk
theorem mf_ll (C : mf_Cx p s m args c own cc nL D tys t0 A) {cA : ClassId} {t n : Nat} {f : Nat → Int64} {v : Int64} (ht : tys[t]? = some (cA, .long)) (hat : va_at D mf_cl (a, .inl (cA, n, .inr (.inl f))) H) (hi : 0 < n) (hn : n < 2 ^ 31) (hv : f 0 = v) (hdg : decode cc pc = .ok (.laload, 1))
    (kk : W p l e R s m args below meth c H locs cells slots Q (F0 m (pc + 1) ls (.long v :: rest))) : W p l e R s m args below meth c H locs cells slots Q (F0 m pc ls (.int 0 :: .ref a :: rest)) := by
  refine va_lald C.x C.b C.k (mf_one hat) 0 t rfl ht (vp_in_nI (n := 0) hi hn) hdg ?_
  rw [show (0 : Int32).toNatClampNeg = 0 from by decide, hv]
  exact kk
end MFW
