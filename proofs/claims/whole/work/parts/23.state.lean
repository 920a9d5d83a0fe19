/-! frames by the classes of the cells -/
theorem mf_nd {l : List ClassId} (h : l.Nodup) {i j : Nat} {a b : ClassId} (hi : l[i]? = some a) (hj : l[j]? = some b) (hij : i ≠ j) : a ≠ b := by
  intro e
  subst e
  obtain ⟨h1, e1⟩ := List.getElem?_eq_some_iff.mp hi
  obtain ⟨h2, e2⟩ := List.getElem?_eq_some_iff.mp hj
  rcases Nat.lt_or_ge i j with q | q
  · exact (List.pairwise_iff_getElem.mp h i j h1 h2 q) (e1.trans e2.symm)
  · exact (List.pairwise_iff_getElem.mp h j i h2 h1 (by omega)) (e2.trans e1.symm)
def mf_co (H : Heap) (q : Nat) : Option ClassId := (H[q]?).map (fun c => c.cls)
theorem mf_co_o {D : va_G} {a ci : Nat} {fs : List Value} {H : Heap} (h : va_at D mf_cl (a, .inr (ci, fs)) H) : mf_co H a = some (D.1 ci) := by
  obtain ⟨r, -, cell, h1, h2, -⟩ := h
  show (H[a]?).map _ = _
  rw [h1]
  exact congrArg some h2
theorem mf_co_a {D : va_G} {a : Nat} {cA : ClassId} {x : vp_A} {H : Heap} (h : va_at D mf_cl (a, .inl (cA, x)) H) : mf_co H a = some cA := by
  have h1 : H[a]? = some (vp_cell cA x) := h
  show (H[a]?).map _ = _
  rw [h1]
  obtain ⟨n, f | f | f | f | f⟩ := x <;> rfl
/-- the cells of A that are new, or of one of these classes -/
def mf_fr (A : Nat → Prop) (H : Heap) (L : List ClassId) : Nat → Prop := fun q => A q ∧ (H.size ≤ q ∨ ∃ k ∈ L, mf_co H q = some k)
def mf_Eq (A : Nat → Prop) (L : List ClassId) (H H1 : Heap) : Prop := H.size ≤ H1.size ∧ ∀ q, q < H.size → ¬ mf_fr A H L q → H1[q]? = H[q]?
theorem mf_Eq.rf {A : Nat → Prop} {L : List ClassId} {H : Heap} : mf_Eq A L H H := ⟨Nat.le_refl _, fun _ _ _ => rfl⟩
theorem mf_Eq.tr {A : Nat → Prop} {L1 L2 L : List ClassId} {H H1 H2 : Heap} (h1 : mf_Eq A L1 H H1) (h2 : mf_Eq A L2 H1 H2) (s1 : ∀ k ∈ L1, k ∈ L) (s2 : ∀ k ∈ L2, k ∈ L) : mf_Eq A L H H2 := by
  refine ⟨Nat.le_trans h1.1 h2.1, fun q hq hn => ?_⟩
  have e1 := h1.2 q hq (fun z => hn ⟨z.1, z.2.elim Or.inl (fun ⟨k, a, b⟩ => Or.inr ⟨k, s1 k a, b⟩)⟩)
  rw [h2.2 q (Nat.lt_of_lt_of_le hq h1.1) (fun z => hn ⟨z.1, Or.inr ?_⟩), e1]
  rcases z.2 with y | ⟨k, a, b⟩
  · have := h1.1; omega
  · refine ⟨k, s2 k a, ?_⟩
    unfold mf_co at b ⊢
    rw [← e1]; exact b
theorem mf_Eq.ko {A : Nat → Prop} {L : List ClassId} {H H1 : Heap} (h : mf_Eq A L H H1) {D : va_G} {a ci : Nat} {fs : List Value} (hat : va_at D mf_cl (a, .inr (ci, fs)) H) (hn : D.1 ci ∉ L) : va_at D mf_cl (a, .inr (ci, fs)) H1 := by
  refine hat.kept (h.2 a hat.lt fun z => ?_)
  rcases z.2 with y | ⟨k, y, w⟩
  · exact absurd y (Nat.not_le.mpr hat.lt)
  · rw [mf_co_o hat] at w
    cases w
    exact hn y
theorem mf_Eq.ka {A : Nat → Prop} {L : List ClassId} {H H1 : Heap} (h : mf_Eq A L H H1) {D : va_G} {a : Nat} {cA : ClassId} {x : vp_A} (hat : va_at D mf_cl (a, .inl (cA, x)) H) (hn : cA ∉ L) : va_at D mf_cl (a, .inl (cA, x)) H1 := by
  refine hat.kept (h.2 a hat.lt fun z => ?_)
  rcases z.2 with y | ⟨k, y, w⟩
  · exact absurd y (Nat.not_le.mpr hat.lt)
  · rw [mf_co_a hat] at w
    cases w
    exact hn y
/-- one cell was written -/
theorem mf_Eq.one {A : Nat → Prop} {H H1 : Heap} {a : Nat} {k : ClassId} (hz : H1.size = H.size) (ho : ∀ q, q ≠ a → H1[q]? = H[q]?) (ha : A a) (hc : mf_co H a = some k) : mf_Eq A [k] H H1 := by
  refine ⟨Nat.le_of_eq hz.symm, fun q hq hn => ho q fun e => hn ?_⟩
  subst e
  exact ⟨ha, Or.inr ⟨k, List.mem_cons_self, hc⟩⟩
theorem mf_ne_c {H : Heap} {a b : Nat} {k1 k2 : ClassId} (h1 : mf_co H a = some k1) (h2 : mf_co H b = some k2) (h : k1 ≠ k2) : a ≠ b := by
  intro e
  subst e
  exact h (Option.some.inj (h1.symm.trans h2))
-- the list
def mf_AL (D : va_G) (k5 : mf_k5) (t0 : Nat × Nat) (A : Nat → Prop) (H : Heap) (al : Nat) (as : List Nat) : Prop := ∃ (ed : Nat) (mc : Int32), va_at D mf_cl (al, .inr (0, [.ref ed, .int (nI as.length), .int mc])) H ∧ A al ∧ as.length ≤ 40 ∧ ((as = [] ∧ ed = t0.1) ∨ ∃ (cap : Nat) (f : Nat → Option Nat), va_at D mf_cl (ed, .inl (k5.1, cap, .inr (.inr (.inr (.inr f))))) H ∧ A ed ∧ as.length ≤ cap ∧ 10 ≤ cap ∧ cap ≤ 60 ∧ ∀ i a, as[i]? = some a → f i = some a)
section MFS
variable {p : Program} {l : Launch} {e : Env} {R : Room} {s : State} {m : MethodId} {args : Array Value} {below : List Frame} {meth : Method} {c : Code} {H : Heap} {locs : List Loc} {cells slots : Nat} {Q : State → Prop}
variable {cc : ByteArray} {nL pc : Nat} {ls : Array Slot} {rest : List Value} {D : va_G} {t0 : Nat × Nat} {A : Nat → Prop} {a : Nat} {tys : List (ClassId × FieldType)} {own : String}
/-- aaload, the place's address known -/
theorem mf_aald (C : mf_Cx p s m args c own cc nL D tys t0 A) {cA : ClassId} {C1 : String} {t n i : Nat} {f : Nat → Option Nat} (ht : tys[t]? = some (cA, .object C1)) (hat : va_at D mf_cl (a, .inl (cA, n, .inr (.inr (.inr (.inr f))))) H) (hi : i < n) (hn : n < 2 ^ 31) {b : Nat} (hf : f i = some b) (hdg : decode cc pc = .ok (.aaload, 1))
    (kk : W p l e R s m args below meth c H locs cells slots Q (F0 m (pc + 1) ls (.ref b :: rest))) : W p l e R s m args below meth c H locs cells slots Q (F0 m pc ls (.int (nI i) :: .ref a :: rest)) := by
  refine va_aldq C.x C.b C.k (mf_one hat) 0 t rfl ht (vp_in_nI hi hn) hdg ?_
  rw [nI_clamp (by omega), hf]
  exact kk
theorem mf_ra {v : Nat} {rt : FieldType} (hx : p.tables.exec = Jvm.exec) (hb : c.code = cc) (hH : s.heap = H) (hr : meth.sig.returnType = some rt) (hrt : (∃ n, rt = .object n) ∨ ∃ t, rt = .array t) (hlk : meth.locks = false) (hdg : decode cc pc = .ok (.areturn, 1)) : W p l e R s m args below meth c H [] 0 0 (MQ below (mf_K (some (.ref v))) args s 0 0 (fun _ => False)) (F0 m pc ls [.ref v]) :=
  W.aret hx hb hr hrt (Or.inr ⟨v, rfl⟩) (fun t ht _ => ⟨rfl, ht.trans hH.symm⟩) (fun q h => by cases h) hdg hlk
theorem mf_rl {v : Int64} (hx : p.tables.exec = Jvm.exec) (hb : c.code = cc) (hH : s.heap = H) (hr : meth.sig.returnType = some .long) (hlk : meth.locks = false) (hdg : decode cc pc = .ok (.lreturn, 1)) : W p l e R s m args below meth c H [] 0 0 (MQ below (mf_K (some (.long v))) args s 0 0 (fun _ => False)) (F0 m pc ls [.long v]) :=
  W.lret hx hb hr (fun t ht _ => ⟨rfl, ht.trans hH.symm⟩) (fun q h => by cases h) hdg hlk
/-- checkcast of an object of that very class -/
theorem mf_cast (C : mf_Cx p s m args c own cc nL D tys t0 A) {ci N : Nat} {R0 : String} {T : u_T} (hc : mf_cl[ci]? = some (R0, T, N)) {index : Nat} (hl : Cond.classLink own index R0 ∈ mf_tb) {fs : List Value} (hat : va_at D mf_cl (a, .inr (ci, fs)) H) (hdg : decode cc pc = .ok (.checkcast index, 3))
    (kk : W p l e R s m args below meth c H locs cells slots Q (F0 m (pc + 3) ls (.ref a :: rest))) : W p l e R s m args below meth c H locs cells slots Q (F0 m pc ls (.ref a :: rest)) :=
  va_castS C.x C.b C.o (C.t hl) (C.k.1 ci _ hc).2 (mf_rv C hc hat) hdg kk
/-- putfield of an own field -/
theorem mf_pf (C : mf_Cx p s m args c own cc nL D tys t0 A) {ci N : Nat} {R0 : String} {T : u_T} (hc : mf_cl[ci]? = some (R0, T, N)) (hin : ∀ w ∈ u_ws R0 T N, w ∈ mf_tb) {ty0 : Nat → FieldType} (hty : ∀ k, k < N → parseFieldDescriptor (T k).2.2.1 = some (ty0 k)) (hnm : ∀ a, a < N → ∀ b, b < N → a ≠ b → (T a).2.1 ≠ (T b).2.1) (k : Nat) (hk : k < N) {index : Nat} (hl : Cond.fieldLink own index (T k).1 (T k).2.1 (T k).2.2.1 ∈ mf_tb) (hfin : (T k).2.2.2 = false) {v : Value} (hn : narrow (ty0 k) v = v) (hfit : fits (ty0 k) v = true) {fs fs' : List Value} (hat : va_at D mf_cl (a, .inr (ci, fs)) H) (hlen : k < fs.length) (hfs : fs.set k v = fs') (hS : va_S A s.heap H locs) (ha : A a) (hdg : decode cc pc = .ok (.putfield index, 3))
    (kk : ∀ (H1 : Heap) (locs1 : List Loc), va_at D mf_cl (a, .inr (ci, fs')) H1 → H1.size = H.size → (∀ q, q ≠ a → H1[q]? = H[q]?) → va_S A s.heap H1 locs1 → W p l e R s m args below meth c H1 locs1 cells slots Q (F0 m (pc + 3) ls rest)) : W p l e R s m args below meth c H locs cells slots Q (F0 m pc ls (v :: .ref a :: rest)) := by
  subst hfs
  have hap := va_apart (own := own) C.2.2.1 hin ty0 hty hnm C.k hc
  obtain ⟨r, h1, cell, q1, q2, q3, q4⟩ := hat
  obtain rfl : r = (R0, T, N) := Option.some.inj (h1.symm.trans hc)
  obtain ⟨hSl, hfc, kC, hkC, hkind⟩ := C.k.1 ci _ hc
  obtain ⟨cf, kf, fi, f, hi, hsl⟩ := hSl k hk
  have hlay := C.2.2.1 _ (hin _ (u_in_lay hk))
  unfold u_lay at hlay
  rw [if_neg (by rw [hfin]; decide)] at hlay
  have hst := (u_facts hfc hkC (u_lays C.2.2.1 hin hk) hi).1
  have h6 := u_store hfc hkC hkind hlay hi (hty k hk) hn hfit
  refine W.putK C.x C.b (f := f) ⟨C.o, C.t hl, ⟨_, _, _, hi⟩, hst⟩ (by rw [q2]; exact h6) q1 q3 (by rw [hsl]; exact k2_hasslot (q4 k hk)) rfl rfl hdg fun H' e1 e2 e3 => ?_
  rw [hsl] at e1 ⊢
  exact kk H' _ ⟨_, hc, t_OB.to (V := updV (vp_V fs) k v) ⟨_, e1, q2, q3, t_set q4 hap hk v⟩ (fun j _ => vp_updV_set hlen v j)⟩ e2 e3 (hS.put e2 e3 ha)
/-- putfield of a nest mate's field -/
theorem mf_pfN (C : mf_Cx p s m args c own cc nL D tys t0 A) {ci N : Nat} {R0 : String} {T : u_T} (hc : mf_cl[ci]? = some (R0, T, N)) (hin : ∀ w ∈ u_ws R0 T N, w ∈ mf_tb) {ty0 : Nat → FieldType} (hty : ∀ k, k < N → parseFieldDescriptor (T k).2.2.1 = some (ty0 k)) (hnm : ∀ a, a < N → ∀ b, b < N → a ≠ b → (T a).2.1 ≠ (T b).2.1) (k : Nat) (hk : k < N) {index : Nat} {host : String} (hl : va_Nw (.fieldLinkNest own index (T k).1 (T k).2.1 (T k).2.2.1 host) s) (hfin : (T k).2.2.2 = false) {v : Value} (hn : narrow (ty0 k) v = v) (hfit : fits (ty0 k) v = true) {fs fs' : List Value} (hat : va_at D mf_cl (a, .inr (ci, fs)) H) (hlen : k < fs.length) (hfs : fs.set k v = fs') (hS : va_S A s.heap H locs) (ha : A a) (hdg : decode cc pc = .ok (.putfield index, 3))
    (kk : ∀ (H1 : Heap) (locs1 : List Loc), va_at D mf_cl (a, .inr (ci, fs')) H1 → H1.size = H.size → (∀ q, q ≠ a → H1[q]? = H[q]?) → va_S A s.heap H1 locs1 → W p l e R s m args below meth c H1 locs1 cells slots Q (F0 m (pc + 3) ls rest)) : W p l e R s m args below meth c H locs cells slots Q (F0 m pc ls (v :: .ref a :: rest)) := by
  subst hfs
  have hap := va_apart (own := own) C.2.2.1 hin ty0 hty hnm C.k hc
  obtain ⟨r, h1, cell, q1, q2, q3, q4⟩ := hat
  obtain rfl : r = (R0, T, N) := Option.some.inj (h1.symm.trans hc)
  obtain ⟨hSl, hfc, kC, hkC, hkind⟩ := C.k.1 ci _ hc
  obtain ⟨cf, kf, fi, f, hi, hsl⟩ := hSl k hk
  have hlay := C.2.2.1 _ (hin _ (u_in_lay hk))
  unfold u_lay at hlay
  rw [if_neg (by rw [hfin]; decide)] at hlay
  have hst := (u_facts hfc hkC (u_lays C.2.2.1 hin hk) hi).1
  have h6 := u_store hfc hkC hkind hlay hi (hty k hk) hn hfit
  refine va_WputK C.x C.b (f := f) C.o (hl.use rfl) hi hst (by rw [q2]; exact h6) q1 q3 (by rw [hsl]; exact k2_hasslot (q4 k hk)) rfl rfl hdg fun H' e1 e2 e3 => ?_
  rw [hsl] at e1 ⊢
  exact kk H' _ ⟨_, hc, t_OB.to (V := updV (vp_V fs) k v) ⟨_, e1, q2, q3, t_set q4 hap hk v⟩ (fun j _ => vp_updV_set hlen v j)⟩ e2 e3 (hS.put e2 e3 ha)
end MFS
