/-! writing: worlds of one or two cells, ends, calls that answer with a new cell -/
theorem mf_two {D : va_G} {cl : List vw_C} {q r : Nat × va_E} {H : Heap} (h : va_at D cl q H) (h2 : va_at D cl r H) : va_P D cl [q, r] H := by
  intro k q' hk
  match k with
  | 0 => cases hk; exact h
  | 1 => cases hk; exact h2
  | k + 2 => simp at hk
theorem mf_D1 {A : Nat → Prop} {a : Nat} {e : va_E} (ha : A a) : va_D A [(a, e)] := by
  refine ⟨fun i j x y hi hj _ => ?_, fun k q hk => ?_⟩
  · have h1 := (List.getElem?_eq_some_iff.mp hi).1
    have h2 := (List.getElem?_eq_some_iff.mp hj).1
    simp at h1 h2
    omega
  · match k with
    | 0 => cases hk; exact ha
    | k + 1 => simp at hk
theorem mf_D2 {A : Nat → Prop} {a b : Nat} {e f : va_E} (h : a ≠ b) (ha : A a) (hb : A b) : va_D A [(a, e), (b, f)] := by
  refine ⟨fun i j x y hi hj hxy => ?_, fun k q hk => ?_⟩
  · match i, j with
    | 0, 0 => rfl
    | 1, 1 => rfl
    | 0, 1 => cases hi; cases hj; exact absurd hxy h
    | 1, 0 => cases hi; cases hj; exact absurd hxy.symm h
    | i + 2, _ => simp at hi
    | _, j + 2 => simp at hj
  · match k with
    | 0 => cases hk; exact ha
    | 1 => cases hk; exact hb
    | k + 2 => simp at hk
theorem mf_S_up {A A1 : Nat → Prop} {H0 H : Heap} {locs : List Loc} (h : va_S A1 H0 H locs) (hA : ∀ q, A1 q → A q) : va_S A H0 H locs := ⟨h.1, fun q h1 h2 => h.2.1 q h1 (fun z => h2 (hA q z)), fun l hl => hA _ (h.2.2 l hl)⟩
theorem mf_fr_up {A : Nat → Prop} {H : Heap} {L : List ClassId} : ∀ q, mf_fr A H L q → A q := fun _ h => h.1
theorem mf_fr_c {A : Nat → Prop} {H : Heap} {L : List ClassId} {q : Nat} {k : ClassId} (ha : A q) (hk : mf_co H q = some k) (hm : k ∈ L) : mf_fr A H L q := ⟨ha, Or.inr ⟨k, hm, hk⟩⟩
theorem mf_S_eq {A : Nat → Prop} {H H1 : Heap} {L : List ClassId} {locs : List Loc} (h : va_S (mf_fr A H L) H H1 locs) : mf_Eq A L H H1 := ⟨h.1, fun q h1 h2 => h.2.1 q h1 h2⟩
def mf_Kr (B : Nat → Heap → Prop) (A1 : Nat → Prop) : Array Value → State → Outcome → State → Prop := fun _ st o t => ∃ a, o = .returned (some (.ref a)) ∧ B a t.heap ∧ va_F A1 st t
def mf_cRR (l : Launch) (y : MethodName) (cc : ByteArray) (n : Nat) (r : Option FieldType) (rm : Room) (D : va_G) (tys : List (ClassId × FieldType)) (t0 : Nat × Nat) (A : Nat → Prop) (H : Heap) (av : List Value) (B : Nat → Heap → Prop) (A1 : Nat → Prop) (mc ms : Nat) : Prop := Met l y (mf_ws y cc n r) rm (va_Pc av (mf_P D tys t0 A H)) (mf_Kr B A1) mc ms A
section MFW
variable {p : Program} {l : Launch} {e : Env} {R : Room} {s : State} {m : MethodId} {args : Array Value} {below : List Frame} {meth : Method} {c : Code} {H : Heap} {locs : List Loc} {cells slots : Nat} {Q : State → Prop}
variable {cc : ByteArray} {nL pc : Nat} {ls : Array Slot} {rest st0 : List Value} {D : va_G} {t0 : Nat × Nat} {A A1 : Nat → Prop} {a : Nat} {tys : List (ClassId × FieldType)} {own : String} {mc ms : Nat}
theorem mf_cwr {B : Nat → Heap → Prop} {aa : Array Value} (hr : va_Run p l e R s m args below meth c H locs cells slots mc ms (F0 m pc ls st0) rest (mf_Kr B A1 aa) A) (hS : va_S A s.heap H locs) (hA : ∀ q, q < H.size → A1 q → A q)
    (kk : ∀ (a : Nat) (H1 : Heap) (locs1 : List Loc), B a H1 → H.size ≤ H1.size → (∀ q : Nat, q < H.size → ¬ A1 q → H1[q]? = H[q]?) → va_S A s.heap H1 locs1 → W p l e R s m args below meth c H1 locs1 (cells + mc) (slots + ms) Q (F0 m (pc + 3) ls (.ref a :: rest))) : W p l e R s m args below meth c H locs cells slots Q (F0 m pc ls st0) := by
  intro T hT X
  obtain ⟨v', st₀, t, T', L, h0, X', hL, e1, e2, ⟨ra, hv, hb, hz, hk⟩, st⟩ := hr T hT X
  cases hv
  rw [h0] at hz hk
  obtain ⟨t2, a1, b1⟩ := kk ra T'.heap (locs ++ L) (by rw [e1]; exact hb) (by rw [e1]; exact hz) (fun q h1 h2 => by rw [e1]; exact hk q h1 h2)
    ⟨Nat.le_trans hS.1 (by rw [e1]; exact hz), fun q h1 h2 => by rw [e1, hk q (Nat.lt_of_lt_of_le h1 hS.1) (fun z => h2 (hA q (Nat.lt_of_lt_of_le h1 hS.1) z))]; exact hS.2.1 q h1 h2, fun q hq => by
      rcases List.mem_append.mp hq with h | h
      · exact hS.2.2 q h
      · exact hL q h⟩ T' rfl X'
  exact ⟨t2, st t2 a1, b1⟩
-- ends of writers
theorem mf_wv {B : Heap → Prop} {H0 : Heap} (hx : p.tables.exec = Jvm.exec) (hb : c.code = cc) (hr : meth.sig.returnType = none) (hlk : meth.locks = false) (hdg : decode cc pc = .ok (.return_, 1)) (hB : B H) (hF : H0.size ≤ H.size ∧ ∀ q, q < H0.size → ¬ A1 q → H[q]? = H0[q]?) (h0 : s.heap = H0) (hf : ∀ q ∈ locs, A q.base) (hc : cells ≤ mc) (hs : slots ≤ ms) : W p l e R s m args below meth c H locs cells slots (MQ below (mf_Kw none B A1) args s mc ms A) (F0 m pc ls []) := by
  subst h0
  refine W.widen hc hs ?_
  exact W.vret hx hb hr (fun t ht _ => ⟨rfl, by rw [ht]; exact hB, by rw [ht]; exact hF.1, fun q h1 h2 => by rw [ht]; exact hF.2 q h1 h2⟩) hf hdg hlk
theorem mf_wi {B : Heap → Prop} {H0 : Heap} {v : Int32} (hx : p.tables.exec = Jvm.exec) (hb : c.code = cc) (hr : meth.sig.returnType = some .int) (hlk : meth.locks = false) (hdg : decode cc pc = .ok (.ireturn, 1)) (hB : B H) (hF : H0.size ≤ H.size ∧ ∀ q, q < H0.size → ¬ A1 q → H[q]? = H0[q]?) (h0 : s.heap = H0) (hf : ∀ q ∈ locs, A q.base) (hc : cells ≤ mc) (hs : slots ≤ ms) : W p l e R s m args below meth c H locs cells slots (MQ below (mf_Kw (some (.int v)) B A1) args s mc ms A) (F0 m pc ls [.int v]) := by
  subst h0
  refine W.widen hc hs ?_
  exact W.iret hx hb hr (fun t ht _ => ⟨rfl, by rw [ht]; exact hB, by rw [ht]; exact hF.1, fun q h1 h2 => by rw [ht]; exact hF.2 q h1 h2⟩) hf hdg hlk
theorem mf_wz {B : Heap → Prop} {H0 : Heap} {v : Int32} (hx : p.tables.exec = Jvm.exec) (hb : c.code = cc) (hr : meth.sig.returnType = some .boolean) (hlk : meth.locks = false) (hn : narrow .boolean (.int v) = .int v) (hdg : decode cc pc = .ok (.ireturn, 1)) (hB : B H) (hF : H0.size ≤ H.size ∧ ∀ q, q < H0.size → ¬ A1 q → H[q]? = H0[q]?) (h0 : s.heap = H0) (hf : ∀ q ∈ locs, A q.base) (hc : cells ≤ mc) (hs : slots ≤ ms) : W p l e R s m args below meth c H locs cells slots (MQ below (mf_Kw (some (.int v)) B A1) args s mc ms A) (F0 m pc ls [.int v]) := by
  subst h0
  refine W.widen hc hs ?_
  exact W.zret hx hb hr hn (fun t ht _ => ⟨rfl, by rw [ht]; exact hB, by rw [ht]; exact hF.1, fun q h1 h2 => by rw [ht]; exact hF.2 q h1 h2⟩) hf hdg hlk
theorem mf_wa {B : Heap → Prop} {H0 : Heap} {v : Nat} {rt : FieldType} (hx : p.tables.exec = Jvm.exec) (hb : c.code = cc) (hr : meth.sig.returnType = some rt) (hrt : (∃ n, rt = .object n) ∨ ∃ t, rt = .array t) (hlk : meth.locks = false) (hdg : decode cc pc = .ok (.areturn, 1)) (hB : B H) (hF : H0.size ≤ H.size ∧ ∀ q, q < H0.size → ¬ A1 q → H[q]? = H0[q]?) (h0 : s.heap = H0) (hf : ∀ q ∈ locs, A q.base) (hc : cells ≤ mc) (hs : slots ≤ ms) : W p l e R s m args below meth c H locs cells slots (MQ below (mf_Kw (some (.ref v)) B A1) args s mc ms A) (F0 m pc ls [.ref v]) := by
  subst h0
  refine W.widen hc hs ?_
  exact W.aret hx hb hr hrt (Or.inr ⟨v, rfl⟩) (fun t ht _ => ⟨rfl, by rw [ht]; exact hB, by rw [ht]; exact hF.1, fun q h1 h2 => by rw [ht]; exact hF.2 q h1 h2⟩) hf hdg hlk
theorem mf_wr {B : Nat → Heap → Prop} {H0 : Heap} {v : Nat} {rt : FieldType} (hx : p.tables.exec = Jvm.exec) (hb : c.code = cc) (hr : meth.sig.returnType = some rt) (hrt : (∃ n, rt = .object n) ∨ ∃ t, rt = .array t) (hlk : meth.locks = false) (hdg : decode cc pc = .ok (.areturn, 1)) (hB : B v H) (hF : H0.size ≤ H.size ∧ ∀ q, q < H0.size → ¬ A1 q → H[q]? = H0[q]?) (h0 : s.heap = H0) (hf : ∀ q ∈ locs, A q.base) (hc : cells ≤ mc) (hs : slots ≤ ms) : W p l e R s m args below meth c H locs cells slots (MQ below (mf_Kr B A1) args s mc ms A) (F0 m pc ls [.ref v]) := by
  subst h0
  refine W.widen hc hs ?_
  exact W.aret hx hb hr hrt (Or.inr ⟨v, rfl⟩) (fun t ht _ => ⟨v, rfl, by rw [ht]; exact hB, by rw [ht]; exact hF.1, fun q h1 h2 => by rw [ht]; exact hF.2 q h1 h2⟩) hf hdg hlk
/-- an inherited field -/
theorem mf_gfS (C : mf_Cx p s m args c own cc nL D tys t0 A) {ci N : Nat} {R0 ref : String} {T : u_T} (hc : mf_cl[ci]? = some (R0, T, N)) (hin : ∀ w ∈ u_ws R0 T N, w ∈ mf_tb) (k : Nat) (hk : k < N) {index : Nat} (hl : Cond.fieldLink own index ref (T k).2.1 (T k).2.2.1 ∈ mf_tb) (hsm : Cond.sameField ref (T k).1 (T k).2.1 (T k).2.2.1 ∈ mf_tb) {fs : List Value} (hat : va_at D mf_cl (a, .inr (ci, fs)) H) {v : Value} (hv : fs[k]? = some v) (hdg : decode cc pc = .ok (.getfield index, 3))
    (kk : W p l e R s m args below meth c H locs cells slots Q (F0 m (pc + 3) ls (v :: rest))) : W p l e R s m args below meth c H locs cells slots Q (F0 m pc ls (.ref a :: rest)) :=
  va_get C.x C.b C.2.2.1 hin C.o C.k (mf_one hat) 0 rfl hc k hk (C.t hl) (fun x h => u_same (C.t hsm) x h) hv hdg kk
end MFW
