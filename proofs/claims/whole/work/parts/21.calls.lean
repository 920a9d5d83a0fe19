/-! contracts of this claim: an answer that is known, the heap as it was, or as B says -/
def mf_K (v : Option Value) : Array Value → State → Outcome → State → Prop := fun _ st o t => o = .returned v ∧ t.heap = st.heap
def mf_Kw (v : Option Value) (B : Heap → Prop) (A1 : Nat → Prop) : Array Value → State → Outcome → State → Prop := fun _ st o t => o = .returned v ∧ B t.heap ∧ va_F A1 st t
def mf_cRO (l : Launch) (y : MethodName) (cc : ByteArray) (n : Nat) (r : Option FieldType) (rm : Room) (D : va_G) (tys : List (ClassId × FieldType)) (t0 : Nat × Nat) (A : Nat → Prop) (H : Heap) (av : List Value) (v : Option Value) : Prop := Met l y (mf_ws y cc n r) rm (va_Pc av (mf_P D tys t0 A H)) (mf_K v) 0 0 (fun _ => False)
def mf_cWR (l : Launch) (y : MethodName) (cc : ByteArray) (n : Nat) (r : Option FieldType) (rm : Room) (D : va_G) (tys : List (ClassId × FieldType)) (t0 : Nat × Nat) (A : Nat → Prop) (H : Heap) (av : List Value) (v : Option Value) (B : Heap → Prop) (A1 : Nat → Prop) (mc ms : Nat) : Prop := Met l y (mf_ws y cc n r) rm (va_Pc av (mf_P D tys t0 A H)) (mf_Kw v B A1) mc ms A
/-- a contract by a walk -/
theorem mf_of {l : Launch} {y : MethodName} {cc : ByteArray} {n : Nat} {r : Option FieldType} {rm : Room} {D : va_G} {tys : List (ClassId × FieldType)} {t0 : Nat × Nat} {A : Nat → Prop} {H : Heap} {av : List Value} {Qc : Array Value → State → Outcome → State → Prop} {mc ms : Nat} {free : Addr → Prop} (hy : plainName y.cls = true) (hn : (lg_sl av).length ≤ n)
    (body : ∀ (p : Program) (e : Env) (s : State) (m : MethodId) (below : List Frame) (meth : Method) (c : Code) (ls : Array Slot), mf_Cx p s m av.toArray c y.cls cc n D tys t0 A → s.heap = H → meth.sig.returnType = r → meth.locks = false → s.methodNamed? y = some m → s.vm.method? m = some meth → lv_has ls n (lv_args 0 av) → va_S A s.heap H [] →
      W p l e rm s m av.toArray below meth c H [] 0 0 (MQ below Qc av.toArray s mc ms free) (F0 m 0 ls [])) : Met l y (mf_ws y cc n r) rm (va_Pc av (mf_P D tys t0 A H)) Qc mc ms free := by
  refine Met.ofW (cc := cc) (maxL := n) (ret := r) hy rfl ?_
  intro p e s m args below meth c s₁ B hml hv
  obtain ⟨rfl, hH, hE⟩ := hv
  have hts := atoms_spec (ws := mf_ws y cc n r) B.pre
  have hl := lv_entry av hn
  rw [lg_entry_eq]
  generalize (lg_sl av ++ List.replicate (n - (lg_sl av).length) Slot.unset).toArray = ls at hl ⊢
  rw [hH]
  exact body p e s m below meth c ls ⟨B.exec, B.bytes, fun w hw => hts w (List.mem_cons_of_mem _ hw), findClass_of_methodNamed B.named, hE, hml⟩ hH B.returns B.notSynchronized B.named B.method hl (by rw [hH]; exact va_S.rf)
section MFC
variable {p : Program} {l : Launch} {e : Env} {R : Room} {s : State} {m : MethodId} {args : Array Value} {below : List Frame} {meth : Method} {c : Code} {H : Heap} {locs : List Loc} {cells slots : Nat} {Q : State → Prop}
variable {cc : ByteArray} {nL pc : Nat} {ls : Array Slot} {rest st0 : List Value} {D : va_G} {t0 : Nat × Nat} {A : Nat → Prop} {a : Array Value} {tys : List (ClassId × FieldType)} {own : String}
theorem mf_cks {v : Value} (hr : va_Run p l e R s m args below meth c H locs cells slots 0 0 (F0 m pc ls st0) rest (mf_K (some v) a) (fun _ => False)) (kk : W p l e R s m args below meth c H locs cells slots Q (F0 m (pc + 3) ls (v :: rest))) : W p l e R s m args below meth c H locs cells slots Q (F0 m pc ls st0) := by
  intro T hT X
  obtain ⟨v', st₀, t, T', L, h0, X', hL, e1, e2, ⟨hv, hh⟩, st⟩ := hr T hT X
  cases hv
  obtain ⟨t2, a1, b1⟩ := kk T' (by rw [e1, hh, h0]) (Stand.forget X' (fun q h => (hL q h).elim))
  exact ⟨t2, st t2 a1, b1⟩
theorem mf_cws {v : Value} {B : Heap → Prop} {A1 : Nat → Prop} {mc ms : Nat} (hr : va_Run p l e R s m args below meth c H locs cells slots mc ms (F0 m pc ls st0) rest (mf_Kw (some v) B A1 a) A) (hS : va_S A s.heap H locs) (hA : ∀ q, q < H.size → A1 q → A q)
    (kk : ∀ (H1 : Heap) (locs1 : List Loc), B H1 → H.size ≤ H1.size → (∀ q : Nat, q < H.size → ¬ A1 q → H1[q]? = H[q]?) → va_S A s.heap H1 locs1 → W p l e R s m args below meth c H1 locs1 (cells + mc) (slots + ms) Q (F0 m (pc + 3) ls (v :: rest))) : W p l e R s m args below meth c H locs cells slots Q (F0 m pc ls st0) := by
  intro T hT X
  obtain ⟨v', st₀, t, T', L, h0, X', hL, e1, e2, ⟨hv, hb, hz, hk⟩, st⟩ := hr T hT X
  cases hv
  rw [h0] at hz hk
  obtain ⟨t2, a1, b1⟩ := kk T'.heap (locs ++ L) (by rw [e1]; exact hb) (by rw [e1]; exact hz) (fun q h1 h2 => by rw [e1]; exact hk q h1 h2)
    ⟨Nat.le_trans hS.1 (by rw [e1]; exact hz), fun q h1 h2 => by rw [e1, hk q (Nat.lt_of_lt_of_le h1 hS.1) (fun z => h2 (hA q (Nat.lt_of_lt_of_le h1 hS.1) z))]; exact hS.2.1 q h1 h2, fun q hq => by
      rcases List.mem_append.mp hq with h | h
      · exact hS.2.2 q h
      · exact hL q h⟩ T' rfl X'
  exact ⟨t2, st t2 a1, b1⟩
theorem mf_cwn {B : Heap → Prop} {A1 : Nat → Prop} {mc ms : Nat} (hr : va_Run p l e R s m args below meth c H locs cells slots mc ms (F0 m pc ls st0) rest (mf_Kw none B A1 a) A) (hS : va_S A s.heap H locs) (hA : ∀ q, q < H.size → A1 q → A q)
    (kk : ∀ (H1 : Heap) (locs1 : List Loc), B H1 → H.size ≤ H1.size → (∀ q : Nat, q < H.size → ¬ A1 q → H1[q]? = H[q]?) → va_S A s.heap H1 locs1 → W p l e R s m args below meth c H1 locs1 (cells + mc) (slots + ms) Q (F0 m (pc + 3) ls rest)) : W p l e R s m args below meth c H locs cells slots Q (F0 m pc ls st0) := by
  intro T hT X
  obtain ⟨v', st₀, t, T', L, h0, X', hL, e1, e2, ⟨hv, hb, hz, hk⟩, st⟩ := hr T hT X
  cases hv
  rw [h0] at hz hk
  obtain ⟨t2, a1, b1⟩ := kk T'.heap (locs ++ L) (by rw [e1]; exact hb) (by rw [e1]; exact hz) (fun q h1 h2 => by rw [e1]; exact hk q h1 h2)
    ⟨Nat.le_trans hS.1 (by rw [e1]; exact hz), fun q h1 h2 => by rw [e1, hk q (Nat.lt_of_lt_of_le h1 hS.1) (fun z => h2 (hA q (Nat.lt_of_lt_of_le h1 hS.1) z))]; exact hS.2.1 q h1 h2, fun q hq => by
      rcases List.mem_append.mp hq with h | h
      · exact hS.2.2 q h
      · exact hL q h⟩ T' rfl X'
  exact ⟨t2, st t2 a1, b1⟩
-- what a call asks of the words
variable {y : MethodName} {bytes : ByteArray} {maxL index n : Nat} {ret : Option FieldType} {rm : Room} {C0 : String}
abbrev mf_hd (y : MethodName) (n : Nat) : Prop := y.cls ≠ "java/lang/invoke/MethodHandle" ∧ y.cls ≠ "java/lang/invoke/VarHandle" ∧ (parseMethodDescriptor y.desc).map (fun d => d.parameters.length) = some n
theorem mf_cB (C : mf_Cx p s m args c own cc nL D tys t0 A) (hc : Cond.code y bytes maxL ret ∈ mf_tb) (hl : Cond.methodLink own index y ∈ mf_tb) (hn : Cond.initialized y.cls ∈ mf_tb) (hd : mf_hd y n) (hR : rm.frames + 1 ≤ R.frames ∧ 8 + (maxL + 11) + rm.locals ≤ R.locals) : CallB R s args own index y bytes maxL ret (mf_ws y bytes maxL ret) rm rm.cells rm.slots n :=
  callB_of n C.2.2.1 (mf_goodIn (fun _ h => h) hc) rfl rfl rfl (C.t hn) (C.t hl) hd hR
theorem mf_cV (C : mf_Cx p s m args c own cc nL D tys t0 A) (hc : Cond.code y bytes maxL ret ∈ mf_tb) (hl : Cond.methodLink own index y ∈ mf_tb) (hn : Cond.initialized y.cls ∈ mf_tb) (hi : Cond.instanceMethod y ∈ mf_tb) (hs : Cond.selects C0 y y ∈ mf_tb) (hd : mf_hd y n) (hR : rm.frames + 1 ≤ R.frames ∧ 8 + (maxL + 11) + rm.locals ≤ R.locals) : CallW R s args own C0 index y bytes maxL ret (mf_ws y bytes maxL ret) rm rm.cells rm.slots n :=
  ⟨mf_cB C hc hl hn hd hR, C.t hi, C.t hs⟩
theorem mf_cS (C : mf_Cx p s m args c own cc nL D tys t0 A) (hc : Cond.code y bytes maxL ret ∈ mf_tb) (hl : Cond.methodLink own index y ∈ mf_tb) (hn : Cond.initialized y.cls ∈ mf_tb) (hs : Cond.static y ∈ mf_tb) (hd : mf_hd y n) (hR : rm.frames + 1 ≤ R.frames ∧ 8 + (maxL + 11) + rm.locals ≤ R.locals) : CallB R s args own index y bytes maxL ret (mf_ws y bytes maxL ret) rm rm.cells rm.slots n ∧ (Cond.static y).before args s = true :=
  ⟨mf_cB C hc hl hn hd hR, C.t hs⟩
theorem mf_cI (C : mf_Cx p s m args c own cc nL D tys t0 A) (hc : Cond.code y bytes maxL none ∈ mf_tb) (hl : Cond.methodLink own index y ∈ mf_tb) (hn : Cond.initialized y.cls ∈ mf_tb) (hi : Cond.instanceMethod y ∈ mf_tb) (he : y.name = "<init>") (hd : mf_hd y n) (hR : rm.frames + 1 ≤ R.frames ∧ 8 + (maxL + 11) + rm.locals ≤ R.locals) : CallB R s args own index y bytes maxL none (mf_ws y bytes maxL none) rm rm.cells rm.slots n ∧ y.name = "<init>" ∧ (Cond.instanceMethod y).before args s = true :=
  ⟨mf_cB C hc hl hn hd hR, he, C.t hi⟩
theorem mf_cN (C : mf_Cx p s m args c own cc nL D tys t0 A) {host : String} (hc : Cond.code y bytes maxL ret ∈ mf_tb) (hl : va_Nw (.methodLinkNest own index y host) s) (hn : Cond.initialized y.cls ∈ mf_tb) (hd : mf_hd y n) (hR : rm.frames + 1 ≤ R.frames ∧ 8 + (maxL + 11) + rm.locals ≤ R.locals) : va_CN R s args own index y host bytes maxL ret (mf_ws y bytes maxL ret) rm rm.cells rm.slots n :=
  va_cnB n C.2.2.1 (mf_goodIn (fun _ h => h) hc) rfl rfl rfl hl (C.t hn) hd hR
-- ends
theorem mf_ri {v : Int32} (hx : p.tables.exec = Jvm.exec) (hb : c.code = cc) (hH : s.heap = H) (hr : meth.sig.returnType = some .int) (hlk : meth.locks = false) (hdg : decode cc pc = .ok (.ireturn, 1)) : W p l e R s m args below meth c H [] 0 0 (MQ below (mf_K (some (.int v))) args s 0 0 (fun _ => False)) (F0 m pc ls [.int v]) :=
  W.iret hx hb hr (fun t ht _ => ⟨rfl, ht.trans hH.symm⟩) (fun q h => by cases h) hdg hlk
theorem mf_rz {v : Int32} (hx : p.tables.exec = Jvm.exec) (hb : c.code = cc) (hH : s.heap = H) (hr : meth.sig.returnType = some .boolean) (hlk : meth.locks = false) (hn : narrow .boolean (.int v) = .int v) (hdg : decode cc pc = .ok (.ireturn, 1)) : W p l e R s m args below meth c H [] 0 0 (MQ below (mf_K (some (.int v))) args s 0 0 (fun _ => False)) (F0 m pc ls [.int v]) :=
  W.zret hx hb hr hn (fun t ht _ => ⟨rfl, ht.trans hH.symm⟩) (fun q h => by cases h) hdg hlk
end MFC
