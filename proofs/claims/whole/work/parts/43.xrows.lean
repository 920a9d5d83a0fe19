/-! methods that return or throw -/
def mf_Kx (ok : Prop) (v : Option Value) (B : Heap → Prop) (A1 : Nat → Prop) : Array Value → State → Outcome → State → Prop := fun _ st o t => ok ∧ o = .returned v ∧ B t.heap ∧ va_F A1 st t
def mf_XC (X : String → Prop) : String → State → State → Prop := fun E st t => X E ∧ st.heap.size ≤ t.heap.size ∧ ∀ q : Nat, q < st.heap.size → t.heap[q]? = st.heap[q]?
def mf_cX (l : Launch) (y : MethodName) (cc : ByteArray) (n : Nat) (r : Option FieldType) (rm : Room) (D : va_G) (tys : List (ClassId × FieldType)) (t0 : Nat × Nat) (A : Nat → Prop) (H : Heap) (av : List Value) (ok : Prop) (v : Option Value) (B : Heap → Prop) (A1 : Nat → Prop) (X : String → Prop) (mc ms : Nat) : Prop := vx_Met l y (mf_ws y cc n r) rm (va_Pc av (mf_P D tys t0 A H)) (mf_Kx ok v B A1) (mf_XC X) mc ms A
theorem mf_ofX {l : Launch} {y : MethodName} {cc : ByteArray} {n : Nat} {r : Option FieldType} {rm : Room} {D : va_G} {tys : List (ClassId × FieldType)} {t0 : Nat × Nat} {A : Nat → Prop} {H : Heap} {av : List Value} {Qc : Array Value → State → Outcome → State → Prop} {XC : String → State → State → Prop} {mc ms : Nat} {free : Addr → Prop} (hy : plainName y.cls = true) (hn : (lg_sl av).length ≤ n)
    (body : ∀ (p : Program) (e : Env) (s : State) (m : MethodId) (below : List Frame) (meth : Method) (c : Code) (ls : Array Slot), mf_Cx p s m av.toArray c y.cls cc n D tys t0 A → s.heap = H → meth.sig.returnType = r → meth.locks = false → s.methodNamed? y = some m → s.vm.method? m = some meth → lv_has ls n (lv_args 0 av) → va_S A s.heap H [] → (∀ x ∈ c.exceptionTable.toList, False) →
      W p l e rm s m av.toArray below meth c H [] 0 0 (vx_MQ below Qc XC av.toArray s mc ms free) (F0 m 0 ls [])) : vx_Met l y (mf_ws y cc n r) rm (va_Pc av (mf_P D tys t0 A H)) Qc XC mc ms free := by
  refine vx_ofW (cc := cc) (maxL := n) (ret := r) hy rfl ?_
  intro p e s m args below meth c s₁ B hml hex hv
  obtain ⟨rfl, hH, hE⟩ := hv
  have hts := atoms_spec (ws := mf_ws y cc n r) B.pre
  have hl := lv_entry av hn
  rw [lg_entry_eq]
  generalize (lg_sl av ++ List.replicate (n - (lg_sl av).length) Slot.unset).toArray = ls at hl ⊢
  rw [hH]
  exact body p e s m below meth c ls ⟨B.exec, B.bytes, fun w hw => hts w (List.mem_cons_of_mem _ hw), findClass_of_methodNamed B.named, hE, hml⟩ hH B.returns B.notSynchronized B.named B.method hl (by rw [hH]; exact va_S.rf) hex
section MFX
variable {p : Program} {l : Launch} {e : Env} {R : Room} {s : State} {m : MethodId} {args : Array Value} {below : List Frame} {meth : Method} {c : Code} {H : Heap} {locs : List Loc} {cells slots : Nat} {Q : State → Prop}
variable {cc : ByteArray} {nL pc : Nat} {ls : Array Slot} {rest st0 : List Value} {D : va_G} {t0 : Nat × Nat} {A A1 : Nat → Prop} {a : Nat} {tys : List (ClassId × FieldType)} {own : String} {mc ms : Nat}
theorem mf_xi {ok : Prop} {X : String → Prop} {B : Heap → Prop} {H0 : Heap} {v : Int32} (hok : ok) (hx : p.tables.exec = Jvm.exec) (hb : c.code = cc) (hr : meth.sig.returnType = some .int) (hlk : meth.locks = false) (hdg : decode cc pc = .ok (.ireturn, 1)) (hB : B H) (hF : H0.size ≤ H.size ∧ ∀ q, q < H0.size → ¬ A1 q → H[q]? = H0[q]?) (h0 : s.heap = H0) (hf : ∀ q ∈ locs, A q.base) (hc : cells ≤ mc) (hs : slots ≤ ms) : W p l e R s m args below meth c H locs cells slots (vx_MQ below (mf_Kx ok (some (.int v)) B A1) (mf_XC X) args s mc ms A) (F0 m pc ls [.int v]) := by
  subst h0
  refine vx_ret (W.widen hc hs ?_)
  exact W.iret hx hb hr (fun t ht _ => ⟨hok, rfl, by rw [ht]; exact hB, by rw [ht]; exact hF.1, fun q h1 h2 => by rw [ht]; exact hF.2 q h1 h2⟩) hf hdg hlk
def mf_xn : List String := ["java/lang/RuntimeException", "java/lang/Exception"]
def mf_xic : String → Nat := fun E => if E = "java/lang/IllegalArgumentException" then 31 else if E = "java/lang/IllegalStateException" then 50 else 0
/-- throw new E(text) -/
theorem mf_thr {Qc : Array Value → State → Outcome → State → Prop} {X : String → Prop} (C : mf_Cx p s m args c "MatchFloor" cc nL D tys t0 A) (hlt : l.stackTraces = false) {E text : String} {ik is ic : Nat} (hE : X E) (hfit : Bundle.fit E = true) (hk : Cond.classLink "MatchFloor" ik E ∈ mf_tb) (hini : Cond.initialized E ∈ mf_tb) (hmem : E ∈ mf_X4) (hstr : (is, text) ∈ mf_nS)
    (hat : ∀ w ∈ (vx_atS "MatchFloor" ic E mf_xn).filter goodWord, w ∈ mf_tb) (hbad : ∀ w ∈ (vx_atS "MatchFloor" ic E mf_xn).filter (fun w => !goodWord w), w ∈ [Cond.castable E E, .declares ⟨"java/lang/RuntimeException", "<init>", "(Ljava/lang/String;)V"⟩, .declares ⟨"java/lang/Exception", "<init>", "(Ljava/lang/String;)V"⟩, .declares ⟨"java/lang/Throwable", "<init>", "(Ljava/lang/String;)V"⟩])
    (hgood : ∀ w ∈ Cond.classLink "MatchFloor" ik E :: Cond.initialized E :: vx_atS "MatchFloor" ic E mf_xn, vx_ot w = true) (hS : va_S A s.heap H locs) (hH0 : ∀ q : Nat, q < s.heap.size → H[q]? = s.heap[q]?) (hsize : ls.size = c.maxLocals)
    (d0 : decode cc pc = .ok (.new ik, 3)) (d3 : decode cc (pc + 3) = .ok (.dup, 1)) (d4 : decode cc (pc + 4) = .ok (.ldc is, 2)) (d6 : decode cc (pc + 6) = .ok (.invokespecial ic, 3)) (d9 : decode cc (pc + 9) = .ok (.athrow, 1))
    (hex : ∀ x ∈ c.exceptionTable.toList, False) (hRf : 5 < R.frames) (hRl : (rest.map fun v => v.category).sum + 82 ≤ R.locals) (hRc : cells + 1 ≤ R.cells) (hRs : slots + 6 ≤ R.slots) (hlk : meth.locks = false) (hc : cells + 1 ≤ mc) (hs : slots + 6 ≤ ms) :
    W p l e R s m args below meth c H locs cells slots (vx_MQ below Qc (mf_XC X) args s mc ms A) (F0 m pc ls rest) := by
  obtain ⟨sa, hsa⟩ := C.ev.2.1.2.2.2.2.2.2.1.1 _ hstr
  have hxw := C.ev.2.1.2.2.2.2.2.2.1.2
  have hall : ∀ w ∈ vx_atS "MatchFloor" ic E mf_xn, w.before args s = true := by
    refine vx_hat (fun w hw => C.t (hat w hw)) hbad (vx_c ((hxw.1 E hmem).use rfl) (vx_c ((hxw.2.1 _ (List.mem_of_getElem? (i := 0) rfl)).use rfl) (vx_c ((hxw.2.1 _ (List.mem_of_getElem? (i := 1) rfl)).use rfl) (vx_c ((hxw.2.1 _ (List.mem_of_getElem? (i := 2) rfl)).use rfl) vx_n))))
  exact vx_throwS (names := mf_xn) C.x C.b hlt C.o hfit (by decide) (C.t hk) (C.t hini) hsa hall hgood C.ev.2.2.1.1 C.ev.2.2.1.2.1 hS hsize d0 d3 d4 d6 d9 (fun x hx => (hex x hx).elim) (show 2 + 3 < _ from hRf) (show _ + (13 * (2 + 1) + 43) ≤ _ from hRl) hRc hRs hlk (fun t _ h1 h2 => ⟨hE, Nat.le_trans hS.1 h1, fun q hq => (h2 q (Nat.lt_of_lt_of_le hq hS.1)).trans (hH0 q hq)⟩) hS.2.2 hc hs
end MFX
