/-! throw new E(text), for the four -/
section MFT
variable {p : Program} {l : Launch} {e : Env} {R : Room} {s : State} {m : MethodId} {args : Array Value} {below : List Frame} {meth : Method} {c : Code} {H : Heap} {locs : List Loc} {cells slots : Nat}
variable {cc : ByteArray} {nL pc : Nat} {ls : Array Slot} {rest : List Value} {D : va_G} {t0 : Nat × Nat} {A : Nat → Prop} {tys : List (ClassId × FieldType)} {mc ms : Nat} {Qc : Array Value → State → Outcome → State → Prop} {X : String → Prop} {XC : String → State → State → Prop} {free : Addr → Prop}
/-- as vx_throwS, with mf_ctN for the library's ctorThrowS -/
theorem mf_throwX (hexec : p.tables.exec = Jvm.exec) (hb : c.code = cc) (hl : l.stackTraces = false) {own cls text : String} {names : List String} {ik is ic sa ix : Nat} {rx : ByteArray} (x0 : decode rx 0 = .ok (.aload_n 0, 1)) (x1 : decode rx 1 = .ok (.aload_n 1, 1)) (x2 : decode rx 2 = .ok (.invokespecial ix, 3)) (x5 : decode rx 5 = .ok (.return_, 1))
    (hown : s.vm.findClass own = some m.cls) (hcls : Bundle.fit cls = true) (hnames : ∀ n ∈ names, Bundle.fit n = true)
    (hk : (Cond.classLink own ik cls).before args s = true) (hini : (Cond.initialized cls).before args s = true) (hstr : vk_R own is text sa s) (hat : ∀ w ∈ mf_xatX own ic cls ix rx names, w.before args s = true)
    (hgood : ∀ w ∈ Cond.classLink own ik cls :: Cond.initialized cls :: mf_xatX own ic cls ix rx names, vx_ot w = true)
    (hU : vx_Zq Bundle.tN "UNASSIGNED_STACK" Bundle.steD A s s.heap) (hN : vx_Zq Bundle.tN "SUPPRESSED_SENTINEL" Bundle.listD A s s.heap) (hS : va_S A s.heap H locs) (hsize : ls.size = c.maxLocals)
    (d0 : decode cc pc = .ok (.new ik, 3)) (d3 : decode cc (pc + 3) = .ok (.dup, 1)) (d4 : decode cc (pc + 4) = .ok (.ldc is, 2)) (d6 : decode cc (pc + 6) = .ok (.invokespecial ic, 3)) (d9 : decode cc (pc + 9) = .ok (.athrow, 1))
    (hout : ∀ x ∈ c.exceptionTable.toList, covers x (pc + 9) = false)
    (hRframes : names.length + 3 < R.frames) (hRlocals : (rest.map fun v => v.category).sum + (13 * (names.length + 1) + 43) ≤ R.locals) (hRcells : cells + 1 ≤ R.cells) (hRslots : slots + 6 ≤ R.slots) (hlocks : meth.locks = false)
    (hx : ∀ t : State, s.vm.Alike t.vm → H.size ≤ t.heap.size → (∀ q : Nat, q < H.size → t.heap[q]? = H[q]?) → XC cls s t)
    (hf : ∀ z ∈ locs, free z.base) (hc : cells + 1 ≤ mc) (hs : slots + 6 ≤ ms) :
    W p l e R s m args below meth c H locs cells slots (vx_MQ below Qc XC args s mc ms free) (F0 m pc ls rest) := by
  intro T hT X
  have htr : e.platform.stackTraces = false := (show e.platform.stackTraces = l.stackTraces by rw [X.admits.platform]).trans hl
  have Y := vx_rebase X (R' := { frames := R.frames, locals := R.locals, cells := 1, slots := 6 }) (Nat.le_refl _) (Nat.le_refl _) hRcells hRslots
  obtain ⟨s', hA⟩ : ∃ z, z = (T.setVm s.vm).setFrames (.invoking m args :: below) := ⟨_, rfl⟩
  rw [← hA] at Y
  have hvm : s'.vm = s.vm := by rw [hA]; rfl
  have hhp : s'.heap = H := by rw [hA]; exact hT
  have hW0 : s.WarmedH s'.vm := by rw [hvm]; exact State.WarmedH.refl s
  have hat' : ∀ w ∈ mf_xatX own ic cls ix rx names, w.before args s' = true := fun w hw => vx_ot_at hW0 hvm.symm (hgood w (List.mem_cons_of_mem _ (List.mem_cons_of_mem _ hw))) (hat w hw)
  have hk' : (Cond.classLink own ik cls).before args s' = true := vx_ot_at hW0 hvm.symm (hgood _ List.mem_cons_self) hk
  have hini' : (Cond.initialized cls).before args s' = true := vx_ot_at hW0 hvm.symm (hgood _ (List.mem_cons_of_mem _ List.mem_cons_self)) hini
  have hU' : vx_Zq Bundle.tN "UNASSIGNED_STACK" Bundle.steD A s' s'.heap := by rw [hhp]; exact vx_Zq.moved hW0.alike (hU.kept hS.2.1)
  have hN' : vx_Zq Bundle.tN "SUPPRESSED_SENTINEL" Bundle.listD A s' s'.heap := by rw [hhp]; exact vx_Zq.moved hW0.alike (hN.kept hS.2.1)
  have h : ∀ w ∈ Bundle.ownAtomsX own ic cls ix rx names, w.before args s' = true := vx_own hat' (vx_isRefq hU'.1) (vx_isRefq hN'.1) hU'.2.word hN'.2.word
  have hown' : s'.vm.findClass own = some m.cls := by rw [hvm]; exact hown
  have hins : (Cond.instantiable cls 6).before args s' = true := h _ (by simp [Bundle.ownAtomsX])
  obtain ⟨vm₁, cX, kX, hfX, hkX, -, -, X₁, st1⟩ := Y.newCold hexec (own := own) (C := cls) (index := ik) (n := 6) hown' hk' hins hini'
    (g := F0 m pc ls rest) rfl (by rw [hb]; exact d0) (Nat.le_refl _) (Nat.le_refl _)
  generalize hT1 : (T.setVm vm₁).pushCell { cls := cX, slots := kX.instanceTypes.map defaultValue, vm := .none } = T1 at X₁ st1
  have hcat : (Value.ref T.heap.size).category = 1 := rfl
  have hcellA : T1.heap[T.heap.size]? = some (freshCell cX kX) := by rw [← hT1]; exact State.heap_pushCell_size _ _
  have d3' : decode c.code (pc + 3) = .ok (.dup, 1) := by rw [hb]; exact d3
  have d4' : decode c.code (pc + 4) = .ok (.ldc is, 2) := by rw [hb]; exact d4
  have hstr' : vk_R own is text sa s' := vk_R.warm hW0 hstr
  obtain ⟨U, hsteps, hrun, hend, hW, hsame, ce, hce, hcv, hcf⟩ := mf_ctN X₁ hexec htr (own := own) (cls := cls) (names := names) (ic := ic) x0 x1 x2 x5 hown' hcls hnames h (fun x hx => nomatch hx) hfX hkX hcellA (by rw [hhp, hT]; exact Nat.le_refl _) (msg := .ref sa) rfl
    (g := { method := m, pc := pc + 6, locals := ls, stack := .ref sa :: .ref T.heap.size :: .ref T.heap.size :: rest, locked := none }) rfl hsize rfl rfl (rest := rest) rfl
    (by rw [hb]; exact d6) (by rw [hb]; exact d9) hout hRframes (by simp only [List.map_cons, List.sum_cons, hcat]; omega) hlocks
  obtain ⟨f1, f2⟩ := vx_frame hsame
  rw [hhp] at f1 f2
  have hWs : s.WarmedH U.vm := State.WarmedH.trans hW0 hW
  have hcl : s.vm.findClass cls = some ce.cls := by rw [hvm] at hcf; exact hcf
  have hall : s.sameButNew ({ U with vm := s.vm } : State) locs mc ms := by
    subst hA
    obtain ⟨e1, e2⟩ := hsame
    rw [State.setFrames_setFrames] at e1
    have h2 : (T.setVm s.vm).sameButNew ({ U with vm := s.vm } : State) [] (0 + 1) (0 + 6) := ⟨e1, e2⟩
    have h3 := X.same.trans h2
    rw [List.append_nil] at h3
    exact h3.mono hc hs
  refine ⟨U, ?_, .threw T.heap.size, hrun, hend, Or.inr ⟨T.heap.size, rfl, cls, ce, locs, hx U hWs.alike f1 (fun q hq => f2 q hq (fun z hz => nomatch hz)), hce, hcv, hcl, hWs, hall, hf⟩⟩
  refine st1 _ ?_
  show Steps p.tables e below (T1.setTop { method := m, pc := pc + 3, locals := ls, stack := .ref T.heap.size :: rest, locked := none }) _
  jvm_step X₁.here [X₁.here.top, hexec, d3', Value.category]
  exact X₁.ldcString hexec (own := own) (text := text) (index := is) (a := sa) hown' hstr'.1 hstr'.2
    (g := { method := m, pc := pc + 4, locals := ls, stack := .ref T.heap.size :: .ref T.heap.size :: rest, locked := none }) rfl d4' _ hsteps
set_option maxRecDepth 100000 in
theorem mf_thrI (C : mf_Cx p s m args c "MatchFloor" cc nL D tys t0 A) (hlt : l.stackTraces = false) {is : Nat} {text : String} (hE : X "java/lang/IllegalArgumentException") (hstr : (is, text) ∈ mf_nS) (hS : va_S A s.heap H locs) (hH0 : ∀ q : Nat, q < s.heap.size → H[q]? = s.heap[q]?) (hsize : ls.size = nL) (d0 : decode cc pc = .ok (.new 27, 3)) (d3 : decode cc (pc + 3) = .ok (.dup, 1)) (d4 : decode cc (pc + 4) = .ok (.ldc is, 2)) (d6 : decode cc (pc + 6) = .ok (.invokespecial 31, 3)) (d9 : decode cc (pc + 9) = .ok (.athrow, 1)) (hex : ∀ x ∈ c.exceptionTable.toList, False) (hRf : 5 < R.frames) (hRl : (rest.map fun v => v.category).sum + 82 ≤ R.locals) (hRc : cells + 1 ≤ R.cells) (hRs : slots + 6 ≤ R.slots) (hlk : meth.locks = false) (hc : cells + 1 ≤ mc) (hs : slots + 6 ≤ ms) : W p l e R s m args below meth c H locs cells slots (vx_MQ below Qc (mf_XC X) args s mc ms A) (F0 m pc ls rest) := 
  mf_thr C hlt hE (by decide +kernel) mt_121 mt_10 (List.mem_of_getElem? (i := 0) rfl) hstr mf_xatI mf_xbdI (by decide +kernel) hS hH0 (hsize.trans C.2.2.2.2.2.symm) d0 d3 d4 d6 d9 hex hRf hRl hRc hRs hlk hc hs
set_option maxRecDepth 100000 in
theorem mf_thrS (C : mf_Cx p s m args c "MatchFloor" cc nL D tys t0 A) (hlt : l.stackTraces = false) {is : Nat} {text : String} (hE : X "java/lang/IllegalStateException") (hstr : (is, text) ∈ mf_nS) (hS : va_S A s.heap H locs) (hH0 : ∀ q : Nat, q < s.heap.size → H[q]? = s.heap[q]?) (hsize : ls.size = nL) (d0 : decode cc pc = .ok (.new 46, 3)) (d3 : decode cc (pc + 3) = .ok (.dup, 1)) (d4 : decode cc (pc + 4) = .ok (.ldc is, 2)) (d6 : decode cc (pc + 6) = .ok (.invokespecial 50, 3)) (d9 : decode cc (pc + 9) = .ok (.athrow, 1)) (hex : ∀ x ∈ c.exceptionTable.toList, False) (hRf : 5 < R.frames) (hRl : (rest.map fun v => v.category).sum + 82 ≤ R.locals) (hRc : cells + 1 ≤ R.cells) (hRs : slots + 6 ≤ R.slots) (hlk : meth.locks = false) (hc : cells + 1 ≤ mc) (hs : slots + 6 ≤ ms) : W p l e R s m args below meth c H locs cells slots (vx_MQ below Qc (mf_XC X) args s mc ms A) (F0 m pc ls rest) := 
  mf_thr C hlt hE (by decide +kernel) mt_221 mt_13 (List.mem_of_getElem? (i := 1) rfl) hstr mf_xatS mf_xbdS (by decide +kernel) hS hH0 (hsize.trans C.2.2.2.2.2.symm) d0 d3 d4 d6 d9 hex hRf hRl hRc hRs hlk hc hs
set_option maxRecDepth 100000 in
theorem mf_thrO (C : mf_Cx p s m args c "MatchFloor" cc nL D tys t0 A) (hlt : l.stackTraces = false) {is : Nat} {text : String} (hE : X "java/lang/IndexOutOfBoundsException") (hstr : (is, text) ∈ mf_nS) (hS : va_S A s.heap H locs) (hH0 : ∀ q : Nat, q < s.heap.size → H[q]? = s.heap[q]?) (hsize : ls.size = nL) (d0 : decode cc pc = .ok (.new 110, 3)) (d3 : decode cc (pc + 3) = .ok (.dup, 1)) (d4 : decode cc (pc + 4) = .ok (.ldc is, 2)) (d6 : decode cc (pc + 6) = .ok (.invokespecial 114, 3)) (d9 : decode cc (pc + 9) = .ok (.athrow, 1)) (hex : ∀ x ∈ c.exceptionTable.toList, False) (hRf : 5 < R.frames) (hRl : (rest.map fun v => v.category).sum + 82 ≤ R.locals) (hRc : cells + 1 ≤ R.cells) (hRs : slots + 6 ≤ R.slots) (hlk : meth.locks = false) (hc : cells + 1 ≤ mc) (hs : slots + 6 ≤ ms) : W p l e R s m args below meth c H locs cells slots (vx_MQ below Qc (mf_XC X) args s mc ms A) (F0 m pc ls rest) := 
  mf_thr C hlt hE (by decide +kernel) mt_461 mt_20 (List.mem_of_getElem? (i := 3) rfl) hstr mf_xatO mf_xbdO (by decide +kernel) hS hH0 (hsize.trans C.2.2.2.2.2.symm) d0 d3 d4 d6 d9 hex hRf hRl hRc hRs hlk hc hs
set_option maxRecDepth 100000 in
theorem mf_thrN (C : mf_Cx p s m args c "MatchFloor" cc nL D tys t0 A) (hlt : l.stackTraces = false) {is : Nat} {text : String} (hE : X "java/util/NoSuchElementException") (hstr : (is, text) ∈ mf_nS) (hS : va_S A s.heap H locs) (hH0 : ∀ q : Nat, q < s.heap.size → H[q]? = s.heap[q]?) (hsize : ls.size = nL) (d0 : decode cc pc = .ok (.new 72, 3)) (d3 : decode cc (pc + 3) = .ok (.dup, 1)) (d4 : decode cc (pc + 4) = .ok (.ldc is, 2)) (d6 : decode cc (pc + 6) = .ok (.invokespecial 76, 3)) (d9 : decode cc (pc + 9) = .ok (.athrow, 1)) (hex : ∀ x ∈ c.exceptionTable.toList, False) (hRf : 5 < R.frames) (hRl : (rest.map fun v => v.category).sum + 82 ≤ R.locals) (hRc : cells + 1 ≤ R.cells) (hRs : slots + 6 ≤ R.slots) (hlk : meth.locks = false) (hc : cells + 1 ≤ mc) (hs : slots + 6 ≤ ms) : W p l e R s m args below meth c H locs cells slots (vx_MQ below Qc (mf_XC X) args s mc ms A) (F0 m pc ls rest) := by
  obtain ⟨sa, hsa⟩ := C.ev.2.1.2.2.2.2.2.2.1.1 _ hstr
  have hxw := C.ev.2.1.2.2.2.2.2.2.1.2
  have hall : ∀ w ∈ mf_xatX "MatchFloor" 76 "java/util/NoSuchElementException" 13 prog_24_method_4_code mf_xn, w.before args s = true := by
    refine vx_hat (fun w hw => C.t (mf_xatN w hw)) mf_xbdN (vx_c ((hxw.1 _ (List.mem_of_getElem? (i := 2) rfl)).use rfl) (vx_c ((hxw.2.1 _ (List.mem_of_getElem? (i := 0) rfl)).use rfl) (vx_c ((hxw.2.1 _ (List.mem_of_getElem? (i := 1) rfl)).use rfl) (vx_c ((hxw.2.1 _ (List.mem_of_getElem? (i := 2) rfl)).use rfl) vx_n))))
  exact mf_throwX (names := mf_xn) C.x C.b hlt (ix := 13) (rx := prog_24_method_4_code) (by decide +kernel) (by decide +kernel) (by decide +kernel) (by decide +kernel) C.o (by decide +kernel) (by decide) (C.t mt_402) (C.t mt_19) hsa hall (by decide +kernel) C.ev.2.2.1.1 C.ev.2.2.1.2.1 hS (hsize.trans C.2.2.2.2.2.symm) d0 d3 d4 d6 d9 (fun x hx => (hex x hx).elim) (show 2 + 3 < _ from hRf) (show _ + (13 * (2 + 1) + 43) ≤ _ from hRl) hRc hRs hlk (fun t _ h1 h2 => ⟨hE, Nat.le_trans hS.1 h1, fun q hq => (h2 q (Nat.lt_of_lt_of_le hq hS.1)).trans (hH0 q hq)⟩) hS.2.2 hc hs
end MFT
