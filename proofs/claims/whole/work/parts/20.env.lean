/-! what every walk of this claim stands on -/
-- words that don't stay by themselves: they ride in a contract's start
def mf_nF : List (Nat × String × String × String) := [(133, "MatchFloor$Tape", "count", "I"), (141, "MatchFloor$Tape", "lastPrice", "I"), (157, "MatchFloor$Tape", "quantity", "I"), (144, "MatchFloor$Tape", "worth", "J"), (163, "MatchFloor$Order", "id", "I"), (97, "MatchFloor$Order", "owner", "I"), (125, "MatchFloor$Order", "side", "I"), (88, "MatchFloor$Order", "waits", "Z"), (92, "MatchFloor$Order", "price", "I"), (81, "MatchFloor$Order", "left", "I")]
def mf_nM : List (String × Nat × MethodName) := [("MatchFloor", 18, my_T_init), ("MatchFloor", 59, my_O_init), ("MatchFloor", 166, my_O_restsOn), ("MatchFloor", 186, my_O_isFitBy), ("MatchFloor$Order", 31, my_F_otherSide), ("MatchFloor$Order", 35, my_F_isBetter), ("MatchFloor", 211, my_T_write), ("MatchFloor", 173, my_O_isDueAt), ("MatchFloor", 218, my_O_queuesWith), ("MatchFloor", 138, my_T_read)]
def mf_nS : List (Nat × String) := [(29, "how names no owner, kind and side"), (41, "price or quantity is out of range"), (48, "a kept order has this id"), (55, "no more orders can be kept"), (66, "the order is refused as its kind says"), (74, "no kept order has this id"), (95, "owner is not 0 .. 7"), (103, "side is not 0 or 1"), (108, "side is not 0 or 1, or what not 0 .. 2"), (112, "there is no such level"), (131, "what is not 0 .. 3"), (136, "no such fill is told"), (160, "k is not 0 .. 4")]
def mf_X4 : List String := ["java/lang/IllegalArgumentException", "java/lang/IllegalStateException", "java/util/NoSuchElementException", "java/lang/IndexOutOfBoundsException"]
def mf_nD : List String := ["java/lang/RuntimeException", "java/lang/Exception", "java/lang/Throwable"]
def mf_nN : List (String × String) := [("java/lang/IllegalStateException", "java/lang/IllegalArgumentException"), ("java/util/NoSuchElementException", "java/lang/IllegalArgumentException"), ("java/lang/IndexOutOfBoundsException", "java/lang/IllegalArgumentException"), ("java/lang/IllegalArgumentException", "java/util/NoSuchElementException")]
/-- what throwing and catching ask -/
def mf_XW (U : State) : Prop := (∀ q ∈ mf_X4, va_Nw (.castable q q) U) ∧ (∀ q ∈ mf_nD, va_Nw (.declares ⟨q, "<init>", "(Ljava/lang/String;)V"⟩) U) ∧ ∀ q ∈ mf_nN, va_Nc q.1 q.2 U
theorem mf_XW.warm {s U : State} (hW : s.WarmedH U.vm) (h : mf_XW s) : mf_XW U := ⟨fun q hq => (h.1 q hq).warmC hW, fun q hq => (h.2.1 q hq).warmD hW, fun q hq => (h.2.2 q hq).moved hW.alike⟩
def mf_NG (t0 : Nat × Nat) (U : State) : Prop := (∀ q ∈ mf_nF, va_Nw (.fieldLinkNest "MatchFloor" q.1 q.2.1 q.2.2.1 q.2.2.2 "MatchFloor") U) ∧ (∀ q ∈ mf_nM, va_Nw (.methodLinkNest q.1 q.2.1 q.2.2 "MatchFloor") U) ∧ va_Nw (.castable "MatchFloor$Order" "java/lang/Object") U ∧ va_AO "java/lang/Object" U ∧ va_AOA .int U ∧ va_Dc U ∧ ((∀ q ∈ mf_nS, ∃ a, vk_R "MatchFloor" q.1 q.2 a U) ∧ mf_XW U) ∧ va_Mi "[Ljava/lang/Object;" t0.2 U
theorem mf_NG.warm {t0 : Nat × Nat} {s U : State} (hW : s.WarmedH U.vm) (h : mf_NG t0 s) : mf_NG t0 U := by
  obtain ⟨h1, h2, h3, h4, h5, h6, ⟨h7, h9⟩, h8⟩ := h
  refine ⟨fun q hq => (h1 q hq).warmF hW, fun q hq => (h2 q hq).warmM hW, h3.warmC hW, h4.moved hW.alike, ?_, h6.moved hW.alike, ⟨fun q hq => ?_, h9.warm hW⟩, h8.moved hW.alike⟩
  · have h9 : (Cond.arrayOver (.array .int)).before #[] (s.setVm U.vm) = true := by
      rw [Cond.arrayOver_setVmC hW.alike]; exact h5
    exact h9
  · obtain ⟨a, ha⟩ := h7 q hq
    exact ⟨a, ha.warm hW⟩
/-- the statics that are read: they lie outside of A -/
def mf_ST (t0 : Nat × Nat) (A : Nat → Prop) (U : State) (H : Heap) : Prop := vx_Zq Bundle.tN "UNASSIGNED_STACK" Bundle.steD A U H ∧ vx_Zq Bundle.tN "SUPPRESSED_SENTINEL" Bundle.listD A U H ∧ va_Z "java/util/ArrayList" "DEFAULTCAPACITY_EMPTY_ELEMENTDATA" "[Ljava/lang/Object;" (.ref t0.1) A U H ∧ va_T (.object "java/lang/Object") t0.1 0 (fun _ => .null) A U H
theorem mf_ST.moved {t0 : Nat × Nat} {A : Nat → Prop} {u U : State} {H : Heap} (hvm : u.vm.Alike U.vm) (h : mf_ST t0 A u H) : mf_ST t0 A U H := by
  obtain ⟨h1, h2, h3, h4⟩ := h
  exact ⟨h1.moved hvm, h2.moved hvm, h3.moved hvm, h4.moved hvm⟩
theorem mf_ST.kept {t0 : Nat × Nat} {A : Nat → Prop} {U : State} {H H1 : Heap} (h : mf_ST t0 A U H) (hq : ∀ a : Nat, a < H.size → ¬ A a → H1[a]? = H[a]?) : mf_ST t0 A U H1 := by
  obtain ⟨h1, h2, h3, h4⟩ := h
  exact ⟨h1.kept hq, h2.kept hq, h3.kept hq, h4.kept hq⟩
/-- the classes of the cells, and their numbers' being apart -/
abbrev mf_k5 : Type := ClassId × ClassId × ClassId × ClassId × ClassId
abbrev mf_tys (k : mf_k5) : List (ClassId × FieldType) := [(k.1, .object "java/lang/Object"), (k.2.1, .array .int), (k.2.2.1, .int), (k.2.2.2.1, .boolean), (k.2.2.2.2, .long)]
def mf_ids (D : va_G) (tys : List (ClassId × FieldType)) : List ClassId := [D.1 0, D.1 1, D.1 2, D.1 3, D.1 4] ++ tys.map (fun q => q.1)
def mf_Env (D : va_G) (tys : List (ClassId × FieldType)) (t0 : Nat × Nat) (A : Nat → Prop) (U : State) : Prop := va_K D mf_cl tys U ∧ mf_NG t0 U ∧ mf_ST t0 A U U.heap ∧ (∀ q, U.heap.size ≤ q → A q) ∧ (mf_ids D tys).Nodup
/-- a contract's start: the heap, and what the tables say -/
def mf_P (D : va_G) (tys : List (ClassId × FieldType)) (t0 : Nat × Nat) (A : Nat → Prop) (H : Heap) (U : State) : Prop := U.heap = H ∧ mf_Env D tys t0 A U
theorem mf_Env.at {D : va_G} {tys : List (ClassId × FieldType)} {t0 : Nat × Nat} {A : Nat → Prop} {s : State} {H : Heap} {locs : List Loc} (h : mf_Env D tys t0 A s) (hS : va_S A s.heap H locs) : ∀ U : State, U.heap = H → s.WarmedH U.vm → mf_P D tys t0 A H U := by
  intro U hU hW
  subst hU
  obtain ⟨h1, h2, h3, h4, h5⟩ := h
  exact ⟨rfl, va_K.moved hW.alike h1, h2.warm hW, (h3.kept hS.2.1).moved hW.alike, fun q hq => h4 q (Nat.le_trans hS.1 hq), h5⟩
theorem mf_blind {D : va_G} {tys : List (ClassId × FieldType)} {t0 : Nat × Nat} {A : Nat → Prop} {H : Heap} {av : List Value} : FrameBlind (va_Pc av (mf_P D tys t0 A H)) := by
  intro a U g mk h
  obtain ⟨h0, h1, h2, h3, h4, h5⟩ := h
  have hW : U.WarmedH (U.calling g mk a).vm := State.WarmedH.refl U
  exact ⟨h0, h1, va_K.moved (u := U) (U := U.calling g mk a) (Vm.Alike.refl U.vm) h2, mf_NG.warm (s := U) (U := U.calling g mk a) hW h3, mf_ST.moved (u := U) (U := U.calling g mk a) (Vm.Alike.refl U.vm) h4, h5⟩
theorem mf_preS {D : va_G} {tys : List (ClassId × FieldType)} {t0 : Nat × Nat} {A : Nat → Prop} {s : State} {H : Heap} {locs : List Loc} {As : List Value} (h : mf_Env D tys t0 A s) (hS : va_S A s.heap H locs) : PreS s H (va_Pc As (mf_P D tys t0 A H)) As :=
  ⟨mf_blind, fun U hU hW => ⟨rfl, h.at hS U hU hW⟩⟩
theorem mf_preV {D : va_G} {tys : List (ClassId × FieldType)} {t0 : Nat × Nat} {A : Nat → Prop} {s : State} {H : Heap} {locs : List Loc} {As : List Value} {b : Nat} {C : String} (h : mf_Env D tys t0 A s) (hS : va_S A s.heap H locs) (hr : ∃ cell : Cell, H[b]? = some cell ∧ cell.vm.isStatics = false ∧ s.vm.findClass C = some cell.cls) : PreV s H C b (va_Pc (.ref b :: As) (mf_P D tys t0 A H)) As :=
  ⟨mf_blind, hr, fun U hU hW => ⟨rfl, h.at hS U hU hW⟩⟩
-- words
def mf_ws (y : MethodName) (cc : ByteArray) (n : Nat) (r : Option FieldType) : List Cond := .code y cc n r :: mf_tb
theorem mf_good : ∀ w ∈ mf_tb, goodWord w = true := fun w h => (List.mem_filter.mp h).2
theorem mf_goodIn {ws : List Cond} {y : MethodName} {cc : ByteArray} {n : Nat} {r : Option FieldType} (hs : ∀ w ∈ mf_tb, w ∈ ws) (hy : Cond.code y cc n r ∈ mf_tb) : GoodIn ws (mf_ws y cc n r) := by
  intro w hw
  rcases List.mem_cons.mp hw with e | e
  · rw [e]; exact ⟨hs _ hy, good_of_word (mf_good _ hy)⟩
  · exact ⟨hs _ e, good_of_word (mf_good _ e)⟩
theorem mf_one {D : va_G} {cl : List vw_C} {q : Nat × va_E} {H : Heap} (h : va_at D cl q H) : va_P D cl [q] H := by
  intro k q' hk
  cases k with
  | zero => cases hk; exact h
  | succ k => simp at hk
/-- what a walk stands on: the machine, the code, the words, the class, the environment -/
def mf_Cx (p : Program) (s : State) (m : MethodId) (args : Array Value) (c : Code) (own : String) (cc : ByteArray) (nL : Nat) (D : va_G) (tys : List (ClassId × FieldType)) (t0 : Nat × Nat) (A : Nat → Prop) : Prop := p.tables.exec = Jvm.exec ∧ c.code = cc ∧ (∀ w ∈ mf_tb, w.before args s = true) ∧ s.vm.findClass own = some m.cls ∧ mf_Env D tys t0 A s ∧ c.maxLocals = nL
section MFR
variable {p : Program} {l : Launch} {e : Env} {R : Room} {s : State} {m : MethodId} {args : Array Value} {below : List Frame} {meth : Method} {c : Code} {H : Heap} {locs : List Loc} {cells slots : Nat} {Q : State → Prop}
variable {cc : ByteArray} {nL pc : Nat} {ls : Array Slot} {rest : List Value} {D : va_G} {t0 : Nat × Nat} {A : Nat → Prop} {a : Nat} {tys : List (ClassId × FieldType)} {own : String}
theorem mf_Cx.x (C : mf_Cx p s m args c own cc nL D tys t0 A) : p.tables.exec = Jvm.exec := C.1
theorem mf_Cx.b (C : mf_Cx p s m args c own cc nL D tys t0 A) : c.code = cc := C.2.1
theorem mf_Cx.t (C : mf_Cx p s m args c own cc nL D tys t0 A) {w : Cond} (h : w ∈ mf_tb) : w.before args s = true := C.2.2.1 w h
theorem mf_Cx.o (C : mf_Cx p s m args c own cc nL D tys t0 A) : s.vm.findClass own = some m.cls := C.2.2.2.1
theorem mf_Cx.ev (C : mf_Cx p s m args c own cc nL D tys t0 A) : mf_Env D tys t0 A s := C.2.2.2.2.1
theorem mf_Cx.k (C : mf_Cx p s m args c own cc nL D tys t0 A) : va_K D mf_cl tys s := C.2.2.2.2.1.1
theorem mf_Cx.nd (C : mf_Cx p s m args c own cc nL D tys t0 A) : (mf_ids D tys).Nodup := C.2.2.2.2.1.2.2.2.2
theorem mf_Cx.aa (C : mf_Cx p s m args c own cc nL D tys t0 A) : ∀ q, s.heap.size ≤ q → A q := C.2.2.2.2.1.2.2.2.1
theorem mf_Cx.f (C : mf_Cx p s m args c own cc nL D tys t0 A) : CallFix p m c cc nL s args mf_tb own := ⟨C.1, C.2.1, C.2.2.2.2.2, C.2.2.2.1, C.2.2.1⟩
/-- getfield of an own field -/
theorem mf_gf (C : mf_Cx p s m args c own cc nL D tys t0 A) {ci N : Nat} {R0 : String} {T : u_T} (hc : mf_cl[ci]? = some (R0, T, N)) (hin : ∀ w ∈ u_ws R0 T N, w ∈ mf_tb) (k : Nat) (hk : k < N) {index : Nat} (hl : Cond.fieldLink own index (T k).1 (T k).2.1 (T k).2.2.1 ∈ mf_tb) {fs : List Value} (hat : va_at D mf_cl (a, .inr (ci, fs)) H) {v : Value} (hv : fs[k]? = some v) (hdg : decode cc pc = .ok (.getfield index, 3))
    (kk : W p l e R s m args below meth c H locs cells slots Q (F0 m (pc + 3) ls (v :: rest))) : W p l e R s m args below meth c H locs cells slots Q (F0 m pc ls (.ref a :: rest)) :=
  va_get C.x C.b C.2.2.1 hin C.o C.k (mf_one hat) 0 rfl hc k hk (C.t hl) (fun _ h => h) hv hdg kk
/-- getfield of a nest mate's field -/
theorem mf_gfN (C : mf_Cx p s m args c own cc nL D tys t0 A) {ci N : Nat} {R0 : String} {T : u_T} (hc : mf_cl[ci]? = some (R0, T, N)) (hin : ∀ w ∈ u_ws R0 T N, w ∈ mf_tb) (k : Nat) (hk : k < N) {index : Nat} {host : String} (hl : va_Nw (.fieldLinkNest own index (T k).1 (T k).2.1 (T k).2.2.1 host) s) {fs : List Value} (hat : va_at D mf_cl (a, .inr (ci, fs)) H) {v : Value} (hv : fs[k]? = some v) (hdg : decode cc pc = .ok (.getfield index, 3))
    (kk : W p l e R s m args below meth c H locs cells slots Q (F0 m (pc + 3) ls (v :: rest))) : W p l e R s m args below meth c H locs cells slots Q (F0 m pc ls (.ref a :: rest)) :=
  va_getN C.x C.b C.2.2.1 hin C.o C.k (mf_one hat) 0 rfl hc k hk (hl.use rfl) (fun _ h => h) hv hdg kk
/-- the receiver of a call -/
theorem mf_rv (C : mf_Cx p s m args c own cc nL D tys t0 A) {ci N : Nat} {R0 : String} {T : u_T} (hc : mf_cl[ci]? = some (R0, T, N)) {fs : List Value} (hat : va_at D mf_cl (a, .inr (ci, fs)) H) : ∃ cell : Cell, H[a]? = some cell ∧ cell.vm.isStatics = false ∧ s.vm.findClass R0 = some cell.cls :=
  va_recv C.k (mf_one hat) hc (q0 := 0) rfl
end MFR
