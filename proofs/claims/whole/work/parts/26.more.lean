/-! more rows -/
/-- a contract by a walk, for a member of a class that has entries of the machine's own -/
theorem mf_ofF {l : Launch} {y : MethodName} {cc : ByteArray} {n : Nat} {r : Option FieldType} {rm : Room} {D : va_G} {tys : List (ClassId × FieldType)} {t0 : Nat × Nat} {A : Nat → Prop} {H : Heap} {av : List Value} {Qc : Array Value → State → Outcome → State → Prop} {mc ms : Nat} {free : Addr → Prop} (hy : plainFor y = true) (hn : (lg_sl av).length ≤ n)
    (body : ∀ (p : Program) (e : Env) (s : State) (m : MethodId) (below : List Frame) (meth : Method) (c : Code) (ls : Array Slot), mf_Cx p s m av.toArray c y.cls cc n D tys t0 A → s.heap = H → meth.sig.returnType = r → meth.locks = false → s.methodNamed? y = some m → s.vm.method? m = some meth → lv_has ls n (lv_args 0 av) → va_S A s.heap H [] →
      W p l e rm s m av.toArray below meth c H [] 0 0 (MQ below Qc av.toArray s mc ms free) (F0 m 0 ls [])) : Met l y (mf_ws y cc n r) rm (va_Pc av (mf_P D tys t0 A H)) Qc mc ms free := by
  refine va_MetF (cc := cc) (maxL := n) (ret := r) hy rfl ?_
  intro p e s m args below meth c s₁ B hml hv
  obtain ⟨rfl, hH, hE⟩ := hv
  have hts := atoms_spec (ws := mf_ws y cc n r) B.pre
  have hl := lv_entry av hn
  rw [lg_entry_eq]
  generalize (lg_sl av ++ List.replicate (n - (lg_sl av).length) Slot.unset).toArray = ls at hl ⊢
  rw [hH]
  exact body p e s m below meth c ls ⟨B.exec, B.bytes, fun w hw => hts w (List.mem_cons_of_mem _ hw), findClass_of_methodNamed B.named, hE, hml⟩ hH B.returns B.notSynchronized B.named B.method hl (by rw [hH]; exact va_S.rf)
theorem mf_xor (a b : Nat) : nI a ^^^ nI b = nI (a ^^^ b) := by
  apply Int32.toBitVec_inj.mp
  show BitVec.ofNat 32 a ^^^ BitVec.ofNat 32 b = BitVec.ofNat 32 (a ^^^ b)
  rw [BitVec.ofNat_xor]
theorem mf_xor_pos {c : Nat} (h : c < 2 ^ 31) : 0 ≤ nI c ^^^ 32 := by
  have e : nI c ^^^ 32 = nI (c ^^^ 32) := mf_xor c 32
  rw [e]
  exact nI_pos' (Nat.xor_lt_two_pow h (by decide))
section MFM
variable {p : Program} {l : Launch} {e : Env} {R : Room} {s : State} {m : MethodId} {args : Array Value} {below : List Frame} {meth : Method} {c : Code} {H : Heap} {locs : List Loc} {cells slots : Nat} {Q : State → Prop}
variable {cc : ByteArray} {nL pc : Nat} {ls : Array Slot} {rest : List Value} {D : va_G} {t0 : Nat × Nat} {A : Nat → Prop} {a : Nat} {tys : List (ClassId × FieldType)} {own : String}
/-- aaload out of an array of arrays -/
theorem mf_aaldA (C : mf_Cx p s m args c own cc nL D tys t0 A) {cA : ClassId} {ty : FieldType} {t n i : Nat} {f : Nat → Option Nat} (ht : tys[t]? = some (cA, .array ty)) (hat : va_at D mf_cl (a, .inl (cA, n, .inr (.inr (.inr (.inr f))))) H) (hi : i < n) (hn : n < 2 ^ 31) {b : Nat} (hf : f i = some b) (hdg : decode cc pc = .ok (.aaload, 1))
    (kk : W p l e R s m args below meth c H locs cells slots Q (F0 m (pc + 1) ls (.ref b :: rest))) : W p l e R s m args below meth c H locs cells slots Q (F0 m pc ls (.int (nI i) :: .ref a :: rest)) := by
  refine W.aald (v := va_rf (f i)) (ty := .array ty) C.x C.b hat ((C.k.2 t _ ht).1 n (fun j => va_rf (f j))) rfl (fun q => by cases q) (by show ¬ (nI i < 0 ∨ (arrV _ _ _).slots.size ≤ _); rw [arrV_size]; exact nI_in hi hn) (by show (arrV _ _ _).slots[_]? = _; rw [nI_clamp (by omega), arrV_read _ _ hi]) rfl rfl hdg ?_
  rw [hf]
  exact kk
theorem mf_iald (C : mf_Cx p s m args c own cc nL D tys t0 A) {cA : ClassId} {t n i : Nat} {f : Nat → Int32} (ht : tys[t]? = some (cA, .int)) (hat : va_at D mf_cl (a, .inl (cA, n, .inl f)) H) (hi : i < n) (hn : n < 2 ^ 31) (hdg : decode cc pc = .ok (.iaload, 1))
    (kk : W p l e R s m args below meth c H locs cells slots Q (F0 m (pc + 1) ls (.int (f i) :: rest))) : W p l e R s m args below meth c H locs cells slots Q (F0 m pc ls (.int (nI i) :: .ref a :: rest)) := by
  refine va_iald C.x C.b C.k (mf_one hat) 0 t rfl ht (vp_in_nI hi hn) hdg ?_
  rw [nI_clamp (by omega)]
  exact kk
end MFM
theorem mf_mod32 {c : Nat} (h : c < 2 ^ 31) : nI c - nI c / 32 * 32 = nI (c % 32) := pk_rem h (by decide) (by decide)
