/-! the rest of the class; rows for the law -/
set_option maxRecDepth 100000 in
set_option maxHeartbeats 4000000 in
theorem k_F_fills (l : Launch) (D : va_G) (k5 : mf_k5) (t0 : Nat × Nat) (A : Nat → Prop) (H : Heap) (x al tp : Nat) (L : List mf_O) (due met : Int32) (g : mf_G) (hM : mf_SS D k5 t0 A H x al tp (L, due, met, g)) : mf_cRO l my_F_fills mc_F_fills 1 (some .int) { frames := 0, cells := 0, slots := 0, locals := 0 } D (mf_tys k5) t0 A H [.ref x] (some (.int (nI g.1))) := by
  obtain ⟨ks, hL, hC, hT⟩ := id hM
  have hL : mf_L ks = L := hL
  have hC : mf_CL D k5 t0 A H x al tp due met ks := hC
  have hT : mf_TP D k5 A H tp g := hT
  obtain ⟨hx, hAx, hAL, hks, hnd⟩ := id hC
  obtain ⟨ed, mc, hal, hA1, hle, hor⟩ := id hAL
  rw [List.length_map] at hle
  subst hL
  obtain ⟨rw, rr, rf, rx, htp, hA3, hrest⟩ := id hT
  refine mf_of (by decide) (Nat.le_of_ble_eq_true rfl) ?_
  intro p e s m below meth c ls C hH hr hlk hnm hmt hl hS
  have hl : lv_has ls 1 [(0, .ref x)] := hl
  refine lv_aload_n C.x C.b md_F_fills_0 rfl (lv_at hl 0 rfl) ?_
  refine mf_gf C (ci := 3) (N := 4) rfl mi_F 1 (by decide) mt_85 hx (v := .ref tp) rfl md_F_fills_1 ?_
  refine mf_gfN C (ci := 2) (N := 5) rfl mi_T 1 (by decide) (C.ev.2.1.1 (133, "MatchFloor$Tape", "count", "I") (List.mem_of_getElem? (i := 0) rfl)) htp (v := .int (nI g.1)) rfl md_F_fills_4 ?_
  exact mf_ri C.x C.b hH hr hlk md_F_fills_7
set_option maxRecDepth 100000 in
set_option maxHeartbeats 4000000 in
theorem k_F_last (l : Launch) (D : va_G) (k5 : mf_k5) (t0 : Nat × Nat) (A : Nat → Prop) (H : Heap) (x al tp : Nat) (L : List mf_O) (due met : Int32) (g : mf_G) (hM : mf_SS D k5 t0 A H x al tp (L, due, met, g)) : mf_cRO l my_F_last mc_F_last 1 (some .int) { frames := 0, cells := 0, slots := 0, locals := 0 } D (mf_tys k5) t0 A H [.ref x] (some (.int g.2.1)) := by
  obtain ⟨ks, hL, hC, hT⟩ := id hM
  have hL : mf_L ks = L := hL
  have hC : mf_CL D k5 t0 A H x al tp due met ks := hC
  have hT : mf_TP D k5 A H tp g := hT
  obtain ⟨hx, hAx, hAL, hks, hnd⟩ := id hC
  obtain ⟨ed, mc, hal, hA1, hle, hor⟩ := id hAL
  rw [List.length_map] at hle
  subst hL
  obtain ⟨rw, rr, rf, rx, htp, hA3, hrest⟩ := id hT
  refine mf_of (by decide) (Nat.le_of_ble_eq_true rfl) ?_
  intro p e s m below meth c ls C hH hr hlk hnm hmt hl hS
  have hl : lv_has ls 1 [(0, .ref x)] := hl
  refine lv_aload_n C.x C.b md_F_last_0 rfl (lv_at hl 0 rfl) ?_
  refine mf_gf C (ci := 3) (N := 4) rfl mi_F 1 (by decide) mt_85 hx (v := .ref tp) rfl md_F_last_1 ?_
  refine mf_gfN C (ci := 2) (N := 5) rfl mi_T 2 (by decide) (C.ev.2.1.1 (141, "MatchFloor$Tape", "lastPrice", "I") (List.mem_of_getElem? (i := 1) rfl)) htp (v := .int g.2.1) rfl md_F_last_4 ?_
  exact mf_ri C.x C.b hH hr hlk md_F_last_7
set_option maxRecDepth 100000 in
set_option maxHeartbeats 4000000 in
theorem k_F_turnover (l : Launch) (D : va_G) (k5 : mf_k5) (t0 : Nat × Nat) (A : Nat → Prop) (H : Heap) (x al tp : Nat) (L : List mf_O) (due met : Int32) (g : mf_G) (hM : mf_SS D k5 t0 A H x al tp (L, due, met, g)) : mf_cRO l my_F_turnover mc_F_turnover 1 (some .long) { frames := 0, cells := 0, slots := 0, locals := 0 } D (mf_tys k5) t0 A H [.ref x] (some (.long g.2.2.2.1)) := by
  obtain ⟨ks, hL, hC, hT⟩ := id hM
  have hL : mf_L ks = L := hL
  have hC : mf_CL D k5 t0 A H x al tp due met ks := hC
  have hT : mf_TP D k5 A H tp g := hT
  obtain ⟨hx, hAx, hAL, hks, hnd⟩ := id hC
  obtain ⟨ed, mc, hal, hA1, hle, hor⟩ := id hAL
  rw [List.length_map] at hle
  subst hL
  obtain ⟨rw, rr, rf, rx, htp, hA3, hrest⟩ := id hT
  refine mf_of (by decide) (Nat.le_of_ble_eq_true rfl) ?_
  intro p e s m below meth c ls C hH hr hlk hnm hmt hl hS
  have hl : lv_has ls 1 [(0, .ref x)] := hl
  refine lv_aload_n C.x C.b md_F_turnover_0 rfl (lv_at hl 0 rfl) ?_
  refine mf_gf C (ci := 3) (N := 4) rfl mi_F 1 (by decide) mt_85 hx (v := .ref tp) rfl md_F_turnover_1 ?_
  refine mf_gfN C (ci := 2) (N := 5) rfl mi_T 4 (by decide) (C.ev.2.1.1 (144, "MatchFloor$Tape", "worth", "J") (List.mem_of_getElem? (i := 3) rfl)) htp (v := .long g.2.2.2.1) rfl md_F_turnover_4 ?_
  exact mf_rl C.x C.b hH hr hlk md_F_turnover_7
section MFL
variable {p : Program} {l : Launch} {e : Env} {R : Room} {s : State} {m : MethodId} {args : Array Value} {below : List Frame} {meth : Method} {c : Code} {H : Heap} {locs : List Loc} {cells slots : Nat} {Q : State → Prop}
variable {cc : ByteArray} {nL pc : Nat} {ls : Array Slot} {rest st0 : List Value} {D : va_G} {t0 : Nat × Nat} {A A1 : Nat → Prop} {a : Array Value} {tys : List (ClassId × FieldType)} {own : String} {mc ms : Nat}
/-- a call that returns or throws -/
theorem mf_cxs {ok : Prop} {v : Value} {B : Heap → Prop} {X : String → Prop} (hr : vx_Run p l e R s m args below meth c H locs cells slots mc ms (F0 m pc ls st0) rest (mf_Kx ok (some v) B A1 a) (mf_XC X) A) (hS : va_S A s.heap H locs) (hA : ∀ q, q < H.size → A1 q → A q)
    (kx : ∀ (E : String) (ce : Cell) (q9 : Addr) (H1 : Heap) (locs1 : List Loc), X E → H.size ≤ H1.size → (∀ q : Nat, q < H.size → H1[q]? = H[q]?) → va_S A s.heap H1 locs1 → H1[q9]? = some ce → ce.vm = .none → s.vm.findClass E = some ce.cls → vx_W p l e R s m args below meth c H1 locs1 (cells + mc) (slots + ms) Q (F0 m pc ls rest) q9)
    (kk : ∀ (H1 : Heap) (locs1 : List Loc), ok → B H1 → H.size ≤ H1.size → (∀ q : Nat, q < H.size → ¬ A1 q → H1[q]? = H[q]?) → va_S A s.heap H1 locs1 → W p l e R s m args below meth c H1 locs1 (cells + mc) (slots + ms) Q (F0 m (pc + 3) ls (v :: rest))) : W p l e R s m args below meth c H locs cells slots Q (F0 m pc ls st0) := by
  intro T hT X9
  rcases hr T hT X9 with ⟨v', st₀, t, T', L, h0, X', hL, e1, e2, ⟨hok, hv, hb, hF⟩, st⟩ | ⟨q, st₀, t, T', L, E, ce, h0, X', hL, e1, e2, ⟨hx, hz, hk⟩, hce, hcv, hcl, st⟩
  · cases hv
    obtain ⟨k1, k2, k3⟩ := vx_keep h0 e1 hS hA (fun _ h => h) hL hF
    obtain ⟨t2, a1, b1⟩ := kk T'.heap (locs ++ L) hok (by rw [e1]; exact hb) k1 k2 k3 T' rfl X'
    exact ⟨t2, st t2 a1, b1⟩
  · rw [h0] at hz hk
    obtain ⟨t2, a1, b1⟩ := kx E ce q T'.heap (locs ++ L) hx (by rw [e1]; exact hz) (fun z hz9 => by rw [e1]; exact hk z hz9)
      ⟨Nat.le_trans hS.1 (by rw [e1]; exact hz), fun z h1 h2 => by rw [e1, hk z (Nat.lt_of_lt_of_le h1 hS.1)]; exact hS.2.1 z h1 h2, fun z hz9 => by
        rcases List.mem_append.mp hz9 with h | h
        · exact hS.2.2 z h
        · exact hL z h⟩ (by rw [e1]; exact hce) hcv hcl T' rfl X'
    exact ⟨t2, st.trans a1, b1⟩
/-- lastore, the other cells as they were -/
theorem mf_last {own : String} {ba : Array Value} {a : Nat} (C : mf_Cx p s m ba c own cc nL D tys t0 A) {cA : ClassId} {t n i : Nat} {f : Nat → Int64} {v : Int64} (ht : tys[t]? = some (cA, .long)) (hat : va_at D mf_cl (a, .inl (cA, n, .inr (.inl f))) H) (hi : i < n) (hn : n < 2 ^ 31) (hS : va_S A s.heap H locs) (ha : A a) (hdg : decode cc pc = .ok (.lastore, 1))
    (kk : ∀ (H1 : Heap) (locs1 : List Loc), va_at D mf_cl (a, .inl (cA, n, .inr (.inl (vp_updL f i v)))) H1 → mf_Eq A [cA] H H1 → va_S A s.heap H1 locs1 → W p l e R s m args below meth c H1 locs1 cells slots Q (F0 m (pc + 1) ls rest)) : W p l e R s m args below meth c H locs cells slots Q (F0 m pc ls (.long v :: .int (nI i) :: .ref a :: rest)) := by
  have hin := vp_in_nI hi hn
  refine W.last C.x C.b hat ((C.k.2 t _ ht).1 n (fun j => .long (f j))) (fun q => by cases q) (by show ¬ (nI i < 0 ∨ (arrV _ _ _).slots.size ≤ _); rw [arrV_size]; exact hin) rfl rfl hdg fun H1 e z oq => ?_
  refine kk H1 _ ?_ (mf_Eq.one z oq ha (mf_co_a hat)) (hS.put z oq ha)
  show H1[a]? = some (vp_cell _ _)
  rw [e]
  rw [vp_cell_l, vp_cell_l, arrV_store]
  congr 2
  funext q
  rw [nI_clamp (by omega)]
  by_cases hq : q = i
  · subst hq
    simp [updV, vp_updL]
  · simp [updV, vp_updL, hq]
end MFL
def mf_wsW (y : MethodName) (cc : ByteArray) (n : Nat) (r : Option FieldType) (hh : List (Nat × Nat × Nat × Nat)) : List Cond := .codeWith y cc n r hh :: mf_tb
def mf_cLW (l : Launch) (y : MethodName) (cc : ByteArray) (n : Nat) (r : Option FieldType) (hh : List (Nat × Nat × Nat × Nat)) (rm : Room) (D : va_G) (tys : List (ClassId × FieldType)) (t0 : Nat × Nat) (A : Nat → Prop) (H : Heap) (av : List Value) (v : Option Value) (B : Heap → Prop) (A1 : Nat → Prop) (mc ms : Nat) : Prop := Met l y (mf_wsW y cc n r hh) rm (va_Pc av (mf_P D tys t0 A H)) (mf_Kw v B A1) mc ms A
theorem mf_ofW {l : Launch} {y : MethodName} {cc : ByteArray} {n : Nat} {r : Option FieldType} {hh : List (Nat × Nat × Nat × Nat)} {rm : Room} {D : va_G} {tys : List (ClassId × FieldType)} {t0 : Nat × Nat} {A : Nat → Prop} {H : Heap} {av : List Value} {Qc : Array Value → State → Outcome → State → Prop} {mc ms : Nat} {free : Addr → Prop} (hy : plainName y.cls = true) (hn : (lg_sl av).length ≤ n)
    (body : ∀ (p : Program) (e : Env) (s : State) (m : MethodId) (below : List Frame) (meth : Method) (c : Code) (ls : Array Slot), mf_Cx p s m av.toArray c y.cls cc n D tys t0 A → s.heap = H → meth.sig.returnType = r → meth.locks = false → c.exceptionTable.toList = tableOf hh → lv_has ls n (lv_args 0 av) → va_S A s.heap H [] →
      W p l e rm s m av.toArray below meth c H [] 0 0 (MQ below Qc av.toArray s mc ms free) (F0 m 0 ls [])) : Met l y (mf_wsW y cc n r hh) rm (va_Pc av (mf_P D tys t0 A H)) Qc mc ms free := by
  refine va_MetW (cc := cc) (maxL := n) (ret := r) (hh := hh) hy rfl ?_
  intro p e s m args below meth c s₁ B hml hv
  obtain ⟨rfl, hH, hE⟩ := hv
  have hts := atoms_spec (ws := mf_wsW y cc n r hh) B.pre
  have htb := vx_table (x := y) B (hts _ List.mem_cons_self)
  have hl := lv_entry av hn
  rw [lg_entry_eq]
  generalize (lg_sl av ++ List.replicate (n - (lg_sl av).length) Slot.unset).toArray = ls at hl ⊢
  rw [hH]
  exact body p e s m below meth c ls ⟨B.exec, B.bytes, fun w hw => hts w (List.mem_cons_of_mem _ hw), findClass_of_methodNamed B.named, hE, hml⟩ hH B.returns B.notSynchronized htb hl (by rw [hH]; exact va_S.rf)
