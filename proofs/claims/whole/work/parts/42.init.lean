/-! constructors of the class -/
section MFI
variable {p : Program} {l : Launch} {e : Env} {R : Room} {s : State} {m : MethodId} {args : Array Value} {below : List Frame} {meth : Method} {c : Code} {H : Heap} {locs : List Loc} {cells slots : Nat} {Q : State → Prop}
variable {cc : ByteArray} {nL pc : Nat} {ls : Array Slot} {rest : List Value} {D : va_G} {t0 : Nat × Nat} {A : Nat → Prop} {a : Nat} {tys : List (ClassId × FieldType)} {own : String}
/-- putfield of a final field, in its class's constructor -/
theorem mf_pfF (C : mf_Cx p s m args c own cc nL D tys t0 A) {ci N : Nat} {R0 : String} {T : u_T} (hc : mf_cl[ci]? = some (R0, T, N)) (hin : ∀ w ∈ u_ws R0 T N, w ∈ mf_tb) {ty0 : Nat → FieldType} (hty : ∀ k, k < N → parseFieldDescriptor (T k).2.2.1 = some (ty0 k)) (hnm : ∀ a, a < N → ∀ b, b < N → a ≠ b → (T a).2.1 ≠ (T b).2.1) (k : Nat) (hk : k < N) {index : Nat} (hl : Cond.fieldLink own index (T k).1 (T k).2.1 (T k).2.2.1 ∈ mf_tb) (hfin : (T k).2.2.2 = true) (hin2 : meth.name = "<init>") (hdecl : (T k).1 = own) {v : Value} (hn : narrow (ty0 k) v = v) (hfit : fits (ty0 k) v = true) {fs fs' : List Value} (hat : va_at D mf_cl (a, .inr (ci, fs)) H) (hlen : k < fs.length) (hfs : fs.set k v = fs') (hS : va_S A s.heap H locs) (ha : A a) (hdg : decode cc pc = .ok (.putfield index, 3))
    (kk : ∀ (H1 : Heap) (locs1 : List Loc), va_at D mf_cl (a, .inr (ci, fs')) H1 → H1.size = H.size → (∀ q, q ≠ a → H1[q]? = H[q]?) → va_S A s.heap H1 locs1 → W p l e R s m args below meth c H1 locs1 cells slots Q (F0 m (pc + 3) ls rest)) : W p l e R s m args below meth c H locs cells slots Q (F0 m pc ls (v :: .ref a :: rest)) := by
  subst hfs
  have hap := va_apart (own := own) C.2.2.1 hin ty0 hty hnm C.k hc
  obtain ⟨r, h1, cell, q1, q2, q3, q4⟩ := hat
  obtain rfl : r = (R0, T, N) := Option.some.inj (h1.symm.trans hc)
  obtain ⟨hSl, hfc, kC, hkC, hkind⟩ := C.k.1 ci _ hc
  obtain ⟨cf, kf, fi, f, hi, hsl⟩ := hSl k hk
  have hlay := C.2.2.1 _ (hin _ (u_in_lay hk))
  unfold u_lay at hlay
  rw [if_pos hfin] at hlay
  have hst := (u_facts hfc hkC (u_lays C.2.2.1 hin hk) hi).1
  have hcf : m.cls = cf := by
    obtain ⟨_, _, c', _, _, _, -, -, hf', -, -, -, hown2, -⟩ := Cond.laysFinal_spec hlay
    have e1 : c' = cf := by have := hi.symm.trans hf'; simp at this; exact this.1.symm
    rw [hdecl] at hown2
    rw [← e1]; exact Option.some.inj (C.o.symm.trans hown2)
  have h6 := u_fits hfc hkC hkind (Or.inr hlay) hi (hty k hk) hn hfit
  refine W.putFinK C.x C.b C.o (C.t hl) hi hst hcf hin2 (by rw [q2]; exact h6) q1 q3 (by rw [hsl]; exact k2_hasslot (q4 k hk)) rfl rfl hdg fun H' e1 e2 e3 => ?_
  rw [hsl] at e1 ⊢
  exact kk H' _ ⟨_, hc, t_OB.to (V := updV (vp_V fs) k v) ⟨_, e1, q2, q3, t_set q4 hap hk v⟩ (fun j _ => vp_updV_set hlen v j)⟩ e2 e3 (hS.put e2 e3 ha)
/-- a new object -/
theorem mf_newo (C : mf_Cx p s m args c own cc nL D tys t0 A) {ci N : Nat} {R0 : String} {T : u_T} (hc : mf_cl[ci]? = some (R0, T, N)) (hin : ∀ w ∈ u_ws R0 T N, w ∈ mf_tb) {ty0 : Nat → FieldType} (hty : ∀ k, k < N → parseFieldDescriptor (T k).2.2.1 = some (ty0 k)) {index : Nat} (hcl : Cond.classLink own index R0 ∈ mf_tb) (hinst : Cond.instantiable R0 N ∈ mf_tb) (hini : Cond.initialized R0 ∈ mf_tb) {fs : List Value} (hfs : ∀ j, j < N → defaultValue (ty0 j) = vp_V fs j) (hS : va_S A s.heap H locs) (hcells : cells + 1 ≤ R.cells) (hslots : slots + N ≤ R.slots) (hdg : decode cc pc = .ok (.new index, 3))
    (kk : ∀ (q : Nat) (H1 : Heap), va_at D mf_cl (q, .inr (ci, fs)) H1 → q = H.size → A q → mf_Eq A [] H H1 → va_S A s.heap H1 locs → W p l e R s m args below meth c H1 locs (cells + 1) (slots + N) Q (F0 m (pc + 3) ls (.ref q :: rest))) : W p l e R s m args below meth c H locs cells slots Q (F0 m pc ls rest) := by
  have hKn := C.k.1 ci _ hc
  refine W.newcK C.x C.b C.o (C.t hcl) (C.t hinst) (C.t hini) rfl hdg hcells hslots hKn.2.1 rfl fun H1 kC hkC e1 z1 o1 => ?_
  exact kk H.size H1 ⟨_, hc, (u_born ty0 C.2.2.1 hin hKn hkC e1 hty).to hfs⟩ rfl (C.aa _ hS.1) ⟨by omega, fun q hq _ => o1 q hq⟩ ⟨Nat.le_trans hS.1 (by omega), fun x h1 h2 => (o1 x (Nat.lt_of_lt_of_le h1 hS.1)).trans (hS.2.1 x h1 h2), hS.2.2⟩
end MFI
def mf_g0 : mf_G := (0, 0, 0, 0, fun _ _ => 0)
theorem mf_kids {A : Nat → Prop} {H H1 : Heap} {L : List ClassId} {a : Nat} (h : ∀ q, q < H.size → q ≠ a → H1[q]? = H[q]?) (hz : H.size ≤ H1.size) (hf : mf_fr A H L a) : mf_Eq A L H H1 := ⟨hz, fun q hq hn => h q hq (fun e => hn (by rw [e]; exact hf))⟩
set_option maxRecDepth 100000 in
set_option maxHeartbeats 4000000 in
theorem k_AC_init (l : Launch) (D : va_G) (k5 : mf_k5) (t0 : Nat × Nat) (A : Nat → Prop) (H : Heap) (al : Nat) : mf_cWR l my_AC_init mc_AC_init 1 none { frames := 1, cells := 0, slots := 0, locals := 12 } D (mf_tys k5) t0 A H [.ref al] none (fun H1 => H1 = H) (mf_fr A H []) 0 0 := by
  refine mf_of (by decide) (Nat.le_of_ble_eq_true rfl) ?_
  intro p e s m below meth c ls C hH hr hlk hnm hmt hl hS
  have hl : lv_has ls 1 [(0, .ref al)] := hl
  refine lv_aload_n C.x C.b md_AC_init_0 rfl (lv_at hl 0 rfl) ?_
  refine W.objInit C.x C.b C.o (C.t mt_40) (C.t mt_27) (C.t mt_28) rfl (hl.1.trans C.2.2.2.2.2.symm) rfl md_AC_init_1 (Nat.le_of_ble_eq_true rfl) (Nat.le_of_ble_eq_true rfl) ?_
  refine W.eq (g2 := F0 m 4 ls []) rfl ?_
  exact mf_wv C.x C.b hr hlk md_AC_init_4 rfl mf_Eq.rf hH (fun q h => by cases h) (Nat.le_refl _) (Nat.le_refl _)
set_option maxRecDepth 100000 in
set_option maxHeartbeats 4000000 in
theorem k_AL_init (l : Launch) (D : va_G) (k5 : mf_k5) (t0 : Nat × Nat) (A : Nat → Prop) (H : Heap) (al : Nat) (hal : va_at D mf_cl (al, .inr (0, [.null, .int 0, .int 0])) H) (hAa : A al) : mf_cWR l my_AL_init mc_AL_init 1 none { frames := 2, cells := 0, slots := 0, locals := 32 } D (mf_tys k5) t0 A H [.ref al] none (fun H1 => va_at D mf_cl (al, .inr (0, [.null, .int 0, .int 0])) H1) (mf_fr A H [D.1 0]) 0 0 := by
  refine mf_of (by decide) (Nat.le_of_ble_eq_true rfl) ?_
  intro p e s m below meth c ls C hH hr hlk hnm hmt hl hS
  have hl : lv_has ls 1 [(0, .ref al)] := hl
  refine lv_aload_n C.x C.b md_AL_init_0 rfl (lv_at hl 0 rfl) ?_
  refine mf_cwn (va_runI (As := []) (rest := []) C.f (k_AC_init l D k5 t0 A H al) (mf_cI C mt_39 mt_37 mt_2 mt_38 rfl mh_AC_init ⟨by decide, by decide⟩) (mf_preS C.ev hS) rfl rfl hl.1 rfl (lv_room (Nat.le_of_ble_eq_true rfl)) md_AL_init_1 ⟨by first | omega | exact Nat.le_of_ble_eq_true rfl, by first | omega | exact Nat.le_of_ble_eq_true rfl⟩) hS (fun _ _ h => h.1) (fun H locs hB hz hk hS1 => ?_)
  subst hB
  refine lv_aload_n C.x C.b md_AL_init_4 rfl (lv_at hl 0 rfl) ?_
  refine lv_iconst (v := 0) C.x C.b md_AL_init_5 (by decide) ?_
  refine mf_pf C (ci := 0) (N := 3) rfl mi_A mp_A mn_A 2 (by decide) mt_45 rfl (v := .int 0) rfl rfl hal (Nat.le_of_ble_eq_true rfl) (fs' := [.null, .int 0, .int 0]) rfl hS1 hAa md_AL_init_6 (fun H2 locs hal2 hz2 ho2 hS => ?_)
  exact mf_wv C.x C.b hr hlk md_AL_init_9 hal2 (mf_Eq.one hz2 ho2 hAa (mf_co_o hal)) hH hS.2.2 (Nat.le_refl _) (Nat.le_refl _)
set_option maxRecDepth 100000 in
set_option maxHeartbeats 4000000 in
theorem k_A_init (l : Launch) (D : va_G) (k5 : mf_k5) (t0 : Nat × Nat) (A : Nat → Prop) (H : Heap) (al : Nat) (hal : va_at D mf_cl (al, .inr (0, [.null, .int 0, .int 0])) H) (hAa : A al) : mf_cWR l my_A_init mc_A_init 1 none { frames := 3, cells := 0, slots := 0, locals := 52 } D (mf_tys k5) t0 A H [.ref al] none (fun H1 => mf_AL D k5 t0 A H1 al []) (mf_fr A H [D.1 0]) 0 0 := by
  refine mf_of (by decide) (Nat.le_of_ble_eq_true rfl) ?_
  intro p e s m below meth c ls C hH hr hlk hnm hmt hl hS
  have hl : lv_has ls 1 [(0, .ref al)] := hl
  refine lv_aload_n C.x C.b md_A_init_0 rfl (lv_at hl 0 rfl) ?_
  refine mf_cwn (va_runI (As := []) (rest := []) C.f (k_AL_init l D k5 t0 A H al hal hAa) (mf_cI C mt_36 mt_34 mt_3 mt_35 rfl mh_AL_init ⟨by decide, by decide⟩) (mf_preS C.ev hS) rfl rfl hl.1 rfl (lv_room (Nat.le_of_ble_eq_true rfl)) md_A_init_1 ⟨by first | omega | exact Nat.le_of_ble_eq_true rfl, by first | omega | exact Nat.le_of_ble_eq_true rfl⟩) hS (fun _ _ h => h.1) (fun H locs hB hz hk hS => ?_)
  have hE1 : mf_Eq A [D.1 0] _ H := ⟨hz, hk⟩
  refine lv_aload_n C.x C.b md_A_init_4 rfl (lv_at hl 0 rfl) ?_
  refine va_gets C.x C.b C.ev.2.2.1.2.2.1 hS C.o (C.t mt_41) (fun _ h => h) md_A_init_5 ?_
  refine mf_pf C (ci := 0) (N := 3) rfl mi_A mp_A mn_A 0 (by decide) mt_43 rfl (v := .ref t0.1) rfl rfl hB (Nat.le_of_ble_eq_true rfl) (fs' := [.ref t0.1, .int 0, .int 0]) rfl hS hAa md_A_init_8 (fun H2 locs hal2 hz2 ho2 hS => ?_)
  exact mf_wv C.x C.b hr hlk md_A_init_11 ⟨t0.1, 0, hal2, hAa, Nat.zero_le _, Or.inl ⟨rfl, rfl⟩⟩ (hE1.tr (L := [D.1 0]) (mf_Eq.one hz2 ho2 hAa (mf_co_o hB)) (fun _ h => h) (fun _ h => h)) hH hS.2.2 (Nat.le_refl _) (Nat.le_refl _)
set_option maxRecDepth 100000 in
set_option maxHeartbeats 4000000 in
theorem k_T_init (l : Launch) (D : va_G) (k5 : mf_k5) (t0 : Nat × Nat) (A : Nat → Prop) (H : Heap) (tp : Nat) (htp : va_at D mf_cl (tp, .inr (2, [.null, .int 0, .int 0, .int 0, .long 0])) H) (hAt : A tp) : mf_cWR l my_T_init mc_T_init 1 none { frames := 1, cells := 33, slots := 160, locals := 12 } D (mf_tys k5) t0 A H [.ref tp] none (fun H1 => mf_TP D k5 A H1 tp mf_g0) (mf_fr A H [D.1 2]) 33 160 := by
  refine mf_of (by decide) (Nat.le_of_ble_eq_true rfl) ?_
  intro p e s m below meth c ls C hH hr hlk hnm hmt hl hS
  have hl : lv_has ls 1 [(0, .ref tp)] := hl
  refine lv_aload_n C.x C.b md_T_init_0 rfl (lv_at hl 0 rfl) ?_
  refine W.objInit C.x C.b C.o (C.t mt_60) (C.t mt_27) (C.t mt_28) rfl (hl.1.trans C.2.2.2.2.2.symm) rfl md_T_init_1 (Nat.le_of_ble_eq_true rfl) (Nat.le_of_ble_eq_true rfl) ?_
  refine W.eq (g2 := F0 m 4 ls []) rfl ?_
  refine lv_aload_n C.x C.b md_T_init_4 rfl (lv_at hl 0 rfl) ?_
  refine lv_bipush (v := 32) C.x C.b md_T_init_5 (by decide) ?_
  refine lv_iconst (v := 4) C.x C.b md_T_init_7 (by decide) ?_
  have hin := (name_of_methodNamed hnm hmt).1
  obtain ⟨A1, hA1⟩ : ∃ A1 : Nat → Prop, A1 = fun q => q = tp ∨ H.size ≤ q := ⟨_, rfl⟩
  have hup : ∀ q, A1 q → mf_fr A H [D.1 2] q := by
    intro q h9
    rw [hA1] at h9
    rcases h9 with h9 | h9
    · rw [h9]; exact mf_fr_c hAt (mf_co_o htp) (by simp)
    · exact ⟨C.aa q (by rw [hH]; exact h9), Or.inl h9⟩
  have hD : va_D A1 [(tp, .inr (2, [.null, .int 0, .int 0, .int 0, .long 0]))] := mf_D1 (by rw [hA1]; exact Or.inl rfl)
  have hP : va_P D mf_cl [(tp, .inr (2, [.null, .int 0, .int 0, .int 0, .long 0]))] H := mf_one htp
  have hS : va_S A1 s.heap H [] := by rw [hH]; exact va_S.rf
  have hA : ∀ q, s.heap.size ≤ q → A1 q := fun q hq => by rw [hA1]; exact Or.inr (by rw [← hH]; exact hq)
  have e9 : ("[" ++ (FieldType.array .int).toString) = "[[I" := by decide +kernel
  have hcl9 : (Cond.classLink "MatchFloor$Tape" 11 ("[" ++ (FieldType.array .int).toString)).before ([.ref tp] : List Value).toArray s = true := by rw [e9]; exact C.t mt_61
  refine va_mna (X := [(tp, .inr (2, [.null, .int 0, .int 0, .int 0, .long 0]))]) (L := []) (f := fun _ => .inl (k5.1, 0, .inl (fun _ => 0))) (ty := .int) (N' := 32) (K' := 4) (z := (4, .inl (fun _ => 0))) C.x C.b C.o hcl9 C.ev.2.1.2.2.2.2.1 (C.t mt_83) (va_nm_int (C.k.2 2 _ rfl).2) C.k hP hD hS hA (by decide) (by decide) (by decide) (by decide) (by decide) (by decide) (by decide) rfl rfl (by decide) (by decide) (fun _ => arrV_new _ _ _) md_T_init_8 (fun q r cA H hr1 hr2 hK hP hD hS => ?_)
  obtain rfl : cA = k5.2.1 := by
    have h4 : s.vm.findClass ("[" ++ (FieldType.array .int).toString) = some cA := (hK.2 5 _ rfl).2
    have h5 : s.vm.findClass ("[" ++ (FieldType.array .int).toString) = some k5.2.1 := (C.k.2 1 _ rfl).2
    exact Option.some.inj (h4.symm.trans h5)
  have hrow : ∀ i, i < 32 → va_at D mf_cl (r i, .inl (k5.2.2.1, 4, .inl (fun _ => 0))) H ∧ A1 (r i) := by
    intro i hi
    have h1 : (va_pl ([] ++ (List.range 32).map r) (vr_up (fun _ => .inl (k5.1, 0, .inl (fun _ => 0))) ((List.range 32).map r) (.inl (k5.2.2.1, 4, .inl (fun _ => 0)))))[i]? = some (r i, .inl (k5.2.2.1, 4, .inl (fun _ => 0))) := by
      unfold va_pl
      rw [List.nil_append, List.getElem?_map, List.getElem?_map, List.getElem?_range hi]
      show some (r i, _) = _
      rw [vr_up_in (List.mem_map.mpr ⟨i, List.mem_range.mpr hi, rfl⟩)]
    exact ⟨hP (2 + i) _ (by rw [List.getElem?_append_right (by simp)]; simpa using h1), hD.2 (2 + i) _ (by rw [List.getElem?_append_right (by simp)]; simpa using h1)⟩
  have htp1 : va_at D mf_cl (tp, .inr (2, [.null, .int 0, .int 0, .int 0, .long 0])) H := hP 0 _ rfl
  have hq1 := hP 1 _ rfl
  have hAq : A1 q := hD.2 1 _ rfl
  have hS2 : va_S A s.heap H [] := mf_S_up hS (fun q h => (hup q h).1)
  have hqt : q ≠ tp := fun e => by have := hD.1 0 1 _ _ rfl rfl e.symm; cases this
  refine mf_pfF C (ci := 2) (N := 5) rfl mi_T mp_T mn_T 0 (by decide) mt_63 rfl hin rfl (v := .ref q) rfl rfl htp1 (Nat.le_of_ble_eq_true rfl) (fs' := [.ref q, .int 0, .int 0, .int 0, .long 0]) rfl hS2 hAt md_T_init_12 (fun H2 locs htp2 hz2 ho2 hS3 => ?_)
  refine lv_aload_n C.x C.b md_T_init_15 rfl (lv_at hl 0 rfl) ?_
  refine lv_iconst (v := 0) C.x C.b md_T_init_16 (by decide) ?_
  refine mf_pf C (ci := 2) (N := 5) rfl mi_T mp_T mn_T 2 (by decide) mt_66 rfl (v := .int 0) rfl rfl htp2 (Nat.le_of_ble_eq_true rfl) (fs' := [.ref q, .int 0, .int 0, .int 0, .long 0]) rfl hS3 hAt md_T_init_17 (fun H3 locs htp3 hz3 ho3 hS4 => ?_)
  have ho : ∀ z, z ≠ tp → H3[z]? = H[z]? := fun z hz => (ho3 z hz).trans (ho2 z hz)
  have hrt : ∀ i, i < 32 → r i ≠ tp := fun i hi e => mf_ne_c (mf_co_a (hrow i hi).1) (mf_co_o htp1) (mf_nd C.nd (i := 7) (j := 2) rfl rfl (by decide)) e
  refine mf_wv C.x C.b hr hlk md_T_init_20 ⟨q, r, _, fun _ _ => 0, htp3, hAt, hq1.kept (ho q hqt), (hup q hAq).1, fun i hi => if_pos hi, fun i hi => ⟨(hrow i hi).1.kept (ho _ (hrt i hi)), (hup _ (hrow i hi).2).1, fun _ _ => rfl⟩, hr1⟩ ?_ hH hS4.2.2 (by decide) (by decide)
  have hS0 := hS.1
  rw [hH] at hS0
  refine ⟨by omega, fun z h1 h2 => ?_⟩
  have hzt : z ≠ tp := fun e => h2 (hup z (by rw [hA1]; exact Or.inl e))
  rw [ho z hzt, ← hH]
  exact hS.2.1 z (by rw [hH]; exact h1) (fun v => h2 (hup z v))
set_option maxRecDepth 100000 in
set_option maxHeartbeats 4000000 in
theorem k_O_init (l : Launch) (D : va_G) (k5 : mf_k5) (t0 : Nat × Nat) (A : Nat → Prop) (H : Heap) (o : Nat) (i ow sd pr lf : Int32) (b : Bool) (ho : va_at D mf_cl (o, .inr (1, [.int 0, .int 0, .int 0, .int 0, .int 0, .int 0])) H) (hAo : A o) : mf_cWR l my_O_init mc_O_init 7 none { frames := 1, cells := 0, slots := 0, locals := 12 } D (mf_tys k5) t0 A H [.ref o, .int i, .int ow, .int sd, .int (mf_bI b), .int pr, .int lf] none (fun H1 => va_at D mf_cl (o, .inr (1, mf_fs (i, ow, sd, mf_bI b, pr, lf))) H1) (fun z => z = o) 0 0 := by
  refine mf_of (by decide) (Nat.le_of_ble_eq_true rfl) ?_
  intro p e s m below meth c ls C hH hr hlk hnm hmt hl hS
  have hl : lv_has ls 7 [(0, .ref o), (1, .int i), (2, .int ow), (3, .int sd), (4, .int (mf_bI b)), (5, .int pr), (6, .int lf)] := hl
  refine lv_aload_n C.x C.b md_O_init_0 rfl (lv_at hl 0 rfl) ?_
  refine W.objInit C.x C.b C.o (C.t mt_242) (C.t mt_27) (C.t mt_28) rfl (hl.1.trans C.2.2.2.2.2.symm) rfl md_O_init_1 (Nat.le_of_ble_eq_true rfl) (Nat.le_of_ble_eq_true rfl) ?_
  refine W.eq (g2 := F0 m 4 ls []) rfl ?_
  have hin := (name_of_methodNamed hnm hmt).1
  have hbz : narrow .boolean (.int (mf_bI b)) = .int (mf_bI b) ∧ fits .boolean (.int (mf_bI b)) = true := by cases b <;> exact ⟨rfl, rfl⟩
  refine lv_aload_n C.x C.b md_O_init_4 rfl (lv_at hl 0 rfl) ?_
  refine lv_iload_n C.x C.b md_O_init_5 rfl (lv_at hl 1 rfl) ?_
  refine mf_pfF C (ci := 1) (N := 6) rfl mi_O mp_O mn_O 0 (by decide) mt_243 rfl hin rfl (v := .int i) rfl rfl ho (Nat.le_of_ble_eq_true rfl) (fs' := [.int i, .int 0, .int 0, .int 0, .int 0, .int 0]) rfl hS hAo md_O_init_6 (fun H0 locs o0 z0 k0 hS0 => ?_)
  refine lv_aload_n C.x C.b md_O_init_9 rfl (lv_at hl 0 rfl) ?_
  refine lv_iload_n C.x C.b md_O_init_10 rfl (lv_at hl 2 rfl) ?_
  refine mf_pfF C (ci := 1) (N := 6) rfl mi_O mp_O mn_O 1 (by decide) mt_245 rfl hin rfl (v := .int ow) rfl rfl o0 (Nat.le_of_ble_eq_true rfl) (fs' := [.int i, .int ow, .int 0, .int 0, .int 0, .int 0]) rfl hS0 hAo md_O_init_11 (fun H1 locs o1 z1 k1 hS1 => ?_)
  refine lv_aload_n C.x C.b md_O_init_14 rfl (lv_at hl 0 rfl) ?_
  refine lv_iload_n C.x C.b md_O_init_15 rfl (lv_at hl 3 rfl) ?_
  refine mf_pfF C (ci := 1) (N := 6) rfl mi_O mp_O mn_O 2 (by decide) mt_247 rfl hin rfl (v := .int sd) rfl rfl o1 (Nat.le_of_ble_eq_true rfl) (fs' := [.int i, .int ow, .int sd, .int 0, .int 0, .int 0]) rfl hS1 hAo md_O_init_16 (fun H2 locs o2 z2 k2 hS2 => ?_)
  refine lv_aload_n C.x C.b md_O_init_19 rfl (lv_at hl 0 rfl) ?_
  refine lv_iload C.x C.b md_O_init_20 (lv_at hl 4 rfl) ?_
  refine mf_pfF C (ci := 1) (N := 6) rfl mi_O mp_O mn_O 3 (by decide) mt_249 rfl hin rfl (v := .int (mf_bI b)) hbz.1 hbz.2 o2 (Nat.le_of_ble_eq_true rfl) (fs' := [.int i, .int ow, .int sd, .int (mf_bI b), .int 0, .int 0]) rfl hS2 hAo md_O_init_22 (fun H3 locs o3 z3 k3 hS3 => ?_)
  refine lv_aload_n C.x C.b md_O_init_25 rfl (lv_at hl 0 rfl) ?_
  refine lv_iload C.x C.b md_O_init_26 (lv_at hl 5 rfl) ?_
  refine mf_pf C (ci := 1) (N := 6) rfl mi_O mp_O mn_O 4 (by decide) mt_251 rfl (v := .int pr) rfl rfl o3 (Nat.le_of_ble_eq_true rfl) (fs' := [.int i, .int ow, .int sd, .int (mf_bI b), .int pr, .int 0]) rfl hS3 hAo md_O_init_28 (fun H4 locs o4 z4 k4 hS4 => ?_)
  refine lv_aload_n C.x C.b md_O_init_31 rfl (lv_at hl 0 rfl) ?_
  refine lv_iload C.x C.b md_O_init_32 (lv_at hl 6 rfl) ?_
  refine mf_pf C (ci := 1) (N := 6) rfl mi_O mp_O mn_O 5 (by decide) mt_253 rfl (v := .int lf) rfl rfl o4 (Nat.le_of_ble_eq_true rfl) (fs' := [.int i, .int ow, .int sd, .int (mf_bI b), .int pr, .int lf]) rfl hS4 hAo md_O_init_34 (fun H5 locs o5 z5 kk5 hS5 => ?_)
  exact mf_wv C.x C.b hr hlk md_O_init_37 o5 ⟨by omega, fun z _ hz => ((((((kk5 z hz).trans (k4 z hz)).trans (k3 z hz)).trans (k2 z hz)).trans (k1 z hz)).trans (k0 z hz))⟩ hH hS5.2.2 (Nat.le_refl _) (Nat.le_refl _)
set_option maxRecDepth 100000 in
set_option maxHeartbeats 4000000 in
theorem k_F_init (l : Launch) (D : va_G) (k5 : mf_k5) (t0 : Nat × Nat) (A : Nat → Prop) (H : Heap) (x : Nat) (hx : va_at D mf_cl (x, .inr (3, [.null, .null, .int 0, .int 0])) H) (hAx : A x) : mf_cWR l my_F_init mc_F_init 1 none { frames := 4, cells := 35, slots := 168, locals := 72 } D (mf_tys k5) t0 A H [.ref x] none (fun H1 => ∃ al tp, mf_SS D k5 t0 A H1 x al tp ([], 0, 0, mf_g0)) (mf_fr A H [D.1 0, D.1 2, D.1 3]) 35 168 := by
  refine mf_of (by decide) (Nat.le_of_ble_eq_true rfl) ?_
  intro p e s m below meth c ls C hH hr hlk hnm hmt hl hS
  have hl : lv_has ls 1 [(0, .ref x)] := hl
  refine lv_aload_n C.x C.b md_F_init_0 rfl (lv_at hl 0 rfl) ?_
  refine W.objInit C.x C.b C.o (C.t mt_26) (C.t mt_27) (C.t mt_28) rfl (hl.1.trans C.2.2.2.2.2.symm) rfl md_F_init_1 (Nat.le_of_ble_eq_true rfl) (Nat.le_of_ble_eq_true rfl) ?_
  refine W.eq (g2 := F0 m 4 ls []) rfl ?_
  have hin := (name_of_methodNamed hnm hmt).1
  refine lv_aload_n C.x C.b md_F_init_4 rfl (lv_at hl 0 rfl) ?_
  refine mf_newo C (ci := 0) (N := 3) (fs := [.null, .int 0, .int 0]) rfl mi_A mp_A mt_29 mt_30 mt_4 (by decide) hS (by decide) (by decide) md_F_init_5 (fun al H1 hal hne hAa hE1 hS => ?_)
  refine lv_dup C.x C.b md_F_init_8 rfl ?_
  refine mf_cwn (va_runI (As := []) (rest := [.ref al, .ref x]) C.f (k_A_init l D k5 t0 A H1 al hal hAa) (mf_cI C mt_33 mt_31 mt_4 mt_32 rfl mh_A_init ⟨by decide, by decide⟩) (mf_preS C.ev hS) rfl rfl hl.1 rfl (lv_room (Nat.le_of_ble_eq_true rfl)) md_F_init_9 ⟨by first | omega | exact Nat.le_of_ble_eq_true rfl, by first | omega | exact Nat.le_of_ble_eq_true rfl⟩) hS (fun _ _ h => h.1) (fun H locs hB hz hk hS => ?_)
  have hE2 : mf_Eq A [D.1 0] H1 H := ⟨hz, hk⟩
  have hx2 := hE2.ko (hE1.ko hx (by simp)) (by simp [mf_nd C.nd (i := 3) (j := 0) rfl rfl (by decide)])
  refine mf_pfF C (ci := 3) (N := 4) rfl mi_F mp_F mn_F 0 (by decide) mt_84 rfl hin rfl (v := .ref al) rfl rfl hx2 (Nat.le_of_ble_eq_true rfl) (fs' := [.ref al, .null, .int 0, .int 0]) rfl hS hAx md_F_init_12 (fun H3 locs hx3 hz3 ho3 hS => ?_)
  have hE3 : mf_Eq A [D.1 3] H H3 := mf_Eq.one hz3 ho3 hAx (mf_co_o hx2)
  have hB3 := hB.eq hE3 (by simp [mf_nd C.nd (i := 0) (j := 3) rfl rfl (by decide)]) (by simp [mf_nd C.nd (i := 5) (j := 3) rfl rfl (by decide)])
  refine lv_aload_n C.x C.b md_F_init_15 rfl (lv_at hl 0 rfl) ?_
  refine mf_newo C (ci := 2) (N := 5) (fs := [.null, .int 0, .int 0, .int 0, .long 0]) rfl mi_T mp_T mt_55 mt_56 mt_5 (by decide) hS (by decide) (by decide) md_F_init_16 (fun tp H4 htp hne4 hAt hE4 hS => ?_)
  refine lv_dup C.x C.b md_F_init_19 rfl ?_
  refine mf_cwn (va_runIN (As := []) (rest := [.ref tp, .ref x]) C.f (k_T_init l D k5 t0 A H4 tp htp hAt) ⟨mf_cN C mt_59 (C.ev.2.1.2.1 ("MatchFloor", 18, my_T_init) (List.mem_of_getElem? (i := 0) rfl)) mt_5 mh_T_init ⟨by decide, by decide⟩, rfl, C.t mt_58⟩ (mf_preS C.ev hS) rfl rfl hl.1 rfl (lv_room (Nat.le_of_ble_eq_true rfl)) md_F_init_20 ⟨by first | omega | exact Nat.le_of_ble_eq_true rfl, by first | omega | exact Nat.le_of_ble_eq_true rfl⟩) hS (fun _ _ h => h.1) (fun H locs hB5 hz5 hk5 hS => ?_)
  have hE5 : mf_Eq A [D.1 2] H4 H := ⟨hz5, hk5⟩
  have hx5 := hE5.ko (hE4.ko hx3 (by simp)) (by simp [mf_nd C.nd (i := 3) (j := 2) rfl rfl (by decide)])
  have hB55 := (hB3.eq hE4 (by simp) (by simp)).eq hE5 (by simp [mf_nd C.nd (i := 0) (j := 2) rfl rfl (by decide)]) (by simp [mf_nd C.nd (i := 5) (j := 2) rfl rfl (by decide)])
  refine mf_pfF C (ci := 3) (N := 4) rfl mi_F mp_F mn_F 1 (by decide) mt_85 rfl hin rfl (v := .ref tp) rfl rfl hx5 (Nat.le_of_ble_eq_true rfl) (fs' := [.ref al, .ref tp, .int 0, .int 0]) rfl hS hAx md_F_init_23 (fun H6 locs hx6 hz6 ho6 hS => ?_)
  have hE6 : mf_Eq A [D.1 3] H H6 := mf_Eq.one hz6 ho6 hAx (mf_co_o hx5)
  have hB6 := hB55.eq hE6 (by simp [mf_nd C.nd (i := 0) (j := 3) rfl rfl (by decide)]) (by simp [mf_nd C.nd (i := 5) (j := 3) rfl rfl (by decide)])
  have hT6 := hB5.cl C.nd hE6 (by simp)
  refine mf_wv C.x C.b hr hlk md_F_init_26 ⟨al, tp, [], rfl, ⟨hx6, hAx, hB6, (fun q h => by cases h), List.nodup_nil⟩, hT6⟩ ?_ hH hS.2.2 (by decide) (by decide)
  exact hE1.tr (L := [D.1 0, D.1 2, D.1 3]) (hE2.tr (L := [D.1 0, D.1 2, D.1 3]) (hE3.tr (L := [D.1 0, D.1 2, D.1 3]) (hE4.tr (L := [D.1 0, D.1 2, D.1 3]) (hE5.tr (L := [D.1 0, D.1 2, D.1 3]) hE6 (by simp) (by simp)) (by simp) (by simp)) (by simp) (by simp)) (by simp) (by simp)) (by simp) (by simp)
