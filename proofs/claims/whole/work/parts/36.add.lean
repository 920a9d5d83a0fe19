/-! ArrayList: adding -/
section MFA
variable {p : Program} {l : Launch} {e : Env} {R : Room} {s : State} {m : MethodId} {args : Array Value} {below : List Frame} {meth : Method} {c : Code} {H : Heap} {locs : List Loc} {cells slots : Nat} {Q : State → Prop}
variable {cc : ByteArray} {nL pc : Nat} {ls : Array Slot} {rest : List Value} {D : va_G} {t0 : Nat × Nat} {A : Nat → Prop} {a : Nat} {tys : List (ClassId × FieldType)} {own : String}
/-- aastore of an object, the other cells as they were -/
theorem mf_aast (C : mf_Cx p s m args c own cc nL D tys t0 A) {cA : ClassId} {E1 C1 : String} {t n i v : Nat} {f : Nat → Option Nat} (ht : tys[t]? = some (cA, .object E1)) (hat : va_at D mf_cl (a, .inl (cA, n, .inr (.inr (.inr (.inr f))))) H) (hi : i < n) (hn : n < 2 ^ 31) (hr : ∃ cellV : Cell, H[v]? = some cellV ∧ cellV.vm.isStatics = false ∧ s.vm.findClass C1 = some cellV.cls) (hasg : ∀ comp c0 : ClassId, s.vm.findClass E1 = some comp → s.vm.findClass C1 = some c0 → s.vm.assignable c0 comp = true) (hS : va_S A s.heap H locs) (ha : A a) (hdg : decode cc pc = .ok (.aastore, 1))
    (kk : ∀ (H1 : Heap) (locs1 : List Loc), va_at D mf_cl (a, .inl (cA, n, .inr (.inr (.inr (.inr (va_up f i (some v))))))) H1 → mf_Eq A [cA] H H1 → va_S A s.heap H1 locs1 → W p l e R s m args below meth c H1 locs1 cells slots Q (F0 m (pc + 1) ls rest)) : W p l e R s m args below meth c H locs cells slots Q (F0 m pc ls (.ref v :: .int (nI i) :: .ref a :: rest)) := by
  obtain ⟨cellV, g1, g3, g2⟩ := hr
  obtain ⟨kA, comp, k1, k2, k3, -⟩ := (C.k.2 t _ ht).2
  obtain ⟨kE, hkE, -⟩ := Vm.findClass_spec k3
  obtain ⟨kC, hkC, -⟩ := Vm.findClass_spec g2
  have hin := vp_in_nI hi hn
  refine W.aast C.x C.b hat (fun q h => by cases h) (fun h => by cases h) k1 k2 rfl hkE ⟨fun q => hin (Or.inl q), by show _ < (arrV _ _ _).slots.size; rw [arrV_size, nI_clamp (by omega)]; exact hi⟩ g1 (fun q h => by rw [h] at g3; cases g3) hkC (hasg _ _ k3 g2) rfl rfl hdg fun H1 e z oq => ?_
  refine kk H1 _ ?_ (mf_Eq.one z oq ha (mf_co_a hat)) (hS.put z oq ha)
  show H1[a]? = some (vp_cell _ _)
  rw [e]
  rw [vp_cell_q, vp_cell_q, arrV_store]
  congr 2
  funext q
  rw [nI_clamp (by omega)]
  by_cases hq : q = i
  · subst hq
    simp [updV, va_up, va_rf]
  · simp [updV, va_up, hq]
/-- putfield of an inherited field -/
theorem mf_pfS (C : mf_Cx p s m args c own cc nL D tys t0 A) {ci N : Nat} {R0 ref : String} {T : u_T} (hc : mf_cl[ci]? = some (R0, T, N)) (hin : ∀ w ∈ u_ws R0 T N, w ∈ mf_tb) {ty0 : Nat → FieldType} (hty : ∀ k, k < N → parseFieldDescriptor (T k).2.2.1 = some (ty0 k)) (hnm : ∀ a, a < N → ∀ b, b < N → a ≠ b → (T a).2.1 ≠ (T b).2.1) (k : Nat) (hk : k < N) {index : Nat} (hl : Cond.fieldLink own index ref (T k).2.1 (T k).2.2.1 ∈ mf_tb) (hsm : Cond.sameField ref (T k).1 (T k).2.1 (T k).2.2.1 ∈ mf_tb) (hfin : (T k).2.2.2 = false) {v : Value} (hn : narrow (ty0 k) v = v) (hfit : fits (ty0 k) v = true) {fs fs' : List Value} (hat : va_at D mf_cl (a, .inr (ci, fs)) H) (hlen : k < fs.length) (hfs : fs.set k v = fs') (hS : va_S A s.heap H locs) (ha : A a) (hdg : decode cc pc = .ok (.putfield index, 3))
    (kk : ∀ (H1 : Heap) (locs1 : List Loc), va_at D mf_cl (a, .inr (ci, fs')) H1 → H1.size = H.size → (∀ q, q ≠ a → H1[q]? = H[q]?) → va_S A s.heap H1 locs1 → W p l e R s m args below meth c H1 locs1 cells slots Q (F0 m (pc + 3) ls rest)) : W p l e R s m args below meth c H locs cells slots Q (F0 m pc ls (v :: .ref a :: rest)) := by
  subst hfs
  have hap := va_apart (own := own) C.2.2.1 hin ty0 hty hnm C.k hc
  obtain ⟨r, h1, cell, q1, q2, q3, q4⟩ := hat
  obtain rfl : r = (R0, T, N) := Option.some.inj (h1.symm.trans hc)
  obtain ⟨hSl, hfc, kC, hkC, hkind⟩ := C.k.1 ci _ hc
  obtain ⟨cf, kf, fi, f, hi, hsl⟩ := hSl k hk
  have hlay := C.2.2.1 _ (hin _ (u_in_lay hk))
  unfold u_lay at hlay
  rw [if_neg (by rw [hfin]; decide)] at hlay
  have hst := (u_facts hfc hkC (u_lays C.2.2.1 hin hk) hi).1
  have h6 := u_store hfc hkC hkind hlay hi (hty k hk) hn hfit
  refine W.putK C.x C.b (f := f) ⟨C.o, C.t hl, ⟨_, _, _, u_same (C.t hsm) _ hi⟩, hst⟩ (by rw [q2]; exact h6) q1 q3 (by rw [hsl]; exact k2_hasslot (q4 k hk)) rfl rfl hdg fun H' e1 e2 e3 => ?_
  rw [hsl] at e1 ⊢
  exact kk H' _ ⟨_, hc, t_OB.to (V := updV (vp_V fs) k v) ⟨_, e1, q2, q3, t_set q4 hap hk v⟩ (fun j _ => vp_updV_set hlen v j)⟩ e2 e3 (hS.put e2 e3 ha)
end MFA
set_option maxRecDepth 100000 in
set_option maxHeartbeats 4000000 in
theorem k_A_add2 (l : Launch) (D : va_G) (k5 : mf_k5) (t0 : Nat × Nat) (A : Nat → Prop) (H : Heap) (al b ed n : Nat) (mc : Int32) (f : Nat → Option Nat) (fsb : List Value) (hal : va_at D mf_cl (al, .inr (0, [.ref ed, .int (nI n), .int mc])) H) (hAa : A al) (hb : va_at D mf_cl (b, .inr (1, fsb)) H) (hn : n ≤ 40) (hor : (n = 0 ∧ ed = t0.1) ∨ (∃ cap, va_at D mf_cl (ed, .inl (k5.1, cap, .inr (.inr (.inr (.inr f))))) H ∧ A ed ∧ n ≤ cap ∧ 10 ≤ cap ∧ cap ≤ 60 ∧ ∀ j, j < n → ∃ y fs, f j = some y ∧ va_at D mf_cl (y, .inr (1, fs)) H)) : mf_cWR l my_A_add2 mc_A_add2 4 none { frames := 5, cells := 1, slots := 60, locals := 147 } D (mf_tys k5) t0 A H [.ref al, .ref b, .ref ed, .int (nI n)] none (fun H1 => ∃ ed1 cap1 f1, va_at D mf_cl (al, .inr (0, [.ref ed1, .int (nI (n + 1)), .int mc])) H1 ∧ va_at D mf_cl (ed1, .inl (k5.1, cap1, .inr (.inr (.inr (.inr f1))))) H1 ∧ A ed1 ∧ n + 1 ≤ cap1 ∧ 10 ≤ cap1 ∧ cap1 ≤ 60 ∧ f1 n = some b ∧ ∀ j, j < n → f1 j = f j) (mf_fr A H [D.1 0, k5.1]) 1 60 := by
  refine mf_of (by decide) (Nat.le_of_ble_eq_true rfl) ?_
  intro p e s m below meth c ls C hH hr hlk hnm hmt hl hS
  have hl : lv_has ls 4 [(0, .ref al), (1, .ref b), (2, .ref ed), (3, .int (nI n))] := hl
  have fin : ∀ (ls : Array Slot) (H2 : Heap) (locs : List Loc) (ed2 cap2 : Nat) (f2 : Nat → Option Nat), lv_has ls 4 [(2, .ref ed2), (0, .ref al), (1, .ref b), (3, .int (nI n))] → va_S A s.heap H2 locs → mf_Eq A [D.1 0] H H2 → va_at D mf_cl (al, .inr (0, [.ref ed2, .int (nI n), .int mc])) H2 → va_at D mf_cl (ed2, .inl (k5.1, cap2, .inr (.inr (.inr (.inr f2))))) H2 → A ed2 → n < cap2 → 10 ≤ cap2 → cap2 ≤ 60 → (∀ j, j < n → f2 j = f j) → W p l e ({ frames := 5, cells := 1, slots := 60, locals := 147 } : Room) s m (([.ref al, .ref b, .ref ed, .int (nI n)] : List Value).toArray) below meth c H2 locs 1 60 (MQ below (mf_Kw none (fun H1 => ∃ ed1 cap1 f1, va_at D mf_cl (al, .inr (0, [.ref ed1, .int (nI (n + 1)), .int mc])) H1 ∧ va_at D mf_cl (ed1, .inl (k5.1, cap1, .inr (.inr (.inr (.inr f1))))) H1 ∧ A ed1 ∧ n + 1 ≤ cap1 ∧ 10 ≤ cap1 ∧ cap1 ≤ 60 ∧ f1 n = some b ∧ ∀ j, j < n → f1 j = f j) (mf_fr A H [D.1 0, k5.1])) (([.ref al, .ref b, .ref ed, .int (nI n)] : List Value).toArray) s 1 60 A) (F0 m 11 ls []) := by
    intro ls H2 locs ed2 cap2 f2 hl hS hE hal2 hed2 hA2 c1 c2 c3 hf2
    have hb2 := hE.ko hb (by simp [mf_nd C.nd (i := 1) (j := 0) rfl rfl (by decide)])
    refine lv_aload_n C.x C.b md_A_add2_11 rfl (lv_at hl 0 rfl) ?_
    refine lv_iload_n C.x C.b md_A_add2_12 rfl (lv_at hl 3 rfl) ?_
    refine lv_aload_n C.x C.b md_A_add2_13 rfl (lv_at hl 2 rfl) ?_
    refine mf_aast C (t := 0) (E1 := "java/lang/Object") (C1 := "MatchFloor$Order") rfl hed2 c1 (by omega) (mf_rv C (ci := 1) (N := 6) rfl hb2) (vb_asgC C.ev.2.1.2.2.1) hS hA2 md_A_add2_14 (fun H3 locs hed3 hE3 hS => ?_)
    have hal3 := hE3.ko hal2 (by simp [mf_nd C.nd (i := 0) (j := 5) rfl rfl (by decide)])
    refine lv_aload_n C.x C.b md_A_add2_15 rfl (lv_at hl 1 rfl) ?_
    refine lv_iload_n C.x C.b md_A_add2_16 rfl (lv_at hl 3 rfl) ?_
    refine lv_iconst (v := 1) C.x C.b md_A_add2_17 (by decide) ?_
    refine lv_iadd C.x C.b md_A_add2_18 ?_
    rw [nI_1]
    refine mf_pf C (ci := 0) (N := 3) rfl mi_A mp_A mn_A 1 (by decide) mt_44 rfl (v := .int (nI (n + 1))) rfl rfl hal3 (Nat.le_of_ble_eq_true rfl) (fs' := [.ref ed2, .int (nI (n + 1)), .int mc]) rfl hS hAa md_A_add2_19 (fun H4 locs hal4 hz4 ho4 hS => ?_)
    have hE4 : mf_Eq A [D.1 0] H3 H4 := mf_Eq.one hz4 ho4 hAa (mf_co_o hal3)
    refine mf_wv C.x C.b hr hlk md_A_add2_22 ⟨ed2, cap2, va_up f2 n (some b), hal4, hE4.ka hed3 (by simp [mf_nd C.nd (i := 5) (j := 0) rfl rfl (by decide)]), hA2, by omega, c2, c3, va_up_self _ _ _, fun j hj => ?_⟩ ((hE.tr (L := [D.1 0, k5.1]) (hE3.tr (L := [D.1 0, k5.1]) hE4 (by simp) (by simp)) (by simp) (by simp))) hH hS.2.2 (Nat.le_refl _) (Nat.le_refl _)
    rw [va_up_ne _ _ (by omega)]; exact hf2 j hj
  rcases hor with ⟨rfl, rfl⟩ | ⟨cap, hed, hAe, c1, c2, c3, hel⟩
  · skip
    refine lv_iload_n C.x C.b md_A_add2_0 rfl (lv_at hl 3 rfl) ?_
    refine lv_aload_n C.x C.b md_A_add2_1 rfl (lv_at hl 2 rfl) ?_
    refine va_tlen C.x C.b C.ev.2.2.1.2.2.2 hS (v := 0) rfl md_A_add2_2 ?_
    refine lv_icmp_ne (tgt := 11) C.x C.b md_A_add2_3 (by decide) (fun h1 => ?_) (fun h1 => ?_)
    · exact absurd rfl h1
    · skip
      refine lv_aload_n C.x C.b md_A_add2_6 rfl (lv_at hl 0 rfl) ?_
      refine mf_cwr (va_runV (As := []) (rest := []) C.f (k_A_grow l D k5 t0 A H al t0.1 0 mc f hal hAa (Or.inl ⟨rfl, rfl⟩)) (mf_cV C mt_341 mt_338 mt_4 mt_340 ms_13 mh_A_grow ⟨by decide, by decide⟩) (mf_preV C.ev hS (mf_rv C (ci := 0) (N := 3) rfl hal)) rfl rfl hl.1 rfl (lv_room (Nat.le_of_ble_eq_true rfl)) md_A_add2_7 ⟨by first | omega | exact Nat.le_of_ble_eq_true rfl, by first | omega | exact Nat.le_of_ble_eq_true rfl⟩) hS (fun _ _ h => h.1) (fun q H locs hB hz hk hS => ?_)
      refine lv_astore_n (lv' := [(2, .ref q), (0, .ref al), (1, .ref b), (3, .int (nI 0))]) C.x C.b md_A_add2_10 rfl hl (by decide) rfl (fun ls hl => ?_)
      obtain ⟨cap2, f2, hal2, hed2, hA2, hn2, c1, c2, c3, hf2⟩ := hB
      exact fin _ _ _ q cap2 f2 (lv_sub hl [0, 1, 2, 3] rfl) hS ⟨hz, hk⟩ hal2 hed2 hA2 c1 c2 c3 hf2
  · skip
    refine lv_iload_n C.x C.b md_A_add2_0 rfl (lv_at hl 3 rfl) ?_
    refine lv_aload_n C.x C.b md_A_add2_1 rfl (lv_at hl 2 rfl) ?_
    refine va_alen C.x C.b C.k (mf_one hed) 0 0 rfl rfl (v := nI cap) rfl md_A_add2_2 ?_
    refine lv_icmp_ne (tgt := 11) C.x C.b md_A_add2_3 (by decide) (fun h2 => ?_) (fun h2 => ?_)
    · have hne : n ≠ cap := fun z => h2 (by rw [z])
      refine W.widen (k := 1) (n := 60) (by omega) (by omega) ?_
      exact fin _ _ _ ed cap f (lv_sub hl [2, 0, 1, 3] rfl) hS mf_Eq.rf hal hed hAe (by omega) c2 c3 (fun _ _ => rfl)
    · have heq : n = cap := (nI_eq (by omega) (by omega)).mp h2
      subst heq
      refine lv_aload_n C.x C.b md_A_add2_6 rfl (lv_at hl 0 rfl) ?_
      refine mf_cwr (va_runV (As := []) (rest := []) C.f (k_A_grow l D k5 t0 A H al ed n mc f hal hAa (Or.inr ⟨hed, hAe, c2, hn, hel⟩)) (mf_cV C mt_341 mt_338 mt_4 mt_340 ms_13 mh_A_grow ⟨by decide, by decide⟩) (mf_preV C.ev hS (mf_rv C (ci := 0) (N := 3) rfl hal)) rfl rfl hl.1 rfl (lv_room (Nat.le_of_ble_eq_true rfl)) md_A_add2_7 ⟨by first | omega | exact Nat.le_of_ble_eq_true rfl, by first | omega | exact Nat.le_of_ble_eq_true rfl⟩) hS (fun _ _ h => h.1) (fun q H locs hB hz hk hS => ?_)
      refine lv_astore_n (lv' := [(2, .ref q), (0, .ref al), (1, .ref b), (3, .int (nI n))]) C.x C.b md_A_add2_10 rfl hl (by decide) rfl (fun ls hl => ?_)
      obtain ⟨cap2, f2, hal2, hed2, hA2, hn2, c1, c2, c3, hf2⟩ := hB
      exact fin _ _ _ q cap2 f2 (lv_sub hl [0, 1, 2, 3] rfl) hS ⟨hz, hk⟩ hal2 hed2 hA2 c1 c2 c3 hf2
set_option maxRecDepth 100000 in
set_option maxHeartbeats 4000000 in
theorem k_A_add (l : Launch) (D : va_G) (k5 : mf_k5) (t0 : Nat × Nat) (A : Nat → Prop) (H : Heap) (al b : Nat) (as : List Nat) (fsb : List Value) (hA : mf_AL D k5 t0 A H al as) (hlt : as.length + 1 ≤ 40) (hb : va_at D mf_cl (b, .inr (1, fsb)) H) (he : ∀ b ∈ as, ∃ fs, va_at D mf_cl (b, .inr (1, fs)) H) : mf_cWR l my_A_add mc_A_add 2 (some .boolean) { frames := 6, cells := 1, slots := 60, locals := 170 } D (mf_tys k5) t0 A H [.ref al, .ref b] (some (.int 1)) (fun H1 => mf_AL D k5 t0 A H1 al (as ++ [b])) (mf_fr A H [D.1 0, k5.1]) 1 60 := by
  obtain ⟨ed, mc, hal, hAa, hle, hor⟩ := hA
  refine mf_of (by decide) (Nat.le_of_ble_eq_true rfl) ?_
  intro p e s m below meth c ls C hH hr hlk hnm hmt hl hS
  have hl : lv_has ls 2 [(0, .ref al), (1, .ref b)] := hl
  refine lv_aload_n C.x C.b md_A_add_0 rfl (lv_at hl 0 rfl) ?_
  refine lv_dup C.x C.b md_A_add_1 rfl ?_
  refine mf_gfS C (ci := 0) (N := 3) (ref := "java/util/ArrayList") rfl mi_A 2 (by decide) mt_46 mt_47 hal (v := .int mc) rfl md_A_add_2 ?_
  refine lv_iconst (v := 1) C.x C.b md_A_add_5 (by decide) ?_
  refine lv_iadd C.x C.b md_A_add_6 ?_
  refine mf_pfS C (ci := 0) (N := 3) (ref := "java/util/ArrayList") rfl mi_A mp_A mn_A 2 (by decide) mt_46 mt_47 rfl (v := .int (mc + 1)) rfl rfl hal (Nat.le_of_ble_eq_true rfl) (fs' := [.ref ed, .int (nI as.length), .int (mc + 1)]) rfl hS hAa md_A_add_7 (fun H2 locs hal2 hz2 ho2 hS => ?_)
  have hE2 : mf_Eq A [D.1 0] H H2 := mf_Eq.one hz2 ho2 hAa (mf_co_o hal)
  have hb2 := hE2.ko hb (by simp [mf_nd C.nd (i := 1) (j := 0) rfl rfl (by decide)])
  obtain ⟨f, hor2⟩ : ∃ f : Nat → Option Nat, ((as.length = 0 ∧ ed = t0.1) ∨ (∃ cap, va_at D mf_cl (ed, .inl (k5.1, cap, .inr (.inr (.inr (.inr f))))) H2 ∧ A ed ∧ as.length ≤ cap ∧ 10 ≤ cap ∧ cap ≤ 60 ∧ ∀ j, j < as.length → ∃ y fs, f j = some y ∧ va_at D mf_cl (y, .inr (1, fs)) H2)) ∧ ∀ j y, as[j]? = some y → f j = some y := by
    rcases hor with ⟨rfl, h2⟩ | ⟨cap, f, hed, hA2, h1, h2, h3, hf⟩
    · exact ⟨fun _ => none, Or.inl ⟨rfl, h2⟩, fun j y h => by simp at h⟩
    · refine ⟨f, Or.inr ⟨cap, hE2.ka hed (by simp [mf_nd C.nd (i := 5) (j := 0) rfl rfl (by decide)]), hA2, h1, h2, h3, fun j hj => ?_⟩, hf⟩
      obtain ⟨y, hy⟩ := mf_at_lt (l := as) (k := j) hj
      obtain ⟨fs, h9⟩ := he y (List.mem_of_getElem? hy)
      exact ⟨y, fs, hf j y hy, hE2.ko h9 (by simp [mf_nd C.nd (i := 1) (j := 0) rfl rfl (by decide)])⟩
  refine lv_aload_n C.x C.b md_A_add_10 rfl (lv_at hl 0 rfl) ?_
  refine lv_aload_n C.x C.b md_A_add_11 rfl (lv_at hl 1 rfl) ?_
  refine lv_aload_n C.x C.b md_A_add_12 rfl (lv_at hl 0 rfl) ?_
  refine mf_gf C (ci := 0) (N := 3) rfl mi_A 0 (by decide) mt_43 hal2 (v := .ref ed) rfl md_A_add_13 ?_
  refine lv_aload_n C.x C.b md_A_add_16 rfl (lv_at hl 0 rfl) ?_
  refine mf_gf C (ci := 0) (N := 3) rfl mi_A 1 (by decide) mt_44 hal2 (v := .int (nI as.length)) rfl md_A_add_17 ?_
  refine mf_cwn (va_runV (As := [.ref b, .ref ed, .int (nI as.length)]) (rest := []) C.f (k_A_add2 l D k5 t0 A H2 al b ed as.length (mc + 1) f fsb hal2 hAa hb2 (by omega) hor2.1) (mf_cV C mt_337 mt_334 mt_4 mt_336 ms_12 mh_A_add2 ⟨by decide, by decide⟩) (mf_preV C.ev hS (mf_rv C (ci := 0) (N := 3) rfl hal2)) rfl rfl hl.1 rfl (lv_room (Nat.le_of_ble_eq_true rfl)) md_A_add_20 ⟨by first | omega | exact Nat.le_of_ble_eq_true rfl, by first | omega | exact Nat.le_of_ble_eq_true rfl⟩) hS (fun _ _ h => h.1) (fun H locs hB hz hk hS => ?_)
  refine lv_iconst (v := 1) C.x C.b md_A_add_23 (by decide) ?_
  obtain ⟨ed1, cap1, f1, hal3, hed3, hA3, c1, c2, c3, hn1, hf1⟩ := hB
  refine mf_wz C.x C.b hr hlk rfl md_A_add_24 ⟨ed1, mc + 1, ?_, hAa, ?_, Or.inr ⟨cap1, f1, hed3, hA3, ?_, c2, c3, fun j y hj => ?_⟩⟩ (hE2.tr (L := [D.1 0, k5.1]) ⟨hz, hk⟩ (by simp) (by simp)) hH hS.2.2 (Nat.le_refl _) (Nat.le_refl _)
  · rw [List.length_append]; exact hal3
  · rw [List.length_append]; exact hlt
  · rw [List.length_append]; exact c1
  · by_cases hj2 : j < as.length
    · rw [hf1 j hj2]; rw [List.getElem?_append_left hj2] at hj; exact hor2.2 j y hj
    · have hj3 := (List.getElem?_eq_some_iff.mp hj).1
      rw [List.length_append] at hj3
      have hj4 : j = as.length := by have : [b].length = 1 := rfl; omega
      subst hj4
      rw [hn1]
      rw [List.getElem?_append_right (Nat.le_refl _), Nat.sub_self] at hj
      exact hj
