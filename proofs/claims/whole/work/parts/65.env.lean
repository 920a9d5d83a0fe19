/-! the law's entry: the environment out of the words -/
theorem mf_fcn {vm : Vm} {a b : String} {c : ClassId} (h1 : vm.findClass a = some c) (h2 : vm.findClass b = some c) : a = b := by
  unfold Vm.findClass at h1 h2
  obtain ⟨hl, hp, -⟩ := Array.findIdx?_eq_some_iff_getElem.mp h1
  obtain ⟨hl2, hp2, -⟩ := Array.findIdx?_eq_some_iff_getElem.mp h2
  simp only [Bool.and_eq_true, beq_iff_eq] at hp hp2
  exact hp.1.1.1.symm.trans hp2.1.1.1
theorem mf_ndf {vm : Vm} : ∀ (l : List (String × ClassId)), (∀ q ∈ l, vm.findClass q.1 = some q.2) → (l.map (fun q => q.1)).Nodup → (l.map (fun q => q.2)).Nodup := by
  intro l
  induction l with
  | nil => intro _ _; exact List.nodup_nil
  | cons q l ih =>
    intro h hn
    rw [List.map_cons, List.nodup_cons] at hn ⊢
    refine ⟨fun hm => ?_, ih (fun z hz => h z (List.mem_cons_of_mem _ hz)) hn.2⟩
    obtain ⟨z, hz, e⟩ := List.mem_map.mp hm
    have h1 := h q List.mem_cons_self
    have h2 := h z (List.mem_cons_of_mem _ hz)
    have e : z.2 = q.2 := e
    rw [e] at h2
    exact hn.1 (List.mem_map.mpr ⟨z, hz, mf_fcn h2 h1⟩)
theorem mf_arrC {s : State} {args : Array Value} {ty : FieldType} (h : (Cond.arrayClass ty).before args s = true) : ∃ cA, ArrOfT s cA ty ∧ s.vm.findClass ("[" ++ ty.toString) = some cA := by
  obtain ⟨c, k, comp, h1, h2, h3⟩ := Cond.arrayClass_spec h
  exact ⟨c, fun n z => ⟨fun k h => (by cases h), k, h2, comp, h3⟩, h1⟩
theorem mf_arrO {s : State} {args : Array Value} {C : String} (h : (Cond.arrayOver (.object C)).before args s = true) : ∃ cA, ArrOfT s cA (.object C) ∧ va_RA s cA (.object C) := by
  obtain ⟨comp, c, k, h1, -, h2, h3, h4⟩ := Cond.arrayOver_spec h
  exact ⟨c, fun n z => ⟨fun k h => (by cases h), k, h2, comp, h3⟩, k, comp, h2, h3, h1, h4⟩
theorem mf_arrA {s : State} {args : Array Value} {t : FieldType} (h : (Cond.arrayOver (.array t)).before args s = true) : ∃ cA, ArrOfT s cA (.array t) ∧ va_RA s cA (.array t) := by
  simp only [Cond.before, Cond.holds, Cond.value, beq_iff_eq, Option.bind_eq_some_iff, Option.map_eq_some_iff] at h
  obtain ⟨comp, -, c, -, k, hk, hb⟩ := h
  cases hkind : k.kind with
  | array component ty =>
    rw [hkind] at hb
    simp only [Bool.and_eq_true, decide_eq_true_eq] at hb
    exact ⟨c, fun n z => ⟨fun k h => (by cases h), k, hk, component, by rw [hkind, hb.1]⟩, hb.2⟩
  | _ => rw [hkind] at hb; simp at hb
theorem mf_strR {s : State} {args : Array Value} {k : Nat} {tx : String} (h1 : (Cond.stringRef "MatchFloor" k tx).before args s = true) (h2 : (Cond.exactly (.string "MatchFloor" k) "java/lang/String").before args s = true) : ∃ a, vk_R "MatchFloor" k tx a s := by
  obtain ⟨a, c, cell, kk, h3, -⟩ := Cond.exactly_spec h2
  exact ⟨a, vk_R.of h1 h3⟩
set_option maxRecDepth 100000 in
set_option maxHeartbeats 4000000 in
theorem mf_start {s : State} {b : Nat} (hts : ∀ w ∈ lw_tbl, w.before #[Value.ref b] s = true) (hgv : (Jvm.Cond.and given_1 narrow_1).before #[Value.ref b] s = true) : ∃ (D : va_G) (k5 : mf_k5) (t0 : Nat × Nat), mf_Env D (mf_tys k5) t0 (fun q => s.heap.size ≤ q) s := by
  have hw : ∀ {i : Nat} {w : Cond}, lw_tbl[i]? = some w → w.before #[Value.ref b] s = true := fun h => hts _ (List.mem_of_getElem? h)
  have hs := flat_of_before _ hgv
  have htb : ∀ w ∈ mf_tb, w.before #[Value.ref b] s = true := fun w h => hts w (List.mem_filter.mp h).1
  have hA : ∀ a : Nat, a < s.heap.size → ¬ (fun q => s.heap.size ≤ q) a := fun a h1 h2 => absurd h1 (Nat.not_lt.mpr h2)
  obtain ⟨c0, i0, K0⟩ := u_known (C := mf_RA) (T := mf_TA) (N := 3) (n := 3) htb mi_A (htb _ mt_30)
  obtain ⟨c1, i1, K1⟩ := u_known (C := mf_RO) (T := mf_TO) (N := 6) (n := 6) htb mi_O (htb _ mt_238)
  obtain ⟨c2, i2, K2⟩ := u_known (C := mf_RT) (T := mf_TT) (N := 5) (n := 5) htb mi_T (htb _ mt_56)
  obtain ⟨c3, i3, K3⟩ := u_known (C := mf_RF) (T := mf_TF) (N := 4) (n := 4) htb mi_F (htb _ mt_22)
  obtain ⟨c4, i4, K4⟩ := u_known (C := mf_RM) (T := mf_TM) (N := 20) (n := 20) htb mi_M (htb _ mt_530)
  obtain ⟨k1, a1, r1⟩ := mf_arrO (C := "java/lang/Object") (hw (i := 417) (by decide +kernel))
  obtain ⟨k2, a2, r2⟩ := mf_arrA (t := .int) (hw (i := 103) (by decide +kernel))
  obtain ⟨k3, a3, r3⟩ := mf_arrC (htb _ mt_83)
  obtain ⟨k4, a4, r4⟩ := mf_arrC (htb _ mt_596)
  obtain ⟨k5, a5, r5⟩ := mf_arrC (htb _ mt_709)
  obtain ⟨mi, hmi⟩ := va_Mi.of (hs (.isRef (.mirror "[Ljava/lang/Object;")) (by decide +kernel))
  obtain ⟨t, ht, hT⟩ := va_Tof (tm := .static "java/util/ArrayList" "DEFAULTCAPACITY_EMPTY_ELEMENTDATA" "[Ljava/lang/Object;") (ty := .object "java/lang/Object") (N := 0) (f := fun _ => .null) (A := (fun q => s.heap.size ≤ q)) (by decide) (hs (.arrayOf (.static "java/util/ArrayList" "DEFAULTCAPACITY_EMPTY_ELEMENTDATA" "[Ljava/lang/Object;") (.object "java/lang/Object")) (by decide +kernel)) (va_eqt (hs (.eq (.length (.static "java/util/ArrayList" "DEFAULTCAPACITY_EMPTY_ELEMENTDATA" "[Ljava/lang/Object;")) (.int 0)) (by decide +kernel))) (fun j hj => absurd hj (Nat.not_lt_zero _)) hA
  have hZ := va_Zof (A := (fun q => s.heap.size ≤ q)) (hw (i := 83) (by decide +kernel)) (htb _ mt_4) ht hA
  have hU := vx_Zqof (C := "java/lang/Throwable") (n := "UNASSIGNED_STACK") (d := "[Ljava/lang/StackTraceElement;") (A := (fun q => s.heap.size ≤ q)) (hw (i := 189) (by decide +kernel)) (htb _ mt_7) (hs (.isRef (.static "java/lang/Throwable" "UNASSIGNED_STACK" "[Ljava/lang/StackTraceElement;")) (by decide +kernel)) hA
  have hV := vx_Zqof (C := "java/lang/Throwable") (n := "SUPPRESSED_SENTINEL") (d := "Ljava/util/List;") (A := (fun q => s.heap.size ≤ q)) (hw (i := 191) (by decide +kernel)) (htb _ mt_7) (hs (.isRef (.static "java/lang/Throwable" "SUPPRESSED_SENTINEL" "Ljava/util/List;")) (by decide +kernel)) hA
  have n1 : ∀ q ∈ mf_nF, va_Nw (.fieldLinkNest "MatchFloor" q.1 q.2.1 q.2.2.1 q.2.2.2 "MatchFloor") s := List.forall_mem_cons.mpr ⟨va_Nw.of rfl (hw (i := 106) (by decide +kernel)), List.forall_mem_cons.mpr ⟨va_Nw.of rfl (hw (i := 108) (by decide +kernel)), List.forall_mem_cons.mpr ⟨va_Nw.of rfl (hw (i := 110) (by decide +kernel)), List.forall_mem_cons.mpr ⟨va_Nw.of rfl (hw (i := 112) (by decide +kernel)), List.forall_mem_cons.mpr ⟨va_Nw.of rfl (hw (i := 285) (by decide +kernel)), List.forall_mem_cons.mpr ⟨va_Nw.of rfl (hw (i := 287) (by decide +kernel)), List.forall_mem_cons.mpr ⟨va_Nw.of rfl (hw (i := 289) (by decide +kernel)), List.forall_mem_cons.mpr ⟨va_Nw.of rfl (hw (i := 291) (by decide +kernel)), List.forall_mem_cons.mpr ⟨va_Nw.of rfl (hw (i := 293) (by decide +kernel)), List.forall_mem_cons.mpr ⟨va_Nw.of rfl (hw (i := 295) (by decide +kernel)), fun _ h => absurd h List.not_mem_nil⟩⟩⟩⟩⟩⟩⟩⟩⟩⟩
  have n2 : ∀ q ∈ mf_nM, va_Nw (.methodLinkNest q.1 q.2.1 q.2.2 "MatchFloor") s := List.forall_mem_cons.mpr ⟨va_Nw.of rfl (hw (i := 98) (by decide +kernel)), List.forall_mem_cons.mpr ⟨va_Nw.of rfl (hw (i := 280) (by decide +kernel)), List.forall_mem_cons.mpr ⟨va_Nw.of rfl (hw (i := 320) (by decide +kernel)), List.forall_mem_cons.mpr ⟨va_Nw.of rfl (hw (i := 324) (by decide +kernel)), List.forall_mem_cons.mpr ⟨va_Nw.of rfl (hw (i := 328) (by decide +kernel)), List.forall_mem_cons.mpr ⟨va_Nw.of rfl (hw (i := 329) (by decide +kernel)), List.forall_mem_cons.mpr ⟨va_Nw.of rfl (hw (i := 364) (by decide +kernel)), List.forall_mem_cons.mpr ⟨va_Nw.of rfl (hw (i := 431) (by decide +kernel)), List.forall_mem_cons.mpr ⟨va_Nw.of rfl (hw (i := 541) (by decide +kernel)), List.forall_mem_cons.mpr ⟨va_Nw.of rfl (hw (i := 554) (by decide +kernel)), fun _ h => absurd h List.not_mem_nil⟩⟩⟩⟩⟩⟩⟩⟩⟩⟩
  have n3 : ∀ q ∈ mf_nS, ∃ a, vk_R "MatchFloor" q.1 q.2 a s := List.forall_mem_cons.mpr ⟨mf_strR (hw (i := 204) (by decide +kernel)) (hs (.exactly (.string "MatchFloor" 29) "java/lang/String") (by decide +kernel)), List.forall_mem_cons.mpr ⟨mf_strR (hw (i := 238) (by decide +kernel)) (hs (.exactly (.string "MatchFloor" 41) "java/lang/String") (by decide +kernel)), List.forall_mem_cons.mpr ⟨mf_strR (hw (i := 271) (by decide +kernel)) (hs (.exactly (.string "MatchFloor" 48) "java/lang/String") (by decide +kernel)), List.forall_mem_cons.mpr ⟨mf_strR (hw (i := 278) (by decide +kernel)) (hs (.exactly (.string "MatchFloor" 55) "java/lang/String") (by decide +kernel)), List.forall_mem_cons.mpr ⟨mf_strR (hw (i := 337) (by decide +kernel)) (hs (.exactly (.string "MatchFloor" 66) "java/lang/String") (by decide +kernel)), List.forall_mem_cons.mpr ⟨mf_strR (hw (i := 452) (by decide +kernel)) (hs (.exactly (.string "MatchFloor" 74) "java/lang/String") (by decide +kernel)), List.forall_mem_cons.mpr ⟨mf_strR (hw (i := 473) (by decide +kernel)) (hs (.exactly (.string "MatchFloor" 95) "java/lang/String") (by decide +kernel)), List.forall_mem_cons.mpr ⟨mf_strR (hw (i := 484) (by decide +kernel)) (hs (.exactly (.string "MatchFloor" 103) "java/lang/String") (by decide +kernel)), List.forall_mem_cons.mpr ⟨mf_strR (hw (i := 501) (by decide +kernel)) (hs (.exactly (.string "MatchFloor" 108) "java/lang/String") (by decide +kernel)), List.forall_mem_cons.mpr ⟨mf_strR (hw (i := 511) (by decide +kernel)) (hs (.exactly (.string "MatchFloor" 112) "java/lang/String") (by decide +kernel)), List.forall_mem_cons.mpr ⟨mf_strR (hw (i := 545) (by decide +kernel)) (hs (.exactly (.string "MatchFloor" 131) "java/lang/String") (by decide +kernel)), List.forall_mem_cons.mpr ⟨mf_strR (hw (i := 553) (by decide +kernel)) (hs (.exactly (.string "MatchFloor" 136) "java/lang/String") (by decide +kernel)), List.forall_mem_cons.mpr ⟨mf_strR (hw (i := 569) (by decide +kernel)) (hs (.exactly (.string "MatchFloor" 160) "java/lang/String") (by decide +kernel)), fun _ h => absurd h List.not_mem_nil⟩⟩⟩⟩⟩⟩⟩⟩⟩⟩⟩⟩⟩
  have n4 : ∀ q ∈ mf_X4, va_Nw (.castable q q) s := List.forall_mem_cons.mpr ⟨va_Nw.of rfl (hw (i := 164) (by decide +kernel)), List.forall_mem_cons.mpr ⟨va_Nw.of rfl (hw (i := 264) (by decide +kernel)), List.forall_mem_cons.mpr ⟨va_Nw.of rfl (hw (i := 445) (by decide +kernel)), List.forall_mem_cons.mpr ⟨va_Nw.of rfl (hw (i := 504) (by decide +kernel)), fun _ h => absurd h List.not_mem_nil⟩⟩⟩⟩
  have n5 : ∀ q ∈ mf_nD, va_Nw (.declares ⟨q, "<init>", "(Ljava/lang/String;)V"⟩) s := List.forall_mem_cons.mpr ⟨va_Nw.of rfl (hw (i := 166) (by decide +kernel)), List.forall_mem_cons.mpr ⟨va_Nw.of rfl (hw (i := 168) (by decide +kernel)), List.forall_mem_cons.mpr ⟨va_Nw.of rfl (hw (i := 170) (by decide +kernel)), fun _ h => absurd h List.not_mem_nil⟩⟩⟩
  have n6 : ∀ q ∈ mf_nN, va_Nc q.1 q.2 s := List.forall_mem_cons.mpr ⟨va_Nc.of (hs (.not (.castable "java/lang/IllegalStateException" "java/lang/IllegalArgumentException")) (by decide +kernel)), List.forall_mem_cons.mpr ⟨va_Nc.of (hs (.not (.castable "java/util/NoSuchElementException" "java/lang/IllegalArgumentException")) (by decide +kernel)), List.forall_mem_cons.mpr ⟨va_Nc.of (hs (.not (.castable "java/lang/IndexOutOfBoundsException" "java/lang/IllegalArgumentException")) (by decide +kernel)), List.forall_mem_cons.mpr ⟨va_Nc.of (hs (.not (.castable "java/lang/IllegalArgumentException" "java/util/NoSuchElementException")) (by decide +kernel)), fun _ h => absurd h List.not_mem_nil⟩⟩⟩⟩
  have n7 : va_Nw (.castable "MatchFloor$Order" "java/lang/Object") s := va_Nw.of rfl (hw (i := 759) (by decide +kernel))
  have n8 : va_AO "java/lang/Object" s := va_AO.of (hw (i := 417) (by decide +kernel))
  have n9 : va_AOA .int s := (show (Cond.arrayOver (.array .int)).before #[Value.ref b] s = true from (hw (i := 103) (by decide +kernel)))
  have n10 : va_Dc s := va_Dc.of (hw (i := 755) (by decide +kernel))
  refine ⟨(fun c => match c with | 0 => c0 | 1 => c1 | 2 => c2 | 3 => c3 | _ => c4, fun c => match c with | 0 => i0 | 1 => i1 | 2 => i2 | 3 => i3 | _ => i4), (k1, k2, k3, k4, k5), (t, mi), ⟨?_, ?_⟩, ⟨n1, n2, n7, n8, n9, n10, ⟨n3, n4, n5, n6⟩, hmi⟩, ⟨hU, hV, hZ, hT⟩, fun q h => h, ?_⟩
  · intro c q hq
    match c, hq with
    | 0, hq => cases hq; exact K0
    | 1, hq => cases hq; exact K1
    | 2, hq => cases hq; exact K2
    | 3, hq => cases hq; exact K3
    | 4, hq => cases hq; exact K4
    | n + 5, hq => simp at hq
  · intro c q hq
    match c, hq with
    | 0, hq => cases hq; exact ⟨a1, r1⟩
    | 1, hq => cases hq; exact ⟨a2, r2⟩
    | 2, hq => cases hq; exact ⟨a3, r3⟩
    | 3, hq => cases hq; exact ⟨a4, r4⟩
    | 4, hq => cases hq; exact ⟨a5, r5⟩
    | n + 5, hq => simp at hq
  · refine mf_ndf [(mf_RA, c0), (mf_RO, c1), (mf_RT, c2), (mf_RF, c3), (mf_RM, c4), ("[" ++ (FieldType.object "java/lang/Object").toString, k1), ("[" ++ (FieldType.array .int).toString, k2), ("[" ++ FieldType.int.toString, k3), ("[" ++ FieldType.boolean.toString, k4), ("[" ++ FieldType.long.toString, k5)] (vm := s.vm) ?_ (show ([mf_RA, mf_RO, mf_RT, mf_RF, mf_RM, "[" ++ (FieldType.object "java/lang/Object").toString, "[" ++ (FieldType.array .int).toString, "[" ++ FieldType.int.toString, "[" ++ FieldType.boolean.toString, "[" ++ FieldType.long.toString] : List String).Nodup by decide +kernel)
    exact List.forall_mem_cons.mpr ⟨K0.2.1, List.forall_mem_cons.mpr ⟨K1.2.1, List.forall_mem_cons.mpr ⟨K2.2.1, List.forall_mem_cons.mpr ⟨K3.2.1, List.forall_mem_cons.mpr ⟨K4.2.1, List.forall_mem_cons.mpr ⟨r1.choose_spec.choose_spec.2.2.2, List.forall_mem_cons.mpr ⟨r2, List.forall_mem_cons.mpr ⟨r3, List.forall_mem_cons.mpr ⟨r4, List.forall_mem_cons.mpr ⟨r5, fun _ h => absurd h List.not_mem_nil⟩⟩⟩⟩⟩⟩⟩⟩⟩⟩
