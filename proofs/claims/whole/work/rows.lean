section
-- ===== PART A: goes FIRST, ahead of the names: the tables' words, and 'selects' of the private methods out of them =====
/-- a private method of a class that the tables say can be made, by its rows of tables_1 -/
def lw_okq (q : MethodName × Nat) : Prop := (q.1.cls ≠ "java/lang/invoke/MethodHandle" ∧ q.1.cls ≠ "java/lang/invoke/VarHandle") ∧ Cond.instantiable q.1.cls q.2 ∈ tables_1 ∧ Cond.privateMethod q.1 ∈ tables_1 ∧ Cond.instanceMethod q.1 ∈ tables_1
theorem lw_p0 : lw_okq (⟨"java/lang/Throwable", "fillInStackTrace", "(I)Ljava/lang/Throwable;"⟩, 6) := ⟨⟨by decide +kernel, by decide +kernel⟩, List.mem_of_getElem? (i := 161) (by decide +kernel), List.mem_of_getElem? (i := 159) (by decide +kernel), List.mem_of_getElem? (i := 160) (by decide +kernel)⟩
theorem lw_p1 : lw_okq (⟨"MatchFloor", "placeOf", "(I)I"⟩, 4) := ⟨⟨by decide +kernel, by decide +kernel⟩, List.mem_of_getElem? (i := 22) (by decide +kernel), List.mem_of_getElem? (i := 199) (by decide +kernel), List.mem_of_getElem? (i := 200) (by decide +kernel)⟩
theorem lw_p2 : lw_okq (⟨"MatchFloor", "isRefused", "(LMatchFloor$Order;I)Z"⟩, 4) := ⟨⟨by decide +kernel, by decide +kernel⟩, List.mem_of_getElem? (i := 22) (by decide +kernel), List.mem_of_getElem? (i := 269) (by decide +kernel), List.mem_of_getElem? (i := 270) (by decide +kernel)⟩
theorem lw_p3 : lw_okq (⟨"MatchFloor", "leftFor", "(LMatchFloor$Order;)I"⟩, 4) := ⟨⟨by decide +kernel, by decide +kernel⟩, List.mem_of_getElem? (i := 22) (by decide +kernel), List.mem_of_getElem? (i := 273) (by decide +kernel), List.mem_of_getElem? (i := 274) (by decide +kernel)⟩
theorem lw_p4 : lw_okq (⟨"MatchFloor$Order", "restsOn", "(I)Z"⟩, 6) := ⟨⟨by decide +kernel, by decide +kernel⟩, List.mem_of_getElem? (i := 238) (by decide +kernel), List.mem_of_getElem? (i := 280) (by decide +kernel), List.mem_of_getElem? (i := 281) (by decide +kernel)⟩
theorem lw_p5 : lw_okq (⟨"MatchFloor$Order", "isFitBy", "(I)Z"⟩, 6) := ⟨⟨by decide +kernel, by decide +kernel⟩, List.mem_of_getElem? (i := 238) (by decide +kernel), List.mem_of_getElem? (i := 284) (by decide +kernel), List.mem_of_getElem? (i := 285) (by decide +kernel)⟩
theorem lw_p6 : lw_okq (⟨"MatchFloor", "placeOfFirst", "(I)I"⟩, 4) := ⟨⟨by decide +kernel, by decide +kernel⟩, List.mem_of_getElem? (i := 22) (by decide +kernel), List.mem_of_getElem? (i := 292) (by decide +kernel), List.mem_of_getElem? (i := 293) (by decide +kernel)⟩
theorem lw_p7 : lw_okq (⟨"MatchFloor", "comeIn", "(LMatchFloor$Order;I)I"⟩, 4) := ⟨⟨by decide +kernel, by decide +kernel⟩, List.mem_of_getElem? (i := 22) (by decide +kernel), List.mem_of_getElem? (i := 298) (by decide +kernel), List.mem_of_getElem? (i := 299) (by decide +kernel)⟩
theorem lw_p8 : lw_okq (⟨"MatchFloor", "match", "(LMatchFloor$Order;I)V"⟩, 4) := ⟨⟨by decide +kernel, by decide +kernel⟩, List.mem_of_getElem? (i := 22) (by decide +kernel), List.mem_of_getElem? (i := 302) (by decide +kernel), List.mem_of_getElem? (i := 303) (by decide +kernel)⟩
theorem lw_p9 : lw_okq (⟨"MatchFloor", "meet", "(LMatchFloor$Order;I)V"⟩, 4) := ⟨⟨by decide +kernel, by decide +kernel⟩, List.mem_of_getElem? (i := 22) (by decide +kernel), List.mem_of_getElem? (i := 306) (by decide +kernel), List.mem_of_getElem? (i := 307) (by decide +kernel)⟩
theorem lw_p10 : lw_okq (⟨"java/util/ArrayList", "fastRemove", "([Ljava/lang/Object;I)V"⟩, 3) := ⟨⟨by decide +kernel, by decide +kernel⟩, List.mem_of_getElem? (i := 30) (by decide +kernel), List.mem_of_getElem? (i := 314) (by decide +kernel), List.mem_of_getElem? (i := 315) (by decide +kernel)⟩
theorem lw_p11 : lw_okq (⟨"MatchFloor$Tape", "write", "(IIII)V"⟩, 5) := ⟨⟨by decide +kernel, by decide +kernel⟩, List.mem_of_getElem? (i := 56) (by decide +kernel), List.mem_of_getElem? (i := 324) (by decide +kernel), List.mem_of_getElem? (i := 325) (by decide +kernel)⟩
theorem lw_p12 : lw_okq (⟨"java/util/ArrayList", "add", "(Ljava/lang/Object;[Ljava/lang/Object;I)V"⟩, 3) := ⟨⟨by decide +kernel, by decide +kernel⟩, List.mem_of_getElem? (i := 30) (by decide +kernel), List.mem_of_getElem? (i := 335) (by decide +kernel), List.mem_of_getElem? (i := 336) (by decide +kernel)⟩
theorem lw_p13 : lw_okq (⟨"java/util/ArrayList", "grow", "()[Ljava/lang/Object;"⟩, 3) := ⟨⟨by decide +kernel, by decide +kernel⟩, List.mem_of_getElem? (i := 30) (by decide +kernel), List.mem_of_getElem? (i := 339) (by decide +kernel), List.mem_of_getElem? (i := 340) (by decide +kernel)⟩
theorem lw_p14 : lw_okq (⟨"java/util/ArrayList", "grow", "(I)[Ljava/lang/Object;"⟩, 3) := ⟨⟨by decide +kernel, by decide +kernel⟩, List.mem_of_getElem? (i := 30) (by decide +kernel), List.mem_of_getElem? (i := 343) (by decide +kernel), List.mem_of_getElem? (i := 344) (by decide +kernel)⟩
theorem lw_p15 : lw_okq (⟨"MatchFloor", "matchDueStops", "()V"⟩, 4) := ⟨⟨by decide +kernel, by decide +kernel⟩, List.mem_of_getElem? (i := 22) (by decide +kernel), List.mem_of_getElem? (i := 383) (by decide +kernel), List.mem_of_getElem? (i := 384) (by decide +kernel)⟩
def lw_privs_1 : List (MethodName × Nat) := [(⟨"java/lang/Throwable", "fillInStackTrace", "(I)Ljava/lang/Throwable;"⟩, 6), (⟨"MatchFloor", "placeOf", "(I)I"⟩, 4), (⟨"MatchFloor", "isRefused", "(LMatchFloor$Order;I)Z"⟩, 4), (⟨"MatchFloor", "leftFor", "(LMatchFloor$Order;)I"⟩, 4), (⟨"MatchFloor$Order", "restsOn", "(I)Z"⟩, 6), (⟨"MatchFloor$Order", "isFitBy", "(I)Z"⟩, 6), (⟨"MatchFloor", "placeOfFirst", "(I)I"⟩, 4), (⟨"MatchFloor", "comeIn", "(LMatchFloor$Order;I)I"⟩, 4), (⟨"MatchFloor", "match", "(LMatchFloor$Order;I)V"⟩, 4), (⟨"MatchFloor", "meet", "(LMatchFloor$Order;I)V"⟩, 4), (⟨"java/util/ArrayList", "fastRemove", "([Ljava/lang/Object;I)V"⟩, 3), (⟨"MatchFloor$Tape", "write", "(IIII)V"⟩, 5), (⟨"java/util/ArrayList", "add", "(Ljava/lang/Object;[Ljava/lang/Object;I)V"⟩, 3), (⟨"java/util/ArrayList", "grow", "()[Ljava/lang/Object;"⟩, 3), (⟨"java/util/ArrayList", "grow", "(I)[Ljava/lang/Object;"⟩, 3), (⟨"MatchFloor", "matchDueStops", "()V"⟩, 4)]
theorem lw_r1 : ∀ q ∈ lw_privs_1, lw_okq q := List.forall_mem_cons.mpr ⟨lw_p0, List.forall_mem_cons.mpr ⟨lw_p1, List.forall_mem_cons.mpr ⟨lw_p2, List.forall_mem_cons.mpr ⟨lw_p3, List.forall_mem_cons.mpr ⟨lw_p4, List.forall_mem_cons.mpr ⟨lw_p5, List.forall_mem_cons.mpr ⟨lw_p6, List.forall_mem_cons.mpr ⟨lw_p7, List.forall_mem_cons.mpr ⟨lw_p8, List.forall_mem_cons.mpr ⟨lw_p9, List.forall_mem_cons.mpr ⟨lw_p10, List.forall_mem_cons.mpr ⟨lw_p11, List.forall_mem_cons.mpr ⟨lw_p12, List.forall_mem_cons.mpr ⟨lw_p13, List.forall_mem_cons.mpr ⟨lw_p14, List.forall_mem_cons.mpr ⟨lw_p15, fun _ h => absurd h List.not_mem_nil⟩⟩⟩⟩⟩⟩⟩⟩⟩⟩⟩⟩⟩⟩⟩⟩
theorem lw_p16 : lw_okq (⟨"MatchFloor", "placeOfDue", "()I"⟩, 4) := ⟨⟨by decide +kernel, by decide +kernel⟩, List.mem_of_getElem? (i := 22) (by decide +kernel), List.mem_of_getElem? (i := 387) (by decide +kernel), List.mem_of_getElem? (i := 388) (by decide +kernel)⟩
theorem lw_p17 : lw_okq (⟨"MatchFloor$Order", "isDueAt", "(I)Z"⟩, 6) := ⟨⟨by decide +kernel, by decide +kernel⟩, List.mem_of_getElem? (i := 238) (by decide +kernel), List.mem_of_getElem? (i := 391) (by decide +kernel), List.mem_of_getElem? (i := 392) (by decide +kernel)⟩
theorem lw_p18 : lw_okq (⟨"MatchFloor", "countLevels", "(I)I"⟩, 4) := ⟨⟨by decide +kernel, by decide +kernel⟩, List.mem_of_getElem? (i := 22) (by decide +kernel), List.mem_of_getElem? (i := 445) (by decide +kernel), List.mem_of_getElem? (i := 446) (by decide +kernel)⟩
theorem lw_p19 : lw_okq (⟨"MatchFloor", "nextPrice", "(II)I"⟩, 4) := ⟨⟨by decide +kernel, by decide +kernel⟩, List.mem_of_getElem? (i := 22) (by decide +kernel), List.mem_of_getElem? (i := 449) (by decide +kernel), List.mem_of_getElem? (i := 450) (by decide +kernel)⟩
theorem lw_p20 : lw_okq (⟨"MatchFloor", "priceOfLevel", "(II)I"⟩, 4) := ⟨⟨by decide +kernel, by decide +kernel⟩, List.mem_of_getElem? (i := 22) (by decide +kernel), List.mem_of_getElem? (i := 478) (by decide +kernel), List.mem_of_getElem? (i := 479) (by decide +kernel)⟩
theorem lw_p21 : lw_okq (⟨"MatchFloor", "leftAt", "(II)I"⟩, 4) := ⟨⟨by decide +kernel, by decide +kernel⟩, List.mem_of_getElem? (i := 22) (by decide +kernel), List.mem_of_getElem? (i := 482) (by decide +kernel), List.mem_of_getElem? (i := 483) (by decide +kernel)⟩
theorem lw_p22 : lw_okq (⟨"MatchFloor", "ordersAt", "(II)I"⟩, 4) := ⟨⟨by decide +kernel, by decide +kernel⟩, List.mem_of_getElem? (i := 22) (by decide +kernel), List.mem_of_getElem? (i := 486) (by decide +kernel), List.mem_of_getElem? (i := 487) (by decide +kernel)⟩
theorem lw_p23 : lw_okq (⟨"MatchFloor", "ordersBefore", "(I)I"⟩, 4) := ⟨⟨by decide +kernel, by decide +kernel⟩, List.mem_of_getElem? (i := 22) (by decide +kernel), List.mem_of_getElem? (i := 497) (by decide +kernel), List.mem_of_getElem? (i := 498) (by decide +kernel)⟩
theorem lw_p24 : lw_okq (⟨"MatchFloor$Order", "queuesWith", "(LMatchFloor$Order;)Z"⟩, 6) := ⟨⟨by decide +kernel, by decide +kernel⟩, List.mem_of_getElem? (i := 238) (by decide +kernel), List.mem_of_getElem? (i := 501) (by decide +kernel), List.mem_of_getElem? (i := 502) (by decide +kernel)⟩
theorem lw_p25 : lw_okq (⟨"MatchFloor$Tape", "read", "(II)I"⟩, 5) := ⟨⟨by decide +kernel, by decide +kernel⟩, List.mem_of_getElem? (i := 56) (by decide +kernel), List.mem_of_getElem? (i := 514) (by decide +kernel), List.mem_of_getElem? (i := 515) (by decide +kernel)⟩
theorem lw_p26 : lw_okq (⟨"MatchFloor", "countWaiting", "()I"⟩, 4) := ⟨⟨by decide +kernel, by decide +kernel⟩, List.mem_of_getElem? (i := 22) (by decide +kernel), List.mem_of_getElem? (i := 525) (by decide +kernel), List.mem_of_getElem? (i := 526) (by decide +kernel)⟩
theorem lw_p27 : lw_okq (⟨"MatchFloorModel", "find", "(I)I"⟩, 20) := ⟨⟨by decide +kernel, by decide +kernel⟩, List.mem_of_getElem? (i := 530) (by decide +kernel), List.mem_of_getElem? (i := 610) (by decide +kernel), List.mem_of_getElem? (i := 611) (by decide +kernel)⟩
theorem lw_p28 : lw_okq (⟨"MatchFloorModel", "refused", "(IIIII)Z"⟩, 20) := ⟨⟨by decide +kernel, by decide +kernel⟩, List.mem_of_getElem? (i := 530) (by decide +kernel), List.mem_of_getElem? (i := 614) (by decide +kernel), List.mem_of_getElem? (i := 615) (by decide +kernel)⟩
theorem lw_p29 : lw_okq (⟨"MatchFloorModel", "within", "(III)I"⟩, 20) := ⟨⟨by decide +kernel, by decide +kernel⟩, List.mem_of_getElem? (i := 530) (by decide +kernel), List.mem_of_getElem? (i := 618) (by decide +kernel), List.mem_of_getElem? (i := 619) (by decide +kernel)⟩
theorem lw_p30 : lw_okq (⟨"MatchFloorModel", "fits", "(III)Z"⟩, 20) := ⟨⟨by decide +kernel, by decide +kernel⟩, List.mem_of_getElem? (i := 530) (by decide +kernel), List.mem_of_getElem? (i := 622) (by decide +kernel), List.mem_of_getElem? (i := 623) (by decide +kernel)⟩
theorem lw_p31 : lw_okq (⟨"MatchFloorModel", "first", "(I)I"⟩, 20) := ⟨⟨by decide +kernel, by decide +kernel⟩, List.mem_of_getElem? (i := 530) (by decide +kernel), List.mem_of_getElem? (i := 626) (by decide +kernel), List.mem_of_getElem? (i := 627) (by decide +kernel)⟩
def lw_privs_2 : List (MethodName × Nat) := [(⟨"MatchFloor", "placeOfDue", "()I"⟩, 4), (⟨"MatchFloor$Order", "isDueAt", "(I)Z"⟩, 6), (⟨"MatchFloor", "countLevels", "(I)I"⟩, 4), (⟨"MatchFloor", "nextPrice", "(II)I"⟩, 4), (⟨"MatchFloor", "priceOfLevel", "(II)I"⟩, 4), (⟨"MatchFloor", "leftAt", "(II)I"⟩, 4), (⟨"MatchFloor", "ordersAt", "(II)I"⟩, 4), (⟨"MatchFloor", "ordersBefore", "(I)I"⟩, 4), (⟨"MatchFloor$Order", "queuesWith", "(LMatchFloor$Order;)Z"⟩, 6), (⟨"MatchFloor$Tape", "read", "(II)I"⟩, 5), (⟨"MatchFloor", "countWaiting", "()I"⟩, 4), (⟨"MatchFloorModel", "find", "(I)I"⟩, 20), (⟨"MatchFloorModel", "refused", "(IIIII)Z"⟩, 20), (⟨"MatchFloorModel", "within", "(III)I"⟩, 20), (⟨"MatchFloorModel", "fits", "(III)Z"⟩, 20), (⟨"MatchFloorModel", "first", "(I)I"⟩, 20)]
theorem lw_r2 : ∀ q ∈ lw_privs_2, lw_okq q := List.forall_mem_cons.mpr ⟨lw_p16, List.forall_mem_cons.mpr ⟨lw_p17, List.forall_mem_cons.mpr ⟨lw_p18, List.forall_mem_cons.mpr ⟨lw_p19, List.forall_mem_cons.mpr ⟨lw_p20, List.forall_mem_cons.mpr ⟨lw_p21, List.forall_mem_cons.mpr ⟨lw_p22, List.forall_mem_cons.mpr ⟨lw_p23, List.forall_mem_cons.mpr ⟨lw_p24, List.forall_mem_cons.mpr ⟨lw_p25, List.forall_mem_cons.mpr ⟨lw_p26, List.forall_mem_cons.mpr ⟨lw_p27, List.forall_mem_cons.mpr ⟨lw_p28, List.forall_mem_cons.mpr ⟨lw_p29, List.forall_mem_cons.mpr ⟨lw_p30, List.forall_mem_cons.mpr ⟨lw_p31, fun _ h => absurd h List.not_mem_nil⟩⟩⟩⟩⟩⟩⟩⟩⟩⟩⟩⟩⟩⟩⟩⟩
theorem lw_p32 : lw_okq (⟨"MatchFloorModel", "comesBefore", "(II)Z"⟩, 20) := ⟨⟨by decide +kernel, by decide +kernel⟩, List.mem_of_getElem? (i := 530) (by decide +kernel), List.mem_of_getElem? (i := 630) (by decide +kernel), List.mem_of_getElem? (i := 631) (by decide +kernel)⟩
theorem lw_p33 : lw_okq (⟨"MatchFloorModel", "match", "(IIIII)I"⟩, 20) := ⟨⟨by decide +kernel, by decide +kernel⟩, List.mem_of_getElem? (i := 530) (by decide +kernel), List.mem_of_getElem? (i := 634) (by decide +kernel), List.mem_of_getElem? (i := 635) (by decide +kernel)⟩
theorem lw_p34 : lw_okq (⟨"MatchFloorModel", "drop", "(I)V"⟩, 20) := ⟨⟨by decide +kernel, by decide +kernel⟩, List.mem_of_getElem? (i := 530) (by decide +kernel), List.mem_of_getElem? (i := 638) (by decide +kernel), List.mem_of_getElem? (i := 639) (by decide +kernel)⟩
theorem lw_p35 : lw_okq (⟨"MatchFloorModel", "tell", "(III)V"⟩, 20) := ⟨⟨by decide +kernel, by decide +kernel⟩, List.mem_of_getElem? (i := 530) (by decide +kernel), List.mem_of_getElem? (i := 642) (by decide +kernel), List.mem_of_getElem? (i := 643) (by decide +kernel)⟩
theorem lw_p36 : lw_okq (⟨"MatchFloorModel", "keep", "(IIIII)V"⟩, 20) := ⟨⟨by decide +kernel, by decide +kernel⟩, List.mem_of_getElem? (i := 530) (by decide +kernel), List.mem_of_getElem? (i := 646) (by decide +kernel), List.mem_of_getElem? (i := 647) (by decide +kernel)⟩
theorem lw_p37 : lw_okq (⟨"MatchFloorModel", "runStops", "()V"⟩, 20) := ⟨⟨by decide +kernel, by decide +kernel⟩, List.mem_of_getElem? (i := 530) (by decide +kernel), List.mem_of_getElem? (i := 650) (by decide +kernel), List.mem_of_getElem? (i := 651) (by decide +kernel)⟩
theorem lw_p38 : lw_okq (⟨"MatchFloorModel", "earliestDue", "()I"⟩, 20) := ⟨⟨by decide +kernel, by decide +kernel⟩, List.mem_of_getElem? (i := 530) (by decide +kernel), List.mem_of_getElem? (i := 654) (by decide +kernel), List.mem_of_getElem? (i := 655) (by decide +kernel)⟩
theorem lw_p39 : lw_okq (⟨"MatchFloorModel", "isDue", "(I)Z"⟩, 20) := ⟨⟨by decide +kernel, by decide +kernel⟩, List.mem_of_getElem? (i := 530) (by decide +kernel), List.mem_of_getElem? (i := 658) (by decide +kernel), List.mem_of_getElem? (i := 659) (by decide +kernel)⟩
theorem lw_p40 : lw_okq (⟨"MatchFloorModel", "nextPrice", "(II)I"⟩, 20) := ⟨⟨by decide +kernel, by decide +kernel⟩, List.mem_of_getElem? (i := 530) (by decide +kernel), List.mem_of_getElem? (i := 678) (by decide +kernel), List.mem_of_getElem? (i := 679) (by decide +kernel)⟩
def lw_privs_3 : List (MethodName × Nat) := [(⟨"MatchFloorModel", "comesBefore", "(II)Z"⟩, 20), (⟨"MatchFloorModel", "match", "(IIIII)I"⟩, 20), (⟨"MatchFloorModel", "drop", "(I)V"⟩, 20), (⟨"MatchFloorModel", "tell", "(III)V"⟩, 20), (⟨"MatchFloorModel", "keep", "(IIIII)V"⟩, 20), (⟨"MatchFloorModel", "runStops", "()V"⟩, 20), (⟨"MatchFloorModel", "earliestDue", "()I"⟩, 20), (⟨"MatchFloorModel", "isDue", "(I)Z"⟩, 20), (⟨"MatchFloorModel", "nextPrice", "(II)I"⟩, 20)]
theorem lw_r3 : ∀ q ∈ lw_privs_3, lw_okq q := List.forall_mem_cons.mpr ⟨lw_p32, List.forall_mem_cons.mpr ⟨lw_p33, List.forall_mem_cons.mpr ⟨lw_p34, List.forall_mem_cons.mpr ⟨lw_p35, List.forall_mem_cons.mpr ⟨lw_p36, List.forall_mem_cons.mpr ⟨lw_p37, List.forall_mem_cons.mpr ⟨lw_p38, List.forall_mem_cons.mpr ⟨lw_p39, List.forall_mem_cons.mpr ⟨lw_p40, fun _ h => absurd h List.not_mem_nil⟩⟩⟩⟩⟩⟩⟩⟩⟩
def lw_privs : List (MethodName × Nat) := lw_privs_1 ++ (lw_privs_2 ++ (lw_privs_3))
def lw_tbl : List Cond := k2_sels lw_privs ++ tables_1
theorem lw_privs_ok : ∀ q ∈ lw_privs, lw_okq q := by
  show ∀ q ∈ lw_privs_1 ++ (lw_privs_2 ++ (lw_privs_3)), lw_okq q
  exact List.forall_mem_append.mpr ⟨lw_r1, List.forall_mem_append.mpr ⟨lw_r2, lw_r3⟩⟩
end
section
/-! ===== BEGIN words of one list among another's, by their places ===== -/
theorem goodIn_r {big : List Cond} (ws : List Cond) (ps : List Nat) (hp : ws = ps.filterMap (fun i => big[i]?)) (h : ws.all goodWord = true) : GoodIn big ws := by
  intro w hw
  have h1 := List.all_eq_true.mp h w hw
  rw [hp] at hw
  obtain ⟨i, -, hi⟩ := List.mem_filterMap.mp hw
  have hm : w ∈ big := by first | exact List.mem_of_getElem? hi | exact List.getElem?_mem hi
  exact ⟨hm, good_of_word h1⟩
theorem goodIn_app {big a b : List Cond} (ha : GoodIn big a) (hb : GoodIn big b) : GoodIn big (a ++ b) := fun w h => (List.mem_append.mp h).elim (ha w) (hb w)
theorem goodIn_ca {big a b : List Cond} {c : Cond} (ha : GoodIn big (c :: a)) (hb : GoodIn big b) : GoodIn big (c :: (a ++ b)) := fun w h => (List.mem_cons.mp h).elim (fun e => ha w (List.mem_cons.mpr (Or.inl e))) (fun h => (List.mem_append.mp h).elim (fun h => ha w (List.mem_cons.mpr (Or.inr h))) (hb w))
theorem goodIn_sub {big ws : List Cond} (hm : ∀ w ∈ ws, w ∈ big) (h : ws.all goodWord = true) : GoodIn big ws := fun w hw => ⟨hm w hw, good_of_word (List.all_eq_true.mp h w hw)⟩
/-! ===== END ===== -/

/-! ===== BEGIN new T[n][m]: the outer array a place, the inner ones among the pooled ===== -/
/-- f, but v at every address of l -/
def vr_up {α : Type} (f : Nat → α) (l : List Nat) (v : α) : Nat → α := fun a => if a ∈ l then v else f a
theorem vr_up_in {α : Type} {f : Nat → α} {l : List Nat} {v : α} {a : Nat} (h : a ∈ l) : vr_up f l v a = v := if_pos h
theorem vr_up_ne {α : Type} {f : Nat → α} {l : List Nat} {v : α} {a : Nat} (h : a ∉ l) : vr_up f l v a = f a := if_neg h
theorem vr_rows {L l : List Nat} {f : Nat → va_E} {e : va_E} (h : ∀ a, a ∈ l → a ∉ L) : va_pl L f ++ l.map (fun a => (a, e)) = va_pl (L ++ l) (vr_up f l e) := by
  unfold va_pl
  rw [List.map_append]
  congr 1
  · apply List.map_congr_left
    intro a ha
    rw [vr_up_ne (fun q => h a q ha)]
  · apply List.map_congr_left
    intro a ha
    rw [vr_up_in ha]
theorem vr_lay {X rows : va_W} {x : Nat × va_E} {pl : va_W} {D : va_G} {cl : List vw_C} {H : Heap} (hP : va_P D cl (((X ++ pl) ++ [x]) ++ rows) H) : va_P D cl ((X ++ [x]) ++ (pl ++ rows)) H := by
  rw [List.append_assoc (X ++ pl)] at hP
  have h := va_P.swap hP
  rw [← List.append_assoc X] at h
  have h2 := va_P.swap h
  rw [List.append_assoc (X ++ [x])] at h2
  exact h2
theorem vr_layD {X rows : va_W} {x : Nat × va_E} {pl : va_W} {A : Nat → Prop} (hD : va_D A (((X ++ pl) ++ [x]) ++ rows)) : va_D A ((X ++ [x]) ++ (pl ++ rows)) := by
  rw [List.append_assoc (X ++ pl)] at hD
  have h := va_D.swap hD
  rw [← List.append_assoc X] at h
  have h2 := va_D.swap h
  rw [List.append_assoc (X ++ [x])] at h2
  exact h2
theorem vr_outer (c : ClassId) (N h0 : Nat) : ∀ i : Nat, Jvm.Free.Multi.outerC c N h0 i = arrV c N (fun j => va_rf (if j < i then some (h0 + 1 + j) else none))
  | 0 => by
    show ({ cls := c, slots := Array.replicate N .null, vm := .none } : Cell) = _
    rw [arrV_new]
    refine congrArg (arrV c N) (funext fun j => ?_)
    simp [va_rf]
  | i + 1 => by
    show (Jvm.Free.Multi.outerC c N h0 i).setSlot i (.ref (h0 + 1 + i)) = _
    rw [vr_outer c N h0 i, arrV_store]
    refine congrArg (arrV c N) (funext fun j => ?_)
    by_cases e : j = i
    · subst e
      simp [updV, va_rf]
    · by_cases h : j < i
      · simp [updV, e, h, Nat.lt_succ_of_lt h]
      · simp [updV, e, h, show ¬ j < i + 1 by omega]
/-- an array class over arrays is known -/
def va_AOA (ty : FieldType) (U : State) : Prop := (Cond.arrayOver (.array ty)).before #[] U = true
theorem va_AOA.use {ty : FieldType} {A : Array Value} {U : State} (h : va_AOA ty U) : (Cond.arrayOver (.array ty)).before A U = true := h
section VGM
variable {p : Program} {l : Launch} {e : Env} {R : Room} {s : State} {m : MethodId} {args : Array Value} {below : List Frame} {meth : Method} {c : Code} {H : Heap} {locs : List Loc} {cells slots : Nat} {Q : State → Prop}
variable {cc : ByteArray} {pc : Nat} {ls : Array Slot} {rest : List Value} {D : va_G} {cl : List vw_C} {A : Nat → Prop} {a : Nat} {tys : List (ClassId × FieldType)} {ws : va_W} {H0 : Heap}
theorem va_mna {X : va_W} {L : List Nat} {f : Nat → va_E} {cc : ByteArray} (hexec : p.tables.exec = Jvm.exec) (hb : c.code = cc) {own : String} {index : Nat} {ty : FieldType} {cy : ClassId} (hown : s.vm.findClass own = some m.cls) (hclink : (Cond.classLink own index ("[" ++ (FieldType.array ty).toString)).before args s = true) (hover : va_AOA ty s) (harr : (Cond.arrayClass ty).before args s = true) (hcy : s.vm.findClass (FieldType.array ty).toString = some cy)
    (hK : va_K D cl tys s) (hP : va_P D cl (X ++ va_pl L f) H) (hD : va_D A (X ++ va_pl L f)) (hS : va_S A H0 H locs) (hA : ∀ q, H0.size ≤ q → A q) {n k : Int32} {N' K' : Nat} {z : vp_A} (hn : ¬ n < 0) (hk : ¬ k < 0) (hN : n.toNatClampNeg = N') (hM : k.toNatClampNeg = K')
    (hb1 : N' * 4 ≤ 536870912) (hb2 : K' * componentBytes ty ≤ 536870912) (hb3 : K' ≤ 536870912) (hdf : fits ty (defaultValue ty) = true) (hdd : (defaultValue ty).isDefault = true) (hcells : cells + (1 + N') ≤ R.cells) (hslots : slots + (N' + N' * K') ≤ R.slots) (hz : ∀ c : ClassId, Jvm.Free.Multi.innerC c K' (defaultValue ty) = vp_cell c z) (hdg : decode cc pc = .ok (.multianewarray index 2, 4))
    (kk : ∀ (q : Nat) (r : Nat → Nat) (cA : ClassId) (H1 : Heap), (∀ i j : Nat, i < N' → j < N' → r i = r j → i = j) → (∀ i : Nat, i < N' → r i ∉ L) → va_K D cl (tys ++ [(cA, .array ty)]) s →
      va_P D cl ((X ++ [(q, .inl (cA, N', .inr (.inr (.inr (.inr (fun i => if i < N' then some (r i) else none))))))]) ++ va_pl (L ++ (List.range N').map r) (vr_up f ((List.range N').map r) (.inl (cy, z)))) H1 → va_D A ((X ++ [(q, .inl (cA, N', .inr (.inr (.inr (.inr (fun i => if i < N' then some (r i) else none))))))]) ++ va_pl (L ++ (List.range N').map r) (vr_up f ((List.range N').map r) (.inl (cy, z)))) → va_S A H0 H1 locs →
      W p l e R s m args below meth c H1 locs (cells + 1 + N') (slots + N' + N' * K') Q (F0 m (pc + 4) ls (.ref q :: rest))) : W p l e R s m args below meth c H locs cells slots Q (F0 m pc ls (.int k :: .int n :: rest)) := by
  subst hN
  subst hM
  intro T hT Xs
  obtain ⟨vm₁, cA, comp, -, fA, fC, hO, -, X', step⟩ := Xs.multianewarray2F hexec hown hclink (va_AOA.use hover) harr (g := F0 m pc ls (.int k :: .int n :: rest)) rfl (by rw [hb]; exact hdg) rfl hn hk hb1 hb2 hb3 hdf hdd hcells hslots
  have ec : some cy = some comp := hcy.symm.trans fC
  cases ec
  generalize hF : Jvm.Free.Multi.fill (T.setVm vm₁) cA cy n.toNatClampNeg k.toNatClampNeg (defaultValue ty) n.toNatClampNeg = F at X' step
  have hTh : (T.setVm vm₁).heap = H := hT
  obtain ⟨f1, f2, -, -⟩ := Jvm.Free.Multi.fill_facts (T.setVm vm₁) cA cy n.toNatClampNeg k.toNatClampNeg (defaultValue ty) n.toNatClampNeg
  rw [hF, hTh] at f1 f2
  have hold : ∀ x : Nat, x < H.size → F.heap[x]? = H[x]? := fun x hx => by
    have := Jvm.Free.Multi.fill_old (T.setVm vm₁) cA cy n.toNatClampNeg k.toNatClampNeg (defaultValue ty) (a := x) (by rw [hTh]; exact hx) n.toNatClampNeg
    rw [hF, hTh] at this
    exact this
  have hrow : ∀ j : Nat, j < n.toNatClampNeg → F.heap[H.size + 1 + j]? = some (vp_cell cy z) := fun j hj => by
    have := Jvm.Free.Multi.fill_inner (T.setVm vm₁) cA cy n.toNatClampNeg k.toNatClampNeg (defaultValue ty) n.toNatClampNeg j hj
    rw [hF, hTh, hz] at this
    exact this
  have hout : Jvm.Free.Multi.outerC cA n.toNatClampNeg H.size n.toNatClampNeg = vp_cell cA (n.toNatClampNeg, .inr (.inr (.inr (.inr (fun i => if i < n.toNatClampNeg then some (H.size + 1 + i) else none))))) := by
    rw [vp_cell_q]
    exact vr_outer cA n.toNatClampNeg H.size n.toNatClampNeg
  rw [hout] at f2
  have hlt : ∀ a, a ∈ L → a < H.size := fun a ha => by
    obtain ⟨k9, hk9⟩ := va_pl_get (X := X) (f := f) ha
    exact (hP k9 _ hk9).lt
  have hnl : ∀ i : Nat, i < n.toNatClampNeg → H.size + 1 + i ∉ L := fun i _ h => by
    have := hlt _ h
    omega
  have hnm : ∀ a, a ∈ (List.range n.toNatClampNeg).map (fun i => H.size + 1 + i) → a ∉ L := fun a ha h => by
    obtain ⟨i, -, rfl⟩ := List.mem_map.mp ha
    have := hlt _ h
    omega
  have hP0 : va_P D cl (X ++ va_pl L f) F.heap := hP.kept (fun k9 x hx => hold x.1 ((hP k9 x hx).lt))
  have hP1 : va_P D cl ((X ++ va_pl L f) ++ [(H.size, .inl (cA, n.toNatClampNeg, .inr (.inr (.inr (.inr (fun i => if i < n.toNatClampNeg then some (H.size + 1 + i) else none))))))]) F.heap := hP0.app (fun k9 x hx => by
    have h0 : k9 < 1 := (List.getElem?_eq_some_iff.mp hx).1
    rw [show k9 = 0 by omega] at hx
    cases hx
    exact f2)
  have hP2 : va_P D cl (((X ++ va_pl L f) ++ [(H.size, .inl (cA, n.toNatClampNeg, .inr (.inr (.inr (.inr (fun i => if i < n.toNatClampNeg then some (H.size + 1 + i) else none))))))]) ++ ((List.range n.toNatClampNeg).map (fun i => H.size + 1 + i)).map (fun a => (a, .inl (cy, z)))) F.heap := hP1.app (fun k9 x hx => by
    obtain ⟨a, ha, rfl⟩ := List.mem_map.mp (List.mem_of_getElem? hx)
    obtain ⟨i, hi, rfl⟩ := List.mem_map.mp ha
    exact hrow i (List.mem_range.mp hi))
  have hD2 : va_D A (((X ++ va_pl L f) ++ [(H.size, .inl (cA, n.toNatClampNeg, .inr (.inr (.inr (.inr (fun i => if i < n.toNatClampNeg then some (H.size + 1 + i) else none))))))]) ++ ((List.range n.toNatClampNeg).map (fun i => H.size + 1 + i)).map (fun a => (a, .inl (cy, z)))) := by
    have hD1 := hD.push (e := .inl (cA, n.toNatClampNeg, .inr (.inr (.inr (.inr (fun i => if i < n.toNatClampNeg then some (H.size + 1 + i) else none)))))) hP rfl (hA _ hS.1)
    generalize hW1 : (X ++ va_pl L f) ++ [(H.size, .inl (cA, n.toNatClampNeg, .inr (.inr (.inr (.inr (fun i => if i < n.toNatClampNeg then some (H.size + 1 + i) else none))))))] = W1 at hD1 hP1 ⊢
    have hle : ∀ (k9 : Nat) (x : Nat × va_E), W1[k9]? = some x → x.1 ≤ H.size := fun k9 x hx => by
      rw [← hW1] at hx
      by_cases hl : k9 < (X ++ va_pl L f).length
      · rw [List.getElem?_append_left hl] at hx
        exact Nat.le_of_lt ((hP k9 x hx).lt)
      · rw [List.getElem?_append_right (by omega)] at hx
        have h0 : k9 - (X ++ va_pl L f).length < 1 := (List.getElem?_eq_some_iff.mp hx).1
        rw [show k9 - (X ++ va_pl L f).length = 0 by omega] at hx
        cases hx
        exact Nat.le_refl _
    have hr : ∀ (k9 : Nat) (x : Nat × va_E), (((List.range n.toNatClampNeg).map (fun i => H.size + 1 + i)).map (fun a => ((a, .inl (cy, z)) : Nat × va_E)))[k9]? = some x → x.1 = H.size + 1 + k9 := fun k9 x hx => by
      rw [List.getElem?_map, List.getElem?_map] at hx
      by_cases h9 : k9 < n.toNatClampNeg
      · rw [List.getElem?_range h9] at hx
        cases hx
        rfl
      · have hn0 : (List.range n.toNatClampNeg)[k9]? = none := List.getElem?_eq_none (by rw [List.length_range]; omega)
        rw [hn0] at hx
        cases hx
    refine ⟨fun i j x y hi hj hxy => ?_, fun k9 x hx => ?_⟩
    · by_cases h1 : i < W1.length <;> by_cases h2 : j < W1.length
      · rw [List.getElem?_append_left h1] at hi
        rw [List.getElem?_append_left h2] at hj
        exact hD1.1 i j x y hi hj hxy
      · rw [List.getElem?_append_left h1] at hi
        rw [List.getElem?_append_right (by omega)] at hj
        have := hle _ _ hi
        have := hr _ _ hj
        omega
      · rw [List.getElem?_append_right (by omega)] at hi
        rw [List.getElem?_append_left h2] at hj
        have := hle _ _ hj
        have := hr _ _ hi
        omega
      · rw [List.getElem?_append_right (by omega)] at hi hj
        have := hr _ _ hi
        have := hr _ _ hj
        omega
    · by_cases h1 : k9 < W1.length
      · rw [List.getElem?_append_left h1] at hx
        exact hD1.2 k9 x hx
      · rw [List.getElem?_append_right (by omega)] at hx
        have := hr _ _ hx
        exact hA _ (by have := hS.1; omega)
  have hAr : ArrOfT s cA (.array ty) := fun N9 z9 => by
    obtain ⟨-, k9, hk9, cm9, hkk9⟩ := (hO 0 0 0).1
    exact ⟨(fun q hq => by cases hq), k9, hk9, cm9, hkk9⟩
  have hK2 : va_K D cl (tys ++ [(cA, .array ty)]) s := ⟨hK.1, fun k9 x hx => by
    by_cases hl : k9 < tys.length
    · rw [List.getElem?_append_left hl] at hx
      exact hK.2 k9 x hx
    · rw [List.getElem?_append_right (by omega)] at hx
      have h0 : k9 - tys.length < 1 := (List.getElem?_eq_some_iff.mp hx).1
      rw [show k9 - tys.length = 0 by omega] at hx
      cases hx
      exact ⟨hAr, fA⟩⟩
  obtain ⟨t, a1, b1⟩ := kk H.size (fun i => H.size + 1 + i) cA F.heap (fun i j _ _ h => by have h9 : H.size + 1 + i = H.size + 1 + j := h; omega) hnl hK2 (by rw [← vr_rows hnm]; exact vr_lay hP2) (by rw [← vr_rows hnm]; exact vr_layD hD2) ⟨by rw [f1]; have := hS.1; omega, fun x h1 h2 => (hold x (Nat.lt_of_lt_of_le h1 hS.1)).trans (hS.2.1 x h1 h2), hS.2.2⟩ F rfl X'
  refine ⟨t, step t ?_, b1⟩
  have e : T.heap.size = H.size := by rw [hT]
  rw [e]
  exact a1
end VGM
/-! ===== END ===== -/

/-! ===== BEGIN exceptions that leave a method, and their catching by the caller (launches without stack traces) ===== -/
section VXA
/-! The laws vx_back, vx_callV, vx_callS, vx_callSW, vx_throw0, vx_throwS follow proofs of the library, with one case more: JvmDerived/Free/Laws.lean (Back.of_free), Shelf42/LK1.lean (callV, callS), Shelf/KitTraced.lean (throwNew0V, throwNewS). -/
/-- where a method has thrown q: the class by its name, the cell, what was written, the world -/
def vx_T (XC : String → State → State → Prop) (st : State) (q : Addr) (t : State) (mc ms : Nat) (free : Addr → Prop) : Prop :=
  ∃ (E : String) (ce : Cell) (L : List Loc), XC E st t ∧ t.heap[q]? = some ce ∧ ce.vm = .none ∧ st.vm.findClass E = some ce.cls ∧ st.WarmedH t.vm ∧ st.sameButNew ({ t with vm := st.vm } : State) L mc ms ∧ ∀ z ∈ L, free z.base
def vx_Q (Qc : Array Value → State → Outcome → State → Prop) (XC : String → State → State → Prop) (mc ms : Nat) (free : Addr → Prop) : Array Value → State → Outcome → State → Prop := fun a st o t =>
  (Qc a st o t ∧ ∃ L, FrameEnd st o t L mc ms ∧ ∀ q ∈ L, free q.base) ∨ ∃ q, o = .threw q ∧ vx_T XC st q t mc ms free
/-- a callee that returns or throws -/
def vx_Met (l : Launch) (y : MethodName) (ws : List Cond) (rm : Room) (Pc : Array Value → State → Prop) (Qc : Array Value → State → Outcome → State → Prop) (XC : String → State → State → Prop) (mc ms : Nat) (free : Addr → Prop) : Prop :=
  MetFree l y (headSpec ws rm) Pc (fun _ _ _ _ _ => True) (vx_Q Qc XC mc ms free)
def vx_Post (XC : String → State → State → Prop) (mc ms : Nat) (free : Addr → Prop) : Pt → Array Value → Addr → Pt → Prop := fun A a q B =>
  ∃ (g : JFrame) (mk : MethodId) (t : State) (L : List Loc) (E : String) (ce : Cell), B.U.heap = t.heap ∧ B.U.vm = t.vm ∧ XC E (A.U.calling g mk a) t ∧ t.heap[q]? = some ce ∧ ce.vm = .none ∧ A.U.vm.findClass E = some ce.cls ∧ B.locs = A.locs ++ L ∧ (∀ z ∈ L, free z.base) ∧ B.cells = A.cells + mc ∧ B.slots = A.slots + ms
def vx_Back (l : Launch) (R : Room) (p : Program) (e : Env) (below : List Frame) (s : State) (sargs : Array Value) (y : MethodName) (len W9 : Nat)
    (Pre : Pt → Array Value → Prop) (Post : Pt → Array Value → Option Value → Pt → Prop) (PostX : Pt → Array Value → Addr → Pt → Prop) : Prop :=
  ∀ (m : MethodId) (meth : Method) (c : Code) (A : Pt) (g : JFrame) (ig : Instr) (mk : MethodId) (a : Array Value),
    Stand p l e R s m sargs below meth c A.U A.locs A.cells A.slots → g.method = m → g.locals.size = c.maxLocals → decode c.code g.pc = .ok (ig, len) →
    2 * g.monitorRoom + (g.stack.map fun v => v.category).sum ≤ W9 → A.U.methodNamed? y = some mk → Pre A a →
    (∃ (v : Option Value) (B : Pt), Stand p l e R s m sargs below meth c B.U B.locs B.cells B.slots ∧ Post A a v B ∧
      Steps p.tables e below (doInvoke e (A.U.setTop g) [] mk a).1 (B.U.setTop { g with pc := g.pc + len, stack := v.toList ++ g.stack })) ∨
    (∃ (q : Addr) (B : Pt), Stand p l e R s m sargs below meth c B.U B.locs B.cells B.slots ∧ PostX A a q B ∧
      Steps p.tables e below (doInvoke e (A.U.setTop g) [] mk a).1 ((B.U.setTop g).pushFrame (.throwing q)))
section Payer
variable {l : Launch} {R : Room} {p : Program} {e : Env} {below : List Frame} {s : State} {sargs : Array Value} {y : MethodName} {len W9 : Nat}
theorem vx_back {ws : List Cond} {rm : Room} {Pc : Array Value → State → Prop} {Qc : Array Value → State → Outcome → State → Prop} {XC : String → State → State → Prop} {mc ms : Nat} {free : Addr → Prop} {bytes : ByteArray} {maxL : Nat} {ret : Option FieldType}
    (hM : vx_Met l y ws rm Pc Qc XC mc ms free) (hblind : FrameBlind Pc) (hrc : rm.cells = mc) (hrs : rm.slots = ms)
    (hframes : rm.frames + 1 ≤ R.frames) (hlocals : W9 + (maxL + 11) + rm.locals ≤ R.locals)
    (hws : ∀ w ∈ ws, ∀ a' U, s.WarmedH U.vm → w.before a' U = true) (hcode : Cond.code y bytes maxL ret ∈ ws) (hinit : ∀ a' U, s.WarmedH U.vm → (Cond.initialized y.cls).before a' U = true) :
    vx_Back l R p e below s sargs y len W9 (PreOf R mc ms Pc) (PostOf Qc mc ms free) (vx_Post XC mc ms free) := by
  intro m meth c A g ig mk a X hg hsize hdg hW hn hp
  have h1 : (headSpec ws rm).pre.before a A.U = true := atoms_intro fun w hw => hws w hw _ _ X.warmed
  have h2 : (Cond.code y bytes maxL ret).before a A.U = true := hws _ hcode _ _ X.warmed
  have h3 : (Cond.initialized y.cls).before a A.U = true := hinit _ _ X.warmed
  have h4 : A.cells + (headSpec ws rm).room.cells ≤ R.cells := by rw [show (headSpec ws rm).room.cells = mc from hrc]; exact hp.1
  have h5 : A.slots + (headSpec ws rm).room.slots ≤ R.slots := by rw [show (headSpec ws rm).room.slots = ms from hrs]; exact hp.2.1
  have hPc : Pc a (A.U.calling g mk a) := hblind _ _ _ _ hp.2.2
  obtain ⟨U, Ls, c0, s0⟩ := A
  dsimp only [Pt.U, Pt.locs, Pt.cells, Pt.slots] at h1 h2 h3 h4 h5 X hn hPc ⊢
  obtain ⟨methY, cY, hmY, hcY, -, hlY, -, -, -, -⟩ := Cond.code_spec hn h2
  obtain ⟨kY, hkY, -⟩ := className_of_methodNamed hn
  have hinitY : kY.init = .initialized := Cond.initialized_spec (findClass_of_methodNamed hn) hkY h3
  have h : At U g.method c below := by rw [hg]; exact X.here
  have hlocals9 : W9 + (maxL + 11) + (headSpec ws rm).room.locals ≤ R.locals := hlocals
  have happ : (headSpec ws rm).appliesLoose y e.platform (U.calling g mk a) = true :=
    Spec.appliesLoose_calling (g := g) h hdg hn hkY hinitY
      (X.room_calling (g := g) (R' := (headSpec ws rm).room) hsize hmY hcY hframes (by rw [hlY]; omega) h4 h5) h1
  obtain ⟨mid, hmid⟩ := h.above
  have hfr : (U.setTop g).frames = (.java g :: mid) ++ below := by rw [State.frames_setTop' g h.top, hmid]; rfl
  obtain ⟨o, s₂, hsteps, -, hend, hq⟩ := Steps.callFree hM p X.admits X.cas X.clock (acts := []) hfr happ hPc trivial
  have hq' : vx_Q Qc XC mc ms free a (U.calling g mk a) o s₂ := hq
  rw [State.frames_setTop' g h.top] at hend
  obtain ⟨g₀, hg0⟩ := Option.isSome_iff_exists.mp h.top
  obtain ⟨r, hr⟩ := State.topJava?_eq_some.mp hg0
  have hr' : (({ U with heap := s₂.heap, slotsUsed := s₂.slotsUsed } : State).setVm s₂.vm).frames = .java g₀ :: r := hr
  rcases hq' with ⟨hqc, L, hfe, hL⟩ | ⟨q, rfl, E, ce, L, hx, hce, hcv, hcl, hW₂, hsm, hL⟩
  · obtain ⟨⟨v, rfl⟩, hW₂, e2, q2, q3, q4, q5, q6⟩ := id hfe
    have e3 : s₂ = ({ (U.calling g mk a).setFrames s₂.frames with heap := s₂.heap, slotsUsed := s₂.slotsUsed } : State).setVm s₂.vm := by
      have : s₂ = ({ s₂ with vm := (U.calling g mk a).vm } : State).setVm s₂.vm := rfl
      rw [e2] at this
      exact this
    obtain ⟨c₂, i₂, len₂, hc₂, hd₂, hf₂⟩ := hend
    have hW' : U.WarmedH s₂.vm := hW₂
    have hcc : c₂ = c := by
      have h1 : s₂.code? g.method = U.code? g.method := by
        rw [State.code?_eq, State.code?_eq, hW'.alike.method?]
      exact Option.some.inj (hc₂.symm.trans (h1.trans h.code))
    subst hcc
    have hlen : len₂ = len := by rw [hdg] at hd₂; cases hd₂; rfl
    subst hlen
    have hs₂ : s₂ = (({ U with heap := s₂.heap, slotsUsed := s₂.slotsUsed } : State).setVm s₂.vm).setTop { g with pc := g.pc + len₂, stack := v.toList ++ g.stack } := by
      refine e3.trans ?_
      rw [hf₂, State.calling_eq h.top, State.setFrames_setFrames, State.setTop_of_frames _ hr', hr]
      rfl
    have hsame : U.sameButNew ({ U with heap := s₂.heap, slotsUsed := s₂.slotsUsed } : State) L mc ms := by
      refine ⟨?_, q2, q3, q4, q5, q6⟩
      obtain ⟨t, ht, -⟩ := State.frames_cons hr
      show ({ U with heap := s₂.heap, slotsUsed := s₂.slotsUsed } : State) = { U.setFrames U.frames with heap := s₂.heap, slotsUsed := s₂.slotsUsed }
      rw [State.setFrames_self ht]
    subst hg
    refine Or.inl ⟨v, ⟨(({ U with heap := s₂.heap, slotsUsed := s₂.slotsUsed } : State).setVm s₂.vm), Ls ++ L, c0 + mc, s0 + ms⟩,
      ⟨X.admits, X.cas, X.clock, X.frames, X.room, X.hears, X.method, X.code, (X.here.setHeapUsed s₂.heap s₂.slotsUsed).setVm hW'.alike, X.tail, State.WarmedH.trans X.warmed hW', X.limits, X.bytes, X.same.trans (hsame.setVm s.vm)⟩,
      ⟨g, mk, s₂, L, rfl, rfl, hqc, rfl, hL, rfl, rfl⟩, ?_⟩
    show Steps p.tables e below _ ((({ U with heap := s₂.heap, slotsUsed := s₂.slotsUsed } : State).setVm s₂.vm).setTop { g with pc := g.pc + len₂, stack := v.toList ++ g.stack })
    rw [← hs₂]
    exact hsteps
  · obtain ⟨e2, q2, q3, q4, q5, q6⟩ := id hsm
    have e3 : s₂ = ({ (U.calling g mk a).setFrames s₂.frames with heap := s₂.heap, slotsUsed := s₂.slotsUsed } : State).setVm s₂.vm := by
      have : s₂ = ({ s₂ with vm := (U.calling g mk a).vm } : State).setVm s₂.vm := rfl
      rw [e2] at this
      exact this
    have hf₂ : s₂.frames = .throwing q :: .java g :: U.frames.tail := hend
    have hW' : U.WarmedH s₂.vm := hW₂
    have hs₂ : s₂ = ((({ U with heap := s₂.heap, slotsUsed := s₂.slotsUsed } : State).setVm s₂.vm).setTop g).pushFrame (.throwing q) := by
      refine e3.trans ?_
      rw [hf₂, State.calling_eq h.top, State.setFrames_setFrames, State.pushFrame, State.frames_setTop _ hr', State.setTop_of_frames _ hr', State.setFrames_setFrames, hr]
      rfl
    have hsame : U.sameButNew ({ U with heap := s₂.heap, slotsUsed := s₂.slotsUsed } : State) L mc ms := by
      refine ⟨?_, q2, q3, q4, q5, q6⟩
      obtain ⟨t, ht, -⟩ := State.frames_cons hr
      show ({ U with heap := s₂.heap, slotsUsed := s₂.slotsUsed } : State) = { U.setFrames U.frames with heap := s₂.heap, slotsUsed := s₂.slotsUsed }
      rw [State.setFrames_self ht]
    subst hg
    refine Or.inr ⟨q, ⟨(({ U with heap := s₂.heap, slotsUsed := s₂.slotsUsed } : State).setVm s₂.vm), Ls ++ L, c0 + mc, s0 + ms⟩,
      ⟨X.admits, X.cas, X.clock, X.frames, X.room, X.hears, X.method, X.code, (X.here.setHeapUsed s₂.heap s₂.slotsUsed).setVm hW'.alike, X.tail, State.WarmedH.trans X.warmed hW', X.limits, X.bytes, X.same.trans (hsame.setVm s.vm)⟩,
      ⟨g, mk, s₂, L, E, ce, rfl, rfl, hx, hce, hcv, hcl, rfl, hL, rfl, rfl⟩, ?_⟩
    show Steps p.tables e below _ (((({ U with heap := s₂.heap, slotsUsed := s₂.slotsUsed } : State).setVm s₂.vm).setTop g).pushFrame (.throwing q))
    rw [← hs₂]
    exact hsteps
end Payer
section Calls
variable {p : Program} {l : Launch} {e : Env} {R : Room} {s : State} {m : MethodId} {args : Array Value} {below : List Frame} {meth : Method} {c : Code} {T : State} {locs : List Loc} {cells slots : Nat}
theorem vx_callV (X : Stand p l e R s m args below meth c T locs cells slots) (hexec : p.tables.exec = Jvm.exec) {own C : String} {index : Nat} {y : MethodName} {bytes : ByteArray} {maxL : Nat} {ret : Option FieldType}
    (hown : s.vm.findClass own = some m.cls) (hlink : (Cond.methodLink own index y).before args s = true) (hinst : (Cond.instanceMethod y).before args s = true) (hsel : (Cond.selects C y y).before args s = true)
    (hcode : (Cond.code y bytes maxL ret).before args s = true) (hy : y.cls ≠ "java/lang/invoke/MethodHandle" ∧ y.cls ≠ "java/lang/invoke/VarHandle")
    {W9 : Nat} {Pre : Pt → Array Value → Prop} {Post : Pt → Array Value → Option Value → Pt → Prop} {PostX : Pt → Array Value → Addr → Pt → Prop} (hK : vx_Back l R p e below s args y 3 W9 Pre Post PostX)
    {b : Addr} {cellB : Cell} (hcell : T.heap[b]? = some cellB) (hobj : cellB.vm.isStatics = false) (hcls : s.vm.findClass C = some cellB.cls)
    {g : JFrame} (hg : g.method = m) (hsize : g.locals.size = c.maxLocals) {argsL rest : List Value} (hlen : ∀ sig, parseMethodDescriptor y.desc = some sig → argsL.length = sig.parameters.length)
    (hstack : g.stack = argsL.reverse ++ .ref b :: rest) (hW : 2 * g.monitorRoom + (rest.map fun v => v.category).sum ≤ W9) (hdg : decode c.code g.pc = .ok (.invokevirtual index, 3))
    (hpre : ∀ vm₁, s.WarmedH vm₁ → Pre ⟨T.setVm vm₁, locs, cells, slots⟩ (Value.ref b :: argsL).toArray) :
    (∃ (v : Option Value) (vm₁ : Vm) (B : Pt), s.WarmedH vm₁ ∧ Stand p l e R s m args below meth c B.U B.locs B.cells B.slots ∧ Post ⟨T.setVm vm₁, locs, cells, slots⟩ (Value.ref b :: argsL).toArray v B ∧
      ∀ target, Steps p.tables e below (B.U.setTop { g with pc := g.pc + 3, stack := v.toList ++ rest }) target → Steps p.tables e below (T.setTop g) target) ∨
    (∃ (q : Addr) (vm₁ : Vm) (B : Pt), s.WarmedH vm₁ ∧ Stand p l e R s m args below meth c B.U B.locs B.cells B.slots ∧ PostX ⟨T.setVm vm₁, locs, cells, slots⟩ (Value.ref b :: argsL).toArray q B ∧
      Steps p.tables e below (T.setTop g) ((B.U.setTop { g with stack := rest }).pushFrame (.throwing q))) := by
  obtain ⟨mk, methM, hnamed, hmethM, hstM, habM⟩ := Cond.instanceMethod_spec hinst
  obtain ⟨methM', cM, hmethM', -, -, -, -, -, -, hsigM⟩ := Cond.code_spec hnamed hcode
  cases hmethM.symm.trans hmethM'
  obtain ⟨c2, r2, m2, q1, q2, q3, q4, kP, hkP, hkPi⟩ := Cond.selects_spec hsel
  cases hcls.symm.trans q1
  cases (State.methodFound?_of_named hnamed hy).symm.trans q2
  cases hnamed.symm.trans q3
  have hselP : selectMethod e.platform s.vm cellB.cls mk = .method mk := by rw [Launch.admits_selectMethod X.admits]; exact q4
  obtain ⟨vm₁, X₁, hstep₁⟩ := X.invokevirtual hexec hown hlink hnamed hmethM hstM hkP hkPi hy (a := b) (cell := cellB) hcell
    (fun z h => by rw [h] at hobj; cases hobj) hselP hmethM habM hkP hkPi (g := g) hg (argsL := argsL) (rest := rest) (hlen _ hsigM) hstack hdg
  rcases hK m meth c ⟨T.setVm vm₁, locs, cells, slots⟩ { g with stack := rest } (.invokevirtual index) mk (Value.ref b :: argsL).toArray X₁ hg hsize hdg hW (X₁.named hnamed) (hpre vm₁ X₁.warmed) with ⟨v, B, X', hpost, hsteps⟩ | ⟨q, B, X', hpost, hsteps⟩
  · exact Or.inl ⟨v, vm₁, B, X₁.warmed, X', hpost, fun target h => hstep₁ _ fun acts => by rw [doInvoke_state]; exact hsteps.trans h⟩
  · exact Or.inr ⟨q, vm₁, B, X₁.warmed, X', hpost, hstep₁ _ fun acts => by rw [doInvoke_state]; exact hsteps⟩
theorem vx_callS (X : Stand p l e R s m args below meth c T locs cells slots) (hexec : p.tables.exec = Jvm.exec) {own : String} {index : Nat} {y : MethodName} {bytes : ByteArray} {maxL : Nat} {ret : Option FieldType}
    (hown : s.vm.findClass own = some m.cls) (hlink : (Cond.methodLink own index y).before args s = true) (hstat : (Cond.static y).before args s = true) (hinit : (Cond.initialized y.cls).before args s = true)
    (hcode : (Cond.code y bytes maxL ret).before args s = true) (hy : y.cls ≠ "java/lang/invoke/MethodHandle" ∧ y.cls ≠ "java/lang/invoke/VarHandle")
    {W9 : Nat} {Pre : Pt → Array Value → Prop} {Post : Pt → Array Value → Option Value → Pt → Prop} {PostX : Pt → Array Value → Addr → Pt → Prop} (hK : vx_Back l R p e below s args y 3 W9 Pre Post PostX)
    {g : JFrame} (hg : g.method = m) (hsize : g.locals.size = c.maxLocals) {argsL rest : List Value} (hlen : ∀ sig, parseMethodDescriptor y.desc = some sig → argsL.length = sig.parameters.length)
    (hstack : g.stack = argsL.reverse ++ rest) (hW : 2 * g.monitorRoom + (rest.map fun v => v.category).sum ≤ W9) (hdg : decode c.code g.pc = .ok (.invokestatic index, 3))
    (hpre : ∀ vm₁, s.WarmedH vm₁ → Pre ⟨T.setVm vm₁, locs, cells, slots⟩ argsL.toArray) :
    (∃ (v : Option Value) (vm₁ : Vm) (B : Pt), s.WarmedH vm₁ ∧ Stand p l e R s m args below meth c B.U B.locs B.cells B.slots ∧ Post ⟨T.setVm vm₁, locs, cells, slots⟩ argsL.toArray v B ∧
      ∀ target, Steps p.tables e below (B.U.setTop { g with pc := g.pc + 3, stack := v.toList ++ rest }) target → Steps p.tables e below (T.setTop g) target) ∨
    (∃ (q : Addr) (vm₁ : Vm) (B : Pt), s.WarmedH vm₁ ∧ Stand p l e R s m args below meth c B.U B.locs B.cells B.slots ∧ PostX ⟨T.setVm vm₁, locs, cells, slots⟩ argsL.toArray q B ∧
      Steps p.tables e below (T.setTop g) ((B.U.setTop { g with stack := rest }).pushFrame (.throwing q))) := by
  obtain ⟨mk, hnamed⟩ := Cond.code_named hcode
  obtain ⟨methM, cM, hmethM, -, -, -, -, -, -, hsigM⟩ := Cond.code_spec hnamed hcode
  have hstatic : methM.isStatic = true := Cond.static_spec hnamed hmethM hstat
  obtain ⟨kP, hkP, -⟩ := className_of_methodNamed hnamed
  have hinitP : kP.init = .initialized := Cond.initialized_spec (findClass_of_methodNamed hnamed) hkP hinit
  obtain ⟨vm₁, X₁, hstep₁⟩ := X.invokestatic hexec hown hlink hnamed hmethM hstatic hkP hinitP hy (g := g) hg (argsL := argsL) (rest := rest) (hlen _ hsigM) hstack hdg
  rcases hK m meth c ⟨T.setVm vm₁, locs, cells, slots⟩ { g with stack := rest } (.invokestatic index) mk argsL.toArray X₁ hg hsize hdg hW (X₁.named hnamed) (hpre vm₁ X₁.warmed) with ⟨v, B, X', hpost, hsteps⟩ | ⟨q, B, X', hpost, hsteps⟩
  · exact Or.inl ⟨v, vm₁, B, X₁.warmed, X', hpost, fun target h => hstep₁ _ fun acts => by rw [doInvoke_state]; exact hsteps.trans h⟩
  · exact Or.inr ⟨q, vm₁, B, X₁.warmed, X', hpost, hstep₁ _ fun acts => by rw [doInvoke_state]; exact hsteps⟩
end Calls
theorem vx_cls {s : State} {T : State} {vm₁ : Vm} {E : String} {k : ClassId} (hW : s.WarmedH vm₁) (h : (T.setVm vm₁).vm.findClass E = some k) : s.vm.findClass E = some k := by
  have h1 : vm₁.findClass E = some k := h
  rw [hW.alike.findClass] at h1
  exact h1
/-- the method's frame g, with q thrown over it -/
def vx_W (p : Program) (l : Launch) (e : Env) (R : Room) (s : State) (m : MethodId) (args : Array Value) (below : List Frame) (meth : Method) (c : Code) (H : Heap) (locs : List Loc) (cells slots : Nat) (Q : State → Prop) (g : JFrame) (q : Addr) : Prop :=
  ∀ T : State, T.heap = H → Stand p l e R s m args below meth c T locs cells slots → ∃ t, Steps p.tables e below ((T.setTop g).pushFrame (.throwing q)) t ∧ Q t
def vx_Run (p : Program) (l : Launch) (e : Env) (R : Room) (s : State) (m : MethodId) (args : Array Value) (below : List Frame) (meth : Method) (c : Code) (H : Heap) (locs : List Loc) (cells slots mc ms : Nat) (g : JFrame) (rest : List Value) (Qa : State → Outcome → State → Prop) (XC : String → State → State → Prop) (free : Addr → Prop) : Prop :=
  ∀ T : State, T.heap = H → Stand p l e R s m args below meth c T locs cells slots →
    (∃ (v : Option Value) (st₀ t T' : State) (L : List Loc), st₀.heap = H ∧ Stand p l e R s m args below meth c T' (locs ++ L) (cells + mc) (slots + ms) ∧ (∀ q ∈ L, free q.base) ∧ T'.heap = t.heap ∧ T'.vm = t.vm ∧ Qa st₀ (.returned v) t ∧
      Goes p e below T g T' { g with pc := g.pc + 3, stack := v.toList ++ rest }) ∨
    (∃ (q : Addr) (st₀ t T' : State) (L : List Loc) (E : String) (ce : Cell), st₀.heap = H ∧ Stand p l e R s m args below meth c T' (locs ++ L) (cells + mc) (slots + ms) ∧ (∀ z ∈ L, free z.base) ∧ T'.heap = t.heap ∧ T'.vm = t.vm ∧ XC E st₀ t ∧ t.heap[q]? = some ce ∧ ce.vm = .none ∧ s.vm.findClass E = some ce.cls ∧
      Steps p.tables e below (T.setTop g) ((T'.setTop { g with stack := rest }).pushFrame (.throwing q)))
def vx_X {S : Type} (px : S → Prop) (B : String → S → State → Prop) (A : Nat → Prop) : String → State → State → Prop := fun E st t => ∃ u : S, px u ∧ B E u t ∧ va_F A st t
section Runs
variable {p : Program} {l : Launch} {e : Env} {R : Room} {s : State} {m : MethodId} {args : Array Value} {below : List Frame} {meth : Method} {c : Code} {H : Heap} {locs : List Loc} {cells slots : Nat}
variable {y : MethodName} {bytes cc : ByteArray} {maxL nL mc ms n index : Nat} {ret : Option FieldType} {ws : List Cond} {rm : Room} {Pc : Array Value → State → Prop} {Qc : Array Value → State → Outcome → State → Prop} {XC : String → State → State → Prop} {free : Addr → Prop} {Ts : List Cond} {own C : String} {b : Addr} {As rest : List Value} {g : JFrame}
theorem vx_callBack (cb : CallB R s args own index y bytes maxL ret ws rm mc ms n) (hM : vx_Met l y ws rm Pc Qc XC mc ms free) (hbl : FrameBlind Pc) : vx_Back l R p e below s args y 3 8 (PreOf R mc ms Pc) (PostOf Qc mc ms free) (vx_Post XC mc ms free) := by
  obtain ⟨hrc, hrs, hfr, hlo, hws, hcw, -, hini, -⟩ := cb
  exact vx_back (bytes := bytes) (maxL := maxL) (ret := ret) hM hbl hrc hrs hfr hlo hws hcw (fun a' U hW => word_at hW (Or.inl (by first | rfl | simp [Cond.onTables, Cond.keeps, Cond.steady])) hini)
theorem vx_runV (S : CallFix p m c cc nL s args Ts own) (hM : vx_Met l y ws rm Pc Qc XC mc ms free) (cw : CallW R s args own C index y bytes maxL ret ws rm mc ms n) (hp : PreV s H C b Pc As)
    (hg : g.method = m) (hn : As.length = n) (hsize : g.locals.size = nL) (hstack : g.stack = As.reverse ++ .ref b :: rest) (hW : 2 * g.monitorRoom + (rest.map fun v => v.category).sum ≤ 8) (hdg : decode cc g.pc = .ok (.invokevirtual index, 3)) (hf : cells + mc ≤ R.cells ∧ slots + ms ≤ R.slots) :
    vx_Run p l e R s m args below meth c H locs cells slots mc ms g rest (Qc (Value.ref b :: As).toArray) XC free := by
  have hK : vx_Back l R p e below s args y 3 8 (PreOf R mc ms Pc) (PostOf Qc mc ms free) (vx_Post XC mc ms free) := vx_callBack cw.1 hM hp.1
  obtain ⟨⟨-, -, -, -, -, -, hcode, -, hy, hlen, hl⟩, hin, hse⟩ := cw
  obtain ⟨hx, hb, hml, ho, -⟩ := S
  obtain ⟨-, ⟨cellB, hcB, hoB, hclB⟩, hPc⟩ := hp
  intro T hT X
  rcases vx_callV X hx (C := C) (bytes := bytes) (maxL := maxL) (ret := ret) ho hl hin hse hcode hy hK (by rw [hT]; exact hcB) hoB hclB hg (hsize.trans hml.symm) (argsL := As) (rest := rest) (fun sig h => hn.trans (hlen sig h)) hstack hW (by rw [hb]; exact hdg)
    (fun vm₁ hW₁ => ⟨hf.1, hf.2, hPc (T.setVm vm₁) hT hW₁⟩) with ⟨v, vm₁, ⟨U', l2, c2, s2⟩, hW₁, X', ⟨g', mk, t, L, e1, e2, hq, h1, hL, h2, h3⟩, st⟩ | ⟨q, vm₁, ⟨U', l2, c2, s2⟩, hW₁, X', ⟨g', mk, t, L, E, ce, e1, e2, hq, hce, hcv, hcl, h1, hL, h2, h3⟩, st⟩
  · dsimp only [Pt.U, Pt.locs, Pt.cells, Pt.slots] at X' e1 e2 h1 h2 h3 st
    subst h1; subst h2; subst h3
    exact Or.inl ⟨v, (T.setVm vm₁).calling g' mk (Value.ref b :: As).toArray, t, U', L, hT, X', hL, e1, e2, hq, st⟩
  · dsimp only [Pt.U, Pt.locs, Pt.cells, Pt.slots] at X' e1 e2 h1 h2 h3 st hcl
    subst h1; subst h2; subst h3
    exact Or.inr ⟨q, (T.setVm vm₁).calling g' mk (Value.ref b :: As).toArray, t, U', L, E, ce, hT, X', hL, e1, e2, hq, hce, hcv, vx_cls hW₁ hcl, st⟩
theorem vx_runS (S : CallFix p m c cc nL s args Ts own) (hM : vx_Met l y ws rm Pc Qc XC mc ms free) (cw : CallB R s args own index y bytes maxL ret ws rm mc ms n ∧ (Cond.static y).before args s = true) (hp : PreS s H Pc As)
    (hg : g.method = m) (hn : As.length = n) (hsize : g.locals.size = nL) (hstack : g.stack = As.reverse ++ rest) (hW : 2 * g.monitorRoom + (rest.map fun v => v.category).sum ≤ 8) (hdg : decode cc g.pc = .ok (.invokestatic index, 3)) (hf : cells + mc ≤ R.cells ∧ slots + ms ≤ R.slots) :
    vx_Run p l e R s m args below meth c H locs cells slots mc ms g rest (Qc As.toArray) XC free := by
  have hK : vx_Back l R p e below s args y 3 8 (PreOf R mc ms Pc) (PostOf Qc mc ms free) (vx_Post XC mc ms free) := vx_callBack cw.1 hM hp.1
  obtain ⟨⟨-, -, -, -, -, -, hcode, hini, hy, hlen, hl⟩, hstt⟩ := cw
  obtain ⟨hx, hb, hml, ho, -⟩ := S
  intro T hT X
  rcases vx_callS X hx (bytes := bytes) (maxL := maxL) (ret := ret) ho hl hstt hini hcode hy hK hg (hsize.trans hml.symm) (argsL := As) (rest := rest) (fun sig h => hn.trans (hlen sig h)) hstack hW (by rw [hb]; exact hdg)
    (fun vm₁ hW₁ => ⟨hf.1, hf.2, hp.2 (T.setVm vm₁) hT hW₁⟩) with ⟨v, vm₁, ⟨U', l2, c2, s2⟩, hW₁, X', ⟨g', mk, t, L, e1, e2, hq, h1, hL, h2, h3⟩, st⟩ | ⟨q, vm₁, ⟨U', l2, c2, s2⟩, hW₁, X', ⟨g', mk, t, L, E, ce, e1, e2, hq, hce, hcv, hcl, h1, hL, h2, h3⟩, st⟩
  · dsimp only [Pt.U, Pt.locs, Pt.cells, Pt.slots] at X' e1 e2 h1 h2 h3 st
    subst h1; subst h2; subst h3
    exact Or.inl ⟨v, (T.setVm vm₁).calling g' mk As.toArray, t, U', L, hT, X', hL, e1, e2, hq, st⟩
  · dsimp only [Pt.U, Pt.locs, Pt.cells, Pt.slots] at X' e1 e2 h1 h2 h3 st hcl
    subst h1; subst h2; subst h3
    exact Or.inr ⟨q, (T.setVm vm₁).calling g' mk As.toArray, t, U', L, E, ce, hT, X', hL, e1, e2, hq, hce, hcv, vx_cls hW₁ hcl, st⟩
end Runs
section Rows
variable {p : Program} {l : Launch} {e : Env} {R : Room} {s : State} {m : MethodId} {args : Array Value} {below : List Frame} {meth : Method} {c : Code} {H : Heap} {locs : List Loc} {cells slots : Nat} {Q : State → Prop}
variable {mc ms : Nat} {free : Addr → Prop} {A0 A1 : Nat → Prop} {H0 : Heap} {a : Array Value} {pc : Nat} {ls : Array Slot} {st0 rest : List Value}
theorem vx_keep {st₀ t T' : State} {L : List Loc} (h0 : st₀.heap = H) (e1 : T'.heap = t.heap) (hS : va_S A0 H0 H locs) (hA : ∀ q, q < H.size → A1 q → A0 q) (hf : ∀ q, free q → A0 q) (hL : ∀ q ∈ L, free q.base) (hF : va_F A1 st₀ t) :
    H.size ≤ T'.heap.size ∧ (∀ q : Nat, q < H.size → ¬ A1 q → T'.heap[q]? = H[q]?) ∧ va_S A0 H0 T'.heap (locs ++ L) := by
  obtain ⟨hz, hk⟩ := hF
  rw [h0] at hz hk
  exact ⟨by rw [e1]; exact hz, fun q h1 h2 => by rw [e1]; exact hk q h1 h2,
    ⟨Nat.le_trans hS.1 (by rw [e1]; exact hz), fun q h1 h2 => by rw [e1, hk q (Nat.lt_of_lt_of_le h1 hS.1) (fun z => h2 (hA q (Nat.lt_of_lt_of_le h1 hS.1) z))]; exact hS.2.1 q h1 h2, fun q hq => by
      rcases List.mem_append.mp hq with h | h
      · exact hS.2.2 q h
      · exact hf _ (hL q h)⟩⟩
theorem vx_calli {S SX : Type} {post : Int32 → S → Prop} {px : SX → Prop} {B : S → State → Prop} {BX : String → SX → State → Prop} {AX : Nat → Prop} (hr : vx_Run p l e R s m args below meth c H locs cells slots mc ms (F0 m pc ls st0) rest (va_Qi post B A1 a) (vx_X px BX AX) free) (hS : va_S A0 H0 H locs) (hA : ∀ q, q < H.size → A1 q → A0 q) (hf : ∀ q, free q → A0 q) (hAX : ∀ q, q < H.size → AX q → A0 q)
    (kx : ∀ (E : String) (ce : Cell) (q9 : Addr) (u : SX) (t : State) (H1 : Heap) (locs1 : List Loc), t.heap = H1 → s.vm.Alike t.vm → px u → BX E u t → H.size ≤ H1.size → (∀ q : Nat, q < H.size → ¬ AX q → H1[q]? = H[q]?) → va_S A0 H0 H1 locs1 → H1[q9]? = some ce → ce.vm = .none → s.vm.findClass E = some ce.cls → vx_W p l e R s m args below meth c H1 locs1 (cells + mc) (slots + ms) Q (F0 m pc ls rest) q9)
    (kk : ∀ (r : Int32) (u : S) (t : State) (H1 : Heap) (locs1 : List Loc), t.heap = H1 → s.vm.Alike t.vm → post r u → B u t → H.size ≤ H1.size → (∀ q : Nat, q < H.size → ¬ A1 q → H1[q]? = H[q]?) → va_S A0 H0 H1 locs1 → W p l e R s m args below meth c H1 locs1 (cells + mc) (slots + ms) Q (F0 m (pc + 3) ls (.int r :: rest))) : W p l e R s m args below meth c H locs cells slots Q (F0 m pc ls st0) := by
  intro T hT X
  rcases hr T hT X with ⟨v, st₀, t, T', L, h0, X', hL, e1, e2, ⟨⟨r, u, hv, hp, hb⟩, hF⟩, st⟩ | ⟨q, st₀, t, T', L, E, ce, h0, X', hL, e1, e2, ⟨u, hp, hb, hF⟩, hce, hcv, hcl, st⟩
  · cases hv
    obtain ⟨k1, k2, k3⟩ := vx_keep h0 e1 hS hA hf hL hF
    obtain ⟨t2, a1, b1⟩ := kk r u t T'.heap (locs ++ L) e1.symm (by rw [← e2]; exact X'.warmed.alike) hp hb k1 k2 k3 T' rfl X'
    exact ⟨t2, st t2 a1, b1⟩
  · obtain ⟨k1, k2, k3⟩ := vx_keep h0 e1 hS hAX hf hL hF
    obtain ⟨t2, a1, b1⟩ := kx E ce q u t T'.heap (locs ++ L) e1.symm (by rw [← e2]; exact X'.warmed.alike) hp hb k1 k2 k3 (by rw [e1]; exact hce) hcv hcl T' rfl X'
    exact ⟨t2, st.trans a1, b1⟩
theorem vx_calll {S SX : Type} {post : Int64 → S → Prop} {px : SX → Prop} {B : S → State → Prop} {BX : String → SX → State → Prop} {AX : Nat → Prop} (hr : vx_Run p l e R s m args below meth c H locs cells slots mc ms (F0 m pc ls st0) rest (va_Ql post B A1 a) (vx_X px BX AX) free) (hS : va_S A0 H0 H locs) (hA : ∀ q, q < H.size → A1 q → A0 q) (hf : ∀ q, free q → A0 q) (hAX : ∀ q, q < H.size → AX q → A0 q)
    (kx : ∀ (E : String) (ce : Cell) (q9 : Addr) (u : SX) (t : State) (H1 : Heap) (locs1 : List Loc), t.heap = H1 → s.vm.Alike t.vm → px u → BX E u t → H.size ≤ H1.size → (∀ q : Nat, q < H.size → ¬ AX q → H1[q]? = H[q]?) → va_S A0 H0 H1 locs1 → H1[q9]? = some ce → ce.vm = .none → s.vm.findClass E = some ce.cls → vx_W p l e R s m args below meth c H1 locs1 (cells + mc) (slots + ms) Q (F0 m pc ls rest) q9)
    (kk : ∀ (r : Int64) (u : S) (t : State) (H1 : Heap) (locs1 : List Loc), t.heap = H1 → s.vm.Alike t.vm → post r u → B u t → H.size ≤ H1.size → (∀ q : Nat, q < H.size → ¬ A1 q → H1[q]? = H[q]?) → va_S A0 H0 H1 locs1 → W p l e R s m args below meth c H1 locs1 (cells + mc) (slots + ms) Q (F0 m (pc + 3) ls (.long r :: rest))) : W p l e R s m args below meth c H locs cells slots Q (F0 m pc ls st0) := by
  intro T hT X
  rcases hr T hT X with ⟨v, st₀, t, T', L, h0, X', hL, e1, e2, ⟨⟨r, u, hv, hp, hb⟩, hF⟩, st⟩ | ⟨q, st₀, t, T', L, E, ce, h0, X', hL, e1, e2, ⟨u, hp, hb, hF⟩, hce, hcv, hcl, st⟩
  · cases hv
    obtain ⟨k1, k2, k3⟩ := vx_keep h0 e1 hS hA hf hL hF
    obtain ⟨t2, a1, b1⟩ := kk r u t T'.heap (locs ++ L) e1.symm (by rw [← e2]; exact X'.warmed.alike) hp hb k1 k2 k3 T' rfl X'
    exact ⟨t2, st t2 a1, b1⟩
  · obtain ⟨k1, k2, k3⟩ := vx_keep h0 e1 hS hAX hf hL hF
    obtain ⟨t2, a1, b1⟩ := kx E ce q u t T'.heap (locs ++ L) e1.symm (by rw [← e2]; exact X'.warmed.alike) hp hb k1 k2 k3 (by rw [e1]; exact hce) hcv hcl T' rfl X'
    exact ⟨t2, st.trans a1, b1⟩
theorem vx_callf {S SX : Type} {post : UInt32 → S → Prop} {px : SX → Prop} {B : S → State → Prop} {BX : String → SX → State → Prop} {AX : Nat → Prop} (hr : vx_Run p l e R s m args below meth c H locs cells slots mc ms (F0 m pc ls st0) rest (va_Qf post B A1 a) (vx_X px BX AX) free) (hS : va_S A0 H0 H locs) (hA : ∀ q, q < H.size → A1 q → A0 q) (hf : ∀ q, free q → A0 q) (hAX : ∀ q, q < H.size → AX q → A0 q)
    (kx : ∀ (E : String) (ce : Cell) (q9 : Addr) (u : SX) (t : State) (H1 : Heap) (locs1 : List Loc), t.heap = H1 → s.vm.Alike t.vm → px u → BX E u t → H.size ≤ H1.size → (∀ q : Nat, q < H.size → ¬ AX q → H1[q]? = H[q]?) → va_S A0 H0 H1 locs1 → H1[q9]? = some ce → ce.vm = .none → s.vm.findClass E = some ce.cls → vx_W p l e R s m args below meth c H1 locs1 (cells + mc) (slots + ms) Q (F0 m pc ls rest) q9)
    (kk : ∀ (r : UInt32) (u : S) (t : State) (H1 : Heap) (locs1 : List Loc), t.heap = H1 → s.vm.Alike t.vm → post r u → B u t → H.size ≤ H1.size → (∀ q : Nat, q < H.size → ¬ A1 q → H1[q]? = H[q]?) → va_S A0 H0 H1 locs1 → W p l e R s m args below meth c H1 locs1 (cells + mc) (slots + ms) Q (F0 m (pc + 3) ls (.float r :: rest))) : W p l e R s m args below meth c H locs cells slots Q (F0 m pc ls st0) := by
  intro T hT X
  rcases hr T hT X with ⟨v, st₀, t, T', L, h0, X', hL, e1, e2, ⟨⟨r, u, hv, hp, hb⟩, hF⟩, st⟩ | ⟨q, st₀, t, T', L, E, ce, h0, X', hL, e1, e2, ⟨u, hp, hb, hF⟩, hce, hcv, hcl, st⟩
  · cases hv
    obtain ⟨k1, k2, k3⟩ := vx_keep h0 e1 hS hA hf hL hF
    obtain ⟨t2, a1, b1⟩ := kk r u t T'.heap (locs ++ L) e1.symm (by rw [← e2]; exact X'.warmed.alike) hp hb k1 k2 k3 T' rfl X'
    exact ⟨t2, st t2 a1, b1⟩
  · obtain ⟨k1, k2, k3⟩ := vx_keep h0 e1 hS hAX hf hL hF
    obtain ⟨t2, a1, b1⟩ := kx E ce q u t T'.heap (locs ++ L) e1.symm (by rw [← e2]; exact X'.warmed.alike) hp hb k1 k2 k3 (by rw [e1]; exact hce) hcv hcl T' rfl X'
    exact ⟨t2, st.trans a1, b1⟩
theorem vx_calld {S SX : Type} {post : UInt64 → S → Prop} {px : SX → Prop} {B : S → State → Prop} {BX : String → SX → State → Prop} {AX : Nat → Prop} (hr : vx_Run p l e R s m args below meth c H locs cells slots mc ms (F0 m pc ls st0) rest (va_Qd post B A1 a) (vx_X px BX AX) free) (hS : va_S A0 H0 H locs) (hA : ∀ q, q < H.size → A1 q → A0 q) (hf : ∀ q, free q → A0 q) (hAX : ∀ q, q < H.size → AX q → A0 q)
    (kx : ∀ (E : String) (ce : Cell) (q9 : Addr) (u : SX) (t : State) (H1 : Heap) (locs1 : List Loc), t.heap = H1 → s.vm.Alike t.vm → px u → BX E u t → H.size ≤ H1.size → (∀ q : Nat, q < H.size → ¬ AX q → H1[q]? = H[q]?) → va_S A0 H0 H1 locs1 → H1[q9]? = some ce → ce.vm = .none → s.vm.findClass E = some ce.cls → vx_W p l e R s m args below meth c H1 locs1 (cells + mc) (slots + ms) Q (F0 m pc ls rest) q9)
    (kk : ∀ (r : UInt64) (u : S) (t : State) (H1 : Heap) (locs1 : List Loc), t.heap = H1 → s.vm.Alike t.vm → post r u → B u t → H.size ≤ H1.size → (∀ q : Nat, q < H.size → ¬ A1 q → H1[q]? = H[q]?) → va_S A0 H0 H1 locs1 → W p l e R s m args below meth c H1 locs1 (cells + mc) (slots + ms) Q (F0 m (pc + 3) ls (.double r :: rest))) : W p l e R s m args below meth c H locs cells slots Q (F0 m pc ls st0) := by
  intro T hT X
  rcases hr T hT X with ⟨v, st₀, t, T', L, h0, X', hL, e1, e2, ⟨⟨r, u, hv, hp, hb⟩, hF⟩, st⟩ | ⟨q, st₀, t, T', L, E, ce, h0, X', hL, e1, e2, ⟨u, hp, hb, hF⟩, hce, hcv, hcl, st⟩
  · cases hv
    obtain ⟨k1, k2, k3⟩ := vx_keep h0 e1 hS hA hf hL hF
    obtain ⟨t2, a1, b1⟩ := kk r u t T'.heap (locs ++ L) e1.symm (by rw [← e2]; exact X'.warmed.alike) hp hb k1 k2 k3 T' rfl X'
    exact ⟨t2, st t2 a1, b1⟩
  · obtain ⟨k1, k2, k3⟩ := vx_keep h0 e1 hS hAX hf hL hF
    obtain ⟨t2, a1, b1⟩ := kx E ce q u t T'.heap (locs ++ L) e1.symm (by rw [← e2]; exact X'.warmed.alike) hp hb k1 k2 k3 (by rw [e1]; exact hce) hcv hcl T' rfl X'
    exact ⟨t2, st.trans a1, b1⟩
theorem vx_callv {S SX : Type} {post : S → Prop} {px : SX → Prop} {B : S → State → Prop} {BX : String → SX → State → Prop} {AX : Nat → Prop} (hr : vx_Run p l e R s m args below meth c H locs cells slots mc ms (F0 m pc ls st0) rest (va_Qv post B A1 a) (vx_X px BX AX) free) (hS : va_S A0 H0 H locs) (hA : ∀ q, q < H.size → A1 q → A0 q) (hf : ∀ q, free q → A0 q) (hAX : ∀ q, q < H.size → AX q → A0 q)
    (kx : ∀ (E : String) (ce : Cell) (q9 : Addr) (u : SX) (t : State) (H1 : Heap) (locs1 : List Loc), t.heap = H1 → s.vm.Alike t.vm → px u → BX E u t → H.size ≤ H1.size → (∀ q : Nat, q < H.size → ¬ AX q → H1[q]? = H[q]?) → va_S A0 H0 H1 locs1 → H1[q9]? = some ce → ce.vm = .none → s.vm.findClass E = some ce.cls → vx_W p l e R s m args below meth c H1 locs1 (cells + mc) (slots + ms) Q (F0 m pc ls rest) q9)
    (kk : ∀ (u : S) (t : State) (H1 : Heap) (locs1 : List Loc), t.heap = H1 → s.vm.Alike t.vm → post u → B u t → H.size ≤ H1.size → (∀ q : Nat, q < H.size → ¬ A1 q → H1[q]? = H[q]?) → va_S A0 H0 H1 locs1 → W p l e R s m args below meth c H1 locs1 (cells + mc) (slots + ms) Q (F0 m (pc + 3) ls (rest))) : W p l e R s m args below meth c H locs cells slots Q (F0 m pc ls st0) := by
  intro T hT X
  rcases hr T hT X with ⟨v, st₀, t, T', L, h0, X', hL, e1, e2, ⟨⟨u, hv, hp, hb⟩, hF⟩, st⟩ | ⟨q, st₀, t, T', L, E, ce, h0, X', hL, e1, e2, ⟨u, hp, hb, hF⟩, hce, hcv, hcl, st⟩
  · cases hv
    obtain ⟨k1, k2, k3⟩ := vx_keep h0 e1 hS hA hf hL hF
    obtain ⟨t2, a1, b1⟩ := kk u t T'.heap (locs ++ L) e1.symm (by rw [← e2]; exact X'.warmed.alike) hp hb k1 k2 k3 T' rfl X'
    exact ⟨t2, st t2 a1, b1⟩
  · obtain ⟨k1, k2, k3⟩ := vx_keep h0 e1 hS hAX hf hL hF
    obtain ⟨t2, a1, b1⟩ := kx E ce q u t T'.heap (locs ++ L) e1.symm (by rw [← e2]; exact X'.warmed.alike) hp hb k1 k2 k3 (by rw [e1]; exact hce) hcv hcl T' rfl X'
    exact ⟨t2, st.trans a1, b1⟩
/-- caught by the row x of this method's table; the rows ahead don't take it -/
theorem vx_catch {own name : String} {E : String} {ce : Cell} {q : Addr} (hown : s.vm.findClass own = some m.cls) (pre : List ExceptionTableEntry) (x : ExceptionTableEntry) (suf : List ExceptionTableEntry) (hsplit : c.exceptionTable.toList = pre ++ x :: suf)
    (hpass : ∀ z ∈ pre, covers z pc = false ∨ (z.catchType ≠ 0 ∧ ∃ nm : String, (Cond.classLink own z.catchType nm).before args s = true ∧ va_Nc E nm s)) (hx : covers x pc = true) (h0 : x.catchType ≠ 0)
    (hlink : (Cond.classLink own x.catchType name).before args s = true) (hcast : (Cond.castable E name).before args s = true) (hcell : H[q]? = some ce) (hv : ce.vm = .none) (hcl : s.vm.findClass E = some ce.cls)
    (kk : W p l e R s m args below meth c H locs cells slots Q (F0 m x.handlerPc ls [.ref q])) : vx_W p l e R s m args below meth c H locs cells slots Q (F0 m pc ls rest) q := by
  intro T hT X
  have hpl : e.platform.magicAccessors = ({} : Platform).magicAccessors := by rw [X.admits.platform]
  obtain ⟨c3, c4, hc3, hc4, hasg⟩ := Cond.castable_spec hcast
  cases Option.some.inj (hc3.symm.trans hcl)
  obtain ⟨c5, hc5, hcl5⟩ := Cond.classLink_spec hown hlink e.platform hpl
  cases Option.some.inj (hc4.symm.trans hc5)
  obtain ⟨vm', X', st⟩ := X.thenCaughtThrough q (g := F0 m pc ls rest) rfl (Steps.refl _) (by rw [hT]; exact hcell) (by rw [hv]; rfl) (by obtain ⟨k9, h9, -⟩ := Vm.findClass_spec hcl; exact ⟨k9, h9⟩) pre x suf hsplit
    (fun z hz => by
      rcases hpass z hz with h | ⟨hz0, nm, hl1, hn1⟩
      · exact Or.inl h
      · obtain ⟨c6, hc6, hcl6⟩ := Cond.classLink_spec hown hl1 e.platform hpl
        obtain ⟨a8, b8, h1, h2, h3⟩ := hn1
        cases Option.some.inj (h1.symm.trans hcl)
        cases Option.some.inj (h2.symm.trans hc6)
        exact Or.inr ⟨hz0, _, hcl6, h3⟩) hx (Or.inr ⟨h0, c4, hcl5, hasg⟩)
  obtain ⟨t, a1, b1⟩ := kk (T.setVm vm') hT X'
  exact ⟨t, st.trans a1, b1⟩
end Rows
section Ends
variable {p : Program} {l : Launch} {e : Env} {R : Room} {s : State} {m : MethodId} {args : Array Value} {below : List Frame} {meth : Method} {c : Code} {H : Heap} {locs : List Loc} {cells slots : Nat} {Q : State → Prop}
variable {mc ms : Nat} {free : Addr → Prop} {A0 A1 : Nat → Prop} {H0 : Heap} {a : Array Value} {ls : Array Slot} {st0 rest : List Value}
variable {Qc : Array Value → State → Outcome → State → Prop} {XC : String → State → State → Prop}
/-- what a body that may throw owes at its end -/
def vx_MQ (below : List Frame) (Qc : Array Value → State → Outcome → State → Prop) (XC : String → State → State → Prop) (a : Array Value) (s : State) (mc ms : Nat) (free : Addr → Prop) : State → Prop := fun t =>
  ∃ o, t.status = .running ∧ Ended t below o ∧ vx_Q Qc XC mc ms free a s o t
theorem vx_ret {g : JFrame} {mc ms : Nat} (k : W p l e R s m args below meth c H locs cells slots (MQ below Qc args s mc ms free) g) : W p l e R s m args below meth c H locs cells slots (vx_MQ below Qc XC args s mc ms free) g := by
  intro T hT X
  obtain ⟨t, a1, o, b1, b2, b3, b4⟩ := k T hT X
  exact ⟨t, a1, o, b1, b2, Or.inl ⟨b3, b4⟩⟩
/-- not caught here: it goes on to the caller -/
theorem vx_widen {g : JFrame} {q : Addr} {k n : Nat} (h1 : cells ≤ k) (h2 : slots ≤ n) (kk : vx_W p l e R s m args below meth c H locs k n Q g q) : vx_W p l e R s m args below meth c H locs cells slots Q g q := fun T hT X => kk T hT (stand_widen X h1 h2)
theorem vx_out {pc : Nat} {E : String} {ce : Cell} {q : Addr} {mc ms : Nat} (hout : ∀ x ∈ c.exceptionTable.toList, covers x pc = false) (hlocks : meth.locks = false) (hcell : H[q]? = some ce) (hv : ce.vm = .none) (hcl : s.vm.findClass E = some ce.cls)
    (hx : ∀ t : State, t.heap = H → s.vm.Alike t.vm → XC E s t) (hf : ∀ z ∈ locs, free z.base) (hc : cells ≤ mc) (hs : slots ≤ ms) :
    vx_W p l e R s m args below meth c H locs cells slots (vx_MQ below Qc XC args s mc ms free) (F0 m pc ls rest) q := by
  intro T hT X
  obtain ⟨st1, hrun, hend, hW, hsm⟩ := X.leaveThrown q (g := F0 m pc ls rest) rfl rfl rfl hout hlocks
  have hcell9 : (T.setFrames (.throwing q :: below)).heap[q]? = some ce := by
    show T.heap[q]? = some ce
    rw [hT]; exact hcell
  exact ⟨_, st1, .threw q, hrun, hend, Or.inr ⟨q, rfl, E, ce, locs, hx _ hT hW.alike, hcell9, hv, hcl, hW, hsm.mono hc hs, hf⟩⟩
theorem vx_frame {U : State} {k n : Nat} (h : s.sameButNew ({ U with vm := s.vm } : State) locs k n) : s.heap.size ≤ U.heap.size ∧ ∀ q : Nat, q < s.heap.size → (∀ z ∈ locs, z.base ≠ q) → U.heap[q]? = s.heap[q]? := by
  obtain ⟨-, h2, -, -, -, h6⟩ := h
  refine ⟨h2, fun q hq hz => ?_⟩
  obtain ⟨c9, e1, e2, e3, e4⟩ := h6 q _ (Array.getElem?_eq_getElem hq)
  have hs : c9.slots = (s.heap[q]).slots := Array.ext_getElem? fun i => e4 i fun hm => hz _ hm rfl
  have h9 : c9 = s.heap[q] := by
    rw [hs] at e2
    exact e2
  have e5 : U.heap[q]? = some c9 := e1
  rw [e5, h9, Array.getElem?_eq_getElem hq]
/-- the words of a throw but the four that speak of the heap -/
def vx_no (w : Cond) : Bool := decide (w ≠ .isRef (.static Bundle.tN "UNASSIGNED_STACK" Bundle.steD)) && decide (w ≠ .isRef (.static Bundle.tN "SUPPRESSED_SENTINEL" Bundle.listD)) && decide (w ≠ .laysStatic Bundle.tN "UNASSIGNED_STACK" Bundle.steD) && decide (w ≠ .laysStatic Bundle.tN "SUPPRESSED_SENTINEL" Bundle.listD)
def vx_at0 (own : String) (ic : Nat) (X : String) (names : List String) : List Cond := (Bundle.ownAtoms0 own ic X names).filter vx_no
def vx_atS (own : String) (ic : Nat) (X : String) (names : List String) : List Cond := (Bundle.ownAtoms own ic X names).filter vx_no
/-- a word that the tables alone decide, or a good one -/
def vx_ot (w : Cond) : Bool := w.onTables || goodWord w
theorem vx_ot_at {args a' : Array Value} {s U : State} {w : Cond} (hW : s.WarmedH U.vm) (hvm : s.vm = U.vm) (hg : vx_ot w = true) (h : w.before args s = true) : w.before a' U = true := by
  simp only [vx_ot, Bool.or_eq_true] at hg
  rcases hg with hg | hg
  · exact va_tabs hg hvm h
  · exact word_at hW (good_of_word hg) h
/-- a list's words: the good ones out of the method's own list, the others by premises of their own -/
theorem vx_hat {args : Array Value} {s : State} {L B : List Cond} (h1 : ∀ w ∈ L.filter goodWord, w.before args s = true) (h2 : ∀ w ∈ L.filter (fun w => !goodWord w), w ∈ B) (h3 : ∀ w ∈ B, w.before args s = true) : ∀ w ∈ L, w.before args s = true := by
  intro w hw
  by_cases g : goodWord w = true
  · exact h1 w (List.mem_filter.mpr ⟨hw, g⟩)
  · refine h3 w (h2 w (List.mem_filter.mpr ⟨hw, ?_⟩))
    show (!goodWord w) = true
    cases hgw : goodWord w
    · rfl
    · exact absurd hgw g
theorem vx_c {args : Array Value} {s : State} {w : Cond} {B : List Cond} (h : w.before args s = true) (t : ∀ w ∈ B, w.before args s = true) : ∀ w' ∈ w :: B, w'.before args s = true := fun w' h' => (List.mem_cons.mp h').elim (fun e => by rw [e]; exact h) (t w')
theorem vx_n {args : Array Value} {s : State} : ∀ w ∈ ([] : List Cond), w.before args s = true := fun _ h => nomatch h
theorem vx_own {args : Array Value} {s : State} {L : List Cond} (h1 : ∀ w ∈ L.filter vx_no, w.before args s = true)
    (hU : (Cond.isRef (.static Bundle.tN "UNASSIGNED_STACK" Bundle.steD)).before args s = true) (hN : (Cond.isRef (.static Bundle.tN "SUPPRESSED_SENTINEL" Bundle.listD)).before args s = true)
    (lU : (Cond.laysStatic Bundle.tN "UNASSIGNED_STACK" Bundle.steD).before args s = true) (lN : (Cond.laysStatic Bundle.tN "SUPPRESSED_SENTINEL" Bundle.listD).before args s = true) : ∀ w ∈ L, w.before args s = true := by
  intro w hw
  by_cases e1 : w = .isRef (.static Bundle.tN "UNASSIGNED_STACK" Bundle.steD)
  · rw [e1]; exact hU
  · by_cases e2 : w = .isRef (.static Bundle.tN "SUPPRESSED_SENTINEL" Bundle.listD)
    · rw [e2]; exact hN
    · by_cases e3 : w = .laysStatic Bundle.tN "UNASSIGNED_STACK" Bundle.steD
      · rw [e3]; exact lU
      · by_cases e4 : w = .laysStatic Bundle.tN "SUPPRESSED_SENTINEL" Bundle.listD
        · rw [e4]; exact lN
        · exact h1 w (List.mem_filter.mpr ⟨hw, by unfold vx_no; rw [decide_eq_true e1, decide_eq_true e2, decide_eq_true e3, decide_eq_true e4]; rfl⟩)
/-- where a static field lies, its class's statics cell in H -/
def vx_L (C n d : String) (A : Nat → Prop) (U : State) (H : Heap) : Prop := ∃ (c : ClassId) (k : Class) (i : Nat) (f : Field) (a : Nat) (cell : Cell), U.vm.findClass C = some c ∧ U.fieldFound? C n d = some (c, k, i, f) ∧ f.isStatic = true ∧ k.statics = some a ∧ H[a]? = some cell ∧ cell.vm.isStatics = true ∧ cell.cls = c ∧ f.slot < cell.slots.size ∧ k.staticTypes[f.slot]? = some f.type ∧ ¬ A a
theorem vx_L.moved {C n d : String} {A : Nat → Prop} {u U : State} {H : Heap} (hvm : u.vm.Alike U.vm) (h : vx_L C n d A u H) : vx_L C n d A U H := by
  obtain ⟨c, k, i, f, a, cell, h1, h2, h3, h4, h5, h6, h7, h8, h9, h10⟩ := h
  obtain ⟨k', hi', he⟩ := State.fieldFound?_setVm hvm h2
  exact ⟨c, k', i, f, a, cell, by rw [hvm.findClass]; exact h1, hi', h3, by rw [he]; exact h4, h5, h6, h7, h8, by rw [he]; exact h9, h10⟩
theorem vx_L.kept {C n d : String} {A : Nat → Prop} {U : State} {H H1 : Heap} (h : vx_L C n d A U H) (hq : ∀ a : Nat, a < H.size → ¬ A a → H1[a]? = H[a]?) : vx_L C n d A U H1 := by
  obtain ⟨c, k, i, f, a, cell, h1, h2, h3, h4, h5, h6, h7, h8, h9, h10⟩ := h
  exact ⟨c, k, i, f, a, cell, h1, h2, h3, h4, by rw [hq a (Array.getElem?_eq_some_iff.mp h5).1 h10]; exact h5, h6, h7, h8, h9, h10⟩
theorem vx_L.narrow {C n d : String} {A B : Nat → Prop} {U : State} {H : Heap} (h : vx_L C n d A U H) (hAB : ∀ q, B q → A q) : vx_L C n d B U H := by
  obtain ⟨c, k, i, f, a, cell, h1, h2, h3, h4, h5, h6, h7, h8, h9, h10⟩ := h
  exact ⟨c, k, i, f, a, cell, h1, h2, h3, h4, h5, h6, h7, h8, h9, fun z => h10 (hAB _ z)⟩
theorem vx_L.word {C n d : String} {A : Nat → Prop} {s : State} {args : Array Value} (h : vx_L C n d A s s.heap) : (Cond.laysStatic C n d).before args s = true := by
  obtain ⟨c, k, i, f, a, cell, h1, h2, h3, h4, h5, h6, h7, h8, h9, -⟩ := h
  show (Cond.laysStatic C n d).holds args s none s [] = true
  exact Cond.laysStatic_of h1 h2 h3 h4 h5 h6 h7 h8 h9
/-- .. and what it holds: null or some reference -/
def vx_Zq (C n d : String) (A : Nat → Prop) (U : State) (H : Heap) : Prop := va_Zq C n d A U H ∧ vx_L C n d A U H
theorem vx_Zq.moved {C n d : String} {A : Nat → Prop} {u U : State} {H : Heap} (hvm : u.vm.Alike U.vm) (h : vx_Zq C n d A u H) : vx_Zq C n d A U H := ⟨va_Zq.moved hvm h.1, vx_L.moved hvm h.2⟩
theorem vx_Zq.kept {C n d : String} {A : Nat → Prop} {U : State} {H H1 : Heap} (h : vx_Zq C n d A U H) (hq : ∀ a : Nat, a < H.size → ¬ A a → H1[a]? = H[a]?) : vx_Zq C n d A U H1 := ⟨va_Zq.kept h.1 hq, vx_L.kept h.2 hq⟩
theorem vx_Zq.narrow {C n d : String} {A B : Nat → Prop} {U : State} {H : Heap} (h : vx_Zq C n d A U H) (hAB : ∀ q, B q → A q) : vx_Zq C n d B U H := ⟨va_Zq.narrow h.1 hAB, vx_L.narrow h.2 hAB⟩
theorem vx_Zqof {args : Array Value} {s : State} {C n d : String} {A : Nat → Prop} (hl : (Cond.laysStatic C n d).before args s = true) (hini : (Cond.initialized C).before args s = true) (h : (Cond.isRef (.static C n d)).before args s = true) (hA : ∀ a : Nat, a < s.heap.size → ¬ A a) : vx_Zq C n d A s s.heap := by
  refine ⟨va_Zqof hl hini h hA, ?_⟩
  obtain ⟨c, k, i, f, a, cell, h1, h2, h3, h4, h5, h6, h7, h8, h9⟩ := Cond.laysStatic_spec hl
  exact ⟨c, k, i, f, a, cell, h1, h2, h3, h4, h5, h6, h7, h8, h9, hA a (Array.getElem?_eq_some_iff.mp h5).1⟩
theorem vx_isRef {C n d : String} {v : Value} {A : Nat → Prop} {s : State} {args : Array Value} (h : va_Z C n d v A s s.heap) (hv : v.isRef = true) : (Cond.isRef (.static C n d)).before args s = true := by
  obtain ⟨cf, kf, fi, f, a, cell, h1, h2, h3, h4, h5, h6, h7, -⟩ := h
  have he : (Term.static C n d).eval args s none [] s = some v := by
    simp [Term.eval, State.fieldNamed?, h1, h2, h4, h5, h6, h7]
  simp only [Cond.before, Cond.holds, Cond.value, he]
  cases v <;> simp_all [Value.isRef]
theorem vx_isRefq {C n d : String} {A : Nat → Prop} {s : State} {args : Array Value} (h : va_Zq C n d A s s.heap) : (Cond.isRef (.static C n d)).before args s = true := by
  rcases h with h | ⟨t, h⟩
  · exact vx_isRef h rfl
  · exact vx_isRef h rfl
/-- the same frame, seen from here: as if the method were called anew in this heap -/
theorem vx_rebase {T : State} (X : Stand p l e R s m args below meth c T locs cells slots) {R' : Room} (hf : R'.frames ≤ R.frames) (hl : R'.locals ≤ R.locals) (hc : cells + R'.cells ≤ R.cells) (hs : slots + R'.slots ≤ R.slots) :
    Stand p l e R' ((T.setVm s.vm).setFrames (.invoking m args :: below)) m args below meth c T [] 0 0 := by
  have htop : (T.setVm s.vm).topJava?.isSome := X.here.top
  have hF : ((T.setVm s.vm).setFrames (.invoking m args :: below)).frames = .invoking m args :: below := State.frames_setFrames _ (State.cur_lt_of_top htop)
  obtain ⟨g₀, hg0⟩ := Option.isSome_iff_exists.mp htop
  obtain ⟨r, hr⟩ := State.topJava?_eq_some.mp hg0
  have hl9 : e.platform.stackLimits (T.setVm s.vm).me = e.platform.stackLimits s.me := X.limits
  have hb9 : (T.setVm s.vm).me.stackBytes = s.me.stackBytes := X.bytes
  refine ⟨X.admits, X.cas, X.clock, hF, ?_, X.hears, X.method, X.code, X.here, X.tail, X.warmed, ?_, ?_, ?_⟩
  · have h := X.room
    have hU : ((T.setVm s.vm).setFrames (.invoking m args :: below)).localsInUse = s.localsInUse := by
      rw [State.localsInUse_invoking hF (meth := meth) (c := c) X.method X.code, State.localsInUse_invoking X.frames X.method X.code]
    simp only [State.hasRoom, Bool.and_eq_true, decide_eq_true_eq] at h ⊢
    obtain ⟨⟨⟨⟨h1, h2, h3, h4, h5, h6⟩, h7⟩, h8⟩, h9⟩ := h
    rw [X.frames, List.length_cons] at h2 h3
    have q1 := X.heapSize
    have q2 := X.used
    simp only [hF, hU, List.length_cons, State.stackLimits_setFrames, State.stackBytes_setFrames, hl9, hb9]
    refine ⟨⟨⟨⟨by omega, by omega, by omega, by omega, by omega, h6⟩, ?_⟩, ?_⟩, X.book⟩
    · show T.heap.size + R'.cells ≤ e.platform.maxCells
      omega
    · show T.slotsUsed + R'.slots ≤ e.platform.maxSlots
      omega
  · rw [State.stackLimits_setFrames]; rfl
  · rw [State.stackBytes_setFrames]; rfl
  · refine ⟨?_, Nat.le_refl _, Nat.le_refl _, ?_, ?_, fun a c9 h9 => ⟨c9, h9, rfl, rfl, fun _ _ => rfl⟩⟩
    · obtain ⟨t, ht, -⟩ := State.frames_cons hr
      show T.setVm s.vm = { ((T.setVm s.vm).setFrames (.invoking m args :: below)).setFrames (T.setVm s.vm).frames with heap := T.heap, slotsUsed := T.slotsUsed }
      rw [State.setFrames_setFrames, State.setFrames_self ht]
      rfl
    · show T.slotsUsed = T.slotsUsed + ((T.heap.toList.drop T.heap.size).map (·.slots.size)).sum
      rw [List.drop_eq_nil_of_le (Nat.le_of_eq Array.length_toList)]
      rfl
    · show ((T.heap.toList.drop T.heap.size).map (·.slots.size)).sum ≤ 0
      rw [List.drop_eq_nil_of_le (Nat.le_of_eq Array.length_toList)]
      exact Nat.le_refl _
/-- 'throw new E()': new; dup; invokespecial; athrow -/
theorem vx_throw0 {cc : ByteArray} {pc : Nat} (hexec : p.tables.exec = Jvm.exec) (hb : c.code = cc) (hl : l.stackTraces = false) {own cls : String} {names : List String} {ik ic mc ms : Nat} {A : Nat → Prop}
    (hown : s.vm.findClass own = some m.cls) (hcls : Bundle.fit cls = true) (hnames : ∀ n ∈ names, Bundle.fit n = true)
    (hk : (Cond.classLink own ik cls).before args s = true) (hini : (Cond.initialized cls).before args s = true) (hat : ∀ w ∈ vx_at0 own ic cls names, w.before args s = true)
    (hgood : ∀ w ∈ Cond.classLink own ik cls :: Cond.initialized cls :: vx_at0 own ic cls names, vx_ot w = true)
    (hU : vx_Zq Bundle.tN "UNASSIGNED_STACK" Bundle.steD A s s.heap) (hN : vx_Zq Bundle.tN "SUPPRESSED_SENTINEL" Bundle.listD A s s.heap) (hS : va_S A s.heap H locs) (hsize : ls.size = c.maxLocals)
    (d0 : decode cc pc = .ok (.new ik, 3)) (d3 : decode cc (pc + 3) = .ok (.dup, 1)) (d4 : decode cc (pc + 4) = .ok (.invokespecial ic, 3)) (d7 : decode cc (pc + 7) = .ok (.athrow, 1))
    (hout : ∀ x ∈ c.exceptionTable.toList, covers x (pc + 7) = false)
    (hRframes : names.length + 3 < R.frames) (hRlocals : (rest.map fun v => v.category).sum + (13 * (names.length + 1) + 42) ≤ R.locals) (hRcells : cells + 1 ≤ R.cells) (hRslots : slots + 6 ≤ R.slots) (hlocks : meth.locks = false)
    (hx : ∀ t : State, s.vm.Alike t.vm → H.size ≤ t.heap.size → (∀ q : Nat, q < H.size → t.heap[q]? = H[q]?) → XC cls s t)
    (hf : ∀ z ∈ locs, free z.base) (hc : cells + 1 ≤ mc) (hs : slots + 6 ≤ ms) :
    W p l e R s m args below meth c H locs cells slots (vx_MQ below Qc XC args s mc ms free) (F0 m pc ls rest) := by
  intro T hT X
  have htr : e.platform.stackTraces = false := (show e.platform.stackTraces = l.stackTraces by rw [X.admits.platform]).trans hl
  have Y := vx_rebase X (R' := { frames := R.frames, locals := R.locals, cells := 1, slots := 6 }) (Nat.le_refl _) (Nat.le_refl _) hRcells hRslots
  obtain ⟨s', hA⟩ : ∃ z, z = (T.setVm s.vm).setFrames (.invoking m args :: below) := ⟨_, rfl⟩
  rw [← hA] at Y
  have hvm : s'.vm = s.vm := by rw [hA]; rfl
  have hhp : s'.heap = H := by rw [hA]; exact hT
  have hW0 : s.WarmedH s'.vm := by rw [hvm]; exact State.WarmedH.refl s
  have hat' : ∀ w ∈ vx_at0 own ic cls names, w.before args s' = true := fun w hw => vx_ot_at hW0 hvm.symm (hgood w (List.mem_cons_of_mem _ (List.mem_cons_of_mem _ hw))) (hat w hw)
  have hk' : (Cond.classLink own ik cls).before args s' = true := vx_ot_at hW0 hvm.symm (hgood _ List.mem_cons_self) hk
  have hini' : (Cond.initialized cls).before args s' = true := vx_ot_at hW0 hvm.symm (hgood _ (List.mem_cons_of_mem _ List.mem_cons_self)) hini
  have hU' : vx_Zq Bundle.tN "UNASSIGNED_STACK" Bundle.steD A s' s'.heap := by rw [hhp]; exact vx_Zq.moved hW0.alike (hU.kept hS.2.1)
  have hN' : vx_Zq Bundle.tN "SUPPRESSED_SENTINEL" Bundle.listD A s' s'.heap := by rw [hhp]; exact vx_Zq.moved hW0.alike (hN.kept hS.2.1)
  have h : ∀ w ∈ Bundle.ownAtoms0 own ic cls names, w.before args s' = true := vx_own hat' (vx_isRefq hU'.1) (vx_isRefq hN'.1) hU'.2.word hN'.2.word
  have hown' : s'.vm.findClass own = some m.cls := by rw [hvm]; exact hown
  have hins : (Cond.instantiable cls 6).before args s' = true := h _ (by simp [Bundle.ownAtoms0])
  obtain ⟨vm₁, cX, kX, hfX, hkX, -, -, X₁, st1⟩ := Y.newCold hexec (own := own) (C := cls) (index := ik) (n := 6) hown' hk' hins hini'
    (g := F0 m pc ls rest) rfl (by rw [hb]; exact d0) (Nat.le_refl _) (Nat.le_refl _)
  generalize hT1 : (T.setVm vm₁).pushCell { cls := cX, slots := kX.instanceTypes.map defaultValue, vm := .none } = T1 at X₁ st1
  have hcat : (Value.ref T.heap.size).category = 1 := rfl
  have hcellA : T1.heap[T.heap.size]? = some (freshCell cX kX) := by rw [← hT1]; exact State.heap_pushCell_size _ _
  have d3' : decode c.code (pc + 3) = .ok (.dup, 1) := by rw [hb]; exact d3
  obtain ⟨U, hsteps, hrun, hend, hW, hsame, ce, hce, hO⟩ := X₁.ctorThrow0 hexec htr (own := own) (cls := cls) (names := names) (ic := ic) hown' hcls hnames h (fun x hx => nomatch hx) hfX hkX hcellA (by rw [hhp, hT]; exact Nat.le_refl _)
    (g := { method := m, pc := pc + 4, locals := ls, stack := .ref T.heap.size :: .ref T.heap.size :: rest, locked := none }) rfl hsize rfl rfl (rest := rest) rfl
    (by rw [hb]; exact d4) (by rw [hb]; exact d7) hout hRframes (by simp only [List.map_cons, List.sum_cons, hcat]; omega) hlocks
  obtain ⟨f1, f2⟩ := vx_frame hsame
  rw [hhp] at f1 f2
  have hWs : s.WarmedH U.vm := State.WarmedH.trans hW0 hW
  have hcl : s.vm.findClass cls = some ce.cls := by
    have h9 := hO.cls
    rw [hvm] at h9
    exact h9
  have hall : s.sameButNew ({ U with vm := s.vm } : State) locs mc ms := by
    subst hA
    obtain ⟨e1, e2⟩ := hsame
    rw [State.setFrames_setFrames] at e1
    have h2 : (T.setVm s.vm).sameButNew ({ U with vm := s.vm } : State) [] (0 + 1) (0 + 6) := ⟨e1, e2⟩
    have h3 := X.same.trans h2
    rw [List.append_nil] at h3
    exact h3.mono hc hs
  refine ⟨U, ?_, .threw T.heap.size, hrun, hend, Or.inr ⟨T.heap.size, rfl, cls, ce, locs, hx U hWs.alike f1 (fun q hq => f2 q hq (fun z hz => nomatch hz)), hce, hO.vm, hcl, hWs, hall, hf⟩⟩
  refine st1 _ ?_
  show Steps p.tables e below (T1.setTop { method := m, pc := pc + 3, locals := ls, stack := .ref T.heap.size :: rest, locked := none }) _
  jvm_step X₁.here [X₁.here.top, hexec, d3', Value.category]
  exact hsteps
/-- 'throw new E("text")': new; dup; ldc; invokespecial; athrow -/
theorem vx_throwS {cc : ByteArray} {pc : Nat} (hexec : p.tables.exec = Jvm.exec) (hb : c.code = cc) (hl : l.stackTraces = false) {own cls text : String} {names : List String} {ik is ic mc ms sa : Nat} {A : Nat → Prop}
    (hown : s.vm.findClass own = some m.cls) (hcls : Bundle.fit cls = true) (hnames : ∀ n ∈ names, Bundle.fit n = true)
    (hk : (Cond.classLink own ik cls).before args s = true) (hini : (Cond.initialized cls).before args s = true) (hstr : vk_R own is text sa s) (hat : ∀ w ∈ vx_atS own ic cls names, w.before args s = true)
    (hgood : ∀ w ∈ Cond.classLink own ik cls :: Cond.initialized cls :: vx_atS own ic cls names, vx_ot w = true)
    (hU : vx_Zq Bundle.tN "UNASSIGNED_STACK" Bundle.steD A s s.heap) (hN : vx_Zq Bundle.tN "SUPPRESSED_SENTINEL" Bundle.listD A s s.heap) (hS : va_S A s.heap H locs) (hsize : ls.size = c.maxLocals)
    (d0 : decode cc pc = .ok (.new ik, 3)) (d3 : decode cc (pc + 3) = .ok (.dup, 1)) (d4 : decode cc (pc + 4) = .ok (.ldc is, 2)) (d6 : decode cc (pc + 6) = .ok (.invokespecial ic, 3)) (d9 : decode cc (pc + 9) = .ok (.athrow, 1))
    (hout : ∀ x ∈ c.exceptionTable.toList, covers x (pc + 9) = false)
    (hRframes : names.length + 3 < R.frames) (hRlocals : (rest.map fun v => v.category).sum + (13 * (names.length + 1) + 43) ≤ R.locals) (hRcells : cells + 1 ≤ R.cells) (hRslots : slots + 6 ≤ R.slots) (hlocks : meth.locks = false)
    (hx : ∀ t : State, s.vm.Alike t.vm → H.size ≤ t.heap.size → (∀ q : Nat, q < H.size → t.heap[q]? = H[q]?) → XC cls s t)
    (hf : ∀ z ∈ locs, free z.base) (hc : cells + 1 ≤ mc) (hs : slots + 6 ≤ ms) :
    W p l e R s m args below meth c H locs cells slots (vx_MQ below Qc XC args s mc ms free) (F0 m pc ls rest) := by
  intro T hT X
  have htr : e.platform.stackTraces = false := (show e.platform.stackTraces = l.stackTraces by rw [X.admits.platform]).trans hl
  have Y := vx_rebase X (R' := { frames := R.frames, locals := R.locals, cells := 1, slots := 6 }) (Nat.le_refl _) (Nat.le_refl _) hRcells hRslots
  obtain ⟨s', hA⟩ : ∃ z, z = (T.setVm s.vm).setFrames (.invoking m args :: below) := ⟨_, rfl⟩
  rw [← hA] at Y
  have hvm : s'.vm = s.vm := by rw [hA]; rfl
  have hhp : s'.heap = H := by rw [hA]; exact hT
  have hW0 : s.WarmedH s'.vm := by rw [hvm]; exact State.WarmedH.refl s
  have hat' : ∀ w ∈ vx_atS own ic cls names, w.before args s' = true := fun w hw => vx_ot_at hW0 hvm.symm (hgood w (List.mem_cons_of_mem _ (List.mem_cons_of_mem _ hw))) (hat w hw)
  have hk' : (Cond.classLink own ik cls).before args s' = true := vx_ot_at hW0 hvm.symm (hgood _ List.mem_cons_self) hk
  have hini' : (Cond.initialized cls).before args s' = true := vx_ot_at hW0 hvm.symm (hgood _ (List.mem_cons_of_mem _ List.mem_cons_self)) hini
  have hU' : vx_Zq Bundle.tN "UNASSIGNED_STACK" Bundle.steD A s' s'.heap := by rw [hhp]; exact vx_Zq.moved hW0.alike (hU.kept hS.2.1)
  have hN' : vx_Zq Bundle.tN "SUPPRESSED_SENTINEL" Bundle.listD A s' s'.heap := by rw [hhp]; exact vx_Zq.moved hW0.alike (hN.kept hS.2.1)
  have h : ∀ w ∈ Bundle.ownAtoms own ic cls names, w.before args s' = true := vx_own hat' (vx_isRefq hU'.1) (vx_isRefq hN'.1) hU'.2.word hN'.2.word
  have hown' : s'.vm.findClass own = some m.cls := by rw [hvm]; exact hown
  have hins : (Cond.instantiable cls 6).before args s' = true := h _ (by simp [Bundle.ownAtoms])
  obtain ⟨vm₁, cX, kX, hfX, hkX, -, -, X₁, st1⟩ := Y.newCold hexec (own := own) (C := cls) (index := ik) (n := 6) hown' hk' hins hini'
    (g := F0 m pc ls rest) rfl (by rw [hb]; exact d0) (Nat.le_refl _) (Nat.le_refl _)
  generalize hT1 : (T.setVm vm₁).pushCell { cls := cX, slots := kX.instanceTypes.map defaultValue, vm := .none } = T1 at X₁ st1
  have hcat : (Value.ref T.heap.size).category = 1 := rfl
  have hcellA : T1.heap[T.heap.size]? = some (freshCell cX kX) := by rw [← hT1]; exact State.heap_pushCell_size _ _
  have d3' : decode c.code (pc + 3) = .ok (.dup, 1) := by rw [hb]; exact d3
  have d4' : decode c.code (pc + 4) = .ok (.ldc is, 2) := by rw [hb]; exact d4
  have hstr' : vk_R own is text sa s' := vk_R.warm hW0 hstr
  obtain ⟨U, hsteps, hrun, hend, hW, hsame, ce, hce, hO⟩ := X₁.ctorThrowS hexec htr (own := own) (cls := cls) (names := names) (ic := ic) hown' hcls hnames h (fun x hx => nomatch hx) hfX hkX hcellA (by rw [hhp, hT]; exact Nat.le_refl _) (msg := .ref sa) rfl
    (g := { method := m, pc := pc + 6, locals := ls, stack := .ref sa :: .ref T.heap.size :: .ref T.heap.size :: rest, locked := none }) rfl hsize rfl rfl (rest := rest) rfl
    (by rw [hb]; exact d6) (by rw [hb]; exact d9) hout hRframes (by simp only [List.map_cons, List.sum_cons, hcat]; omega) hlocks
  obtain ⟨f1, f2⟩ := vx_frame hsame
  rw [hhp] at f1 f2
  have hWs : s.WarmedH U.vm := State.WarmedH.trans hW0 hW
  have hcl : s.vm.findClass cls = some ce.cls := by
    have h9 := hO.cls
    rw [hvm] at h9
    exact h9
  have hall : s.sameButNew ({ U with vm := s.vm } : State) locs mc ms := by
    subst hA
    obtain ⟨e1, e2⟩ := hsame
    rw [State.setFrames_setFrames] at e1
    have h2 : (T.setVm s.vm).sameButNew ({ U with vm := s.vm } : State) [] (0 + 1) (0 + 6) := ⟨e1, e2⟩
    have h3 := X.same.trans h2
    rw [List.append_nil] at h3
    exact h3.mono hc hs
  refine ⟨U, ?_, .threw T.heap.size, hrun, hend, Or.inr ⟨T.heap.size, rfl, cls, ce, locs, hx U hWs.alike f1 (fun q hq => f2 q hq (fun z hz => nomatch hz)), hce, hO.vm, hcl, hWs, hall, hf⟩⟩
  refine st1 _ ?_
  show Steps p.tables e below (T1.setTop { method := m, pc := pc + 3, locals := ls, stack := .ref T.heap.size :: rest, locked := none }) _
  jvm_step X₁.here [X₁.here.top, hexec, d3', Value.category]
  exact X₁.ldcString hexec (own := own) (text := text) (index := is) (a := sa) hown' hstr'.1 hstr'.2
    (g := { method := m, pc := pc + 4, locals := ls, stack := .ref T.heap.size :: .ref T.heap.size :: rest, locked := none }) rfl d4' _ hsteps
/-- 'throw new E("text")', the text by a wide index -/
theorem vx_throwSW {cc : ByteArray} {pc : Nat} (hexec : p.tables.exec = Jvm.exec) (hb : c.code = cc) (hl : l.stackTraces = false) {own cls text : String} {names : List String} {ik is ic mc ms sa : Nat} {A : Nat → Prop}
    (hown : s.vm.findClass own = some m.cls) (hcls : Bundle.fit cls = true) (hnames : ∀ n ∈ names, Bundle.fit n = true)
    (hk : (Cond.classLink own ik cls).before args s = true) (hini : (Cond.initialized cls).before args s = true) (hstr : vk_R own is text sa s) (hat : ∀ w ∈ vx_atS own ic cls names, w.before args s = true)
    (hgood : ∀ w ∈ Cond.classLink own ik cls :: Cond.initialized cls :: vx_atS own ic cls names, vx_ot w = true)
    (hU : vx_Zq Bundle.tN "UNASSIGNED_STACK" Bundle.steD A s s.heap) (hN : vx_Zq Bundle.tN "SUPPRESSED_SENTINEL" Bundle.listD A s s.heap) (hS : va_S A s.heap H locs) (hsize : ls.size = c.maxLocals)
    (d0 : decode cc pc = .ok (.new ik, 3)) (d3 : decode cc (pc + 3) = .ok (.dup, 1)) (d4 : decode cc (pc + 4) = .ok (.ldc_w is, 3)) (d7 : decode cc (pc + 7) = .ok (.invokespecial ic, 3)) (d10 : decode cc (pc + 10) = .ok (.athrow, 1))
    (hout : ∀ x ∈ c.exceptionTable.toList, covers x (pc + 10) = false)
    (hRframes : names.length + 3 < R.frames) (hRlocals : (rest.map fun v => v.category).sum + (13 * (names.length + 1) + 43) ≤ R.locals) (hRcells : cells + 1 ≤ R.cells) (hRslots : slots + 6 ≤ R.slots) (hlocks : meth.locks = false)
    (hx : ∀ t : State, s.vm.Alike t.vm → H.size ≤ t.heap.size → (∀ q : Nat, q < H.size → t.heap[q]? = H[q]?) → XC cls s t)
    (hf : ∀ z ∈ locs, free z.base) (hc : cells + 1 ≤ mc) (hs : slots + 6 ≤ ms) :
    W p l e R s m args below meth c H locs cells slots (vx_MQ below Qc XC args s mc ms free) (F0 m pc ls rest) := by
  intro T hT X
  have htr : e.platform.stackTraces = false := (show e.platform.stackTraces = l.stackTraces by rw [X.admits.platform]).trans hl
  have Y := vx_rebase X (R' := { frames := R.frames, locals := R.locals, cells := 1, slots := 6 }) (Nat.le_refl _) (Nat.le_refl _) hRcells hRslots
  obtain ⟨s', hA⟩ : ∃ z, z = (T.setVm s.vm).setFrames (.invoking m args :: below) := ⟨_, rfl⟩
  rw [← hA] at Y
  have hvm : s'.vm = s.vm := by rw [hA]; rfl
  have hhp : s'.heap = H := by rw [hA]; exact hT
  have hW0 : s.WarmedH s'.vm := by rw [hvm]; exact State.WarmedH.refl s
  have hat' : ∀ w ∈ vx_atS own ic cls names, w.before args s' = true := fun w hw => vx_ot_at hW0 hvm.symm (hgood w (List.mem_cons_of_mem _ (List.mem_cons_of_mem _ hw))) (hat w hw)
  have hk' : (Cond.classLink own ik cls).before args s' = true := vx_ot_at hW0 hvm.symm (hgood _ List.mem_cons_self) hk
  have hini' : (Cond.initialized cls).before args s' = true := vx_ot_at hW0 hvm.symm (hgood _ (List.mem_cons_of_mem _ List.mem_cons_self)) hini
  have hU' : vx_Zq Bundle.tN "UNASSIGNED_STACK" Bundle.steD A s' s'.heap := by rw [hhp]; exact vx_Zq.moved hW0.alike (hU.kept hS.2.1)
  have hN' : vx_Zq Bundle.tN "SUPPRESSED_SENTINEL" Bundle.listD A s' s'.heap := by rw [hhp]; exact vx_Zq.moved hW0.alike (hN.kept hS.2.1)
  have h : ∀ w ∈ Bundle.ownAtoms own ic cls names, w.before args s' = true := vx_own hat' (vx_isRefq hU'.1) (vx_isRefq hN'.1) hU'.2.word hN'.2.word
  have hown' : s'.vm.findClass own = some m.cls := by rw [hvm]; exact hown
  have hins : (Cond.instantiable cls 6).before args s' = true := h _ (by simp [Bundle.ownAtoms])
  obtain ⟨vm₁, cX, kX, hfX, hkX, -, -, X₁, st1⟩ := Y.newCold hexec (own := own) (C := cls) (index := ik) (n := 6) hown' hk' hins hini'
    (g := F0 m pc ls rest) rfl (by rw [hb]; exact d0) (Nat.le_refl _) (Nat.le_refl _)
  generalize hT1 : (T.setVm vm₁).pushCell { cls := cX, slots := kX.instanceTypes.map defaultValue, vm := .none } = T1 at X₁ st1
  have hcat : (Value.ref T.heap.size).category = 1 := rfl
  have hcellA : T1.heap[T.heap.size]? = some (freshCell cX kX) := by rw [← hT1]; exact State.heap_pushCell_size _ _
  have d3' : decode c.code (pc + 3) = .ok (.dup, 1) := by rw [hb]; exact d3
  have d4' : decode c.code (pc + 4) = .ok (.ldc_w is, 3) := by rw [hb]; exact d4
  have hstr' : vk_R own is text sa s' := vk_R.warm hW0 hstr
  obtain ⟨U, hsteps, hrun, hend, hW, hsame, ce, hce, hO⟩ := X₁.ctorThrowS hexec htr (own := own) (cls := cls) (names := names) (ic := ic) hown' hcls hnames h (fun x hx => nomatch hx) hfX hkX hcellA (by rw [hhp, hT]; exact Nat.le_refl _) (msg := .ref sa) rfl
    (g := { method := m, pc := pc + 7, locals := ls, stack := .ref sa :: .ref T.heap.size :: .ref T.heap.size :: rest, locked := none }) rfl hsize rfl rfl (rest := rest) rfl
    (by rw [hb]; exact d7) (by rw [hb]; exact d10) hout hRframes (by simp only [List.map_cons, List.sum_cons, hcat]; omega) hlocks
  obtain ⟨f1, f2⟩ := vx_frame hsame
  rw [hhp] at f1 f2
  have hWs : s.WarmedH U.vm := State.WarmedH.trans hW0 hW
  have hcl : s.vm.findClass cls = some ce.cls := by
    have h9 := hO.cls
    rw [hvm] at h9
    exact h9
  have hall : s.sameButNew ({ U with vm := s.vm } : State) locs mc ms := by
    subst hA
    obtain ⟨e1, e2⟩ := hsame
    rw [State.setFrames_setFrames] at e1
    have h2 : (T.setVm s.vm).sameButNew ({ U with vm := s.vm } : State) [] (0 + 1) (0 + 6) := ⟨e1, e2⟩
    have h3 := X.same.trans h2
    rw [List.append_nil] at h3
    exact h3.mono hc hs
  refine ⟨U, ?_, .threw T.heap.size, hrun, hend, Or.inr ⟨T.heap.size, rfl, cls, ce, locs, hx U hWs.alike f1 (fun q hq => f2 q hq (fun z hz => nomatch hz)), hce, hO.vm, hcl, hWs, hall, hf⟩⟩
  refine st1 _ ?_
  show Steps p.tables e below (T1.setTop { method := m, pc := pc + 3, locals := ls, stack := .ref T.heap.size :: rest, locked := none }) _
  jvm_step X₁.here [X₁.here.top, hexec, d3', Value.category]
  exact X₁.ldcStringW hexec (own := own) (text := text) (index := is) (a := sa) hown' hstr'.1 hstr'.2
    (g := { method := m, pc := pc + 4, locals := ls, stack := .ref T.heap.size :: .ref T.heap.size :: rest, locked := none }) rfl d4' _ hsteps
end Ends
section Bodies
variable {l : Launch}
theorem vx_ofW {y : MethodName} {ws ws' : List Cond} {rm : Room} {Pc : Array Value → State → Prop} {Qc : Array Value → State → Outcome → State → Prop} {XC : String → State → State → Prop} {mc ms : Nat} {free : Addr → Prop} {cc : ByteArray} {maxL : Nat} {ret : Option FieldType}
    (hy : plainName y.cls = true) (hw : ws = Cond.code y cc maxL ret :: ws')
    (body : ∀ p e s m args below meth c s₁, BodyLoose p l y (headSpec ws rm) cc maxL ret e s m args below meth c s₁ → c.maxLocals = maxL → (∀ x ∈ c.exceptionTable.toList, False) → Pc args s →
      W p l e (headSpec ws rm).room s m args below meth c s.heap [] 0 0 (vx_MQ below Qc XC args s mc ms free) (entryFrame m args maxL)) : vx_Met l y ws rm Pc Qc XC mc ms free := by
  refine MetFree.of_bodyS (code := cc) (maxLocals := maxL) (ret := ret) hy ?_ ?_
  · intro args s m h hn
    obtain ⟨meth, c, h1, h2, h3, h4, h5, h6, -, -⟩ := Cond.code_spec hn (atoms_spec (ws := ws) h _ (by rw [hw]; exact List.mem_cons_self))
    exact ⟨meth, c, h1, h2, h3, h4, h5, h6⟩
  · intro p e s m args below meth c s₁ B hml hP _
    have hh0 : s₁.heap = s.heap := by rw [B.state]; rfl
    have ht : ∀ x ∈ c.exceptionTable.toList, False := by
      obtain ⟨meth9, c9, h1, h2, -, -, -, -, h7, -⟩ := Cond.code_spec B.named (atoms_spec (ws := ws) B.pre _ (by rw [hw]; exact List.mem_cons_self))
      cases Option.some.inj (h1.symm.trans B.method)
      cases Option.some.inj (h2.symm.trans (Stand.of_body B).code)
      intro x hx
      rw [Array.isEmpty_iff.mp h7] at hx
      cases hx
    obtain ⟨t, a1, o, b1, b2, b3⟩ := body p e s m args below meth c s₁ B hml ht hP s₁ hh0 (Stand.of_body B)
    exact ⟨t, o, a1, b1, b2, b3⟩
/-- the table of a body with handlers -/
theorem vx_table {p : Program} {x y : MethodName} {S : Spec} {cc bytes : ByteArray} {maxL maxL' : Nat} {ret ret' : Option FieldType} {e : Env} {s s₁ : State} {m : MethodId} {args : Array Value} {below : List Frame} {meth : Method} {c : Code} {hh : List (Nat × Nat × Nat × Nat)}
    (B : BodyLoose p l y S cc maxL ret e s m args below meth c s₁) (h : (Cond.codeWith y bytes maxL' ret' hh).before args s = true) : c.exceptionTable.toList = tableOf hh := by
  obtain ⟨m9, meth9, c9, hn9, h1, h2, -, -, h6, -⟩ := Cond.codeWith_spec h
  cases Option.some.inj (hn9.symm.trans B.named)
  cases Option.some.inj (h1.symm.trans B.method)
  cases Option.some.inj (h2.symm.trans (Stand.of_body B).code)
  rw [← h6, table_eq]
end Bodies
end VXA
/-! ===== END ===== -/
/-! ===== BEGIN a static call of a method with an exception table ===== -/
section VXS
variable {p : Program} {l : Launch} {e : Env} {R : Room} {s : State} {m : MethodId} {args : Array Value} {below : List Frame} {meth : Method} {c : Code} {T : State} {H : Heap} {locs : List Loc} {cells slots : Nat}
abbrev vx_CSW (R : Room) (s : State) (args : Array Value) (own : String) (index : Nat) (y : MethodName) (bytes : ByteArray) (maxL : Nat) (ret : Option FieldType) (hh : List (Nat × Nat × Nat × Nat)) (ws : List Cond) (rm : Room) (mc ms n : Nat) : Prop :=
  (rm.cells = mc ∧ rm.slots = ms ∧ rm.frames + 1 ≤ R.frames ∧ 8 + (maxL + 11) + rm.locals ≤ R.locals ∧ (∀ w ∈ ws, ∀ (a' : Array Value) (U : State), s.WarmedH U.vm → w.before a' U = true) ∧ Cond.codeWith y bytes maxL ret hh ∈ ws) ∧
  (Cond.codeWith y bytes maxL ret hh).before args s = true ∧ (Cond.initialized y.cls).before args s = true ∧ (y.cls ≠ "java/lang/invoke/MethodHandle" ∧ y.cls ≠ "java/lang/invoke/VarHandle") ∧
  (∀ sig, parseMethodDescriptor y.desc = some sig → n = sig.parameters.length) ∧ (Cond.methodLink own index y).before args s = true ∧ (Cond.static y).before args s = true
theorem vx_cwSW {own : String} {index maxL mc ms : Nat} {y : MethodName} {bytes : ByteArray} {ret : Option FieldType} {hh : List (Nat × Nat × Nat × Nat)} {Ts ws ws' : List Cond} {rm : Room} (n : Nat) (ht : ∀ w ∈ Ts, w.before args s = true) (hT : GoodIn Ts (va_wsS own index y ws)) (hw : ws = Cond.codeWith y bytes maxL ret hh :: ws') (hrc : rm.cells = mc) (hrs : rm.slots = ms)
    (hd : y.cls ≠ "java/lang/invoke/MethodHandle" ∧ y.cls ≠ "java/lang/invoke/VarHandle" ∧ (parseMethodDescriptor y.desc).map (fun d => d.parameters.length) = some n) (hR : rm.frames + 1 ≤ R.frames ∧ 8 + (maxL + 11) + rm.locals ≤ R.locals) :
    vx_CSW R s args own index y bytes maxL ret hh ws rm mc ms n := by
  have ok : ∀ w ∈ va_wsS own index y ws, w.before args s = true := fun w h => ht w (hT w h).1
  have hG : GoodIn Ts ws := fun w h => hT w (by unfold va_wsS; exact List.mem_append_right _ h)
  have hc : Cond.codeWith y bytes maxL ret hh ∈ ws := by rw [hw]; exact List.mem_cons_self
  refine ⟨⟨hrc, hrs, hR.1, hR.2, pay_in ht hG, hc⟩, ht _ (hG _ hc).1, ok _ (by simp [va_wsS]), ⟨hd.1, hd.2.1⟩, fun sig h => ?_, ok _ (by simp [va_wsS]), ok _ (by simp [va_wsS])⟩
  have h2 := hd.2.2
  rw [h] at h2
  exact (Option.some.inj h2).symm
theorem vx_callSW (X : Stand p l e R s m args below meth c T locs cells slots) (hexec : p.tables.exec = Jvm.exec) {own : String} {index : Nat} {y : MethodName} {bytes : ByteArray} {maxL : Nat} {ret : Option FieldType} {hh : List (Nat × Nat × Nat × Nat)}
    (hown : s.vm.findClass own = some m.cls) (hlink : (Cond.methodLink own index y).before args s = true) (hstat : (Cond.static y).before args s = true) (hinit : (Cond.initialized y.cls).before args s = true)
    (hcode : (Cond.codeWith y bytes maxL ret hh).before args s = true) (hy : y.cls ≠ "java/lang/invoke/MethodHandle" ∧ y.cls ≠ "java/lang/invoke/VarHandle")
    {W9 : Nat} {Pre : Pt → Array Value → Prop} {Post : Pt → Array Value → Option Value → Pt → Prop} (hK : Back l R p e below s args y 3 W9 Pre Post)
    {g : JFrame} (hg : g.method = m) (hsize : g.locals.size = c.maxLocals) {argsL rest : List Value} (hlen : ∀ sig, parseMethodDescriptor y.desc = some sig → argsL.length = sig.parameters.length)
    (hstack : g.stack = argsL.reverse ++ rest) (hW : 2 * g.monitorRoom + (rest.map fun v => v.category).sum ≤ W9) (hdg : decode c.code g.pc = .ok (.invokestatic index, 3))
    (hpre : ∀ vm₁, s.WarmedH vm₁ → Pre ⟨T.setVm vm₁, locs, cells, slots⟩ argsL.toArray) :
    ∃ (v : Option Value) (vm₁ : Vm) (B : Pt), s.WarmedH vm₁ ∧ Stand p l e R s m args below meth c B.U B.locs B.cells B.slots ∧ Post ⟨T.setVm vm₁, locs, cells, slots⟩ argsL.toArray v B ∧
      ∀ target, Steps p.tables e below (B.U.setTop { g with pc := g.pc + 3, stack := v.toList ++ rest }) target → Steps p.tables e below (T.setTop g) target := by
  obtain ⟨mk, methM, cM, hnamed, hmethM, -, -, -, -, -, -, hsigM⟩ := Cond.codeWith_spec hcode
  have hstatic : methM.isStatic = true := Cond.static_spec hnamed hmethM hstat
  obtain ⟨kP, hkP, -⟩ := className_of_methodNamed hnamed
  have hinitP : kP.init = .initialized := Cond.initialized_spec (findClass_of_methodNamed hnamed) hkP hinit
  obtain ⟨vm₁, X₁, hstep₁⟩ := X.invokestatic hexec hown hlink hnamed hmethM hstatic hkP hinitP hy (g := g) hg (argsL := argsL) (rest := rest) (hlen _ hsigM) hstack hdg
  obtain ⟨v, B, X', hpost, hsteps⟩ := hK m meth c ⟨T.setVm vm₁, locs, cells, slots⟩ { g with stack := rest } (.invokestatic index) mk argsL.toArray X₁ hg hsize hdg hW (X₁.named hnamed) (hpre vm₁ X₁.warmed)
  exact ⟨v, vm₁, B, X₁.warmed, X', hpost, fun target h => hstep₁ _ fun acts => by rw [doInvoke_state]; exact hsteps.trans h⟩
theorem vx_runSW {y : MethodName} {bytes cc : ByteArray} {maxL nL mc ms n index : Nat} {ret : Option FieldType} {hh : List (Nat × Nat × Nat × Nat)} {ws : List Cond} {rm : Room} {Pc : Array Value → State → Prop} {Qc : Array Value → State → Outcome → State → Prop} {free : Addr → Prop} {Ts : List Cond} {own : String} {As rest : List Value} {g : JFrame}
    (S : CallFix p m c cc nL s args Ts own) (hM : Met l y ws rm Pc Qc mc ms free) (cw : vx_CSW R s args own index y bytes maxL ret hh ws rm mc ms n) (hp : PreS s H Pc As)
    (hg : g.method = m) (hn : As.length = n) (hsize : g.locals.size = nL) (hstack : g.stack = As.reverse ++ rest) (hW : 2 * g.monitorRoom + (rest.map fun v => v.category).sum ≤ 8) (hdg : decode cc g.pc = .ok (.invokestatic index, 3)) (hf : cells + mc ≤ R.cells ∧ slots + ms ≤ R.slots) :
    va_Run p l e R s m args below meth c H locs cells slots mc ms g rest (Qc As.toArray) (free) := by
  obtain ⟨⟨hrc, hrs, hfr, hlo, hws, hcw⟩, hcode, hini, hy, hlen, hl, hstt⟩ := cw
  have hK : Back l R p e below s args y 3 8 (PreOf R mc ms Pc) (PostOf Qc mc ms free) := va_backW (hh := hh) (bytes := bytes) (maxL := maxL) (ret := ret) hM hp.1 hrc hrs hfr hlo hws hcw (fun a' U hW => word_at hW (Or.inl (by first | rfl | simp [Cond.onTables, Cond.keeps, Cond.steady])) hini)
  obtain ⟨hx, hb, hml, ho, -⟩ := S
  intro T hT X
  obtain ⟨v, vm₁, ⟨U', l2, c2, s2⟩, hW₁, X', ⟨g', mk, t, L, e1, e2, hq, h1, hL, h2, h3⟩, st⟩ := vx_callSW X hx (hh := hh) (bytes := bytes) (maxL := maxL) (ret := ret) ho hl hstt hini hcode hy hK hg (hsize.trans hml.symm) (argsL := As) (rest := rest) (fun sig h => hn.trans (hlen sig h)) hstack hW (by rw [hb]; exact hdg)
    (fun vm₁ hW₁ => ⟨hf.1, hf.2, hp.2 (T.setVm vm₁) hT hW₁⟩)
  dsimp only [Pt.U, Pt.locs, Pt.cells, Pt.slots] at X' e1 e2 h1 h2 h3 st
  subst h1; subst h2; subst h3
  exact ⟨v, (T.setVm vm₁).calling g' mk As.toArray, t, U', L, hT, X', hL, e1, e2, hq, st⟩
/-- not caught here, past rows that name other classes: it goes on to the caller -/
theorem vx_outP {p : Program} {l : Launch} {e : Env} {R : Room} {s : State} {m : MethodId} {args : Array Value} {below : List Frame} {meth : Method} {c : Code} {H : Heap} {locs : List Loc} {cells slots : Nat} {free : Addr → Prop} {ls : Array Slot} {rest : List Value} {Qc : Array Value → State → Outcome → State → Prop} {XC : String → State → State → Prop}
    {pc : Nat} {own E : String} {ce : Cell} {q : Addr} {mc ms : Nat} (hown : s.vm.findClass own = some m.cls) (hlocks : meth.locks = false)
    (hpass : ∀ z ∈ c.exceptionTable.toList, covers z pc = false ∨ (z.catchType ≠ 0 ∧ ∃ nm : String, (Cond.classLink own z.catchType nm).before args s = true ∧ va_Nc E nm s)) (hcell : H[q]? = some ce) (hv : ce.vm = .none) (hcl : s.vm.findClass E = some ce.cls)
    (hx : ∀ t : State, t.heap = H → s.vm.Alike t.vm → XC E s t) (hf : ∀ z ∈ locs, free z.base) (hc : cells ≤ mc) (hs : slots ≤ ms) :
    vx_W p l e R s m args below meth c H locs cells slots (vx_MQ below Qc XC args s mc ms free) (F0 m pc ls rest) q := by
  intro T hT X
  have hpl : e.platform.magicAccessors = ({} : Platform).magicAccessors := by rw [X.admits.platform]
  obtain ⟨vm', hW', X', st⟩ := X.outThrough hlocks q (g := F0 m pc ls rest) rfl rfl rfl (cell := ce) (by rw [hT]; exact hcell) (by rw [hv]; rfl)
    (by obtain ⟨k9, h9, -⟩ := Vm.findClass_spec hcl; exact ⟨k9, h9⟩) (fun z hz => by
      rcases hpass z hz with h | ⟨hz0, nm, hl1, hn1⟩
      · exact Or.inl h
      · obtain ⟨c6, hc6, hcl6⟩ := Cond.classLink_spec hown hl1 e.platform hpl
        obtain ⟨a8, b8, h1, h2, h3⟩ := hn1
        cases Option.some.inj (h1.symm.trans hcl)
        cases Option.some.inj (h2.symm.trans hc6)
        exact Or.inr ⟨hz0, _, hcl6, h3⟩)
  obtain ⟨g₀, hfr⟩ := X'.frames_eq
  have hcell9 : ((T.setVm vm').setFrames (.throwing q :: below)).heap[q]? = some ce := by
    show T.heap[q]? = some ce
    rw [hT]; exact hcell
  have hend : Ended ((T.setVm vm').setFrames (.throwing q :: below)) below (.threw q) := State.frames_setFrames _ (State.cur_lt_of_frames hfr)
  refine ⟨(T.setVm vm').setFrames (.throwing q :: below), ?_, .threw q, X'.here.running, hend, Or.inr ⟨q, rfl, E, ce, locs, hx _ hT (X'.ends _).1.alike, hcell9, hv, hcl, (X'.ends _).1, (X'.ends _).2.mono hc hs, hf⟩⟩
  rw [X.pushThrowing_eq]
  exact st
/-- a thing of a world lies in the heap -/
theorem vx_lt {D : va_G} {cl : List vw_C} {ws : va_W} {H1 : Heap} (h : va_P D cl ws H1) {k : Nat} {q : Nat × va_E} (hk : ws[k]? = some q) : q.1 < H1.size := (h k q hk).lt
end VXS
/-! ===== END ===== -/
/-! ===== BEGIN methods with a table of their own: called by a name, returning or throwing ===== -/
section VXH
/-! vx_backW, vx_callVX, vx_callSX, vx_callVW, vx_runVW, vx_runVX, vx_runSX, vx_ofWH follow the same proofs as their sisters above (Free/Laws.lean, Shelf42/LK1.lean); vx_outP calls Shelf42/NT130.lean (outThrough). -/
section
variable {l : Launch} {R : Room} {p : Program} {e : Env} {below : List Frame} {s : State} {sargs : Array Value} {y : MethodName} {len W9 : Nat}
theorem vx_backW {ws : List Cond} {rm : Room} {Pc : Array Value → State → Prop} {Qc : Array Value → State → Outcome → State → Prop} {XC : String → State → State → Prop} {mc ms : Nat} {free : Addr → Prop} {bytes : ByteArray} {maxL : Nat} {ret : Option FieldType} {hh : List (Nat × Nat × Nat × Nat)}
    (hM : vx_Met l y ws rm Pc Qc XC mc ms free) (hblind : FrameBlind Pc) (hrc : rm.cells = mc) (hrs : rm.slots = ms)
    (hframes : rm.frames + 1 ≤ R.frames) (hlocals : W9 + (maxL + 11) + rm.locals ≤ R.locals)
    (hws : ∀ w ∈ ws, ∀ a' U, s.WarmedH U.vm → w.before a' U = true) (hcode : Cond.codeWith y bytes maxL ret hh ∈ ws) (hinit : ∀ a' U, s.WarmedH U.vm → (Cond.initialized y.cls).before a' U = true) :
    vx_Back l R p e below s sargs y len W9 (PreOf R mc ms Pc) (PostOf Qc mc ms free) (vx_Post XC mc ms free) := by
  intro m meth c A g ig mk a X hg hsize hdg hW hn hp
  have h1 : (headSpec ws rm).pre.before a A.U = true := atoms_intro fun w hw => hws w hw _ _ X.warmed
  have h2 : (Cond.codeWith y bytes maxL ret hh).before a A.U = true := hws _ hcode _ _ X.warmed
  have h3 : (Cond.initialized y.cls).before a A.U = true := hinit _ _ X.warmed
  have h4 : A.cells + (headSpec ws rm).room.cells ≤ R.cells := by rw [show (headSpec ws rm).room.cells = mc from hrc]; exact hp.1
  have h5 : A.slots + (headSpec ws rm).room.slots ≤ R.slots := by rw [show (headSpec ws rm).room.slots = ms from hrs]; exact hp.2.1
  have hPc : Pc a (A.U.calling g mk a) := hblind _ _ _ _ hp.2.2
  obtain ⟨U, Ls, c0, s0⟩ := A
  dsimp only [Pt.U, Pt.locs, Pt.cells, Pt.slots] at h1 h2 h3 h4 h5 X hn hPc ⊢
  obtain ⟨m9, methY, cY, hn9, hmY, hcY, -, hlY, -⟩ := Cond.codeWith_spec h2
  cases Option.some.inj (hn9.symm.trans hn)
  obtain ⟨kY, hkY, -⟩ := className_of_methodNamed hn
  have hinitY : kY.init = .initialized := Cond.initialized_spec (findClass_of_methodNamed hn) hkY h3
  have h : At U g.method c below := by rw [hg]; exact X.here
  have hlocals9 : W9 + (maxL + 11) + (headSpec ws rm).room.locals ≤ R.locals := hlocals
  have happ : (headSpec ws rm).appliesLoose y e.platform (U.calling g mk a) = true :=
    Spec.appliesLoose_calling (g := g) h hdg hn hkY hinitY
      (X.room_calling (g := g) (R' := (headSpec ws rm).room) hsize hmY hcY hframes (by rw [hlY]; omega) h4 h5) h1
  obtain ⟨mid, hmid⟩ := h.above
  have hfr : (U.setTop g).frames = (.java g :: mid) ++ below := by rw [State.frames_setTop' g h.top, hmid]; rfl
  obtain ⟨o, s₂, hsteps, -, hend, hq⟩ := Steps.callFree hM p X.admits X.cas X.clock (acts := []) hfr happ hPc trivial
  have hq' : vx_Q Qc XC mc ms free a (U.calling g mk a) o s₂ := hq
  rw [State.frames_setTop' g h.top] at hend
  obtain ⟨g₀, hg0⟩ := Option.isSome_iff_exists.mp h.top
  obtain ⟨r, hr⟩ := State.topJava?_eq_some.mp hg0
  have hr' : (({ U with heap := s₂.heap, slotsUsed := s₂.slotsUsed } : State).setVm s₂.vm).frames = .java g₀ :: r := hr
  rcases hq' with ⟨hqc, L, hfe, hL⟩ | ⟨q, rfl, E, ce, L, hx, hce, hcv, hcl, hW₂, hsm, hL⟩
  · obtain ⟨⟨v, rfl⟩, hW₂, e2, q2, q3, q4, q5, q6⟩ := id hfe
    have e3 : s₂ = ({ (U.calling g mk a).setFrames s₂.frames with heap := s₂.heap, slotsUsed := s₂.slotsUsed } : State).setVm s₂.vm := by
      have : s₂ = ({ s₂ with vm := (U.calling g mk a).vm } : State).setVm s₂.vm := rfl
      rw [e2] at this
      exact this
    obtain ⟨c₂, i₂, len₂, hc₂, hd₂, hf₂⟩ := hend
    have hW' : U.WarmedH s₂.vm := hW₂
    have hcc : c₂ = c := by
      have h1 : s₂.code? g.method = U.code? g.method := by
        rw [State.code?_eq, State.code?_eq, hW'.alike.method?]
      exact Option.some.inj (hc₂.symm.trans (h1.trans h.code))
    subst hcc
    have hlen : len₂ = len := by rw [hdg] at hd₂; cases hd₂; rfl
    subst hlen
    have hs₂ : s₂ = (({ U with heap := s₂.heap, slotsUsed := s₂.slotsUsed } : State).setVm s₂.vm).setTop { g with pc := g.pc + len₂, stack := v.toList ++ g.stack } := by
      refine e3.trans ?_
      rw [hf₂, State.calling_eq h.top, State.setFrames_setFrames, State.setTop_of_frames _ hr', hr]
      rfl
    have hsame : U.sameButNew ({ U with heap := s₂.heap, slotsUsed := s₂.slotsUsed } : State) L mc ms := by
      refine ⟨?_, q2, q3, q4, q5, q6⟩
      obtain ⟨t, ht, -⟩ := State.frames_cons hr
      show ({ U with heap := s₂.heap, slotsUsed := s₂.slotsUsed } : State) = { U.setFrames U.frames with heap := s₂.heap, slotsUsed := s₂.slotsUsed }
      rw [State.setFrames_self ht]
    subst hg
    refine Or.inl ⟨v, ⟨(({ U with heap := s₂.heap, slotsUsed := s₂.slotsUsed } : State).setVm s₂.vm), Ls ++ L, c0 + mc, s0 + ms⟩,
      ⟨X.admits, X.cas, X.clock, X.frames, X.room, X.hears, X.method, X.code, (X.here.setHeapUsed s₂.heap s₂.slotsUsed).setVm hW'.alike, X.tail, State.WarmedH.trans X.warmed hW', X.limits, X.bytes, X.same.trans (hsame.setVm s.vm)⟩,
      ⟨g, mk, s₂, L, rfl, rfl, hqc, rfl, hL, rfl, rfl⟩, ?_⟩
    show Steps p.tables e below _ ((({ U with heap := s₂.heap, slotsUsed := s₂.slotsUsed } : State).setVm s₂.vm).setTop { g with pc := g.pc + len₂, stack := v.toList ++ g.stack })
    rw [← hs₂]
    exact hsteps
  · obtain ⟨e2, q2, q3, q4, q5, q6⟩ := id hsm
    have e3 : s₂ = ({ (U.calling g mk a).setFrames s₂.frames with heap := s₂.heap, slotsUsed := s₂.slotsUsed } : State).setVm s₂.vm := by
      have : s₂ = ({ s₂ with vm := (U.calling g mk a).vm } : State).setVm s₂.vm := rfl
      rw [e2] at this
      exact this
    have hf₂ : s₂.frames = .throwing q :: .java g :: U.frames.tail := hend
    have hW' : U.WarmedH s₂.vm := hW₂
    have hs₂ : s₂ = ((({ U with heap := s₂.heap, slotsUsed := s₂.slotsUsed } : State).setVm s₂.vm).setTop g).pushFrame (.throwing q) := by
      refine e3.trans ?_
      rw [hf₂, State.calling_eq h.top, State.setFrames_setFrames, State.pushFrame, State.frames_setTop _ hr', State.setTop_of_frames _ hr', State.setFrames_setFrames, hr]
      rfl
    have hsame : U.sameButNew ({ U with heap := s₂.heap, slotsUsed := s₂.slotsUsed } : State) L mc ms := by
      refine ⟨?_, q2, q3, q4, q5, q6⟩
      obtain ⟨t, ht, -⟩ := State.frames_cons hr
      show ({ U with heap := s₂.heap, slotsUsed := s₂.slotsUsed } : State) = { U.setFrames U.frames with heap := s₂.heap, slotsUsed := s₂.slotsUsed }
      rw [State.setFrames_self ht]
    subst hg
    refine Or.inr ⟨q, ⟨(({ U with heap := s₂.heap, slotsUsed := s₂.slotsUsed } : State).setVm s₂.vm), Ls ++ L, c0 + mc, s0 + ms⟩,
      ⟨X.admits, X.cas, X.clock, X.frames, X.room, X.hears, X.method, X.code, (X.here.setHeapUsed s₂.heap s₂.slotsUsed).setVm hW'.alike, X.tail, State.WarmedH.trans X.warmed hW', X.limits, X.bytes, X.same.trans (hsame.setVm s.vm)⟩,
      ⟨g, mk, s₂, L, E, ce, rfl, rfl, hx, hce, hcv, hcl, rfl, hL, rfl, rfl⟩, ?_⟩
    show Steps p.tables e below _ (((({ U with heap := s₂.heap, slotsUsed := s₂.slotsUsed } : State).setVm s₂.vm).setTop g).pushFrame (.throwing q))
    rw [← hs₂]
    exact hsteps
end
variable {p : Program} {l : Launch} {e : Env} {R : Room} {s : State} {m : MethodId} {args : Array Value} {below : List Frame} {meth : Method} {c : Code} {T : State} {H : Heap} {locs : List Loc} {cells slots : Nat}
theorem vx_callVX (X : Stand p l e R s m args below meth c T locs cells slots) (hexec : p.tables.exec = Jvm.exec) {own C : String} {index : Nat} {y : MethodName} {bytes : ByteArray} {maxL : Nat} {ret : Option FieldType} {hh : List (Nat × Nat × Nat × Nat)}
    (hown : s.vm.findClass own = some m.cls) (hlink : (Cond.methodLink own index y).before args s = true) (hinst : (Cond.instanceMethod y).before args s = true) (hsel : (Cond.selects C y y).before args s = true)
    (hcode : (Cond.codeWith y bytes maxL ret hh).before args s = true) (hy : y.cls ≠ "java/lang/invoke/MethodHandle" ∧ y.cls ≠ "java/lang/invoke/VarHandle")
    {W9 : Nat} {Pre : Pt → Array Value → Prop} {Post : Pt → Array Value → Option Value → Pt → Prop} {PostX : Pt → Array Value → Addr → Pt → Prop} (hK : vx_Back l R p e below s args y 3 W9 Pre Post PostX)
    {b : Addr} {cellB : Cell} (hcell : T.heap[b]? = some cellB) (hobj : cellB.vm.isStatics = false) (hcls : s.vm.findClass C = some cellB.cls)
    {g : JFrame} (hg : g.method = m) (hsize : g.locals.size = c.maxLocals) {argsL rest : List Value} (hlen : ∀ sig, parseMethodDescriptor y.desc = some sig → argsL.length = sig.parameters.length)
    (hstack : g.stack = argsL.reverse ++ .ref b :: rest) (hW : 2 * g.monitorRoom + (rest.map fun v => v.category).sum ≤ W9) (hdg : decode c.code g.pc = .ok (.invokevirtual index, 3))
    (hpre : ∀ vm₁, s.WarmedH vm₁ → Pre ⟨T.setVm vm₁, locs, cells, slots⟩ (Value.ref b :: argsL).toArray) :
    (∃ (v : Option Value) (vm₁ : Vm) (B : Pt), s.WarmedH vm₁ ∧ Stand p l e R s m args below meth c B.U B.locs B.cells B.slots ∧ Post ⟨T.setVm vm₁, locs, cells, slots⟩ (Value.ref b :: argsL).toArray v B ∧
      ∀ target, Steps p.tables e below (B.U.setTop { g with pc := g.pc + 3, stack := v.toList ++ rest }) target → Steps p.tables e below (T.setTop g) target) ∨
    (∃ (q : Addr) (vm₁ : Vm) (B : Pt), s.WarmedH vm₁ ∧ Stand p l e R s m args below meth c B.U B.locs B.cells B.slots ∧ PostX ⟨T.setVm vm₁, locs, cells, slots⟩ (Value.ref b :: argsL).toArray q B ∧
      Steps p.tables e below (T.setTop g) ((B.U.setTop { g with stack := rest }).pushFrame (.throwing q))) := by
  obtain ⟨mk, methM, hnamed, hmethM, hstM, habM⟩ := Cond.instanceMethod_spec hinst
  obtain ⟨m8, methM', cM, hn8, hmethM', -, -, -, -, -, -, hsigM⟩ := Cond.codeWith_spec hcode
  cases Option.some.inj (hn8.symm.trans hnamed)
  cases hmethM.symm.trans hmethM'
  obtain ⟨c2, r2, m2, q1, q2, q3, q4, kP, hkP, hkPi⟩ := Cond.selects_spec hsel
  cases hcls.symm.trans q1
  cases (State.methodFound?_of_named hnamed hy).symm.trans q2
  cases hnamed.symm.trans q3
  have hselP : selectMethod e.platform s.vm cellB.cls mk = .method mk := by rw [Launch.admits_selectMethod X.admits]; exact q4
  obtain ⟨vm₁, X₁, hstep₁⟩ := X.invokevirtual hexec hown hlink hnamed hmethM hstM hkP hkPi hy (a := b) (cell := cellB) hcell
    (fun z h => by rw [h] at hobj; cases hobj) hselP hmethM habM hkP hkPi (g := g) hg (argsL := argsL) (rest := rest) (hlen _ hsigM) hstack hdg
  rcases hK m meth c ⟨T.setVm vm₁, locs, cells, slots⟩ { g with stack := rest } (.invokevirtual index) mk (Value.ref b :: argsL).toArray X₁ hg hsize hdg hW (X₁.named hnamed) (hpre vm₁ X₁.warmed) with ⟨v, B, X', hpost, hsteps⟩ | ⟨q, B, X', hpost, hsteps⟩
  · exact Or.inl ⟨v, vm₁, B, X₁.warmed, X', hpost, fun target h => hstep₁ _ fun acts => by rw [doInvoke_state]; exact hsteps.trans h⟩
  · exact Or.inr ⟨q, vm₁, B, X₁.warmed, X', hpost, hstep₁ _ fun acts => by rw [doInvoke_state]; exact hsteps⟩
theorem vx_callSX (X : Stand p l e R s m args below meth c T locs cells slots) (hexec : p.tables.exec = Jvm.exec) {own : String} {index : Nat} {y : MethodName} {bytes : ByteArray} {maxL : Nat} {ret : Option FieldType} {hh : List (Nat × Nat × Nat × Nat)}
    (hown : s.vm.findClass own = some m.cls) (hlink : (Cond.methodLink own index y).before args s = true) (hstat : (Cond.static y).before args s = true) (hinit : (Cond.initialized y.cls).before args s = true)
    (hcode : (Cond.codeWith y bytes maxL ret hh).before args s = true) (hy : y.cls ≠ "java/lang/invoke/MethodHandle" ∧ y.cls ≠ "java/lang/invoke/VarHandle")
    {W9 : Nat} {Pre : Pt → Array Value → Prop} {Post : Pt → Array Value → Option Value → Pt → Prop} {PostX : Pt → Array Value → Addr → Pt → Prop} (hK : vx_Back l R p e below s args y 3 W9 Pre Post PostX)
    {g : JFrame} (hg : g.method = m) (hsize : g.locals.size = c.maxLocals) {argsL rest : List Value} (hlen : ∀ sig, parseMethodDescriptor y.desc = some sig → argsL.length = sig.parameters.length)
    (hstack : g.stack = argsL.reverse ++ rest) (hW : 2 * g.monitorRoom + (rest.map fun v => v.category).sum ≤ W9) (hdg : decode c.code g.pc = .ok (.invokestatic index, 3))
    (hpre : ∀ vm₁, s.WarmedH vm₁ → Pre ⟨T.setVm vm₁, locs, cells, slots⟩ argsL.toArray) :
    (∃ (v : Option Value) (vm₁ : Vm) (B : Pt), s.WarmedH vm₁ ∧ Stand p l e R s m args below meth c B.U B.locs B.cells B.slots ∧ Post ⟨T.setVm vm₁, locs, cells, slots⟩ argsL.toArray v B ∧
      ∀ target, Steps p.tables e below (B.U.setTop { g with pc := g.pc + 3, stack := v.toList ++ rest }) target → Steps p.tables e below (T.setTop g) target) ∨
    (∃ (q : Addr) (vm₁ : Vm) (B : Pt), s.WarmedH vm₁ ∧ Stand p l e R s m args below meth c B.U B.locs B.cells B.slots ∧ PostX ⟨T.setVm vm₁, locs, cells, slots⟩ argsL.toArray q B ∧
      Steps p.tables e below (T.setTop g) ((B.U.setTop { g with stack := rest }).pushFrame (.throwing q))) := by
  obtain ⟨mk, methM, cM, hnamed, hmethM, -, -, -, -, -, -, hsigM⟩ := Cond.codeWith_spec hcode
  have hstatic : methM.isStatic = true := Cond.static_spec hnamed hmethM hstat
  obtain ⟨kP, hkP, -⟩ := className_of_methodNamed hnamed
  have hinitP : kP.init = .initialized := Cond.initialized_spec (findClass_of_methodNamed hnamed) hkP hinit
  obtain ⟨vm₁, X₁, hstep₁⟩ := X.invokestatic hexec hown hlink hnamed hmethM hstatic hkP hinitP hy (g := g) hg (argsL := argsL) (rest := rest) (hlen _ hsigM) hstack hdg
  rcases hK m meth c ⟨T.setVm vm₁, locs, cells, slots⟩ { g with stack := rest } (.invokestatic index) mk argsL.toArray X₁ hg hsize hdg hW (X₁.named hnamed) (hpre vm₁ X₁.warmed) with ⟨v, B, X', hpost, hsteps⟩ | ⟨q, B, X', hpost, hsteps⟩
  · exact Or.inl ⟨v, vm₁, B, X₁.warmed, X', hpost, fun target h => hstep₁ _ fun acts => by rw [doInvoke_state]; exact hsteps.trans h⟩
  · exact Or.inr ⟨q, vm₁, B, X₁.warmed, X', hpost, hstep₁ _ fun acts => by rw [doInvoke_state]; exact hsteps⟩
theorem vx_callVW (X : Stand p l e R s m args below meth c T locs cells slots) (hexec : p.tables.exec = Jvm.exec) {own C : String} {index : Nat} {y : MethodName} {bytes : ByteArray} {maxL : Nat} {ret : Option FieldType} {hh : List (Nat × Nat × Nat × Nat)}
    (hown : s.vm.findClass own = some m.cls) (hlink : (Cond.methodLink own index y).before args s = true) (hinst : (Cond.instanceMethod y).before args s = true) (hsel : (Cond.selects C y y).before args s = true)
    (hcode : (Cond.codeWith y bytes maxL ret hh).before args s = true) (hy : y.cls ≠ "java/lang/invoke/MethodHandle" ∧ y.cls ≠ "java/lang/invoke/VarHandle")
    {W9 : Nat} {Pre : Pt → Array Value → Prop} {Post : Pt → Array Value → Option Value → Pt → Prop} (hK : Back l R p e below s args y 3 W9 Pre Post)
    {b : Addr} {cellB : Cell} (hcell : T.heap[b]? = some cellB) (hobj : cellB.vm.isStatics = false) (hcls : s.vm.findClass C = some cellB.cls)
    {g : JFrame} (hg : g.method = m) (hsize : g.locals.size = c.maxLocals) {argsL rest : List Value} (hlen : ∀ sig, parseMethodDescriptor y.desc = some sig → argsL.length = sig.parameters.length)
    (hstack : g.stack = argsL.reverse ++ .ref b :: rest) (hW : 2 * g.monitorRoom + (rest.map fun v => v.category).sum ≤ W9) (hdg : decode c.code g.pc = .ok (.invokevirtual index, 3))
    (hpre : ∀ vm₁, s.WarmedH vm₁ → Pre ⟨T.setVm vm₁, locs, cells, slots⟩ (Value.ref b :: argsL).toArray) :
    ∃ (v : Option Value) (vm₁ : Vm) (B : Pt), s.WarmedH vm₁ ∧ Stand p l e R s m args below meth c B.U B.locs B.cells B.slots ∧ Post ⟨T.setVm vm₁, locs, cells, slots⟩ (Value.ref b :: argsL).toArray v B ∧
      ∀ target, Steps p.tables e below (B.U.setTop { g with pc := g.pc + 3, stack := v.toList ++ rest }) target → Steps p.tables e below (T.setTop g) target := by
  obtain ⟨mk, methM, hnamed, hmethM, hstM, habM⟩ := Cond.instanceMethod_spec hinst
  obtain ⟨m8, methM', cM, hn8, hmethM', -, -, -, -, -, -, hsigM⟩ := Cond.codeWith_spec hcode
  cases Option.some.inj (hn8.symm.trans hnamed)
  cases hmethM.symm.trans hmethM'
  obtain ⟨c2, r2, m2, q1, q2, q3, q4, kP, hkP, hkPi⟩ := Cond.selects_spec hsel
  cases hcls.symm.trans q1
  cases (State.methodFound?_of_named hnamed hy).symm.trans q2
  cases hnamed.symm.trans q3
  have hselP : selectMethod e.platform s.vm cellB.cls mk = .method mk := by rw [Launch.admits_selectMethod X.admits]; exact q4
  obtain ⟨vm₁, X₁, hstep₁⟩ := X.invokevirtual hexec hown hlink hnamed hmethM hstM hkP hkPi hy (a := b) (cell := cellB) hcell
    (fun z h => by rw [h] at hobj; cases hobj) hselP hmethM habM hkP hkPi (g := g) hg (argsL := argsL) (rest := rest) (hlen _ hsigM) hstack hdg
  obtain ⟨v, B, X', hpost, hsteps⟩ := hK m meth c ⟨T.setVm vm₁, locs, cells, slots⟩ { g with stack := rest } (.invokevirtual index) mk (Value.ref b :: argsL).toArray X₁ hg hsize hdg hW (X₁.named hnamed) (hpre vm₁ X₁.warmed)
  exact ⟨v, vm₁, B, X₁.warmed, X', hpost, fun target h => hstep₁ _ fun acts => by rw [doInvoke_state]; exact hsteps.trans h⟩
abbrev vx_CVW (R : Room) (s : State) (args : Array Value) (own C : String) (index : Nat) (y : MethodName) (bytes : ByteArray) (maxL : Nat) (ret : Option FieldType) (hh : List (Nat × Nat × Nat × Nat)) (ws : List Cond) (rm : Room) (mc ms n : Nat) : Prop :=
  (rm.cells = mc ∧ rm.slots = ms ∧ rm.frames + 1 ≤ R.frames ∧ 8 + (maxL + 11) + rm.locals ≤ R.locals ∧ (∀ w ∈ ws, ∀ (a' : Array Value) (U : State), s.WarmedH U.vm → w.before a' U = true) ∧ Cond.codeWith y bytes maxL ret hh ∈ ws) ∧
  (Cond.codeWith y bytes maxL ret hh).before args s = true ∧ (Cond.initialized y.cls).before args s = true ∧ (y.cls ≠ "java/lang/invoke/MethodHandle" ∧ y.cls ≠ "java/lang/invoke/VarHandle") ∧
  (∀ sig, parseMethodDescriptor y.desc = some sig → n = sig.parameters.length) ∧ (Cond.methodLink own index y).before args s = true ∧ (Cond.instanceMethod y).before args s = true ∧ (Cond.selects C y y).before args s = true
theorem vx_cwVW {own C : String} {index maxL mc ms : Nat} {y : MethodName} {bytes : ByteArray} {ret : Option FieldType} {hh : List (Nat × Nat × Nat × Nat)} {Ts ws ws' : List Cond} {rm : Room} (n : Nat) (ht : ∀ w ∈ Ts, w.before args s = true) (hT : GoodIn Ts (wsV own index C y ws)) (hw : ws = Cond.codeWith y bytes maxL ret hh :: ws') (hrc : rm.cells = mc) (hrs : rm.slots = ms)
    (hd : y.cls = C ∧ y.cls ≠ "java/lang/invoke/MethodHandle" ∧ y.cls ≠ "java/lang/invoke/VarHandle" ∧ (parseMethodDescriptor y.desc).map (fun d => d.parameters.length) = some n) (hR : rm.frames + 1 ≤ R.frames ∧ 8 + (maxL + 11) + rm.locals ≤ R.locals) :
    vx_CVW R s args own C index y bytes maxL ret hh ws rm mc ms n := by
  obtain ⟨hC, hd⟩ := hd
  subst hC
  have ok : ∀ w ∈ wsV own index y.cls y ws, w.before args s = true := fun w h => ht w (hT w h).1
  have hG : GoodIn Ts ws := fun w h => hT w (by unfold wsV; exact List.mem_append_right _ h)
  have hc : Cond.codeWith y bytes maxL ret hh ∈ ws := by rw [hw]; exact List.mem_cons_self
  refine ⟨⟨hrc, hrs, hR.1, hR.2, pay_in ht hG, hc⟩, ht _ (hG _ hc).1, ok _ (by simp [wsV]), ⟨hd.1, hd.2.1⟩, fun sig h => ?_, ok _ (by simp [wsV]), ok _ (by simp [wsV]), ok _ (by simp [wsV])⟩
  have h2 := hd.2.2
  rw [h] at h2
  exact (Option.some.inj h2).symm
theorem vx_runVW {y : MethodName} {bytes cc : ByteArray} {maxL nL mc ms n index : Nat} {ret : Option FieldType} {hh : List (Nat × Nat × Nat × Nat)} {ws : List Cond} {rm : Room} {Pc : Array Value → State → Prop} {Qc : Array Value → State → Outcome → State → Prop} {free : Addr → Prop} {Ts : List Cond} {own C : String} {b : Addr} {As rest : List Value} {g : JFrame}
    (S : CallFix p m c cc nL s args Ts own) (hM : Met l y ws rm Pc Qc mc ms free) (cw : vx_CVW R s args own C index y bytes maxL ret hh ws rm mc ms n) (hp : PreV s H C b Pc As)
    (hg : g.method = m) (hn : As.length = n) (hsize : g.locals.size = nL) (hstack : g.stack = As.reverse ++ .ref b :: rest) (hW : 2 * g.monitorRoom + (rest.map fun v => v.category).sum ≤ 8) (hdg : decode cc g.pc = .ok (.invokevirtual index, 3)) (hf : cells + mc ≤ R.cells ∧ slots + ms ≤ R.slots) :
    va_Run p l e R s m args below meth c H locs cells slots mc ms g rest (Qc (Value.ref b :: As).toArray) free := by
  obtain ⟨⟨hrc, hrs, hfr, hlo, hws, hcw⟩, hcode, hini, hy, hlen, hl, hin, hse⟩ := cw
  have hK : Back l R p e below s args y 3 8 (PreOf R mc ms Pc) (PostOf Qc mc ms free) := va_backW (hh := hh) (bytes := bytes) (maxL := maxL) (ret := ret) hM hp.1 hrc hrs hfr hlo hws hcw (fun a' U hW => word_at hW (Or.inl (by first | rfl | simp [Cond.onTables, Cond.keeps, Cond.steady])) hini)
  obtain ⟨hx, hb, hml, ho, -⟩ := S
  obtain ⟨-, ⟨cellB, hcB, hoB, hclB⟩, hPc⟩ := hp
  intro T hT X
  obtain ⟨v, vm₁, ⟨U', l2, c2, s2⟩, hW₁, X', ⟨g', mk, t, L, e1, e2, hq, h1, hL, h2, h3⟩, st⟩ := vx_callVW X hx (C := C) (hh := hh) (bytes := bytes) (maxL := maxL) (ret := ret) ho hl hin hse hcode hy hK (by rw [hT]; exact hcB) hoB hclB hg (hsize.trans hml.symm) (argsL := As) (rest := rest) (fun sig h => hn.trans (hlen sig h)) hstack hW (by rw [hb]; exact hdg)
    (fun vm₁ hW₁ => ⟨hf.1, hf.2, hPc (T.setVm vm₁) hT hW₁⟩)
  dsimp only [Pt.U, Pt.locs, Pt.cells, Pt.slots] at X' e1 e2 h1 h2 h3 st
  subst h1; subst h2; subst h3
  exact ⟨v, (T.setVm vm₁).calling g' mk (Value.ref b :: As).toArray, t, U', L, hT, X', hL, e1, e2, hq, st⟩
section
variable {y : MethodName} {bytes cc : ByteArray} {maxL nL mc ms n index : Nat} {ret : Option FieldType} {ws : List Cond} {rm : Room} {Pc : Array Value → State → Prop} {Qc : Array Value → State → Outcome → State → Prop} {XC : String → State → State → Prop} {free : Addr → Prop} {Ts : List Cond} {own C : String} {b : Addr} {As rest : List Value} {g : JFrame}
theorem vx_runVX {hh : List (Nat × Nat × Nat × Nat)} (S : CallFix p m c cc nL s args Ts own) (hM : vx_Met l y ws rm Pc Qc XC mc ms free) (cw : vx_CVW R s args own C index y bytes maxL ret hh ws rm mc ms n) (hp : PreV s H C b Pc As)
    (hg : g.method = m) (hn : As.length = n) (hsize : g.locals.size = nL) (hstack : g.stack = As.reverse ++ .ref b :: rest) (hW : 2 * g.monitorRoom + (rest.map fun v => v.category).sum ≤ 8) (hdg : decode cc g.pc = .ok (.invokevirtual index, 3)) (hf : cells + mc ≤ R.cells ∧ slots + ms ≤ R.slots) :
    vx_Run p l e R s m args below meth c H locs cells slots mc ms g rest (Qc (Value.ref b :: As).toArray) XC free := by
  obtain ⟨⟨hrc, hrs, hfr, hlo, hws, hcw⟩, hcode, hini, hy, hlen, hl, hin, hse⟩ := cw
  have hK : vx_Back l R p e below s args y 3 8 (PreOf R mc ms Pc) (PostOf Qc mc ms free) (vx_Post XC mc ms free) := vx_backW (hh := hh) (bytes := bytes) (maxL := maxL) (ret := ret) hM hp.1 hrc hrs hfr hlo hws hcw (fun a' U hW => word_at hW (Or.inl (by first | rfl | simp [Cond.onTables, Cond.keeps, Cond.steady])) hini)
  obtain ⟨hx, hb, hml, ho, -⟩ := S
  obtain ⟨-, ⟨cellB, hcB, hoB, hclB⟩, hPc⟩ := hp
  intro T hT X
  rcases vx_callVX X hx (C := C) (hh := hh) (bytes := bytes) (maxL := maxL) (ret := ret) ho hl hin hse hcode hy hK (by rw [hT]; exact hcB) hoB hclB hg (hsize.trans hml.symm) (argsL := As) (rest := rest) (fun sig h => hn.trans (hlen sig h)) hstack hW (by rw [hb]; exact hdg)
    (fun vm₁ hW₁ => ⟨hf.1, hf.2, hPc (T.setVm vm₁) hT hW₁⟩) with ⟨v, vm₁, ⟨U', l2, c2, s2⟩, hW₁, X', ⟨g', mk, t, L, e1, e2, hq, h1, hL, h2, h3⟩, st⟩ | ⟨q, vm₁, ⟨U', l2, c2, s2⟩, hW₁, X', ⟨g', mk, t, L, E, ce, e1, e2, hq, hce, hcv, hcl, h1, hL, h2, h3⟩, st⟩
  · dsimp only [Pt.U, Pt.locs, Pt.cells, Pt.slots] at X' e1 e2 h1 h2 h3 st
    subst h1; subst h2; subst h3
    exact Or.inl ⟨v, (T.setVm vm₁).calling g' mk (Value.ref b :: As).toArray, t, U', L, hT, X', hL, e1, e2, hq, st⟩
  · dsimp only [Pt.U, Pt.locs, Pt.cells, Pt.slots] at X' e1 e2 h1 h2 h3 st hcl
    subst h1; subst h2; subst h3
    exact Or.inr ⟨q, (T.setVm vm₁).calling g' mk (Value.ref b :: As).toArray, t, U', L, E, ce, hT, X', hL, e1, e2, hq, hce, hcv, vx_cls hW₁ hcl, st⟩
theorem vx_runSX {hh : List (Nat × Nat × Nat × Nat)} (S : CallFix p m c cc nL s args Ts own) (hM : vx_Met l y ws rm Pc Qc XC mc ms free) (cw : vx_CSW R s args own index y bytes maxL ret hh ws rm mc ms n) (hp : PreS s H Pc As)
    (hg : g.method = m) (hn : As.length = n) (hsize : g.locals.size = nL) (hstack : g.stack = As.reverse ++ rest) (hW : 2 * g.monitorRoom + (rest.map fun v => v.category).sum ≤ 8) (hdg : decode cc g.pc = .ok (.invokestatic index, 3)) (hf : cells + mc ≤ R.cells ∧ slots + ms ≤ R.slots) :
    vx_Run p l e R s m args below meth c H locs cells slots mc ms g rest (Qc As.toArray) XC free := by
  obtain ⟨⟨hrc, hrs, hfr, hlo, hws, hcw⟩, hcode, hini, hy, hlen, hl, hstt⟩ := cw
  have hK : vx_Back l R p e below s args y 3 8 (PreOf R mc ms Pc) (PostOf Qc mc ms free) (vx_Post XC mc ms free) := vx_backW (hh := hh) (bytes := bytes) (maxL := maxL) (ret := ret) hM hp.1 hrc hrs hfr hlo hws hcw (fun a' U hW => word_at hW (Or.inl (by first | rfl | simp [Cond.onTables, Cond.keeps, Cond.steady])) hini)
  obtain ⟨hx, hb, hml, ho, -⟩ := S
  intro T hT X
  rcases vx_callSX X hx (hh := hh) (bytes := bytes) (maxL := maxL) (ret := ret) ho hl hstt hini hcode hy hK hg (hsize.trans hml.symm) (argsL := As) (rest := rest) (fun sig h => hn.trans (hlen sig h)) hstack hW (by rw [hb]; exact hdg)
    (fun vm₁ hW₁ => ⟨hf.1, hf.2, hp.2 (T.setVm vm₁) hT hW₁⟩) with ⟨v, vm₁, ⟨U', l2, c2, s2⟩, hW₁, X', ⟨g', mk, t, L, e1, e2, hq, h1, hL, h2, h3⟩, st⟩ | ⟨q, vm₁, ⟨U', l2, c2, s2⟩, hW₁, X', ⟨g', mk, t, L, E, ce, e1, e2, hq, hce, hcv, hcl, h1, hL, h2, h3⟩, st⟩
  · dsimp only [Pt.U, Pt.locs, Pt.cells, Pt.slots] at X' e1 e2 h1 h2 h3 st
    subst h1; subst h2; subst h3
    exact Or.inl ⟨v, (T.setVm vm₁).calling g' mk As.toArray, t, U', L, hT, X', hL, e1, e2, hq, st⟩
  · dsimp only [Pt.U, Pt.locs, Pt.cells, Pt.slots] at X' e1 e2 h1 h2 h3 st hcl
    subst h1; subst h2; subst h3
    exact Or.inr ⟨q, (T.setVm vm₁).calling g' mk As.toArray, t, U', L, E, ce, hT, X', hL, e1, e2, hq, hce, hcv, vx_cls hW₁ hcl, st⟩
end
end VXH
theorem vx_ofWH {l : Launch} {y : MethodName} {ws ws' : List Cond} {rm : Room} {Pc : Array Value → State → Prop} {Qc : Array Value → State → Outcome → State → Prop} {XC : String → State → State → Prop} {mc ms : Nat} {free : Addr → Prop} {cc : ByteArray} {maxL : Nat} {ret : Option FieldType} {hh : List (Nat × Nat × Nat × Nat)}
    (hy : plainName y.cls = true) (hw : ws = Cond.codeWith y cc maxL ret hh :: ws')
    (body : ∀ p e s m args below meth c s₁, BodyLoose p l y (headSpec ws rm) cc maxL ret e s m args below meth c s₁ → c.maxLocals = maxL → Pc args s →
      W p l e (headSpec ws rm).room s m args below meth c s.heap [] 0 0 (vx_MQ below Qc XC args s mc ms free) (entryFrame m args maxL)) : vx_Met l y ws rm Pc Qc XC mc ms free := by
  refine MetFree.of_bodyS (code := cc) (maxLocals := maxL) (ret := ret) hy ?_ ?_
  · intro args s m h hn
    obtain ⟨m9, meth, c, hn9, h1, h2, h3, h4, -, h5, h6, -⟩ := Cond.codeWith_spec (atoms_spec (ws := ws) h _ (by rw [hw]; exact List.mem_cons_self))
    cases hn.symm.trans hn9
    exact ⟨meth, c, h1, h2, h3, h4, h5, h6⟩
  · intro p e s m args below meth c s₁ B hml hP _
    have hh0 : s₁.heap = s.heap := by rw [B.state]; rfl
    obtain ⟨t, a1, o, b1, b2, b3⟩ := body p e s m args below meth c s₁ B hml hP s₁ hh0 (Stand.of_body B)
    exact ⟨t, o, a1, b1, b2, b3⟩
/-! ===== END ===== -/
end
section
/-! the tables' words that stay, by their places; classes, methods; by program out of the Statement -/
def mf_tb : List Cond := lw_tbl.filter goodWord
theorem mf_in {i : Nat} {w : Cond} (h : lw_tbl[i]? = some w) (g : goodWord w = true) : w ∈ mf_tb := List.mem_filter.mpr ⟨List.mem_of_getElem? h, g⟩
theorem mf_in2 {w : Cond} (h : w ∈ tables_1) (g : goodWord w = true) : w ∈ mf_tb := List.mem_filter.mpr ⟨List.mem_append_right _ h, g⟩
def mf_RA : String := "java/util/ArrayList"
def mf_TA : u_T := fun k => match k with
  | 0 => ("java/util/ArrayList", "elementData", "[Ljava/lang/Object;", false)
  | 1 => ("java/util/ArrayList", "size", "I", false)
  | _ => ("java/util/AbstractList", "modCount", "I", false)
def mf_tyA : Nat → FieldType := fun k => match k with
  | 0 => .array (.object "java/lang/Object")
  | 1 => .int
  | _ => .int
def mf_RO : String := "MatchFloor$Order"
def mf_TO : u_T := fun k => match k with
  | 0 => ("MatchFloor$Order", "id", "I", true)
  | 1 => ("MatchFloor$Order", "owner", "I", true)
  | 2 => ("MatchFloor$Order", "side", "I", true)
  | 3 => ("MatchFloor$Order", "waits", "Z", true)
  | 4 => ("MatchFloor$Order", "price", "I", false)
  | _ => ("MatchFloor$Order", "left", "I", false)
def mf_tyO : Nat → FieldType := fun k => match k with
  | 0 => .int
  | 1 => .int
  | 2 => .int
  | 3 => .boolean
  | 4 => .int
  | _ => .int
def mf_RT : String := "MatchFloor$Tape"
def mf_TT : u_T := fun k => match k with
  | 0 => ("MatchFloor$Tape", "rows", "[[I", true)
  | 1 => ("MatchFloor$Tape", "count", "I", false)
  | 2 => ("MatchFloor$Tape", "lastPrice", "I", false)
  | 3 => ("MatchFloor$Tape", "quantity", "I", false)
  | _ => ("MatchFloor$Tape", "worth", "J", false)
def mf_tyT : Nat → FieldType := fun k => match k with
  | 0 => .array (.array .int)
  | 1 => .int
  | 2 => .int
  | 3 => .int
  | _ => .long
def mf_RF : String := "MatchFloor"
def mf_TF : u_T := fun k => match k with
  | 0 => ("MatchFloor", "kept", "Ljava/util/ArrayList;", true)
  | 1 => ("MatchFloor", "tape", "LMatchFloor$Tape;", true)
  | 2 => ("MatchFloor", "dueStops", "I", false)
  | _ => ("MatchFloor", "metTheirOwner", "I", false)
def mf_tyF : Nat → FieldType := fun k => match k with
  | 0 => .object "java/util/ArrayList"
  | 1 => .object "MatchFloor$Tape"
  | 2 => .int
  | _ => .int
def mf_RM : String := "MatchFloorModel"
def mf_TM : u_T := fun k => match k with
  | 0 => ("MatchFloorModel", "code", "I", false)
  | 1 => ("MatchFloorModel", "kept", "I", false)
  | 2 => ("MatchFloorModel", "clock", "I", false)
  | 3 => ("MatchFloorModel", "id", "[I", true)
  | 4 => ("MatchFloorModel", "owner", "[I", true)
  | 5 => ("MatchFloorModel", "side", "[I", true)
  | 6 => ("MatchFloorModel", "price", "[I", true)
  | 7 => ("MatchFloorModel", "left", "[I", true)
  | 8 => ("MatchFloorModel", "time", "[I", true)
  | 9 => ("MatchFloorModel", "waits", "[Z", true)
  | 10 => ("MatchFloorModel", "fills", "I", false)
  | 11 => ("MatchFloorModel", "incoming", "[I", true)
  | 12 => ("MatchFloorModel", "resting", "[I", true)
  | 13 => ("MatchFloorModel", "paid", "[I", true)
  | 14 => ("MatchFloorModel", "many", "[I", true)
  | 15 => ("MatchFloorModel", "last", "I", false)
  | 16 => ("MatchFloorModel", "turnover", "J", false)
  | 17 => ("MatchFloorModel", "volume", "I", false)
  | 18 => ("MatchFloorModel", "stops", "I", false)
  | _ => ("MatchFloorModel", "met", "I", false)
def mf_tyM : Nat → FieldType := fun k => match k with
  | 0 => .int
  | 1 => .int
  | 2 => .int
  | 3 => .array .int
  | 4 => .array .int
  | 5 => .array .int
  | 6 => .array .int
  | 7 => .array .int
  | 8 => .array .int
  | 9 => .array .boolean
  | 10 => .int
  | 11 => .array .int
  | 12 => .array .int
  | 13 => .array .int
  | 14 => .array .int
  | 15 => .int
  | 16 => .long
  | 17 => .int
  | 18 => .int
  | _ => .int
abbrev mf_cl : List vw_C := [(mf_RA, mf_TA, 3), (mf_RO, mf_TO, 6), (mf_RT, mf_TT, 5), (mf_RF, mf_TF, 4), (mf_RM, mf_TM, 20)]
abbrev mc_F_init : ByteArray := prog_1_method_1_code
abbrev my_F_init : MethodName := ⟨"MatchFloor", "<init>", "()V"⟩
abbrev mc_A_init : ByteArray := prog_20_method_2_code
abbrev my_A_init : MethodName := ⟨"java/util/ArrayList", "<init>", "()V"⟩
abbrev mc_AL_init : ByteArray := prog_19_method_1_code
abbrev my_AL_init : MethodName := ⟨"java/util/AbstractList", "<init>", "()V"⟩
abbrev mc_AC_init : ByteArray := prog_18_method_1_code
abbrev my_AC_init : MethodName := ⟨"java/util/AbstractCollection", "<init>", "()V"⟩
abbrev mc_T_init : ByteArray := prog_3_method_1_code
abbrev my_T_init : MethodName := ⟨"MatchFloor$Tape", "<init>", "()V"⟩
abbrev mc_F_fills : ByteArray := prog_1_method_10_code
abbrev my_F_fills : MethodName := ⟨"MatchFloor", "fills", "()I"⟩
abbrev mc_F_last : ByteArray := prog_1_method_11_code
abbrev my_F_last : MethodName := ⟨"MatchFloor", "last", "()I"⟩
abbrev mc_F_turnover : ByteArray := prog_1_method_12_code
abbrev my_F_turnover : MethodName := ⟨"MatchFloor", "turnover", "()J"⟩
abbrev mc_L_submit : ByteArray := method_3_code
abbrev my_L_submit : MethodName := ⟨"MatchFloorLaw", "submit", "(LMatchFloor;IIII[J)I"⟩
abbrev mc_F_submit : ByteArray := prog_1_method_2_code
abbrev my_F_submit : MethodName := ⟨"MatchFloor", "submit", "(IIII)I"⟩
abbrev mc_F_kindOf : ByteArray := prog_1_method_14_code
abbrev my_F_kindOf : MethodName := ⟨"MatchFloor", "kindOf", "(I)I"⟩
abbrev mc_F_isPrice : ByteArray := prog_1_method_16_code
abbrev my_F_isPrice : MethodName := ⟨"MatchFloor", "isPrice", "(I)Z"⟩
abbrev mc_F_isQuantity : ByteArray := prog_1_method_17_code
abbrev my_F_isQuantity : MethodName := ⟨"MatchFloor", "isQuantity", "(I)Z"⟩
abbrev mc_F_placeOf : ByteArray := prog_1_method_20_code
abbrev my_F_placeOf : MethodName := ⟨"MatchFloor", "placeOf", "(I)I"⟩
abbrev mc_A_size : ByteArray := prog_20_method_8_code
abbrev my_A_size : MethodName := ⟨"java/util/ArrayList", "size", "()I"⟩
abbrev mc_A_get : ByteArray := prog_20_method_20_code
abbrev my_A_get : MethodName := ⟨"java/util/ArrayList", "get", "(I)Ljava/lang/Object;"⟩
abbrev mc_Ob_checkIndex : ByteArray := prog_25_method_17_code
abbrev my_Ob_checkIndex : MethodName := ⟨"java/util/Objects", "checkIndex", "(II)I"⟩
abbrev mc_Pc_checkIndex : ByteArray := prog_29_method_11_code
abbrev my_Pc_checkIndex : MethodName := ⟨"jdk/internal/util/Preconditions", "checkIndex", "(IILjava/util/function/BiFunction;)I"⟩
abbrev mc_A_elementData : ByteArray := prog_20_method_18_code
abbrev my_A_elementData : MethodName := ⟨"java/util/ArrayList", "elementData", "(I)Ljava/lang/Object;"⟩
abbrev mc_O_init : ByteArray := prog_2_method_1_code
abbrev my_O_init : MethodName := ⟨"MatchFloor$Order", "<init>", "(IIIZII)V"⟩
abbrev mc_F_isRefused : ByteArray := prog_1_method_23_code
abbrev my_F_isRefused : MethodName := ⟨"MatchFloor", "isRefused", "(LMatchFloor$Order;I)Z"⟩
abbrev mc_F_leftFor : ByteArray := prog_1_method_24_code
abbrev my_F_leftFor : MethodName := ⟨"MatchFloor", "leftFor", "(LMatchFloor$Order;)I"⟩
abbrev mc_F_otherSide : ByteArray := prog_1_method_18_code
abbrev my_F_otherSide : MethodName := ⟨"MatchFloor", "otherSide", "(I)I"⟩
abbrev mc_O_restsOn : ByteArray := prog_2_method_2_code
abbrev my_O_restsOn : MethodName := ⟨"MatchFloor$Order", "restsOn", "(I)Z"⟩
abbrev mc_O_isFitBy : ByteArray := prog_2_method_3_code
abbrev my_O_isFitBy : MethodName := ⟨"MatchFloor$Order", "isFitBy", "(I)Z"⟩
abbrev mc_F_isBetter : ByteArray := prog_1_method_19_code
abbrev my_F_isBetter : MethodName := ⟨"MatchFloor", "isBetter", "(III)Z"⟩
abbrev mc_F_placeOfFirst : ByteArray := prog_1_method_21_code
abbrev my_F_placeOfFirst : MethodName := ⟨"MatchFloor", "placeOfFirst", "(I)I"⟩
abbrev mc_F_comeIn : ByteArray := prog_1_method_25_code
abbrev my_F_comeIn : MethodName := ⟨"MatchFloor", "comeIn", "(LMatchFloor$Order;I)I"⟩
abbrev mc_F_match : ByteArray := prog_1_method_27_code
abbrev my_F_match : MethodName := ⟨"MatchFloor", "match", "(LMatchFloor$Order;I)V"⟩
abbrev mc_F_meet : ByteArray := prog_1_method_28_code
abbrev my_F_meet : MethodName := ⟨"MatchFloor", "meet", "(LMatchFloor$Order;I)V"⟩
abbrev mc_A_remove : ByteArray := prog_20_method_29_code
abbrev my_A_remove : MethodName := ⟨"java/util/ArrayList", "remove", "(I)Ljava/lang/Object;"⟩
abbrev mc_A_fastRemove : ByteArray := prog_20_method_39_code
abbrev my_A_fastRemove : MethodName := ⟨"java/util/ArrayList", "fastRemove", "([Ljava/lang/Object;I)V"⟩
abbrev mc_Ma_min : ByteArray := prog_13_method_69_code
abbrev my_Ma_min : MethodName := ⟨"java/lang/Math", "min", "(II)I"⟩
abbrev mc_T_write : ByteArray := prog_3_method_2_code
abbrev my_T_write : MethodName := ⟨"MatchFloor$Tape", "write", "(IIII)V"⟩
abbrev mc_Ma_floorMod : ByteArray := prog_13_method_50_code
abbrev my_Ma_floorMod : MethodName := ⟨"java/lang/Math", "floorMod", "(II)I"⟩
abbrev mc_A_add : ByteArray := prog_20_method_25_code
abbrev my_A_add : MethodName := ⟨"java/util/ArrayList", "add", "(Ljava/lang/Object;)Z"⟩
abbrev mc_A_add2 : ByteArray := prog_20_method_24_code
abbrev my_A_add2 : MethodName := ⟨"java/util/ArrayList", "add", "(Ljava/lang/Object;[Ljava/lang/Object;I)V"⟩
abbrev mc_A_grow : ByteArray := prog_20_method_7_code
abbrev my_A_grow : MethodName := ⟨"java/util/ArrayList", "grow", "()[Ljava/lang/Object;"⟩
abbrev mc_A_grow1 : ByteArray := prog_20_method_6_code
abbrev my_A_grow1 : MethodName := ⟨"java/util/ArrayList", "grow", "(I)[Ljava/lang/Object;"⟩
abbrev mc_As_newLength : ByteArray := prog_28_method_27_code
abbrev my_As_newLength : MethodName := ⟨"jdk/internal/util/ArraysSupport", "newLength", "(III)I"⟩
abbrev mc_Ma_max : ByteArray := prog_13_method_65_code
abbrev my_Ma_max : MethodName := ⟨"java/lang/Math", "max", "(II)I"⟩
abbrev mc_As_hugeLength : ByteArray := prog_28_method_28_code
abbrev my_As_hugeLength : MethodName := ⟨"jdk/internal/util/ArraysSupport", "hugeLength", "(II)I"⟩
abbrev mc_Ar_copyOf : ByteArray := prog_21_method_119_code
abbrev my_Ar_copyOf : MethodName := ⟨"java/util/Arrays", "copyOf", "([Ljava/lang/Object;I)[Ljava/lang/Object;"⟩
abbrev mc_Ar_copyOf2 : ByteArray := prog_21_method_120_code
abbrev my_Ar_copyOf2 : MethodName := ⟨"java/util/Arrays", "copyOf", "([Ljava/lang/Object;ILjava/lang/Class;)[Ljava/lang/Object;"⟩
abbrev mc_F_matchDueStops : ByteArray := prog_1_method_26_code
abbrev my_F_matchDueStops : MethodName := ⟨"MatchFloor", "matchDueStops", "()V"⟩
abbrev mc_F_placeOfDue : ByteArray := prog_1_method_22_code
abbrev my_F_placeOfDue : MethodName := ⟨"MatchFloor", "placeOfDue", "()I"⟩
abbrev mc_O_isDueAt : ByteArray := prog_2_method_4_code
abbrev my_O_isDueAt : MethodName := ⟨"MatchFloor$Order", "isDueAt", "(I)Z"⟩
abbrev mc_L_cancel : ByteArray := method_4_code
abbrev my_L_cancel : MethodName := ⟨"MatchFloorLaw", "cancel", "(LMatchFloor;I[J)I"⟩
abbrev mc_F_cancel : ByteArray := prog_1_method_3_code
abbrev my_F_cancel : MethodName := ⟨"MatchFloor", "cancel", "(I)I"⟩
abbrev mc_L_amend : ByteArray := method_5_code
abbrev my_L_amend : MethodName := ⟨"MatchFloorLaw", "amend", "(LMatchFloor;III[J)I"⟩
abbrev mc_F_amend : ByteArray := prog_1_method_4_code
abbrev my_F_amend : MethodName := ⟨"MatchFloor", "amend", "(III)I"⟩
abbrev mc_L_withdraw : ByteArray := method_6_code
abbrev my_L_withdraw : MethodName := ⟨"MatchFloorLaw", "withdraw", "(LMatchFloor;I[J)I"⟩
abbrev mc_F_withdraw : ByteArray := prog_1_method_5_code
abbrev my_F_withdraw : MethodName := ⟨"MatchFloor", "withdraw", "(I)I"⟩
abbrev mc_L_levels : ByteArray := method_7_code
abbrev my_L_levels : MethodName := ⟨"MatchFloorLaw", "levels", "(LMatchFloor;I[J)I"⟩
abbrev mc_F_levels : ByteArray := prog_1_method_6_code
abbrev my_F_levels : MethodName := ⟨"MatchFloor", "levels", "(I)I"⟩
abbrev mc_F_isSide : ByteArray := prog_1_method_15_code
abbrev my_F_isSide : MethodName := ⟨"MatchFloor", "isSide", "(I)Z"⟩
abbrev mc_F_countLevels : ByteArray := prog_1_method_29_code
abbrev my_F_countLevels : MethodName := ⟨"MatchFloor", "countLevels", "(I)I"⟩
abbrev mc_F_nextPrice : ByteArray := prog_1_method_31_code
abbrev my_F_nextPrice : MethodName := ⟨"MatchFloor", "nextPrice", "(II)I"⟩
abbrev mc_L_level : ByteArray := method_8_code
abbrev my_L_level : MethodName := ⟨"MatchFloorLaw", "level", "(LMatchFloor;III[J)I"⟩
abbrev mc_F_level : ByteArray := prog_1_method_7_code
abbrev my_F_level : MethodName := ⟨"MatchFloor", "level", "(III)I"⟩
abbrev mc_F_priceOfLevel : ByteArray := prog_1_method_30_code
abbrev my_F_priceOfLevel : MethodName := ⟨"MatchFloor", "priceOfLevel", "(II)I"⟩
abbrev mc_F_leftAt : ByteArray := prog_1_method_32_code
abbrev my_F_leftAt : MethodName := ⟨"MatchFloor", "leftAt", "(II)I"⟩
abbrev mc_F_ordersAt : ByteArray := prog_1_method_33_code
abbrev my_F_ordersAt : MethodName := ⟨"MatchFloor", "ordersAt", "(II)I"⟩
abbrev mc_L_order : ByteArray := method_9_code
abbrev my_L_order : MethodName := ⟨"MatchFloorLaw", "order", "(LMatchFloor;II[J)I"⟩
abbrev mc_F_order : ByteArray := prog_1_method_8_code
abbrev my_F_order : MethodName := ⟨"MatchFloor", "order", "(II)I"⟩
abbrev mc_F_ordersBefore : ByteArray := prog_1_method_34_code
abbrev my_F_ordersBefore : MethodName := ⟨"MatchFloor", "ordersBefore", "(I)I"⟩
abbrev mc_O_queuesWith : ByteArray := prog_2_method_5_code
abbrev my_O_queuesWith : MethodName := ⟨"MatchFloor$Order", "queuesWith", "(LMatchFloor$Order;)Z"⟩
abbrev mc_L_fill : ByteArray := method_10_code
abbrev my_L_fill : MethodName := ⟨"MatchFloorLaw", "fill", "(LMatchFloor;II[J)I"⟩
abbrev mc_F_fill : ByteArray := prog_1_method_9_code
abbrev my_F_fill : MethodName := ⟨"MatchFloor", "fill", "(II)I"⟩
abbrev mc_T_read : ByteArray := prog_3_method_3_code
abbrev my_T_read : MethodName := ⟨"MatchFloor$Tape", "read", "(II)I"⟩
abbrev mc_L_figure : ByteArray := method_11_code
abbrev my_L_figure : MethodName := ⟨"MatchFloorLaw", "figure", "(LMatchFloor;I[J)I"⟩
abbrev mc_F_figure : ByteArray := prog_1_method_13_code
abbrev my_F_figure : MethodName := ⟨"MatchFloor", "figure", "(I)I"⟩
abbrev mc_F_countWaiting : ByteArray := prog_1_method_35_code
abbrev my_F_countWaiting : MethodName := ⟨"MatchFloor", "countWaiting", "()I"⟩
abbrev mc_M_init : ByteArray := prog_5_method_1_code
abbrev my_M_init : MethodName := ⟨"MatchFloorModel", "<init>", "()V"⟩
abbrev mc_M_thrown : ByteArray := prog_5_method_2_code
abbrev my_M_thrown : MethodName := ⟨"MatchFloorModel", "thrown", "()I"⟩
abbrev mc_M_submit : ByteArray := prog_5_method_17_code
abbrev my_M_submit : MethodName := ⟨"MatchFloorModel", "submit", "(IIII)I"⟩
abbrev mc_M_among : ByteArray := prog_5_method_16_code
abbrev my_M_among : MethodName := ⟨"MatchFloorModel", "among", "(III)Z"⟩
abbrev mc_M_find : ByteArray := prog_5_method_3_code
abbrev my_M_find : MethodName := ⟨"MatchFloorModel", "find", "(I)I"⟩
abbrev mc_M_refused : ByteArray := prog_5_method_15_code
abbrev my_M_refused : MethodName := ⟨"MatchFloorModel", "refused", "(IIIII)Z"⟩
abbrev mc_M_within : ByteArray := prog_5_method_14_code
abbrev my_M_within : MethodName := ⟨"MatchFloorModel", "within", "(III)I"⟩
abbrev mc_M_fits : ByteArray := prog_5_method_8_code
abbrev my_M_fits : MethodName := ⟨"MatchFloorModel", "fits", "(III)Z"⟩
abbrev mc_M_first : ByteArray := prog_5_method_7_code
abbrev my_M_first : MethodName := ⟨"MatchFloorModel", "first", "(I)I"⟩
abbrev mc_M_comesBefore : ByteArray := prog_5_method_6_code
abbrev my_M_comesBefore : MethodName := ⟨"MatchFloorModel", "comesBefore", "(II)Z"⟩
abbrev mc_M_match : ByteArray := prog_5_method_10_code
abbrev my_M_match : MethodName := ⟨"MatchFloorModel", "match", "(IIIII)I"⟩
abbrev mc_M_drop : ByteArray := prog_5_method_5_code
abbrev my_M_drop : MethodName := ⟨"MatchFloorModel", "drop", "(I)V"⟩
abbrev mc_M_tell : ByteArray := prog_5_method_9_code
abbrev my_M_tell : MethodName := ⟨"MatchFloorModel", "tell", "(III)V"⟩
abbrev mc_M_keep : ByteArray := prog_5_method_4_code
abbrev my_M_keep : MethodName := ⟨"MatchFloorModel", "keep", "(IIIII)V"⟩
abbrev mc_M_runStops : ByteArray := prog_5_method_13_code
abbrev my_M_runStops : MethodName := ⟨"MatchFloorModel", "runStops", "()V"⟩
abbrev mc_M_earliestDue : ByteArray := prog_5_method_12_code
abbrev my_M_earliestDue : MethodName := ⟨"MatchFloorModel", "earliestDue", "()I"⟩
abbrev mc_M_isDue : ByteArray := prog_5_method_11_code
abbrev my_M_isDue : MethodName := ⟨"MatchFloorModel", "isDue", "(I)Z"⟩
abbrev mc_M_cancel : ByteArray := prog_5_method_18_code
abbrev my_M_cancel : MethodName := ⟨"MatchFloorModel", "cancel", "(I)I"⟩
abbrev mc_M_amend : ByteArray := prog_5_method_19_code
abbrev my_M_amend : MethodName := ⟨"MatchFloorModel", "amend", "(III)I"⟩
abbrev mc_M_withdraw : ByteArray := prog_5_method_20_code
abbrev my_M_withdraw : MethodName := ⟨"MatchFloorModel", "withdraw", "(I)I"⟩
abbrev mc_M_levels : ByteArray := prog_5_method_22_code
abbrev my_M_levels : MethodName := ⟨"MatchFloorModel", "levels", "(I)I"⟩
abbrev mc_M_nextPrice : ByteArray := prog_5_method_21_code
abbrev my_M_nextPrice : MethodName := ⟨"MatchFloorModel", "nextPrice", "(II)I"⟩
abbrev mc_M_level : ByteArray := prog_5_method_23_code
abbrev my_M_level : MethodName := ⟨"MatchFloorModel", "level", "(III)I"⟩
abbrev mc_M_order : ByteArray := prog_5_method_24_code
abbrev my_M_order : MethodName := ⟨"MatchFloorModel", "order", "(II)I"⟩
abbrev mc_M_fill : ByteArray := prog_5_method_25_code
abbrev my_M_fill : MethodName := ⟨"MatchFloorModel", "fill", "(II)I"⟩
abbrev mc_M_fills : ByteArray := prog_5_method_26_code
abbrev my_M_fills : MethodName := ⟨"MatchFloorModel", "fills", "()I"⟩
abbrev mc_M_last : ByteArray := prog_5_method_27_code
abbrev my_M_last : MethodName := ⟨"MatchFloorModel", "last", "()I"⟩
abbrev mc_M_turnover : ByteArray := prog_5_method_28_code
abbrev my_M_turnover : MethodName := ⟨"MatchFloorModel", "turnover", "()J"⟩
abbrev mc_M_figure : ByteArray := prog_5_method_29_code
abbrev my_M_figure : MethodName := ⟨"MatchFloorModel", "figure", "(I)I"⟩
abbrev mc_L_law : ByteArray := code
abbrev my_L_law : MethodName := ⟨"MatchFloorLaw", "law", "([I)Z"⟩
end
section
/-! words of the tables -/
set_option maxRecDepth 20000 in
theorem mt_0 : (Cond.initialized "MatchFloorLaw") ∈ mf_tb := mf_in (i := 41) (by decide +kernel) (by decide +kernel)
set_option maxRecDepth 20000 in
theorem mt_1 : (Cond.initialized "MatchFloor") ∈ mf_tb := mf_in (i := 42) (by decide +kernel) (by decide +kernel)
set_option maxRecDepth 20000 in
theorem mt_2 : (Cond.initialized "java/util/AbstractCollection") ∈ mf_tb := mf_in (i := 43) (by decide +kernel) (by decide +kernel)
set_option maxRecDepth 20000 in
theorem mt_3 : (Cond.initialized "java/util/AbstractList") ∈ mf_tb := mf_in (i := 44) (by decide +kernel) (by decide +kernel)
set_option maxRecDepth 20000 in
theorem mt_4 : (Cond.initialized "java/util/ArrayList") ∈ mf_tb := mf_in (i := 45) (by decide +kernel) (by decide +kernel)
set_option maxRecDepth 20000 in
theorem mt_5 : (Cond.initialized "MatchFloor$Tape") ∈ mf_tb := mf_in (i := 46) (by decide +kernel) (by decide +kernel)
set_option maxRecDepth 20000 in
theorem mt_6 : (Cond.initialized "MatchFloorModel") ∈ mf_tb := mf_in (i := 47) (by decide +kernel) (by decide +kernel)
set_option maxRecDepth 20000 in
theorem mt_7 : (Cond.initialized "java/lang/Throwable") ∈ mf_tb := mf_in (i := 48) (by decide +kernel) (by decide +kernel)
set_option maxRecDepth 20000 in
theorem mt_8 : (Cond.initialized "java/lang/Exception") ∈ mf_tb := mf_in (i := 49) (by decide +kernel) (by decide +kernel)
set_option maxRecDepth 20000 in
theorem mt_9 : (Cond.initialized "java/lang/RuntimeException") ∈ mf_tb := mf_in (i := 50) (by decide +kernel) (by decide +kernel)
set_option maxRecDepth 20000 in
theorem mt_10 : (Cond.initialized "java/lang/IllegalArgumentException") ∈ mf_tb := mf_in (i := 51) (by decide +kernel) (by decide +kernel)
set_option maxRecDepth 20000 in
theorem mt_11 : (Cond.initialized "java/util/Objects") ∈ mf_tb := mf_in (i := 52) (by decide +kernel) (by decide +kernel)
set_option maxRecDepth 20000 in
theorem mt_12 : (Cond.initialized "jdk/internal/util/Preconditions") ∈ mf_tb := mf_in (i := 53) (by decide +kernel) (by decide +kernel)
set_option maxRecDepth 20000 in
theorem mt_13 : (Cond.initialized "java/lang/IllegalStateException") ∈ mf_tb := mf_in (i := 54) (by decide +kernel) (by decide +kernel)
set_option maxRecDepth 20000 in
theorem mt_14 : (Cond.initialized "MatchFloor$Order") ∈ mf_tb := mf_in (i := 55) (by decide +kernel) (by decide +kernel)
set_option maxRecDepth 20000 in
theorem mt_15 : (Cond.initialized "java/lang/System") ∈ mf_tb := mf_in (i := 56) (by decide +kernel) (by decide +kernel)
set_option maxRecDepth 20000 in
theorem mt_16 : (Cond.initialized "java/lang/Math") ∈ mf_tb := mf_in (i := 57) (by decide +kernel) (by decide +kernel)
set_option maxRecDepth 20000 in
theorem mt_17 : (Cond.initialized "jdk/internal/util/ArraysSupport") ∈ mf_tb := mf_in (i := 58) (by decide +kernel) (by decide +kernel)
set_option maxRecDepth 20000 in
theorem mt_18 : (Cond.initialized "java/util/Arrays") ∈ mf_tb := mf_in (i := 59) (by decide +kernel) (by decide +kernel)
set_option maxRecDepth 20000 in
theorem mt_19 : (Cond.initialized "java/util/NoSuchElementException") ∈ mf_tb := mf_in (i := 60) (by decide +kernel) (by decide +kernel)
set_option maxRecDepth 20000 in
theorem mt_20 : (Cond.initialized "java/lang/IndexOutOfBoundsException") ∈ mf_tb := mf_in (i := 61) (by decide +kernel) (by decide +kernel)
set_option maxRecDepth 20000 in
theorem mt_21 : (Cond.classLink "MatchFloorLaw" 8 "MatchFloor") ∈ mf_tb := mf_in (i := 62) (by decide +kernel) (by decide +kernel)
set_option maxRecDepth 20000 in
theorem mt_22 : (Cond.instantiable "MatchFloor" 4) ∈ mf_tb := mf_in (i := 63) (by decide +kernel) (by decide +kernel)
set_option maxRecDepth 20000 in
theorem mt_23 : (Cond.methodLink "MatchFloorLaw" 48 ⟨"MatchFloor", "<init>", "()V"⟩) ∈ mf_tb := mf_in (i := 64) (by decide +kernel) (by decide +kernel)
set_option maxRecDepth 20000 in
theorem mt_24 : (Cond.instanceMethod ⟨"MatchFloor", "<init>", "()V"⟩) ∈ mf_tb := mf_in (i := 65) (by decide +kernel) (by decide +kernel)
set_option maxRecDepth 20000 in
theorem mt_25 : (Cond.code ⟨"MatchFloor", "<init>", "()V"⟩ prog_1_method_1_code 1 (Option.none : Option FieldType)) ∈ mf_tb := mf_in (i := 66) (by rfl) (by rfl)
set_option maxRecDepth 20000 in
theorem mt_26 : (Cond.methodLink "MatchFloor" 1 ⟨"java/lang/Object", "<init>", "()V"⟩) ∈ mf_tb := mf_in (i := 67) (by decide +kernel) (by decide +kernel)
set_option maxRecDepth 20000 in
theorem mt_27 : (Cond.instanceMethod ⟨"java/lang/Object", "<init>", "()V"⟩) ∈ mf_tb := mf_in (i := 68) (by decide +kernel) (by decide +kernel)
set_option maxRecDepth 20000 in
theorem mt_28 : (Cond.code ⟨"java/lang/Object", "<init>", "()V"⟩ object_method_1_code 1 (Option.none : Option FieldType)) ∈ mf_tb := mf_in (i := 69) (by rfl) (by rfl)
set_option maxRecDepth 20000 in
theorem mt_29 : (Cond.classLink "MatchFloor" 7 "java/util/ArrayList") ∈ mf_tb := mf_in (i := 70) (by decide +kernel) (by decide +kernel)
set_option maxRecDepth 20000 in
theorem mt_30 : (Cond.instantiable "java/util/ArrayList" 3) ∈ mf_tb := mf_in (i := 71) (by decide +kernel) (by decide +kernel)
set_option maxRecDepth 20000 in
theorem mt_31 : (Cond.methodLink "MatchFloor" 9 ⟨"java/util/ArrayList", "<init>", "()V"⟩) ∈ mf_tb := mf_in (i := 72) (by decide +kernel) (by decide +kernel)
set_option maxRecDepth 20000 in
theorem mt_32 : (Cond.instanceMethod ⟨"java/util/ArrayList", "<init>", "()V"⟩) ∈ mf_tb := mf_in (i := 73) (by decide +kernel) (by decide +kernel)
set_option maxRecDepth 20000 in
theorem mt_33 : (Cond.code ⟨"java/util/ArrayList", "<init>", "()V"⟩ prog_20_method_2_code 1 (Option.none : Option FieldType)) ∈ mf_tb := mf_in (i := 74) (by rfl) (by rfl)
set_option maxRecDepth 20000 in
theorem mt_34 : (Cond.methodLink "java/util/ArrayList" 1 ⟨"java/util/AbstractList", "<init>", "()V"⟩) ∈ mf_tb := mf_in (i := 75) (by decide +kernel) (by decide +kernel)
set_option maxRecDepth 20000 in
theorem mt_35 : (Cond.instanceMethod ⟨"java/util/AbstractList", "<init>", "()V"⟩) ∈ mf_tb := mf_in (i := 76) (by decide +kernel) (by decide +kernel)
set_option maxRecDepth 20000 in
theorem mt_36 : (Cond.code ⟨"java/util/AbstractList", "<init>", "()V"⟩ prog_19_method_1_code 1 (Option.none : Option FieldType)) ∈ mf_tb := mf_in (i := 77) (by rfl) (by rfl)
set_option maxRecDepth 20000 in
theorem mt_37 : (Cond.methodLink "java/util/AbstractList" 1 ⟨"java/util/AbstractCollection", "<init>", "()V"⟩) ∈ mf_tb := mf_in (i := 78) (by decide +kernel) (by decide +kernel)
set_option maxRecDepth 20000 in
theorem mt_38 : (Cond.instanceMethod ⟨"java/util/AbstractCollection", "<init>", "()V"⟩) ∈ mf_tb := mf_in (i := 79) (by decide +kernel) (by decide +kernel)
set_option maxRecDepth 20000 in
theorem mt_39 : (Cond.code ⟨"java/util/AbstractCollection", "<init>", "()V"⟩ prog_18_method_1_code 1 (Option.none : Option FieldType)) ∈ mf_tb := mf_in (i := 80) (by rfl) (by rfl)
set_option maxRecDepth 20000 in
theorem mt_40 : (Cond.methodLink "java/util/AbstractCollection" 1 ⟨"java/lang/Object", "<init>", "()V"⟩) ∈ mf_tb := mf_in (i := 81) (by decide +kernel) (by decide +kernel)
set_option maxRecDepth 20000 in
theorem mt_41 : (Cond.fieldLink "java/util/ArrayList" 39 "java/util/ArrayList" "DEFAULTCAPACITY_EMPTY_ELEMENTDATA" "[Ljava/lang/Object;") ∈ mf_tb := mf_in (i := 82) (by decide +kernel) (by decide +kernel)
set_option maxRecDepth 20000 in
theorem mt_43 : (Cond.fieldLink "java/util/ArrayList" 9 "java/util/ArrayList" "elementData" "[Ljava/lang/Object;") ∈ mf_tb := mf_in (i := 84) (by decide +kernel) (by decide +kernel)
set_option maxRecDepth 20000 in
theorem mt_44 : (Cond.fieldLink "java/util/ArrayList" 48 "java/util/ArrayList" "size" "I") ∈ mf_tb := mf_in (i := 85) (by decide +kernel) (by decide +kernel)
set_option maxRecDepth 20000 in
theorem mt_45 : (Cond.fieldLink "java/util/AbstractList" 7 "java/util/AbstractList" "modCount" "I") ∈ mf_tb := mf_in (i := 86) (by decide +kernel) (by decide +kernel)
set_option maxRecDepth 20000 in
theorem mt_46 : (Cond.fieldLink "java/util/ArrayList" 63 "java/util/ArrayList" "modCount" "I") ∈ mf_tb := mf_in (i := 87) (by decide +kernel) (by decide +kernel)
set_option maxRecDepth 20000 in
theorem mt_47 : (Cond.sameField "java/util/ArrayList" "java/util/AbstractList" "modCount" "I") ∈ mf_tb := mf_in (i := 88) (by decide +kernel) (by decide +kernel)
set_option maxRecDepth 20000 in
theorem mt_48 : (Cond.lays "java/util/ArrayList" "java/util/ArrayList" "elementData" "[Ljava/lang/Object;") ∈ mf_tb := mf_in (i := 89) (by decide +kernel) (by decide +kernel)
set_option maxRecDepth 20000 in
theorem mt_50 : (Cond.lays "java/util/ArrayList" "java/util/ArrayList" "size" "I") ∈ mf_tb := mf_in (i := 91) (by decide +kernel) (by decide +kernel)
set_option maxRecDepth 20000 in
theorem mt_52 : (Cond.lays "java/util/ArrayList" "java/util/AbstractList" "modCount" "I") ∈ mf_tb := mf_in (i := 93) (by decide +kernel) (by decide +kernel)
set_option maxRecDepth 20000 in
theorem mt_55 : (Cond.classLink "MatchFloor" 16 "MatchFloor$Tape") ∈ mf_tb := mf_in (i := 96) (by decide +kernel) (by decide +kernel)
set_option maxRecDepth 20000 in
theorem mt_56 : (Cond.instantiable "MatchFloor$Tape" 5) ∈ mf_tb := mf_in (i := 97) (by decide +kernel) (by decide +kernel)
set_option maxRecDepth 20000 in
theorem mt_58 : (Cond.instanceMethod ⟨"MatchFloor$Tape", "<init>", "()V"⟩) ∈ mf_tb := mf_in (i := 99) (by decide +kernel) (by decide +kernel)
set_option maxRecDepth 20000 in
theorem mt_59 : (Cond.code ⟨"MatchFloor$Tape", "<init>", "()V"⟩ prog_3_method_1_code 1 (Option.none : Option FieldType)) ∈ mf_tb := mf_in (i := 100) (by rfl) (by rfl)
set_option maxRecDepth 20000 in
theorem mt_60 : (Cond.methodLink "MatchFloor$Tape" 3 ⟨"java/lang/Object", "<init>", "()V"⟩) ∈ mf_tb := mf_in (i := 101) (by decide +kernel) (by decide +kernel)
set_option maxRecDepth 20000 in
theorem mt_61 : (Cond.classLink "MatchFloor$Tape" 11 "[[I") ∈ mf_tb := mf_in (i := 102) (by decide +kernel) (by decide +kernel)
set_option maxRecDepth 20000 in
theorem mt_63 : (Cond.fieldLink "MatchFloor$Tape" 13 "MatchFloor$Tape" "rows" "[[I") ∈ mf_tb := mf_in (i := 104) (by decide +kernel) (by decide +kernel)
set_option maxRecDepth 20000 in
theorem mt_64 : (Cond.fieldLink "MatchFloor$Tape" 20 "MatchFloor$Tape" "count" "I") ∈ mf_tb := mf_in (i := 105) (by decide +kernel) (by decide +kernel)
set_option maxRecDepth 20000 in
theorem mt_66 : (Cond.fieldLink "MatchFloor$Tape" 16 "MatchFloor$Tape" "lastPrice" "I") ∈ mf_tb := mf_in (i := 107) (by decide +kernel) (by decide +kernel)
set_option maxRecDepth 20000 in
theorem mt_68 : (Cond.fieldLink "MatchFloor$Tape" 29 "MatchFloor$Tape" "quantity" "I") ∈ mf_tb := mf_in (i := 109) (by decide +kernel) (by decide +kernel)
set_option maxRecDepth 20000 in
theorem mt_70 : (Cond.fieldLink "MatchFloor$Tape" 32 "MatchFloor$Tape" "worth" "J") ∈ mf_tb := mf_in (i := 111) (by decide +kernel) (by decide +kernel)
set_option maxRecDepth 20000 in
theorem mt_72 : (Cond.laysFinal "MatchFloor$Tape" "MatchFloor$Tape" "rows" "[[I") ∈ mf_tb := mf_in (i := 113) (by decide +kernel) (by decide +kernel)
set_option maxRecDepth 20000 in
theorem mt_74 : (Cond.lays "MatchFloor$Tape" "MatchFloor$Tape" "count" "I") ∈ mf_tb := mf_in (i := 115) (by decide +kernel) (by decide +kernel)
set_option maxRecDepth 20000 in
theorem mt_76 : (Cond.lays "MatchFloor$Tape" "MatchFloor$Tape" "lastPrice" "I") ∈ mf_tb := mf_in (i := 117) (by decide +kernel) (by decide +kernel)
set_option maxRecDepth 20000 in
theorem mt_78 : (Cond.lays "MatchFloor$Tape" "MatchFloor$Tape" "quantity" "I") ∈ mf_tb := mf_in (i := 119) (by decide +kernel) (by decide +kernel)
set_option maxRecDepth 20000 in
theorem mt_80 : (Cond.lays "MatchFloor$Tape" "MatchFloor$Tape" "worth" "J") ∈ mf_tb := mf_in (i := 121) (by decide +kernel) (by decide +kernel)
set_option maxRecDepth 20000 in
theorem mt_83 : (Cond.arrayClass FieldType.int) ∈ mf_tb := mf_in (i := 124) (by decide +kernel) (by decide +kernel)
set_option maxRecDepth 20000 in
theorem mt_84 : (Cond.fieldLink "MatchFloor" 10 "MatchFloor" "kept" "Ljava/util/ArrayList;") ∈ mf_tb := mf_in (i := 125) (by decide +kernel) (by decide +kernel)
set_option maxRecDepth 20000 in
theorem mt_85 : (Cond.fieldLink "MatchFloor" 19 "MatchFloor" "tape" "LMatchFloor$Tape;") ∈ mf_tb := mf_in (i := 126) (by decide +kernel) (by decide +kernel)
set_option maxRecDepth 20000 in
theorem mt_86 : (Cond.fieldLink "MatchFloor" 151 "MatchFloor" "dueStops" "I") ∈ mf_tb := mf_in (i := 127) (by decide +kernel) (by decide +kernel)
set_option maxRecDepth 20000 in
theorem mt_87 : (Cond.fieldLink "MatchFloor" 154 "MatchFloor" "metTheirOwner" "I") ∈ mf_tb := mf_in (i := 128) (by decide +kernel) (by decide +kernel)
set_option maxRecDepth 20000 in
theorem mt_88 : (Cond.laysFinal "MatchFloor" "MatchFloor" "kept" "Ljava/util/ArrayList;") ∈ mf_tb := mf_in (i := 129) (by decide +kernel) (by decide +kernel)
set_option maxRecDepth 20000 in
theorem mt_90 : (Cond.laysFinal "MatchFloor" "MatchFloor" "tape" "LMatchFloor$Tape;") ∈ mf_tb := mf_in (i := 131) (by decide +kernel) (by decide +kernel)
set_option maxRecDepth 20000 in
theorem mt_92 : (Cond.lays "MatchFloor" "MatchFloor" "dueStops" "I") ∈ mf_tb := mf_in (i := 133) (by decide +kernel) (by decide +kernel)
set_option maxRecDepth 20000 in
theorem mt_94 : (Cond.lays "MatchFloor" "MatchFloor" "metTheirOwner" "I") ∈ mf_tb := mf_in (i := 135) (by decide +kernel) (by decide +kernel)
set_option maxRecDepth 20000 in
theorem mt_97 : (Cond.methodLink "MatchFloorLaw" 86 ⟨"MatchFloor", "fills", "()I"⟩) ∈ mf_tb := mf_in (i := 138) (by decide +kernel) (by decide +kernel)
set_option maxRecDepth 20000 in
theorem mt_98 : (Cond.instanceMethod ⟨"MatchFloor", "fills", "()I"⟩) ∈ mf_tb := mf_in (i := 139) (by decide +kernel) (by decide +kernel)
set_option maxRecDepth 20000 in
theorem mt_99 : (Cond.selects "MatchFloor" ⟨"MatchFloor", "fills", "()I"⟩ ⟨"MatchFloor", "fills", "()I"⟩) ∈ mf_tb := mf_in (i := 140) (by decide +kernel) (by decide +kernel)
set_option maxRecDepth 20000 in
theorem mt_100 : (Cond.code ⟨"MatchFloor", "fills", "()I"⟩ prog_1_method_10_code 1 (Option.some FieldType.int)) ∈ mf_tb := mf_in (i := 141) (by rfl) (by rfl)
set_option maxRecDepth 20000 in
theorem mt_101 : (Cond.methodLink "MatchFloorLaw" 90 ⟨"MatchFloor", "last", "()I"⟩) ∈ mf_tb := mf_in (i := 142) (by decide +kernel) (by decide +kernel)
set_option maxRecDepth 20000 in
theorem mt_102 : (Cond.instanceMethod ⟨"MatchFloor", "last", "()I"⟩) ∈ mf_tb := mf_in (i := 143) (by decide +kernel) (by decide +kernel)
set_option maxRecDepth 20000 in
theorem mt_103 : (Cond.selects "MatchFloor" ⟨"MatchFloor", "last", "()I"⟩ ⟨"MatchFloor", "last", "()I"⟩) ∈ mf_tb := mf_in (i := 144) (by decide +kernel) (by decide +kernel)
set_option maxRecDepth 20000 in
theorem mt_104 : (Cond.code ⟨"MatchFloor", "last", "()I"⟩ prog_1_method_11_code 1 (Option.some FieldType.int)) ∈ mf_tb := mf_in (i := 145) (by rfl) (by rfl)
set_option maxRecDepth 20000 in
theorem mt_105 : (Cond.methodLink "MatchFloorLaw" 94 ⟨"MatchFloor", "turnover", "()J"⟩) ∈ mf_tb := mf_in (i := 146) (by decide +kernel) (by decide +kernel)
set_option maxRecDepth 20000 in
theorem mt_106 : (Cond.instanceMethod ⟨"MatchFloor", "turnover", "()J"⟩) ∈ mf_tb := mf_in (i := 147) (by decide +kernel) (by decide +kernel)
set_option maxRecDepth 20000 in
theorem mt_107 : (Cond.selects "MatchFloor" ⟨"MatchFloor", "turnover", "()J"⟩ ⟨"MatchFloor", "turnover", "()J"⟩) ∈ mf_tb := mf_in (i := 148) (by decide +kernel) (by decide +kernel)
set_option maxRecDepth 20000 in
theorem mt_108 : (Cond.code ⟨"MatchFloor", "turnover", "()J"⟩ prog_1_method_12_code 1 (Option.some FieldType.long)) ∈ mf_tb := mf_in (i := 149) (by rfl) (by rfl)
set_option maxRecDepth 20000 in
theorem mt_109 : (Cond.methodLink "MatchFloorLaw" 52 ⟨"MatchFloorLaw", "submit", "(LMatchFloor;IIII[J)I"⟩) ∈ mf_tb := mf_in (i := 150) (by decide +kernel) (by decide +kernel)
set_option maxRecDepth 20000 in
theorem mt_110 : (Cond.static ⟨"MatchFloorLaw", "submit", "(LMatchFloor;IIII[J)I"⟩) ∈ mf_tb := mf_in (i := 151) (by decide +kernel) (by decide +kernel)
set_option maxRecDepth 20000 in
theorem mt_111 : (Cond.codeWith ⟨"MatchFloorLaw", "submit", "(LMatchFloor;IIII[J)I"⟩ method_3_code 7 (Option.some FieldType.int) [(0, 14, 17, 13), (0, 14, 21, 15)]) ∈ mf_tb := mf_in (i := 152) (by rfl) (by rfl)
set_option maxRecDepth 20000 in
theorem mt_112 : (Cond.classLink "MatchFloorLaw" 13 "java/lang/IllegalArgumentException") ∈ mf_tb := mf_in (i := 153) (by decide +kernel) (by decide +kernel)
set_option maxRecDepth 20000 in
theorem mt_113 : (Cond.classLink "MatchFloorLaw" 15 "java/lang/IllegalStateException") ∈ mf_tb := mf_in (i := 154) (by decide +kernel) (by decide +kernel)
set_option maxRecDepth 20000 in
theorem mt_114 : (Cond.methodLink "MatchFloorLaw" 7 ⟨"MatchFloor", "submit", "(IIII)I"⟩) ∈ mf_tb := mf_in (i := 155) (by decide +kernel) (by decide +kernel)
set_option maxRecDepth 20000 in
theorem mt_115 : (Cond.instanceMethod ⟨"MatchFloor", "submit", "(IIII)I"⟩) ∈ mf_tb := mf_in (i := 156) (by decide +kernel) (by decide +kernel)
set_option maxRecDepth 20000 in
theorem mt_116 : (Cond.selects "MatchFloor" ⟨"MatchFloor", "submit", "(IIII)I"⟩ ⟨"MatchFloor", "submit", "(IIII)I"⟩) ∈ mf_tb := mf_in (i := 157) (by decide +kernel) (by decide +kernel)
set_option maxRecDepth 20000 in
theorem mt_117 : (Cond.code ⟨"MatchFloor", "submit", "(IIII)I"⟩ prog_1_method_2_code 7 (Option.some FieldType.int)) ∈ mf_tb := mf_in (i := 158) (by rfl) (by rfl)
set_option maxRecDepth 20000 in
theorem mt_118 : (Cond.methodLink "MatchFloor" 23 ⟨"MatchFloor", "kindOf", "(I)I"⟩) ∈ mf_tb := mf_in (i := 159) (by decide +kernel) (by decide +kernel)
set_option maxRecDepth 20000 in
theorem mt_119 : (Cond.static ⟨"MatchFloor", "kindOf", "(I)I"⟩) ∈ mf_tb := mf_in (i := 160) (by decide +kernel) (by decide +kernel)
set_option maxRecDepth 20000 in
theorem mt_120 : (Cond.code ⟨"MatchFloor", "kindOf", "(I)I"⟩ prog_1_method_14_code 1 (Option.some FieldType.int)) ∈ mf_tb := mf_in (i := 161) (by rfl) (by rfl)
set_option maxRecDepth 20000 in
theorem mt_121 : (Cond.classLink "MatchFloor" 27 "java/lang/IllegalArgumentException") ∈ mf_tb := mf_in (i := 162) (by decide +kernel) (by decide +kernel)
set_option maxRecDepth 20000 in
theorem mt_122 : (Cond.instantiable "java/lang/IllegalArgumentException" 6) ∈ mf_tb := mf_in (i := 163) (by decide +kernel) (by decide +kernel)
set_option maxRecDepth 20000 in
theorem mt_130 : (Cond.selects "java/lang/IllegalArgumentException" ⟨"java/lang/Throwable", "fillInStackTrace", "(I)Ljava/lang/Throwable;"⟩ ⟨"java/lang/Throwable", "fillInStackTrace", "(I)Ljava/lang/Throwable;"⟩) ∈ mf_tb := mf_in (i := 171) (by decide +kernel) (by decide +kernel)
set_option maxRecDepth 20000 in
theorem mt_131 : (Cond.selects "java/lang/IllegalArgumentException" ⟨"java/lang/Throwable", "fillInStackTrace", "()Ljava/lang/Throwable;"⟩ ⟨"java/lang/Throwable", "fillInStackTrace", "()Ljava/lang/Throwable;"⟩) ∈ mf_tb := mf_in (i := 172) (by decide +kernel) (by decide +kernel)
set_option maxRecDepth 20000 in
theorem mt_132 : (Cond.lays "java/lang/IllegalArgumentException" "java/lang/Throwable" "cause" "Ljava/lang/Throwable;") ∈ mf_tb := mf_in (i := 173) (by decide +kernel) (by decide +kernel)
set_option maxRecDepth 20000 in
theorem mt_133 : (Cond.lays "java/lang/Throwable" "java/lang/Throwable" "cause" "Ljava/lang/Throwable;") ∈ mf_tb := mf_in (i := 174) (by decide +kernel) (by decide +kernel)
set_option maxRecDepth 20000 in
theorem mt_134 : (Cond.lays "java/lang/IllegalArgumentException" "java/lang/Throwable" "stackTrace" "[Ljava/lang/StackTraceElement;") ∈ mf_tb := mf_in (i := 175) (by decide +kernel) (by decide +kernel)
set_option maxRecDepth 20000 in
theorem mt_135 : (Cond.lays "java/lang/Throwable" "java/lang/Throwable" "stackTrace" "[Ljava/lang/StackTraceElement;") ∈ mf_tb := mf_in (i := 176) (by decide +kernel) (by decide +kernel)
set_option maxRecDepth 20000 in
theorem mt_136 : (Cond.lays "java/lang/IllegalArgumentException" "java/lang/Throwable" "suppressedExceptions" "Ljava/util/List;") ∈ mf_tb := mf_in (i := 177) (by decide +kernel) (by decide +kernel)
set_option maxRecDepth 20000 in
theorem mt_137 : (Cond.lays "java/lang/Throwable" "java/lang/Throwable" "suppressedExceptions" "Ljava/util/List;") ∈ mf_tb := mf_in (i := 178) (by decide +kernel) (by decide +kernel)
set_option maxRecDepth 20000 in
theorem mt_138 : (Cond.lays "java/lang/IllegalArgumentException" "java/lang/Throwable" "detailMessage" "Ljava/lang/String;") ∈ mf_tb := mf_in (i := 179) (by decide +kernel) (by decide +kernel)
set_option maxRecDepth 20000 in
theorem mt_139 : (Cond.lays "java/lang/Throwable" "java/lang/Throwable" "detailMessage" "Ljava/lang/String;") ∈ mf_tb := mf_in (i := 180) (by decide +kernel) (by decide +kernel)
set_option maxRecDepth 20000 in
theorem mt_140 : (Cond.lays "java/lang/IllegalArgumentException" "java/lang/Throwable" "backtrace" "Ljava/lang/Object;") ∈ mf_tb := mf_in (i := 181) (by decide +kernel) (by decide +kernel)
set_option maxRecDepth 20000 in
theorem mt_141 : (Cond.lays "java/lang/Throwable" "java/lang/Throwable" "backtrace" "Ljava/lang/Object;") ∈ mf_tb := mf_in (i := 182) (by decide +kernel) (by decide +kernel)
set_option maxRecDepth 20000 in
theorem mt_142 : (Cond.fieldLink "java/lang/Throwable" 198 "java/lang/Throwable" "backtrace" "Ljava/lang/Object;") ∈ mf_tb := mf_in (i := 183) (by decide +kernel) (by decide +kernel)
set_option maxRecDepth 20000 in
theorem mt_144 : (Cond.instanceMethod ⟨"java/lang/Throwable", "<init>", "()V"⟩) ∈ mf_tb := mf_in (i := 185) (by decide +kernel) (by decide +kernel)
set_option maxRecDepth 20000 in
theorem mt_145 : (Cond.code ⟨"java/lang/Throwable", "<init>", "()V"⟩ prog_17_method_1_code 1 (Option.none : Option FieldType)) ∈ mf_tb := mf_in (i := 186) (by rfl) (by rfl)
set_option maxRecDepth 20000 in
theorem mt_146 : (Cond.methodLink "java/lang/Throwable" 1 ⟨"java/lang/Object", "<init>", "()V"⟩) ∈ mf_tb := mf_in (i := 187) (by decide +kernel) (by decide +kernel)
set_option maxRecDepth 20000 in
theorem mt_147 : (Cond.fieldLink "java/lang/Throwable" 13 "java/lang/Throwable" "UNASSIGNED_STACK" "[Ljava/lang/StackTraceElement;") ∈ mf_tb := mf_in (i := 188) (by decide +kernel) (by decide +kernel)
set_option maxRecDepth 20000 in
theorem mt_149 : (Cond.fieldLink "java/lang/Throwable" 20 "java/lang/Throwable" "SUPPRESSED_SENTINEL" "Ljava/util/List;") ∈ mf_tb := mf_in (i := 190) (by decide +kernel) (by decide +kernel)
set_option maxRecDepth 20000 in
theorem mt_151 : (Cond.methodLink "java/lang/Throwable" 27 ⟨"java/lang/Throwable", "fillInStackTrace", "()Ljava/lang/Throwable;"⟩) ∈ mf_tb := mf_in (i := 192) (by decide +kernel) (by decide +kernel)
set_option maxRecDepth 20000 in
theorem mt_152 : (Cond.instanceMethod ⟨"java/lang/Throwable", "fillInStackTrace", "()Ljava/lang/Throwable;"⟩) ∈ mf_tb := mf_in (i := 193) (by decide +kernel) (by decide +kernel)
set_option maxRecDepth 20000 in
theorem mt_154 : (Cond.selects "java/lang/IllegalStateException" ⟨"java/lang/Throwable", "fillInStackTrace", "()Ljava/lang/Throwable;"⟩ ⟨"java/lang/Throwable", "fillInStackTrace", "()Ljava/lang/Throwable;"⟩) ∈ mf_tb := mf_in (i := 195) (by decide +kernel) (by decide +kernel)
set_option maxRecDepth 20000 in
theorem mt_155 : (Cond.selects "java/lang/IndexOutOfBoundsException" ⟨"java/lang/Throwable", "fillInStackTrace", "()Ljava/lang/Throwable;"⟩ ⟨"java/lang/Throwable", "fillInStackTrace", "()Ljava/lang/Throwable;"⟩) ∈ mf_tb := mf_in (i := 196) (by decide +kernel) (by decide +kernel)
set_option maxRecDepth 20000 in
theorem mt_156 : (Cond.selects "java/util/NoSuchElementException" ⟨"java/lang/Throwable", "fillInStackTrace", "()Ljava/lang/Throwable;"⟩ ⟨"java/lang/Throwable", "fillInStackTrace", "()Ljava/lang/Throwable;"⟩) ∈ mf_tb := mf_in (i := 197) (by decide +kernel) (by decide +kernel)
set_option maxRecDepth 20000 in
theorem mt_158 : (Cond.methodLink "java/lang/Throwable" 202 ⟨"java/lang/Throwable", "fillInStackTrace", "(I)Ljava/lang/Throwable;"⟩) ∈ mf_tb := mf_in (i := 199) (by decide +kernel) (by decide +kernel)
set_option maxRecDepth 20000 in
theorem mt_160 : (Cond.instanceMethod ⟨"java/lang/Throwable", "fillInStackTrace", "(I)Ljava/lang/Throwable;"⟩) ∈ mf_tb := mf_in (i := 201) (by decide +kernel) (by decide +kernel)
set_option maxRecDepth 20000 in
theorem mt_161 : (Cond.instantiable "java/lang/Throwable" 6) ∈ mf_tb := mf_in (i := 202) (by decide +kernel) (by decide +kernel)
set_option maxRecDepth 20000 in
theorem mt_162 : (Cond.native ⟨"java/lang/Throwable", "fillInStackTrace", "(I)Ljava/lang/Throwable;"⟩) ∈ mf_tb := mf_in (i := 203) (by decide +kernel) (by decide +kernel)
set_option maxRecDepth 20000 in
theorem mt_164 : (Cond.methodLink "MatchFloor" 31 ⟨"java/lang/IllegalArgumentException", "<init>", "(Ljava/lang/String;)V"⟩) ∈ mf_tb := mf_in (i := 205) (by decide +kernel) (by decide +kernel)
set_option maxRecDepth 20000 in
theorem mt_165 : (Cond.instanceMethod ⟨"java/lang/IllegalArgumentException", "<init>", "(Ljava/lang/String;)V"⟩) ∈ mf_tb := mf_in (i := 206) (by decide +kernel) (by decide +kernel)
set_option maxRecDepth 20000 in
theorem mt_166 : (Cond.code ⟨"java/lang/IllegalArgumentException", "<init>", "(Ljava/lang/String;)V"⟩ prog_9_method_2_code 2 (Option.none : Option FieldType)) ∈ mf_tb := mf_in (i := 207) (by rfl) (by rfl)
set_option maxRecDepth 20000 in
theorem mt_167 : (Cond.methodLink "java/lang/IllegalArgumentException" 7 ⟨"java/lang/RuntimeException", "<init>", "(Ljava/lang/String;)V"⟩) ∈ mf_tb := mf_in (i := 208) (by decide +kernel) (by decide +kernel)
set_option maxRecDepth 20000 in
theorem mt_168 : (Cond.instanceMethod ⟨"java/lang/RuntimeException", "<init>", "(Ljava/lang/String;)V"⟩) ∈ mf_tb := mf_in (i := 209) (by decide +kernel) (by decide +kernel)
set_option maxRecDepth 20000 in
theorem mt_169 : (Cond.code ⟨"java/lang/RuntimeException", "<init>", "(Ljava/lang/String;)V"⟩ prog_14_method_2_code 2 (Option.none : Option FieldType)) ∈ mf_tb := mf_in (i := 210) (by rfl) (by rfl)
set_option maxRecDepth 20000 in
theorem mt_170 : (Cond.methodLink "java/lang/RuntimeException" 7 ⟨"java/lang/Exception", "<init>", "(Ljava/lang/String;)V"⟩) ∈ mf_tb := mf_in (i := 211) (by decide +kernel) (by decide +kernel)
set_option maxRecDepth 20000 in
theorem mt_171 : (Cond.instanceMethod ⟨"java/lang/Exception", "<init>", "(Ljava/lang/String;)V"⟩) ∈ mf_tb := mf_in (i := 212) (by decide +kernel) (by decide +kernel)
set_option maxRecDepth 20000 in
theorem mt_172 : (Cond.code ⟨"java/lang/Exception", "<init>", "(Ljava/lang/String;)V"⟩ prog_8_method_2_code 2 (Option.none : Option FieldType)) ∈ mf_tb := mf_in (i := 213) (by rfl) (by rfl)
set_option maxRecDepth 20000 in
theorem mt_173 : (Cond.methodLink "java/lang/Exception" 7 ⟨"java/lang/Throwable", "<init>", "(Ljava/lang/String;)V"⟩) ∈ mf_tb := mf_in (i := 214) (by decide +kernel) (by decide +kernel)
set_option maxRecDepth 20000 in
theorem mt_174 : (Cond.instanceMethod ⟨"java/lang/Throwable", "<init>", "(Ljava/lang/String;)V"⟩) ∈ mf_tb := mf_in (i := 215) (by decide +kernel) (by decide +kernel)
set_option maxRecDepth 20000 in
theorem mt_175 : (Cond.code ⟨"java/lang/Throwable", "<init>", "(Ljava/lang/String;)V"⟩ prog_17_method_2_code 2 (Option.none : Option FieldType)) ∈ mf_tb := mf_in (i := 216) (by rfl) (by rfl)
set_option maxRecDepth 20000 in
theorem mt_176 : (Cond.fieldLink "java/lang/Throwable" 198 "java/lang/Throwable" "backtrace" "Ljava/lang/Object;") ∈ mf_tb := mf_in (i := 217) (by decide +kernel) (by decide +kernel)
set_option maxRecDepth 20000 in
theorem mt_177 : (Cond.fieldLink "java/lang/Throwable" 31 "java/lang/Throwable" "detailMessage" "Ljava/lang/String;") ∈ mf_tb := mf_in (i := 218) (by decide +kernel) (by decide +kernel)
set_option maxRecDepth 20000 in
theorem mt_178 : (Cond.fieldLink "java/lang/Throwable" 7 "java/lang/Throwable" "cause" "Ljava/lang/Throwable;") ∈ mf_tb := mf_in (i := 219) (by decide +kernel) (by decide +kernel)
set_option maxRecDepth 20000 in
theorem mt_179 : (Cond.fieldLink "java/lang/Throwable" 17 "java/lang/Throwable" "stackTrace" "[Ljava/lang/StackTraceElement;") ∈ mf_tb := mf_in (i := 220) (by decide +kernel) (by decide +kernel)
set_option maxRecDepth 20000 in
theorem mt_180 : (Cond.fieldLink "java/lang/Throwable" 24 "java/lang/Throwable" "suppressedExceptions" "Ljava/util/List;") ∈ mf_tb := mf_in (i := 221) (by decide +kernel) (by decide +kernel)
set_option maxRecDepth 20000 in
theorem mt_185 : (Cond.lays "java/lang/IllegalArgumentException" "java/lang/Throwable" "depth" "I") ∈ mf_tb := mf_in (i := 226) (by decide +kernel) (by decide +kernel)
set_option maxRecDepth 20000 in
theorem mt_189 : (Cond.arrayClass FieldType.byte) ∈ mf_tb := mf_in (i := 230) (by decide +kernel) (by decide +kernel)
set_option maxRecDepth 20000 in
theorem mt_190 : (Cond.methodLink "MatchFloor" 34 ⟨"MatchFloor", "isPrice", "(I)Z"⟩) ∈ mf_tb := mf_in (i := 231) (by decide +kernel) (by decide +kernel)
set_option maxRecDepth 20000 in
theorem mt_191 : (Cond.static ⟨"MatchFloor", "isPrice", "(I)Z"⟩) ∈ mf_tb := mf_in (i := 232) (by decide +kernel) (by decide +kernel)
set_option maxRecDepth 20000 in
theorem mt_192 : (Cond.code ⟨"MatchFloor", "isPrice", "(I)Z"⟩ prog_1_method_16_code 1 (Option.some FieldType.boolean)) ∈ mf_tb := mf_in (i := 233) (by rfl) (by rfl)
set_option maxRecDepth 20000 in
theorem mt_193 : (Cond.methodLink "MatchFloor" 38 ⟨"MatchFloor", "isQuantity", "(I)Z"⟩) ∈ mf_tb := mf_in (i := 234) (by decide +kernel) (by decide +kernel)
set_option maxRecDepth 20000 in
theorem mt_194 : (Cond.static ⟨"MatchFloor", "isQuantity", "(I)Z"⟩) ∈ mf_tb := mf_in (i := 235) (by decide +kernel) (by decide +kernel)
set_option maxRecDepth 20000 in
theorem mt_195 : (Cond.code ⟨"MatchFloor", "isQuantity", "(I)Z"⟩ prog_1_method_17_code 1 (Option.some FieldType.boolean)) ∈ mf_tb := mf_in (i := 236) (by rfl) (by rfl)
set_option maxRecDepth 20000 in
theorem mt_196 : (Cond.constant "MatchFloor" 162 (1000000 : Int32)) ∈ mf_tb := mf_in (i := 237) (by decide +kernel) (by decide +kernel)
set_option maxRecDepth 20000 in
theorem mt_198 : (Cond.methodLink "MatchFloor" 43 ⟨"MatchFloor", "placeOf", "(I)I"⟩) ∈ mf_tb := mf_in (i := 239) (by decide +kernel) (by decide +kernel)
set_option maxRecDepth 20000 in
theorem mt_200 : (Cond.instanceMethod ⟨"MatchFloor", "placeOf", "(I)I"⟩) ∈ mf_tb := mf_in (i := 241) (by decide +kernel) (by decide +kernel)
set_option maxRecDepth 20000 in
theorem mt_201 : (Cond.code ⟨"MatchFloor", "placeOf", "(I)I"⟩ prog_1_method_20_code 3 (Option.some FieldType.int)) ∈ mf_tb := mf_in (i := 242) (by rfl) (by rfl)
set_option maxRecDepth 20000 in
theorem mt_202 : (Cond.methodLink "MatchFloor" 51 ⟨"java/util/ArrayList", "size", "()I"⟩) ∈ mf_tb := mf_in (i := 243) (by decide +kernel) (by decide +kernel)
set_option maxRecDepth 20000 in
theorem mt_203 : (Cond.instanceMethod ⟨"java/util/ArrayList", "size", "()I"⟩) ∈ mf_tb := mf_in (i := 244) (by decide +kernel) (by decide +kernel)
set_option maxRecDepth 20000 in
theorem mt_204 : (Cond.selects "java/util/ArrayList" ⟨"java/util/ArrayList", "size", "()I"⟩ ⟨"java/util/ArrayList", "size", "()I"⟩) ∈ mf_tb := mf_in (i := 245) (by decide +kernel) (by decide +kernel)
set_option maxRecDepth 20000 in
theorem mt_205 : (Cond.code ⟨"java/util/ArrayList", "size", "()I"⟩ prog_20_method_8_code 1 (Option.some FieldType.int)) ∈ mf_tb := mf_in (i := 246) (by rfl) (by rfl)
set_option maxRecDepth 20000 in
theorem mt_206 : (Cond.methodLink "MatchFloor" 85 ⟨"java/util/ArrayList", "get", "(I)Ljava/lang/Object;"⟩) ∈ mf_tb := mf_in (i := 247) (by decide +kernel) (by decide +kernel)
set_option maxRecDepth 20000 in
theorem mt_207 : (Cond.instanceMethod ⟨"java/util/ArrayList", "get", "(I)Ljava/lang/Object;"⟩) ∈ mf_tb := mf_in (i := 248) (by decide +kernel) (by decide +kernel)
set_option maxRecDepth 20000 in
theorem mt_208 : (Cond.selects "java/util/ArrayList" ⟨"java/util/ArrayList", "get", "(I)Ljava/lang/Object;"⟩ ⟨"java/util/ArrayList", "get", "(I)Ljava/lang/Object;"⟩) ∈ mf_tb := mf_in (i := 249) (by decide +kernel) (by decide +kernel)
set_option maxRecDepth 20000 in
theorem mt_209 : (Cond.code ⟨"java/util/ArrayList", "get", "(I)Ljava/lang/Object;"⟩ prog_20_method_20_code 2 (Option.some (FieldType.object "java/lang/Object"))) ∈ mf_tb := mf_in (i := 250) (by rfl) (by rfl)
set_option maxRecDepth 20000 in
theorem mt_210 : (Cond.methodLink "java/util/ArrayList" 118 ⟨"java/util/Objects", "checkIndex", "(II)I"⟩) ∈ mf_tb := mf_in (i := 251) (by decide +kernel) (by decide +kernel)
set_option maxRecDepth 20000 in
theorem mt_211 : (Cond.static ⟨"java/util/Objects", "checkIndex", "(II)I"⟩) ∈ mf_tb := mf_in (i := 252) (by decide +kernel) (by decide +kernel)
set_option maxRecDepth 20000 in
theorem mt_212 : (Cond.code ⟨"java/util/Objects", "checkIndex", "(II)I"⟩ prog_25_method_17_code 2 (Option.some FieldType.int)) ∈ mf_tb := mf_in (i := 253) (by rfl) (by rfl)
set_option maxRecDepth 20000 in
theorem mt_213 : (Cond.methodLink "java/util/Objects" 105 ⟨"jdk/internal/util/Preconditions", "checkIndex", "(IILjava/util/function/BiFunction;)I"⟩) ∈ mf_tb := mf_in (i := 254) (by decide +kernel) (by decide +kernel)
set_option maxRecDepth 20000 in
theorem mt_214 : (Cond.static ⟨"jdk/internal/util/Preconditions", "checkIndex", "(IILjava/util/function/BiFunction;)I"⟩) ∈ mf_tb := mf_in (i := 255) (by decide +kernel) (by decide +kernel)
set_option maxRecDepth 20000 in
theorem mt_215 : (Cond.code ⟨"jdk/internal/util/Preconditions", "checkIndex", "(IILjava/util/function/BiFunction;)I"⟩ prog_29_method_11_code 3 (Option.some FieldType.int)) ∈ mf_tb := mf_in (i := 256) (by rfl) (by rfl)
set_option maxRecDepth 20000 in
theorem mt_216 : (Cond.methodLink "java/util/ArrayList" 123 ⟨"java/util/ArrayList", "elementData", "(I)Ljava/lang/Object;"⟩) ∈ mf_tb := mf_in (i := 257) (by decide +kernel) (by decide +kernel)
set_option maxRecDepth 20000 in
theorem mt_217 : (Cond.instanceMethod ⟨"java/util/ArrayList", "elementData", "(I)Ljava/lang/Object;"⟩) ∈ mf_tb := mf_in (i := 258) (by decide +kernel) (by decide +kernel)
set_option maxRecDepth 20000 in
theorem mt_218 : (Cond.selects "java/util/ArrayList" ⟨"java/util/ArrayList", "elementData", "(I)Ljava/lang/Object;"⟩ ⟨"java/util/ArrayList", "elementData", "(I)Ljava/lang/Object;"⟩) ∈ mf_tb := mf_in (i := 259) (by decide +kernel) (by decide +kernel)
set_option maxRecDepth 20000 in
theorem mt_219 : (Cond.code ⟨"java/util/ArrayList", "elementData", "(I)Ljava/lang/Object;"⟩ prog_20_method_18_code 2 (Option.some (FieldType.object "java/lang/Object"))) ∈ mf_tb := mf_in (i := 260) (by rfl) (by rfl)
set_option maxRecDepth 20000 in
theorem mt_220 : (Cond.classLink "MatchFloor" 57 "MatchFloor$Order") ∈ mf_tb := mf_in (i := 261) (by decide +kernel) (by decide +kernel)
set_option maxRecDepth 20000 in
theorem mt_221 : (Cond.classLink "MatchFloor" 46 "java/lang/IllegalStateException") ∈ mf_tb := mf_in (i := 262) (by decide +kernel) (by decide +kernel)
set_option maxRecDepth 20000 in
theorem mt_222 : (Cond.instantiable "java/lang/IllegalStateException" 6) ∈ mf_tb := mf_in (i := 263) (by decide +kernel) (by decide +kernel)
set_option maxRecDepth 20000 in
theorem mt_224 : (Cond.selects "java/lang/IllegalStateException" ⟨"java/lang/Throwable", "fillInStackTrace", "(I)Ljava/lang/Throwable;"⟩ ⟨"java/lang/Throwable", "fillInStackTrace", "(I)Ljava/lang/Throwable;"⟩) ∈ mf_tb := mf_in (i := 265) (by decide +kernel) (by decide +kernel)
set_option maxRecDepth 20000 in
theorem mt_225 : (Cond.lays "java/lang/IllegalStateException" "java/lang/Throwable" "cause" "Ljava/lang/Throwable;") ∈ mf_tb := mf_in (i := 266) (by decide +kernel) (by decide +kernel)
set_option maxRecDepth 20000 in
theorem mt_226 : (Cond.lays "java/lang/IllegalStateException" "java/lang/Throwable" "stackTrace" "[Ljava/lang/StackTraceElement;") ∈ mf_tb := mf_in (i := 267) (by decide +kernel) (by decide +kernel)
set_option maxRecDepth 20000 in
theorem mt_227 : (Cond.lays "java/lang/IllegalStateException" "java/lang/Throwable" "suppressedExceptions" "Ljava/util/List;") ∈ mf_tb := mf_in (i := 268) (by decide +kernel) (by decide +kernel)
set_option maxRecDepth 20000 in
theorem mt_228 : (Cond.lays "java/lang/IllegalStateException" "java/lang/Throwable" "detailMessage" "Ljava/lang/String;") ∈ mf_tb := mf_in (i := 269) (by decide +kernel) (by decide +kernel)
set_option maxRecDepth 20000 in
theorem mt_229 : (Cond.lays "java/lang/IllegalStateException" "java/lang/Throwable" "backtrace" "Ljava/lang/Object;") ∈ mf_tb := mf_in (i := 270) (by decide +kernel) (by decide +kernel)
set_option maxRecDepth 20000 in
theorem mt_231 : (Cond.methodLink "MatchFloor" 50 ⟨"java/lang/IllegalStateException", "<init>", "(Ljava/lang/String;)V"⟩) ∈ mf_tb := mf_in (i := 272) (by decide +kernel) (by decide +kernel)
set_option maxRecDepth 20000 in
theorem mt_232 : (Cond.instanceMethod ⟨"java/lang/IllegalStateException", "<init>", "(Ljava/lang/String;)V"⟩) ∈ mf_tb := mf_in (i := 273) (by decide +kernel) (by decide +kernel)
set_option maxRecDepth 20000 in
theorem mt_233 : (Cond.code ⟨"java/lang/IllegalStateException", "<init>", "(Ljava/lang/String;)V"⟩ prog_10_method_2_code 2 (Option.none : Option FieldType)) ∈ mf_tb := mf_in (i := 274) (by rfl) (by rfl)
set_option maxRecDepth 20000 in
theorem mt_234 : (Cond.methodLink "java/lang/IllegalStateException" 7 ⟨"java/lang/RuntimeException", "<init>", "(Ljava/lang/String;)V"⟩) ∈ mf_tb := mf_in (i := 275) (by decide +kernel) (by decide +kernel)
set_option maxRecDepth 20000 in
theorem mt_235 : (Cond.lays "java/lang/IllegalStateException" "java/lang/Throwable" "depth" "I") ∈ mf_tb := mf_in (i := 276) (by decide +kernel) (by decide +kernel)
set_option maxRecDepth 20000 in
theorem mt_238 : (Cond.instantiable "MatchFloor$Order" 6) ∈ mf_tb := mf_in (i := 279) (by decide +kernel) (by decide +kernel)
set_option maxRecDepth 20000 in
theorem mt_240 : (Cond.instanceMethod ⟨"MatchFloor$Order", "<init>", "(IIIZII)V"⟩) ∈ mf_tb := mf_in (i := 281) (by decide +kernel) (by decide +kernel)
set_option maxRecDepth 20000 in
theorem mt_241 : (Cond.code ⟨"MatchFloor$Order", "<init>", "(IIIZII)V"⟩ prog_2_method_1_code 7 (Option.none : Option FieldType)) ∈ mf_tb := mf_in (i := 282) (by rfl) (by rfl)
set_option maxRecDepth 20000 in
theorem mt_242 : (Cond.methodLink "MatchFloor$Order" 3 ⟨"java/lang/Object", "<init>", "()V"⟩) ∈ mf_tb := mf_in (i := 283) (by decide +kernel) (by decide +kernel)
set_option maxRecDepth 20000 in
theorem mt_243 : (Cond.fieldLink "MatchFloor$Order" 9 "MatchFloor$Order" "id" "I") ∈ mf_tb := mf_in (i := 284) (by decide +kernel) (by decide +kernel)
set_option maxRecDepth 20000 in
theorem mt_245 : (Cond.fieldLink "MatchFloor$Order" 15 "MatchFloor$Order" "owner" "I") ∈ mf_tb := mf_in (i := 286) (by decide +kernel) (by decide +kernel)
set_option maxRecDepth 20000 in
theorem mt_247 : (Cond.fieldLink "MatchFloor$Order" 18 "MatchFloor$Order" "side" "I") ∈ mf_tb := mf_in (i := 288) (by decide +kernel) (by decide +kernel)
set_option maxRecDepth 20000 in
theorem mt_249 : (Cond.fieldLink "MatchFloor$Order" 21 "MatchFloor$Order" "waits" "Z") ∈ mf_tb := mf_in (i := 290) (by decide +kernel) (by decide +kernel)
set_option maxRecDepth 20000 in
theorem mt_251 : (Cond.fieldLink "MatchFloor$Order" 25 "MatchFloor$Order" "price" "I") ∈ mf_tb := mf_in (i := 292) (by decide +kernel) (by decide +kernel)
set_option maxRecDepth 20000 in
theorem mt_253 : (Cond.fieldLink "MatchFloor$Order" 28 "MatchFloor$Order" "left" "I") ∈ mf_tb := mf_in (i := 294) (by decide +kernel) (by decide +kernel)
set_option maxRecDepth 20000 in
theorem mt_255 : (Cond.laysFinal "MatchFloor$Order" "MatchFloor$Order" "id" "I") ∈ mf_tb := mf_in (i := 296) (by decide +kernel) (by decide +kernel)
set_option maxRecDepth 20000 in
theorem mt_257 : (Cond.laysFinal "MatchFloor$Order" "MatchFloor$Order" "owner" "I") ∈ mf_tb := mf_in (i := 298) (by decide +kernel) (by decide +kernel)
set_option maxRecDepth 20000 in
theorem mt_259 : (Cond.laysFinal "MatchFloor$Order" "MatchFloor$Order" "side" "I") ∈ mf_tb := mf_in (i := 300) (by decide +kernel) (by decide +kernel)
set_option maxRecDepth 20000 in
theorem mt_261 : (Cond.laysFinal "MatchFloor$Order" "MatchFloor$Order" "waits" "Z") ∈ mf_tb := mf_in (i := 302) (by decide +kernel) (by decide +kernel)
set_option maxRecDepth 20000 in
theorem mt_263 : (Cond.lays "MatchFloor$Order" "MatchFloor$Order" "price" "I") ∈ mf_tb := mf_in (i := 304) (by decide +kernel) (by decide +kernel)
set_option maxRecDepth 20000 in
theorem mt_265 : (Cond.lays "MatchFloor$Order" "MatchFloor$Order" "left" "I") ∈ mf_tb := mf_in (i := 306) (by decide +kernel) (by decide +kernel)
set_option maxRecDepth 20000 in
theorem mt_268 : (Cond.methodLink "MatchFloor" 62 ⟨"MatchFloor", "isRefused", "(LMatchFloor$Order;I)Z"⟩) ∈ mf_tb := mf_in (i := 309) (by decide +kernel) (by decide +kernel)
set_option maxRecDepth 20000 in
theorem mt_270 : (Cond.instanceMethod ⟨"MatchFloor", "isRefused", "(LMatchFloor$Order;I)Z"⟩) ∈ mf_tb := mf_in (i := 311) (by decide +kernel) (by decide +kernel)
set_option maxRecDepth 20000 in
theorem mt_271 : (Cond.code ⟨"MatchFloor", "isRefused", "(LMatchFloor$Order;I)Z"⟩ prog_1_method_23_code 4 (Option.some FieldType.boolean)) ∈ mf_tb := mf_in (i := 312) (by rfl) (by rfl)
set_option maxRecDepth 20000 in
theorem mt_272 : (Cond.methodLink "MatchFloor" 176 ⟨"MatchFloor", "leftFor", "(LMatchFloor$Order;)I"⟩) ∈ mf_tb := mf_in (i := 313) (by decide +kernel) (by decide +kernel)
set_option maxRecDepth 20000 in
theorem mt_274 : (Cond.instanceMethod ⟨"MatchFloor", "leftFor", "(LMatchFloor$Order;)I"⟩) ∈ mf_tb := mf_in (i := 315) (by decide +kernel) (by decide +kernel)
set_option maxRecDepth 20000 in
theorem mt_275 : (Cond.code ⟨"MatchFloor", "leftFor", "(LMatchFloor$Order;)I"⟩ prog_1_method_24_code 6 (Option.some FieldType.int)) ∈ mf_tb := mf_in (i := 316) (by rfl) (by rfl)
set_option maxRecDepth 20000 in
theorem mt_276 : (Cond.methodLink "MatchFloor" 180 ⟨"MatchFloor", "otherSide", "(I)I"⟩) ∈ mf_tb := mf_in (i := 317) (by decide +kernel) (by decide +kernel)
set_option maxRecDepth 20000 in
theorem mt_277 : (Cond.static ⟨"MatchFloor", "otherSide", "(I)I"⟩) ∈ mf_tb := mf_in (i := 318) (by decide +kernel) (by decide +kernel)
set_option maxRecDepth 20000 in
theorem mt_278 : (Cond.code ⟨"MatchFloor", "otherSide", "(I)I"⟩ prog_1_method_18_code 1 (Option.some FieldType.int)) ∈ mf_tb := mf_in (i := 319) (by rfl) (by rfl)
set_option maxRecDepth 20000 in
theorem mt_281 : (Cond.instanceMethod ⟨"MatchFloor$Order", "restsOn", "(I)Z"⟩) ∈ mf_tb := mf_in (i := 322) (by decide +kernel) (by decide +kernel)
set_option maxRecDepth 20000 in
theorem mt_282 : (Cond.code ⟨"MatchFloor$Order", "restsOn", "(I)Z"⟩ prog_2_method_2_code 2 (Option.some FieldType.boolean)) ∈ mf_tb := mf_in (i := 323) (by rfl) (by rfl)
set_option maxRecDepth 20000 in
theorem mt_285 : (Cond.instanceMethod ⟨"MatchFloor$Order", "isFitBy", "(I)Z"⟩) ∈ mf_tb := mf_in (i := 326) (by decide +kernel) (by decide +kernel)
set_option maxRecDepth 20000 in
theorem mt_286 : (Cond.code ⟨"MatchFloor$Order", "isFitBy", "(I)Z"⟩ prog_2_method_3_code 2 (Option.some FieldType.boolean)) ∈ mf_tb := mf_in (i := 327) (by rfl) (by rfl)
set_option maxRecDepth 20000 in
theorem mt_289 : (Cond.static ⟨"MatchFloor", "isBetter", "(III)Z"⟩) ∈ mf_tb := mf_in (i := 330) (by decide +kernel) (by decide +kernel)
set_option maxRecDepth 20000 in
theorem mt_290 : (Cond.code ⟨"MatchFloor", "isBetter", "(III)Z"⟩ prog_1_method_19_code 3 (Option.some FieldType.boolean)) ∈ mf_tb := mf_in (i := 331) (by rfl) (by rfl)
set_option maxRecDepth 20000 in
theorem mt_291 : (Cond.methodLink "MatchFloor" 183 ⟨"MatchFloor", "placeOfFirst", "(I)I"⟩) ∈ mf_tb := mf_in (i := 332) (by decide +kernel) (by decide +kernel)
set_option maxRecDepth 20000 in
theorem mt_293 : (Cond.instanceMethod ⟨"MatchFloor", "placeOfFirst", "(I)I"⟩) ∈ mf_tb := mf_in (i := 334) (by decide +kernel) (by decide +kernel)
set_option maxRecDepth 20000 in
theorem mt_294 : (Cond.code ⟨"MatchFloor", "placeOfFirst", "(I)I"⟩ prog_1_method_21_code 6 (Option.some FieldType.int)) ∈ mf_tb := mf_in (i := 335) (by rfl) (by rfl)
set_option maxRecDepth 20000 in
theorem mt_295 : (Cond.methodLink "MatchFloor" 169 ⟨"MatchFloor", "isBetter", "(III)Z"⟩) ∈ mf_tb := mf_in (i := 336) (by decide +kernel) (by decide +kernel)
set_option maxRecDepth 20000 in
theorem mt_297 : (Cond.methodLink "MatchFloor" 68 ⟨"MatchFloor", "comeIn", "(LMatchFloor$Order;I)I"⟩) ∈ mf_tb := mf_in (i := 338) (by decide +kernel) (by decide +kernel)
set_option maxRecDepth 20000 in
theorem mt_299 : (Cond.instanceMethod ⟨"MatchFloor", "comeIn", "(LMatchFloor$Order;I)I"⟩) ∈ mf_tb := mf_in (i := 340) (by decide +kernel) (by decide +kernel)
set_option maxRecDepth 20000 in
theorem mt_300 : (Cond.code ⟨"MatchFloor", "comeIn", "(LMatchFloor$Order;I)I"⟩ prog_1_method_25_code 6 (Option.some FieldType.int)) ∈ mf_tb := mf_in (i := 341) (by rfl) (by rfl)
set_option maxRecDepth 20000 in
theorem mt_301 : (Cond.methodLink "MatchFloor" 189 ⟨"MatchFloor", "match", "(LMatchFloor$Order;I)V"⟩) ∈ mf_tb := mf_in (i := 342) (by decide +kernel) (by decide +kernel)
set_option maxRecDepth 20000 in
theorem mt_303 : (Cond.instanceMethod ⟨"MatchFloor", "match", "(LMatchFloor$Order;I)V"⟩) ∈ mf_tb := mf_in (i := 344) (by decide +kernel) (by decide +kernel)
set_option maxRecDepth 20000 in
theorem mt_304 : (Cond.code ⟨"MatchFloor", "match", "(LMatchFloor$Order;I)V"⟩ prog_1_method_27_code 5 (Option.none : Option FieldType)) ∈ mf_tb := mf_in (i := 345) (by rfl) (by rfl)
set_option maxRecDepth 20000 in
theorem mt_305 : (Cond.methodLink "MatchFloor" 203 ⟨"MatchFloor", "meet", "(LMatchFloor$Order;I)V"⟩) ∈ mf_tb := mf_in (i := 346) (by decide +kernel) (by decide +kernel)
set_option maxRecDepth 20000 in
theorem mt_307 : (Cond.instanceMethod ⟨"MatchFloor", "meet", "(LMatchFloor$Order;I)V"⟩) ∈ mf_tb := mf_in (i := 348) (by decide +kernel) (by decide +kernel)
set_option maxRecDepth 20000 in
theorem mt_308 : (Cond.code ⟨"MatchFloor", "meet", "(LMatchFloor$Order;I)V"⟩ prog_1_method_28_code 5 (Option.none : Option FieldType)) ∈ mf_tb := mf_in (i := 349) (by rfl) (by rfl)
set_option maxRecDepth 20000 in
theorem mt_309 : (Cond.methodLink "MatchFloor" 77 ⟨"java/util/ArrayList", "remove", "(I)Ljava/lang/Object;"⟩) ∈ mf_tb := mf_in (i := 350) (by decide +kernel) (by decide +kernel)
set_option maxRecDepth 20000 in
theorem mt_310 : (Cond.instanceMethod ⟨"java/util/ArrayList", "remove", "(I)Ljava/lang/Object;"⟩) ∈ mf_tb := mf_in (i := 351) (by decide +kernel) (by decide +kernel)
set_option maxRecDepth 20000 in
theorem mt_311 : (Cond.selects "java/util/ArrayList" ⟨"java/util/ArrayList", "remove", "(I)Ljava/lang/Object;"⟩ ⟨"java/util/ArrayList", "remove", "(I)Ljava/lang/Object;"⟩) ∈ mf_tb := mf_in (i := 352) (by decide +kernel) (by decide +kernel)
set_option maxRecDepth 20000 in
theorem mt_312 : (Cond.code ⟨"java/util/ArrayList", "remove", "(I)Ljava/lang/Object;"⟩ prog_20_method_29_code 4 (Option.some (FieldType.object "java/lang/Object"))) ∈ mf_tb := mf_in (i := 353) (by rfl) (by rfl)
set_option maxRecDepth 20000 in
theorem mt_313 : (Cond.methodLink "java/util/ArrayList" 144 ⟨"java/util/ArrayList", "fastRemove", "([Ljava/lang/Object;I)V"⟩) ∈ mf_tb := mf_in (i := 354) (by decide +kernel) (by decide +kernel)
set_option maxRecDepth 20000 in
theorem mt_315 : (Cond.instanceMethod ⟨"java/util/ArrayList", "fastRemove", "([Ljava/lang/Object;I)V"⟩) ∈ mf_tb := mf_in (i := 356) (by decide +kernel) (by decide +kernel)
set_option maxRecDepth 20000 in
theorem mt_316 : (Cond.code ⟨"java/util/ArrayList", "fastRemove", "([Ljava/lang/Object;I)V"⟩ prog_20_method_39_code 4 (Option.none : Option FieldType)) ∈ mf_tb := mf_in (i := 357) (by rfl) (by rfl)
set_option maxRecDepth 20000 in
theorem mt_317 : (Cond.methodLink "java/util/ArrayList" 112 ⟨"java/lang/System", "arraycopy", "(Ljava/lang/Object;ILjava/lang/Object;II)V"⟩) ∈ mf_tb := mf_in (i := 358) (by decide +kernel) (by decide +kernel)
set_option maxRecDepth 20000 in
theorem mt_318 : (Cond.static ⟨"java/lang/System", "arraycopy", "(Ljava/lang/Object;ILjava/lang/Object;II)V"⟩) ∈ mf_tb := mf_in (i := 359) (by decide +kernel) (by decide +kernel)
set_option maxRecDepth 20000 in
theorem mt_319 : (Cond.native ⟨"java/lang/System", "arraycopy", "(Ljava/lang/Object;ILjava/lang/Object;II)V"⟩) ∈ mf_tb := mf_in (i := 360) (by decide +kernel) (by decide +kernel)
set_option maxRecDepth 20000 in
theorem mt_320 : (Cond.methodLink "MatchFloor" 206 ⟨"java/lang/Math", "min", "(II)I"⟩) ∈ mf_tb := mf_in (i := 361) (by decide +kernel) (by decide +kernel)
set_option maxRecDepth 20000 in
theorem mt_321 : (Cond.static ⟨"java/lang/Math", "min", "(II)I"⟩) ∈ mf_tb := mf_in (i := 362) (by decide +kernel) (by decide +kernel)
set_option maxRecDepth 20000 in
theorem mt_322 : (Cond.code ⟨"java/lang/Math", "min", "(II)I"⟩ prog_13_method_69_code 2 (Option.some FieldType.int)) ∈ mf_tb := mf_in (i := 363) (by rfl) (by rfl)
set_option maxRecDepth 20000 in
theorem mt_325 : (Cond.instanceMethod ⟨"MatchFloor$Tape", "write", "(IIII)V"⟩) ∈ mf_tb := mf_in (i := 366) (by decide +kernel) (by decide +kernel)
set_option maxRecDepth 20000 in
theorem mt_326 : (Cond.code ⟨"MatchFloor$Tape", "write", "(IIII)V"⟩ prog_3_method_2_code 6 (Option.none : Option FieldType)) ∈ mf_tb := mf_in (i := 367) (by rfl) (by rfl)
set_option maxRecDepth 20000 in
theorem mt_327 : (Cond.methodLink "MatchFloor$Tape" 23 ⟨"java/lang/Math", "floorMod", "(II)I"⟩) ∈ mf_tb := mf_in (i := 368) (by decide +kernel) (by decide +kernel)
set_option maxRecDepth 20000 in
theorem mt_328 : (Cond.static ⟨"java/lang/Math", "floorMod", "(II)I"⟩) ∈ mf_tb := mf_in (i := 369) (by decide +kernel) (by decide +kernel)
set_option maxRecDepth 20000 in
theorem mt_329 : (Cond.code ⟨"java/lang/Math", "floorMod", "(II)I"⟩ prog_13_method_50_code 3 (Option.some FieldType.int)) ∈ mf_tb := mf_in (i := 370) (by rfl) (by rfl)
set_option maxRecDepth 20000 in
theorem mt_330 : (Cond.methodLink "MatchFloor" 193 ⟨"java/util/ArrayList", "add", "(Ljava/lang/Object;)Z"⟩) ∈ mf_tb := mf_in (i := 371) (by decide +kernel) (by decide +kernel)
set_option maxRecDepth 20000 in
theorem mt_331 : (Cond.instanceMethod ⟨"java/util/ArrayList", "add", "(Ljava/lang/Object;)Z"⟩) ∈ mf_tb := mf_in (i := 372) (by decide +kernel) (by decide +kernel)
set_option maxRecDepth 20000 in
theorem mt_332 : (Cond.selects "java/util/ArrayList" ⟨"java/util/ArrayList", "add", "(Ljava/lang/Object;)Z"⟩ ⟨"java/util/ArrayList", "add", "(Ljava/lang/Object;)Z"⟩) ∈ mf_tb := mf_in (i := 373) (by decide +kernel) (by decide +kernel)
set_option maxRecDepth 20000 in
theorem mt_333 : (Cond.code ⟨"java/util/ArrayList", "add", "(Ljava/lang/Object;)Z"⟩ prog_20_method_25_code 2 (Option.some FieldType.boolean)) ∈ mf_tb := mf_in (i := 374) (by rfl) (by rfl)
set_option maxRecDepth 20000 in
theorem mt_334 : (Cond.methodLink "java/util/ArrayList" 131 ⟨"java/util/ArrayList", "add", "(Ljava/lang/Object;[Ljava/lang/Object;I)V"⟩) ∈ mf_tb := mf_in (i := 375) (by decide +kernel) (by decide +kernel)
set_option maxRecDepth 20000 in
theorem mt_336 : (Cond.instanceMethod ⟨"java/util/ArrayList", "add", "(Ljava/lang/Object;[Ljava/lang/Object;I)V"⟩) ∈ mf_tb := mf_in (i := 377) (by decide +kernel) (by decide +kernel)
set_option maxRecDepth 20000 in
theorem mt_337 : (Cond.code ⟨"java/util/ArrayList", "add", "(Ljava/lang/Object;[Ljava/lang/Object;I)V"⟩ prog_20_method_24_code 4 (Option.none : Option FieldType)) ∈ mf_tb := mf_in (i := 378) (by rfl) (by rfl)
set_option maxRecDepth 20000 in
theorem mt_338 : (Cond.methodLink "java/util/ArrayList" 129 ⟨"java/util/ArrayList", "grow", "()[Ljava/lang/Object;"⟩) ∈ mf_tb := mf_in (i := 379) (by decide +kernel) (by decide +kernel)
set_option maxRecDepth 20000 in
theorem mt_340 : (Cond.instanceMethod ⟨"java/util/ArrayList", "grow", "()[Ljava/lang/Object;"⟩) ∈ mf_tb := mf_in (i := 381) (by decide +kernel) (by decide +kernel)
set_option maxRecDepth 20000 in
theorem mt_341 : (Cond.code ⟨"java/util/ArrayList", "grow", "()[Ljava/lang/Object;"⟩ prog_20_method_7_code 1 (Option.some (FieldType.array (FieldType.object "java/lang/Object")))) ∈ mf_tb := mf_in (i := 382) (by rfl) (by rfl)
set_option maxRecDepth 20000 in
theorem mt_342 : (Cond.methodLink "java/util/ArrayList" 69 ⟨"java/util/ArrayList", "grow", "(I)[Ljava/lang/Object;"⟩) ∈ mf_tb := mf_in (i := 383) (by decide +kernel) (by decide +kernel)
set_option maxRecDepth 20000 in
theorem mt_344 : (Cond.instanceMethod ⟨"java/util/ArrayList", "grow", "(I)[Ljava/lang/Object;"⟩) ∈ mf_tb := mf_in (i := 385) (by decide +kernel) (by decide +kernel)
set_option maxRecDepth 20000 in
theorem mt_345 : (Cond.code ⟨"java/util/ArrayList", "grow", "(I)[Ljava/lang/Object;"⟩ prog_20_method_6_code 4 (Option.some (FieldType.array (FieldType.object "java/lang/Object")))) ∈ mf_tb := mf_in (i := 386) (by rfl) (by rfl)
set_option maxRecDepth 20000 in
theorem mt_346 : (Cond.methodLink "java/util/ArrayList" 73 ⟨"jdk/internal/util/ArraysSupport", "newLength", "(III)I"⟩) ∈ mf_tb := mf_in (i := 387) (by decide +kernel) (by decide +kernel)
set_option maxRecDepth 20000 in
theorem mt_347 : (Cond.static ⟨"jdk/internal/util/ArraysSupport", "newLength", "(III)I"⟩) ∈ mf_tb := mf_in (i := 388) (by decide +kernel) (by decide +kernel)
set_option maxRecDepth 20000 in
theorem mt_348 : (Cond.code ⟨"jdk/internal/util/ArraysSupport", "newLength", "(III)I"⟩ prog_28_method_27_code 4 (Option.some FieldType.int)) ∈ mf_tb := mf_in (i := 389) (by rfl) (by rfl)
set_option maxRecDepth 20000 in
theorem mt_349 : (Cond.methodLink "jdk/internal/util/ArraysSupport" 194 ⟨"java/lang/Math", "max", "(II)I"⟩) ∈ mf_tb := mf_in (i := 390) (by decide +kernel) (by decide +kernel)
set_option maxRecDepth 20000 in
theorem mt_350 : (Cond.static ⟨"java/lang/Math", "max", "(II)I"⟩) ∈ mf_tb := mf_in (i := 391) (by decide +kernel) (by decide +kernel)
set_option maxRecDepth 20000 in
theorem mt_351 : (Cond.code ⟨"java/lang/Math", "max", "(II)I"⟩ prog_13_method_65_code 2 (Option.some FieldType.int)) ∈ mf_tb := mf_in (i := 392) (by rfl) (by rfl)
set_option maxRecDepth 20000 in
theorem mt_352 : (Cond.constant "jdk/internal/util/ArraysSupport" 200 (2147483639 : Int32)) ∈ mf_tb := mf_in (i := 393) (by decide +kernel) (by decide +kernel)
set_option maxRecDepth 20000 in
theorem mt_353 : (Cond.methodLink "jdk/internal/util/ArraysSupport" 201 ⟨"jdk/internal/util/ArraysSupport", "hugeLength", "(II)I"⟩) ∈ mf_tb := mf_in (i := 394) (by decide +kernel) (by decide +kernel)
set_option maxRecDepth 20000 in
theorem mt_354 : (Cond.static ⟨"jdk/internal/util/ArraysSupport", "hugeLength", "(II)I"⟩) ∈ mf_tb := mf_in (i := 395) (by decide +kernel) (by decide +kernel)
set_option maxRecDepth 20000 in
theorem mt_355 : (Cond.code ⟨"jdk/internal/util/ArraysSupport", "hugeLength", "(II)I"⟩ prog_28_method_28_code 3 (Option.some FieldType.int)) ∈ mf_tb := mf_in (i := 396) (by rfl) (by rfl)
set_option maxRecDepth 20000 in
theorem mt_356 : (Cond.methodLink "java/util/ArrayList" 66 ⟨"java/util/Arrays", "copyOf", "([Ljava/lang/Object;I)[Ljava/lang/Object;"⟩) ∈ mf_tb := mf_in (i := 397) (by decide +kernel) (by decide +kernel)
set_option maxRecDepth 20000 in
theorem mt_357 : (Cond.static ⟨"java/util/Arrays", "copyOf", "([Ljava/lang/Object;I)[Ljava/lang/Object;"⟩) ∈ mf_tb := mf_in (i := 398) (by decide +kernel) (by decide +kernel)
set_option maxRecDepth 20000 in
theorem mt_358 : (Cond.code ⟨"java/util/Arrays", "copyOf", "([Ljava/lang/Object;I)[Ljava/lang/Object;"⟩ prog_21_method_119_code 2 (Option.some (FieldType.array (FieldType.object "java/lang/Object")))) ∈ mf_tb := mf_in (i := 399) (by rfl) (by rfl)
set_option maxRecDepth 20000 in
theorem mt_359 : (Cond.methodLink "java/util/Arrays" 86 ⟨"java/lang/Object", "getClass", "()Ljava/lang/Class;"⟩) ∈ mf_tb := mf_in (i := 400) (by decide +kernel) (by decide +kernel)
set_option maxRecDepth 20000 in
theorem mt_360 : (Cond.instanceMethod ⟨"java/lang/Object", "getClass", "()Ljava/lang/Class;"⟩) ∈ mf_tb := mf_in (i := 401) (by decide +kernel) (by decide +kernel)
set_option maxRecDepth 20000 in
theorem mt_362 : (Cond.selects "MatchFloor" ⟨"java/lang/Object", "getClass", "()Ljava/lang/Class;"⟩ ⟨"java/lang/Object", "getClass", "()Ljava/lang/Class;"⟩) ∈ mf_tb := mf_in (i := 403) (by decide +kernel) (by decide +kernel)
set_option maxRecDepth 20000 in
theorem mt_363 : (Cond.selects "MatchFloor$Order" ⟨"java/lang/Object", "getClass", "()Ljava/lang/Class;"⟩ ⟨"java/lang/Object", "getClass", "()Ljava/lang/Class;"⟩) ∈ mf_tb := mf_in (i := 404) (by decide +kernel) (by decide +kernel)
set_option maxRecDepth 20000 in
theorem mt_364 : (Cond.selects "MatchFloor$Tape" ⟨"java/lang/Object", "getClass", "()Ljava/lang/Class;"⟩ ⟨"java/lang/Object", "getClass", "()Ljava/lang/Class;"⟩) ∈ mf_tb := mf_in (i := 405) (by decide +kernel) (by decide +kernel)
end
section
/-! words of the tables -/
set_option maxRecDepth 20000 in
theorem mt_365 : (Cond.selects "MatchFloorModel" ⟨"java/lang/Object", "getClass", "()Ljava/lang/Class;"⟩ ⟨"java/lang/Object", "getClass", "()Ljava/lang/Class;"⟩) ∈ mf_tb := mf_in (i := 406) (by decide +kernel) (by decide +kernel)
set_option maxRecDepth 20000 in
theorem mt_366 : (Cond.selects "java/lang/IllegalArgumentException" ⟨"java/lang/Object", "getClass", "()Ljava/lang/Class;"⟩ ⟨"java/lang/Object", "getClass", "()Ljava/lang/Class;"⟩) ∈ mf_tb := mf_in (i := 407) (by decide +kernel) (by decide +kernel)
set_option maxRecDepth 20000 in
theorem mt_367 : (Cond.selects "java/lang/IllegalStateException" ⟨"java/lang/Object", "getClass", "()Ljava/lang/Class;"⟩ ⟨"java/lang/Object", "getClass", "()Ljava/lang/Class;"⟩) ∈ mf_tb := mf_in (i := 408) (by decide +kernel) (by decide +kernel)
set_option maxRecDepth 20000 in
theorem mt_368 : (Cond.selects "java/lang/IndexOutOfBoundsException" ⟨"java/lang/Object", "getClass", "()Ljava/lang/Class;"⟩ ⟨"java/lang/Object", "getClass", "()Ljava/lang/Class;"⟩) ∈ mf_tb := mf_in (i := 409) (by decide +kernel) (by decide +kernel)
set_option maxRecDepth 20000 in
theorem mt_369 : (Cond.selects "java/util/ArrayList" ⟨"java/lang/Object", "getClass", "()Ljava/lang/Class;"⟩ ⟨"java/lang/Object", "getClass", "()Ljava/lang/Class;"⟩) ∈ mf_tb := mf_in (i := 410) (by decide +kernel) (by decide +kernel)
set_option maxRecDepth 20000 in
theorem mt_370 : (Cond.selects "java/util/NoSuchElementException" ⟨"java/lang/Object", "getClass", "()Ljava/lang/Class;"⟩ ⟨"java/lang/Object", "getClass", "()Ljava/lang/Class;"⟩) ∈ mf_tb := mf_in (i := 411) (by decide +kernel) (by decide +kernel)
set_option maxRecDepth 20000 in
theorem mt_371 : (Cond.native ⟨"java/lang/Object", "getClass", "()Ljava/lang/Class;"⟩) ∈ mf_tb := mf_in (i := 412) (by decide +kernel) (by decide +kernel)
set_option maxRecDepth 20000 in
theorem mt_372 : (Cond.methodLink "java/util/Arrays" 300 ⟨"java/util/Arrays", "copyOf", "([Ljava/lang/Object;ILjava/lang/Class;)[Ljava/lang/Object;"⟩) ∈ mf_tb := mf_in (i := 413) (by decide +kernel) (by decide +kernel)
set_option maxRecDepth 20000 in
theorem mt_373 : (Cond.static ⟨"java/util/Arrays", "copyOf", "([Ljava/lang/Object;ILjava/lang/Class;)[Ljava/lang/Object;"⟩) ∈ mf_tb := mf_in (i := 414) (by decide +kernel) (by decide +kernel)
set_option maxRecDepth 20000 in
theorem mt_374 : (Cond.code ⟨"java/util/Arrays", "copyOf", "([Ljava/lang/Object;ILjava/lang/Class;)[Ljava/lang/Object;"⟩ prog_21_method_120_code 4 (Option.some (FieldType.array (FieldType.object "java/lang/Object")))) ∈ mf_tb := mf_in (i := 415) (by rfl) (by rfl)
set_option maxRecDepth 20000 in
theorem mt_375 : (Cond.classLink "java/util/Arrays" 110 "[Ljava/lang/Object;") ∈ mf_tb := mf_in (i := 416) (by decide +kernel) (by decide +kernel)
set_option maxRecDepth 20000 in
theorem mt_377 : (Cond.classLink "java/util/Arrays" 2 "java/lang/Object") ∈ mf_tb := mf_in (i := 418) (by decide +kernel) (by decide +kernel)
set_option maxRecDepth 20000 in
theorem mt_378 : (Cond.methodLink "java/util/Arrays" 304 ⟨"java/lang/Math", "min", "(II)I"⟩) ∈ mf_tb := mf_in (i := 419) (by decide +kernel) (by decide +kernel)
set_option maxRecDepth 20000 in
theorem mt_379 : (Cond.methodLink "java/util/Arrays" 150 ⟨"java/lang/System", "arraycopy", "(Ljava/lang/Object;ILjava/lang/Object;II)V"⟩) ∈ mf_tb := mf_in (i := 420) (by decide +kernel) (by decide +kernel)
set_option maxRecDepth 20000 in
theorem mt_380 : (Cond.methodLink "java/util/ArrayList" 79 ⟨"java/lang/Math", "max", "(II)I"⟩) ∈ mf_tb := mf_in (i := 421) (by decide +kernel) (by decide +kernel)
set_option maxRecDepth 20000 in
theorem mt_381 : (Cond.classLink "java/util/ArrayList" 7 "java/lang/Object") ∈ mf_tb := mf_in (i := 422) (by decide +kernel) (by decide +kernel)
set_option maxRecDepth 20000 in
theorem mt_382 : (Cond.methodLink "MatchFloor" 197 ⟨"MatchFloor", "matchDueStops", "()V"⟩) ∈ mf_tb := mf_in (i := 423) (by decide +kernel) (by decide +kernel)
set_option maxRecDepth 20000 in
theorem mt_384 : (Cond.instanceMethod ⟨"MatchFloor", "matchDueStops", "()V"⟩) ∈ mf_tb := mf_in (i := 425) (by decide +kernel) (by decide +kernel)
set_option maxRecDepth 20000 in
theorem mt_385 : (Cond.code ⟨"MatchFloor", "matchDueStops", "()V"⟩ prog_1_method_26_code 3 (Option.none : Option FieldType)) ∈ mf_tb := mf_in (i := 426) (by rfl) (by rfl)
set_option maxRecDepth 20000 in
theorem mt_386 : (Cond.methodLink "MatchFloor" 200 ⟨"MatchFloor", "placeOfDue", "()I"⟩) ∈ mf_tb := mf_in (i := 427) (by decide +kernel) (by decide +kernel)
set_option maxRecDepth 20000 in
theorem mt_388 : (Cond.instanceMethod ⟨"MatchFloor", "placeOfDue", "()I"⟩) ∈ mf_tb := mf_in (i := 429) (by decide +kernel) (by decide +kernel)
set_option maxRecDepth 20000 in
theorem mt_389 : (Cond.code ⟨"MatchFloor", "placeOfDue", "()I"⟩ prog_1_method_22_code 2 (Option.some FieldType.int)) ∈ mf_tb := mf_in (i := 430) (by rfl) (by rfl)
set_option maxRecDepth 20000 in
theorem mt_392 : (Cond.instanceMethod ⟨"MatchFloor$Order", "isDueAt", "(I)Z"⟩) ∈ mf_tb := mf_in (i := 433) (by decide +kernel) (by decide +kernel)
set_option maxRecDepth 20000 in
theorem mt_393 : (Cond.code ⟨"MatchFloor$Order", "isDueAt", "(I)Z"⟩ prog_2_method_4_code 2 (Option.some FieldType.boolean)) ∈ mf_tb := mf_in (i := 434) (by rfl) (by rfl)
set_option maxRecDepth 20000 in
theorem mt_394 : (Cond.methodLink "MatchFloorLaw" 62 ⟨"MatchFloorLaw", "cancel", "(LMatchFloor;I[J)I"⟩) ∈ mf_tb := mf_in (i := 435) (by decide +kernel) (by decide +kernel)
set_option maxRecDepth 20000 in
theorem mt_395 : (Cond.static ⟨"MatchFloorLaw", "cancel", "(LMatchFloor;I[J)I"⟩) ∈ mf_tb := mf_in (i := 436) (by decide +kernel) (by decide +kernel)
set_option maxRecDepth 20000 in
theorem mt_396 : (Cond.codeWith ⟨"MatchFloorLaw", "cancel", "(LMatchFloor;I[J)I"⟩ method_4_code 4 (Option.some FieldType.int) [(0, 9, 12, 21)]) ∈ mf_tb := mf_in (i := 437) (by rfl) (by rfl)
set_option maxRecDepth 20000 in
theorem mt_397 : (Cond.classLink "MatchFloorLaw" 21 "java/util/NoSuchElementException") ∈ mf_tb := mf_in (i := 438) (by decide +kernel) (by decide +kernel)
set_option maxRecDepth 20000 in
theorem mt_398 : (Cond.methodLink "MatchFloorLaw" 17 ⟨"MatchFloor", "cancel", "(I)I"⟩) ∈ mf_tb := mf_in (i := 439) (by decide +kernel) (by decide +kernel)
set_option maxRecDepth 20000 in
theorem mt_399 : (Cond.instanceMethod ⟨"MatchFloor", "cancel", "(I)I"⟩) ∈ mf_tb := mf_in (i := 440) (by decide +kernel) (by decide +kernel)
set_option maxRecDepth 20000 in
theorem mt_400 : (Cond.selects "MatchFloor" ⟨"MatchFloor", "cancel", "(I)I"⟩ ⟨"MatchFloor", "cancel", "(I)I"⟩) ∈ mf_tb := mf_in (i := 441) (by decide +kernel) (by decide +kernel)
set_option maxRecDepth 20000 in
theorem mt_401 : (Cond.code ⟨"MatchFloor", "cancel", "(I)I"⟩ prog_1_method_3_code 3 (Option.some FieldType.int)) ∈ mf_tb := mf_in (i := 442) (by rfl) (by rfl)
set_option maxRecDepth 20000 in
theorem mt_402 : (Cond.classLink "MatchFloor" 72 "java/util/NoSuchElementException") ∈ mf_tb := mf_in (i := 443) (by decide +kernel) (by decide +kernel)
set_option maxRecDepth 20000 in
theorem mt_403 : (Cond.instantiable "java/util/NoSuchElementException" 6) ∈ mf_tb := mf_in (i := 444) (by decide +kernel) (by decide +kernel)
set_option maxRecDepth 20000 in
theorem mt_405 : (Cond.selects "java/util/NoSuchElementException" ⟨"java/lang/Throwable", "fillInStackTrace", "(I)Ljava/lang/Throwable;"⟩ ⟨"java/lang/Throwable", "fillInStackTrace", "(I)Ljava/lang/Throwable;"⟩) ∈ mf_tb := mf_in (i := 446) (by decide +kernel) (by decide +kernel)
set_option maxRecDepth 20000 in
theorem mt_406 : (Cond.lays "java/util/NoSuchElementException" "java/lang/Throwable" "cause" "Ljava/lang/Throwable;") ∈ mf_tb := mf_in (i := 447) (by decide +kernel) (by decide +kernel)
set_option maxRecDepth 20000 in
theorem mt_407 : (Cond.lays "java/util/NoSuchElementException" "java/lang/Throwable" "stackTrace" "[Ljava/lang/StackTraceElement;") ∈ mf_tb := mf_in (i := 448) (by decide +kernel) (by decide +kernel)
set_option maxRecDepth 20000 in
theorem mt_408 : (Cond.lays "java/util/NoSuchElementException" "java/lang/Throwable" "suppressedExceptions" "Ljava/util/List;") ∈ mf_tb := mf_in (i := 449) (by decide +kernel) (by decide +kernel)
set_option maxRecDepth 20000 in
theorem mt_409 : (Cond.lays "java/util/NoSuchElementException" "java/lang/Throwable" "detailMessage" "Ljava/lang/String;") ∈ mf_tb := mf_in (i := 450) (by decide +kernel) (by decide +kernel)
set_option maxRecDepth 20000 in
theorem mt_410 : (Cond.lays "java/util/NoSuchElementException" "java/lang/Throwable" "backtrace" "Ljava/lang/Object;") ∈ mf_tb := mf_in (i := 451) (by decide +kernel) (by decide +kernel)
set_option maxRecDepth 20000 in
theorem mt_412 : (Cond.methodLink "MatchFloor" 76 ⟨"java/util/NoSuchElementException", "<init>", "(Ljava/lang/String;)V"⟩) ∈ mf_tb := mf_in (i := 453) (by decide +kernel) (by decide +kernel)
set_option maxRecDepth 20000 in
theorem mt_413 : (Cond.instanceMethod ⟨"java/util/NoSuchElementException", "<init>", "(Ljava/lang/String;)V"⟩) ∈ mf_tb := mf_in (i := 454) (by decide +kernel) (by decide +kernel)
set_option maxRecDepth 20000 in
theorem mt_414 : (Cond.code ⟨"java/util/NoSuchElementException", "<init>", "(Ljava/lang/String;)V"⟩ prog_24_method_4_code 2 (Option.none : Option FieldType)) ∈ mf_tb := mf_in (i := 455) (by rfl) (by rfl)
set_option maxRecDepth 20000 in
theorem mt_415 : (Cond.methodLink "java/util/NoSuchElementException" 13 ⟨"java/lang/RuntimeException", "<init>", "(Ljava/lang/String;)V"⟩) ∈ mf_tb := mf_in (i := 456) (by decide +kernel) (by decide +kernel)
set_option maxRecDepth 20000 in
theorem mt_416 : (Cond.lays "java/util/NoSuchElementException" "java/lang/Throwable" "depth" "I") ∈ mf_tb := mf_in (i := 457) (by decide +kernel) (by decide +kernel)
set_option maxRecDepth 20000 in
theorem mt_418 : (Cond.methodLink "MatchFloorLaw" 66 ⟨"MatchFloorLaw", "amend", "(LMatchFloor;III[J)I"⟩) ∈ mf_tb := mf_in (i := 459) (by decide +kernel) (by decide +kernel)
set_option maxRecDepth 20000 in
theorem mt_419 : (Cond.static ⟨"MatchFloorLaw", "amend", "(LMatchFloor;III[J)I"⟩) ∈ mf_tb := mf_in (i := 460) (by decide +kernel) (by decide +kernel)
set_option maxRecDepth 20000 in
theorem mt_420 : (Cond.codeWith ⟨"MatchFloorLaw", "amend", "(LMatchFloor;III[J)I"⟩ method_5_code 6 (Option.some FieldType.int) [(0, 12, 15, 13), (0, 12, 19, 21)]) ∈ mf_tb := mf_in (i := 461) (by rfl) (by rfl)
set_option maxRecDepth 20000 in
theorem mt_421 : (Cond.methodLink "MatchFloorLaw" 23 ⟨"MatchFloor", "amend", "(III)I"⟩) ∈ mf_tb := mf_in (i := 462) (by decide +kernel) (by decide +kernel)
set_option maxRecDepth 20000 in
theorem mt_422 : (Cond.instanceMethod ⟨"MatchFloor", "amend", "(III)I"⟩) ∈ mf_tb := mf_in (i := 463) (by decide +kernel) (by decide +kernel)
set_option maxRecDepth 20000 in
theorem mt_423 : (Cond.selects "MatchFloor" ⟨"MatchFloor", "amend", "(III)I"⟩ ⟨"MatchFloor", "amend", "(III)I"⟩) ∈ mf_tb := mf_in (i := 464) (by decide +kernel) (by decide +kernel)
set_option maxRecDepth 20000 in
theorem mt_424 : (Cond.code ⟨"MatchFloor", "amend", "(III)I"⟩ prog_1_method_4_code 6 (Option.some FieldType.int)) ∈ mf_tb := mf_in (i := 465) (by rfl) (by rfl)
set_option maxRecDepth 20000 in
theorem mt_425 : (Cond.methodLink "MatchFloorLaw" 70 ⟨"MatchFloorLaw", "withdraw", "(LMatchFloor;I[J)I"⟩) ∈ mf_tb := mf_in (i := 466) (by decide +kernel) (by decide +kernel)
set_option maxRecDepth 20000 in
theorem mt_426 : (Cond.static ⟨"MatchFloorLaw", "withdraw", "(LMatchFloor;I[J)I"⟩) ∈ mf_tb := mf_in (i := 467) (by decide +kernel) (by decide +kernel)
set_option maxRecDepth 20000 in
theorem mt_427 : (Cond.codeWith ⟨"MatchFloorLaw", "withdraw", "(LMatchFloor;I[J)I"⟩ method_6_code 4 (Option.some FieldType.int) [(0, 9, 12, 13)]) ∈ mf_tb := mf_in (i := 468) (by rfl) (by rfl)
set_option maxRecDepth 20000 in
theorem mt_428 : (Cond.methodLink "MatchFloorLaw" 27 ⟨"MatchFloor", "withdraw", "(I)I"⟩) ∈ mf_tb := mf_in (i := 469) (by decide +kernel) (by decide +kernel)
set_option maxRecDepth 20000 in
theorem mt_429 : (Cond.instanceMethod ⟨"MatchFloor", "withdraw", "(I)I"⟩) ∈ mf_tb := mf_in (i := 470) (by decide +kernel) (by decide +kernel)
set_option maxRecDepth 20000 in
theorem mt_430 : (Cond.selects "MatchFloor" ⟨"MatchFloor", "withdraw", "(I)I"⟩ ⟨"MatchFloor", "withdraw", "(I)I"⟩) ∈ mf_tb := mf_in (i := 471) (by decide +kernel) (by decide +kernel)
set_option maxRecDepth 20000 in
theorem mt_431 : (Cond.code ⟨"MatchFloor", "withdraw", "(I)I"⟩ prog_1_method_5_code 4 (Option.some FieldType.int)) ∈ mf_tb := mf_in (i := 472) (by rfl) (by rfl)
set_option maxRecDepth 20000 in
theorem mt_433 : (Cond.methodLink "MatchFloorLaw" 73 ⟨"MatchFloorLaw", "levels", "(LMatchFloor;I[J)I"⟩) ∈ mf_tb := mf_in (i := 474) (by decide +kernel) (by decide +kernel)
set_option maxRecDepth 20000 in
theorem mt_434 : (Cond.static ⟨"MatchFloorLaw", "levels", "(LMatchFloor;I[J)I"⟩) ∈ mf_tb := mf_in (i := 475) (by decide +kernel) (by decide +kernel)
set_option maxRecDepth 20000 in
theorem mt_435 : (Cond.codeWith ⟨"MatchFloorLaw", "levels", "(LMatchFloor;I[J)I"⟩ method_7_code 4 (Option.some FieldType.int) [(0, 9, 12, 13)]) ∈ mf_tb := mf_in (i := 476) (by rfl) (by rfl)
set_option maxRecDepth 20000 in
theorem mt_436 : (Cond.methodLink "MatchFloorLaw" 30 ⟨"MatchFloor", "levels", "(I)I"⟩) ∈ mf_tb := mf_in (i := 477) (by decide +kernel) (by decide +kernel)
set_option maxRecDepth 20000 in
theorem mt_437 : (Cond.instanceMethod ⟨"MatchFloor", "levels", "(I)I"⟩) ∈ mf_tb := mf_in (i := 478) (by decide +kernel) (by decide +kernel)
set_option maxRecDepth 20000 in
theorem mt_438 : (Cond.selects "MatchFloor" ⟨"MatchFloor", "levels", "(I)I"⟩ ⟨"MatchFloor", "levels", "(I)I"⟩) ∈ mf_tb := mf_in (i := 479) (by decide +kernel) (by decide +kernel)
set_option maxRecDepth 20000 in
theorem mt_439 : (Cond.code ⟨"MatchFloor", "levels", "(I)I"⟩ prog_1_method_6_code 2 (Option.some FieldType.int)) ∈ mf_tb := mf_in (i := 480) (by rfl) (by rfl)
set_option maxRecDepth 20000 in
theorem mt_440 : (Cond.methodLink "MatchFloor" 100 ⟨"MatchFloor", "isSide", "(I)Z"⟩) ∈ mf_tb := mf_in (i := 481) (by decide +kernel) (by decide +kernel)
set_option maxRecDepth 20000 in
theorem mt_441 : (Cond.static ⟨"MatchFloor", "isSide", "(I)Z"⟩) ∈ mf_tb := mf_in (i := 482) (by decide +kernel) (by decide +kernel)
set_option maxRecDepth 20000 in
theorem mt_442 : (Cond.code ⟨"MatchFloor", "isSide", "(I)Z"⟩ prog_1_method_15_code 1 (Option.some FieldType.boolean)) ∈ mf_tb := mf_in (i := 483) (by rfl) (by rfl)
set_option maxRecDepth 20000 in
theorem mt_444 : (Cond.methodLink "MatchFloor" 105 ⟨"MatchFloor", "countLevels", "(I)I"⟩) ∈ mf_tb := mf_in (i := 485) (by decide +kernel) (by decide +kernel)
set_option maxRecDepth 20000 in
theorem mt_446 : (Cond.instanceMethod ⟨"MatchFloor", "countLevels", "(I)I"⟩) ∈ mf_tb := mf_in (i := 487) (by decide +kernel) (by decide +kernel)
set_option maxRecDepth 20000 in
theorem mt_447 : (Cond.code ⟨"MatchFloor", "countLevels", "(I)I"⟩ prog_1_method_29_code 4 (Option.some FieldType.int)) ∈ mf_tb := mf_in (i := 488) (by rfl) (by rfl)
set_option maxRecDepth 20000 in
theorem mt_448 : (Cond.methodLink "MatchFloor" 215 ⟨"MatchFloor", "nextPrice", "(II)I"⟩) ∈ mf_tb := mf_in (i := 489) (by decide +kernel) (by decide +kernel)
set_option maxRecDepth 20000 in
theorem mt_450 : (Cond.instanceMethod ⟨"MatchFloor", "nextPrice", "(II)I"⟩) ∈ mf_tb := mf_in (i := 491) (by decide +kernel) (by decide +kernel)
set_option maxRecDepth 20000 in
theorem mt_451 : (Cond.code ⟨"MatchFloor", "nextPrice", "(II)I"⟩ prog_1_method_31_code 8 (Option.some FieldType.int)) ∈ mf_tb := mf_in (i := 492) (by rfl) (by rfl)
set_option maxRecDepth 20000 in
theorem mt_452 : (Cond.methodLink "MatchFloorLaw" 76 ⟨"MatchFloorLaw", "level", "(LMatchFloor;III[J)I"⟩) ∈ mf_tb := mf_in (i := 493) (by decide +kernel) (by decide +kernel)
set_option maxRecDepth 20000 in
theorem mt_453 : (Cond.static ⟨"MatchFloorLaw", "level", "(LMatchFloor;III[J)I"⟩) ∈ mf_tb := mf_in (i := 494) (by decide +kernel) (by decide +kernel)
set_option maxRecDepth 20000 in
theorem mt_454 : (Cond.codeWith ⟨"MatchFloorLaw", "level", "(LMatchFloor;III[J)I"⟩ method_8_code 6 (Option.some FieldType.int) [(0, 12, 15, 13), (0, 12, 19, 36)]) ∈ mf_tb := mf_in (i := 495) (by rfl) (by rfl)
set_option maxRecDepth 20000 in
theorem mt_455 : (Cond.classLink "MatchFloorLaw" 36 "java/lang/IndexOutOfBoundsException") ∈ mf_tb := mf_in (i := 496) (by decide +kernel) (by decide +kernel)
set_option maxRecDepth 20000 in
theorem mt_456 : (Cond.methodLink "MatchFloorLaw" 33 ⟨"MatchFloor", "level", "(III)I"⟩) ∈ mf_tb := mf_in (i := 497) (by decide +kernel) (by decide +kernel)
set_option maxRecDepth 20000 in
theorem mt_457 : (Cond.instanceMethod ⟨"MatchFloor", "level", "(III)I"⟩) ∈ mf_tb := mf_in (i := 498) (by decide +kernel) (by decide +kernel)
set_option maxRecDepth 20000 in
theorem mt_458 : (Cond.selects "MatchFloor" ⟨"MatchFloor", "level", "(III)I"⟩ ⟨"MatchFloor", "level", "(III)I"⟩) ∈ mf_tb := mf_in (i := 499) (by decide +kernel) (by decide +kernel)
set_option maxRecDepth 20000 in
theorem mt_459 : (Cond.code ⟨"MatchFloor", "level", "(III)I"⟩ prog_1_method_7_code 5 (Option.some FieldType.int)) ∈ mf_tb := mf_in (i := 500) (by rfl) (by rfl)
set_option maxRecDepth 20000 in
theorem mt_461 : (Cond.classLink "MatchFloor" 110 "java/lang/IndexOutOfBoundsException") ∈ mf_tb := mf_in (i := 502) (by decide +kernel) (by decide +kernel)
set_option maxRecDepth 20000 in
theorem mt_462 : (Cond.instantiable "java/lang/IndexOutOfBoundsException" 6) ∈ mf_tb := mf_in (i := 503) (by decide +kernel) (by decide +kernel)
set_option maxRecDepth 20000 in
theorem mt_464 : (Cond.selects "java/lang/IndexOutOfBoundsException" ⟨"java/lang/Throwable", "fillInStackTrace", "(I)Ljava/lang/Throwable;"⟩ ⟨"java/lang/Throwable", "fillInStackTrace", "(I)Ljava/lang/Throwable;"⟩) ∈ mf_tb := mf_in (i := 505) (by decide +kernel) (by decide +kernel)
set_option maxRecDepth 20000 in
theorem mt_465 : (Cond.lays "java/lang/IndexOutOfBoundsException" "java/lang/Throwable" "cause" "Ljava/lang/Throwable;") ∈ mf_tb := mf_in (i := 506) (by decide +kernel) (by decide +kernel)
set_option maxRecDepth 20000 in
theorem mt_466 : (Cond.lays "java/lang/IndexOutOfBoundsException" "java/lang/Throwable" "stackTrace" "[Ljava/lang/StackTraceElement;") ∈ mf_tb := mf_in (i := 507) (by decide +kernel) (by decide +kernel)
set_option maxRecDepth 20000 in
theorem mt_467 : (Cond.lays "java/lang/IndexOutOfBoundsException" "java/lang/Throwable" "suppressedExceptions" "Ljava/util/List;") ∈ mf_tb := mf_in (i := 508) (by decide +kernel) (by decide +kernel)
set_option maxRecDepth 20000 in
theorem mt_468 : (Cond.lays "java/lang/IndexOutOfBoundsException" "java/lang/Throwable" "detailMessage" "Ljava/lang/String;") ∈ mf_tb := mf_in (i := 509) (by decide +kernel) (by decide +kernel)
set_option maxRecDepth 20000 in
theorem mt_469 : (Cond.lays "java/lang/IndexOutOfBoundsException" "java/lang/Throwable" "backtrace" "Ljava/lang/Object;") ∈ mf_tb := mf_in (i := 510) (by decide +kernel) (by decide +kernel)
set_option maxRecDepth 20000 in
theorem mt_471 : (Cond.methodLink "MatchFloor" 114 ⟨"java/lang/IndexOutOfBoundsException", "<init>", "(Ljava/lang/String;)V"⟩) ∈ mf_tb := mf_in (i := 512) (by decide +kernel) (by decide +kernel)
set_option maxRecDepth 20000 in
theorem mt_472 : (Cond.instanceMethod ⟨"java/lang/IndexOutOfBoundsException", "<init>", "(Ljava/lang/String;)V"⟩) ∈ mf_tb := mf_in (i := 513) (by decide +kernel) (by decide +kernel)
set_option maxRecDepth 20000 in
theorem mt_473 : (Cond.code ⟨"java/lang/IndexOutOfBoundsException", "<init>", "(Ljava/lang/String;)V"⟩ prog_11_method_2_code 2 (Option.none : Option FieldType)) ∈ mf_tb := mf_in (i := 514) (by rfl) (by rfl)
set_option maxRecDepth 20000 in
theorem mt_474 : (Cond.methodLink "java/lang/IndexOutOfBoundsException" 7 ⟨"java/lang/RuntimeException", "<init>", "(Ljava/lang/String;)V"⟩) ∈ mf_tb := mf_in (i := 515) (by decide +kernel) (by decide +kernel)
set_option maxRecDepth 20000 in
theorem mt_475 : (Cond.lays "java/lang/IndexOutOfBoundsException" "java/lang/Throwable" "depth" "I") ∈ mf_tb := mf_in (i := 516) (by decide +kernel) (by decide +kernel)
set_option maxRecDepth 20000 in
theorem mt_477 : (Cond.methodLink "MatchFloor" 115 ⟨"MatchFloor", "priceOfLevel", "(II)I"⟩) ∈ mf_tb := mf_in (i := 518) (by decide +kernel) (by decide +kernel)
set_option maxRecDepth 20000 in
theorem mt_479 : (Cond.instanceMethod ⟨"MatchFloor", "priceOfLevel", "(II)I"⟩) ∈ mf_tb := mf_in (i := 520) (by decide +kernel) (by decide +kernel)
set_option maxRecDepth 20000 in
theorem mt_480 : (Cond.code ⟨"MatchFloor", "priceOfLevel", "(II)I"⟩ prog_1_method_30_code 5 (Option.some FieldType.int)) ∈ mf_tb := mf_in (i := 521) (by rfl) (by rfl)
set_option maxRecDepth 20000 in
theorem mt_481 : (Cond.methodLink "MatchFloor" 119 ⟨"MatchFloor", "leftAt", "(II)I"⟩) ∈ mf_tb := mf_in (i := 522) (by decide +kernel) (by decide +kernel)
set_option maxRecDepth 20000 in
theorem mt_483 : (Cond.instanceMethod ⟨"MatchFloor", "leftAt", "(II)I"⟩) ∈ mf_tb := mf_in (i := 524) (by decide +kernel) (by decide +kernel)
set_option maxRecDepth 20000 in
theorem mt_484 : (Cond.code ⟨"MatchFloor", "leftAt", "(II)I"⟩ prog_1_method_32_code 6 (Option.some FieldType.int)) ∈ mf_tb := mf_in (i := 525) (by rfl) (by rfl)
set_option maxRecDepth 20000 in
theorem mt_485 : (Cond.methodLink "MatchFloor" 122 ⟨"MatchFloor", "ordersAt", "(II)I"⟩) ∈ mf_tb := mf_in (i := 526) (by decide +kernel) (by decide +kernel)
set_option maxRecDepth 20000 in
theorem mt_487 : (Cond.instanceMethod ⟨"MatchFloor", "ordersAt", "(II)I"⟩) ∈ mf_tb := mf_in (i := 528) (by decide +kernel) (by decide +kernel)
set_option maxRecDepth 20000 in
theorem mt_488 : (Cond.code ⟨"MatchFloor", "ordersAt", "(II)I"⟩ prog_1_method_33_code 6 (Option.some FieldType.int)) ∈ mf_tb := mf_in (i := 529) (by rfl) (by rfl)
set_option maxRecDepth 20000 in
theorem mt_489 : (Cond.methodLink "MatchFloorLaw" 79 ⟨"MatchFloorLaw", "order", "(LMatchFloor;II[J)I"⟩) ∈ mf_tb := mf_in (i := 530) (by decide +kernel) (by decide +kernel)
set_option maxRecDepth 20000 in
theorem mt_490 : (Cond.static ⟨"MatchFloorLaw", "order", "(LMatchFloor;II[J)I"⟩) ∈ mf_tb := mf_in (i := 531) (by decide +kernel) (by decide +kernel)
set_option maxRecDepth 20000 in
theorem mt_491 : (Cond.codeWith ⟨"MatchFloorLaw", "order", "(LMatchFloor;II[J)I"⟩ method_9_code 5 (Option.some FieldType.int) [(0, 10, 13, 21), (0, 10, 17, 13)]) ∈ mf_tb := mf_in (i := 532) (by rfl) (by rfl)
set_option maxRecDepth 20000 in
theorem mt_492 : (Cond.methodLink "MatchFloorLaw" 38 ⟨"MatchFloor", "order", "(II)I"⟩) ∈ mf_tb := mf_in (i := 533) (by decide +kernel) (by decide +kernel)
set_option maxRecDepth 20000 in
theorem mt_493 : (Cond.instanceMethod ⟨"MatchFloor", "order", "(II)I"⟩) ∈ mf_tb := mf_in (i := 534) (by decide +kernel) (by decide +kernel)
set_option maxRecDepth 20000 in
theorem mt_494 : (Cond.selects "MatchFloor" ⟨"MatchFloor", "order", "(II)I"⟩ ⟨"MatchFloor", "order", "(II)I"⟩) ∈ mf_tb := mf_in (i := 535) (by decide +kernel) (by decide +kernel)
set_option maxRecDepth 20000 in
theorem mt_495 : (Cond.code ⟨"MatchFloor", "order", "(II)I"⟩ prog_1_method_8_code 5 (Option.some FieldType.int)) ∈ mf_tb := mf_in (i := 536) (by rfl) (by rfl)
set_option maxRecDepth 20000 in
theorem mt_496 : (Cond.methodLink "MatchFloor" 128 ⟨"MatchFloor", "ordersBefore", "(I)I"⟩) ∈ mf_tb := mf_in (i := 537) (by decide +kernel) (by decide +kernel)
set_option maxRecDepth 20000 in
theorem mt_498 : (Cond.instanceMethod ⟨"MatchFloor", "ordersBefore", "(I)I"⟩) ∈ mf_tb := mf_in (i := 539) (by decide +kernel) (by decide +kernel)
set_option maxRecDepth 20000 in
theorem mt_499 : (Cond.code ⟨"MatchFloor", "ordersBefore", "(I)I"⟩ prog_1_method_34_code 5 (Option.some FieldType.int)) ∈ mf_tb := mf_in (i := 540) (by rfl) (by rfl)
set_option maxRecDepth 20000 in
theorem mt_502 : (Cond.instanceMethod ⟨"MatchFloor$Order", "queuesWith", "(LMatchFloor$Order;)Z"⟩) ∈ mf_tb := mf_in (i := 543) (by decide +kernel) (by decide +kernel)
set_option maxRecDepth 20000 in
theorem mt_503 : (Cond.code ⟨"MatchFloor$Order", "queuesWith", "(LMatchFloor$Order;)Z"⟩ prog_2_method_5_code 2 (Option.some FieldType.boolean)) ∈ mf_tb := mf_in (i := 544) (by rfl) (by rfl)
set_option maxRecDepth 20000 in
theorem mt_505 : (Cond.methodLink "MatchFloorLaw" 83 ⟨"MatchFloorLaw", "fill", "(LMatchFloor;II[J)I"⟩) ∈ mf_tb := mf_in (i := 546) (by decide +kernel) (by decide +kernel)
set_option maxRecDepth 20000 in
theorem mt_506 : (Cond.static ⟨"MatchFloorLaw", "fill", "(LMatchFloor;II[J)I"⟩) ∈ mf_tb := mf_in (i := 547) (by decide +kernel) (by decide +kernel)
set_option maxRecDepth 20000 in
theorem mt_507 : (Cond.codeWith ⟨"MatchFloorLaw", "fill", "(LMatchFloor;II[J)I"⟩ method_10_code 5 (Option.some FieldType.int) [(0, 10, 13, 13), (0, 10, 17, 36)]) ∈ mf_tb := mf_in (i := 548) (by rfl) (by rfl)
set_option maxRecDepth 20000 in
theorem mt_508 : (Cond.methodLink "MatchFloorLaw" 42 ⟨"MatchFloor", "fill", "(II)I"⟩) ∈ mf_tb := mf_in (i := 549) (by decide +kernel) (by decide +kernel)
set_option maxRecDepth 20000 in
theorem mt_509 : (Cond.instanceMethod ⟨"MatchFloor", "fill", "(II)I"⟩) ∈ mf_tb := mf_in (i := 550) (by decide +kernel) (by decide +kernel)
set_option maxRecDepth 20000 in
theorem mt_510 : (Cond.selects "MatchFloor" ⟨"MatchFloor", "fill", "(II)I"⟩ ⟨"MatchFloor", "fill", "(II)I"⟩) ∈ mf_tb := mf_in (i := 551) (by decide +kernel) (by decide +kernel)
set_option maxRecDepth 20000 in
theorem mt_511 : (Cond.code ⟨"MatchFloor", "fill", "(II)I"⟩ prog_1_method_9_code 3 (Option.some FieldType.int)) ∈ mf_tb := mf_in (i := 552) (by rfl) (by rfl)
set_option maxRecDepth 20000 in
theorem mt_515 : (Cond.instanceMethod ⟨"MatchFloor$Tape", "read", "(II)I"⟩) ∈ mf_tb := mf_in (i := 556) (by decide +kernel) (by decide +kernel)
set_option maxRecDepth 20000 in
theorem mt_516 : (Cond.code ⟨"MatchFloor$Tape", "read", "(II)I"⟩ prog_3_method_3_code 3 (Option.some FieldType.int)) ∈ mf_tb := mf_in (i := 557) (by rfl) (by rfl)
set_option maxRecDepth 20000 in
theorem mt_517 : (Cond.methodLink "MatchFloorLaw" 99 ⟨"MatchFloorLaw", "figure", "(LMatchFloor;I[J)I"⟩) ∈ mf_tb := mf_in (i := 558) (by decide +kernel) (by decide +kernel)
set_option maxRecDepth 20000 in
theorem mt_518 : (Cond.static ⟨"MatchFloorLaw", "figure", "(LMatchFloor;I[J)I"⟩) ∈ mf_tb := mf_in (i := 559) (by decide +kernel) (by decide +kernel)
set_option maxRecDepth 20000 in
theorem mt_519 : (Cond.codeWith ⟨"MatchFloorLaw", "figure", "(LMatchFloor;I[J)I"⟩ method_11_code 4 (Option.some FieldType.int) [(0, 9, 12, 13)]) ∈ mf_tb := mf_in (i := 560) (by rfl) (by rfl)
set_option maxRecDepth 20000 in
theorem mt_520 : (Cond.methodLink "MatchFloorLaw" 45 ⟨"MatchFloor", "figure", "(I)I"⟩) ∈ mf_tb := mf_in (i := 561) (by decide +kernel) (by decide +kernel)
set_option maxRecDepth 20000 in
theorem mt_521 : (Cond.instanceMethod ⟨"MatchFloor", "figure", "(I)I"⟩) ∈ mf_tb := mf_in (i := 562) (by decide +kernel) (by decide +kernel)
set_option maxRecDepth 20000 in
theorem mt_522 : (Cond.selects "MatchFloor" ⟨"MatchFloor", "figure", "(I)I"⟩ ⟨"MatchFloor", "figure", "(I)I"⟩) ∈ mf_tb := mf_in (i := 563) (by decide +kernel) (by decide +kernel)
set_option maxRecDepth 20000 in
theorem mt_523 : (Cond.code ⟨"MatchFloor", "figure", "(I)I"⟩ prog_1_method_13_code 2 (Option.some FieldType.int)) ∈ mf_tb := mf_in (i := 564) (by rfl) (by rfl)
set_option maxRecDepth 20000 in
theorem mt_524 : (Cond.methodLink "MatchFloor" 148 ⟨"MatchFloor", "countWaiting", "()I"⟩) ∈ mf_tb := mf_in (i := 565) (by decide +kernel) (by decide +kernel)
set_option maxRecDepth 20000 in
theorem mt_526 : (Cond.instanceMethod ⟨"MatchFloor", "countWaiting", "()I"⟩) ∈ mf_tb := mf_in (i := 567) (by decide +kernel) (by decide +kernel)
set_option maxRecDepth 20000 in
theorem mt_527 : (Cond.code ⟨"MatchFloor", "countWaiting", "()I"⟩ prog_1_method_35_code 3 (Option.some FieldType.int)) ∈ mf_tb := mf_in (i := 568) (by rfl) (by rfl)
set_option maxRecDepth 20000 in
theorem mt_529 : (Cond.classLink "MatchFloorLaw" 49 "MatchFloorModel") ∈ mf_tb := mf_in (i := 570) (by decide +kernel) (by decide +kernel)
set_option maxRecDepth 20000 in
theorem mt_530 : (Cond.instantiable "MatchFloorModel" 20) ∈ mf_tb := mf_in (i := 571) (by decide +kernel) (by decide +kernel)
set_option maxRecDepth 20000 in
theorem mt_531 : (Cond.methodLink "MatchFloorLaw" 51 ⟨"MatchFloorModel", "<init>", "()V"⟩) ∈ mf_tb := mf_in (i := 572) (by decide +kernel) (by decide +kernel)
set_option maxRecDepth 20000 in
theorem mt_532 : (Cond.instanceMethod ⟨"MatchFloorModel", "<init>", "()V"⟩) ∈ mf_tb := mf_in (i := 573) (by decide +kernel) (by decide +kernel)
set_option maxRecDepth 20000 in
theorem mt_533 : (Cond.code ⟨"MatchFloorModel", "<init>", "()V"⟩ prog_5_method_1_code 1 (Option.none : Option FieldType)) ∈ mf_tb := mf_in (i := 574) (by rfl) (by rfl)
set_option maxRecDepth 20000 in
theorem mt_534 : (Cond.methodLink "MatchFloorModel" 1 ⟨"java/lang/Object", "<init>", "()V"⟩) ∈ mf_tb := mf_in (i := 575) (by decide +kernel) (by decide +kernel)
set_option maxRecDepth 20000 in
theorem mt_535 : (Cond.fieldLink "MatchFloorModel" 44 "MatchFloorModel" "code" "I") ∈ mf_tb := mf_in (i := 576) (by decide +kernel) (by decide +kernel)
set_option maxRecDepth 20000 in
theorem mt_536 : (Cond.fieldLink "MatchFloorModel" 48 "MatchFloorModel" "kept" "I") ∈ mf_tb := mf_in (i := 577) (by decide +kernel) (by decide +kernel)
set_option maxRecDepth 20000 in
theorem mt_537 : (Cond.fieldLink "MatchFloorModel" 51 "MatchFloorModel" "clock" "I") ∈ mf_tb := mf_in (i := 578) (by decide +kernel) (by decide +kernel)
set_option maxRecDepth 20000 in
theorem mt_538 : (Cond.fieldLink "MatchFloorModel" 7 "MatchFloorModel" "id" "[I") ∈ mf_tb := mf_in (i := 579) (by decide +kernel) (by decide +kernel)
set_option maxRecDepth 20000 in
theorem mt_539 : (Cond.fieldLink "MatchFloorModel" 13 "MatchFloorModel" "owner" "[I") ∈ mf_tb := mf_in (i := 580) (by decide +kernel) (by decide +kernel)
set_option maxRecDepth 20000 in
theorem mt_540 : (Cond.fieldLink "MatchFloorModel" 16 "MatchFloorModel" "side" "[I") ∈ mf_tb := mf_in (i := 581) (by decide +kernel) (by decide +kernel)
set_option maxRecDepth 20000 in
theorem mt_541 : (Cond.fieldLink "MatchFloorModel" 19 "MatchFloorModel" "price" "[I") ∈ mf_tb := mf_in (i := 582) (by decide +kernel) (by decide +kernel)
set_option maxRecDepth 20000 in
theorem mt_542 : (Cond.fieldLink "MatchFloorModel" 22 "MatchFloorModel" "left" "[I") ∈ mf_tb := mf_in (i := 583) (by decide +kernel) (by decide +kernel)
set_option maxRecDepth 20000 in
theorem mt_543 : (Cond.fieldLink "MatchFloorModel" 25 "MatchFloorModel" "time" "[I") ∈ mf_tb := mf_in (i := 584) (by decide +kernel) (by decide +kernel)
set_option maxRecDepth 20000 in
theorem mt_544 : (Cond.fieldLink "MatchFloorModel" 28 "MatchFloorModel" "waits" "[Z") ∈ mf_tb := mf_in (i := 585) (by decide +kernel) (by decide +kernel)
set_option maxRecDepth 20000 in
theorem mt_545 : (Cond.fieldLink "MatchFloorModel" 58 "MatchFloorModel" "fills" "I") ∈ mf_tb := mf_in (i := 586) (by decide +kernel) (by decide +kernel)
set_option maxRecDepth 20000 in
theorem mt_546 : (Cond.fieldLink "MatchFloorModel" 32 "MatchFloorModel" "incoming" "[I") ∈ mf_tb := mf_in (i := 587) (by decide +kernel) (by decide +kernel)
set_option maxRecDepth 20000 in
theorem mt_547 : (Cond.fieldLink "MatchFloorModel" 35 "MatchFloorModel" "resting" "[I") ∈ mf_tb := mf_in (i := 588) (by decide +kernel) (by decide +kernel)
set_option maxRecDepth 20000 in
theorem mt_548 : (Cond.fieldLink "MatchFloorModel" 38 "MatchFloorModel" "paid" "[I") ∈ mf_tb := mf_in (i := 589) (by decide +kernel) (by decide +kernel)
set_option maxRecDepth 20000 in
theorem mt_549 : (Cond.fieldLink "MatchFloorModel" 41 "MatchFloorModel" "many" "[I") ∈ mf_tb := mf_in (i := 590) (by decide +kernel) (by decide +kernel)
set_option maxRecDepth 20000 in
theorem mt_550 : (Cond.fieldLink "MatchFloorModel" 61 "MatchFloorModel" "last" "I") ∈ mf_tb := mf_in (i := 591) (by decide +kernel) (by decide +kernel)
set_option maxRecDepth 20000 in
theorem mt_551 : (Cond.fieldLink "MatchFloorModel" 64 "MatchFloorModel" "turnover" "J") ∈ mf_tb := mf_in (i := 592) (by decide +kernel) (by decide +kernel)
set_option maxRecDepth 20000 in
theorem mt_552 : (Cond.fieldLink "MatchFloorModel" 68 "MatchFloorModel" "volume" "I") ∈ mf_tb := mf_in (i := 593) (by decide +kernel) (by decide +kernel)
set_option maxRecDepth 20000 in
theorem mt_553 : (Cond.fieldLink "MatchFloorModel" 98 "MatchFloorModel" "stops" "I") ∈ mf_tb := mf_in (i := 594) (by decide +kernel) (by decide +kernel)
set_option maxRecDepth 20000 in
theorem mt_554 : (Cond.fieldLink "MatchFloorModel" 83 "MatchFloorModel" "met" "I") ∈ mf_tb := mf_in (i := 595) (by decide +kernel) (by decide +kernel)
set_option maxRecDepth 20000 in
theorem mt_555 : (Cond.lays "MatchFloorModel" "MatchFloorModel" "code" "I") ∈ mf_tb := mf_in (i := 596) (by decide +kernel) (by decide +kernel)
set_option maxRecDepth 20000 in
theorem mt_557 : (Cond.lays "MatchFloorModel" "MatchFloorModel" "kept" "I") ∈ mf_tb := mf_in (i := 598) (by decide +kernel) (by decide +kernel)
set_option maxRecDepth 20000 in
theorem mt_559 : (Cond.lays "MatchFloorModel" "MatchFloorModel" "clock" "I") ∈ mf_tb := mf_in (i := 600) (by decide +kernel) (by decide +kernel)
set_option maxRecDepth 20000 in
theorem mt_561 : (Cond.laysFinal "MatchFloorModel" "MatchFloorModel" "id" "[I") ∈ mf_tb := mf_in (i := 602) (by decide +kernel) (by decide +kernel)
set_option maxRecDepth 20000 in
theorem mt_563 : (Cond.laysFinal "MatchFloorModel" "MatchFloorModel" "owner" "[I") ∈ mf_tb := mf_in (i := 604) (by decide +kernel) (by decide +kernel)
set_option maxRecDepth 20000 in
theorem mt_565 : (Cond.laysFinal "MatchFloorModel" "MatchFloorModel" "side" "[I") ∈ mf_tb := mf_in (i := 606) (by decide +kernel) (by decide +kernel)
set_option maxRecDepth 20000 in
theorem mt_567 : (Cond.laysFinal "MatchFloorModel" "MatchFloorModel" "price" "[I") ∈ mf_tb := mf_in (i := 608) (by decide +kernel) (by decide +kernel)
set_option maxRecDepth 20000 in
theorem mt_569 : (Cond.laysFinal "MatchFloorModel" "MatchFloorModel" "left" "[I") ∈ mf_tb := mf_in (i := 610) (by decide +kernel) (by decide +kernel)
set_option maxRecDepth 20000 in
theorem mt_571 : (Cond.laysFinal "MatchFloorModel" "MatchFloorModel" "time" "[I") ∈ mf_tb := mf_in (i := 612) (by decide +kernel) (by decide +kernel)
set_option maxRecDepth 20000 in
theorem mt_573 : (Cond.laysFinal "MatchFloorModel" "MatchFloorModel" "waits" "[Z") ∈ mf_tb := mf_in (i := 614) (by decide +kernel) (by decide +kernel)
set_option maxRecDepth 20000 in
theorem mt_575 : (Cond.lays "MatchFloorModel" "MatchFloorModel" "fills" "I") ∈ mf_tb := mf_in (i := 616) (by decide +kernel) (by decide +kernel)
set_option maxRecDepth 20000 in
theorem mt_577 : (Cond.laysFinal "MatchFloorModel" "MatchFloorModel" "incoming" "[I") ∈ mf_tb := mf_in (i := 618) (by decide +kernel) (by decide +kernel)
set_option maxRecDepth 20000 in
theorem mt_579 : (Cond.laysFinal "MatchFloorModel" "MatchFloorModel" "resting" "[I") ∈ mf_tb := mf_in (i := 620) (by decide +kernel) (by decide +kernel)
set_option maxRecDepth 20000 in
theorem mt_581 : (Cond.laysFinal "MatchFloorModel" "MatchFloorModel" "paid" "[I") ∈ mf_tb := mf_in (i := 622) (by decide +kernel) (by decide +kernel)
set_option maxRecDepth 20000 in
theorem mt_583 : (Cond.laysFinal "MatchFloorModel" "MatchFloorModel" "many" "[I") ∈ mf_tb := mf_in (i := 624) (by decide +kernel) (by decide +kernel)
set_option maxRecDepth 20000 in
theorem mt_585 : (Cond.lays "MatchFloorModel" "MatchFloorModel" "last" "I") ∈ mf_tb := mf_in (i := 626) (by decide +kernel) (by decide +kernel)
set_option maxRecDepth 20000 in
theorem mt_587 : (Cond.lays "MatchFloorModel" "MatchFloorModel" "turnover" "J") ∈ mf_tb := mf_in (i := 628) (by decide +kernel) (by decide +kernel)
set_option maxRecDepth 20000 in
theorem mt_589 : (Cond.lays "MatchFloorModel" "MatchFloorModel" "volume" "I") ∈ mf_tb := mf_in (i := 630) (by decide +kernel) (by decide +kernel)
set_option maxRecDepth 20000 in
theorem mt_591 : (Cond.lays "MatchFloorModel" "MatchFloorModel" "stops" "I") ∈ mf_tb := mf_in (i := 632) (by decide +kernel) (by decide +kernel)
set_option maxRecDepth 20000 in
theorem mt_593 : (Cond.lays "MatchFloorModel" "MatchFloorModel" "met" "I") ∈ mf_tb := mf_in (i := 634) (by decide +kernel) (by decide +kernel)
set_option maxRecDepth 20000 in
theorem mt_596 : (Cond.arrayClass FieldType.boolean) ∈ mf_tb := mf_in (i := 637) (by decide +kernel) (by decide +kernel)
set_option maxRecDepth 20000 in
theorem mt_597 : (Cond.methodLink "MatchFloorLaw" 58 ⟨"MatchFloorModel", "thrown", "()I"⟩) ∈ mf_tb := mf_in (i := 638) (by decide +kernel) (by decide +kernel)
set_option maxRecDepth 20000 in
theorem mt_598 : (Cond.instanceMethod ⟨"MatchFloorModel", "thrown", "()I"⟩) ∈ mf_tb := mf_in (i := 639) (by decide +kernel) (by decide +kernel)
set_option maxRecDepth 20000 in
theorem mt_599 : (Cond.selects "MatchFloorModel" ⟨"MatchFloorModel", "thrown", "()I"⟩ ⟨"MatchFloorModel", "thrown", "()I"⟩) ∈ mf_tb := mf_in (i := 640) (by decide +kernel) (by decide +kernel)
set_option maxRecDepth 20000 in
theorem mt_600 : (Cond.code ⟨"MatchFloorModel", "thrown", "()I"⟩ prog_5_method_2_code 1 (Option.some FieldType.int)) ∈ mf_tb := mf_in (i := 641) (by rfl) (by rfl)
set_option maxRecDepth 20000 in
theorem mt_601 : (Cond.methodLink "MatchFloorLaw" 57 ⟨"MatchFloorModel", "submit", "(IIII)I"⟩) ∈ mf_tb := mf_in (i := 642) (by decide +kernel) (by decide +kernel)
set_option maxRecDepth 20000 in
theorem mt_602 : (Cond.instanceMethod ⟨"MatchFloorModel", "submit", "(IIII)I"⟩) ∈ mf_tb := mf_in (i := 643) (by decide +kernel) (by decide +kernel)
set_option maxRecDepth 20000 in
theorem mt_603 : (Cond.selects "MatchFloorModel" ⟨"MatchFloorModel", "submit", "(IIII)I"⟩ ⟨"MatchFloorModel", "submit", "(IIII)I"⟩) ∈ mf_tb := mf_in (i := 644) (by decide +kernel) (by decide +kernel)
set_option maxRecDepth 20000 in
theorem mt_604 : (Cond.code ⟨"MatchFloorModel", "submit", "(IIII)I"⟩ prog_5_method_17_code 10 (Option.some FieldType.int)) ∈ mf_tb := mf_in (i := 645) (by rfl) (by rfl)
set_option maxRecDepth 20000 in
theorem mt_605 : (Cond.methodLink "MatchFloorModel" 109 ⟨"MatchFloorModel", "among", "(III)Z"⟩) ∈ mf_tb := mf_in (i := 646) (by decide +kernel) (by decide +kernel)
set_option maxRecDepth 20000 in
theorem mt_606 : (Cond.static ⟨"MatchFloorModel", "among", "(III)Z"⟩) ∈ mf_tb := mf_in (i := 647) (by decide +kernel) (by decide +kernel)
set_option maxRecDepth 20000 in
theorem mt_607 : (Cond.code ⟨"MatchFloorModel", "among", "(III)Z"⟩ prog_5_method_16_code 3 (Option.some FieldType.boolean)) ∈ mf_tb := mf_in (i := 648) (by rfl) (by rfl)
set_option maxRecDepth 20000 in
theorem mt_608 : (Cond.constant "MatchFloorModel" 112 (1000000 : Int32)) ∈ mf_tb := mf_in (i := 649) (by decide +kernel) (by decide +kernel)
set_option maxRecDepth 20000 in
theorem mt_609 : (Cond.methodLink "MatchFloorModel" 113 ⟨"MatchFloorModel", "find", "(I)I"⟩) ∈ mf_tb := mf_in (i := 650) (by decide +kernel) (by decide +kernel)
set_option maxRecDepth 20000 in
theorem mt_611 : (Cond.instanceMethod ⟨"MatchFloorModel", "find", "(I)I"⟩) ∈ mf_tb := mf_in (i := 652) (by decide +kernel) (by decide +kernel)
set_option maxRecDepth 20000 in
theorem mt_612 : (Cond.code ⟨"MatchFloorModel", "find", "(I)I"⟩ prog_5_method_3_code 4 (Option.some FieldType.int)) ∈ mf_tb := mf_in (i := 653) (by rfl) (by rfl)
set_option maxRecDepth 20000 in
theorem mt_613 : (Cond.methodLink "MatchFloorModel" 116 ⟨"MatchFloorModel", "refused", "(IIIII)Z"⟩) ∈ mf_tb := mf_in (i := 654) (by decide +kernel) (by decide +kernel)
set_option maxRecDepth 20000 in
theorem mt_615 : (Cond.instanceMethod ⟨"MatchFloorModel", "refused", "(IIIII)Z"⟩) ∈ mf_tb := mf_in (i := 656) (by decide +kernel) (by decide +kernel)
set_option maxRecDepth 20000 in
theorem mt_616 : (Cond.code ⟨"MatchFloorModel", "refused", "(IIIII)Z"⟩ prog_5_method_15_code 7 (Option.some FieldType.boolean)) ∈ mf_tb := mf_in (i := 657) (by rfl) (by rfl)
set_option maxRecDepth 20000 in
theorem mt_617 : (Cond.methodLink "MatchFloorModel" 105 ⟨"MatchFloorModel", "within", "(III)I"⟩) ∈ mf_tb := mf_in (i := 658) (by decide +kernel) (by decide +kernel)
set_option maxRecDepth 20000 in
theorem mt_619 : (Cond.instanceMethod ⟨"MatchFloorModel", "within", "(III)I"⟩) ∈ mf_tb := mf_in (i := 660) (by decide +kernel) (by decide +kernel)
set_option maxRecDepth 20000 in
theorem mt_620 : (Cond.code ⟨"MatchFloorModel", "within", "(III)I"⟩ prog_5_method_14_code 7 (Option.some FieldType.int)) ∈ mf_tb := mf_in (i := 661) (by rfl) (by rfl)
set_option maxRecDepth 20000 in
theorem mt_621 : (Cond.methodLink "MatchFloorModel" 75 ⟨"MatchFloorModel", "fits", "(III)Z"⟩) ∈ mf_tb := mf_in (i := 662) (by decide +kernel) (by decide +kernel)
set_option maxRecDepth 20000 in
theorem mt_623 : (Cond.instanceMethod ⟨"MatchFloorModel", "fits", "(III)Z"⟩) ∈ mf_tb := mf_in (i := 664) (by decide +kernel) (by decide +kernel)
set_option maxRecDepth 20000 in
theorem mt_624 : (Cond.code ⟨"MatchFloorModel", "fits", "(III)Z"⟩ prog_5_method_8_code 4 (Option.some FieldType.boolean)) ∈ mf_tb := mf_in (i := 665) (by rfl) (by rfl)
set_option maxRecDepth 20000 in
theorem mt_625 : (Cond.methodLink "MatchFloorModel" 71 ⟨"MatchFloorModel", "first", "(I)I"⟩) ∈ mf_tb := mf_in (i := 666) (by decide +kernel) (by decide +kernel)
set_option maxRecDepth 20000 in
theorem mt_627 : (Cond.instanceMethod ⟨"MatchFloorModel", "first", "(I)I"⟩) ∈ mf_tb := mf_in (i := 668) (by decide +kernel) (by decide +kernel)
set_option maxRecDepth 20000 in
theorem mt_628 : (Cond.code ⟨"MatchFloorModel", "first", "(I)I"⟩ prog_5_method_7_code 5 (Option.some FieldType.int)) ∈ mf_tb := mf_in (i := 669) (by rfl) (by rfl)
set_option maxRecDepth 20000 in
theorem mt_629 : (Cond.methodLink "MatchFloorModel" 54 ⟨"MatchFloorModel", "comesBefore", "(II)Z"⟩) ∈ mf_tb := mf_in (i := 670) (by decide +kernel) (by decide +kernel)
set_option maxRecDepth 20000 in
theorem mt_631 : (Cond.instanceMethod ⟨"MatchFloorModel", "comesBefore", "(II)Z"⟩) ∈ mf_tb := mf_in (i := 672) (by decide +kernel) (by decide +kernel)
set_option maxRecDepth 20000 in
theorem mt_632 : (Cond.code ⟨"MatchFloorModel", "comesBefore", "(II)Z"⟩ prog_5_method_6_code 3 (Option.some FieldType.boolean)) ∈ mf_tb := mf_in (i := 673) (by rfl) (by rfl)
set_option maxRecDepth 20000 in
theorem mt_633 : (Cond.methodLink "MatchFloorModel" 101 ⟨"MatchFloorModel", "match", "(IIIII)I"⟩) ∈ mf_tb := mf_in (i := 674) (by decide +kernel) (by decide +kernel)
set_option maxRecDepth 20000 in
theorem mt_635 : (Cond.instanceMethod ⟨"MatchFloorModel", "match", "(IIIII)I"⟩) ∈ mf_tb := mf_in (i := 676) (by decide +kernel) (by decide +kernel)
set_option maxRecDepth 20000 in
theorem mt_636 : (Cond.code ⟨"MatchFloorModel", "match", "(IIIII)I"⟩ prog_5_method_10_code 9 (Option.some FieldType.int)) ∈ mf_tb := mf_in (i := 677) (by rfl) (by rfl)
set_option maxRecDepth 20000 in
theorem mt_637 : (Cond.methodLink "MatchFloorModel" 79 ⟨"MatchFloorModel", "drop", "(I)V"⟩) ∈ mf_tb := mf_in (i := 678) (by decide +kernel) (by decide +kernel)
set_option maxRecDepth 20000 in
theorem mt_639 : (Cond.instanceMethod ⟨"MatchFloorModel", "drop", "(I)V"⟩) ∈ mf_tb := mf_in (i := 680) (by decide +kernel) (by decide +kernel)
set_option maxRecDepth 20000 in
theorem mt_640 : (Cond.code ⟨"MatchFloorModel", "drop", "(I)V"⟩ prog_5_method_5_code 2 (Option.none : Option FieldType)) ∈ mf_tb := mf_in (i := 681) (by rfl) (by rfl)
set_option maxRecDepth 20000 in
theorem mt_641 : (Cond.methodLink "MatchFloorModel" 86 ⟨"MatchFloorModel", "tell", "(III)V"⟩) ∈ mf_tb := mf_in (i := 682) (by decide +kernel) (by decide +kernel)
set_option maxRecDepth 20000 in
theorem mt_643 : (Cond.instanceMethod ⟨"MatchFloorModel", "tell", "(III)V"⟩) ∈ mf_tb := mf_in (i := 684) (by decide +kernel) (by decide +kernel)
set_option maxRecDepth 20000 in
theorem mt_644 : (Cond.code ⟨"MatchFloorModel", "tell", "(III)V"⟩ prog_5_method_9_code 5 (Option.none : Option FieldType)) ∈ mf_tb := mf_in (i := 685) (by rfl) (by rfl)
set_option maxRecDepth 20000 in
theorem mt_645 : (Cond.methodLink "MatchFloorModel" 120 ⟨"MatchFloorModel", "keep", "(IIIII)V"⟩) ∈ mf_tb := mf_in (i := 686) (by decide +kernel) (by decide +kernel)
set_option maxRecDepth 20000 in
theorem mt_647 : (Cond.instanceMethod ⟨"MatchFloorModel", "keep", "(IIIII)V"⟩) ∈ mf_tb := mf_in (i := 688) (by decide +kernel) (by decide +kernel)
set_option maxRecDepth 20000 in
theorem mt_648 : (Cond.code ⟨"MatchFloorModel", "keep", "(IIIII)V"⟩ prog_5_method_4_code 6 (Option.none : Option FieldType)) ∈ mf_tb := mf_in (i := 689) (by rfl) (by rfl)
set_option maxRecDepth 20000 in
theorem mt_649 : (Cond.methodLink "MatchFloorModel" 124 ⟨"MatchFloorModel", "runStops", "()V"⟩) ∈ mf_tb := mf_in (i := 690) (by decide +kernel) (by decide +kernel)
set_option maxRecDepth 20000 in
theorem mt_651 : (Cond.instanceMethod ⟨"MatchFloorModel", "runStops", "()V"⟩) ∈ mf_tb := mf_in (i := 692) (by decide +kernel) (by decide +kernel)
set_option maxRecDepth 20000 in
theorem mt_652 : (Cond.code ⟨"MatchFloorModel", "runStops", "()V"⟩ prog_5_method_13_code 6 (Option.none : Option FieldType)) ∈ mf_tb := mf_in (i := 693) (by rfl) (by rfl)
set_option maxRecDepth 20000 in
theorem mt_653 : (Cond.methodLink "MatchFloorModel" 94 ⟨"MatchFloorModel", "earliestDue", "()I"⟩) ∈ mf_tb := mf_in (i := 694) (by decide +kernel) (by decide +kernel)
set_option maxRecDepth 20000 in
theorem mt_655 : (Cond.instanceMethod ⟨"MatchFloorModel", "earliestDue", "()I"⟩) ∈ mf_tb := mf_in (i := 696) (by decide +kernel) (by decide +kernel)
set_option maxRecDepth 20000 in
theorem mt_656 : (Cond.code ⟨"MatchFloorModel", "earliestDue", "()I"⟩ prog_5_method_12_code 3 (Option.some FieldType.int)) ∈ mf_tb := mf_in (i := 697) (by rfl) (by rfl)
set_option maxRecDepth 20000 in
theorem mt_657 : (Cond.methodLink "MatchFloorModel" 90 ⟨"MatchFloorModel", "isDue", "(I)Z"⟩) ∈ mf_tb := mf_in (i := 698) (by decide +kernel) (by decide +kernel)
set_option maxRecDepth 20000 in
theorem mt_659 : (Cond.instanceMethod ⟨"MatchFloorModel", "isDue", "(I)Z"⟩) ∈ mf_tb := mf_in (i := 700) (by decide +kernel) (by decide +kernel)
set_option maxRecDepth 20000 in
theorem mt_660 : (Cond.code ⟨"MatchFloorModel", "isDue", "(I)Z"⟩ prog_5_method_11_code 2 (Option.some FieldType.boolean)) ∈ mf_tb := mf_in (i := 701) (by rfl) (by rfl)
set_option maxRecDepth 20000 in
theorem mt_661 : (Cond.methodLink "MatchFloorLaw" 65 ⟨"MatchFloorModel", "cancel", "(I)I"⟩) ∈ mf_tb := mf_in (i := 702) (by decide +kernel) (by decide +kernel)
set_option maxRecDepth 20000 in
theorem mt_662 : (Cond.instanceMethod ⟨"MatchFloorModel", "cancel", "(I)I"⟩) ∈ mf_tb := mf_in (i := 703) (by decide +kernel) (by decide +kernel)
set_option maxRecDepth 20000 in
theorem mt_663 : (Cond.selects "MatchFloorModel" ⟨"MatchFloorModel", "cancel", "(I)I"⟩ ⟨"MatchFloorModel", "cancel", "(I)I"⟩) ∈ mf_tb := mf_in (i := 704) (by decide +kernel) (by decide +kernel)
set_option maxRecDepth 20000 in
theorem mt_664 : (Cond.code ⟨"MatchFloorModel", "cancel", "(I)I"⟩ prog_5_method_18_code 4 (Option.some FieldType.int)) ∈ mf_tb := mf_in (i := 705) (by rfl) (by rfl)
set_option maxRecDepth 20000 in
theorem mt_665 : (Cond.methodLink "MatchFloorLaw" 69 ⟨"MatchFloorModel", "amend", "(III)I"⟩) ∈ mf_tb := mf_in (i := 706) (by decide +kernel) (by decide +kernel)
set_option maxRecDepth 20000 in
theorem mt_666 : (Cond.instanceMethod ⟨"MatchFloorModel", "amend", "(III)I"⟩) ∈ mf_tb := mf_in (i := 707) (by decide +kernel) (by decide +kernel)
set_option maxRecDepth 20000 in
theorem mt_667 : (Cond.selects "MatchFloorModel" ⟨"MatchFloorModel", "amend", "(III)I"⟩ ⟨"MatchFloorModel", "amend", "(III)I"⟩) ∈ mf_tb := mf_in (i := 708) (by decide +kernel) (by decide +kernel)
set_option maxRecDepth 20000 in
theorem mt_668 : (Cond.code ⟨"MatchFloorModel", "amend", "(III)I"⟩ prog_5_method_19_code 10 (Option.some FieldType.int)) ∈ mf_tb := mf_in (i := 709) (by rfl) (by rfl)
set_option maxRecDepth 20000 in
theorem mt_669 : (Cond.methodLink "MatchFloorLaw" 72 ⟨"MatchFloorModel", "withdraw", "(I)I"⟩) ∈ mf_tb := mf_in (i := 710) (by decide +kernel) (by decide +kernel)
set_option maxRecDepth 20000 in
theorem mt_670 : (Cond.instanceMethod ⟨"MatchFloorModel", "withdraw", "(I)I"⟩) ∈ mf_tb := mf_in (i := 711) (by decide +kernel) (by decide +kernel)
set_option maxRecDepth 20000 in
theorem mt_671 : (Cond.selects "MatchFloorModel" ⟨"MatchFloorModel", "withdraw", "(I)I"⟩ ⟨"MatchFloorModel", "withdraw", "(I)I"⟩) ∈ mf_tb := mf_in (i := 712) (by decide +kernel) (by decide +kernel)
set_option maxRecDepth 20000 in
theorem mt_672 : (Cond.code ⟨"MatchFloorModel", "withdraw", "(I)I"⟩ prog_5_method_20_code 4 (Option.some FieldType.int)) ∈ mf_tb := mf_in (i := 713) (by rfl) (by rfl)
set_option maxRecDepth 20000 in
theorem mt_673 : (Cond.methodLink "MatchFloorLaw" 75 ⟨"MatchFloorModel", "levels", "(I)I"⟩) ∈ mf_tb := mf_in (i := 714) (by decide +kernel) (by decide +kernel)
set_option maxRecDepth 20000 in
theorem mt_674 : (Cond.instanceMethod ⟨"MatchFloorModel", "levels", "(I)I"⟩) ∈ mf_tb := mf_in (i := 715) (by decide +kernel) (by decide +kernel)
set_option maxRecDepth 20000 in
theorem mt_675 : (Cond.selects "MatchFloorModel" ⟨"MatchFloorModel", "levels", "(I)I"⟩ ⟨"MatchFloorModel", "levels", "(I)I"⟩) ∈ mf_tb := mf_in (i := 716) (by decide +kernel) (by decide +kernel)
set_option maxRecDepth 20000 in
theorem mt_676 : (Cond.code ⟨"MatchFloorModel", "levels", "(I)I"⟩ prog_5_method_22_code 4 (Option.some FieldType.int)) ∈ mf_tb := mf_in (i := 717) (by rfl) (by rfl)
set_option maxRecDepth 20000 in
theorem mt_677 : (Cond.methodLink "MatchFloorModel" 127 ⟨"MatchFloorModel", "nextPrice", "(II)I"⟩) ∈ mf_tb := mf_in (i := 718) (by decide +kernel) (by decide +kernel)
set_option maxRecDepth 20000 in
theorem mt_679 : (Cond.instanceMethod ⟨"MatchFloorModel", "nextPrice", "(II)I"⟩) ∈ mf_tb := mf_in (i := 720) (by decide +kernel) (by decide +kernel)
set_option maxRecDepth 20000 in
theorem mt_680 : (Cond.code ⟨"MatchFloorModel", "nextPrice", "(II)I"⟩ prog_5_method_21_code 6 (Option.some FieldType.int)) ∈ mf_tb := mf_in (i := 721) (by rfl) (by rfl)
set_option maxRecDepth 20000 in
theorem mt_681 : (Cond.methodLink "MatchFloorLaw" 78 ⟨"MatchFloorModel", "level", "(III)I"⟩) ∈ mf_tb := mf_in (i := 722) (by decide +kernel) (by decide +kernel)
set_option maxRecDepth 20000 in
theorem mt_682 : (Cond.instanceMethod ⟨"MatchFloorModel", "level", "(III)I"⟩) ∈ mf_tb := mf_in (i := 723) (by decide +kernel) (by decide +kernel)
set_option maxRecDepth 20000 in
theorem mt_683 : (Cond.selects "MatchFloorModel" ⟨"MatchFloorModel", "level", "(III)I"⟩ ⟨"MatchFloorModel", "level", "(III)I"⟩) ∈ mf_tb := mf_in (i := 724) (by decide +kernel) (by decide +kernel)
set_option maxRecDepth 20000 in
theorem mt_684 : (Cond.code ⟨"MatchFloorModel", "level", "(III)I"⟩ prog_5_method_23_code 9 (Option.some FieldType.int)) ∈ mf_tb := mf_in (i := 725) (by rfl) (by rfl)
set_option maxRecDepth 20000 in
theorem mt_685 : (Cond.methodLink "MatchFloorLaw" 82 ⟨"MatchFloorModel", "order", "(II)I"⟩) ∈ mf_tb := mf_in (i := 726) (by decide +kernel) (by decide +kernel)
set_option maxRecDepth 20000 in
theorem mt_686 : (Cond.instanceMethod ⟨"MatchFloorModel", "order", "(II)I"⟩) ∈ mf_tb := mf_in (i := 727) (by decide +kernel) (by decide +kernel)
set_option maxRecDepth 20000 in
theorem mt_687 : (Cond.selects "MatchFloorModel" ⟨"MatchFloorModel", "order", "(II)I"⟩ ⟨"MatchFloorModel", "order", "(II)I"⟩) ∈ mf_tb := mf_in (i := 728) (by decide +kernel) (by decide +kernel)
set_option maxRecDepth 20000 in
theorem mt_688 : (Cond.code ⟨"MatchFloorModel", "order", "(II)I"⟩ prog_5_method_24_code 7 (Option.some FieldType.int)) ∈ mf_tb := mf_in (i := 729) (by rfl) (by rfl)
set_option maxRecDepth 20000 in
theorem mt_689 : (Cond.methodLink "MatchFloorLaw" 85 ⟨"MatchFloorModel", "fill", "(II)I"⟩) ∈ mf_tb := mf_in (i := 730) (by decide +kernel) (by decide +kernel)
set_option maxRecDepth 20000 in
theorem mt_690 : (Cond.instanceMethod ⟨"MatchFloorModel", "fill", "(II)I"⟩) ∈ mf_tb := mf_in (i := 731) (by decide +kernel) (by decide +kernel)
set_option maxRecDepth 20000 in
theorem mt_691 : (Cond.selects "MatchFloorModel" ⟨"MatchFloorModel", "fill", "(II)I"⟩ ⟨"MatchFloorModel", "fill", "(II)I"⟩) ∈ mf_tb := mf_in (i := 732) (by decide +kernel) (by decide +kernel)
set_option maxRecDepth 20000 in
theorem mt_692 : (Cond.code ⟨"MatchFloorModel", "fill", "(II)I"⟩ prog_5_method_25_code 4 (Option.some FieldType.int)) ∈ mf_tb := mf_in (i := 733) (by rfl) (by rfl)
set_option maxRecDepth 20000 in
theorem mt_693 : (Cond.methodLink "MatchFloorLaw" 89 ⟨"MatchFloorModel", "fills", "()I"⟩) ∈ mf_tb := mf_in (i := 734) (by decide +kernel) (by decide +kernel)
set_option maxRecDepth 20000 in
theorem mt_694 : (Cond.instanceMethod ⟨"MatchFloorModel", "fills", "()I"⟩) ∈ mf_tb := mf_in (i := 735) (by decide +kernel) (by decide +kernel)
set_option maxRecDepth 20000 in
theorem mt_695 : (Cond.selects "MatchFloorModel" ⟨"MatchFloorModel", "fills", "()I"⟩ ⟨"MatchFloorModel", "fills", "()I"⟩) ∈ mf_tb := mf_in (i := 736) (by decide +kernel) (by decide +kernel)
set_option maxRecDepth 20000 in
theorem mt_696 : (Cond.code ⟨"MatchFloorModel", "fills", "()I"⟩ prog_5_method_26_code 1 (Option.some FieldType.int)) ∈ mf_tb := mf_in (i := 737) (by rfl) (by rfl)
set_option maxRecDepth 20000 in
theorem mt_697 : (Cond.methodLink "MatchFloorLaw" 93 ⟨"MatchFloorModel", "last", "()I"⟩) ∈ mf_tb := mf_in (i := 738) (by decide +kernel) (by decide +kernel)
set_option maxRecDepth 20000 in
theorem mt_698 : (Cond.instanceMethod ⟨"MatchFloorModel", "last", "()I"⟩) ∈ mf_tb := mf_in (i := 739) (by decide +kernel) (by decide +kernel)
set_option maxRecDepth 20000 in
theorem mt_699 : (Cond.selects "MatchFloorModel" ⟨"MatchFloorModel", "last", "()I"⟩ ⟨"MatchFloorModel", "last", "()I"⟩) ∈ mf_tb := mf_in (i := 740) (by decide +kernel) (by decide +kernel)
set_option maxRecDepth 20000 in
theorem mt_700 : (Cond.code ⟨"MatchFloorModel", "last", "()I"⟩ prog_5_method_27_code 1 (Option.some FieldType.int)) ∈ mf_tb := mf_in (i := 741) (by rfl) (by rfl)
set_option maxRecDepth 20000 in
theorem mt_701 : (Cond.methodLink "MatchFloorLaw" 98 ⟨"MatchFloorModel", "turnover", "()J"⟩) ∈ mf_tb := mf_in (i := 742) (by decide +kernel) (by decide +kernel)
set_option maxRecDepth 20000 in
theorem mt_702 : (Cond.instanceMethod ⟨"MatchFloorModel", "turnover", "()J"⟩) ∈ mf_tb := mf_in (i := 743) (by decide +kernel) (by decide +kernel)
set_option maxRecDepth 20000 in
theorem mt_703 : (Cond.selects "MatchFloorModel" ⟨"MatchFloorModel", "turnover", "()J"⟩ ⟨"MatchFloorModel", "turnover", "()J"⟩) ∈ mf_tb := mf_in (i := 744) (by decide +kernel) (by decide +kernel)
set_option maxRecDepth 20000 in
theorem mt_704 : (Cond.code ⟨"MatchFloorModel", "turnover", "()J"⟩ prog_5_method_28_code 1 (Option.some FieldType.long)) ∈ mf_tb := mf_in (i := 745) (by rfl) (by rfl)
set_option maxRecDepth 20000 in
theorem mt_705 : (Cond.methodLink "MatchFloorLaw" 101 ⟨"MatchFloorModel", "figure", "(I)I"⟩) ∈ mf_tb := mf_in (i := 746) (by decide +kernel) (by decide +kernel)
set_option maxRecDepth 20000 in
theorem mt_706 : (Cond.instanceMethod ⟨"MatchFloorModel", "figure", "(I)I"⟩) ∈ mf_tb := mf_in (i := 747) (by decide +kernel) (by decide +kernel)
set_option maxRecDepth 20000 in
theorem mt_707 : (Cond.selects "MatchFloorModel" ⟨"MatchFloorModel", "figure", "(I)I"⟩ ⟨"MatchFloorModel", "figure", "(I)I"⟩) ∈ mf_tb := mf_in (i := 748) (by decide +kernel) (by decide +kernel)
set_option maxRecDepth 20000 in
theorem mt_708 : (Cond.code ⟨"MatchFloorModel", "figure", "(I)I"⟩ prog_5_method_29_code 4 (Option.some FieldType.int)) ∈ mf_tb := mf_in (i := 749) (by rfl) (by rfl)
set_option maxRecDepth 20000 in
theorem mt_709 : (Cond.arrayClass FieldType.long) ∈ mf_tb := mf_in (i := 750) (by decide +kernel) (by decide +kernel)
set_option maxRecDepth 20000 in
theorem mt_713 : (Cond.selects "[Ljava/lang/Object;" ⟨"java/lang/Object", "getClass", "()Ljava/lang/Class;"⟩ ⟨"java/lang/Object", "getClass", "()Ljava/lang/Class;"⟩) ∈ mf_tb := mf_in (i := 754) (by decide +kernel) (by decide +kernel)
set_option maxRecDepth 20000 in
theorem ms_0 : Cond.selects "java/lang/Throwable" ⟨"java/lang/Throwable", "fillInStackTrace", "(I)Ljava/lang/Throwable;"⟩ ⟨"java/lang/Throwable", "fillInStackTrace", "(I)Ljava/lang/Throwable;"⟩ ∈ mf_tb := mf_in (i := 0) (by decide +kernel) (by decide +kernel)
set_option maxRecDepth 20000 in
theorem ms_1 : Cond.selects "MatchFloor" ⟨"MatchFloor", "placeOf", "(I)I"⟩ ⟨"MatchFloor", "placeOf", "(I)I"⟩ ∈ mf_tb := mf_in (i := 1) (by decide +kernel) (by decide +kernel)
set_option maxRecDepth 20000 in
theorem ms_2 : Cond.selects "MatchFloor" ⟨"MatchFloor", "isRefused", "(LMatchFloor$Order;I)Z"⟩ ⟨"MatchFloor", "isRefused", "(LMatchFloor$Order;I)Z"⟩ ∈ mf_tb := mf_in (i := 2) (by decide +kernel) (by decide +kernel)
set_option maxRecDepth 20000 in
theorem ms_3 : Cond.selects "MatchFloor" ⟨"MatchFloor", "leftFor", "(LMatchFloor$Order;)I"⟩ ⟨"MatchFloor", "leftFor", "(LMatchFloor$Order;)I"⟩ ∈ mf_tb := mf_in (i := 3) (by decide +kernel) (by decide +kernel)
set_option maxRecDepth 20000 in
theorem ms_4 : Cond.selects "MatchFloor$Order" ⟨"MatchFloor$Order", "restsOn", "(I)Z"⟩ ⟨"MatchFloor$Order", "restsOn", "(I)Z"⟩ ∈ mf_tb := mf_in (i := 4) (by decide +kernel) (by decide +kernel)
set_option maxRecDepth 20000 in
theorem ms_5 : Cond.selects "MatchFloor$Order" ⟨"MatchFloor$Order", "isFitBy", "(I)Z"⟩ ⟨"MatchFloor$Order", "isFitBy", "(I)Z"⟩ ∈ mf_tb := mf_in (i := 5) (by decide +kernel) (by decide +kernel)
set_option maxRecDepth 20000 in
theorem ms_6 : Cond.selects "MatchFloor" ⟨"MatchFloor", "placeOfFirst", "(I)I"⟩ ⟨"MatchFloor", "placeOfFirst", "(I)I"⟩ ∈ mf_tb := mf_in (i := 6) (by decide +kernel) (by decide +kernel)
set_option maxRecDepth 20000 in
theorem ms_7 : Cond.selects "MatchFloor" ⟨"MatchFloor", "comeIn", "(LMatchFloor$Order;I)I"⟩ ⟨"MatchFloor", "comeIn", "(LMatchFloor$Order;I)I"⟩ ∈ mf_tb := mf_in (i := 7) (by decide +kernel) (by decide +kernel)
set_option maxRecDepth 20000 in
theorem ms_8 : Cond.selects "MatchFloor" ⟨"MatchFloor", "match", "(LMatchFloor$Order;I)V"⟩ ⟨"MatchFloor", "match", "(LMatchFloor$Order;I)V"⟩ ∈ mf_tb := mf_in (i := 8) (by decide +kernel) (by decide +kernel)
set_option maxRecDepth 20000 in
theorem ms_9 : Cond.selects "MatchFloor" ⟨"MatchFloor", "meet", "(LMatchFloor$Order;I)V"⟩ ⟨"MatchFloor", "meet", "(LMatchFloor$Order;I)V"⟩ ∈ mf_tb := mf_in (i := 9) (by decide +kernel) (by decide +kernel)
set_option maxRecDepth 20000 in
theorem ms_10 : Cond.selects "java/util/ArrayList" ⟨"java/util/ArrayList", "fastRemove", "([Ljava/lang/Object;I)V"⟩ ⟨"java/util/ArrayList", "fastRemove", "([Ljava/lang/Object;I)V"⟩ ∈ mf_tb := mf_in (i := 10) (by decide +kernel) (by decide +kernel)
set_option maxRecDepth 20000 in
theorem ms_11 : Cond.selects "MatchFloor$Tape" ⟨"MatchFloor$Tape", "write", "(IIII)V"⟩ ⟨"MatchFloor$Tape", "write", "(IIII)V"⟩ ∈ mf_tb := mf_in (i := 11) (by decide +kernel) (by decide +kernel)
set_option maxRecDepth 20000 in
theorem ms_12 : Cond.selects "java/util/ArrayList" ⟨"java/util/ArrayList", "add", "(Ljava/lang/Object;[Ljava/lang/Object;I)V"⟩ ⟨"java/util/ArrayList", "add", "(Ljava/lang/Object;[Ljava/lang/Object;I)V"⟩ ∈ mf_tb := mf_in (i := 12) (by decide +kernel) (by decide +kernel)
set_option maxRecDepth 20000 in
theorem ms_13 : Cond.selects "java/util/ArrayList" ⟨"java/util/ArrayList", "grow", "()[Ljava/lang/Object;"⟩ ⟨"java/util/ArrayList", "grow", "()[Ljava/lang/Object;"⟩ ∈ mf_tb := mf_in (i := 13) (by decide +kernel) (by decide +kernel)
set_option maxRecDepth 20000 in
theorem ms_14 : Cond.selects "java/util/ArrayList" ⟨"java/util/ArrayList", "grow", "(I)[Ljava/lang/Object;"⟩ ⟨"java/util/ArrayList", "grow", "(I)[Ljava/lang/Object;"⟩ ∈ mf_tb := mf_in (i := 14) (by decide +kernel) (by decide +kernel)
set_option maxRecDepth 20000 in
theorem ms_15 : Cond.selects "MatchFloor" ⟨"MatchFloor", "matchDueStops", "()V"⟩ ⟨"MatchFloor", "matchDueStops", "()V"⟩ ∈ mf_tb := mf_in (i := 15) (by decide +kernel) (by decide +kernel)
set_option maxRecDepth 20000 in
theorem ms_16 : Cond.selects "MatchFloor" ⟨"MatchFloor", "placeOfDue", "()I"⟩ ⟨"MatchFloor", "placeOfDue", "()I"⟩ ∈ mf_tb := mf_in (i := 16) (by decide +kernel) (by decide +kernel)
set_option maxRecDepth 20000 in
theorem ms_17 : Cond.selects "MatchFloor$Order" ⟨"MatchFloor$Order", "isDueAt", "(I)Z"⟩ ⟨"MatchFloor$Order", "isDueAt", "(I)Z"⟩ ∈ mf_tb := mf_in (i := 17) (by decide +kernel) (by decide +kernel)
set_option maxRecDepth 20000 in
theorem ms_18 : Cond.selects "MatchFloor" ⟨"MatchFloor", "countLevels", "(I)I"⟩ ⟨"MatchFloor", "countLevels", "(I)I"⟩ ∈ mf_tb := mf_in (i := 18) (by decide +kernel) (by decide +kernel)
set_option maxRecDepth 20000 in
theorem ms_19 : Cond.selects "MatchFloor" ⟨"MatchFloor", "nextPrice", "(II)I"⟩ ⟨"MatchFloor", "nextPrice", "(II)I"⟩ ∈ mf_tb := mf_in (i := 19) (by decide +kernel) (by decide +kernel)
set_option maxRecDepth 20000 in
theorem ms_20 : Cond.selects "MatchFloor" ⟨"MatchFloor", "priceOfLevel", "(II)I"⟩ ⟨"MatchFloor", "priceOfLevel", "(II)I"⟩ ∈ mf_tb := mf_in (i := 20) (by decide +kernel) (by decide +kernel)
set_option maxRecDepth 20000 in
theorem ms_21 : Cond.selects "MatchFloor" ⟨"MatchFloor", "leftAt", "(II)I"⟩ ⟨"MatchFloor", "leftAt", "(II)I"⟩ ∈ mf_tb := mf_in (i := 21) (by decide +kernel) (by decide +kernel)
set_option maxRecDepth 20000 in
theorem ms_22 : Cond.selects "MatchFloor" ⟨"MatchFloor", "ordersAt", "(II)I"⟩ ⟨"MatchFloor", "ordersAt", "(II)I"⟩ ∈ mf_tb := mf_in (i := 22) (by decide +kernel) (by decide +kernel)
set_option maxRecDepth 20000 in
theorem ms_23 : Cond.selects "MatchFloor" ⟨"MatchFloor", "ordersBefore", "(I)I"⟩ ⟨"MatchFloor", "ordersBefore", "(I)I"⟩ ∈ mf_tb := mf_in (i := 23) (by decide +kernel) (by decide +kernel)
set_option maxRecDepth 20000 in
theorem ms_24 : Cond.selects "MatchFloor$Order" ⟨"MatchFloor$Order", "queuesWith", "(LMatchFloor$Order;)Z"⟩ ⟨"MatchFloor$Order", "queuesWith", "(LMatchFloor$Order;)Z"⟩ ∈ mf_tb := mf_in (i := 24) (by decide +kernel) (by decide +kernel)
set_option maxRecDepth 20000 in
theorem ms_25 : Cond.selects "MatchFloor$Tape" ⟨"MatchFloor$Tape", "read", "(II)I"⟩ ⟨"MatchFloor$Tape", "read", "(II)I"⟩ ∈ mf_tb := mf_in (i := 25) (by decide +kernel) (by decide +kernel)
set_option maxRecDepth 20000 in
theorem ms_26 : Cond.selects "MatchFloor" ⟨"MatchFloor", "countWaiting", "()I"⟩ ⟨"MatchFloor", "countWaiting", "()I"⟩ ∈ mf_tb := mf_in (i := 26) (by decide +kernel) (by decide +kernel)
set_option maxRecDepth 20000 in
theorem ms_27 : Cond.selects "MatchFloorModel" ⟨"MatchFloorModel", "find", "(I)I"⟩ ⟨"MatchFloorModel", "find", "(I)I"⟩ ∈ mf_tb := mf_in (i := 27) (by decide +kernel) (by decide +kernel)
set_option maxRecDepth 20000 in
theorem ms_28 : Cond.selects "MatchFloorModel" ⟨"MatchFloorModel", "refused", "(IIIII)Z"⟩ ⟨"MatchFloorModel", "refused", "(IIIII)Z"⟩ ∈ mf_tb := mf_in (i := 28) (by decide +kernel) (by decide +kernel)
set_option maxRecDepth 20000 in
theorem ms_29 : Cond.selects "MatchFloorModel" ⟨"MatchFloorModel", "within", "(III)I"⟩ ⟨"MatchFloorModel", "within", "(III)I"⟩ ∈ mf_tb := mf_in (i := 29) (by decide +kernel) (by decide +kernel)
set_option maxRecDepth 20000 in
theorem ms_30 : Cond.selects "MatchFloorModel" ⟨"MatchFloorModel", "fits", "(III)Z"⟩ ⟨"MatchFloorModel", "fits", "(III)Z"⟩ ∈ mf_tb := mf_in (i := 30) (by decide +kernel) (by decide +kernel)
set_option maxRecDepth 20000 in
theorem ms_31 : Cond.selects "MatchFloorModel" ⟨"MatchFloorModel", "first", "(I)I"⟩ ⟨"MatchFloorModel", "first", "(I)I"⟩ ∈ mf_tb := mf_in (i := 31) (by decide +kernel) (by decide +kernel)
set_option maxRecDepth 20000 in
theorem ms_32 : Cond.selects "MatchFloorModel" ⟨"MatchFloorModel", "comesBefore", "(II)Z"⟩ ⟨"MatchFloorModel", "comesBefore", "(II)Z"⟩ ∈ mf_tb := mf_in (i := 32) (by decide +kernel) (by decide +kernel)
set_option maxRecDepth 20000 in
theorem ms_33 : Cond.selects "MatchFloorModel" ⟨"MatchFloorModel", "match", "(IIIII)I"⟩ ⟨"MatchFloorModel", "match", "(IIIII)I"⟩ ∈ mf_tb := mf_in (i := 33) (by decide +kernel) (by decide +kernel)
set_option maxRecDepth 20000 in
theorem ms_34 : Cond.selects "MatchFloorModel" ⟨"MatchFloorModel", "drop", "(I)V"⟩ ⟨"MatchFloorModel", "drop", "(I)V"⟩ ∈ mf_tb := mf_in (i := 34) (by decide +kernel) (by decide +kernel)
set_option maxRecDepth 20000 in
theorem ms_35 : Cond.selects "MatchFloorModel" ⟨"MatchFloorModel", "tell", "(III)V"⟩ ⟨"MatchFloorModel", "tell", "(III)V"⟩ ∈ mf_tb := mf_in (i := 35) (by decide +kernel) (by decide +kernel)
set_option maxRecDepth 20000 in
theorem ms_36 : Cond.selects "MatchFloorModel" ⟨"MatchFloorModel", "keep", "(IIIII)V"⟩ ⟨"MatchFloorModel", "keep", "(IIIII)V"⟩ ∈ mf_tb := mf_in (i := 36) (by decide +kernel) (by decide +kernel)
set_option maxRecDepth 20000 in
theorem ms_37 : Cond.selects "MatchFloorModel" ⟨"MatchFloorModel", "runStops", "()V"⟩ ⟨"MatchFloorModel", "runStops", "()V"⟩ ∈ mf_tb := mf_in (i := 37) (by decide +kernel) (by decide +kernel)
set_option maxRecDepth 20000 in
theorem ms_38 : Cond.selects "MatchFloorModel" ⟨"MatchFloorModel", "earliestDue", "()I"⟩ ⟨"MatchFloorModel", "earliestDue", "()I"⟩ ∈ mf_tb := mf_in (i := 38) (by decide +kernel) (by decide +kernel)
set_option maxRecDepth 20000 in
theorem ms_39 : Cond.selects "MatchFloorModel" ⟨"MatchFloorModel", "isDue", "(I)Z"⟩ ⟨"MatchFloorModel", "isDue", "(I)Z"⟩ ∈ mf_tb := mf_in (i := 39) (by decide +kernel) (by decide +kernel)
set_option maxRecDepth 20000 in
theorem ms_40 : Cond.selects "MatchFloorModel" ⟨"MatchFloorModel", "nextPrice", "(II)I"⟩ ⟨"MatchFloorModel", "nextPrice", "(II)I"⟩ ∈ mf_tb := mf_in (i := 40) (by decide +kernel) (by decide +kernel)
theorem mi_A : ∀ w ∈ u_ws mf_RA mf_TA 3, w ∈ mf_tb := by
  intro w hw
  obtain ⟨k, hk, rfl⟩ := List.mem_map.mp hw
  have hk := List.mem_range.mp hk
  match k, hk with
  | 0, _ => exact mt_48
  | 1, _ => exact mt_50
  | 2, _ => exact mt_52
theorem mn_A : ∀ a, a < 3 → ∀ b, b < 3 → a ≠ b → (mf_TA a).2.1 ≠ (mf_TA b).2.1 := by decide +kernel
theorem mp_A : ∀ k, k < 3 → parseFieldDescriptor (mf_TA k).2.2.1 = some (mf_tyA k) := by decide +kernel
theorem mi_O : ∀ w ∈ u_ws mf_RO mf_TO 6, w ∈ mf_tb := by
  intro w hw
  obtain ⟨k, hk, rfl⟩ := List.mem_map.mp hw
  have hk := List.mem_range.mp hk
  match k, hk with
  | 0, _ => exact mt_255
  | 1, _ => exact mt_257
  | 2, _ => exact mt_259
  | 3, _ => exact mt_261
  | 4, _ => exact mt_263
  | 5, _ => exact mt_265
theorem mn_O : ∀ a, a < 6 → ∀ b, b < 6 → a ≠ b → (mf_TO a).2.1 ≠ (mf_TO b).2.1 := by decide +kernel
theorem mp_O : ∀ k, k < 6 → parseFieldDescriptor (mf_TO k).2.2.1 = some (mf_tyO k) := by decide +kernel
theorem mi_T : ∀ w ∈ u_ws mf_RT mf_TT 5, w ∈ mf_tb := by
  intro w hw
  obtain ⟨k, hk, rfl⟩ := List.mem_map.mp hw
  have hk := List.mem_range.mp hk
  match k, hk with
  | 0, _ => exact mt_72
  | 1, _ => exact mt_74
  | 2, _ => exact mt_76
  | 3, _ => exact mt_78
  | 4, _ => exact mt_80
theorem mn_T : ∀ a, a < 5 → ∀ b, b < 5 → a ≠ b → (mf_TT a).2.1 ≠ (mf_TT b).2.1 := by decide +kernel
theorem mp_T : ∀ k, k < 5 → parseFieldDescriptor (mf_TT k).2.2.1 = some (mf_tyT k) := by decide +kernel
theorem mi_F : ∀ w ∈ u_ws mf_RF mf_TF 4, w ∈ mf_tb := by
  intro w hw
  obtain ⟨k, hk, rfl⟩ := List.mem_map.mp hw
  have hk := List.mem_range.mp hk
  match k, hk with
  | 0, _ => exact mt_88
  | 1, _ => exact mt_90
  | 2, _ => exact mt_92
  | 3, _ => exact mt_94
theorem mn_F : ∀ a, a < 4 → ∀ b, b < 4 → a ≠ b → (mf_TF a).2.1 ≠ (mf_TF b).2.1 := by decide +kernel
theorem mp_F : ∀ k, k < 4 → parseFieldDescriptor (mf_TF k).2.2.1 = some (mf_tyF k) := by decide +kernel
theorem mi_M : ∀ w ∈ u_ws mf_RM mf_TM 20, w ∈ mf_tb := by
  intro w hw
  obtain ⟨k, hk, rfl⟩ := List.mem_map.mp hw
  have hk := List.mem_range.mp hk
  match k, hk with
  | 0, _ => exact mt_555
  | 1, _ => exact mt_557
  | 2, _ => exact mt_559
  | 3, _ => exact mt_561
  | 4, _ => exact mt_563
  | 5, _ => exact mt_565
  | 6, _ => exact mt_567
  | 7, _ => exact mt_569
  | 8, _ => exact mt_571
  | 9, _ => exact mt_573
  | 10, _ => exact mt_575
  | 11, _ => exact mt_577
  | 12, _ => exact mt_579
  | 13, _ => exact mt_581
  | 14, _ => exact mt_583
  | 15, _ => exact mt_585
  | 16, _ => exact mt_587
  | 17, _ => exact mt_589
  | 18, _ => exact mt_591
  | 19, _ => exact mt_593
  | n + 20, h => exact absurd h (by omega)
theorem mn_M : ∀ a, a < 20 → ∀ b, b < 20 → a ≠ b → (mf_TM a).2.1 ≠ (mf_TM b).2.1 := by decide +kernel
theorem mp_M : ∀ k, k < 20 → parseFieldDescriptor (mf_TM k).2.2.1 = some (mf_tyM k) := by decide +kernel
end
section
/-! decode rows -/
theorem md_A_init_0 : decode mc_A_init 0 = .ok (.aload_n 0, 1) := by decide +kernel
theorem md_A_init_1 : decode mc_A_init 1 = .ok (.invokespecial 1, 3) := by decide +kernel
theorem md_A_init_4 : decode mc_A_init 4 = .ok (.aload_n 0, 1) := by decide +kernel
theorem md_A_init_5 : decode mc_A_init 5 = .ok (.getstatic 39, 3) := by decide +kernel
theorem md_A_init_8 : decode mc_A_init 8 = .ok (.putfield 9, 3) := by decide +kernel
theorem md_A_init_11 : decode mc_A_init 11 = .ok (.return_, 1) := by decide +kernel
theorem md_AL_init_0 : decode mc_AL_init 0 = .ok (.aload_n 0, 1) := by decide +kernel
theorem md_AL_init_1 : decode mc_AL_init 1 = .ok (.invokespecial 1, 3) := by decide +kernel
theorem md_AL_init_4 : decode mc_AL_init 4 = .ok (.aload_n 0, 1) := by decide +kernel
theorem md_AL_init_5 : decode mc_AL_init 5 = .ok (.iconst 0, 1) := by decide +kernel
theorem md_AL_init_6 : decode mc_AL_init 6 = .ok (.putfield 7, 3) := by decide +kernel
theorem md_AL_init_9 : decode mc_AL_init 9 = .ok (.return_, 1) := by decide +kernel
theorem md_AC_init_0 : decode mc_AC_init 0 = .ok (.aload_n 0, 1) := by decide +kernel
theorem md_AC_init_1 : decode mc_AC_init 1 = .ok (.invokespecial 1, 3) := by decide +kernel
theorem md_AC_init_4 : decode mc_AC_init 4 = .ok (.return_, 1) := by decide +kernel
theorem md_A_size_0 : decode mc_A_size 0 = .ok (.aload_n 0, 1) := by decide +kernel
theorem md_A_size_1 : decode mc_A_size 1 = .ok (.getfield 48, 3) := by decide +kernel
theorem md_A_size_4 : decode mc_A_size 4 = .ok (.ireturn, 1) := by decide +kernel
theorem md_A_get_0 : decode mc_A_get 0 = .ok (.iload_n 1, 1) := by decide +kernel
theorem md_A_get_1 : decode mc_A_get 1 = .ok (.aload_n 0, 1) := by decide +kernel
theorem md_A_get_2 : decode mc_A_get 2 = .ok (.getfield 48, 3) := by decide +kernel
theorem md_A_get_5 : decode mc_A_get 5 = .ok (.invokestatic 118, 3) := by decide +kernel
theorem md_A_get_8 : decode mc_A_get 8 = .ok (.pop, 1) := by decide +kernel
theorem md_A_get_9 : decode mc_A_get 9 = .ok (.aload_n 0, 1) := by decide +kernel
theorem md_A_get_10 : decode mc_A_get 10 = .ok (.iload_n 1, 1) := by decide +kernel
theorem md_A_get_11 : decode mc_A_get 11 = .ok (.invokevirtual 123, 3) := by decide +kernel
theorem md_A_get_14 : decode mc_A_get 14 = .ok (.areturn, 1) := by decide +kernel
theorem md_Ob_checkIndex_0 : decode mc_Ob_checkIndex 0 = .ok (.iload_n 0, 1) := by decide +kernel
theorem md_Ob_checkIndex_1 : decode mc_Ob_checkIndex 1 = .ok (.iload_n 1, 1) := by decide +kernel
theorem md_Ob_checkIndex_2 : decode mc_Ob_checkIndex 2 = .ok (.aconst_null, 1) := by decide +kernel
theorem md_Ob_checkIndex_3 : decode mc_Ob_checkIndex 3 = .ok (.invokestatic 105, 3) := by decide +kernel
theorem md_Ob_checkIndex_6 : decode mc_Ob_checkIndex 6 = .ok (.ireturn, 1) := by decide +kernel
theorem md_Pc_checkIndex_0 : decode mc_Pc_checkIndex 0 = .ok (.iload_n 0, 1) := by decide +kernel
theorem md_Pc_checkIndex_1 : decode mc_Pc_checkIndex 1 = .ok (.ifCond .lt 8, 3) := by decide +kernel
theorem md_Pc_checkIndex_4 : decode mc_Pc_checkIndex 4 = .ok (.iload_n 0, 1) := by decide +kernel
theorem md_Pc_checkIndex_5 : decode mc_Pc_checkIndex 5 = .ok (.iload_n 1, 1) := by decide +kernel
theorem md_Pc_checkIndex_6 : decode mc_Pc_checkIndex 6 = .ok (.if_icmp .lt 10, 3) := by decide +kernel
theorem md_Pc_checkIndex_9 : decode mc_Pc_checkIndex 9 = .ok (.aload_n 2, 1) := by decide +kernel
theorem md_Pc_checkIndex_10 : decode mc_Pc_checkIndex 10 = .ok (.iload_n 0, 1) := by decide +kernel
theorem md_Pc_checkIndex_11 : decode mc_Pc_checkIndex 11 = .ok (.iload_n 1, 1) := by decide +kernel
theorem md_Pc_checkIndex_12 : decode mc_Pc_checkIndex 12 = .ok (.invokestatic 95, 3) := by decide +kernel
theorem md_Pc_checkIndex_15 : decode mc_Pc_checkIndex 15 = .ok (.athrow, 1) := by decide +kernel
theorem md_Pc_checkIndex_16 : decode mc_Pc_checkIndex 16 = .ok (.iload_n 0, 1) := by decide +kernel
theorem md_Pc_checkIndex_17 : decode mc_Pc_checkIndex 17 = .ok (.ireturn, 1) := by decide +kernel
theorem md_A_elementData_0 : decode mc_A_elementData 0 = .ok (.aload_n 0, 1) := by decide +kernel
theorem md_A_elementData_1 : decode mc_A_elementData 1 = .ok (.getfield 9, 3) := by decide +kernel
theorem md_A_elementData_4 : decode mc_A_elementData 4 = .ok (.iload_n 1, 1) := by decide +kernel
theorem md_A_elementData_5 : decode mc_A_elementData 5 = .ok (.aaload, 1) := by decide +kernel
theorem md_A_elementData_6 : decode mc_A_elementData 6 = .ok (.areturn, 1) := by decide +kernel
theorem md_A_remove_0 : decode mc_A_remove 0 = .ok (.iload_n 1, 1) := by decide +kernel
theorem md_A_remove_1 : decode mc_A_remove 1 = .ok (.aload_n 0, 1) := by decide +kernel
theorem md_A_remove_2 : decode mc_A_remove 2 = .ok (.getfield 48, 3) := by decide +kernel
theorem md_A_remove_5 : decode mc_A_remove 5 = .ok (.invokestatic 118, 3) := by decide +kernel
theorem md_A_remove_8 : decode mc_A_remove 8 = .ok (.pop, 1) := by decide +kernel
theorem md_A_remove_9 : decode mc_A_remove 9 = .ok (.aload_n 0, 1) := by decide +kernel
theorem md_A_remove_10 : decode mc_A_remove 10 = .ok (.getfield 9, 3) := by decide +kernel
theorem md_A_remove_13 : decode mc_A_remove 13 = .ok (.astore_n 2, 1) := by decide +kernel
theorem md_A_remove_14 : decode mc_A_remove 14 = .ok (.aload_n 2, 1) := by decide +kernel
theorem md_A_remove_15 : decode mc_A_remove 15 = .ok (.iload_n 1, 1) := by decide +kernel
theorem md_A_remove_16 : decode mc_A_remove 16 = .ok (.aaload, 1) := by decide +kernel
theorem md_A_remove_17 : decode mc_A_remove 17 = .ok (.astore_n 3, 1) := by decide +kernel
theorem md_A_remove_18 : decode mc_A_remove 18 = .ok (.aload_n 0, 1) := by decide +kernel
theorem md_A_remove_19 : decode mc_A_remove 19 = .ok (.aload_n 2, 1) := by decide +kernel
theorem md_A_remove_20 : decode mc_A_remove 20 = .ok (.iload_n 1, 1) := by decide +kernel
theorem md_A_remove_21 : decode mc_A_remove 21 = .ok (.invokevirtual 144, 3) := by decide +kernel
theorem md_A_remove_24 : decode mc_A_remove 24 = .ok (.aload_n 3, 1) := by decide +kernel
theorem md_A_remove_25 : decode mc_A_remove 25 = .ok (.areturn, 1) := by decide +kernel
theorem md_A_fastRemove_0 : decode mc_A_fastRemove 0 = .ok (.aload_n 0, 1) := by decide +kernel
theorem md_A_fastRemove_1 : decode mc_A_fastRemove 1 = .ok (.dup, 1) := by decide +kernel
theorem md_A_fastRemove_2 : decode mc_A_fastRemove 2 = .ok (.getfield 63, 3) := by decide +kernel
theorem md_A_fastRemove_5 : decode mc_A_fastRemove 5 = .ok (.iconst 1, 1) := by decide +kernel
theorem md_A_fastRemove_6 : decode mc_A_fastRemove 6 = .ok (.iadd, 1) := by decide +kernel
theorem md_A_fastRemove_7 : decode mc_A_fastRemove 7 = .ok (.putfield 63, 3) := by decide +kernel
theorem md_A_fastRemove_10 : decode mc_A_fastRemove 10 = .ok (.aload_n 0, 1) := by decide +kernel
theorem md_A_fastRemove_11 : decode mc_A_fastRemove 11 = .ok (.getfield 48, 3) := by decide +kernel
theorem md_A_fastRemove_14 : decode mc_A_fastRemove 14 = .ok (.iconst 1, 1) := by decide +kernel
theorem md_A_fastRemove_15 : decode mc_A_fastRemove 15 = .ok (.isub, 1) := by decide +kernel
theorem md_A_fastRemove_16 : decode mc_A_fastRemove 16 = .ok (.dup, 1) := by decide +kernel
theorem md_A_fastRemove_17 : decode mc_A_fastRemove 17 = .ok (.istore_n 3, 1) := by decide +kernel
theorem md_A_fastRemove_18 : decode mc_A_fastRemove 18 = .ok (.iload_n 2, 1) := by decide +kernel
theorem md_A_fastRemove_19 : decode mc_A_fastRemove 19 = .ok (.if_icmp .le 15, 3) := by decide +kernel
theorem md_A_fastRemove_22 : decode mc_A_fastRemove 22 = .ok (.aload_n 1, 1) := by decide +kernel
theorem md_A_fastRemove_23 : decode mc_A_fastRemove 23 = .ok (.iload_n 2, 1) := by decide +kernel
theorem md_A_fastRemove_24 : decode mc_A_fastRemove 24 = .ok (.iconst 1, 1) := by decide +kernel
theorem md_A_fastRemove_25 : decode mc_A_fastRemove 25 = .ok (.iadd, 1) := by decide +kernel
theorem md_A_fastRemove_26 : decode mc_A_fastRemove 26 = .ok (.aload_n 1, 1) := by decide +kernel
theorem md_A_fastRemove_27 : decode mc_A_fastRemove 27 = .ok (.iload_n 2, 1) := by decide +kernel
theorem md_A_fastRemove_28 : decode mc_A_fastRemove 28 = .ok (.iload_n 3, 1) := by decide +kernel
theorem md_A_fastRemove_29 : decode mc_A_fastRemove 29 = .ok (.iload_n 2, 1) := by decide +kernel
theorem md_A_fastRemove_30 : decode mc_A_fastRemove 30 = .ok (.isub, 1) := by decide +kernel
theorem md_A_fastRemove_31 : decode mc_A_fastRemove 31 = .ok (.invokestatic 112, 3) := by decide +kernel
theorem md_A_fastRemove_34 : decode mc_A_fastRemove 34 = .ok (.aload_n 1, 1) := by decide +kernel
theorem md_A_fastRemove_35 : decode mc_A_fastRemove 35 = .ok (.aload_n 0, 1) := by decide +kernel
theorem md_A_fastRemove_36 : decode mc_A_fastRemove 36 = .ok (.iload_n 3, 1) := by decide +kernel
theorem md_A_fastRemove_37 : decode mc_A_fastRemove 37 = .ok (.dup_x1, 1) := by decide +kernel
theorem md_A_fastRemove_38 : decode mc_A_fastRemove 38 = .ok (.putfield 48, 3) := by decide +kernel
theorem md_A_fastRemove_41 : decode mc_A_fastRemove 41 = .ok (.aconst_null, 1) := by decide +kernel
theorem md_A_fastRemove_42 : decode mc_A_fastRemove 42 = .ok (.aastore, 1) := by decide +kernel
theorem md_A_fastRemove_43 : decode mc_A_fastRemove 43 = .ok (.return_, 1) := by decide +kernel
theorem md_Ma_min_0 : decode mc_Ma_min 0 = .ok (.iload_n 0, 1) := by decide +kernel
theorem md_Ma_min_1 : decode mc_Ma_min 1 = .ok (.iload_n 1, 1) := by decide +kernel
theorem md_Ma_min_2 : decode mc_Ma_min 2 = .ok (.if_icmp .gt 7, 3) := by decide +kernel
theorem md_Ma_min_5 : decode mc_Ma_min 5 = .ok (.iload_n 0, 1) := by decide +kernel
theorem md_Ma_min_6 : decode mc_Ma_min 6 = .ok (.goto 4, 3) := by decide +kernel
theorem md_Ma_min_9 : decode mc_Ma_min 9 = .ok (.iload_n 1, 1) := by decide +kernel
theorem md_Ma_min_10 : decode mc_Ma_min 10 = .ok (.ireturn, 1) := by decide +kernel
theorem md_Ma_floorMod_0 : decode mc_Ma_floorMod 0 = .ok (.iload_n 0, 1) := by decide +kernel
theorem md_Ma_floorMod_1 : decode mc_Ma_floorMod 1 = .ok (.iload_n 1, 1) := by decide +kernel
theorem md_Ma_floorMod_2 : decode mc_Ma_floorMod 2 = .ok (.irem, 1) := by decide +kernel
theorem md_Ma_floorMod_3 : decode mc_Ma_floorMod 3 = .ok (.istore_n 2, 1) := by decide +kernel
theorem md_Ma_floorMod_4 : decode mc_Ma_floorMod 4 = .ok (.iload_n 0, 1) := by decide +kernel
theorem md_Ma_floorMod_5 : decode mc_Ma_floorMod 5 = .ok (.iload_n 1, 1) := by decide +kernel
theorem md_Ma_floorMod_6 : decode mc_Ma_floorMod 6 = .ok (.ixor, 1) := by decide +kernel
theorem md_Ma_floorMod_7 : decode mc_Ma_floorMod 7 = .ok (.ifCond .ge 11, 3) := by decide +kernel
theorem md_Ma_floorMod_10 : decode mc_Ma_floorMod 10 = .ok (.iload_n 2, 1) := by decide +kernel
theorem md_Ma_floorMod_11 : decode mc_Ma_floorMod 11 = .ok (.ifCond .eq 7, 3) := by decide +kernel
theorem md_Ma_floorMod_14 : decode mc_Ma_floorMod 14 = .ok (.iload_n 2, 1) := by decide +kernel
theorem md_Ma_floorMod_15 : decode mc_Ma_floorMod 15 = .ok (.iload_n 1, 1) := by decide +kernel
theorem md_Ma_floorMod_16 : decode mc_Ma_floorMod 16 = .ok (.iadd, 1) := by decide +kernel
theorem md_Ma_floorMod_17 : decode mc_Ma_floorMod 17 = .ok (.ireturn, 1) := by decide +kernel
theorem md_Ma_floorMod_18 : decode mc_Ma_floorMod 18 = .ok (.iload_n 2, 1) := by decide +kernel
theorem md_Ma_floorMod_19 : decode mc_Ma_floorMod 19 = .ok (.ireturn, 1) := by decide +kernel
theorem md_A_add_0 : decode mc_A_add 0 = .ok (.aload_n 0, 1) := by decide +kernel
theorem md_A_add_1 : decode mc_A_add 1 = .ok (.dup, 1) := by decide +kernel
theorem md_A_add_2 : decode mc_A_add 2 = .ok (.getfield 63, 3) := by decide +kernel
theorem md_A_add_5 : decode mc_A_add 5 = .ok (.iconst 1, 1) := by decide +kernel
theorem md_A_add_6 : decode mc_A_add 6 = .ok (.iadd, 1) := by decide +kernel
theorem md_A_add_7 : decode mc_A_add 7 = .ok (.putfield 63, 3) := by decide +kernel
theorem md_A_add_10 : decode mc_A_add 10 = .ok (.aload_n 0, 1) := by decide +kernel
theorem md_A_add_11 : decode mc_A_add 11 = .ok (.aload_n 1, 1) := by decide +kernel
theorem md_A_add_12 : decode mc_A_add 12 = .ok (.aload_n 0, 1) := by decide +kernel
theorem md_A_add_13 : decode mc_A_add 13 = .ok (.getfield 9, 3) := by decide +kernel
theorem md_A_add_16 : decode mc_A_add 16 = .ok (.aload_n 0, 1) := by decide +kernel
theorem md_A_add_17 : decode mc_A_add 17 = .ok (.getfield 48, 3) := by decide +kernel
theorem md_A_add_20 : decode mc_A_add 20 = .ok (.invokevirtual 131, 3) := by decide +kernel
theorem md_A_add_23 : decode mc_A_add 23 = .ok (.iconst 1, 1) := by decide +kernel
theorem md_A_add_24 : decode mc_A_add 24 = .ok (.ireturn, 1) := by decide +kernel
theorem md_A_add2_0 : decode mc_A_add2 0 = .ok (.iload_n 3, 1) := by decide +kernel
theorem md_A_add2_1 : decode mc_A_add2 1 = .ok (.aload_n 2, 1) := by decide +kernel
theorem md_A_add2_2 : decode mc_A_add2 2 = .ok (.arraylength, 1) := by decide +kernel
theorem md_A_add2_3 : decode mc_A_add2 3 = .ok (.if_icmp .ne 8, 3) := by decide +kernel
theorem md_A_add2_6 : decode mc_A_add2 6 = .ok (.aload_n 0, 1) := by decide +kernel
theorem md_A_add2_7 : decode mc_A_add2 7 = .ok (.invokevirtual 129, 3) := by decide +kernel
theorem md_A_add2_10 : decode mc_A_add2 10 = .ok (.astore_n 2, 1) := by decide +kernel
theorem md_A_add2_11 : decode mc_A_add2 11 = .ok (.aload_n 2, 1) := by decide +kernel
theorem md_A_add2_12 : decode mc_A_add2 12 = .ok (.iload_n 3, 1) := by decide +kernel
theorem md_A_add2_13 : decode mc_A_add2 13 = .ok (.aload_n 1, 1) := by decide +kernel
theorem md_A_add2_14 : decode mc_A_add2 14 = .ok (.aastore, 1) := by decide +kernel
theorem md_A_add2_15 : decode mc_A_add2 15 = .ok (.aload_n 0, 1) := by decide +kernel
theorem md_A_add2_16 : decode mc_A_add2 16 = .ok (.iload_n 3, 1) := by decide +kernel
theorem md_A_add2_17 : decode mc_A_add2 17 = .ok (.iconst 1, 1) := by decide +kernel
theorem md_A_add2_18 : decode mc_A_add2 18 = .ok (.iadd, 1) := by decide +kernel
theorem md_A_add2_19 : decode mc_A_add2 19 = .ok (.putfield 48, 3) := by decide +kernel
theorem md_A_add2_22 : decode mc_A_add2 22 = .ok (.return_, 1) := by decide +kernel
theorem md_A_grow_0 : decode mc_A_grow 0 = .ok (.aload_n 0, 1) := by decide +kernel
theorem md_A_grow_1 : decode mc_A_grow 1 = .ok (.aload_n 0, 1) := by decide +kernel
theorem md_A_grow_2 : decode mc_A_grow 2 = .ok (.getfield 48, 3) := by decide +kernel
theorem md_A_grow_5 : decode mc_A_grow 5 = .ok (.iconst 1, 1) := by decide +kernel
theorem md_A_grow_6 : decode mc_A_grow 6 = .ok (.iadd, 1) := by decide +kernel
theorem md_A_grow_7 : decode mc_A_grow 7 = .ok (.invokevirtual 69, 3) := by decide +kernel
theorem md_A_grow_10 : decode mc_A_grow 10 = .ok (.areturn, 1) := by decide +kernel
theorem md_A_grow1_0 : decode mc_A_grow1 0 = .ok (.aload_n 0, 1) := by decide +kernel
theorem md_A_grow1_1 : decode mc_A_grow1 1 = .ok (.getfield 9, 3) := by decide +kernel
theorem md_A_grow1_4 : decode mc_A_grow1 4 = .ok (.arraylength, 1) := by decide +kernel
theorem md_A_grow1_5 : decode mc_A_grow1 5 = .ok (.istore_n 2, 1) := by decide +kernel
theorem md_A_grow1_6 : decode mc_A_grow1 6 = .ok (.iload_n 2, 1) := by decide +kernel
theorem md_A_grow1_7 : decode mc_A_grow1 7 = .ok (.ifCond .gt 13, 3) := by decide +kernel
theorem md_A_grow1_10 : decode mc_A_grow1 10 = .ok (.aload_n 0, 1) := by decide +kernel
theorem md_A_grow1_11 : decode mc_A_grow1 11 = .ok (.getfield 9, 3) := by decide +kernel
theorem md_A_grow1_14 : decode mc_A_grow1 14 = .ok (.getstatic 39, 3) := by decide +kernel
theorem md_A_grow1_17 : decode mc_A_grow1 17 = .ok (.if_acmp .eq 28, 3) := by decide +kernel
theorem md_A_grow1_20 : decode mc_A_grow1 20 = .ok (.iload_n 2, 1) := by decide +kernel
theorem md_A_grow1_21 : decode mc_A_grow1 21 = .ok (.iload_n 1, 1) := by decide +kernel
theorem md_A_grow1_22 : decode mc_A_grow1 22 = .ok (.iload_n 2, 1) := by decide +kernel
theorem md_A_grow1_23 : decode mc_A_grow1 23 = .ok (.isub, 1) := by decide +kernel
theorem md_A_grow1_24 : decode mc_A_grow1 24 = .ok (.iload_n 2, 1) := by decide +kernel
theorem md_A_grow1_25 : decode mc_A_grow1 25 = .ok (.iconst 1, 1) := by decide +kernel
theorem md_A_grow1_26 : decode mc_A_grow1 26 = .ok (.ishr, 1) := by decide +kernel
theorem md_A_grow1_27 : decode mc_A_grow1 27 = .ok (.invokestatic 73, 3) := by decide +kernel
theorem md_A_grow1_30 : decode mc_A_grow1 30 = .ok (.istore_n 3, 1) := by decide +kernel
theorem md_A_grow1_31 : decode mc_A_grow1 31 = .ok (.aload_n 0, 1) := by decide +kernel
theorem md_A_grow1_32 : decode mc_A_grow1 32 = .ok (.aload_n 0, 1) := by decide +kernel
theorem md_A_grow1_33 : decode mc_A_grow1 33 = .ok (.getfield 9, 3) := by decide +kernel
theorem md_A_grow1_36 : decode mc_A_grow1 36 = .ok (.iload_n 3, 1) := by decide +kernel
theorem md_A_grow1_37 : decode mc_A_grow1 37 = .ok (.invokestatic 66, 3) := by decide +kernel
theorem md_A_grow1_40 : decode mc_A_grow1 40 = .ok (.dup_x1, 1) := by decide +kernel
theorem md_A_grow1_41 : decode mc_A_grow1 41 = .ok (.putfield 9, 3) := by decide +kernel
theorem md_A_grow1_44 : decode mc_A_grow1 44 = .ok (.areturn, 1) := by decide +kernel
theorem md_A_grow1_45 : decode mc_A_grow1 45 = .ok (.aload_n 0, 1) := by decide +kernel
theorem md_A_grow1_46 : decode mc_A_grow1 46 = .ok (.bipush 10, 2) := by decide +kernel
theorem md_A_grow1_48 : decode mc_A_grow1 48 = .ok (.iload_n 1, 1) := by decide +kernel
theorem md_A_grow1_49 : decode mc_A_grow1 49 = .ok (.invokestatic 79, 3) := by decide +kernel
theorem md_A_grow1_52 : decode mc_A_grow1 52 = .ok (.anewarray 7, 3) := by decide +kernel
theorem md_A_grow1_55 : decode mc_A_grow1 55 = .ok (.dup_x1, 1) := by decide +kernel
theorem md_A_grow1_56 : decode mc_A_grow1 56 = .ok (.putfield 9, 3) := by decide +kernel
theorem md_A_grow1_59 : decode mc_A_grow1 59 = .ok (.areturn, 1) := by decide +kernel
theorem md_As_newLength_0 : decode mc_As_newLength 0 = .ok (.iload_n 0, 1) := by decide +kernel
theorem md_As_newLength_1 : decode mc_As_newLength 1 = .ok (.iload_n 1, 1) := by decide +kernel
theorem md_As_newLength_2 : decode mc_As_newLength 2 = .ok (.iload_n 2, 1) := by decide +kernel
theorem md_As_newLength_3 : decode mc_As_newLength 3 = .ok (.invokestatic 194, 3) := by decide +kernel
theorem md_As_newLength_6 : decode mc_As_newLength 6 = .ok (.iadd, 1) := by decide +kernel
theorem md_As_newLength_7 : decode mc_As_newLength 7 = .ok (.istore_n 3, 1) := by decide +kernel
theorem md_As_newLength_8 : decode mc_As_newLength 8 = .ok (.iconst 0, 1) := by decide +kernel
theorem md_As_newLength_9 : decode mc_As_newLength 9 = .ok (.iload_n 3, 1) := by decide +kernel
theorem md_As_newLength_10 : decode mc_As_newLength 10 = .ok (.if_icmp .ge 11, 3) := by decide +kernel
theorem md_As_newLength_13 : decode mc_As_newLength 13 = .ok (.iload_n 3, 1) := by decide +kernel
theorem md_As_newLength_14 : decode mc_As_newLength 14 = .ok (.ldc 200, 2) := by decide +kernel
theorem md_As_newLength_16 : decode mc_As_newLength 16 = .ok (.if_icmp .gt 5, 3) := by decide +kernel
theorem md_As_newLength_19 : decode mc_As_newLength 19 = .ok (.iload_n 3, 1) := by decide +kernel
theorem md_As_newLength_20 : decode mc_As_newLength 20 = .ok (.ireturn, 1) := by decide +kernel
theorem md_As_newLength_21 : decode mc_As_newLength 21 = .ok (.iload_n 0, 1) := by decide +kernel
theorem md_As_newLength_22 : decode mc_As_newLength 22 = .ok (.iload_n 1, 1) := by decide +kernel
theorem md_As_newLength_23 : decode mc_As_newLength 23 = .ok (.invokestatic 201, 3) := by decide +kernel
theorem md_As_newLength_26 : decode mc_As_newLength 26 = .ok (.ireturn, 1) := by decide +kernel
theorem md_Ma_max_0 : decode mc_Ma_max 0 = .ok (.iload_n 0, 1) := by decide +kernel
theorem md_Ma_max_1 : decode mc_Ma_max 1 = .ok (.iload_n 1, 1) := by decide +kernel
theorem md_Ma_max_2 : decode mc_Ma_max 2 = .ok (.if_icmp .lt 7, 3) := by decide +kernel
theorem md_Ma_max_5 : decode mc_Ma_max 5 = .ok (.iload_n 0, 1) := by decide +kernel
theorem md_Ma_max_6 : decode mc_Ma_max 6 = .ok (.goto 4, 3) := by decide +kernel
theorem md_Ma_max_9 : decode mc_Ma_max 9 = .ok (.iload_n 1, 1) := by decide +kernel
theorem md_Ma_max_10 : decode mc_Ma_max 10 = .ok (.ireturn, 1) := by decide +kernel
theorem md_As_hugeLength_0 : decode mc_As_hugeLength 0 = .ok (.iload_n 0, 1) := by decide +kernel
theorem md_As_hugeLength_1 : decode mc_As_hugeLength 1 = .ok (.iload_n 1, 1) := by decide +kernel
theorem md_As_hugeLength_2 : decode mc_As_hugeLength 2 = .ok (.iadd, 1) := by decide +kernel
theorem md_As_hugeLength_3 : decode mc_As_hugeLength 3 = .ok (.istore_n 2, 1) := by decide +kernel
theorem md_As_hugeLength_4 : decode mc_As_hugeLength 4 = .ok (.iload_n 2, 1) := by decide +kernel
theorem md_As_hugeLength_5 : decode mc_As_hugeLength 5 = .ok (.ifCond .ge 44, 3) := by decide +kernel
theorem md_As_hugeLength_8 : decode mc_As_hugeLength 8 = .ok (.new 204, 3) := by decide +kernel
theorem md_As_hugeLength_11 : decode mc_As_hugeLength 11 = .ok (.dup, 1) := by decide +kernel
theorem md_As_hugeLength_12 : decode mc_As_hugeLength 12 = .ok (.new 89, 3) := by decide +kernel
theorem md_As_hugeLength_15 : decode mc_As_hugeLength 15 = .ok (.dup, 1) := by decide +kernel
theorem md_As_hugeLength_16 : decode mc_As_hugeLength 16 = .ok (.invokespecial 91, 3) := by decide +kernel
theorem md_As_hugeLength_19 : decode mc_As_hugeLength 19 = .ok (.ldc 206, 2) := by decide +kernel
theorem md_As_hugeLength_21 : decode mc_As_hugeLength 21 = .ok (.invokevirtual 94, 3) := by decide +kernel
theorem md_As_hugeLength_24 : decode mc_As_hugeLength 24 = .ok (.iload_n 0, 1) := by decide +kernel
theorem md_As_hugeLength_25 : decode mc_As_hugeLength 25 = .ok (.invokevirtual 98, 3) := by decide +kernel
theorem md_As_hugeLength_28 : decode mc_As_hugeLength 28 = .ok (.ldc 208, 2) := by decide +kernel
theorem md_As_hugeLength_30 : decode mc_As_hugeLength 30 = .ok (.invokevirtual 94, 3) := by decide +kernel
theorem md_As_hugeLength_33 : decode mc_As_hugeLength 33 = .ok (.iload_n 1, 1) := by decide +kernel
theorem md_As_hugeLength_34 : decode mc_As_hugeLength 34 = .ok (.invokevirtual 98, 3) := by decide +kernel
theorem md_As_hugeLength_37 : decode mc_As_hugeLength 37 = .ok (.ldc 210, 2) := by decide +kernel
theorem md_As_hugeLength_39 : decode mc_As_hugeLength 39 = .ok (.invokevirtual 94, 3) := by decide +kernel
theorem md_As_hugeLength_42 : decode mc_As_hugeLength 42 = .ok (.invokevirtual 101, 3) := by decide +kernel
theorem md_As_hugeLength_45 : decode mc_As_hugeLength 45 = .ok (.invokespecial 212, 3) := by decide +kernel
theorem md_As_hugeLength_48 : decode mc_As_hugeLength 48 = .ok (.athrow, 1) := by decide +kernel
theorem md_As_hugeLength_49 : decode mc_As_hugeLength 49 = .ok (.iload_n 2, 1) := by decide +kernel
theorem md_As_hugeLength_50 : decode mc_As_hugeLength 50 = .ok (.ldc 200, 2) := by decide +kernel
theorem md_As_hugeLength_52 : decode mc_As_hugeLength 52 = .ok (.if_icmp .gt 6, 3) := by decide +kernel
theorem md_As_hugeLength_55 : decode mc_As_hugeLength 55 = .ok (.ldc 200, 2) := by decide +kernel
theorem md_As_hugeLength_57 : decode mc_As_hugeLength 57 = .ok (.ireturn, 1) := by decide +kernel
theorem md_As_hugeLength_58 : decode mc_As_hugeLength 58 = .ok (.iload_n 2, 1) := by decide +kernel
theorem md_As_hugeLength_59 : decode mc_As_hugeLength 59 = .ok (.ireturn, 1) := by decide +kernel
theorem md_Ar_copyOf_0 : decode mc_Ar_copyOf 0 = .ok (.aload_n 0, 1) := by decide +kernel
theorem md_Ar_copyOf_1 : decode mc_Ar_copyOf 1 = .ok (.iload_n 1, 1) := by decide +kernel
theorem md_Ar_copyOf_2 : decode mc_Ar_copyOf 2 = .ok (.aload_n 0, 1) := by decide +kernel
theorem md_Ar_copyOf_3 : decode mc_Ar_copyOf 3 = .ok (.invokevirtual 86, 3) := by decide +kernel
theorem md_Ar_copyOf_6 : decode mc_Ar_copyOf 6 = .ok (.invokestatic 300, 3) := by decide +kernel
theorem md_Ar_copyOf_9 : decode mc_Ar_copyOf 9 = .ok (.areturn, 1) := by decide +kernel
theorem md_Ar_copyOf2_0 : decode mc_Ar_copyOf2 0 = .ok (.aload_n 2, 1) := by decide +kernel
theorem md_Ar_copyOf2_1 : decode mc_Ar_copyOf2 1 = .ok (.ldc 110, 2) := by decide +kernel
theorem md_Ar_copyOf2_3 : decode mc_Ar_copyOf2 3 = .ok (.if_acmp .ne 10, 3) := by decide +kernel
theorem md_Ar_copyOf2_6 : decode mc_Ar_copyOf2 6 = .ok (.iload_n 1, 1) := by decide +kernel
theorem md_Ar_copyOf2_7 : decode mc_Ar_copyOf2 7 = .ok (.anewarray 2, 3) := by decide +kernel
theorem md_Ar_copyOf2_10 : decode mc_Ar_copyOf2 10 = .ok (.goto 14, 3) := by decide +kernel
theorem md_Ar_copyOf2_13 : decode mc_Ar_copyOf2 13 = .ok (.aload_n 2, 1) := by decide +kernel
theorem md_Ar_copyOf2_14 : decode mc_Ar_copyOf2 14 = .ok (.invokevirtual 90, 3) := by decide +kernel
theorem md_Ar_copyOf2_17 : decode mc_Ar_copyOf2 17 = .ok (.iload_n 1, 1) := by decide +kernel
theorem md_Ar_copyOf2_18 : decode mc_Ar_copyOf2 18 = .ok (.invokestatic 95, 3) := by decide +kernel
theorem md_Ar_copyOf2_21 : decode mc_Ar_copyOf2 21 = .ok (.checkcast 110, 3) := by decide +kernel
theorem md_Ar_copyOf2_24 : decode mc_Ar_copyOf2 24 = .ok (.astore_n 3, 1) := by decide +kernel
theorem md_Ar_copyOf2_25 : decode mc_Ar_copyOf2 25 = .ok (.aload_n 0, 1) := by decide +kernel
theorem md_Ar_copyOf2_26 : decode mc_Ar_copyOf2 26 = .ok (.iconst 0, 1) := by decide +kernel
theorem md_Ar_copyOf2_27 : decode mc_Ar_copyOf2 27 = .ok (.aload_n 3, 1) := by decide +kernel
theorem md_Ar_copyOf2_28 : decode mc_Ar_copyOf2 28 = .ok (.iconst 0, 1) := by decide +kernel
theorem md_Ar_copyOf2_29 : decode mc_Ar_copyOf2 29 = .ok (.aload_n 0, 1) := by decide +kernel
theorem md_Ar_copyOf2_30 : decode mc_Ar_copyOf2 30 = .ok (.arraylength, 1) := by decide +kernel
theorem md_Ar_copyOf2_31 : decode mc_Ar_copyOf2 31 = .ok (.iload_n 1, 1) := by decide +kernel
theorem md_Ar_copyOf2_32 : decode mc_Ar_copyOf2 32 = .ok (.invokestatic 304, 3) := by decide +kernel
theorem md_Ar_copyOf2_35 : decode mc_Ar_copyOf2 35 = .ok (.invokestatic 150, 3) := by decide +kernel
theorem md_Ar_copyOf2_38 : decode mc_Ar_copyOf2 38 = .ok (.aload_n 3, 1) := by decide +kernel
theorem md_Ar_copyOf2_39 : decode mc_Ar_copyOf2 39 = .ok (.areturn, 1) := by decide +kernel
end
section
/-! decode rows -/
theorem md_F_init_0 : decode mc_F_init 0 = .ok (.aload_n 0, 1) := by decide +kernel
theorem md_F_init_1 : decode mc_F_init 1 = .ok (.invokespecial 1, 3) := by decide +kernel
theorem md_F_init_4 : decode mc_F_init 4 = .ok (.aload_n 0, 1) := by decide +kernel
theorem md_F_init_5 : decode mc_F_init 5 = .ok (.new 7, 3) := by decide +kernel
theorem md_F_init_8 : decode mc_F_init 8 = .ok (.dup, 1) := by decide +kernel
theorem md_F_init_9 : decode mc_F_init 9 = .ok (.invokespecial 9, 3) := by decide +kernel
theorem md_F_init_12 : decode mc_F_init 12 = .ok (.putfield 10, 3) := by decide +kernel
theorem md_F_init_15 : decode mc_F_init 15 = .ok (.aload_n 0, 1) := by decide +kernel
theorem md_F_init_16 : decode mc_F_init 16 = .ok (.new 16, 3) := by decide +kernel
theorem md_F_init_19 : decode mc_F_init 19 = .ok (.dup, 1) := by decide +kernel
theorem md_F_init_20 : decode mc_F_init 20 = .ok (.invokespecial 18, 3) := by decide +kernel
theorem md_F_init_23 : decode mc_F_init 23 = .ok (.putfield 19, 3) := by decide +kernel
theorem md_F_init_26 : decode mc_F_init 26 = .ok (.return_, 1) := by decide +kernel
theorem md_T_init_0 : decode mc_T_init 0 = .ok (.aload_n 0, 1) := by decide +kernel
theorem md_T_init_1 : decode mc_T_init 1 = .ok (.invokespecial 3, 3) := by decide +kernel
theorem md_T_init_4 : decode mc_T_init 4 = .ok (.aload_n 0, 1) := by decide +kernel
theorem md_T_init_5 : decode mc_T_init 5 = .ok (.bipush 32, 2) := by decide +kernel
theorem md_T_init_7 : decode mc_T_init 7 = .ok (.iconst 4, 1) := by decide +kernel
theorem md_T_init_8 : decode mc_T_init 8 = .ok (.multianewarray 11 2, 4) := by decide +kernel
theorem md_T_init_12 : decode mc_T_init 12 = .ok (.putfield 13, 3) := by decide +kernel
theorem md_T_init_15 : decode mc_T_init 15 = .ok (.aload_n 0, 1) := by decide +kernel
theorem md_T_init_16 : decode mc_T_init 16 = .ok (.iconst 0, 1) := by decide +kernel
theorem md_T_init_17 : decode mc_T_init 17 = .ok (.putfield 16, 3) := by decide +kernel
theorem md_T_init_20 : decode mc_T_init 20 = .ok (.return_, 1) := by decide +kernel
theorem md_F_fills_0 : decode mc_F_fills 0 = .ok (.aload_n 0, 1) := by decide +kernel
theorem md_F_fills_1 : decode mc_F_fills 1 = .ok (.getfield 19, 3) := by decide +kernel
theorem md_F_fills_4 : decode mc_F_fills 4 = .ok (.getfield 133, 3) := by decide +kernel
theorem md_F_fills_7 : decode mc_F_fills 7 = .ok (.ireturn, 1) := by decide +kernel
theorem md_F_last_0 : decode mc_F_last 0 = .ok (.aload_n 0, 1) := by decide +kernel
theorem md_F_last_1 : decode mc_F_last 1 = .ok (.getfield 19, 3) := by decide +kernel
theorem md_F_last_4 : decode mc_F_last 4 = .ok (.getfield 141, 3) := by decide +kernel
theorem md_F_last_7 : decode mc_F_last 7 = .ok (.ireturn, 1) := by decide +kernel
theorem md_F_turnover_0 : decode mc_F_turnover 0 = .ok (.aload_n 0, 1) := by decide +kernel
theorem md_F_turnover_1 : decode mc_F_turnover 1 = .ok (.getfield 19, 3) := by decide +kernel
theorem md_F_turnover_4 : decode mc_F_turnover 4 = .ok (.getfield 144, 3) := by decide +kernel
theorem md_F_turnover_7 : decode mc_F_turnover 7 = .ok (.lreturn, 1) := by decide +kernel
theorem md_F_submit_0 : decode mc_F_submit 0 = .ok (.iload_n 2, 1) := by decide +kernel
theorem md_F_submit_1 : decode mc_F_submit 1 = .ok (.ifCond .lt 17, 3) := by decide +kernel
theorem md_F_submit_4 : decode mc_F_submit 4 = .ok (.iload_n 2, 1) := by decide +kernel
theorem md_F_submit_5 : decode mc_F_submit 5 = .ok (.bipush 127, 2) := by decide +kernel
theorem md_F_submit_7 : decode mc_F_submit 7 = .ok (.if_icmp .gt 11, 3) := by decide +kernel
theorem md_F_submit_10 : decode mc_F_submit 10 = .ok (.iload_n 2, 1) := by decide +kernel
theorem md_F_submit_11 : decode mc_F_submit 11 = .ok (.invokestatic 23, 3) := by decide +kernel
theorem md_F_submit_14 : decode mc_F_submit 14 = .ok (.iconst 5, 1) := by decide +kernel
theorem md_F_submit_15 : decode mc_F_submit 15 = .ok (.if_icmp .le 13, 3) := by decide +kernel
theorem md_F_submit_18 : decode mc_F_submit 18 = .ok (.new 27, 3) := by decide +kernel
theorem md_F_submit_21 : decode mc_F_submit 21 = .ok (.dup, 1) := by decide +kernel
theorem md_F_submit_22 : decode mc_F_submit 22 = .ok (.ldc 29, 2) := by decide +kernel
theorem md_F_submit_24 : decode mc_F_submit 24 = .ok (.invokespecial 31, 3) := by decide +kernel
theorem md_F_submit_27 : decode mc_F_submit 27 = .ok (.athrow, 1) := by decide +kernel
theorem md_F_submit_28 : decode mc_F_submit 28 = .ok (.iload_n 3, 1) := by decide +kernel
theorem md_F_submit_29 : decode mc_F_submit 29 = .ok (.invokestatic 34, 3) := by decide +kernel
theorem md_F_submit_32 : decode mc_F_submit 32 = .ok (.ifCond .eq 11, 3) := by decide +kernel
theorem md_F_submit_35 : decode mc_F_submit 35 = .ok (.iload 4, 2) := by decide +kernel
theorem md_F_submit_37 : decode mc_F_submit 37 = .ok (.invokestatic 38, 3) := by decide +kernel
theorem md_F_submit_40 : decode mc_F_submit 40 = .ok (.ifCond .ne 13, 3) := by decide +kernel
theorem md_F_submit_43 : decode mc_F_submit 43 = .ok (.new 27, 3) := by decide +kernel
theorem md_F_submit_46 : decode mc_F_submit 46 = .ok (.dup, 1) := by decide +kernel
theorem md_F_submit_47 : decode mc_F_submit 47 = .ok (.ldc 41, 2) := by decide +kernel
theorem md_F_submit_49 : decode mc_F_submit 49 = .ok (.invokespecial 31, 3) := by decide +kernel
theorem md_F_submit_52 : decode mc_F_submit 52 = .ok (.athrow, 1) := by decide +kernel
theorem md_F_submit_53 : decode mc_F_submit 53 = .ok (.aload_n 0, 1) := by decide +kernel
theorem md_F_submit_54 : decode mc_F_submit 54 = .ok (.iload_n 1, 1) := by decide +kernel
theorem md_F_submit_55 : decode mc_F_submit 55 = .ok (.invokevirtual 43, 3) := by decide +kernel
theorem md_F_submit_58 : decode mc_F_submit 58 = .ok (.iconst (-1), 1) := by decide +kernel
theorem md_F_submit_59 : decode mc_F_submit 59 = .ok (.if_icmp .eq 13, 3) := by decide +kernel
theorem md_F_submit_62 : decode mc_F_submit 62 = .ok (.new 46, 3) := by decide +kernel
theorem md_F_submit_65 : decode mc_F_submit 65 = .ok (.dup, 1) := by decide +kernel
theorem md_F_submit_66 : decode mc_F_submit 66 = .ok (.ldc 48, 2) := by decide +kernel
theorem md_F_submit_68 : decode mc_F_submit 68 = .ok (.invokespecial 50, 3) := by decide +kernel
theorem md_F_submit_71 : decode mc_F_submit 71 = .ok (.athrow, 1) := by decide +kernel
theorem md_F_submit_72 : decode mc_F_submit 72 = .ok (.aload_n 0, 1) := by decide +kernel
theorem md_F_submit_73 : decode mc_F_submit 73 = .ok (.getfield 10, 3) := by decide +kernel
theorem md_F_submit_76 : decode mc_F_submit 76 = .ok (.invokevirtual 51, 3) := by decide +kernel
theorem md_F_submit_79 : decode mc_F_submit 79 = .ok (.bipush 40, 2) := by decide +kernel
theorem md_F_submit_81 : decode mc_F_submit 81 = .ok (.if_icmp .lt 13, 3) := by decide +kernel
theorem md_F_submit_84 : decode mc_F_submit 84 = .ok (.new 46, 3) := by decide +kernel
theorem md_F_submit_87 : decode mc_F_submit 87 = .ok (.dup, 1) := by decide +kernel
theorem md_F_submit_88 : decode mc_F_submit 88 = .ok (.ldc 55, 2) := by decide +kernel
theorem md_F_submit_90 : decode mc_F_submit 90 = .ok (.invokespecial 50, 3) := by decide +kernel
theorem md_F_submit_93 : decode mc_F_submit 93 = .ok (.athrow, 1) := by decide +kernel
theorem md_F_submit_94 : decode mc_F_submit 94 = .ok (.iload_n 2, 1) := by decide +kernel
theorem md_F_submit_95 : decode mc_F_submit 95 = .ok (.invokestatic 23, 3) := by decide +kernel
theorem md_F_submit_98 : decode mc_F_submit 98 = .ok (.istore 5, 2) := by decide +kernel
theorem md_F_submit_100 : decode mc_F_submit 100 = .ok (.new 57, 3) := by decide +kernel
theorem md_F_submit_103 : decode mc_F_submit 103 = .ok (.dup, 1) := by decide +kernel
theorem md_F_submit_104 : decode mc_F_submit 104 = .ok (.iload_n 1, 1) := by decide +kernel
theorem md_F_submit_105 : decode mc_F_submit 105 = .ok (.iload_n 2, 1) := by decide +kernel
theorem md_F_submit_106 : decode mc_F_submit 106 = .ok (.iconst 4, 1) := by decide +kernel
theorem md_F_submit_107 : decode mc_F_submit 107 = .ok (.ishr, 1) := by decide +kernel
theorem md_F_submit_108 : decode mc_F_submit 108 = .ok (.iload_n 2, 1) := by decide +kernel
theorem md_F_submit_109 : decode mc_F_submit 109 = .ok (.iconst 1, 1) := by decide +kernel
theorem md_F_submit_110 : decode mc_F_submit 110 = .ok (.iand, 1) := by decide +kernel
theorem md_F_submit_111 : decode mc_F_submit 111 = .ok (.iload 5, 2) := by decide +kernel
theorem md_F_submit_113 : decode mc_F_submit 113 = .ok (.iconst 5, 1) := by decide +kernel
theorem md_F_submit_114 : decode mc_F_submit 114 = .ok (.if_icmp .ne 7, 3) := by decide +kernel
theorem md_F_submit_117 : decode mc_F_submit 117 = .ok (.iconst 1, 1) := by decide +kernel
theorem md_F_submit_118 : decode mc_F_submit 118 = .ok (.goto 4, 3) := by decide +kernel
theorem md_F_submit_121 : decode mc_F_submit 121 = .ok (.iconst 0, 1) := by decide +kernel
theorem md_F_submit_122 : decode mc_F_submit 122 = .ok (.iload_n 3, 1) := by decide +kernel
theorem md_F_submit_123 : decode mc_F_submit 123 = .ok (.iload 4, 2) := by decide +kernel
theorem md_F_submit_125 : decode mc_F_submit 125 = .ok (.invokespecial 59, 3) := by decide +kernel
theorem md_F_submit_128 : decode mc_F_submit 128 = .ok (.astore 6, 2) := by decide +kernel
theorem md_F_submit_130 : decode mc_F_submit 130 = .ok (.aload_n 0, 1) := by decide +kernel
theorem md_F_submit_131 : decode mc_F_submit 131 = .ok (.aload 6, 2) := by decide +kernel
theorem md_F_submit_133 : decode mc_F_submit 133 = .ok (.iload 5, 2) := by decide +kernel
theorem md_F_submit_135 : decode mc_F_submit 135 = .ok (.invokevirtual 62, 3) := by decide +kernel
theorem md_F_submit_138 : decode mc_F_submit 138 = .ok (.ifCond .eq 13, 3) := by decide +kernel
theorem md_F_submit_141 : decode mc_F_submit 141 = .ok (.new 46, 3) := by decide +kernel
theorem md_F_submit_144 : decode mc_F_submit 144 = .ok (.dup, 1) := by decide +kernel
theorem md_F_submit_145 : decode mc_F_submit 145 = .ok (.ldc 66, 2) := by decide +kernel
theorem md_F_submit_147 : decode mc_F_submit 147 = .ok (.invokespecial 50, 3) := by decide +kernel
theorem md_F_submit_150 : decode mc_F_submit 150 = .ok (.athrow, 1) := by decide +kernel
theorem md_F_submit_151 : decode mc_F_submit 151 = .ok (.aload_n 0, 1) := by decide +kernel
theorem md_F_submit_152 : decode mc_F_submit 152 = .ok (.aload 6, 2) := by decide +kernel
theorem md_F_submit_154 : decode mc_F_submit 154 = .ok (.iload 5, 2) := by decide +kernel
theorem md_F_submit_156 : decode mc_F_submit 156 = .ok (.invokevirtual 68, 3) := by decide +kernel
theorem md_F_submit_159 : decode mc_F_submit 159 = .ok (.ireturn, 1) := by decide +kernel
theorem md_F_kindOf_0 : decode mc_F_kindOf 0 = .ok (.iload_n 0, 1) := by decide +kernel
theorem md_F_kindOf_1 : decode mc_F_kindOf 1 = .ok (.iconst 1, 1) := by decide +kernel
theorem md_F_kindOf_2 : decode mc_F_kindOf 2 = .ok (.ishr, 1) := by decide +kernel
theorem md_F_kindOf_3 : decode mc_F_kindOf 3 = .ok (.bipush 7, 2) := by decide +kernel
theorem md_F_kindOf_5 : decode mc_F_kindOf 5 = .ok (.iand, 1) := by decide +kernel
theorem md_F_kindOf_6 : decode mc_F_kindOf 6 = .ok (.ireturn, 1) := by decide +kernel
theorem md_F_isPrice_0 : decode mc_F_isPrice 0 = .ok (.iload_n 0, 1) := by decide +kernel
theorem md_F_isPrice_1 : decode mc_F_isPrice 1 = .ok (.iconst 1, 1) := by decide +kernel
theorem md_F_isPrice_2 : decode mc_F_isPrice 2 = .ok (.if_icmp .lt 14, 3) := by decide +kernel
theorem md_F_isPrice_5 : decode mc_F_isPrice 5 = .ok (.iload_n 0, 1) := by decide +kernel
theorem md_F_isPrice_6 : decode mc_F_isPrice 6 = .ok (.sipush 10000, 3) := by decide +kernel
theorem md_F_isPrice_9 : decode mc_F_isPrice 9 = .ok (.if_icmp .gt 7, 3) := by decide +kernel
theorem md_F_isPrice_12 : decode mc_F_isPrice 12 = .ok (.iconst 1, 1) := by decide +kernel
theorem md_F_isPrice_13 : decode mc_F_isPrice 13 = .ok (.goto 4, 3) := by decide +kernel
theorem md_F_isPrice_16 : decode mc_F_isPrice 16 = .ok (.iconst 0, 1) := by decide +kernel
theorem md_F_isPrice_17 : decode mc_F_isPrice 17 = .ok (.ireturn, 1) := by decide +kernel
theorem md_F_isQuantity_0 : decode mc_F_isQuantity 0 = .ok (.iload_n 0, 1) := by decide +kernel
theorem md_F_isQuantity_1 : decode mc_F_isQuantity 1 = .ok (.iconst 1, 1) := by decide +kernel
theorem md_F_isQuantity_2 : decode mc_F_isQuantity 2 = .ok (.if_icmp .lt 13, 3) := by decide +kernel
theorem md_F_isQuantity_5 : decode mc_F_isQuantity 5 = .ok (.iload_n 0, 1) := by decide +kernel
theorem md_F_isQuantity_6 : decode mc_F_isQuantity 6 = .ok (.ldc 162, 2) := by decide +kernel
theorem md_F_isQuantity_8 : decode mc_F_isQuantity 8 = .ok (.if_icmp .gt 7, 3) := by decide +kernel
theorem md_F_isQuantity_11 : decode mc_F_isQuantity 11 = .ok (.iconst 1, 1) := by decide +kernel
theorem md_F_isQuantity_12 : decode mc_F_isQuantity 12 = .ok (.goto 4, 3) := by decide +kernel
theorem md_F_isQuantity_15 : decode mc_F_isQuantity 15 = .ok (.iconst 0, 1) := by decide +kernel
theorem md_F_isQuantity_16 : decode mc_F_isQuantity 16 = .ok (.ireturn, 1) := by decide +kernel
theorem md_F_placeOf_0 : decode mc_F_placeOf 0 = .ok (.iconst 0, 1) := by decide +kernel
theorem md_F_placeOf_1 : decode mc_F_placeOf 1 = .ok (.istore_n 2, 1) := by decide +kernel
theorem md_F_placeOf_2 : decode mc_F_placeOf 2 = .ok (.iload_n 2, 1) := by decide +kernel
theorem md_F_placeOf_3 : decode mc_F_placeOf 3 = .ok (.aload_n 0, 1) := by decide +kernel
theorem md_F_placeOf_4 : decode mc_F_placeOf 4 = .ok (.getfield 10, 3) := by decide +kernel
theorem md_F_placeOf_7 : decode mc_F_placeOf 7 = .ok (.invokevirtual 51, 3) := by decide +kernel
theorem md_F_placeOf_10 : decode mc_F_placeOf 10 = .ok (.if_icmp .ge 29, 3) := by decide +kernel
theorem md_F_placeOf_13 : decode mc_F_placeOf 13 = .ok (.aload_n 0, 1) := by decide +kernel
theorem md_F_placeOf_14 : decode mc_F_placeOf 14 = .ok (.getfield 10, 3) := by decide +kernel
theorem md_F_placeOf_17 : decode mc_F_placeOf 17 = .ok (.iload_n 2, 1) := by decide +kernel
theorem md_F_placeOf_18 : decode mc_F_placeOf 18 = .ok (.invokevirtual 85, 3) := by decide +kernel
theorem md_F_placeOf_21 : decode mc_F_placeOf 21 = .ok (.checkcast 57, 3) := by decide +kernel
theorem md_F_placeOf_24 : decode mc_F_placeOf 24 = .ok (.getfield 163, 3) := by decide +kernel
theorem md_F_placeOf_27 : decode mc_F_placeOf 27 = .ok (.iload_n 1, 1) := by decide +kernel
theorem md_F_placeOf_28 : decode mc_F_placeOf 28 = .ok (.if_icmp .ne 5, 3) := by decide +kernel
theorem md_F_placeOf_31 : decode mc_F_placeOf 31 = .ok (.iload_n 2, 1) := by decide +kernel
theorem md_F_placeOf_32 : decode mc_F_placeOf 32 = .ok (.ireturn, 1) := by decide +kernel
theorem md_F_placeOf_33 : decode mc_F_placeOf 33 = .ok (.iinc 2 1, 3) := by decide +kernel
theorem md_F_placeOf_36 : decode mc_F_placeOf 36 = .ok (.goto (-34), 3) := by decide +kernel
theorem md_F_placeOf_39 : decode mc_F_placeOf 39 = .ok (.iconst (-1), 1) := by decide +kernel
theorem md_F_placeOf_40 : decode mc_F_placeOf 40 = .ok (.ireturn, 1) := by decide +kernel
theorem md_O_init_0 : decode mc_O_init 0 = .ok (.aload_n 0, 1) := by decide +kernel
theorem md_O_init_1 : decode mc_O_init 1 = .ok (.invokespecial 3, 3) := by decide +kernel
theorem md_O_init_4 : decode mc_O_init 4 = .ok (.aload_n 0, 1) := by decide +kernel
theorem md_O_init_5 : decode mc_O_init 5 = .ok (.iload_n 1, 1) := by decide +kernel
theorem md_O_init_6 : decode mc_O_init 6 = .ok (.putfield 9, 3) := by decide +kernel
theorem md_O_init_9 : decode mc_O_init 9 = .ok (.aload_n 0, 1) := by decide +kernel
theorem md_O_init_10 : decode mc_O_init 10 = .ok (.iload_n 2, 1) := by decide +kernel
theorem md_O_init_11 : decode mc_O_init 11 = .ok (.putfield 15, 3) := by decide +kernel
theorem md_O_init_14 : decode mc_O_init 14 = .ok (.aload_n 0, 1) := by decide +kernel
theorem md_O_init_15 : decode mc_O_init 15 = .ok (.iload_n 3, 1) := by decide +kernel
theorem md_O_init_16 : decode mc_O_init 16 = .ok (.putfield 18, 3) := by decide +kernel
theorem md_O_init_19 : decode mc_O_init 19 = .ok (.aload_n 0, 1) := by decide +kernel
theorem md_O_init_20 : decode mc_O_init 20 = .ok (.iload 4, 2) := by decide +kernel
theorem md_O_init_22 : decode mc_O_init 22 = .ok (.putfield 21, 3) := by decide +kernel
theorem md_O_init_25 : decode mc_O_init 25 = .ok (.aload_n 0, 1) := by decide +kernel
theorem md_O_init_26 : decode mc_O_init 26 = .ok (.iload 5, 2) := by decide +kernel
theorem md_O_init_28 : decode mc_O_init 28 = .ok (.putfield 25, 3) := by decide +kernel
theorem md_O_init_31 : decode mc_O_init 31 = .ok (.aload_n 0, 1) := by decide +kernel
theorem md_O_init_32 : decode mc_O_init 32 = .ok (.iload 6, 2) := by decide +kernel
theorem md_O_init_34 : decode mc_O_init 34 = .ok (.putfield 28, 3) := by decide +kernel
theorem md_O_init_37 : decode mc_O_init 37 = .ok (.return_, 1) := by decide +kernel
theorem md_F_isRefused_0 : decode mc_F_isRefused 0 = .ok (.iload_n 2, 1) := by decide +kernel
theorem md_F_isRefused_1 : decode mc_F_isRefused 1 = .ok (.iconst 3, 1) := by decide +kernel
theorem md_F_isRefused_2 : decode mc_F_isRefused 2 = .ok (.if_icmp .ne 21, 3) := by decide +kernel
theorem md_F_isRefused_5 : decode mc_F_isRefused 5 = .ok (.aload_n 0, 1) := by decide +kernel
theorem md_F_isRefused_6 : decode mc_F_isRefused 6 = .ok (.aload_n 1, 1) := by decide +kernel
theorem md_F_isRefused_7 : decode mc_F_isRefused 7 = .ok (.invokevirtual 176, 3) := by decide +kernel
theorem md_F_isRefused_10 : decode mc_F_isRefused 10 = .ok (.aload_n 1, 1) := by decide +kernel
theorem md_F_isRefused_11 : decode mc_F_isRefused 11 = .ok (.getfield 81, 3) := by decide +kernel
theorem md_F_isRefused_14 : decode mc_F_isRefused 14 = .ok (.if_icmp .ge 7, 3) := by decide +kernel
theorem md_F_isRefused_17 : decode mc_F_isRefused 17 = .ok (.iconst 1, 1) := by decide +kernel
theorem md_F_isRefused_18 : decode mc_F_isRefused 18 = .ok (.goto 4, 3) := by decide +kernel
theorem md_F_isRefused_21 : decode mc_F_isRefused 21 = .ok (.iconst 0, 1) := by decide +kernel
theorem md_F_isRefused_22 : decode mc_F_isRefused 22 = .ok (.ireturn, 1) := by decide +kernel
theorem md_F_isRefused_23 : decode mc_F_isRefused 23 = .ok (.iload_n 2, 1) := by decide +kernel
theorem md_F_isRefused_24 : decode mc_F_isRefused 24 = .ok (.iconst 4, 1) := by decide +kernel
theorem md_F_isRefused_25 : decode mc_F_isRefused 25 = .ok (.if_icmp .ne 47, 3) := by decide +kernel
theorem md_F_isRefused_28 : decode mc_F_isRefused 28 = .ok (.aload_n 0, 1) := by decide +kernel
theorem md_F_isRefused_29 : decode mc_F_isRefused 29 = .ok (.aload_n 1, 1) := by decide +kernel
theorem md_F_isRefused_30 : decode mc_F_isRefused 30 = .ok (.getfield 125, 3) := by decide +kernel
theorem md_F_isRefused_33 : decode mc_F_isRefused 33 = .ok (.invokestatic 180, 3) := by decide +kernel
theorem md_F_isRefused_36 : decode mc_F_isRefused 36 = .ok (.invokevirtual 183, 3) := by decide +kernel
theorem md_F_isRefused_39 : decode mc_F_isRefused 39 = .ok (.istore_n 3, 1) := by decide +kernel
theorem md_F_isRefused_40 : decode mc_F_isRefused 40 = .ok (.iload_n 3, 1) := by decide +kernel
theorem md_F_isRefused_41 : decode mc_F_isRefused 41 = .ok (.iconst (-1), 1) := by decide +kernel
theorem md_F_isRefused_42 : decode mc_F_isRefused 42 = .ok (.if_icmp .eq 28, 3) := by decide +kernel
theorem md_F_isRefused_45 : decode mc_F_isRefused 45 = .ok (.aload_n 0, 1) := by decide +kernel
theorem md_F_isRefused_46 : decode mc_F_isRefused 46 = .ok (.getfield 10, 3) := by decide +kernel
theorem md_F_isRefused_49 : decode mc_F_isRefused 49 = .ok (.iload_n 3, 1) := by decide +kernel
theorem md_F_isRefused_50 : decode mc_F_isRefused 50 = .ok (.invokevirtual 85, 3) := by decide +kernel
theorem md_F_isRefused_53 : decode mc_F_isRefused 53 = .ok (.checkcast 57, 3) := by decide +kernel
theorem md_F_isRefused_56 : decode mc_F_isRefused 56 = .ok (.aload_n 1, 1) := by decide +kernel
theorem md_F_isRefused_57 : decode mc_F_isRefused 57 = .ok (.getfield 92, 3) := by decide +kernel
theorem md_F_isRefused_60 : decode mc_F_isRefused 60 = .ok (.invokevirtual 186, 3) := by decide +kernel
theorem md_F_isRefused_63 : decode mc_F_isRefused 63 = .ok (.ifCond .eq 7, 3) := by decide +kernel
theorem md_F_isRefused_66 : decode mc_F_isRefused 66 = .ok (.iconst 1, 1) := by decide +kernel
theorem md_F_isRefused_67 : decode mc_F_isRefused 67 = .ok (.goto 4, 3) := by decide +kernel
theorem md_F_isRefused_70 : decode mc_F_isRefused 70 = .ok (.iconst 0, 1) := by decide +kernel
theorem md_F_isRefused_71 : decode mc_F_isRefused 71 = .ok (.ireturn, 1) := by decide +kernel
theorem md_F_isRefused_72 : decode mc_F_isRefused 72 = .ok (.iconst 0, 1) := by decide +kernel
theorem md_F_isRefused_73 : decode mc_F_isRefused 73 = .ok (.ireturn, 1) := by decide +kernel
theorem md_F_leftFor_0 : decode mc_F_leftFor 0 = .ok (.aload_n 1, 1) := by decide +kernel
theorem md_F_leftFor_1 : decode mc_F_leftFor 1 = .ok (.getfield 125, 3) := by decide +kernel
theorem md_F_leftFor_4 : decode mc_F_leftFor 4 = .ok (.invokestatic 180, 3) := by decide +kernel
theorem md_F_leftFor_7 : decode mc_F_leftFor 7 = .ok (.istore_n 2, 1) := by decide +kernel
theorem md_F_leftFor_8 : decode mc_F_leftFor 8 = .ok (.iconst 0, 1) := by decide +kernel
theorem md_F_leftFor_9 : decode mc_F_leftFor 9 = .ok (.istore_n 3, 1) := by decide +kernel
theorem md_F_leftFor_10 : decode mc_F_leftFor 10 = .ok (.iconst 0, 1) := by decide +kernel
theorem md_F_leftFor_11 : decode mc_F_leftFor 11 = .ok (.istore 4, 2) := by decide +kernel
theorem md_F_leftFor_13 : decode mc_F_leftFor 13 = .ok (.iload 4, 2) := by decide +kernel
theorem md_F_leftFor_15 : decode mc_F_leftFor 15 = .ok (.aload_n 0, 1) := by decide +kernel
theorem md_F_leftFor_16 : decode mc_F_leftFor 16 = .ok (.getfield 10, 3) := by decide +kernel
theorem md_F_leftFor_19 : decode mc_F_leftFor 19 = .ok (.invokevirtual 51, 3) := by decide +kernel
theorem md_F_leftFor_22 : decode mc_F_leftFor 22 = .ok (.if_icmp .ge 64, 3) := by decide +kernel
theorem md_F_leftFor_25 : decode mc_F_leftFor 25 = .ok (.aload_n 0, 1) := by decide +kernel
theorem md_F_leftFor_26 : decode mc_F_leftFor 26 = .ok (.getfield 10, 3) := by decide +kernel
theorem md_F_leftFor_29 : decode mc_F_leftFor 29 = .ok (.iload 4, 2) := by decide +kernel
theorem md_F_leftFor_31 : decode mc_F_leftFor 31 = .ok (.invokevirtual 85, 3) := by decide +kernel
theorem md_F_leftFor_34 : decode mc_F_leftFor 34 = .ok (.checkcast 57, 3) := by decide +kernel
theorem md_F_leftFor_37 : decode mc_F_leftFor 37 = .ok (.astore 5, 2) := by decide +kernel
theorem md_F_leftFor_39 : decode mc_F_leftFor 39 = .ok (.aload 5, 2) := by decide +kernel
theorem md_F_leftFor_41 : decode mc_F_leftFor 41 = .ok (.iload_n 2, 1) := by decide +kernel
theorem md_F_leftFor_42 : decode mc_F_leftFor 42 = .ok (.invokevirtual 166, 3) := by decide +kernel
theorem md_F_leftFor_45 : decode mc_F_leftFor 45 = .ok (.ifCond .eq 35, 3) := by decide +kernel
theorem md_F_leftFor_48 : decode mc_F_leftFor 48 = .ok (.aload 5, 2) := by decide +kernel
theorem md_F_leftFor_50 : decode mc_F_leftFor 50 = .ok (.aload_n 1, 1) := by decide +kernel
theorem md_F_leftFor_51 : decode mc_F_leftFor 51 = .ok (.getfield 92, 3) := by decide +kernel
theorem md_F_leftFor_54 : decode mc_F_leftFor 54 = .ok (.invokevirtual 186, 3) := by decide +kernel
theorem md_F_leftFor_57 : decode mc_F_leftFor 57 = .ok (.ifCond .eq 23, 3) := by decide +kernel
theorem md_F_leftFor_60 : decode mc_F_leftFor 60 = .ok (.aload 5, 2) := by decide +kernel
theorem md_F_leftFor_62 : decode mc_F_leftFor 62 = .ok (.getfield 97, 3) := by decide +kernel
theorem md_F_leftFor_65 : decode mc_F_leftFor 65 = .ok (.aload_n 1, 1) := by decide +kernel
theorem md_F_leftFor_66 : decode mc_F_leftFor 66 = .ok (.getfield 97, 3) := by decide +kernel
theorem md_F_leftFor_69 : decode mc_F_leftFor 69 = .ok (.if_icmp .eq 11, 3) := by decide +kernel
theorem md_F_leftFor_72 : decode mc_F_leftFor 72 = .ok (.iload_n 3, 1) := by decide +kernel
theorem md_F_leftFor_73 : decode mc_F_leftFor 73 = .ok (.aload 5, 2) := by decide +kernel
theorem md_F_leftFor_75 : decode mc_F_leftFor 75 = .ok (.getfield 81, 3) := by decide +kernel
theorem md_F_leftFor_78 : decode mc_F_leftFor 78 = .ok (.iadd, 1) := by decide +kernel
theorem md_F_leftFor_79 : decode mc_F_leftFor 79 = .ok (.istore_n 3, 1) := by decide +kernel
theorem md_F_leftFor_80 : decode mc_F_leftFor 80 = .ok (.iinc 4 1, 3) := by decide +kernel
theorem md_F_leftFor_83 : decode mc_F_leftFor 83 = .ok (.goto (-70), 3) := by decide +kernel
theorem md_F_leftFor_86 : decode mc_F_leftFor 86 = .ok (.iload_n 3, 1) := by decide +kernel
theorem md_F_leftFor_87 : decode mc_F_leftFor 87 = .ok (.ireturn, 1) := by decide +kernel
theorem md_F_otherSide_0 : decode mc_F_otherSide 0 = .ok (.iload_n 0, 1) := by decide +kernel
theorem md_F_otherSide_1 : decode mc_F_otherSide 1 = .ok (.ifCond .ne 7, 3) := by decide +kernel
theorem md_F_otherSide_4 : decode mc_F_otherSide 4 = .ok (.iconst 1, 1) := by decide +kernel
theorem md_F_otherSide_5 : decode mc_F_otherSide 5 = .ok (.goto 4, 3) := by decide +kernel
theorem md_F_otherSide_8 : decode mc_F_otherSide 8 = .ok (.iconst 0, 1) := by decide +kernel
theorem md_F_otherSide_9 : decode mc_F_otherSide 9 = .ok (.ireturn, 1) := by decide +kernel
theorem md_O_restsOn_0 : decode mc_O_restsOn 0 = .ok (.aload_n 0, 1) := by decide +kernel
theorem md_O_restsOn_1 : decode mc_O_restsOn 1 = .ok (.getfield 21, 3) := by decide +kernel
theorem md_O_restsOn_4 : decode mc_O_restsOn 4 = .ok (.ifCond .ne 15, 3) := by decide +kernel
theorem md_O_restsOn_7 : decode mc_O_restsOn 7 = .ok (.aload_n 0, 1) := by decide +kernel
theorem md_O_restsOn_8 : decode mc_O_restsOn 8 = .ok (.getfield 18, 3) := by decide +kernel
theorem md_O_restsOn_11 : decode mc_O_restsOn 11 = .ok (.iload_n 1, 1) := by decide +kernel
theorem md_O_restsOn_12 : decode mc_O_restsOn 12 = .ok (.if_icmp .ne 7, 3) := by decide +kernel
theorem md_O_restsOn_15 : decode mc_O_restsOn 15 = .ok (.iconst 1, 1) := by decide +kernel
theorem md_O_restsOn_16 : decode mc_O_restsOn 16 = .ok (.goto 4, 3) := by decide +kernel
theorem md_O_restsOn_19 : decode mc_O_restsOn 19 = .ok (.iconst 0, 1) := by decide +kernel
theorem md_O_restsOn_20 : decode mc_O_restsOn 20 = .ok (.ireturn, 1) := by decide +kernel
theorem md_O_isFitBy_0 : decode mc_O_isFitBy 0 = .ok (.iload_n 1, 1) := by decide +kernel
theorem md_O_isFitBy_1 : decode mc_O_isFitBy 1 = .ok (.ifCond .eq 29, 3) := by decide +kernel
theorem md_O_isFitBy_4 : decode mc_O_isFitBy 4 = .ok (.iload_n 1, 1) := by decide +kernel
theorem md_O_isFitBy_5 : decode mc_O_isFitBy 5 = .ok (.aload_n 0, 1) := by decide +kernel
theorem md_O_isFitBy_6 : decode mc_O_isFitBy 6 = .ok (.getfield 25, 3) := by decide +kernel
theorem md_O_isFitBy_9 : decode mc_O_isFitBy 9 = .ok (.if_icmp .eq 21, 3) := by decide +kernel
theorem md_O_isFitBy_12 : decode mc_O_isFitBy 12 = .ok (.aload_n 0, 1) := by decide +kernel
theorem md_O_isFitBy_13 : decode mc_O_isFitBy 13 = .ok (.getfield 18, 3) := by decide +kernel
theorem md_O_isFitBy_16 : decode mc_O_isFitBy 16 = .ok (.invokestatic 31, 3) := by decide +kernel
theorem md_O_isFitBy_19 : decode mc_O_isFitBy 19 = .ok (.iload_n 1, 1) := by decide +kernel
theorem md_O_isFitBy_20 : decode mc_O_isFitBy 20 = .ok (.aload_n 0, 1) := by decide +kernel
theorem md_O_isFitBy_21 : decode mc_O_isFitBy 21 = .ok (.getfield 25, 3) := by decide +kernel
theorem md_O_isFitBy_24 : decode mc_O_isFitBy 24 = .ok (.invokestatic 35, 3) := by decide +kernel
theorem md_O_isFitBy_27 : decode mc_O_isFitBy 27 = .ok (.ifCond .eq 7, 3) := by decide +kernel
theorem md_O_isFitBy_30 : decode mc_O_isFitBy 30 = .ok (.iconst 1, 1) := by decide +kernel
theorem md_O_isFitBy_31 : decode mc_O_isFitBy 31 = .ok (.goto 4, 3) := by decide +kernel
theorem md_O_isFitBy_34 : decode mc_O_isFitBy 34 = .ok (.iconst 0, 1) := by decide +kernel
theorem md_O_isFitBy_35 : decode mc_O_isFitBy 35 = .ok (.ireturn, 1) := by decide +kernel
theorem md_F_isBetter_0 : decode mc_F_isBetter 0 = .ok (.iload_n 0, 1) := by decide +kernel
theorem md_F_isBetter_1 : decode mc_F_isBetter 1 = .ok (.ifCond .ne 16, 3) := by decide +kernel
theorem md_F_isBetter_4 : decode mc_F_isBetter 4 = .ok (.iload_n 1, 1) := by decide +kernel
theorem md_F_isBetter_5 : decode mc_F_isBetter 5 = .ok (.iload_n 2, 1) := by decide +kernel
theorem md_F_isBetter_6 : decode mc_F_isBetter 6 = .ok (.if_icmp .le 7, 3) := by decide +kernel
theorem md_F_isBetter_9 : decode mc_F_isBetter 9 = .ok (.iconst 1, 1) := by decide +kernel
theorem md_F_isBetter_10 : decode mc_F_isBetter 10 = .ok (.goto 17, 3) := by decide +kernel
theorem md_F_isBetter_13 : decode mc_F_isBetter 13 = .ok (.iconst 0, 1) := by decide +kernel
theorem md_F_isBetter_14 : decode mc_F_isBetter 14 = .ok (.goto 13, 3) := by decide +kernel
theorem md_F_isBetter_17 : decode mc_F_isBetter 17 = .ok (.iload_n 1, 1) := by decide +kernel
theorem md_F_isBetter_18 : decode mc_F_isBetter 18 = .ok (.iload_n 2, 1) := by decide +kernel
theorem md_F_isBetter_19 : decode mc_F_isBetter 19 = .ok (.if_icmp .ge 7, 3) := by decide +kernel
theorem md_F_isBetter_22 : decode mc_F_isBetter 22 = .ok (.iconst 1, 1) := by decide +kernel
theorem md_F_isBetter_23 : decode mc_F_isBetter 23 = .ok (.goto 4, 3) := by decide +kernel
theorem md_F_isBetter_26 : decode mc_F_isBetter 26 = .ok (.iconst 0, 1) := by decide +kernel
theorem md_F_isBetter_27 : decode mc_F_isBetter 27 = .ok (.ireturn, 1) := by decide +kernel
theorem md_F_placeOfFirst_0 : decode mc_F_placeOfFirst 0 = .ok (.iconst (-1), 1) := by decide +kernel
theorem md_F_placeOfFirst_1 : decode mc_F_placeOfFirst 1 = .ok (.istore_n 2, 1) := by decide +kernel
theorem md_F_placeOfFirst_2 : decode mc_F_placeOfFirst 2 = .ok (.iconst 0, 1) := by decide +kernel
theorem md_F_placeOfFirst_3 : decode mc_F_placeOfFirst 3 = .ok (.istore_n 3, 1) := by decide +kernel
theorem md_F_placeOfFirst_4 : decode mc_F_placeOfFirst 4 = .ok (.iconst 0, 1) := by decide +kernel
theorem md_F_placeOfFirst_5 : decode mc_F_placeOfFirst 5 = .ok (.istore 4, 2) := by decide +kernel
theorem md_F_placeOfFirst_7 : decode mc_F_placeOfFirst 7 = .ok (.iload 4, 2) := by decide +kernel
theorem md_F_placeOfFirst_9 : decode mc_F_placeOfFirst 9 = .ok (.aload_n 0, 1) := by decide +kernel
theorem md_F_placeOfFirst_10 : decode mc_F_placeOfFirst 10 = .ok (.getfield 10, 3) := by decide +kernel
theorem md_F_placeOfFirst_13 : decode mc_F_placeOfFirst 13 = .ok (.invokevirtual 51, 3) := by decide +kernel
theorem md_F_placeOfFirst_16 : decode mc_F_placeOfFirst 16 = .ok (.if_icmp .ge 59, 3) := by decide +kernel
theorem md_F_placeOfFirst_19 : decode mc_F_placeOfFirst 19 = .ok (.aload_n 0, 1) := by decide +kernel
theorem md_F_placeOfFirst_20 : decode mc_F_placeOfFirst 20 = .ok (.getfield 10, 3) := by decide +kernel
theorem md_F_placeOfFirst_23 : decode mc_F_placeOfFirst 23 = .ok (.iload 4, 2) := by decide +kernel
theorem md_F_placeOfFirst_25 : decode mc_F_placeOfFirst 25 = .ok (.invokevirtual 85, 3) := by decide +kernel
theorem md_F_placeOfFirst_28 : decode mc_F_placeOfFirst 28 = .ok (.checkcast 57, 3) := by decide +kernel
theorem md_F_placeOfFirst_31 : decode mc_F_placeOfFirst 31 = .ok (.astore 5, 2) := by decide +kernel
theorem md_F_placeOfFirst_33 : decode mc_F_placeOfFirst 33 = .ok (.aload 5, 2) := by decide +kernel
theorem md_F_placeOfFirst_35 : decode mc_F_placeOfFirst 35 = .ok (.iload_n 1, 1) := by decide +kernel
theorem md_F_placeOfFirst_36 : decode mc_F_placeOfFirst 36 = .ok (.invokevirtual 166, 3) := by decide +kernel
theorem md_F_placeOfFirst_39 : decode mc_F_placeOfFirst 39 = .ok (.ifCond .eq 30, 3) := by decide +kernel
theorem md_F_placeOfFirst_42 : decode mc_F_placeOfFirst 42 = .ok (.iload_n 2, 1) := by decide +kernel
theorem md_F_placeOfFirst_43 : decode mc_F_placeOfFirst 43 = .ok (.iconst (-1), 1) := by decide +kernel
theorem md_F_placeOfFirst_44 : decode mc_F_placeOfFirst 44 = .ok (.if_icmp .eq 16, 3) := by decide +kernel
theorem md_F_placeOfFirst_47 : decode mc_F_placeOfFirst 47 = .ok (.iload_n 1, 1) := by decide +kernel
theorem md_F_placeOfFirst_48 : decode mc_F_placeOfFirst 48 = .ok (.aload 5, 2) := by decide +kernel
theorem md_F_placeOfFirst_50 : decode mc_F_placeOfFirst 50 = .ok (.getfield 92, 3) := by decide +kernel
theorem md_F_placeOfFirst_53 : decode mc_F_placeOfFirst 53 = .ok (.iload_n 3, 1) := by decide +kernel
theorem md_F_placeOfFirst_54 : decode mc_F_placeOfFirst 54 = .ok (.invokestatic 169, 3) := by decide +kernel
theorem md_F_placeOfFirst_57 : decode mc_F_placeOfFirst 57 = .ok (.ifCond .eq 12, 3) := by decide +kernel
theorem md_F_placeOfFirst_60 : decode mc_F_placeOfFirst 60 = .ok (.iload 4, 2) := by decide +kernel
theorem md_F_placeOfFirst_62 : decode mc_F_placeOfFirst 62 = .ok (.istore_n 2, 1) := by decide +kernel
theorem md_F_placeOfFirst_63 : decode mc_F_placeOfFirst 63 = .ok (.aload 5, 2) := by decide +kernel
theorem md_F_placeOfFirst_65 : decode mc_F_placeOfFirst 65 = .ok (.getfield 92, 3) := by decide +kernel
theorem md_F_placeOfFirst_68 : decode mc_F_placeOfFirst 68 = .ok (.istore_n 3, 1) := by decide +kernel
theorem md_F_placeOfFirst_69 : decode mc_F_placeOfFirst 69 = .ok (.iinc 4 1, 3) := by decide +kernel
theorem md_F_placeOfFirst_72 : decode mc_F_placeOfFirst 72 = .ok (.goto (-65), 3) := by decide +kernel
theorem md_F_placeOfFirst_75 : decode mc_F_placeOfFirst 75 = .ok (.iload_n 2, 1) := by decide +kernel
theorem md_F_placeOfFirst_76 : decode mc_F_placeOfFirst 76 = .ok (.ireturn, 1) := by decide +kernel
theorem md_F_comeIn_0 : decode mc_F_comeIn 0 = .ok (.aload_n 1, 1) := by decide +kernel
theorem md_F_comeIn_1 : decode mc_F_comeIn 1 = .ok (.getfield 81, 3) := by decide +kernel
theorem md_F_comeIn_4 : decode mc_F_comeIn 4 = .ok (.istore_n 3, 1) := by decide +kernel
theorem md_F_comeIn_5 : decode mc_F_comeIn 5 = .ok (.iload_n 2, 1) := by decide +kernel
theorem md_F_comeIn_6 : decode mc_F_comeIn 6 = .ok (.iconst 4, 1) := by decide +kernel
theorem md_F_comeIn_7 : decode mc_F_comeIn 7 = .ok (.if_icmp .eq 26, 3) := by decide +kernel
theorem md_F_comeIn_10 : decode mc_F_comeIn 10 = .ok (.iload_n 2, 1) := by decide +kernel
theorem md_F_comeIn_11 : decode mc_F_comeIn 11 = .ok (.iconst 5, 1) := by decide +kernel
theorem md_F_comeIn_12 : decode mc_F_comeIn 12 = .ok (.if_icmp .eq 21, 3) := by decide +kernel
theorem md_F_comeIn_15 : decode mc_F_comeIn 15 = .ok (.aload_n 0, 1) := by decide +kernel
theorem md_F_comeIn_16 : decode mc_F_comeIn 16 = .ok (.aload_n 1, 1) := by decide +kernel
theorem md_F_comeIn_17 : decode mc_F_comeIn 17 = .ok (.iload_n 2, 1) := by decide +kernel
theorem md_F_comeIn_18 : decode mc_F_comeIn 18 = .ok (.iconst 1, 1) := by decide +kernel
theorem md_F_comeIn_19 : decode mc_F_comeIn 19 = .ok (.if_icmp .ne 7, 3) := by decide +kernel
theorem md_F_comeIn_22 : decode mc_F_comeIn 22 = .ok (.iconst 0, 1) := by decide +kernel
theorem md_F_comeIn_23 : decode mc_F_comeIn 23 = .ok (.goto 7, 3) := by decide +kernel
theorem md_F_comeIn_26 : decode mc_F_comeIn 26 = .ok (.aload_n 1, 1) := by decide +kernel
theorem md_F_comeIn_27 : decode mc_F_comeIn 27 = .ok (.getfield 92, 3) := by decide +kernel
theorem md_F_comeIn_30 : decode mc_F_comeIn 30 = .ok (.invokevirtual 189, 3) := by decide +kernel
theorem md_F_comeIn_33 : decode mc_F_comeIn 33 = .ok (.iload_n 3, 1) := by decide +kernel
theorem md_F_comeIn_34 : decode mc_F_comeIn 34 = .ok (.aload_n 1, 1) := by decide +kernel
theorem md_F_comeIn_35 : decode mc_F_comeIn 35 = .ok (.getfield 81, 3) := by decide +kernel
theorem md_F_comeIn_38 : decode mc_F_comeIn 38 = .ok (.isub, 1) := by decide +kernel
theorem md_F_comeIn_39 : decode mc_F_comeIn 39 = .ok (.istore 4, 2) := by decide +kernel
theorem md_F_comeIn_41 : decode mc_F_comeIn 41 = .ok (.iload_n 2, 1) := by decide +kernel
theorem md_F_comeIn_42 : decode mc_F_comeIn 42 = .ok (.ifCond .eq 13, 3) := by decide +kernel
theorem md_F_comeIn_45 : decode mc_F_comeIn 45 = .ok (.iload_n 2, 1) := by decide +kernel
theorem md_F_comeIn_46 : decode mc_F_comeIn 46 = .ok (.iconst 4, 1) := by decide +kernel
theorem md_F_comeIn_47 : decode mc_F_comeIn 47 = .ok (.if_icmp .eq 8, 3) := by decide +kernel
theorem md_F_comeIn_50 : decode mc_F_comeIn 50 = .ok (.iload_n 2, 1) := by decide +kernel
theorem md_F_comeIn_51 : decode mc_F_comeIn 51 = .ok (.iconst 5, 1) := by decide +kernel
theorem md_F_comeIn_52 : decode mc_F_comeIn 52 = .ok (.if_icmp .ne 7, 3) := by decide +kernel
theorem md_F_comeIn_55 : decode mc_F_comeIn 55 = .ok (.iconst 1, 1) := by decide +kernel
theorem md_F_comeIn_56 : decode mc_F_comeIn 56 = .ok (.goto 4, 3) := by decide +kernel
theorem md_F_comeIn_59 : decode mc_F_comeIn 59 = .ok (.iconst 0, 1) := by decide +kernel
theorem md_F_comeIn_60 : decode mc_F_comeIn 60 = .ok (.istore 5, 2) := by decide +kernel
theorem md_F_comeIn_62 : decode mc_F_comeIn 62 = .ok (.iload 5, 2) := by decide +kernel
theorem md_F_comeIn_64 : decode mc_F_comeIn 64 = .ok (.ifCond .eq 19, 3) := by decide +kernel
theorem md_F_comeIn_67 : decode mc_F_comeIn 67 = .ok (.aload_n 1, 1) := by decide +kernel
theorem md_F_comeIn_68 : decode mc_F_comeIn 68 = .ok (.getfield 81, 3) := by decide +kernel
theorem md_F_comeIn_71 : decode mc_F_comeIn 71 = .ok (.ifCond .le 12, 3) := by decide +kernel
theorem md_F_comeIn_74 : decode mc_F_comeIn 74 = .ok (.aload_n 0, 1) := by decide +kernel
theorem md_F_comeIn_75 : decode mc_F_comeIn 75 = .ok (.getfield 10, 3) := by decide +kernel
theorem md_F_comeIn_78 : decode mc_F_comeIn 78 = .ok (.aload_n 1, 1) := by decide +kernel
theorem md_F_comeIn_79 : decode mc_F_comeIn 79 = .ok (.invokevirtual 193, 3) := by decide +kernel
theorem md_F_comeIn_82 : decode mc_F_comeIn 82 = .ok (.pop, 1) := by decide +kernel
theorem md_F_comeIn_83 : decode mc_F_comeIn 83 = .ok (.aload_n 0, 1) := by decide +kernel
theorem md_F_comeIn_84 : decode mc_F_comeIn 84 = .ok (.invokevirtual 197, 3) := by decide +kernel
theorem md_F_comeIn_87 : decode mc_F_comeIn 87 = .ok (.iload 4, 2) := by decide +kernel
theorem md_F_comeIn_89 : decode mc_F_comeIn 89 = .ok (.ireturn, 1) := by decide +kernel
theorem md_F_match_0 : decode mc_F_match 0 = .ok (.iconst 0, 1) := by decide +kernel
theorem md_F_match_1 : decode mc_F_match 1 = .ok (.istore_n 3, 1) := by decide +kernel
theorem md_F_match_2 : decode mc_F_match 2 = .ok (.iload_n 3, 1) := by decide +kernel
theorem md_F_match_3 : decode mc_F_match 3 = .ok (.bipush 40, 2) := by decide +kernel
theorem md_F_match_5 : decode mc_F_match 5 = .ok (.if_icmp .gt 62, 3) := by decide +kernel
theorem md_F_match_8 : decode mc_F_match 8 = .ok (.aload_n 1, 1) := by decide +kernel
theorem md_F_match_9 : decode mc_F_match 9 = .ok (.getfield 81, 3) := by decide +kernel
theorem md_F_match_12 : decode mc_F_match 12 = .ok (.ifCond .le 55, 3) := by decide +kernel
theorem md_F_match_15 : decode mc_F_match 15 = .ok (.aload_n 0, 1) := by decide +kernel
theorem md_F_match_16 : decode mc_F_match 16 = .ok (.aload_n 1, 1) := by decide +kernel
theorem md_F_match_17 : decode mc_F_match 17 = .ok (.getfield 125, 3) := by decide +kernel
theorem md_F_match_20 : decode mc_F_match 20 = .ok (.invokestatic 180, 3) := by decide +kernel
theorem md_F_match_23 : decode mc_F_match 23 = .ok (.invokevirtual 183, 3) := by decide +kernel
theorem md_F_match_26 : decode mc_F_match 26 = .ok (.istore 4, 2) := by decide +kernel
theorem md_F_match_28 : decode mc_F_match 28 = .ok (.iload 4, 2) := by decide +kernel
theorem md_F_match_30 : decode mc_F_match 30 = .ok (.iconst (-1), 1) := by decide +kernel
theorem md_F_match_31 : decode mc_F_match 31 = .ok (.if_icmp .eq 22, 3) := by decide +kernel
theorem md_F_match_34 : decode mc_F_match 34 = .ok (.aload_n 0, 1) := by decide +kernel
theorem md_F_match_35 : decode mc_F_match 35 = .ok (.getfield 10, 3) := by decide +kernel
theorem md_F_match_38 : decode mc_F_match 38 = .ok (.iload 4, 2) := by decide +kernel
theorem md_F_match_40 : decode mc_F_match 40 = .ok (.invokevirtual 85, 3) := by decide +kernel
theorem md_F_match_43 : decode mc_F_match 43 = .ok (.checkcast 57, 3) := by decide +kernel
theorem md_F_match_46 : decode mc_F_match 46 = .ok (.iload_n 2, 1) := by decide +kernel
theorem md_F_match_47 : decode mc_F_match 47 = .ok (.invokevirtual 186, 3) := by decide +kernel
theorem md_F_match_50 : decode mc_F_match 50 = .ok (.ifCond .ne 4, 3) := by decide +kernel
theorem md_F_match_53 : decode mc_F_match 53 = .ok (.return_, 1) := by decide +kernel
theorem md_F_match_54 : decode mc_F_match 54 = .ok (.aload_n 0, 1) := by decide +kernel
theorem md_F_match_55 : decode mc_F_match 55 = .ok (.aload_n 1, 1) := by decide +kernel
theorem md_F_match_56 : decode mc_F_match 56 = .ok (.iload 4, 2) := by decide +kernel
theorem md_F_match_58 : decode mc_F_match 58 = .ok (.invokevirtual 203, 3) := by decide +kernel
theorem md_F_match_61 : decode mc_F_match 61 = .ok (.iinc 3 1, 3) := by decide +kernel
theorem md_F_match_64 : decode mc_F_match 64 = .ok (.goto (-62), 3) := by decide +kernel
theorem md_F_match_67 : decode mc_F_match 67 = .ok (.return_, 1) := by decide +kernel
theorem md_F_meet_0 : decode mc_F_meet 0 = .ok (.aload_n 0, 1) := by decide +kernel
theorem md_F_meet_1 : decode mc_F_meet 1 = .ok (.getfield 10, 3) := by decide +kernel
theorem md_F_meet_4 : decode mc_F_meet 4 = .ok (.iload_n 2, 1) := by decide +kernel
theorem md_F_meet_5 : decode mc_F_meet 5 = .ok (.invokevirtual 85, 3) := by decide +kernel
theorem md_F_meet_8 : decode mc_F_meet 8 = .ok (.checkcast 57, 3) := by decide +kernel
theorem md_F_meet_11 : decode mc_F_meet 11 = .ok (.astore_n 3, 1) := by decide +kernel
theorem md_F_meet_12 : decode mc_F_meet 12 = .ok (.aload_n 3, 1) := by decide +kernel
theorem md_F_meet_13 : decode mc_F_meet 13 = .ok (.getfield 97, 3) := by decide +kernel
theorem md_F_meet_16 : decode mc_F_meet 16 = .ok (.aload_n 1, 1) := by decide +kernel
theorem md_F_meet_17 : decode mc_F_meet 17 = .ok (.getfield 97, 3) := by decide +kernel
theorem md_F_meet_20 : decode mc_F_meet 20 = .ok (.if_icmp .ne 23, 3) := by decide +kernel
theorem md_F_meet_23 : decode mc_F_meet 23 = .ok (.aload_n 0, 1) := by decide +kernel
theorem md_F_meet_24 : decode mc_F_meet 24 = .ok (.getfield 10, 3) := by decide +kernel
theorem md_F_meet_27 : decode mc_F_meet 27 = .ok (.iload_n 2, 1) := by decide +kernel
theorem md_F_meet_28 : decode mc_F_meet 28 = .ok (.invokevirtual 77, 3) := by decide +kernel
theorem md_F_meet_31 : decode mc_F_meet 31 = .ok (.pop, 1) := by decide +kernel
theorem md_F_meet_32 : decode mc_F_meet 32 = .ok (.aload_n 0, 1) := by decide +kernel
theorem md_F_meet_33 : decode mc_F_meet 33 = .ok (.dup, 1) := by decide +kernel
theorem md_F_meet_34 : decode mc_F_meet 34 = .ok (.getfield 154, 3) := by decide +kernel
theorem md_F_meet_37 : decode mc_F_meet 37 = .ok (.iconst 1, 1) := by decide +kernel
theorem md_F_meet_38 : decode mc_F_meet 38 = .ok (.iadd, 1) := by decide +kernel
theorem md_F_meet_39 : decode mc_F_meet 39 = .ok (.putfield 154, 3) := by decide +kernel
theorem md_F_meet_42 : decode mc_F_meet 42 = .ok (.return_, 1) := by decide +kernel
theorem md_F_meet_43 : decode mc_F_meet 43 = .ok (.aload_n 1, 1) := by decide +kernel
theorem md_F_meet_44 : decode mc_F_meet 44 = .ok (.getfield 81, 3) := by decide +kernel
theorem md_F_meet_47 : decode mc_F_meet 47 = .ok (.aload_n 3, 1) := by decide +kernel
theorem md_F_meet_48 : decode mc_F_meet 48 = .ok (.getfield 81, 3) := by decide +kernel
theorem md_F_meet_51 : decode mc_F_meet 51 = .ok (.invokestatic 206, 3) := by decide +kernel
theorem md_F_meet_54 : decode mc_F_meet 54 = .ok (.istore 4, 2) := by decide +kernel
theorem md_F_meet_56 : decode mc_F_meet 56 = .ok (.aload_n 1, 1) := by decide +kernel
theorem md_F_meet_57 : decode mc_F_meet 57 = .ok (.dup, 1) := by decide +kernel
theorem md_F_meet_58 : decode mc_F_meet 58 = .ok (.getfield 81, 3) := by decide +kernel
theorem md_F_meet_61 : decode mc_F_meet 61 = .ok (.iload 4, 2) := by decide +kernel
theorem md_F_meet_63 : decode mc_F_meet 63 = .ok (.isub, 1) := by decide +kernel
theorem md_F_meet_64 : decode mc_F_meet 64 = .ok (.putfield 81, 3) := by decide +kernel
theorem md_F_meet_67 : decode mc_F_meet 67 = .ok (.aload_n 3, 1) := by decide +kernel
theorem md_F_meet_68 : decode mc_F_meet 68 = .ok (.dup, 1) := by decide +kernel
theorem md_F_meet_69 : decode mc_F_meet 69 = .ok (.getfield 81, 3) := by decide +kernel
theorem md_F_meet_72 : decode mc_F_meet 72 = .ok (.iload 4, 2) := by decide +kernel
theorem md_F_meet_74 : decode mc_F_meet 74 = .ok (.isub, 1) := by decide +kernel
theorem md_F_meet_75 : decode mc_F_meet 75 = .ok (.putfield 81, 3) := by decide +kernel
theorem md_F_meet_78 : decode mc_F_meet 78 = .ok (.aload_n 0, 1) := by decide +kernel
theorem md_F_meet_79 : decode mc_F_meet 79 = .ok (.getfield 19, 3) := by decide +kernel
theorem md_F_meet_82 : decode mc_F_meet 82 = .ok (.aload_n 1, 1) := by decide +kernel
theorem md_F_meet_83 : decode mc_F_meet 83 = .ok (.getfield 163, 3) := by decide +kernel
theorem md_F_meet_86 : decode mc_F_meet 86 = .ok (.aload_n 3, 1) := by decide +kernel
theorem md_F_meet_87 : decode mc_F_meet 87 = .ok (.getfield 163, 3) := by decide +kernel
theorem md_F_meet_90 : decode mc_F_meet 90 = .ok (.aload_n 3, 1) := by decide +kernel
theorem md_F_meet_91 : decode mc_F_meet 91 = .ok (.getfield 92, 3) := by decide +kernel
theorem md_F_meet_94 : decode mc_F_meet 94 = .ok (.iload 4, 2) := by decide +kernel
theorem md_F_meet_96 : decode mc_F_meet 96 = .ok (.invokevirtual 211, 3) := by decide +kernel
theorem md_F_meet_99 : decode mc_F_meet 99 = .ok (.aload_n 3, 1) := by decide +kernel
theorem md_F_meet_100 : decode mc_F_meet 100 = .ok (.getfield 81, 3) := by decide +kernel
theorem md_F_meet_103 : decode mc_F_meet 103 = .ok (.ifCond .ne 12, 3) := by decide +kernel
theorem md_F_meet_106 : decode mc_F_meet 106 = .ok (.aload_n 0, 1) := by decide +kernel
theorem md_F_meet_107 : decode mc_F_meet 107 = .ok (.getfield 10, 3) := by decide +kernel
theorem md_F_meet_110 : decode mc_F_meet 110 = .ok (.iload_n 2, 1) := by decide +kernel
theorem md_F_meet_111 : decode mc_F_meet 111 = .ok (.invokevirtual 77, 3) := by decide +kernel
theorem md_F_meet_114 : decode mc_F_meet 114 = .ok (.pop, 1) := by decide +kernel
theorem md_F_meet_115 : decode mc_F_meet 115 = .ok (.return_, 1) := by decide +kernel
theorem md_T_write_0 : decode mc_T_write 0 = .ok (.aload_n 0, 1) := by decide +kernel
theorem md_T_write_1 : decode mc_T_write 1 = .ok (.getfield 13, 3) := by decide +kernel
theorem md_T_write_4 : decode mc_T_write 4 = .ok (.aload_n 0, 1) := by decide +kernel
theorem md_T_write_5 : decode mc_T_write 5 = .ok (.getfield 20, 3) := by decide +kernel
theorem md_T_write_8 : decode mc_T_write 8 = .ok (.bipush 32, 2) := by decide +kernel
theorem md_T_write_10 : decode mc_T_write 10 = .ok (.invokestatic 23, 3) := by decide +kernel
theorem md_T_write_13 : decode mc_T_write 13 = .ok (.aaload, 1) := by decide +kernel
theorem md_T_write_14 : decode mc_T_write 14 = .ok (.astore 5, 2) := by decide +kernel
theorem md_T_write_16 : decode mc_T_write 16 = .ok (.aload 5, 2) := by decide +kernel
theorem md_T_write_18 : decode mc_T_write 18 = .ok (.iconst 0, 1) := by decide +kernel
theorem md_T_write_19 : decode mc_T_write 19 = .ok (.iload_n 1, 1) := by decide +kernel
theorem md_T_write_20 : decode mc_T_write 20 = .ok (.iastore, 1) := by decide +kernel
theorem md_T_write_21 : decode mc_T_write 21 = .ok (.aload 5, 2) := by decide +kernel
theorem md_T_write_23 : decode mc_T_write 23 = .ok (.iconst 1, 1) := by decide +kernel
theorem md_T_write_24 : decode mc_T_write 24 = .ok (.iload_n 2, 1) := by decide +kernel
theorem md_T_write_25 : decode mc_T_write 25 = .ok (.iastore, 1) := by decide +kernel
theorem md_T_write_26 : decode mc_T_write 26 = .ok (.aload 5, 2) := by decide +kernel
theorem md_T_write_28 : decode mc_T_write 28 = .ok (.iconst 2, 1) := by decide +kernel
theorem md_T_write_29 : decode mc_T_write 29 = .ok (.iload_n 3, 1) := by decide +kernel
theorem md_T_write_30 : decode mc_T_write 30 = .ok (.iastore, 1) := by decide +kernel
theorem md_T_write_31 : decode mc_T_write 31 = .ok (.aload 5, 2) := by decide +kernel
theorem md_T_write_33 : decode mc_T_write 33 = .ok (.iconst 3, 1) := by decide +kernel
theorem md_T_write_34 : decode mc_T_write 34 = .ok (.iload 4, 2) := by decide +kernel
theorem md_T_write_36 : decode mc_T_write 36 = .ok (.iastore, 1) := by decide +kernel
theorem md_T_write_37 : decode mc_T_write 37 = .ok (.aload_n 0, 1) := by decide +kernel
theorem md_T_write_38 : decode mc_T_write 38 = .ok (.dup, 1) := by decide +kernel
theorem md_T_write_39 : decode mc_T_write 39 = .ok (.getfield 20, 3) := by decide +kernel
theorem md_T_write_42 : decode mc_T_write 42 = .ok (.iconst 1, 1) := by decide +kernel
theorem md_T_write_43 : decode mc_T_write 43 = .ok (.iadd, 1) := by decide +kernel
theorem md_T_write_44 : decode mc_T_write 44 = .ok (.putfield 20, 3) := by decide +kernel
theorem md_T_write_47 : decode mc_T_write 47 = .ok (.aload_n 0, 1) := by decide +kernel
theorem md_T_write_48 : decode mc_T_write 48 = .ok (.iload_n 3, 1) := by decide +kernel
theorem md_T_write_49 : decode mc_T_write 49 = .ok (.putfield 16, 3) := by decide +kernel
theorem md_T_write_52 : decode mc_T_write 52 = .ok (.aload_n 0, 1) := by decide +kernel
theorem md_T_write_53 : decode mc_T_write 53 = .ok (.dup, 1) := by decide +kernel
theorem md_T_write_54 : decode mc_T_write 54 = .ok (.getfield 29, 3) := by decide +kernel
theorem md_T_write_57 : decode mc_T_write 57 = .ok (.iload 4, 2) := by decide +kernel
theorem md_T_write_59 : decode mc_T_write 59 = .ok (.iadd, 1) := by decide +kernel
theorem md_T_write_60 : decode mc_T_write 60 = .ok (.putfield 29, 3) := by decide +kernel
theorem md_T_write_63 : decode mc_T_write 63 = .ok (.aload_n 0, 1) := by decide +kernel
theorem md_T_write_64 : decode mc_T_write 64 = .ok (.dup, 1) := by decide +kernel
theorem md_T_write_65 : decode mc_T_write 65 = .ok (.getfield 32, 3) := by decide +kernel
theorem md_T_write_68 : decode mc_T_write 68 = .ok (.iload_n 3, 1) := by decide +kernel
theorem md_T_write_69 : decode mc_T_write 69 = .ok (.i2l, 1) := by decide +kernel
theorem md_T_write_70 : decode mc_T_write 70 = .ok (.iload 4, 2) := by decide +kernel
theorem md_T_write_72 : decode mc_T_write 72 = .ok (.i2l, 1) := by decide +kernel
theorem md_T_write_73 : decode mc_T_write 73 = .ok (.lmul, 1) := by decide +kernel
theorem md_T_write_74 : decode mc_T_write 74 = .ok (.ladd, 1) := by decide +kernel
theorem md_T_write_75 : decode mc_T_write 75 = .ok (.putfield 32, 3) := by decide +kernel
theorem md_T_write_78 : decode mc_T_write 78 = .ok (.return_, 1) := by decide +kernel
theorem md_F_matchDueStops_0 : decode mc_F_matchDueStops 0 = .ok (.iconst 0, 1) := by decide +kernel
theorem md_F_matchDueStops_1 : decode mc_F_matchDueStops 1 = .ok (.istore_n 1, 1) := by decide +kernel
theorem md_F_matchDueStops_2 : decode mc_F_matchDueStops 2 = .ok (.iload_n 1, 1) := by decide +kernel
theorem md_F_matchDueStops_3 : decode mc_F_matchDueStops 3 = .ok (.bipush 40, 2) := by decide +kernel
theorem md_F_matchDueStops_5 : decode mc_F_matchDueStops 5 = .ok (.if_icmp .ge 46, 3) := by decide +kernel
theorem md_F_matchDueStops_8 : decode mc_F_matchDueStops 8 = .ok (.aload_n 0, 1) := by decide +kernel
theorem md_F_matchDueStops_9 : decode mc_F_matchDueStops 9 = .ok (.invokevirtual 200, 3) := by decide +kernel
theorem md_F_matchDueStops_12 : decode mc_F_matchDueStops 12 = .ok (.istore_n 2, 1) := by decide +kernel
theorem md_F_matchDueStops_13 : decode mc_F_matchDueStops 13 = .ok (.iload_n 2, 1) := by decide +kernel
theorem md_F_matchDueStops_14 : decode mc_F_matchDueStops 14 = .ok (.iconst (-1), 1) := by decide +kernel
theorem md_F_matchDueStops_15 : decode mc_F_matchDueStops 15 = .ok (.if_icmp .ne 4, 3) := by decide +kernel
theorem md_F_matchDueStops_18 : decode mc_F_matchDueStops 18 = .ok (.return_, 1) := by decide +kernel
theorem md_F_matchDueStops_19 : decode mc_F_matchDueStops 19 = .ok (.aload_n 0, 1) := by decide +kernel
theorem md_F_matchDueStops_20 : decode mc_F_matchDueStops 20 = .ok (.dup, 1) := by decide +kernel
theorem md_F_matchDueStops_21 : decode mc_F_matchDueStops 21 = .ok (.getfield 151, 3) := by decide +kernel
theorem md_F_matchDueStops_24 : decode mc_F_matchDueStops 24 = .ok (.iconst 1, 1) := by decide +kernel
theorem md_F_matchDueStops_25 : decode mc_F_matchDueStops 25 = .ok (.iadd, 1) := by decide +kernel
theorem md_F_matchDueStops_26 : decode mc_F_matchDueStops 26 = .ok (.putfield 151, 3) := by decide +kernel
theorem md_F_matchDueStops_29 : decode mc_F_matchDueStops 29 = .ok (.aload_n 0, 1) := by decide +kernel
theorem md_F_matchDueStops_30 : decode mc_F_matchDueStops 30 = .ok (.aload_n 0, 1) := by decide +kernel
theorem md_F_matchDueStops_31 : decode mc_F_matchDueStops 31 = .ok (.getfield 10, 3) := by decide +kernel
theorem md_F_matchDueStops_34 : decode mc_F_matchDueStops 34 = .ok (.iload_n 2, 1) := by decide +kernel
theorem md_F_matchDueStops_35 : decode mc_F_matchDueStops 35 = .ok (.invokevirtual 77, 3) := by decide +kernel
theorem md_F_matchDueStops_38 : decode mc_F_matchDueStops 38 = .ok (.checkcast 57, 3) := by decide +kernel
theorem md_F_matchDueStops_41 : decode mc_F_matchDueStops 41 = .ok (.iconst 0, 1) := by decide +kernel
theorem md_F_matchDueStops_42 : decode mc_F_matchDueStops 42 = .ok (.invokevirtual 189, 3) := by decide +kernel
theorem md_F_matchDueStops_45 : decode mc_F_matchDueStops 45 = .ok (.iinc 1 1, 3) := by decide +kernel
theorem md_F_matchDueStops_48 : decode mc_F_matchDueStops 48 = .ok (.goto (-46), 3) := by decide +kernel
theorem md_F_matchDueStops_51 : decode mc_F_matchDueStops 51 = .ok (.return_, 1) := by decide +kernel
theorem md_F_placeOfDue_0 : decode mc_F_placeOfDue 0 = .ok (.iconst 0, 1) := by decide +kernel
theorem md_F_placeOfDue_1 : decode mc_F_placeOfDue 1 = .ok (.istore_n 1, 1) := by decide +kernel
theorem md_F_placeOfDue_2 : decode mc_F_placeOfDue 2 = .ok (.iload_n 1, 1) := by decide +kernel
theorem md_F_placeOfDue_3 : decode mc_F_placeOfDue 3 = .ok (.aload_n 0, 1) := by decide +kernel
theorem md_F_placeOfDue_4 : decode mc_F_placeOfDue 4 = .ok (.getfield 10, 3) := by decide +kernel
theorem md_F_placeOfDue_7 : decode mc_F_placeOfDue 7 = .ok (.invokevirtual 51, 3) := by decide +kernel
theorem md_F_placeOfDue_10 : decode mc_F_placeOfDue 10 = .ok (.if_icmp .ge 35, 3) := by decide +kernel
theorem md_F_placeOfDue_13 : decode mc_F_placeOfDue 13 = .ok (.aload_n 0, 1) := by decide +kernel
theorem md_F_placeOfDue_14 : decode mc_F_placeOfDue 14 = .ok (.getfield 10, 3) := by decide +kernel
theorem md_F_placeOfDue_17 : decode mc_F_placeOfDue 17 = .ok (.iload_n 1, 1) := by decide +kernel
theorem md_F_placeOfDue_18 : decode mc_F_placeOfDue 18 = .ok (.invokevirtual 85, 3) := by decide +kernel
theorem md_F_placeOfDue_21 : decode mc_F_placeOfDue 21 = .ok (.checkcast 57, 3) := by decide +kernel
theorem md_F_placeOfDue_24 : decode mc_F_placeOfDue 24 = .ok (.aload_n 0, 1) := by decide +kernel
theorem md_F_placeOfDue_25 : decode mc_F_placeOfDue 25 = .ok (.getfield 19, 3) := by decide +kernel
theorem md_F_placeOfDue_28 : decode mc_F_placeOfDue 28 = .ok (.getfield 141, 3) := by decide +kernel
theorem md_F_placeOfDue_31 : decode mc_F_placeOfDue 31 = .ok (.invokevirtual 173, 3) := by decide +kernel
theorem md_F_placeOfDue_34 : decode mc_F_placeOfDue 34 = .ok (.ifCond .eq 5, 3) := by decide +kernel
theorem md_F_placeOfDue_37 : decode mc_F_placeOfDue 37 = .ok (.iload_n 1, 1) := by decide +kernel
theorem md_F_placeOfDue_38 : decode mc_F_placeOfDue 38 = .ok (.ireturn, 1) := by decide +kernel
theorem md_F_placeOfDue_39 : decode mc_F_placeOfDue 39 = .ok (.iinc 1 1, 3) := by decide +kernel
theorem md_F_placeOfDue_42 : decode mc_F_placeOfDue 42 = .ok (.goto (-40), 3) := by decide +kernel
theorem md_F_placeOfDue_45 : decode mc_F_placeOfDue 45 = .ok (.iconst (-1), 1) := by decide +kernel
theorem md_F_placeOfDue_46 : decode mc_F_placeOfDue 46 = .ok (.ireturn, 1) := by decide +kernel
theorem md_O_isDueAt_0 : decode mc_O_isDueAt 0 = .ok (.aload_n 0, 1) := by decide +kernel
theorem md_O_isDueAt_1 : decode mc_O_isDueAt 1 = .ok (.getfield 21, 3) := by decide +kernel
theorem md_O_isDueAt_4 : decode mc_O_isDueAt 4 = .ok (.ifCond .eq 7, 3) := by decide +kernel
theorem md_O_isDueAt_7 : decode mc_O_isDueAt 7 = .ok (.iload_n 1, 1) := by decide +kernel
theorem md_O_isDueAt_8 : decode mc_O_isDueAt 8 = .ok (.ifCond .ne 5, 3) := by decide +kernel
theorem md_O_isDueAt_11 : decode mc_O_isDueAt 11 = .ok (.iconst 0, 1) := by decide +kernel
theorem md_O_isDueAt_12 : decode mc_O_isDueAt 12 = .ok (.ireturn, 1) := by decide +kernel
theorem md_O_isDueAt_13 : decode mc_O_isDueAt 13 = .ok (.aload_n 0, 1) := by decide +kernel
theorem md_O_isDueAt_14 : decode mc_O_isDueAt 14 = .ok (.getfield 18, 3) := by decide +kernel
theorem md_O_isDueAt_17 : decode mc_O_isDueAt 17 = .ok (.ifCond .ne 19, 3) := by decide +kernel
theorem md_O_isDueAt_20 : decode mc_O_isDueAt 20 = .ok (.iload_n 1, 1) := by decide +kernel
theorem md_O_isDueAt_21 : decode mc_O_isDueAt 21 = .ok (.aload_n 0, 1) := by decide +kernel
theorem md_O_isDueAt_22 : decode mc_O_isDueAt 22 = .ok (.getfield 25, 3) := by decide +kernel
theorem md_O_isDueAt_25 : decode mc_O_isDueAt 25 = .ok (.if_icmp .lt 7, 3) := by decide +kernel
theorem md_O_isDueAt_28 : decode mc_O_isDueAt 28 = .ok (.iconst 1, 1) := by decide +kernel
theorem md_O_isDueAt_29 : decode mc_O_isDueAt 29 = .ok (.goto 20, 3) := by decide +kernel
theorem md_O_isDueAt_32 : decode mc_O_isDueAt 32 = .ok (.iconst 0, 1) := by decide +kernel
theorem md_O_isDueAt_33 : decode mc_O_isDueAt 33 = .ok (.goto 16, 3) := by decide +kernel
theorem md_O_isDueAt_36 : decode mc_O_isDueAt 36 = .ok (.iload_n 1, 1) := by decide +kernel
theorem md_O_isDueAt_37 : decode mc_O_isDueAt 37 = .ok (.aload_n 0, 1) := by decide +kernel
theorem md_O_isDueAt_38 : decode mc_O_isDueAt 38 = .ok (.getfield 25, 3) := by decide +kernel
theorem md_O_isDueAt_41 : decode mc_O_isDueAt 41 = .ok (.if_icmp .gt 7, 3) := by decide +kernel
theorem md_O_isDueAt_44 : decode mc_O_isDueAt 44 = .ok (.iconst 1, 1) := by decide +kernel
theorem md_O_isDueAt_45 : decode mc_O_isDueAt 45 = .ok (.goto 4, 3) := by decide +kernel
theorem md_O_isDueAt_48 : decode mc_O_isDueAt 48 = .ok (.iconst 0, 1) := by decide +kernel
theorem md_O_isDueAt_49 : decode mc_O_isDueAt 49 = .ok (.ireturn, 1) := by decide +kernel
theorem md_F_cancel_0 : decode mc_F_cancel 0 = .ok (.aload_n 0, 1) := by decide +kernel
theorem md_F_cancel_1 : decode mc_F_cancel 1 = .ok (.iload_n 1, 1) := by decide +kernel
theorem md_F_cancel_2 : decode mc_F_cancel 2 = .ok (.invokevirtual 43, 3) := by decide +kernel
theorem md_F_cancel_5 : decode mc_F_cancel 5 = .ok (.istore_n 2, 1) := by decide +kernel
theorem md_F_cancel_6 : decode mc_F_cancel 6 = .ok (.iload_n 2, 1) := by decide +kernel
theorem md_F_cancel_7 : decode mc_F_cancel 7 = .ok (.iconst (-1), 1) := by decide +kernel
theorem md_F_cancel_8 : decode mc_F_cancel 8 = .ok (.if_icmp .ne 13, 3) := by decide +kernel
theorem md_F_cancel_11 : decode mc_F_cancel 11 = .ok (.new 72, 3) := by decide +kernel
theorem md_F_cancel_14 : decode mc_F_cancel 14 = .ok (.dup, 1) := by decide +kernel
theorem md_F_cancel_15 : decode mc_F_cancel 15 = .ok (.ldc 74, 2) := by decide +kernel
theorem md_F_cancel_17 : decode mc_F_cancel 17 = .ok (.invokespecial 76, 3) := by decide +kernel
theorem md_F_cancel_20 : decode mc_F_cancel 20 = .ok (.athrow, 1) := by decide +kernel
theorem md_F_cancel_21 : decode mc_F_cancel 21 = .ok (.aload_n 0, 1) := by decide +kernel
theorem md_F_cancel_22 : decode mc_F_cancel 22 = .ok (.getfield 10, 3) := by decide +kernel
theorem md_F_cancel_25 : decode mc_F_cancel 25 = .ok (.iload_n 2, 1) := by decide +kernel
theorem md_F_cancel_26 : decode mc_F_cancel 26 = .ok (.invokevirtual 77, 3) := by decide +kernel
theorem md_F_cancel_29 : decode mc_F_cancel 29 = .ok (.checkcast 57, 3) := by decide +kernel
theorem md_F_cancel_32 : decode mc_F_cancel 32 = .ok (.getfield 81, 3) := by decide +kernel
theorem md_F_cancel_35 : decode mc_F_cancel 35 = .ok (.ireturn, 1) := by decide +kernel
theorem md_F_amend_0 : decode mc_F_amend 0 = .ok (.iload_n 2, 1) := by decide +kernel
theorem md_F_amend_1 : decode mc_F_amend 1 = .ok (.invokestatic 34, 3) := by decide +kernel
theorem md_F_amend_4 : decode mc_F_amend 4 = .ok (.ifCond .eq 10, 3) := by decide +kernel
theorem md_F_amend_7 : decode mc_F_amend 7 = .ok (.iload_n 3, 1) := by decide +kernel
theorem md_F_amend_8 : decode mc_F_amend 8 = .ok (.invokestatic 38, 3) := by decide +kernel
theorem md_F_amend_11 : decode mc_F_amend 11 = .ok (.ifCond .ne 13, 3) := by decide +kernel
theorem md_F_amend_14 : decode mc_F_amend 14 = .ok (.new 27, 3) := by decide +kernel
theorem md_F_amend_17 : decode mc_F_amend 17 = .ok (.dup, 1) := by decide +kernel
theorem md_F_amend_18 : decode mc_F_amend 18 = .ok (.ldc 41, 2) := by decide +kernel
theorem md_F_amend_20 : decode mc_F_amend 20 = .ok (.invokespecial 31, 3) := by decide +kernel
theorem md_F_amend_23 : decode mc_F_amend 23 = .ok (.athrow, 1) := by decide +kernel
theorem md_F_amend_24 : decode mc_F_amend 24 = .ok (.aload_n 0, 1) := by decide +kernel
theorem md_F_amend_25 : decode mc_F_amend 25 = .ok (.iload_n 1, 1) := by decide +kernel
theorem md_F_amend_26 : decode mc_F_amend 26 = .ok (.invokevirtual 43, 3) := by decide +kernel
theorem md_F_amend_29 : decode mc_F_amend 29 = .ok (.istore 4, 2) := by decide +kernel
theorem md_F_amend_31 : decode mc_F_amend 31 = .ok (.iload 4, 2) := by decide +kernel
theorem md_F_amend_33 : decode mc_F_amend 33 = .ok (.iconst (-1), 1) := by decide +kernel
theorem md_F_amend_34 : decode mc_F_amend 34 = .ok (.if_icmp .ne 13, 3) := by decide +kernel
theorem md_F_amend_37 : decode mc_F_amend 37 = .ok (.new 72, 3) := by decide +kernel
theorem md_F_amend_40 : decode mc_F_amend 40 = .ok (.dup, 1) := by decide +kernel
theorem md_F_amend_41 : decode mc_F_amend 41 = .ok (.ldc 74, 2) := by decide +kernel
theorem md_F_amend_43 : decode mc_F_amend 43 = .ok (.invokespecial 76, 3) := by decide +kernel
theorem md_F_amend_46 : decode mc_F_amend 46 = .ok (.athrow, 1) := by decide +kernel
theorem md_F_amend_47 : decode mc_F_amend 47 = .ok (.aload_n 0, 1) := by decide +kernel
theorem md_F_amend_48 : decode mc_F_amend 48 = .ok (.getfield 10, 3) := by decide +kernel
theorem md_F_amend_51 : decode mc_F_amend 51 = .ok (.iload 4, 2) := by decide +kernel
theorem md_F_amend_53 : decode mc_F_amend 53 = .ok (.invokevirtual 85, 3) := by decide +kernel
theorem md_F_amend_56 : decode mc_F_amend 56 = .ok (.checkcast 57, 3) := by decide +kernel
theorem md_F_amend_59 : decode mc_F_amend 59 = .ok (.astore 5, 2) := by decide +kernel
theorem md_F_amend_61 : decode mc_F_amend 61 = .ok (.aload 5, 2) := by decide +kernel
theorem md_F_amend_63 : decode mc_F_amend 63 = .ok (.getfield 88, 3) := by decide +kernel
theorem md_F_amend_66 : decode mc_F_amend 66 = .ok (.ifCond .ne 29, 3) := by decide +kernel
theorem md_F_amend_69 : decode mc_F_amend 69 = .ok (.iload_n 2, 1) := by decide +kernel
theorem md_F_amend_70 : decode mc_F_amend 70 = .ok (.aload 5, 2) := by decide +kernel
theorem md_F_amend_72 : decode mc_F_amend 72 = .ok (.getfield 92, 3) := by decide +kernel
theorem md_F_amend_75 : decode mc_F_amend 75 = .ok (.if_icmp .ne 20, 3) := by decide +kernel
theorem md_F_amend_78 : decode mc_F_amend 78 = .ok (.iload_n 3, 1) := by decide +kernel
theorem md_F_amend_79 : decode mc_F_amend 79 = .ok (.aload 5, 2) := by decide +kernel
theorem md_F_amend_81 : decode mc_F_amend 81 = .ok (.getfield 81, 3) := by decide +kernel
theorem md_F_amend_84 : decode mc_F_amend 84 = .ok (.if_icmp .gt 11, 3) := by decide +kernel
theorem md_F_amend_87 : decode mc_F_amend 87 = .ok (.aload 5, 2) := by decide +kernel
theorem md_F_amend_89 : decode mc_F_amend 89 = .ok (.iload_n 3, 1) := by decide +kernel
theorem md_F_amend_90 : decode mc_F_amend 90 = .ok (.putfield 81, 3) := by decide +kernel
theorem md_F_amend_93 : decode mc_F_amend 93 = .ok (.iconst 0, 1) := by decide +kernel
theorem md_F_amend_94 : decode mc_F_amend 94 = .ok (.ireturn, 1) := by decide +kernel
theorem md_F_amend_95 : decode mc_F_amend 95 = .ok (.aload_n 0, 1) := by decide +kernel
theorem md_F_amend_96 : decode mc_F_amend 96 = .ok (.getfield 10, 3) := by decide +kernel
theorem md_F_amend_99 : decode mc_F_amend 99 = .ok (.iload 4, 2) := by decide +kernel
theorem md_F_amend_101 : decode mc_F_amend 101 = .ok (.invokevirtual 77, 3) := by decide +kernel
theorem md_F_amend_104 : decode mc_F_amend 104 = .ok (.pop, 1) := by decide +kernel
theorem md_F_amend_105 : decode mc_F_amend 105 = .ok (.aload 5, 2) := by decide +kernel
theorem md_F_amend_107 : decode mc_F_amend 107 = .ok (.iload_n 2, 1) := by decide +kernel
theorem md_F_amend_108 : decode mc_F_amend 108 = .ok (.putfield 92, 3) := by decide +kernel
theorem md_F_amend_111 : decode mc_F_amend 111 = .ok (.aload 5, 2) := by decide +kernel
theorem md_F_amend_113 : decode mc_F_amend 113 = .ok (.iload_n 3, 1) := by decide +kernel
theorem md_F_amend_114 : decode mc_F_amend 114 = .ok (.putfield 81, 3) := by decide +kernel
theorem md_F_amend_117 : decode mc_F_amend 117 = .ok (.aload_n 0, 1) := by decide +kernel
theorem md_F_amend_118 : decode mc_F_amend 118 = .ok (.aload 5, 2) := by decide +kernel
theorem md_F_amend_120 : decode mc_F_amend 120 = .ok (.aload 5, 2) := by decide +kernel
theorem md_F_amend_122 : decode mc_F_amend 122 = .ok (.getfield 88, 3) := by decide +kernel
theorem md_F_amend_125 : decode mc_F_amend 125 = .ok (.ifCond .eq 7, 3) := by decide +kernel
theorem md_F_amend_128 : decode mc_F_amend 128 = .ok (.iconst 5, 1) := by decide +kernel
theorem md_F_amend_129 : decode mc_F_amend 129 = .ok (.goto 4, 3) := by decide +kernel
theorem md_F_amend_132 : decode mc_F_amend 132 = .ok (.iconst 0, 1) := by decide +kernel
theorem md_F_amend_133 : decode mc_F_amend 133 = .ok (.invokevirtual 68, 3) := by decide +kernel
theorem md_F_amend_136 : decode mc_F_amend 136 = .ok (.ireturn, 1) := by decide +kernel
theorem md_F_withdraw_0 : decode mc_F_withdraw 0 = .ok (.iload_n 1, 1) := by decide +kernel
theorem md_F_withdraw_1 : decode mc_F_withdraw 1 = .ok (.ifCond .lt 9, 3) := by decide +kernel
theorem md_F_withdraw_4 : decode mc_F_withdraw 4 = .ok (.iload_n 1, 1) := by decide +kernel
theorem md_F_withdraw_5 : decode mc_F_withdraw 5 = .ok (.bipush 7, 2) := by decide +kernel
theorem md_F_withdraw_7 : decode mc_F_withdraw 7 = .ok (.if_icmp .le 13, 3) := by decide +kernel
theorem md_F_withdraw_10 : decode mc_F_withdraw 10 = .ok (.new 27, 3) := by decide +kernel
theorem md_F_withdraw_13 : decode mc_F_withdraw 13 = .ok (.dup, 1) := by decide +kernel
theorem md_F_withdraw_14 : decode mc_F_withdraw 14 = .ok (.ldc 95, 2) := by decide +kernel
theorem md_F_withdraw_16 : decode mc_F_withdraw 16 = .ok (.invokespecial 31, 3) := by decide +kernel
theorem md_F_withdraw_19 : decode mc_F_withdraw 19 = .ok (.athrow, 1) := by decide +kernel
theorem md_F_withdraw_20 : decode mc_F_withdraw 20 = .ok (.aload_n 0, 1) := by decide +kernel
theorem md_F_withdraw_21 : decode mc_F_withdraw 21 = .ok (.getfield 10, 3) := by decide +kernel
theorem md_F_withdraw_24 : decode mc_F_withdraw 24 = .ok (.invokevirtual 51, 3) := by decide +kernel
theorem md_F_withdraw_27 : decode mc_F_withdraw 27 = .ok (.istore_n 2, 1) := by decide +kernel
theorem md_F_withdraw_28 : decode mc_F_withdraw 28 = .ok (.iload_n 2, 1) := by decide +kernel
theorem md_F_withdraw_29 : decode mc_F_withdraw 29 = .ok (.iconst 1, 1) := by decide +kernel
theorem md_F_withdraw_30 : decode mc_F_withdraw 30 = .ok (.isub, 1) := by decide +kernel
theorem md_F_withdraw_31 : decode mc_F_withdraw 31 = .ok (.istore_n 3, 1) := by decide +kernel
theorem md_F_withdraw_32 : decode mc_F_withdraw 32 = .ok (.iload_n 3, 1) := by decide +kernel
theorem md_F_withdraw_33 : decode mc_F_withdraw 33 = .ok (.ifCond .lt 36, 3) := by decide +kernel
theorem md_F_withdraw_36 : decode mc_F_withdraw 36 = .ok (.aload_n 0, 1) := by decide +kernel
theorem md_F_withdraw_37 : decode mc_F_withdraw 37 = .ok (.getfield 10, 3) := by decide +kernel
theorem md_F_withdraw_40 : decode mc_F_withdraw 40 = .ok (.iload_n 3, 1) := by decide +kernel
theorem md_F_withdraw_41 : decode mc_F_withdraw 41 = .ok (.invokevirtual 85, 3) := by decide +kernel
theorem md_F_withdraw_44 : decode mc_F_withdraw 44 = .ok (.checkcast 57, 3) := by decide +kernel
theorem md_F_withdraw_47 : decode mc_F_withdraw 47 = .ok (.getfield 97, 3) := by decide +kernel
theorem md_F_withdraw_50 : decode mc_F_withdraw 50 = .ok (.iload_n 1, 1) := by decide +kernel
theorem md_F_withdraw_51 : decode mc_F_withdraw 51 = .ok (.if_icmp .ne 12, 3) := by decide +kernel
theorem md_F_withdraw_54 : decode mc_F_withdraw 54 = .ok (.aload_n 0, 1) := by decide +kernel
theorem md_F_withdraw_55 : decode mc_F_withdraw 55 = .ok (.getfield 10, 3) := by decide +kernel
theorem md_F_withdraw_58 : decode mc_F_withdraw 58 = .ok (.iload_n 3, 1) := by decide +kernel
theorem md_F_withdraw_59 : decode mc_F_withdraw 59 = .ok (.invokevirtual 77, 3) := by decide +kernel
theorem md_F_withdraw_62 : decode mc_F_withdraw 62 = .ok (.pop, 1) := by decide +kernel
theorem md_F_withdraw_63 : decode mc_F_withdraw 63 = .ok (.iinc 3 (-1), 3) := by decide +kernel
theorem md_F_withdraw_66 : decode mc_F_withdraw 66 = .ok (.goto (-34), 3) := by decide +kernel
theorem md_F_withdraw_69 : decode mc_F_withdraw 69 = .ok (.iload_n 2, 1) := by decide +kernel
theorem md_F_withdraw_70 : decode mc_F_withdraw 70 = .ok (.aload_n 0, 1) := by decide +kernel
theorem md_F_withdraw_71 : decode mc_F_withdraw 71 = .ok (.getfield 10, 3) := by decide +kernel
theorem md_F_withdraw_74 : decode mc_F_withdraw 74 = .ok (.invokevirtual 51, 3) := by decide +kernel
theorem md_F_withdraw_77 : decode mc_F_withdraw 77 = .ok (.isub, 1) := by decide +kernel
theorem md_F_withdraw_78 : decode mc_F_withdraw 78 = .ok (.ireturn, 1) := by decide +kernel
theorem md_F_levels_0 : decode mc_F_levels 0 = .ok (.iload_n 1, 1) := by decide +kernel
theorem md_F_levels_1 : decode mc_F_levels 1 = .ok (.invokestatic 100, 3) := by decide +kernel
theorem md_F_levels_4 : decode mc_F_levels 4 = .ok (.ifCond .ne 13, 3) := by decide +kernel
theorem md_F_levels_7 : decode mc_F_levels 7 = .ok (.new 27, 3) := by decide +kernel
theorem md_F_levels_10 : decode mc_F_levels 10 = .ok (.dup, 1) := by decide +kernel
theorem md_F_levels_11 : decode mc_F_levels 11 = .ok (.ldc 103, 2) := by decide +kernel
theorem md_F_levels_13 : decode mc_F_levels 13 = .ok (.invokespecial 31, 3) := by decide +kernel
theorem md_F_levels_16 : decode mc_F_levels 16 = .ok (.athrow, 1) := by decide +kernel
theorem md_F_levels_17 : decode mc_F_levels 17 = .ok (.aload_n 0, 1) := by decide +kernel
theorem md_F_levels_18 : decode mc_F_levels 18 = .ok (.iload_n 1, 1) := by decide +kernel
theorem md_F_levels_19 : decode mc_F_levels 19 = .ok (.invokevirtual 105, 3) := by decide +kernel
theorem md_F_levels_22 : decode mc_F_levels 22 = .ok (.ireturn, 1) := by decide +kernel
theorem md_F_isSide_0 : decode mc_F_isSide 0 = .ok (.iload_n 0, 1) := by decide +kernel
theorem md_F_isSide_1 : decode mc_F_isSide 1 = .ok (.ifCond .eq 8, 3) := by decide +kernel
theorem md_F_isSide_4 : decode mc_F_isSide 4 = .ok (.iload_n 0, 1) := by decide +kernel
theorem md_F_isSide_5 : decode mc_F_isSide 5 = .ok (.iconst 1, 1) := by decide +kernel
theorem md_F_isSide_6 : decode mc_F_isSide 6 = .ok (.if_icmp .ne 7, 3) := by decide +kernel
theorem md_F_isSide_9 : decode mc_F_isSide 9 = .ok (.iconst 1, 1) := by decide +kernel
theorem md_F_isSide_10 : decode mc_F_isSide 10 = .ok (.goto 4, 3) := by decide +kernel
theorem md_F_isSide_13 : decode mc_F_isSide 13 = .ok (.iconst 0, 1) := by decide +kernel
theorem md_F_isSide_14 : decode mc_F_isSide 14 = .ok (.ireturn, 1) := by decide +kernel
theorem md_F_countLevels_0 : decode mc_F_countLevels 0 = .ok (.iconst 0, 1) := by decide +kernel
theorem md_F_countLevels_1 : decode mc_F_countLevels 1 = .ok (.istore_n 2, 1) := by decide +kernel
theorem md_F_countLevels_2 : decode mc_F_countLevels 2 = .ok (.aload_n 0, 1) := by decide +kernel
theorem md_F_countLevels_3 : decode mc_F_countLevels 3 = .ok (.iload_n 1, 1) := by decide +kernel
theorem md_F_countLevels_4 : decode mc_F_countLevels 4 = .ok (.iconst 0, 1) := by decide +kernel
theorem md_F_countLevels_5 : decode mc_F_countLevels 5 = .ok (.invokevirtual 215, 3) := by decide +kernel
theorem md_F_countLevels_8 : decode mc_F_countLevels 8 = .ok (.istore_n 3, 1) := by decide +kernel
theorem md_F_countLevels_9 : decode mc_F_countLevels 9 = .ok (.iload_n 3, 1) := by decide +kernel
theorem md_F_countLevels_10 : decode mc_F_countLevels 10 = .ok (.ifCond .eq 22, 3) := by decide +kernel
theorem md_F_countLevels_13 : decode mc_F_countLevels 13 = .ok (.iload_n 2, 1) := by decide +kernel
theorem md_F_countLevels_14 : decode mc_F_countLevels 14 = .ok (.bipush 40, 2) := by decide +kernel
theorem md_F_countLevels_16 : decode mc_F_countLevels 16 = .ok (.if_icmp .ge 16, 3) := by decide +kernel
theorem md_F_countLevels_19 : decode mc_F_countLevels 19 = .ok (.iinc 2 1, 3) := by decide +kernel
theorem md_F_countLevels_22 : decode mc_F_countLevels 22 = .ok (.aload_n 0, 1) := by decide +kernel
theorem md_F_countLevels_23 : decode mc_F_countLevels 23 = .ok (.iload_n 1, 1) := by decide +kernel
theorem md_F_countLevels_24 : decode mc_F_countLevels 24 = .ok (.iload_n 3, 1) := by decide +kernel
theorem md_F_countLevels_25 : decode mc_F_countLevels 25 = .ok (.invokevirtual 215, 3) := by decide +kernel
theorem md_F_countLevels_28 : decode mc_F_countLevels 28 = .ok (.istore_n 3, 1) := by decide +kernel
theorem md_F_countLevels_29 : decode mc_F_countLevels 29 = .ok (.goto (-20), 3) := by decide +kernel
theorem md_F_countLevels_32 : decode mc_F_countLevels 32 = .ok (.iload_n 2, 1) := by decide +kernel
theorem md_F_countLevels_33 : decode mc_F_countLevels 33 = .ok (.ireturn, 1) := by decide +kernel
theorem md_F_nextPrice_0 : decode mc_F_nextPrice 0 = .ok (.iconst 0, 1) := by decide +kernel
theorem md_F_nextPrice_1 : decode mc_F_nextPrice 1 = .ok (.istore_n 3, 1) := by decide +kernel
theorem md_F_nextPrice_2 : decode mc_F_nextPrice 2 = .ok (.iconst 0, 1) := by decide +kernel
theorem md_F_nextPrice_3 : decode mc_F_nextPrice 3 = .ok (.istore 4, 2) := by decide +kernel
theorem md_F_nextPrice_5 : decode mc_F_nextPrice 5 = .ok (.iload 4, 2) := by decide +kernel
theorem md_F_nextPrice_7 : decode mc_F_nextPrice 7 = .ok (.aload_n 0, 1) := by decide +kernel
theorem md_F_nextPrice_8 : decode mc_F_nextPrice 8 = .ok (.getfield 10, 3) := by decide +kernel
theorem md_F_nextPrice_11 : decode mc_F_nextPrice 11 = .ok (.invokevirtual 51, 3) := by decide +kernel
theorem md_F_nextPrice_14 : decode mc_F_nextPrice 14 = .ok (.if_icmp .ge 96, 3) := by decide +kernel
theorem md_F_nextPrice_17 : decode mc_F_nextPrice 17 = .ok (.aload_n 0, 1) := by decide +kernel
theorem md_F_nextPrice_18 : decode mc_F_nextPrice 18 = .ok (.getfield 10, 3) := by decide +kernel
theorem md_F_nextPrice_21 : decode mc_F_nextPrice 21 = .ok (.iload 4, 2) := by decide +kernel
theorem md_F_nextPrice_23 : decode mc_F_nextPrice 23 = .ok (.invokevirtual 85, 3) := by decide +kernel
theorem md_F_nextPrice_26 : decode mc_F_nextPrice 26 = .ok (.checkcast 57, 3) := by decide +kernel
theorem md_F_nextPrice_29 : decode mc_F_nextPrice 29 = .ok (.astore 5, 2) := by decide +kernel
theorem md_F_nextPrice_31 : decode mc_F_nextPrice 31 = .ok (.iload_n 2, 1) := by decide +kernel
theorem md_F_nextPrice_32 : decode mc_F_nextPrice 32 = .ok (.ifCond .eq 16, 3) := by decide +kernel
theorem md_F_nextPrice_35 : decode mc_F_nextPrice 35 = .ok (.iload_n 1, 1) := by decide +kernel
theorem md_F_nextPrice_36 : decode mc_F_nextPrice 36 = .ok (.iload_n 2, 1) := by decide +kernel
theorem md_F_nextPrice_37 : decode mc_F_nextPrice 37 = .ok (.aload 5, 2) := by decide +kernel
theorem md_F_nextPrice_39 : decode mc_F_nextPrice 39 = .ok (.getfield 92, 3) := by decide +kernel
theorem md_F_nextPrice_42 : decode mc_F_nextPrice 42 = .ok (.invokestatic 169, 3) := by decide +kernel
theorem md_F_nextPrice_45 : decode mc_F_nextPrice 45 = .ok (.ifCond .eq 7, 3) := by decide +kernel
theorem md_F_nextPrice_48 : decode mc_F_nextPrice 48 = .ok (.iconst 1, 1) := by decide +kernel
theorem md_F_nextPrice_49 : decode mc_F_nextPrice 49 = .ok (.goto 4, 3) := by decide +kernel
theorem md_F_nextPrice_52 : decode mc_F_nextPrice 52 = .ok (.iconst 0, 1) := by decide +kernel
theorem md_F_nextPrice_53 : decode mc_F_nextPrice 53 = .ok (.istore 6, 2) := by decide +kernel
theorem md_F_nextPrice_55 : decode mc_F_nextPrice 55 = .ok (.iload_n 3, 1) := by decide +kernel
theorem md_F_nextPrice_56 : decode mc_F_nextPrice 56 = .ok (.ifCond .eq 16, 3) := by decide +kernel
theorem md_F_nextPrice_59 : decode mc_F_nextPrice 59 = .ok (.iload_n 1, 1) := by decide +kernel
theorem md_F_nextPrice_60 : decode mc_F_nextPrice 60 = .ok (.aload 5, 2) := by decide +kernel
theorem md_F_nextPrice_62 : decode mc_F_nextPrice 62 = .ok (.getfield 92, 3) := by decide +kernel
theorem md_F_nextPrice_65 : decode mc_F_nextPrice 65 = .ok (.iload_n 3, 1) := by decide +kernel
theorem md_F_nextPrice_66 : decode mc_F_nextPrice 66 = .ok (.invokestatic 169, 3) := by decide +kernel
theorem md_F_nextPrice_69 : decode mc_F_nextPrice 69 = .ok (.ifCond .eq 7, 3) := by decide +kernel
theorem md_F_nextPrice_72 : decode mc_F_nextPrice 72 = .ok (.iconst 1, 1) := by decide +kernel
theorem md_F_nextPrice_73 : decode mc_F_nextPrice 73 = .ok (.goto 4, 3) := by decide +kernel
theorem md_F_nextPrice_76 : decode mc_F_nextPrice 76 = .ok (.iconst 0, 1) := by decide +kernel
theorem md_F_nextPrice_77 : decode mc_F_nextPrice 77 = .ok (.istore 7, 2) := by decide +kernel
theorem md_F_nextPrice_79 : decode mc_F_nextPrice 79 = .ok (.aload 5, 2) := by decide +kernel
theorem md_F_nextPrice_81 : decode mc_F_nextPrice 81 = .ok (.iload_n 1, 1) := by decide +kernel
theorem md_F_nextPrice_82 : decode mc_F_nextPrice 82 = .ok (.invokevirtual 166, 3) := by decide +kernel
theorem md_F_nextPrice_85 : decode mc_F_nextPrice 85 = .ok (.ifCond .eq 19, 3) := by decide +kernel
theorem md_F_nextPrice_88 : decode mc_F_nextPrice 88 = .ok (.iload 6, 2) := by decide +kernel
theorem md_F_nextPrice_90 : decode mc_F_nextPrice 90 = .ok (.ifCond .eq 14, 3) := by decide +kernel
theorem md_F_nextPrice_93 : decode mc_F_nextPrice 93 = .ok (.iload 7, 2) := by decide +kernel
theorem md_F_nextPrice_95 : decode mc_F_nextPrice 95 = .ok (.ifCond .eq 9, 3) := by decide +kernel
theorem md_F_nextPrice_98 : decode mc_F_nextPrice 98 = .ok (.aload 5, 2) := by decide +kernel
theorem md_F_nextPrice_100 : decode mc_F_nextPrice 100 = .ok (.getfield 92, 3) := by decide +kernel
theorem md_F_nextPrice_103 : decode mc_F_nextPrice 103 = .ok (.istore_n 3, 1) := by decide +kernel
theorem md_F_nextPrice_104 : decode mc_F_nextPrice 104 = .ok (.iinc 4 1, 3) := by decide +kernel
theorem md_F_nextPrice_107 : decode mc_F_nextPrice 107 = .ok (.goto (-102), 3) := by decide +kernel
theorem md_F_nextPrice_110 : decode mc_F_nextPrice 110 = .ok (.iload_n 3, 1) := by decide +kernel
theorem md_F_nextPrice_111 : decode mc_F_nextPrice 111 = .ok (.ireturn, 1) := by decide +kernel
theorem md_F_level_0 : decode mc_F_level 0 = .ok (.iload_n 1, 1) := by decide +kernel
theorem md_F_level_1 : decode mc_F_level 1 = .ok (.invokestatic 100, 3) := by decide +kernel
theorem md_F_level_4 : decode mc_F_level 4 = .ok (.ifCond .eq 12, 3) := by decide +kernel
theorem md_F_level_7 : decode mc_F_level 7 = .ok (.iload_n 3, 1) := by decide +kernel
theorem md_F_level_8 : decode mc_F_level 8 = .ok (.ifCond .lt 8, 3) := by decide +kernel
theorem md_F_level_11 : decode mc_F_level 11 = .ok (.iload_n 3, 1) := by decide +kernel
theorem md_F_level_12 : decode mc_F_level 12 = .ok (.iconst 2, 1) := by decide +kernel
theorem md_F_level_13 : decode mc_F_level 13 = .ok (.if_icmp .le 13, 3) := by decide +kernel
theorem md_F_level_16 : decode mc_F_level 16 = .ok (.new 27, 3) := by decide +kernel
theorem md_F_level_19 : decode mc_F_level 19 = .ok (.dup, 1) := by decide +kernel
theorem md_F_level_20 : decode mc_F_level 20 = .ok (.ldc 108, 2) := by decide +kernel
theorem md_F_level_22 : decode mc_F_level 22 = .ok (.invokespecial 31, 3) := by decide +kernel
theorem md_F_level_25 : decode mc_F_level 25 = .ok (.athrow, 1) := by decide +kernel
theorem md_F_level_26 : decode mc_F_level 26 = .ok (.iload_n 2, 1) := by decide +kernel
theorem md_F_level_27 : decode mc_F_level 27 = .ok (.ifCond .lt 12, 3) := by decide +kernel
theorem md_F_level_30 : decode mc_F_level 30 = .ok (.iload_n 2, 1) := by decide +kernel
theorem md_F_level_31 : decode mc_F_level 31 = .ok (.aload_n 0, 1) := by decide +kernel
theorem md_F_level_32 : decode mc_F_level 32 = .ok (.iload_n 1, 1) := by decide +kernel
theorem md_F_level_33 : decode mc_F_level 33 = .ok (.invokevirtual 105, 3) := by decide +kernel
theorem md_F_level_36 : decode mc_F_level 36 = .ok (.if_icmp .lt 13, 3) := by decide +kernel
theorem md_F_level_39 : decode mc_F_level 39 = .ok (.new 110, 3) := by decide +kernel
theorem md_F_level_42 : decode mc_F_level 42 = .ok (.dup, 1) := by decide +kernel
theorem md_F_level_43 : decode mc_F_level 43 = .ok (.ldc 112, 2) := by decide +kernel
theorem md_F_level_45 : decode mc_F_level 45 = .ok (.invokespecial 114, 3) := by decide +kernel
theorem md_F_level_48 : decode mc_F_level 48 = .ok (.athrow, 1) := by decide +kernel
theorem md_F_level_49 : decode mc_F_level 49 = .ok (.aload_n 0, 1) := by decide +kernel
theorem md_F_level_50 : decode mc_F_level 50 = .ok (.iload_n 1, 1) := by decide +kernel
theorem md_F_level_51 : decode mc_F_level 51 = .ok (.iload_n 2, 1) := by decide +kernel
theorem md_F_level_52 : decode mc_F_level 52 = .ok (.invokevirtual 115, 3) := by decide +kernel
theorem md_F_level_55 : decode mc_F_level 55 = .ok (.istore 4, 2) := by decide +kernel
theorem md_F_level_57 : decode mc_F_level 57 = .ok (.iload_n 3, 1) := by decide +kernel
theorem md_F_level_58 : decode mc_F_level 58 = .ok (.lookupswitch 37 #[(0, 26), (1, 29)], 26) := by decide +kernel
theorem md_F_level_84 : decode mc_F_level 84 = .ok (.iload 4, 2) := by decide +kernel
theorem md_F_level_86 : decode mc_F_level 86 = .ok (.ireturn, 1) := by decide +kernel
theorem md_F_level_87 : decode mc_F_level 87 = .ok (.aload_n 0, 1) := by decide +kernel
theorem md_F_level_88 : decode mc_F_level 88 = .ok (.iload_n 1, 1) := by decide +kernel
theorem md_F_level_89 : decode mc_F_level 89 = .ok (.iload 4, 2) := by decide +kernel
theorem md_F_level_91 : decode mc_F_level 91 = .ok (.invokevirtual 119, 3) := by decide +kernel
theorem md_F_level_94 : decode mc_F_level 94 = .ok (.ireturn, 1) := by decide +kernel
theorem md_F_level_95 : decode mc_F_level 95 = .ok (.aload_n 0, 1) := by decide +kernel
theorem md_F_level_96 : decode mc_F_level 96 = .ok (.iload_n 1, 1) := by decide +kernel
theorem md_F_level_97 : decode mc_F_level 97 = .ok (.iload 4, 2) := by decide +kernel
theorem md_F_level_99 : decode mc_F_level 99 = .ok (.invokevirtual 122, 3) := by decide +kernel
theorem md_F_level_102 : decode mc_F_level 102 = .ok (.ireturn, 1) := by decide +kernel
theorem md_F_priceOfLevel_0 : decode mc_F_priceOfLevel 0 = .ok (.aload_n 0, 1) := by decide +kernel
theorem md_F_priceOfLevel_1 : decode mc_F_priceOfLevel 1 = .ok (.iload_n 1, 1) := by decide +kernel
theorem md_F_priceOfLevel_2 : decode mc_F_priceOfLevel 2 = .ok (.iconst 0, 1) := by decide +kernel
theorem md_F_priceOfLevel_3 : decode mc_F_priceOfLevel 3 = .ok (.invokevirtual 215, 3) := by decide +kernel
theorem md_F_priceOfLevel_6 : decode mc_F_priceOfLevel 6 = .ok (.istore_n 3, 1) := by decide +kernel
theorem md_F_priceOfLevel_7 : decode mc_F_priceOfLevel 7 = .ok (.iconst 0, 1) := by decide +kernel
theorem md_F_priceOfLevel_8 : decode mc_F_priceOfLevel 8 = .ok (.istore 4, 2) := by decide +kernel
theorem md_F_priceOfLevel_10 : decode mc_F_priceOfLevel 10 = .ok (.iload 4, 2) := by decide +kernel
theorem md_F_priceOfLevel_12 : decode mc_F_priceOfLevel 12 = .ok (.iload_n 2, 1) := by decide +kernel
theorem md_F_priceOfLevel_13 : decode mc_F_priceOfLevel 13 = .ok (.if_icmp .ge 16, 3) := by decide +kernel
theorem md_F_priceOfLevel_16 : decode mc_F_priceOfLevel 16 = .ok (.aload_n 0, 1) := by decide +kernel
theorem md_F_priceOfLevel_17 : decode mc_F_priceOfLevel 17 = .ok (.iload_n 1, 1) := by decide +kernel
theorem md_F_priceOfLevel_18 : decode mc_F_priceOfLevel 18 = .ok (.iload_n 3, 1) := by decide +kernel
theorem md_F_priceOfLevel_19 : decode mc_F_priceOfLevel 19 = .ok (.invokevirtual 215, 3) := by decide +kernel
theorem md_F_priceOfLevel_22 : decode mc_F_priceOfLevel 22 = .ok (.istore_n 3, 1) := by decide +kernel
theorem md_F_priceOfLevel_23 : decode mc_F_priceOfLevel 23 = .ok (.iinc 4 1, 3) := by decide +kernel
theorem md_F_priceOfLevel_26 : decode mc_F_priceOfLevel 26 = .ok (.goto (-16), 3) := by decide +kernel
theorem md_F_priceOfLevel_29 : decode mc_F_priceOfLevel 29 = .ok (.iload_n 3, 1) := by decide +kernel
theorem md_F_priceOfLevel_30 : decode mc_F_priceOfLevel 30 = .ok (.ireturn, 1) := by decide +kernel
theorem md_F_leftAt_0 : decode mc_F_leftAt 0 = .ok (.iconst 0, 1) := by decide +kernel
theorem md_F_leftAt_1 : decode mc_F_leftAt 1 = .ok (.istore_n 3, 1) := by decide +kernel
theorem md_F_leftAt_2 : decode mc_F_leftAt 2 = .ok (.iconst 0, 1) := by decide +kernel
theorem md_F_leftAt_3 : decode mc_F_leftAt 3 = .ok (.istore 4, 2) := by decide +kernel
theorem md_F_leftAt_5 : decode mc_F_leftAt 5 = .ok (.iload 4, 2) := by decide +kernel
theorem md_F_leftAt_7 : decode mc_F_leftAt 7 = .ok (.aload_n 0, 1) := by decide +kernel
theorem md_F_leftAt_8 : decode mc_F_leftAt 8 = .ok (.getfield 10, 3) := by decide +kernel
theorem md_F_leftAt_11 : decode mc_F_leftAt 11 = .ok (.invokevirtual 51, 3) := by decide +kernel
theorem md_F_leftAt_14 : decode mc_F_leftAt 14 = .ok (.if_icmp .ge 49, 3) := by decide +kernel
theorem md_F_leftAt_17 : decode mc_F_leftAt 17 = .ok (.aload_n 0, 1) := by decide +kernel
theorem md_F_leftAt_18 : decode mc_F_leftAt 18 = .ok (.getfield 10, 3) := by decide +kernel
theorem md_F_leftAt_21 : decode mc_F_leftAt 21 = .ok (.iload 4, 2) := by decide +kernel
theorem md_F_leftAt_23 : decode mc_F_leftAt 23 = .ok (.invokevirtual 85, 3) := by decide +kernel
theorem md_F_leftAt_26 : decode mc_F_leftAt 26 = .ok (.checkcast 57, 3) := by decide +kernel
theorem md_F_leftAt_29 : decode mc_F_leftAt 29 = .ok (.astore 5, 2) := by decide +kernel
theorem md_F_leftAt_31 : decode mc_F_leftAt 31 = .ok (.aload 5, 2) := by decide +kernel
theorem md_F_leftAt_33 : decode mc_F_leftAt 33 = .ok (.iload_n 1, 1) := by decide +kernel
theorem md_F_leftAt_34 : decode mc_F_leftAt 34 = .ok (.invokevirtual 166, 3) := by decide +kernel
theorem md_F_leftAt_37 : decode mc_F_leftAt 37 = .ok (.ifCond .eq 20, 3) := by decide +kernel
theorem md_F_leftAt_40 : decode mc_F_leftAt 40 = .ok (.aload 5, 2) := by decide +kernel
theorem md_F_leftAt_42 : decode mc_F_leftAt 42 = .ok (.getfield 92, 3) := by decide +kernel
theorem md_F_leftAt_45 : decode mc_F_leftAt 45 = .ok (.iload_n 2, 1) := by decide +kernel
theorem md_F_leftAt_46 : decode mc_F_leftAt 46 = .ok (.if_icmp .ne 11, 3) := by decide +kernel
theorem md_F_leftAt_49 : decode mc_F_leftAt 49 = .ok (.iload_n 3, 1) := by decide +kernel
theorem md_F_leftAt_50 : decode mc_F_leftAt 50 = .ok (.aload 5, 2) := by decide +kernel
theorem md_F_leftAt_52 : decode mc_F_leftAt 52 = .ok (.getfield 81, 3) := by decide +kernel
theorem md_F_leftAt_55 : decode mc_F_leftAt 55 = .ok (.iadd, 1) := by decide +kernel
theorem md_F_leftAt_56 : decode mc_F_leftAt 56 = .ok (.istore_n 3, 1) := by decide +kernel
theorem md_F_leftAt_57 : decode mc_F_leftAt 57 = .ok (.iinc 4 1, 3) := by decide +kernel
theorem md_F_leftAt_60 : decode mc_F_leftAt 60 = .ok (.goto (-55), 3) := by decide +kernel
theorem md_F_leftAt_63 : decode mc_F_leftAt 63 = .ok (.iload_n 3, 1) := by decide +kernel
theorem md_F_leftAt_64 : decode mc_F_leftAt 64 = .ok (.ireturn, 1) := by decide +kernel
theorem md_F_ordersAt_0 : decode mc_F_ordersAt 0 = .ok (.iconst 0, 1) := by decide +kernel
theorem md_F_ordersAt_1 : decode mc_F_ordersAt 1 = .ok (.istore_n 3, 1) := by decide +kernel
theorem md_F_ordersAt_2 : decode mc_F_ordersAt 2 = .ok (.iconst 0, 1) := by decide +kernel
theorem md_F_ordersAt_3 : decode mc_F_ordersAt 3 = .ok (.istore 4, 2) := by decide +kernel
theorem md_F_ordersAt_5 : decode mc_F_ordersAt 5 = .ok (.iload 4, 2) := by decide +kernel
theorem md_F_ordersAt_7 : decode mc_F_ordersAt 7 = .ok (.aload_n 0, 1) := by decide +kernel
theorem md_F_ordersAt_8 : decode mc_F_ordersAt 8 = .ok (.getfield 10, 3) := by decide +kernel
theorem md_F_ordersAt_11 : decode mc_F_ordersAt 11 = .ok (.invokevirtual 51, 3) := by decide +kernel
theorem md_F_ordersAt_14 : decode mc_F_ordersAt 14 = .ok (.if_icmp .ge 44, 3) := by decide +kernel
theorem md_F_ordersAt_17 : decode mc_F_ordersAt 17 = .ok (.aload_n 0, 1) := by decide +kernel
theorem md_F_ordersAt_18 : decode mc_F_ordersAt 18 = .ok (.getfield 10, 3) := by decide +kernel
theorem md_F_ordersAt_21 : decode mc_F_ordersAt 21 = .ok (.iload 4, 2) := by decide +kernel
theorem md_F_ordersAt_23 : decode mc_F_ordersAt 23 = .ok (.invokevirtual 85, 3) := by decide +kernel
theorem md_F_ordersAt_26 : decode mc_F_ordersAt 26 = .ok (.checkcast 57, 3) := by decide +kernel
theorem md_F_ordersAt_29 : decode mc_F_ordersAt 29 = .ok (.astore 5, 2) := by decide +kernel
theorem md_F_ordersAt_31 : decode mc_F_ordersAt 31 = .ok (.aload 5, 2) := by decide +kernel
theorem md_F_ordersAt_33 : decode mc_F_ordersAt 33 = .ok (.iload_n 1, 1) := by decide +kernel
theorem md_F_ordersAt_34 : decode mc_F_ordersAt 34 = .ok (.invokevirtual 166, 3) := by decide +kernel
theorem md_F_ordersAt_37 : decode mc_F_ordersAt 37 = .ok (.ifCond .eq 15, 3) := by decide +kernel
theorem md_F_ordersAt_40 : decode mc_F_ordersAt 40 = .ok (.aload 5, 2) := by decide +kernel
theorem md_F_ordersAt_42 : decode mc_F_ordersAt 42 = .ok (.getfield 92, 3) := by decide +kernel
theorem md_F_ordersAt_45 : decode mc_F_ordersAt 45 = .ok (.iload_n 2, 1) := by decide +kernel
theorem md_F_ordersAt_46 : decode mc_F_ordersAt 46 = .ok (.if_icmp .ne 6, 3) := by decide +kernel
theorem md_F_ordersAt_49 : decode mc_F_ordersAt 49 = .ok (.iinc 3 1, 3) := by decide +kernel
theorem md_F_ordersAt_52 : decode mc_F_ordersAt 52 = .ok (.iinc 4 1, 3) := by decide +kernel
theorem md_F_ordersAt_55 : decode mc_F_ordersAt 55 = .ok (.goto (-50), 3) := by decide +kernel
theorem md_F_ordersAt_58 : decode mc_F_ordersAt 58 = .ok (.iload_n 3, 1) := by decide +kernel
theorem md_F_ordersAt_59 : decode mc_F_ordersAt 59 = .ok (.ireturn, 1) := by decide +kernel
theorem md_F_order_0 : decode mc_F_order 0 = .ok (.aload_n 0, 1) := by decide +kernel
theorem md_F_order_1 : decode mc_F_order 1 = .ok (.iload_n 1, 1) := by decide +kernel
theorem md_F_order_2 : decode mc_F_order 2 = .ok (.invokevirtual 43, 3) := by decide +kernel
theorem md_F_order_5 : decode mc_F_order 5 = .ok (.istore_n 3, 1) := by decide +kernel
theorem md_F_order_6 : decode mc_F_order 6 = .ok (.iload_n 3, 1) := by decide +kernel
theorem md_F_order_7 : decode mc_F_order 7 = .ok (.iconst (-1), 1) := by decide +kernel
theorem md_F_order_8 : decode mc_F_order 8 = .ok (.if_icmp .ne 13, 3) := by decide +kernel
theorem md_F_order_11 : decode mc_F_order 11 = .ok (.new 72, 3) := by decide +kernel
theorem md_F_order_14 : decode mc_F_order 14 = .ok (.dup, 1) := by decide +kernel
theorem md_F_order_15 : decode mc_F_order 15 = .ok (.ldc 74, 2) := by decide +kernel
theorem md_F_order_17 : decode mc_F_order 17 = .ok (.invokespecial 76, 3) := by decide +kernel
theorem md_F_order_20 : decode mc_F_order 20 = .ok (.athrow, 1) := by decide +kernel
theorem md_F_order_21 : decode mc_F_order 21 = .ok (.aload_n 0, 1) := by decide +kernel
theorem md_F_order_22 : decode mc_F_order 22 = .ok (.getfield 10, 3) := by decide +kernel
theorem md_F_order_25 : decode mc_F_order 25 = .ok (.iload_n 3, 1) := by decide +kernel
theorem md_F_order_26 : decode mc_F_order 26 = .ok (.invokevirtual 85, 3) := by decide +kernel
theorem md_F_order_29 : decode mc_F_order 29 = .ok (.checkcast 57, 3) := by decide +kernel
theorem md_F_order_32 : decode mc_F_order 32 = .ok (.astore 4, 2) := by decide +kernel
theorem md_F_order_34 : decode mc_F_order 34 = .ok (.iload_n 2, 1) := by decide +kernel
theorem md_F_order_35 : decode mc_F_order 35 = .ok (.tableswitch 76 0 3 #[29, 58, 64, 70], 29) := by decide +kernel
theorem md_F_order_64 : decode mc_F_order 64 = .ok (.bipush 16, 2) := by decide +kernel
theorem md_F_order_66 : decode mc_F_order 66 = .ok (.aload 4, 2) := by decide +kernel
theorem md_F_order_68 : decode mc_F_order 68 = .ok (.getfield 97, 3) := by decide +kernel
theorem md_F_order_71 : decode mc_F_order 71 = .ok (.imul, 1) := by decide +kernel
theorem md_F_order_72 : decode mc_F_order 72 = .ok (.aload 4, 2) := by decide +kernel
theorem md_F_order_74 : decode mc_F_order 74 = .ok (.getfield 88, 3) := by decide +kernel
theorem md_F_order_77 : decode mc_F_order 77 = .ok (.ifCond .eq 7, 3) := by decide +kernel
theorem md_F_order_80 : decode mc_F_order 80 = .ok (.iconst 2, 1) := by decide +kernel
theorem md_F_order_81 : decode mc_F_order 81 = .ok (.goto 4, 3) := by decide +kernel
theorem md_F_order_84 : decode mc_F_order 84 = .ok (.iconst 0, 1) := by decide +kernel
theorem md_F_order_85 : decode mc_F_order 85 = .ok (.iadd, 1) := by decide +kernel
theorem md_F_order_86 : decode mc_F_order 86 = .ok (.aload 4, 2) := by decide +kernel
theorem md_F_order_88 : decode mc_F_order 88 = .ok (.getfield 125, 3) := by decide +kernel
theorem md_F_order_91 : decode mc_F_order 91 = .ok (.iadd, 1) := by decide +kernel
theorem md_F_order_92 : decode mc_F_order 92 = .ok (.ireturn, 1) := by decide +kernel
theorem md_F_order_93 : decode mc_F_order 93 = .ok (.aload 4, 2) := by decide +kernel
theorem md_F_order_95 : decode mc_F_order 95 = .ok (.getfield 92, 3) := by decide +kernel
theorem md_F_order_98 : decode mc_F_order 98 = .ok (.ireturn, 1) := by decide +kernel
theorem md_F_order_99 : decode mc_F_order 99 = .ok (.aload 4, 2) := by decide +kernel
theorem md_F_order_101 : decode mc_F_order 101 = .ok (.getfield 81, 3) := by decide +kernel
theorem md_F_order_104 : decode mc_F_order 104 = .ok (.ireturn, 1) := by decide +kernel
theorem md_F_order_105 : decode mc_F_order 105 = .ok (.aload_n 0, 1) := by decide +kernel
theorem md_F_order_106 : decode mc_F_order 106 = .ok (.iload_n 3, 1) := by decide +kernel
theorem md_F_order_107 : decode mc_F_order 107 = .ok (.invokevirtual 128, 3) := by decide +kernel
theorem md_F_order_110 : decode mc_F_order 110 = .ok (.ireturn, 1) := by decide +kernel
theorem md_F_order_111 : decode mc_F_order 111 = .ok (.new 27, 3) := by decide +kernel
theorem md_F_order_114 : decode mc_F_order 114 = .ok (.dup, 1) := by decide +kernel
theorem md_F_order_115 : decode mc_F_order 115 = .ok (.ldc 131, 2) := by decide +kernel
theorem md_F_order_117 : decode mc_F_order 117 = .ok (.invokespecial 31, 3) := by decide +kernel
theorem md_F_order_120 : decode mc_F_order 120 = .ok (.athrow, 1) := by decide +kernel
theorem md_F_ordersBefore_0 : decode mc_F_ordersBefore 0 = .ok (.aload_n 0, 1) := by decide +kernel
theorem md_F_ordersBefore_1 : decode mc_F_ordersBefore 1 = .ok (.getfield 10, 3) := by decide +kernel
theorem md_F_ordersBefore_4 : decode mc_F_ordersBefore 4 = .ok (.iload_n 1, 1) := by decide +kernel
theorem md_F_ordersBefore_5 : decode mc_F_ordersBefore 5 = .ok (.invokevirtual 85, 3) := by decide +kernel
theorem md_F_ordersBefore_8 : decode mc_F_ordersBefore 8 = .ok (.checkcast 57, 3) := by decide +kernel
theorem md_F_ordersBefore_11 : decode mc_F_ordersBefore 11 = .ok (.astore_n 2, 1) := by decide +kernel
theorem md_F_ordersBefore_12 : decode mc_F_ordersBefore 12 = .ok (.iconst 0, 1) := by decide +kernel
theorem md_F_ordersBefore_13 : decode mc_F_ordersBefore 13 = .ok (.istore_n 3, 1) := by decide +kernel
theorem md_F_ordersBefore_14 : decode mc_F_ordersBefore 14 = .ok (.iconst 0, 1) := by decide +kernel
theorem md_F_ordersBefore_15 : decode mc_F_ordersBefore 15 = .ok (.istore 4, 2) := by decide +kernel
theorem md_F_ordersBefore_17 : decode mc_F_ordersBefore 17 = .ok (.iload 4, 2) := by decide +kernel
theorem md_F_ordersBefore_19 : decode mc_F_ordersBefore 19 = .ok (.iload_n 1, 1) := by decide +kernel
theorem md_F_ordersBefore_20 : decode mc_F_ordersBefore 20 = .ok (.if_icmp .ge 31, 3) := by decide +kernel
theorem md_F_ordersBefore_23 : decode mc_F_ordersBefore 23 = .ok (.aload_n 0, 1) := by decide +kernel
theorem md_F_ordersBefore_24 : decode mc_F_ordersBefore 24 = .ok (.getfield 10, 3) := by decide +kernel
theorem md_F_ordersBefore_27 : decode mc_F_ordersBefore 27 = .ok (.iload 4, 2) := by decide +kernel
theorem md_F_ordersBefore_29 : decode mc_F_ordersBefore 29 = .ok (.invokevirtual 85, 3) := by decide +kernel
theorem md_F_ordersBefore_32 : decode mc_F_ordersBefore 32 = .ok (.checkcast 57, 3) := by decide +kernel
theorem md_F_ordersBefore_35 : decode mc_F_ordersBefore 35 = .ok (.aload_n 2, 1) := by decide +kernel
theorem md_F_ordersBefore_36 : decode mc_F_ordersBefore 36 = .ok (.invokevirtual 218, 3) := by decide +kernel
theorem md_F_ordersBefore_39 : decode mc_F_ordersBefore 39 = .ok (.ifCond .eq 6, 3) := by decide +kernel
theorem md_F_ordersBefore_42 : decode mc_F_ordersBefore 42 = .ok (.iinc 3 1, 3) := by decide +kernel
theorem md_F_ordersBefore_45 : decode mc_F_ordersBefore 45 = .ok (.iinc 4 1, 3) := by decide +kernel
theorem md_F_ordersBefore_48 : decode mc_F_ordersBefore 48 = .ok (.goto (-31), 3) := by decide +kernel
theorem md_F_ordersBefore_51 : decode mc_F_ordersBefore 51 = .ok (.iload_n 3, 1) := by decide +kernel
theorem md_F_ordersBefore_52 : decode mc_F_ordersBefore 52 = .ok (.ireturn, 1) := by decide +kernel
theorem md_O_queuesWith_0 : decode mc_O_queuesWith 0 = .ok (.aload_n 0, 1) := by decide +kernel
theorem md_O_queuesWith_1 : decode mc_O_queuesWith 1 = .ok (.getfield 21, 3) := by decide +kernel
theorem md_O_queuesWith_4 : decode mc_O_queuesWith 4 = .ok (.ifCond .ne 10, 3) := by decide +kernel
theorem md_O_queuesWith_7 : decode mc_O_queuesWith 7 = .ok (.aload_n 1, 1) := by decide +kernel
theorem md_O_queuesWith_8 : decode mc_O_queuesWith 8 = .ok (.getfield 21, 3) := by decide +kernel
theorem md_O_queuesWith_11 : decode mc_O_queuesWith 11 = .ok (.ifCond .eq 23, 3) := by decide +kernel
theorem md_O_queuesWith_14 : decode mc_O_queuesWith 14 = .ok (.aload_n 0, 1) := by decide +kernel
theorem md_O_queuesWith_15 : decode mc_O_queuesWith 15 = .ok (.getfield 21, 3) := by decide +kernel
theorem md_O_queuesWith_18 : decode mc_O_queuesWith 18 = .ok (.ifCond .eq 14, 3) := by decide +kernel
theorem md_O_queuesWith_21 : decode mc_O_queuesWith 21 = .ok (.aload_n 1, 1) := by decide +kernel
theorem md_O_queuesWith_22 : decode mc_O_queuesWith 22 = .ok (.getfield 21, 3) := by decide +kernel
theorem md_O_queuesWith_25 : decode mc_O_queuesWith 25 = .ok (.ifCond .eq 7, 3) := by decide +kernel
theorem md_O_queuesWith_28 : decode mc_O_queuesWith 28 = .ok (.iconst 1, 1) := by decide +kernel
theorem md_O_queuesWith_29 : decode mc_O_queuesWith 29 = .ok (.goto 4, 3) := by decide +kernel
theorem md_O_queuesWith_32 : decode mc_O_queuesWith 32 = .ok (.iconst 0, 1) := by decide +kernel
theorem md_O_queuesWith_33 : decode mc_O_queuesWith 33 = .ok (.ireturn, 1) := by decide +kernel
theorem md_O_queuesWith_34 : decode mc_O_queuesWith 34 = .ok (.aload_n 0, 1) := by decide +kernel
theorem md_O_queuesWith_35 : decode mc_O_queuesWith 35 = .ok (.getfield 18, 3) := by decide +kernel
theorem md_O_queuesWith_38 : decode mc_O_queuesWith 38 = .ok (.aload_n 1, 1) := by decide +kernel
theorem md_O_queuesWith_39 : decode mc_O_queuesWith 39 = .ok (.getfield 18, 3) := by decide +kernel
theorem md_O_queuesWith_42 : decode mc_O_queuesWith 42 = .ok (.if_icmp .ne 18, 3) := by decide +kernel
theorem md_O_queuesWith_45 : decode mc_O_queuesWith 45 = .ok (.aload_n 0, 1) := by decide +kernel
theorem md_O_queuesWith_46 : decode mc_O_queuesWith 46 = .ok (.getfield 25, 3) := by decide +kernel
theorem md_O_queuesWith_49 : decode mc_O_queuesWith 49 = .ok (.aload_n 1, 1) := by decide +kernel
theorem md_O_queuesWith_50 : decode mc_O_queuesWith 50 = .ok (.getfield 25, 3) := by decide +kernel
theorem md_O_queuesWith_53 : decode mc_O_queuesWith 53 = .ok (.if_icmp .ne 7, 3) := by decide +kernel
theorem md_O_queuesWith_56 : decode mc_O_queuesWith 56 = .ok (.iconst 1, 1) := by decide +kernel
theorem md_O_queuesWith_57 : decode mc_O_queuesWith 57 = .ok (.goto 4, 3) := by decide +kernel
theorem md_O_queuesWith_60 : decode mc_O_queuesWith 60 = .ok (.iconst 0, 1) := by decide +kernel
theorem md_O_queuesWith_61 : decode mc_O_queuesWith 61 = .ok (.ireturn, 1) := by decide +kernel
theorem md_F_fill_0 : decode mc_F_fill 0 = .ok (.iload_n 2, 1) := by decide +kernel
theorem md_F_fill_1 : decode mc_F_fill 1 = .ok (.ifCond .lt 8, 3) := by decide +kernel
theorem md_F_fill_4 : decode mc_F_fill 4 = .ok (.iload_n 2, 1) := by decide +kernel
theorem md_F_fill_5 : decode mc_F_fill 5 = .ok (.iconst 4, 1) := by decide +kernel
theorem md_F_fill_6 : decode mc_F_fill 6 = .ok (.if_icmp .lt 13, 3) := by decide +kernel
theorem md_F_fill_9 : decode mc_F_fill 9 = .ok (.new 27, 3) := by decide +kernel
theorem md_F_fill_12 : decode mc_F_fill 12 = .ok (.dup, 1) := by decide +kernel
theorem md_F_fill_13 : decode mc_F_fill 13 = .ok (.ldc 131, 2) := by decide +kernel
theorem md_F_fill_15 : decode mc_F_fill 15 = .ok (.invokespecial 31, 3) := by decide +kernel
theorem md_F_fill_18 : decode mc_F_fill 18 = .ok (.athrow, 1) := by decide +kernel
theorem md_F_fill_19 : decode mc_F_fill 19 = .ok (.iload_n 1, 1) := by decide +kernel
theorem md_F_fill_20 : decode mc_F_fill 20 = .ok (.ifCond .lt 20, 3) := by decide +kernel
theorem md_F_fill_23 : decode mc_F_fill 23 = .ok (.iload_n 1, 1) := by decide +kernel
theorem md_F_fill_24 : decode mc_F_fill 24 = .ok (.bipush 32, 2) := by decide +kernel
theorem md_F_fill_26 : decode mc_F_fill 26 = .ok (.if_icmp .ge 14, 3) := by decide +kernel
theorem md_F_fill_29 : decode mc_F_fill 29 = .ok (.iload_n 1, 1) := by decide +kernel
theorem md_F_fill_30 : decode mc_F_fill 30 = .ok (.aload_n 0, 1) := by decide +kernel
theorem md_F_fill_31 : decode mc_F_fill 31 = .ok (.getfield 19, 3) := by decide +kernel
theorem md_F_fill_34 : decode mc_F_fill 34 = .ok (.getfield 133, 3) := by decide +kernel
theorem md_F_fill_37 : decode mc_F_fill 37 = .ok (.if_icmp .lt 13, 3) := by decide +kernel
theorem md_F_fill_40 : decode mc_F_fill 40 = .ok (.new 110, 3) := by decide +kernel
theorem md_F_fill_43 : decode mc_F_fill 43 = .ok (.dup, 1) := by decide +kernel
theorem md_F_fill_44 : decode mc_F_fill 44 = .ok (.ldc 136, 2) := by decide +kernel
theorem md_F_fill_46 : decode mc_F_fill 46 = .ok (.invokespecial 114, 3) := by decide +kernel
theorem md_F_fill_49 : decode mc_F_fill 49 = .ok (.athrow, 1) := by decide +kernel
theorem md_F_fill_50 : decode mc_F_fill 50 = .ok (.aload_n 0, 1) := by decide +kernel
theorem md_F_fill_51 : decode mc_F_fill 51 = .ok (.getfield 19, 3) := by decide +kernel
theorem md_F_fill_54 : decode mc_F_fill 54 = .ok (.iload_n 1, 1) := by decide +kernel
theorem md_F_fill_55 : decode mc_F_fill 55 = .ok (.iload_n 2, 1) := by decide +kernel
theorem md_F_fill_56 : decode mc_F_fill 56 = .ok (.invokevirtual 138, 3) := by decide +kernel
theorem md_F_fill_59 : decode mc_F_fill 59 = .ok (.ireturn, 1) := by decide +kernel
theorem md_T_read_0 : decode mc_T_read 0 = .ok (.aload_n 0, 1) := by decide +kernel
theorem md_T_read_1 : decode mc_T_read 1 = .ok (.getfield 13, 3) := by decide +kernel
theorem md_T_read_4 : decode mc_T_read 4 = .ok (.aload_n 0, 1) := by decide +kernel
theorem md_T_read_5 : decode mc_T_read 5 = .ok (.getfield 20, 3) := by decide +kernel
theorem md_T_read_8 : decode mc_T_read 8 = .ok (.iconst 1, 1) := by decide +kernel
theorem md_T_read_9 : decode mc_T_read 9 = .ok (.isub, 1) := by decide +kernel
theorem md_T_read_10 : decode mc_T_read 10 = .ok (.iload_n 1, 1) := by decide +kernel
theorem md_T_read_11 : decode mc_T_read 11 = .ok (.isub, 1) := by decide +kernel
theorem md_T_read_12 : decode mc_T_read 12 = .ok (.bipush 32, 2) := by decide +kernel
theorem md_T_read_14 : decode mc_T_read 14 = .ok (.invokestatic 23, 3) := by decide +kernel
theorem md_T_read_17 : decode mc_T_read 17 = .ok (.aaload, 1) := by decide +kernel
theorem md_T_read_18 : decode mc_T_read 18 = .ok (.iload_n 2, 1) := by decide +kernel
theorem md_T_read_19 : decode mc_T_read 19 = .ok (.iaload, 1) := by decide +kernel
theorem md_T_read_20 : decode mc_T_read 20 = .ok (.ireturn, 1) := by decide +kernel
theorem md_F_figure_0 : decode mc_F_figure 0 = .ok (.iload_n 1, 1) := by decide +kernel
theorem md_F_figure_1 : decode mc_F_figure 1 = .ok (.tableswitch 66 0 4 #[35, 43, 48, 53, 58], 35) := by decide +kernel
theorem md_F_figure_36 : decode mc_F_figure 36 = .ok (.aload_n 0, 1) := by decide +kernel
theorem md_F_figure_37 : decode mc_F_figure 37 = .ok (.getfield 10, 3) := by decide +kernel
theorem md_F_figure_40 : decode mc_F_figure 40 = .ok (.invokevirtual 51, 3) := by decide +kernel
theorem md_F_figure_43 : decode mc_F_figure 43 = .ok (.ireturn, 1) := by decide +kernel
theorem md_F_figure_44 : decode mc_F_figure 44 = .ok (.aload_n 0, 1) := by decide +kernel
theorem md_F_figure_45 : decode mc_F_figure 45 = .ok (.invokevirtual 148, 3) := by decide +kernel
theorem md_F_figure_48 : decode mc_F_figure 48 = .ok (.ireturn, 1) := by decide +kernel
theorem md_F_figure_49 : decode mc_F_figure 49 = .ok (.aload_n 0, 1) := by decide +kernel
theorem md_F_figure_50 : decode mc_F_figure 50 = .ok (.getfield 151, 3) := by decide +kernel
theorem md_F_figure_53 : decode mc_F_figure 53 = .ok (.ireturn, 1) := by decide +kernel
theorem md_F_figure_54 : decode mc_F_figure 54 = .ok (.aload_n 0, 1) := by decide +kernel
theorem md_F_figure_55 : decode mc_F_figure 55 = .ok (.getfield 154, 3) := by decide +kernel
theorem md_F_figure_58 : decode mc_F_figure 58 = .ok (.ireturn, 1) := by decide +kernel
theorem md_F_figure_59 : decode mc_F_figure 59 = .ok (.aload_n 0, 1) := by decide +kernel
theorem md_F_figure_60 : decode mc_F_figure 60 = .ok (.getfield 19, 3) := by decide +kernel
theorem md_F_figure_63 : decode mc_F_figure 63 = .ok (.getfield 157, 3) := by decide +kernel
theorem md_F_figure_66 : decode mc_F_figure 66 = .ok (.ireturn, 1) := by decide +kernel
theorem md_F_figure_67 : decode mc_F_figure 67 = .ok (.new 27, 3) := by decide +kernel
theorem md_F_figure_70 : decode mc_F_figure 70 = .ok (.dup, 1) := by decide +kernel
theorem md_F_figure_71 : decode mc_F_figure 71 = .ok (.ldc 160, 2) := by decide +kernel
theorem md_F_figure_73 : decode mc_F_figure 73 = .ok (.invokespecial 31, 3) := by decide +kernel
theorem md_F_figure_76 : decode mc_F_figure 76 = .ok (.athrow, 1) := by decide +kernel
theorem md_F_countWaiting_0 : decode mc_F_countWaiting 0 = .ok (.iconst 0, 1) := by decide +kernel
theorem md_F_countWaiting_1 : decode mc_F_countWaiting 1 = .ok (.istore_n 1, 1) := by decide +kernel
theorem md_F_countWaiting_2 : decode mc_F_countWaiting 2 = .ok (.iconst 0, 1) := by decide +kernel
theorem md_F_countWaiting_3 : decode mc_F_countWaiting 3 = .ok (.istore_n 2, 1) := by decide +kernel
theorem md_F_countWaiting_4 : decode mc_F_countWaiting 4 = .ok (.iload_n 2, 1) := by decide +kernel
theorem md_F_countWaiting_5 : decode mc_F_countWaiting 5 = .ok (.aload_n 0, 1) := by decide +kernel
theorem md_F_countWaiting_6 : decode mc_F_countWaiting 6 = .ok (.getfield 10, 3) := by decide +kernel
theorem md_F_countWaiting_9 : decode mc_F_countWaiting 9 = .ok (.invokevirtual 51, 3) := by decide +kernel
theorem md_F_countWaiting_12 : decode mc_F_countWaiting 12 = .ok (.if_icmp .ge 29, 3) := by decide +kernel
theorem md_F_countWaiting_15 : decode mc_F_countWaiting 15 = .ok (.aload_n 0, 1) := by decide +kernel
theorem md_F_countWaiting_16 : decode mc_F_countWaiting 16 = .ok (.getfield 10, 3) := by decide +kernel
theorem md_F_countWaiting_19 : decode mc_F_countWaiting 19 = .ok (.iload_n 2, 1) := by decide +kernel
theorem md_F_countWaiting_20 : decode mc_F_countWaiting 20 = .ok (.invokevirtual 85, 3) := by decide +kernel
theorem md_F_countWaiting_23 : decode mc_F_countWaiting 23 = .ok (.checkcast 57, 3) := by decide +kernel
theorem md_F_countWaiting_26 : decode mc_F_countWaiting 26 = .ok (.getfield 88, 3) := by decide +kernel
theorem md_F_countWaiting_29 : decode mc_F_countWaiting 29 = .ok (.ifCond .eq 6, 3) := by decide +kernel
theorem md_F_countWaiting_32 : decode mc_F_countWaiting 32 = .ok (.iinc 1 1, 3) := by decide +kernel
theorem md_F_countWaiting_35 : decode mc_F_countWaiting 35 = .ok (.iinc 2 1, 3) := by decide +kernel
theorem md_F_countWaiting_38 : decode mc_F_countWaiting 38 = .ok (.goto (-34), 3) := by decide +kernel
theorem md_F_countWaiting_41 : decode mc_F_countWaiting 41 = .ok (.iload_n 1, 1) := by decide +kernel
theorem md_F_countWaiting_42 : decode mc_F_countWaiting 42 = .ok (.ireturn, 1) := by decide +kernel
end
section
/-! decode rows -/
theorem md_M_init_0 : decode mc_M_init 0 = .ok (.aload_n 0, 1) := by decide +kernel
theorem md_M_init_1 : decode mc_M_init 1 = .ok (.invokespecial 1, 3) := by decide +kernel
theorem md_M_init_4 : decode mc_M_init 4 = .ok (.aload_n 0, 1) := by decide +kernel
theorem md_M_init_5 : decode mc_M_init 5 = .ok (.bipush 40, 2) := by decide +kernel
theorem md_M_init_7 : decode mc_M_init 7 = .ok (.newarray .int, 2) := by decide +kernel
theorem md_M_init_9 : decode mc_M_init 9 = .ok (.putfield 7, 3) := by decide +kernel
theorem md_M_init_12 : decode mc_M_init 12 = .ok (.aload_n 0, 1) := by decide +kernel
theorem md_M_init_13 : decode mc_M_init 13 = .ok (.bipush 40, 2) := by decide +kernel
theorem md_M_init_15 : decode mc_M_init 15 = .ok (.newarray .int, 2) := by decide +kernel
theorem md_M_init_17 : decode mc_M_init 17 = .ok (.putfield 13, 3) := by decide +kernel
theorem md_M_init_20 : decode mc_M_init 20 = .ok (.aload_n 0, 1) := by decide +kernel
theorem md_M_init_21 : decode mc_M_init 21 = .ok (.bipush 40, 2) := by decide +kernel
theorem md_M_init_23 : decode mc_M_init 23 = .ok (.newarray .int, 2) := by decide +kernel
theorem md_M_init_25 : decode mc_M_init 25 = .ok (.putfield 16, 3) := by decide +kernel
theorem md_M_init_28 : decode mc_M_init 28 = .ok (.aload_n 0, 1) := by decide +kernel
theorem md_M_init_29 : decode mc_M_init 29 = .ok (.bipush 40, 2) := by decide +kernel
theorem md_M_init_31 : decode mc_M_init 31 = .ok (.newarray .int, 2) := by decide +kernel
theorem md_M_init_33 : decode mc_M_init 33 = .ok (.putfield 19, 3) := by decide +kernel
theorem md_M_init_36 : decode mc_M_init 36 = .ok (.aload_n 0, 1) := by decide +kernel
theorem md_M_init_37 : decode mc_M_init 37 = .ok (.bipush 40, 2) := by decide +kernel
theorem md_M_init_39 : decode mc_M_init 39 = .ok (.newarray .int, 2) := by decide +kernel
theorem md_M_init_41 : decode mc_M_init 41 = .ok (.putfield 22, 3) := by decide +kernel
theorem md_M_init_44 : decode mc_M_init 44 = .ok (.aload_n 0, 1) := by decide +kernel
theorem md_M_init_45 : decode mc_M_init 45 = .ok (.bipush 40, 2) := by decide +kernel
theorem md_M_init_47 : decode mc_M_init 47 = .ok (.newarray .int, 2) := by decide +kernel
theorem md_M_init_49 : decode mc_M_init 49 = .ok (.putfield 25, 3) := by decide +kernel
theorem md_M_init_52 : decode mc_M_init 52 = .ok (.aload_n 0, 1) := by decide +kernel
theorem md_M_init_53 : decode mc_M_init 53 = .ok (.bipush 40, 2) := by decide +kernel
theorem md_M_init_55 : decode mc_M_init 55 = .ok (.newarray .boolean, 2) := by decide +kernel
theorem md_M_init_57 : decode mc_M_init 57 = .ok (.putfield 28, 3) := by decide +kernel
theorem md_M_init_60 : decode mc_M_init 60 = .ok (.aload_n 0, 1) := by decide +kernel
theorem md_M_init_61 : decode mc_M_init 61 = .ok (.bipush 32, 2) := by decide +kernel
theorem md_M_init_63 : decode mc_M_init 63 = .ok (.newarray .int, 2) := by decide +kernel
theorem md_M_init_65 : decode mc_M_init 65 = .ok (.putfield 32, 3) := by decide +kernel
theorem md_M_init_68 : decode mc_M_init 68 = .ok (.aload_n 0, 1) := by decide +kernel
theorem md_M_init_69 : decode mc_M_init 69 = .ok (.bipush 32, 2) := by decide +kernel
theorem md_M_init_71 : decode mc_M_init 71 = .ok (.newarray .int, 2) := by decide +kernel
theorem md_M_init_73 : decode mc_M_init 73 = .ok (.putfield 35, 3) := by decide +kernel
theorem md_M_init_76 : decode mc_M_init 76 = .ok (.aload_n 0, 1) := by decide +kernel
theorem md_M_init_77 : decode mc_M_init 77 = .ok (.bipush 32, 2) := by decide +kernel
theorem md_M_init_79 : decode mc_M_init 79 = .ok (.newarray .int, 2) := by decide +kernel
theorem md_M_init_81 : decode mc_M_init 81 = .ok (.putfield 38, 3) := by decide +kernel
theorem md_M_init_84 : decode mc_M_init 84 = .ok (.aload_n 0, 1) := by decide +kernel
theorem md_M_init_85 : decode mc_M_init 85 = .ok (.bipush 32, 2) := by decide +kernel
theorem md_M_init_87 : decode mc_M_init 87 = .ok (.newarray .int, 2) := by decide +kernel
theorem md_M_init_89 : decode mc_M_init 89 = .ok (.putfield 41, 3) := by decide +kernel
theorem md_M_init_92 : decode mc_M_init 92 = .ok (.return_, 1) := by decide +kernel
theorem md_M_thrown_0 : decode mc_M_thrown 0 = .ok (.aload_n 0, 1) := by decide +kernel
theorem md_M_thrown_1 : decode mc_M_thrown 1 = .ok (.getfield 44, 3) := by decide +kernel
theorem md_M_thrown_4 : decode mc_M_thrown 4 = .ok (.ireturn, 1) := by decide +kernel
theorem md_M_submit_0 : decode mc_M_submit 0 = .ok (.iload_n 2, 1) := by decide +kernel
theorem md_M_submit_1 : decode mc_M_submit 1 = .ok (.iconst 4, 1) := by decide +kernel
theorem md_M_submit_2 : decode mc_M_submit 2 = .ok (.ishr, 1) := by decide +kernel
theorem md_M_submit_3 : decode mc_M_submit 3 = .ok (.istore 5, 2) := by decide +kernel
theorem md_M_submit_5 : decode mc_M_submit 5 = .ok (.iload_n 2, 1) := by decide +kernel
theorem md_M_submit_6 : decode mc_M_submit 6 = .ok (.iconst 1, 1) := by decide +kernel
theorem md_M_submit_7 : decode mc_M_submit 7 = .ok (.ishr, 1) := by decide +kernel
theorem md_M_submit_8 : decode mc_M_submit 8 = .ok (.bipush 7, 2) := by decide +kernel
theorem md_M_submit_10 : decode mc_M_submit 10 = .ok (.iand, 1) := by decide +kernel
theorem md_M_submit_11 : decode mc_M_submit 11 = .ok (.istore 6, 2) := by decide +kernel
theorem md_M_submit_13 : decode mc_M_submit 13 = .ok (.iload_n 2, 1) := by decide +kernel
theorem md_M_submit_14 : decode mc_M_submit 14 = .ok (.iconst 1, 1) := by decide +kernel
theorem md_M_submit_15 : decode mc_M_submit 15 = .ok (.iand, 1) := by decide +kernel
theorem md_M_submit_16 : decode mc_M_submit 16 = .ok (.istore 7, 2) := by decide +kernel
theorem md_M_submit_18 : decode mc_M_submit 18 = .ok (.iload_n 2, 1) := by decide +kernel
theorem md_M_submit_19 : decode mc_M_submit 19 = .ok (.iconst 0, 1) := by decide +kernel
theorem md_M_submit_20 : decode mc_M_submit 20 = .ok (.bipush 127, 2) := by decide +kernel
theorem md_M_submit_22 : decode mc_M_submit 22 = .ok (.invokestatic 109, 3) := by decide +kernel
theorem md_M_submit_25 : decode mc_M_submit 25 = .ok (.ifCond .eq 35, 3) := by decide +kernel
theorem md_M_submit_28 : decode mc_M_submit 28 = .ok (.iload 6, 2) := by decide +kernel
theorem md_M_submit_30 : decode mc_M_submit 30 = .ok (.iconst 5, 1) := by decide +kernel
theorem md_M_submit_31 : decode mc_M_submit 31 = .ok (.if_icmp .gt 29, 3) := by decide +kernel
theorem md_M_submit_34 : decode mc_M_submit 34 = .ok (.iload_n 3, 1) := by decide +kernel
theorem md_M_submit_35 : decode mc_M_submit 35 = .ok (.iconst 1, 1) := by decide +kernel
theorem md_M_submit_36 : decode mc_M_submit 36 = .ok (.sipush 10000, 3) := by decide +kernel
theorem md_M_submit_39 : decode mc_M_submit 39 = .ok (.invokestatic 109, 3) := by decide +kernel
theorem md_M_submit_42 : decode mc_M_submit 42 = .ok (.ifCond .eq 18, 3) := by decide +kernel
theorem md_M_submit_45 : decode mc_M_submit 45 = .ok (.iload 4, 2) := by decide +kernel
theorem md_M_submit_47 : decode mc_M_submit 47 = .ok (.iconst 1, 1) := by decide +kernel
theorem md_M_submit_48 : decode mc_M_submit 48 = .ok (.ldc 112, 2) := by decide +kernel
theorem md_M_submit_50 : decode mc_M_submit 50 = .ok (.invokestatic 109, 3) := by decide +kernel
theorem md_M_submit_53 : decode mc_M_submit 53 = .ok (.ifCond .eq 7, 3) := by decide +kernel
theorem md_M_submit_56 : decode mc_M_submit 56 = .ok (.iconst 1, 1) := by decide +kernel
theorem md_M_submit_57 : decode mc_M_submit 57 = .ok (.goto 4, 3) := by decide +kernel
theorem md_M_submit_60 : decode mc_M_submit 60 = .ok (.iconst 0, 1) := by decide +kernel
theorem md_M_submit_61 : decode mc_M_submit 61 = .ok (.istore 8, 2) := by decide +kernel
theorem md_M_submit_63 : decode mc_M_submit 63 = .ok (.aload_n 0, 1) := by decide +kernel
theorem md_M_submit_64 : decode mc_M_submit 64 = .ok (.iload 8, 2) := by decide +kernel
theorem md_M_submit_66 : decode mc_M_submit 66 = .ok (.ifCond .ne 7, 3) := by decide +kernel
theorem md_M_submit_69 : decode mc_M_submit 69 = .ok (.iconst 1, 1) := by decide +kernel
theorem md_M_submit_70 : decode mc_M_submit 70 = .ok (.goto 4, 3) := by decide +kernel
theorem md_M_submit_73 : decode mc_M_submit 73 = .ok (.iconst 0, 1) := by decide +kernel
theorem md_M_submit_74 : decode mc_M_submit 74 = .ok (.putfield 44, 3) := by decide +kernel
theorem md_M_submit_77 : decode mc_M_submit 77 = .ok (.iload 8, 2) := by decide +kernel
theorem md_M_submit_79 : decode mc_M_submit 79 = .ok (.ifCond .eq 41, 3) := by decide +kernel
theorem md_M_submit_82 : decode mc_M_submit 82 = .ok (.aload_n 0, 1) := by decide +kernel
theorem md_M_submit_83 : decode mc_M_submit 83 = .ok (.iload_n 1, 1) := by decide +kernel
theorem md_M_submit_84 : decode mc_M_submit 84 = .ok (.invokevirtual 113, 3) := by decide +kernel
theorem md_M_submit_87 : decode mc_M_submit 87 = .ok (.ifCond .ge 28, 3) := by decide +kernel
theorem md_M_submit_90 : decode mc_M_submit 90 = .ok (.aload_n 0, 1) := by decide +kernel
theorem md_M_submit_91 : decode mc_M_submit 91 = .ok (.getfield 48, 3) := by decide +kernel
theorem md_M_submit_94 : decode mc_M_submit 94 = .ok (.bipush 40, 2) := by decide +kernel
theorem md_M_submit_96 : decode mc_M_submit 96 = .ok (.if_icmp .eq 19, 3) := by decide +kernel
theorem md_M_submit_99 : decode mc_M_submit 99 = .ok (.aload_n 0, 1) := by decide +kernel
theorem md_M_submit_100 : decode mc_M_submit 100 = .ok (.iload 5, 2) := by decide +kernel
theorem md_M_submit_102 : decode mc_M_submit 102 = .ok (.iload 7, 2) := by decide +kernel
theorem md_M_submit_104 : decode mc_M_submit 104 = .ok (.iload 6, 2) := by decide +kernel
theorem md_M_submit_106 : decode mc_M_submit 106 = .ok (.iload_n 3, 1) := by decide +kernel
theorem md_M_submit_107 : decode mc_M_submit 107 = .ok (.iload 4, 2) := by decide +kernel
theorem md_M_submit_109 : decode mc_M_submit 109 = .ok (.invokevirtual 116, 3) := by decide +kernel
theorem md_M_submit_112 : decode mc_M_submit 112 = .ok (.ifCond .eq 8, 3) := by decide +kernel
theorem md_M_submit_115 : decode mc_M_submit 115 = .ok (.aload_n 0, 1) := by decide +kernel
theorem md_M_submit_116 : decode mc_M_submit 116 = .ok (.iconst 2, 1) := by decide +kernel
theorem md_M_submit_117 : decode mc_M_submit 117 = .ok (.putfield 44, 3) := by decide +kernel
theorem md_M_submit_120 : decode mc_M_submit 120 = .ok (.aload_n 0, 1) := by decide +kernel
theorem md_M_submit_121 : decode mc_M_submit 121 = .ok (.getfield 44, 3) := by decide +kernel
theorem md_M_submit_124 : decode mc_M_submit 124 = .ok (.ifCond .le 5, 3) := by decide +kernel
theorem md_M_submit_127 : decode mc_M_submit 127 = .ok (.iconst 0, 1) := by decide +kernel
theorem md_M_submit_128 : decode mc_M_submit 128 = .ok (.ireturn, 1) := by decide +kernel
theorem md_M_submit_129 : decode mc_M_submit 129 = .ok (.iload 4, 2) := by decide +kernel
theorem md_M_submit_131 : decode mc_M_submit 131 = .ok (.istore 9, 2) := by decide +kernel
theorem md_M_submit_133 : decode mc_M_submit 133 = .ok (.iload 6, 2) := by decide +kernel
theorem md_M_submit_135 : decode mc_M_submit 135 = .ok (.iconst 4, 1) := by decide +kernel
theorem md_M_submit_136 : decode mc_M_submit 136 = .ok (.if_icmp .ge 27, 3) := by decide +kernel
theorem md_M_submit_139 : decode mc_M_submit 139 = .ok (.aload_n 0, 1) := by decide +kernel
theorem md_M_submit_140 : decode mc_M_submit 140 = .ok (.iload_n 1, 1) := by decide +kernel
theorem md_M_submit_141 : decode mc_M_submit 141 = .ok (.iload 5, 2) := by decide +kernel
theorem md_M_submit_143 : decode mc_M_submit 143 = .ok (.iload 7, 2) := by decide +kernel
theorem md_M_submit_145 : decode mc_M_submit 145 = .ok (.iload 6, 2) := by decide +kernel
theorem md_M_submit_147 : decode mc_M_submit 147 = .ok (.iconst 1, 1) := by decide +kernel
theorem md_M_submit_148 : decode mc_M_submit 148 = .ok (.if_icmp .ne 7, 3) := by decide +kernel
theorem md_M_submit_151 : decode mc_M_submit 151 = .ok (.iconst 0, 1) := by decide +kernel
theorem md_M_submit_152 : decode mc_M_submit 152 = .ok (.goto 4, 3) := by decide +kernel
theorem md_M_submit_155 : decode mc_M_submit 155 = .ok (.iload_n 3, 1) := by decide +kernel
theorem md_M_submit_156 : decode mc_M_submit 156 = .ok (.iload 4, 2) := by decide +kernel
theorem md_M_submit_158 : decode mc_M_submit 158 = .ok (.invokevirtual 101, 3) := by decide +kernel
theorem md_M_submit_161 : decode mc_M_submit 161 = .ok (.istore 9, 2) := by decide +kernel
theorem md_M_submit_163 : decode mc_M_submit 163 = .ok (.iload 6, 2) := by decide +kernel
theorem md_M_submit_165 : decode mc_M_submit 165 = .ok (.iconst 3, 1) := by decide +kernel
theorem md_M_submit_166 : decode mc_M_submit 166 = .ok (.if_icmp .gt 13, 3) := by decide +kernel
theorem md_M_submit_169 : decode mc_M_submit 169 = .ok (.iload 6, 2) := by decide +kernel
theorem md_M_submit_171 : decode mc_M_submit 171 = .ok (.ifCond .ne 42, 3) := by decide +kernel
theorem md_M_submit_174 : decode mc_M_submit 174 = .ok (.iload 9, 2) := by decide +kernel
theorem md_M_submit_176 : decode mc_M_submit 176 = .ok (.ifCond .le 37, 3) := by decide +kernel
theorem md_M_submit_179 : decode mc_M_submit 179 = .ok (.aload_n 0, 1) := by decide +kernel
theorem md_M_submit_180 : decode mc_M_submit 180 = .ok (.iload_n 1, 1) := by decide +kernel
theorem md_M_submit_181 : decode mc_M_submit 181 = .ok (.iload 5, 2) := by decide +kernel
theorem md_M_submit_183 : decode mc_M_submit 183 = .ok (.iload 7, 2) := by decide +kernel
theorem md_M_submit_185 : decode mc_M_submit 185 = .ok (.iload_n 3, 1) := by decide +kernel
theorem md_M_submit_186 : decode mc_M_submit 186 = .ok (.iload 9, 2) := by decide +kernel
theorem md_M_submit_188 : decode mc_M_submit 188 = .ok (.invokevirtual 120, 3) := by decide +kernel
theorem md_M_submit_191 : decode mc_M_submit 191 = .ok (.aload_n 0, 1) := by decide +kernel
theorem md_M_submit_192 : decode mc_M_submit 192 = .ok (.getfield 28, 3) := by decide +kernel
theorem md_M_submit_195 : decode mc_M_submit 195 = .ok (.aload_n 0, 1) := by decide +kernel
theorem md_M_submit_196 : decode mc_M_submit 196 = .ok (.getfield 48, 3) := by decide +kernel
theorem md_M_submit_199 : decode mc_M_submit 199 = .ok (.iconst 1, 1) := by decide +kernel
theorem md_M_submit_200 : decode mc_M_submit 200 = .ok (.isub, 1) := by decide +kernel
theorem md_M_submit_201 : decode mc_M_submit 201 = .ok (.iload 6, 2) := by decide +kernel
theorem md_M_submit_203 : decode mc_M_submit 203 = .ok (.iconst 5, 1) := by decide +kernel
theorem md_M_submit_204 : decode mc_M_submit 204 = .ok (.if_icmp .ne 7, 3) := by decide +kernel
theorem md_M_submit_207 : decode mc_M_submit 207 = .ok (.iconst 1, 1) := by decide +kernel
theorem md_M_submit_208 : decode mc_M_submit 208 = .ok (.goto 4, 3) := by decide +kernel
theorem md_M_submit_211 : decode mc_M_submit 211 = .ok (.iconst 0, 1) := by decide +kernel
theorem md_M_submit_212 : decode mc_M_submit 212 = .ok (.bastore, 1) := by decide +kernel
theorem md_M_submit_213 : decode mc_M_submit 213 = .ok (.aload_n 0, 1) := by decide +kernel
theorem md_M_submit_214 : decode mc_M_submit 214 = .ok (.invokevirtual 124, 3) := by decide +kernel
theorem md_M_submit_217 : decode mc_M_submit 217 = .ok (.iload 4, 2) := by decide +kernel
theorem md_M_submit_219 : decode mc_M_submit 219 = .ok (.iload 9, 2) := by decide +kernel
theorem md_M_submit_221 : decode mc_M_submit 221 = .ok (.isub, 1) := by decide +kernel
theorem md_M_submit_222 : decode mc_M_submit 222 = .ok (.ireturn, 1) := by decide +kernel
theorem md_M_among_0 : decode mc_M_among 0 = .ok (.iload_n 0, 1) := by decide +kernel
theorem md_M_among_1 : decode mc_M_among 1 = .ok (.iload_n 1, 1) := by decide +kernel
theorem md_M_among_2 : decode mc_M_among 2 = .ok (.if_icmp .lt 12, 3) := by decide +kernel
theorem md_M_among_5 : decode mc_M_among 5 = .ok (.iload_n 0, 1) := by decide +kernel
theorem md_M_among_6 : decode mc_M_among 6 = .ok (.iload_n 2, 1) := by decide +kernel
theorem md_M_among_7 : decode mc_M_among 7 = .ok (.if_icmp .gt 7, 3) := by decide +kernel
theorem md_M_among_10 : decode mc_M_among 10 = .ok (.iconst 1, 1) := by decide +kernel
theorem md_M_among_11 : decode mc_M_among 11 = .ok (.goto 4, 3) := by decide +kernel
theorem md_M_among_14 : decode mc_M_among 14 = .ok (.iconst 0, 1) := by decide +kernel
theorem md_M_among_15 : decode mc_M_among 15 = .ok (.ireturn, 1) := by decide +kernel
theorem md_M_find_0 : decode mc_M_find 0 = .ok (.iconst (-1), 1) := by decide +kernel
theorem md_M_find_1 : decode mc_M_find 1 = .ok (.istore_n 2, 1) := by decide +kernel
theorem md_M_find_2 : decode mc_M_find 2 = .ok (.iconst 0, 1) := by decide +kernel
theorem md_M_find_3 : decode mc_M_find 3 = .ok (.istore_n 3, 1) := by decide +kernel
theorem md_M_find_4 : decode mc_M_find 4 = .ok (.iload_n 3, 1) := by decide +kernel
theorem md_M_find_5 : decode mc_M_find 5 = .ok (.aload_n 0, 1) := by decide +kernel
theorem md_M_find_6 : decode mc_M_find 6 = .ok (.getfield 48, 3) := by decide +kernel
theorem md_M_find_9 : decode mc_M_find 9 = .ok (.if_icmp .ge 25, 3) := by decide +kernel
theorem md_M_find_12 : decode mc_M_find 12 = .ok (.aload_n 0, 1) := by decide +kernel
theorem md_M_find_13 : decode mc_M_find 13 = .ok (.getfield 7, 3) := by decide +kernel
theorem md_M_find_16 : decode mc_M_find 16 = .ok (.iload_n 3, 1) := by decide +kernel
theorem md_M_find_17 : decode mc_M_find 17 = .ok (.iaload, 1) := by decide +kernel
theorem md_M_find_18 : decode mc_M_find 18 = .ok (.iload_n 1, 1) := by decide +kernel
theorem md_M_find_19 : decode mc_M_find 19 = .ok (.if_icmp .ne 7, 3) := by decide +kernel
theorem md_M_find_22 : decode mc_M_find 22 = .ok (.iload_n 3, 1) := by decide +kernel
theorem md_M_find_23 : decode mc_M_find 23 = .ok (.goto 4, 3) := by decide +kernel
theorem md_M_find_26 : decode mc_M_find 26 = .ok (.iload_n 2, 1) := by decide +kernel
theorem md_M_find_27 : decode mc_M_find 27 = .ok (.istore_n 2, 1) := by decide +kernel
theorem md_M_find_28 : decode mc_M_find 28 = .ok (.iinc 3 1, 3) := by decide +kernel
theorem md_M_find_31 : decode mc_M_find 31 = .ok (.goto (-27), 3) := by decide +kernel
theorem md_M_find_34 : decode mc_M_find 34 = .ok (.iload_n 2, 1) := by decide +kernel
theorem md_M_find_35 : decode mc_M_find 35 = .ok (.ireturn, 1) := by decide +kernel
theorem md_M_refused_0 : decode mc_M_refused 0 = .ok (.iload_n 3, 1) := by decide +kernel
theorem md_M_refused_1 : decode mc_M_refused 1 = .ok (.iconst 3, 1) := by decide +kernel
theorem md_M_refused_2 : decode mc_M_refused 2 = .ok (.if_icmp .ne 26, 3) := by decide +kernel
theorem md_M_refused_5 : decode mc_M_refused 5 = .ok (.aload_n 0, 1) := by decide +kernel
theorem md_M_refused_6 : decode mc_M_refused 6 = .ok (.iload_n 1, 1) := by decide +kernel
theorem md_M_refused_7 : decode mc_M_refused 7 = .ok (.iload_n 2, 1) := by decide +kernel
theorem md_M_refused_8 : decode mc_M_refused 8 = .ok (.iload 4, 2) := by decide +kernel
theorem md_M_refused_10 : decode mc_M_refused 10 = .ok (.invokevirtual 105, 3) := by decide +kernel
theorem md_M_refused_13 : decode mc_M_refused 13 = .ok (.istore 6, 2) := by decide +kernel
theorem md_M_refused_15 : decode mc_M_refused 15 = .ok (.iload 6, 2) := by decide +kernel
theorem md_M_refused_17 : decode mc_M_refused 17 = .ok (.iload 5, 2) := by decide +kernel
theorem md_M_refused_19 : decode mc_M_refused 19 = .ok (.if_icmp .ge 7, 3) := by decide +kernel
theorem md_M_refused_22 : decode mc_M_refused 22 = .ok (.iconst 1, 1) := by decide +kernel
theorem md_M_refused_23 : decode mc_M_refused 23 = .ok (.goto 4, 3) := by decide +kernel
theorem md_M_refused_26 : decode mc_M_refused 26 = .ok (.iconst 0, 1) := by decide +kernel
theorem md_M_refused_27 : decode mc_M_refused 27 = .ok (.ireturn, 1) := by decide +kernel
theorem md_M_refused_28 : decode mc_M_refused 28 = .ok (.aload_n 0, 1) := by decide +kernel
theorem md_M_refused_29 : decode mc_M_refused 29 = .ok (.iconst 1, 1) := by decide +kernel
theorem md_M_refused_30 : decode mc_M_refused 30 = .ok (.iload_n 2, 1) := by decide +kernel
theorem md_M_refused_31 : decode mc_M_refused 31 = .ok (.isub, 1) := by decide +kernel
theorem md_M_refused_32 : decode mc_M_refused 32 = .ok (.invokevirtual 71, 3) := by decide +kernel
theorem md_M_refused_35 : decode mc_M_refused 35 = .ok (.istore 6, 2) := by decide +kernel
theorem md_M_refused_37 : decode mc_M_refused 37 = .ok (.iload_n 3, 1) := by decide +kernel
theorem md_M_refused_38 : decode mc_M_refused 38 = .ok (.iconst 4, 1) := by decide +kernel
theorem md_M_refused_39 : decode mc_M_refused 39 = .ok (.if_icmp .ne 24, 3) := by decide +kernel
theorem md_M_refused_42 : decode mc_M_refused 42 = .ok (.iload 6, 2) := by decide +kernel
theorem md_M_refused_44 : decode mc_M_refused 44 = .ok (.ifCond .lt 19, 3) := by decide +kernel
theorem md_M_refused_47 : decode mc_M_refused 47 = .ok (.aload_n 0, 1) := by decide +kernel
theorem md_M_refused_48 : decode mc_M_refused 48 = .ok (.iload_n 2, 1) := by decide +kernel
theorem md_M_refused_49 : decode mc_M_refused 49 = .ok (.iload 4, 2) := by decide +kernel
theorem md_M_refused_51 : decode mc_M_refused 51 = .ok (.iload 6, 2) := by decide +kernel
theorem md_M_refused_53 : decode mc_M_refused 53 = .ok (.invokevirtual 75, 3) := by decide +kernel
theorem md_M_refused_56 : decode mc_M_refused 56 = .ok (.ifCond .eq 7, 3) := by decide +kernel
theorem md_M_refused_59 : decode mc_M_refused 59 = .ok (.iconst 1, 1) := by decide +kernel
theorem md_M_refused_60 : decode mc_M_refused 60 = .ok (.goto 4, 3) := by decide +kernel
theorem md_M_refused_63 : decode mc_M_refused 63 = .ok (.iconst 0, 1) := by decide +kernel
theorem md_M_refused_64 : decode mc_M_refused 64 = .ok (.ireturn, 1) := by decide +kernel
theorem md_M_within_0 : decode mc_M_within 0 = .ok (.iconst 0, 1) := by decide +kernel
theorem md_M_within_1 : decode mc_M_within 1 = .ok (.istore 4, 2) := by decide +kernel
theorem md_M_within_3 : decode mc_M_within 3 = .ok (.iconst 0, 1) := by decide +kernel
theorem md_M_within_4 : decode mc_M_within 4 = .ok (.istore 5, 2) := by decide +kernel
theorem md_M_within_6 : decode mc_M_within 6 = .ok (.iload 5, 2) := by decide +kernel
theorem md_M_within_8 : decode mc_M_within 8 = .ok (.aload_n 0, 1) := by decide +kernel
theorem md_M_within_9 : decode mc_M_within 9 = .ok (.getfield 48, 3) := by decide +kernel
theorem md_M_within_12 : decode mc_M_within 12 = .ok (.if_icmp .ge 80, 3) := by decide +kernel
theorem md_M_within_15 : decode mc_M_within 15 = .ok (.aload_n 0, 1) := by decide +kernel
theorem md_M_within_16 : decode mc_M_within 16 = .ok (.getfield 28, 3) := by decide +kernel
theorem md_M_within_19 : decode mc_M_within 19 = .ok (.iload 5, 2) := by decide +kernel
theorem md_M_within_21 : decode mc_M_within 21 = .ok (.baload, 1) := by decide +kernel
theorem md_M_within_22 : decode mc_M_within 22 = .ok (.ifCond .ne 40, 3) := by decide +kernel
theorem md_M_within_25 : decode mc_M_within 25 = .ok (.aload_n 0, 1) := by decide +kernel
theorem md_M_within_26 : decode mc_M_within 26 = .ok (.getfield 16, 3) := by decide +kernel
theorem md_M_within_29 : decode mc_M_within 29 = .ok (.iload 5, 2) := by decide +kernel
theorem md_M_within_31 : decode mc_M_within 31 = .ok (.iaload, 1) := by decide +kernel
theorem md_M_within_32 : decode mc_M_within 32 = .ok (.iload_n 2, 1) := by decide +kernel
theorem md_M_within_33 : decode mc_M_within 33 = .ok (.if_icmp .eq 29, 3) := by decide +kernel
theorem md_M_within_36 : decode mc_M_within 36 = .ok (.aload_n 0, 1) := by decide +kernel
theorem md_M_within_37 : decode mc_M_within 37 = .ok (.getfield 13, 3) := by decide +kernel
theorem md_M_within_40 : decode mc_M_within 40 = .ok (.iload 5, 2) := by decide +kernel
theorem md_M_within_42 : decode mc_M_within 42 = .ok (.iaload, 1) := by decide +kernel
theorem md_M_within_43 : decode mc_M_within 43 = .ok (.iload_n 1, 1) := by decide +kernel
theorem md_M_within_44 : decode mc_M_within 44 = .ok (.if_icmp .eq 18, 3) := by decide +kernel
theorem md_M_within_47 : decode mc_M_within 47 = .ok (.aload_n 0, 1) := by decide +kernel
theorem md_M_within_48 : decode mc_M_within 48 = .ok (.iload_n 2, 1) := by decide +kernel
theorem md_M_within_49 : decode mc_M_within 49 = .ok (.iload_n 3, 1) := by decide +kernel
theorem md_M_within_50 : decode mc_M_within 50 = .ok (.iload 5, 2) := by decide +kernel
theorem md_M_within_52 : decode mc_M_within 52 = .ok (.invokevirtual 75, 3) := by decide +kernel
theorem md_M_within_55 : decode mc_M_within 55 = .ok (.ifCond .eq 7, 3) := by decide +kernel
theorem md_M_within_58 : decode mc_M_within 58 = .ok (.iconst 1, 1) := by decide +kernel
theorem md_M_within_59 : decode mc_M_within 59 = .ok (.goto 4, 3) := by decide +kernel
theorem md_M_within_62 : decode mc_M_within 62 = .ok (.iconst 0, 1) := by decide +kernel
theorem md_M_within_63 : decode mc_M_within 63 = .ok (.istore 6, 2) := by decide +kernel
theorem md_M_within_65 : decode mc_M_within 65 = .ok (.iload 4, 2) := by decide +kernel
theorem md_M_within_67 : decode mc_M_within 67 = .ok (.iload 6, 2) := by decide +kernel
theorem md_M_within_69 : decode mc_M_within 69 = .ok (.ifCond .eq 13, 3) := by decide +kernel
theorem md_M_within_72 : decode mc_M_within 72 = .ok (.aload_n 0, 1) := by decide +kernel
theorem md_M_within_73 : decode mc_M_within 73 = .ok (.getfield 22, 3) := by decide +kernel
theorem md_M_within_76 : decode mc_M_within 76 = .ok (.iload 5, 2) := by decide +kernel
theorem md_M_within_78 : decode mc_M_within 78 = .ok (.iaload, 1) := by decide +kernel
theorem md_M_within_79 : decode mc_M_within 79 = .ok (.goto 4, 3) := by decide +kernel
theorem md_M_within_82 : decode mc_M_within 82 = .ok (.iconst 0, 1) := by decide +kernel
theorem md_M_within_83 : decode mc_M_within 83 = .ok (.iadd, 1) := by decide +kernel
theorem md_M_within_84 : decode mc_M_within 84 = .ok (.istore 4, 2) := by decide +kernel
theorem md_M_within_86 : decode mc_M_within 86 = .ok (.iinc 5 1, 3) := by decide +kernel
theorem md_M_within_89 : decode mc_M_within 89 = .ok (.goto (-83), 3) := by decide +kernel
theorem md_M_within_92 : decode mc_M_within 92 = .ok (.iload 4, 2) := by decide +kernel
theorem md_M_within_94 : decode mc_M_within 94 = .ok (.ireturn, 1) := by decide +kernel
theorem md_M_fits_0 : decode mc_M_fits 0 = .ok (.iload_n 2, 1) := by decide +kernel
theorem md_M_fits_1 : decode mc_M_fits 1 = .ok (.ifCond .eq 30, 3) := by decide +kernel
theorem md_M_fits_4 : decode mc_M_fits 4 = .ok (.iload_n 1, 1) := by decide +kernel
theorem md_M_fits_5 : decode mc_M_fits 5 = .ok (.ifCond .ne 16, 3) := by decide +kernel
theorem md_M_fits_8 : decode mc_M_fits 8 = .ok (.iload_n 2, 1) := by decide +kernel
theorem md_M_fits_9 : decode mc_M_fits 9 = .ok (.aload_n 0, 1) := by decide +kernel
theorem md_M_fits_10 : decode mc_M_fits 10 = .ok (.getfield 19, 3) := by decide +kernel
theorem md_M_fits_13 : decode mc_M_fits 13 = .ok (.iload_n 3, 1) := by decide +kernel
theorem md_M_fits_14 : decode mc_M_fits 14 = .ok (.iaload, 1) := by decide +kernel
theorem md_M_fits_15 : decode mc_M_fits 15 = .ok (.if_icmp .lt 20, 3) := by decide +kernel
theorem md_M_fits_18 : decode mc_M_fits 18 = .ok (.goto 13, 3) := by decide +kernel
theorem md_M_fits_21 : decode mc_M_fits 21 = .ok (.iload_n 2, 1) := by decide +kernel
theorem md_M_fits_22 : decode mc_M_fits 22 = .ok (.aload_n 0, 1) := by decide +kernel
theorem md_M_fits_23 : decode mc_M_fits 23 = .ok (.getfield 19, 3) := by decide +kernel
theorem md_M_fits_26 : decode mc_M_fits 26 = .ok (.iload_n 3, 1) := by decide +kernel
theorem md_M_fits_27 : decode mc_M_fits 27 = .ok (.iaload, 1) := by decide +kernel
theorem md_M_fits_28 : decode mc_M_fits 28 = .ok (.if_icmp .gt 7, 3) := by decide +kernel
theorem md_M_fits_31 : decode mc_M_fits 31 = .ok (.iconst 1, 1) := by decide +kernel
theorem md_M_fits_32 : decode mc_M_fits 32 = .ok (.goto 4, 3) := by decide +kernel
theorem md_M_fits_35 : decode mc_M_fits 35 = .ok (.iconst 0, 1) := by decide +kernel
theorem md_M_fits_36 : decode mc_M_fits 36 = .ok (.ireturn, 1) := by decide +kernel
theorem md_M_first_0 : decode mc_M_first 0 = .ok (.iconst (-1), 1) := by decide +kernel
theorem md_M_first_1 : decode mc_M_first 1 = .ok (.istore_n 2, 1) := by decide +kernel
theorem md_M_first_2 : decode mc_M_first 2 = .ok (.iconst 0, 1) := by decide +kernel
theorem md_M_first_3 : decode mc_M_first 3 = .ok (.istore_n 3, 1) := by decide +kernel
theorem md_M_first_4 : decode mc_M_first 4 = .ok (.iload_n 3, 1) := by decide +kernel
theorem md_M_first_5 : decode mc_M_first 5 = .ok (.aload_n 0, 1) := by decide +kernel
theorem md_M_first_6 : decode mc_M_first 6 = .ok (.getfield 48, 3) := by decide +kernel
theorem md_M_first_9 : decode mc_M_first 9 = .ok (.if_icmp .ge 59, 3) := by decide +kernel
theorem md_M_first_12 : decode mc_M_first 12 = .ok (.aload_n 0, 1) := by decide +kernel
theorem md_M_first_13 : decode mc_M_first 13 = .ok (.getfield 28, 3) := by decide +kernel
theorem md_M_first_16 : decode mc_M_first 16 = .ok (.iload_n 3, 1) := by decide +kernel
theorem md_M_first_17 : decode mc_M_first 17 = .ok (.baload, 1) := by decide +kernel
theorem md_M_first_18 : decode mc_M_first 18 = .ok (.ifCond .ne 17, 3) := by decide +kernel
theorem md_M_first_21 : decode mc_M_first 21 = .ok (.aload_n 0, 1) := by decide +kernel
theorem md_M_first_22 : decode mc_M_first 22 = .ok (.getfield 16, 3) := by decide +kernel
theorem md_M_first_25 : decode mc_M_first 25 = .ok (.iload_n 3, 1) := by decide +kernel
theorem md_M_first_26 : decode mc_M_first 26 = .ok (.iaload, 1) := by decide +kernel
theorem md_M_first_27 : decode mc_M_first 27 = .ok (.iload_n 1, 1) := by decide +kernel
theorem md_M_first_28 : decode mc_M_first 28 = .ok (.if_icmp .ne 7, 3) := by decide +kernel
theorem md_M_first_31 : decode mc_M_first 31 = .ok (.iconst 1, 1) := by decide +kernel
theorem md_M_first_32 : decode mc_M_first 32 = .ok (.goto 4, 3) := by decide +kernel
theorem md_M_first_35 : decode mc_M_first 35 = .ok (.iconst 0, 1) := by decide +kernel
theorem md_M_first_36 : decode mc_M_first 36 = .ok (.istore 4, 2) := by decide +kernel
theorem md_M_first_38 : decode mc_M_first 38 = .ok (.iload 4, 2) := by decide +kernel
theorem md_M_first_40 : decode mc_M_first 40 = .ok (.ifCond .eq 20, 3) := by decide +kernel
theorem md_M_first_43 : decode mc_M_first 43 = .ok (.iload_n 2, 1) := by decide +kernel
theorem md_M_first_44 : decode mc_M_first 44 = .ok (.ifCond .lt 12, 3) := by decide +kernel
theorem md_M_first_47 : decode mc_M_first 47 = .ok (.aload_n 0, 1) := by decide +kernel
theorem md_M_first_48 : decode mc_M_first 48 = .ok (.iload_n 3, 1) := by decide +kernel
theorem md_M_first_49 : decode mc_M_first 49 = .ok (.iload_n 2, 1) := by decide +kernel
theorem md_M_first_50 : decode mc_M_first 50 = .ok (.invokevirtual 54, 3) := by decide +kernel
theorem md_M_first_53 : decode mc_M_first 53 = .ok (.ifCond .eq 7, 3) := by decide +kernel
theorem md_M_first_56 : decode mc_M_first 56 = .ok (.iload_n 3, 1) := by decide +kernel
theorem md_M_first_57 : decode mc_M_first 57 = .ok (.goto 4, 3) := by decide +kernel
theorem md_M_first_60 : decode mc_M_first 60 = .ok (.iload_n 2, 1) := by decide +kernel
theorem md_M_first_61 : decode mc_M_first 61 = .ok (.istore_n 2, 1) := by decide +kernel
theorem md_M_first_62 : decode mc_M_first 62 = .ok (.iinc 3 1, 3) := by decide +kernel
theorem md_M_first_65 : decode mc_M_first 65 = .ok (.goto (-61), 3) := by decide +kernel
theorem md_M_first_68 : decode mc_M_first 68 = .ok (.iload_n 2, 1) := by decide +kernel
theorem md_M_first_69 : decode mc_M_first 69 = .ok (.ireturn, 1) := by decide +kernel
theorem md_M_comesBefore_0 : decode mc_M_comesBefore 0 = .ok (.aload_n 0, 1) := by decide +kernel
theorem md_M_comesBefore_1 : decode mc_M_comesBefore 1 = .ok (.getfield 19, 3) := by decide +kernel
theorem md_M_comesBefore_4 : decode mc_M_comesBefore 4 = .ok (.iload_n 1, 1) := by decide +kernel
theorem md_M_comesBefore_5 : decode mc_M_comesBefore 5 = .ok (.iaload, 1) := by decide +kernel
theorem md_M_comesBefore_6 : decode mc_M_comesBefore 6 = .ok (.aload_n 0, 1) := by decide +kernel
theorem md_M_comesBefore_7 : decode mc_M_comesBefore 7 = .ok (.getfield 19, 3) := by decide +kernel
theorem md_M_comesBefore_10 : decode mc_M_comesBefore 10 = .ok (.iload_n 2, 1) := by decide +kernel
theorem md_M_comesBefore_11 : decode mc_M_comesBefore 11 = .ok (.iaload, 1) := by decide +kernel
theorem md_M_comesBefore_12 : decode mc_M_comesBefore 12 = .ok (.if_icmp .eq 56, 3) := by decide +kernel
theorem md_M_comesBefore_15 : decode mc_M_comesBefore 15 = .ok (.aload_n 0, 1) := by decide +kernel
theorem md_M_comesBefore_16 : decode mc_M_comesBefore 16 = .ok (.getfield 16, 3) := by decide +kernel
theorem md_M_comesBefore_19 : decode mc_M_comesBefore 19 = .ok (.iload_n 1, 1) := by decide +kernel
theorem md_M_comesBefore_20 : decode mc_M_comesBefore 20 = .ok (.iaload, 1) := by decide +kernel
theorem md_M_comesBefore_21 : decode mc_M_comesBefore 21 = .ok (.ifCond .ne 26, 3) := by decide +kernel
theorem md_M_comesBefore_24 : decode mc_M_comesBefore 24 = .ok (.aload_n 0, 1) := by decide +kernel
theorem md_M_comesBefore_25 : decode mc_M_comesBefore 25 = .ok (.getfield 19, 3) := by decide +kernel
theorem md_M_comesBefore_28 : decode mc_M_comesBefore 28 = .ok (.iload_n 1, 1) := by decide +kernel
theorem md_M_comesBefore_29 : decode mc_M_comesBefore 29 = .ok (.iaload, 1) := by decide +kernel
theorem md_M_comesBefore_30 : decode mc_M_comesBefore 30 = .ok (.aload_n 0, 1) := by decide +kernel
theorem md_M_comesBefore_31 : decode mc_M_comesBefore 31 = .ok (.getfield 19, 3) := by decide +kernel
theorem md_M_comesBefore_34 : decode mc_M_comesBefore 34 = .ok (.iload_n 2, 1) := by decide +kernel
theorem md_M_comesBefore_35 : decode mc_M_comesBefore 35 = .ok (.iaload, 1) := by decide +kernel
theorem md_M_comesBefore_36 : decode mc_M_comesBefore 36 = .ok (.if_icmp .le 7, 3) := by decide +kernel
theorem md_M_comesBefore_39 : decode mc_M_comesBefore 39 = .ok (.iconst 1, 1) := by decide +kernel
theorem md_M_comesBefore_40 : decode mc_M_comesBefore 40 = .ok (.goto 27, 3) := by decide +kernel
theorem md_M_comesBefore_43 : decode mc_M_comesBefore 43 = .ok (.iconst 0, 1) := by decide +kernel
theorem md_M_comesBefore_44 : decode mc_M_comesBefore 44 = .ok (.goto 23, 3) := by decide +kernel
theorem md_M_comesBefore_47 : decode mc_M_comesBefore 47 = .ok (.aload_n 0, 1) := by decide +kernel
theorem md_M_comesBefore_48 : decode mc_M_comesBefore 48 = .ok (.getfield 19, 3) := by decide +kernel
theorem md_M_comesBefore_51 : decode mc_M_comesBefore 51 = .ok (.iload_n 1, 1) := by decide +kernel
theorem md_M_comesBefore_52 : decode mc_M_comesBefore 52 = .ok (.iaload, 1) := by decide +kernel
theorem md_M_comesBefore_53 : decode mc_M_comesBefore 53 = .ok (.aload_n 0, 1) := by decide +kernel
theorem md_M_comesBefore_54 : decode mc_M_comesBefore 54 = .ok (.getfield 19, 3) := by decide +kernel
theorem md_M_comesBefore_57 : decode mc_M_comesBefore 57 = .ok (.iload_n 2, 1) := by decide +kernel
theorem md_M_comesBefore_58 : decode mc_M_comesBefore 58 = .ok (.iaload, 1) := by decide +kernel
theorem md_M_comesBefore_59 : decode mc_M_comesBefore 59 = .ok (.if_icmp .ge 7, 3) := by decide +kernel
theorem md_M_comesBefore_62 : decode mc_M_comesBefore 62 = .ok (.iconst 1, 1) := by decide +kernel
theorem md_M_comesBefore_63 : decode mc_M_comesBefore 63 = .ok (.goto 4, 3) := by decide +kernel
theorem md_M_comesBefore_66 : decode mc_M_comesBefore 66 = .ok (.iconst 0, 1) := by decide +kernel
theorem md_M_comesBefore_67 : decode mc_M_comesBefore 67 = .ok (.ireturn, 1) := by decide +kernel
theorem md_M_comesBefore_68 : decode mc_M_comesBefore 68 = .ok (.aload_n 0, 1) := by decide +kernel
theorem md_M_comesBefore_69 : decode mc_M_comesBefore 69 = .ok (.getfield 25, 3) := by decide +kernel
theorem md_M_comesBefore_72 : decode mc_M_comesBefore 72 = .ok (.iload_n 1, 1) := by decide +kernel
theorem md_M_comesBefore_73 : decode mc_M_comesBefore 73 = .ok (.iaload, 1) := by decide +kernel
theorem md_M_comesBefore_74 : decode mc_M_comesBefore 74 = .ok (.aload_n 0, 1) := by decide +kernel
theorem md_M_comesBefore_75 : decode mc_M_comesBefore 75 = .ok (.getfield 25, 3) := by decide +kernel
theorem md_M_comesBefore_78 : decode mc_M_comesBefore 78 = .ok (.iload_n 2, 1) := by decide +kernel
theorem md_M_comesBefore_79 : decode mc_M_comesBefore 79 = .ok (.iaload, 1) := by decide +kernel
theorem md_M_comesBefore_80 : decode mc_M_comesBefore 80 = .ok (.if_icmp .ge 7, 3) := by decide +kernel
theorem md_M_comesBefore_83 : decode mc_M_comesBefore 83 = .ok (.iconst 1, 1) := by decide +kernel
theorem md_M_comesBefore_84 : decode mc_M_comesBefore 84 = .ok (.goto 4, 3) := by decide +kernel
theorem md_M_comesBefore_87 : decode mc_M_comesBefore 87 = .ok (.iconst 0, 1) := by decide +kernel
theorem md_M_comesBefore_88 : decode mc_M_comesBefore 88 = .ok (.ireturn, 1) := by decide +kernel
theorem md_M_match_0 : decode mc_M_match 0 = .ok (.iload 5, 2) := by decide +kernel
theorem md_M_match_2 : decode mc_M_match 2 = .ok (.istore 6, 2) := by decide +kernel
theorem md_M_match_4 : decode mc_M_match 4 = .ok (.aload_n 0, 1) := by decide +kernel
theorem md_M_match_5 : decode mc_M_match 5 = .ok (.iconst 1, 1) := by decide +kernel
theorem md_M_match_6 : decode mc_M_match 6 = .ok (.iload_n 3, 1) := by decide +kernel
theorem md_M_match_7 : decode mc_M_match 7 = .ok (.isub, 1) := by decide +kernel
theorem md_M_match_8 : decode mc_M_match 8 = .ok (.invokevirtual 71, 3) := by decide +kernel
theorem md_M_match_11 : decode mc_M_match 11 = .ok (.istore 7, 2) := by decide +kernel
theorem md_M_match_13 : decode mc_M_match 13 = .ok (.iload 6, 2) := by decide +kernel
theorem md_M_match_15 : decode mc_M_match 15 = .ok (.ifCond .le 132, 3) := by decide +kernel
theorem md_M_match_18 : decode mc_M_match 18 = .ok (.iload 7, 2) := by decide +kernel
theorem md_M_match_20 : decode mc_M_match 20 = .ok (.ifCond .lt 127, 3) := by decide +kernel
theorem md_M_match_23 : decode mc_M_match 23 = .ok (.aload_n 0, 1) := by decide +kernel
theorem md_M_match_24 : decode mc_M_match 24 = .ok (.iload_n 3, 1) := by decide +kernel
theorem md_M_match_25 : decode mc_M_match 25 = .ok (.iload 4, 2) := by decide +kernel
theorem md_M_match_27 : decode mc_M_match 27 = .ok (.iload 7, 2) := by decide +kernel
theorem md_M_match_29 : decode mc_M_match 29 = .ok (.invokevirtual 75, 3) := by decide +kernel
theorem md_M_match_32 : decode mc_M_match 32 = .ok (.ifCond .eq 115, 3) := by decide +kernel
theorem md_M_match_35 : decode mc_M_match 35 = .ok (.aload_n 0, 1) := by decide +kernel
theorem md_M_match_36 : decode mc_M_match 36 = .ok (.getfield 13, 3) := by decide +kernel
theorem md_M_match_39 : decode mc_M_match 39 = .ok (.iload 7, 2) := by decide +kernel
theorem md_M_match_41 : decode mc_M_match 41 = .ok (.iaload, 1) := by decide +kernel
theorem md_M_match_42 : decode mc_M_match 42 = .ok (.iload_n 2, 1) := by decide +kernel
theorem md_M_match_43 : decode mc_M_match 43 = .ok (.if_icmp .ne 22, 3) := by decide +kernel
theorem md_M_match_46 : decode mc_M_match 46 = .ok (.aload_n 0, 1) := by decide +kernel
theorem md_M_match_47 : decode mc_M_match 47 = .ok (.iload 7, 2) := by decide +kernel
theorem md_M_match_49 : decode mc_M_match 49 = .ok (.invokevirtual 79, 3) := by decide +kernel
theorem md_M_match_52 : decode mc_M_match 52 = .ok (.aload_n 0, 1) := by decide +kernel
theorem md_M_match_53 : decode mc_M_match 53 = .ok (.dup, 1) := by decide +kernel
theorem md_M_match_54 : decode mc_M_match 54 = .ok (.getfield 83, 3) := by decide +kernel
theorem md_M_match_57 : decode mc_M_match 57 = .ok (.iconst 1, 1) := by decide +kernel
theorem md_M_match_58 : decode mc_M_match 58 = .ok (.iadd, 1) := by decide +kernel
theorem md_M_match_59 : decode mc_M_match 59 = .ok (.putfield 83, 3) := by decide +kernel
theorem md_M_match_62 : decode mc_M_match 62 = .ok (.goto 73, 3) := by decide +kernel
theorem md_M_match_65 : decode mc_M_match 65 = .ok (.iload 6, 2) := by decide +kernel
theorem md_M_match_67 : decode mc_M_match 67 = .ok (.aload_n 0, 1) := by decide +kernel
theorem md_M_match_68 : decode mc_M_match 68 = .ok (.getfield 22, 3) := by decide +kernel
theorem md_M_match_71 : decode mc_M_match 71 = .ok (.iload 7, 2) := by decide +kernel
theorem md_M_match_73 : decode mc_M_match 73 = .ok (.iaload, 1) := by decide +kernel
theorem md_M_match_74 : decode mc_M_match 74 = .ok (.if_icmp .ge 8, 3) := by decide +kernel
theorem md_M_match_77 : decode mc_M_match 77 = .ok (.iload 6, 2) := by decide +kernel
theorem md_M_match_79 : decode mc_M_match 79 = .ok (.goto 10, 3) := by decide +kernel
theorem md_M_match_82 : decode mc_M_match 82 = .ok (.aload_n 0, 1) := by decide +kernel
theorem md_M_match_83 : decode mc_M_match 83 = .ok (.getfield 22, 3) := by decide +kernel
theorem md_M_match_86 : decode mc_M_match 86 = .ok (.iload 7, 2) := by decide +kernel
theorem md_M_match_88 : decode mc_M_match 88 = .ok (.iaload, 1) := by decide +kernel
theorem md_M_match_89 : decode mc_M_match 89 = .ok (.istore 8, 2) := by decide +kernel
theorem md_M_match_91 : decode mc_M_match 91 = .ok (.aload_n 0, 1) := by decide +kernel
theorem md_M_match_92 : decode mc_M_match 92 = .ok (.iload_n 1, 1) := by decide +kernel
theorem md_M_match_93 : decode mc_M_match 93 = .ok (.iload 7, 2) := by decide +kernel
theorem md_M_match_95 : decode mc_M_match 95 = .ok (.iload 8, 2) := by decide +kernel
theorem md_M_match_97 : decode mc_M_match 97 = .ok (.invokevirtual 86, 3) := by decide +kernel
theorem md_M_match_100 : decode mc_M_match 100 = .ok (.iload 6, 2) := by decide +kernel
theorem md_M_match_102 : decode mc_M_match 102 = .ok (.iload 8, 2) := by decide +kernel
theorem md_M_match_104 : decode mc_M_match 104 = .ok (.isub, 1) := by decide +kernel
theorem md_M_match_105 : decode mc_M_match 105 = .ok (.istore 6, 2) := by decide +kernel
theorem md_M_match_107 : decode mc_M_match 107 = .ok (.aload_n 0, 1) := by decide +kernel
theorem md_M_match_108 : decode mc_M_match 108 = .ok (.getfield 22, 3) := by decide +kernel
theorem md_M_match_111 : decode mc_M_match 111 = .ok (.iload 7, 2) := by decide +kernel
theorem md_M_match_113 : decode mc_M_match 113 = .ok (.dup2, 1) := by decide +kernel
theorem md_M_match_114 : decode mc_M_match 114 = .ok (.iaload, 1) := by decide +kernel
theorem md_M_match_115 : decode mc_M_match 115 = .ok (.iload 8, 2) := by decide +kernel
theorem md_M_match_117 : decode mc_M_match 117 = .ok (.isub, 1) := by decide +kernel
theorem md_M_match_118 : decode mc_M_match 118 = .ok (.iastore, 1) := by decide +kernel
theorem md_M_match_119 : decode mc_M_match 119 = .ok (.aload_n 0, 1) := by decide +kernel
theorem md_M_match_120 : decode mc_M_match 120 = .ok (.getfield 22, 3) := by decide +kernel
theorem md_M_match_123 : decode mc_M_match 123 = .ok (.iload 7, 2) := by decide +kernel
theorem md_M_match_125 : decode mc_M_match 125 = .ok (.iaload, 1) := by decide +kernel
theorem md_M_match_126 : decode mc_M_match 126 = .ok (.ifCond .ne 9, 3) := by decide +kernel
theorem md_M_match_129 : decode mc_M_match 129 = .ok (.aload_n 0, 1) := by decide +kernel
theorem md_M_match_130 : decode mc_M_match 130 = .ok (.iload 7, 2) := by decide +kernel
theorem md_M_match_132 : decode mc_M_match 132 = .ok (.invokevirtual 79, 3) := by decide +kernel
theorem md_M_match_135 : decode mc_M_match 135 = .ok (.aload_n 0, 1) := by decide +kernel
theorem md_M_match_136 : decode mc_M_match 136 = .ok (.iconst 1, 1) := by decide +kernel
theorem md_M_match_137 : decode mc_M_match 137 = .ok (.iload_n 3, 1) := by decide +kernel
theorem md_M_match_138 : decode mc_M_match 138 = .ok (.isub, 1) := by decide +kernel
theorem md_M_match_139 : decode mc_M_match 139 = .ok (.invokevirtual 71, 3) := by decide +kernel
theorem md_M_match_142 : decode mc_M_match 142 = .ok (.istore 7, 2) := by decide +kernel
theorem md_M_match_144 : decode mc_M_match 144 = .ok (.goto (-131), 3) := by decide +kernel
theorem md_M_match_147 : decode mc_M_match 147 = .ok (.iload 6, 2) := by decide +kernel
theorem md_M_match_149 : decode mc_M_match 149 = .ok (.ireturn, 1) := by decide +kernel
theorem md_M_drop_0 : decode mc_M_drop 0 = .ok (.aload_n 0, 1) := by decide +kernel
theorem md_M_drop_1 : decode mc_M_drop 1 = .ok (.dup, 1) := by decide +kernel
theorem md_M_drop_2 : decode mc_M_drop 2 = .ok (.getfield 48, 3) := by decide +kernel
theorem md_M_drop_5 : decode mc_M_drop 5 = .ok (.iconst 1, 1) := by decide +kernel
theorem md_M_drop_6 : decode mc_M_drop 6 = .ok (.isub, 1) := by decide +kernel
theorem md_M_drop_7 : decode mc_M_drop 7 = .ok (.putfield 48, 3) := by decide +kernel
theorem md_M_drop_10 : decode mc_M_drop 10 = .ok (.aload_n 0, 1) := by decide +kernel
theorem md_M_drop_11 : decode mc_M_drop 11 = .ok (.getfield 7, 3) := by decide +kernel
theorem md_M_drop_14 : decode mc_M_drop 14 = .ok (.iload_n 1, 1) := by decide +kernel
theorem md_M_drop_15 : decode mc_M_drop 15 = .ok (.aload_n 0, 1) := by decide +kernel
theorem md_M_drop_16 : decode mc_M_drop 16 = .ok (.getfield 7, 3) := by decide +kernel
theorem md_M_drop_19 : decode mc_M_drop 19 = .ok (.aload_n 0, 1) := by decide +kernel
theorem md_M_drop_20 : decode mc_M_drop 20 = .ok (.getfield 48, 3) := by decide +kernel
theorem md_M_drop_23 : decode mc_M_drop 23 = .ok (.iaload, 1) := by decide +kernel
theorem md_M_drop_24 : decode mc_M_drop 24 = .ok (.iastore, 1) := by decide +kernel
theorem md_M_drop_25 : decode mc_M_drop 25 = .ok (.aload_n 0, 1) := by decide +kernel
theorem md_M_drop_26 : decode mc_M_drop 26 = .ok (.getfield 13, 3) := by decide +kernel
theorem md_M_drop_29 : decode mc_M_drop 29 = .ok (.iload_n 1, 1) := by decide +kernel
theorem md_M_drop_30 : decode mc_M_drop 30 = .ok (.aload_n 0, 1) := by decide +kernel
theorem md_M_drop_31 : decode mc_M_drop 31 = .ok (.getfield 13, 3) := by decide +kernel
theorem md_M_drop_34 : decode mc_M_drop 34 = .ok (.aload_n 0, 1) := by decide +kernel
theorem md_M_drop_35 : decode mc_M_drop 35 = .ok (.getfield 48, 3) := by decide +kernel
theorem md_M_drop_38 : decode mc_M_drop 38 = .ok (.iaload, 1) := by decide +kernel
theorem md_M_drop_39 : decode mc_M_drop 39 = .ok (.iastore, 1) := by decide +kernel
theorem md_M_drop_40 : decode mc_M_drop 40 = .ok (.aload_n 0, 1) := by decide +kernel
theorem md_M_drop_41 : decode mc_M_drop 41 = .ok (.getfield 16, 3) := by decide +kernel
theorem md_M_drop_44 : decode mc_M_drop 44 = .ok (.iload_n 1, 1) := by decide +kernel
theorem md_M_drop_45 : decode mc_M_drop 45 = .ok (.aload_n 0, 1) := by decide +kernel
theorem md_M_drop_46 : decode mc_M_drop 46 = .ok (.getfield 16, 3) := by decide +kernel
theorem md_M_drop_49 : decode mc_M_drop 49 = .ok (.aload_n 0, 1) := by decide +kernel
theorem md_M_drop_50 : decode mc_M_drop 50 = .ok (.getfield 48, 3) := by decide +kernel
theorem md_M_drop_53 : decode mc_M_drop 53 = .ok (.iaload, 1) := by decide +kernel
theorem md_M_drop_54 : decode mc_M_drop 54 = .ok (.iastore, 1) := by decide +kernel
theorem md_M_drop_55 : decode mc_M_drop 55 = .ok (.aload_n 0, 1) := by decide +kernel
theorem md_M_drop_56 : decode mc_M_drop 56 = .ok (.getfield 19, 3) := by decide +kernel
theorem md_M_drop_59 : decode mc_M_drop 59 = .ok (.iload_n 1, 1) := by decide +kernel
theorem md_M_drop_60 : decode mc_M_drop 60 = .ok (.aload_n 0, 1) := by decide +kernel
theorem md_M_drop_61 : decode mc_M_drop 61 = .ok (.getfield 19, 3) := by decide +kernel
theorem md_M_drop_64 : decode mc_M_drop 64 = .ok (.aload_n 0, 1) := by decide +kernel
theorem md_M_drop_65 : decode mc_M_drop 65 = .ok (.getfield 48, 3) := by decide +kernel
theorem md_M_drop_68 : decode mc_M_drop 68 = .ok (.iaload, 1) := by decide +kernel
theorem md_M_drop_69 : decode mc_M_drop 69 = .ok (.iastore, 1) := by decide +kernel
theorem md_M_drop_70 : decode mc_M_drop 70 = .ok (.aload_n 0, 1) := by decide +kernel
theorem md_M_drop_71 : decode mc_M_drop 71 = .ok (.getfield 22, 3) := by decide +kernel
theorem md_M_drop_74 : decode mc_M_drop 74 = .ok (.iload_n 1, 1) := by decide +kernel
theorem md_M_drop_75 : decode mc_M_drop 75 = .ok (.aload_n 0, 1) := by decide +kernel
theorem md_M_drop_76 : decode mc_M_drop 76 = .ok (.getfield 22, 3) := by decide +kernel
theorem md_M_drop_79 : decode mc_M_drop 79 = .ok (.aload_n 0, 1) := by decide +kernel
theorem md_M_drop_80 : decode mc_M_drop 80 = .ok (.getfield 48, 3) := by decide +kernel
theorem md_M_drop_83 : decode mc_M_drop 83 = .ok (.iaload, 1) := by decide +kernel
theorem md_M_drop_84 : decode mc_M_drop 84 = .ok (.iastore, 1) := by decide +kernel
theorem md_M_drop_85 : decode mc_M_drop 85 = .ok (.aload_n 0, 1) := by decide +kernel
theorem md_M_drop_86 : decode mc_M_drop 86 = .ok (.getfield 25, 3) := by decide +kernel
theorem md_M_drop_89 : decode mc_M_drop 89 = .ok (.iload_n 1, 1) := by decide +kernel
theorem md_M_drop_90 : decode mc_M_drop 90 = .ok (.aload_n 0, 1) := by decide +kernel
theorem md_M_drop_91 : decode mc_M_drop 91 = .ok (.getfield 25, 3) := by decide +kernel
theorem md_M_drop_94 : decode mc_M_drop 94 = .ok (.aload_n 0, 1) := by decide +kernel
theorem md_M_drop_95 : decode mc_M_drop 95 = .ok (.getfield 48, 3) := by decide +kernel
theorem md_M_drop_98 : decode mc_M_drop 98 = .ok (.iaload, 1) := by decide +kernel
theorem md_M_drop_99 : decode mc_M_drop 99 = .ok (.iastore, 1) := by decide +kernel
theorem md_M_drop_100 : decode mc_M_drop 100 = .ok (.aload_n 0, 1) := by decide +kernel
theorem md_M_drop_101 : decode mc_M_drop 101 = .ok (.getfield 28, 3) := by decide +kernel
theorem md_M_drop_104 : decode mc_M_drop 104 = .ok (.iload_n 1, 1) := by decide +kernel
theorem md_M_drop_105 : decode mc_M_drop 105 = .ok (.aload_n 0, 1) := by decide +kernel
theorem md_M_drop_106 : decode mc_M_drop 106 = .ok (.getfield 28, 3) := by decide +kernel
theorem md_M_drop_109 : decode mc_M_drop 109 = .ok (.aload_n 0, 1) := by decide +kernel
theorem md_M_drop_110 : decode mc_M_drop 110 = .ok (.getfield 48, 3) := by decide +kernel
theorem md_M_drop_113 : decode mc_M_drop 113 = .ok (.baload, 1) := by decide +kernel
theorem md_M_drop_114 : decode mc_M_drop 114 = .ok (.bastore, 1) := by decide +kernel
theorem md_M_drop_115 : decode mc_M_drop 115 = .ok (.return_, 1) := by decide +kernel
theorem md_M_tell_0 : decode mc_M_tell 0 = .ok (.aload_n 0, 1) := by decide +kernel
theorem md_M_tell_1 : decode mc_M_tell 1 = .ok (.getfield 58, 3) := by decide +kernel
theorem md_M_tell_4 : decode mc_M_tell 4 = .ok (.bipush 32, 2) := by decide +kernel
theorem md_M_tell_6 : decode mc_M_tell 6 = .ok (.irem, 1) := by decide +kernel
theorem md_M_tell_7 : decode mc_M_tell 7 = .ok (.istore 4, 2) := by decide +kernel
theorem md_M_tell_9 : decode mc_M_tell 9 = .ok (.aload_n 0, 1) := by decide +kernel
theorem md_M_tell_10 : decode mc_M_tell 10 = .ok (.getfield 32, 3) := by decide +kernel
theorem md_M_tell_13 : decode mc_M_tell 13 = .ok (.iload 4, 2) := by decide +kernel
theorem md_M_tell_15 : decode mc_M_tell 15 = .ok (.iload_n 1, 1) := by decide +kernel
theorem md_M_tell_16 : decode mc_M_tell 16 = .ok (.iastore, 1) := by decide +kernel
theorem md_M_tell_17 : decode mc_M_tell 17 = .ok (.aload_n 0, 1) := by decide +kernel
theorem md_M_tell_18 : decode mc_M_tell 18 = .ok (.getfield 35, 3) := by decide +kernel
theorem md_M_tell_21 : decode mc_M_tell 21 = .ok (.iload 4, 2) := by decide +kernel
theorem md_M_tell_23 : decode mc_M_tell 23 = .ok (.aload_n 0, 1) := by decide +kernel
theorem md_M_tell_24 : decode mc_M_tell 24 = .ok (.getfield 7, 3) := by decide +kernel
theorem md_M_tell_27 : decode mc_M_tell 27 = .ok (.iload_n 2, 1) := by decide +kernel
theorem md_M_tell_28 : decode mc_M_tell 28 = .ok (.iaload, 1) := by decide +kernel
theorem md_M_tell_29 : decode mc_M_tell 29 = .ok (.iastore, 1) := by decide +kernel
theorem md_M_tell_30 : decode mc_M_tell 30 = .ok (.aload_n 0, 1) := by decide +kernel
theorem md_M_tell_31 : decode mc_M_tell 31 = .ok (.getfield 38, 3) := by decide +kernel
theorem md_M_tell_34 : decode mc_M_tell 34 = .ok (.iload 4, 2) := by decide +kernel
theorem md_M_tell_36 : decode mc_M_tell 36 = .ok (.aload_n 0, 1) := by decide +kernel
theorem md_M_tell_37 : decode mc_M_tell 37 = .ok (.getfield 19, 3) := by decide +kernel
theorem md_M_tell_40 : decode mc_M_tell 40 = .ok (.iload_n 2, 1) := by decide +kernel
theorem md_M_tell_41 : decode mc_M_tell 41 = .ok (.iaload, 1) := by decide +kernel
theorem md_M_tell_42 : decode mc_M_tell 42 = .ok (.iastore, 1) := by decide +kernel
theorem md_M_tell_43 : decode mc_M_tell 43 = .ok (.aload_n 0, 1) := by decide +kernel
theorem md_M_tell_44 : decode mc_M_tell 44 = .ok (.getfield 41, 3) := by decide +kernel
theorem md_M_tell_47 : decode mc_M_tell 47 = .ok (.iload 4, 2) := by decide +kernel
theorem md_M_tell_49 : decode mc_M_tell 49 = .ok (.iload_n 3, 1) := by decide +kernel
theorem md_M_tell_50 : decode mc_M_tell 50 = .ok (.iastore, 1) := by decide +kernel
theorem md_M_tell_51 : decode mc_M_tell 51 = .ok (.aload_n 0, 1) := by decide +kernel
theorem md_M_tell_52 : decode mc_M_tell 52 = .ok (.dup, 1) := by decide +kernel
theorem md_M_tell_53 : decode mc_M_tell 53 = .ok (.getfield 58, 3) := by decide +kernel
theorem md_M_tell_56 : decode mc_M_tell 56 = .ok (.iconst 1, 1) := by decide +kernel
theorem md_M_tell_57 : decode mc_M_tell 57 = .ok (.iadd, 1) := by decide +kernel
theorem md_M_tell_58 : decode mc_M_tell 58 = .ok (.putfield 58, 3) := by decide +kernel
theorem md_M_tell_61 : decode mc_M_tell 61 = .ok (.aload_n 0, 1) := by decide +kernel
theorem md_M_tell_62 : decode mc_M_tell 62 = .ok (.aload_n 0, 1) := by decide +kernel
theorem md_M_tell_63 : decode mc_M_tell 63 = .ok (.getfield 19, 3) := by decide +kernel
theorem md_M_tell_66 : decode mc_M_tell 66 = .ok (.iload_n 2, 1) := by decide +kernel
theorem md_M_tell_67 : decode mc_M_tell 67 = .ok (.iaload, 1) := by decide +kernel
theorem md_M_tell_68 : decode mc_M_tell 68 = .ok (.putfield 61, 3) := by decide +kernel
theorem md_M_tell_71 : decode mc_M_tell 71 = .ok (.aload_n 0, 1) := by decide +kernel
theorem md_M_tell_72 : decode mc_M_tell 72 = .ok (.dup, 1) := by decide +kernel
theorem md_M_tell_73 : decode mc_M_tell 73 = .ok (.getfield 64, 3) := by decide +kernel
theorem md_M_tell_76 : decode mc_M_tell 76 = .ok (.aload_n 0, 1) := by decide +kernel
theorem md_M_tell_77 : decode mc_M_tell 77 = .ok (.getfield 19, 3) := by decide +kernel
theorem md_M_tell_80 : decode mc_M_tell 80 = .ok (.iload_n 2, 1) := by decide +kernel
theorem md_M_tell_81 : decode mc_M_tell 81 = .ok (.iaload, 1) := by decide +kernel
theorem md_M_tell_82 : decode mc_M_tell 82 = .ok (.i2l, 1) := by decide +kernel
theorem md_M_tell_83 : decode mc_M_tell 83 = .ok (.iload_n 3, 1) := by decide +kernel
theorem md_M_tell_84 : decode mc_M_tell 84 = .ok (.i2l, 1) := by decide +kernel
theorem md_M_tell_85 : decode mc_M_tell 85 = .ok (.lmul, 1) := by decide +kernel
theorem md_M_tell_86 : decode mc_M_tell 86 = .ok (.ladd, 1) := by decide +kernel
theorem md_M_tell_87 : decode mc_M_tell 87 = .ok (.putfield 64, 3) := by decide +kernel
theorem md_M_tell_90 : decode mc_M_tell 90 = .ok (.aload_n 0, 1) := by decide +kernel
theorem md_M_tell_91 : decode mc_M_tell 91 = .ok (.dup, 1) := by decide +kernel
theorem md_M_tell_92 : decode mc_M_tell 92 = .ok (.getfield 68, 3) := by decide +kernel
theorem md_M_tell_95 : decode mc_M_tell 95 = .ok (.iload_n 3, 1) := by decide +kernel
theorem md_M_tell_96 : decode mc_M_tell 96 = .ok (.iadd, 1) := by decide +kernel
theorem md_M_tell_97 : decode mc_M_tell 97 = .ok (.putfield 68, 3) := by decide +kernel
theorem md_M_tell_100 : decode mc_M_tell 100 = .ok (.return_, 1) := by decide +kernel
theorem md_M_keep_0 : decode mc_M_keep 0 = .ok (.aload_n 0, 1) := by decide +kernel
theorem md_M_keep_1 : decode mc_M_keep 1 = .ok (.getfield 7, 3) := by decide +kernel
theorem md_M_keep_4 : decode mc_M_keep 4 = .ok (.aload_n 0, 1) := by decide +kernel
theorem md_M_keep_5 : decode mc_M_keep 5 = .ok (.getfield 48, 3) := by decide +kernel
theorem md_M_keep_8 : decode mc_M_keep 8 = .ok (.iload_n 1, 1) := by decide +kernel
theorem md_M_keep_9 : decode mc_M_keep 9 = .ok (.iastore, 1) := by decide +kernel
theorem md_M_keep_10 : decode mc_M_keep 10 = .ok (.aload_n 0, 1) := by decide +kernel
theorem md_M_keep_11 : decode mc_M_keep 11 = .ok (.getfield 13, 3) := by decide +kernel
theorem md_M_keep_14 : decode mc_M_keep 14 = .ok (.aload_n 0, 1) := by decide +kernel
theorem md_M_keep_15 : decode mc_M_keep 15 = .ok (.getfield 48, 3) := by decide +kernel
theorem md_M_keep_18 : decode mc_M_keep 18 = .ok (.iload_n 2, 1) := by decide +kernel
theorem md_M_keep_19 : decode mc_M_keep 19 = .ok (.iastore, 1) := by decide +kernel
theorem md_M_keep_20 : decode mc_M_keep 20 = .ok (.aload_n 0, 1) := by decide +kernel
theorem md_M_keep_21 : decode mc_M_keep 21 = .ok (.getfield 16, 3) := by decide +kernel
theorem md_M_keep_24 : decode mc_M_keep 24 = .ok (.aload_n 0, 1) := by decide +kernel
theorem md_M_keep_25 : decode mc_M_keep 25 = .ok (.getfield 48, 3) := by decide +kernel
theorem md_M_keep_28 : decode mc_M_keep 28 = .ok (.iload_n 3, 1) := by decide +kernel
theorem md_M_keep_29 : decode mc_M_keep 29 = .ok (.iastore, 1) := by decide +kernel
theorem md_M_keep_30 : decode mc_M_keep 30 = .ok (.aload_n 0, 1) := by decide +kernel
theorem md_M_keep_31 : decode mc_M_keep 31 = .ok (.getfield 19, 3) := by decide +kernel
theorem md_M_keep_34 : decode mc_M_keep 34 = .ok (.aload_n 0, 1) := by decide +kernel
theorem md_M_keep_35 : decode mc_M_keep 35 = .ok (.getfield 48, 3) := by decide +kernel
theorem md_M_keep_38 : decode mc_M_keep 38 = .ok (.iload 4, 2) := by decide +kernel
theorem md_M_keep_40 : decode mc_M_keep 40 = .ok (.iastore, 1) := by decide +kernel
theorem md_M_keep_41 : decode mc_M_keep 41 = .ok (.aload_n 0, 1) := by decide +kernel
theorem md_M_keep_42 : decode mc_M_keep 42 = .ok (.getfield 22, 3) := by decide +kernel
theorem md_M_keep_45 : decode mc_M_keep 45 = .ok (.aload_n 0, 1) := by decide +kernel
theorem md_M_keep_46 : decode mc_M_keep 46 = .ok (.getfield 48, 3) := by decide +kernel
theorem md_M_keep_49 : decode mc_M_keep 49 = .ok (.iload 5, 2) := by decide +kernel
theorem md_M_keep_51 : decode mc_M_keep 51 = .ok (.iastore, 1) := by decide +kernel
theorem md_M_keep_52 : decode mc_M_keep 52 = .ok (.aload_n 0, 1) := by decide +kernel
theorem md_M_keep_53 : decode mc_M_keep 53 = .ok (.dup, 1) := by decide +kernel
theorem md_M_keep_54 : decode mc_M_keep 54 = .ok (.getfield 51, 3) := by decide +kernel
theorem md_M_keep_57 : decode mc_M_keep 57 = .ok (.iconst 1, 1) := by decide +kernel
theorem md_M_keep_58 : decode mc_M_keep 58 = .ok (.iadd, 1) := by decide +kernel
theorem md_M_keep_59 : decode mc_M_keep 59 = .ok (.putfield 51, 3) := by decide +kernel
theorem md_M_keep_62 : decode mc_M_keep 62 = .ok (.aload_n 0, 1) := by decide +kernel
theorem md_M_keep_63 : decode mc_M_keep 63 = .ok (.getfield 25, 3) := by decide +kernel
theorem md_M_keep_66 : decode mc_M_keep 66 = .ok (.aload_n 0, 1) := by decide +kernel
theorem md_M_keep_67 : decode mc_M_keep 67 = .ok (.getfield 48, 3) := by decide +kernel
theorem md_M_keep_70 : decode mc_M_keep 70 = .ok (.aload_n 0, 1) := by decide +kernel
theorem md_M_keep_71 : decode mc_M_keep 71 = .ok (.getfield 51, 3) := by decide +kernel
theorem md_M_keep_74 : decode mc_M_keep 74 = .ok (.iastore, 1) := by decide +kernel
theorem md_M_keep_75 : decode mc_M_keep 75 = .ok (.aload_n 0, 1) := by decide +kernel
theorem md_M_keep_76 : decode mc_M_keep 76 = .ok (.getfield 28, 3) := by decide +kernel
theorem md_M_keep_79 : decode mc_M_keep 79 = .ok (.aload_n 0, 1) := by decide +kernel
theorem md_M_keep_80 : decode mc_M_keep 80 = .ok (.getfield 48, 3) := by decide +kernel
theorem md_M_keep_83 : decode mc_M_keep 83 = .ok (.iconst 0, 1) := by decide +kernel
theorem md_M_keep_84 : decode mc_M_keep 84 = .ok (.bastore, 1) := by decide +kernel
theorem md_M_keep_85 : decode mc_M_keep 85 = .ok (.aload_n 0, 1) := by decide +kernel
theorem md_M_keep_86 : decode mc_M_keep 86 = .ok (.dup, 1) := by decide +kernel
theorem md_M_keep_87 : decode mc_M_keep 87 = .ok (.getfield 48, 3) := by decide +kernel
theorem md_M_keep_90 : decode mc_M_keep 90 = .ok (.iconst 1, 1) := by decide +kernel
theorem md_M_keep_91 : decode mc_M_keep 91 = .ok (.iadd, 1) := by decide +kernel
theorem md_M_keep_92 : decode mc_M_keep 92 = .ok (.putfield 48, 3) := by decide +kernel
theorem md_M_keep_95 : decode mc_M_keep 95 = .ok (.return_, 1) := by decide +kernel
theorem md_M_runStops_0 : decode mc_M_runStops 0 = .ok (.aload_n 0, 1) := by decide +kernel
theorem md_M_runStops_1 : decode mc_M_runStops 1 = .ok (.invokevirtual 94, 3) := by decide +kernel
theorem md_M_runStops_4 : decode mc_M_runStops 4 = .ok (.istore_n 1, 1) := by decide +kernel
theorem md_M_runStops_5 : decode mc_M_runStops 5 = .ok (.iload_n 1, 1) := by decide +kernel
theorem md_M_runStops_6 : decode mc_M_runStops 6 = .ok (.ifCond .lt 68, 3) := by decide +kernel
theorem md_M_runStops_9 : decode mc_M_runStops 9 = .ok (.aload_n 0, 1) := by decide +kernel
theorem md_M_runStops_10 : decode mc_M_runStops 10 = .ok (.getfield 7, 3) := by decide +kernel
theorem md_M_runStops_13 : decode mc_M_runStops 13 = .ok (.iload_n 1, 1) := by decide +kernel
theorem md_M_runStops_14 : decode mc_M_runStops 14 = .ok (.iaload, 1) := by decide +kernel
theorem md_M_runStops_15 : decode mc_M_runStops 15 = .ok (.istore_n 2, 1) := by decide +kernel
theorem md_M_runStops_16 : decode mc_M_runStops 16 = .ok (.aload_n 0, 1) := by decide +kernel
theorem md_M_runStops_17 : decode mc_M_runStops 17 = .ok (.getfield 13, 3) := by decide +kernel
theorem md_M_runStops_20 : decode mc_M_runStops 20 = .ok (.iload_n 1, 1) := by decide +kernel
theorem md_M_runStops_21 : decode mc_M_runStops 21 = .ok (.iaload, 1) := by decide +kernel
theorem md_M_runStops_22 : decode mc_M_runStops 22 = .ok (.istore_n 3, 1) := by decide +kernel
theorem md_M_runStops_23 : decode mc_M_runStops 23 = .ok (.aload_n 0, 1) := by decide +kernel
theorem md_M_runStops_24 : decode mc_M_runStops 24 = .ok (.getfield 16, 3) := by decide +kernel
theorem md_M_runStops_27 : decode mc_M_runStops 27 = .ok (.iload_n 1, 1) := by decide +kernel
theorem md_M_runStops_28 : decode mc_M_runStops 28 = .ok (.iaload, 1) := by decide +kernel
theorem md_M_runStops_29 : decode mc_M_runStops 29 = .ok (.istore 4, 2) := by decide +kernel
theorem md_M_runStops_31 : decode mc_M_runStops 31 = .ok (.aload_n 0, 1) := by decide +kernel
theorem md_M_runStops_32 : decode mc_M_runStops 32 = .ok (.getfield 22, 3) := by decide +kernel
theorem md_M_runStops_35 : decode mc_M_runStops 35 = .ok (.iload_n 1, 1) := by decide +kernel
theorem md_M_runStops_36 : decode mc_M_runStops 36 = .ok (.iaload, 1) := by decide +kernel
theorem md_M_runStops_37 : decode mc_M_runStops 37 = .ok (.istore 5, 2) := by decide +kernel
theorem md_M_runStops_39 : decode mc_M_runStops 39 = .ok (.aload_n 0, 1) := by decide +kernel
theorem md_M_runStops_40 : decode mc_M_runStops 40 = .ok (.iload_n 1, 1) := by decide +kernel
theorem md_M_runStops_41 : decode mc_M_runStops 41 = .ok (.invokevirtual 79, 3) := by decide +kernel
theorem md_M_runStops_44 : decode mc_M_runStops 44 = .ok (.aload_n 0, 1) := by decide +kernel
theorem md_M_runStops_45 : decode mc_M_runStops 45 = .ok (.dup, 1) := by decide +kernel
theorem md_M_runStops_46 : decode mc_M_runStops 46 = .ok (.getfield 98, 3) := by decide +kernel
theorem md_M_runStops_49 : decode mc_M_runStops 49 = .ok (.iconst 1, 1) := by decide +kernel
theorem md_M_runStops_50 : decode mc_M_runStops 50 = .ok (.iadd, 1) := by decide +kernel
theorem md_M_runStops_51 : decode mc_M_runStops 51 = .ok (.putfield 98, 3) := by decide +kernel
theorem md_M_runStops_54 : decode mc_M_runStops 54 = .ok (.aload_n 0, 1) := by decide +kernel
theorem md_M_runStops_55 : decode mc_M_runStops 55 = .ok (.iload_n 2, 1) := by decide +kernel
theorem md_M_runStops_56 : decode mc_M_runStops 56 = .ok (.iload_n 3, 1) := by decide +kernel
theorem md_M_runStops_57 : decode mc_M_runStops 57 = .ok (.iload 4, 2) := by decide +kernel
theorem md_M_runStops_59 : decode mc_M_runStops 59 = .ok (.iconst 0, 1) := by decide +kernel
theorem md_M_runStops_60 : decode mc_M_runStops 60 = .ok (.iload 5, 2) := by decide +kernel
theorem md_M_runStops_62 : decode mc_M_runStops 62 = .ok (.invokevirtual 101, 3) := by decide +kernel
theorem md_M_runStops_65 : decode mc_M_runStops 65 = .ok (.pop, 1) := by decide +kernel
theorem md_M_runStops_66 : decode mc_M_runStops 66 = .ok (.aload_n 0, 1) := by decide +kernel
theorem md_M_runStops_67 : decode mc_M_runStops 67 = .ok (.invokevirtual 94, 3) := by decide +kernel
theorem md_M_runStops_70 : decode mc_M_runStops 70 = .ok (.istore_n 1, 1) := by decide +kernel
theorem md_M_runStops_71 : decode mc_M_runStops 71 = .ok (.goto (-66), 3) := by decide +kernel
theorem md_M_runStops_74 : decode mc_M_runStops 74 = .ok (.return_, 1) := by decide +kernel
theorem md_M_earliestDue_0 : decode mc_M_earliestDue 0 = .ok (.iconst (-1), 1) := by decide +kernel
theorem md_M_earliestDue_1 : decode mc_M_earliestDue 1 = .ok (.istore_n 1, 1) := by decide +kernel
theorem md_M_earliestDue_2 : decode mc_M_earliestDue 2 = .ok (.iconst 0, 1) := by decide +kernel
theorem md_M_earliestDue_3 : decode mc_M_earliestDue 3 = .ok (.istore_n 2, 1) := by decide +kernel
theorem md_M_earliestDue_4 : decode mc_M_earliestDue 4 = .ok (.iload_n 2, 1) := by decide +kernel
theorem md_M_earliestDue_5 : decode mc_M_earliestDue 5 = .ok (.aload_n 0, 1) := by decide +kernel
theorem md_M_earliestDue_6 : decode mc_M_earliestDue 6 = .ok (.getfield 48, 3) := by decide +kernel
theorem md_M_earliestDue_9 : decode mc_M_earliestDue 9 = .ok (.if_icmp .ge 42, 3) := by decide +kernel
theorem md_M_earliestDue_12 : decode mc_M_earliestDue 12 = .ok (.aload_n 0, 1) := by decide +kernel
theorem md_M_earliestDue_13 : decode mc_M_earliestDue 13 = .ok (.iload_n 2, 1) := by decide +kernel
theorem md_M_earliestDue_14 : decode mc_M_earliestDue 14 = .ok (.invokevirtual 90, 3) := by decide +kernel
theorem md_M_earliestDue_17 : decode mc_M_earliestDue 17 = .ok (.ifCond .eq 26, 3) := by decide +kernel
theorem md_M_earliestDue_20 : decode mc_M_earliestDue 20 = .ok (.iload_n 1, 1) := by decide +kernel
theorem md_M_earliestDue_21 : decode mc_M_earliestDue 21 = .ok (.ifCond .lt 18, 3) := by decide +kernel
theorem md_M_earliestDue_24 : decode mc_M_earliestDue 24 = .ok (.aload_n 0, 1) := by decide +kernel
theorem md_M_earliestDue_25 : decode mc_M_earliestDue 25 = .ok (.getfield 25, 3) := by decide +kernel
theorem md_M_earliestDue_28 : decode mc_M_earliestDue 28 = .ok (.iload_n 2, 1) := by decide +kernel
theorem md_M_earliestDue_29 : decode mc_M_earliestDue 29 = .ok (.iaload, 1) := by decide +kernel
theorem md_M_earliestDue_30 : decode mc_M_earliestDue 30 = .ok (.aload_n 0, 1) := by decide +kernel
theorem md_M_earliestDue_31 : decode mc_M_earliestDue 31 = .ok (.getfield 25, 3) := by decide +kernel
theorem md_M_earliestDue_34 : decode mc_M_earliestDue 34 = .ok (.iload_n 1, 1) := by decide +kernel
theorem md_M_earliestDue_35 : decode mc_M_earliestDue 35 = .ok (.iaload, 1) := by decide +kernel
theorem md_M_earliestDue_36 : decode mc_M_earliestDue 36 = .ok (.if_icmp .ge 7, 3) := by decide +kernel
theorem md_M_earliestDue_39 : decode mc_M_earliestDue 39 = .ok (.iload_n 2, 1) := by decide +kernel
theorem md_M_earliestDue_40 : decode mc_M_earliestDue 40 = .ok (.goto 4, 3) := by decide +kernel
theorem md_M_earliestDue_43 : decode mc_M_earliestDue 43 = .ok (.iload_n 1, 1) := by decide +kernel
theorem md_M_earliestDue_44 : decode mc_M_earliestDue 44 = .ok (.istore_n 1, 1) := by decide +kernel
theorem md_M_earliestDue_45 : decode mc_M_earliestDue 45 = .ok (.iinc 2 1, 3) := by decide +kernel
theorem md_M_earliestDue_48 : decode mc_M_earliestDue 48 = .ok (.goto (-44), 3) := by decide +kernel
theorem md_M_earliestDue_51 : decode mc_M_earliestDue 51 = .ok (.iload_n 1, 1) := by decide +kernel
theorem md_M_earliestDue_52 : decode mc_M_earliestDue 52 = .ok (.ireturn, 1) := by decide +kernel
theorem md_M_isDue_0 : decode mc_M_isDue 0 = .ok (.aload_n 0, 1) := by decide +kernel
theorem md_M_isDue_1 : decode mc_M_isDue 1 = .ok (.getfield 28, 3) := by decide +kernel
theorem md_M_isDue_4 : decode mc_M_isDue 4 = .ok (.iload_n 1, 1) := by decide +kernel
theorem md_M_isDue_5 : decode mc_M_isDue 5 = .ok (.baload, 1) := by decide +kernel
theorem md_M_isDue_6 : decode mc_M_isDue 6 = .ok (.ifCond .eq 52, 3) := by decide +kernel
theorem md_M_isDue_9 : decode mc_M_isDue 9 = .ok (.aload_n 0, 1) := by decide +kernel
theorem md_M_isDue_10 : decode mc_M_isDue 10 = .ok (.getfield 61, 3) := by decide +kernel
theorem md_M_isDue_13 : decode mc_M_isDue 13 = .ok (.ifCond .le 45, 3) := by decide +kernel
theorem md_M_isDue_16 : decode mc_M_isDue 16 = .ok (.aload_n 0, 1) := by decide +kernel
theorem md_M_isDue_17 : decode mc_M_isDue 17 = .ok (.getfield 16, 3) := by decide +kernel
theorem md_M_isDue_20 : decode mc_M_isDue 20 = .ok (.iload_n 1, 1) := by decide +kernel
theorem md_M_isDue_21 : decode mc_M_isDue 21 = .ok (.iaload, 1) := by decide +kernel
theorem md_M_isDue_22 : decode mc_M_isDue 22 = .ok (.ifCond .ne 19, 3) := by decide +kernel
theorem md_M_isDue_25 : decode mc_M_isDue 25 = .ok (.aload_n 0, 1) := by decide +kernel
theorem md_M_isDue_26 : decode mc_M_isDue 26 = .ok (.getfield 61, 3) := by decide +kernel
theorem md_M_isDue_29 : decode mc_M_isDue 29 = .ok (.aload_n 0, 1) := by decide +kernel
theorem md_M_isDue_30 : decode mc_M_isDue 30 = .ok (.getfield 19, 3) := by decide +kernel
theorem md_M_isDue_33 : decode mc_M_isDue 33 = .ok (.iload_n 1, 1) := by decide +kernel
theorem md_M_isDue_34 : decode mc_M_isDue 34 = .ok (.iaload, 1) := by decide +kernel
theorem md_M_isDue_35 : decode mc_M_isDue 35 = .ok (.if_icmp .lt 23, 3) := by decide +kernel
theorem md_M_isDue_38 : decode mc_M_isDue 38 = .ok (.goto 16, 3) := by decide +kernel
theorem md_M_isDue_41 : decode mc_M_isDue 41 = .ok (.aload_n 0, 1) := by decide +kernel
theorem md_M_isDue_42 : decode mc_M_isDue 42 = .ok (.getfield 61, 3) := by decide +kernel
theorem md_M_isDue_45 : decode mc_M_isDue 45 = .ok (.aload_n 0, 1) := by decide +kernel
theorem md_M_isDue_46 : decode mc_M_isDue 46 = .ok (.getfield 19, 3) := by decide +kernel
theorem md_M_isDue_49 : decode mc_M_isDue 49 = .ok (.iload_n 1, 1) := by decide +kernel
theorem md_M_isDue_50 : decode mc_M_isDue 50 = .ok (.iaload, 1) := by decide +kernel
theorem md_M_isDue_51 : decode mc_M_isDue 51 = .ok (.if_icmp .gt 7, 3) := by decide +kernel
theorem md_M_isDue_54 : decode mc_M_isDue 54 = .ok (.iconst 1, 1) := by decide +kernel
theorem md_M_isDue_55 : decode mc_M_isDue 55 = .ok (.goto 4, 3) := by decide +kernel
theorem md_M_isDue_58 : decode mc_M_isDue 58 = .ok (.iconst 0, 1) := by decide +kernel
theorem md_M_isDue_59 : decode mc_M_isDue 59 = .ok (.ireturn, 1) := by decide +kernel
theorem md_M_cancel_0 : decode mc_M_cancel 0 = .ok (.aload_n 0, 1) := by decide +kernel
theorem md_M_cancel_1 : decode mc_M_cancel 1 = .ok (.iload_n 1, 1) := by decide +kernel
theorem md_M_cancel_2 : decode mc_M_cancel 2 = .ok (.invokevirtual 113, 3) := by decide +kernel
theorem md_M_cancel_5 : decode mc_M_cancel 5 = .ok (.istore_n 2, 1) := by decide +kernel
theorem md_M_cancel_6 : decode mc_M_cancel 6 = .ok (.aload_n 0, 1) := by decide +kernel
theorem md_M_cancel_7 : decode mc_M_cancel 7 = .ok (.iload_n 2, 1) := by decide +kernel
theorem md_M_cancel_8 : decode mc_M_cancel 8 = .ok (.ifCond .ge 7, 3) := by decide +kernel
theorem md_M_cancel_11 : decode mc_M_cancel 11 = .ok (.iconst 1, 1) := by decide +kernel
theorem md_M_cancel_12 : decode mc_M_cancel 12 = .ok (.goto 4, 3) := by decide +kernel
theorem md_M_cancel_15 : decode mc_M_cancel 15 = .ok (.iconst 0, 1) := by decide +kernel
theorem md_M_cancel_16 : decode mc_M_cancel 16 = .ok (.putfield 44, 3) := by decide +kernel
theorem md_M_cancel_19 : decode mc_M_cancel 19 = .ok (.iload_n 2, 1) := by decide +kernel
theorem md_M_cancel_20 : decode mc_M_cancel 20 = .ok (.ifCond .ge 5, 3) := by decide +kernel
theorem md_M_cancel_23 : decode mc_M_cancel 23 = .ok (.iconst 0, 1) := by decide +kernel
theorem md_M_cancel_24 : decode mc_M_cancel 24 = .ok (.ireturn, 1) := by decide +kernel
theorem md_M_cancel_25 : decode mc_M_cancel 25 = .ok (.aload_n 0, 1) := by decide +kernel
theorem md_M_cancel_26 : decode mc_M_cancel 26 = .ok (.getfield 22, 3) := by decide +kernel
theorem md_M_cancel_29 : decode mc_M_cancel 29 = .ok (.iload_n 2, 1) := by decide +kernel
theorem md_M_cancel_30 : decode mc_M_cancel 30 = .ok (.iaload, 1) := by decide +kernel
theorem md_M_cancel_31 : decode mc_M_cancel 31 = .ok (.istore_n 3, 1) := by decide +kernel
theorem md_M_cancel_32 : decode mc_M_cancel 32 = .ok (.aload_n 0, 1) := by decide +kernel
theorem md_M_cancel_33 : decode mc_M_cancel 33 = .ok (.iload_n 2, 1) := by decide +kernel
theorem md_M_cancel_34 : decode mc_M_cancel 34 = .ok (.invokevirtual 79, 3) := by decide +kernel
theorem md_M_cancel_37 : decode mc_M_cancel 37 = .ok (.iload_n 3, 1) := by decide +kernel
theorem md_M_cancel_38 : decode mc_M_cancel 38 = .ok (.ireturn, 1) := by decide +kernel
theorem md_M_amend_0 : decode mc_M_amend 0 = .ok (.iload_n 2, 1) := by decide +kernel
theorem md_M_amend_1 : decode mc_M_amend 1 = .ok (.iconst 1, 1) := by decide +kernel
theorem md_M_amend_2 : decode mc_M_amend 2 = .ok (.sipush 10000, 3) := by decide +kernel
theorem md_M_amend_5 : decode mc_M_amend 5 = .ok (.invokestatic 109, 3) := by decide +kernel
theorem md_M_amend_8 : decode mc_M_amend 8 = .ok (.ifCond .eq 17, 3) := by decide +kernel
theorem md_M_amend_11 : decode mc_M_amend 11 = .ok (.iload_n 3, 1) := by decide +kernel
theorem md_M_amend_12 : decode mc_M_amend 12 = .ok (.iconst 1, 1) := by decide +kernel
theorem md_M_amend_13 : decode mc_M_amend 13 = .ok (.ldc 112, 2) := by decide +kernel
theorem md_M_amend_15 : decode mc_M_amend 15 = .ok (.invokestatic 109, 3) := by decide +kernel
theorem md_M_amend_18 : decode mc_M_amend 18 = .ok (.ifCond .eq 7, 3) := by decide +kernel
theorem md_M_amend_21 : decode mc_M_amend 21 = .ok (.iconst 1, 1) := by decide +kernel
theorem md_M_amend_22 : decode mc_M_amend 22 = .ok (.goto 4, 3) := by decide +kernel
theorem md_M_amend_25 : decode mc_M_amend 25 = .ok (.iconst 0, 1) := by decide +kernel
theorem md_M_amend_26 : decode mc_M_amend 26 = .ok (.istore 4, 2) := by decide +kernel
theorem md_M_amend_28 : decode mc_M_amend 28 = .ok (.iload 4, 2) := by decide +kernel
theorem md_M_amend_30 : decode mc_M_amend 30 = .ok (.ifCond .eq 11, 3) := by decide +kernel
theorem md_M_amend_33 : decode mc_M_amend 33 = .ok (.aload_n 0, 1) := by decide +kernel
theorem md_M_amend_34 : decode mc_M_amend 34 = .ok (.iload_n 1, 1) := by decide +kernel
theorem md_M_amend_35 : decode mc_M_amend 35 = .ok (.invokevirtual 113, 3) := by decide +kernel
theorem md_M_amend_38 : decode mc_M_amend 38 = .ok (.goto 4, 3) := by decide +kernel
theorem md_M_amend_41 : decode mc_M_amend 41 = .ok (.iconst (-1), 1) := by decide +kernel
theorem md_M_amend_42 : decode mc_M_amend 42 = .ok (.istore 5, 2) := by decide +kernel
theorem md_M_amend_44 : decode mc_M_amend 44 = .ok (.aload_n 0, 1) := by decide +kernel
theorem md_M_amend_45 : decode mc_M_amend 45 = .ok (.iload 4, 2) := by decide +kernel
theorem md_M_amend_47 : decode mc_M_amend 47 = .ok (.ifCond .ne 7, 3) := by decide +kernel
theorem md_M_amend_50 : decode mc_M_amend 50 = .ok (.iconst 1, 1) := by decide +kernel
theorem md_M_amend_51 : decode mc_M_amend 51 = .ok (.goto 13, 3) := by decide +kernel
theorem md_M_amend_54 : decode mc_M_amend 54 = .ok (.iload 5, 2) := by decide +kernel
theorem md_M_amend_56 : decode mc_M_amend 56 = .ok (.ifCond .ge 7, 3) := by decide +kernel
theorem md_M_amend_59 : decode mc_M_amend 59 = .ok (.iconst 2, 1) := by decide +kernel
theorem md_M_amend_60 : decode mc_M_amend 60 = .ok (.goto 4, 3) := by decide +kernel
theorem md_M_amend_63 : decode mc_M_amend 63 = .ok (.iconst 0, 1) := by decide +kernel
theorem md_M_amend_64 : decode mc_M_amend 64 = .ok (.putfield 44, 3) := by decide +kernel
theorem md_M_amend_67 : decode mc_M_amend 67 = .ok (.aload_n 0, 1) := by decide +kernel
theorem md_M_amend_68 : decode mc_M_amend 68 = .ok (.getfield 44, 3) := by decide +kernel
theorem md_M_amend_71 : decode mc_M_amend 71 = .ok (.ifCond .le 5, 3) := by decide +kernel
theorem md_M_amend_74 : decode mc_M_amend 74 = .ok (.iconst 0, 1) := by decide +kernel
theorem md_M_amend_75 : decode mc_M_amend 75 = .ok (.ireturn, 1) := by decide +kernel
theorem md_M_amend_76 : decode mc_M_amend 76 = .ok (.aload_n 0, 1) := by decide +kernel
theorem md_M_amend_77 : decode mc_M_amend 77 = .ok (.getfield 28, 3) := by decide +kernel
theorem md_M_amend_80 : decode mc_M_amend 80 = .ok (.iload 5, 2) := by decide +kernel
theorem md_M_amend_82 : decode mc_M_amend 82 = .ok (.baload, 1) := by decide +kernel
theorem md_M_amend_83 : decode mc_M_amend 83 = .ok (.ifCond .ne 35, 3) := by decide +kernel
theorem md_M_amend_86 : decode mc_M_amend 86 = .ok (.aload_n 0, 1) := by decide +kernel
theorem md_M_amend_87 : decode mc_M_amend 87 = .ok (.getfield 19, 3) := by decide +kernel
theorem md_M_amend_90 : decode mc_M_amend 90 = .ok (.iload 5, 2) := by decide +kernel
theorem md_M_amend_92 : decode mc_M_amend 92 = .ok (.iaload, 1) := by decide +kernel
theorem md_M_amend_93 : decode mc_M_amend 93 = .ok (.iload_n 2, 1) := by decide +kernel
theorem md_M_amend_94 : decode mc_M_amend 94 = .ok (.if_icmp .ne 24, 3) := by decide +kernel
theorem md_M_amend_97 : decode mc_M_amend 97 = .ok (.iload_n 3, 1) := by decide +kernel
theorem md_M_amend_98 : decode mc_M_amend 98 = .ok (.aload_n 0, 1) := by decide +kernel
theorem md_M_amend_99 : decode mc_M_amend 99 = .ok (.getfield 22, 3) := by decide +kernel
theorem md_M_amend_102 : decode mc_M_amend 102 = .ok (.iload 5, 2) := by decide +kernel
theorem md_M_amend_104 : decode mc_M_amend 104 = .ok (.iaload, 1) := by decide +kernel
theorem md_M_amend_105 : decode mc_M_amend 105 = .ok (.if_icmp .gt 13, 3) := by decide +kernel
theorem md_M_amend_108 : decode mc_M_amend 108 = .ok (.aload_n 0, 1) := by decide +kernel
theorem md_M_amend_109 : decode mc_M_amend 109 = .ok (.getfield 22, 3) := by decide +kernel
theorem md_M_amend_112 : decode mc_M_amend 112 = .ok (.iload 5, 2) := by decide +kernel
theorem md_M_amend_114 : decode mc_M_amend 114 = .ok (.iload_n 3, 1) := by decide +kernel
theorem md_M_amend_115 : decode mc_M_amend 115 = .ok (.iastore, 1) := by decide +kernel
theorem md_M_amend_116 : decode mc_M_amend 116 = .ok (.iconst 0, 1) := by decide +kernel
theorem md_M_amend_117 : decode mc_M_amend 117 = .ok (.ireturn, 1) := by decide +kernel
theorem md_M_amend_118 : decode mc_M_amend 118 = .ok (.aload_n 0, 1) := by decide +kernel
theorem md_M_amend_119 : decode mc_M_amend 119 = .ok (.getfield 13, 3) := by decide +kernel
theorem md_M_amend_122 : decode mc_M_amend 122 = .ok (.iload 5, 2) := by decide +kernel
theorem md_M_amend_124 : decode mc_M_amend 124 = .ok (.iaload, 1) := by decide +kernel
theorem md_M_amend_125 : decode mc_M_amend 125 = .ok (.istore 6, 2) := by decide +kernel
theorem md_M_amend_127 : decode mc_M_amend 127 = .ok (.aload_n 0, 1) := by decide +kernel
theorem md_M_amend_128 : decode mc_M_amend 128 = .ok (.getfield 16, 3) := by decide +kernel
theorem md_M_amend_131 : decode mc_M_amend 131 = .ok (.iload 5, 2) := by decide +kernel
theorem md_M_amend_133 : decode mc_M_amend 133 = .ok (.iaload, 1) := by decide +kernel
theorem md_M_amend_134 : decode mc_M_amend 134 = .ok (.istore 7, 2) := by decide +kernel
theorem md_M_amend_136 : decode mc_M_amend 136 = .ok (.aload_n 0, 1) := by decide +kernel
theorem md_M_amend_137 : decode mc_M_amend 137 = .ok (.getfield 28, 3) := by decide +kernel
theorem md_M_amend_140 : decode mc_M_amend 140 = .ok (.iload 5, 2) := by decide +kernel
theorem md_M_amend_142 : decode mc_M_amend 142 = .ok (.baload, 1) := by decide +kernel
theorem md_M_amend_143 : decode mc_M_amend 143 = .ok (.istore 8, 2) := by decide +kernel
theorem md_M_amend_145 : decode mc_M_amend 145 = .ok (.aload_n 0, 1) := by decide +kernel
theorem md_M_amend_146 : decode mc_M_amend 146 = .ok (.iload 5, 2) := by decide +kernel
theorem md_M_amend_148 : decode mc_M_amend 148 = .ok (.invokevirtual 79, 3) := by decide +kernel
theorem md_M_amend_151 : decode mc_M_amend 151 = .ok (.iload 8, 2) := by decide +kernel
theorem md_M_amend_153 : decode mc_M_amend 153 = .ok (.ifCond .eq 7, 3) := by decide +kernel
theorem md_M_amend_156 : decode mc_M_amend 156 = .ok (.iload_n 3, 1) := by decide +kernel
theorem md_M_amend_157 : decode mc_M_amend 157 = .ok (.goto 14, 3) := by decide +kernel
theorem md_M_amend_160 : decode mc_M_amend 160 = .ok (.aload_n 0, 1) := by decide +kernel
theorem md_M_amend_161 : decode mc_M_amend 161 = .ok (.iload_n 1, 1) := by decide +kernel
theorem md_M_amend_162 : decode mc_M_amend 162 = .ok (.iload 6, 2) := by decide +kernel
theorem md_M_amend_164 : decode mc_M_amend 164 = .ok (.iload 7, 2) := by decide +kernel
theorem md_M_amend_166 : decode mc_M_amend 166 = .ok (.iload_n 2, 1) := by decide +kernel
theorem md_M_amend_167 : decode mc_M_amend 167 = .ok (.iload_n 3, 1) := by decide +kernel
theorem md_M_amend_168 : decode mc_M_amend 168 = .ok (.invokevirtual 101, 3) := by decide +kernel
theorem md_M_amend_171 : decode mc_M_amend 171 = .ok (.istore 9, 2) := by decide +kernel
theorem md_M_amend_173 : decode mc_M_amend 173 = .ok (.iload 9, 2) := by decide +kernel
theorem md_M_amend_175 : decode mc_M_amend 175 = .ok (.ifCond .le 28, 3) := by decide +kernel
theorem md_M_amend_178 : decode mc_M_amend 178 = .ok (.aload_n 0, 1) := by decide +kernel
theorem md_M_amend_179 : decode mc_M_amend 179 = .ok (.iload_n 1, 1) := by decide +kernel
theorem md_M_amend_180 : decode mc_M_amend 180 = .ok (.iload 6, 2) := by decide +kernel
theorem md_M_amend_182 : decode mc_M_amend 182 = .ok (.iload 7, 2) := by decide +kernel
theorem md_M_amend_184 : decode mc_M_amend 184 = .ok (.iload_n 2, 1) := by decide +kernel
theorem md_M_amend_185 : decode mc_M_amend 185 = .ok (.iload 9, 2) := by decide +kernel
theorem md_M_amend_187 : decode mc_M_amend 187 = .ok (.invokevirtual 120, 3) := by decide +kernel
theorem md_M_amend_190 : decode mc_M_amend 190 = .ok (.aload_n 0, 1) := by decide +kernel
theorem md_M_amend_191 : decode mc_M_amend 191 = .ok (.getfield 28, 3) := by decide +kernel
theorem md_M_amend_194 : decode mc_M_amend 194 = .ok (.aload_n 0, 1) := by decide +kernel
theorem md_M_amend_195 : decode mc_M_amend 195 = .ok (.getfield 48, 3) := by decide +kernel
theorem md_M_amend_198 : decode mc_M_amend 198 = .ok (.iconst 1, 1) := by decide +kernel
theorem md_M_amend_199 : decode mc_M_amend 199 = .ok (.isub, 1) := by decide +kernel
theorem md_M_amend_200 : decode mc_M_amend 200 = .ok (.iload 8, 2) := by decide +kernel
theorem md_M_amend_202 : decode mc_M_amend 202 = .ok (.bastore, 1) := by decide +kernel
theorem md_M_amend_203 : decode mc_M_amend 203 = .ok (.aload_n 0, 1) := by decide +kernel
theorem md_M_amend_204 : decode mc_M_amend 204 = .ok (.invokevirtual 124, 3) := by decide +kernel
theorem md_M_amend_207 : decode mc_M_amend 207 = .ok (.iload_n 3, 1) := by decide +kernel
theorem md_M_amend_208 : decode mc_M_amend 208 = .ok (.iload 9, 2) := by decide +kernel
theorem md_M_amend_210 : decode mc_M_amend 210 = .ok (.isub, 1) := by decide +kernel
theorem md_M_amend_211 : decode mc_M_amend 211 = .ok (.ireturn, 1) := by decide +kernel
theorem md_M_withdraw_0 : decode mc_M_withdraw 0 = .ok (.aload_n 0, 1) := by decide +kernel
theorem md_M_withdraw_1 : decode mc_M_withdraw 1 = .ok (.iload_n 1, 1) := by decide +kernel
theorem md_M_withdraw_2 : decode mc_M_withdraw 2 = .ok (.iconst 0, 1) := by decide +kernel
theorem md_M_withdraw_3 : decode mc_M_withdraw 3 = .ok (.bipush 7, 2) := by decide +kernel
theorem md_M_withdraw_5 : decode mc_M_withdraw 5 = .ok (.invokestatic 109, 3) := by decide +kernel
theorem md_M_withdraw_8 : decode mc_M_withdraw 8 = .ok (.ifCond .eq 7, 3) := by decide +kernel
theorem md_M_withdraw_11 : decode mc_M_withdraw 11 = .ok (.iconst 0, 1) := by decide +kernel
theorem md_M_withdraw_12 : decode mc_M_withdraw 12 = .ok (.goto 4, 3) := by decide +kernel
theorem md_M_withdraw_15 : decode mc_M_withdraw 15 = .ok (.iconst 1, 1) := by decide +kernel
theorem md_M_withdraw_16 : decode mc_M_withdraw 16 = .ok (.putfield 44, 3) := by decide +kernel
theorem md_M_withdraw_19 : decode mc_M_withdraw 19 = .ok (.iconst 0, 1) := by decide +kernel
theorem md_M_withdraw_20 : decode mc_M_withdraw 20 = .ok (.istore_n 2, 1) := by decide +kernel
theorem md_M_withdraw_21 : decode mc_M_withdraw 21 = .ok (.aload_n 0, 1) := by decide +kernel
theorem md_M_withdraw_22 : decode mc_M_withdraw 22 = .ok (.getfield 48, 3) := by decide +kernel
theorem md_M_withdraw_25 : decode mc_M_withdraw 25 = .ok (.iconst 1, 1) := by decide +kernel
theorem md_M_withdraw_26 : decode mc_M_withdraw 26 = .ok (.isub, 1) := by decide +kernel
theorem md_M_withdraw_27 : decode mc_M_withdraw 27 = .ok (.istore_n 3, 1) := by decide +kernel
theorem md_M_withdraw_28 : decode mc_M_withdraw 28 = .ok (.iload_n 3, 1) := by decide +kernel
theorem md_M_withdraw_29 : decode mc_M_withdraw 29 = .ok (.ifCond .lt 34, 3) := by decide +kernel
theorem md_M_withdraw_32 : decode mc_M_withdraw 32 = .ok (.aload_n 0, 1) := by decide +kernel
theorem md_M_withdraw_33 : decode mc_M_withdraw 33 = .ok (.getfield 44, 3) := by decide +kernel
theorem md_M_withdraw_36 : decode mc_M_withdraw 36 = .ok (.ifCond .ne 27, 3) := by decide +kernel
theorem md_M_withdraw_39 : decode mc_M_withdraw 39 = .ok (.aload_n 0, 1) := by decide +kernel
theorem md_M_withdraw_40 : decode mc_M_withdraw 40 = .ok (.getfield 13, 3) := by decide +kernel
theorem md_M_withdraw_43 : decode mc_M_withdraw 43 = .ok (.iload_n 3, 1) := by decide +kernel
theorem md_M_withdraw_44 : decode mc_M_withdraw 44 = .ok (.iaload, 1) := by decide +kernel
theorem md_M_withdraw_45 : decode mc_M_withdraw 45 = .ok (.iload_n 1, 1) := by decide +kernel
theorem md_M_withdraw_46 : decode mc_M_withdraw 46 = .ok (.if_icmp .ne 11, 3) := by decide +kernel
theorem md_M_withdraw_49 : decode mc_M_withdraw 49 = .ok (.aload_n 0, 1) := by decide +kernel
theorem md_M_withdraw_50 : decode mc_M_withdraw 50 = .ok (.iload_n 3, 1) := by decide +kernel
theorem md_M_withdraw_51 : decode mc_M_withdraw 51 = .ok (.invokevirtual 79, 3) := by decide +kernel
theorem md_M_withdraw_54 : decode mc_M_withdraw 54 = .ok (.iinc 2 1, 3) := by decide +kernel
theorem md_M_withdraw_57 : decode mc_M_withdraw 57 = .ok (.iinc 3 (-1), 3) := by decide +kernel
theorem md_M_withdraw_60 : decode mc_M_withdraw 60 = .ok (.goto (-32), 3) := by decide +kernel
theorem md_M_withdraw_63 : decode mc_M_withdraw 63 = .ok (.iload_n 2, 1) := by decide +kernel
theorem md_M_withdraw_64 : decode mc_M_withdraw 64 = .ok (.ireturn, 1) := by decide +kernel
theorem md_M_levels_0 : decode mc_M_levels 0 = .ok (.aload_n 0, 1) := by decide +kernel
theorem md_M_levels_1 : decode mc_M_levels 1 = .ok (.iload_n 1, 1) := by decide +kernel
theorem md_M_levels_2 : decode mc_M_levels 2 = .ok (.iconst 0, 1) := by decide +kernel
theorem md_M_levels_3 : decode mc_M_levels 3 = .ok (.iconst 1, 1) := by decide +kernel
theorem md_M_levels_4 : decode mc_M_levels 4 = .ok (.invokestatic 109, 3) := by decide +kernel
theorem md_M_levels_7 : decode mc_M_levels 7 = .ok (.ifCond .eq 7, 3) := by decide +kernel
theorem md_M_levels_10 : decode mc_M_levels 10 = .ok (.iconst 0, 1) := by decide +kernel
theorem md_M_levels_11 : decode mc_M_levels 11 = .ok (.goto 4, 3) := by decide +kernel
theorem md_M_levels_14 : decode mc_M_levels 14 = .ok (.iconst 1, 1) := by decide +kernel
theorem md_M_levels_15 : decode mc_M_levels 15 = .ok (.putfield 44, 3) := by decide +kernel
theorem md_M_levels_18 : decode mc_M_levels 18 = .ok (.iconst 0, 1) := by decide +kernel
theorem md_M_levels_19 : decode mc_M_levels 19 = .ok (.istore_n 2, 1) := by decide +kernel
theorem md_M_levels_20 : decode mc_M_levels 20 = .ok (.aload_n 0, 1) := by decide +kernel
theorem md_M_levels_21 : decode mc_M_levels 21 = .ok (.getfield 44, 3) := by decide +kernel
theorem md_M_levels_24 : decode mc_M_levels 24 = .ok (.ifCond .le 7, 3) := by decide +kernel
theorem md_M_levels_27 : decode mc_M_levels 27 = .ok (.iconst 0, 1) := by decide +kernel
theorem md_M_levels_28 : decode mc_M_levels 28 = .ok (.goto 9, 3) := by decide +kernel
theorem md_M_levels_31 : decode mc_M_levels 31 = .ok (.aload_n 0, 1) := by decide +kernel
theorem md_M_levels_32 : decode mc_M_levels 32 = .ok (.iload_n 1, 1) := by decide +kernel
theorem md_M_levels_33 : decode mc_M_levels 33 = .ok (.iconst 0, 1) := by decide +kernel
theorem md_M_levels_34 : decode mc_M_levels 34 = .ok (.invokevirtual 127, 3) := by decide +kernel
theorem md_M_levels_37 : decode mc_M_levels 37 = .ok (.istore_n 3, 1) := by decide +kernel
theorem md_M_levels_38 : decode mc_M_levels 38 = .ok (.iload_n 3, 1) := by decide +kernel
theorem md_M_levels_39 : decode mc_M_levels 39 = .ok (.ifCond .le 16, 3) := by decide +kernel
theorem md_M_levels_42 : decode mc_M_levels 42 = .ok (.iinc 2 1, 3) := by decide +kernel
theorem md_M_levels_45 : decode mc_M_levels 45 = .ok (.aload_n 0, 1) := by decide +kernel
theorem md_M_levels_46 : decode mc_M_levels 46 = .ok (.iload_n 1, 1) := by decide +kernel
theorem md_M_levels_47 : decode mc_M_levels 47 = .ok (.iload_n 3, 1) := by decide +kernel
theorem md_M_levels_48 : decode mc_M_levels 48 = .ok (.invokevirtual 127, 3) := by decide +kernel
theorem md_M_levels_51 : decode mc_M_levels 51 = .ok (.istore_n 3, 1) := by decide +kernel
theorem md_M_levels_52 : decode mc_M_levels 52 = .ok (.goto (-14), 3) := by decide +kernel
theorem md_M_levels_55 : decode mc_M_levels 55 = .ok (.iload_n 2, 1) := by decide +kernel
theorem md_M_levels_56 : decode mc_M_levels 56 = .ok (.ireturn, 1) := by decide +kernel
theorem md_M_nextPrice_0 : decode mc_M_nextPrice 0 = .ok (.iconst 0, 1) := by decide +kernel
theorem md_M_nextPrice_1 : decode mc_M_nextPrice 1 = .ok (.istore_n 3, 1) := by decide +kernel
theorem md_M_nextPrice_2 : decode mc_M_nextPrice 2 = .ok (.iconst 0, 1) := by decide +kernel
theorem md_M_nextPrice_3 : decode mc_M_nextPrice 3 = .ok (.istore 4, 2) := by decide +kernel
theorem md_M_nextPrice_5 : decode mc_M_nextPrice 5 = .ok (.iload 4, 2) := by decide +kernel
theorem md_M_nextPrice_7 : decode mc_M_nextPrice 7 = .ok (.aload_n 0, 1) := by decide +kernel
theorem md_M_nextPrice_8 : decode mc_M_nextPrice 8 = .ok (.getfield 48, 3) := by decide +kernel
theorem md_M_nextPrice_11 : decode mc_M_nextPrice 11 = .ok (.if_icmp .ge 120, 3) := by decide +kernel
theorem md_M_nextPrice_14 : decode mc_M_nextPrice 14 = .ok (.aload_n 0, 1) := by decide +kernel
theorem md_M_nextPrice_15 : decode mc_M_nextPrice 15 = .ok (.getfield 28, 3) := by decide +kernel
theorem md_M_nextPrice_18 : decode mc_M_nextPrice 18 = .ok (.iload 4, 2) := by decide +kernel
theorem md_M_nextPrice_20 : decode mc_M_nextPrice 20 = .ok (.baload, 1) := by decide +kernel
theorem md_M_nextPrice_21 : decode mc_M_nextPrice 21 = .ok (.ifCond .ne 51, 3) := by decide +kernel
theorem md_M_nextPrice_24 : decode mc_M_nextPrice 24 = .ok (.aload_n 0, 1) := by decide +kernel
theorem md_M_nextPrice_25 : decode mc_M_nextPrice 25 = .ok (.getfield 16, 3) := by decide +kernel
theorem md_M_nextPrice_28 : decode mc_M_nextPrice 28 = .ok (.iload 4, 2) := by decide +kernel
theorem md_M_nextPrice_30 : decode mc_M_nextPrice 30 = .ok (.iaload, 1) := by decide +kernel
theorem md_M_nextPrice_31 : decode mc_M_nextPrice 31 = .ok (.iload_n 1, 1) := by decide +kernel
theorem md_M_nextPrice_32 : decode mc_M_nextPrice 32 = .ok (.if_icmp .ne 40, 3) := by decide +kernel
theorem md_M_nextPrice_35 : decode mc_M_nextPrice 35 = .ok (.iload_n 2, 1) := by decide +kernel
theorem md_M_nextPrice_36 : decode mc_M_nextPrice 36 = .ok (.ifCond .eq 32, 3) := by decide +kernel
theorem md_M_nextPrice_39 : decode mc_M_nextPrice 39 = .ok (.iload_n 1, 1) := by decide +kernel
theorem md_M_nextPrice_40 : decode mc_M_nextPrice 40 = .ok (.ifCond .ne 17, 3) := by decide +kernel
theorem md_M_nextPrice_43 : decode mc_M_nextPrice 43 = .ok (.aload_n 0, 1) := by decide +kernel
theorem md_M_nextPrice_44 : decode mc_M_nextPrice 44 = .ok (.getfield 19, 3) := by decide +kernel
theorem md_M_nextPrice_47 : decode mc_M_nextPrice 47 = .ok (.iload 4, 2) := by decide +kernel
theorem md_M_nextPrice_49 : decode mc_M_nextPrice 49 = .ok (.iaload, 1) := by decide +kernel
theorem md_M_nextPrice_50 : decode mc_M_nextPrice 50 = .ok (.iload_n 2, 1) := by decide +kernel
theorem md_M_nextPrice_51 : decode mc_M_nextPrice 51 = .ok (.if_icmp .ge 21, 3) := by decide +kernel
theorem md_M_nextPrice_54 : decode mc_M_nextPrice 54 = .ok (.goto 14, 3) := by decide +kernel
theorem md_M_nextPrice_57 : decode mc_M_nextPrice 57 = .ok (.aload_n 0, 1) := by decide +kernel
theorem md_M_nextPrice_58 : decode mc_M_nextPrice 58 = .ok (.getfield 19, 3) := by decide +kernel
theorem md_M_nextPrice_61 : decode mc_M_nextPrice 61 = .ok (.iload 4, 2) := by decide +kernel
theorem md_M_nextPrice_63 : decode mc_M_nextPrice 63 = .ok (.iaload, 1) := by decide +kernel
theorem md_M_nextPrice_64 : decode mc_M_nextPrice 64 = .ok (.iload_n 2, 1) := by decide +kernel
theorem md_M_nextPrice_65 : decode mc_M_nextPrice 65 = .ok (.if_icmp .le 7, 3) := by decide +kernel
theorem md_M_nextPrice_68 : decode mc_M_nextPrice 68 = .ok (.iconst 1, 1) := by decide +kernel
theorem md_M_nextPrice_69 : decode mc_M_nextPrice 69 = .ok (.goto 4, 3) := by decide +kernel
theorem md_M_nextPrice_72 : decode mc_M_nextPrice 72 = .ok (.iconst 0, 1) := by decide +kernel
theorem md_M_nextPrice_73 : decode mc_M_nextPrice 73 = .ok (.istore 5, 2) := by decide +kernel
theorem md_M_nextPrice_75 : decode mc_M_nextPrice 75 = .ok (.iload 5, 2) := by decide +kernel
theorem md_M_nextPrice_77 : decode mc_M_nextPrice 77 = .ok (.ifCond .eq 46, 3) := by decide +kernel
theorem md_M_nextPrice_80 : decode mc_M_nextPrice 80 = .ok (.iload_n 3, 1) := by decide +kernel
theorem md_M_nextPrice_81 : decode mc_M_nextPrice 81 = .ok (.ifCond .eq 32, 3) := by decide +kernel
theorem md_M_nextPrice_84 : decode mc_M_nextPrice 84 = .ok (.iload_n 1, 1) := by decide +kernel
theorem md_M_nextPrice_85 : decode mc_M_nextPrice 85 = .ok (.ifCond .ne 17, 3) := by decide +kernel
theorem md_M_nextPrice_88 : decode mc_M_nextPrice 88 = .ok (.aload_n 0, 1) := by decide +kernel
theorem md_M_nextPrice_89 : decode mc_M_nextPrice 89 = .ok (.getfield 19, 3) := by decide +kernel
theorem md_M_nextPrice_92 : decode mc_M_nextPrice 92 = .ok (.iload 4, 2) := by decide +kernel
theorem md_M_nextPrice_94 : decode mc_M_nextPrice 94 = .ok (.iaload, 1) := by decide +kernel
theorem md_M_nextPrice_95 : decode mc_M_nextPrice 95 = .ok (.iload_n 3, 1) := by decide +kernel
theorem md_M_nextPrice_96 : decode mc_M_nextPrice 96 = .ok (.if_icmp .le 27, 3) := by decide +kernel
theorem md_M_nextPrice_99 : decode mc_M_nextPrice 99 = .ok (.goto 14, 3) := by decide +kernel
theorem md_M_nextPrice_102 : decode mc_M_nextPrice 102 = .ok (.aload_n 0, 1) := by decide +kernel
theorem md_M_nextPrice_103 : decode mc_M_nextPrice 103 = .ok (.getfield 19, 3) := by decide +kernel
theorem md_M_nextPrice_106 : decode mc_M_nextPrice 106 = .ok (.iload 4, 2) := by decide +kernel
theorem md_M_nextPrice_108 : decode mc_M_nextPrice 108 = .ok (.iaload, 1) := by decide +kernel
theorem md_M_nextPrice_109 : decode mc_M_nextPrice 109 = .ok (.iload_n 3, 1) := by decide +kernel
theorem md_M_nextPrice_110 : decode mc_M_nextPrice 110 = .ok (.if_icmp .ge 13, 3) := by decide +kernel
theorem md_M_nextPrice_113 : decode mc_M_nextPrice 113 = .ok (.aload_n 0, 1) := by decide +kernel
theorem md_M_nextPrice_114 : decode mc_M_nextPrice 114 = .ok (.getfield 19, 3) := by decide +kernel
theorem md_M_nextPrice_117 : decode mc_M_nextPrice 117 = .ok (.iload 4, 2) := by decide +kernel
theorem md_M_nextPrice_119 : decode mc_M_nextPrice 119 = .ok (.iaload, 1) := by decide +kernel
theorem md_M_nextPrice_120 : decode mc_M_nextPrice 120 = .ok (.goto 4, 3) := by decide +kernel
theorem md_M_nextPrice_123 : decode mc_M_nextPrice 123 = .ok (.iload_n 3, 1) := by decide +kernel
theorem md_M_nextPrice_124 : decode mc_M_nextPrice 124 = .ok (.istore_n 3, 1) := by decide +kernel
theorem md_M_nextPrice_125 : decode mc_M_nextPrice 125 = .ok (.iinc 4 1, 3) := by decide +kernel
theorem md_M_nextPrice_128 : decode mc_M_nextPrice 128 = .ok (.goto (-123), 3) := by decide +kernel
theorem md_M_nextPrice_131 : decode mc_M_nextPrice 131 = .ok (.iload_n 3, 1) := by decide +kernel
theorem md_M_nextPrice_132 : decode mc_M_nextPrice 132 = .ok (.ireturn, 1) := by decide +kernel
theorem md_M_level_0 : decode mc_M_level 0 = .ok (.aload_n 0, 1) := by decide +kernel
theorem md_M_level_1 : decode mc_M_level 1 = .ok (.iload_n 1, 1) := by decide +kernel
theorem md_M_level_2 : decode mc_M_level 2 = .ok (.iconst 0, 1) := by decide +kernel
theorem md_M_level_3 : decode mc_M_level 3 = .ok (.iconst 1, 1) := by decide +kernel
theorem md_M_level_4 : decode mc_M_level 4 = .ok (.invokestatic 109, 3) := by decide +kernel
theorem md_M_level_7 : decode mc_M_level 7 = .ok (.ifCond .eq 16, 3) := by decide +kernel
theorem md_M_level_10 : decode mc_M_level 10 = .ok (.iload_n 3, 1) := by decide +kernel
theorem md_M_level_11 : decode mc_M_level 11 = .ok (.iconst 0, 1) := by decide +kernel
theorem md_M_level_12 : decode mc_M_level 12 = .ok (.iconst 2, 1) := by decide +kernel
theorem md_M_level_13 : decode mc_M_level 13 = .ok (.invokestatic 109, 3) := by decide +kernel
theorem md_M_level_16 : decode mc_M_level 16 = .ok (.ifCond .eq 7, 3) := by decide +kernel
theorem md_M_level_19 : decode mc_M_level 19 = .ok (.iconst 0, 1) := by decide +kernel
theorem md_M_level_20 : decode mc_M_level 20 = .ok (.goto 4, 3) := by decide +kernel
theorem md_M_level_23 : decode mc_M_level 23 = .ok (.iconst 1, 1) := by decide +kernel
theorem md_M_level_24 : decode mc_M_level 24 = .ok (.putfield 44, 3) := by decide +kernel
theorem md_M_level_27 : decode mc_M_level 27 = .ok (.aload_n 0, 1) := by decide +kernel
theorem md_M_level_28 : decode mc_M_level 28 = .ok (.getfield 44, 3) := by decide +kernel
theorem md_M_level_31 : decode mc_M_level 31 = .ok (.ifCond .le 5, 3) := by decide +kernel
theorem md_M_level_34 : decode mc_M_level 34 = .ok (.iconst 0, 1) := by decide +kernel
theorem md_M_level_35 : decode mc_M_level 35 = .ok (.ireturn, 1) := by decide +kernel
theorem md_M_level_36 : decode mc_M_level 36 = .ok (.iload_n 2, 1) := by decide +kernel
theorem md_M_level_37 : decode mc_M_level 37 = .ok (.ifCond .ge 7, 3) := by decide +kernel
theorem md_M_level_40 : decode mc_M_level 40 = .ok (.iconst 0, 1) := by decide +kernel
theorem md_M_level_41 : decode mc_M_level 41 = .ok (.goto 9, 3) := by decide +kernel
theorem md_M_level_44 : decode mc_M_level 44 = .ok (.aload_n 0, 1) := by decide +kernel
theorem md_M_level_45 : decode mc_M_level 45 = .ok (.iload_n 1, 1) := by decide +kernel
theorem md_M_level_46 : decode mc_M_level 46 = .ok (.iconst 0, 1) := by decide +kernel
theorem md_M_level_47 : decode mc_M_level 47 = .ok (.invokevirtual 127, 3) := by decide +kernel
theorem md_M_level_50 : decode mc_M_level 50 = .ok (.istore 4, 2) := by decide +kernel
theorem md_M_level_52 : decode mc_M_level 52 = .ok (.iconst 0, 1) := by decide +kernel
theorem md_M_level_53 : decode mc_M_level 53 = .ok (.istore 5, 2) := by decide +kernel
theorem md_M_level_55 : decode mc_M_level 55 = .ok (.iload 5, 2) := by decide +kernel
theorem md_M_level_57 : decode mc_M_level 57 = .ok (.iload_n 2, 1) := by decide +kernel
theorem md_M_level_58 : decode mc_M_level 58 = .ok (.if_icmp .ge 23, 3) := by decide +kernel
theorem md_M_level_61 : decode mc_M_level 61 = .ok (.iload 4, 2) := by decide +kernel
theorem md_M_level_63 : decode mc_M_level 63 = .ok (.ifCond .le 18, 3) := by decide +kernel
theorem md_M_level_66 : decode mc_M_level 66 = .ok (.aload_n 0, 1) := by decide +kernel
theorem md_M_level_67 : decode mc_M_level 67 = .ok (.iload_n 1, 1) := by decide +kernel
theorem md_M_level_68 : decode mc_M_level 68 = .ok (.iload 4, 2) := by decide +kernel
theorem md_M_level_70 : decode mc_M_level 70 = .ok (.invokevirtual 127, 3) := by decide +kernel
theorem md_M_level_73 : decode mc_M_level 73 = .ok (.istore 4, 2) := by decide +kernel
theorem md_M_level_75 : decode mc_M_level 75 = .ok (.iinc 5 1, 3) := by decide +kernel
theorem md_M_level_78 : decode mc_M_level 78 = .ok (.goto (-23), 3) := by decide +kernel
theorem md_M_level_81 : decode mc_M_level 81 = .ok (.aload_n 0, 1) := by decide +kernel
theorem md_M_level_82 : decode mc_M_level 82 = .ok (.iload 4, 2) := by decide +kernel
theorem md_M_level_84 : decode mc_M_level 84 = .ok (.ifCond .ne 7, 3) := by decide +kernel
theorem md_M_level_87 : decode mc_M_level 87 = .ok (.iconst 2, 1) := by decide +kernel
theorem md_M_level_88 : decode mc_M_level 88 = .ok (.goto 4, 3) := by decide +kernel
theorem md_M_level_91 : decode mc_M_level 91 = .ok (.iconst 0, 1) := by decide +kernel
theorem md_M_level_92 : decode mc_M_level 92 = .ok (.putfield 44, 3) := by decide +kernel
theorem md_M_level_95 : decode mc_M_level 95 = .ok (.iconst 0, 1) := by decide +kernel
theorem md_M_level_96 : decode mc_M_level 96 = .ok (.istore 5, 2) := by decide +kernel
theorem md_M_level_98 : decode mc_M_level 98 = .ok (.iconst 0, 1) := by decide +kernel
theorem md_M_level_99 : decode mc_M_level 99 = .ok (.istore 6, 2) := by decide +kernel
theorem md_M_level_101 : decode mc_M_level 101 = .ok (.iconst 0, 1) := by decide +kernel
theorem md_M_level_102 : decode mc_M_level 102 = .ok (.istore 7, 2) := by decide +kernel
theorem md_M_level_104 : decode mc_M_level 104 = .ok (.iload 7, 2) := by decide +kernel
theorem md_M_level_106 : decode mc_M_level 106 = .ok (.aload_n 0, 1) := by decide +kernel
theorem md_M_level_107 : decode mc_M_level 107 = .ok (.getfield 48, 3) := by decide +kernel
theorem md_M_level_110 : decode mc_M_level 110 = .ok (.if_icmp .ge 85, 3) := by decide +kernel
theorem md_M_level_113 : decode mc_M_level 113 = .ok (.aload_n 0, 1) := by decide +kernel
theorem md_M_level_114 : decode mc_M_level 114 = .ok (.getfield 28, 3) := by decide +kernel
theorem md_M_level_117 : decode mc_M_level 117 = .ok (.iload 7, 2) := by decide +kernel
theorem md_M_level_119 : decode mc_M_level 119 = .ok (.baload, 1) := by decide +kernel
theorem md_M_level_120 : decode mc_M_level 120 = .ok (.ifCond .ne 30, 3) := by decide +kernel
theorem md_M_level_123 : decode mc_M_level 123 = .ok (.aload_n 0, 1) := by decide +kernel
theorem md_M_level_124 : decode mc_M_level 124 = .ok (.getfield 16, 3) := by decide +kernel
theorem md_M_level_127 : decode mc_M_level 127 = .ok (.iload 7, 2) := by decide +kernel
theorem md_M_level_129 : decode mc_M_level 129 = .ok (.iaload, 1) := by decide +kernel
theorem md_M_level_130 : decode mc_M_level 130 = .ok (.iload_n 1, 1) := by decide +kernel
theorem md_M_level_131 : decode mc_M_level 131 = .ok (.if_icmp .ne 19, 3) := by decide +kernel
theorem md_M_level_134 : decode mc_M_level 134 = .ok (.aload_n 0, 1) := by decide +kernel
theorem md_M_level_135 : decode mc_M_level 135 = .ok (.getfield 19, 3) := by decide +kernel
theorem md_M_level_138 : decode mc_M_level 138 = .ok (.iload 7, 2) := by decide +kernel
theorem md_M_level_140 : decode mc_M_level 140 = .ok (.iaload, 1) := by decide +kernel
theorem md_M_level_141 : decode mc_M_level 141 = .ok (.iload 4, 2) := by decide +kernel
theorem md_M_level_143 : decode mc_M_level 143 = .ok (.if_icmp .ne 7, 3) := by decide +kernel
theorem md_M_level_146 : decode mc_M_level 146 = .ok (.iconst 1, 1) := by decide +kernel
theorem md_M_level_147 : decode mc_M_level 147 = .ok (.goto 4, 3) := by decide +kernel
theorem md_M_level_150 : decode mc_M_level 150 = .ok (.iconst 0, 1) := by decide +kernel
theorem md_M_level_151 : decode mc_M_level 151 = .ok (.istore 8, 2) := by decide +kernel
theorem md_M_level_153 : decode mc_M_level 153 = .ok (.iload 5, 2) := by decide +kernel
theorem md_M_level_155 : decode mc_M_level 155 = .ok (.iload 8, 2) := by decide +kernel
theorem md_M_level_157 : decode mc_M_level 157 = .ok (.ifCond .eq 13, 3) := by decide +kernel
theorem md_M_level_160 : decode mc_M_level 160 = .ok (.aload_n 0, 1) := by decide +kernel
theorem md_M_level_161 : decode mc_M_level 161 = .ok (.getfield 22, 3) := by decide +kernel
theorem md_M_level_164 : decode mc_M_level 164 = .ok (.iload 7, 2) := by decide +kernel
theorem md_M_level_166 : decode mc_M_level 166 = .ok (.iaload, 1) := by decide +kernel
theorem md_M_level_167 : decode mc_M_level 167 = .ok (.goto 4, 3) := by decide +kernel
theorem md_M_level_170 : decode mc_M_level 170 = .ok (.iconst 0, 1) := by decide +kernel
theorem md_M_level_171 : decode mc_M_level 171 = .ok (.iadd, 1) := by decide +kernel
theorem md_M_level_172 : decode mc_M_level 172 = .ok (.istore 5, 2) := by decide +kernel
theorem md_M_level_174 : decode mc_M_level 174 = .ok (.iload 6, 2) := by decide +kernel
theorem md_M_level_176 : decode mc_M_level 176 = .ok (.iload 8, 2) := by decide +kernel
theorem md_M_level_178 : decode mc_M_level 178 = .ok (.ifCond .eq 7, 3) := by decide +kernel
theorem md_M_level_181 : decode mc_M_level 181 = .ok (.iconst 1, 1) := by decide +kernel
theorem md_M_level_182 : decode mc_M_level 182 = .ok (.goto 4, 3) := by decide +kernel
theorem md_M_level_185 : decode mc_M_level 185 = .ok (.iconst 0, 1) := by decide +kernel
theorem md_M_level_186 : decode mc_M_level 186 = .ok (.iadd, 1) := by decide +kernel
theorem md_M_level_187 : decode mc_M_level 187 = .ok (.istore 6, 2) := by decide +kernel
theorem md_M_level_189 : decode mc_M_level 189 = .ok (.iinc 7 1, 3) := by decide +kernel
theorem md_M_level_192 : decode mc_M_level 192 = .ok (.goto (-88), 3) := by decide +kernel
theorem md_M_level_195 : decode mc_M_level 195 = .ok (.aload_n 0, 1) := by decide +kernel
theorem md_M_level_196 : decode mc_M_level 196 = .ok (.getfield 44, 3) := by decide +kernel
theorem md_M_level_199 : decode mc_M_level 199 = .ok (.ifCond .le 7, 3) := by decide +kernel
theorem md_M_level_202 : decode mc_M_level 202 = .ok (.iconst 0, 1) := by decide +kernel
theorem md_M_level_203 : decode mc_M_level 203 = .ok (.goto 24, 3) := by decide +kernel
theorem md_M_level_206 : decode mc_M_level 206 = .ok (.iload_n 3, 1) := by decide +kernel
theorem md_M_level_207 : decode mc_M_level 207 = .ok (.ifCond .ne 8, 3) := by decide +kernel
theorem md_M_level_210 : decode mc_M_level 210 = .ok (.iload 4, 2) := by decide +kernel
theorem md_M_level_212 : decode mc_M_level 212 = .ok (.goto 15, 3) := by decide +kernel
theorem md_M_level_215 : decode mc_M_level 215 = .ok (.iload_n 3, 1) := by decide +kernel
theorem md_M_level_216 : decode mc_M_level 216 = .ok (.iconst 1, 1) := by decide +kernel
theorem md_M_level_217 : decode mc_M_level 217 = .ok (.if_icmp .ne 8, 3) := by decide +kernel
theorem md_M_level_220 : decode mc_M_level 220 = .ok (.iload 5, 2) := by decide +kernel
theorem md_M_level_222 : decode mc_M_level 222 = .ok (.goto 5, 3) := by decide +kernel
theorem md_M_level_225 : decode mc_M_level 225 = .ok (.iload 6, 2) := by decide +kernel
theorem md_M_level_227 : decode mc_M_level 227 = .ok (.ireturn, 1) := by decide +kernel
theorem md_M_order_0 : decode mc_M_order 0 = .ok (.aload_n 0, 1) := by decide +kernel
theorem md_M_order_1 : decode mc_M_order 1 = .ok (.iload_n 1, 1) := by decide +kernel
theorem md_M_order_2 : decode mc_M_order 2 = .ok (.invokevirtual 113, 3) := by decide +kernel
theorem md_M_order_5 : decode mc_M_order 5 = .ok (.istore_n 3, 1) := by decide +kernel
theorem md_M_order_6 : decode mc_M_order 6 = .ok (.aload_n 0, 1) := by decide +kernel
theorem md_M_order_7 : decode mc_M_order 7 = .ok (.iload_n 3, 1) := by decide +kernel
theorem md_M_order_8 : decode mc_M_order 8 = .ok (.ifCond .ge 7, 3) := by decide +kernel
theorem md_M_order_11 : decode mc_M_order 11 = .ok (.iconst 1, 1) := by decide +kernel
theorem md_M_order_12 : decode mc_M_order 12 = .ok (.goto 17, 3) := by decide +kernel
theorem md_M_order_15 : decode mc_M_order 15 = .ok (.iload_n 2, 1) := by decide +kernel
theorem md_M_order_16 : decode mc_M_order 16 = .ok (.iconst 0, 1) := by decide +kernel
theorem md_M_order_17 : decode mc_M_order 17 = .ok (.iconst 3, 1) := by decide +kernel
theorem md_M_order_18 : decode mc_M_order 18 = .ok (.invokestatic 109, 3) := by decide +kernel
theorem md_M_order_21 : decode mc_M_order 21 = .ok (.ifCond .eq 7, 3) := by decide +kernel
theorem md_M_order_24 : decode mc_M_order 24 = .ok (.iconst 0, 1) := by decide +kernel
theorem md_M_order_25 : decode mc_M_order 25 = .ok (.goto 4, 3) := by decide +kernel
theorem md_M_order_28 : decode mc_M_order 28 = .ok (.iconst 2, 1) := by decide +kernel
theorem md_M_order_29 : decode mc_M_order 29 = .ok (.putfield 44, 3) := by decide +kernel
theorem md_M_order_32 : decode mc_M_order 32 = .ok (.aload_n 0, 1) := by decide +kernel
theorem md_M_order_33 : decode mc_M_order 33 = .ok (.getfield 44, 3) := by decide +kernel
theorem md_M_order_36 : decode mc_M_order 36 = .ok (.ifCond .le 5, 3) := by decide +kernel
theorem md_M_order_39 : decode mc_M_order 39 = .ok (.iconst 0, 1) := by decide +kernel
theorem md_M_order_40 : decode mc_M_order 40 = .ok (.ireturn, 1) := by decide +kernel
theorem md_M_order_41 : decode mc_M_order 41 = .ok (.iconst 0, 1) := by decide +kernel
theorem md_M_order_42 : decode mc_M_order 42 = .ok (.istore 4, 2) := by decide +kernel
theorem md_M_order_44 : decode mc_M_order 44 = .ok (.iconst 0, 1) := by decide +kernel
theorem md_M_order_45 : decode mc_M_order 45 = .ok (.istore 5, 2) := by decide +kernel
theorem md_M_order_47 : decode mc_M_order 47 = .ok (.iload 5, 2) := by decide +kernel
theorem md_M_order_49 : decode mc_M_order 49 = .ok (.aload_n 0, 1) := by decide +kernel
theorem md_M_order_50 : decode mc_M_order 50 = .ok (.getfield 48, 3) := by decide +kernel
theorem md_M_order_53 : decode mc_M_order 53 = .ok (.if_icmp .ge 108, 3) := by decide +kernel
theorem md_M_order_56 : decode mc_M_order 56 = .ok (.aload_n 0, 1) := by decide +kernel
theorem md_M_order_57 : decode mc_M_order 57 = .ok (.getfield 28, 3) := by decide +kernel
theorem md_M_order_60 : decode mc_M_order 60 = .ok (.iload_n 3, 1) := by decide +kernel
theorem md_M_order_61 : decode mc_M_order 61 = .ok (.baload, 1) := by decide +kernel
theorem md_M_order_62 : decode mc_M_order 62 = .ok (.ifCond .eq 13, 3) := by decide +kernel
theorem md_M_order_65 : decode mc_M_order 65 = .ok (.aload_n 0, 1) := by decide +kernel
theorem md_M_order_66 : decode mc_M_order 66 = .ok (.getfield 28, 3) := by decide +kernel
theorem md_M_order_69 : decode mc_M_order 69 = .ok (.iload 5, 2) := by decide +kernel
theorem md_M_order_71 : decode mc_M_order 71 = .ok (.baload, 1) := by decide +kernel
theorem md_M_order_72 : decode mc_M_order 72 = .ok (.goto 50, 3) := by decide +kernel
theorem md_M_order_75 : decode mc_M_order 75 = .ok (.aload_n 0, 1) := by decide +kernel
theorem md_M_order_76 : decode mc_M_order 76 = .ok (.getfield 28, 3) := by decide +kernel
theorem md_M_order_79 : decode mc_M_order 79 = .ok (.iload 5, 2) := by decide +kernel
theorem md_M_order_81 : decode mc_M_order 81 = .ok (.baload, 1) := by decide +kernel
theorem md_M_order_82 : decode mc_M_order 82 = .ok (.ifCond .ne 39, 3) := by decide +kernel
theorem md_M_order_85 : decode mc_M_order 85 = .ok (.aload_n 0, 1) := by decide +kernel
theorem md_M_order_86 : decode mc_M_order 86 = .ok (.getfield 16, 3) := by decide +kernel
theorem md_M_order_89 : decode mc_M_order 89 = .ok (.iload 5, 2) := by decide +kernel
theorem md_M_order_91 : decode mc_M_order 91 = .ok (.iaload, 1) := by decide +kernel
theorem md_M_order_92 : decode mc_M_order 92 = .ok (.aload_n 0, 1) := by decide +kernel
theorem md_M_order_93 : decode mc_M_order 93 = .ok (.getfield 16, 3) := by decide +kernel
theorem md_M_order_96 : decode mc_M_order 96 = .ok (.iload_n 3, 1) := by decide +kernel
theorem md_M_order_97 : decode mc_M_order 97 = .ok (.iaload, 1) := by decide +kernel
theorem md_M_order_98 : decode mc_M_order 98 = .ok (.if_icmp .ne 23, 3) := by decide +kernel
theorem md_M_order_101 : decode mc_M_order 101 = .ok (.aload_n 0, 1) := by decide +kernel
theorem md_M_order_102 : decode mc_M_order 102 = .ok (.getfield 19, 3) := by decide +kernel
theorem md_M_order_105 : decode mc_M_order 105 = .ok (.iload 5, 2) := by decide +kernel
theorem md_M_order_107 : decode mc_M_order 107 = .ok (.iaload, 1) := by decide +kernel
theorem md_M_order_108 : decode mc_M_order 108 = .ok (.aload_n 0, 1) := by decide +kernel
theorem md_M_order_109 : decode mc_M_order 109 = .ok (.getfield 19, 3) := by decide +kernel
theorem md_M_order_112 : decode mc_M_order 112 = .ok (.iload_n 3, 1) := by decide +kernel
theorem md_M_order_113 : decode mc_M_order 113 = .ok (.iaload, 1) := by decide +kernel
theorem md_M_order_114 : decode mc_M_order 114 = .ok (.if_icmp .ne 7, 3) := by decide +kernel
theorem md_M_order_117 : decode mc_M_order 117 = .ok (.iconst 1, 1) := by decide +kernel
theorem md_M_order_118 : decode mc_M_order 118 = .ok (.goto 4, 3) := by decide +kernel
theorem md_M_order_121 : decode mc_M_order 121 = .ok (.iconst 0, 1) := by decide +kernel
theorem md_M_order_122 : decode mc_M_order 122 = .ok (.istore 6, 2) := by decide +kernel
theorem md_M_order_124 : decode mc_M_order 124 = .ok (.iload 4, 2) := by decide +kernel
theorem md_M_order_126 : decode mc_M_order 126 = .ok (.iload 6, 2) := by decide +kernel
theorem md_M_order_128 : decode mc_M_order 128 = .ok (.ifCond .eq 23, 3) := by decide +kernel
theorem md_M_order_131 : decode mc_M_order 131 = .ok (.aload_n 0, 1) := by decide +kernel
theorem md_M_order_132 : decode mc_M_order 132 = .ok (.getfield 25, 3) := by decide +kernel
theorem md_M_order_135 : decode mc_M_order 135 = .ok (.iload 5, 2) := by decide +kernel
theorem md_M_order_137 : decode mc_M_order 137 = .ok (.iaload, 1) := by decide +kernel
theorem md_M_order_138 : decode mc_M_order 138 = .ok (.aload_n 0, 1) := by decide +kernel
theorem md_M_order_139 : decode mc_M_order 139 = .ok (.getfield 25, 3) := by decide +kernel
theorem md_M_order_142 : decode mc_M_order 142 = .ok (.iload_n 3, 1) := by decide +kernel
theorem md_M_order_143 : decode mc_M_order 143 = .ok (.iaload, 1) := by decide +kernel
theorem md_M_order_144 : decode mc_M_order 144 = .ok (.if_icmp .ge 7, 3) := by decide +kernel
theorem md_M_order_147 : decode mc_M_order 147 = .ok (.iconst 1, 1) := by decide +kernel
theorem md_M_order_148 : decode mc_M_order 148 = .ok (.goto 4, 3) := by decide +kernel
theorem md_M_order_151 : decode mc_M_order 151 = .ok (.iconst 0, 1) := by decide +kernel
theorem md_M_order_152 : decode mc_M_order 152 = .ok (.iadd, 1) := by decide +kernel
theorem md_M_order_153 : decode mc_M_order 153 = .ok (.istore 4, 2) := by decide +kernel
theorem md_M_order_155 : decode mc_M_order 155 = .ok (.iinc 5 1, 3) := by decide +kernel
theorem md_M_order_158 : decode mc_M_order 158 = .ok (.goto (-111), 3) := by decide +kernel
theorem md_M_order_161 : decode mc_M_order 161 = .ok (.iload_n 2, 1) := by decide +kernel
theorem md_M_order_162 : decode mc_M_order 162 = .ok (.ifCond .ne 37, 3) := by decide +kernel
theorem md_M_order_165 : decode mc_M_order 165 = .ok (.bipush 16, 2) := by decide +kernel
theorem md_M_order_167 : decode mc_M_order 167 = .ok (.aload_n 0, 1) := by decide +kernel
theorem md_M_order_168 : decode mc_M_order 168 = .ok (.getfield 13, 3) := by decide +kernel
theorem md_M_order_171 : decode mc_M_order 171 = .ok (.iload_n 3, 1) := by decide +kernel
theorem md_M_order_172 : decode mc_M_order 172 = .ok (.iaload, 1) := by decide +kernel
theorem md_M_order_173 : decode mc_M_order 173 = .ok (.imul, 1) := by decide +kernel
theorem md_M_order_174 : decode mc_M_order 174 = .ok (.aload_n 0, 1) := by decide +kernel
theorem md_M_order_175 : decode mc_M_order 175 = .ok (.getfield 16, 3) := by decide +kernel
theorem md_M_order_178 : decode mc_M_order 178 = .ok (.iload_n 3, 1) := by decide +kernel
theorem md_M_order_179 : decode mc_M_order 179 = .ok (.iaload, 1) := by decide +kernel
theorem md_M_order_180 : decode mc_M_order 180 = .ok (.iadd, 1) := by decide +kernel
theorem md_M_order_181 : decode mc_M_order 181 = .ok (.aload_n 0, 1) := by decide +kernel
theorem md_M_order_182 : decode mc_M_order 182 = .ok (.getfield 28, 3) := by decide +kernel
theorem md_M_order_185 : decode mc_M_order 185 = .ok (.iload_n 3, 1) := by decide +kernel
theorem md_M_order_186 : decode mc_M_order 186 = .ok (.baload, 1) := by decide +kernel
theorem md_M_order_187 : decode mc_M_order 187 = .ok (.ifCond .eq 7, 3) := by decide +kernel
theorem md_M_order_190 : decode mc_M_order 190 = .ok (.iconst 2, 1) := by decide +kernel
theorem md_M_order_191 : decode mc_M_order 191 = .ok (.goto 4, 3) := by decide +kernel
theorem md_M_order_194 : decode mc_M_order 194 = .ok (.iconst 0, 1) := by decide +kernel
theorem md_M_order_195 : decode mc_M_order 195 = .ok (.iadd, 1) := by decide +kernel
theorem md_M_order_196 : decode mc_M_order 196 = .ok (.goto 33, 3) := by decide +kernel
theorem md_M_order_199 : decode mc_M_order 199 = .ok (.iload_n 2, 1) := by decide +kernel
theorem md_M_order_200 : decode mc_M_order 200 = .ok (.iconst 1, 1) := by decide +kernel
theorem md_M_order_201 : decode mc_M_order 201 = .ok (.if_icmp .ne 12, 3) := by decide +kernel
theorem md_M_order_204 : decode mc_M_order 204 = .ok (.aload_n 0, 1) := by decide +kernel
theorem md_M_order_205 : decode mc_M_order 205 = .ok (.getfield 19, 3) := by decide +kernel
theorem md_M_order_208 : decode mc_M_order 208 = .ok (.iload_n 3, 1) := by decide +kernel
theorem md_M_order_209 : decode mc_M_order 209 = .ok (.iaload, 1) := by decide +kernel
theorem md_M_order_210 : decode mc_M_order 210 = .ok (.goto 19, 3) := by decide +kernel
theorem md_M_order_213 : decode mc_M_order 213 = .ok (.iload_n 2, 1) := by decide +kernel
theorem md_M_order_214 : decode mc_M_order 214 = .ok (.iconst 2, 1) := by decide +kernel
theorem md_M_order_215 : decode mc_M_order 215 = .ok (.if_icmp .ne 12, 3) := by decide +kernel
theorem md_M_order_218 : decode mc_M_order 218 = .ok (.aload_n 0, 1) := by decide +kernel
theorem md_M_order_219 : decode mc_M_order 219 = .ok (.getfield 22, 3) := by decide +kernel
theorem md_M_order_222 : decode mc_M_order 222 = .ok (.iload_n 3, 1) := by decide +kernel
theorem md_M_order_223 : decode mc_M_order 223 = .ok (.iaload, 1) := by decide +kernel
theorem md_M_order_224 : decode mc_M_order 224 = .ok (.goto 5, 3) := by decide +kernel
theorem md_M_order_227 : decode mc_M_order 227 = .ok (.iload 4, 2) := by decide +kernel
theorem md_M_order_229 : decode mc_M_order 229 = .ok (.ireturn, 1) := by decide +kernel
theorem md_M_fill_0 : decode mc_M_fill 0 = .ok (.aload_n 0, 1) := by decide +kernel
theorem md_M_fill_1 : decode mc_M_fill 1 = .ok (.iload_n 2, 1) := by decide +kernel
theorem md_M_fill_2 : decode mc_M_fill 2 = .ok (.iconst 0, 1) := by decide +kernel
theorem md_M_fill_3 : decode mc_M_fill 3 = .ok (.iconst 3, 1) := by decide +kernel
theorem md_M_fill_4 : decode mc_M_fill 4 = .ok (.invokestatic 109, 3) := by decide +kernel
theorem md_M_fill_7 : decode mc_M_fill 7 = .ok (.ifCond .ne 7, 3) := by decide +kernel
theorem md_M_fill_10 : decode mc_M_fill 10 = .ok (.iconst 1, 1) := by decide +kernel
theorem md_M_fill_11 : decode mc_M_fill 11 = .ok (.goto 26, 3) := by decide +kernel
theorem md_M_fill_14 : decode mc_M_fill 14 = .ok (.iload_n 1, 1) := by decide +kernel
theorem md_M_fill_15 : decode mc_M_fill 15 = .ok (.ifCond .lt 17, 3) := by decide +kernel
theorem md_M_fill_18 : decode mc_M_fill 18 = .ok (.iload_n 1, 1) := by decide +kernel
theorem md_M_fill_19 : decode mc_M_fill 19 = .ok (.bipush 31, 2) := by decide +kernel
theorem md_M_fill_21 : decode mc_M_fill 21 = .ok (.if_icmp .gt 11, 3) := by decide +kernel
theorem md_M_fill_24 : decode mc_M_fill 24 = .ok (.iload_n 1, 1) := by decide +kernel
theorem md_M_fill_25 : decode mc_M_fill 25 = .ok (.aload_n 0, 1) := by decide +kernel
theorem md_M_fill_26 : decode mc_M_fill 26 = .ok (.getfield 58, 3) := by decide +kernel
theorem md_M_fill_29 : decode mc_M_fill 29 = .ok (.if_icmp .lt 7, 3) := by decide +kernel
theorem md_M_fill_32 : decode mc_M_fill 32 = .ok (.iconst 2, 1) := by decide +kernel
theorem md_M_fill_33 : decode mc_M_fill 33 = .ok (.goto 4, 3) := by decide +kernel
theorem md_M_fill_36 : decode mc_M_fill 36 = .ok (.iconst 0, 1) := by decide +kernel
theorem md_M_fill_37 : decode mc_M_fill 37 = .ok (.putfield 44, 3) := by decide +kernel
theorem md_M_fill_40 : decode mc_M_fill 40 = .ok (.aload_n 0, 1) := by decide +kernel
theorem md_M_fill_41 : decode mc_M_fill 41 = .ok (.getfield 44, 3) := by decide +kernel
theorem md_M_fill_44 : decode mc_M_fill 44 = .ok (.ifCond .le 5, 3) := by decide +kernel
theorem md_M_fill_47 : decode mc_M_fill 47 = .ok (.iconst 0, 1) := by decide +kernel
theorem md_M_fill_48 : decode mc_M_fill 48 = .ok (.ireturn, 1) := by decide +kernel
theorem md_M_fill_49 : decode mc_M_fill 49 = .ok (.aload_n 0, 1) := by decide +kernel
theorem md_M_fill_50 : decode mc_M_fill 50 = .ok (.getfield 58, 3) := by decide +kernel
theorem md_M_fill_53 : decode mc_M_fill 53 = .ok (.iconst 1, 1) := by decide +kernel
theorem md_M_fill_54 : decode mc_M_fill 54 = .ok (.isub, 1) := by decide +kernel
theorem md_M_fill_55 : decode mc_M_fill 55 = .ok (.iload_n 1, 1) := by decide +kernel
theorem md_M_fill_56 : decode mc_M_fill 56 = .ok (.isub, 1) := by decide +kernel
theorem md_M_fill_57 : decode mc_M_fill 57 = .ok (.bipush 32, 2) := by decide +kernel
theorem md_M_fill_59 : decode mc_M_fill 59 = .ok (.irem, 1) := by decide +kernel
theorem md_M_fill_60 : decode mc_M_fill 60 = .ok (.istore_n 3, 1) := by decide +kernel
theorem md_M_fill_61 : decode mc_M_fill 61 = .ok (.iload_n 2, 1) := by decide +kernel
theorem md_M_fill_62 : decode mc_M_fill 62 = .ok (.ifCond .ne 12, 3) := by decide +kernel
theorem md_M_fill_65 : decode mc_M_fill 65 = .ok (.aload_n 0, 1) := by decide +kernel
theorem md_M_fill_66 : decode mc_M_fill 66 = .ok (.getfield 32, 3) := by decide +kernel
theorem md_M_fill_69 : decode mc_M_fill 69 = .ok (.iload_n 3, 1) := by decide +kernel
theorem md_M_fill_70 : decode mc_M_fill 70 = .ok (.iaload, 1) := by decide +kernel
theorem md_M_fill_71 : decode mc_M_fill 71 = .ok (.goto 37, 3) := by decide +kernel
theorem md_M_fill_74 : decode mc_M_fill 74 = .ok (.iload_n 2, 1) := by decide +kernel
theorem md_M_fill_75 : decode mc_M_fill 75 = .ok (.iconst 1, 1) := by decide +kernel
theorem md_M_fill_76 : decode mc_M_fill 76 = .ok (.if_icmp .ne 12, 3) := by decide +kernel
theorem md_M_fill_79 : decode mc_M_fill 79 = .ok (.aload_n 0, 1) := by decide +kernel
theorem md_M_fill_80 : decode mc_M_fill 80 = .ok (.getfield 35, 3) := by decide +kernel
theorem md_M_fill_83 : decode mc_M_fill 83 = .ok (.iload_n 3, 1) := by decide +kernel
theorem md_M_fill_84 : decode mc_M_fill 84 = .ok (.iaload, 1) := by decide +kernel
theorem md_M_fill_85 : decode mc_M_fill 85 = .ok (.goto 23, 3) := by decide +kernel
theorem md_M_fill_88 : decode mc_M_fill 88 = .ok (.iload_n 2, 1) := by decide +kernel
theorem md_M_fill_89 : decode mc_M_fill 89 = .ok (.iconst 2, 1) := by decide +kernel
theorem md_M_fill_90 : decode mc_M_fill 90 = .ok (.if_icmp .ne 12, 3) := by decide +kernel
theorem md_M_fill_93 : decode mc_M_fill 93 = .ok (.aload_n 0, 1) := by decide +kernel
theorem md_M_fill_94 : decode mc_M_fill 94 = .ok (.getfield 38, 3) := by decide +kernel
theorem md_M_fill_97 : decode mc_M_fill 97 = .ok (.iload_n 3, 1) := by decide +kernel
theorem md_M_fill_98 : decode mc_M_fill 98 = .ok (.iaload, 1) := by decide +kernel
theorem md_M_fill_99 : decode mc_M_fill 99 = .ok (.goto 9, 3) := by decide +kernel
theorem md_M_fill_102 : decode mc_M_fill 102 = .ok (.aload_n 0, 1) := by decide +kernel
theorem md_M_fill_103 : decode mc_M_fill 103 = .ok (.getfield 41, 3) := by decide +kernel
theorem md_M_fill_106 : decode mc_M_fill 106 = .ok (.iload_n 3, 1) := by decide +kernel
theorem md_M_fill_107 : decode mc_M_fill 107 = .ok (.iaload, 1) := by decide +kernel
theorem md_M_fill_108 : decode mc_M_fill 108 = .ok (.ireturn, 1) := by decide +kernel
theorem md_M_fills_0 : decode mc_M_fills 0 = .ok (.aload_n 0, 1) := by decide +kernel
theorem md_M_fills_1 : decode mc_M_fills 1 = .ok (.iconst 0, 1) := by decide +kernel
theorem md_M_fills_2 : decode mc_M_fills 2 = .ok (.putfield 44, 3) := by decide +kernel
theorem md_M_fills_5 : decode mc_M_fills 5 = .ok (.aload_n 0, 1) := by decide +kernel
theorem md_M_fills_6 : decode mc_M_fills 6 = .ok (.getfield 58, 3) := by decide +kernel
theorem md_M_fills_9 : decode mc_M_fills 9 = .ok (.ireturn, 1) := by decide +kernel
theorem md_M_last_0 : decode mc_M_last 0 = .ok (.aload_n 0, 1) := by decide +kernel
theorem md_M_last_1 : decode mc_M_last 1 = .ok (.iconst 0, 1) := by decide +kernel
theorem md_M_last_2 : decode mc_M_last 2 = .ok (.putfield 44, 3) := by decide +kernel
theorem md_M_last_5 : decode mc_M_last 5 = .ok (.aload_n 0, 1) := by decide +kernel
theorem md_M_last_6 : decode mc_M_last 6 = .ok (.getfield 61, 3) := by decide +kernel
theorem md_M_last_9 : decode mc_M_last 9 = .ok (.ireturn, 1) := by decide +kernel
theorem md_M_turnover_0 : decode mc_M_turnover 0 = .ok (.aload_n 0, 1) := by decide +kernel
theorem md_M_turnover_1 : decode mc_M_turnover 1 = .ok (.iconst 0, 1) := by decide +kernel
theorem md_M_turnover_2 : decode mc_M_turnover 2 = .ok (.putfield 44, 3) := by decide +kernel
theorem md_M_turnover_5 : decode mc_M_turnover 5 = .ok (.aload_n 0, 1) := by decide +kernel
theorem md_M_turnover_6 : decode mc_M_turnover 6 = .ok (.getfield 64, 3) := by decide +kernel
theorem md_M_turnover_9 : decode mc_M_turnover 9 = .ok (.lreturn, 1) := by decide +kernel
theorem md_M_figure_0 : decode mc_M_figure 0 = .ok (.aload_n 0, 1) := by decide +kernel
theorem md_M_figure_1 : decode mc_M_figure 1 = .ok (.iload_n 1, 1) := by decide +kernel
theorem md_M_figure_2 : decode mc_M_figure 2 = .ok (.iconst 0, 1) := by decide +kernel
theorem md_M_figure_3 : decode mc_M_figure 3 = .ok (.iconst 4, 1) := by decide +kernel
theorem md_M_figure_4 : decode mc_M_figure 4 = .ok (.invokestatic 109, 3) := by decide +kernel
theorem md_M_figure_7 : decode mc_M_figure 7 = .ok (.ifCond .eq 7, 3) := by decide +kernel
theorem md_M_figure_10 : decode mc_M_figure 10 = .ok (.iconst 0, 1) := by decide +kernel
theorem md_M_figure_11 : decode mc_M_figure 11 = .ok (.goto 4, 3) := by decide +kernel
theorem md_M_figure_14 : decode mc_M_figure 14 = .ok (.iconst 1, 1) := by decide +kernel
theorem md_M_figure_15 : decode mc_M_figure 15 = .ok (.putfield 44, 3) := by decide +kernel
theorem md_M_figure_18 : decode mc_M_figure 18 = .ok (.iconst 0, 1) := by decide +kernel
theorem md_M_figure_19 : decode mc_M_figure 19 = .ok (.istore_n 2, 1) := by decide +kernel
theorem md_M_figure_20 : decode mc_M_figure 20 = .ok (.iconst 0, 1) := by decide +kernel
theorem md_M_figure_21 : decode mc_M_figure 21 = .ok (.istore_n 3, 1) := by decide +kernel
theorem md_M_figure_22 : decode mc_M_figure 22 = .ok (.iload_n 3, 1) := by decide +kernel
theorem md_M_figure_23 : decode mc_M_figure 23 = .ok (.aload_n 0, 1) := by decide +kernel
theorem md_M_figure_24 : decode mc_M_figure 24 = .ok (.getfield 48, 3) := by decide +kernel
theorem md_M_figure_27 : decode mc_M_figure 27 = .ok (.if_icmp .ge 26, 3) := by decide +kernel
theorem md_M_figure_30 : decode mc_M_figure 30 = .ok (.iload_n 2, 1) := by decide +kernel
theorem md_M_figure_31 : decode mc_M_figure 31 = .ok (.aload_n 0, 1) := by decide +kernel
theorem md_M_figure_32 : decode mc_M_figure 32 = .ok (.getfield 28, 3) := by decide +kernel
theorem md_M_figure_35 : decode mc_M_figure 35 = .ok (.iload_n 3, 1) := by decide +kernel
theorem md_M_figure_36 : decode mc_M_figure 36 = .ok (.baload, 1) := by decide +kernel
theorem md_M_figure_37 : decode mc_M_figure 37 = .ok (.ifCond .eq 7, 3) := by decide +kernel
theorem md_M_figure_40 : decode mc_M_figure 40 = .ok (.iconst 1, 1) := by decide +kernel
theorem md_M_figure_41 : decode mc_M_figure 41 = .ok (.goto 4, 3) := by decide +kernel
theorem md_M_figure_44 : decode mc_M_figure 44 = .ok (.iconst 0, 1) := by decide +kernel
theorem md_M_figure_45 : decode mc_M_figure 45 = .ok (.iadd, 1) := by decide +kernel
theorem md_M_figure_46 : decode mc_M_figure 46 = .ok (.istore_n 2, 1) := by decide +kernel
theorem md_M_figure_47 : decode mc_M_figure 47 = .ok (.iinc 3 1, 3) := by decide +kernel
theorem md_M_figure_50 : decode mc_M_figure 50 = .ok (.goto (-28), 3) := by decide +kernel
theorem md_M_figure_53 : decode mc_M_figure 53 = .ok (.iload_n 1, 1) := by decide +kernel
theorem md_M_figure_54 : decode mc_M_figure 54 = .ok (.tableswitch 56 0 4 #[34, 39, 41, 46, 51], 34) := by decide +kernel
theorem md_M_figure_88 : decode mc_M_figure 88 = .ok (.aload_n 0, 1) := by decide +kernel
theorem md_M_figure_89 : decode mc_M_figure 89 = .ok (.getfield 48, 3) := by decide +kernel
theorem md_M_figure_92 : decode mc_M_figure 92 = .ok (.ireturn, 1) := by decide +kernel
theorem md_M_figure_93 : decode mc_M_figure 93 = .ok (.iload_n 2, 1) := by decide +kernel
theorem md_M_figure_94 : decode mc_M_figure 94 = .ok (.ireturn, 1) := by decide +kernel
theorem md_M_figure_95 : decode mc_M_figure 95 = .ok (.aload_n 0, 1) := by decide +kernel
theorem md_M_figure_96 : decode mc_M_figure 96 = .ok (.getfield 98, 3) := by decide +kernel
theorem md_M_figure_99 : decode mc_M_figure 99 = .ok (.ireturn, 1) := by decide +kernel
theorem md_M_figure_100 : decode mc_M_figure 100 = .ok (.aload_n 0, 1) := by decide +kernel
theorem md_M_figure_101 : decode mc_M_figure 101 = .ok (.getfield 83, 3) := by decide +kernel
theorem md_M_figure_104 : decode mc_M_figure 104 = .ok (.ireturn, 1) := by decide +kernel
theorem md_M_figure_105 : decode mc_M_figure 105 = .ok (.aload_n 0, 1) := by decide +kernel
theorem md_M_figure_106 : decode mc_M_figure 106 = .ok (.getfield 68, 3) := by decide +kernel
theorem md_M_figure_109 : decode mc_M_figure 109 = .ok (.ireturn, 1) := by decide +kernel
theorem md_M_figure_110 : decode mc_M_figure 110 = .ok (.iconst 0, 1) := by decide +kernel
theorem md_M_figure_111 : decode mc_M_figure 111 = .ok (.ireturn, 1) := by decide +kernel
end
section
/-! decode rows -/
theorem md_L_submit_0 : decode mc_L_submit 0 = .ok (.aload 5, 2) := by decide +kernel
theorem md_L_submit_2 : decode mc_L_submit 2 = .ok (.iconst 0, 1) := by decide +kernel
theorem md_L_submit_3 : decode mc_L_submit 3 = .ok (.aload_n 0, 1) := by decide +kernel
theorem md_L_submit_4 : decode mc_L_submit 4 = .ok (.iload_n 1, 1) := by decide +kernel
theorem md_L_submit_5 : decode mc_L_submit 5 = .ok (.iload_n 2, 1) := by decide +kernel
theorem md_L_submit_6 : decode mc_L_submit 6 = .ok (.iload_n 3, 1) := by decide +kernel
theorem md_L_submit_7 : decode mc_L_submit 7 = .ok (.iload 4, 2) := by decide +kernel
theorem md_L_submit_9 : decode mc_L_submit 9 = .ok (.invokevirtual 7, 3) := by decide +kernel
theorem md_L_submit_12 : decode mc_L_submit 12 = .ok (.i2l, 1) := by decide +kernel
theorem md_L_submit_13 : decode mc_L_submit 13 = .ok (.lastore, 1) := by decide +kernel
theorem md_L_submit_14 : decode mc_L_submit 14 = .ok (.goto 11, 3) := by decide +kernel
theorem md_L_submit_17 : decode mc_L_submit 17 = .ok (.astore 6, 2) := by decide +kernel
theorem md_L_submit_19 : decode mc_L_submit 19 = .ok (.iconst 1, 1) := by decide +kernel
theorem md_L_submit_20 : decode mc_L_submit 20 = .ok (.ireturn, 1) := by decide +kernel
theorem md_L_submit_21 : decode mc_L_submit 21 = .ok (.astore 6, 2) := by decide +kernel
theorem md_L_submit_23 : decode mc_L_submit 23 = .ok (.iconst 2, 1) := by decide +kernel
theorem md_L_submit_24 : decode mc_L_submit 24 = .ok (.ireturn, 1) := by decide +kernel
theorem md_L_submit_25 : decode mc_L_submit 25 = .ok (.iconst 0, 1) := by decide +kernel
theorem md_L_submit_26 : decode mc_L_submit 26 = .ok (.ireturn, 1) := by decide +kernel
theorem md_L_cancel_0 : decode mc_L_cancel 0 = .ok (.aload_n 2, 1) := by decide +kernel
theorem md_L_cancel_1 : decode mc_L_cancel 1 = .ok (.iconst 0, 1) := by decide +kernel
theorem md_L_cancel_2 : decode mc_L_cancel 2 = .ok (.aload_n 0, 1) := by decide +kernel
theorem md_L_cancel_3 : decode mc_L_cancel 3 = .ok (.iload_n 1, 1) := by decide +kernel
theorem md_L_cancel_4 : decode mc_L_cancel 4 = .ok (.invokevirtual 17, 3) := by decide +kernel
theorem md_L_cancel_7 : decode mc_L_cancel 7 = .ok (.i2l, 1) := by decide +kernel
theorem md_L_cancel_8 : decode mc_L_cancel 8 = .ok (.lastore, 1) := by decide +kernel
theorem md_L_cancel_9 : decode mc_L_cancel 9 = .ok (.goto 6, 3) := by decide +kernel
theorem md_L_cancel_12 : decode mc_L_cancel 12 = .ok (.astore_n 3, 1) := by decide +kernel
theorem md_L_cancel_13 : decode mc_L_cancel 13 = .ok (.iconst 1, 1) := by decide +kernel
theorem md_L_cancel_14 : decode mc_L_cancel 14 = .ok (.ireturn, 1) := by decide +kernel
theorem md_L_cancel_15 : decode mc_L_cancel 15 = .ok (.iconst 0, 1) := by decide +kernel
theorem md_L_cancel_16 : decode mc_L_cancel 16 = .ok (.ireturn, 1) := by decide +kernel
theorem md_L_amend_0 : decode mc_L_amend 0 = .ok (.aload 4, 2) := by decide +kernel
theorem md_L_amend_2 : decode mc_L_amend 2 = .ok (.iconst 0, 1) := by decide +kernel
theorem md_L_amend_3 : decode mc_L_amend 3 = .ok (.aload_n 0, 1) := by decide +kernel
theorem md_L_amend_4 : decode mc_L_amend 4 = .ok (.iload_n 1, 1) := by decide +kernel
theorem md_L_amend_5 : decode mc_L_amend 5 = .ok (.iload_n 2, 1) := by decide +kernel
theorem md_L_amend_6 : decode mc_L_amend 6 = .ok (.iload_n 3, 1) := by decide +kernel
theorem md_L_amend_7 : decode mc_L_amend 7 = .ok (.invokevirtual 23, 3) := by decide +kernel
theorem md_L_amend_10 : decode mc_L_amend 10 = .ok (.i2l, 1) := by decide +kernel
theorem md_L_amend_11 : decode mc_L_amend 11 = .ok (.lastore, 1) := by decide +kernel
theorem md_L_amend_12 : decode mc_L_amend 12 = .ok (.goto 11, 3) := by decide +kernel
theorem md_L_amend_15 : decode mc_L_amend 15 = .ok (.astore 5, 2) := by decide +kernel
theorem md_L_amend_17 : decode mc_L_amend 17 = .ok (.iconst 1, 1) := by decide +kernel
theorem md_L_amend_18 : decode mc_L_amend 18 = .ok (.ireturn, 1) := by decide +kernel
theorem md_L_amend_19 : decode mc_L_amend 19 = .ok (.astore 5, 2) := by decide +kernel
theorem md_L_amend_21 : decode mc_L_amend 21 = .ok (.iconst 2, 1) := by decide +kernel
theorem md_L_amend_22 : decode mc_L_amend 22 = .ok (.ireturn, 1) := by decide +kernel
theorem md_L_amend_23 : decode mc_L_amend 23 = .ok (.iconst 0, 1) := by decide +kernel
theorem md_L_amend_24 : decode mc_L_amend 24 = .ok (.ireturn, 1) := by decide +kernel
theorem md_L_withdraw_0 : decode mc_L_withdraw 0 = .ok (.aload_n 2, 1) := by decide +kernel
theorem md_L_withdraw_1 : decode mc_L_withdraw 1 = .ok (.iconst 0, 1) := by decide +kernel
theorem md_L_withdraw_2 : decode mc_L_withdraw 2 = .ok (.aload_n 0, 1) := by decide +kernel
theorem md_L_withdraw_3 : decode mc_L_withdraw 3 = .ok (.iload_n 1, 1) := by decide +kernel
theorem md_L_withdraw_4 : decode mc_L_withdraw 4 = .ok (.invokevirtual 27, 3) := by decide +kernel
theorem md_L_withdraw_7 : decode mc_L_withdraw 7 = .ok (.i2l, 1) := by decide +kernel
theorem md_L_withdraw_8 : decode mc_L_withdraw 8 = .ok (.lastore, 1) := by decide +kernel
theorem md_L_withdraw_9 : decode mc_L_withdraw 9 = .ok (.goto 6, 3) := by decide +kernel
theorem md_L_withdraw_12 : decode mc_L_withdraw 12 = .ok (.astore_n 3, 1) := by decide +kernel
theorem md_L_withdraw_13 : decode mc_L_withdraw 13 = .ok (.iconst 1, 1) := by decide +kernel
theorem md_L_withdraw_14 : decode mc_L_withdraw 14 = .ok (.ireturn, 1) := by decide +kernel
theorem md_L_withdraw_15 : decode mc_L_withdraw 15 = .ok (.iconst 0, 1) := by decide +kernel
theorem md_L_withdraw_16 : decode mc_L_withdraw 16 = .ok (.ireturn, 1) := by decide +kernel
theorem md_L_levels_0 : decode mc_L_levels 0 = .ok (.aload_n 2, 1) := by decide +kernel
theorem md_L_levels_1 : decode mc_L_levels 1 = .ok (.iconst 0, 1) := by decide +kernel
theorem md_L_levels_2 : decode mc_L_levels 2 = .ok (.aload_n 0, 1) := by decide +kernel
theorem md_L_levels_3 : decode mc_L_levels 3 = .ok (.iload_n 1, 1) := by decide +kernel
theorem md_L_levels_4 : decode mc_L_levels 4 = .ok (.invokevirtual 30, 3) := by decide +kernel
theorem md_L_levels_7 : decode mc_L_levels 7 = .ok (.i2l, 1) := by decide +kernel
theorem md_L_levels_8 : decode mc_L_levels 8 = .ok (.lastore, 1) := by decide +kernel
theorem md_L_levels_9 : decode mc_L_levels 9 = .ok (.goto 6, 3) := by decide +kernel
theorem md_L_levels_12 : decode mc_L_levels 12 = .ok (.astore_n 3, 1) := by decide +kernel
theorem md_L_levels_13 : decode mc_L_levels 13 = .ok (.iconst 1, 1) := by decide +kernel
theorem md_L_levels_14 : decode mc_L_levels 14 = .ok (.ireturn, 1) := by decide +kernel
theorem md_L_levels_15 : decode mc_L_levels 15 = .ok (.iconst 0, 1) := by decide +kernel
theorem md_L_levels_16 : decode mc_L_levels 16 = .ok (.ireturn, 1) := by decide +kernel
theorem md_L_level_0 : decode mc_L_level 0 = .ok (.aload 4, 2) := by decide +kernel
theorem md_L_level_2 : decode mc_L_level 2 = .ok (.iconst 0, 1) := by decide +kernel
theorem md_L_level_3 : decode mc_L_level 3 = .ok (.aload_n 0, 1) := by decide +kernel
theorem md_L_level_4 : decode mc_L_level 4 = .ok (.iload_n 1, 1) := by decide +kernel
theorem md_L_level_5 : decode mc_L_level 5 = .ok (.iload_n 2, 1) := by decide +kernel
theorem md_L_level_6 : decode mc_L_level 6 = .ok (.iload_n 3, 1) := by decide +kernel
theorem md_L_level_7 : decode mc_L_level 7 = .ok (.invokevirtual 33, 3) := by decide +kernel
theorem md_L_level_10 : decode mc_L_level 10 = .ok (.i2l, 1) := by decide +kernel
theorem md_L_level_11 : decode mc_L_level 11 = .ok (.lastore, 1) := by decide +kernel
theorem md_L_level_12 : decode mc_L_level 12 = .ok (.goto 11, 3) := by decide +kernel
theorem md_L_level_15 : decode mc_L_level 15 = .ok (.astore 5, 2) := by decide +kernel
theorem md_L_level_17 : decode mc_L_level 17 = .ok (.iconst 1, 1) := by decide +kernel
theorem md_L_level_18 : decode mc_L_level 18 = .ok (.ireturn, 1) := by decide +kernel
theorem md_L_level_19 : decode mc_L_level 19 = .ok (.astore 5, 2) := by decide +kernel
theorem md_L_level_21 : decode mc_L_level 21 = .ok (.iconst 2, 1) := by decide +kernel
theorem md_L_level_22 : decode mc_L_level 22 = .ok (.ireturn, 1) := by decide +kernel
theorem md_L_level_23 : decode mc_L_level 23 = .ok (.iconst 0, 1) := by decide +kernel
theorem md_L_level_24 : decode mc_L_level 24 = .ok (.ireturn, 1) := by decide +kernel
theorem md_L_order_0 : decode mc_L_order 0 = .ok (.aload_n 3, 1) := by decide +kernel
theorem md_L_order_1 : decode mc_L_order 1 = .ok (.iconst 0, 1) := by decide +kernel
theorem md_L_order_2 : decode mc_L_order 2 = .ok (.aload_n 0, 1) := by decide +kernel
theorem md_L_order_3 : decode mc_L_order 3 = .ok (.iload_n 1, 1) := by decide +kernel
theorem md_L_order_4 : decode mc_L_order 4 = .ok (.iload_n 2, 1) := by decide +kernel
theorem md_L_order_5 : decode mc_L_order 5 = .ok (.invokevirtual 38, 3) := by decide +kernel
theorem md_L_order_8 : decode mc_L_order 8 = .ok (.i2l, 1) := by decide +kernel
theorem md_L_order_9 : decode mc_L_order 9 = .ok (.lastore, 1) := by decide +kernel
theorem md_L_order_10 : decode mc_L_order 10 = .ok (.goto 11, 3) := by decide +kernel
theorem md_L_order_13 : decode mc_L_order 13 = .ok (.astore 4, 2) := by decide +kernel
theorem md_L_order_15 : decode mc_L_order 15 = .ok (.iconst 1, 1) := by decide +kernel
theorem md_L_order_16 : decode mc_L_order 16 = .ok (.ireturn, 1) := by decide +kernel
theorem md_L_order_17 : decode mc_L_order 17 = .ok (.astore 4, 2) := by decide +kernel
theorem md_L_order_19 : decode mc_L_order 19 = .ok (.iconst 2, 1) := by decide +kernel
theorem md_L_order_20 : decode mc_L_order 20 = .ok (.ireturn, 1) := by decide +kernel
theorem md_L_order_21 : decode mc_L_order 21 = .ok (.iconst 0, 1) := by decide +kernel
theorem md_L_order_22 : decode mc_L_order 22 = .ok (.ireturn, 1) := by decide +kernel
theorem md_L_fill_0 : decode mc_L_fill 0 = .ok (.aload_n 3, 1) := by decide +kernel
theorem md_L_fill_1 : decode mc_L_fill 1 = .ok (.iconst 0, 1) := by decide +kernel
theorem md_L_fill_2 : decode mc_L_fill 2 = .ok (.aload_n 0, 1) := by decide +kernel
theorem md_L_fill_3 : decode mc_L_fill 3 = .ok (.iload_n 1, 1) := by decide +kernel
theorem md_L_fill_4 : decode mc_L_fill 4 = .ok (.iload_n 2, 1) := by decide +kernel
theorem md_L_fill_5 : decode mc_L_fill 5 = .ok (.invokevirtual 42, 3) := by decide +kernel
theorem md_L_fill_8 : decode mc_L_fill 8 = .ok (.i2l, 1) := by decide +kernel
theorem md_L_fill_9 : decode mc_L_fill 9 = .ok (.lastore, 1) := by decide +kernel
theorem md_L_fill_10 : decode mc_L_fill 10 = .ok (.goto 11, 3) := by decide +kernel
theorem md_L_fill_13 : decode mc_L_fill 13 = .ok (.astore 4, 2) := by decide +kernel
theorem md_L_fill_15 : decode mc_L_fill 15 = .ok (.iconst 1, 1) := by decide +kernel
theorem md_L_fill_16 : decode mc_L_fill 16 = .ok (.ireturn, 1) := by decide +kernel
theorem md_L_fill_17 : decode mc_L_fill 17 = .ok (.astore 4, 2) := by decide +kernel
theorem md_L_fill_19 : decode mc_L_fill 19 = .ok (.iconst 2, 1) := by decide +kernel
theorem md_L_fill_20 : decode mc_L_fill 20 = .ok (.ireturn, 1) := by decide +kernel
theorem md_L_fill_21 : decode mc_L_fill 21 = .ok (.iconst 0, 1) := by decide +kernel
theorem md_L_fill_22 : decode mc_L_fill 22 = .ok (.ireturn, 1) := by decide +kernel
theorem md_L_figure_0 : decode mc_L_figure 0 = .ok (.aload_n 2, 1) := by decide +kernel
theorem md_L_figure_1 : decode mc_L_figure 1 = .ok (.iconst 0, 1) := by decide +kernel
theorem md_L_figure_2 : decode mc_L_figure 2 = .ok (.aload_n 0, 1) := by decide +kernel
theorem md_L_figure_3 : decode mc_L_figure 3 = .ok (.iload_n 1, 1) := by decide +kernel
theorem md_L_figure_4 : decode mc_L_figure 4 = .ok (.invokevirtual 45, 3) := by decide +kernel
theorem md_L_figure_7 : decode mc_L_figure 7 = .ok (.i2l, 1) := by decide +kernel
theorem md_L_figure_8 : decode mc_L_figure 8 = .ok (.lastore, 1) := by decide +kernel
theorem md_L_figure_9 : decode mc_L_figure 9 = .ok (.goto 6, 3) := by decide +kernel
theorem md_L_figure_12 : decode mc_L_figure 12 = .ok (.astore_n 3, 1) := by decide +kernel
theorem md_L_figure_13 : decode mc_L_figure 13 = .ok (.iconst 1, 1) := by decide +kernel
theorem md_L_figure_14 : decode mc_L_figure 14 = .ok (.ireturn, 1) := by decide +kernel
theorem md_L_figure_15 : decode mc_L_figure 15 = .ok (.iconst 0, 1) := by decide +kernel
theorem md_L_figure_16 : decode mc_L_figure 16 = .ok (.ireturn, 1) := by decide +kernel
theorem md_L_law_0 : decode mc_L_law 0 = .ok (.new 8, 3) := by decide +kernel
theorem md_L_law_3 : decode mc_L_law 3 = .ok (.dup, 1) := by decide +kernel
theorem md_L_law_4 : decode mc_L_law 4 = .ok (.invokespecial 48, 3) := by decide +kernel
theorem md_L_law_7 : decode mc_L_law 7 = .ok (.astore_n 1, 1) := by decide +kernel
theorem md_L_law_8 : decode mc_L_law 8 = .ok (.new 49, 3) := by decide +kernel
theorem md_L_law_11 : decode mc_L_law 11 = .ok (.dup, 1) := by decide +kernel
theorem md_L_law_12 : decode mc_L_law 12 = .ok (.invokespecial 51, 3) := by decide +kernel
theorem md_L_law_15 : decode mc_L_law 15 = .ok (.astore_n 2, 1) := by decide +kernel
theorem md_L_law_16 : decode mc_L_law 16 = .ok (.iconst 1, 1) := by decide +kernel
theorem md_L_law_17 : decode mc_L_law 17 = .ok (.newarray .long, 2) := by decide +kernel
theorem md_L_law_19 : decode mc_L_law 19 = .ok (.astore_n 3, 1) := by decide +kernel
theorem md_L_law_20 : decode mc_L_law 20 = .ok (.iconst 0, 1) := by decide +kernel
theorem md_L_law_21 : decode mc_L_law 21 = .ok (.istore 4, 2) := by decide +kernel
theorem md_L_law_23 : decode mc_L_law 23 = .ok (.iload 4, 2) := by decide +kernel
theorem md_L_law_25 : decode mc_L_law 25 = .ok (.aload_n 0, 1) := by decide +kernel
theorem md_L_law_26 : decode mc_L_law 26 = .ok (.arraylength, 1) := by decide +kernel
theorem md_L_law_27 : decode mc_L_law 27 = .ok (.iconst 5, 1) := by decide +kernel
theorem md_L_law_28 : decode mc_L_law 28 = .ok (.isub, 1) := by decide +kernel
theorem md_L_law_29 : decode mc_L_law 29 = .ok (.if_icmp .gt 729, 3) := by decide +kernel
theorem md_L_law_32 : decode mc_L_law 32 = .ok (.aload_n 0, 1) := by decide +kernel
theorem md_L_law_33 : decode mc_L_law 33 = .ok (.iload 4, 2) := by decide +kernel
theorem md_L_law_35 : decode mc_L_law 35 = .ok (.iaload, 1) := by decide +kernel
theorem md_L_law_36 : decode mc_L_law 36 = .ok (.bipush 15, 2) := by decide +kernel
theorem md_L_law_38 : decode mc_L_law 38 = .ok (.iand, 1) := by decide +kernel
theorem md_L_law_39 : decode mc_L_law 39 = .ok (.tableswitch 713 0 11 #[61, 153, 209, 289, 345, 401, 481, 549, 617, 630, 643, 657], 61) := by decide +kernel
theorem md_L_law_100 : decode mc_L_law 100 = .ok (.aload_n 1, 1) := by decide +kernel
theorem md_L_law_101 : decode mc_L_law 101 = .ok (.aload_n 0, 1) := by decide +kernel
theorem md_L_law_102 : decode mc_L_law 102 = .ok (.iload 4, 2) := by decide +kernel
theorem md_L_law_104 : decode mc_L_law 104 = .ok (.iconst 1, 1) := by decide +kernel
theorem md_L_law_105 : decode mc_L_law 105 = .ok (.iadd, 1) := by decide +kernel
theorem md_L_law_106 : decode mc_L_law 106 = .ok (.iaload, 1) := by decide +kernel
theorem md_L_law_107 : decode mc_L_law 107 = .ok (.aload_n 0, 1) := by decide +kernel
theorem md_L_law_108 : decode mc_L_law 108 = .ok (.iload 4, 2) := by decide +kernel
theorem md_L_law_110 : decode mc_L_law 110 = .ok (.iconst 2, 1) := by decide +kernel
theorem md_L_law_111 : decode mc_L_law 111 = .ok (.iadd, 1) := by decide +kernel
theorem md_L_law_112 : decode mc_L_law 112 = .ok (.iaload, 1) := by decide +kernel
theorem md_L_law_113 : decode mc_L_law 113 = .ok (.aload_n 0, 1) := by decide +kernel
theorem md_L_law_114 : decode mc_L_law 114 = .ok (.iload 4, 2) := by decide +kernel
theorem md_L_law_116 : decode mc_L_law 116 = .ok (.iconst 3, 1) := by decide +kernel
theorem md_L_law_117 : decode mc_L_law 117 = .ok (.iadd, 1) := by decide +kernel
theorem md_L_law_118 : decode mc_L_law 118 = .ok (.iaload, 1) := by decide +kernel
theorem md_L_law_119 : decode mc_L_law 119 = .ok (.aload_n 0, 1) := by decide +kernel
theorem md_L_law_120 : decode mc_L_law 120 = .ok (.iload 4, 2) := by decide +kernel
theorem md_L_law_122 : decode mc_L_law 122 = .ok (.iconst 4, 1) := by decide +kernel
theorem md_L_law_123 : decode mc_L_law 123 = .ok (.iadd, 1) := by decide +kernel
theorem md_L_law_124 : decode mc_L_law 124 = .ok (.iaload, 1) := by decide +kernel
theorem md_L_law_125 : decode mc_L_law 125 = .ok (.aload_n 3, 1) := by decide +kernel
theorem md_L_law_126 : decode mc_L_law 126 = .ok (.invokestatic 52, 3) := by decide +kernel
theorem md_L_law_129 : decode mc_L_law 129 = .ok (.istore 5, 2) := by decide +kernel
theorem md_L_law_131 : decode mc_L_law 131 = .ok (.aload_n 2, 1) := by decide +kernel
theorem md_L_law_132 : decode mc_L_law 132 = .ok (.aload_n 0, 1) := by decide +kernel
theorem md_L_law_133 : decode mc_L_law 133 = .ok (.iload 4, 2) := by decide +kernel
theorem md_L_law_135 : decode mc_L_law 135 = .ok (.iconst 1, 1) := by decide +kernel
theorem md_L_law_136 : decode mc_L_law 136 = .ok (.iadd, 1) := by decide +kernel
theorem md_L_law_137 : decode mc_L_law 137 = .ok (.iaload, 1) := by decide +kernel
theorem md_L_law_138 : decode mc_L_law 138 = .ok (.aload_n 0, 1) := by decide +kernel
theorem md_L_law_139 : decode mc_L_law 139 = .ok (.iload 4, 2) := by decide +kernel
theorem md_L_law_141 : decode mc_L_law 141 = .ok (.iconst 2, 1) := by decide +kernel
theorem md_L_law_142 : decode mc_L_law 142 = .ok (.iadd, 1) := by decide +kernel
theorem md_L_law_143 : decode mc_L_law 143 = .ok (.iaload, 1) := by decide +kernel
theorem md_L_law_144 : decode mc_L_law 144 = .ok (.aload_n 0, 1) := by decide +kernel
theorem md_L_law_145 : decode mc_L_law 145 = .ok (.iload 4, 2) := by decide +kernel
theorem md_L_law_147 : decode mc_L_law 147 = .ok (.iconst 3, 1) := by decide +kernel
theorem md_L_law_148 : decode mc_L_law 148 = .ok (.iadd, 1) := by decide +kernel
theorem md_L_law_149 : decode mc_L_law 149 = .ok (.iaload, 1) := by decide +kernel
theorem md_L_law_150 : decode mc_L_law 150 = .ok (.aload_n 0, 1) := by decide +kernel
theorem md_L_law_151 : decode mc_L_law 151 = .ok (.iload 4, 2) := by decide +kernel
theorem md_L_law_153 : decode mc_L_law 153 = .ok (.iconst 4, 1) := by decide +kernel
theorem md_L_law_154 : decode mc_L_law 154 = .ok (.iadd, 1) := by decide +kernel
theorem md_L_law_155 : decode mc_L_law 155 = .ok (.iaload, 1) := by decide +kernel
theorem md_L_law_156 : decode mc_L_law 156 = .ok (.invokevirtual 57, 3) := by decide +kernel
theorem md_L_law_159 : decode mc_L_law 159 = .ok (.istore 6, 2) := by decide +kernel
theorem md_L_law_161 : decode mc_L_law 161 = .ok (.aload_n 2, 1) := by decide +kernel
theorem md_L_law_162 : decode mc_L_law 162 = .ok (.invokevirtual 58, 3) := by decide +kernel
theorem md_L_law_165 : decode mc_L_law 165 = .ok (.iload 5, 2) := by decide +kernel
theorem md_L_law_167 : decode mc_L_law 167 = .ok (.if_icmp .eq 5, 3) := by decide +kernel
theorem md_L_law_170 : decode mc_L_law 170 = .ok (.iconst 0, 1) := by decide +kernel
theorem md_L_law_171 : decode mc_L_law 171 = .ok (.ireturn, 1) := by decide +kernel
theorem md_L_law_172 : decode mc_L_law 172 = .ok (.iload 5, 2) := by decide +kernel
theorem md_L_law_174 : decode mc_L_law 174 = .ok (.ifCond .ne 15, 3) := by decide +kernel
theorem md_L_law_177 : decode mc_L_law 177 = .ok (.aload_n 3, 1) := by decide +kernel
theorem md_L_law_178 : decode mc_L_law 178 = .ok (.iconst 0, 1) := by decide +kernel
theorem md_L_law_179 : decode mc_L_law 179 = .ok (.laload, 1) := by decide +kernel
theorem md_L_law_180 : decode mc_L_law 180 = .ok (.iload 6, 2) := by decide +kernel
theorem md_L_law_182 : decode mc_L_law 182 = .ok (.i2l, 1) := by decide +kernel
theorem md_L_law_183 : decode mc_L_law 183 = .ok (.lcmp, 1) := by decide +kernel
theorem md_L_law_184 : decode mc_L_law 184 = .ok (.ifCond .eq 5, 3) := by decide +kernel
theorem md_L_law_187 : decode mc_L_law 187 = .ok (.iconst 0, 1) := by decide +kernel
theorem md_L_law_188 : decode mc_L_law 188 = .ok (.ireturn, 1) := by decide +kernel
theorem md_L_law_189 : decode mc_L_law 189 = .ok (.goto 563, 3) := by decide +kernel
theorem md_L_law_192 : decode mc_L_law 192 = .ok (.aload_n 1, 1) := by decide +kernel
theorem md_L_law_193 : decode mc_L_law 193 = .ok (.aload_n 0, 1) := by decide +kernel
theorem md_L_law_194 : decode mc_L_law 194 = .ok (.iload 4, 2) := by decide +kernel
theorem md_L_law_196 : decode mc_L_law 196 = .ok (.iconst 1, 1) := by decide +kernel
theorem md_L_law_197 : decode mc_L_law 197 = .ok (.iadd, 1) := by decide +kernel
theorem md_L_law_198 : decode mc_L_law 198 = .ok (.iaload, 1) := by decide +kernel
theorem md_L_law_199 : decode mc_L_law 199 = .ok (.aload_n 3, 1) := by decide +kernel
theorem md_L_law_200 : decode mc_L_law 200 = .ok (.invokestatic 62, 3) := by decide +kernel
theorem md_L_law_203 : decode mc_L_law 203 = .ok (.istore 5, 2) := by decide +kernel
theorem md_L_law_205 : decode mc_L_law 205 = .ok (.aload_n 2, 1) := by decide +kernel
theorem md_L_law_206 : decode mc_L_law 206 = .ok (.aload_n 0, 1) := by decide +kernel
theorem md_L_law_207 : decode mc_L_law 207 = .ok (.iload 4, 2) := by decide +kernel
theorem md_L_law_209 : decode mc_L_law 209 = .ok (.iconst 1, 1) := by decide +kernel
theorem md_L_law_210 : decode mc_L_law 210 = .ok (.iadd, 1) := by decide +kernel
theorem md_L_law_211 : decode mc_L_law 211 = .ok (.iaload, 1) := by decide +kernel
theorem md_L_law_212 : decode mc_L_law 212 = .ok (.invokevirtual 65, 3) := by decide +kernel
theorem md_L_law_215 : decode mc_L_law 215 = .ok (.istore 6, 2) := by decide +kernel
theorem md_L_law_217 : decode mc_L_law 217 = .ok (.aload_n 2, 1) := by decide +kernel
theorem md_L_law_218 : decode mc_L_law 218 = .ok (.invokevirtual 58, 3) := by decide +kernel
theorem md_L_law_221 : decode mc_L_law 221 = .ok (.iload 5, 2) := by decide +kernel
theorem md_L_law_223 : decode mc_L_law 223 = .ok (.if_icmp .eq 5, 3) := by decide +kernel
theorem md_L_law_226 : decode mc_L_law 226 = .ok (.iconst 0, 1) := by decide +kernel
theorem md_L_law_227 : decode mc_L_law 227 = .ok (.ireturn, 1) := by decide +kernel
theorem md_L_law_228 : decode mc_L_law 228 = .ok (.iload 5, 2) := by decide +kernel
theorem md_L_law_230 : decode mc_L_law 230 = .ok (.ifCond .ne 15, 3) := by decide +kernel
theorem md_L_law_233 : decode mc_L_law 233 = .ok (.aload_n 3, 1) := by decide +kernel
theorem md_L_law_234 : decode mc_L_law 234 = .ok (.iconst 0, 1) := by decide +kernel
theorem md_L_law_235 : decode mc_L_law 235 = .ok (.laload, 1) := by decide +kernel
theorem md_L_law_236 : decode mc_L_law 236 = .ok (.iload 6, 2) := by decide +kernel
theorem md_L_law_238 : decode mc_L_law 238 = .ok (.i2l, 1) := by decide +kernel
theorem md_L_law_239 : decode mc_L_law 239 = .ok (.lcmp, 1) := by decide +kernel
theorem md_L_law_240 : decode mc_L_law 240 = .ok (.ifCond .eq 5, 3) := by decide +kernel
theorem md_L_law_243 : decode mc_L_law 243 = .ok (.iconst 0, 1) := by decide +kernel
theorem md_L_law_244 : decode mc_L_law 244 = .ok (.ireturn, 1) := by decide +kernel
theorem md_L_law_245 : decode mc_L_law 245 = .ok (.goto 507, 3) := by decide +kernel
theorem md_L_law_248 : decode mc_L_law 248 = .ok (.aload_n 1, 1) := by decide +kernel
theorem md_L_law_249 : decode mc_L_law 249 = .ok (.aload_n 0, 1) := by decide +kernel
theorem md_L_law_250 : decode mc_L_law 250 = .ok (.iload 4, 2) := by decide +kernel
theorem md_L_law_252 : decode mc_L_law 252 = .ok (.iconst 1, 1) := by decide +kernel
theorem md_L_law_253 : decode mc_L_law 253 = .ok (.iadd, 1) := by decide +kernel
theorem md_L_law_254 : decode mc_L_law 254 = .ok (.iaload, 1) := by decide +kernel
theorem md_L_law_255 : decode mc_L_law 255 = .ok (.aload_n 0, 1) := by decide +kernel
theorem md_L_law_256 : decode mc_L_law 256 = .ok (.iload 4, 2) := by decide +kernel
theorem md_L_law_258 : decode mc_L_law 258 = .ok (.iconst 2, 1) := by decide +kernel
theorem md_L_law_259 : decode mc_L_law 259 = .ok (.iadd, 1) := by decide +kernel
theorem md_L_law_260 : decode mc_L_law 260 = .ok (.iaload, 1) := by decide +kernel
theorem md_L_law_261 : decode mc_L_law 261 = .ok (.aload_n 0, 1) := by decide +kernel
theorem md_L_law_262 : decode mc_L_law 262 = .ok (.iload 4, 2) := by decide +kernel
theorem md_L_law_264 : decode mc_L_law 264 = .ok (.iconst 3, 1) := by decide +kernel
theorem md_L_law_265 : decode mc_L_law 265 = .ok (.iadd, 1) := by decide +kernel
theorem md_L_law_266 : decode mc_L_law 266 = .ok (.iaload, 1) := by decide +kernel
theorem md_L_law_267 : decode mc_L_law 267 = .ok (.aload_n 3, 1) := by decide +kernel
theorem md_L_law_268 : decode mc_L_law 268 = .ok (.invokestatic 66, 3) := by decide +kernel
theorem md_L_law_271 : decode mc_L_law 271 = .ok (.istore 5, 2) := by decide +kernel
theorem md_L_law_273 : decode mc_L_law 273 = .ok (.aload_n 2, 1) := by decide +kernel
theorem md_L_law_274 : decode mc_L_law 274 = .ok (.aload_n 0, 1) := by decide +kernel
theorem md_L_law_275 : decode mc_L_law 275 = .ok (.iload 4, 2) := by decide +kernel
theorem md_L_law_277 : decode mc_L_law 277 = .ok (.iconst 1, 1) := by decide +kernel
theorem md_L_law_278 : decode mc_L_law 278 = .ok (.iadd, 1) := by decide +kernel
theorem md_L_law_279 : decode mc_L_law 279 = .ok (.iaload, 1) := by decide +kernel
theorem md_L_law_280 : decode mc_L_law 280 = .ok (.aload_n 0, 1) := by decide +kernel
theorem md_L_law_281 : decode mc_L_law 281 = .ok (.iload 4, 2) := by decide +kernel
theorem md_L_law_283 : decode mc_L_law 283 = .ok (.iconst 2, 1) := by decide +kernel
theorem md_L_law_284 : decode mc_L_law 284 = .ok (.iadd, 1) := by decide +kernel
theorem md_L_law_285 : decode mc_L_law 285 = .ok (.iaload, 1) := by decide +kernel
theorem md_L_law_286 : decode mc_L_law 286 = .ok (.aload_n 0, 1) := by decide +kernel
theorem md_L_law_287 : decode mc_L_law 287 = .ok (.iload 4, 2) := by decide +kernel
theorem md_L_law_289 : decode mc_L_law 289 = .ok (.iconst 3, 1) := by decide +kernel
theorem md_L_law_290 : decode mc_L_law 290 = .ok (.iadd, 1) := by decide +kernel
theorem md_L_law_291 : decode mc_L_law 291 = .ok (.iaload, 1) := by decide +kernel
theorem md_L_law_292 : decode mc_L_law 292 = .ok (.invokevirtual 69, 3) := by decide +kernel
theorem md_L_law_295 : decode mc_L_law 295 = .ok (.istore 6, 2) := by decide +kernel
theorem md_L_law_297 : decode mc_L_law 297 = .ok (.aload_n 2, 1) := by decide +kernel
theorem md_L_law_298 : decode mc_L_law 298 = .ok (.invokevirtual 58, 3) := by decide +kernel
theorem md_L_law_301 : decode mc_L_law 301 = .ok (.iload 5, 2) := by decide +kernel
theorem md_L_law_303 : decode mc_L_law 303 = .ok (.if_icmp .eq 5, 3) := by decide +kernel
theorem md_L_law_306 : decode mc_L_law 306 = .ok (.iconst 0, 1) := by decide +kernel
theorem md_L_law_307 : decode mc_L_law 307 = .ok (.ireturn, 1) := by decide +kernel
theorem md_L_law_308 : decode mc_L_law 308 = .ok (.iload 5, 2) := by decide +kernel
theorem md_L_law_310 : decode mc_L_law 310 = .ok (.ifCond .ne 15, 3) := by decide +kernel
theorem md_L_law_313 : decode mc_L_law 313 = .ok (.aload_n 3, 1) := by decide +kernel
theorem md_L_law_314 : decode mc_L_law 314 = .ok (.iconst 0, 1) := by decide +kernel
theorem md_L_law_315 : decode mc_L_law 315 = .ok (.laload, 1) := by decide +kernel
theorem md_L_law_316 : decode mc_L_law 316 = .ok (.iload 6, 2) := by decide +kernel
theorem md_L_law_318 : decode mc_L_law 318 = .ok (.i2l, 1) := by decide +kernel
theorem md_L_law_319 : decode mc_L_law 319 = .ok (.lcmp, 1) := by decide +kernel
theorem md_L_law_320 : decode mc_L_law 320 = .ok (.ifCond .eq 5, 3) := by decide +kernel
theorem md_L_law_323 : decode mc_L_law 323 = .ok (.iconst 0, 1) := by decide +kernel
theorem md_L_law_324 : decode mc_L_law 324 = .ok (.ireturn, 1) := by decide +kernel
theorem md_L_law_325 : decode mc_L_law 325 = .ok (.goto 427, 3) := by decide +kernel
theorem md_L_law_328 : decode mc_L_law 328 = .ok (.aload_n 1, 1) := by decide +kernel
theorem md_L_law_329 : decode mc_L_law 329 = .ok (.aload_n 0, 1) := by decide +kernel
theorem md_L_law_330 : decode mc_L_law 330 = .ok (.iload 4, 2) := by decide +kernel
theorem md_L_law_332 : decode mc_L_law 332 = .ok (.iconst 1, 1) := by decide +kernel
theorem md_L_law_333 : decode mc_L_law 333 = .ok (.iadd, 1) := by decide +kernel
theorem md_L_law_334 : decode mc_L_law 334 = .ok (.iaload, 1) := by decide +kernel
theorem md_L_law_335 : decode mc_L_law 335 = .ok (.aload_n 3, 1) := by decide +kernel
theorem md_L_law_336 : decode mc_L_law 336 = .ok (.invokestatic 70, 3) := by decide +kernel
theorem md_L_law_339 : decode mc_L_law 339 = .ok (.istore 5, 2) := by decide +kernel
theorem md_L_law_341 : decode mc_L_law 341 = .ok (.aload_n 2, 1) := by decide +kernel
theorem md_L_law_342 : decode mc_L_law 342 = .ok (.aload_n 0, 1) := by decide +kernel
theorem md_L_law_343 : decode mc_L_law 343 = .ok (.iload 4, 2) := by decide +kernel
theorem md_L_law_345 : decode mc_L_law 345 = .ok (.iconst 1, 1) := by decide +kernel
theorem md_L_law_346 : decode mc_L_law 346 = .ok (.iadd, 1) := by decide +kernel
theorem md_L_law_347 : decode mc_L_law 347 = .ok (.iaload, 1) := by decide +kernel
theorem md_L_law_348 : decode mc_L_law 348 = .ok (.invokevirtual 72, 3) := by decide +kernel
theorem md_L_law_351 : decode mc_L_law 351 = .ok (.istore 6, 2) := by decide +kernel
theorem md_L_law_353 : decode mc_L_law 353 = .ok (.aload_n 2, 1) := by decide +kernel
theorem md_L_law_354 : decode mc_L_law 354 = .ok (.invokevirtual 58, 3) := by decide +kernel
theorem md_L_law_357 : decode mc_L_law 357 = .ok (.iload 5, 2) := by decide +kernel
theorem md_L_law_359 : decode mc_L_law 359 = .ok (.if_icmp .eq 5, 3) := by decide +kernel
theorem md_L_law_362 : decode mc_L_law 362 = .ok (.iconst 0, 1) := by decide +kernel
theorem md_L_law_363 : decode mc_L_law 363 = .ok (.ireturn, 1) := by decide +kernel
theorem md_L_law_364 : decode mc_L_law 364 = .ok (.iload 5, 2) := by decide +kernel
theorem md_L_law_366 : decode mc_L_law 366 = .ok (.ifCond .ne 15, 3) := by decide +kernel
theorem md_L_law_369 : decode mc_L_law 369 = .ok (.aload_n 3, 1) := by decide +kernel
theorem md_L_law_370 : decode mc_L_law 370 = .ok (.iconst 0, 1) := by decide +kernel
theorem md_L_law_371 : decode mc_L_law 371 = .ok (.laload, 1) := by decide +kernel
theorem md_L_law_372 : decode mc_L_law 372 = .ok (.iload 6, 2) := by decide +kernel
theorem md_L_law_374 : decode mc_L_law 374 = .ok (.i2l, 1) := by decide +kernel
theorem md_L_law_375 : decode mc_L_law 375 = .ok (.lcmp, 1) := by decide +kernel
theorem md_L_law_376 : decode mc_L_law 376 = .ok (.ifCond .eq 5, 3) := by decide +kernel
theorem md_L_law_379 : decode mc_L_law 379 = .ok (.iconst 0, 1) := by decide +kernel
theorem md_L_law_380 : decode mc_L_law 380 = .ok (.ireturn, 1) := by decide +kernel
theorem md_L_law_381 : decode mc_L_law 381 = .ok (.goto 371, 3) := by decide +kernel
theorem md_L_law_384 : decode mc_L_law 384 = .ok (.aload_n 1, 1) := by decide +kernel
theorem md_L_law_385 : decode mc_L_law 385 = .ok (.aload_n 0, 1) := by decide +kernel
theorem md_L_law_386 : decode mc_L_law 386 = .ok (.iload 4, 2) := by decide +kernel
theorem md_L_law_388 : decode mc_L_law 388 = .ok (.iconst 1, 1) := by decide +kernel
theorem md_L_law_389 : decode mc_L_law 389 = .ok (.iadd, 1) := by decide +kernel
theorem md_L_law_390 : decode mc_L_law 390 = .ok (.iaload, 1) := by decide +kernel
theorem md_L_law_391 : decode mc_L_law 391 = .ok (.aload_n 3, 1) := by decide +kernel
theorem md_L_law_392 : decode mc_L_law 392 = .ok (.invokestatic 73, 3) := by decide +kernel
theorem md_L_law_395 : decode mc_L_law 395 = .ok (.istore 5, 2) := by decide +kernel
theorem md_L_law_397 : decode mc_L_law 397 = .ok (.aload_n 2, 1) := by decide +kernel
theorem md_L_law_398 : decode mc_L_law 398 = .ok (.aload_n 0, 1) := by decide +kernel
theorem md_L_law_399 : decode mc_L_law 399 = .ok (.iload 4, 2) := by decide +kernel
theorem md_L_law_401 : decode mc_L_law 401 = .ok (.iconst 1, 1) := by decide +kernel
theorem md_L_law_402 : decode mc_L_law 402 = .ok (.iadd, 1) := by decide +kernel
theorem md_L_law_403 : decode mc_L_law 403 = .ok (.iaload, 1) := by decide +kernel
theorem md_L_law_404 : decode mc_L_law 404 = .ok (.invokevirtual 75, 3) := by decide +kernel
theorem md_L_law_407 : decode mc_L_law 407 = .ok (.istore 6, 2) := by decide +kernel
theorem md_L_law_409 : decode mc_L_law 409 = .ok (.aload_n 2, 1) := by decide +kernel
theorem md_L_law_410 : decode mc_L_law 410 = .ok (.invokevirtual 58, 3) := by decide +kernel
theorem md_L_law_413 : decode mc_L_law 413 = .ok (.iload 5, 2) := by decide +kernel
theorem md_L_law_415 : decode mc_L_law 415 = .ok (.if_icmp .eq 5, 3) := by decide +kernel
theorem md_L_law_418 : decode mc_L_law 418 = .ok (.iconst 0, 1) := by decide +kernel
theorem md_L_law_419 : decode mc_L_law 419 = .ok (.ireturn, 1) := by decide +kernel
theorem md_L_law_420 : decode mc_L_law 420 = .ok (.iload 5, 2) := by decide +kernel
theorem md_L_law_422 : decode mc_L_law 422 = .ok (.ifCond .ne 15, 3) := by decide +kernel
theorem md_L_law_425 : decode mc_L_law 425 = .ok (.aload_n 3, 1) := by decide +kernel
theorem md_L_law_426 : decode mc_L_law 426 = .ok (.iconst 0, 1) := by decide +kernel
theorem md_L_law_427 : decode mc_L_law 427 = .ok (.laload, 1) := by decide +kernel
theorem md_L_law_428 : decode mc_L_law 428 = .ok (.iload 6, 2) := by decide +kernel
theorem md_L_law_430 : decode mc_L_law 430 = .ok (.i2l, 1) := by decide +kernel
theorem md_L_law_431 : decode mc_L_law 431 = .ok (.lcmp, 1) := by decide +kernel
theorem md_L_law_432 : decode mc_L_law 432 = .ok (.ifCond .eq 5, 3) := by decide +kernel
theorem md_L_law_435 : decode mc_L_law 435 = .ok (.iconst 0, 1) := by decide +kernel
theorem md_L_law_436 : decode mc_L_law 436 = .ok (.ireturn, 1) := by decide +kernel
theorem md_L_law_437 : decode mc_L_law 437 = .ok (.goto 315, 3) := by decide +kernel
theorem md_L_law_440 : decode mc_L_law 440 = .ok (.aload_n 1, 1) := by decide +kernel
theorem md_L_law_441 : decode mc_L_law 441 = .ok (.aload_n 0, 1) := by decide +kernel
theorem md_L_law_442 : decode mc_L_law 442 = .ok (.iload 4, 2) := by decide +kernel
theorem md_L_law_444 : decode mc_L_law 444 = .ok (.iconst 1, 1) := by decide +kernel
theorem md_L_law_445 : decode mc_L_law 445 = .ok (.iadd, 1) := by decide +kernel
theorem md_L_law_446 : decode mc_L_law 446 = .ok (.iaload, 1) := by decide +kernel
theorem md_L_law_447 : decode mc_L_law 447 = .ok (.aload_n 0, 1) := by decide +kernel
theorem md_L_law_448 : decode mc_L_law 448 = .ok (.iload 4, 2) := by decide +kernel
theorem md_L_law_450 : decode mc_L_law 450 = .ok (.iconst 2, 1) := by decide +kernel
theorem md_L_law_451 : decode mc_L_law 451 = .ok (.iadd, 1) := by decide +kernel
theorem md_L_law_452 : decode mc_L_law 452 = .ok (.iaload, 1) := by decide +kernel
theorem md_L_law_453 : decode mc_L_law 453 = .ok (.aload_n 0, 1) := by decide +kernel
theorem md_L_law_454 : decode mc_L_law 454 = .ok (.iload 4, 2) := by decide +kernel
theorem md_L_law_456 : decode mc_L_law 456 = .ok (.iconst 3, 1) := by decide +kernel
theorem md_L_law_457 : decode mc_L_law 457 = .ok (.iadd, 1) := by decide +kernel
theorem md_L_law_458 : decode mc_L_law 458 = .ok (.iaload, 1) := by decide +kernel
theorem md_L_law_459 : decode mc_L_law 459 = .ok (.aload_n 3, 1) := by decide +kernel
theorem md_L_law_460 : decode mc_L_law 460 = .ok (.invokestatic 76, 3) := by decide +kernel
theorem md_L_law_463 : decode mc_L_law 463 = .ok (.istore 5, 2) := by decide +kernel
theorem md_L_law_465 : decode mc_L_law 465 = .ok (.aload_n 2, 1) := by decide +kernel
theorem md_L_law_466 : decode mc_L_law 466 = .ok (.aload_n 0, 1) := by decide +kernel
theorem md_L_law_467 : decode mc_L_law 467 = .ok (.iload 4, 2) := by decide +kernel
theorem md_L_law_469 : decode mc_L_law 469 = .ok (.iconst 1, 1) := by decide +kernel
theorem md_L_law_470 : decode mc_L_law 470 = .ok (.iadd, 1) := by decide +kernel
theorem md_L_law_471 : decode mc_L_law 471 = .ok (.iaload, 1) := by decide +kernel
theorem md_L_law_472 : decode mc_L_law 472 = .ok (.aload_n 0, 1) := by decide +kernel
theorem md_L_law_473 : decode mc_L_law 473 = .ok (.iload 4, 2) := by decide +kernel
theorem md_L_law_475 : decode mc_L_law 475 = .ok (.iconst 2, 1) := by decide +kernel
theorem md_L_law_476 : decode mc_L_law 476 = .ok (.iadd, 1) := by decide +kernel
theorem md_L_law_477 : decode mc_L_law 477 = .ok (.iaload, 1) := by decide +kernel
theorem md_L_law_478 : decode mc_L_law 478 = .ok (.aload_n 0, 1) := by decide +kernel
theorem md_L_law_479 : decode mc_L_law 479 = .ok (.iload 4, 2) := by decide +kernel
theorem md_L_law_481 : decode mc_L_law 481 = .ok (.iconst 3, 1) := by decide +kernel
theorem md_L_law_482 : decode mc_L_law 482 = .ok (.iadd, 1) := by decide +kernel
theorem md_L_law_483 : decode mc_L_law 483 = .ok (.iaload, 1) := by decide +kernel
theorem md_L_law_484 : decode mc_L_law 484 = .ok (.invokevirtual 78, 3) := by decide +kernel
theorem md_L_law_487 : decode mc_L_law 487 = .ok (.istore 6, 2) := by decide +kernel
theorem md_L_law_489 : decode mc_L_law 489 = .ok (.aload_n 2, 1) := by decide +kernel
theorem md_L_law_490 : decode mc_L_law 490 = .ok (.invokevirtual 58, 3) := by decide +kernel
theorem md_L_law_493 : decode mc_L_law 493 = .ok (.iload 5, 2) := by decide +kernel
theorem md_L_law_495 : decode mc_L_law 495 = .ok (.if_icmp .eq 5, 3) := by decide +kernel
theorem md_L_law_498 : decode mc_L_law 498 = .ok (.iconst 0, 1) := by decide +kernel
theorem md_L_law_499 : decode mc_L_law 499 = .ok (.ireturn, 1) := by decide +kernel
theorem md_L_law_500 : decode mc_L_law 500 = .ok (.iload 5, 2) := by decide +kernel
theorem md_L_law_502 : decode mc_L_law 502 = .ok (.ifCond .ne 15, 3) := by decide +kernel
theorem md_L_law_505 : decode mc_L_law 505 = .ok (.aload_n 3, 1) := by decide +kernel
theorem md_L_law_506 : decode mc_L_law 506 = .ok (.iconst 0, 1) := by decide +kernel
theorem md_L_law_507 : decode mc_L_law 507 = .ok (.laload, 1) := by decide +kernel
theorem md_L_law_508 : decode mc_L_law 508 = .ok (.iload 6, 2) := by decide +kernel
theorem md_L_law_510 : decode mc_L_law 510 = .ok (.i2l, 1) := by decide +kernel
theorem md_L_law_511 : decode mc_L_law 511 = .ok (.lcmp, 1) := by decide +kernel
theorem md_L_law_512 : decode mc_L_law 512 = .ok (.ifCond .eq 5, 3) := by decide +kernel
theorem md_L_law_515 : decode mc_L_law 515 = .ok (.iconst 0, 1) := by decide +kernel
theorem md_L_law_516 : decode mc_L_law 516 = .ok (.ireturn, 1) := by decide +kernel
theorem md_L_law_517 : decode mc_L_law 517 = .ok (.goto 235, 3) := by decide +kernel
theorem md_L_law_520 : decode mc_L_law 520 = .ok (.aload_n 1, 1) := by decide +kernel
theorem md_L_law_521 : decode mc_L_law 521 = .ok (.aload_n 0, 1) := by decide +kernel
theorem md_L_law_522 : decode mc_L_law 522 = .ok (.iload 4, 2) := by decide +kernel
theorem md_L_law_524 : decode mc_L_law 524 = .ok (.iconst 1, 1) := by decide +kernel
theorem md_L_law_525 : decode mc_L_law 525 = .ok (.iadd, 1) := by decide +kernel
theorem md_L_law_526 : decode mc_L_law 526 = .ok (.iaload, 1) := by decide +kernel
theorem md_L_law_527 : decode mc_L_law 527 = .ok (.aload_n 0, 1) := by decide +kernel
theorem md_L_law_528 : decode mc_L_law 528 = .ok (.iload 4, 2) := by decide +kernel
theorem md_L_law_530 : decode mc_L_law 530 = .ok (.iconst 2, 1) := by decide +kernel
theorem md_L_law_531 : decode mc_L_law 531 = .ok (.iadd, 1) := by decide +kernel
theorem md_L_law_532 : decode mc_L_law 532 = .ok (.iaload, 1) := by decide +kernel
theorem md_L_law_533 : decode mc_L_law 533 = .ok (.aload_n 3, 1) := by decide +kernel
theorem md_L_law_534 : decode mc_L_law 534 = .ok (.invokestatic 79, 3) := by decide +kernel
theorem md_L_law_537 : decode mc_L_law 537 = .ok (.istore 5, 2) := by decide +kernel
theorem md_L_law_539 : decode mc_L_law 539 = .ok (.aload_n 2, 1) := by decide +kernel
theorem md_L_law_540 : decode mc_L_law 540 = .ok (.aload_n 0, 1) := by decide +kernel
theorem md_L_law_541 : decode mc_L_law 541 = .ok (.iload 4, 2) := by decide +kernel
theorem md_L_law_543 : decode mc_L_law 543 = .ok (.iconst 1, 1) := by decide +kernel
theorem md_L_law_544 : decode mc_L_law 544 = .ok (.iadd, 1) := by decide +kernel
theorem md_L_law_545 : decode mc_L_law 545 = .ok (.iaload, 1) := by decide +kernel
theorem md_L_law_546 : decode mc_L_law 546 = .ok (.aload_n 0, 1) := by decide +kernel
theorem md_L_law_547 : decode mc_L_law 547 = .ok (.iload 4, 2) := by decide +kernel
theorem md_L_law_549 : decode mc_L_law 549 = .ok (.iconst 2, 1) := by decide +kernel
theorem md_L_law_550 : decode mc_L_law 550 = .ok (.iadd, 1) := by decide +kernel
theorem md_L_law_551 : decode mc_L_law 551 = .ok (.iaload, 1) := by decide +kernel
theorem md_L_law_552 : decode mc_L_law 552 = .ok (.invokevirtual 82, 3) := by decide +kernel
theorem md_L_law_555 : decode mc_L_law 555 = .ok (.istore 6, 2) := by decide +kernel
theorem md_L_law_557 : decode mc_L_law 557 = .ok (.aload_n 2, 1) := by decide +kernel
theorem md_L_law_558 : decode mc_L_law 558 = .ok (.invokevirtual 58, 3) := by decide +kernel
theorem md_L_law_561 : decode mc_L_law 561 = .ok (.iload 5, 2) := by decide +kernel
theorem md_L_law_563 : decode mc_L_law 563 = .ok (.if_icmp .eq 5, 3) := by decide +kernel
theorem md_L_law_566 : decode mc_L_law 566 = .ok (.iconst 0, 1) := by decide +kernel
theorem md_L_law_567 : decode mc_L_law 567 = .ok (.ireturn, 1) := by decide +kernel
theorem md_L_law_568 : decode mc_L_law 568 = .ok (.iload 5, 2) := by decide +kernel
theorem md_L_law_570 : decode mc_L_law 570 = .ok (.ifCond .ne 15, 3) := by decide +kernel
theorem md_L_law_573 : decode mc_L_law 573 = .ok (.aload_n 3, 1) := by decide +kernel
theorem md_L_law_574 : decode mc_L_law 574 = .ok (.iconst 0, 1) := by decide +kernel
theorem md_L_law_575 : decode mc_L_law 575 = .ok (.laload, 1) := by decide +kernel
theorem md_L_law_576 : decode mc_L_law 576 = .ok (.iload 6, 2) := by decide +kernel
theorem md_L_law_578 : decode mc_L_law 578 = .ok (.i2l, 1) := by decide +kernel
theorem md_L_law_579 : decode mc_L_law 579 = .ok (.lcmp, 1) := by decide +kernel
theorem md_L_law_580 : decode mc_L_law 580 = .ok (.ifCond .eq 5, 3) := by decide +kernel
theorem md_L_law_583 : decode mc_L_law 583 = .ok (.iconst 0, 1) := by decide +kernel
theorem md_L_law_584 : decode mc_L_law 584 = .ok (.ireturn, 1) := by decide +kernel
theorem md_L_law_585 : decode mc_L_law 585 = .ok (.goto 167, 3) := by decide +kernel
theorem md_L_law_588 : decode mc_L_law 588 = .ok (.aload_n 1, 1) := by decide +kernel
theorem md_L_law_589 : decode mc_L_law 589 = .ok (.aload_n 0, 1) := by decide +kernel
theorem md_L_law_590 : decode mc_L_law 590 = .ok (.iload 4, 2) := by decide +kernel
theorem md_L_law_592 : decode mc_L_law 592 = .ok (.iconst 1, 1) := by decide +kernel
theorem md_L_law_593 : decode mc_L_law 593 = .ok (.iadd, 1) := by decide +kernel
theorem md_L_law_594 : decode mc_L_law 594 = .ok (.iaload, 1) := by decide +kernel
theorem md_L_law_595 : decode mc_L_law 595 = .ok (.aload_n 0, 1) := by decide +kernel
theorem md_L_law_596 : decode mc_L_law 596 = .ok (.iload 4, 2) := by decide +kernel
theorem md_L_law_598 : decode mc_L_law 598 = .ok (.iconst 2, 1) := by decide +kernel
theorem md_L_law_599 : decode mc_L_law 599 = .ok (.iadd, 1) := by decide +kernel
theorem md_L_law_600 : decode mc_L_law 600 = .ok (.iaload, 1) := by decide +kernel
theorem md_L_law_601 : decode mc_L_law 601 = .ok (.aload_n 3, 1) := by decide +kernel
theorem md_L_law_602 : decode mc_L_law 602 = .ok (.invokestatic 83, 3) := by decide +kernel
theorem md_L_law_605 : decode mc_L_law 605 = .ok (.istore 5, 2) := by decide +kernel
theorem md_L_law_607 : decode mc_L_law 607 = .ok (.aload_n 2, 1) := by decide +kernel
theorem md_L_law_608 : decode mc_L_law 608 = .ok (.aload_n 0, 1) := by decide +kernel
theorem md_L_law_609 : decode mc_L_law 609 = .ok (.iload 4, 2) := by decide +kernel
theorem md_L_law_611 : decode mc_L_law 611 = .ok (.iconst 1, 1) := by decide +kernel
theorem md_L_law_612 : decode mc_L_law 612 = .ok (.iadd, 1) := by decide +kernel
theorem md_L_law_613 : decode mc_L_law 613 = .ok (.iaload, 1) := by decide +kernel
theorem md_L_law_614 : decode mc_L_law 614 = .ok (.aload_n 0, 1) := by decide +kernel
theorem md_L_law_615 : decode mc_L_law 615 = .ok (.iload 4, 2) := by decide +kernel
theorem md_L_law_617 : decode mc_L_law 617 = .ok (.iconst 2, 1) := by decide +kernel
theorem md_L_law_618 : decode mc_L_law 618 = .ok (.iadd, 1) := by decide +kernel
theorem md_L_law_619 : decode mc_L_law 619 = .ok (.iaload, 1) := by decide +kernel
theorem md_L_law_620 : decode mc_L_law 620 = .ok (.invokevirtual 85, 3) := by decide +kernel
theorem md_L_law_623 : decode mc_L_law 623 = .ok (.istore 6, 2) := by decide +kernel
theorem md_L_law_625 : decode mc_L_law 625 = .ok (.aload_n 2, 1) := by decide +kernel
theorem md_L_law_626 : decode mc_L_law 626 = .ok (.invokevirtual 58, 3) := by decide +kernel
theorem md_L_law_629 : decode mc_L_law 629 = .ok (.iload 5, 2) := by decide +kernel
theorem md_L_law_631 : decode mc_L_law 631 = .ok (.if_icmp .eq 5, 3) := by decide +kernel
theorem md_L_law_634 : decode mc_L_law 634 = .ok (.iconst 0, 1) := by decide +kernel
theorem md_L_law_635 : decode mc_L_law 635 = .ok (.ireturn, 1) := by decide +kernel
theorem md_L_law_636 : decode mc_L_law 636 = .ok (.iload 5, 2) := by decide +kernel
theorem md_L_law_638 : decode mc_L_law 638 = .ok (.ifCond .ne 15, 3) := by decide +kernel
theorem md_L_law_641 : decode mc_L_law 641 = .ok (.aload_n 3, 1) := by decide +kernel
theorem md_L_law_642 : decode mc_L_law 642 = .ok (.iconst 0, 1) := by decide +kernel
theorem md_L_law_643 : decode mc_L_law 643 = .ok (.laload, 1) := by decide +kernel
theorem md_L_law_644 : decode mc_L_law 644 = .ok (.iload 6, 2) := by decide +kernel
theorem md_L_law_646 : decode mc_L_law 646 = .ok (.i2l, 1) := by decide +kernel
theorem md_L_law_647 : decode mc_L_law 647 = .ok (.lcmp, 1) := by decide +kernel
theorem md_L_law_648 : decode mc_L_law 648 = .ok (.ifCond .eq 5, 3) := by decide +kernel
theorem md_L_law_651 : decode mc_L_law 651 = .ok (.iconst 0, 1) := by decide +kernel
theorem md_L_law_652 : decode mc_L_law 652 = .ok (.ireturn, 1) := by decide +kernel
theorem md_L_law_653 : decode mc_L_law 653 = .ok (.goto 99, 3) := by decide +kernel
theorem md_L_law_656 : decode mc_L_law 656 = .ok (.aload_n 1, 1) := by decide +kernel
theorem md_L_law_657 : decode mc_L_law 657 = .ok (.invokevirtual 86, 3) := by decide +kernel
theorem md_L_law_660 : decode mc_L_law 660 = .ok (.aload_n 2, 1) := by decide +kernel
theorem md_L_law_661 : decode mc_L_law 661 = .ok (.invokevirtual 89, 3) := by decide +kernel
theorem md_L_law_664 : decode mc_L_law 664 = .ok (.if_icmp .eq 88, 3) := by decide +kernel
theorem md_L_law_667 : decode mc_L_law 667 = .ok (.iconst 0, 1) := by decide +kernel
theorem md_L_law_668 : decode mc_L_law 668 = .ok (.ireturn, 1) := by decide +kernel
theorem md_L_law_669 : decode mc_L_law 669 = .ok (.aload_n 1, 1) := by decide +kernel
theorem md_L_law_670 : decode mc_L_law 670 = .ok (.invokevirtual 90, 3) := by decide +kernel
theorem md_L_law_673 : decode mc_L_law 673 = .ok (.aload_n 2, 1) := by decide +kernel
theorem md_L_law_674 : decode mc_L_law 674 = .ok (.invokevirtual 93, 3) := by decide +kernel
theorem md_L_law_677 : decode mc_L_law 677 = .ok (.if_icmp .eq 75, 3) := by decide +kernel
theorem md_L_law_680 : decode mc_L_law 680 = .ok (.iconst 0, 1) := by decide +kernel
theorem md_L_law_681 : decode mc_L_law 681 = .ok (.ireturn, 1) := by decide +kernel
theorem md_L_law_682 : decode mc_L_law 682 = .ok (.aload_n 1, 1) := by decide +kernel
theorem md_L_law_683 : decode mc_L_law 683 = .ok (.invokevirtual 94, 3) := by decide +kernel
theorem md_L_law_686 : decode mc_L_law 686 = .ok (.aload_n 2, 1) := by decide +kernel
theorem md_L_law_687 : decode mc_L_law 687 = .ok (.invokevirtual 98, 3) := by decide +kernel
theorem md_L_law_690 : decode mc_L_law 690 = .ok (.lcmp, 1) := by decide +kernel
theorem md_L_law_691 : decode mc_L_law 691 = .ok (.ifCond .eq 61, 3) := by decide +kernel
theorem md_L_law_694 : decode mc_L_law 694 = .ok (.iconst 0, 1) := by decide +kernel
theorem md_L_law_695 : decode mc_L_law 695 = .ok (.ireturn, 1) := by decide +kernel
theorem md_L_law_696 : decode mc_L_law 696 = .ok (.aload_n 1, 1) := by decide +kernel
theorem md_L_law_697 : decode mc_L_law 697 = .ok (.aload_n 0, 1) := by decide +kernel
theorem md_L_law_698 : decode mc_L_law 698 = .ok (.iload 4, 2) := by decide +kernel
theorem md_L_law_700 : decode mc_L_law 700 = .ok (.iconst 1, 1) := by decide +kernel
theorem md_L_law_701 : decode mc_L_law 701 = .ok (.iadd, 1) := by decide +kernel
theorem md_L_law_702 : decode mc_L_law 702 = .ok (.iaload, 1) := by decide +kernel
theorem md_L_law_703 : decode mc_L_law 703 = .ok (.aload_n 3, 1) := by decide +kernel
theorem md_L_law_704 : decode mc_L_law 704 = .ok (.invokestatic 99, 3) := by decide +kernel
theorem md_L_law_707 : decode mc_L_law 707 = .ok (.istore 5, 2) := by decide +kernel
theorem md_L_law_709 : decode mc_L_law 709 = .ok (.aload_n 2, 1) := by decide +kernel
theorem md_L_law_710 : decode mc_L_law 710 = .ok (.aload_n 0, 1) := by decide +kernel
theorem md_L_law_711 : decode mc_L_law 711 = .ok (.iload 4, 2) := by decide +kernel
theorem md_L_law_713 : decode mc_L_law 713 = .ok (.iconst 1, 1) := by decide +kernel
theorem md_L_law_714 : decode mc_L_law 714 = .ok (.iadd, 1) := by decide +kernel
theorem md_L_law_715 : decode mc_L_law 715 = .ok (.iaload, 1) := by decide +kernel
theorem md_L_law_716 : decode mc_L_law 716 = .ok (.invokevirtual 101, 3) := by decide +kernel
theorem md_L_law_719 : decode mc_L_law 719 = .ok (.istore 6, 2) := by decide +kernel
theorem md_L_law_721 : decode mc_L_law 721 = .ok (.aload_n 2, 1) := by decide +kernel
theorem md_L_law_722 : decode mc_L_law 722 = .ok (.invokevirtual 58, 3) := by decide +kernel
theorem md_L_law_725 : decode mc_L_law 725 = .ok (.iload 5, 2) := by decide +kernel
theorem md_L_law_727 : decode mc_L_law 727 = .ok (.if_icmp .eq 5, 3) := by decide +kernel
theorem md_L_law_730 : decode mc_L_law 730 = .ok (.iconst 0, 1) := by decide +kernel
theorem md_L_law_731 : decode mc_L_law 731 = .ok (.ireturn, 1) := by decide +kernel
theorem md_L_law_732 : decode mc_L_law 732 = .ok (.iload 5, 2) := by decide +kernel
theorem md_L_law_734 : decode mc_L_law 734 = .ok (.ifCond .ne 15, 3) := by decide +kernel
theorem md_L_law_737 : decode mc_L_law 737 = .ok (.aload_n 3, 1) := by decide +kernel
theorem md_L_law_738 : decode mc_L_law 738 = .ok (.iconst 0, 1) := by decide +kernel
theorem md_L_law_739 : decode mc_L_law 739 = .ok (.laload, 1) := by decide +kernel
theorem md_L_law_740 : decode mc_L_law 740 = .ok (.iload 6, 2) := by decide +kernel
theorem md_L_law_742 : decode mc_L_law 742 = .ok (.i2l, 1) := by decide +kernel
theorem md_L_law_743 : decode mc_L_law 743 = .ok (.lcmp, 1) := by decide +kernel
theorem md_L_law_744 : decode mc_L_law 744 = .ok (.ifCond .eq 5, 3) := by decide +kernel
theorem md_L_law_747 : decode mc_L_law 747 = .ok (.iconst 0, 1) := by decide +kernel
theorem md_L_law_748 : decode mc_L_law 748 = .ok (.ireturn, 1) := by decide +kernel
theorem md_L_law_749 : decode mc_L_law 749 = .ok (.goto 3, 3) := by decide +kernel
theorem md_L_law_752 : decode mc_L_law 752 = .ok (.iinc 4 5, 3) := by decide +kernel
theorem md_L_law_755 : decode mc_L_law 755 = .ok (.goto (-732), 3) := by decide +kernel
theorem md_L_law_758 : decode mc_L_law 758 = .ok (.iconst 1, 1) := by decide +kernel
theorem md_L_law_759 : decode mc_L_law 759 = .ok (.ireturn, 1) := by decide +kernel
end
section
/-! MatchFloor: the values behind the cells. An order: id, owner, side, waits, price, left. -/
abbrev mf_O : Type := Int32 × Int32 × Int32 × Int32 × Int32 × Int32
abbrev mf_id (r : mf_O) : Int32 := r.1
abbrev mf_ow (r : mf_O) : Int32 := r.2.1
abbrev mf_sd (r : mf_O) : Int32 := r.2.2.1
abbrev mf_wt (r : mf_O) : Int32 := r.2.2.2.1
abbrev mf_pr (r : mf_O) : Int32 := r.2.2.2.2.1
abbrev mf_lf (r : mf_O) : Int32 := r.2.2.2.2.2
def mf_setLf (r : mf_O) (v : Int32) : mf_O := (r.1, r.2.1, r.2.2.1, r.2.2.2.1, r.2.2.2.2.1, v)
def mf_setPL (r : mf_O) (p v : Int32) : mf_O := (r.1, r.2.1, r.2.2.1, r.2.2.2.1, p, v)
def mf_bI (b : Bool) : Int32 := if b then 1 else 0
def mf_oI : Option Nat → Int32
  | none => -1
  | some k => nI k
def mf_other (s : Int32) : Int32 := if s = 0 then 1 else 0
def mf_better (s p t : Int32) : Bool := if s = 0 then decide (t < p) else decide (p < t)
def mf_rests (r : mf_O) (s : Int32) : Bool := decide (mf_wt r = 0) && decide (mf_sd r = s)
def mf_fit (r : mf_O) (p : Int32) : Bool := decide (p = 0) || (decide (p = mf_pr r) || mf_better (mf_other (mf_sd r)) p (mf_pr r))
def mf_due (r : mf_O) (t : Int32) : Bool := !decide (mf_wt r = 0) && (!decide (t = 0) && (if mf_sd r = 0 then decide (mf_pr r ≤ t) else decide (t ≤ mf_pr r)))
def mf_queues (r q : mf_O) : Bool := if mf_wt r = 0 ∧ mf_wt q = 0 then decide (mf_sd r = mf_sd q) && decide (mf_pr r = mf_pr q) else !decide (mf_wt r = 0) && !decide (mf_wt q = 0)
def mf_min (a b : Int32) : Int32 := if a ≤ b then a else b
/-- what all fills come to: their number, the last price, the volume, the turnover, the ring of the last 32 -/
abbrev mf_G : Type := Nat × Int32 × Int32 × Int64 × (Nat → Nat → Int32)
def mf_write (g : mf_G) (i k p n : Int32) : mf_G := (g.1 + 1, p, g.2.2.1 + n, g.2.2.2.1 + p.toInt64 * n.toInt64, fun j c => if j = g.1 % 32 then (if c = 0 then i else if c = 1 then k else if c = 2 then p else n) else g.2.2.2.2 j c)
-- induction from the end
theorem mf_snoc {α : Type} {P : List α → Prop} (h0 : P []) (hs : ∀ l x, P l → P (l ++ [x])) : ∀ l, P l := by
  intro l
  have h : ∀ r : List α, P r.reverse := by
    intro r
    induction r with
    | nil => exact h0
    | cons x r ih => rw [List.reverse_cons]; exact hs _ _ ih
  have h2 := h l.reverse
  rwa [List.reverse_reverse] at h2
def mf_cmp {α : Type} (lt : α → α → Bool) (x : α) : Option (Nat × α) → Bool
  | none => true
  | some y => lt x y.2
/-- the pick of a scan: the first best of those that are ok -/
def mf_ps {α : Type} (ok : α → Bool) (lt : α → α → Bool) (st : Nat × Option (Nat × α)) (x : α) : Nat × Option (Nat × α) :=
  (st.1 + 1, if ok x && mf_cmp lt x st.2 then some (st.1, x) else st.2)
def mf_pick {α : Type} (ok : α → Bool) (lt : α → α → Bool) (l : List α) : Option (Nat × α) := (l.foldl (mf_ps ok lt) (0, none)).2
theorem mf_ps_len {α : Type} (ok : α → Bool) (lt : α → α → Bool) : ∀ l : List α, (l.foldl (mf_ps ok lt) (0, none)).1 = l.length := by
  refine mf_snoc rfl ?_
  intro l x h
  rw [List.foldl_append, List.length_append]
  show (l.foldl (mf_ps ok lt) (0, none)).1 + 1 = _
  rw [h]; rfl
theorem mf_pick_nil {α : Type} (ok : α → Bool) (lt : α → α → Bool) : mf_pick ok lt [] = none := rfl
theorem mf_pick_snoc {α : Type} (ok : α → Bool) (lt : α → α → Bool) (l : List α) (x : α) : mf_pick ok lt (l ++ [x]) = if ok x && mf_cmp lt x (mf_pick ok lt l) then some (l.length, x) else mf_pick ok lt l := by
  unfold mf_pick
  rw [List.foldl_append]
  rw [← mf_ps_len ok lt l]
  rfl
theorem mf_pick_spec {α : Type} {ok : α → Bool} {lt : α → α → Bool} (htr : ∀ a b c, ok a = true → ok b = true → ok c = true → lt a b = true → lt b c = true → lt a c = true) (hnt : ∀ a b c, ok a = true → ok b = true → ok c = true → lt a b = false → lt b c = false → lt a c = false) (hir : ∀ a, ok a = true → lt a a = false) : ∀ l : List α,
    (mf_pick ok lt l = none → ∀ x ∈ l, ok x = false) ∧ ∀ j y, mf_pick ok lt l = some (j, y) → l[j]? = some y ∧ ok y = true ∧ (∀ x ∈ l, ok x = true → lt x y = false) ∧ ∀ i x, i < j → l[i]? = some x → ok x = true → lt y x = true := by
  refine mf_snoc ⟨fun _ x h => (List.not_mem_nil h).elim, fun j y h => by simp [mf_pick_nil] at h⟩ ?_
  intro l x ⟨h1, h2⟩
  rw [mf_pick_snoc]
  cases hx : ok x with
  | false =>
    simp only [Bool.false_and, Bool.false_eq_true, if_false]
    refine ⟨fun h z hz => ?_, fun j y h => ?_⟩
    · rcases List.mem_append.mp hz with hz | hz
      · exact h1 h z hz
      · rw [List.mem_singleton.mp hz]; exact hx
    · obtain ⟨a1, a2, a3, a4⟩ := h2 j y h
      have hj : j < l.length := (List.getElem?_eq_some_iff.mp a1).1
      refine ⟨by rw [List.getElem?_append_left hj]; exact a1, a2, fun z hz ho => ?_, fun i z hi hz ho => ?_⟩
      · rcases List.mem_append.mp hz with hz | hz
        · exact a3 z hz ho
        · rw [List.mem_singleton.mp hz] at ho; rw [hx] at ho; cases ho
      · rw [List.getElem?_append_left (by omega)] at hz
        exact a4 i z hi hz ho
  | true =>
    simp only [Bool.true_and]
    cases hp : mf_pick ok lt l with
    | none =>
      simp only [mf_cmp, if_true]
      have h0 := h1 hp
      refine ⟨fun h => (by cases h), fun j y h => ?_⟩
      cases h
      refine ⟨by rw [List.getElem?_append_right (Nat.le_refl _)]; simp, hx, fun z hz ho => ?_, fun i z hi hz ho => ?_⟩
      · rcases List.mem_append.mp hz with hz | hz
        · rw [h0 z hz] at ho; cases ho
        · rw [List.mem_singleton.mp hz]; exact hir _ hx
      · rw [List.getElem?_append_left hi] at hz
        rw [h0 z (List.mem_of_getElem? hz)] at ho; cases ho
    | some jy =>
      obtain ⟨j0, y0⟩ := jy
      obtain ⟨a1, a2, a3, a4⟩ := h2 j0 y0 hp
      have hj0 : j0 < l.length := (List.getElem?_eq_some_iff.mp a1).1
      cases hl : lt x y0 with
      | true =>
        simp only [mf_cmp, hl, if_true]
        refine ⟨fun h => (by cases h), fun j y h => ?_⟩
        cases h
        refine ⟨by rw [List.getElem?_append_right (Nat.le_refl _)]; simp, hx, fun z hz ho => ?_, fun i z hi hz ho => ?_⟩
        · rcases List.mem_append.mp hz with hz | hz
          · cases hzx : lt z x with
            | false => rfl
            | true =>
              have := htr z x y0 ho hx a2 hzx hl
              rw [a3 z hz ho] at this; cases this
          · rw [List.mem_singleton.mp hz]; exact hir _ hx
        · rw [List.getElem?_append_left hi] at hz
          cases hxz : lt x z with
          | true => rfl
          | false =>
            have := hnt x z y0 hx ho a2 hxz (a3 z (List.mem_of_getElem? hz) ho)
            rw [hl] at this; cases this
      | false =>
        simp only [mf_cmp, hl, Bool.false_eq_true, if_false]
        refine ⟨fun h => (by cases h), fun j y h => ?_⟩
        cases h
        refine ⟨by rw [List.getElem?_append_left hj0]; exact a1, a2, fun z hz ho => ?_, fun i z hi hz ho => ?_⟩
        · rcases List.mem_append.mp hz with hz | hz
          · exact a3 z hz ho
          · rw [List.mem_singleton.mp hz]; exact hl
        · rw [List.getElem?_append_left (by omega)] at hz
          exact a4 i z hi hz ho
-- orders of prices
theorem mf_better_tr {s a b c : Int32} (h1 : mf_better s a b = true) (h2 : mf_better s b c = true) : mf_better s a c = true := by
  unfold mf_better at *
  split at h1 <;> simp_all [Int32.lt_iff_toInt_lt] <;> omega
theorem mf_better_nt {s a b c : Int32} (h1 : mf_better s a b = false) (h2 : mf_better s b c = false) : mf_better s a c = false := by
  unfold mf_better at *
  split at h1 <;> simp_all [Int32.le_iff_toInt_le] <;> omega
theorem mf_better_ir {s a : Int32} : mf_better s a a = false := by
  unfold mf_better; split <;> simp
theorem mf_better_eq {s a b : Int32} (h1 : mf_better s a b = false) (h2 : mf_better s b a = false) : a = b := by
  unfold mf_better at *
  split at h1 <;> simp_all [Int32.le_iff_toInt_le] <;> exact Int32.toInt_inj.mp (by omega)
theorem mf_better_as {s a b : Int32} (h1 : mf_better s a b = true) : mf_better s b a = false := by
  unfold mf_better at *
  split at h1 <;> simp_all [Int32.lt_iff_toInt_lt, Int32.le_iff_toInt_le] <;> omega
end
section
/-! what the class does, and what the reference does, as functions of values -/
abbrev mf_T : Type := mf_O × Int32
def mf_lt (s : Int32) (a b : mf_O) : Bool := mf_better s (mf_pr a) (mf_pr b)
def mf_first (s : Int32) (L : List mf_O) : Option (Nat × mf_O) := mf_pick (fun r => mf_rests r s) (mf_lt s) L
def rf_before (a b : mf_T) : Bool := if mf_pr a.1 = mf_pr b.1 then decide (a.2 < b.2) else if mf_sd a.1 = 0 then decide (mf_pr b.1 < mf_pr a.1) else decide (mf_pr a.1 < mf_pr b.1)
def rf_first (s : Int32) (R : List mf_T) : Option (Nat × mf_T) := mf_pick (fun x => mf_rests x.1 s) rf_before R
def mf_place (i : Int32) (L : List mf_O) : Option (Nat × mf_O) := mf_pick (fun r => decide (mf_id r = i)) (fun _ _ => false) L
def rf_find (i : Int32) (R : List mf_T) : Option (Nat × mf_T) := mf_pick (fun x => decide (mf_id x.1 = i)) (fun _ _ => true) R
def mf_dueAt (t : Int32) (L : List mf_O) : Option (Nat × mf_O) := mf_pick (fun r => mf_due r t) (fun _ _ => false) L
def rf_isDue (t : Int32) (r : mf_O) : Bool := !decide (mf_wt r = 0) && (decide (0 < t) && (if mf_sd r = 0 then decide (mf_pr r ≤ t) else decide (t ≤ mf_pr r)))
def rf_dueAt (t : Int32) (R : List mf_T) : Option (Nat × mf_T) := mf_pick (fun x => rf_isDue t x.1) (fun a b => decide (a.2 < b.2)) R
def rf_drop {α : Type} (R : List α) (k : Nat) : List α := match R.getLast? with
  | none => []
  | some z => (R.set k z).dropLast
def mf_sum {α : Type} (f : α → Int32) (l : List α) : Int32 := l.foldl (fun a x => a + f x) 0
-- prices, levels
def mf_behind (s b : Int32) (r : mf_O) : Bool := mf_rests r s && (decide (b = 0) || mf_better s b (mf_pr r))
def mf_prOf {α : Type} (f : α → mf_O) : Option (Nat × α) → Int32
  | none => 0
  | some x => mf_pr (f x.2)
def mf_next (s b : Int32) (L : List mf_O) : Int32 := mf_prOf (fun r => r) (mf_pick (mf_behind s b) (mf_lt s) L)
def rf_next (s b : Int32) (R : List mf_T) : Int32 := mf_prOf (fun x : mf_T => x.1) (mf_pick (fun x : mf_T => mf_behind s b x.1) (fun x y => mf_lt s x.1 y.1) R)
def mf_lv (nx : Int32 → Int32) : Nat → Int32 → Nat → Nat
  | 0, _, c => c
  | k + 1, p, c => if p = 0 then c else mf_lv nx k (nx p) (c + 1)
def mf_it (nx : Int32 → Int32) : Nat → Int32
  | 0 => nx 0
  | k + 1 => nx (mf_it nx k)
def mf_at (s p : Int32) (r : mf_O) : Bool := mf_rests r s && decide (mf_pr r = p)
-- matching
abbrev mf_M : Type := List mf_O × Int32 × mf_G
abbrev rf_M : Type := List mf_T × Int32 × mf_G
def mf_meet (c : mf_O) (j : Nat) (r : mf_O) (st : mf_M) : mf_O × mf_M :=
  if mf_ow r = mf_ow c then (c, st.1.eraseIdx j, st.2.1 + 1, st.2.2)
  else (mf_setLf c (mf_lf c - mf_min (mf_lf c) (mf_lf r)), if mf_lf r - mf_min (mf_lf c) (mf_lf r) = 0 then st.1.eraseIdx j else st.1.set j (mf_setLf r (mf_lf r - mf_min (mf_lf c) (mf_lf r))), st.2.1, mf_write st.2.2 (mf_id c) (mf_id r) (mf_pr r) (mf_min (mf_lf c) (mf_lf r)))
def mf_match : Nat → Int32 → mf_O → mf_M → mf_O × mf_M
  | 0, _, c, st => (c, st)
  | k + 1, p, c, st => if 0 < mf_lf c then (match mf_first (mf_other (mf_sd c)) st.1 with
      | none => (c, st)
      | some x => if mf_fit x.2 p then mf_match k p (mf_meet c x.1 x.2 st).1 (mf_meet c x.1 x.2 st).2 else (c, st)) else (c, st)
def rf_fits (s p : Int32) (r : mf_O) : Bool := decide (p = 0) || (if s = 0 then decide (mf_pr r ≤ p) else decide (p ≤ mf_pr r))
def rf_min (a b : Int32) : Int32 := if a < b then a else b
def rf_meet (i o q : Int32) (k : Nat) (x : mf_T) (st : rf_M) : Int32 × rf_M :=
  if mf_ow x.1 = o then (q, rf_drop st.1 k, st.2.1 + 1, st.2.2)
  else (q - rf_min q (mf_lf x.1), if mf_lf x.1 - rf_min q (mf_lf x.1) = 0 then rf_drop st.1 k else st.1.set k (mf_setLf x.1 (mf_lf x.1 - rf_min q (mf_lf x.1)), x.2), st.2.1, mf_write st.2.2 i (mf_id x.1) (mf_pr x.1) (rf_min q (mf_lf x.1)))
def rf_match (i o s p : Int32) : Nat → Int32 → rf_M → Int32 × rf_M
  | 0, q, st => (q, st)
  | k + 1, q, st => if 0 < q then (match rf_first (1 - s) st.1 with
      | none => (q, st)
      | some x => if rf_fits s p x.2.1 then rf_match i o s p k (rf_meet i o q x.1 x.2 st).1 (rf_meet i o q x.1 x.2 st).2 else (q, st)) else (q, st)
/-- a state: the orders, the due stops, those that met their owner, the fills -/
abbrev mf_S : Type := List mf_O × Int32 × Int32 × mf_G
/-- the reference's: the orders with their times, the clock, the stops, the met, the fills -/
abbrev rf_S : Type := List mf_T × Int32 × Int32 × Int32 × mf_G
def mf_stops : Nat → mf_S → mf_S
  | 0, st => st
  | k + 1, st => match mf_dueAt st.2.2.2.2.1 st.1 with
      | none => st
      | some x => mf_stops k ((mf_match 41 0 x.2 (st.1.eraseIdx x.1, st.2.2)).2.1, st.2.1 + 1, (mf_match 41 0 x.2 (st.1.eraseIdx x.1, st.2.2)).2.2)
def rf_stops : Nat → rf_S → rf_S
  | 0, st => st
  | k + 1, st => match rf_dueAt st.2.2.2.2.2.1 st.1 with
      | none => st
      | some x => rf_stops k ((rf_match (mf_id x.2.1) (mf_ow x.2.1) (mf_sd x.2.1) 0 41 (mf_lf x.2.1) (rf_drop st.1 x.1, st.2.2.2)).2.1, st.2.1, st.2.2.1 + 1, (rf_match (mf_id x.2.1) (mf_ow x.2.1) (mf_sd x.2.1) 0 41 (mf_lf x.2.1) (rf_drop st.1 x.1, st.2.2.2)).2.2)
-- coming in
def mf_comeIn (c : mf_O) (kind : Int32) (st : mf_S) : Int32 × mf_S :=
  let q := if kind = 4 ∨ kind = 5 then (c, st.1, st.2.2) else mf_match 41 (if kind = 1 then 0 else mf_pr c) c (st.1, st.2.2)
  (mf_lf c - mf_lf q.1, mf_stops 40 (if (kind = 0 ∨ kind = 4 ∨ kind = 5) ∧ 0 < mf_lf q.1 then q.2.1 ++ [q.1] else q.2.1, st.2.1, q.2.2))
def mf_kind (h : Int32) : Int32 := (h >>> 1) &&& 7
def mf_refused (c : mf_O) (kind : Int32) (L : List mf_O) : Bool :=
  if kind = 3 then decide (mf_sum (fun r => if mf_rests r (mf_other (mf_sd c)) && (mf_fit r (mf_pr c) && !decide (mf_ow r = mf_ow c)) then mf_lf r else 0) L < mf_lf c)
  else if kind = 4 then (match mf_first (mf_other (mf_sd c)) L with | none => false | some x => mf_fit x.2 (mf_pr c))
  else false
def mf_prOk (p : Int32) : Bool := decide (1 ≤ p) && decide (p ≤ 10000)
def mf_qtOk (p : Int32) : Bool := decide (1 ≤ p) && decide (p ≤ 1000000)
def mf_howOk (h : Int32) : Bool := decide (0 ≤ h) && (decide (h ≤ 127) && decide (mf_kind h ≤ 5))
def mf_order (i h p q : Int32) : mf_O := (i, h >>> 4, h &&& 1, mf_bI (decide (mf_kind h = 5)), p, q)
/-- an answer: 0 and the number, or the number of the fault -/
abbrev mf_A : Type := Nat × Int32
def mf_submit (i h p q : Int32) (st : mf_S) : mf_A × mf_S :=
  if mf_howOk h && (mf_prOk p && mf_qtOk q) then
    (if (mf_place i st.1).isSome || (decide (40 ≤ st.1.length) || mf_refused (mf_order i h p q) (mf_kind h) st.1) then ((2, 0), st)
     else ((0, (mf_comeIn (mf_order i h p q) (mf_kind h) st).1), (mf_comeIn (mf_order i h p q) (mf_kind h) st).2))
  else ((1, 0), st)
def mf_cancel (i : Int32) (st : mf_S) : mf_A × mf_S := match mf_place i st.1 with
  | none => ((1, 0), st)
  | some x => ((0, mf_lf x.2), st.1.eraseIdx x.1, st.2)
def mf_amend (i p q : Int32) (st : mf_S) : mf_A × mf_S :=
  if mf_prOk p && mf_qtOk q then (match mf_place i st.1 with
    | none => ((2, 0), st)
    | some x => if mf_wt x.2 = 0 ∧ p = mf_pr x.2 ∧ q ≤ mf_lf x.2 then ((0, 0), st.1.set x.1 (mf_setLf x.2 q), st.2)
      else ((0, (mf_comeIn (mf_setPL x.2 p q) (if mf_wt x.2 = 0 then 0 else 5) (st.1.eraseIdx x.1, st.2)).1), (mf_comeIn (mf_setPL x.2 p q) (if mf_wt x.2 = 0 then 0 else 5) (st.1.eraseIdx x.1, st.2)).2))
  else ((1, 0), st)
def mf_wd (o : Int32) : Nat → List mf_O → List mf_O
  | 0, L => L
  | k + 1, L => mf_wd o k (match L[k]? with | none => L | some r => if mf_ow r = o then L.eraseIdx k else L)
def mf_withdraw (o : Int32) (st : mf_S) : mf_A × mf_S :=
  if 0 ≤ o ∧ o ≤ 7 then ((0, nI st.1.length - nI (mf_wd o st.1.length st.1).length), mf_wd o st.1.length st.1, st.2) else ((1, 0), st)
def mf_levels (s : Int32) (st : mf_S) : mf_A :=
  if s = 0 ∨ s = 1 then (0, nI (mf_lv (fun b => mf_next s b st.1) 40 (mf_next s 0 st.1) 0)) else (1, 0)
def mf_level (s k w : Int32) (st : mf_S) : mf_A :=
  if (s = 0 ∨ s = 1) ∧ 0 ≤ w ∧ w ≤ 2 then
    (if 0 ≤ k ∧ k < nI (mf_lv (fun b => mf_next s b st.1) 40 (mf_next s 0 st.1) 0) then
      (0, if w = 0 then mf_it (fun b => mf_next s b st.1) k.toNatClampNeg else
          if w = 1 then mf_sum (fun r => if mf_at s (mf_it (fun b => mf_next s b st.1) k.toNatClampNeg) r then mf_lf r else 0) st.1
          else mf_sum (fun r => if mf_at s (mf_it (fun b => mf_next s b st.1) k.toNatClampNeg) r then 1 else 0) st.1)
     else (2, 0))
  else (1, 0)
def mf_ordr (i w : Int32) (st : mf_S) : mf_A := match mf_place i st.1 with
  | none => (1, 0)
  | some x => if 0 ≤ w ∧ w ≤ 3 then
      (0, if w = 0 then 16 * mf_ow x.2 + (if mf_wt x.2 = 0 then 0 else 2) + mf_sd x.2 else if w = 1 then mf_pr x.2 else if w = 2 then mf_lf x.2
          else mf_sum (fun r => if mf_queues r x.2 then 1 else 0) (st.1.take x.1))
    else (2, 0)
def mf_fill (k w : Int32) (g : mf_G) : mf_A :=
  if 0 ≤ w ∧ w ≤ 3 then (if 0 ≤ k ∧ k ≤ 31 ∧ k < nI g.1 then (0, g.2.2.2.2 ((g.1 - 1 - k.toNatClampNeg) % 32) w.toNatClampNeg) else (2, 0)) else (1, 0)
def mf_figure (k : Int32) (st : mf_S) : mf_A :=
  if k = 0 then (0, nI st.1.length) else if k = 1 then (0, mf_sum (fun r => if mf_wt r = 0 then 0 else 1) st.1) else if k = 2 then (0, st.2.1) else if k = 3 then (0, st.2.2.1) else if k = 4 then (0, st.2.2.2.2.2.1) else (1, 0)
-- the reference's
def rf_keep (c : mf_O) (st : List mf_T × Int32) : List mf_T × Int32 := (st.1 ++ [(c, st.2 + 1)], st.2 + 1)
def rf_within (o s p : Int32) (R : List mf_T) : Int32 := mf_sum (fun x : mf_T => if decide (mf_wt x.1 = 0) && (!decide (mf_sd x.1 = s) && (!decide (mf_ow x.1 = o) && rf_fits s p x.1)) then mf_lf x.1 else 0) R
def rf_refused (o s kind p q : Int32) (R : List mf_T) : Bool :=
  if kind = 3 then decide (rf_within o s p R < q)
  else decide (kind = 4) && (match rf_first (1 - s) R with | none => false | some x => rf_fits s p x.2.1)
def rf_submit (i h p q : Int32) (st : rf_S) : mf_A × rf_S :=
  if mf_howOk h && (mf_prOk p && mf_qtOk q) then
    (if (rf_find i st.1).isSome || (decide (st.1.length = 40) || rf_refused (h >>> 4) (h &&& 1) (mf_kind h) p q st.1) then ((2, 0), st)
     else
      let m := if mf_kind h < 4 then rf_match i (h >>> 4) (h &&& 1) (if mf_kind h = 1 then 0 else p) 41 q (st.1, st.2.2.2) else (q, st.1, st.2.2.2)
      let b := if 3 < mf_kind h ∨ (mf_kind h = 0 ∧ 0 < m.1) then rf_keep (i, h >>> 4, h &&& 1, mf_bI (decide (mf_kind h = 5)), p, m.1) (m.2.1, st.2.1) else (m.2.1, st.2.1)
      ((0, q - m.1), rf_stops 40 (b.1, b.2, st.2.2.1, m.2.2)))
  else ((1, 0), st)
def rf_cancel (i : Int32) (st : rf_S) : mf_A × rf_S := match rf_find i st.1 with
  | none => ((1, 0), st)
  | some x => ((0, mf_lf x.2.1), rf_drop st.1 x.1, st.2)
def rf_amend (i p q : Int32) (st : rf_S) : mf_A × rf_S :=
  if mf_prOk p && mf_qtOk q then (match rf_find i st.1 with
    | none => ((2, 0), st)
    | some x => if mf_wt x.2.1 = 0 ∧ mf_pr x.2.1 = p ∧ q ≤ mf_lf x.2.1 then ((0, 0), st.1.set x.1 (mf_setLf x.2.1 q, x.2.2), st.2)
      else
      let m := if mf_wt x.2.1 = 0 then rf_match i (mf_ow x.2.1) (mf_sd x.2.1) p 41 q (rf_drop st.1 x.1, st.2.2.2) else (q, rf_drop st.1 x.1, st.2.2.2)
      let b := if 0 < m.1 then rf_keep (i, mf_ow x.2.1, mf_sd x.2.1, mf_wt x.2.1, p, m.1) (m.2.1, st.2.1) else (m.2.1, st.2.1)
      ((0, q - m.1), rf_stops 40 (b.1, b.2, st.2.2.1, m.2.2)))
  else ((1, 0), st)
def rf_wd (o : Int32) : Nat → List mf_T → Int32 → List mf_T × Int32
  | 0, R, n => (R, n)
  | k + 1, R, n => match R[k]? with
      | none => rf_wd o k R n
      | some x => if mf_ow x.1 = o then rf_wd o k (rf_drop R k) (n + 1) else rf_wd o k R n
def rf_withdraw (o : Int32) (st : rf_S) : mf_A × rf_S :=
  if 0 ≤ o ∧ o ≤ 7 then ((0, (rf_wd o st.1.length st.1 0).2), (rf_wd o st.1.length st.1 0).1, st.2) else ((1, 0), st)
def rf_levels (s : Int32) (st : rf_S) : mf_A :=
  if s = 0 ∨ s = 1 then (0, nI (mf_lv (fun b => rf_next s b st.1) 40 (rf_next s 0 st.1) 0)) else (1, 0)
/-- the price of the level: 0 where there is none -/
def rf_walk (nx : Int32 → Int32) : Nat → Int32 → Int32
  | 0, p => p
  | k + 1, p => if 0 < p then rf_walk nx k (nx p) else p
def rf_level (s k w : Int32) (st : rf_S) : mf_A :=
  if (s = 0 ∨ s = 1) ∧ 0 ≤ w ∧ w ≤ 2 then
    (let p := if k < 0 then 0 else rf_walk (fun b => rf_next s b st.1) k.toNatClampNeg (rf_next s 0 st.1)
     if p = 0 then (2, 0) else
      (0, if w = 0 then p else if w = 1 then mf_sum (fun x : mf_T => if mf_at s p x.1 then mf_lf x.1 else 0) st.1 else mf_sum (fun x : mf_T => if mf_at s p x.1 then 1 else 0) st.1))
  else (1, 0)
def rf_same (k j : mf_O) : Bool := if mf_wt k = 0 then decide (mf_wt j = 0) && (decide (mf_sd j = mf_sd k) && decide (mf_pr j = mf_pr k)) else !decide (mf_wt j = 0)
def rf_ordr (i w : Int32) (st : rf_S) : mf_A := match rf_find i st.1 with
  | none => (1, 0)
  | some x => if 0 ≤ w ∧ w ≤ 3 then
      (0, if w = 0 then 16 * mf_ow x.2.1 + mf_sd x.2.1 + (if mf_wt x.2.1 = 0 then 0 else 2) else if w = 1 then mf_pr x.2.1 else if w = 2 then mf_lf x.2.1
          else mf_sum (fun y : mf_T => if rf_same x.2.1 y.1 && decide (y.2 < x.2.2) then 1 else 0) st.1)
    else (2, 0)
def rf_figure (k : Int32) (st : rf_S) : mf_A :=
  if k = 0 then (0, nI st.1.length) else if k = 1 then (0, mf_sum (fun x : mf_T => if mf_wt x.1 = 0 then 0 else 1) st.1) else if k = 2 then (0, st.2.2.1) else if k = 3 then (0, st.2.2.2.1) else if k = 4 then (0, st.2.2.2.2.2.2.1) else (1, 0)
end
section
/-! the class and the reference, value for value -/
theorem mf_pw {α : Type} {P : α → α → Prop} {l : List α} (h : l.Pairwise P) {i j : Nat} {a b : α} (hij : i < j) (hi : l[i]? = some a) (hj : l[j]? = some b) : P a b := by
  obtain ⟨h1, e1⟩ := List.getElem?_eq_some_iff.mp hi
  obtain ⟨h2, e2⟩ := List.getElem?_eq_some_iff.mp hj
  have := List.pairwise_iff_getElem.mp h i j h1 h2 hij
  rw [e1, e2] at this
  exact this
theorem mf_pick_in {α : Type} (ok : α → Bool) (lt : α → α → Bool) : ∀ l : List α, (mf_pick ok lt l = none → ∀ x ∈ l, ok x = false) ∧ ∀ j y, mf_pick ok lt l = some (j, y) → l[j]? = some y ∧ ok y = true := by
  refine mf_snoc ⟨fun _ x h => (List.not_mem_nil h).elim, fun j y h => by simp [mf_pick_nil] at h⟩ ?_
  intro l x ⟨h1, h2⟩
  rw [mf_pick_snoc]
  by_cases hc : (ok x && mf_cmp lt x (mf_pick ok lt l)) = true
  · rw [if_pos hc]
    refine ⟨fun h => (by cases h), fun j y h => ?_⟩
    cases h
    exact ⟨by rw [List.getElem?_append_right (Nat.le_refl _)]; simp, by cases hx : ok x <;> simp [hx] at hc ⊢⟩
  · rw [if_neg hc]
    refine ⟨fun h z hz => ?_, fun j y h => ?_⟩
    · rcases List.mem_append.mp hz with hz | hz
      · exact h1 h z hz
      · rw [List.mem_singleton.mp hz]
        rw [h] at hc
        cases hx : ok x with
        | false => rfl
        | true => simp [hx, mf_cmp] at hc
    · obtain ⟨a1, a2⟩ := h2 j y h
      exact ⟨by rw [List.getElem?_append_left (List.getElem?_eq_some_iff.mp a1).1]; exact a1, a2⟩
/-- an order that may be kept -/
def mf_ok (r : mf_O) : Prop := (mf_sd r = 0 ∨ mf_sd r = 1) ∧ 0 < mf_pr r
/-- the books stand for each other: Z has the class's orders, in their order, with the reference's times -/
def mf_Bk (Z : List mf_T) (L : List mf_O) (R : List mf_T) : Prop := L = Z.map (·.1) ∧ Z.Pairwise (fun a b => a.2 < b.2) ∧ R.Perm Z ∧ (∀ x ∈ Z, mf_ok x.1) ∧ Z.Pairwise (fun a b => mf_id a.1 ≠ mf_id b.1)
theorem mf_sim_gen {Z R : List mf_T} (hP : R.Perm Z) {ok : mf_O → Bool} {ltc : mf_O → mf_O → Bool} {ltr : mf_T → mf_T → Bool}
    (hu : ∀ j y t i x k, mf_pick ok ltc (Z.map (·.1)) = some (j, y) → Z[j]? = some (y, t) → mf_pick (fun x : mf_T => ok x.1) ltr R = some (k, x) → Z[i]? = some x → i = j) :
    (mf_pick ok ltc (Z.map (·.1)) = none ∧ mf_pick (fun x : mf_T => ok x.1) ltr R = none) ∨ ∃ j k y t, mf_pick ok ltc (Z.map (·.1)) = some (j, y) ∧ mf_pick (fun x : mf_T => ok x.1) ltr R = some (k, (y, t)) ∧ Z[j]? = some (y, t) ∧ R[k]? = some (y, t) := by
  obtain ⟨c1, c2⟩ := mf_pick_in ok ltc (Z.map (·.1))
  obtain ⟨r1, r2⟩ := mf_pick_in (fun x : mf_T => ok x.1) ltr R
  cases hc : mf_pick ok ltc (Z.map (·.1)) with
  | none =>
    refine Or.inl ⟨rfl, ?_⟩
    cases hr : mf_pick (fun x : mf_T => ok x.1) ltr R with
    | none => rfl
    | some kx =>
      obtain ⟨k, x⟩ := kx
      obtain ⟨a1, a2⟩ := r2 k x hr
      have hx : x ∈ Z := hP.mem_iff.mp (List.mem_of_getElem? a1)
      have := c1 hc x.1 (List.mem_map.mpr ⟨x, hx, rfl⟩)
      rw [this] at a2; cases a2
  | some jy =>
    obtain ⟨j, y⟩ := jy
    obtain ⟨a1, a2⟩ := c2 j y hc
    rw [List.getElem?_map] at a1
    obtain ⟨x0, b1, b2⟩ := Option.map_eq_some_iff.mp a1
    obtain ⟨y', t⟩ := x0
    cases b2
    have hm : (y', t) ∈ R := hP.mem_iff.mpr (List.mem_of_getElem? b1)
    cases hr : mf_pick (fun x : mf_T => ok x.1) ltr R with
    | none =>
      have h9 : ok y' = false := r1 hr (y', t) hm
      have a2' : ok y' = true := a2
      rw [h9] at a2'; cases a2'
    | some kx =>
      obtain ⟨k, x⟩ := kx
      obtain ⟨d1, d2⟩ := r2 k x hr
      obtain ⟨i, hi⟩ := List.getElem?_of_mem (hP.mem_iff.mp (List.mem_of_getElem? d1))
      have hij := hu j y' t i x k hc b1 hr hi
      subst hij
      cases hi.symm.trans b1
      exact Or.inr ⟨i, k, y', t, rfl, rfl, b1, d1⟩
theorem rf_before_tr {s : Int32} {a b c : mf_T} (ha : mf_sd a.1 = s) (hb : mf_sd b.1 = s) (h1 : rf_before a b = true) (h2 : rf_before b c = true) : rf_before a c = true := by
  unfold rf_before at *
  rw [ha] at *
  rw [hb] at h2
  by_cases hs : s = 0
  · simp only [hs, if_true] at *
    split at h1 <;> split at h2 <;> split <;> simp_all [Int32.lt_iff_toInt_lt] <;> omega
  · simp only [hs, if_false] at *
    split at h1 <;> split at h2 <;> split <;> simp_all [Int32.lt_iff_toInt_lt] <;> omega
theorem mf_ne_toInt {a b : Int32} : ¬ a = b ↔ a.toInt ≠ b.toInt := by
  rw [Ne, Int32.toInt_inj]
theorem rf_before_nt {s : Int32} {a b c : mf_T} (ha : mf_sd a.1 = s) (hb : mf_sd b.1 = s) (h1 : rf_before a b = false) (h2 : rf_before b c = false) : rf_before a c = false := by
  unfold rf_before at *
  rw [ha] at *
  rw [hb] at h2
  simp only [← Int32.toInt_inj] at *
  by_cases hs : s.toInt = (0 : Int32).toInt
  · simp only [hs, if_true] at *
    split at h1 <;> split at h2 <;> split <;> simp_all [Int32.le_iff_toInt_le] <;> omega
  · simp only [hs, if_false] at *
    split at h1 <;> split at h2 <;> split <;> simp_all [Int32.le_iff_toInt_le] <;> omega
theorem rf_before_ir {a : mf_T} : rf_before a a = false := by
  unfold rf_before; simp
theorem mf_rests_sd {r : mf_O} {s : Int32} (h : mf_rests r s = true) : mf_sd r = s := by
  unfold mf_rests at h
  simp at h
  exact h.2
theorem mf_sim_first {Z : List mf_T} {L : List mf_O} {R : List mf_T} (h : mf_Bk Z L R) (s : Int32) :
    (mf_first s L = none ∧ rf_first s R = none) ∨ ∃ j k y t, mf_first s L = some (j, y) ∧ rf_first s R = some (k, (y, t)) ∧ Z[j]? = some (y, t) ∧ R[k]? = some (y, t) := by
  obtain ⟨rfl, hso, hP, -, -⟩ := h
  refine mf_sim_gen hP (ok := fun r => mf_rests r s) (ltc := mf_lt s) (ltr := rf_before) ?_
  intro j y t i x k hc hj hr hi
  obtain ⟨c1, c2, c3, c4⟩ := (mf_pick_spec (ok := fun r => mf_rests r s) (lt := mf_lt s) (fun a b c _ _ _ h1 h2 => mf_better_tr h1 h2) (fun a b c _ _ _ h1 h2 => mf_better_nt h1 h2) (fun a _ => mf_better_ir) (Z.map (·.1))).2 j y hc
  obtain ⟨r1, r2, r3, r4⟩ := (mf_pick_spec (ok := fun x : mf_T => mf_rests x.1 s) (lt := rf_before) (fun a b c h1 h2 _ h3 h4 => rf_before_tr (mf_rests_sd h1) (mf_rests_sd h2) h3 h4) (fun a b c h1 h2 _ h3 h4 => rf_before_nt (mf_rests_sd h1) (mf_rests_sd h2) h3 h4) (fun a _ => rf_before_ir) R).2 k x hr
  have hm : (y, t) ∈ R := hP.mem_iff.mpr (List.mem_of_getElem? hj)
  have h1 : rf_before (y, t) x = false := r3 _ hm c2
  have h2 : mf_lt s x.1 y = false := c3 x.1 (List.mem_map.mpr ⟨x, List.mem_of_getElem? hi, rfl⟩) r2
  have hsx : mf_sd x.1 = s := mf_rests_sd r2
  have hsy : mf_sd y = s := mf_rests_sd c2
  have hpr : mf_pr x.1 = mf_pr y := by
    unfold rf_before at h1
    unfold mf_lt mf_better at h2
    rw [show mf_sd ((y, t) : mf_T).1 = s from hsy] at h1
    simp only [← Int32.toInt_inj] at *
    by_cases hs : s.toInt = (0 : Int32).toInt
    · simp only [hs, if_true] at *
      split at h1 <;> simp_all [Int32.le_iff_toInt_le] <;> omega
    · simp only [hs, if_false] at *
      split at h1 <;> simp_all [Int32.le_iff_toInt_le] <;> omega
  have ht : ¬ t < x.2 := by
    unfold rf_before at h1
    rw [if_pos hpr.symm] at h1
    simpa using h1
  rcases Nat.lt_trichotomy i j with hij | hij | hij
  · have h4 : mf_lt s y x.1 = true := c4 i x.1 hij (by rw [List.getElem?_map, hi]; rfl) r2
    unfold mf_lt at h4
    rw [hpr, mf_better_ir] at h4; cases h4
  · exact hij
  · exact absurd (mf_pw hso hij hj hi) ht
theorem mf_sim_find {Z : List mf_T} {L : List mf_O} {R : List mf_T} (h : mf_Bk Z L R) (a : Int32) :
    (mf_place a L = none ∧ rf_find a R = none) ∨ ∃ j k y t, mf_place a L = some (j, y) ∧ rf_find a R = some (k, (y, t)) ∧ Z[j]? = some (y, t) ∧ R[k]? = some (y, t) := by
  obtain ⟨rfl, hso, hP, -, hid⟩ := h
  refine mf_sim_gen hP (ok := fun r => decide (mf_id r = a)) (ltc := fun _ _ => false) (ltr := fun _ _ => true) ?_
  intro j y t i x k hc hj hr hi
  have h1 := (mf_pick_in _ _ _).2 j y hc
  have h2 := (mf_pick_in _ _ _).2 k x hr
  have e1 : mf_id y = a := by simpa using h1.2
  have e2 : mf_id x.1 = a := by simpa using h2.2
  rcases Nat.lt_trichotomy i j with hij | hij | hij
  · exact absurd (e2.trans e1.symm) (mf_pw hid hij hi hj)
  · exact hij
  · exact absurd (e1.trans e2.symm) (mf_pw hid hij hj hi)
theorem mf_due_eq {t : Int32} (ht : 0 ≤ t) : (fun r => mf_due r t) = rf_isDue t := by
  funext r
  unfold mf_due rf_isDue
  have : (!decide (t = 0)) = decide (0 < t) := by
    by_cases h : t = 0
    · simp [h]
    · have : 0 < t := Int32.lt_of_le_of_ne ht (Ne.symm h)
      simp [h, this]
  rw [this]
theorem mf_sim_due {Z : List mf_T} {L : List mf_O} {R : List mf_T} (h : mf_Bk Z L R) {a : Int32} (ha : 0 ≤ a) :
    (mf_dueAt a L = none ∧ rf_dueAt a R = none) ∨ ∃ j k y t, mf_dueAt a L = some (j, y) ∧ rf_dueAt a R = some (k, (y, t)) ∧ Z[j]? = some (y, t) ∧ R[k]? = some (y, t) := by
  obtain ⟨rfl, hso, hP, -, -⟩ := h
  unfold mf_dueAt
  rw [mf_due_eq ha]
  refine mf_sim_gen hP (ok := rf_isDue a) (ltc := fun _ _ => false) (ltr := fun a b => decide (a.2 < b.2)) ?_
  intro j y t i x k hc hj hr hi
  obtain ⟨c1, c2, c3, c4⟩ := (mf_pick_spec (ok := rf_isDue a) (lt := fun _ _ => false) (fun _ _ _ _ _ _ h _ => h) (fun _ _ _ _ _ _ h _ => h) (fun _ _ => rfl) (Z.map (·.1))).2 j y hc
  obtain ⟨r1, r2, r3, r4⟩ := (mf_pick_spec (ok := fun x : mf_T => rf_isDue a x.1) (lt := fun a b => decide (a.2 < b.2)) (fun a b c _ _ _ h1 h2 => by simp only [decide_eq_true_eq] at *; exact Int32.lt_trans h1 h2) (fun a b c _ _ _ h1 h2 => by simp only [decide_eq_false_iff_not, Int32.not_lt] at *; exact Int32.le_trans h2 h1) (fun a _ => by simp) R).2 k x hr
  have hm : (y, t) ∈ R := hP.mem_iff.mpr (List.mem_of_getElem? hj)
  have h1 : ¬ t < x.2 := by simpa using r3 _ hm c2
  rcases Nat.lt_trichotomy i j with hij | hij | hij
  · exact absurd (c4 i x.1 hij (by rw [List.getElem?_map, hi]; rfl) r2) (by simp)
  · exact hij
  · exact absurd (mf_pw hso hij hj hi) h1
-- changes of the books
theorem mf_perm_erase {α : Type} {l : List α} {k : Nat} {x : α} (h : l[k]? = some x) : l.Perm (x :: l.eraseIdx k) := by
  obtain ⟨h1, h2⟩ := List.getElem?_eq_some_iff.mp h
  rw [List.eraseIdx_eq_take_drop_succ]
  have e : l = l.take k ++ x :: l.drop (k + 1) := by
    rw [← h2, List.getElem_cons_drop]
    exact (List.take_append_drop k l).symm
  exact (List.Perm.of_eq e).trans List.perm_middle
theorem mf_perm_set {α : Type} {l : List α} {k : Nat} {x y : α} (h : l[k]? = some x) : (l.set k y).Perm (y :: l.eraseIdx k) := by
  have hk := (List.getElem?_eq_some_iff.mp h).1
  have := mf_perm_erase (l := l.set k y) (k := k) (x := y) (by rw [List.getElem?_set_self hk])
  rwa [List.eraseIdx_set_eq] at this
theorem mf_perm_drop {α : Type} {l : List α} {k : Nat} {x : α} (h : l[k]? = some x) : l.Perm (x :: rf_drop l k) := by
  have hk := (List.getElem?_eq_some_iff.mp h).1
  have hne : l ≠ [] := fun e => by rw [e] at hk; exact absurd hk (Nat.not_lt_zero _)
  have hz := List.getLast?_eq_some_getLast hne
  unfold rf_drop
  rw [hz]
  show l.Perm (x :: (l.set k (l.getLast hne)).dropLast)
  have hsplit : l = l.dropLast ++ [l.getLast hne] := (List.dropLast_concat_getLast hne).symm
  generalize l.getLast hne = z at hsplit hz
  generalize l.dropLast = a at hsplit
  subst hsplit
  by_cases hka : k < a.length
  · rw [List.set_append_left _ _ hka, List.dropLast_concat]
    rw [List.getElem?_append_left hka] at h
    refine (List.perm_append_singleton z a).trans ?_
    refine ((mf_perm_erase h).cons z).trans ?_
    refine (List.Perm.swap x z _).trans ?_
    exact (mf_perm_set (y := z) h).symm.cons x
  · have hk2 : k = a.length := by
      rw [List.length_append] at hk
      simp at hk
      omega
    subst hk2
    rw [List.getElem?_append_right (Nat.le_refl _)] at h
    simp at h
    subst h
    rw [List.set_append_right _ _ (Nat.le_refl _)]
    simp
theorem mf_map_erase {α β : Type} (f : α → β) (l : List α) (k : Nat) : (l.map f).eraseIdx k = (l.eraseIdx k).map f := by
  rw [List.eraseIdx_eq_take_drop_succ, List.eraseIdx_eq_take_drop_succ, List.map_append, List.map_take, List.map_drop]
theorem mf_bk_erase {Z : List mf_T} {L : List mf_O} {R : List mf_T} {j k : Nat} {x : mf_T} (h : mf_Bk Z L R) (hj : Z[j]? = some x) (hk : R[k]? = some x) : mf_Bk (Z.eraseIdx j) (L.eraseIdx j) (rf_drop R k) := by
  obtain ⟨rfl, hso, hP, ho, hid⟩ := h
  refine ⟨mf_map_erase _ _ _, hso.sublist (List.eraseIdx_sublist _ _), ?_, fun y hy => ho y (List.eraseIdx_subset hy), hid.sublist (List.eraseIdx_sublist _ _)⟩
  exact List.Perm.cons_inv (((mf_perm_drop hk).symm.trans hP).trans (mf_perm_erase hj))
theorem mf_pw_key {α κ : Type} {P : κ → κ → Prop} (f : α → κ) {l : List α} (h : l.Pairwise (fun a b => P (f a) (f b))) {j : Nat} {x y : α} (hj : l[j]? = some x) (e : f y = f x) : (l.set j y).Pairwise (fun a b => P (f a) (f b)) := by
  have h1 : (l.map f).Pairwise P := List.pairwise_map.mpr h
  have h2 : (l.set j y).map f = l.map f := by
    rw [List.map_set, e]
    obtain ⟨a, b⟩ := List.getElem?_eq_some_iff.mp hj
    rw [← b, ← List.getElem_map f (h := by rw [List.length_map]; exact a)]
    exact List.set_getElem_self _
  rw [← h2] at h1
  exact List.pairwise_map.mp h1
theorem mf_bk_set {Z : List mf_T} {L : List mf_O} {R : List mf_T} {j k : Nat} {x : mf_T} {y : mf_O} (h : mf_Bk Z L R) (hj : Z[j]? = some x) (hk : R[k]? = some x) (hi : mf_id y = mf_id x.1) (hy : mf_ok y) : mf_Bk (Z.set j (y, x.2)) (L.set j y) (R.set k (y, x.2)) := by
  obtain ⟨rfl, hso, hP, ho, hid⟩ := h
  refine ⟨by rw [List.map_set], mf_pw_key (fun a : mf_T => a.2) (P := fun a b => a < b) hso hj rfl, ?_, fun z hz => ?_, mf_pw_key (fun a : mf_T => mf_id a.1) (P := fun a b => a ≠ b) hid hj hi⟩
  · have h1 : (R.eraseIdx k).Perm (Z.eraseIdx j) := List.Perm.cons_inv (((mf_perm_erase hk).symm.trans hP).trans (mf_perm_erase hj))
    exact ((mf_perm_set hk).trans (h1.cons _)).trans (mf_perm_set hj).symm
  · rcases List.mem_or_eq_of_mem_set hz with hz | hz
    · exact ho z hz
    · rw [hz]; exact hy
theorem mf_bk_push {Z : List mf_T} {L : List mf_O} {R : List mf_T} {c : mf_O} {t : Int32} (h : mf_Bk Z L R) (hc : mf_ok c) (hi : ∀ x ∈ Z, mf_id x.1 ≠ mf_id c) (ht : ∀ x ∈ Z, x.2 < t) : mf_Bk (Z ++ [(c, t)]) (L ++ [c]) (R ++ [(c, t)]) := by
  obtain ⟨rfl, hso, hP, ho, hid⟩ := h
  refine ⟨by rw [List.map_append]; rfl, ?_, hP.append_right _, fun z hz => ?_, ?_⟩
  · refine List.pairwise_append.mpr ⟨hso, List.pairwise_singleton _ _, fun a ha b hb => ?_⟩
    rw [List.mem_singleton.mp hb]; exact ht a ha
  · rcases List.mem_append.mp hz with hz | hz
    · exact ho z hz
    · rw [List.mem_singleton.mp hz]; exact hc
  · refine List.pairwise_append.mpr ⟨hid, List.pairwise_singleton _ _, fun a ha b hb => ?_⟩
    rw [List.mem_singleton.mp hb]; exact hi a ha
end
section
/-! matching and stops, value for value -/
def mf_Sub (Z' Z : List mf_T) : Prop := Z'.length ≤ Z.length ∧ ∀ x ∈ Z', ∃ y ∈ Z, mf_id x.1 = mf_id y.1 ∧ x.2 = y.2
theorem mf_Sub.rf {Z : List mf_T} : mf_Sub Z Z := ⟨Nat.le_refl _, fun x h => ⟨x, h, rfl, rfl⟩⟩
theorem mf_Sub.tr {A B C : List mf_T} (h1 : mf_Sub A B) (h2 : mf_Sub B C) : mf_Sub A C := ⟨Nat.le_trans h1.1 h2.1, fun x h => by
  obtain ⟨y, a, b, c⟩ := h1.2 x h
  obtain ⟨z, d, e, f⟩ := h2.2 y a
  exact ⟨z, d, b.trans e, c.trans f⟩⟩
theorem mf_Sub.erase {Z : List mf_T} {j : Nat} : mf_Sub (Z.eraseIdx j) Z := ⟨(List.eraseIdx_sublist Z j).length_le, fun x h => ⟨x, List.eraseIdx_subset h, rfl, rfl⟩⟩
theorem mf_Sub.set {Z : List mf_T} {j : Nat} {x : mf_T} {y : mf_O} (hj : Z[j]? = some x) (hi : mf_id y = mf_id x.1) : mf_Sub (Z.set j (y, x.2)) Z := ⟨by rw [List.length_set]; exact Nat.le_refl _, fun z h => by
  rcases List.mem_or_eq_of_mem_set h with h | h
  · exact ⟨z, h, rfl, rfl⟩
  · rw [h]; exact ⟨x, List.mem_of_getElem? hj, hi, rfl⟩⟩
theorem mf_other_1 {s : Int32} (h : s = 0 ∨ s = 1) : 1 - s = mf_other s := by
  rcases h with rfl | rfl <;> decide
theorem mf_other_in {s : Int32} : mf_other s = 0 ∨ mf_other s = 1 := by
  unfold mf_other; split <;> simp
theorem mf_other_2 {s : Int32} (h : s = 0 ∨ s = 1) : mf_other (mf_other s) = s := by
  rcases h with rfl | rfl <;> decide
theorem mf_fit_eq {s p : Int32} {r : mf_O} (hs : s = 0 ∨ s = 1) (hr : mf_sd r = mf_other s) : mf_fit r p = rf_fits s p r := by
  unfold mf_fit rf_fits
  rw [hr, mf_other_2 hs]
  have h1 : ∀ a b : Int32, (decide (a = b) || decide (b < a)) = decide (b ≤ a) := by
    intro a b
    rw [Bool.eq_iff_iff]
    simp only [Bool.or_eq_true, decide_eq_true_eq, ← Int32.toInt_inj, Int32.lt_iff_toInt_lt, Int32.le_iff_toInt_le]
    omega
  have h2 : ∀ a b : Int32, (decide (a = b) || decide (a < b)) = decide (a ≤ b) := by
    intro a b
    rw [Bool.eq_iff_iff]
    simp only [Bool.or_eq_true, decide_eq_true_eq, ← Int32.toInt_inj, Int32.lt_iff_toInt_lt, Int32.le_iff_toInt_le]
    omega
  congr 1
  unfold mf_better
  by_cases h0 : s = 0
  · rw [if_pos h0, if_pos h0, h1]
  · rw [if_neg h0, if_neg h0, h2]
theorem mf_min_eq (a b : Int32) : mf_min a b = rf_min a b := by
  unfold mf_min rf_min
  by_cases h : a < b
  · rw [if_pos h, if_pos (Int32.le_iff_lt_or_eq.mpr (Or.inl h))]
  · rw [if_neg h]
    by_cases h2 : a ≤ b
    · rw [if_pos h2]; exact Int32.le_antisymm h2 (Int32.not_lt.mp h)
    · rw [if_neg h2]
theorem mf_le_of_lt {a b : Int32} (h : a < b) : a ≤ b := Int32.le_iff_lt_or_eq.mpr (Or.inl h)
theorem mf_sim_meet {Z : List mf_T} {L : List mf_O} {R : List mf_T} (h : mf_Bk Z L R) (c : mf_O) {j k : Nat} {y : mf_O} {t : Int32} (hj : Z[j]? = some (y, t)) (hk : R[k]? = some (y, t)) (met : Int32) (g : mf_G) :
    (mf_meet c j y (L, met, g)).1 = mf_setLf c (rf_meet (mf_id c) (mf_ow c) (mf_lf c) k (y, t) (R, met, g)).1 ∧ (mf_meet c j y (L, met, g)).2.2 = (rf_meet (mf_id c) (mf_ow c) (mf_lf c) k (y, t) (R, met, g)).2.2 ∧
    (0 ≤ g.2.1 → 0 ≤ (mf_meet c j y (L, met, g)).2.2.2.2.1) ∧ (mf_meet c j y (L, met, g)).2.2.2.1 ≤ g.1 + 1 ∧
    ∃ Z', mf_Bk Z' (mf_meet c j y (L, met, g)).2.1 (rf_meet (mf_id c) (mf_ow c) (mf_lf c) k (y, t) (R, met, g)).2.1 ∧ mf_Sub Z' Z := by
  have hy : mf_ok y := h.2.2.2.1 _ (List.mem_of_getElem? hj)
  unfold mf_meet rf_meet
  rw [mf_min_eq]
  by_cases ho : mf_ow y = mf_ow c
  · rw [if_pos ho, if_pos ho]
    exact ⟨rfl, rfl, fun h => h, Nat.le_succ _, Z.eraseIdx j, mf_bk_erase h hj hk, mf_Sub.erase⟩
  · rw [if_neg ho, if_neg ho]
    refine ⟨rfl, rfl, fun _ => mf_le_of_lt hy.2, Nat.le_refl _, ?_⟩
    by_cases hz : mf_lf y - rf_min (mf_lf c) (mf_lf y) = 0
    · simp only [hz, if_true]
      exact ⟨Z.eraseIdx j, mf_bk_erase h hj hk, mf_Sub.erase⟩
    · simp only [hz, if_false]
      exact ⟨Z.set j (mf_setLf y (mf_lf y - rf_min (mf_lf c) (mf_lf y)), t), mf_bk_set h hj hk rfl hy, mf_Sub.set hj rfl⟩
theorem mf_sim_match (p : Int32) : ∀ (f : Nat) (Z : List mf_T) (L : List mf_O) (R : List mf_T) (c : mf_O) (met : Int32) (g : mf_G), mf_Bk Z L R → (mf_sd c = 0 ∨ mf_sd c = 1) →
    (mf_match f p c (L, met, g)).1 = mf_setLf c (rf_match (mf_id c) (mf_ow c) (mf_sd c) p f (mf_lf c) (R, met, g)).1 ∧ (mf_match f p c (L, met, g)).2.2 = (rf_match (mf_id c) (mf_ow c) (mf_sd c) p f (mf_lf c) (R, met, g)).2.2 ∧
    (0 ≤ g.2.1 → 0 ≤ (mf_match f p c (L, met, g)).2.2.2.2.1) ∧ (mf_match f p c (L, met, g)).2.2.2.1 ≤ g.1 + f ∧
    ∃ Z', mf_Bk Z' (mf_match f p c (L, met, g)).2.1 (rf_match (mf_id c) (mf_ow c) (mf_sd c) p f (mf_lf c) (R, met, g)).2.1 ∧ mf_Sub Z' Z := by
  intro f
  induction f with
  | zero => intro Z L R c met g h hs; exact ⟨rfl, rfl, fun h => h, Nat.le_refl _, Z, h, mf_Sub.rf⟩
  | succ f ih =>
    intro Z L R c met g h hs
    unfold mf_match rf_match
    by_cases h0 : 0 < mf_lf c
    · rw [if_pos h0, if_pos h0, mf_other_1 hs]
      rcases mf_sim_first h (mf_other (mf_sd c)) with ⟨e1, e2⟩ | ⟨j, k, y, t, e1, e2, hj, hk⟩
      · simp only [e1, e2]
        exact ⟨by first | rfl | trivial, by first | rfl | trivial, fun h => h, Nat.le_add_right _ _, Z, h, mf_Sub.rf⟩
      · simp only [e1, e2]
        have hsy : mf_sd y = mf_other (mf_sd c) := mf_rests_sd ((mf_pick_in _ _ _).2 j y e1).2
        rw [mf_fit_eq hs hsy]
        by_cases hf : rf_fits (mf_sd c) p y = true
        · rw [if_pos hf, if_pos hf]
          obtain ⟨m1, m2, m3, m4, Z1, m5, m6⟩ := mf_sim_meet h c hj hk met g
          generalize mf_meet c j y (L, met, g) = a at m1 m2 m3 m4 m5 ⊢
          generalize rf_meet (mf_id c) (mf_ow c) (mf_lf c) k (y, t) (R, met, g) = b at m1 m2 m3 m4 m5 ⊢
          obtain ⟨a1, aL, am, ag⟩ := a
          obtain ⟨b1, bR, bm, bg⟩ := b
          simp only at m1 m2 m3 m4 m5 ⊢
          cases m2
          subst m1
          obtain ⟨i1, i2, i3, i4, Z2, i5, i6⟩ := ih Z1 aL bR (mf_setLf c b1) am ag m5 hs
          exact ⟨i1, i2, fun h => i3 (m3 h), by omega, Z2, i5, i6.tr m6⟩
        · rw [if_neg hf, if_neg hf]
          exact ⟨rfl, rfl, fun h => h, Nat.le_add_right _ _, Z, h, mf_Sub.rf⟩
    · rw [if_neg h0, if_neg h0]
      exact ⟨rfl, rfl, fun h => h, Nat.le_add_right _ _, Z, h, mf_Sub.rf⟩
theorem mf_sim_stops : ∀ (f : Nat) (Z : List mf_T) (L : List mf_O) (R : List mf_T) (clk due met : Int32) (g : mf_G), mf_Bk Z L R → 0 ≤ g.2.1 →
    (rf_stops f (R, clk, due, met, g)).2.1 = clk ∧ (mf_stops f (L, due, met, g)).2 = (rf_stops f (R, clk, due, met, g)).2.2 ∧ 0 ≤ (mf_stops f (L, due, met, g)).2.2.2.2.1 ∧ (mf_stops f (L, due, met, g)).2.2.2.1 ≤ g.1 + 41 * f ∧
    ∃ Z', mf_Bk Z' (mf_stops f (L, due, met, g)).1 (rf_stops f (R, clk, due, met, g)).1 ∧ mf_Sub Z' Z := by
  intro f
  induction f with
  | zero => intro Z L R clk due met g h hg; exact ⟨rfl, rfl, hg, Nat.le_refl _, Z, h, mf_Sub.rf⟩
  | succ f ih =>
    intro Z L R clk due met g h hg
    unfold mf_stops rf_stops
    rcases mf_sim_due h hg with ⟨e1, e2⟩ | ⟨j, k, y, t, e1, e2, hj, hk⟩
    · simp only [e1, e2]
      exact ⟨by first | rfl | trivial, by first | rfl | trivial, hg, Nat.le_add_right _ _, Z, h, mf_Sub.rf⟩
    · simp only [e1, e2]
      have hy : mf_ok y := h.2.2.2.1 _ (List.mem_of_getElem? hj)
      obtain ⟨m1, m2, m3, m4, Z1, m5, m6⟩ := mf_sim_match 0 41 (Z.eraseIdx j) (L.eraseIdx j) (rf_drop R k) y met g (mf_bk_erase h hj hk) hy.1
      generalize mf_match 41 0 y (L.eraseIdx j, met, g) = a at m1 m2 m3 m4 m5 ⊢
      generalize rf_match (mf_id y) (mf_ow y) (mf_sd y) 0 41 (mf_lf y) (rf_drop R k, met, g) = b at m1 m2 m3 m4 m5 ⊢
      obtain ⟨a1, aL, am, ag⟩ := a
      obtain ⟨b1, bR, bm, bg⟩ := b
      simp only at m1 m2 m3 m4 m5 ⊢
      cases m2
      obtain ⟨i1, i2, i3, i4, Z2, i5, i6⟩ := ih Z1 aL bR clk (due + 1) am ag m5 (m3 hg)
      exact ⟨i1, i2, i3, by omega, Z2, i5, (i6.tr m6).tr mf_Sub.erase⟩
theorem mf_sim_in {Z : List mf_T} {L : List mf_O} {R : List mf_T} (h : mf_Bk Z L R) (hl : Z.length ≤ 39) {c : mf_O} (hc : mf_ok c) (hid : ∀ x ∈ Z, mf_id x.1 ≠ mf_id c) {clk : Int32} (ht : ∀ x ∈ Z, x.2 ≤ clk) (hk : clk < clk + 1) (kind due met : Int32) {g : mf_G} (hg : 0 ≤ g.2.1)
    {m : Int32 × rf_M} (hm : m = if kind = 4 ∨ kind = 5 then (mf_lf c, R, met, g) else rf_match (mf_id c) (mf_ow c) (mf_sd c) (if kind = 1 then 0 else mf_pr c) 41 (mf_lf c) (R, met, g))
    {b : List mf_T × Int32} (hb : b = if (kind = 0 ∨ kind = 4 ∨ kind = 5) ∧ 0 < m.1 then rf_keep (mf_setLf c m.1) (m.2.1, clk) else (m.2.1, clk)) :
    (mf_comeIn c kind (L, due, met, g)).1 = mf_lf c - m.1 ∧ (mf_comeIn c kind (L, due, met, g)).2.2 = (rf_stops 40 (b.1, b.2, due, m.2.2)).2.2 ∧ 0 ≤ (mf_comeIn c kind (L, due, met, g)).2.2.2.2.2.1 ∧ (mf_comeIn c kind (L, due, met, g)).2.2.2.2.1 ≤ g.1 + 1681 ∧
    ((rf_stops 40 (b.1, b.2, due, m.2.2)).2.1 = clk ∨ (rf_stops 40 (b.1, b.2, due, m.2.2)).2.1 = clk + 1) ∧
    ∃ Z', mf_Bk Z' (mf_comeIn c kind (L, due, met, g)).2.1 (rf_stops 40 (b.1, b.2, due, m.2.2)).1 ∧ Z'.length ≤ 40 ∧ ∀ x ∈ Z', x.2 ≤ (rf_stops 40 (b.1, b.2, due, m.2.2)).2.1 := by
  have hA : ∃ a : mf_O × mf_M, a = (if kind = 4 ∨ kind = 5 then (c, L, met, g) else mf_match 41 (if kind = 1 then 0 else mf_pr c) c (L, met, g)) ∧ a.1 = mf_setLf c m.1 ∧ a.2.2 = m.2.2 ∧ 0 ≤ a.2.2.2.2.1 ∧ a.2.2.2.1 ≤ g.1 + 41 ∧ ∃ Z', mf_Bk Z' a.2.1 m.2.1 ∧ mf_Sub Z' Z := by
    by_cases hkd : kind = 4 ∨ kind = 5
    · rw [if_pos hkd] at hm
      rw [if_pos hkd]
      subst hm
      exact ⟨_, rfl, rfl, rfl, hg, Nat.le_add_right _ _, Z, h, mf_Sub.rf⟩
    · rw [if_neg hkd] at hm
      rw [if_neg hkd]
      obtain ⟨m1, m2, m3, m4, Z1, m5, m6⟩ := mf_sim_match (if kind = 1 then 0 else mf_pr c) 41 Z L R c met g h hc.1
      subst hm
      exact ⟨_, rfl, m1, m2, m3 hg, m4, Z1, m5, m6⟩
  obtain ⟨a, ea, a1, a2, a3, a4, Z1, hB1, hS1⟩ := hA
  unfold mf_comeIn
  simp only [← ea]
  obtain ⟨ac, aL, am, ag⟩ := a
  obtain ⟨mq, mR, mm, mg⟩ := m
  simp only at a1 a2 a3 a4 hB1 hb ⊢
  cases a2
  subst a1
  show mf_lf c - mq = mf_lf c - mq ∧ _
  refine ⟨rfl, ?_⟩
  have hbk : ∃ Z2, mf_Bk Z2 (if (kind = 0 ∨ kind = 4 ∨ kind = 5) ∧ 0 < mf_lf (mf_setLf c mq) then aL ++ [mf_setLf c mq] else aL) b.1 ∧ Z2.length ≤ 40 ∧ (∀ x ∈ Z2, x.2 ≤ b.2) ∧ (b.2 = clk ∨ b.2 = clk + 1) := by
    by_cases hc2 : (kind = 0 ∨ kind = 4 ∨ kind = 5) ∧ 0 < mq
    · rw [if_pos hc2] at hb
      rw [if_pos (show (kind = 0 ∨ kind = 4 ∨ kind = 5) ∧ 0 < mf_lf (mf_setLf c mq) from hc2)]
      subst hb
      refine ⟨Z1 ++ [(mf_setLf c mq, clk + 1)], mf_bk_push hB1 hc (fun x hx => ?_) (fun x hx => ?_), ?_, fun x hx => ?_, Or.inr rfl⟩
      · obtain ⟨y, hy, e1, e2⟩ := hS1.2 x hx
        rw [e1]; exact hid y hy
      · obtain ⟨y, hy, e1, e2⟩ := hS1.2 x hx
        rw [e2]; exact Int32.lt_of_le_of_lt (ht y hy) hk
      · rw [List.length_append]
        have := hS1.1
        simp
        omega
      · rcases List.mem_append.mp hx with hx | hx
        · obtain ⟨y, hy, e1, e2⟩ := hS1.2 x hx
          rw [e2]; exact mf_le_of_lt (Int32.lt_of_le_of_lt (ht y hy) hk)
        · rw [List.mem_singleton.mp hx]; exact Int32.le_refl _
    · rw [if_neg hc2] at hb
      rw [if_neg (show ¬ ((kind = 0 ∨ kind = 4 ∨ kind = 5) ∧ 0 < mf_lf (mf_setLf c mq)) from hc2)]
      subst hb
      refine ⟨Z1, hB1, by have := hS1.1; omega, fun x hx => ?_, Or.inl rfl⟩
      obtain ⟨y, hy, e1, e2⟩ := hS1.2 x hx
      rw [e2]; exact ht y hy
  obtain ⟨Z2, hB2, hl2, ht2, hb2⟩ := hbk
  generalize (if (kind = 0 ∨ kind = 4 ∨ kind = 5) ∧ 0 < mf_lf (mf_setLf c mq) then aL ++ [mf_setLf c mq] else aL) = L2 at hB2 ⊢
  obtain ⟨i1, i2, i3, i4, Z3, i5, i6⟩ := mf_sim_stops 40 Z2 L2 b.1 b.2 due am ag hB2 a3
  refine ⟨i2, i3, by omega, by rw [i1]; exact hb2, Z3, i5, by have := i6.1; omega, fun x hx => ?_⟩
  obtain ⟨y, hy, e1, e2⟩ := i6.2 x hx
  rw [e2, i1]; exact ht2 y hy
end
section
/-! the public calls, value for value -/
theorem mf_fold_add {α : Type} (f : α → Int32) : ∀ (l : List α) (a : Int32), l.foldl (fun a x => a + f x) a = a + mf_sum f l := by
  intro l
  induction l with
  | nil => intro a; simp [mf_sum]
  | cons x l ih =>
    intro a
    unfold mf_sum
    rw [List.foldl_cons, List.foldl_cons, ih, ih (0 + f x), Int32.zero_add, Int32.add_assoc]
theorem mf_sum_nil {α : Type} (f : α → Int32) : mf_sum f [] = 0 := rfl
theorem mf_sum_cons {α : Type} (f : α → Int32) (x : α) (l : List α) : mf_sum f (x :: l) = f x + mf_sum f l := by
  show (x :: l).foldl (fun a x => a + f x) 0 = _
  rw [List.foldl_cons, mf_fold_add, Int32.zero_add]
theorem mf_sum_append {α : Type} (f : α → Int32) (a b : List α) : mf_sum f (a ++ b) = mf_sum f a + mf_sum f b := by
  show (a ++ b).foldl (fun a x => a + f x) 0 = _
  rw [List.foldl_append, mf_fold_add]; rfl
theorem mf_sum_snoc {α : Type} (f : α → Int32) (l : List α) (x : α) : mf_sum f (l ++ [x]) = mf_sum f l + f x := by
  rw [mf_sum_append, mf_sum_cons, mf_sum_nil, Int32.add_zero]
theorem mf_sum_map {α β : Type} (f : β → Int32) (g : α → β) (l : List α) : mf_sum f (l.map g) = mf_sum (fun x => f (g x)) l := by
  induction l with
  | nil => rfl
  | cons x l ih => rw [List.map_cons, mf_sum_cons, mf_sum_cons, ih]
theorem mf_sum_perm {α : Type} (f : α → Int32) {a b : List α} (h : a.Perm b) : mf_sum f a = mf_sum f b := by
  induction h with
  | nil => rfl
  | cons x _ ih => rw [mf_sum_cons, mf_sum_cons, ih]
  | swap x y l => rw [mf_sum_cons, mf_sum_cons, mf_sum_cons, mf_sum_cons, ← Int32.add_assoc, ← Int32.add_assoc, Int32.add_comm (f x)]
  | trans _ _ h1 h2 => exact h1.trans h2
theorem mf_sum_congr {α : Type} {f g : α → Int32} {l : List α} (h : ∀ x ∈ l, f x = g x) : mf_sum f l = mf_sum g l := by
  induction l with
  | nil => rfl
  | cons x l ih => rw [mf_sum_cons, mf_sum_cons, h x List.mem_cons_self, ih (fun y hy => h y (List.mem_cons_of_mem _ hy))]
theorem mf_sum_zero {α : Type} {f : α → Int32} {l : List α} (h : ∀ x ∈ l, f x = 0) : mf_sum f l = 0 := by
  induction l with
  | nil => rfl
  | cons x l ih => rw [mf_sum_cons, h x List.mem_cons_self, ih (fun y hy => h y (List.mem_cons_of_mem _ hy)), Int32.add_zero]
/-- a sum over the class's orders is the sum over the reference's -/
theorem mf_sim_sum {Z : List mf_T} {L : List mf_O} {R : List mf_T} (h : mf_Bk Z L R) {f g : mf_O → Int32} (hf : ∀ x ∈ Z, f x.1 = g x.1) : mf_sum f L = mf_sum (fun x : mf_T => g x.1) R := by
  obtain ⟨rfl, -, hP, -, -⟩ := h
  rw [mf_sum_map, mf_sum_perm _ hP]
  exact mf_sum_congr hf
theorem mf_bk_len {Z : List mf_T} {L : List mf_O} {R : List mf_T} (h : mf_Bk Z L R) : L.length = Z.length ∧ R.length = Z.length := by
  obtain ⟨rfl, -, hP, -, -⟩ := h
  exact ⟨List.length_map _, hP.length_eq⟩
def mf_Sim (n : Nat) (st : mf_S) (rst : rf_S) : Prop := (∃ Z, mf_Bk Z st.1 rst.1 ∧ Z.length ≤ 40 ∧ ∀ x ∈ Z, x.2 ≤ rst.2.1) ∧ (∃ c, c ≤ n ∧ rst.2.1 = nI c) ∧ st.2 = rst.2.2 ∧ 0 ≤ st.2.2.2.2.1 ∧ st.2.2.2.1 ≤ 1681 * n
theorem mf_Sim.up {n : Nat} {st : mf_S} {rst : rf_S} (h : mf_Sim n st rst) : mf_Sim (n + 1) st rst := by
  obtain ⟨h1, ⟨c, h2, h3⟩, h4, h5, h6⟩ := h
  exact ⟨h1, ⟨c, by omega, h3⟩, h4, h5, by omega⟩
theorem mf_erase_ne {Z : List mf_T} {j : Nat} {x : mf_T} (h : Z.Pairwise (fun a b => mf_id a.1 ≠ mf_id b.1)) (hj : Z[j]? = some x) : ∀ z ∈ Z.eraseIdx j, mf_id z.1 ≠ mf_id x.1 := by
  have h1 := (List.Perm.pairwise_iff (R := fun a b : mf_T => mf_id a.1 ≠ mf_id b.1) (fun h => Ne.symm h) (mf_perm_erase hj)).mp h
  intro z hz
  exact Ne.symm ((List.pairwise_cons.mp h1).1 z hz)
theorem mf_erase_len {α : Type} {l : List α} {j : Nat} {x : α} (hj : l[j]? = some x) : (l.eraseIdx j).length + 1 = l.length := by
  have := (mf_perm_erase hj).length_eq
  rw [List.length_cons] at this
  omega
theorem mf_refused_eq {Z : List mf_T} {L : List mf_O} {R : List mf_T} (h : mf_Bk Z L R) {c : mf_O} (hs : mf_sd c = 0 ∨ mf_sd c = 1) (kind : Int32) : mf_refused c kind L = rf_refused (mf_ow c) (mf_sd c) kind (mf_pr c) (mf_lf c) R := by
  unfold mf_refused rf_refused
  by_cases h3 : kind = 3
  · rw [if_pos h3, if_pos h3]
    unfold rf_within
    rw [mf_sim_sum h (f := fun r => if mf_rests r (mf_other (mf_sd c)) && (mf_fit r (mf_pr c) && !decide (mf_ow r = mf_ow c)) then mf_lf r else 0) (g := fun r => if decide (mf_wt r = 0) && (!decide (mf_sd r = mf_sd c) && (!decide (mf_ow r = mf_ow c) && rf_fits (mf_sd c) (mf_pr c) r)) then mf_lf r else 0)]
    intro x hx
    obtain ⟨ho, -⟩ := h.2.2.2.1 x hx
    have hsd : mf_sd x.1 = mf_other (mf_sd c) ↔ ¬ mf_sd x.1 = mf_sd c := by
      unfold mf_other
      rcases ho with ho | ho <;> rcases hs with hs | hs <;> rw [ho, hs] <;> decide
    have hb : (mf_rests x.1 (mf_other (mf_sd c)) && (mf_fit x.1 (mf_pr c) && !decide (mf_ow x.1 = mf_ow c))) = (decide (mf_wt x.1 = 0) && (!decide (mf_sd x.1 = mf_sd c) && (!decide (mf_ow x.1 = mf_ow c) && rf_fits (mf_sd c) (mf_pr c) x.1))) := by
      unfold mf_rests
      by_cases e : mf_sd x.1 = mf_other (mf_sd c)
      · have e2 := hsd.mp e
        rw [mf_fit_eq hs e, decide_eq_true e, decide_eq_false e2]
        simp only [Bool.and_true, Bool.not_false, Bool.true_and]
        rw [Bool.and_comm (rf_fits _ _ _)]
      · have e2 : mf_sd x.1 = mf_sd c := Classical.byContradiction fun z => e (hsd.mpr z)
        rw [decide_eq_false e, decide_eq_true e2]
        simp only [Bool.and_false, Bool.not_true, Bool.false_and]
    show (if _ then _ else _) = (if _ then _ else _)
    rw [hb]
  · rw [if_neg h3, if_neg h3]
    by_cases h4 : kind = 4
    · rw [if_pos h4, mf_other_1 hs]
      simp only [h4, decide_true, Bool.true_and]
      rcases mf_sim_first h (mf_other (mf_sd c)) with ⟨e1, e2⟩ | ⟨j, k, y, t, e1, e2, hj, hk⟩
      · rw [e1, e2]
      · rw [e1, e2]
        exact mf_fit_eq hs (mf_rests_sd ((mf_pick_in _ _ _).2 j y e1).2)
    · rw [if_neg h4]
      simp [h4]
theorem mf_kind_in {h : Int32} (hk : mf_kind h ≤ 5) : mf_kind h = 0 ∨ mf_kind h = 1 ∨ mf_kind h = 2 ∨ mf_kind h = 3 ∨ mf_kind h = 4 ∨ mf_kind h = 5 := by
  obtain ⟨j, hj, e⟩ := pk_andE (h >>> 1) (m := 7) 3 (by decide)
  have e' : mf_kind h = nI j := e
  rw [e'] at hk ⊢
  match j, hj with
  | 0, _ => decide
  | 1, _ => decide
  | 2, _ => decide
  | 3, _ => decide
  | 4, _ => decide
  | 5, _ => decide
  | 6, _ => exact absurd hk (by decide)
  | 7, _ => exact absurd hk (by decide)
theorem mf_and1_in (h : Int32) : h &&& 1 = 0 ∨ h &&& 1 = 1 := by
  obtain ⟨j, hj, e⟩ := pk_andE h (m := 1) 1 (by decide)
  rw [e]
  match j, hj with
  | 0, _ => decide
  | 1, _ => decide
theorem mf_lt_succ {c n : Nat} (hn : n < 1000000) (hc : c ≤ n) : nI c < nI c + 1 := by
  rw [nI_1]; exact nI_lt (by omega) (by omega)
theorem mf_sim_fin {n : Nat} (hn : n < 1000000) {clk : Int32} {c : Nat} (hc : c ≤ n) (ec : clk = nI c) {x : Int32} (h : x = clk ∨ x = clk + 1) : ∃ c, c ≤ n + 1 ∧ x = nI c := by
  rcases h with h | h
  · exact ⟨c, by omega, h.trans ec⟩
  · exact ⟨c + 1, by omega, by rw [h, ec, nI_1]⟩
theorem mf_pos_of {q : Int32} (h : 1 ≤ q) : 0 < q := by
  rw [Int32.le_iff_toInt_le] at h
  rw [Int32.lt_iff_toInt_lt]
  have h1 : (1 : Int32).toInt = 1 := by decide
  have h0 : (0 : Int32).toInt = 0 := by decide
  omega
theorem mf_sim_submit {n : Nat} {st : mf_S} {rst : rf_S} (hn : n < 1000000) (h : mf_Sim n st rst) (i hw p q : Int32) : (mf_submit i hw p q st).1 = (rf_submit i hw p q rst).1 ∧ mf_Sim (n + 1) (mf_submit i hw p q st).2 (rf_submit i hw p q rst).2 := by
  have hup := h.up
  obtain ⟨L, due, met, g⟩ := st
  obtain ⟨R, clk, due', met', g'⟩ := rst
  obtain ⟨⟨Z, hB, hl, ht⟩, ⟨c, hc, ec⟩, h4, h5, h6⟩ := h
  simp only at hB ht ec h4 h5 h6
  cases h4
  unfold mf_submit rf_submit
  by_cases hgood : (mf_howOk hw && (mf_prOk p && mf_qtOk q)) = true
  · rw [if_pos hgood, if_pos hgood]
    simp only [Bool.and_eq_true, mf_howOk, mf_prOk, mf_qtOk, decide_eq_true_eq] at hgood
    obtain ⟨⟨-, -, hkd5⟩, ⟨hp1, -⟩, hq1, -⟩ := hgood
    obtain ⟨hL, hR⟩ := mf_bk_len hB
    have hs : mf_sd (mf_order i hw p q) = 0 ∨ mf_sd (mf_order i hw p q) = 1 := mf_and1_in hw
    have href : mf_refused (mf_order i hw p q) (mf_kind hw) L = rf_refused (hw >>> 4) (hw &&& 1) (mf_kind hw) p q R := mf_refused_eq hB hs (mf_kind hw)
    have hlen : decide (40 ≤ L.length) = decide (R.length = 40) := by
      rw [hL, hR]
      by_cases e : Z.length = 40
      · simp [e]
      · rw [decide_eq_false (by omega), decide_eq_false e]
    simp only [href, hlen]
    rcases mf_sim_find hB i with ⟨e1, e2⟩ | ⟨j, k, y, t, e1, e2, hj, hk⟩
    · simp only [e1, e2, Option.isSome_none, Bool.false_or]
      by_cases hrf : (decide (R.length = 40) || rf_refused (hw >>> 4) (hw &&& 1) (mf_kind hw) p q R) = true
      · rw [if_pos hrf, if_pos hrf]
        exact ⟨by first | rfl | trivial, hup⟩
      · rw [if_neg hrf, if_neg hrf]
        have hl39 : Z.length ≤ 39 := by
          have : ¬ R.length = 40 := fun e => hrf (by simp [e])
          omega
        have hid : ∀ x ∈ Z, mf_id x.1 ≠ mf_id (mf_order i hw p q) := by
          intro x hx hx2
          have := (mf_pick_in _ _ _).1 e1 x.1 (by rw [hB.1]; exact List.mem_map.mpr ⟨x, hx, rfl⟩)
          simp at this
          exact this hx2
        have hclk : clk < clk + 1 := by rw [ec]; exact mf_lt_succ hn hc
        have hm' : (if mf_kind hw < 4 then rf_match i (hw >>> 4) (hw &&& 1) (if mf_kind hw = 1 then 0 else p) 41 q (R, met, g) else (q, R, met, g)) = if mf_kind hw = 4 ∨ mf_kind hw = 5 then (mf_lf (mf_order i hw p q), R, met, g) else rf_match (mf_id (mf_order i hw p q)) (mf_ow (mf_order i hw p q)) (mf_sd (mf_order i hw p q)) (if mf_kind hw = 1 then 0 else mf_pr (mf_order i hw p q)) 41 (mf_lf (mf_order i hw p q)) (R, met, g) := by
          rcases mf_kind_in hkd5 with e | e | e | e | e | e <;> rw [e] <;> rfl
        generalize hm : (if mf_kind hw < 4 then rf_match i (hw >>> 4) (hw &&& 1) (if mf_kind hw = 1 then 0 else p) 41 q (R, met, g) else (q, R, met, g)) = m at hm' ⊢
        have hin2 := mf_sim_in hB hl39 (c := mf_order i hw p q) ⟨hs, mf_pos_of hp1⟩ hid ht hclk (mf_kind hw) due met h5 hm' (b := if 3 < mf_kind hw ∨ (mf_kind hw = 0 ∧ 0 < m.1) then rf_keep (i, hw >>> 4, hw &&& 1, mf_bI (decide (mf_kind hw = 5)), p, m.1) (m.2.1, clk) else (m.2.1, clk)) (by
          have hpos : mf_kind hw = 4 ∨ mf_kind hw = 5 → 0 < m.1 := by
            intro e
            rw [← hm, if_neg (by rcases e with e | e <;> rw [e] <;> decide)]
            exact mf_pos_of hq1
          have hiff : (3 < mf_kind hw ∨ (mf_kind hw = 0 ∧ 0 < m.1)) ↔ ((mf_kind hw = 0 ∨ mf_kind hw = 4 ∨ mf_kind hw = 5) ∧ 0 < m.1) := by
            rcases mf_kind_in hkd5 with e | e | e | e | e | e
            · rw [e]; simp <;> decide
            · rw [e]; simp <;> decide
            · rw [e]; simp <;> decide
            · rw [e]; simp
            · have := hpos (Or.inl e); rw [e]; simp [this] <;> decide
            · have := hpos (Or.inr e); rw [e]; simp [this] <;> decide
          by_cases hcc : (mf_kind hw = 0 ∨ mf_kind hw = 4 ∨ mf_kind hw = 5) ∧ 0 < m.1
          · rw [if_pos hcc, if_pos (hiff.mpr hcc)]; rfl
          · rw [if_neg hcc, if_neg (fun z => hcc (hiff.mp z))])
        obtain ⟨q1, q2, q3, q4, q5, Z', q6, q7, q8⟩ := hin2
        refine ⟨?_, ⟨Z', q6, q7, q8⟩, mf_sim_fin hn hc ec q5, q2, q3, ?_⟩
        · show ((0 : Nat), _) = ((0 : Nat), _)
          rw [q1]; rfl
        · show (mf_comeIn _ _ _).2.2.2.2.1 ≤ _
          omega
    · simp only [e1, e2, Option.isSome_some, Bool.true_or, if_true]
      exact ⟨by first | rfl | trivial, hup⟩
  · rw [if_neg hgood, if_neg hgood]
    exact ⟨by first | rfl | trivial, hup⟩
theorem mf_sim_cancel {n : Nat} {st : mf_S} {rst : rf_S} (h : mf_Sim n st rst) (i : Int32) : (mf_cancel i st).1 = (rf_cancel i rst).1 ∧ mf_Sim (n + 1) (mf_cancel i st).2 (rf_cancel i rst).2 := by
  have hup := h.up
  obtain ⟨⟨Z, hB, hl, ht⟩, h2, h3, h5, h6⟩ := h
  unfold mf_cancel rf_cancel
  rcases mf_sim_find hB i with ⟨e1, e2⟩ | ⟨j, k, y, t, e1, e2, hj, hk⟩
  · rw [e1, e2]; exact ⟨by first | rfl | trivial, hup⟩
  · rw [e1, e2]
    exact ⟨rfl, ⟨Z.eraseIdx j, mf_bk_erase hB hj hk, by have := mf_erase_len hj; omega, fun x hx => ht x (List.eraseIdx_subset hx)⟩, hup.2.1, h3, h5, hup.2.2.2.2⟩
theorem mf_sim_amend {n : Nat} {st : mf_S} {rst : rf_S} (hn : n < 1000000) (h : mf_Sim n st rst) (i p q : Int32) : (mf_amend i p q st).1 = (rf_amend i p q rst).1 ∧ mf_Sim (n + 1) (mf_amend i p q st).2 (rf_amend i p q rst).2 := by
  have hup := h.up
  obtain ⟨L, due, met, g⟩ := st
  obtain ⟨R, clk, due', met', g'⟩ := rst
  obtain ⟨⟨Z, hB, hl, ht⟩, ⟨c, hc, ec⟩, h4, h5, h6⟩ := h
  simp only at hB ht ec h4 h5 h6
  cases h4
  unfold mf_amend rf_amend
  by_cases hgood : (mf_prOk p && mf_qtOk q) = true
  · rw [if_pos hgood, if_pos hgood]
    simp only [Bool.and_eq_true, mf_prOk, mf_qtOk, decide_eq_true_eq] at hgood
    obtain ⟨⟨hp1, -⟩, hq1, -⟩ := hgood
    rcases mf_sim_find hB i with ⟨e1, e2⟩ | ⟨j, k, y, t, e1, e2, hj, hk⟩
    · simp only [e1, e2]; exact ⟨by first | rfl | trivial, hup⟩
    · simp only [e1, e2]
      have hy : mf_ok y := hB.2.2.2.1 _ (List.mem_of_getElem? hj)
      have hyi : mf_id y = i := by simpa using ((mf_pick_in _ _ _).2 j y e1).2
      by_cases hst : mf_wt y = 0 ∧ p = mf_pr y ∧ q ≤ mf_lf y
      · rw [if_pos hst, if_pos ⟨hst.1, hst.2.1.symm, hst.2.2⟩]
        refine ⟨rfl, ⟨Z.set j (mf_setLf y q, t), mf_bk_set hB hj hk rfl hy, by rw [List.length_set]; exact hl, fun x hx => ?_⟩, hup.2.1, rfl, h5, hup.2.2.2.2⟩
        rcases List.mem_or_eq_of_mem_set hx with hx | hx
        · exact ht x hx
        · rw [hx]; exact ht (y, t) (List.mem_of_getElem? hj)
      · rw [if_neg hst, if_neg (show ¬ (mf_wt y = 0 ∧ mf_pr y = p ∧ q ≤ mf_lf y) from fun z => hst ⟨z.1, z.2.1.symm, z.2.2⟩)]
        have hclk : clk < clk + 1 := by rw [ec]; exact mf_lt_succ hn hc
        have hm' : (if mf_wt y = 0 then rf_match i (mf_ow y) (mf_sd y) p 41 q (rf_drop R k, met, g) else (q, rf_drop R k, met, g)) = if (if mf_wt y = 0 then (0 : Int32) else 5) = 4 ∨ (if mf_wt y = 0 then (0 : Int32) else 5) = 5 then (mf_lf (mf_setPL y p q), rf_drop R k, met, g) else rf_match (mf_id (mf_setPL y p q)) (mf_ow (mf_setPL y p q)) (mf_sd (mf_setPL y p q)) (if (if mf_wt y = 0 then (0 : Int32) else 5) = 1 then 0 else mf_pr (mf_setPL y p q)) 41 (mf_lf (mf_setPL y p q)) (rf_drop R k, met, g) := by
          by_cases hw : mf_wt y = 0
          · rw [if_pos hw, if_pos hw, ← hyi]; rfl
          · rw [if_neg hw, if_neg hw]; rfl
        generalize hm : (if mf_wt y = 0 then rf_match i (mf_ow y) (mf_sd y) p 41 q (rf_drop R k, met, g) else (q, rf_drop R k, met, g)) = m at hm' ⊢
        have hin2 := mf_sim_in (mf_bk_erase hB hj hk) (by have := mf_erase_len hj; omega) (c := mf_setPL y p q) ⟨hy.1, mf_pos_of hp1⟩ (fun x hx => mf_erase_ne hB.2.2.2.2 hj x hx) (fun x hx => ht x (List.eraseIdx_subset hx)) hclk (if mf_wt y = 0 then 0 else 5) due met h5 hm' (b := if 0 < m.1 then rf_keep (i, mf_ow y, mf_sd y, mf_wt y, p, m.1) (m.2.1, clk) else (m.2.1, clk)) (by
          have hiff : 0 < m.1 ↔ (((if mf_wt y = 0 then (0 : Int32) else 5) = 0 ∨ (if mf_wt y = 0 then (0 : Int32) else 5) = 4 ∨ (if mf_wt y = 0 then (0 : Int32) else 5) = 5) ∧ 0 < m.1) := by
            by_cases hw : mf_wt y = 0
            · simp [hw]
            · simp [hw]
          by_cases hcc : 0 < m.1
          · rw [if_pos hcc, if_pos (hiff.mp hcc), ← hyi]; rfl
          · rw [if_neg hcc, if_neg (fun z => hcc z.2)])
        obtain ⟨q1, q2, q3, q4, q5, Z', q6, q7, q8⟩ := hin2
        refine ⟨?_, ⟨Z', q6, q7, q8⟩, mf_sim_fin hn hc ec q5, q2, q3, ?_⟩
        · show ((0 : Nat), _) = ((0 : Nat), _)
          rw [q1]; rfl
        · show (mf_comeIn _ _ _).2.2.2.2.1 ≤ _
          omega
  · rw [if_neg hgood, if_neg hgood]
    exact ⟨by first | rfl | trivial, hup⟩
-- withdraw
theorem mf_wd_eq (o : Int32) : ∀ (k : Nat) (L : List mf_O), k ≤ L.length → mf_wd o k L = (L.take k).filter (fun r => !decide (mf_ow r = o)) ++ L.drop k := by
  intro k
  induction k with
  | zero => intro L _; rfl
  | succ k ih =>
    intro L hk
    unfold mf_wd
    have hk' : k < L.length := hk
    have e : L[k]? = some L[k] := List.getElem?_eq_getElem hk'
    rw [e]
    simp only
    rw [List.take_succ, e, List.filter_append]
    by_cases ho : mf_ow L[k] = o
    · rw [if_pos ho, ih _ (by have := mf_erase_len e; omega)]
      have h1 : (L.eraseIdx k).take k = L.take k := by
        rw [List.eraseIdx_eq_take_drop_succ, List.take_append_of_le_length (by rw [List.length_take]; omega), List.take_take, Nat.min_self]
      have h2 : (L.eraseIdx k).drop k = L.drop (k + 1) := by
        rw [List.eraseIdx_eq_take_drop_succ, List.drop_append_of_le_length (by rw [List.length_take]; omega)]
        rw [List.drop_eq_nil_of_le (by rw [List.length_take]; omega)]; rfl
      rw [h1, h2]
      simp [ho]
    · rw [if_neg ho, ih _ (by omega)]
      rw [← List.getElem_cons_drop hk']
      simp [ho]
theorem rf_wd_eq (o : Int32) : ∀ (k : Nat) (R : List mf_T) (m : Int32), k ≤ R.length → (rf_wd o k R m).1.Perm ((R.take k).filter (fun x => !decide (mf_ow x.1 = o)) ++ R.drop k) ∧ (rf_wd o k R m).2 = m + mf_sum (fun x : mf_T => if mf_ow x.1 = o then 1 else 0) (R.take k) := by
  intro k
  induction k with
  | zero => intro R m _; exact ⟨List.Perm.refl _, by simp [rf_wd, mf_sum]⟩
  | succ k ih =>
    intro R m hk
    unfold rf_wd
    have hk' : k < R.length := hk
    have e : R[k]? = some R[k] := List.getElem?_eq_getElem hk'
    rw [e]
    simp only
    rw [List.take_succ, e, List.filter_append]
    have hne : R ≠ [] := fun z => by rw [z] at hk'; exact absurd hk' (Nat.not_lt_zero _)
    by_cases ho : mf_ow R[k].1 = o
    · rw [if_pos ho]
      have hd : rf_drop R k = (R.set k (R.getLast hne)).dropLast := by
        unfold rf_drop; rw [List.getLast?_eq_some_getLast hne]
      have hlen : (rf_drop R k).length = R.length - 1 := by rw [hd, List.length_dropLast, List.length_set]
      have h1 : (rf_drop R k).take k = R.take k := by
        rw [hd, List.dropLast_eq_take, List.take_take, List.length_set, Nat.min_eq_left (by omega), List.take_set_of_le (Nat.le_refl _)]
      have h2 : (rf_drop R k).Perm (R.take k ++ R.drop (k + 1)) := by
        have a := (mf_perm_drop e).symm.trans (mf_perm_erase e)
        rw [List.eraseIdx_eq_take_drop_succ] at a
        exact a.cons_inv
      have h3 : ((rf_drop R k).drop k).Perm (R.drop (k + 1)) := by
        have a : ((rf_drop R k).take k ++ (rf_drop R k).drop k).Perm (R.take k ++ R.drop (k + 1)) := by rw [List.take_append_drop]; exact h2
        rw [h1] at a
        exact (List.perm_append_left_iff _).mp a
      obtain ⟨i1, i2⟩ := ih (rf_drop R k) (m + 1) (by omega)
      rw [h1] at i1 i2
      refine ⟨?_, ?_⟩
      · have : (Option.some R[k]).toList.filter (fun x : mf_T => !decide (mf_ow x.1 = o)) = [] := by simp [ho]
        rw [this, List.append_nil]
        exact i1.trans (h3.append_left _)
      · rw [i2]
        show _ = m + mf_sum _ (R.take k ++ [R[k]])
        rw [mf_sum_snoc, if_pos ho, Int32.add_assoc, Int32.add_comm 1]
    · rw [if_neg ho]
      obtain ⟨i1, i2⟩ := ih R m (by omega)
      refine ⟨?_, ?_⟩
      · have : (Option.some R[k]).toList.filter (fun x : mf_T => !decide (mf_ow x.1 = o)) = [R[k]] := by simp [ho]
        rw [this, List.append_assoc]
        rw [← List.getElem_cons_drop hk'] at i1
        exact i1
      · rw [i2]
        show _ = m + mf_sum _ (R.take k ++ [R[k]])
        rw [mf_sum_snoc, if_neg ho, Int32.add_zero]
theorem mf_sub2 (a b : Int32) : (a + 1) - (b + 1) = a - b := by
  rw [Int32.sub_eq_add_neg, Int32.neg_add, Int32.sub_eq_add_neg (-b), Int32.add_comm (-b), ← Int32.add_assoc, Int32.add_assoc a, show (1 : Int32) + -1 = 0 by decide, Int32.add_zero, ← Int32.sub_eq_add_neg]
theorem mf_cnt_len (o : Int32) : ∀ R : List mf_T, nI R.length - nI (R.filter (fun x => !decide (mf_ow x.1 = o))).length = mf_sum (fun x : mf_T => if mf_ow x.1 = o then 1 else 0) R := by
  refine mf_snoc (show nI 0 - nI 0 = 0 by decide) ?_
  intro l x ih
  rw [mf_sum_snoc, ← ih, List.filter_append, List.length_append, List.length_append]
  by_cases ho : mf_ow x.1 = o
  · simp only [ho, decide_true, Bool.not_true, List.filter_cons, List.filter_nil, if_true, Bool.false_eq_true, if_false, List.length_nil, List.length_cons, Nat.add_zero, Nat.zero_add]
    rw [← nI_1]
    rw [Int32.sub_eq_add_neg, Int32.sub_eq_add_neg, Int32.add_assoc, Int32.add_assoc, Int32.add_comm 1]
  · simp only [ho, decide_false, Bool.not_false, List.filter_cons, List.filter_nil, if_true, if_false, List.length_nil, List.length_cons, Nat.zero_add]
    rw [← nI_1, ← nI_1, Int32.add_zero, mf_sub2]
theorem mf_sim_withdraw {n : Nat} {st : mf_S} {rst : rf_S} (h : mf_Sim n st rst) (o : Int32) : (mf_withdraw o st).1 = (rf_withdraw o rst).1 ∧ mf_Sim (n + 1) (mf_withdraw o st).2 (rf_withdraw o rst).2 := by
  have hup := h.up
  obtain ⟨⟨Z, hB, hl, ht⟩, h2, h3, h5, h6⟩ := h
  unfold mf_withdraw rf_withdraw
  by_cases ho : 0 ≤ o ∧ o ≤ 7
  · rw [if_pos ho, if_pos ho]
    obtain ⟨r1, r2⟩ := rf_wd_eq o rst.1.length rst.1 0 (Nat.le_refl _)
    have e1 := mf_wd_eq o st.1.length st.1 (Nat.le_refl _)
    rw [List.take_length, List.drop_length, List.append_nil] at r1 e1
    rw [List.take_length] at r2
    have hB' : mf_Bk (Z.filter (fun x => !decide (mf_ow x.1 = o))) (mf_wd o st.1.length st.1) (rf_wd o rst.1.length rst.1 0).1 := by
      obtain ⟨b1, b2, b3, b4, b5⟩ := hB
      refine ⟨?_, b2.sublist List.filter_sublist, r1.trans (b3.filter _), fun x hx => b4 x (List.mem_filter.mp hx).1, b5.sublist List.filter_sublist⟩
      rw [e1, b1, List.filter_map]; rfl
    refine ⟨?_, ⟨_, hB', Nat.le_trans (List.length_filter_le _ _) hl, fun x hx => ht x (List.mem_filter.mp hx).1⟩, hup.2.1, h3, h5, hup.2.2.2.2⟩
    show ((0 : Nat), _) = ((0 : Nat), _)
    rw [r2, Int32.zero_add, ← mf_cnt_len]
    have l1 := mf_bk_len hB
    have l2 := mf_bk_len hB'
    have l3 := (r1.length_eq)
    rw [l2.1, l1.1, ← l1.2, ← l3, l2.2]
  · rw [if_neg ho, if_neg ho]
    exact ⟨by first | rfl | trivial, hup⟩
end
section
/-! levels, value for value -/
theorem mf_pick_prs {s : Int32} (ok : mf_O → Bool) (L : List mf_O) : (mf_pick ok (mf_lt s) L = none → ∀ x ∈ L, ok x = false) ∧ ∀ j y, mf_pick ok (mf_lt s) L = some (j, y) → L[j]? = some y ∧ ok y = true ∧ (∀ x ∈ L, ok x = true → mf_lt s x y = false) := by
  have h := mf_pick_spec (ok := ok) (lt := mf_lt s) (fun a b c _ _ _ h1 h2 => mf_better_tr h1 h2) (fun a b c _ _ _ h1 h2 => mf_better_nt h1 h2) (fun a _ => mf_better_ir) L
  exact ⟨h.1, fun j y e => ⟨(h.2 j y e).1, (h.2 j y e).2.1, (h.2 j y e).2.2.1⟩⟩
theorem rf_pick_prs {s : Int32} (ok : mf_O → Bool) (R : List mf_T) : (mf_pick (fun x : mf_T => ok x.1) (fun x y => mf_lt s x.1 y.1) R = none → ∀ x ∈ R, ok x.1 = false) ∧ ∀ j y, mf_pick (fun x : mf_T => ok x.1) (fun x y => mf_lt s x.1 y.1) R = some (j, y) → R[j]? = some y ∧ ok y.1 = true ∧ (∀ x ∈ R, ok x.1 = true → mf_lt s x.1 y.1 = false) := by
  have h := mf_pick_spec (ok := fun x : mf_T => ok x.1) (lt := fun x y => mf_lt s x.1 y.1) (fun a b c _ _ _ h1 h2 => mf_better_tr h1 h2) (fun a b c _ _ _ h1 h2 => mf_better_nt h1 h2) (fun a _ => mf_better_ir) R
  exact ⟨h.1, fun j y e => ⟨(h.2 j y e).1, (h.2 j y e).2.1, (h.2 j y e).2.2.1⟩⟩
theorem mf_next_eq {Z : List mf_T} {L : List mf_O} {R : List mf_T} (h : mf_Bk Z L R) (s b : Int32) : rf_next s b R = mf_next s b L := by
  obtain ⟨rfl, -, hP, -, -⟩ := h
  unfold rf_next mf_next
  obtain ⟨c1, c2⟩ := mf_pick_prs (s := s) (mf_behind s b) (Z.map (·.1))
  obtain ⟨r1, r2⟩ := rf_pick_prs (s := s) (mf_behind s b) R
  cases hc : mf_pick (mf_behind s b) (mf_lt s) (Z.map (·.1)) with
  | none =>
    cases hr : mf_pick (fun x : mf_T => mf_behind s b x.1) (fun x y => mf_lt s x.1 y.1) R with
    | none => rfl
    | some kx =>
      obtain ⟨k, x⟩ := kx
      obtain ⟨a1, a2, a3⟩ := r2 k x hr
      have := c1 hc x.1 (List.mem_map.mpr ⟨x, hP.mem_iff.mp (List.mem_of_getElem? a1), rfl⟩)
      rw [this] at a2; cases a2
  | some jy =>
    obtain ⟨j, y⟩ := jy
    obtain ⟨b1, b2, b3⟩ := c2 j y hc
    rw [List.getElem?_map] at b1
    obtain ⟨x0, d1, d2⟩ := Option.map_eq_some_iff.mp b1
    have hm : x0 ∈ R := hP.mem_iff.mpr (List.mem_of_getElem? d1)
    subst d2
    cases hr : mf_pick (fun x : mf_T => mf_behind s b x.1) (fun x y => mf_lt s x.1 y.1) R with
    | none =>
      have := r1 hr x0 hm
      rw [this] at b2; cases b2
    | some kx =>
      obtain ⟨k, x⟩ := kx
      obtain ⟨a1, a2, a3⟩ := r2 k x hr
      show mf_pr x.1 = mf_pr x0.1
      exact mf_better_eq (b3 x.1 (List.mem_map.mpr ⟨x, hP.mem_iff.mp (List.mem_of_getElem? a1), rfl⟩) a2) (a3 x0 hm b2)
theorem mf_countP_lt {α : Type} {p q : α → Bool} : ∀ {l : List α}, (∀ x ∈ l, q x = true → p x = true) → ∀ {y : α}, y ∈ l → p y = true → q y = false → l.countP q + 1 ≤ l.countP p := by
  intro l
  induction l with
  | nil => intro _ y hy; exact (List.not_mem_nil hy).elim
  | cons a l ih =>
    intro h y hy hp hq
    have hmono : l.countP q ≤ l.countP p := List.countP_mono_left (fun x hx => h x (List.mem_cons_of_mem _ hx))
    rw [List.countP_cons, List.countP_cons]
    rcases List.mem_cons.mp hy with rfl | hy
    · rw [hp, hq]; simp; exact hmono
    · have := ih (fun x hx => h x (List.mem_cons_of_mem _ hx)) hy hp hq
      have ha := h a List.mem_cons_self
      cases hqa : q a with
      | false => simp; split <;> omega
      | true => rw [ha hqa]; simp; omega
/-- each level's price is one of the orders', and there are fewer behind it -/
theorem mf_next_less {s b : Int32} {L : List mf_O} (h : mf_next s b L ≠ 0) : L.countP (mf_behind s (mf_next s b L)) + 1 ≤ L.countP (mf_behind s b) := by
  unfold mf_next at *
  obtain ⟨c1, c2⟩ := mf_pick_prs (s := s) (mf_behind s b) L
  cases hc : mf_pick (mf_behind s b) (mf_lt s) L with
  | none => rw [hc] at h; exact absurd rfl h
  | some jy =>
    obtain ⟨j, y⟩ := jy
    rw [hc] at h
    have h' : mf_pr y ≠ 0 := h
    obtain ⟨b1, b2, b3⟩ := c2 j y hc
    show L.countP (mf_behind s (mf_pr y)) + 1 ≤ _
    refine mf_countP_lt (fun x hx hq => ?_) (List.mem_of_getElem? b1) b2 ?_
    · unfold mf_behind at *
      simp only [Bool.and_eq_true, Bool.or_eq_true, decide_eq_true_eq] at *
      refine ⟨hq.1, ?_⟩
      rcases hq.2 with e | e
      · exact absurd e h'
      · rcases b2.2 with e2 | e2
        · exact Or.inl e2
        · exact Or.inr (mf_better_tr e2 e)
    · unfold mf_behind
      rw [mf_better_ir]
      simp [h']
theorem mf_next_nonneg {s b : Int32} {L : List mf_O} (ho : ∀ r ∈ L, mf_ok r) : 0 ≤ mf_next s b L := by
  unfold mf_next
  cases hc : mf_pick (mf_behind s b) (mf_lt s) L with
  | none => exact Int32.le_refl _
  | some jy =>
    obtain ⟨j, y⟩ := jy
    exact mf_le_of_lt (ho y (List.mem_of_getElem? ((mf_pick_in _ _ _).2 j y hc).1)).2
theorem mf_it_bound {s : Int32} {L : List mf_O} : ∀ m : Nat, (∀ i, i ≤ m → mf_it (fun b => mf_next s b L) i ≠ 0) → L.countP (mf_behind s (mf_it (fun b => mf_next s b L) m)) + (m + 1) ≤ L.length := by
  intro m
  induction m with
  | zero =>
    intro h
    have h1 := mf_next_less (h 0 (Nat.le_refl _))
    have h2 : L.countP (mf_behind s 0) ≤ L.length := List.countP_le_length
    show L.countP (mf_behind s (mf_next s 0 L)) + 1 ≤ _
    omega
  | succ m ih =>
    intro h
    have h1 := ih (fun i hi => h i (by omega))
    have h2 := mf_next_less (b := mf_it (fun b => mf_next s b L) m) (h (m + 1) (Nat.le_refl _))
    show L.countP (mf_behind s (mf_next s (mf_it (fun b => mf_next s b L) m) L)) + (m + 1 + 1) ≤ _
    omega
theorem mf_next_none {s b : Int32} {L : List mf_O} (h : L.countP (mf_behind s b) = 0) : mf_next s b L = 0 := Classical.byContradiction fun z => by
  have := mf_next_less z
  omega
theorem mf_lv_spec (nx : Int32 → Int32) : ∀ (f j c : Nat), c ≤ mf_lv nx f (mf_it nx j) c ∧ mf_lv nx f (mf_it nx j) c ≤ c + f ∧ (∀ i, i < mf_lv nx f (mf_it nx j) c - c → mf_it nx (j + i) ≠ 0) ∧ (mf_lv nx f (mf_it nx j) c < c + f → mf_it nx (j + (mf_lv nx f (mf_it nx j) c - c)) = 0) := by
  intro f
  induction f with
  | zero => intro j c; exact ⟨Nat.le_refl _, Nat.le_refl _, fun i h => absurd h (by show ¬ i < c - c; omega), fun h => absurd h (by show ¬ c < c + 0; omega)⟩
  | succ f ih =>
    intro j c
    unfold mf_lv
    by_cases h0 : mf_it nx j = 0
    · rw [if_pos h0]
      exact ⟨Nat.le_refl _, by omega, fun i h => by omega, fun _ => by rw [Nat.sub_self]; exact h0⟩
    · rw [if_neg h0]
      obtain ⟨a1, a2, a3, a4⟩ := ih (j + 1) (c + 1)
      have e : nx (mf_it nx j) = mf_it nx (j + 1) := rfl
      rw [e]
      generalize mf_lv nx f (mf_it nx (j + 1)) (c + 1) = r at *
      refine ⟨by omega, by omega, fun i hi => ?_, fun h => ?_⟩
      · cases i with
        | zero => exact h0
        | succ i =>
          have := a3 i (by omega)
          rw [show j + (i + 1) = j + 1 + i by omega]; exact this
      · have := a4 (by omega)
        rw [show j + (r - c) = j + 1 + (r - (c + 1)) by omega]; exact this
theorem rf_walk_spec (nx : Int32 → Int32) (hn : ∀ b, 0 ≤ nx b) : ∀ (k j : Nat), ((∀ i, i ≤ k → mf_it nx (j + i) ≠ 0) → rf_walk nx k (mf_it nx j) = mf_it nx (j + k)) ∧ ((∃ i, i ≤ k ∧ mf_it nx (j + i) = 0) → rf_walk nx k (mf_it nx j) = 0) := by
  intro k
  have hpos : ∀ j, mf_it nx j ≠ 0 → 0 < mf_it nx j := fun j h => by
    cases j with
    | zero => exact Int32.lt_of_le_of_ne (hn 0) (Ne.symm h)
    | succ j => exact Int32.lt_of_le_of_ne (hn _) (Ne.symm h)
  induction k with
  | zero =>
    intro j
    refine ⟨fun _ => rfl, fun ⟨i, hi, e⟩ => ?_⟩
    rw [show i = 0 by omega] at e
    exact e
  | succ k ih =>
    intro j
    unfold rf_walk
    refine ⟨fun h => ?_, fun ⟨i, hi, e⟩ => ?_⟩
    · have h0 := h 0 (by omega)
      rw [if_pos (hpos j h0)]
      have := (ih (j + 1)).1 (fun i hi => by rw [show j + 1 + i = j + (i + 1) by omega]; exact h (i + 1) (by omega))
      rw [show j + (k + 1) = j + 1 + k by omega]
      exact this
    · by_cases h0 : mf_it nx j = 0
      · rw [h0, if_neg (by decide)]
      · rw [if_pos (hpos j h0)]
        have hi0 : i ≠ 0 := fun z => by rw [z] at e; exact h0 e
        exact (ih (j + 1)).2 ⟨i - 1, by omega, by rw [show j + 1 + (i - 1) = j + i by omega]; exact e⟩
theorem mf_levels_le {s : Int32} {L : List mf_O} : mf_lv (fun b => mf_next s b L) 40 (mf_next s 0 L) 0 ≤ 40 := (mf_lv_spec (fun b => mf_next s b L) 40 0 0).2.1
theorem mf_sim_levels {n : Nat} {st : mf_S} {rst : rf_S} (h : mf_Sim n st rst) (s : Int32) : mf_levels s st = rf_levels s rst := by
  obtain ⟨⟨Z, hB, hl, ht⟩, -⟩ := h
  unfold mf_levels rf_levels
  simp only [mf_next_eq hB]
theorem mf_sim_level {n : Nat} {st : mf_S} {rst : rf_S} (h : mf_Sim n st rst) (s k w : Int32) : mf_level s k w st = rf_level s k w rst := by
  obtain ⟨⟨Z, hB, hl, ht⟩, -⟩ := h
  unfold mf_level rf_level
  simp only [mf_next_eq hB]
  by_cases hc : (s = 0 ∨ s = 1) ∧ 0 ≤ w ∧ w ≤ 2
  · rw [if_pos hc, if_pos hc]
    have ho : ∀ r ∈ st.1, mf_ok r := by
      intro r hr
      rw [hB.1] at hr
      obtain ⟨x, hx, rfl⟩ := List.mem_map.mp hr
      exact hB.2.2.2.1 x hx
    have hlen : st.1.length ≤ 40 := by rw [(mf_bk_len hB).1]; exact hl
    by_cases hk0 : k < 0
    · rw [if_pos hk0, if_neg (fun z => absurd hk0 (Int32.not_lt.mpr z.1))]
      simp
    · rw [if_neg hk0]
      obtain ⟨kk, hkk, rfl⟩ := nI_of hk0
      rw [nI_clamp hkk]
      have hsp := mf_lv_spec (fun b => mf_next s b st.1) 40 0 0
      have hw := rf_walk_spec (fun b => mf_next s b st.1) (fun b => mf_next_nonneg ho) kk 0
      generalize hr : mf_lv (fun b => mf_next s b st.1) 40 (mf_next s 0 st.1) 0 = r at *
      have hr2 : mf_lv (fun b => mf_next s b st.1) 40 (mf_it (fun b => mf_next s b st.1) 0) 0 = r := hr
      rw [hr2] at hsp
      obtain ⟨-, s2, s3, s4⟩ := hsp
      by_cases hlt : kk < r
      · rw [if_pos ⟨Int32.not_lt.mp hk0, nI_lt hlt (by omega)⟩]
        have hall : ∀ i, i ≤ kk → mf_it (fun b => mf_next s b st.1) (0 + i) ≠ 0 := fun i hi => s3 i (by omega)
        have e := hw.1 hall
        rw [Nat.zero_add] at e
        have e' : rf_walk (fun b => mf_next s b st.1) kk (mf_next s 0 st.1) = mf_it (fun b => mf_next s b st.1) kk := e
        rw [e']
        have hne := hall kk (Nat.le_refl _)
        rw [Nat.zero_add] at hne
        rw [if_neg hne]
        simp only [mf_sim_sum hB (f := fun r => if mf_at s (mf_it (fun b => mf_next s b st.1) kk) r then mf_lf r else 0) (g := fun r => if mf_at s (mf_it (fun b => mf_next s b st.1) kk) r then mf_lf r else 0) (fun _ _ => rfl), mf_sim_sum hB (f := fun r => if mf_at s (mf_it (fun b => mf_next s b st.1) kk) r then 1 else 0) (g := fun r => if mf_at s (mf_it (fun b => mf_next s b st.1) kk) r then 1 else 0) (fun _ _ => rfl)]
      · rw [if_neg (fun z => absurd z.2 (nI_nlt (by omega) (by omega)))]
        have hex : ∃ i, i ≤ kk ∧ mf_it (fun b => mf_next s b st.1) (0 + i) = 0 := by
          by_cases h40 : r < 40
          · have := s4 (by omega)
            exact ⟨r, by omega, by simpa using this⟩
          · have hr40 : r = 40 := by omega
            refine ⟨40, by omega, ?_⟩
            have hb := mf_it_bound (s := s) (L := st.1) 39 (fun i hi => by have := s3 i (by omega); rw [Nat.zero_add] at this; exact this)
            show mf_next s (mf_it (fun b => mf_next s b st.1) 39) st.1 = 0
            exact mf_next_none (by omega)
        have e : rf_walk (fun b => mf_next s b st.1) kk (mf_next s 0 st.1) = 0 := hw.2 hex
        rw [e]
        simp
  · rw [if_neg hc, if_neg hc]
theorem mf_queues_eq (r y : mf_O) : mf_queues r y = rf_same y r := by
  unfold mf_queues rf_same
  by_cases h1 : mf_wt r = 0 <;> by_cases h2 : mf_wt y = 0 <;> simp [h1, h2]
theorem mf_sim_ordr {n : Nat} {st : mf_S} {rst : rf_S} (h : mf_Sim n st rst) (i w : Int32) : mf_ordr i w st = rf_ordr i w rst := by
  obtain ⟨⟨Z, hB, hl, ht⟩, -⟩ := h
  unfold mf_ordr rf_ordr
  rcases mf_sim_find hB i with ⟨e1, e2⟩ | ⟨j, k, y, t, e1, e2, hj, hk⟩
  · rw [e1, e2]
  · rw [e1, e2]
    simp only
    by_cases hw : 0 ≤ w ∧ w ≤ 3
    · rw [if_pos hw, if_pos hw]
      have hsum : mf_sum (fun r => if mf_queues r y then 1 else 0) (st.1.take j) = mf_sum (fun x : mf_T => if rf_same y x.1 && decide (x.2 < t) then 1 else 0) rst.1 := by
        rw [mf_sum_perm _ hB.2.2.1, hB.1, ← List.map_take, mf_sum_map]
        obtain ⟨hj1, hj2⟩ := List.getElem?_eq_some_iff.mp hj
        have e : Z = Z.take j ++ (y, t) :: Z.drop (j + 1) := by
          rw [← hj2, List.getElem_cons_drop]
          exact (List.take_append_drop j Z).symm
        have hso := hB.2.1
        have hR : mf_sum (fun x : mf_T => if rf_same y x.1 && decide (x.2 < t) then 1 else 0) Z = mf_sum (fun x : mf_T => if rf_same y x.1 && decide (x.2 < t) then 1 else 0) (Z.take j) := by
          rw [e] at hso
          obtain ⟨-, hs2, -⟩ := List.pairwise_append.mp hso
          have hs3 := (List.pairwise_cons.mp hs2).1
          conv => lhs; rw [e]
          rw [mf_sum_append, mf_sum_zero (l := (y, t) :: Z.drop (j + 1)), Int32.add_zero]
          intro x hx
          have hnot : ¬ x.2 < t := by
            rcases List.mem_cons.mp hx with rfl | hx
            · exact Int32.lt_irrefl
            · exact Int32.not_lt.mpr (mf_le_of_lt (hs3 x hx))
          rw [decide_eq_false hnot, Bool.and_false]; rfl
        rw [hR]
        refine mf_sum_congr (fun x hx => ?_)
        have hlt : x.2 < t := by
          rw [e] at hso
          exact (List.pairwise_append.mp hso).2.2 x hx (y, t) List.mem_cons_self
        rw [mf_queues_eq, decide_eq_true hlt, Bool.and_true]
      rw [hsum, Int32.add_assoc, Int32.add_comm (if mf_wt y = 0 then 0 else 2), ← Int32.add_assoc]
    · rw [if_neg hw, if_neg hw]
theorem mf_sim_figure {n : Nat} {st : mf_S} {rst : rf_S} (h : mf_Sim n st rst) (k : Int32) : mf_figure k st = rf_figure k rst := by
  obtain ⟨⟨Z, hB, hl, ht⟩, -, h3, -⟩ := h
  unfold mf_figure rf_figure
  rw [(mf_bk_len hB).1, (mf_bk_len hB).2, mf_sim_sum hB (f := fun r => if mf_wt r = 0 then 0 else 1) (g := fun r => if mf_wt r = 0 then 0 else 1) (fun _ _ => rfl), h3]
/-- the start -/
theorem mf_sim_0 (g : mf_G) (hg : g = (0, 0, 0, 0, fun _ _ => 0)) : mf_Sim 0 ([], 0, 0, g) ([], 0, 0, 0, g) := by
  subst hg
  exact ⟨⟨[], ⟨rfl, List.Pairwise.nil, List.Perm.refl _, fun _ h => (List.not_mem_nil h).elim, List.Pairwise.nil⟩, Nat.zero_le _, fun _ h => (List.not_mem_nil h).elim⟩, ⟨0, Nat.le_refl _, rfl⟩, rfl, Int32.le_refl _, Nat.le_refl _⟩
end
section
/-! scans, a step at a time -/
theorem mf_take_snoc {α : Type} {l : List α} {k : Nat} {x : α} (h : l[k]? = some x) : l.take (k + 1) = l.take k ++ [x] := by
  rw [List.take_succ, h]; rfl
theorem mf_take_len {α : Type} {l : List α} {k : Nat} {x : α} (h : l[k]? = some x) : (l.take k).length = k := by
  rw [List.length_take]
  have := (List.getElem?_eq_some_iff.mp h).1
  omega
theorem mf_pick_take {α : Type} (ok : α → Bool) (lt : α → α → Bool) {l : List α} {k : Nat} {x : α} (h : l[k]? = some x) : mf_pick ok lt (l.take (k + 1)) = if ok x && mf_cmp lt x (mf_pick ok lt (l.take k)) then some (k, x) else mf_pick ok lt (l.take k) := by
  rw [mf_take_snoc h, mf_pick_snoc, mf_take_len h]
theorem mf_sum_take {α : Type} (f : α → Int32) {l : List α} {k : Nat} {x : α} (h : l[k]? = some x) : mf_sum f (l.take (k + 1)) = mf_sum f (l.take k) + f x := by
  rw [mf_take_snoc h, mf_sum_snoc]
theorem mf_pick_stay {α : Type} {ok : α → Bool} {l : List α} {y : Nat × α} (h : mf_pick ok (fun _ _ => false) l = some y) : ∀ b : List α, mf_pick ok (fun _ _ => false) (l ++ b) = some y := by
  refine mf_snoc (by rw [List.append_nil]; exact h) ?_
  intro b x ih
  rw [← List.append_assoc, mf_pick_snoc, ih]
  simp [mf_cmp]
/-- found at place k -/
theorem mf_pick_found {α : Type} {ok : α → Bool} {l : List α} {k : Nat} {x : α} (h0 : mf_pick ok (fun _ _ => false) (l.take k) = none) (h : l[k]? = some x) (hx : ok x = true) : mf_pick ok (fun _ _ => false) l = some (k, x) := by
  have h1 : mf_pick ok (fun _ _ => false) (l.take (k + 1)) = some (k, x) := by
    rw [mf_pick_take _ _ h, h0, hx]; rfl
  have h2 := mf_pick_stay h1 (l.drop (k + 1))
  rwa [List.take_append_drop] at h2
theorem mf_pick_pass {α : Type} {ok : α → Bool} {lt : α → α → Bool} {l : List α} {k : Nat} {x : α} (h0 : mf_pick ok lt (l.take k) = none) (h : l[k]? = some x) (hx : ok x = false) : mf_pick ok lt (l.take (k + 1)) = none := by
  rw [mf_pick_take _ _ h, h0, hx]; rfl
theorem mf_pick_all {α : Type} {ok : α → Bool} {lt : α → α → Bool} {l : List α} {r : Option (Nat × α)} (h : mf_pick ok lt (l.take l.length) = r) : mf_pick ok lt l = r := by
  rwa [List.take_length] at h
theorem mf_bI_0 {b : Bool} : mf_bI b = 0 ↔ b = false := by cases b <;> decide
theorem mf_bI_1 {b : Bool} : ¬ mf_bI b = 0 ↔ b = true := by cases b <;> decide
theorem mf_bI_t : mf_bI true = 1 := rfl
theorem mf_bI_f : mf_bI false = 0 := rfl
theorem mf_at_lt {α : Type} {l : List α} {k : Nat} (h : k < l.length) : ∃ x, l[k]? = some x := ⟨_, List.getElem?_eq_getElem h⟩
/-- the levels' loop ends -/
def mf_mu (s p : Int32) (L : List mf_O) : Nat := L.countP (mf_behind s p)
theorem mf_lv_0 (nx : Int32 → Int32) (f c : Nat) : mf_lv nx f 0 c = c := by
  cases f with
  | zero => rfl
  | succ f => unfold mf_lv; rw [if_pos rfl]
theorem mf_lv_1 (nx : Int32 → Int32) (f c : Nat) {p : Int32} (h : p ≠ 0) : mf_lv nx (f + 1) p c = mf_lv nx f (nx p) (c + 1) := by
  show (if p = 0 then c else mf_lv nx f (nx p) (c + 1)) = _
  rw [if_neg h]
end
section
/-! what every walk of this claim stands on -/
-- words that don't stay by themselves: they ride in a contract's start
def mf_nF : List (Nat × String × String × String) := [(133, "MatchFloor$Tape", "count", "I"), (141, "MatchFloor$Tape", "lastPrice", "I"), (157, "MatchFloor$Tape", "quantity", "I"), (144, "MatchFloor$Tape", "worth", "J"), (163, "MatchFloor$Order", "id", "I"), (97, "MatchFloor$Order", "owner", "I"), (125, "MatchFloor$Order", "side", "I"), (88, "MatchFloor$Order", "waits", "Z"), (92, "MatchFloor$Order", "price", "I"), (81, "MatchFloor$Order", "left", "I")]
def mf_nM : List (String × Nat × MethodName) := [("MatchFloor", 18, my_T_init), ("MatchFloor", 59, my_O_init), ("MatchFloor", 166, my_O_restsOn), ("MatchFloor", 186, my_O_isFitBy), ("MatchFloor$Order", 31, my_F_otherSide), ("MatchFloor$Order", 35, my_F_isBetter), ("MatchFloor", 211, my_T_write), ("MatchFloor", 173, my_O_isDueAt), ("MatchFloor", 218, my_O_queuesWith), ("MatchFloor", 138, my_T_read)]
def mf_nS : List (Nat × String) := [(29, "how names no owner, kind and side"), (41, "price or quantity is out of range"), (48, "a kept order has this id"), (55, "no more orders can be kept"), (66, "the order is refused as its kind says"), (74, "no kept order has this id"), (95, "owner is not 0 .. 7"), (103, "side is not 0 or 1"), (108, "side is not 0 or 1, or what not 0 .. 2"), (112, "there is no such level"), (131, "what is not 0 .. 3"), (136, "no such fill is told"), (160, "k is not 0 .. 4")]
def mf_NG (t0 : Nat × Nat) (U : State) : Prop := (∀ q ∈ mf_nF, va_Nw (.fieldLinkNest "MatchFloor" q.1 q.2.1 q.2.2.1 q.2.2.2 "MatchFloor") U) ∧ (∀ q ∈ mf_nM, va_Nw (.methodLinkNest q.1 q.2.1 q.2.2 "MatchFloor") U) ∧ va_Nw (.castable "MatchFloor$Order" "java/lang/Object") U ∧ va_AO "java/lang/Object" U ∧ va_AOA .int U ∧ va_Dc U ∧ (∀ q ∈ mf_nS, ∃ a, vk_R "MatchFloor" q.1 q.2 a U) ∧ va_Mi "[Ljava/lang/Object;" t0.2 U
theorem mf_NG.warm {t0 : Nat × Nat} {s U : State} (hW : s.WarmedH U.vm) (h : mf_NG t0 s) : mf_NG t0 U := by
  obtain ⟨h1, h2, h3, h4, h5, h6, h7, h8⟩ := h
  refine ⟨fun q hq => (h1 q hq).warmF hW, fun q hq => (h2 q hq).warmM hW, h3.warmC hW, h4.moved hW.alike, ?_, h6.moved hW.alike, fun q hq => ?_, h8.moved hW.alike⟩
  · have h9 : (Cond.arrayOver (.array .int)).before #[] (s.setVm U.vm) = true := by
      rw [Cond.arrayOver_setVmC hW.alike]; exact h5
    exact h9
  · obtain ⟨a, ha⟩ := h7 q hq
    exact ⟨a, ha.warm hW⟩
/-- the statics that are read: they lie outside of A -/
def mf_ST (t0 : Nat × Nat) (A : Nat → Prop) (U : State) (H : Heap) : Prop := vx_Zq Bundle.tN "UNASSIGNED_STACK" Bundle.steD A U H ∧ vx_Zq Bundle.tN "SUPPRESSED_SENTINEL" Bundle.listD A U H ∧ va_Z "java/util/ArrayList" "DEFAULTCAPACITY_EMPTY_ELEMENTDATA" "[Ljava/lang/Object;" (.ref t0.1) A U H ∧ va_T (.object "java/lang/Object") t0.1 0 (fun _ => .null) A U H
theorem mf_ST.moved {t0 : Nat × Nat} {A : Nat → Prop} {u U : State} {H : Heap} (hvm : u.vm.Alike U.vm) (h : mf_ST t0 A u H) : mf_ST t0 A U H := by
  obtain ⟨h1, h2, h3, h4⟩ := h
  exact ⟨h1.moved hvm, h2.moved hvm, h3.moved hvm, h4.moved hvm⟩
theorem mf_ST.kept {t0 : Nat × Nat} {A : Nat → Prop} {U : State} {H H1 : Heap} (h : mf_ST t0 A U H) (hq : ∀ a : Nat, a < H.size → ¬ A a → H1[a]? = H[a]?) : mf_ST t0 A U H1 := by
  obtain ⟨h1, h2, h3, h4⟩ := h
  exact ⟨h1.kept hq, h2.kept hq, h3.kept hq, h4.kept hq⟩
/-- the classes of the cells, and their numbers' being apart -/
abbrev mf_k5 : Type := ClassId × ClassId × ClassId × ClassId × ClassId
abbrev mf_tys (k : mf_k5) : List (ClassId × FieldType) := [(k.1, .object "java/lang/Object"), (k.2.1, .array .int), (k.2.2.1, .int), (k.2.2.2.1, .boolean), (k.2.2.2.2, .long)]
def mf_ids (D : va_G) (tys : List (ClassId × FieldType)) : List ClassId := [D.1 0, D.1 1, D.1 2, D.1 3, D.1 4] ++ tys.map (fun q => q.1)
def mf_Env (D : va_G) (tys : List (ClassId × FieldType)) (t0 : Nat × Nat) (A : Nat → Prop) (U : State) : Prop := va_K D mf_cl tys U ∧ mf_NG t0 U ∧ mf_ST t0 A U U.heap ∧ (∀ q, U.heap.size ≤ q → A q) ∧ (mf_ids D tys).Nodup
/-- a contract's start: the heap, and what the tables say -/
def mf_P (D : va_G) (tys : List (ClassId × FieldType)) (t0 : Nat × Nat) (A : Nat → Prop) (H : Heap) (U : State) : Prop := U.heap = H ∧ mf_Env D tys t0 A U
theorem mf_Env.at {D : va_G} {tys : List (ClassId × FieldType)} {t0 : Nat × Nat} {A : Nat → Prop} {s : State} {H : Heap} {locs : List Loc} (h : mf_Env D tys t0 A s) (hS : va_S A s.heap H locs) : ∀ U : State, U.heap = H → s.WarmedH U.vm → mf_P D tys t0 A H U := by
  intro U hU hW
  subst hU
  obtain ⟨h1, h2, h3, h4, h5⟩ := h
  exact ⟨rfl, va_K.moved hW.alike h1, h2.warm hW, (h3.kept hS.2.1).moved hW.alike, fun q hq => h4 q (Nat.le_trans hS.1 hq), h5⟩
theorem mf_blind {D : va_G} {tys : List (ClassId × FieldType)} {t0 : Nat × Nat} {A : Nat → Prop} {H : Heap} {av : List Value} : FrameBlind (va_Pc av (mf_P D tys t0 A H)) := by
  intro a U g mk h
  obtain ⟨h0, h1, h2, h3, h4, h5⟩ := h
  have hW : U.WarmedH (U.calling g mk a).vm := State.WarmedH.refl U
  exact ⟨h0, h1, va_K.moved (u := U) (U := U.calling g mk a) (Vm.Alike.refl U.vm) h2, mf_NG.warm (s := U) (U := U.calling g mk a) hW h3, mf_ST.moved (u := U) (U := U.calling g mk a) (Vm.Alike.refl U.vm) h4, h5⟩
theorem mf_preS {D : va_G} {tys : List (ClassId × FieldType)} {t0 : Nat × Nat} {A : Nat → Prop} {s : State} {H : Heap} {locs : List Loc} {As : List Value} (h : mf_Env D tys t0 A s) (hS : va_S A s.heap H locs) : PreS s H (va_Pc As (mf_P D tys t0 A H)) As :=
  ⟨mf_blind, fun U hU hW => ⟨rfl, h.at hS U hU hW⟩⟩
theorem mf_preV {D : va_G} {tys : List (ClassId × FieldType)} {t0 : Nat × Nat} {A : Nat → Prop} {s : State} {H : Heap} {locs : List Loc} {As : List Value} {b : Nat} {C : String} (h : mf_Env D tys t0 A s) (hS : va_S A s.heap H locs) (hr : ∃ cell : Cell, H[b]? = some cell ∧ cell.vm.isStatics = false ∧ s.vm.findClass C = some cell.cls) : PreV s H C b (va_Pc (.ref b :: As) (mf_P D tys t0 A H)) As :=
  ⟨mf_blind, hr, fun U hU hW => ⟨rfl, h.at hS U hU hW⟩⟩
-- words
def mf_ws (y : MethodName) (cc : ByteArray) (n : Nat) (r : Option FieldType) : List Cond := .code y cc n r :: mf_tb
theorem mf_good : ∀ w ∈ mf_tb, goodWord w = true := fun w h => (List.mem_filter.mp h).2
theorem mf_goodIn {ws : List Cond} {y : MethodName} {cc : ByteArray} {n : Nat} {r : Option FieldType} (hs : ∀ w ∈ mf_tb, w ∈ ws) (hy : Cond.code y cc n r ∈ mf_tb) : GoodIn ws (mf_ws y cc n r) := by
  intro w hw
  rcases List.mem_cons.mp hw with e | e
  · rw [e]; exact ⟨hs _ hy, good_of_word (mf_good _ hy)⟩
  · exact ⟨hs _ e, good_of_word (mf_good _ e)⟩
theorem mf_one {D : va_G} {cl : List vw_C} {q : Nat × va_E} {H : Heap} (h : va_at D cl q H) : va_P D cl [q] H := by
  intro k q' hk
  cases k with
  | zero => cases hk; exact h
  | succ k => simp at hk
/-- what a walk stands on: the machine, the code, the words, the class, the environment -/
def mf_Cx (p : Program) (s : State) (m : MethodId) (args : Array Value) (c : Code) (own : String) (cc : ByteArray) (nL : Nat) (D : va_G) (tys : List (ClassId × FieldType)) (t0 : Nat × Nat) (A : Nat → Prop) : Prop := p.tables.exec = Jvm.exec ∧ c.code = cc ∧ (∀ w ∈ mf_tb, w.before args s = true) ∧ s.vm.findClass own = some m.cls ∧ mf_Env D tys t0 A s ∧ c.maxLocals = nL
section MFR
variable {p : Program} {l : Launch} {e : Env} {R : Room} {s : State} {m : MethodId} {args : Array Value} {below : List Frame} {meth : Method} {c : Code} {H : Heap} {locs : List Loc} {cells slots : Nat} {Q : State → Prop}
variable {cc : ByteArray} {nL pc : Nat} {ls : Array Slot} {rest : List Value} {D : va_G} {t0 : Nat × Nat} {A : Nat → Prop} {a : Nat} {tys : List (ClassId × FieldType)} {own : String}
theorem mf_Cx.x (C : mf_Cx p s m args c own cc nL D tys t0 A) : p.tables.exec = Jvm.exec := C.1
theorem mf_Cx.b (C : mf_Cx p s m args c own cc nL D tys t0 A) : c.code = cc := C.2.1
theorem mf_Cx.t (C : mf_Cx p s m args c own cc nL D tys t0 A) {w : Cond} (h : w ∈ mf_tb) : w.before args s = true := C.2.2.1 w h
theorem mf_Cx.o (C : mf_Cx p s m args c own cc nL D tys t0 A) : s.vm.findClass own = some m.cls := C.2.2.2.1
theorem mf_Cx.ev (C : mf_Cx p s m args c own cc nL D tys t0 A) : mf_Env D tys t0 A s := C.2.2.2.2.1
theorem mf_Cx.k (C : mf_Cx p s m args c own cc nL D tys t0 A) : va_K D mf_cl tys s := C.2.2.2.2.1.1
theorem mf_Cx.nd (C : mf_Cx p s m args c own cc nL D tys t0 A) : (mf_ids D tys).Nodup := C.2.2.2.2.1.2.2.2.2
theorem mf_Cx.aa (C : mf_Cx p s m args c own cc nL D tys t0 A) : ∀ q, s.heap.size ≤ q → A q := C.2.2.2.2.1.2.2.2.1
theorem mf_Cx.f (C : mf_Cx p s m args c own cc nL D tys t0 A) : CallFix p m c cc nL s args mf_tb own := ⟨C.1, C.2.1, C.2.2.2.2.2, C.2.2.2.1, C.2.2.1⟩
/-- getfield of an own field -/
theorem mf_gf (C : mf_Cx p s m args c own cc nL D tys t0 A) {ci N : Nat} {R0 : String} {T : u_T} (hc : mf_cl[ci]? = some (R0, T, N)) (hin : ∀ w ∈ u_ws R0 T N, w ∈ mf_tb) (k : Nat) (hk : k < N) {index : Nat} (hl : Cond.fieldLink own index (T k).1 (T k).2.1 (T k).2.2.1 ∈ mf_tb) {fs : List Value} (hat : va_at D mf_cl (a, .inr (ci, fs)) H) {v : Value} (hv : fs[k]? = some v) (hdg : decode cc pc = .ok (.getfield index, 3))
    (kk : W p l e R s m args below meth c H locs cells slots Q (F0 m (pc + 3) ls (v :: rest))) : W p l e R s m args below meth c H locs cells slots Q (F0 m pc ls (.ref a :: rest)) :=
  va_get C.x C.b C.2.2.1 hin C.o C.k (mf_one hat) 0 rfl hc k hk (C.t hl) (fun _ h => h) hv hdg kk
/-- getfield of a nest mate's field -/
theorem mf_gfN (C : mf_Cx p s m args c own cc nL D tys t0 A) {ci N : Nat} {R0 : String} {T : u_T} (hc : mf_cl[ci]? = some (R0, T, N)) (hin : ∀ w ∈ u_ws R0 T N, w ∈ mf_tb) (k : Nat) (hk : k < N) {index : Nat} {host : String} (hl : va_Nw (.fieldLinkNest own index (T k).1 (T k).2.1 (T k).2.2.1 host) s) {fs : List Value} (hat : va_at D mf_cl (a, .inr (ci, fs)) H) {v : Value} (hv : fs[k]? = some v) (hdg : decode cc pc = .ok (.getfield index, 3))
    (kk : W p l e R s m args below meth c H locs cells slots Q (F0 m (pc + 3) ls (v :: rest))) : W p l e R s m args below meth c H locs cells slots Q (F0 m pc ls (.ref a :: rest)) :=
  va_getN C.x C.b C.2.2.1 hin C.o C.k (mf_one hat) 0 rfl hc k hk (hl.use rfl) (fun _ h => h) hv hdg kk
/-- the receiver of a call -/
theorem mf_rv (C : mf_Cx p s m args c own cc nL D tys t0 A) {ci N : Nat} {R0 : String} {T : u_T} (hc : mf_cl[ci]? = some (R0, T, N)) {fs : List Value} (hat : va_at D mf_cl (a, .inr (ci, fs)) H) : ∃ cell : Cell, H[a]? = some cell ∧ cell.vm.isStatics = false ∧ s.vm.findClass R0 = some cell.cls :=
  va_recv C.k (mf_one hat) hc (q0 := 0) rfl
end MFR
end
section
/-! contracts of this claim: an answer that is known, the heap as it was, or as B says -/
def mf_K (v : Option Value) : Array Value → State → Outcome → State → Prop := fun _ st o t => o = .returned v ∧ t.heap = st.heap
def mf_Kw (v : Option Value) (B : Heap → Prop) (A1 : Nat → Prop) : Array Value → State → Outcome → State → Prop := fun _ st o t => o = .returned v ∧ B t.heap ∧ va_F A1 st t
def mf_cRO (l : Launch) (y : MethodName) (cc : ByteArray) (n : Nat) (r : Option FieldType) (rm : Room) (D : va_G) (tys : List (ClassId × FieldType)) (t0 : Nat × Nat) (A : Nat → Prop) (H : Heap) (av : List Value) (v : Option Value) : Prop := Met l y (mf_ws y cc n r) rm (va_Pc av (mf_P D tys t0 A H)) (mf_K v) 0 0 (fun _ => False)
def mf_cWR (l : Launch) (y : MethodName) (cc : ByteArray) (n : Nat) (r : Option FieldType) (rm : Room) (D : va_G) (tys : List (ClassId × FieldType)) (t0 : Nat × Nat) (A : Nat → Prop) (H : Heap) (av : List Value) (v : Option Value) (B : Heap → Prop) (A1 : Nat → Prop) (mc ms : Nat) : Prop := Met l y (mf_ws y cc n r) rm (va_Pc av (mf_P D tys t0 A H)) (mf_Kw v B A1) mc ms A
/-- a contract by a walk -/
theorem mf_of {l : Launch} {y : MethodName} {cc : ByteArray} {n : Nat} {r : Option FieldType} {rm : Room} {D : va_G} {tys : List (ClassId × FieldType)} {t0 : Nat × Nat} {A : Nat → Prop} {H : Heap} {av : List Value} {Qc : Array Value → State → Outcome → State → Prop} {mc ms : Nat} {free : Addr → Prop} (hy : plainName y.cls = true) (hn : (lg_sl av).length ≤ n)
    (body : ∀ (p : Program) (e : Env) (s : State) (m : MethodId) (below : List Frame) (meth : Method) (c : Code) (ls : Array Slot), mf_Cx p s m av.toArray c y.cls cc n D tys t0 A → s.heap = H → meth.sig.returnType = r → meth.locks = false → s.methodNamed? y = some m → s.vm.method? m = some meth → lv_has ls n (lv_args 0 av) → va_S A s.heap H [] →
      W p l e rm s m av.toArray below meth c H [] 0 0 (MQ below Qc av.toArray s mc ms free) (F0 m 0 ls [])) : Met l y (mf_ws y cc n r) rm (va_Pc av (mf_P D tys t0 A H)) Qc mc ms free := by
  refine Met.ofW (cc := cc) (maxL := n) (ret := r) hy rfl ?_
  intro p e s m args below meth c s₁ B hml hv
  obtain ⟨rfl, hH, hE⟩ := hv
  have hts := atoms_spec (ws := mf_ws y cc n r) B.pre
  have hl := lv_entry av hn
  rw [lg_entry_eq]
  generalize (lg_sl av ++ List.replicate (n - (lg_sl av).length) Slot.unset).toArray = ls at hl ⊢
  rw [hH]
  exact body p e s m below meth c ls ⟨B.exec, B.bytes, fun w hw => hts w (List.mem_cons_of_mem _ hw), findClass_of_methodNamed B.named, hE, hml⟩ hH B.returns B.notSynchronized B.named B.method hl (by rw [hH]; exact va_S.rf)
section MFC
variable {p : Program} {l : Launch} {e : Env} {R : Room} {s : State} {m : MethodId} {args : Array Value} {below : List Frame} {meth : Method} {c : Code} {H : Heap} {locs : List Loc} {cells slots : Nat} {Q : State → Prop}
variable {cc : ByteArray} {nL pc : Nat} {ls : Array Slot} {rest st0 : List Value} {D : va_G} {t0 : Nat × Nat} {A : Nat → Prop} {a : Array Value} {tys : List (ClassId × FieldType)} {own : String}
theorem mf_cks {v : Value} (hr : va_Run p l e R s m args below meth c H locs cells slots 0 0 (F0 m pc ls st0) rest (mf_K (some v) a) (fun _ => False)) (kk : W p l e R s m args below meth c H locs cells slots Q (F0 m (pc + 3) ls (v :: rest))) : W p l e R s m args below meth c H locs cells slots Q (F0 m pc ls st0) := by
  intro T hT X
  obtain ⟨v', st₀, t, T', L, h0, X', hL, e1, e2, ⟨hv, hh⟩, st⟩ := hr T hT X
  cases hv
  obtain ⟨t2, a1, b1⟩ := kk T' (by rw [e1, hh, h0]) (Stand.forget X' (fun q h => (hL q h).elim))
  exact ⟨t2, st t2 a1, b1⟩
theorem mf_cws {v : Value} {B : Heap → Prop} {A1 : Nat → Prop} {mc ms : Nat} (hr : va_Run p l e R s m args below meth c H locs cells slots mc ms (F0 m pc ls st0) rest (mf_Kw (some v) B A1 a) A) (hS : va_S A s.heap H locs) (hA : ∀ q, q < H.size → A1 q → A q)
    (kk : ∀ (H1 : Heap) (locs1 : List Loc), B H1 → H.size ≤ H1.size → (∀ q : Nat, q < H.size → ¬ A1 q → H1[q]? = H[q]?) → va_S A s.heap H1 locs1 → W p l e R s m args below meth c H1 locs1 (cells + mc) (slots + ms) Q (F0 m (pc + 3) ls (v :: rest))) : W p l e R s m args below meth c H locs cells slots Q (F0 m pc ls st0) := by
  intro T hT X
  obtain ⟨v', st₀, t, T', L, h0, X', hL, e1, e2, ⟨hv, hb, hz, hk⟩, st⟩ := hr T hT X
  cases hv
  rw [h0] at hz hk
  obtain ⟨t2, a1, b1⟩ := kk T'.heap (locs ++ L) (by rw [e1]; exact hb) (by rw [e1]; exact hz) (fun q h1 h2 => by rw [e1]; exact hk q h1 h2)
    ⟨Nat.le_trans hS.1 (by rw [e1]; exact hz), fun q h1 h2 => by rw [e1, hk q (Nat.lt_of_lt_of_le h1 hS.1) (fun z => h2 (hA q (Nat.lt_of_lt_of_le h1 hS.1) z))]; exact hS.2.1 q h1 h2, fun q hq => by
      rcases List.mem_append.mp hq with h | h
      · exact hS.2.2 q h
      · exact hL q h⟩ T' rfl X'
  exact ⟨t2, st t2 a1, b1⟩
theorem mf_cwn {B : Heap → Prop} {A1 : Nat → Prop} {mc ms : Nat} (hr : va_Run p l e R s m args below meth c H locs cells slots mc ms (F0 m pc ls st0) rest (mf_Kw none B A1 a) A) (hS : va_S A s.heap H locs) (hA : ∀ q, q < H.size → A1 q → A q)
    (kk : ∀ (H1 : Heap) (locs1 : List Loc), B H1 → H.size ≤ H1.size → (∀ q : Nat, q < H.size → ¬ A1 q → H1[q]? = H[q]?) → va_S A s.heap H1 locs1 → W p l e R s m args below meth c H1 locs1 (cells + mc) (slots + ms) Q (F0 m (pc + 3) ls rest)) : W p l e R s m args below meth c H locs cells slots Q (F0 m pc ls st0) := by
  intro T hT X
  obtain ⟨v', st₀, t, T', L, h0, X', hL, e1, e2, ⟨hv, hb, hz, hk⟩, st⟩ := hr T hT X
  cases hv
  rw [h0] at hz hk
  obtain ⟨t2, a1, b1⟩ := kk T'.heap (locs ++ L) (by rw [e1]; exact hb) (by rw [e1]; exact hz) (fun q h1 h2 => by rw [e1]; exact hk q h1 h2)
    ⟨Nat.le_trans hS.1 (by rw [e1]; exact hz), fun q h1 h2 => by rw [e1, hk q (Nat.lt_of_lt_of_le h1 hS.1) (fun z => h2 (hA q (Nat.lt_of_lt_of_le h1 hS.1) z))]; exact hS.2.1 q h1 h2, fun q hq => by
      rcases List.mem_append.mp hq with h | h
      · exact hS.2.2 q h
      · exact hL q h⟩ T' rfl X'
  exact ⟨t2, st t2 a1, b1⟩
-- what a call asks of the words
variable {y : MethodName} {bytes : ByteArray} {maxL index n : Nat} {ret : Option FieldType} {rm : Room} {C0 : String}
abbrev mf_hd (y : MethodName) (n : Nat) : Prop := y.cls ≠ "java/lang/invoke/MethodHandle" ∧ y.cls ≠ "java/lang/invoke/VarHandle" ∧ (parseMethodDescriptor y.desc).map (fun d => d.parameters.length) = some n
theorem mf_cB (C : mf_Cx p s m args c own cc nL D tys t0 A) (hc : Cond.code y bytes maxL ret ∈ mf_tb) (hl : Cond.methodLink own index y ∈ mf_tb) (hn : Cond.initialized y.cls ∈ mf_tb) (hd : mf_hd y n) (hR : rm.frames + 1 ≤ R.frames ∧ 8 + (maxL + 11) + rm.locals ≤ R.locals) : CallB R s args own index y bytes maxL ret (mf_ws y bytes maxL ret) rm rm.cells rm.slots n :=
  callB_of n C.2.2.1 (mf_goodIn (fun _ h => h) hc) rfl rfl rfl (C.t hn) (C.t hl) hd hR
theorem mf_cV (C : mf_Cx p s m args c own cc nL D tys t0 A) (hc : Cond.code y bytes maxL ret ∈ mf_tb) (hl : Cond.methodLink own index y ∈ mf_tb) (hn : Cond.initialized y.cls ∈ mf_tb) (hi : Cond.instanceMethod y ∈ mf_tb) (hs : Cond.selects C0 y y ∈ mf_tb) (hd : mf_hd y n) (hR : rm.frames + 1 ≤ R.frames ∧ 8 + (maxL + 11) + rm.locals ≤ R.locals) : CallW R s args own C0 index y bytes maxL ret (mf_ws y bytes maxL ret) rm rm.cells rm.slots n :=
  ⟨mf_cB C hc hl hn hd hR, C.t hi, C.t hs⟩
theorem mf_cS (C : mf_Cx p s m args c own cc nL D tys t0 A) (hc : Cond.code y bytes maxL ret ∈ mf_tb) (hl : Cond.methodLink own index y ∈ mf_tb) (hn : Cond.initialized y.cls ∈ mf_tb) (hs : Cond.static y ∈ mf_tb) (hd : mf_hd y n) (hR : rm.frames + 1 ≤ R.frames ∧ 8 + (maxL + 11) + rm.locals ≤ R.locals) : CallB R s args own index y bytes maxL ret (mf_ws y bytes maxL ret) rm rm.cells rm.slots n ∧ (Cond.static y).before args s = true :=
  ⟨mf_cB C hc hl hn hd hR, C.t hs⟩
theorem mf_cI (C : mf_Cx p s m args c own cc nL D tys t0 A) (hc : Cond.code y bytes maxL none ∈ mf_tb) (hl : Cond.methodLink own index y ∈ mf_tb) (hn : Cond.initialized y.cls ∈ mf_tb) (hi : Cond.instanceMethod y ∈ mf_tb) (he : y.name = "<init>") (hd : mf_hd y n) (hR : rm.frames + 1 ≤ R.frames ∧ 8 + (maxL + 11) + rm.locals ≤ R.locals) : CallB R s args own index y bytes maxL none (mf_ws y bytes maxL none) rm rm.cells rm.slots n ∧ y.name = "<init>" ∧ (Cond.instanceMethod y).before args s = true :=
  ⟨mf_cB C hc hl hn hd hR, he, C.t hi⟩
theorem mf_cN (C : mf_Cx p s m args c own cc nL D tys t0 A) {host : String} (hc : Cond.code y bytes maxL ret ∈ mf_tb) (hl : va_Nw (.methodLinkNest own index y host) s) (hn : Cond.initialized y.cls ∈ mf_tb) (hd : mf_hd y n) (hR : rm.frames + 1 ≤ R.frames ∧ 8 + (maxL + 11) + rm.locals ≤ R.locals) : va_CN R s args own index y host bytes maxL ret (mf_ws y bytes maxL ret) rm rm.cells rm.slots n :=
  va_cnB n C.2.2.1 (mf_goodIn (fun _ h => h) hc) rfl rfl rfl hl (C.t hn) hd hR
-- ends
theorem mf_ri {v : Int32} (hx : p.tables.exec = Jvm.exec) (hb : c.code = cc) (hH : s.heap = H) (hr : meth.sig.returnType = some .int) (hlk : meth.locks = false) (hdg : decode cc pc = .ok (.ireturn, 1)) : W p l e R s m args below meth c H [] 0 0 (MQ below (mf_K (some (.int v))) args s 0 0 (fun _ => False)) (F0 m pc ls [.int v]) :=
  W.iret hx hb hr (fun t ht _ => ⟨rfl, ht.trans hH.symm⟩) (fun q h => by cases h) hdg hlk
theorem mf_rz {v : Int32} (hx : p.tables.exec = Jvm.exec) (hb : c.code = cc) (hH : s.heap = H) (hr : meth.sig.returnType = some .boolean) (hlk : meth.locks = false) (hn : narrow .boolean (.int v) = .int v) (hdg : decode cc pc = .ok (.ireturn, 1)) : W p l e R s m args below meth c H [] 0 0 (MQ below (mf_K (some (.int v))) args s 0 0 (fun _ => False)) (F0 m pc ls [.int v]) :=
  W.zret hx hb hr hn (fun t ht _ => ⟨rfl, ht.trans hH.symm⟩) (fun q h => by cases h) hdg hlk
end MFC
end
section
/-! descriptors of the methods -/
/-- an order's fields -/
abbrev mf_fs (o : mf_O) : List Value := [.int (mf_id o), .int (mf_ow o), .int (mf_sd o), .int (mf_wt o), .int (mf_pr o), .int (mf_lf o)]
theorem mh_F_init : mf_hd my_F_init 0 := ⟨by decide, by decide, by decide +kernel⟩
theorem mh_A_init : mf_hd my_A_init 0 := ⟨by decide, by decide, by decide +kernel⟩
theorem mh_AL_init : mf_hd my_AL_init 0 := ⟨by decide, by decide, by decide +kernel⟩
theorem mh_AC_init : mf_hd my_AC_init 0 := ⟨by decide, by decide, by decide +kernel⟩
theorem mh_T_init : mf_hd my_T_init 0 := ⟨by decide, by decide, by decide +kernel⟩
theorem mh_F_fills : mf_hd my_F_fills 0 := ⟨by decide, by decide, by decide +kernel⟩
theorem mh_F_last : mf_hd my_F_last 0 := ⟨by decide, by decide, by decide +kernel⟩
theorem mh_F_turnover : mf_hd my_F_turnover 0 := ⟨by decide, by decide, by decide +kernel⟩
theorem mh_L_submit : mf_hd my_L_submit 6 := ⟨by decide, by decide, by decide +kernel⟩
theorem mh_F_submit : mf_hd my_F_submit 4 := ⟨by decide, by decide, by decide +kernel⟩
theorem mh_F_kindOf : mf_hd my_F_kindOf 1 := ⟨by decide, by decide, by decide +kernel⟩
theorem mh_F_isPrice : mf_hd my_F_isPrice 1 := ⟨by decide, by decide, by decide +kernel⟩
theorem mh_F_isQuantity : mf_hd my_F_isQuantity 1 := ⟨by decide, by decide, by decide +kernel⟩
theorem mh_F_placeOf : mf_hd my_F_placeOf 1 := ⟨by decide, by decide, by decide +kernel⟩
theorem mh_A_size : mf_hd my_A_size 0 := ⟨by decide, by decide, by decide +kernel⟩
theorem mh_A_get : mf_hd my_A_get 1 := ⟨by decide, by decide, by decide +kernel⟩
theorem mh_Ob_checkIndex : mf_hd my_Ob_checkIndex 2 := ⟨by decide, by decide, by decide +kernel⟩
theorem mh_Pc_checkIndex : mf_hd my_Pc_checkIndex 3 := ⟨by decide, by decide, by decide +kernel⟩
theorem mh_A_elementData : mf_hd my_A_elementData 1 := ⟨by decide, by decide, by decide +kernel⟩
theorem mh_O_init : mf_hd my_O_init 6 := ⟨by decide, by decide, by decide +kernel⟩
theorem mh_F_isRefused : mf_hd my_F_isRefused 2 := ⟨by decide, by decide, by decide +kernel⟩
theorem mh_F_leftFor : mf_hd my_F_leftFor 1 := ⟨by decide, by decide, by decide +kernel⟩
theorem mh_F_otherSide : mf_hd my_F_otherSide 1 := ⟨by decide, by decide, by decide +kernel⟩
theorem mh_O_restsOn : mf_hd my_O_restsOn 1 := ⟨by decide, by decide, by decide +kernel⟩
theorem mh_O_isFitBy : mf_hd my_O_isFitBy 1 := ⟨by decide, by decide, by decide +kernel⟩
theorem mh_F_isBetter : mf_hd my_F_isBetter 3 := ⟨by decide, by decide, by decide +kernel⟩
theorem mh_F_placeOfFirst : mf_hd my_F_placeOfFirst 1 := ⟨by decide, by decide, by decide +kernel⟩
theorem mh_F_comeIn : mf_hd my_F_comeIn 2 := ⟨by decide, by decide, by decide +kernel⟩
theorem mh_F_match : mf_hd my_F_match 2 := ⟨by decide, by decide, by decide +kernel⟩
theorem mh_F_meet : mf_hd my_F_meet 2 := ⟨by decide, by decide, by decide +kernel⟩
theorem mh_A_remove : mf_hd my_A_remove 1 := ⟨by decide, by decide, by decide +kernel⟩
theorem mh_A_fastRemove : mf_hd my_A_fastRemove 2 := ⟨by decide, by decide, by decide +kernel⟩
theorem mh_Ma_min : mf_hd my_Ma_min 2 := ⟨by decide, by decide, by decide +kernel⟩
theorem mh_T_write : mf_hd my_T_write 4 := ⟨by decide, by decide, by decide +kernel⟩
theorem mh_Ma_floorMod : mf_hd my_Ma_floorMod 2 := ⟨by decide, by decide, by decide +kernel⟩
theorem mh_A_add : mf_hd my_A_add 1 := ⟨by decide, by decide, by decide +kernel⟩
theorem mh_A_add2 : mf_hd my_A_add2 3 := ⟨by decide, by decide, by decide +kernel⟩
theorem mh_A_grow : mf_hd my_A_grow 0 := ⟨by decide, by decide, by decide +kernel⟩
theorem mh_A_grow1 : mf_hd my_A_grow1 1 := ⟨by decide, by decide, by decide +kernel⟩
theorem mh_As_newLength : mf_hd my_As_newLength 3 := ⟨by decide, by decide, by decide +kernel⟩
theorem mh_Ma_max : mf_hd my_Ma_max 2 := ⟨by decide, by decide, by decide +kernel⟩
theorem mh_As_hugeLength : mf_hd my_As_hugeLength 2 := ⟨by decide, by decide, by decide +kernel⟩
theorem mh_Ar_copyOf : mf_hd my_Ar_copyOf 2 := ⟨by decide, by decide, by decide +kernel⟩
theorem mh_Ar_copyOf2 : mf_hd my_Ar_copyOf2 3 := ⟨by decide, by decide, by decide +kernel⟩
theorem mh_F_matchDueStops : mf_hd my_F_matchDueStops 0 := ⟨by decide, by decide, by decide +kernel⟩
theorem mh_F_placeOfDue : mf_hd my_F_placeOfDue 0 := ⟨by decide, by decide, by decide +kernel⟩
theorem mh_O_isDueAt : mf_hd my_O_isDueAt 1 := ⟨by decide, by decide, by decide +kernel⟩
theorem mh_L_cancel : mf_hd my_L_cancel 3 := ⟨by decide, by decide, by decide +kernel⟩
theorem mh_F_cancel : mf_hd my_F_cancel 1 := ⟨by decide, by decide, by decide +kernel⟩
theorem mh_L_amend : mf_hd my_L_amend 5 := ⟨by decide, by decide, by decide +kernel⟩
theorem mh_F_amend : mf_hd my_F_amend 3 := ⟨by decide, by decide, by decide +kernel⟩
theorem mh_L_withdraw : mf_hd my_L_withdraw 3 := ⟨by decide, by decide, by decide +kernel⟩
theorem mh_F_withdraw : mf_hd my_F_withdraw 1 := ⟨by decide, by decide, by decide +kernel⟩
theorem mh_L_levels : mf_hd my_L_levels 3 := ⟨by decide, by decide, by decide +kernel⟩
theorem mh_F_levels : mf_hd my_F_levels 1 := ⟨by decide, by decide, by decide +kernel⟩
theorem mh_F_isSide : mf_hd my_F_isSide 1 := ⟨by decide, by decide, by decide +kernel⟩
theorem mh_F_countLevels : mf_hd my_F_countLevels 1 := ⟨by decide, by decide, by decide +kernel⟩
theorem mh_F_nextPrice : mf_hd my_F_nextPrice 2 := ⟨by decide, by decide, by decide +kernel⟩
theorem mh_L_level : mf_hd my_L_level 5 := ⟨by decide, by decide, by decide +kernel⟩
theorem mh_F_level : mf_hd my_F_level 3 := ⟨by decide, by decide, by decide +kernel⟩
theorem mh_F_priceOfLevel : mf_hd my_F_priceOfLevel 2 := ⟨by decide, by decide, by decide +kernel⟩
theorem mh_F_leftAt : mf_hd my_F_leftAt 2 := ⟨by decide, by decide, by decide +kernel⟩
theorem mh_F_ordersAt : mf_hd my_F_ordersAt 2 := ⟨by decide, by decide, by decide +kernel⟩
theorem mh_L_order : mf_hd my_L_order 4 := ⟨by decide, by decide, by decide +kernel⟩
theorem mh_F_order : mf_hd my_F_order 2 := ⟨by decide, by decide, by decide +kernel⟩
theorem mh_F_ordersBefore : mf_hd my_F_ordersBefore 1 := ⟨by decide, by decide, by decide +kernel⟩
theorem mh_O_queuesWith : mf_hd my_O_queuesWith 1 := ⟨by decide, by decide, by decide +kernel⟩
theorem mh_L_fill : mf_hd my_L_fill 4 := ⟨by decide, by decide, by decide +kernel⟩
theorem mh_F_fill : mf_hd my_F_fill 2 := ⟨by decide, by decide, by decide +kernel⟩
theorem mh_T_read : mf_hd my_T_read 2 := ⟨by decide, by decide, by decide +kernel⟩
theorem mh_L_figure : mf_hd my_L_figure 3 := ⟨by decide, by decide, by decide +kernel⟩
theorem mh_F_figure : mf_hd my_F_figure 1 := ⟨by decide, by decide, by decide +kernel⟩
theorem mh_F_countWaiting : mf_hd my_F_countWaiting 0 := ⟨by decide, by decide, by decide +kernel⟩
theorem mh_M_init : mf_hd my_M_init 0 := ⟨by decide, by decide, by decide +kernel⟩
theorem mh_M_thrown : mf_hd my_M_thrown 0 := ⟨by decide, by decide, by decide +kernel⟩
theorem mh_M_submit : mf_hd my_M_submit 4 := ⟨by decide, by decide, by decide +kernel⟩
theorem mh_M_among : mf_hd my_M_among 3 := ⟨by decide, by decide, by decide +kernel⟩
theorem mh_M_find : mf_hd my_M_find 1 := ⟨by decide, by decide, by decide +kernel⟩
theorem mh_M_refused : mf_hd my_M_refused 5 := ⟨by decide, by decide, by decide +kernel⟩
theorem mh_M_within : mf_hd my_M_within 3 := ⟨by decide, by decide, by decide +kernel⟩
theorem mh_M_fits : mf_hd my_M_fits 3 := ⟨by decide, by decide, by decide +kernel⟩
theorem mh_M_first : mf_hd my_M_first 1 := ⟨by decide, by decide, by decide +kernel⟩
theorem mh_M_comesBefore : mf_hd my_M_comesBefore 2 := ⟨by decide, by decide, by decide +kernel⟩
theorem mh_M_match : mf_hd my_M_match 5 := ⟨by decide, by decide, by decide +kernel⟩
theorem mh_M_drop : mf_hd my_M_drop 1 := ⟨by decide, by decide, by decide +kernel⟩
theorem mh_M_tell : mf_hd my_M_tell 3 := ⟨by decide, by decide, by decide +kernel⟩
theorem mh_M_keep : mf_hd my_M_keep 5 := ⟨by decide, by decide, by decide +kernel⟩
theorem mh_M_runStops : mf_hd my_M_runStops 0 := ⟨by decide, by decide, by decide +kernel⟩
theorem mh_M_earliestDue : mf_hd my_M_earliestDue 0 := ⟨by decide, by decide, by decide +kernel⟩
theorem mh_M_isDue : mf_hd my_M_isDue 1 := ⟨by decide, by decide, by decide +kernel⟩
theorem mh_M_cancel : mf_hd my_M_cancel 1 := ⟨by decide, by decide, by decide +kernel⟩
theorem mh_M_amend : mf_hd my_M_amend 3 := ⟨by decide, by decide, by decide +kernel⟩
theorem mh_M_withdraw : mf_hd my_M_withdraw 1 := ⟨by decide, by decide, by decide +kernel⟩
theorem mh_M_levels : mf_hd my_M_levels 1 := ⟨by decide, by decide, by decide +kernel⟩
theorem mh_M_nextPrice : mf_hd my_M_nextPrice 2 := ⟨by decide, by decide, by decide +kernel⟩
theorem mh_M_level : mf_hd my_M_level 3 := ⟨by decide, by decide, by decide +kernel⟩
theorem mh_M_order : mf_hd my_M_order 2 := ⟨by decide, by decide, by decide +kernel⟩
theorem mh_M_fill : mf_hd my_M_fill 2 := ⟨by decide, by decide, by decide +kernel⟩
theorem mh_M_fills : mf_hd my_M_fills 0 := ⟨by decide, by decide, by decide +kernel⟩
theorem mh_M_last : mf_hd my_M_last 0 := ⟨by decide, by decide, by decide +kernel⟩
theorem mh_M_turnover : mf_hd my_M_turnover 0 := ⟨by decide, by decide, by decide +kernel⟩
theorem mh_M_figure : mf_hd my_M_figure 1 := ⟨by decide, by decide, by decide +kernel⟩
end
section
/-! frames by the classes of the cells -/
theorem mf_nd {l : List ClassId} (h : l.Nodup) {i j : Nat} {a b : ClassId} (hi : l[i]? = some a) (hj : l[j]? = some b) (hij : i ≠ j) : a ≠ b := by
  intro e
  subst e
  obtain ⟨h1, e1⟩ := List.getElem?_eq_some_iff.mp hi
  obtain ⟨h2, e2⟩ := List.getElem?_eq_some_iff.mp hj
  rcases Nat.lt_or_ge i j with q | q
  · exact (List.pairwise_iff_getElem.mp h i j h1 h2 q) (e1.trans e2.symm)
  · exact (List.pairwise_iff_getElem.mp h j i h2 h1 (by omega)) (e2.trans e1.symm)
def mf_co (H : Heap) (q : Nat) : Option ClassId := (H[q]?).map (fun c => c.cls)
theorem mf_co_o {D : va_G} {a ci : Nat} {fs : List Value} {H : Heap} (h : va_at D mf_cl (a, .inr (ci, fs)) H) : mf_co H a = some (D.1 ci) := by
  obtain ⟨r, -, cell, h1, h2, -⟩ := h
  show (H[a]?).map _ = _
  rw [h1]
  exact congrArg some h2
theorem mf_co_a {D : va_G} {a : Nat} {cA : ClassId} {x : vp_A} {H : Heap} (h : va_at D mf_cl (a, .inl (cA, x)) H) : mf_co H a = some cA := by
  have h1 : H[a]? = some (vp_cell cA x) := h
  show (H[a]?).map _ = _
  rw [h1]
  obtain ⟨n, f | f | f | f | f⟩ := x <;> rfl
/-- the cells of A that are new, or of one of these classes -/
def mf_fr (A : Nat → Prop) (H : Heap) (L : List ClassId) : Nat → Prop := fun q => A q ∧ (H.size ≤ q ∨ ∃ k ∈ L, mf_co H q = some k)
def mf_Eq (A : Nat → Prop) (L : List ClassId) (H H1 : Heap) : Prop := H.size ≤ H1.size ∧ ∀ q, q < H.size → ¬ mf_fr A H L q → H1[q]? = H[q]?
theorem mf_Eq.rf {A : Nat → Prop} {L : List ClassId} {H : Heap} : mf_Eq A L H H := ⟨Nat.le_refl _, fun _ _ _ => rfl⟩
theorem mf_Eq.tr {A : Nat → Prop} {L1 L2 L : List ClassId} {H H1 H2 : Heap} (h1 : mf_Eq A L1 H H1) (h2 : mf_Eq A L2 H1 H2) (s1 : ∀ k ∈ L1, k ∈ L) (s2 : ∀ k ∈ L2, k ∈ L) : mf_Eq A L H H2 := by
  refine ⟨Nat.le_trans h1.1 h2.1, fun q hq hn => ?_⟩
  have e1 := h1.2 q hq (fun z => hn ⟨z.1, z.2.elim Or.inl (fun ⟨k, a, b⟩ => Or.inr ⟨k, s1 k a, b⟩)⟩)
  rw [h2.2 q (Nat.lt_of_lt_of_le hq h1.1) (fun z => hn ⟨z.1, Or.inr ?_⟩), e1]
  rcases z.2 with y | ⟨k, a, b⟩
  · have := h1.1; omega
  · refine ⟨k, s2 k a, ?_⟩
    unfold mf_co at b ⊢
    rw [← e1]; exact b
theorem mf_Eq.ko {A : Nat → Prop} {L : List ClassId} {H H1 : Heap} (h : mf_Eq A L H H1) {D : va_G} {a ci : Nat} {fs : List Value} (hat : va_at D mf_cl (a, .inr (ci, fs)) H) (hn : D.1 ci ∉ L) : va_at D mf_cl (a, .inr (ci, fs)) H1 := by
  refine hat.kept (h.2 a hat.lt fun z => ?_)
  rcases z.2 with y | ⟨k, y, w⟩
  · exact absurd y (Nat.not_le.mpr hat.lt)
  · rw [mf_co_o hat] at w
    cases w
    exact hn y
theorem mf_Eq.ka {A : Nat → Prop} {L : List ClassId} {H H1 : Heap} (h : mf_Eq A L H H1) {D : va_G} {a : Nat} {cA : ClassId} {x : vp_A} (hat : va_at D mf_cl (a, .inl (cA, x)) H) (hn : cA ∉ L) : va_at D mf_cl (a, .inl (cA, x)) H1 := by
  refine hat.kept (h.2 a hat.lt fun z => ?_)
  rcases z.2 with y | ⟨k, y, w⟩
  · exact absurd y (Nat.not_le.mpr hat.lt)
  · rw [mf_co_a hat] at w
    cases w
    exact hn y
/-- one cell was written -/
theorem mf_Eq.one {A : Nat → Prop} {H H1 : Heap} {a : Nat} {k : ClassId} (hz : H1.size = H.size) (ho : ∀ q, q ≠ a → H1[q]? = H[q]?) (ha : A a) (hc : mf_co H a = some k) : mf_Eq A [k] H H1 := by
  refine ⟨Nat.le_of_eq hz.symm, fun q hq hn => ho q fun e => hn ?_⟩
  subst e
  exact ⟨ha, Or.inr ⟨k, List.mem_cons_self, hc⟩⟩
theorem mf_ne_c {H : Heap} {a b : Nat} {k1 k2 : ClassId} (h1 : mf_co H a = some k1) (h2 : mf_co H b = some k2) (h : k1 ≠ k2) : a ≠ b := by
  intro e
  subst e
  exact h (Option.some.inj (h1.symm.trans h2))
-- the list
def mf_AL (D : va_G) (k5 : mf_k5) (t0 : Nat × Nat) (A : Nat → Prop) (H : Heap) (al : Nat) (as : List Nat) : Prop := ∃ (ed : Nat) (mc : Int32), va_at D mf_cl (al, .inr (0, [.ref ed, .int (nI as.length), .int mc])) H ∧ A al ∧ as.length ≤ 40 ∧ ((as = [] ∧ ed = t0.1) ∨ ∃ (cap : Nat) (f : Nat → Option Nat), va_at D mf_cl (ed, .inl (k5.1, cap, .inr (.inr (.inr (.inr f))))) H ∧ A ed ∧ as.length ≤ cap ∧ 10 ≤ cap ∧ cap ≤ 60 ∧ ∀ i a, as[i]? = some a → f i = some a)
section MFS
variable {p : Program} {l : Launch} {e : Env} {R : Room} {s : State} {m : MethodId} {args : Array Value} {below : List Frame} {meth : Method} {c : Code} {H : Heap} {locs : List Loc} {cells slots : Nat} {Q : State → Prop}
variable {cc : ByteArray} {nL pc : Nat} {ls : Array Slot} {rest : List Value} {D : va_G} {t0 : Nat × Nat} {A : Nat → Prop} {a : Nat} {tys : List (ClassId × FieldType)} {own : String}
/-- aaload, the place's address known -/
theorem mf_aald (C : mf_Cx p s m args c own cc nL D tys t0 A) {cA : ClassId} {C1 : String} {t n i : Nat} {f : Nat → Option Nat} (ht : tys[t]? = some (cA, .object C1)) (hat : va_at D mf_cl (a, .inl (cA, n, .inr (.inr (.inr (.inr f))))) H) (hi : i < n) (hn : n < 2 ^ 31) {b : Nat} (hf : f i = some b) (hdg : decode cc pc = .ok (.aaload, 1))
    (kk : W p l e R s m args below meth c H locs cells slots Q (F0 m (pc + 1) ls (.ref b :: rest))) : W p l e R s m args below meth c H locs cells slots Q (F0 m pc ls (.int (nI i) :: .ref a :: rest)) := by
  refine va_aldq C.x C.b C.k (mf_one hat) 0 t rfl ht (vp_in_nI hi hn) hdg ?_
  rw [nI_clamp (by omega), hf]
  exact kk
theorem mf_ra {v : Nat} {rt : FieldType} (hx : p.tables.exec = Jvm.exec) (hb : c.code = cc) (hH : s.heap = H) (hr : meth.sig.returnType = some rt) (hrt : (∃ n, rt = .object n) ∨ ∃ t, rt = .array t) (hlk : meth.locks = false) (hdg : decode cc pc = .ok (.areturn, 1)) : W p l e R s m args below meth c H [] 0 0 (MQ below (mf_K (some (.ref v))) args s 0 0 (fun _ => False)) (F0 m pc ls [.ref v]) :=
  W.aret hx hb hr hrt (Or.inr ⟨v, rfl⟩) (fun t ht _ => ⟨rfl, ht.trans hH.symm⟩) (fun q h => by cases h) hdg hlk
theorem mf_rl {v : Int64} (hx : p.tables.exec = Jvm.exec) (hb : c.code = cc) (hH : s.heap = H) (hr : meth.sig.returnType = some .long) (hlk : meth.locks = false) (hdg : decode cc pc = .ok (.lreturn, 1)) : W p l e R s m args below meth c H [] 0 0 (MQ below (mf_K (some (.long v))) args s 0 0 (fun _ => False)) (F0 m pc ls [.long v]) :=
  W.lret hx hb hr (fun t ht _ => ⟨rfl, ht.trans hH.symm⟩) (fun q h => by cases h) hdg hlk
/-- checkcast of an object of that very class -/
theorem mf_cast (C : mf_Cx p s m args c own cc nL D tys t0 A) {ci N : Nat} {R0 : String} {T : u_T} (hc : mf_cl[ci]? = some (R0, T, N)) {index : Nat} (hl : Cond.classLink own index R0 ∈ mf_tb) {fs : List Value} (hat : va_at D mf_cl (a, .inr (ci, fs)) H) (hdg : decode cc pc = .ok (.checkcast index, 3))
    (kk : W p l e R s m args below meth c H locs cells slots Q (F0 m (pc + 3) ls (.ref a :: rest))) : W p l e R s m args below meth c H locs cells slots Q (F0 m pc ls (.ref a :: rest)) :=
  va_castS C.x C.b C.o (C.t hl) (C.k.1 ci _ hc).2 (mf_rv C hc hat) hdg kk
/-- putfield of an own field -/
theorem mf_pf (C : mf_Cx p s m args c own cc nL D tys t0 A) {ci N : Nat} {R0 : String} {T : u_T} (hc : mf_cl[ci]? = some (R0, T, N)) (hin : ∀ w ∈ u_ws R0 T N, w ∈ mf_tb) {ty0 : Nat → FieldType} (hty : ∀ k, k < N → parseFieldDescriptor (T k).2.2.1 = some (ty0 k)) (hnm : ∀ a, a < N → ∀ b, b < N → a ≠ b → (T a).2.1 ≠ (T b).2.1) (k : Nat) (hk : k < N) {index : Nat} (hl : Cond.fieldLink own index (T k).1 (T k).2.1 (T k).2.2.1 ∈ mf_tb) (hfin : (T k).2.2.2 = false) {v : Value} (hn : narrow (ty0 k) v = v) (hfit : fits (ty0 k) v = true) {fs fs' : List Value} (hat : va_at D mf_cl (a, .inr (ci, fs)) H) (hlen : k < fs.length) (hfs : fs.set k v = fs') (hS : va_S A s.heap H locs) (ha : A a) (hdg : decode cc pc = .ok (.putfield index, 3))
    (kk : ∀ (H1 : Heap) (locs1 : List Loc), va_at D mf_cl (a, .inr (ci, fs')) H1 → H1.size = H.size → (∀ q, q ≠ a → H1[q]? = H[q]?) → va_S A s.heap H1 locs1 → W p l e R s m args below meth c H1 locs1 cells slots Q (F0 m (pc + 3) ls rest)) : W p l e R s m args below meth c H locs cells slots Q (F0 m pc ls (v :: .ref a :: rest)) := by
  subst hfs
  have hap := va_apart (own := own) C.2.2.1 hin ty0 hty hnm C.k hc
  obtain ⟨r, h1, cell, q1, q2, q3, q4⟩ := hat
  obtain rfl : r = (R0, T, N) := Option.some.inj (h1.symm.trans hc)
  obtain ⟨hSl, hfc, kC, hkC, hkind⟩ := C.k.1 ci _ hc
  obtain ⟨cf, kf, fi, f, hi, hsl⟩ := hSl k hk
  have hlay := C.2.2.1 _ (hin _ (u_in_lay hk))
  unfold u_lay at hlay
  rw [if_neg (by rw [hfin]; decide)] at hlay
  have hst := (u_facts hfc hkC (u_lays C.2.2.1 hin hk) hi).1
  have h6 := u_store hfc hkC hkind hlay hi (hty k hk) hn hfit
  refine W.putK C.x C.b (f := f) ⟨C.o, C.t hl, ⟨_, _, _, hi⟩, hst⟩ (by rw [q2]; exact h6) q1 q3 (by rw [hsl]; exact k2_hasslot (q4 k hk)) rfl rfl hdg fun H' e1 e2 e3 => ?_
  rw [hsl] at e1 ⊢
  exact kk H' _ ⟨_, hc, t_OB.to (V := updV (vp_V fs) k v) ⟨_, e1, q2, q3, t_set q4 hap hk v⟩ (fun j _ => vp_updV_set hlen v j)⟩ e2 e3 (hS.put e2 e3 ha)
/-- putfield of a nest mate's field -/
theorem mf_pfN (C : mf_Cx p s m args c own cc nL D tys t0 A) {ci N : Nat} {R0 : String} {T : u_T} (hc : mf_cl[ci]? = some (R0, T, N)) (hin : ∀ w ∈ u_ws R0 T N, w ∈ mf_tb) {ty0 : Nat → FieldType} (hty : ∀ k, k < N → parseFieldDescriptor (T k).2.2.1 = some (ty0 k)) (hnm : ∀ a, a < N → ∀ b, b < N → a ≠ b → (T a).2.1 ≠ (T b).2.1) (k : Nat) (hk : k < N) {index : Nat} {host : String} (hl : va_Nw (.fieldLinkNest own index (T k).1 (T k).2.1 (T k).2.2.1 host) s) (hfin : (T k).2.2.2 = false) {v : Value} (hn : narrow (ty0 k) v = v) (hfit : fits (ty0 k) v = true) {fs fs' : List Value} (hat : va_at D mf_cl (a, .inr (ci, fs)) H) (hlen : k < fs.length) (hfs : fs.set k v = fs') (hS : va_S A s.heap H locs) (ha : A a) (hdg : decode cc pc = .ok (.putfield index, 3))
    (kk : ∀ (H1 : Heap) (locs1 : List Loc), va_at D mf_cl (a, .inr (ci, fs')) H1 → H1.size = H.size → (∀ q, q ≠ a → H1[q]? = H[q]?) → va_S A s.heap H1 locs1 → W p l e R s m args below meth c H1 locs1 cells slots Q (F0 m (pc + 3) ls rest)) : W p l e R s m args below meth c H locs cells slots Q (F0 m pc ls (v :: .ref a :: rest)) := by
  subst hfs
  have hap := va_apart (own := own) C.2.2.1 hin ty0 hty hnm C.k hc
  obtain ⟨r, h1, cell, q1, q2, q3, q4⟩ := hat
  obtain rfl : r = (R0, T, N) := Option.some.inj (h1.symm.trans hc)
  obtain ⟨hSl, hfc, kC, hkC, hkind⟩ := C.k.1 ci _ hc
  obtain ⟨cf, kf, fi, f, hi, hsl⟩ := hSl k hk
  have hlay := C.2.2.1 _ (hin _ (u_in_lay hk))
  unfold u_lay at hlay
  rw [if_neg (by rw [hfin]; decide)] at hlay
  have hst := (u_facts hfc hkC (u_lays C.2.2.1 hin hk) hi).1
  have h6 := u_store hfc hkC hkind hlay hi (hty k hk) hn hfit
  refine va_WputK C.x C.b (f := f) C.o (hl.use rfl) hi hst (by rw [q2]; exact h6) q1 q3 (by rw [hsl]; exact k2_hasslot (q4 k hk)) rfl rfl hdg fun H' e1 e2 e3 => ?_
  rw [hsl] at e1 ⊢
  exact kk H' _ ⟨_, hc, t_OB.to (V := updV (vp_V fs) k v) ⟨_, e1, q2, q3, t_set q4 hap hk v⟩ (fun j _ => vp_updV_set hlen v j)⟩ e2 e3 (hS.put e2 e3 ha)
end MFS
end
section
/-! the class's book, read -/
def mf_CL (D : va_G) (k5 : mf_k5) (t0 : Nat × Nat) (A : Nat → Prop) (H : Heap) (x al tp : Nat) (due met : Int32) (ks : List (Nat × mf_O)) : Prop := va_at D mf_cl (x, .inr (3, [.ref al, .ref tp, .int due, .int met])) H ∧ A x ∧ mf_AL D k5 t0 A H al (ks.map (fun q => q.1)) ∧ (∀ q ∈ ks, va_at D mf_cl (q.1, .inr (1, mf_fs q.2)) H ∧ A q.1) ∧ (ks.map (fun q => q.1)).Nodup
abbrev mf_L (ks : List (Nat × mf_O)) : List mf_O := ks.map (fun q => q.2)
def mf_ix {α : Type} (o : Option (Nat × α)) : Int32 := mf_oI (o.map (fun q => q.1))
theorem mf_nI_ne {j : Nat} (h : j < 2 ^ 31) : ¬ nI j = -1 := by
  intro e
  have h1 := nI_toInt h
  rw [e] at h1
  have h2 : (-1 : Int32).toInt = -1 := by decide
  omega
theorem mf_kq {ks : List (Nat × mf_O)} {k a : Nat} {o : mf_O} (h : ks[k]? = some (a, o)) : (ks.map (fun q => q.1))[k]? = some a := by
  rw [List.getElem?_map, h]; rfl
theorem mf_kl {ks : List (Nat × mf_O)} {k a : Nat} {o : mf_O} (h : ks[k]? = some (a, o)) : (mf_L ks)[k]? = some o := by
  show (ks.map _)[k]? = _
  rw [List.getElem?_map, h]; rfl
theorem mf_kt {ks : List (Nat × mf_O)} : (mf_L ks).take ks.length = mf_L ks := by
  have h : (mf_L ks).length = ks.length := List.length_map _
  rw [← h, List.take_length]
theorem mf_pick_lt {α : Type} {ok : α → Bool} {lt : α → α → Bool} {l : List α} {k j : Nat} {y : α} (h : mf_pick ok lt (l.take k) = some (j, y)) : j < k := by
  have h1 := ((mf_pick_in ok lt (l.take k)).2 j y h).1
  have h2 := (List.getElem?_eq_some_iff.mp h1).1
  rw [List.length_take] at h2
  omega
theorem mf_step {α : Type} {ok : α → Bool} {lt : α → α → Bool} {l : List α} {k : Nat} {x : α} {r r' : Option (Nat × α)} (h : l[k]? = some x) (hr : mf_pick ok lt (l.take k) = r) (e : (if ok x && mf_cmp lt x r then some (k, x) else r) = r') : mf_pick ok lt (l.take (k + 1)) = r' := by
  rw [mf_pick_take _ _ h, hr]; exact e
theorem mf_sstep {α : Type} {f : α → Int32} {l : List α} {k : Nat} {x : α} {r r' : Int32} (h : l[k]? = some x) (hr : mf_sum f (l.take k) = r) (e : r + f x = r') : mf_sum f (l.take (k + 1)) = r' := by
  rw [mf_sum_take _ h, hr]; exact e
def mf_TP (D : va_G) (k5 : mf_k5) (A : Nat → Prop) (H : Heap) (tp : Nat) (g : mf_G) : Prop := ∃ (rw : Nat) (rr : Nat → Nat) (rf : Nat → Option Nat) (rx : Nat → Nat → Int32), va_at D mf_cl (tp, .inr (2, [.ref rw, .int (nI g.1), .int g.2.1, .int g.2.2.1, .long g.2.2.2.1])) H ∧ A tp ∧ va_at D mf_cl (rw, .inl (k5.2.1, 32, .inr (.inr (.inr (.inr rf))))) H ∧ A rw ∧ (∀ i, i < 32 → rf i = some (rr i)) ∧ (∀ i, i < 32 → va_at D mf_cl (rr i, .inl (k5.2.2.1, 4, .inl (rx i))) H ∧ A (rr i) ∧ ∀ c, c < 4 → rx i c = g.2.2.2.2 i c) ∧ (∀ i j, i < 32 → j < 32 → rr i = rr j → i = j)
theorem mf_pick_mem {α : Type} {ok : α → Bool} {lt : α → α → Bool} {l : List α} {k j : Nat} {y : α} (h : mf_pick ok lt (l.take k) = some (j, y)) : y ∈ l := List.mem_of_mem_take (List.mem_of_getElem? ((mf_pick_in ok lt (l.take k)).2 j y h).1)
theorem mf_pick_ka {ok : mf_O → Bool} {lt : mf_O → mf_O → Bool} {ks : List (Nat × mf_O)} {j : Nat} {r : mf_O} (h : mf_pick ok lt (mf_L ks) = some (j, r)) : ∃ a, ks[j]? = some (a, r) := by
  have h1 := ((mf_pick_in ok lt (mf_L ks)).2 j r h).1
  have h2 : (ks.map (fun q => q.2))[j]? = some r := h1
  rw [List.getElem?_map] at h2
  obtain ⟨⟨a, o⟩, e1, e2⟩ := Option.map_eq_some_iff.mp h2
  cases e2
  exact ⟨a, e1⟩
end
section
/-! writing: worlds of one or two cells, ends, calls that answer with a new cell -/
theorem mf_two {D : va_G} {cl : List vw_C} {q r : Nat × va_E} {H : Heap} (h : va_at D cl q H) (h2 : va_at D cl r H) : va_P D cl [q, r] H := by
  intro k q' hk
  match k with
  | 0 => cases hk; exact h
  | 1 => cases hk; exact h2
  | k + 2 => simp at hk
theorem mf_D1 {A : Nat → Prop} {a : Nat} {e : va_E} (ha : A a) : va_D A [(a, e)] := by
  refine ⟨fun i j x y hi hj _ => ?_, fun k q hk => ?_⟩
  · have h1 := (List.getElem?_eq_some_iff.mp hi).1
    have h2 := (List.getElem?_eq_some_iff.mp hj).1
    simp at h1 h2
    omega
  · match k with
    | 0 => cases hk; exact ha
    | k + 1 => simp at hk
theorem mf_D2 {A : Nat → Prop} {a b : Nat} {e f : va_E} (h : a ≠ b) (ha : A a) (hb : A b) : va_D A [(a, e), (b, f)] := by
  refine ⟨fun i j x y hi hj hxy => ?_, fun k q hk => ?_⟩
  · match i, j with
    | 0, 0 => rfl
    | 1, 1 => rfl
    | 0, 1 => cases hi; cases hj; exact absurd hxy h
    | 1, 0 => cases hi; cases hj; exact absurd hxy.symm h
    | i + 2, _ => simp at hi
    | _, j + 2 => simp at hj
  · match k with
    | 0 => cases hk; exact ha
    | 1 => cases hk; exact hb
    | k + 2 => simp at hk
theorem mf_S_up {A A1 : Nat → Prop} {H0 H : Heap} {locs : List Loc} (h : va_S A1 H0 H locs) (hA : ∀ q, A1 q → A q) : va_S A H0 H locs := ⟨h.1, fun q h1 h2 => h.2.1 q h1 (fun z => h2 (hA q z)), fun l hl => hA _ (h.2.2 l hl)⟩
theorem mf_fr_up {A : Nat → Prop} {H : Heap} {L : List ClassId} : ∀ q, mf_fr A H L q → A q := fun _ h => h.1
theorem mf_fr_c {A : Nat → Prop} {H : Heap} {L : List ClassId} {q : Nat} {k : ClassId} (ha : A q) (hk : mf_co H q = some k) (hm : k ∈ L) : mf_fr A H L q := ⟨ha, Or.inr ⟨k, hm, hk⟩⟩
theorem mf_S_eq {A : Nat → Prop} {H H1 : Heap} {L : List ClassId} {locs : List Loc} (h : va_S (mf_fr A H L) H H1 locs) : mf_Eq A L H H1 := ⟨h.1, fun q h1 h2 => h.2.1 q h1 h2⟩
def mf_Kr (B : Nat → Heap → Prop) (A1 : Nat → Prop) : Array Value → State → Outcome → State → Prop := fun _ st o t => ∃ a, o = .returned (some (.ref a)) ∧ B a t.heap ∧ va_F A1 st t
def mf_cRR (l : Launch) (y : MethodName) (cc : ByteArray) (n : Nat) (r : Option FieldType) (rm : Room) (D : va_G) (tys : List (ClassId × FieldType)) (t0 : Nat × Nat) (A : Nat → Prop) (H : Heap) (av : List Value) (B : Nat → Heap → Prop) (A1 : Nat → Prop) (mc ms : Nat) : Prop := Met l y (mf_ws y cc n r) rm (va_Pc av (mf_P D tys t0 A H)) (mf_Kr B A1) mc ms A
section MFW
variable {p : Program} {l : Launch} {e : Env} {R : Room} {s : State} {m : MethodId} {args : Array Value} {below : List Frame} {meth : Method} {c : Code} {H : Heap} {locs : List Loc} {cells slots : Nat} {Q : State → Prop}
variable {cc : ByteArray} {nL pc : Nat} {ls : Array Slot} {rest st0 : List Value} {D : va_G} {t0 : Nat × Nat} {A A1 : Nat → Prop} {a : Nat} {tys : List (ClassId × FieldType)} {own : String} {mc ms : Nat}
theorem mf_cwr {B : Nat → Heap → Prop} {aa : Array Value} (hr : va_Run p l e R s m args below meth c H locs cells slots mc ms (F0 m pc ls st0) rest (mf_Kr B A1 aa) A) (hS : va_S A s.heap H locs) (hA : ∀ q, q < H.size → A1 q → A q)
    (kk : ∀ (a : Nat) (H1 : Heap) (locs1 : List Loc), B a H1 → H.size ≤ H1.size → (∀ q : Nat, q < H.size → ¬ A1 q → H1[q]? = H[q]?) → va_S A s.heap H1 locs1 → W p l e R s m args below meth c H1 locs1 (cells + mc) (slots + ms) Q (F0 m (pc + 3) ls (.ref a :: rest))) : W p l e R s m args below meth c H locs cells slots Q (F0 m pc ls st0) := by
  intro T hT X
  obtain ⟨v', st₀, t, T', L, h0, X', hL, e1, e2, ⟨ra, hv, hb, hz, hk⟩, st⟩ := hr T hT X
  cases hv
  rw [h0] at hz hk
  obtain ⟨t2, a1, b1⟩ := kk ra T'.heap (locs ++ L) (by rw [e1]; exact hb) (by rw [e1]; exact hz) (fun q h1 h2 => by rw [e1]; exact hk q h1 h2)
    ⟨Nat.le_trans hS.1 (by rw [e1]; exact hz), fun q h1 h2 => by rw [e1, hk q (Nat.lt_of_lt_of_le h1 hS.1) (fun z => h2 (hA q (Nat.lt_of_lt_of_le h1 hS.1) z))]; exact hS.2.1 q h1 h2, fun q hq => by
      rcases List.mem_append.mp hq with h | h
      · exact hS.2.2 q h
      · exact hL q h⟩ T' rfl X'
  exact ⟨t2, st t2 a1, b1⟩
-- ends of writers
theorem mf_wv {B : Heap → Prop} {H0 : Heap} (hx : p.tables.exec = Jvm.exec) (hb : c.code = cc) (hr : meth.sig.returnType = none) (hlk : meth.locks = false) (hdg : decode cc pc = .ok (.return_, 1)) (hB : B H) (hF : H0.size ≤ H.size ∧ ∀ q, q < H0.size → ¬ A1 q → H[q]? = H0[q]?) (h0 : s.heap = H0) (hf : ∀ q ∈ locs, A q.base) (hc : cells ≤ mc) (hs : slots ≤ ms) : W p l e R s m args below meth c H locs cells slots (MQ below (mf_Kw none B A1) args s mc ms A) (F0 m pc ls []) := by
  subst h0
  refine W.widen hc hs ?_
  exact W.vret hx hb hr (fun t ht _ => ⟨rfl, by rw [ht]; exact hB, by rw [ht]; exact hF.1, fun q h1 h2 => by rw [ht]; exact hF.2 q h1 h2⟩) hf hdg hlk
theorem mf_wi {B : Heap → Prop} {H0 : Heap} {v : Int32} (hx : p.tables.exec = Jvm.exec) (hb : c.code = cc) (hr : meth.sig.returnType = some .int) (hlk : meth.locks = false) (hdg : decode cc pc = .ok (.ireturn, 1)) (hB : B H) (hF : H0.size ≤ H.size ∧ ∀ q, q < H0.size → ¬ A1 q → H[q]? = H0[q]?) (h0 : s.heap = H0) (hf : ∀ q ∈ locs, A q.base) (hc : cells ≤ mc) (hs : slots ≤ ms) : W p l e R s m args below meth c H locs cells slots (MQ below (mf_Kw (some (.int v)) B A1) args s mc ms A) (F0 m pc ls [.int v]) := by
  subst h0
  refine W.widen hc hs ?_
  exact W.iret hx hb hr (fun t ht _ => ⟨rfl, by rw [ht]; exact hB, by rw [ht]; exact hF.1, fun q h1 h2 => by rw [ht]; exact hF.2 q h1 h2⟩) hf hdg hlk
theorem mf_wz {B : Heap → Prop} {H0 : Heap} {v : Int32} (hx : p.tables.exec = Jvm.exec) (hb : c.code = cc) (hr : meth.sig.returnType = some .boolean) (hlk : meth.locks = false) (hn : narrow .boolean (.int v) = .int v) (hdg : decode cc pc = .ok (.ireturn, 1)) (hB : B H) (hF : H0.size ≤ H.size ∧ ∀ q, q < H0.size → ¬ A1 q → H[q]? = H0[q]?) (h0 : s.heap = H0) (hf : ∀ q ∈ locs, A q.base) (hc : cells ≤ mc) (hs : slots ≤ ms) : W p l e R s m args below meth c H locs cells slots (MQ below (mf_Kw (some (.int v)) B A1) args s mc ms A) (F0 m pc ls [.int v]) := by
  subst h0
  refine W.widen hc hs ?_
  exact W.zret hx hb hr hn (fun t ht _ => ⟨rfl, by rw [ht]; exact hB, by rw [ht]; exact hF.1, fun q h1 h2 => by rw [ht]; exact hF.2 q h1 h2⟩) hf hdg hlk
theorem mf_wa {B : Heap → Prop} {H0 : Heap} {v : Nat} {rt : FieldType} (hx : p.tables.exec = Jvm.exec) (hb : c.code = cc) (hr : meth.sig.returnType = some rt) (hrt : (∃ n, rt = .object n) ∨ ∃ t, rt = .array t) (hlk : meth.locks = false) (hdg : decode cc pc = .ok (.areturn, 1)) (hB : B H) (hF : H0.size ≤ H.size ∧ ∀ q, q < H0.size → ¬ A1 q → H[q]? = H0[q]?) (h0 : s.heap = H0) (hf : ∀ q ∈ locs, A q.base) (hc : cells ≤ mc) (hs : slots ≤ ms) : W p l e R s m args below meth c H locs cells slots (MQ below (mf_Kw (some (.ref v)) B A1) args s mc ms A) (F0 m pc ls [.ref v]) := by
  subst h0
  refine W.widen hc hs ?_
  exact W.aret hx hb hr hrt (Or.inr ⟨v, rfl⟩) (fun t ht _ => ⟨rfl, by rw [ht]; exact hB, by rw [ht]; exact hF.1, fun q h1 h2 => by rw [ht]; exact hF.2 q h1 h2⟩) hf hdg hlk
theorem mf_wr {B : Nat → Heap → Prop} {H0 : Heap} {v : Nat} {rt : FieldType} (hx : p.tables.exec = Jvm.exec) (hb : c.code = cc) (hr : meth.sig.returnType = some rt) (hrt : (∃ n, rt = .object n) ∨ ∃ t, rt = .array t) (hlk : meth.locks = false) (hdg : decode cc pc = .ok (.areturn, 1)) (hB : B v H) (hF : H0.size ≤ H.size ∧ ∀ q, q < H0.size → ¬ A1 q → H[q]? = H0[q]?) (h0 : s.heap = H0) (hf : ∀ q ∈ locs, A q.base) (hc : cells ≤ mc) (hs : slots ≤ ms) : W p l e R s m args below meth c H locs cells slots (MQ below (mf_Kr B A1) args s mc ms A) (F0 m pc ls [.ref v]) := by
  subst h0
  refine W.widen hc hs ?_
  exact W.aret hx hb hr hrt (Or.inr ⟨v, rfl⟩) (fun t ht _ => ⟨v, rfl, by rw [ht]; exact hB, by rw [ht]; exact hF.1, fun q h1 h2 => by rw [ht]; exact hF.2 q h1 h2⟩) hf hdg hlk
/-- an inherited field -/
theorem mf_gfS (C : mf_Cx p s m args c own cc nL D tys t0 A) {ci N : Nat} {R0 ref : String} {T : u_T} (hc : mf_cl[ci]? = some (R0, T, N)) (hin : ∀ w ∈ u_ws R0 T N, w ∈ mf_tb) (k : Nat) (hk : k < N) {index : Nat} (hl : Cond.fieldLink own index ref (T k).2.1 (T k).2.2.1 ∈ mf_tb) (hsm : Cond.sameField ref (T k).1 (T k).2.1 (T k).2.2.1 ∈ mf_tb) {fs : List Value} (hat : va_at D mf_cl (a, .inr (ci, fs)) H) {v : Value} (hv : fs[k]? = some v) (hdg : decode cc pc = .ok (.getfield index, 3))
    (kk : W p l e R s m args below meth c H locs cells slots Q (F0 m (pc + 3) ls (v :: rest))) : W p l e R s m args below meth c H locs cells slots Q (F0 m pc ls (.ref a :: rest)) :=
  va_get C.x C.b C.2.2.1 hin C.o C.k (mf_one hat) 0 rfl hc k hk (C.t hl) (fun x h => u_same (C.t hsm) x h) hv hdg kk
end MFW
end
section
/-! more rows -/
/-- a contract by a walk, for a member of a class that has entries of the machine's own -/
theorem mf_ofF {l : Launch} {y : MethodName} {cc : ByteArray} {n : Nat} {r : Option FieldType} {rm : Room} {D : va_G} {tys : List (ClassId × FieldType)} {t0 : Nat × Nat} {A : Nat → Prop} {H : Heap} {av : List Value} {Qc : Array Value → State → Outcome → State → Prop} {mc ms : Nat} {free : Addr → Prop} (hy : plainFor y = true) (hn : (lg_sl av).length ≤ n)
    (body : ∀ (p : Program) (e : Env) (s : State) (m : MethodId) (below : List Frame) (meth : Method) (c : Code) (ls : Array Slot), mf_Cx p s m av.toArray c y.cls cc n D tys t0 A → s.heap = H → meth.sig.returnType = r → meth.locks = false → s.methodNamed? y = some m → s.vm.method? m = some meth → lv_has ls n (lv_args 0 av) → va_S A s.heap H [] →
      W p l e rm s m av.toArray below meth c H [] 0 0 (MQ below Qc av.toArray s mc ms free) (F0 m 0 ls [])) : Met l y (mf_ws y cc n r) rm (va_Pc av (mf_P D tys t0 A H)) Qc mc ms free := by
  refine va_MetF (cc := cc) (maxL := n) (ret := r) hy rfl ?_
  intro p e s m args below meth c s₁ B hml hv
  obtain ⟨rfl, hH, hE⟩ := hv
  have hts := atoms_spec (ws := mf_ws y cc n r) B.pre
  have hl := lv_entry av hn
  rw [lg_entry_eq]
  generalize (lg_sl av ++ List.replicate (n - (lg_sl av).length) Slot.unset).toArray = ls at hl ⊢
  rw [hH]
  exact body p e s m below meth c ls ⟨B.exec, B.bytes, fun w hw => hts w (List.mem_cons_of_mem _ hw), findClass_of_methodNamed B.named, hE, hml⟩ hH B.returns B.notSynchronized B.named B.method hl (by rw [hH]; exact va_S.rf)
theorem mf_xor (a b : Nat) : nI a ^^^ nI b = nI (a ^^^ b) := by
  apply Int32.toBitVec_inj.mp
  show BitVec.ofNat 32 a ^^^ BitVec.ofNat 32 b = BitVec.ofNat 32 (a ^^^ b)
  rw [BitVec.ofNat_xor]
theorem mf_xor_pos {c : Nat} (h : c < 2 ^ 31) : 0 ≤ nI c ^^^ 32 := by
  have e : nI c ^^^ 32 = nI (c ^^^ 32) := mf_xor c 32
  rw [e]
  exact nI_pos' (Nat.xor_lt_two_pow h (by decide))
section MFM
variable {p : Program} {l : Launch} {e : Env} {R : Room} {s : State} {m : MethodId} {args : Array Value} {below : List Frame} {meth : Method} {c : Code} {H : Heap} {locs : List Loc} {cells slots : Nat} {Q : State → Prop}
variable {cc : ByteArray} {nL pc : Nat} {ls : Array Slot} {rest : List Value} {D : va_G} {t0 : Nat × Nat} {A : Nat → Prop} {a : Nat} {tys : List (ClassId × FieldType)} {own : String}
/-- aaload out of an array of arrays -/
theorem mf_aaldA (C : mf_Cx p s m args c own cc nL D tys t0 A) {cA : ClassId} {ty : FieldType} {t n i : Nat} {f : Nat → Option Nat} (ht : tys[t]? = some (cA, .array ty)) (hat : va_at D mf_cl (a, .inl (cA, n, .inr (.inr (.inr (.inr f))))) H) (hi : i < n) (hn : n < 2 ^ 31) {b : Nat} (hf : f i = some b) (hdg : decode cc pc = .ok (.aaload, 1))
    (kk : W p l e R s m args below meth c H locs cells slots Q (F0 m (pc + 1) ls (.ref b :: rest))) : W p l e R s m args below meth c H locs cells slots Q (F0 m pc ls (.int (nI i) :: .ref a :: rest)) := by
  refine W.aald (v := va_rf (f i)) (ty := .array ty) C.x C.b hat ((C.k.2 t _ ht).1 n (fun j => va_rf (f j))) rfl (fun q => by cases q) (by show ¬ (nI i < 0 ∨ (arrV _ _ _).slots.size ≤ _); rw [arrV_size]; exact nI_in hi hn) (by show (arrV _ _ _).slots[_]? = _; rw [nI_clamp (by omega), arrV_read _ _ hi]) rfl rfl hdg ?_
  rw [hf]
  exact kk
theorem mf_iald (C : mf_Cx p s m args c own cc nL D tys t0 A) {cA : ClassId} {t n i : Nat} {f : Nat → Int32} (ht : tys[t]? = some (cA, .int)) (hat : va_at D mf_cl (a, .inl (cA, n, .inl f)) H) (hi : i < n) (hn : n < 2 ^ 31) (hdg : decode cc pc = .ok (.iaload, 1))
    (kk : W p l e R s m args below meth c H locs cells slots Q (F0 m (pc + 1) ls (.int (f i) :: rest))) : W p l e R s m args below meth c H locs cells slots Q (F0 m pc ls (.int (nI i) :: .ref a :: rest)) := by
  refine va_iald C.x C.b C.k (mf_one hat) 0 t rfl ht (vp_in_nI hi hn) hdg ?_
  rw [nI_clamp (by omega)]
  exact kk
end MFM
theorem mf_mod32 {c : Nat} (h : c < 2 ^ 31) : nI c - nI c / 32 * 32 = nI (c % 32) := pk_rem h (by decide) (by decide)
end
section
/-! small methods -/
set_option maxRecDepth 100000 in
set_option maxHeartbeats 4000000 in
theorem k_F_kindOf (l : Launch) (D : va_G) (k5 : mf_k5) (t0 : Nat × Nat) (A : Nat → Prop) (H : Heap) (h : Int32) : mf_cRO l my_F_kindOf mc_F_kindOf 1 (some .int) { frames := 0, cells := 0, slots := 0, locals := 0 } D (mf_tys k5) t0 A H [.int h] (some (.int (mf_kind h))) := by
  refine mf_of (by decide) (Nat.le_of_ble_eq_true rfl) ?_
  intro p e s m below meth c ls C hH hr hlk hnm hmt hl hS
  have hl : lv_has ls 1 [(0, .int h)] := hl
  refine lv_iload_n C.x C.b md_F_kindOf_0 rfl (lv_at hl 0 rfl) ?_
  refine lv_iconst (v := 1) C.x C.b md_F_kindOf_1 (by decide) ?_
  refine lv_ishr C.x C.b md_F_kindOf_2 ?_
  refine lv_bipush (v := 7) C.x C.b md_F_kindOf_3 (by decide) ?_
  refine lv_iand C.x C.b md_F_kindOf_5 ?_
  rw [show mf_kind h = ((h >>> (1 &&& 31)) &&& 7) by rfl]
  exact mf_ri C.x C.b hH hr hlk md_F_kindOf_6
set_option maxRecDepth 100000 in
set_option maxHeartbeats 4000000 in
theorem k_F_isSide (l : Launch) (D : va_G) (k5 : mf_k5) (t0 : Nat × Nat) (A : Nat → Prop) (H : Heap) (a : Int32) : mf_cRO l my_F_isSide mc_F_isSide 1 (some .boolean) { frames := 0, cells := 0, slots := 0, locals := 0 } D (mf_tys k5) t0 A H [.int a] (some (.int (mf_bI (decide (a = 0 ∨ a = 1))))) := by
  refine mf_of (by decide) (Nat.le_of_ble_eq_true rfl) ?_
  intro p e s m below meth c ls C hH hr hlk hnm hmt hl hS
  have hl : lv_has ls 1 [(0, .int a)] := hl
  refine lv_iload_n C.x C.b md_F_isSide_0 rfl (lv_at hl 0 rfl) ?_
  refine lv_if_eq (tgt := 9) C.x C.b md_F_isSide_1 (by decide) (fun h1 => ?_) (fun h1 => ?_)
  · skip
    refine lv_iconst (v := 1) C.x C.b md_F_isSide_9 (by decide) ?_
    refine lv_goto (tgt := 14) C.x C.b md_F_isSide_10 (by decide) ?_
    rw [show mf_bI (decide (a = 0 ∨ a = 1)) = 1 by first | (simp [mf_bI, h1]; done) | (exfalso; simp_all; done)]
    exact mf_rz C.x C.b hH hr hlk rfl md_F_isSide_14
  · skip
    refine lv_iload_n C.x C.b md_F_isSide_4 rfl (lv_at hl 0 rfl) ?_
    refine lv_iconst (v := 1) C.x C.b md_F_isSide_5 (by decide) ?_
    refine lv_icmp_ne (tgt := 13) C.x C.b md_F_isSide_6 (by decide) (fun h2 => ?_) (fun h2 => ?_)
    · skip
      refine lv_iconst (v := 0) C.x C.b md_F_isSide_13 (by decide) ?_
      rw [show mf_bI (decide (a = 0 ∨ a = 1)) = 0 by first | (simp [mf_bI, h1, h2]; done) | (exfalso; simp_all; done)]
      exact mf_rz C.x C.b hH hr hlk rfl md_F_isSide_14
    · skip
      refine lv_iconst (v := 1) C.x C.b md_F_isSide_9 (by decide) ?_
      refine lv_goto (tgt := 14) C.x C.b md_F_isSide_10 (by decide) ?_
      rw [show mf_bI (decide (a = 0 ∨ a = 1)) = 1 by first | (simp [mf_bI, h1, h2]; done) | (exfalso; simp_all; done)]
      exact mf_rz C.x C.b hH hr hlk rfl md_F_isSide_14
set_option maxRecDepth 100000 in
set_option maxHeartbeats 4000000 in
theorem k_F_isPrice (l : Launch) (D : va_G) (k5 : mf_k5) (t0 : Nat × Nat) (A : Nat → Prop) (H : Heap) (a : Int32) : mf_cRO l my_F_isPrice mc_F_isPrice 1 (some .boolean) { frames := 0, cells := 0, slots := 0, locals := 0 } D (mf_tys k5) t0 A H [.int a] (some (.int (mf_bI (mf_prOk a)))) := by
  refine mf_of (by decide) (Nat.le_of_ble_eq_true rfl) ?_
  intro p e s m below meth c ls C hH hr hlk hnm hmt hl hS
  have hl : lv_has ls 1 [(0, .int a)] := hl
  refine lv_iload_n C.x C.b md_F_isPrice_0 rfl (lv_at hl 0 rfl) ?_
  refine lv_iconst (v := 1) C.x C.b md_F_isPrice_1 (by decide) ?_
  refine lv_icmp_lt (tgt := 16) C.x C.b md_F_isPrice_2 (by decide) (fun h1 => ?_) (fun h1 => ?_)
  · skip
    refine lv_iconst (v := 0) C.x C.b md_F_isPrice_16 (by decide) ?_
    rw [show mf_bI (mf_prOk a) = 0 by first | (simp [mf_bI, mf_prOk, h1, Int32.not_le.mpr h1]; done) | (exfalso; simp_all; done)]
    exact mf_rz C.x C.b hH hr hlk rfl md_F_isPrice_17
  · skip
    refine lv_iload_n C.x C.b md_F_isPrice_5 rfl (lv_at hl 0 rfl) ?_
    refine lv_sipush (v := 10000) C.x C.b md_F_isPrice_6 (by decide) ?_
    refine lv_icmp_gt (tgt := 16) C.x C.b md_F_isPrice_9 (by decide) (fun h2 => ?_) (fun h2 => ?_)
    · skip
      refine lv_iconst (v := 0) C.x C.b md_F_isPrice_16 (by decide) ?_
      rw [show mf_bI (mf_prOk a) = 0 by first | (simp [mf_bI, mf_prOk, h1, Int32.not_lt.mp h1, h2, Int32.not_le.mpr h2]; done) | (exfalso; simp_all; done)]
      exact mf_rz C.x C.b hH hr hlk rfl md_F_isPrice_17
    · skip
      refine lv_iconst (v := 1) C.x C.b md_F_isPrice_12 (by decide) ?_
      refine lv_goto (tgt := 17) C.x C.b md_F_isPrice_13 (by decide) ?_
      rw [show mf_bI (mf_prOk a) = 1 by first | (simp [mf_bI, mf_prOk, h1, Int32.not_lt.mp h1, h2, Int32.not_lt.mp h2]; done) | (exfalso; simp_all; done)]
      exact mf_rz C.x C.b hH hr hlk rfl md_F_isPrice_17
set_option maxRecDepth 100000 in
set_option maxHeartbeats 4000000 in
theorem k_F_isQuantity (l : Launch) (D : va_G) (k5 : mf_k5) (t0 : Nat × Nat) (A : Nat → Prop) (H : Heap) (a : Int32) : mf_cRO l my_F_isQuantity mc_F_isQuantity 1 (some .boolean) { frames := 0, cells := 0, slots := 0, locals := 0 } D (mf_tys k5) t0 A H [.int a] (some (.int (mf_bI (mf_qtOk a)))) := by
  refine mf_of (by decide) (Nat.le_of_ble_eq_true rfl) ?_
  intro p e s m below meth c ls C hH hr hlk hnm hmt hl hS
  have hl : lv_has ls 1 [(0, .int a)] := hl
  refine lv_iload_n C.x C.b md_F_isQuantity_0 rfl (lv_at hl 0 rfl) ?_
  refine lv_iconst (v := 1) C.x C.b md_F_isQuantity_1 (by decide) ?_
  refine lv_icmp_lt (tgt := 15) C.x C.b md_F_isQuantity_2 (by decide) (fun h1 => ?_) (fun h1 => ?_)
  · skip
    refine lv_iconst (v := 0) C.x C.b md_F_isQuantity_15 (by decide) ?_
    rw [show mf_bI (mf_qtOk a) = 0 by first | (simp [mf_bI, mf_qtOk, h1, Int32.not_le.mpr h1]; done) | (exfalso; simp_all; done)]
    exact mf_rz C.x C.b hH hr hlk rfl md_F_isQuantity_16
  · skip
    refine lv_iload_n C.x C.b md_F_isQuantity_5 rfl (lv_at hl 0 rfl) ?_
    refine lv_ldc (v := 1000000) C.x C.b C.o (C.t mt_196) md_F_isQuantity_6 ?_
    refine lv_icmp_gt (tgt := 15) C.x C.b md_F_isQuantity_8 (by decide) (fun h2 => ?_) (fun h2 => ?_)
    · skip
      refine lv_iconst (v := 0) C.x C.b md_F_isQuantity_15 (by decide) ?_
      rw [show mf_bI (mf_qtOk a) = 0 by first | (simp [mf_bI, mf_qtOk, h1, Int32.not_lt.mp h1, h2, Int32.not_le.mpr h2]; done) | (exfalso; simp_all; done)]
      exact mf_rz C.x C.b hH hr hlk rfl md_F_isQuantity_16
    · skip
      refine lv_iconst (v := 1) C.x C.b md_F_isQuantity_11 (by decide) ?_
      refine lv_goto (tgt := 16) C.x C.b md_F_isQuantity_12 (by decide) ?_
      rw [show mf_bI (mf_qtOk a) = 1 by first | (simp [mf_bI, mf_qtOk, h1, Int32.not_lt.mp h1, h2, Int32.not_lt.mp h2]; done) | (exfalso; simp_all; done)]
      exact mf_rz C.x C.b hH hr hlk rfl md_F_isQuantity_16
set_option maxRecDepth 100000 in
set_option maxHeartbeats 4000000 in
theorem k_F_otherSide (l : Launch) (D : va_G) (k5 : mf_k5) (t0 : Nat × Nat) (A : Nat → Prop) (H : Heap) (a : Int32) : mf_cRO l my_F_otherSide mc_F_otherSide 1 (some .int) { frames := 0, cells := 0, slots := 0, locals := 0 } D (mf_tys k5) t0 A H [.int a] (some (.int (mf_other a))) := by
  refine mf_of (by decide) (Nat.le_of_ble_eq_true rfl) ?_
  intro p e s m below meth c ls C hH hr hlk hnm hmt hl hS
  have hl : lv_has ls 1 [(0, .int a)] := hl
  refine lv_iload_n C.x C.b md_F_otherSide_0 rfl (lv_at hl 0 rfl) ?_
  refine lv_if_ne (tgt := 8) C.x C.b md_F_otherSide_1 (by decide) (fun h1 => ?_) (fun h1 => ?_)
  · skip
    refine lv_iconst (v := 0) C.x C.b md_F_otherSide_8 (by decide) ?_
    rw [show mf_other a = 0 by first | (simp [mf_other, h1]; done) | (exfalso; simp_all; done)]
    exact mf_ri C.x C.b hH hr hlk md_F_otherSide_9
  · skip
    refine lv_iconst (v := 1) C.x C.b md_F_otherSide_4 (by decide) ?_
    refine lv_goto (tgt := 9) C.x C.b md_F_otherSide_5 (by decide) ?_
    rw [show mf_other a = 1 by first | (simp [mf_other, h1]; done) | (exfalso; simp_all; done)]
    exact mf_ri C.x C.b hH hr hlk md_F_otherSide_9
set_option maxRecDepth 100000 in
set_option maxHeartbeats 4000000 in
theorem k_F_isBetter (l : Launch) (D : va_G) (k5 : mf_k5) (t0 : Nat × Nat) (A : Nat → Prop) (H : Heap) (a b t : Int32) : mf_cRO l my_F_isBetter mc_F_isBetter 3 (some .boolean) { frames := 0, cells := 0, slots := 0, locals := 0 } D (mf_tys k5) t0 A H [.int a, .int b, .int t] (some (.int (mf_bI (mf_better a b t)))) := by
  refine mf_of (by decide) (Nat.le_of_ble_eq_true rfl) ?_
  intro p e s m below meth c ls C hH hr hlk hnm hmt hl hS
  have hl : lv_has ls 3 [(0, .int a), (1, .int b), (2, .int t)] := hl
  refine lv_iload_n C.x C.b md_F_isBetter_0 rfl (lv_at hl 0 rfl) ?_
  refine lv_if_ne (tgt := 17) C.x C.b md_F_isBetter_1 (by decide) (fun h1 => ?_) (fun h1 => ?_)
  · skip
    refine lv_iload_n C.x C.b md_F_isBetter_17 rfl (lv_at hl 1 rfl) ?_
    refine lv_iload_n C.x C.b md_F_isBetter_18 rfl (lv_at hl 2 rfl) ?_
    refine lv_icmp_ge (tgt := 26) C.x C.b md_F_isBetter_19 (by decide) (fun h2 => ?_) (fun h2 => ?_)
    · skip
      refine lv_iconst (v := 0) C.x C.b md_F_isBetter_26 (by decide) ?_
      rw [show mf_bI (mf_better a b t) = 0 by first | (simp [mf_bI, mf_better, h1, h2, Int32.not_lt.mpr h2]; done) | (exfalso; simp_all; done)]
      exact mf_rz C.x C.b hH hr hlk rfl md_F_isBetter_27
    · skip
      refine lv_iconst (v := 1) C.x C.b md_F_isBetter_22 (by decide) ?_
      refine lv_goto (tgt := 27) C.x C.b md_F_isBetter_23 (by decide) ?_
      rw [show mf_bI (mf_better a b t) = 1 by first | (simp [mf_bI, mf_better, h1, h2, Int32.not_le.mp h2]; done) | (exfalso; simp_all; done)]
      exact mf_rz C.x C.b hH hr hlk rfl md_F_isBetter_27
  · skip
    refine lv_iload_n C.x C.b md_F_isBetter_4 rfl (lv_at hl 1 rfl) ?_
    refine lv_iload_n C.x C.b md_F_isBetter_5 rfl (lv_at hl 2 rfl) ?_
    refine lv_icmp_le (tgt := 13) C.x C.b md_F_isBetter_6 (by decide) (fun h3 => ?_) (fun h3 => ?_)
    · skip
      refine lv_iconst (v := 0) C.x C.b md_F_isBetter_13 (by decide) ?_
      refine lv_goto (tgt := 27) C.x C.b md_F_isBetter_14 (by decide) ?_
      rw [show mf_bI (mf_better a b t) = 0 by first | (simp [mf_bI, mf_better, h1, h3, Int32.not_lt.mpr h3]; done) | (exfalso; simp_all; done)]
      exact mf_rz C.x C.b hH hr hlk rfl md_F_isBetter_27
    · skip
      refine lv_iconst (v := 1) C.x C.b md_F_isBetter_9 (by decide) ?_
      refine lv_goto (tgt := 27) C.x C.b md_F_isBetter_10 (by decide) ?_
      rw [show mf_bI (mf_better a b t) = 1 by first | (simp [mf_bI, mf_better, h1, h3, Int32.not_le.mp h3]; done) | (exfalso; simp_all; done)]
      exact mf_rz C.x C.b hH hr hlk rfl md_F_isBetter_27
set_option maxRecDepth 100000 in
set_option maxHeartbeats 4000000 in
theorem k_O_restsOn (l : Launch) (D : va_G) (k5 : mf_k5) (t0 : Nat × Nat) (A : Nat → Prop) (H : Heap) (x : Nat) (o : mf_O) (a : Int32) (ho : va_at D mf_cl (x, .inr (1, mf_fs o)) H) : mf_cRO l my_O_restsOn mc_O_restsOn 2 (some .boolean) { frames := 0, cells := 0, slots := 0, locals := 0 } D (mf_tys k5) t0 A H [.ref x, .int a] (some (.int (mf_bI (mf_rests o a)))) := by
  refine mf_of (by decide) (Nat.le_of_ble_eq_true rfl) ?_
  intro p e s m below meth c ls C hH hr hlk hnm hmt hl hS
  have hl : lv_has ls 2 [(0, .ref x), (1, .int a)] := hl
  refine lv_aload_n C.x C.b md_O_restsOn_0 rfl (lv_at hl 0 rfl) ?_
  refine mf_gf C (ci := 1) (N := 6) rfl mi_O 3 (by decide) mt_249 ho (v := .int (mf_wt o)) rfl md_O_restsOn_1 ?_
  refine lv_if_ne (tgt := 19) C.x C.b md_O_restsOn_4 (by decide) (fun h1 => ?_) (fun h1 => ?_)
  · skip
    refine lv_iconst (v := 0) C.x C.b md_O_restsOn_19 (by decide) ?_
    rw [show mf_bI (mf_rests o a) = 0 by first | (simp [mf_bI, mf_rests, h1]; done) | (exfalso; simp_all; done)]
    exact mf_rz C.x C.b hH hr hlk rfl md_O_restsOn_20
  · skip
    refine lv_aload_n C.x C.b md_O_restsOn_7 rfl (lv_at hl 0 rfl) ?_
    refine mf_gf C (ci := 1) (N := 6) rfl mi_O 2 (by decide) mt_247 ho (v := .int (mf_sd o)) rfl md_O_restsOn_8 ?_
    refine lv_iload_n C.x C.b md_O_restsOn_11 rfl (lv_at hl 1 rfl) ?_
    refine lv_icmp_ne (tgt := 19) C.x C.b md_O_restsOn_12 (by decide) (fun h2 => ?_) (fun h2 => ?_)
    · skip
      refine lv_iconst (v := 0) C.x C.b md_O_restsOn_19 (by decide) ?_
      rw [show mf_bI (mf_rests o a) = 0 by first | (simp [mf_bI, mf_rests, h1, h2]; done) | (exfalso; simp_all; done)]
      exact mf_rz C.x C.b hH hr hlk rfl md_O_restsOn_20
    · skip
      refine lv_iconst (v := 1) C.x C.b md_O_restsOn_15 (by decide) ?_
      refine lv_goto (tgt := 20) C.x C.b md_O_restsOn_16 (by decide) ?_
      rw [show mf_bI (mf_rests o a) = 1 by first | (simp [mf_bI, mf_rests, h1, h2]; done) | (exfalso; simp_all; done)]
      exact mf_rz C.x C.b hH hr hlk rfl md_O_restsOn_20
set_option maxRecDepth 100000 in
set_option maxHeartbeats 4000000 in
theorem k_O_isDueAt (l : Launch) (D : va_G) (k5 : mf_k5) (t0 : Nat × Nat) (A : Nat → Prop) (H : Heap) (x : Nat) (o : mf_O) (a : Int32) (ho : va_at D mf_cl (x, .inr (1, mf_fs o)) H) : mf_cRO l my_O_isDueAt mc_O_isDueAt 2 (some .boolean) { frames := 0, cells := 0, slots := 0, locals := 0 } D (mf_tys k5) t0 A H [.ref x, .int a] (some (.int (mf_bI (mf_due o a)))) := by
  refine mf_of (by decide) (Nat.le_of_ble_eq_true rfl) ?_
  intro p e s m below meth c ls C hH hr hlk hnm hmt hl hS
  have hl : lv_has ls 2 [(0, .ref x), (1, .int a)] := hl
  refine lv_aload_n C.x C.b md_O_isDueAt_0 rfl (lv_at hl 0 rfl) ?_
  refine mf_gf C (ci := 1) (N := 6) rfl mi_O 3 (by decide) mt_249 ho (v := .int (mf_wt o)) rfl md_O_isDueAt_1 ?_
  refine lv_if_eq (tgt := 11) C.x C.b md_O_isDueAt_4 (by decide) (fun h1 => ?_) (fun h1 => ?_)
  · skip
    refine lv_iconst (v := 0) C.x C.b md_O_isDueAt_11 (by decide) ?_
    rw [show mf_bI (mf_due o a) = 0 by first | (simp [mf_bI, mf_due, h1]; done) | (exfalso; simp_all; done)]
    exact mf_rz C.x C.b hH hr hlk rfl md_O_isDueAt_12
  · skip
    refine lv_iload_n C.x C.b md_O_isDueAt_7 rfl (lv_at hl 1 rfl) ?_
    refine lv_if_ne (tgt := 13) C.x C.b md_O_isDueAt_8 (by decide) (fun h2 => ?_) (fun h2 => ?_)
    · skip
      refine lv_aload_n C.x C.b md_O_isDueAt_13 rfl (lv_at hl 0 rfl) ?_
      refine mf_gf C (ci := 1) (N := 6) rfl mi_O 2 (by decide) mt_247 ho (v := .int (mf_sd o)) rfl md_O_isDueAt_14 ?_
      refine lv_if_ne (tgt := 36) C.x C.b md_O_isDueAt_17 (by decide) (fun h3 => ?_) (fun h3 => ?_)
      · skip
        refine lv_iload_n C.x C.b md_O_isDueAt_36 rfl (lv_at hl 1 rfl) ?_
        refine lv_aload_n C.x C.b md_O_isDueAt_37 rfl (lv_at hl 0 rfl) ?_
        refine mf_gf C (ci := 1) (N := 6) rfl mi_O 4 (by decide) mt_251 ho (v := .int (mf_pr o)) rfl md_O_isDueAt_38 ?_
        refine lv_icmp_gt (tgt := 48) C.x C.b md_O_isDueAt_41 (by decide) (fun h4 => ?_) (fun h4 => ?_)
        · skip
          refine lv_iconst (v := 0) C.x C.b md_O_isDueAt_48 (by decide) ?_
          rw [show mf_bI (mf_due o a) = 0 by first | (simp [mf_bI, mf_due, h1, h2, h3, h4, Int32.not_le.mpr h4]; done) | (exfalso; simp_all; done)]
          exact mf_rz C.x C.b hH hr hlk rfl md_O_isDueAt_49
        · skip
          refine lv_iconst (v := 1) C.x C.b md_O_isDueAt_44 (by decide) ?_
          refine lv_goto (tgt := 49) C.x C.b md_O_isDueAt_45 (by decide) ?_
          rw [show mf_bI (mf_due o a) = 1 by first | (simp [mf_bI, mf_due, h1, h2, h3, h4, Int32.not_lt.mp h4]; done) | (exfalso; simp_all; done)]
          exact mf_rz C.x C.b hH hr hlk rfl md_O_isDueAt_49
      · skip
        refine lv_iload_n C.x C.b md_O_isDueAt_20 rfl (lv_at hl 1 rfl) ?_
        refine lv_aload_n C.x C.b md_O_isDueAt_21 rfl (lv_at hl 0 rfl) ?_
        refine mf_gf C (ci := 1) (N := 6) rfl mi_O 4 (by decide) mt_251 ho (v := .int (mf_pr o)) rfl md_O_isDueAt_22 ?_
        refine lv_icmp_lt (tgt := 32) C.x C.b md_O_isDueAt_25 (by decide) (fun h5 => ?_) (fun h5 => ?_)
        · skip
          refine lv_iconst (v := 0) C.x C.b md_O_isDueAt_32 (by decide) ?_
          refine lv_goto (tgt := 49) C.x C.b md_O_isDueAt_33 (by decide) ?_
          rw [show mf_bI (mf_due o a) = 0 by first | (simp [mf_bI, mf_due, h1, h2, h3, h5, Int32.not_le.mpr h5]; done) | (exfalso; simp_all; done)]
          exact mf_rz C.x C.b hH hr hlk rfl md_O_isDueAt_49
        · skip
          refine lv_iconst (v := 1) C.x C.b md_O_isDueAt_28 (by decide) ?_
          refine lv_goto (tgt := 49) C.x C.b md_O_isDueAt_29 (by decide) ?_
          rw [show mf_bI (mf_due o a) = 1 by first | (simp [mf_bI, mf_due, h1, h2, h3, h5, Int32.not_lt.mp h5]; done) | (exfalso; simp_all; done)]
          exact mf_rz C.x C.b hH hr hlk rfl md_O_isDueAt_49
    · skip
      refine lv_iconst (v := 0) C.x C.b md_O_isDueAt_11 (by decide) ?_
      rw [show mf_bI (mf_due o a) = 0 by first | (simp [mf_bI, mf_due, h1, h2]; done) | (exfalso; simp_all; done)]
      exact mf_rz C.x C.b hH hr hlk rfl md_O_isDueAt_12
set_option maxRecDepth 100000 in
set_option maxHeartbeats 4000000 in
theorem k_O_queuesWith (l : Launch) (D : va_G) (k5 : mf_k5) (t0 : Nat × Nat) (A : Nat → Prop) (H : Heap) (x y : Nat) (o q : mf_O) (ho : va_at D mf_cl (x, .inr (1, mf_fs o)) H) (hq : va_at D mf_cl (y, .inr (1, mf_fs q)) H) : mf_cRO l my_O_queuesWith mc_O_queuesWith 2 (some .boolean) { frames := 0, cells := 0, slots := 0, locals := 0 } D (mf_tys k5) t0 A H [.ref x, .ref y] (some (.int (mf_bI (mf_queues o q)))) := by
  refine mf_of (by decide) (Nat.le_of_ble_eq_true rfl) ?_
  intro p e s m below meth c ls C hH hr hlk hnm hmt hl hS
  have hl : lv_has ls 2 [(0, .ref x), (1, .ref y)] := hl
  refine lv_aload_n C.x C.b md_O_queuesWith_0 rfl (lv_at hl 0 rfl) ?_
  refine mf_gf C (ci := 1) (N := 6) rfl mi_O 3 (by decide) mt_249 ho (v := .int (mf_wt o)) rfl md_O_queuesWith_1 ?_
  refine lv_if_ne (tgt := 14) C.x C.b md_O_queuesWith_4 (by decide) (fun h1 => ?_) (fun h1 => ?_)
  · skip
    refine lv_aload_n C.x C.b md_O_queuesWith_14 rfl (lv_at hl 0 rfl) ?_
    refine mf_gf C (ci := 1) (N := 6) rfl mi_O 3 (by decide) mt_249 ho (v := .int (mf_wt o)) rfl md_O_queuesWith_15 ?_
    refine lv_if_eq (tgt := 32) C.x C.b md_O_queuesWith_18 (by decide) (fun h2 => ?_) (fun h2 => ?_)
    · skip
      refine lv_iconst (v := 0) C.x C.b md_O_queuesWith_32 (by decide) ?_
      rw [show mf_bI (mf_queues o q) = 0 by first | (simp [mf_bI, mf_queues, h1, h2]; done) | (exfalso; simp_all; done)]
      exact mf_rz C.x C.b hH hr hlk rfl md_O_queuesWith_33
    · skip
      refine lv_aload_n C.x C.b md_O_queuesWith_21 rfl (lv_at hl 1 rfl) ?_
      refine mf_gf C (ci := 1) (N := 6) rfl mi_O 3 (by decide) mt_249 hq (v := .int (mf_wt q)) rfl md_O_queuesWith_22 ?_
      refine lv_if_eq (tgt := 32) C.x C.b md_O_queuesWith_25 (by decide) (fun h3 => ?_) (fun h3 => ?_)
      · skip
        refine lv_iconst (v := 0) C.x C.b md_O_queuesWith_32 (by decide) ?_
        rw [show mf_bI (mf_queues o q) = 0 by first | (simp [mf_bI, mf_queues, h1, h2, h3]; done) | (exfalso; simp_all; done)]
        exact mf_rz C.x C.b hH hr hlk rfl md_O_queuesWith_33
      · skip
        refine lv_iconst (v := 1) C.x C.b md_O_queuesWith_28 (by decide) ?_
        refine lv_goto (tgt := 33) C.x C.b md_O_queuesWith_29 (by decide) ?_
        rw [show mf_bI (mf_queues o q) = 1 by first | (simp [mf_bI, mf_queues, h1, h2, h3]; done) | (exfalso; simp_all; done)]
        exact mf_rz C.x C.b hH hr hlk rfl md_O_queuesWith_33
  · skip
    refine lv_aload_n C.x C.b md_O_queuesWith_7 rfl (lv_at hl 1 rfl) ?_
    refine mf_gf C (ci := 1) (N := 6) rfl mi_O 3 (by decide) mt_249 hq (v := .int (mf_wt q)) rfl md_O_queuesWith_8 ?_
    refine lv_if_eq (tgt := 34) C.x C.b md_O_queuesWith_11 (by decide) (fun h4 => ?_) (fun h4 => ?_)
    · skip
      refine lv_aload_n C.x C.b md_O_queuesWith_34 rfl (lv_at hl 0 rfl) ?_
      refine mf_gf C (ci := 1) (N := 6) rfl mi_O 2 (by decide) mt_247 ho (v := .int (mf_sd o)) rfl md_O_queuesWith_35 ?_
      refine lv_aload_n C.x C.b md_O_queuesWith_38 rfl (lv_at hl 1 rfl) ?_
      refine mf_gf C (ci := 1) (N := 6) rfl mi_O 2 (by decide) mt_247 hq (v := .int (mf_sd q)) rfl md_O_queuesWith_39 ?_
      refine lv_icmp_ne (tgt := 60) C.x C.b md_O_queuesWith_42 (by decide) (fun h5 => ?_) (fun h5 => ?_)
      · skip
        refine lv_iconst (v := 0) C.x C.b md_O_queuesWith_60 (by decide) ?_
        rw [show mf_bI (mf_queues o q) = 0 by first | (simp [mf_bI, mf_queues, h1, h4, h5]; done) | (exfalso; simp_all; done)]
        exact mf_rz C.x C.b hH hr hlk rfl md_O_queuesWith_61
      · skip
        refine lv_aload_n C.x C.b md_O_queuesWith_45 rfl (lv_at hl 0 rfl) ?_
        refine mf_gf C (ci := 1) (N := 6) rfl mi_O 4 (by decide) mt_251 ho (v := .int (mf_pr o)) rfl md_O_queuesWith_46 ?_
        refine lv_aload_n C.x C.b md_O_queuesWith_49 rfl (lv_at hl 1 rfl) ?_
        refine mf_gf C (ci := 1) (N := 6) rfl mi_O 4 (by decide) mt_251 hq (v := .int (mf_pr q)) rfl md_O_queuesWith_50 ?_
        refine lv_icmp_ne (tgt := 60) C.x C.b md_O_queuesWith_53 (by decide) (fun h6 => ?_) (fun h6 => ?_)
        · skip
          refine lv_iconst (v := 0) C.x C.b md_O_queuesWith_60 (by decide) ?_
          rw [show mf_bI (mf_queues o q) = 0 by first | (simp [mf_bI, mf_queues, h1, h4, h5, h6]; done) | (exfalso; simp_all; done)]
          exact mf_rz C.x C.b hH hr hlk rfl md_O_queuesWith_61
        · skip
          refine lv_iconst (v := 1) C.x C.b md_O_queuesWith_56 (by decide) ?_
          refine lv_goto (tgt := 61) C.x C.b md_O_queuesWith_57 (by decide) ?_
          rw [show mf_bI (mf_queues o q) = 1 by first | (simp [mf_bI, mf_queues, h1, h4, h5, h6]; done) | (exfalso; simp_all; done)]
          exact mf_rz C.x C.b hH hr hlk rfl md_O_queuesWith_61
    · skip
      refine lv_aload_n C.x C.b md_O_queuesWith_14 rfl (lv_at hl 0 rfl) ?_
      refine mf_gf C (ci := 1) (N := 6) rfl mi_O 3 (by decide) mt_249 ho (v := .int (mf_wt o)) rfl md_O_queuesWith_15 ?_
      refine lv_if_eq (tgt := 32) C.x C.b md_O_queuesWith_18 (by decide) (fun h7 => ?_) (fun h7 => ?_)
      · skip
        refine lv_iconst (v := 0) C.x C.b md_O_queuesWith_32 (by decide) ?_
        rw [show mf_bI (mf_queues o q) = 0 by first | (simp [mf_bI, mf_queues, h1, h4, h7]; done) | (exfalso; simp_all; done)]
        exact mf_rz C.x C.b hH hr hlk rfl md_O_queuesWith_33
      · skip
        refine lv_aload_n C.x C.b md_O_queuesWith_21 rfl (lv_at hl 1 rfl) ?_
        refine mf_gf C (ci := 1) (N := 6) rfl mi_O 3 (by decide) mt_249 hq (v := .int (mf_wt q)) rfl md_O_queuesWith_22 ?_
        refine lv_if_eq (tgt := 32) C.x C.b md_O_queuesWith_25 (by decide) (fun h8 => ?_) (fun h8 => ?_)
        · skip
          refine lv_iconst (v := 0) C.x C.b md_O_queuesWith_32 (by decide) ?_
          rw [show mf_bI (mf_queues o q) = 0 by first | (simp [mf_bI, mf_queues, h1, h4, h7, h8]; done) | (exfalso; simp_all; done)]
          exact mf_rz C.x C.b hH hr hlk rfl md_O_queuesWith_33
        · skip
          refine lv_iconst (v := 1) C.x C.b md_O_queuesWith_28 (by decide) ?_
          refine lv_goto (tgt := 33) C.x C.b md_O_queuesWith_29 (by decide) ?_
          rw [show mf_bI (mf_queues o q) = 1 by first | (simp [mf_bI, mf_queues, h1, h4, h7, h8]; done) | (exfalso; simp_all; done)]
          exact mf_rz C.x C.b hH hr hlk rfl md_O_queuesWith_33
end
section
/-! ArrayList: reading -/
set_option maxRecDepth 100000 in
set_option maxHeartbeats 4000000 in
theorem k_Pc_checkIndex (l : Launch) (D : va_G) (k5 : mf_k5) (t0 : Nat × Nat) (A : Nat → Prop) (H : Heap) (i n : Int32) (h0 : ¬ i < 0) (hn : i < n) : mf_cRO l my_Pc_checkIndex mc_Pc_checkIndex 3 (some .int) { frames := 0, cells := 0, slots := 0, locals := 0 } D (mf_tys k5) t0 A H [.int i, .int n, .null] (some (.int i)) := by
  refine mf_of (by decide) (Nat.le_of_ble_eq_true rfl) ?_
  intro p e s m below meth c ls C hH hr hlk hnm hmt hl hS
  have hl : lv_has ls 3 [(0, .int i), (1, .int n), (2, .null)] := hl
  refine lv_iload_n C.x C.b md_Pc_checkIndex_0 rfl (lv_at hl 0 rfl) ?_
  refine lv_if_lt (tgt := 9) C.x C.b md_Pc_checkIndex_1 (by decide) (fun h1 => ?_) (fun h1 => ?_)
  · exact absurd h1 h0
  · skip
    refine lv_iload_n C.x C.b md_Pc_checkIndex_4 rfl (lv_at hl 0 rfl) ?_
    refine lv_iload_n C.x C.b md_Pc_checkIndex_5 rfl (lv_at hl 1 rfl) ?_
    refine lv_icmp_lt (tgt := 16) C.x C.b md_Pc_checkIndex_6 (by decide) (fun h2 => ?_) (fun h2 => ?_)
    · skip
      refine lv_iload_n C.x C.b md_Pc_checkIndex_16 rfl (lv_at hl 0 rfl) ?_
      exact mf_ri C.x C.b hH hr hlk md_Pc_checkIndex_17
    · exact absurd hn h2
set_option maxRecDepth 100000 in
set_option maxHeartbeats 4000000 in
theorem k_Ob_checkIndex (l : Launch) (D : va_G) (k5 : mf_k5) (t0 : Nat × Nat) (A : Nat → Prop) (H : Heap) (i n : Int32) (h0 : ¬ i < 0) (hn : i < n) : mf_cRO l my_Ob_checkIndex mc_Ob_checkIndex 2 (some .int) { frames := 1, cells := 0, slots := 0, locals := 22 } D (mf_tys k5) t0 A H [.int i, .int n] (some (.int i)) := by
  refine mf_of (by decide) (Nat.le_of_ble_eq_true rfl) ?_
  intro p e s m below meth c ls C hH hr hlk hnm hmt hl hS
  have hl : lv_has ls 2 [(0, .int i), (1, .int n)] := hl
  refine lv_iload_n C.x C.b md_Ob_checkIndex_0 rfl (lv_at hl 0 rfl) ?_
  refine lv_iload_n C.x C.b md_Ob_checkIndex_1 rfl (lv_at hl 1 rfl) ?_
  refine lv_null C.x C.b md_Ob_checkIndex_2 ?_
  refine mf_cks (va_runS (As := [.int i, .int n, .null]) (rest := []) C.f (k_Pc_checkIndex l D k5 t0 A H i n h0 hn) (mf_cS C mt_215 mt_213 mt_12 mt_214 mh_Pc_checkIndex ⟨by decide, by decide⟩) (mf_preS C.ev hS) rfl rfl hl.1 rfl (lv_room (Nat.le_of_ble_eq_true rfl)) md_Ob_checkIndex_3 ⟨by omega, by omega⟩) ?_
  exact mf_ri C.x C.b hH hr hlk md_Ob_checkIndex_6
set_option maxRecDepth 100000 in
set_option maxHeartbeats 4000000 in
theorem k_A_size (l : Launch) (D : va_G) (k5 : mf_k5) (t0 : Nat × Nat) (A : Nat → Prop) (H : Heap) (al : Nat) (as : List Nat) (hA : mf_AL D k5 t0 A H al as) : mf_cRO l my_A_size mc_A_size 1 (some .int) { frames := 0, cells := 0, slots := 0, locals := 0 } D (mf_tys k5) t0 A H [.ref al] (some (.int (nI as.length))) := by
  obtain ⟨ed, mc, hal, hA1, hle, hor⟩ := hA
  refine mf_of (by decide) (Nat.le_of_ble_eq_true rfl) ?_
  intro p e s m below meth c ls C hH hr hlk hnm hmt hl hS
  have hl : lv_has ls 1 [(0, .ref al)] := hl
  refine lv_aload_n C.x C.b md_A_size_0 rfl (lv_at hl 0 rfl) ?_
  refine mf_gf C (ci := 0) (N := 3) rfl mi_A 1 (by decide) mt_44 hal (v := .int (nI as.length)) rfl md_A_size_1 ?_
  exact mf_ri C.x C.b hH hr hlk md_A_size_4
set_option maxRecDepth 100000 in
set_option maxHeartbeats 4000000 in
theorem k_A_elementData (l : Launch) (D : va_G) (k5 : mf_k5) (t0 : Nat × Nat) (A : Nat → Prop) (H : Heap) (al ed cap i a : Nat) (sz mc : Value) (f : Nat → Option Nat) (hal : va_at D mf_cl (al, .inr (0, [.ref ed, sz, mc])) H) (hed : va_at D mf_cl (ed, .inl (k5.1, cap, .inr (.inr (.inr (.inr f))))) H) (hi : i < cap) (hc : cap < 2 ^ 31) (hf : f i = some a) : mf_cRO l my_A_elementData mc_A_elementData 2 (some (.object "java/lang/Object")) { frames := 0, cells := 0, slots := 0, locals := 0 } D (mf_tys k5) t0 A H [.ref al, .int (nI i)] (some (.ref a)) := by
  refine mf_of (by decide) (Nat.le_of_ble_eq_true rfl) ?_
  intro p e s m below meth c ls C hH hr hlk hnm hmt hl hS
  have hl : lv_has ls 2 [(0, .ref al), (1, .int (nI i))] := hl
  refine lv_aload_n C.x C.b md_A_elementData_0 rfl (lv_at hl 0 rfl) ?_
  refine mf_gf C (ci := 0) (N := 3) rfl mi_A 0 (by decide) mt_43 hal (v := .ref ed) rfl md_A_elementData_1 ?_
  refine lv_iload_n C.x C.b md_A_elementData_4 rfl (lv_at hl 1 rfl) ?_
  refine mf_aald C (t := 0) rfl hed hi hc hf md_A_elementData_5 ?_
  exact mf_ra C.x C.b hH hr (Or.inl ⟨_, rfl⟩) hlk md_A_elementData_6
set_option maxRecDepth 100000 in
set_option maxHeartbeats 4000000 in
theorem k_A_get (l : Launch) (D : va_G) (k5 : mf_k5) (t0 : Nat × Nat) (A : Nat → Prop) (H : Heap) (al i a : Nat) (as : List Nat) (hA : mf_AL D k5 t0 A H al as) (hi : as[i]? = some a) : mf_cRO l my_A_get mc_A_get 2 (some (.object "java/lang/Object")) { frames := 2, cells := 0, slots := 0, locals := 43 } D (mf_tys k5) t0 A H [.ref al, .int (nI i)] (some (.ref a)) := by
  obtain ⟨ed, mc, hal, hA1, hle, ⟨rfl, -⟩ | ⟨cap, f, hed, hA2, h1, h2, h3, hf⟩⟩ := hA
  · simp at hi
  have hi1 : i < as.length := (List.getElem?_eq_some_iff.mp hi).1
  refine mf_of (by decide) (Nat.le_of_ble_eq_true rfl) ?_
  intro p e s m below meth c ls C hH hr hlk hnm hmt hl hS
  have hl : lv_has ls 2 [(0, .ref al), (1, .int (nI i))] := hl
  refine lv_iload_n C.x C.b md_A_get_0 rfl (lv_at hl 1 rfl) ?_
  refine lv_aload_n C.x C.b md_A_get_1 rfl (lv_at hl 0 rfl) ?_
  refine mf_gf C (ci := 0) (N := 3) rfl mi_A 1 (by decide) mt_44 hal (v := .int (nI as.length)) rfl md_A_get_2 ?_
  refine mf_cks (va_runS (As := [.int (nI i), .int (nI as.length)]) (rest := []) C.f (k_Ob_checkIndex l D k5 t0 A H (nI i) (nI as.length) (nI_pos (by omega)) (nI_lt hi1 (by omega))) (mf_cS C mt_212 mt_210 mt_11 mt_211 mh_Ob_checkIndex ⟨by decide, by decide⟩) (mf_preS C.ev hS) rfl rfl hl.1 rfl (lv_room (Nat.le_of_ble_eq_true rfl)) md_A_get_5 ⟨by omega, by omega⟩) ?_
  refine lv_pop C.x C.b md_A_get_8 rfl ?_
  refine lv_aload_n C.x C.b md_A_get_9 rfl (lv_at hl 0 rfl) ?_
  refine lv_iload_n C.x C.b md_A_get_10 rfl (lv_at hl 1 rfl) ?_
  refine mf_cks (va_runV (As := [.int (nI i)]) (rest := []) C.f (k_A_elementData l D k5 t0 A H al ed cap i a _ _ f hal hed (by omega) (by omega) (hf i a hi)) (mf_cV C mt_219 mt_216 mt_4 mt_217 mt_218 mh_A_elementData ⟨by decide, by decide⟩) (mf_preV C.ev hS (mf_rv C (ci := 0) (N := 3) rfl hal)) rfl rfl hl.1 rfl (lv_room (Nat.le_of_ble_eq_true rfl)) md_A_get_11 ⟨by omega, by omega⟩) ?_
  exact mf_ra C.x C.b hH hr (Or.inl ⟨_, rfl⟩) hlk md_A_get_14
end
section
/-! the class: reading the book -/
set_option maxRecDepth 100000 in
set_option maxHeartbeats 4000000 in
theorem k_O_isFitBy (l : Launch) (D : va_G) (k5 : mf_k5) (t0 : Nat × Nat) (A : Nat → Prop) (H : Heap) (x : Nat) (o : mf_O) (a : Int32) (ho : va_at D mf_cl (x, .inr (1, mf_fs o)) H) : mf_cRO l my_O_isFitBy mc_O_isFitBy 2 (some .boolean) { frames := 1, cells := 0, slots := 0, locals := 22 } D (mf_tys k5) t0 A H [.ref x, .int a] (some (.int (mf_bI (mf_fit o a)))) := by
  refine mf_of (by decide) (Nat.le_of_ble_eq_true rfl) ?_
  intro p e s m below meth c ls C hH hr hlk hnm hmt hl hS
  have hl : lv_has ls 2 [(0, .ref x), (1, .int a)] := hl
  refine lv_iload_n C.x C.b md_O_isFitBy_0 rfl (lv_at hl 1 rfl) ?_
  refine lv_if_eq (tgt := 30) C.x C.b md_O_isFitBy_1 (by decide) (fun h1 => ?_) (fun h1 => ?_)
  · skip
    refine lv_iconst (v := 1) C.x C.b md_O_isFitBy_30 (by decide) ?_
    refine lv_goto (tgt := 35) C.x C.b md_O_isFitBy_31 (by decide) ?_
    rw [show mf_bI (mf_fit o a) = 1 by first | (simp [mf_bI, mf_fit, h1]; done) | (exfalso; simp_all; done)]
    exact mf_rz C.x C.b hH hr hlk rfl md_O_isFitBy_35
  · skip
    refine lv_iload_n C.x C.b md_O_isFitBy_4 rfl (lv_at hl 1 rfl) ?_
    refine lv_aload_n C.x C.b md_O_isFitBy_5 rfl (lv_at hl 0 rfl) ?_
    refine mf_gf C (ci := 1) (N := 6) rfl mi_O 4 (by decide) mt_251 ho (v := .int (mf_pr o)) rfl md_O_isFitBy_6 ?_
    refine lv_icmp_eq (tgt := 30) C.x C.b md_O_isFitBy_9 (by decide) (fun h2 => ?_) (fun h2 => ?_)
    · skip
      refine lv_iconst (v := 1) C.x C.b md_O_isFitBy_30 (by decide) ?_
      refine lv_goto (tgt := 35) C.x C.b md_O_isFitBy_31 (by decide) ?_
      rw [show mf_bI (mf_fit o a) = 1 by first | (simp [mf_bI, mf_fit, h1, h2]; done) | (exfalso; simp_all; done)]
      exact mf_rz C.x C.b hH hr hlk rfl md_O_isFitBy_35
    · skip
      refine lv_aload_n C.x C.b md_O_isFitBy_12 rfl (lv_at hl 0 rfl) ?_
      refine mf_gf C (ci := 1) (N := 6) rfl mi_O 2 (by decide) mt_247 ho (v := .int (mf_sd o)) rfl md_O_isFitBy_13 ?_
      refine mf_cks (va_runSN (As := [.int (mf_sd o)]) (rest := []) C.f (k_F_otherSide l D k5 t0 A H (mf_sd o)) ⟨mf_cN C mt_278 (C.ev.2.1.2.1 ("MatchFloor$Order", 31, my_F_otherSide) (List.mem_of_getElem? (i := 4) rfl)) mt_1 mh_F_otherSide ⟨by decide, by decide⟩, C.t mt_277, trivial⟩ (mf_preS C.ev hS) rfl rfl hl.1 rfl (lv_room (Nat.le_of_ble_eq_true rfl)) md_O_isFitBy_16 ⟨by omega, by omega⟩) ?_
      refine lv_iload_n C.x C.b md_O_isFitBy_19 rfl (lv_at hl 1 rfl) ?_
      refine lv_aload_n C.x C.b md_O_isFitBy_20 rfl (lv_at hl 0 rfl) ?_
      refine mf_gf C (ci := 1) (N := 6) rfl mi_O 4 (by decide) mt_251 ho (v := .int (mf_pr o)) rfl md_O_isFitBy_21 ?_
      refine mf_cks (va_runSN (As := [.int (mf_other (mf_sd o)), .int a, .int (mf_pr o)]) (rest := []) C.f (k_F_isBetter l D k5 t0 A H (mf_other (mf_sd o)) a (mf_pr o)) ⟨mf_cN C mt_290 (C.ev.2.1.2.1 ("MatchFloor$Order", 35, my_F_isBetter) (List.mem_of_getElem? (i := 5) rfl)) mt_1 mh_F_isBetter ⟨by decide, by decide⟩, C.t mt_289, trivial⟩ (mf_preS C.ev hS) rfl rfl hl.1 rfl (lv_room (Nat.le_of_ble_eq_true rfl)) md_O_isFitBy_24 ⟨by omega, by omega⟩) ?_
      refine lv_if_eq (tgt := 34) C.x C.b md_O_isFitBy_27 (by decide) (fun h3 => ?_) (fun h3 => ?_)
      · skip
        refine lv_iconst (v := 0) C.x C.b md_O_isFitBy_34 (by decide) ?_
        rw [show mf_bI (mf_fit o a) = 0 by first | (simp [mf_bI, mf_fit, h1, h2, mf_bI_0.mp h3]; done) | (exfalso; simp_all; done)]
        exact mf_rz C.x C.b hH hr hlk rfl md_O_isFitBy_35
      · skip
        refine lv_iconst (v := 1) C.x C.b md_O_isFitBy_30 (by decide) ?_
        refine lv_goto (tgt := 35) C.x C.b md_O_isFitBy_31 (by decide) ?_
        rw [show mf_bI (mf_fit o a) = 1 by first | (simp [mf_bI, mf_fit, h1, h2, mf_bI_1.mp h3]; done) | (exfalso; simp_all; done)]
        exact mf_rz C.x C.b hH hr hlk rfl md_O_isFitBy_35
set_option maxRecDepth 100000 in
set_option maxHeartbeats 4000000 in
theorem k_F_placeOf (l : Launch) (D : va_G) (k5 : mf_k5) (t0 : Nat × Nat) (A : Nat → Prop) (H : Heap) (x al tp : Nat) (due met : Int32) (ks : List (Nat × mf_O)) (i : Int32) (hC : mf_CL D k5 t0 A H x al tp due met ks) : mf_cRO l my_F_placeOf mc_F_placeOf 3 (some .int) { frames := 3, cells := 0, slots := 0, locals := 64 } D (mf_tys k5) t0 A H [.ref x, .int i] (some (.int (mf_ix (mf_place i (mf_L ks))))) := by
  obtain ⟨hx, hAx, hAL, hks, hnd⟩ := hC
  obtain ⟨ed, mc, hal, hA1, hle, hor⟩ := id hAL
  rw [List.length_map] at hle
  refine mf_of (by decide) (Nat.le_of_ble_eq_true rfl) ?_
  intro p e s m below meth c ls C hH hr hlk hnm hmt hl hS
  have hl : lv_has ls 3 [(0, .ref x), (1, .int i)] := hl
  have loop : ∀ (n k : Nat) (ls : Array Slot), k + n = ks.length → mf_pick (fun r => decide (mf_id r = i)) (fun _ _ => false) ((mf_L ks).take k) = none → lv_has ls 3 [(2, .int (nI k)), (0, .ref x), (1, .int i)] → W p l e ({ frames := 3, cells := 0, slots := 0, locals := 64 } : Room) s m (([.ref x, .int i] : List Value).toArray) below meth c H [] 0 0 (MQ below (mf_K (some (.int (mf_ix (mf_place i (mf_L ks)))))) (([.ref x, .int i] : List Value).toArray) s 0 0 (fun _ => False)) (F0 m 2 ls []) := by
    intro n
    induction n with
    | zero =>
      intro k  ls hk i0 hl
      obtain rfl : k = ks.length := by omega
      refine lv_iload_n C.x C.b md_F_placeOf_2 rfl (lv_at hl 0 rfl) ?_
      refine lv_aload_n C.x C.b md_F_placeOf_3 rfl (lv_at hl 1 rfl) ?_
      refine mf_gf C (ci := 3) (N := 4) rfl mi_F 0 (by decide) mt_84 hx (v := .ref al) rfl md_F_placeOf_4 ?_
      refine mf_cks (va_runV (As := []) (rest := [.int (nI ks.length)]) C.f (k_A_size l D k5 t0 A H al _ hAL) (mf_cV C mt_205 mt_202 mt_4 mt_203 mt_204 mh_A_size ⟨by decide, by decide⟩) (mf_preV C.ev hS (mf_rv C (ci := 0) (N := 3) rfl hal)) rfl rfl hl.1 rfl (lv_room (Nat.le_of_ble_eq_true rfl)) md_F_placeOf_7 ⟨by omega, by omega⟩) ?_
      rw [List.length_map]
      refine lv_icmp_ge (tgt := 39) C.x C.b md_F_placeOf_10 (by decide) (fun h1 => ?_) (fun h1 => ?_)
      · skip
        refine lv_iconst (v := (-1)) C.x C.b md_F_placeOf_39 (by decide) ?_
        rw [show mf_place i (mf_L ks) = none from mf_pick_all (by rw [show (mf_L ks).length = ks.length from List.length_map _]; exact i0)]
        exact mf_ri C.x C.b hH hr hlk md_F_placeOf_40
      · exact absurd (Int32.le_refl _) h1
    | succ n ih =>
      intro k  ls hk i0 hl
      have hkk : k < ks.length := by omega
      have hkl : k < ks.length := by omega
      obtain ⟨⟨a, o⟩, hq⟩ := mf_at_lt hkl
      have ho : va_at D mf_cl (a, .inr (1, mf_fs o)) H := (hks (a, o) (List.mem_of_getElem? hq)).1
      refine lv_iload_n C.x C.b md_F_placeOf_2 rfl (lv_at hl 0 rfl) ?_
      refine lv_aload_n C.x C.b md_F_placeOf_3 rfl (lv_at hl 1 rfl) ?_
      refine mf_gf C (ci := 3) (N := 4) rfl mi_F 0 (by decide) mt_84 hx (v := .ref al) rfl md_F_placeOf_4 ?_
      refine mf_cks (va_runV (As := []) (rest := [.int (nI k)]) C.f (k_A_size l D k5 t0 A H al _ hAL) (mf_cV C mt_205 mt_202 mt_4 mt_203 mt_204 mh_A_size ⟨by decide, by decide⟩) (mf_preV C.ev hS (mf_rv C (ci := 0) (N := 3) rfl hal)) rfl rfl hl.1 rfl (lv_room (Nat.le_of_ble_eq_true rfl)) md_F_placeOf_7 ⟨by omega, by omega⟩) ?_
      rw [List.length_map]
      refine lv_icmp_ge (tgt := 39) C.x C.b md_F_placeOf_10 (by decide) (fun h2 => ?_) (fun h2 => ?_)
      · exact absurd h2 (nI_ge hkk (by omega))
      · skip
        refine lv_aload_n C.x C.b md_F_placeOf_13 rfl (lv_at hl 1 rfl) ?_
        refine mf_gf C (ci := 3) (N := 4) rfl mi_F 0 (by decide) mt_84 hx (v := .ref al) rfl md_F_placeOf_14 ?_
        refine lv_iload_n C.x C.b md_F_placeOf_17 rfl (lv_at hl 0 rfl) ?_
        refine mf_cks (va_runV (As := [.int (nI k)]) (rest := []) C.f (k_A_get l D k5 t0 A H al k a _ hAL (mf_kq hq)) (mf_cV C mt_209 mt_206 mt_4 mt_207 mt_208 mh_A_get ⟨by decide, by decide⟩) (mf_preV C.ev hS (mf_rv C (ci := 0) (N := 3) rfl hal)) rfl rfl hl.1 rfl (lv_room (Nat.le_of_ble_eq_true rfl)) md_F_placeOf_18 ⟨by omega, by omega⟩) ?_
        refine mf_cast C (ci := 1) (N := 6) rfl mt_220 ho md_F_placeOf_21 ?_
        refine mf_gfN C (ci := 1) (N := 6) rfl mi_O 0 (by decide) (C.ev.2.1.1 (163, "MatchFloor$Order", "id", "I") (List.mem_of_getElem? (i := 4) rfl)) ho (v := .int (mf_id o)) rfl md_F_placeOf_24 ?_
        refine lv_iload_n C.x C.b md_F_placeOf_27 rfl (lv_at hl 2 rfl) ?_
        refine lv_icmp_ne (tgt := 33) C.x C.b md_F_placeOf_28 (by decide) (fun h3 => ?_) (fun h3 => ?_)
        · skip
          refine lv_iinc (k := 0) (v := nI (k + 1)) (lv' := [(2, .int (nI (k + 1))), (0, .ref x), (1, .int i)]) C.x C.b md_F_placeOf_33 hl rfl (nI_1 _) (by decide) rfl (fun ls hl => ?_)
          refine lv_goto (tgt := 2) C.x C.b md_F_placeOf_36 (by decide) ?_
          exact ih (k + 1)  ls (by omega) (mf_pick_pass i0 (mf_kl hq) (by simp [h2, Int32.not_le.mp h2, h3])) (lv_sub hl [0, 1, 2] rfl)
        · skip
          refine lv_iload_n C.x C.b md_F_placeOf_31 rfl (lv_at hl 0 rfl) ?_
          rw [show mf_place i (mf_L ks) = some (k, o) from mf_pick_found i0 (mf_kl hq) (by simp [h2, Int32.not_le.mp h2, h3])]
          exact mf_ri C.x C.b hH hr hlk md_F_placeOf_32
  refine lv_iconst (v := 0) C.x C.b md_F_placeOf_0 (by decide) ?_
  refine lv_istore_n (lv' := [(2, .int 0), (0, .ref x), (1, .int i)]) C.x C.b md_F_placeOf_1 rfl hl (by decide) rfl (fun ls hl => ?_)
  exact loop ks.length 0  ls (by omega) rfl (lv_sub hl [0, 1, 2] rfl)
set_option maxRecDepth 100000 in
set_option maxHeartbeats 4000000 in
theorem k_F_placeOfDue (l : Launch) (D : va_G) (k5 : mf_k5) (t0 : Nat × Nat) (A : Nat → Prop) (H : Heap) (x al tp : Nat) (due met : Int32) (ks : List (Nat × mf_O)) (g : mf_G) (hC : mf_CL D k5 t0 A H x al tp due met ks) (hT : mf_TP D k5 A H tp g) : mf_cRO l my_F_placeOfDue mc_F_placeOfDue 2 (some .int) { frames := 3, cells := 0, slots := 0, locals := 64 } D (mf_tys k5) t0 A H [.ref x] (some (.int (mf_ix (mf_dueAt g.2.1 (mf_L ks))))) := by
  obtain ⟨hx, hAx, hAL, hks, hnd⟩ := hC
  obtain ⟨ed, mc, hal, hA1, hle, hor⟩ := id hAL
  rw [List.length_map] at hle
  obtain ⟨rw, rr, rf, rx, htp, hA3, hrw, hA4, hrf, hrr, hin⟩ := hT
  refine mf_of (by decide) (Nat.le_of_ble_eq_true rfl) ?_
  intro p e s m below meth c ls C hH hr hlk hnm hmt hl hS
  have hl : lv_has ls 2 [(0, .ref x)] := hl
  have loop : ∀ (n k : Nat) (ls : Array Slot), k + n = ks.length → mf_pick (fun r => mf_due r g.2.1) (fun _ _ => false) ((mf_L ks).take k) = none → lv_has ls 2 [(1, .int (nI k)), (0, .ref x)] → W p l e ({ frames := 3, cells := 0, slots := 0, locals := 64 } : Room) s m (([.ref x] : List Value).toArray) below meth c H [] 0 0 (MQ below (mf_K (some (.int (mf_ix (mf_dueAt g.2.1 (mf_L ks)))))) (([.ref x] : List Value).toArray) s 0 0 (fun _ => False)) (F0 m 2 ls []) := by
    intro n
    induction n with
    | zero =>
      intro k  ls hk i0 hl
      obtain rfl : k = ks.length := by omega
      refine lv_iload_n C.x C.b md_F_placeOfDue_2 rfl (lv_at hl 0 rfl) ?_
      refine lv_aload_n C.x C.b md_F_placeOfDue_3 rfl (lv_at hl 1 rfl) ?_
      refine mf_gf C (ci := 3) (N := 4) rfl mi_F 0 (by decide) mt_84 hx (v := .ref al) rfl md_F_placeOfDue_4 ?_
      refine mf_cks (va_runV (As := []) (rest := [.int (nI ks.length)]) C.f (k_A_size l D k5 t0 A H al _ hAL) (mf_cV C mt_205 mt_202 mt_4 mt_203 mt_204 mh_A_size ⟨by decide, by decide⟩) (mf_preV C.ev hS (mf_rv C (ci := 0) (N := 3) rfl hal)) rfl rfl hl.1 rfl (lv_room (Nat.le_of_ble_eq_true rfl)) md_F_placeOfDue_7 ⟨by omega, by omega⟩) ?_
      rw [List.length_map]
      refine lv_icmp_ge (tgt := 45) C.x C.b md_F_placeOfDue_10 (by decide) (fun h1 => ?_) (fun h1 => ?_)
      · skip
        refine lv_iconst (v := (-1)) C.x C.b md_F_placeOfDue_45 (by decide) ?_
        rw [show mf_dueAt g.2.1 (mf_L ks) = none from mf_pick_all (by rw [show (mf_L ks).length = ks.length from List.length_map _]; exact i0)]
        exact mf_ri C.x C.b hH hr hlk md_F_placeOfDue_46
      · exact absurd (Int32.le_refl _) h1
    | succ n ih =>
      intro k  ls hk i0 hl
      have hkk : k < ks.length := by omega
      have hkl : k < ks.length := by omega
      obtain ⟨⟨a, o⟩, hq⟩ := mf_at_lt hkl
      have ho : va_at D mf_cl (a, .inr (1, mf_fs o)) H := (hks (a, o) (List.mem_of_getElem? hq)).1
      refine lv_iload_n C.x C.b md_F_placeOfDue_2 rfl (lv_at hl 0 rfl) ?_
      refine lv_aload_n C.x C.b md_F_placeOfDue_3 rfl (lv_at hl 1 rfl) ?_
      refine mf_gf C (ci := 3) (N := 4) rfl mi_F 0 (by decide) mt_84 hx (v := .ref al) rfl md_F_placeOfDue_4 ?_
      refine mf_cks (va_runV (As := []) (rest := [.int (nI k)]) C.f (k_A_size l D k5 t0 A H al _ hAL) (mf_cV C mt_205 mt_202 mt_4 mt_203 mt_204 mh_A_size ⟨by decide, by decide⟩) (mf_preV C.ev hS (mf_rv C (ci := 0) (N := 3) rfl hal)) rfl rfl hl.1 rfl (lv_room (Nat.le_of_ble_eq_true rfl)) md_F_placeOfDue_7 ⟨by omega, by omega⟩) ?_
      rw [List.length_map]
      refine lv_icmp_ge (tgt := 45) C.x C.b md_F_placeOfDue_10 (by decide) (fun h2 => ?_) (fun h2 => ?_)
      · exact absurd h2 (nI_ge hkk (by omega))
      · skip
        refine lv_aload_n C.x C.b md_F_placeOfDue_13 rfl (lv_at hl 1 rfl) ?_
        refine mf_gf C (ci := 3) (N := 4) rfl mi_F 0 (by decide) mt_84 hx (v := .ref al) rfl md_F_placeOfDue_14 ?_
        refine lv_iload_n C.x C.b md_F_placeOfDue_17 rfl (lv_at hl 0 rfl) ?_
        refine mf_cks (va_runV (As := [.int (nI k)]) (rest := []) C.f (k_A_get l D k5 t0 A H al k a _ hAL (mf_kq hq)) (mf_cV C mt_209 mt_206 mt_4 mt_207 mt_208 mh_A_get ⟨by decide, by decide⟩) (mf_preV C.ev hS (mf_rv C (ci := 0) (N := 3) rfl hal)) rfl rfl hl.1 rfl (lv_room (Nat.le_of_ble_eq_true rfl)) md_F_placeOfDue_18 ⟨by omega, by omega⟩) ?_
        refine mf_cast C (ci := 1) (N := 6) rfl mt_220 ho md_F_placeOfDue_21 ?_
        refine lv_aload_n C.x C.b md_F_placeOfDue_24 rfl (lv_at hl 1 rfl) ?_
        refine mf_gf C (ci := 3) (N := 4) rfl mi_F 1 (by decide) mt_85 hx (v := .ref tp) rfl md_F_placeOfDue_25 ?_
        refine mf_gfN C (ci := 2) (N := 5) rfl mi_T 2 (by decide) (C.ev.2.1.1 (141, "MatchFloor$Tape", "lastPrice", "I") (List.mem_of_getElem? (i := 1) rfl)) htp (v := .int g.2.1) rfl md_F_placeOfDue_28 ?_
        refine mf_cks (va_runVN (As := [.int g.2.1]) (rest := []) C.f (k_O_isDueAt l D k5 t0 A H a o g.2.1 ho) ⟨mf_cN C mt_393 (C.ev.2.1.2.1 ("MatchFloor", 173, my_O_isDueAt) (List.mem_of_getElem? (i := 7) rfl)) mt_14 mh_O_isDueAt ⟨by decide, by decide⟩, C.t mt_392, C.t ms_17⟩ (mf_preV C.ev hS (mf_rv C (ci := 1) (N := 6) rfl ho)) rfl rfl hl.1 rfl (lv_room (Nat.le_of_ble_eq_true rfl)) md_F_placeOfDue_31 ⟨by omega, by omega⟩) ?_
        refine lv_if_eq (tgt := 39) C.x C.b md_F_placeOfDue_34 (by decide) (fun h3 => ?_) (fun h3 => ?_)
        · skip
          refine lv_iinc (k := 0) (v := nI (k + 1)) (lv' := [(1, .int (nI (k + 1))), (0, .ref x)]) C.x C.b md_F_placeOfDue_39 hl rfl (nI_1 _) (by decide) rfl (fun ls hl => ?_)
          refine lv_goto (tgt := 2) C.x C.b md_F_placeOfDue_42 (by decide) ?_
          exact ih (k + 1)  ls (by omega) (mf_pick_pass i0 (mf_kl hq) (by simp [h2, Int32.not_le.mp h2, mf_bI_0.mp h3])) (lv_sub hl [0, 1] rfl)
        · skip
          refine lv_iload_n C.x C.b md_F_placeOfDue_37 rfl (lv_at hl 0 rfl) ?_
          rw [show mf_dueAt g.2.1 (mf_L ks) = some (k, o) from mf_pick_found i0 (mf_kl hq) (by simp [h2, Int32.not_le.mp h2, mf_bI_1.mp h3])]
          exact mf_ri C.x C.b hH hr hlk md_F_placeOfDue_38
  refine lv_iconst (v := 0) C.x C.b md_F_placeOfDue_0 (by decide) ?_
  refine lv_istore_n (lv' := [(1, .int 0), (0, .ref x)]) C.x C.b md_F_placeOfDue_1 rfl hl (by decide) rfl (fun ls hl => ?_)
  exact loop ks.length 0  ls (by omega) rfl (lv_sub hl [0, 1] rfl)
set_option maxRecDepth 100000 in
set_option maxHeartbeats 4000000 in
theorem k_F_leftFor (l : Launch) (D : va_G) (k5 : mf_k5) (t0 : Nat × Nat) (A : Nat → Prop) (H : Heap) (x al tp : Nat) (due met : Int32) (ks : List (Nat × mf_O)) (ca : Nat) (cr : mf_O) (hC : mf_CL D k5 t0 A H x al tp due met ks) (hca : va_at D mf_cl (ca, .inr (1, mf_fs cr)) H) : mf_cRO l my_F_leftFor mc_F_leftFor 6 (some .int) { frames := 3, cells := 0, slots := 0, locals := 64 } D (mf_tys k5) t0 A H [.ref x, .ref ca] (some (.int (mf_sum (fun r => if mf_rests r (mf_other (mf_sd cr)) && (mf_fit r (mf_pr cr) && !decide (mf_ow r = mf_ow cr)) then mf_lf r else 0) (mf_L ks)))) := by
  obtain ⟨hx, hAx, hAL, hks, hnd⟩ := hC
  obtain ⟨ed, mc, hal, hA1, hle, hor⟩ := id hAL
  rw [List.length_map] at hle
  refine mf_of (by decide) (Nat.le_of_ble_eq_true rfl) ?_
  intro p e s m below meth c ls C hH hr hlk hnm hmt hl hS
  have hl : lv_has ls 6 [(0, .ref x), (1, .ref ca)] := hl
  have loop : ∀ (n k : Nat) (r : Int32) (ls : Array Slot), k + n = ks.length → mf_sum (fun r => if mf_rests r (mf_other (mf_sd cr)) && (mf_fit r (mf_pr cr) && !decide (mf_ow r = mf_ow cr)) then mf_lf r else 0) ((mf_L ks).take k) = r → lv_has ls 6 [(4, .int (nI k)), (3, .int r), (2, .int (mf_other (mf_sd cr))), (0, .ref x), (1, .ref ca)] → W p l e ({ frames := 3, cells := 0, slots := 0, locals := 64 } : Room) s m (([.ref x, .ref ca] : List Value).toArray) below meth c H [] 0 0 (MQ below (mf_K (some (.int (mf_sum (fun r => if mf_rests r (mf_other (mf_sd cr)) && (mf_fit r (mf_pr cr) && !decide (mf_ow r = mf_ow cr)) then mf_lf r else 0) (mf_L ks))))) (([.ref x, .ref ca] : List Value).toArray) s 0 0 (fun _ => False)) (F0 m 13 ls []) := by
    intro n
    induction n with
    | zero =>
      intro k r ls hk i0 hl
      obtain rfl : k = ks.length := by omega
      refine lv_iload C.x C.b md_F_leftFor_13 (lv_at hl 0 rfl) ?_
      refine lv_aload_n C.x C.b md_F_leftFor_15 rfl (lv_at hl 3 rfl) ?_
      refine mf_gf C (ci := 3) (N := 4) rfl mi_F 0 (by decide) mt_84 hx (v := .ref al) rfl md_F_leftFor_16 ?_
      refine mf_cks (va_runV (As := []) (rest := [.int (nI ks.length)]) C.f (k_A_size l D k5 t0 A H al _ hAL) (mf_cV C mt_205 mt_202 mt_4 mt_203 mt_204 mh_A_size ⟨by decide, by decide⟩) (mf_preV C.ev hS (mf_rv C (ci := 0) (N := 3) rfl hal)) rfl rfl hl.1 rfl (lv_room (Nat.le_of_ble_eq_true rfl)) md_F_leftFor_19 ⟨by omega, by omega⟩) ?_
      rw [List.length_map]
      refine lv_icmp_ge (tgt := 86) C.x C.b md_F_leftFor_22 (by decide) (fun h1 => ?_) (fun h1 => ?_)
      · skip
        refine lv_iload_n C.x C.b md_F_leftFor_86 rfl (lv_at hl 1 rfl) ?_
        rw [show mf_sum (fun r => if mf_rests r (mf_other (mf_sd cr)) && (mf_fit r (mf_pr cr) && !decide (mf_ow r = mf_ow cr)) then mf_lf r else 0) (mf_L ks) = r by rw [← i0, mf_kt]]
        exact mf_ri C.x C.b hH hr hlk md_F_leftFor_87
      · exact absurd (Int32.le_refl _) h1
    | succ n ih =>
      intro k r ls hk i0 hl
      have hkk : k < ks.length := by omega
      have hkl : k < ks.length := by omega
      obtain ⟨⟨a, o⟩, hq⟩ := mf_at_lt hkl
      have ho : va_at D mf_cl (a, .inr (1, mf_fs o)) H := (hks (a, o) (List.mem_of_getElem? hq)).1
      refine lv_iload C.x C.b md_F_leftFor_13 (lv_at hl 0 rfl) ?_
      refine lv_aload_n C.x C.b md_F_leftFor_15 rfl (lv_at hl 3 rfl) ?_
      refine mf_gf C (ci := 3) (N := 4) rfl mi_F 0 (by decide) mt_84 hx (v := .ref al) rfl md_F_leftFor_16 ?_
      refine mf_cks (va_runV (As := []) (rest := [.int (nI k)]) C.f (k_A_size l D k5 t0 A H al _ hAL) (mf_cV C mt_205 mt_202 mt_4 mt_203 mt_204 mh_A_size ⟨by decide, by decide⟩) (mf_preV C.ev hS (mf_rv C (ci := 0) (N := 3) rfl hal)) rfl rfl hl.1 rfl (lv_room (Nat.le_of_ble_eq_true rfl)) md_F_leftFor_19 ⟨by omega, by omega⟩) ?_
      rw [List.length_map]
      refine lv_icmp_ge (tgt := 86) C.x C.b md_F_leftFor_22 (by decide) (fun h2 => ?_) (fun h2 => ?_)
      · exact absurd h2 (nI_ge hkk (by omega))
      · skip
        refine lv_aload_n C.x C.b md_F_leftFor_25 rfl (lv_at hl 3 rfl) ?_
        refine mf_gf C (ci := 3) (N := 4) rfl mi_F 0 (by decide) mt_84 hx (v := .ref al) rfl md_F_leftFor_26 ?_
        refine lv_iload C.x C.b md_F_leftFor_29 (lv_at hl 0 rfl) ?_
        refine mf_cks (va_runV (As := [.int (nI k)]) (rest := []) C.f (k_A_get l D k5 t0 A H al k a _ hAL (mf_kq hq)) (mf_cV C mt_209 mt_206 mt_4 mt_207 mt_208 mh_A_get ⟨by decide, by decide⟩) (mf_preV C.ev hS (mf_rv C (ci := 0) (N := 3) rfl hal)) rfl rfl hl.1 rfl (lv_room (Nat.le_of_ble_eq_true rfl)) md_F_leftFor_31 ⟨by omega, by omega⟩) ?_
        refine mf_cast C (ci := 1) (N := 6) rfl mt_220 ho md_F_leftFor_34 ?_
        refine lv_astore (lv' := [(5, .ref a), (4, .int (nI k)), (3, .int r), (2, .int (mf_other (mf_sd cr))), (0, .ref x), (1, .ref ca)]) C.x C.b md_F_leftFor_37 hl (by decide) rfl (fun ls hl => ?_)
        refine lv_aload C.x C.b md_F_leftFor_39 (lv_at hl 0 rfl) ?_
        refine lv_iload_n C.x C.b md_F_leftFor_41 rfl (lv_at hl 3 rfl) ?_
        refine mf_cks (va_runVN (As := [.int (mf_other (mf_sd cr))]) (rest := []) C.f (k_O_restsOn l D k5 t0 A H a o (mf_other (mf_sd cr)) ho) ⟨mf_cN C mt_282 (C.ev.2.1.2.1 ("MatchFloor", 166, my_O_restsOn) (List.mem_of_getElem? (i := 2) rfl)) mt_14 mh_O_restsOn ⟨by decide, by decide⟩, C.t mt_281, C.t ms_4⟩ (mf_preV C.ev hS (mf_rv C (ci := 1) (N := 6) rfl ho)) rfl rfl hl.1 rfl (lv_room (Nat.le_of_ble_eq_true rfl)) md_F_leftFor_42 ⟨by omega, by omega⟩) ?_
        refine lv_if_eq (tgt := 80) C.x C.b md_F_leftFor_45 (by decide) (fun h3 => ?_) (fun h3 => ?_)
        · skip
          refine lv_iinc (k := 1) (v := nI (k + 1)) (lv' := [(4, .int (nI (k + 1))), (5, .ref a), (3, .int r), (2, .int (mf_other (mf_sd cr))), (0, .ref x), (1, .ref ca)]) C.x C.b md_F_leftFor_80 hl rfl (nI_1 _) (by decide) rfl (fun ls hl => ?_)
          refine lv_goto (tgt := 13) C.x C.b md_F_leftFor_83 (by decide) ?_
          exact ih (k + 1) r ls (by omega) (mf_sstep (mf_kl hq) i0 (by first | (simp [h2, Int32.not_le.mp h2, mf_bI_0.mp h3]; done) | (exfalso; simp_all; done))) (lv_sub hl [0, 2, 3, 4, 5] rfl)
        · skip
          refine lv_aload C.x C.b md_F_leftFor_48 (lv_at hl 0 rfl) ?_
          refine lv_aload_n C.x C.b md_F_leftFor_50 rfl (lv_at hl 5 rfl) ?_
          refine mf_gfN C (ci := 1) (N := 6) rfl mi_O 4 (by decide) (C.ev.2.1.1 (92, "MatchFloor$Order", "price", "I") (List.mem_of_getElem? (i := 8) rfl)) hca (v := .int (mf_pr cr)) rfl md_F_leftFor_51 ?_
          refine mf_cks (va_runVN (As := [.int (mf_pr cr)]) (rest := []) C.f (k_O_isFitBy l D k5 t0 A H a o (mf_pr cr) ho) ⟨mf_cN C mt_286 (C.ev.2.1.2.1 ("MatchFloor", 186, my_O_isFitBy) (List.mem_of_getElem? (i := 3) rfl)) mt_14 mh_O_isFitBy ⟨by decide, by decide⟩, C.t mt_285, C.t ms_5⟩ (mf_preV C.ev hS (mf_rv C (ci := 1) (N := 6) rfl ho)) rfl rfl hl.1 rfl (lv_room (Nat.le_of_ble_eq_true rfl)) md_F_leftFor_54 ⟨by omega, by omega⟩) ?_
          refine lv_if_eq (tgt := 80) C.x C.b md_F_leftFor_57 (by decide) (fun h4 => ?_) (fun h4 => ?_)
          · skip
            refine lv_iinc (k := 1) (v := nI (k + 1)) (lv' := [(4, .int (nI (k + 1))), (5, .ref a), (3, .int r), (2, .int (mf_other (mf_sd cr))), (0, .ref x), (1, .ref ca)]) C.x C.b md_F_leftFor_80 hl rfl (nI_1 _) (by decide) rfl (fun ls hl => ?_)
            refine lv_goto (tgt := 13) C.x C.b md_F_leftFor_83 (by decide) ?_
            exact ih (k + 1) r ls (by omega) (mf_sstep (mf_kl hq) i0 (by first | (simp [h2, Int32.not_le.mp h2, mf_bI_1.mp h3, mf_bI_0.mp h4]; done) | (exfalso; simp_all; done))) (lv_sub hl [0, 2, 3, 4, 5] rfl)
          · skip
            refine lv_aload C.x C.b md_F_leftFor_60 (lv_at hl 0 rfl) ?_
            refine mf_gfN C (ci := 1) (N := 6) rfl mi_O 1 (by decide) (C.ev.2.1.1 (97, "MatchFloor$Order", "owner", "I") (List.mem_of_getElem? (i := 5) rfl)) ho (v := .int (mf_ow o)) rfl md_F_leftFor_62 ?_
            refine lv_aload_n C.x C.b md_F_leftFor_65 rfl (lv_at hl 5 rfl) ?_
            refine mf_gfN C (ci := 1) (N := 6) rfl mi_O 1 (by decide) (C.ev.2.1.1 (97, "MatchFloor$Order", "owner", "I") (List.mem_of_getElem? (i := 5) rfl)) hca (v := .int (mf_ow cr)) rfl md_F_leftFor_66 ?_
            refine lv_icmp_eq (tgt := 80) C.x C.b md_F_leftFor_69 (by decide) (fun h5 => ?_) (fun h5 => ?_)
            · skip
              refine lv_iinc (k := 1) (v := nI (k + 1)) (lv' := [(4, .int (nI (k + 1))), (5, .ref a), (3, .int r), (2, .int (mf_other (mf_sd cr))), (0, .ref x), (1, .ref ca)]) C.x C.b md_F_leftFor_80 hl rfl (nI_1 _) (by decide) rfl (fun ls hl => ?_)
              refine lv_goto (tgt := 13) C.x C.b md_F_leftFor_83 (by decide) ?_
              exact ih (k + 1) r ls (by omega) (mf_sstep (mf_kl hq) i0 (by first | (simp [h2, Int32.not_le.mp h2, mf_bI_1.mp h3, mf_bI_1.mp h4, h5]; done) | (exfalso; simp_all; done))) (lv_sub hl [0, 2, 3, 4, 5] rfl)
            · skip
              refine lv_iload_n C.x C.b md_F_leftFor_72 rfl (lv_at hl 2 rfl) ?_
              refine lv_aload C.x C.b md_F_leftFor_73 (lv_at hl 0 rfl) ?_
              refine mf_gfN C (ci := 1) (N := 6) rfl mi_O 5 (by decide) (C.ev.2.1.1 (81, "MatchFloor$Order", "left", "I") (List.mem_of_getElem? (i := 9) rfl)) ho (v := .int (mf_lf o)) rfl md_F_leftFor_75 ?_
              refine lv_iadd C.x C.b md_F_leftFor_78 ?_
              refine lv_istore_n (lv' := [(3, .int (r + (mf_lf o))), (5, .ref a), (4, .int (nI k)), (2, .int (mf_other (mf_sd cr))), (0, .ref x), (1, .ref ca)]) C.x C.b md_F_leftFor_79 rfl hl (by decide) rfl (fun ls hl => ?_)
              refine lv_iinc (k := 2) (v := nI (k + 1)) (lv' := [(4, .int (nI (k + 1))), (3, .int (r + (mf_lf o))), (5, .ref a), (2, .int (mf_other (mf_sd cr))), (0, .ref x), (1, .ref ca)]) C.x C.b md_F_leftFor_80 hl rfl (nI_1 _) (by decide) rfl (fun ls hl => ?_)
              refine lv_goto (tgt := 13) C.x C.b md_F_leftFor_83 (by decide) ?_
              exact ih (k + 1) (r + (mf_lf o)) ls (by omega) (mf_sstep (mf_kl hq) i0 (by first | (simp [h2, Int32.not_le.mp h2, mf_bI_1.mp h3, mf_bI_1.mp h4, h5]; done) | (exfalso; simp_all; done))) (lv_sub hl [0, 1, 3, 4, 5] rfl)
  refine lv_aload_n C.x C.b md_F_leftFor_0 rfl (lv_at hl 1 rfl) ?_
  refine mf_gfN C (ci := 1) (N := 6) rfl mi_O 2 (by decide) (C.ev.2.1.1 (125, "MatchFloor$Order", "side", "I") (List.mem_of_getElem? (i := 6) rfl)) hca (v := .int (mf_sd cr)) rfl md_F_leftFor_1 ?_
  refine mf_cks (va_runS (As := [.int (mf_sd cr)]) (rest := []) C.f (k_F_otherSide l D k5 t0 A H (mf_sd cr)) (mf_cS C mt_278 mt_276 mt_1 mt_277 mh_F_otherSide ⟨by decide, by decide⟩) (mf_preS C.ev hS) rfl rfl hl.1 rfl (lv_room (Nat.le_of_ble_eq_true rfl)) md_F_leftFor_4 ⟨by omega, by omega⟩) ?_
  refine lv_istore_n (lv' := [(2, .int (mf_other (mf_sd cr))), (0, .ref x), (1, .ref ca)]) C.x C.b md_F_leftFor_7 rfl hl (by decide) rfl (fun ls hl => ?_)
  refine lv_iconst (v := 0) C.x C.b md_F_leftFor_8 (by decide) ?_
  refine lv_istore_n (lv' := [(3, .int 0), (2, .int (mf_other (mf_sd cr))), (0, .ref x), (1, .ref ca)]) C.x C.b md_F_leftFor_9 rfl hl (by decide) rfl (fun ls hl => ?_)
  refine lv_iconst (v := 0) C.x C.b md_F_leftFor_10 (by decide) ?_
  refine lv_istore (lv' := [(4, .int 0), (3, .int 0), (2, .int (mf_other (mf_sd cr))), (0, .ref x), (1, .ref ca)]) C.x C.b md_F_leftFor_11 hl (by decide) rfl (fun ls hl => ?_)
  exact loop ks.length 0 0 ls (by omega) rfl (lv_sub hl [0, 1, 2, 3, 4] rfl)
set_option maxRecDepth 100000 in
set_option maxHeartbeats 4000000 in
theorem k_F_leftAt (l : Launch) (D : va_G) (k5 : mf_k5) (t0 : Nat × Nat) (A : Nat → Prop) (H : Heap) (x al tp : Nat) (due met : Int32) (ks : List (Nat × mf_O)) (s0 p0 : Int32) (hC : mf_CL D k5 t0 A H x al tp due met ks) : mf_cRO l my_F_leftAt mc_F_leftAt 6 (some .int) { frames := 3, cells := 0, slots := 0, locals := 64 } D (mf_tys k5) t0 A H [.ref x, .int s0, .int p0] (some (.int (mf_sum (fun r => if mf_at s0 p0 r then mf_lf r else 0) (mf_L ks)))) := by
  obtain ⟨hx, hAx, hAL, hks, hnd⟩ := hC
  obtain ⟨ed, mc, hal, hA1, hle, hor⟩ := id hAL
  rw [List.length_map] at hle
  refine mf_of (by decide) (Nat.le_of_ble_eq_true rfl) ?_
  intro p e s m below meth c ls C hH hr hlk hnm hmt hl hS
  have hl : lv_has ls 6 [(0, .ref x), (1, .int s0), (2, .int p0)] := hl
  have loop : ∀ (n k : Nat) (r : Int32) (ls : Array Slot), k + n = ks.length → mf_sum (fun r => if mf_at s0 p0 r then mf_lf r else 0) ((mf_L ks).take k) = r → lv_has ls 6 [(4, .int (nI k)), (3, .int r), (0, .ref x), (1, .int s0), (2, .int p0)] → W p l e ({ frames := 3, cells := 0, slots := 0, locals := 64 } : Room) s m (([.ref x, .int s0, .int p0] : List Value).toArray) below meth c H [] 0 0 (MQ below (mf_K (some (.int (mf_sum (fun r => if mf_at s0 p0 r then mf_lf r else 0) (mf_L ks))))) (([.ref x, .int s0, .int p0] : List Value).toArray) s 0 0 (fun _ => False)) (F0 m 5 ls []) := by
    intro n
    induction n with
    | zero =>
      intro k r ls hk i0 hl
      obtain rfl : k = ks.length := by omega
      refine lv_iload C.x C.b md_F_leftAt_5 (lv_at hl 0 rfl) ?_
      refine lv_aload_n C.x C.b md_F_leftAt_7 rfl (lv_at hl 2 rfl) ?_
      refine mf_gf C (ci := 3) (N := 4) rfl mi_F 0 (by decide) mt_84 hx (v := .ref al) rfl md_F_leftAt_8 ?_
      refine mf_cks (va_runV (As := []) (rest := [.int (nI ks.length)]) C.f (k_A_size l D k5 t0 A H al _ hAL) (mf_cV C mt_205 mt_202 mt_4 mt_203 mt_204 mh_A_size ⟨by decide, by decide⟩) (mf_preV C.ev hS (mf_rv C (ci := 0) (N := 3) rfl hal)) rfl rfl hl.1 rfl (lv_room (Nat.le_of_ble_eq_true rfl)) md_F_leftAt_11 ⟨by omega, by omega⟩) ?_
      rw [List.length_map]
      refine lv_icmp_ge (tgt := 63) C.x C.b md_F_leftAt_14 (by decide) (fun h1 => ?_) (fun h1 => ?_)
      · skip
        refine lv_iload_n C.x C.b md_F_leftAt_63 rfl (lv_at hl 1 rfl) ?_
        rw [show mf_sum (fun r => if mf_at s0 p0 r then mf_lf r else 0) (mf_L ks) = r by rw [← i0, mf_kt]]
        exact mf_ri C.x C.b hH hr hlk md_F_leftAt_64
      · exact absurd (Int32.le_refl _) h1
    | succ n ih =>
      intro k r ls hk i0 hl
      have hkk : k < ks.length := by omega
      have hkl : k < ks.length := by omega
      obtain ⟨⟨a, o⟩, hq⟩ := mf_at_lt hkl
      have ho : va_at D mf_cl (a, .inr (1, mf_fs o)) H := (hks (a, o) (List.mem_of_getElem? hq)).1
      refine lv_iload C.x C.b md_F_leftAt_5 (lv_at hl 0 rfl) ?_
      refine lv_aload_n C.x C.b md_F_leftAt_7 rfl (lv_at hl 2 rfl) ?_
      refine mf_gf C (ci := 3) (N := 4) rfl mi_F 0 (by decide) mt_84 hx (v := .ref al) rfl md_F_leftAt_8 ?_
      refine mf_cks (va_runV (As := []) (rest := [.int (nI k)]) C.f (k_A_size l D k5 t0 A H al _ hAL) (mf_cV C mt_205 mt_202 mt_4 mt_203 mt_204 mh_A_size ⟨by decide, by decide⟩) (mf_preV C.ev hS (mf_rv C (ci := 0) (N := 3) rfl hal)) rfl rfl hl.1 rfl (lv_room (Nat.le_of_ble_eq_true rfl)) md_F_leftAt_11 ⟨by omega, by omega⟩) ?_
      rw [List.length_map]
      refine lv_icmp_ge (tgt := 63) C.x C.b md_F_leftAt_14 (by decide) (fun h2 => ?_) (fun h2 => ?_)
      · exact absurd h2 (nI_ge hkk (by omega))
      · skip
        refine lv_aload_n C.x C.b md_F_leftAt_17 rfl (lv_at hl 2 rfl) ?_
        refine mf_gf C (ci := 3) (N := 4) rfl mi_F 0 (by decide) mt_84 hx (v := .ref al) rfl md_F_leftAt_18 ?_
        refine lv_iload C.x C.b md_F_leftAt_21 (lv_at hl 0 rfl) ?_
        refine mf_cks (va_runV (As := [.int (nI k)]) (rest := []) C.f (k_A_get l D k5 t0 A H al k a _ hAL (mf_kq hq)) (mf_cV C mt_209 mt_206 mt_4 mt_207 mt_208 mh_A_get ⟨by decide, by decide⟩) (mf_preV C.ev hS (mf_rv C (ci := 0) (N := 3) rfl hal)) rfl rfl hl.1 rfl (lv_room (Nat.le_of_ble_eq_true rfl)) md_F_leftAt_23 ⟨by omega, by omega⟩) ?_
        refine mf_cast C (ci := 1) (N := 6) rfl mt_220 ho md_F_leftAt_26 ?_
        refine lv_astore (lv' := [(5, .ref a), (4, .int (nI k)), (3, .int r), (0, .ref x), (1, .int s0), (2, .int p0)]) C.x C.b md_F_leftAt_29 hl (by decide) rfl (fun ls hl => ?_)
        refine lv_aload C.x C.b md_F_leftAt_31 (lv_at hl 0 rfl) ?_
        refine lv_iload_n C.x C.b md_F_leftAt_33 rfl (lv_at hl 4 rfl) ?_
        refine mf_cks (va_runVN (As := [.int s0]) (rest := []) C.f (k_O_restsOn l D k5 t0 A H a o s0 ho) ⟨mf_cN C mt_282 (C.ev.2.1.2.1 ("MatchFloor", 166, my_O_restsOn) (List.mem_of_getElem? (i := 2) rfl)) mt_14 mh_O_restsOn ⟨by decide, by decide⟩, C.t mt_281, C.t ms_4⟩ (mf_preV C.ev hS (mf_rv C (ci := 1) (N := 6) rfl ho)) rfl rfl hl.1 rfl (lv_room (Nat.le_of_ble_eq_true rfl)) md_F_leftAt_34 ⟨by omega, by omega⟩) ?_
        refine lv_if_eq (tgt := 57) C.x C.b md_F_leftAt_37 (by decide) (fun h3 => ?_) (fun h3 => ?_)
        · skip
          refine lv_iinc (k := 1) (v := nI (k + 1)) (lv' := [(4, .int (nI (k + 1))), (5, .ref a), (3, .int r), (0, .ref x), (1, .int s0), (2, .int p0)]) C.x C.b md_F_leftAt_57 hl rfl (nI_1 _) (by decide) rfl (fun ls hl => ?_)
          refine lv_goto (tgt := 5) C.x C.b md_F_leftAt_60 (by decide) ?_
          exact ih (k + 1) r ls (by omega) (mf_sstep (mf_kl hq) i0 (by first | (simp [mf_at, h2, Int32.not_le.mp h2, mf_bI_0.mp h3]; done) | (exfalso; simp_all; done))) (lv_sub hl [0, 2, 3, 4, 5] rfl)
        · skip
          refine lv_aload C.x C.b md_F_leftAt_40 (lv_at hl 0 rfl) ?_
          refine mf_gfN C (ci := 1) (N := 6) rfl mi_O 4 (by decide) (C.ev.2.1.1 (92, "MatchFloor$Order", "price", "I") (List.mem_of_getElem? (i := 8) rfl)) ho (v := .int (mf_pr o)) rfl md_F_leftAt_42 ?_
          refine lv_iload_n C.x C.b md_F_leftAt_45 rfl (lv_at hl 5 rfl) ?_
          refine lv_icmp_ne (tgt := 57) C.x C.b md_F_leftAt_46 (by decide) (fun h4 => ?_) (fun h4 => ?_)
          · skip
            refine lv_iinc (k := 1) (v := nI (k + 1)) (lv' := [(4, .int (nI (k + 1))), (5, .ref a), (3, .int r), (0, .ref x), (1, .int s0), (2, .int p0)]) C.x C.b md_F_leftAt_57 hl rfl (nI_1 _) (by decide) rfl (fun ls hl => ?_)
            refine lv_goto (tgt := 5) C.x C.b md_F_leftAt_60 (by decide) ?_
            exact ih (k + 1) r ls (by omega) (mf_sstep (mf_kl hq) i0 (by first | (simp [mf_at, h2, Int32.not_le.mp h2, mf_bI_1.mp h3, h4]; done) | (exfalso; simp_all; done))) (lv_sub hl [0, 2, 3, 4, 5] rfl)
          · skip
            refine lv_iload_n C.x C.b md_F_leftAt_49 rfl (lv_at hl 2 rfl) ?_
            refine lv_aload C.x C.b md_F_leftAt_50 (lv_at hl 0 rfl) ?_
            refine mf_gfN C (ci := 1) (N := 6) rfl mi_O 5 (by decide) (C.ev.2.1.1 (81, "MatchFloor$Order", "left", "I") (List.mem_of_getElem? (i := 9) rfl)) ho (v := .int (mf_lf o)) rfl md_F_leftAt_52 ?_
            refine lv_iadd C.x C.b md_F_leftAt_55 ?_
            refine lv_istore_n (lv' := [(3, .int (r + (mf_lf o))), (5, .ref a), (4, .int (nI k)), (0, .ref x), (1, .int s0), (2, .int p0)]) C.x C.b md_F_leftAt_56 rfl hl (by decide) rfl (fun ls hl => ?_)
            refine lv_iinc (k := 2) (v := nI (k + 1)) (lv' := [(4, .int (nI (k + 1))), (3, .int (r + (mf_lf o))), (5, .ref a), (0, .ref x), (1, .int s0), (2, .int p0)]) C.x C.b md_F_leftAt_57 hl rfl (nI_1 _) (by decide) rfl (fun ls hl => ?_)
            refine lv_goto (tgt := 5) C.x C.b md_F_leftAt_60 (by decide) ?_
            exact ih (k + 1) (r + (mf_lf o)) ls (by omega) (mf_sstep (mf_kl hq) i0 (by first | (simp [mf_at, h2, Int32.not_le.mp h2, mf_bI_1.mp h3, h4]; done) | (exfalso; simp_all; done))) (lv_sub hl [0, 1, 3, 4, 5] rfl)
  refine lv_iconst (v := 0) C.x C.b md_F_leftAt_0 (by decide) ?_
  refine lv_istore_n (lv' := [(3, .int 0), (0, .ref x), (1, .int s0), (2, .int p0)]) C.x C.b md_F_leftAt_1 rfl hl (by decide) rfl (fun ls hl => ?_)
  refine lv_iconst (v := 0) C.x C.b md_F_leftAt_2 (by decide) ?_
  refine lv_istore (lv' := [(4, .int 0), (3, .int 0), (0, .ref x), (1, .int s0), (2, .int p0)]) C.x C.b md_F_leftAt_3 hl (by decide) rfl (fun ls hl => ?_)
  exact loop ks.length 0 0 ls (by omega) rfl (lv_sub hl [0, 1, 2, 3, 4] rfl)
set_option maxRecDepth 100000 in
set_option maxHeartbeats 4000000 in
theorem k_F_ordersAt (l : Launch) (D : va_G) (k5 : mf_k5) (t0 : Nat × Nat) (A : Nat → Prop) (H : Heap) (x al tp : Nat) (due met : Int32) (ks : List (Nat × mf_O)) (s0 p0 : Int32) (hC : mf_CL D k5 t0 A H x al tp due met ks) : mf_cRO l my_F_ordersAt mc_F_ordersAt 6 (some .int) { frames := 3, cells := 0, slots := 0, locals := 64 } D (mf_tys k5) t0 A H [.ref x, .int s0, .int p0] (some (.int (mf_sum (fun r => if mf_at s0 p0 r then 1 else 0) (mf_L ks)))) := by
  obtain ⟨hx, hAx, hAL, hks, hnd⟩ := hC
  obtain ⟨ed, mc, hal, hA1, hle, hor⟩ := id hAL
  rw [List.length_map] at hle
  refine mf_of (by decide) (Nat.le_of_ble_eq_true rfl) ?_
  intro p e s m below meth c ls C hH hr hlk hnm hmt hl hS
  have hl : lv_has ls 6 [(0, .ref x), (1, .int s0), (2, .int p0)] := hl
  have loop : ∀ (n k : Nat) (r : Int32) (ls : Array Slot), k + n = ks.length → mf_sum (fun r => if mf_at s0 p0 r then 1 else 0) ((mf_L ks).take k) = r → lv_has ls 6 [(4, .int (nI k)), (3, .int r), (0, .ref x), (1, .int s0), (2, .int p0)] → W p l e ({ frames := 3, cells := 0, slots := 0, locals := 64 } : Room) s m (([.ref x, .int s0, .int p0] : List Value).toArray) below meth c H [] 0 0 (MQ below (mf_K (some (.int (mf_sum (fun r => if mf_at s0 p0 r then 1 else 0) (mf_L ks))))) (([.ref x, .int s0, .int p0] : List Value).toArray) s 0 0 (fun _ => False)) (F0 m 5 ls []) := by
    intro n
    induction n with
    | zero =>
      intro k r ls hk i0 hl
      obtain rfl : k = ks.length := by omega
      refine lv_iload C.x C.b md_F_ordersAt_5 (lv_at hl 0 rfl) ?_
      refine lv_aload_n C.x C.b md_F_ordersAt_7 rfl (lv_at hl 2 rfl) ?_
      refine mf_gf C (ci := 3) (N := 4) rfl mi_F 0 (by decide) mt_84 hx (v := .ref al) rfl md_F_ordersAt_8 ?_
      refine mf_cks (va_runV (As := []) (rest := [.int (nI ks.length)]) C.f (k_A_size l D k5 t0 A H al _ hAL) (mf_cV C mt_205 mt_202 mt_4 mt_203 mt_204 mh_A_size ⟨by decide, by decide⟩) (mf_preV C.ev hS (mf_rv C (ci := 0) (N := 3) rfl hal)) rfl rfl hl.1 rfl (lv_room (Nat.le_of_ble_eq_true rfl)) md_F_ordersAt_11 ⟨by omega, by omega⟩) ?_
      rw [List.length_map]
      refine lv_icmp_ge (tgt := 58) C.x C.b md_F_ordersAt_14 (by decide) (fun h1 => ?_) (fun h1 => ?_)
      · skip
        refine lv_iload_n C.x C.b md_F_ordersAt_58 rfl (lv_at hl 1 rfl) ?_
        rw [show mf_sum (fun r => if mf_at s0 p0 r then 1 else 0) (mf_L ks) = r by rw [← i0, mf_kt]]
        exact mf_ri C.x C.b hH hr hlk md_F_ordersAt_59
      · exact absurd (Int32.le_refl _) h1
    | succ n ih =>
      intro k r ls hk i0 hl
      have hkk : k < ks.length := by omega
      have hkl : k < ks.length := by omega
      obtain ⟨⟨a, o⟩, hq⟩ := mf_at_lt hkl
      have ho : va_at D mf_cl (a, .inr (1, mf_fs o)) H := (hks (a, o) (List.mem_of_getElem? hq)).1
      refine lv_iload C.x C.b md_F_ordersAt_5 (lv_at hl 0 rfl) ?_
      refine lv_aload_n C.x C.b md_F_ordersAt_7 rfl (lv_at hl 2 rfl) ?_
      refine mf_gf C (ci := 3) (N := 4) rfl mi_F 0 (by decide) mt_84 hx (v := .ref al) rfl md_F_ordersAt_8 ?_
      refine mf_cks (va_runV (As := []) (rest := [.int (nI k)]) C.f (k_A_size l D k5 t0 A H al _ hAL) (mf_cV C mt_205 mt_202 mt_4 mt_203 mt_204 mh_A_size ⟨by decide, by decide⟩) (mf_preV C.ev hS (mf_rv C (ci := 0) (N := 3) rfl hal)) rfl rfl hl.1 rfl (lv_room (Nat.le_of_ble_eq_true rfl)) md_F_ordersAt_11 ⟨by omega, by omega⟩) ?_
      rw [List.length_map]
      refine lv_icmp_ge (tgt := 58) C.x C.b md_F_ordersAt_14 (by decide) (fun h2 => ?_) (fun h2 => ?_)
      · exact absurd h2 (nI_ge hkk (by omega))
      · skip
        refine lv_aload_n C.x C.b md_F_ordersAt_17 rfl (lv_at hl 2 rfl) ?_
        refine mf_gf C (ci := 3) (N := 4) rfl mi_F 0 (by decide) mt_84 hx (v := .ref al) rfl md_F_ordersAt_18 ?_
        refine lv_iload C.x C.b md_F_ordersAt_21 (lv_at hl 0 rfl) ?_
        refine mf_cks (va_runV (As := [.int (nI k)]) (rest := []) C.f (k_A_get l D k5 t0 A H al k a _ hAL (mf_kq hq)) (mf_cV C mt_209 mt_206 mt_4 mt_207 mt_208 mh_A_get ⟨by decide, by decide⟩) (mf_preV C.ev hS (mf_rv C (ci := 0) (N := 3) rfl hal)) rfl rfl hl.1 rfl (lv_room (Nat.le_of_ble_eq_true rfl)) md_F_ordersAt_23 ⟨by omega, by omega⟩) ?_
        refine mf_cast C (ci := 1) (N := 6) rfl mt_220 ho md_F_ordersAt_26 ?_
        refine lv_astore (lv' := [(5, .ref a), (4, .int (nI k)), (3, .int r), (0, .ref x), (1, .int s0), (2, .int p0)]) C.x C.b md_F_ordersAt_29 hl (by decide) rfl (fun ls hl => ?_)
        refine lv_aload C.x C.b md_F_ordersAt_31 (lv_at hl 0 rfl) ?_
        refine lv_iload_n C.x C.b md_F_ordersAt_33 rfl (lv_at hl 4 rfl) ?_
        refine mf_cks (va_runVN (As := [.int s0]) (rest := []) C.f (k_O_restsOn l D k5 t0 A H a o s0 ho) ⟨mf_cN C mt_282 (C.ev.2.1.2.1 ("MatchFloor", 166, my_O_restsOn) (List.mem_of_getElem? (i := 2) rfl)) mt_14 mh_O_restsOn ⟨by decide, by decide⟩, C.t mt_281, C.t ms_4⟩ (mf_preV C.ev hS (mf_rv C (ci := 1) (N := 6) rfl ho)) rfl rfl hl.1 rfl (lv_room (Nat.le_of_ble_eq_true rfl)) md_F_ordersAt_34 ⟨by omega, by omega⟩) ?_
        refine lv_if_eq (tgt := 52) C.x C.b md_F_ordersAt_37 (by decide) (fun h3 => ?_) (fun h3 => ?_)
        · skip
          refine lv_iinc (k := 1) (v := nI (k + 1)) (lv' := [(4, .int (nI (k + 1))), (5, .ref a), (3, .int r), (0, .ref x), (1, .int s0), (2, .int p0)]) C.x C.b md_F_ordersAt_52 hl rfl (nI_1 _) (by decide) rfl (fun ls hl => ?_)
          refine lv_goto (tgt := 5) C.x C.b md_F_ordersAt_55 (by decide) ?_
          exact ih (k + 1) r ls (by omega) (mf_sstep (mf_kl hq) i0 (by first | (simp [mf_at, h2, Int32.not_le.mp h2, mf_bI_0.mp h3]; done) | (exfalso; simp_all; done))) (lv_sub hl [0, 2, 3, 4, 5] rfl)
        · skip
          refine lv_aload C.x C.b md_F_ordersAt_40 (lv_at hl 0 rfl) ?_
          refine mf_gfN C (ci := 1) (N := 6) rfl mi_O 4 (by decide) (C.ev.2.1.1 (92, "MatchFloor$Order", "price", "I") (List.mem_of_getElem? (i := 8) rfl)) ho (v := .int (mf_pr o)) rfl md_F_ordersAt_42 ?_
          refine lv_iload_n C.x C.b md_F_ordersAt_45 rfl (lv_at hl 5 rfl) ?_
          refine lv_icmp_ne (tgt := 52) C.x C.b md_F_ordersAt_46 (by decide) (fun h4 => ?_) (fun h4 => ?_)
          · skip
            refine lv_iinc (k := 1) (v := nI (k + 1)) (lv' := [(4, .int (nI (k + 1))), (5, .ref a), (3, .int r), (0, .ref x), (1, .int s0), (2, .int p0)]) C.x C.b md_F_ordersAt_52 hl rfl (nI_1 _) (by decide) rfl (fun ls hl => ?_)
            refine lv_goto (tgt := 5) C.x C.b md_F_ordersAt_55 (by decide) ?_
            exact ih (k + 1) r ls (by omega) (mf_sstep (mf_kl hq) i0 (by first | (simp [mf_at, h2, Int32.not_le.mp h2, mf_bI_1.mp h3, h4]; done) | (exfalso; simp_all; done))) (lv_sub hl [0, 2, 3, 4, 5] rfl)
          · skip
            refine lv_iinc (k := 2) (v := r + 1) (lv' := [(3, .int (r + 1)), (5, .ref a), (4, .int (nI k)), (0, .ref x), (1, .int s0), (2, .int p0)]) C.x C.b md_F_ordersAt_49 hl rfl rfl (by decide) rfl (fun ls hl => ?_)
            refine lv_iinc (k := 2) (v := nI (k + 1)) (lv' := [(4, .int (nI (k + 1))), (3, .int (r + 1)), (5, .ref a), (0, .ref x), (1, .int s0), (2, .int p0)]) C.x C.b md_F_ordersAt_52 hl rfl (nI_1 _) (by decide) rfl (fun ls hl => ?_)
            refine lv_goto (tgt := 5) C.x C.b md_F_ordersAt_55 (by decide) ?_
            exact ih (k + 1) (r + 1) ls (by omega) (mf_sstep (mf_kl hq) i0 (by first | (simp [mf_at, h2, Int32.not_le.mp h2, mf_bI_1.mp h3, h4]; done) | (exfalso; simp_all; done))) (lv_sub hl [0, 1, 3, 4, 5] rfl)
  refine lv_iconst (v := 0) C.x C.b md_F_ordersAt_0 (by decide) ?_
  refine lv_istore_n (lv' := [(3, .int 0), (0, .ref x), (1, .int s0), (2, .int p0)]) C.x C.b md_F_ordersAt_1 rfl hl (by decide) rfl (fun ls hl => ?_)
  refine lv_iconst (v := 0) C.x C.b md_F_ordersAt_2 (by decide) ?_
  refine lv_istore (lv' := [(4, .int 0), (3, .int 0), (0, .ref x), (1, .int s0), (2, .int p0)]) C.x C.b md_F_ordersAt_3 hl (by decide) rfl (fun ls hl => ?_)
  exact loop ks.length 0 0 ls (by omega) rfl (lv_sub hl [0, 1, 2, 3, 4] rfl)
set_option maxRecDepth 100000 in
set_option maxHeartbeats 4000000 in
theorem k_F_countWaiting (l : Launch) (D : va_G) (k5 : mf_k5) (t0 : Nat × Nat) (A : Nat → Prop) (H : Heap) (x al tp : Nat) (due met : Int32) (ks : List (Nat × mf_O)) (hC : mf_CL D k5 t0 A H x al tp due met ks) : mf_cRO l my_F_countWaiting mc_F_countWaiting 3 (some .int) { frames := 3, cells := 0, slots := 0, locals := 64 } D (mf_tys k5) t0 A H [.ref x] (some (.int (mf_sum (fun r => if mf_wt r = 0 then 0 else 1) (mf_L ks)))) := by
  obtain ⟨hx, hAx, hAL, hks, hnd⟩ := hC
  obtain ⟨ed, mc, hal, hA1, hle, hor⟩ := id hAL
  rw [List.length_map] at hle
  refine mf_of (by decide) (Nat.le_of_ble_eq_true rfl) ?_
  intro p e s m below meth c ls C hH hr hlk hnm hmt hl hS
  have hl : lv_has ls 3 [(0, .ref x)] := hl
  have loop : ∀ (n k : Nat) (r : Int32) (ls : Array Slot), k + n = ks.length → mf_sum (fun r => if mf_wt r = 0 then 0 else 1) ((mf_L ks).take k) = r → lv_has ls 3 [(2, .int (nI k)), (1, .int r), (0, .ref x)] → W p l e ({ frames := 3, cells := 0, slots := 0, locals := 64 } : Room) s m (([.ref x] : List Value).toArray) below meth c H [] 0 0 (MQ below (mf_K (some (.int (mf_sum (fun r => if mf_wt r = 0 then 0 else 1) (mf_L ks))))) (([.ref x] : List Value).toArray) s 0 0 (fun _ => False)) (F0 m 4 ls []) := by
    intro n
    induction n with
    | zero =>
      intro k r ls hk i0 hl
      obtain rfl : k = ks.length := by omega
      refine lv_iload_n C.x C.b md_F_countWaiting_4 rfl (lv_at hl 0 rfl) ?_
      refine lv_aload_n C.x C.b md_F_countWaiting_5 rfl (lv_at hl 2 rfl) ?_
      refine mf_gf C (ci := 3) (N := 4) rfl mi_F 0 (by decide) mt_84 hx (v := .ref al) rfl md_F_countWaiting_6 ?_
      refine mf_cks (va_runV (As := []) (rest := [.int (nI ks.length)]) C.f (k_A_size l D k5 t0 A H al _ hAL) (mf_cV C mt_205 mt_202 mt_4 mt_203 mt_204 mh_A_size ⟨by decide, by decide⟩) (mf_preV C.ev hS (mf_rv C (ci := 0) (N := 3) rfl hal)) rfl rfl hl.1 rfl (lv_room (Nat.le_of_ble_eq_true rfl)) md_F_countWaiting_9 ⟨by omega, by omega⟩) ?_
      rw [List.length_map]
      refine lv_icmp_ge (tgt := 41) C.x C.b md_F_countWaiting_12 (by decide) (fun h1 => ?_) (fun h1 => ?_)
      · skip
        refine lv_iload_n C.x C.b md_F_countWaiting_41 rfl (lv_at hl 1 rfl) ?_
        rw [show mf_sum (fun r => if mf_wt r = 0 then 0 else 1) (mf_L ks) = r by rw [← i0, mf_kt]]
        exact mf_ri C.x C.b hH hr hlk md_F_countWaiting_42
      · exact absurd (Int32.le_refl _) h1
    | succ n ih =>
      intro k r ls hk i0 hl
      have hkk : k < ks.length := by omega
      have hkl : k < ks.length := by omega
      obtain ⟨⟨a, o⟩, hq⟩ := mf_at_lt hkl
      have ho : va_at D mf_cl (a, .inr (1, mf_fs o)) H := (hks (a, o) (List.mem_of_getElem? hq)).1
      refine lv_iload_n C.x C.b md_F_countWaiting_4 rfl (lv_at hl 0 rfl) ?_
      refine lv_aload_n C.x C.b md_F_countWaiting_5 rfl (lv_at hl 2 rfl) ?_
      refine mf_gf C (ci := 3) (N := 4) rfl mi_F 0 (by decide) mt_84 hx (v := .ref al) rfl md_F_countWaiting_6 ?_
      refine mf_cks (va_runV (As := []) (rest := [.int (nI k)]) C.f (k_A_size l D k5 t0 A H al _ hAL) (mf_cV C mt_205 mt_202 mt_4 mt_203 mt_204 mh_A_size ⟨by decide, by decide⟩) (mf_preV C.ev hS (mf_rv C (ci := 0) (N := 3) rfl hal)) rfl rfl hl.1 rfl (lv_room (Nat.le_of_ble_eq_true rfl)) md_F_countWaiting_9 ⟨by omega, by omega⟩) ?_
      rw [List.length_map]
      refine lv_icmp_ge (tgt := 41) C.x C.b md_F_countWaiting_12 (by decide) (fun h2 => ?_) (fun h2 => ?_)
      · exact absurd h2 (nI_ge hkk (by omega))
      · skip
        refine lv_aload_n C.x C.b md_F_countWaiting_15 rfl (lv_at hl 2 rfl) ?_
        refine mf_gf C (ci := 3) (N := 4) rfl mi_F 0 (by decide) mt_84 hx (v := .ref al) rfl md_F_countWaiting_16 ?_
        refine lv_iload_n C.x C.b md_F_countWaiting_19 rfl (lv_at hl 0 rfl) ?_
        refine mf_cks (va_runV (As := [.int (nI k)]) (rest := []) C.f (k_A_get l D k5 t0 A H al k a _ hAL (mf_kq hq)) (mf_cV C mt_209 mt_206 mt_4 mt_207 mt_208 mh_A_get ⟨by decide, by decide⟩) (mf_preV C.ev hS (mf_rv C (ci := 0) (N := 3) rfl hal)) rfl rfl hl.1 rfl (lv_room (Nat.le_of_ble_eq_true rfl)) md_F_countWaiting_20 ⟨by omega, by omega⟩) ?_
        refine mf_cast C (ci := 1) (N := 6) rfl mt_220 ho md_F_countWaiting_23 ?_
        refine mf_gfN C (ci := 1) (N := 6) rfl mi_O 3 (by decide) (C.ev.2.1.1 (88, "MatchFloor$Order", "waits", "Z") (List.mem_of_getElem? (i := 7) rfl)) ho (v := .int (mf_wt o)) rfl md_F_countWaiting_26 ?_
        refine lv_if_eq (tgt := 35) C.x C.b md_F_countWaiting_29 (by decide) (fun h3 => ?_) (fun h3 => ?_)
        · skip
          refine lv_iinc (k := 0) (v := nI (k + 1)) (lv' := [(2, .int (nI (k + 1))), (1, .int r), (0, .ref x)]) C.x C.b md_F_countWaiting_35 hl rfl (nI_1 _) (by decide) rfl (fun ls hl => ?_)
          refine lv_goto (tgt := 4) C.x C.b md_F_countWaiting_38 (by decide) ?_
          exact ih (k + 1) r ls (by omega) (mf_sstep (mf_kl hq) i0 (by first | (simp [h2, Int32.not_le.mp h2, h3]; done) | (exfalso; simp_all; done))) (lv_sub hl [0, 1, 2] rfl)
        · skip
          refine lv_iinc (k := 1) (v := r + 1) (lv' := [(1, .int (r + 1)), (2, .int (nI k)), (0, .ref x)]) C.x C.b md_F_countWaiting_32 hl rfl rfl (by decide) rfl (fun ls hl => ?_)
          refine lv_iinc (k := 1) (v := nI (k + 1)) (lv' := [(2, .int (nI (k + 1))), (1, .int (r + 1)), (0, .ref x)]) C.x C.b md_F_countWaiting_35 hl rfl (nI_1 _) (by decide) rfl (fun ls hl => ?_)
          refine lv_goto (tgt := 4) C.x C.b md_F_countWaiting_38 (by decide) ?_
          exact ih (k + 1) (r + 1) ls (by omega) (mf_sstep (mf_kl hq) i0 (by first | (simp [h2, Int32.not_le.mp h2, h3]; done) | (exfalso; simp_all; done))) (lv_sub hl [0, 1, 2] rfl)
  refine lv_iconst (v := 0) C.x C.b md_F_countWaiting_0 (by decide) ?_
  refine lv_istore_n (lv' := [(1, .int 0), (0, .ref x)]) C.x C.b md_F_countWaiting_1 rfl hl (by decide) rfl (fun ls hl => ?_)
  refine lv_iconst (v := 0) C.x C.b md_F_countWaiting_2 (by decide) ?_
  refine lv_istore_n (lv' := [(2, .int 0), (1, .int 0), (0, .ref x)]) C.x C.b md_F_countWaiting_3 rfl hl (by decide) rfl (fun ls hl => ?_)
  exact loop ks.length 0 0 ls (by omega) rfl (lv_sub hl [0, 1, 2] rfl)
set_option maxRecDepth 100000 in
set_option maxHeartbeats 4000000 in
theorem k_F_ordersBefore (l : Launch) (D : va_G) (k5 : mf_k5) (t0 : Nat × Nat) (A : Nat → Prop) (H : Heap) (x al tp : Nat) (due met : Int32) (ks : List (Nat × mf_O)) (j b : Nat) (y : mf_O) (hC : mf_CL D k5 t0 A H x al tp due met ks) (hj : ks[j]? = some (b, y)) : mf_cRO l my_F_ordersBefore mc_F_ordersBefore 5 (some .int) { frames := 3, cells := 0, slots := 0, locals := 64 } D (mf_tys k5) t0 A H [.ref x, .int (nI j)] (some (.int (mf_sum (fun r => if mf_queues r y then 1 else 0) ((mf_L ks).take j)))) := by
  obtain ⟨hx, hAx, hAL, hks, hnd⟩ := hC
  obtain ⟨ed, mc, hal, hA1, hle, hor⟩ := id hAL
  rw [List.length_map] at hle
  have hjl : j < ks.length := (List.getElem?_eq_some_iff.mp hj).1
  have hb : va_at D mf_cl (b, .inr (1, mf_fs y)) H := (hks (b, y) (List.mem_of_getElem? hj)).1
  refine mf_of (by decide) (Nat.le_of_ble_eq_true rfl) ?_
  intro p e s m below meth c ls C hH hr hlk hnm hmt hl hS
  have hl : lv_has ls 5 [(0, .ref x), (1, .int (nI j))] := hl
  have loop : ∀ (n k : Nat) (r : Int32) (ls : Array Slot), k + n = j → mf_sum (fun r => if mf_queues r y then 1 else 0) ((mf_L ks).take k) = r → lv_has ls 5 [(4, .int (nI k)), (3, .int r), (2, .ref b), (0, .ref x), (1, .int (nI j))] → W p l e ({ frames := 3, cells := 0, slots := 0, locals := 64 } : Room) s m (([.ref x, .int (nI j)] : List Value).toArray) below meth c H [] 0 0 (MQ below (mf_K (some (.int (mf_sum (fun r => if mf_queues r y then 1 else 0) ((mf_L ks).take j))))) (([.ref x, .int (nI j)] : List Value).toArray) s 0 0 (fun _ => False)) (F0 m 17 ls []) := by
    intro n
    induction n with
    | zero =>
      intro k r ls hk i0 hl
      obtain rfl : j = k := by omega
      refine lv_iload C.x C.b md_F_ordersBefore_17 (lv_at hl 0 rfl) ?_
      refine lv_iload_n C.x C.b md_F_ordersBefore_19 rfl (lv_at hl 4 rfl) ?_
      refine lv_icmp_ge (tgt := 51) C.x C.b md_F_ordersBefore_20 (by decide) (fun h1 => ?_) (fun h1 => ?_)
      · skip
        refine lv_iload_n C.x C.b md_F_ordersBefore_51 rfl (lv_at hl 1 rfl) ?_
        rw [show mf_sum (fun r => if mf_queues r y then 1 else 0) ((mf_L ks).take j) = r by exact i0]
        exact mf_ri C.x C.b hH hr hlk md_F_ordersBefore_52
      · exact absurd (Int32.le_refl _) h1
    | succ n ih =>
      intro k r ls hk i0 hl
      have hkk : k < j := by omega
      have hkl : k < ks.length := by omega
      obtain ⟨⟨a, o⟩, hq⟩ := mf_at_lt hkl
      have ho : va_at D mf_cl (a, .inr (1, mf_fs o)) H := (hks (a, o) (List.mem_of_getElem? hq)).1
      refine lv_iload C.x C.b md_F_ordersBefore_17 (lv_at hl 0 rfl) ?_
      refine lv_iload_n C.x C.b md_F_ordersBefore_19 rfl (lv_at hl 4 rfl) ?_
      refine lv_icmp_ge (tgt := 51) C.x C.b md_F_ordersBefore_20 (by decide) (fun h2 => ?_) (fun h2 => ?_)
      · exact absurd h2 (nI_ge hkk (by omega))
      · skip
        refine lv_aload_n C.x C.b md_F_ordersBefore_23 rfl (lv_at hl 3 rfl) ?_
        refine mf_gf C (ci := 3) (N := 4) rfl mi_F 0 (by decide) mt_84 hx (v := .ref al) rfl md_F_ordersBefore_24 ?_
        refine lv_iload C.x C.b md_F_ordersBefore_27 (lv_at hl 0 rfl) ?_
        refine mf_cks (va_runV (As := [.int (nI k)]) (rest := []) C.f (k_A_get l D k5 t0 A H al k a _ hAL (mf_kq hq)) (mf_cV C mt_209 mt_206 mt_4 mt_207 mt_208 mh_A_get ⟨by decide, by decide⟩) (mf_preV C.ev hS (mf_rv C (ci := 0) (N := 3) rfl hal)) rfl rfl hl.1 rfl (lv_room (Nat.le_of_ble_eq_true rfl)) md_F_ordersBefore_29 ⟨by omega, by omega⟩) ?_
        refine mf_cast C (ci := 1) (N := 6) rfl mt_220 ho md_F_ordersBefore_32 ?_
        refine lv_aload_n C.x C.b md_F_ordersBefore_35 rfl (lv_at hl 2 rfl) ?_
        refine mf_cks (va_runVN (As := [.ref b]) (rest := []) C.f (k_O_queuesWith l D k5 t0 A H a b o y ho hb) ⟨mf_cN C mt_503 (C.ev.2.1.2.1 ("MatchFloor", 218, my_O_queuesWith) (List.mem_of_getElem? (i := 8) rfl)) mt_14 mh_O_queuesWith ⟨by decide, by decide⟩, C.t mt_502, C.t ms_24⟩ (mf_preV C.ev hS (mf_rv C (ci := 1) (N := 6) rfl ho)) rfl rfl hl.1 rfl (lv_room (Nat.le_of_ble_eq_true rfl)) md_F_ordersBefore_36 ⟨by omega, by omega⟩) ?_
        refine lv_if_eq (tgt := 45) C.x C.b md_F_ordersBefore_39 (by decide) (fun h3 => ?_) (fun h3 => ?_)
        · skip
          refine lv_iinc (k := 0) (v := nI (k + 1)) (lv' := [(4, .int (nI (k + 1))), (3, .int r), (2, .ref b), (0, .ref x), (1, .int (nI j))]) C.x C.b md_F_ordersBefore_45 hl rfl (nI_1 _) (by decide) rfl (fun ls hl => ?_)
          refine lv_goto (tgt := 17) C.x C.b md_F_ordersBefore_48 (by decide) ?_
          exact ih (k + 1) r ls (by omega) (mf_sstep (mf_kl hq) i0 (by first | (simp [h2, Int32.not_le.mp h2, mf_bI_0.mp h3]; done) | (exfalso; simp_all; done))) (lv_sub hl [0, 1, 2, 3, 4] rfl)
        · skip
          refine lv_iinc (k := 1) (v := r + 1) (lv' := [(3, .int (r + 1)), (4, .int (nI k)), (2, .ref b), (0, .ref x), (1, .int (nI j))]) C.x C.b md_F_ordersBefore_42 hl rfl rfl (by decide) rfl (fun ls hl => ?_)
          refine lv_iinc (k := 1) (v := nI (k + 1)) (lv' := [(4, .int (nI (k + 1))), (3, .int (r + 1)), (2, .ref b), (0, .ref x), (1, .int (nI j))]) C.x C.b md_F_ordersBefore_45 hl rfl (nI_1 _) (by decide) rfl (fun ls hl => ?_)
          refine lv_goto (tgt := 17) C.x C.b md_F_ordersBefore_48 (by decide) ?_
          exact ih (k + 1) (r + 1) ls (by omega) (mf_sstep (mf_kl hq) i0 (by first | (simp [h2, Int32.not_le.mp h2, mf_bI_1.mp h3]; done) | (exfalso; simp_all; done))) (lv_sub hl [0, 1, 2, 3, 4] rfl)
  refine lv_aload_n C.x C.b md_F_ordersBefore_0 rfl (lv_at hl 0 rfl) ?_
  refine mf_gf C (ci := 3) (N := 4) rfl mi_F 0 (by decide) mt_84 hx (v := .ref al) rfl md_F_ordersBefore_1 ?_
  refine lv_iload_n C.x C.b md_F_ordersBefore_4 rfl (lv_at hl 1 rfl) ?_
  refine mf_cks (va_runV (As := [.int (nI j)]) (rest := []) C.f (k_A_get l D k5 t0 A H al j b _ hAL (mf_kq hj)) (mf_cV C mt_209 mt_206 mt_4 mt_207 mt_208 mh_A_get ⟨by decide, by decide⟩) (mf_preV C.ev hS (mf_rv C (ci := 0) (N := 3) rfl hal)) rfl rfl hl.1 rfl (lv_room (Nat.le_of_ble_eq_true rfl)) md_F_ordersBefore_5 ⟨by omega, by omega⟩) ?_
  refine mf_cast C (ci := 1) (N := 6) rfl mt_220 hb md_F_ordersBefore_8 ?_
  refine lv_astore_n (lv' := [(2, .ref b), (0, .ref x), (1, .int (nI j))]) C.x C.b md_F_ordersBefore_11 rfl hl (by decide) rfl (fun ls hl => ?_)
  refine lv_iconst (v := 0) C.x C.b md_F_ordersBefore_12 (by decide) ?_
  refine lv_istore_n (lv' := [(3, .int 0), (2, .ref b), (0, .ref x), (1, .int (nI j))]) C.x C.b md_F_ordersBefore_13 rfl hl (by decide) rfl (fun ls hl => ?_)
  refine lv_iconst (v := 0) C.x C.b md_F_ordersBefore_14 (by decide) ?_
  refine lv_istore (lv' := [(4, .int 0), (3, .int 0), (2, .ref b), (0, .ref x), (1, .int (nI j))]) C.x C.b md_F_ordersBefore_15 hl (by decide) rfl (fun ls hl => ?_)
  exact loop j 0 0 ls (by omega) rfl (lv_sub hl [0, 1, 2, 3, 4] rfl)
set_option maxRecDepth 100000 in
set_option maxHeartbeats 4000000 in
theorem k_F_placeOfFirst (l : Launch) (D : va_G) (k5 : mf_k5) (t0 : Nat × Nat) (A : Nat → Prop) (H : Heap) (x al tp : Nat) (due met : Int32) (ks : List (Nat × mf_O)) (s0 : Int32) (hC : mf_CL D k5 t0 A H x al tp due met ks) : mf_cRO l my_F_placeOfFirst mc_F_placeOfFirst 6 (some .int) { frames := 3, cells := 0, slots := 0, locals := 64 } D (mf_tys k5) t0 A H [.ref x, .int s0] (some (.int (mf_ix (mf_first s0 (mf_L ks))))) := by
  obtain ⟨hx, hAx, hAL, hks, hnd⟩ := hC
  obtain ⟨ed, mc, hal, hA1, hle, hor⟩ := id hAL
  rw [List.length_map] at hle
  refine mf_of (by decide) (Nat.le_of_ble_eq_true rfl) ?_
  intro p e s m below meth c ls C hH hr hlk hnm hmt hl hS
  have hl : lv_has ls 6 [(0, .ref x), (1, .int s0)] := hl
  have loop : ∀ (n k : Nat) (r : Option (Nat × mf_O)) (ls : Array Slot), k + n = ks.length → mf_pick (fun r => mf_rests r s0) (mf_lt s0) ((mf_L ks).take k) = r → lv_has ls 6 [(4, .int (nI k)), (2, .int (mf_ix r)), (3, .int (mf_prOf (fun r => r) r)), (0, .ref x), (1, .int s0)] → W p l e ({ frames := 3, cells := 0, slots := 0, locals := 64 } : Room) s m (([.ref x, .int s0] : List Value).toArray) below meth c H [] 0 0 (MQ below (mf_K (some (.int (mf_ix (mf_first s0 (mf_L ks)))))) (([.ref x, .int s0] : List Value).toArray) s 0 0 (fun _ => False)) (F0 m 7 ls []) := by
    intro n
    induction n with
    | zero =>
      intro k r ls hk i0 hl
      obtain rfl : k = ks.length := by omega
      refine lv_iload C.x C.b md_F_placeOfFirst_7 (lv_at hl 0 rfl) ?_
      refine lv_aload_n C.x C.b md_F_placeOfFirst_9 rfl (lv_at hl 3 rfl) ?_
      refine mf_gf C (ci := 3) (N := 4) rfl mi_F 0 (by decide) mt_84 hx (v := .ref al) rfl md_F_placeOfFirst_10 ?_
      refine mf_cks (va_runV (As := []) (rest := [.int (nI ks.length)]) C.f (k_A_size l D k5 t0 A H al _ hAL) (mf_cV C mt_205 mt_202 mt_4 mt_203 mt_204 mh_A_size ⟨by decide, by decide⟩) (mf_preV C.ev hS (mf_rv C (ci := 0) (N := 3) rfl hal)) rfl rfl hl.1 rfl (lv_room (Nat.le_of_ble_eq_true rfl)) md_F_placeOfFirst_13 ⟨by omega, by omega⟩) ?_
      rw [List.length_map]
      refine lv_icmp_ge (tgt := 75) C.x C.b md_F_placeOfFirst_16 (by decide) (fun h1 => ?_) (fun h1 => ?_)
      · skip
        refine lv_iload_n C.x C.b md_F_placeOfFirst_75 rfl (lv_at hl 1 rfl) ?_
        rw [show mf_first s0 (mf_L ks) = r from mf_pick_all (by rw [show (mf_L ks).length = ks.length from List.length_map _]; exact i0)]
        exact mf_ri C.x C.b hH hr hlk md_F_placeOfFirst_76
      · exact absurd (Int32.le_refl _) h1
    | succ n ih =>
      intro k r ls hk i0 hl
      have hkk : k < ks.length := by omega
      have hkl : k < ks.length := by omega
      obtain ⟨⟨a, o⟩, hq⟩ := mf_at_lt hkl
      have ho : va_at D mf_cl (a, .inr (1, mf_fs o)) H := (hks (a, o) (List.mem_of_getElem? hq)).1
      rcases r with _ | ⟨j, y⟩
      · have hl : lv_has ls 6 [(4, .int (nI k)), (2, .int (-1)), (3, .int 0), (0, .ref x), (1, .int s0)] := hl
        refine lv_iload C.x C.b md_F_placeOfFirst_7 (lv_at hl 0 rfl) ?_
        refine lv_aload_n C.x C.b md_F_placeOfFirst_9 rfl (lv_at hl 3 rfl) ?_
        refine mf_gf C (ci := 3) (N := 4) rfl mi_F 0 (by decide) mt_84 hx (v := .ref al) rfl md_F_placeOfFirst_10 ?_
        refine mf_cks (va_runV (As := []) (rest := [.int (nI k)]) C.f (k_A_size l D k5 t0 A H al _ hAL) (mf_cV C mt_205 mt_202 mt_4 mt_203 mt_204 mh_A_size ⟨by decide, by decide⟩) (mf_preV C.ev hS (mf_rv C (ci := 0) (N := 3) rfl hal)) rfl rfl hl.1 rfl (lv_room (Nat.le_of_ble_eq_true rfl)) md_F_placeOfFirst_13 ⟨by omega, by omega⟩) ?_
        rw [List.length_map]
        refine lv_icmp_ge (tgt := 75) C.x C.b md_F_placeOfFirst_16 (by decide) (fun h2 => ?_) (fun h2 => ?_)
        · exact absurd h2 (nI_ge hkk (by omega))
        · skip
          refine lv_aload_n C.x C.b md_F_placeOfFirst_19 rfl (lv_at hl 3 rfl) ?_
          refine mf_gf C (ci := 3) (N := 4) rfl mi_F 0 (by decide) mt_84 hx (v := .ref al) rfl md_F_placeOfFirst_20 ?_
          refine lv_iload C.x C.b md_F_placeOfFirst_23 (lv_at hl 0 rfl) ?_
          refine mf_cks (va_runV (As := [.int (nI k)]) (rest := []) C.f (k_A_get l D k5 t0 A H al k a _ hAL (mf_kq hq)) (mf_cV C mt_209 mt_206 mt_4 mt_207 mt_208 mh_A_get ⟨by decide, by decide⟩) (mf_preV C.ev hS (mf_rv C (ci := 0) (N := 3) rfl hal)) rfl rfl hl.1 rfl (lv_room (Nat.le_of_ble_eq_true rfl)) md_F_placeOfFirst_25 ⟨by omega, by omega⟩) ?_
          refine mf_cast C (ci := 1) (N := 6) rfl mt_220 ho md_F_placeOfFirst_28 ?_
          refine lv_astore (lv' := [(5, .ref a), (4, .int (nI k)), (2, .int (-1)), (3, .int 0), (0, .ref x), (1, .int s0)]) C.x C.b md_F_placeOfFirst_31 hl (by decide) rfl (fun ls hl => ?_)
          refine lv_aload C.x C.b md_F_placeOfFirst_33 (lv_at hl 0 rfl) ?_
          refine lv_iload_n C.x C.b md_F_placeOfFirst_35 rfl (lv_at hl 5 rfl) ?_
          refine mf_cks (va_runVN (As := [.int s0]) (rest := []) C.f (k_O_restsOn l D k5 t0 A H a o s0 ho) ⟨mf_cN C mt_282 (C.ev.2.1.2.1 ("MatchFloor", 166, my_O_restsOn) (List.mem_of_getElem? (i := 2) rfl)) mt_14 mh_O_restsOn ⟨by decide, by decide⟩, C.t mt_281, C.t ms_4⟩ (mf_preV C.ev hS (mf_rv C (ci := 1) (N := 6) rfl ho)) rfl rfl hl.1 rfl (lv_room (Nat.le_of_ble_eq_true rfl)) md_F_placeOfFirst_36 ⟨by omega, by omega⟩) ?_
          refine lv_if_eq (tgt := 69) C.x C.b md_F_placeOfFirst_39 (by decide) (fun h3 => ?_) (fun h3 => ?_)
          · skip
            refine lv_iinc (k := 1) (v := nI (k + 1)) (lv' := [(4, .int (nI (k + 1))), (5, .ref a), (2, .int (-1)), (3, .int 0), (0, .ref x), (1, .int s0)]) C.x C.b md_F_placeOfFirst_69 hl rfl (nI_1 _) (by decide) rfl (fun ls hl => ?_)
            refine lv_goto (tgt := 7) C.x C.b md_F_placeOfFirst_72 (by decide) ?_
            exact ih (k + 1) none ls (by omega) (mf_step (mf_kl hq) i0 (by first | (simp [mf_cmp, mf_lt, h2, Int32.not_le.mp h2, mf_bI_0.mp h3]; done) | (exfalso; simp_all; done))) (lv_sub hl [0, 2, 3, 4, 5] rfl)
          · skip
            refine lv_iload_n C.x C.b md_F_placeOfFirst_42 rfl (lv_at hl 2 rfl) ?_
            refine lv_iconst (v := (-1)) C.x C.b md_F_placeOfFirst_43 (by decide) ?_
            refine lv_icmp_eq (tgt := 60) C.x C.b md_F_placeOfFirst_44 (by decide) (fun h4 => ?_) (fun h4 => ?_)
            · skip
              refine lv_iload C.x C.b md_F_placeOfFirst_60 (lv_at hl 1 rfl) ?_
              refine lv_istore_n (lv' := [(2, .int (nI k)), (5, .ref a), (4, .int (nI k)), (3, .int 0), (0, .ref x), (1, .int s0)]) C.x C.b md_F_placeOfFirst_62 rfl hl (by decide) rfl (fun ls hl => ?_)
              refine lv_aload C.x C.b md_F_placeOfFirst_63 (lv_at hl 1 rfl) ?_
              refine mf_gfN C (ci := 1) (N := 6) rfl mi_O 4 (by decide) (C.ev.2.1.1 (92, "MatchFloor$Order", "price", "I") (List.mem_of_getElem? (i := 8) rfl)) ho (v := .int (mf_pr o)) rfl md_F_placeOfFirst_65 ?_
              refine lv_istore_n (lv' := [(3, .int (mf_pr o)), (2, .int (nI k)), (5, .ref a), (4, .int (nI k)), (0, .ref x), (1, .int s0)]) C.x C.b md_F_placeOfFirst_68 rfl hl (by decide) rfl (fun ls hl => ?_)
              refine lv_iinc (k := 3) (v := nI (k + 1)) (lv' := [(4, .int (nI (k + 1))), (3, .int (mf_pr o)), (2, .int (nI k)), (5, .ref a), (0, .ref x), (1, .int s0)]) C.x C.b md_F_placeOfFirst_69 hl rfl (nI_1 _) (by decide) rfl (fun ls hl => ?_)
              refine lv_goto (tgt := 7) C.x C.b md_F_placeOfFirst_72 (by decide) ?_
              exact ih (k + 1) (some (k, o)) ls (by omega) (mf_step (mf_kl hq) i0 (by first | (simp [mf_cmp, mf_lt, h2, Int32.not_le.mp h2, mf_bI_1.mp h3, h4]; done) | (exfalso; simp_all; done))) (lv_sub hl [0, 2, 1, 4, 5] rfl)
            · exact absurd rfl h4
      · have hl : lv_has ls 6 [(4, .int (nI k)), (2, .int (nI j)), (3, .int (mf_pr y)), (0, .ref x), (1, .int s0)] := hl
        have hj : j < k := mf_pick_lt i0
        refine lv_iload C.x C.b md_F_placeOfFirst_7 (lv_at hl 0 rfl) ?_
        refine lv_aload_n C.x C.b md_F_placeOfFirst_9 rfl (lv_at hl 3 rfl) ?_
        refine mf_gf C (ci := 3) (N := 4) rfl mi_F 0 (by decide) mt_84 hx (v := .ref al) rfl md_F_placeOfFirst_10 ?_
        refine mf_cks (va_runV (As := []) (rest := [.int (nI k)]) C.f (k_A_size l D k5 t0 A H al _ hAL) (mf_cV C mt_205 mt_202 mt_4 mt_203 mt_204 mh_A_size ⟨by decide, by decide⟩) (mf_preV C.ev hS (mf_rv C (ci := 0) (N := 3) rfl hal)) rfl rfl hl.1 rfl (lv_room (Nat.le_of_ble_eq_true rfl)) md_F_placeOfFirst_13 ⟨by omega, by omega⟩) ?_
        rw [List.length_map]
        refine lv_icmp_ge (tgt := 75) C.x C.b md_F_placeOfFirst_16 (by decide) (fun h5 => ?_) (fun h5 => ?_)
        · exact absurd h5 (nI_ge hkk (by omega))
        · skip
          refine lv_aload_n C.x C.b md_F_placeOfFirst_19 rfl (lv_at hl 3 rfl) ?_
          refine mf_gf C (ci := 3) (N := 4) rfl mi_F 0 (by decide) mt_84 hx (v := .ref al) rfl md_F_placeOfFirst_20 ?_
          refine lv_iload C.x C.b md_F_placeOfFirst_23 (lv_at hl 0 rfl) ?_
          refine mf_cks (va_runV (As := [.int (nI k)]) (rest := []) C.f (k_A_get l D k5 t0 A H al k a _ hAL (mf_kq hq)) (mf_cV C mt_209 mt_206 mt_4 mt_207 mt_208 mh_A_get ⟨by decide, by decide⟩) (mf_preV C.ev hS (mf_rv C (ci := 0) (N := 3) rfl hal)) rfl rfl hl.1 rfl (lv_room (Nat.le_of_ble_eq_true rfl)) md_F_placeOfFirst_25 ⟨by omega, by omega⟩) ?_
          refine mf_cast C (ci := 1) (N := 6) rfl mt_220 ho md_F_placeOfFirst_28 ?_
          refine lv_astore (lv' := [(5, .ref a), (4, .int (nI k)), (2, .int (nI j)), (3, .int (mf_pr y)), (0, .ref x), (1, .int s0)]) C.x C.b md_F_placeOfFirst_31 hl (by decide) rfl (fun ls hl => ?_)
          refine lv_aload C.x C.b md_F_placeOfFirst_33 (lv_at hl 0 rfl) ?_
          refine lv_iload_n C.x C.b md_F_placeOfFirst_35 rfl (lv_at hl 5 rfl) ?_
          refine mf_cks (va_runVN (As := [.int s0]) (rest := []) C.f (k_O_restsOn l D k5 t0 A H a o s0 ho) ⟨mf_cN C mt_282 (C.ev.2.1.2.1 ("MatchFloor", 166, my_O_restsOn) (List.mem_of_getElem? (i := 2) rfl)) mt_14 mh_O_restsOn ⟨by decide, by decide⟩, C.t mt_281, C.t ms_4⟩ (mf_preV C.ev hS (mf_rv C (ci := 1) (N := 6) rfl ho)) rfl rfl hl.1 rfl (lv_room (Nat.le_of_ble_eq_true rfl)) md_F_placeOfFirst_36 ⟨by omega, by omega⟩) ?_
          refine lv_if_eq (tgt := 69) C.x C.b md_F_placeOfFirst_39 (by decide) (fun h6 => ?_) (fun h6 => ?_)
          · skip
            refine lv_iinc (k := 1) (v := nI (k + 1)) (lv' := [(4, .int (nI (k + 1))), (5, .ref a), (2, .int (nI j)), (3, .int (mf_pr y)), (0, .ref x), (1, .int s0)]) C.x C.b md_F_placeOfFirst_69 hl rfl (nI_1 _) (by decide) rfl (fun ls hl => ?_)
            refine lv_goto (tgt := 7) C.x C.b md_F_placeOfFirst_72 (by decide) ?_
            exact ih (k + 1) (some (j, y)) ls (by omega) (mf_step (mf_kl hq) i0 (by first | (simp [mf_cmp, mf_lt, h5, Int32.not_le.mp h5, mf_bI_0.mp h6]; done) | (exfalso; simp_all; done))) (lv_sub hl [0, 2, 3, 4, 5] rfl)
          · skip
            refine lv_iload_n C.x C.b md_F_placeOfFirst_42 rfl (lv_at hl 2 rfl) ?_
            refine lv_iconst (v := (-1)) C.x C.b md_F_placeOfFirst_43 (by decide) ?_
            refine lv_icmp_eq (tgt := 60) C.x C.b md_F_placeOfFirst_44 (by decide) (fun h7 => ?_) (fun h7 => ?_)
            · exact absurd h7 (mf_nI_ne (by omega))
            · skip
              refine lv_iload_n C.x C.b md_F_placeOfFirst_47 rfl (lv_at hl 5 rfl) ?_
              refine lv_aload C.x C.b md_F_placeOfFirst_48 (lv_at hl 0 rfl) ?_
              refine mf_gfN C (ci := 1) (N := 6) rfl mi_O 4 (by decide) (C.ev.2.1.1 (92, "MatchFloor$Order", "price", "I") (List.mem_of_getElem? (i := 8) rfl)) ho (v := .int (mf_pr o)) rfl md_F_placeOfFirst_50 ?_
              refine lv_iload_n C.x C.b md_F_placeOfFirst_53 rfl (lv_at hl 3 rfl) ?_
              refine mf_cks (va_runS (As := [.int s0, .int (mf_pr o), .int (mf_pr y)]) (rest := []) C.f (k_F_isBetter l D k5 t0 A H s0 (mf_pr o) (mf_pr y)) (mf_cS C mt_290 mt_295 mt_1 mt_289 mh_F_isBetter ⟨by decide, by decide⟩) (mf_preS C.ev hS) rfl rfl hl.1 rfl (lv_room (Nat.le_of_ble_eq_true rfl)) md_F_placeOfFirst_54 ⟨by omega, by omega⟩) ?_
              refine lv_if_eq (tgt := 69) C.x C.b md_F_placeOfFirst_57 (by decide) (fun h8 => ?_) (fun h8 => ?_)
              · skip
                refine lv_iinc (k := 1) (v := nI (k + 1)) (lv' := [(4, .int (nI (k + 1))), (5, .ref a), (2, .int (nI j)), (3, .int (mf_pr y)), (0, .ref x), (1, .int s0)]) C.x C.b md_F_placeOfFirst_69 hl rfl (nI_1 _) (by decide) rfl (fun ls hl => ?_)
                refine lv_goto (tgt := 7) C.x C.b md_F_placeOfFirst_72 (by decide) ?_
                exact ih (k + 1) (some (j, y)) ls (by omega) (mf_step (mf_kl hq) i0 (by first | (simp [mf_cmp, mf_lt, h5, Int32.not_le.mp h5, mf_bI_1.mp h6, h7, mf_bI_0.mp h8]; done) | (exfalso; simp_all; done))) (lv_sub hl [0, 2, 3, 4, 5] rfl)
              · skip
                refine lv_iload C.x C.b md_F_placeOfFirst_60 (lv_at hl 1 rfl) ?_
                refine lv_istore_n (lv' := [(2, .int (nI k)), (5, .ref a), (4, .int (nI k)), (3, .int (mf_pr y)), (0, .ref x), (1, .int s0)]) C.x C.b md_F_placeOfFirst_62 rfl hl (by decide) rfl (fun ls hl => ?_)
                refine lv_aload C.x C.b md_F_placeOfFirst_63 (lv_at hl 1 rfl) ?_
                refine mf_gfN C (ci := 1) (N := 6) rfl mi_O 4 (by decide) (C.ev.2.1.1 (92, "MatchFloor$Order", "price", "I") (List.mem_of_getElem? (i := 8) rfl)) ho (v := .int (mf_pr o)) rfl md_F_placeOfFirst_65 ?_
                refine lv_istore_n (lv' := [(3, .int (mf_pr o)), (2, .int (nI k)), (5, .ref a), (4, .int (nI k)), (0, .ref x), (1, .int s0)]) C.x C.b md_F_placeOfFirst_68 rfl hl (by decide) rfl (fun ls hl => ?_)
                refine lv_iinc (k := 3) (v := nI (k + 1)) (lv' := [(4, .int (nI (k + 1))), (3, .int (mf_pr o)), (2, .int (nI k)), (5, .ref a), (0, .ref x), (1, .int s0)]) C.x C.b md_F_placeOfFirst_69 hl rfl (nI_1 _) (by decide) rfl (fun ls hl => ?_)
                refine lv_goto (tgt := 7) C.x C.b md_F_placeOfFirst_72 (by decide) ?_
                exact ih (k + 1) (some (k, o)) ls (by omega) (mf_step (mf_kl hq) i0 (by first | (simp [mf_cmp, mf_lt, h5, Int32.not_le.mp h5, mf_bI_1.mp h6, h7, mf_bI_1.mp h8]; done) | (exfalso; simp_all; done))) (lv_sub hl [0, 2, 1, 4, 5] rfl)
  refine lv_iconst (v := (-1)) C.x C.b md_F_placeOfFirst_0 (by decide) ?_
  refine lv_istore_n (lv' := [(2, .int (-1)), (0, .ref x), (1, .int s0)]) C.x C.b md_F_placeOfFirst_1 rfl hl (by decide) rfl (fun ls hl => ?_)
  refine lv_iconst (v := 0) C.x C.b md_F_placeOfFirst_2 (by decide) ?_
  refine lv_istore_n (lv' := [(3, .int 0), (2, .int (-1)), (0, .ref x), (1, .int s0)]) C.x C.b md_F_placeOfFirst_3 rfl hl (by decide) rfl (fun ls hl => ?_)
  refine lv_iconst (v := 0) C.x C.b md_F_placeOfFirst_4 (by decide) ?_
  refine lv_istore (lv' := [(4, .int 0), (3, .int 0), (2, .int (-1)), (0, .ref x), (1, .int s0)]) C.x C.b md_F_placeOfFirst_5 hl (by decide) rfl (fun ls hl => ?_)
  exact loop ks.length 0 none ls (by omega) rfl (lv_sub hl [0, 2, 1, 3, 4] rfl)
set_option maxRecDepth 100000 in
set_option maxHeartbeats 4000000 in
theorem k_F_nextPrice (l : Launch) (D : va_G) (k5 : mf_k5) (t0 : Nat × Nat) (A : Nat → Prop) (H : Heap) (x al tp : Nat) (due met : Int32) (ks : List (Nat × mf_O)) (s0 b0 : Int32) (hC : mf_CL D k5 t0 A H x al tp due met ks) (hpr : ∀ r ∈ mf_L ks, mf_pr r ≠ 0) : mf_cRO l my_F_nextPrice mc_F_nextPrice 8 (some .int) { frames := 3, cells := 0, slots := 0, locals := 64 } D (mf_tys k5) t0 A H [.ref x, .int s0, .int b0] (some (.int (mf_prOf (fun r => r) (mf_pick (mf_behind s0 b0) (mf_lt s0) (mf_L ks))))) := by
  obtain ⟨hx, hAx, hAL, hks, hnd⟩ := hC
  obtain ⟨ed, mc, hal, hA1, hle, hor⟩ := id hAL
  rw [List.length_map] at hle
  refine mf_of (by decide) (Nat.le_of_ble_eq_true rfl) ?_
  intro p e s m below meth c ls C hH hr hlk hnm hmt hl hS
  have hl : lv_has ls 8 [(0, .ref x), (1, .int s0), (2, .int b0)] := hl
  have loop : ∀ (n k : Nat) (r : Option (Nat × mf_O)) (ls : Array Slot), k + n = ks.length → mf_pick (mf_behind s0 b0) (mf_lt s0) ((mf_L ks).take k) = r → lv_has ls 8 [(4, .int (nI k)), (3, .int (mf_prOf (fun r => r) r)), (0, .ref x), (1, .int s0), (2, .int b0)] → W p l e ({ frames := 3, cells := 0, slots := 0, locals := 64 } : Room) s m (([.ref x, .int s0, .int b0] : List Value).toArray) below meth c H [] 0 0 (MQ below (mf_K (some (.int (mf_prOf (fun r => r) (mf_pick (mf_behind s0 b0) (mf_lt s0) (mf_L ks)))))) (([.ref x, .int s0, .int b0] : List Value).toArray) s 0 0 (fun _ => False)) (F0 m 5 ls []) := by
    intro n
    induction n with
    | zero =>
      intro k r ls hk i0 hl
      obtain rfl : k = ks.length := by omega
      refine lv_iload C.x C.b md_F_nextPrice_5 (lv_at hl 0 rfl) ?_
      refine lv_aload_n C.x C.b md_F_nextPrice_7 rfl (lv_at hl 2 rfl) ?_
      refine mf_gf C (ci := 3) (N := 4) rfl mi_F 0 (by decide) mt_84 hx (v := .ref al) rfl md_F_nextPrice_8 ?_
      refine mf_cks (va_runV (As := []) (rest := [.int (nI ks.length)]) C.f (k_A_size l D k5 t0 A H al _ hAL) (mf_cV C mt_205 mt_202 mt_4 mt_203 mt_204 mh_A_size ⟨by decide, by decide⟩) (mf_preV C.ev hS (mf_rv C (ci := 0) (N := 3) rfl hal)) rfl rfl hl.1 rfl (lv_room (Nat.le_of_ble_eq_true rfl)) md_F_nextPrice_11 ⟨by omega, by omega⟩) ?_
      rw [List.length_map]
      refine lv_icmp_ge (tgt := 110) C.x C.b md_F_nextPrice_14 (by decide) (fun h1 => ?_) (fun h1 => ?_)
      · skip
        refine lv_iload_n C.x C.b md_F_nextPrice_110 rfl (lv_at hl 1 rfl) ?_
        rw [show mf_pick (mf_behind s0 b0) (mf_lt s0) (mf_L ks) = r from mf_pick_all (by rw [show (mf_L ks).length = ks.length from List.length_map _]; exact i0)]
        exact mf_ri C.x C.b hH hr hlk md_F_nextPrice_111
      · exact absurd (Int32.le_refl _) h1
    | succ n ih =>
      intro k r ls hk i0 hl
      have hkk : k < ks.length := by omega
      have hkl : k < ks.length := by omega
      obtain ⟨⟨a, o⟩, hq⟩ := mf_at_lt hkl
      have ho : va_at D mf_cl (a, .inr (1, mf_fs o)) H := (hks (a, o) (List.mem_of_getElem? hq)).1
      rcases r with _ | ⟨j, y⟩
      · have hl : lv_has ls 8 [(4, .int (nI k)), (3, .int 0), (0, .ref x), (1, .int s0), (2, .int b0)] := hl
        refine lv_iload C.x C.b md_F_nextPrice_5 (lv_at hl 0 rfl) ?_
        refine lv_aload_n C.x C.b md_F_nextPrice_7 rfl (lv_at hl 2 rfl) ?_
        refine mf_gf C (ci := 3) (N := 4) rfl mi_F 0 (by decide) mt_84 hx (v := .ref al) rfl md_F_nextPrice_8 ?_
        refine mf_cks (va_runV (As := []) (rest := [.int (nI k)]) C.f (k_A_size l D k5 t0 A H al _ hAL) (mf_cV C mt_205 mt_202 mt_4 mt_203 mt_204 mh_A_size ⟨by decide, by decide⟩) (mf_preV C.ev hS (mf_rv C (ci := 0) (N := 3) rfl hal)) rfl rfl hl.1 rfl (lv_room (Nat.le_of_ble_eq_true rfl)) md_F_nextPrice_11 ⟨by omega, by omega⟩) ?_
        rw [List.length_map]
        refine lv_icmp_ge (tgt := 110) C.x C.b md_F_nextPrice_14 (by decide) (fun h2 => ?_) (fun h2 => ?_)
        · exact absurd h2 (nI_ge hkk (by omega))
        · skip
          refine lv_aload_n C.x C.b md_F_nextPrice_17 rfl (lv_at hl 2 rfl) ?_
          refine mf_gf C (ci := 3) (N := 4) rfl mi_F 0 (by decide) mt_84 hx (v := .ref al) rfl md_F_nextPrice_18 ?_
          refine lv_iload C.x C.b md_F_nextPrice_21 (lv_at hl 0 rfl) ?_
          refine mf_cks (va_runV (As := [.int (nI k)]) (rest := []) C.f (k_A_get l D k5 t0 A H al k a _ hAL (mf_kq hq)) (mf_cV C mt_209 mt_206 mt_4 mt_207 mt_208 mh_A_get ⟨by decide, by decide⟩) (mf_preV C.ev hS (mf_rv C (ci := 0) (N := 3) rfl hal)) rfl rfl hl.1 rfl (lv_room (Nat.le_of_ble_eq_true rfl)) md_F_nextPrice_23 ⟨by omega, by omega⟩) ?_
          refine mf_cast C (ci := 1) (N := 6) rfl mt_220 ho md_F_nextPrice_26 ?_
          refine lv_astore (lv' := [(5, .ref a), (4, .int (nI k)), (3, .int 0), (0, .ref x), (1, .int s0), (2, .int b0)]) C.x C.b md_F_nextPrice_29 hl (by decide) rfl (fun ls hl => ?_)
          refine lv_iload_n C.x C.b md_F_nextPrice_31 rfl (lv_at hl 5 rfl) ?_
          refine lv_if_eq (tgt := 48) C.x C.b md_F_nextPrice_32 (by decide) (fun h3 => ?_) (fun h3 => ?_)
          · skip
            refine lv_iconst (v := 1) C.x C.b md_F_nextPrice_48 (by decide) ?_
            refine lv_goto (tgt := 53) C.x C.b md_F_nextPrice_49 (by decide) ?_
            refine lv_istore (lv' := [(6, .int 1), (5, .ref a), (4, .int (nI k)), (3, .int 0), (0, .ref x), (1, .int s0), (2, .int b0)]) C.x C.b md_F_nextPrice_53 hl (by decide) rfl (fun ls hl => ?_)
            refine lv_iload_n C.x C.b md_F_nextPrice_55 rfl (lv_at hl 3 rfl) ?_
            refine lv_if_eq (tgt := 72) C.x C.b md_F_nextPrice_56 (by decide) (fun h4 => ?_) (fun h4 => ?_)
            · skip
              refine lv_iconst (v := 1) C.x C.b md_F_nextPrice_72 (by decide) ?_
              refine lv_goto (tgt := 77) C.x C.b md_F_nextPrice_73 (by decide) ?_
              refine lv_istore (lv' := [(7, .int 1), (6, .int 1), (5, .ref a), (4, .int (nI k)), (3, .int 0), (0, .ref x), (1, .int s0), (2, .int b0)]) C.x C.b md_F_nextPrice_77 hl (by decide) rfl (fun ls hl => ?_)
              refine lv_aload C.x C.b md_F_nextPrice_79 (lv_at hl 2 rfl) ?_
              refine lv_iload_n C.x C.b md_F_nextPrice_81 rfl (lv_at hl 6 rfl) ?_
              refine mf_cks (va_runVN (As := [.int s0]) (rest := []) C.f (k_O_restsOn l D k5 t0 A H a o s0 ho) ⟨mf_cN C mt_282 (C.ev.2.1.2.1 ("MatchFloor", 166, my_O_restsOn) (List.mem_of_getElem? (i := 2) rfl)) mt_14 mh_O_restsOn ⟨by decide, by decide⟩, C.t mt_281, C.t ms_4⟩ (mf_preV C.ev hS (mf_rv C (ci := 1) (N := 6) rfl ho)) rfl rfl hl.1 rfl (lv_room (Nat.le_of_ble_eq_true rfl)) md_F_nextPrice_82 ⟨by omega, by omega⟩) ?_
              refine lv_if_eq (tgt := 104) C.x C.b md_F_nextPrice_85 (by decide) (fun h5 => ?_) (fun h5 => ?_)
              · skip
                refine lv_iinc (k := 3) (v := nI (k + 1)) (lv' := [(4, .int (nI (k + 1))), (7, .int 1), (6, .int 1), (5, .ref a), (3, .int 0), (0, .ref x), (1, .int s0), (2, .int b0)]) C.x C.b md_F_nextPrice_104 hl rfl (nI_1 _) (by decide) rfl (fun ls hl => ?_)
                refine lv_goto (tgt := 5) C.x C.b md_F_nextPrice_107 (by decide) ?_
                exact ih (k + 1) none ls (by omega) (mf_step (mf_kl hq) i0 (by first | (simp [mf_cmp, mf_lt, mf_behind, h2, Int32.not_le.mp h2, h3, h4, mf_bI_0.mp h5]; done) | (exfalso; simp_all; done))) (lv_sub hl [0, 4, 5, 6, 7] rfl)
              · skip
                refine lv_iload C.x C.b md_F_nextPrice_88 (lv_at hl 1 rfl) ?_
                refine lv_if_eq (tgt := 104) C.x C.b md_F_nextPrice_90 (by decide) (fun h6 => ?_) (fun h6 => ?_)
                · exact absurd h6 (by decide)
                · skip
                  refine lv_iload C.x C.b md_F_nextPrice_93 (lv_at hl 0 rfl) ?_
                  refine lv_if_eq (tgt := 104) C.x C.b md_F_nextPrice_95 (by decide) (fun h7 => ?_) (fun h7 => ?_)
                  · exact absurd h7 (by decide)
                  · skip
                    refine lv_aload C.x C.b md_F_nextPrice_98 (lv_at hl 2 rfl) ?_
                    refine mf_gfN C (ci := 1) (N := 6) rfl mi_O 4 (by decide) (C.ev.2.1.1 (92, "MatchFloor$Order", "price", "I") (List.mem_of_getElem? (i := 8) rfl)) ho (v := .int (mf_pr o)) rfl md_F_nextPrice_100 ?_
                    refine lv_istore_n (lv' := [(3, .int (mf_pr o)), (7, .int 1), (6, .int 1), (5, .ref a), (4, .int (nI k)), (0, .ref x), (1, .int s0), (2, .int b0)]) C.x C.b md_F_nextPrice_103 rfl hl (by decide) rfl (fun ls hl => ?_)
                    refine lv_iinc (k := 4) (v := nI (k + 1)) (lv' := [(4, .int (nI (k + 1))), (3, .int (mf_pr o)), (7, .int 1), (6, .int 1), (5, .ref a), (0, .ref x), (1, .int s0), (2, .int b0)]) C.x C.b md_F_nextPrice_104 hl rfl (nI_1 _) (by decide) rfl (fun ls hl => ?_)
                    refine lv_goto (tgt := 5) C.x C.b md_F_nextPrice_107 (by decide) ?_
                    exact ih (k + 1) (some (k, o)) ls (by omega) (mf_step (mf_kl hq) i0 (by first | (simp [mf_cmp, mf_lt, mf_behind, h2, Int32.not_le.mp h2, h3, h4, mf_bI_1.mp h5, h6, h7]; done) | (exfalso; simp_all; done))) (lv_sub hl [0, 1, 5, 6, 7] rfl)
            · exact absurd rfl h4
          · skip
            refine lv_iload_n C.x C.b md_F_nextPrice_35 rfl (lv_at hl 4 rfl) ?_
            refine lv_iload_n C.x C.b md_F_nextPrice_36 rfl (lv_at hl 5 rfl) ?_
            refine lv_aload C.x C.b md_F_nextPrice_37 (lv_at hl 0 rfl) ?_
            refine mf_gfN C (ci := 1) (N := 6) rfl mi_O 4 (by decide) (C.ev.2.1.1 (92, "MatchFloor$Order", "price", "I") (List.mem_of_getElem? (i := 8) rfl)) ho (v := .int (mf_pr o)) rfl md_F_nextPrice_39 ?_
            refine mf_cks (va_runS (As := [.int s0, .int b0, .int (mf_pr o)]) (rest := []) C.f (k_F_isBetter l D k5 t0 A H s0 b0 (mf_pr o)) (mf_cS C mt_290 mt_295 mt_1 mt_289 mh_F_isBetter ⟨by decide, by decide⟩) (mf_preS C.ev hS) rfl rfl hl.1 rfl (lv_room (Nat.le_of_ble_eq_true rfl)) md_F_nextPrice_42 ⟨by omega, by omega⟩) ?_
            refine lv_if_eq (tgt := 52) C.x C.b md_F_nextPrice_45 (by decide) (fun h8 => ?_) (fun h8 => ?_)
            · skip
              refine lv_iconst (v := 0) C.x C.b md_F_nextPrice_52 (by decide) ?_
              refine lv_istore (lv' := [(6, .int 0), (5, .ref a), (4, .int (nI k)), (3, .int 0), (0, .ref x), (1, .int s0), (2, .int b0)]) C.x C.b md_F_nextPrice_53 hl (by decide) rfl (fun ls hl => ?_)
              refine lv_iload_n C.x C.b md_F_nextPrice_55 rfl (lv_at hl 3 rfl) ?_
              refine lv_if_eq (tgt := 72) C.x C.b md_F_nextPrice_56 (by decide) (fun h9 => ?_) (fun h9 => ?_)
              · skip
                refine lv_iconst (v := 1) C.x C.b md_F_nextPrice_72 (by decide) ?_
                refine lv_goto (tgt := 77) C.x C.b md_F_nextPrice_73 (by decide) ?_
                refine lv_istore (lv' := [(7, .int 1), (6, .int 0), (5, .ref a), (4, .int (nI k)), (3, .int 0), (0, .ref x), (1, .int s0), (2, .int b0)]) C.x C.b md_F_nextPrice_77 hl (by decide) rfl (fun ls hl => ?_)
                refine lv_aload C.x C.b md_F_nextPrice_79 (lv_at hl 2 rfl) ?_
                refine lv_iload_n C.x C.b md_F_nextPrice_81 rfl (lv_at hl 6 rfl) ?_
                refine mf_cks (va_runVN (As := [.int s0]) (rest := []) C.f (k_O_restsOn l D k5 t0 A H a o s0 ho) ⟨mf_cN C mt_282 (C.ev.2.1.2.1 ("MatchFloor", 166, my_O_restsOn) (List.mem_of_getElem? (i := 2) rfl)) mt_14 mh_O_restsOn ⟨by decide, by decide⟩, C.t mt_281, C.t ms_4⟩ (mf_preV C.ev hS (mf_rv C (ci := 1) (N := 6) rfl ho)) rfl rfl hl.1 rfl (lv_room (Nat.le_of_ble_eq_true rfl)) md_F_nextPrice_82 ⟨by omega, by omega⟩) ?_
                refine lv_if_eq (tgt := 104) C.x C.b md_F_nextPrice_85 (by decide) (fun h10 => ?_) (fun h10 => ?_)
                · skip
                  refine lv_iinc (k := 3) (v := nI (k + 1)) (lv' := [(4, .int (nI (k + 1))), (7, .int 1), (6, .int 0), (5, .ref a), (3, .int 0), (0, .ref x), (1, .int s0), (2, .int b0)]) C.x C.b md_F_nextPrice_104 hl rfl (nI_1 _) (by decide) rfl (fun ls hl => ?_)
                  refine lv_goto (tgt := 5) C.x C.b md_F_nextPrice_107 (by decide) ?_
                  exact ih (k + 1) none ls (by omega) (mf_step (mf_kl hq) i0 (by first | (simp [mf_cmp, mf_lt, mf_behind, h2, Int32.not_le.mp h2, h3, mf_bI_0.mp h8, h9, mf_bI_0.mp h10]; done) | (exfalso; simp_all; done))) (lv_sub hl [0, 4, 5, 6, 7] rfl)
                · skip
                  refine lv_iload C.x C.b md_F_nextPrice_88 (lv_at hl 1 rfl) ?_
                  refine lv_if_eq (tgt := 104) C.x C.b md_F_nextPrice_90 (by decide) (fun h11 => ?_) (fun h11 => ?_)
                  · skip
                    refine lv_iinc (k := 3) (v := nI (k + 1)) (lv' := [(4, .int (nI (k + 1))), (7, .int 1), (6, .int 0), (5, .ref a), (3, .int 0), (0, .ref x), (1, .int s0), (2, .int b0)]) C.x C.b md_F_nextPrice_104 hl rfl (nI_1 _) (by decide) rfl (fun ls hl => ?_)
                    refine lv_goto (tgt := 5) C.x C.b md_F_nextPrice_107 (by decide) ?_
                    exact ih (k + 1) none ls (by omega) (mf_step (mf_kl hq) i0 (by first | (simp [mf_cmp, mf_lt, mf_behind, h2, Int32.not_le.mp h2, h3, mf_bI_0.mp h8, h9, mf_bI_1.mp h10, h11]; done) | (exfalso; simp_all; done))) (lv_sub hl [0, 4, 5, 6, 7] rfl)
                  · exact absurd rfl h11
              · exact absurd rfl h9
            · skip
              refine lv_iconst (v := 1) C.x C.b md_F_nextPrice_48 (by decide) ?_
              refine lv_goto (tgt := 53) C.x C.b md_F_nextPrice_49 (by decide) ?_
              refine lv_istore (lv' := [(6, .int 1), (5, .ref a), (4, .int (nI k)), (3, .int 0), (0, .ref x), (1, .int s0), (2, .int b0)]) C.x C.b md_F_nextPrice_53 hl (by decide) rfl (fun ls hl => ?_)
              refine lv_iload_n C.x C.b md_F_nextPrice_55 rfl (lv_at hl 3 rfl) ?_
              refine lv_if_eq (tgt := 72) C.x C.b md_F_nextPrice_56 (by decide) (fun h12 => ?_) (fun h12 => ?_)
              · skip
                refine lv_iconst (v := 1) C.x C.b md_F_nextPrice_72 (by decide) ?_
                refine lv_goto (tgt := 77) C.x C.b md_F_nextPrice_73 (by decide) ?_
                refine lv_istore (lv' := [(7, .int 1), (6, .int 1), (5, .ref a), (4, .int (nI k)), (3, .int 0), (0, .ref x), (1, .int s0), (2, .int b0)]) C.x C.b md_F_nextPrice_77 hl (by decide) rfl (fun ls hl => ?_)
                refine lv_aload C.x C.b md_F_nextPrice_79 (lv_at hl 2 rfl) ?_
                refine lv_iload_n C.x C.b md_F_nextPrice_81 rfl (lv_at hl 6 rfl) ?_
                refine mf_cks (va_runVN (As := [.int s0]) (rest := []) C.f (k_O_restsOn l D k5 t0 A H a o s0 ho) ⟨mf_cN C mt_282 (C.ev.2.1.2.1 ("MatchFloor", 166, my_O_restsOn) (List.mem_of_getElem? (i := 2) rfl)) mt_14 mh_O_restsOn ⟨by decide, by decide⟩, C.t mt_281, C.t ms_4⟩ (mf_preV C.ev hS (mf_rv C (ci := 1) (N := 6) rfl ho)) rfl rfl hl.1 rfl (lv_room (Nat.le_of_ble_eq_true rfl)) md_F_nextPrice_82 ⟨by omega, by omega⟩) ?_
                refine lv_if_eq (tgt := 104) C.x C.b md_F_nextPrice_85 (by decide) (fun h13 => ?_) (fun h13 => ?_)
                · skip
                  refine lv_iinc (k := 3) (v := nI (k + 1)) (lv' := [(4, .int (nI (k + 1))), (7, .int 1), (6, .int 1), (5, .ref a), (3, .int 0), (0, .ref x), (1, .int s0), (2, .int b0)]) C.x C.b md_F_nextPrice_104 hl rfl (nI_1 _) (by decide) rfl (fun ls hl => ?_)
                  refine lv_goto (tgt := 5) C.x C.b md_F_nextPrice_107 (by decide) ?_
                  exact ih (k + 1) none ls (by omega) (mf_step (mf_kl hq) i0 (by first | (simp [mf_cmp, mf_lt, mf_behind, h2, Int32.not_le.mp h2, h3, mf_bI_1.mp h8, h12, mf_bI_0.mp h13]; done) | (exfalso; simp_all; done))) (lv_sub hl [0, 4, 5, 6, 7] rfl)
                · skip
                  refine lv_iload C.x C.b md_F_nextPrice_88 (lv_at hl 1 rfl) ?_
                  refine lv_if_eq (tgt := 104) C.x C.b md_F_nextPrice_90 (by decide) (fun h14 => ?_) (fun h14 => ?_)
                  · exact absurd h14 (by decide)
                  · skip
                    refine lv_iload C.x C.b md_F_nextPrice_93 (lv_at hl 0 rfl) ?_
                    refine lv_if_eq (tgt := 104) C.x C.b md_F_nextPrice_95 (by decide) (fun h15 => ?_) (fun h15 => ?_)
                    · exact absurd h15 (by decide)
                    · skip
                      refine lv_aload C.x C.b md_F_nextPrice_98 (lv_at hl 2 rfl) ?_
                      refine mf_gfN C (ci := 1) (N := 6) rfl mi_O 4 (by decide) (C.ev.2.1.1 (92, "MatchFloor$Order", "price", "I") (List.mem_of_getElem? (i := 8) rfl)) ho (v := .int (mf_pr o)) rfl md_F_nextPrice_100 ?_
                      refine lv_istore_n (lv' := [(3, .int (mf_pr o)), (7, .int 1), (6, .int 1), (5, .ref a), (4, .int (nI k)), (0, .ref x), (1, .int s0), (2, .int b0)]) C.x C.b md_F_nextPrice_103 rfl hl (by decide) rfl (fun ls hl => ?_)
                      refine lv_iinc (k := 4) (v := nI (k + 1)) (lv' := [(4, .int (nI (k + 1))), (3, .int (mf_pr o)), (7, .int 1), (6, .int 1), (5, .ref a), (0, .ref x), (1, .int s0), (2, .int b0)]) C.x C.b md_F_nextPrice_104 hl rfl (nI_1 _) (by decide) rfl (fun ls hl => ?_)
                      refine lv_goto (tgt := 5) C.x C.b md_F_nextPrice_107 (by decide) ?_
                      exact ih (k + 1) (some (k, o)) ls (by omega) (mf_step (mf_kl hq) i0 (by first | (simp [mf_cmp, mf_lt, mf_behind, h2, Int32.not_le.mp h2, h3, mf_bI_1.mp h8, h12, mf_bI_1.mp h13, h14, h15]; done) | (exfalso; simp_all; done))) (lv_sub hl [0, 1, 5, 6, 7] rfl)
              · exact absurd rfl h12
      · have hl : lv_has ls 8 [(4, .int (nI k)), (3, .int (mf_pr y)), (0, .ref x), (1, .int s0), (2, .int b0)] := hl
        have hj : j < k := mf_pick_lt i0
        have hy0 : ¬ mf_pr y = 0 := hpr y (mf_pick_mem i0)
        refine lv_iload C.x C.b md_F_nextPrice_5 (lv_at hl 0 rfl) ?_
        refine lv_aload_n C.x C.b md_F_nextPrice_7 rfl (lv_at hl 2 rfl) ?_
        refine mf_gf C (ci := 3) (N := 4) rfl mi_F 0 (by decide) mt_84 hx (v := .ref al) rfl md_F_nextPrice_8 ?_
        refine mf_cks (va_runV (As := []) (rest := [.int (nI k)]) C.f (k_A_size l D k5 t0 A H al _ hAL) (mf_cV C mt_205 mt_202 mt_4 mt_203 mt_204 mh_A_size ⟨by decide, by decide⟩) (mf_preV C.ev hS (mf_rv C (ci := 0) (N := 3) rfl hal)) rfl rfl hl.1 rfl (lv_room (Nat.le_of_ble_eq_true rfl)) md_F_nextPrice_11 ⟨by omega, by omega⟩) ?_
        rw [List.length_map]
        refine lv_icmp_ge (tgt := 110) C.x C.b md_F_nextPrice_14 (by decide) (fun h16 => ?_) (fun h16 => ?_)
        · exact absurd h16 (nI_ge hkk (by omega))
        · skip
          refine lv_aload_n C.x C.b md_F_nextPrice_17 rfl (lv_at hl 2 rfl) ?_
          refine mf_gf C (ci := 3) (N := 4) rfl mi_F 0 (by decide) mt_84 hx (v := .ref al) rfl md_F_nextPrice_18 ?_
          refine lv_iload C.x C.b md_F_nextPrice_21 (lv_at hl 0 rfl) ?_
          refine mf_cks (va_runV (As := [.int (nI k)]) (rest := []) C.f (k_A_get l D k5 t0 A H al k a _ hAL (mf_kq hq)) (mf_cV C mt_209 mt_206 mt_4 mt_207 mt_208 mh_A_get ⟨by decide, by decide⟩) (mf_preV C.ev hS (mf_rv C (ci := 0) (N := 3) rfl hal)) rfl rfl hl.1 rfl (lv_room (Nat.le_of_ble_eq_true rfl)) md_F_nextPrice_23 ⟨by omega, by omega⟩) ?_
          refine mf_cast C (ci := 1) (N := 6) rfl mt_220 ho md_F_nextPrice_26 ?_
          refine lv_astore (lv' := [(5, .ref a), (4, .int (nI k)), (3, .int (mf_pr y)), (0, .ref x), (1, .int s0), (2, .int b0)]) C.x C.b md_F_nextPrice_29 hl (by decide) rfl (fun ls hl => ?_)
          refine lv_iload_n C.x C.b md_F_nextPrice_31 rfl (lv_at hl 5 rfl) ?_
          refine lv_if_eq (tgt := 48) C.x C.b md_F_nextPrice_32 (by decide) (fun h17 => ?_) (fun h17 => ?_)
          · skip
            refine lv_iconst (v := 1) C.x C.b md_F_nextPrice_48 (by decide) ?_
            refine lv_goto (tgt := 53) C.x C.b md_F_nextPrice_49 (by decide) ?_
            refine lv_istore (lv' := [(6, .int 1), (5, .ref a), (4, .int (nI k)), (3, .int (mf_pr y)), (0, .ref x), (1, .int s0), (2, .int b0)]) C.x C.b md_F_nextPrice_53 hl (by decide) rfl (fun ls hl => ?_)
            refine lv_iload_n C.x C.b md_F_nextPrice_55 rfl (lv_at hl 3 rfl) ?_
            refine lv_if_eq (tgt := 72) C.x C.b md_F_nextPrice_56 (by decide) (fun h18 => ?_) (fun h18 => ?_)
            · exact absurd h18 hy0
            · skip
              refine lv_iload_n C.x C.b md_F_nextPrice_59 rfl (lv_at hl 5 rfl) ?_
              refine lv_aload C.x C.b md_F_nextPrice_60 (lv_at hl 1 rfl) ?_
              refine mf_gfN C (ci := 1) (N := 6) rfl mi_O 4 (by decide) (C.ev.2.1.1 (92, "MatchFloor$Order", "price", "I") (List.mem_of_getElem? (i := 8) rfl)) ho (v := .int (mf_pr o)) rfl md_F_nextPrice_62 ?_
              refine lv_iload_n C.x C.b md_F_nextPrice_65 rfl (lv_at hl 3 rfl) ?_
              refine mf_cks (va_runS (As := [.int s0, .int (mf_pr o), .int (mf_pr y)]) (rest := []) C.f (k_F_isBetter l D k5 t0 A H s0 (mf_pr o) (mf_pr y)) (mf_cS C mt_290 mt_295 mt_1 mt_289 mh_F_isBetter ⟨by decide, by decide⟩) (mf_preS C.ev hS) rfl rfl hl.1 rfl (lv_room (Nat.le_of_ble_eq_true rfl)) md_F_nextPrice_66 ⟨by omega, by omega⟩) ?_
              refine lv_if_eq (tgt := 76) C.x C.b md_F_nextPrice_69 (by decide) (fun h19 => ?_) (fun h19 => ?_)
              · skip
                refine lv_iconst (v := 0) C.x C.b md_F_nextPrice_76 (by decide) ?_
                refine lv_istore (lv' := [(7, .int 0), (6, .int 1), (5, .ref a), (4, .int (nI k)), (3, .int (mf_pr y)), (0, .ref x), (1, .int s0), (2, .int b0)]) C.x C.b md_F_nextPrice_77 hl (by decide) rfl (fun ls hl => ?_)
                refine lv_aload C.x C.b md_F_nextPrice_79 (lv_at hl 2 rfl) ?_
                refine lv_iload_n C.x C.b md_F_nextPrice_81 rfl (lv_at hl 6 rfl) ?_
                refine mf_cks (va_runVN (As := [.int s0]) (rest := []) C.f (k_O_restsOn l D k5 t0 A H a o s0 ho) ⟨mf_cN C mt_282 (C.ev.2.1.2.1 ("MatchFloor", 166, my_O_restsOn) (List.mem_of_getElem? (i := 2) rfl)) mt_14 mh_O_restsOn ⟨by decide, by decide⟩, C.t mt_281, C.t ms_4⟩ (mf_preV C.ev hS (mf_rv C (ci := 1) (N := 6) rfl ho)) rfl rfl hl.1 rfl (lv_room (Nat.le_of_ble_eq_true rfl)) md_F_nextPrice_82 ⟨by omega, by omega⟩) ?_
                refine lv_if_eq (tgt := 104) C.x C.b md_F_nextPrice_85 (by decide) (fun h20 => ?_) (fun h20 => ?_)
                · skip
                  refine lv_iinc (k := 3) (v := nI (k + 1)) (lv' := [(4, .int (nI (k + 1))), (7, .int 0), (6, .int 1), (5, .ref a), (3, .int (mf_pr y)), (0, .ref x), (1, .int s0), (2, .int b0)]) C.x C.b md_F_nextPrice_104 hl rfl (nI_1 _) (by decide) rfl (fun ls hl => ?_)
                  refine lv_goto (tgt := 5) C.x C.b md_F_nextPrice_107 (by decide) ?_
                  exact ih (k + 1) (some (j, y)) ls (by omega) (mf_step (mf_kl hq) i0 (by first | (simp [mf_cmp, mf_lt, mf_behind, h16, Int32.not_le.mp h16, h17, h18, mf_bI_0.mp h19, mf_bI_0.mp h20]; done) | (exfalso; simp_all; done))) (lv_sub hl [0, 4, 5, 6, 7] rfl)
                · skip
                  refine lv_iload C.x C.b md_F_nextPrice_88 (lv_at hl 1 rfl) ?_
                  refine lv_if_eq (tgt := 104) C.x C.b md_F_nextPrice_90 (by decide) (fun h21 => ?_) (fun h21 => ?_)
                  · exact absurd h21 (by decide)
                  · skip
                    refine lv_iload C.x C.b md_F_nextPrice_93 (lv_at hl 0 rfl) ?_
                    refine lv_if_eq (tgt := 104) C.x C.b md_F_nextPrice_95 (by decide) (fun h22 => ?_) (fun h22 => ?_)
                    · skip
                      refine lv_iinc (k := 3) (v := nI (k + 1)) (lv' := [(4, .int (nI (k + 1))), (7, .int 0), (6, .int 1), (5, .ref a), (3, .int (mf_pr y)), (0, .ref x), (1, .int s0), (2, .int b0)]) C.x C.b md_F_nextPrice_104 hl rfl (nI_1 _) (by decide) rfl (fun ls hl => ?_)
                      refine lv_goto (tgt := 5) C.x C.b md_F_nextPrice_107 (by decide) ?_
                      exact ih (k + 1) (some (j, y)) ls (by omega) (mf_step (mf_kl hq) i0 (by first | (simp [mf_cmp, mf_lt, mf_behind, h16, Int32.not_le.mp h16, h17, h18, mf_bI_0.mp h19, mf_bI_1.mp h20, h21, h22]; done) | (exfalso; simp_all; done))) (lv_sub hl [0, 4, 5, 6, 7] rfl)
                    · exact absurd rfl h22
              · skip
                refine lv_iconst (v := 1) C.x C.b md_F_nextPrice_72 (by decide) ?_
                refine lv_goto (tgt := 77) C.x C.b md_F_nextPrice_73 (by decide) ?_
                refine lv_istore (lv' := [(7, .int 1), (6, .int 1), (5, .ref a), (4, .int (nI k)), (3, .int (mf_pr y)), (0, .ref x), (1, .int s0), (2, .int b0)]) C.x C.b md_F_nextPrice_77 hl (by decide) rfl (fun ls hl => ?_)
                refine lv_aload C.x C.b md_F_nextPrice_79 (lv_at hl 2 rfl) ?_
                refine lv_iload_n C.x C.b md_F_nextPrice_81 rfl (lv_at hl 6 rfl) ?_
                refine mf_cks (va_runVN (As := [.int s0]) (rest := []) C.f (k_O_restsOn l D k5 t0 A H a o s0 ho) ⟨mf_cN C mt_282 (C.ev.2.1.2.1 ("MatchFloor", 166, my_O_restsOn) (List.mem_of_getElem? (i := 2) rfl)) mt_14 mh_O_restsOn ⟨by decide, by decide⟩, C.t mt_281, C.t ms_4⟩ (mf_preV C.ev hS (mf_rv C (ci := 1) (N := 6) rfl ho)) rfl rfl hl.1 rfl (lv_room (Nat.le_of_ble_eq_true rfl)) md_F_nextPrice_82 ⟨by omega, by omega⟩) ?_
                refine lv_if_eq (tgt := 104) C.x C.b md_F_nextPrice_85 (by decide) (fun h23 => ?_) (fun h23 => ?_)
                · skip
                  refine lv_iinc (k := 3) (v := nI (k + 1)) (lv' := [(4, .int (nI (k + 1))), (7, .int 1), (6, .int 1), (5, .ref a), (3, .int (mf_pr y)), (0, .ref x), (1, .int s0), (2, .int b0)]) C.x C.b md_F_nextPrice_104 hl rfl (nI_1 _) (by decide) rfl (fun ls hl => ?_)
                  refine lv_goto (tgt := 5) C.x C.b md_F_nextPrice_107 (by decide) ?_
                  exact ih (k + 1) (some (j, y)) ls (by omega) (mf_step (mf_kl hq) i0 (by first | (simp [mf_cmp, mf_lt, mf_behind, h16, Int32.not_le.mp h16, h17, h18, mf_bI_1.mp h19, mf_bI_0.mp h23]; done) | (exfalso; simp_all; done))) (lv_sub hl [0, 4, 5, 6, 7] rfl)
                · skip
                  refine lv_iload C.x C.b md_F_nextPrice_88 (lv_at hl 1 rfl) ?_
                  refine lv_if_eq (tgt := 104) C.x C.b md_F_nextPrice_90 (by decide) (fun h24 => ?_) (fun h24 => ?_)
                  · exact absurd h24 (by decide)
                  · skip
                    refine lv_iload C.x C.b md_F_nextPrice_93 (lv_at hl 0 rfl) ?_
                    refine lv_if_eq (tgt := 104) C.x C.b md_F_nextPrice_95 (by decide) (fun h25 => ?_) (fun h25 => ?_)
                    · exact absurd h25 (by decide)
                    · skip
                      refine lv_aload C.x C.b md_F_nextPrice_98 (lv_at hl 2 rfl) ?_
                      refine mf_gfN C (ci := 1) (N := 6) rfl mi_O 4 (by decide) (C.ev.2.1.1 (92, "MatchFloor$Order", "price", "I") (List.mem_of_getElem? (i := 8) rfl)) ho (v := .int (mf_pr o)) rfl md_F_nextPrice_100 ?_
                      refine lv_istore_n (lv' := [(3, .int (mf_pr o)), (7, .int 1), (6, .int 1), (5, .ref a), (4, .int (nI k)), (0, .ref x), (1, .int s0), (2, .int b0)]) C.x C.b md_F_nextPrice_103 rfl hl (by decide) rfl (fun ls hl => ?_)
                      refine lv_iinc (k := 4) (v := nI (k + 1)) (lv' := [(4, .int (nI (k + 1))), (3, .int (mf_pr o)), (7, .int 1), (6, .int 1), (5, .ref a), (0, .ref x), (1, .int s0), (2, .int b0)]) C.x C.b md_F_nextPrice_104 hl rfl (nI_1 _) (by decide) rfl (fun ls hl => ?_)
                      refine lv_goto (tgt := 5) C.x C.b md_F_nextPrice_107 (by decide) ?_
                      exact ih (k + 1) (some (k, o)) ls (by omega) (mf_step (mf_kl hq) i0 (by first | (simp [mf_cmp, mf_lt, mf_behind, h16, Int32.not_le.mp h16, h17, h18, mf_bI_1.mp h19, mf_bI_1.mp h23, h24, h25]; done) | (exfalso; simp_all; done))) (lv_sub hl [0, 1, 5, 6, 7] rfl)
          · skip
            refine lv_iload_n C.x C.b md_F_nextPrice_35 rfl (lv_at hl 4 rfl) ?_
            refine lv_iload_n C.x C.b md_F_nextPrice_36 rfl (lv_at hl 5 rfl) ?_
            refine lv_aload C.x C.b md_F_nextPrice_37 (lv_at hl 0 rfl) ?_
            refine mf_gfN C (ci := 1) (N := 6) rfl mi_O 4 (by decide) (C.ev.2.1.1 (92, "MatchFloor$Order", "price", "I") (List.mem_of_getElem? (i := 8) rfl)) ho (v := .int (mf_pr o)) rfl md_F_nextPrice_39 ?_
            refine mf_cks (va_runS (As := [.int s0, .int b0, .int (mf_pr o)]) (rest := []) C.f (k_F_isBetter l D k5 t0 A H s0 b0 (mf_pr o)) (mf_cS C mt_290 mt_295 mt_1 mt_289 mh_F_isBetter ⟨by decide, by decide⟩) (mf_preS C.ev hS) rfl rfl hl.1 rfl (lv_room (Nat.le_of_ble_eq_true rfl)) md_F_nextPrice_42 ⟨by omega, by omega⟩) ?_
            refine lv_if_eq (tgt := 52) C.x C.b md_F_nextPrice_45 (by decide) (fun h26 => ?_) (fun h26 => ?_)
            · skip
              refine lv_iconst (v := 0) C.x C.b md_F_nextPrice_52 (by decide) ?_
              refine lv_istore (lv' := [(6, .int 0), (5, .ref a), (4, .int (nI k)), (3, .int (mf_pr y)), (0, .ref x), (1, .int s0), (2, .int b0)]) C.x C.b md_F_nextPrice_53 hl (by decide) rfl (fun ls hl => ?_)
              refine lv_iload_n C.x C.b md_F_nextPrice_55 rfl (lv_at hl 3 rfl) ?_
              refine lv_if_eq (tgt := 72) C.x C.b md_F_nextPrice_56 (by decide) (fun h27 => ?_) (fun h27 => ?_)
              · exact absurd h27 hy0
              · skip
                refine lv_iload_n C.x C.b md_F_nextPrice_59 rfl (lv_at hl 5 rfl) ?_
                refine lv_aload C.x C.b md_F_nextPrice_60 (lv_at hl 1 rfl) ?_
                refine mf_gfN C (ci := 1) (N := 6) rfl mi_O 4 (by decide) (C.ev.2.1.1 (92, "MatchFloor$Order", "price", "I") (List.mem_of_getElem? (i := 8) rfl)) ho (v := .int (mf_pr o)) rfl md_F_nextPrice_62 ?_
                refine lv_iload_n C.x C.b md_F_nextPrice_65 rfl (lv_at hl 3 rfl) ?_
                refine mf_cks (va_runS (As := [.int s0, .int (mf_pr o), .int (mf_pr y)]) (rest := []) C.f (k_F_isBetter l D k5 t0 A H s0 (mf_pr o) (mf_pr y)) (mf_cS C mt_290 mt_295 mt_1 mt_289 mh_F_isBetter ⟨by decide, by decide⟩) (mf_preS C.ev hS) rfl rfl hl.1 rfl (lv_room (Nat.le_of_ble_eq_true rfl)) md_F_nextPrice_66 ⟨by omega, by omega⟩) ?_
                refine lv_if_eq (tgt := 76) C.x C.b md_F_nextPrice_69 (by decide) (fun h28 => ?_) (fun h28 => ?_)
                · skip
                  refine lv_iconst (v := 0) C.x C.b md_F_nextPrice_76 (by decide) ?_
                  refine lv_istore (lv' := [(7, .int 0), (6, .int 0), (5, .ref a), (4, .int (nI k)), (3, .int (mf_pr y)), (0, .ref x), (1, .int s0), (2, .int b0)]) C.x C.b md_F_nextPrice_77 hl (by decide) rfl (fun ls hl => ?_)
                  refine lv_aload C.x C.b md_F_nextPrice_79 (lv_at hl 2 rfl) ?_
                  refine lv_iload_n C.x C.b md_F_nextPrice_81 rfl (lv_at hl 6 rfl) ?_
                  refine mf_cks (va_runVN (As := [.int s0]) (rest := []) C.f (k_O_restsOn l D k5 t0 A H a o s0 ho) ⟨mf_cN C mt_282 (C.ev.2.1.2.1 ("MatchFloor", 166, my_O_restsOn) (List.mem_of_getElem? (i := 2) rfl)) mt_14 mh_O_restsOn ⟨by decide, by decide⟩, C.t mt_281, C.t ms_4⟩ (mf_preV C.ev hS (mf_rv C (ci := 1) (N := 6) rfl ho)) rfl rfl hl.1 rfl (lv_room (Nat.le_of_ble_eq_true rfl)) md_F_nextPrice_82 ⟨by omega, by omega⟩) ?_
                  refine lv_if_eq (tgt := 104) C.x C.b md_F_nextPrice_85 (by decide) (fun h29 => ?_) (fun h29 => ?_)
                  · skip
                    refine lv_iinc (k := 3) (v := nI (k + 1)) (lv' := [(4, .int (nI (k + 1))), (7, .int 0), (6, .int 0), (5, .ref a), (3, .int (mf_pr y)), (0, .ref x), (1, .int s0), (2, .int b0)]) C.x C.b md_F_nextPrice_104 hl rfl (nI_1 _) (by decide) rfl (fun ls hl => ?_)
                    refine lv_goto (tgt := 5) C.x C.b md_F_nextPrice_107 (by decide) ?_
                    exact ih (k + 1) (some (j, y)) ls (by omega) (mf_step (mf_kl hq) i0 (by first | (simp [mf_cmp, mf_lt, mf_behind, h16, Int32.not_le.mp h16, h17, mf_bI_0.mp h26, h27, mf_bI_0.mp h28, mf_bI_0.mp h29]; done) | (exfalso; simp_all; done))) (lv_sub hl [0, 4, 5, 6, 7] rfl)
                  · skip
                    refine lv_iload C.x C.b md_F_nextPrice_88 (lv_at hl 1 rfl) ?_
                    refine lv_if_eq (tgt := 104) C.x C.b md_F_nextPrice_90 (by decide) (fun h30 => ?_) (fun h30 => ?_)
                    · skip
                      refine lv_iinc (k := 3) (v := nI (k + 1)) (lv' := [(4, .int (nI (k + 1))), (7, .int 0), (6, .int 0), (5, .ref a), (3, .int (mf_pr y)), (0, .ref x), (1, .int s0), (2, .int b0)]) C.x C.b md_F_nextPrice_104 hl rfl (nI_1 _) (by decide) rfl (fun ls hl => ?_)
                      refine lv_goto (tgt := 5) C.x C.b md_F_nextPrice_107 (by decide) ?_
                      exact ih (k + 1) (some (j, y)) ls (by omega) (mf_step (mf_kl hq) i0 (by first | (simp [mf_cmp, mf_lt, mf_behind, h16, Int32.not_le.mp h16, h17, mf_bI_0.mp h26, h27, mf_bI_0.mp h28, mf_bI_1.mp h29, h30]; done) | (exfalso; simp_all; done))) (lv_sub hl [0, 4, 5, 6, 7] rfl)
                    · exact absurd rfl h30
                · skip
                  refine lv_iconst (v := 1) C.x C.b md_F_nextPrice_72 (by decide) ?_
                  refine lv_goto (tgt := 77) C.x C.b md_F_nextPrice_73 (by decide) ?_
                  refine lv_istore (lv' := [(7, .int 1), (6, .int 0), (5, .ref a), (4, .int (nI k)), (3, .int (mf_pr y)), (0, .ref x), (1, .int s0), (2, .int b0)]) C.x C.b md_F_nextPrice_77 hl (by decide) rfl (fun ls hl => ?_)
                  refine lv_aload C.x C.b md_F_nextPrice_79 (lv_at hl 2 rfl) ?_
                  refine lv_iload_n C.x C.b md_F_nextPrice_81 rfl (lv_at hl 6 rfl) ?_
                  refine mf_cks (va_runVN (As := [.int s0]) (rest := []) C.f (k_O_restsOn l D k5 t0 A H a o s0 ho) ⟨mf_cN C mt_282 (C.ev.2.1.2.1 ("MatchFloor", 166, my_O_restsOn) (List.mem_of_getElem? (i := 2) rfl)) mt_14 mh_O_restsOn ⟨by decide, by decide⟩, C.t mt_281, C.t ms_4⟩ (mf_preV C.ev hS (mf_rv C (ci := 1) (N := 6) rfl ho)) rfl rfl hl.1 rfl (lv_room (Nat.le_of_ble_eq_true rfl)) md_F_nextPrice_82 ⟨by omega, by omega⟩) ?_
                  refine lv_if_eq (tgt := 104) C.x C.b md_F_nextPrice_85 (by decide) (fun h31 => ?_) (fun h31 => ?_)
                  · skip
                    refine lv_iinc (k := 3) (v := nI (k + 1)) (lv' := [(4, .int (nI (k + 1))), (7, .int 1), (6, .int 0), (5, .ref a), (3, .int (mf_pr y)), (0, .ref x), (1, .int s0), (2, .int b0)]) C.x C.b md_F_nextPrice_104 hl rfl (nI_1 _) (by decide) rfl (fun ls hl => ?_)
                    refine lv_goto (tgt := 5) C.x C.b md_F_nextPrice_107 (by decide) ?_
                    exact ih (k + 1) (some (j, y)) ls (by omega) (mf_step (mf_kl hq) i0 (by first | (simp [mf_cmp, mf_lt, mf_behind, h16, Int32.not_le.mp h16, h17, mf_bI_0.mp h26, h27, mf_bI_1.mp h28, mf_bI_0.mp h31]; done) | (exfalso; simp_all; done))) (lv_sub hl [0, 4, 5, 6, 7] rfl)
                  · skip
                    refine lv_iload C.x C.b md_F_nextPrice_88 (lv_at hl 1 rfl) ?_
                    refine lv_if_eq (tgt := 104) C.x C.b md_F_nextPrice_90 (by decide) (fun h32 => ?_) (fun h32 => ?_)
                    · skip
                      refine lv_iinc (k := 3) (v := nI (k + 1)) (lv' := [(4, .int (nI (k + 1))), (7, .int 1), (6, .int 0), (5, .ref a), (3, .int (mf_pr y)), (0, .ref x), (1, .int s0), (2, .int b0)]) C.x C.b md_F_nextPrice_104 hl rfl (nI_1 _) (by decide) rfl (fun ls hl => ?_)
                      refine lv_goto (tgt := 5) C.x C.b md_F_nextPrice_107 (by decide) ?_
                      exact ih (k + 1) (some (j, y)) ls (by omega) (mf_step (mf_kl hq) i0 (by first | (simp [mf_cmp, mf_lt, mf_behind, h16, Int32.not_le.mp h16, h17, mf_bI_0.mp h26, h27, mf_bI_1.mp h28, mf_bI_1.mp h31, h32]; done) | (exfalso; simp_all; done))) (lv_sub hl [0, 4, 5, 6, 7] rfl)
                    · exact absurd rfl h32
            · skip
              refine lv_iconst (v := 1) C.x C.b md_F_nextPrice_48 (by decide) ?_
              refine lv_goto (tgt := 53) C.x C.b md_F_nextPrice_49 (by decide) ?_
              refine lv_istore (lv' := [(6, .int 1), (5, .ref a), (4, .int (nI k)), (3, .int (mf_pr y)), (0, .ref x), (1, .int s0), (2, .int b0)]) C.x C.b md_F_nextPrice_53 hl (by decide) rfl (fun ls hl => ?_)
              refine lv_iload_n C.x C.b md_F_nextPrice_55 rfl (lv_at hl 3 rfl) ?_
              refine lv_if_eq (tgt := 72) C.x C.b md_F_nextPrice_56 (by decide) (fun h33 => ?_) (fun h33 => ?_)
              · exact absurd h33 hy0
              · skip
                refine lv_iload_n C.x C.b md_F_nextPrice_59 rfl (lv_at hl 5 rfl) ?_
                refine lv_aload C.x C.b md_F_nextPrice_60 (lv_at hl 1 rfl) ?_
                refine mf_gfN C (ci := 1) (N := 6) rfl mi_O 4 (by decide) (C.ev.2.1.1 (92, "MatchFloor$Order", "price", "I") (List.mem_of_getElem? (i := 8) rfl)) ho (v := .int (mf_pr o)) rfl md_F_nextPrice_62 ?_
                refine lv_iload_n C.x C.b md_F_nextPrice_65 rfl (lv_at hl 3 rfl) ?_
                refine mf_cks (va_runS (As := [.int s0, .int (mf_pr o), .int (mf_pr y)]) (rest := []) C.f (k_F_isBetter l D k5 t0 A H s0 (mf_pr o) (mf_pr y)) (mf_cS C mt_290 mt_295 mt_1 mt_289 mh_F_isBetter ⟨by decide, by decide⟩) (mf_preS C.ev hS) rfl rfl hl.1 rfl (lv_room (Nat.le_of_ble_eq_true rfl)) md_F_nextPrice_66 ⟨by omega, by omega⟩) ?_
                refine lv_if_eq (tgt := 76) C.x C.b md_F_nextPrice_69 (by decide) (fun h34 => ?_) (fun h34 => ?_)
                · skip
                  refine lv_iconst (v := 0) C.x C.b md_F_nextPrice_76 (by decide) ?_
                  refine lv_istore (lv' := [(7, .int 0), (6, .int 1), (5, .ref a), (4, .int (nI k)), (3, .int (mf_pr y)), (0, .ref x), (1, .int s0), (2, .int b0)]) C.x C.b md_F_nextPrice_77 hl (by decide) rfl (fun ls hl => ?_)
                  refine lv_aload C.x C.b md_F_nextPrice_79 (lv_at hl 2 rfl) ?_
                  refine lv_iload_n C.x C.b md_F_nextPrice_81 rfl (lv_at hl 6 rfl) ?_
                  refine mf_cks (va_runVN (As := [.int s0]) (rest := []) C.f (k_O_restsOn l D k5 t0 A H a o s0 ho) ⟨mf_cN C mt_282 (C.ev.2.1.2.1 ("MatchFloor", 166, my_O_restsOn) (List.mem_of_getElem? (i := 2) rfl)) mt_14 mh_O_restsOn ⟨by decide, by decide⟩, C.t mt_281, C.t ms_4⟩ (mf_preV C.ev hS (mf_rv C (ci := 1) (N := 6) rfl ho)) rfl rfl hl.1 rfl (lv_room (Nat.le_of_ble_eq_true rfl)) md_F_nextPrice_82 ⟨by omega, by omega⟩) ?_
                  refine lv_if_eq (tgt := 104) C.x C.b md_F_nextPrice_85 (by decide) (fun h35 => ?_) (fun h35 => ?_)
                  · skip
                    refine lv_iinc (k := 3) (v := nI (k + 1)) (lv' := [(4, .int (nI (k + 1))), (7, .int 0), (6, .int 1), (5, .ref a), (3, .int (mf_pr y)), (0, .ref x), (1, .int s0), (2, .int b0)]) C.x C.b md_F_nextPrice_104 hl rfl (nI_1 _) (by decide) rfl (fun ls hl => ?_)
                    refine lv_goto (tgt := 5) C.x C.b md_F_nextPrice_107 (by decide) ?_
                    exact ih (k + 1) (some (j, y)) ls (by omega) (mf_step (mf_kl hq) i0 (by first | (simp [mf_cmp, mf_lt, mf_behind, h16, Int32.not_le.mp h16, h17, mf_bI_1.mp h26, h33, mf_bI_0.mp h34, mf_bI_0.mp h35]; done) | (exfalso; simp_all; done))) (lv_sub hl [0, 4, 5, 6, 7] rfl)
                  · skip
                    refine lv_iload C.x C.b md_F_nextPrice_88 (lv_at hl 1 rfl) ?_
                    refine lv_if_eq (tgt := 104) C.x C.b md_F_nextPrice_90 (by decide) (fun h36 => ?_) (fun h36 => ?_)
                    · exact absurd h36 (by decide)
                    · skip
                      refine lv_iload C.x C.b md_F_nextPrice_93 (lv_at hl 0 rfl) ?_
                      refine lv_if_eq (tgt := 104) C.x C.b md_F_nextPrice_95 (by decide) (fun h37 => ?_) (fun h37 => ?_)
                      · skip
                        refine lv_iinc (k := 3) (v := nI (k + 1)) (lv' := [(4, .int (nI (k + 1))), (7, .int 0), (6, .int 1), (5, .ref a), (3, .int (mf_pr y)), (0, .ref x), (1, .int s0), (2, .int b0)]) C.x C.b md_F_nextPrice_104 hl rfl (nI_1 _) (by decide) rfl (fun ls hl => ?_)
                        refine lv_goto (tgt := 5) C.x C.b md_F_nextPrice_107 (by decide) ?_
                        exact ih (k + 1) (some (j, y)) ls (by omega) (mf_step (mf_kl hq) i0 (by first | (simp [mf_cmp, mf_lt, mf_behind, h16, Int32.not_le.mp h16, h17, mf_bI_1.mp h26, h33, mf_bI_0.mp h34, mf_bI_1.mp h35, h36, h37]; done) | (exfalso; simp_all; done))) (lv_sub hl [0, 4, 5, 6, 7] rfl)
                      · exact absurd rfl h37
                · skip
                  refine lv_iconst (v := 1) C.x C.b md_F_nextPrice_72 (by decide) ?_
                  refine lv_goto (tgt := 77) C.x C.b md_F_nextPrice_73 (by decide) ?_
                  refine lv_istore (lv' := [(7, .int 1), (6, .int 1), (5, .ref a), (4, .int (nI k)), (3, .int (mf_pr y)), (0, .ref x), (1, .int s0), (2, .int b0)]) C.x C.b md_F_nextPrice_77 hl (by decide) rfl (fun ls hl => ?_)
                  refine lv_aload C.x C.b md_F_nextPrice_79 (lv_at hl 2 rfl) ?_
                  refine lv_iload_n C.x C.b md_F_nextPrice_81 rfl (lv_at hl 6 rfl) ?_
                  refine mf_cks (va_runVN (As := [.int s0]) (rest := []) C.f (k_O_restsOn l D k5 t0 A H a o s0 ho) ⟨mf_cN C mt_282 (C.ev.2.1.2.1 ("MatchFloor", 166, my_O_restsOn) (List.mem_of_getElem? (i := 2) rfl)) mt_14 mh_O_restsOn ⟨by decide, by decide⟩, C.t mt_281, C.t ms_4⟩ (mf_preV C.ev hS (mf_rv C (ci := 1) (N := 6) rfl ho)) rfl rfl hl.1 rfl (lv_room (Nat.le_of_ble_eq_true rfl)) md_F_nextPrice_82 ⟨by omega, by omega⟩) ?_
                  refine lv_if_eq (tgt := 104) C.x C.b md_F_nextPrice_85 (by decide) (fun h38 => ?_) (fun h38 => ?_)
                  · skip
                    refine lv_iinc (k := 3) (v := nI (k + 1)) (lv' := [(4, .int (nI (k + 1))), (7, .int 1), (6, .int 1), (5, .ref a), (3, .int (mf_pr y)), (0, .ref x), (1, .int s0), (2, .int b0)]) C.x C.b md_F_nextPrice_104 hl rfl (nI_1 _) (by decide) rfl (fun ls hl => ?_)
                    refine lv_goto (tgt := 5) C.x C.b md_F_nextPrice_107 (by decide) ?_
                    exact ih (k + 1) (some (j, y)) ls (by omega) (mf_step (mf_kl hq) i0 (by first | (simp [mf_cmp, mf_lt, mf_behind, h16, Int32.not_le.mp h16, h17, mf_bI_1.mp h26, h33, mf_bI_1.mp h34, mf_bI_0.mp h38]; done) | (exfalso; simp_all; done))) (lv_sub hl [0, 4, 5, 6, 7] rfl)
                  · skip
                    refine lv_iload C.x C.b md_F_nextPrice_88 (lv_at hl 1 rfl) ?_
                    refine lv_if_eq (tgt := 104) C.x C.b md_F_nextPrice_90 (by decide) (fun h39 => ?_) (fun h39 => ?_)
                    · exact absurd h39 (by decide)
                    · skip
                      refine lv_iload C.x C.b md_F_nextPrice_93 (lv_at hl 0 rfl) ?_
                      refine lv_if_eq (tgt := 104) C.x C.b md_F_nextPrice_95 (by decide) (fun h40 => ?_) (fun h40 => ?_)
                      · exact absurd h40 (by decide)
                      · skip
                        refine lv_aload C.x C.b md_F_nextPrice_98 (lv_at hl 2 rfl) ?_
                        refine mf_gfN C (ci := 1) (N := 6) rfl mi_O 4 (by decide) (C.ev.2.1.1 (92, "MatchFloor$Order", "price", "I") (List.mem_of_getElem? (i := 8) rfl)) ho (v := .int (mf_pr o)) rfl md_F_nextPrice_100 ?_
                        refine lv_istore_n (lv' := [(3, .int (mf_pr o)), (7, .int 1), (6, .int 1), (5, .ref a), (4, .int (nI k)), (0, .ref x), (1, .int s0), (2, .int b0)]) C.x C.b md_F_nextPrice_103 rfl hl (by decide) rfl (fun ls hl => ?_)
                        refine lv_iinc (k := 4) (v := nI (k + 1)) (lv' := [(4, .int (nI (k + 1))), (3, .int (mf_pr o)), (7, .int 1), (6, .int 1), (5, .ref a), (0, .ref x), (1, .int s0), (2, .int b0)]) C.x C.b md_F_nextPrice_104 hl rfl (nI_1 _) (by decide) rfl (fun ls hl => ?_)
                        refine lv_goto (tgt := 5) C.x C.b md_F_nextPrice_107 (by decide) ?_
                        exact ih (k + 1) (some (k, o)) ls (by omega) (mf_step (mf_kl hq) i0 (by first | (simp [mf_cmp, mf_lt, mf_behind, h16, Int32.not_le.mp h16, h17, mf_bI_1.mp h26, h33, mf_bI_1.mp h34, mf_bI_1.mp h38, h39, h40]; done) | (exfalso; simp_all; done))) (lv_sub hl [0, 1, 5, 6, 7] rfl)
  refine lv_iconst (v := 0) C.x C.b md_F_nextPrice_0 (by decide) ?_
  refine lv_istore_n (lv' := [(3, .int 0), (0, .ref x), (1, .int s0), (2, .int b0)]) C.x C.b md_F_nextPrice_1 rfl hl (by decide) rfl (fun ls hl => ?_)
  refine lv_iconst (v := 0) C.x C.b md_F_nextPrice_2 (by decide) ?_
  refine lv_istore (lv' := [(4, .int 0), (3, .int 0), (0, .ref x), (1, .int s0), (2, .int b0)]) C.x C.b md_F_nextPrice_3 hl (by decide) rfl (fun ls hl => ?_)
  exact loop ks.length 0 none ls (by omega) rfl (lv_sub hl [0, 1, 2, 3, 4] rfl)
theorem k_F_next (l : Launch) (D : va_G) (k5 : mf_k5) (t0 : Nat × Nat) (A : Nat → Prop) (H : Heap) (x al tp : Nat) (due met : Int32) (ks : List (Nat × mf_O)) (s0 b0 : Int32) (hC : mf_CL D k5 t0 A H x al tp due met ks) (hpr : ∀ r ∈ mf_L ks, mf_pr r ≠ 0) : mf_cRO l my_F_nextPrice mc_F_nextPrice 8 (some .int) { frames := 3, cells := 0, slots := 0, locals := 64 } D (mf_tys k5) t0 A H [.ref x, .int s0, .int b0] (some (.int (mf_next s0 b0 (mf_L ks)))) := k_F_nextPrice l D k5 t0 A H x al tp due met ks s0 b0 hC hpr
set_option maxRecDepth 100000 in
set_option maxHeartbeats 4000000 in
theorem k_F_countLevels (l : Launch) (D : va_G) (k5 : mf_k5) (t0 : Nat × Nat) (A : Nat → Prop) (H : Heap) (x al tp : Nat) (due met : Int32) (ks : List (Nat × mf_O)) (s0 : Int32) (hC : mf_CL D k5 t0 A H x al tp due met ks) (hpr : ∀ r ∈ mf_L ks, mf_pr r ≠ 0) : mf_cRO l my_F_countLevels mc_F_countLevels 4 (some .int) { frames := 4, cells := 0, slots := 0, locals := 91 } D (mf_tys k5) t0 A H [.ref x, .int s0] (some (.int (nI (mf_lv (fun b => mf_next s0 b (mf_L ks)) 40 (mf_next s0 0 (mf_L ks)) 0)))) := by
  have hC0 := hC
  obtain ⟨hx, hAx, hAL, hks, hnd⟩ := id hC
  obtain ⟨ed, mc, hal, hA1, hle, hor⟩ := id hAL
  rw [List.length_map] at hle
  refine mf_of (by decide) (Nat.le_of_ble_eq_true rfl) ?_
  intro p e s m below meth c ls C hH hr hlk hnm hmt hl hS
  have hl : lv_has ls 4 [(0, .ref x), (1, .int s0)] := hl
  have loop : ∀ (n k : Nat) (p0 : Int32) (ls : Array Slot), k + n = 40 → mf_lv (fun b => mf_next s0 b (mf_L ks)) n p0 k = mf_lv (fun b => mf_next s0 b (mf_L ks)) 40 (mf_next s0 0 (mf_L ks)) 0 → lv_has ls 4 [(3, .int p0), (2, .int (nI k)), (0, .ref x), (1, .int s0)] → W p l e ({ frames := 4, cells := 0, slots := 0, locals := 91 } : Room) s m (([.ref x, .int s0] : List Value).toArray) below meth c H [] 0 0 (MQ below (mf_K (some (.int (nI (mf_lv (fun b => mf_next s0 b (mf_L ks)) 40 (mf_next s0 0 (mf_L ks)) 0))))) (([.ref x, .int s0] : List Value).toArray) s 0 0 (fun _ => False)) (F0 m 9 ls []) := by
    intro n
    induction n with
    | zero =>
      intro k p0 ls hk i0 hl
      obtain rfl : k = 40 := by omega
      refine lv_iload_n C.x C.b md_F_countLevels_9 rfl (lv_at hl 0 rfl) ?_
      refine lv_if_eq (tgt := 32) C.x C.b md_F_countLevels_10 (by decide) (fun h1 => ?_) (fun h1 => ?_)
      · skip
        refine lv_iload_n C.x C.b md_F_countLevels_32 rfl (lv_at hl 1 rfl) ?_
        rw [show nI (mf_lv (fun b => mf_next s0 b (mf_L ks)) 40 (mf_next s0 0 (mf_L ks)) 0) = (nI 40) by rw [← i0]; rfl]
        exact mf_ri C.x C.b hH hr hlk md_F_countLevels_33
      · skip
        refine lv_iload_n C.x C.b md_F_countLevels_13 rfl (lv_at hl 1 rfl) ?_
        refine lv_bipush (v := 40) C.x C.b md_F_countLevels_14 (by decide) ?_
        refine lv_icmp_ge (tgt := 32) C.x C.b md_F_countLevels_16 (by decide) (fun h2 => ?_) (fun h2 => ?_)
        · skip
          refine lv_iload_n C.x C.b md_F_countLevels_32 rfl (lv_at hl 1 rfl) ?_
          rw [show nI (mf_lv (fun b => mf_next s0 b (mf_L ks)) 40 (mf_next s0 0 (mf_L ks)) 0) = (nI 40) by rw [← i0]; rfl]
          exact mf_ri C.x C.b hH hr hlk md_F_countLevels_33
        · exact absurd (by decide : (40 : Int32) ≤ nI 40) h2
    | succ n ih =>
      intro k p0 ls hk i0 hl
      refine lv_iload_n C.x C.b md_F_countLevels_9 rfl (lv_at hl 0 rfl) ?_
      refine lv_if_eq (tgt := 32) C.x C.b md_F_countLevels_10 (by decide) (fun h3 => ?_) (fun h3 => ?_)
      · skip
        refine lv_iload_n C.x C.b md_F_countLevels_32 rfl (lv_at hl 1 rfl) ?_
        rw [show nI (mf_lv (fun b => mf_next s0 b (mf_L ks)) 40 (mf_next s0 0 (mf_L ks)) 0) = (nI k) by rw [← i0]; rw [h3, mf_lv_0]]
        exact mf_ri C.x C.b hH hr hlk md_F_countLevels_33
      · skip
        refine lv_iload_n C.x C.b md_F_countLevels_13 rfl (lv_at hl 1 rfl) ?_
        refine lv_bipush (v := 40) C.x C.b md_F_countLevels_14 (by decide) ?_
        refine lv_icmp_ge (tgt := 32) C.x C.b md_F_countLevels_16 (by decide) (fun h4 => ?_) (fun h4 => ?_)
        · exact absurd h4 (nI_ge (a := k) (b := 40) (by omega) (by omega))
        · skip
          refine lv_iinc (k := 1) (v := nI (k + 1)) (lv' := [(2, .int (nI (k + 1))), (3, .int p0), (0, .ref x), (1, .int s0)]) C.x C.b md_F_countLevels_19 hl rfl (nI_1 _) (by decide) rfl (fun ls hl => ?_)
          refine lv_aload_n C.x C.b md_F_countLevels_22 rfl (lv_at hl 2 rfl) ?_
          refine lv_iload_n C.x C.b md_F_countLevels_23 rfl (lv_at hl 3 rfl) ?_
          refine lv_iload_n C.x C.b md_F_countLevels_24 rfl (lv_at hl 1 rfl) ?_
          refine mf_cks (va_runV (As := [.int s0, .int p0]) (rest := []) C.f (k_F_next l D k5 t0 A H x al tp due met ks s0 p0 hC hpr) (mf_cV C mt_451 mt_448 mt_1 mt_450 ms_19 mh_F_nextPrice ⟨by decide, by decide⟩) (mf_preV C.ev hS (mf_rv C (ci := 3) (N := 4) rfl hx)) rfl rfl hl.1 rfl (lv_room (Nat.le_of_ble_eq_true rfl)) md_F_countLevels_25 ⟨by omega, by omega⟩) ?_
          refine lv_istore_n (lv' := [(3, .int (mf_next s0 p0 (mf_L ks))), (2, .int (nI (k + 1))), (0, .ref x), (1, .int s0)]) C.x C.b md_F_countLevels_28 rfl hl (by decide) rfl (fun ls hl => ?_)
          refine lv_goto (tgt := 9) C.x C.b md_F_countLevels_29 (by decide) ?_
          exact ih (k + 1) _ ls (by omega) (by rw [← i0, mf_lv_1 _ _ _ h3]) (lv_sub hl [0, 1, 2, 3] rfl)
  refine lv_iconst (v := 0) C.x C.b md_F_countLevels_0 (by decide) ?_
  refine lv_istore_n (lv' := [(2, .int 0), (0, .ref x), (1, .int s0)]) C.x C.b md_F_countLevels_1 rfl hl (by decide) rfl (fun ls hl => ?_)
  refine lv_aload_n C.x C.b md_F_countLevels_2 rfl (lv_at hl 1 rfl) ?_
  refine lv_iload_n C.x C.b md_F_countLevels_3 rfl (lv_at hl 2 rfl) ?_
  refine lv_iconst (v := 0) C.x C.b md_F_countLevels_4 (by decide) ?_
  refine mf_cks (va_runV (As := [.int s0, .int 0]) (rest := []) C.f (k_F_next l D k5 t0 A H x al tp due met ks s0 0 hC hpr) (mf_cV C mt_451 mt_448 mt_1 mt_450 ms_19 mh_F_nextPrice ⟨by decide, by decide⟩) (mf_preV C.ev hS (mf_rv C (ci := 3) (N := 4) rfl hx)) rfl rfl hl.1 rfl (lv_room (Nat.le_of_ble_eq_true rfl)) md_F_countLevels_5 ⟨by omega, by omega⟩) ?_
  refine lv_istore_n (lv' := [(3, .int (mf_next s0 0 (mf_L ks))), (2, .int 0), (0, .ref x), (1, .int s0)]) C.x C.b md_F_countLevels_8 rfl hl (by decide) rfl (fun ls hl => ?_)
  exact loop 40 0 _ ls (by omega) rfl (lv_sub hl [0, 1, 2, 3] rfl)
set_option maxRecDepth 100000 in
set_option maxHeartbeats 4000000 in
theorem k_F_priceOfLevel (l : Launch) (D : va_G) (k5 : mf_k5) (t0 : Nat × Nat) (A : Nat → Prop) (H : Heap) (x al tp : Nat) (due met : Int32) (ks : List (Nat × mf_O)) (s0 : Int32) (j : Nat) (hC : mf_CL D k5 t0 A H x al tp due met ks) (hpr : ∀ r ∈ mf_L ks, mf_pr r ≠ 0) (hj : j < 2 ^ 31) : mf_cRO l my_F_priceOfLevel mc_F_priceOfLevel 5 (some .int) { frames := 4, cells := 0, slots := 0, locals := 91 } D (mf_tys k5) t0 A H [.ref x, .int s0, .int (nI j)] (some (.int (mf_it (fun b => mf_next s0 b (mf_L ks)) j))) := by
  have hC0 := hC
  obtain ⟨hx, hAx, hAL, hks, hnd⟩ := id hC
  obtain ⟨ed, mc, hal, hA1, hle, hor⟩ := id hAL
  rw [List.length_map] at hle
  refine mf_of (by decide) (Nat.le_of_ble_eq_true rfl) ?_
  intro p e s m below meth c ls C hH hr hlk hnm hmt hl hS
  have hl : lv_has ls 5 [(0, .ref x), (1, .int s0), (2, .int (nI j))] := hl
  have loop : ∀ (n k : Nat) (ls : Array Slot), k + n = j → lv_has ls 5 [(4, .int (nI k)), (3, .int (mf_it (fun b => mf_next s0 b (mf_L ks)) k)), (0, .ref x), (1, .int s0), (2, .int (nI j))] → W p l e ({ frames := 4, cells := 0, slots := 0, locals := 91 } : Room) s m (([.ref x, .int s0, .int (nI j)] : List Value).toArray) below meth c H [] 0 0 (MQ below (mf_K (some (.int (mf_it (fun b => mf_next s0 b (mf_L ks)) j)))) (([.ref x, .int s0, .int (nI j)] : List Value).toArray) s 0 0 (fun _ => False)) (F0 m 10 ls []) := by
    intro n
    induction n with
    | zero =>
      intro k ls hk hl
      obtain rfl : j = k := by omega
      refine lv_iload C.x C.b md_F_priceOfLevel_10 (lv_at hl 0 rfl) ?_
      refine lv_iload_n C.x C.b md_F_priceOfLevel_12 rfl (lv_at hl 4 rfl) ?_
      refine lv_icmp_ge (tgt := 29) C.x C.b md_F_priceOfLevel_13 (by decide) (fun h1 => ?_) (fun h1 => ?_)
      · skip
        refine lv_iload_n C.x C.b md_F_priceOfLevel_29 rfl (lv_at hl 1 rfl) ?_
        exact mf_ri C.x C.b hH hr hlk md_F_priceOfLevel_30
      · exact absurd (Int32.le_refl _) h1
    | succ n ih =>
      intro k ls hk hl
      have hkk : k < j := by omega
      refine lv_iload C.x C.b md_F_priceOfLevel_10 (lv_at hl 0 rfl) ?_
      refine lv_iload_n C.x C.b md_F_priceOfLevel_12 rfl (lv_at hl 4 rfl) ?_
      refine lv_icmp_ge (tgt := 29) C.x C.b md_F_priceOfLevel_13 (by decide) (fun h2 => ?_) (fun h2 => ?_)
      · exact absurd h2 (nI_ge hkk hj)
      · skip
        refine lv_aload_n C.x C.b md_F_priceOfLevel_16 rfl (lv_at hl 2 rfl) ?_
        refine lv_iload_n C.x C.b md_F_priceOfLevel_17 rfl (lv_at hl 3 rfl) ?_
        refine lv_iload_n C.x C.b md_F_priceOfLevel_18 rfl (lv_at hl 1 rfl) ?_
        refine mf_cks (va_runV (As := [.int s0, .int (mf_it (fun b => mf_next s0 b (mf_L ks)) k)]) (rest := []) C.f (k_F_next l D k5 t0 A H x al tp due met ks s0 (mf_it (fun b => mf_next s0 b (mf_L ks)) k) hC hpr) (mf_cV C mt_451 mt_448 mt_1 mt_450 ms_19 mh_F_nextPrice ⟨by decide, by decide⟩) (mf_preV C.ev hS (mf_rv C (ci := 3) (N := 4) rfl hx)) rfl rfl hl.1 rfl (lv_room (Nat.le_of_ble_eq_true rfl)) md_F_priceOfLevel_19 ⟨by omega, by omega⟩) ?_
        refine lv_istore_n (lv' := [(3, .int (mf_next s0 (mf_it (fun b => mf_next s0 b (mf_L ks)) k) (mf_L ks))), (4, .int (nI k)), (0, .ref x), (1, .int s0), (2, .int (nI j))]) C.x C.b md_F_priceOfLevel_22 rfl hl (by decide) rfl (fun ls hl => ?_)
        refine lv_iinc (k := 1) (v := nI (k + 1)) (lv' := [(4, .int (nI (k + 1))), (3, .int (mf_next s0 (mf_it (fun b => mf_next s0 b (mf_L ks)) k) (mf_L ks))), (0, .ref x), (1, .int s0), (2, .int (nI j))]) C.x C.b md_F_priceOfLevel_23 hl rfl (nI_1 _) (by decide) rfl (fun ls hl => ?_)
        refine lv_goto (tgt := 10) C.x C.b md_F_priceOfLevel_26 (by decide) ?_
        exact ih (k + 1) ls (by omega) (lv_sub hl [0, 1, 2, 3, 4] rfl)
  refine lv_aload_n C.x C.b md_F_priceOfLevel_0 rfl (lv_at hl 0 rfl) ?_
  refine lv_iload_n C.x C.b md_F_priceOfLevel_1 rfl (lv_at hl 1 rfl) ?_
  refine lv_iconst (v := 0) C.x C.b md_F_priceOfLevel_2 (by decide) ?_
  refine mf_cks (va_runV (As := [.int s0, .int 0]) (rest := []) C.f (k_F_next l D k5 t0 A H x al tp due met ks s0 0 hC hpr) (mf_cV C mt_451 mt_448 mt_1 mt_450 ms_19 mh_F_nextPrice ⟨by decide, by decide⟩) (mf_preV C.ev hS (mf_rv C (ci := 3) (N := 4) rfl hx)) rfl rfl hl.1 rfl (lv_room (Nat.le_of_ble_eq_true rfl)) md_F_priceOfLevel_3 ⟨by omega, by omega⟩) ?_
  refine lv_istore_n (lv' := [(3, .int (mf_next s0 0 (mf_L ks))), (0, .ref x), (1, .int s0), (2, .int (nI j))]) C.x C.b md_F_priceOfLevel_6 rfl hl (by decide) rfl (fun ls hl => ?_)
  refine lv_iconst (v := 0) C.x C.b md_F_priceOfLevel_7 (by decide) ?_
  refine lv_istore (lv' := [(4, .int 0), (3, .int (mf_next s0 0 (mf_L ks))), (0, .ref x), (1, .int s0), (2, .int (nI j))]) C.x C.b md_F_priceOfLevel_8 hl (by decide) rfl (fun ls hl => ?_)
  exact loop j 0 ls (by omega) (lv_sub hl [0, 1, 2, 3, 4] rfl)
set_option maxRecDepth 100000 in
set_option maxHeartbeats 4000000 in
theorem k_F_isRefused (l : Launch) (D : va_G) (k5 : mf_k5) (t0 : Nat × Nat) (A : Nat → Prop) (H : Heap) (x al tp : Nat) (due met : Int32) (ks : List (Nat × mf_O)) (ca : Nat) (cr : mf_O) (kd : Int32) (hC : mf_CL D k5 t0 A H x al tp due met ks) (hca : va_at D mf_cl (ca, .inr (1, mf_fs cr)) H) : mf_cRO l my_F_isRefused mc_F_isRefused 4 (some .boolean) { frames := 4, cells := 0, slots := 0, locals := 89 } D (mf_tys k5) t0 A H [.ref x, .ref ca, .int kd] (some (.int (mf_bI (mf_refused cr kd (mf_L ks))))) := by
  have hC0 := hC
  obtain ⟨hx, hAx, hAL, hks, hnd⟩ := id hC
  obtain ⟨ed, mc, hal, hA1, hle, hor⟩ := id hAL
  rw [List.length_map] at hle
  refine mf_of (by decide) (Nat.le_of_ble_eq_true rfl) ?_
  intro p e s m below meth c ls C hH hr hlk hnm hmt hl hS
  have hl : lv_has ls 4 [(0, .ref x), (1, .ref ca), (2, .int kd)] := hl
  refine lv_iload_n C.x C.b md_F_isRefused_0 rfl (lv_at hl 2 rfl) ?_
  refine lv_iconst (v := 3) C.x C.b md_F_isRefused_1 (by decide) ?_
  refine lv_icmp_ne (tgt := 23) C.x C.b md_F_isRefused_2 (by decide) (fun h1 => ?_) (fun h1 => ?_)
  · skip
    refine lv_iload_n C.x C.b md_F_isRefused_23 rfl (lv_at hl 2 rfl) ?_
    refine lv_iconst (v := 4) C.x C.b md_F_isRefused_24 (by decide) ?_
    refine lv_icmp_ne (tgt := 72) C.x C.b md_F_isRefused_25 (by decide) (fun h2 => ?_) (fun h2 => ?_)
    · skip
      refine lv_iconst (v := 0) C.x C.b md_F_isRefused_72 (by decide) ?_
      rw [show mf_bI (mf_refused cr kd (mf_L ks)) = 0 by first | (simp [mf_bI, mf_refused, h1, h2]; done) | (exfalso; simp_all; done)]
      exact mf_rz C.x C.b hH hr hlk rfl md_F_isRefused_73
    · skip
      refine lv_aload_n C.x C.b md_F_isRefused_28 rfl (lv_at hl 0 rfl) ?_
      refine lv_aload_n C.x C.b md_F_isRefused_29 rfl (lv_at hl 1 rfl) ?_
      refine mf_gfN C (ci := 1) (N := 6) rfl mi_O 2 (by decide) (C.ev.2.1.1 (125, "MatchFloor$Order", "side", "I") (List.mem_of_getElem? (i := 6) rfl)) hca (v := .int (mf_sd cr)) rfl md_F_isRefused_30 ?_
      refine mf_cks (va_runS (As := [.int (mf_sd cr)]) (rest := [.ref x]) C.f (k_F_otherSide l D k5 t0 A H (mf_sd cr)) (mf_cS C mt_278 mt_276 mt_1 mt_277 mh_F_otherSide ⟨by decide, by decide⟩) (mf_preS C.ev hS) rfl rfl hl.1 rfl (lv_room (Nat.le_of_ble_eq_true rfl)) md_F_isRefused_33 ⟨by omega, by omega⟩) ?_
      refine mf_cks (va_runV (As := [.int (mf_other (mf_sd cr))]) (rest := []) C.f (k_F_placeOfFirst l D k5 t0 A H x al tp due met ks (mf_other (mf_sd cr)) hC0) (mf_cV C mt_294 mt_291 mt_1 mt_293 ms_6 mh_F_placeOfFirst ⟨by decide, by decide⟩) (mf_preV C.ev hS (mf_rv C (ci := 3) (N := 4) rfl hx)) rfl rfl hl.1 rfl (lv_room (Nat.le_of_ble_eq_true rfl)) md_F_isRefused_36 ⟨by omega, by omega⟩) ?_
      rcases hfst : mf_first (mf_other (mf_sd cr)) (mf_L ks) with _ | ⟨j, r⟩
      · refine W.eq (g2 := F0 m 39 ls [.int (-1)]) rfl ?_
        refine lv_istore_n (lv' := [(3, .int (-1)), (0, .ref x), (1, .ref ca), (2, .int kd)]) C.x C.b md_F_isRefused_39 rfl hl (by decide) rfl (fun ls hl => ?_)
        refine lv_iload_n C.x C.b md_F_isRefused_40 rfl (lv_at hl 0 rfl) ?_
        refine lv_iconst (v := (-1)) C.x C.b md_F_isRefused_41 (by decide) ?_
        refine lv_icmp_eq (tgt := 70) C.x C.b md_F_isRefused_42 (by decide) (fun h3 => ?_) (fun h3 => ?_)
        · skip
          refine lv_iconst (v := 0) C.x C.b md_F_isRefused_70 (by decide) ?_
          rw [show mf_bI (mf_refused cr kd (mf_L ks)) = 0 by first | (simp [mf_bI, mf_refused, h1, h2, hfst, h3]; done) | (exfalso; simp_all; done)]
          exact mf_rz C.x C.b hH hr hlk rfl md_F_isRefused_71
        · exact absurd rfl h3
      · refine W.eq (g2 := F0 m 39 ls [.int (nI j)]) rfl ?_
        obtain ⟨a, hq⟩ := mf_pick_ka hfst
        have hjl : j < ks.length := (List.getElem?_eq_some_iff.mp hq).1
        have ho : va_at D mf_cl (a, .inr (1, mf_fs r)) H := (hks (a, r) (List.mem_of_getElem? hq)).1
        refine lv_istore_n (lv' := [(3, .int (nI j)), (0, .ref x), (1, .ref ca), (2, .int kd)]) C.x C.b md_F_isRefused_39 rfl hl (by decide) rfl (fun ls hl => ?_)
        refine lv_iload_n C.x C.b md_F_isRefused_40 rfl (lv_at hl 0 rfl) ?_
        refine lv_iconst (v := (-1)) C.x C.b md_F_isRefused_41 (by decide) ?_
        refine lv_icmp_eq (tgt := 70) C.x C.b md_F_isRefused_42 (by decide) (fun h4 => ?_) (fun h4 => ?_)
        · exact absurd h4 (mf_nI_ne (by omega))
        · skip
          refine lv_aload_n C.x C.b md_F_isRefused_45 rfl (lv_at hl 1 rfl) ?_
          refine mf_gf C (ci := 3) (N := 4) rfl mi_F 0 (by decide) mt_84 hx (v := .ref al) rfl md_F_isRefused_46 ?_
          refine lv_iload_n C.x C.b md_F_isRefused_49 rfl (lv_at hl 0 rfl) ?_
          refine mf_cks (va_runV (As := [.int (nI j)]) (rest := []) C.f (k_A_get l D k5 t0 A H al j a _ hAL (mf_kq hq)) (mf_cV C mt_209 mt_206 mt_4 mt_207 mt_208 mh_A_get ⟨by decide, by decide⟩) (mf_preV C.ev hS (mf_rv C (ci := 0) (N := 3) rfl hal)) rfl rfl hl.1 rfl (lv_room (Nat.le_of_ble_eq_true rfl)) md_F_isRefused_50 ⟨by omega, by omega⟩) ?_
          refine mf_cast C (ci := 1) (N := 6) rfl mt_220 ho md_F_isRefused_53 ?_
          refine lv_aload_n C.x C.b md_F_isRefused_56 rfl (lv_at hl 2 rfl) ?_
          refine mf_gfN C (ci := 1) (N := 6) rfl mi_O 4 (by decide) (C.ev.2.1.1 (92, "MatchFloor$Order", "price", "I") (List.mem_of_getElem? (i := 8) rfl)) hca (v := .int (mf_pr cr)) rfl md_F_isRefused_57 ?_
          refine mf_cks (va_runVN (As := [.int (mf_pr cr)]) (rest := []) C.f (k_O_isFitBy l D k5 t0 A H a r (mf_pr cr) ho) ⟨mf_cN C mt_286 (C.ev.2.1.2.1 ("MatchFloor", 186, my_O_isFitBy) (List.mem_of_getElem? (i := 3) rfl)) mt_14 mh_O_isFitBy ⟨by decide, by decide⟩, C.t mt_285, C.t ms_5⟩ (mf_preV C.ev hS (mf_rv C (ci := 1) (N := 6) rfl ho)) rfl rfl hl.1 rfl (lv_room (Nat.le_of_ble_eq_true rfl)) md_F_isRefused_60 ⟨by omega, by omega⟩) ?_
          refine lv_if_eq (tgt := 70) C.x C.b md_F_isRefused_63 (by decide) (fun h5 => ?_) (fun h5 => ?_)
          · skip
            refine lv_iconst (v := 0) C.x C.b md_F_isRefused_70 (by decide) ?_
            rw [show mf_bI (mf_refused cr kd (mf_L ks)) = 0 by first | (simp [mf_bI, mf_refused, h1, h2, hfst, h4, mf_bI_0.mp h5]; done) | (exfalso; simp_all; done)]
            exact mf_rz C.x C.b hH hr hlk rfl md_F_isRefused_71
          · skip
            refine lv_iconst (v := 1) C.x C.b md_F_isRefused_66 (by decide) ?_
            refine lv_goto (tgt := 71) C.x C.b md_F_isRefused_67 (by decide) ?_
            rw [show mf_bI (mf_refused cr kd (mf_L ks)) = 1 by first | (simp [mf_bI, mf_refused, h1, h2, hfst, h4, mf_bI_1.mp h5]; done) | (exfalso; simp_all; done)]
            exact mf_rz C.x C.b hH hr hlk rfl md_F_isRefused_71
  · skip
    refine lv_aload_n C.x C.b md_F_isRefused_5 rfl (lv_at hl 0 rfl) ?_
    refine lv_aload_n C.x C.b md_F_isRefused_6 rfl (lv_at hl 1 rfl) ?_
    refine mf_cks (va_runV (As := [.ref ca]) (rest := []) C.f (k_F_leftFor l D k5 t0 A H x al tp due met ks ca cr hC0 hca) (mf_cV C mt_275 mt_272 mt_1 mt_274 ms_3 mh_F_leftFor ⟨by decide, by decide⟩) (mf_preV C.ev hS (mf_rv C (ci := 3) (N := 4) rfl hx)) rfl rfl hl.1 rfl (lv_room (Nat.le_of_ble_eq_true rfl)) md_F_isRefused_7 ⟨by omega, by omega⟩) ?_
    refine lv_aload_n C.x C.b md_F_isRefused_10 rfl (lv_at hl 1 rfl) ?_
    refine mf_gfN C (ci := 1) (N := 6) rfl mi_O 5 (by decide) (C.ev.2.1.1 (81, "MatchFloor$Order", "left", "I") (List.mem_of_getElem? (i := 9) rfl)) hca (v := .int (mf_lf cr)) rfl md_F_isRefused_11 ?_
    refine lv_icmp_ge (tgt := 21) C.x C.b md_F_isRefused_14 (by decide) (fun h6 => ?_) (fun h6 => ?_)
    · skip
      refine lv_iconst (v := 0) C.x C.b md_F_isRefused_21 (by decide) ?_
      rw [show mf_bI (mf_refused cr kd (mf_L ks)) = 0 by first | (simp [mf_bI, mf_refused, h1, h6, Int32.not_lt.mpr h6]; done) | (unfold mf_refused; rw [if_pos h1, decide_eq_false (Int32.not_lt.mpr h6)]; rfl) | (exfalso; simp_all; done)]
      exact mf_rz C.x C.b hH hr hlk rfl md_F_isRefused_22
    · skip
      refine lv_iconst (v := 1) C.x C.b md_F_isRefused_17 (by decide) ?_
      refine lv_goto (tgt := 22) C.x C.b md_F_isRefused_18 (by decide) ?_
      rw [show mf_bI (mf_refused cr kd (mf_L ks)) = 1 by first | (simp [mf_bI, mf_refused, h1, h6, Int32.not_le.mp h6]; done) | (unfold mf_refused; rw [if_pos h1, decide_eq_true (Int32.not_le.mp h6)]; rfl) | (exfalso; simp_all; done)]
      exact mf_rz C.x C.b hH hr hlk rfl md_F_isRefused_22
end
section
/-! ArrayList: writing -/
set_option maxRecDepth 100000 in
set_option maxHeartbeats 4000000 in
theorem k_A_fastRemove (l : Launch) (D : va_G) (k5 : mf_k5) (t0 : Nat × Nat) (A : Nat → Prop) (H : Heap) (al ed cap n i : Nat) (mc : Int32) (f : Nat → Option Nat) (hal : va_at D mf_cl (al, .inr (0, [.ref ed, .int (nI (n + 1)), .int mc])) H) (hed : va_at D mf_cl (ed, .inl (k5.1, cap, .inr (.inr (.inr (.inr f))))) H) (hAa : A al) (hAe : A ed) (hi : i ≤ n) (hn : n < cap) (hc : cap ≤ 60) (hel : ∀ j, j < n + 1 → ∃ y fs, f j = some y ∧ va_at D mf_cl (y, .inr (1, fs)) H) : mf_cWR l my_A_fastRemove mc_A_fastRemove 4 none { frames := 1, cells := 0, slots := 0, locals := 60 } D (mf_tys k5) t0 A H [.ref al, .ref ed, .int (nI i)] none (fun H1 => ∃ f1, va_at D mf_cl (al, .inr (0, [.ref ed, .int (nI n), .int (mc + 1)])) H1 ∧ va_at D mf_cl (ed, .inl (k5.1, cap, .inr (.inr (.inr (.inr f1))))) H1 ∧ ∀ j, j < n → f1 j = if j < i then f j else f (j + 1)) (mf_fr A H [D.1 0, k5.1]) 0 0 := by
  refine mf_of (by decide) (Nat.le_of_ble_eq_true rfl) ?_
  intro p e s m below meth c ls C hH hr hlk hnm hmt hl hS
  have hl : lv_has ls 4 [(0, .ref al), (1, .ref ed), (2, .int (nI i))] := hl
  obtain ⟨A1, hA1⟩ : ∃ A1, A1 = mf_fr A H [D.1 0, k5.1] := ⟨_, rfl⟩
  rw [← hA1]
  have hco : mf_co H al = some (D.1 0) := mf_co_o hal
  have hce : mf_co H ed = some k5.1 := mf_co_a hed
  have hD : va_D A1 [(al, .inr (0, [.ref ed, .int (nI (n + 1)), .int mc])), (ed, .inl (k5.1, cap, .inr (.inr (.inr (.inr f)))))] := by
    rw [hA1]
    exact mf_D2 (mf_ne_c hco hce (mf_nd C.nd (i := 0) (j := 5) rfl rfl (by decide))) (mf_fr_c hAa hco (by simp)) (mf_fr_c hAe hce (by simp))
  have hP : va_P D mf_cl [(al, .inr (0, [.ref ed, .int (nI (n + 1)), .int mc])), (ed, .inl (k5.1, cap, .inr (.inr (.inr (.inr f)))))] H := mf_two hal hed
  have hS : va_S A1 s.heap H [] := by rw [hH]; exact va_S.rf
  have hH0 : s.heap = H := hH
  obtain ⟨H0, e0⟩ : ∃ H0, H0 = H := ⟨_, rfl⟩
  refine lv_aload_n C.x C.b md_A_fastRemove_0 rfl (lv_at hl 0 rfl) ?_
  refine lv_dup C.x C.b md_A_fastRemove_1 rfl ?_
  refine mf_gfS C (ci := 0) (N := 3) (ref := "java/util/ArrayList") rfl mi_A 2 (by decide) mt_46 mt_47 (hP 0 _ rfl) (v := .int mc) rfl md_A_fastRemove_2 ?_
  refine lv_iconst (v := 1) C.x C.b md_A_fastRemove_5 (by decide) ?_
  refine lv_iadd C.x C.b md_A_fastRemove_6 ?_
  refine va_put (D := D) (ci := 0) (v := .int (mc + 1)) (ty := .int) (C := mf_RA) (T := mf_TA) (N := 3) C.x C.b C.2.2.1 mi_A mf_tyA mp_A mn_A C.o C.k hP hD hS 0 rfl rfl 2 (by decide) (C.t mt_46) (fun x h => u_same (C.t mt_47) x h) rfl (by decide +kernel) rfl rfl (Nat.le_of_ble_eq_true rfl) md_A_fastRemove_7 (fun H locs hP hD hS => ?_)
  have hP : va_P D mf_cl [(al, .inr (0, [.ref ed, .int (nI (n + 1)), .int (mc + 1)])), (ed, .inl (k5.1, cap, .inr (.inr (.inr (.inr f)))))] H := hP
  have hD : va_D A1 [(al, .inr (0, [.ref ed, .int (nI (n + 1)), .int (mc + 1)])), (ed, .inl (k5.1, cap, .inr (.inr (.inr (.inr f)))))] := hD
  refine lv_aload_n C.x C.b md_A_fastRemove_10 rfl (lv_at hl 0 rfl) ?_
  refine mf_gf C (ci := 0) (N := 3) rfl mi_A 1 (by decide) mt_44 (hP 0 _ rfl) (v := .int (nI (n + 1))) rfl md_A_fastRemove_11 ?_
  refine lv_iconst (v := 1) C.x C.b md_A_fastRemove_14 (by decide) ?_
  refine lv_isub C.x C.b md_A_fastRemove_15 ?_
  rw [nI_pred]
  refine lv_dup C.x C.b md_A_fastRemove_16 rfl ?_
  refine lv_istore_n (lv' := [(3, .int (nI n)), (0, .ref al), (1, .ref ed), (2, .int (nI i))]) C.x C.b md_A_fastRemove_17 rfl hl (by decide) rfl (fun ls hl => ?_)
  refine lv_iload_n C.x C.b md_A_fastRemove_18 rfl (lv_at hl 3 rfl) ?_
  refine lv_icmp_le (tgt := 34) C.x C.b md_A_fastRemove_19 (by decide) (fun h1 => ?_) (fun h1 => ?_)
  · skip
    have hin : i = n := by
      have := (nI_leI (by omega) (by omega)).mp h1
      omega
    refine lv_aload_n C.x C.b md_A_fastRemove_34 rfl (lv_at hl 2 rfl) ?_
    refine lv_aload_n C.x C.b md_A_fastRemove_35 rfl (lv_at hl 1 rfl) ?_
    refine lv_iload_n C.x C.b md_A_fastRemove_36 rfl (lv_at hl 0 rfl) ?_
    refine lv_dup_x1 C.x C.b md_A_fastRemove_37 rfl rfl ?_
    refine va_put (D := D) (ci := 0) (v := .int (nI n)) (ty := .int) (C := mf_RA) (T := mf_TA) (N := 3) C.x C.b C.2.2.1 mi_A mf_tyA mp_A mn_A C.o C.k hP hD hS 0 rfl rfl 1 (by decide) (C.t mt_44) (fun _ h => h) rfl (by decide +kernel) rfl rfl (Nat.le_of_ble_eq_true rfl) md_A_fastRemove_38 (fun H locs hP hD hS => ?_)
    have hP : va_P D mf_cl [(al, .inr (0, [.ref ed, .int (nI n), .int (mc + 1)])), (ed, .inl (k5.1, cap, .inr (.inr (.inr (.inr f)))))] H := hP
    have hD : va_D A1 [(al, .inr (0, [.ref ed, .int (nI n), .int (mc + 1)])), (ed, .inl (k5.1, cap, .inr (.inr (.inr (.inr f)))))] := hD
    refine lv_null C.x C.b md_A_fastRemove_41 ?_
    refine va_astqN C.x C.b C.k hP hD hS 1 0 rfl rfl (vp_in_nI (show n < cap by omega) (by omega)) md_A_fastRemove_42 (fun H locs hP hD hS => ?_)
    rw [nI_clamp (by omega)] at hP
    have hP : va_P D mf_cl [(al, .inr (0, [.ref ed, .int (nI n), .int (mc + 1)])), (ed, .inl (k5.1, cap, .inr (.inr (.inr (.inr (va_up f n none))))))] H := hP
    refine mf_wv C.x C.b hr hlk md_A_fastRemove_43 ⟨va_up f n none, hP 0 _ rfl, hP 1 _ rfl, fun j hj => ?_⟩ (by rw [← hH]; exact ⟨hS.1, hS.2.1⟩) hH (fun q hq => by have h9 := hS.2.2 q hq; rw [hA1] at h9; exact h9.1) (Nat.le_refl _) (Nat.le_refl _)
    rw [va_up_ne _ _ (by omega), if_pos (by omega)]
  · skip
    have hin : i < n := Nat.lt_of_not_le fun z => h1 ((nI_leI (by omega) (by omega)).mpr z)
    refine lv_aload_n C.x C.b md_A_fastRemove_22 rfl (lv_at hl 2 rfl) ?_
    refine lv_iload_n C.x C.b md_A_fastRemove_23 rfl (lv_at hl 3 rfl) ?_
    refine lv_iconst (v := 1) C.x C.b md_A_fastRemove_24 (by decide) ?_
    refine lv_iadd C.x C.b md_A_fastRemove_25 ?_
    rw [nI_1]
    refine lv_aload_n C.x C.b md_A_fastRemove_26 rfl (lv_at hl 2 rfl) ?_
    refine lv_iload_n C.x C.b md_A_fastRemove_27 rfl (lv_at hl 3 rfl) ?_
    refine lv_iload_n C.x C.b md_A_fastRemove_28 rfl (lv_at hl 0 rfl) ?_
    refine lv_iload_n C.x C.b md_A_fastRemove_29 rfl (lv_at hl 3 rfl) ?_
    refine lv_isub C.x C.b md_A_fastRemove_30 ?_
    rw [pk_sub (by omega)]
    have hEq : mf_Eq A [D.1 0, k5.1] H0 H := by
      refine mf_S_eq (locs := locs) ?_
      rw [e0, ← hA1, ← hH]
      exact hS
    rw [← e0] at hel
    refine va_copyq (C := "MatchFloor$Order") C.x C.b (C.2.2.2.2.2.trans hl.1.symm) C.o (C.t mt_317) (C.t mt_319) (C.t mt_318) (C.t mt_15) C.k hP hD hS 1 1 0 0 rfl rfl rfl rfl (nI_pos (by omega)) (nI_pos (by omega)) (nI_pos (by omega)) (by rw [nI_clamp (by omega), nI_clamp (by omega)]; omega) (by rw [nI_clamp (by omega), nI_clamp (by omega)]; omega) (fun j hj y hy => ?_) (vb_asgC C.ev.2.1.2.2.1) (by decide) (by decide) md_A_fastRemove_31 (fun H locs hP hD hS => ?_)
    · rw [nI_clamp (by omega)] at hj hy
      obtain ⟨y2, fs, e1, e2⟩ := hel (i + 1 + j) (by omega)
      cases hy.symm.trans e1
      exact mf_rv C (ci := 1) (N := 6) rfl (hEq.ko e2 (by simp [mf_nd C.nd (i := 1) (j := 0) rfl rfl (by decide), mf_nd C.nd (i := 1) (j := 5) rfl rfl (by decide)]))
    rw [nI_clamp (by omega), nI_clamp (by omega), nI_clamp (by omega)] at hP hD
    have hP : va_P D mf_cl [(al, .inr (0, [.ref ed, .int (nI (n + 1)), .int (mc + 1)])), (ed, .inl (k5.1, cap, .inr (.inr (.inr (.inr (va_cpy f f (i + 1) i (n - i)))))))] H := hP
    have hD : va_D A1 [(al, .inr (0, [.ref ed, .int (nI (n + 1)), .int (mc + 1)])), (ed, .inl (k5.1, cap, .inr (.inr (.inr (.inr (va_cpy f f (i + 1) i (n - i)))))))] := hD
    refine lv_aload_n C.x C.b md_A_fastRemove_34 rfl (lv_at hl 2 rfl) ?_
    refine lv_aload_n C.x C.b md_A_fastRemove_35 rfl (lv_at hl 1 rfl) ?_
    refine lv_iload_n C.x C.b md_A_fastRemove_36 rfl (lv_at hl 0 rfl) ?_
    refine lv_dup_x1 C.x C.b md_A_fastRemove_37 rfl rfl ?_
    refine va_put (D := D) (ci := 0) (v := .int (nI n)) (ty := .int) (C := mf_RA) (T := mf_TA) (N := 3) C.x C.b C.2.2.1 mi_A mf_tyA mp_A mn_A C.o C.k hP hD hS 0 rfl rfl 1 (by decide) (C.t mt_44) (fun _ h => h) rfl (by decide +kernel) rfl rfl (Nat.le_of_ble_eq_true rfl) md_A_fastRemove_38 (fun H locs hP hD hS => ?_)
    have hP : va_P D mf_cl [(al, .inr (0, [.ref ed, .int (nI n), .int (mc + 1)])), (ed, .inl (k5.1, cap, .inr (.inr (.inr (.inr (va_cpy f f (i + 1) i (n - i)))))))] H := hP
    have hD : va_D A1 [(al, .inr (0, [.ref ed, .int (nI n), .int (mc + 1)])), (ed, .inl (k5.1, cap, .inr (.inr (.inr (.inr (va_cpy f f (i + 1) i (n - i)))))))] := hD
    refine lv_null C.x C.b md_A_fastRemove_41 ?_
    refine va_astqN C.x C.b C.k hP hD hS 1 0 rfl rfl (vp_in_nI (show n < cap by omega) (by omega)) md_A_fastRemove_42 (fun H locs hP hD hS => ?_)
    rw [nI_clamp (by omega)] at hP
    have hP : va_P D mf_cl [(al, .inr (0, [.ref ed, .int (nI n), .int (mc + 1)])), (ed, .inl (k5.1, cap, .inr (.inr (.inr (.inr (va_up (va_cpy f f (i + 1) i (n - i)) n none))))))] H := hP
    refine mf_wv C.x C.b hr hlk md_A_fastRemove_43 ⟨va_up (va_cpy f f (i + 1) i (n - i)) n none, hP 0 _ rfl, hP 1 _ rfl, fun j hj => ?_⟩ (by rw [← hH]; exact ⟨hS.1, hS.2.1⟩) hH (fun q hq => by have h9 := hS.2.2 q hq; rw [hA1] at h9; exact h9.1) (Nat.le_refl _) (Nat.le_refl _)
    rw [va_up_ne _ _ (by omega)]
    by_cases hji : j < i
    · rw [if_pos hji, pk_cpy_out (Or.inl hji)]
    · rw [if_neg hji, pk_cpy_in (by omega) (by omega)]
      congr 1; omega
set_option maxRecDepth 100000 in
set_option maxHeartbeats 4000000 in
theorem k_A_remove (l : Launch) (D : va_G) (k5 : mf_k5) (t0 : Nat × Nat) (A : Nat → Prop) (H : Heap) (al i a : Nat) (as : List Nat) (hA : mf_AL D k5 t0 A H al as) (hi : as[i]? = some a) (he : ∀ b ∈ as, ∃ fs, va_at D mf_cl (b, .inr (1, fs)) H) : mf_cWR l my_A_remove mc_A_remove 4 (some (.object "java/lang/Object")) { frames := 2, cells := 0, slots := 0, locals := 83 } D (mf_tys k5) t0 A H [.ref al, .int (nI i)] (some (.ref a)) (fun H1 => mf_AL D k5 t0 A H1 al (as.eraseIdx i)) (mf_fr A H [D.1 0, k5.1]) 0 0 := by
  obtain ⟨ed, mc, hal, hA1, hle, ⟨rfl, -⟩ | ⟨cap, f, hed, hA2, h1, h2, h3, hf⟩⟩ := hA
  · simp at hi
  have hi1 : i < as.length := (List.getElem?_eq_some_iff.mp hi).1
  obtain ⟨n, hn⟩ : ∃ n, as.length = n + 1 := ⟨as.length - 1, by omega⟩
  have hle1 : (as.eraseIdx i).length = n := by have := mf_erase_len hi; omega
  rw [hn] at hal
  have hel : ∀ j, j < n + 1 → ∃ y fs, f j = some y ∧ va_at D mf_cl (y, .inr (1, fs)) H := by
    intro j hj
    obtain ⟨y, hy⟩ := mf_at_lt (l := as) (k := j) (by omega)
    obtain ⟨fs, h9⟩ := he y (List.mem_of_getElem? hy)
    exact ⟨y, fs, hf j y hy, h9⟩
  refine mf_of (by decide) (Nat.le_of_ble_eq_true rfl) ?_
  intro p e s m below meth c ls C hH hr hlk hnm hmt hl hS
  have hl : lv_has ls 4 [(0, .ref al), (1, .int (nI i))] := hl
  refine lv_iload_n C.x C.b md_A_remove_0 rfl (lv_at hl 1 rfl) ?_
  refine lv_aload_n C.x C.b md_A_remove_1 rfl (lv_at hl 0 rfl) ?_
  refine mf_gf C (ci := 0) (N := 3) rfl mi_A 1 (by decide) mt_44 hal (v := .int (nI (n + 1))) rfl md_A_remove_2 ?_
  refine mf_cks (va_runS (As := [.int (nI i), .int (nI (n + 1))]) (rest := []) C.f (k_Ob_checkIndex l D k5 t0 A H (nI i) (nI (n + 1)) (nI_pos (by omega)) (nI_lt (by omega) (by omega))) (mf_cS C mt_212 mt_210 mt_11 mt_211 mh_Ob_checkIndex ⟨by decide, by decide⟩) (mf_preS C.ev hS) rfl rfl hl.1 rfl (lv_room (Nat.le_of_ble_eq_true rfl)) md_A_remove_5 ⟨by omega, by omega⟩) ?_
  refine lv_pop C.x C.b md_A_remove_8 rfl ?_
  refine lv_aload_n C.x C.b md_A_remove_9 rfl (lv_at hl 0 rfl) ?_
  refine mf_gf C (ci := 0) (N := 3) rfl mi_A 0 (by decide) mt_43 hal (v := .ref ed) rfl md_A_remove_10 ?_
  refine lv_astore_n (lv' := [(2, .ref ed), (0, .ref al), (1, .int (nI i))]) C.x C.b md_A_remove_13 rfl hl (by decide) rfl (fun ls hl => ?_)
  refine lv_aload_n C.x C.b md_A_remove_14 rfl (lv_at hl 0 rfl) ?_
  refine lv_iload_n C.x C.b md_A_remove_15 rfl (lv_at hl 2 rfl) ?_
  refine mf_aald C (t := 0) rfl hed (i := i) (by omega) (by omega) (hf i a hi) md_A_remove_16 ?_
  refine lv_astore_n (lv' := [(3, .ref a), (2, .ref ed), (0, .ref al), (1, .int (nI i))]) C.x C.b md_A_remove_17 rfl hl (by decide) rfl (fun ls hl => ?_)
  refine lv_aload_n C.x C.b md_A_remove_18 rfl (lv_at hl 2 rfl) ?_
  refine lv_aload_n C.x C.b md_A_remove_19 rfl (lv_at hl 1 rfl) ?_
  refine lv_iload_n C.x C.b md_A_remove_20 rfl (lv_at hl 3 rfl) ?_
  refine mf_cwn (va_runV (As := [.ref ed, .int (nI i)]) (rest := []) C.f (k_A_fastRemove l D k5 t0 A H al ed cap n i mc f hal hed hA1 hA2 (by omega) (by omega) h3 hel) (mf_cV C mt_316 mt_313 mt_4 mt_315 ms_10 mh_A_fastRemove ⟨by decide, by decide⟩) (mf_preV C.ev hS (mf_rv C (ci := 0) (N := 3) rfl hal)) rfl rfl hl.1 rfl (lv_room (Nat.le_of_ble_eq_true rfl)) md_A_remove_21 ⟨by omega, by omega⟩) hS (fun _ _ h => h.1) (fun H locs hB hz hk hS => ?_)
  refine lv_aload_n C.x C.b md_A_remove_24 rfl (lv_at hl 0 rfl) ?_
  obtain ⟨f1, hal1, hed1, hf1⟩ := hB
  refine mf_wa C.x C.b hr (Or.inl ⟨_, rfl⟩) hlk md_A_remove_25 ⟨ed, mc + 1, ?_, hA1, ?_, Or.inr ⟨cap, f1, hed1, hA2, ?_, h2, h3, fun j b hj => ?_⟩⟩ ⟨hz, hk⟩ hH hS.2.2 (Nat.le_refl _) (Nat.le_refl _)
  · rw [hle1]; exact hal1
  · omega
  · omega
  · have hjn : j < n := by have := (List.getElem?_eq_some_iff.mp hj).1; omega
    rw [hf1 j hjn]
    rw [List.getElem?_eraseIdx] at hj
    by_cases hji : j < i
    · rw [if_pos hji] at hj ⊢; exact hf j b hj
    · rw [if_neg hji] at hj ⊢; exact hf (j + 1) b hj
end
section
/-! the tape -/
set_option maxRecDepth 100000 in
set_option maxHeartbeats 4000000 in
theorem k_Ma_floorMod (l : Launch) (D : va_G) (k5 : mf_k5) (t0 : Nat × Nat) (A : Nat → Prop) (H : Heap) (n : Nat) (hn : n < 2 ^ 31) : mf_cRO l my_Ma_floorMod mc_Ma_floorMod 3 (some .int) { frames := 0, cells := 0, slots := 0, locals := 0 } D (mf_tys k5) t0 A H [.int (nI n), .int 32] (some (.int (nI (n % 32)))) := by
  refine mf_ofF (by decide +kernel) (Nat.le_of_ble_eq_true rfl) ?_
  intro p e s m below meth c ls C hH hr hlk hnm hmt hl hS
  have hl : lv_has ls 3 [(0, .int (nI n)), (1, .int 32)] := hl
  refine lv_iload_n C.x C.b md_Ma_floorMod_0 rfl (lv_at hl 0 rfl) ?_
  refine lv_iload_n C.x C.b md_Ma_floorMod_1 rfl (lv_at hl 1 rfl) ?_
  refine lv_irem C.x C.b md_Ma_floorMod_2 (by decide) ?_
  rw [mf_mod32 hn]
  refine lv_istore_n (lv' := [(2, .int (nI (n % 32))), (0, .int (nI n)), (1, .int 32)]) C.x C.b md_Ma_floorMod_3 rfl hl (by decide) rfl (fun ls hl => ?_)
  refine lv_iload_n C.x C.b md_Ma_floorMod_4 rfl (lv_at hl 1 rfl) ?_
  refine lv_iload_n C.x C.b md_Ma_floorMod_5 rfl (lv_at hl 2 rfl) ?_
  refine lv_ixor C.x C.b md_Ma_floorMod_6 ?_
  refine lv_if_ge (tgt := 18) C.x C.b md_Ma_floorMod_7 (by decide) (fun h1 => ?_) (fun h1 => ?_)
  · skip
    refine lv_iload_n C.x C.b md_Ma_floorMod_18 rfl (lv_at hl 0 rfl) ?_
    exact mf_ri C.x C.b hH hr hlk md_Ma_floorMod_19
  · exact absurd (mf_xor_pos hn) h1
set_option maxRecDepth 100000 in
set_option maxHeartbeats 4000000 in
theorem k_T_read (l : Launch) (D : va_G) (k5 : mf_k5) (t0 : Nat × Nat) (A : Nat → Prop) (H : Heap) (tp k w0 : Nat) (g : mf_G) (hT : mf_TP D k5 A H tp g) (hk : k < g.1) (hg : g.1 < 2 ^ 31) (hw : w0 < 4) : mf_cRO l my_T_read mc_T_read 3 (some .int) { frames := 1, cells := 0, slots := 0, locals := 22 } D (mf_tys k5) t0 A H [.ref tp, .int (nI k), .int (nI w0)] (some (.int (g.2.2.2.2 ((g.1 - 1 - k) % 32) w0))) := by
  obtain ⟨rw, rr, rf, rx, htp, hA3, hrw, hA4, hrf, hrr, hin⟩ := hT
  refine mf_of (by decide) (Nat.le_of_ble_eq_true rfl) ?_
  intro p e s m below meth c ls C hH hr hlk hnm hmt hl hS
  have hl : lv_has ls 3 [(0, .ref tp), (1, .int (nI k)), (2, .int (nI w0))] := hl
  refine lv_aload_n C.x C.b md_T_read_0 rfl (lv_at hl 0 rfl) ?_
  refine mf_gf C (ci := 2) (N := 5) rfl mi_T 0 (by decide) mt_63 htp (v := .ref rw) rfl md_T_read_1 ?_
  refine lv_aload_n C.x C.b md_T_read_4 rfl (lv_at hl 0 rfl) ?_
  refine mf_gf C (ci := 2) (N := 5) rfl mi_T 1 (by decide) mt_64 htp (v := .int (nI g.1)) rfl md_T_read_5 ?_
  refine lv_iconst (v := 1) C.x C.b md_T_read_8 (by decide) ?_
  refine lv_isub C.x C.b md_T_read_9 ?_
  refine lv_iload_n C.x C.b md_T_read_10 rfl (lv_at hl 1 rfl) ?_
  refine lv_isub C.x C.b md_T_read_11 ?_
  rw [show nI g.1 - 1 - nI k = nI (g.1 - 1 - k) by rw [show nI g.1 - 1 = nI (g.1 - 1) from pk_sub (b := 1) (by omega), pk_sub (by omega)]]
  refine lv_bipush (v := 32) C.x C.b md_T_read_12 (by decide) ?_
  refine mf_cks (va_runS (As := [.int (nI (g.1 - 1 - k)), .int 32]) (rest := [.ref rw]) C.f (k_Ma_floorMod l D k5 t0 A H (g.1 - 1 - k) (by omega)) (mf_cS C mt_329 mt_327 mt_16 mt_328 mh_Ma_floorMod ⟨by decide, by decide⟩) (mf_preS C.ev hS) rfl rfl hl.1 rfl (lv_room (Nat.le_of_ble_eq_true rfl)) md_T_read_14 ⟨by omega, by omega⟩) ?_
  have hj : (g.1 - 1 - k) % 32 < 32 := Nat.mod_lt _ (by decide)
  refine mf_aaldA C (t := 1) rfl hrw hj (by decide) (hrf _ hj) md_T_read_17 ?_
  refine lv_iload_n C.x C.b md_T_read_18 rfl (lv_at hl 2 rfl) ?_
  refine mf_iald C (t := 2) rfl (hrr _ hj).1 hw (by decide) md_T_read_19 ?_
  rw [(hrr _ hj).2.2 w0 hw]
  exact mf_ri C.x C.b hH hr hlk md_T_read_20
set_option maxRecDepth 100000 in
set_option maxHeartbeats 4000000 in
theorem k_T_write (l : Launch) (D : va_G) (k5 : mf_k5) (t0 : Nat × Nat) (A : Nat → Prop) (H : Heap) (tp : Nat) (i k p0 n : Int32) (g : mf_G) (hT : mf_TP D k5 A H tp g) (hg : g.1 + 1 < 2 ^ 31) : mf_cWR l my_T_write mc_T_write 6 none { frames := 1, cells := 0, slots := 0, locals := 22 } D (mf_tys k5) t0 A H [.ref tp, .int i, .int k, .int p0, .int n] none (fun H1 => mf_TP D k5 A H1 tp (mf_write g i k p0 n)) (mf_fr A H [D.1 2, k5.2.2.1]) 0 0 := by
  obtain ⟨rw, rr, rf, rx, htp, hA3, hrw, hA4, hrf, hrr, hin⟩ := hT
  refine mf_of (by decide) (Nat.le_of_ble_eq_true rfl) ?_
  intro p e s m below meth c ls C hH hr hlk hnm hmt hl hS
  have hl : lv_has ls 6 [(0, .ref tp), (1, .int i), (2, .int k), (3, .int p0), (4, .int n)] := hl
  refine lv_aload_n C.x C.b md_T_write_0 rfl (lv_at hl 0 rfl) ?_
  refine mf_gf C (ci := 2) (N := 5) rfl mi_T 0 (by decide) mt_63 htp (v := .ref rw) rfl md_T_write_1 ?_
  refine lv_aload_n C.x C.b md_T_write_4 rfl (lv_at hl 0 rfl) ?_
  refine mf_gf C (ci := 2) (N := 5) rfl mi_T 1 (by decide) mt_64 htp (v := .int (nI g.1)) rfl md_T_write_5 ?_
  refine lv_bipush (v := 32) C.x C.b md_T_write_8 (by decide) ?_
  refine mf_cks (va_runS (As := [.int (nI g.1), .int 32]) (rest := [.ref rw]) C.f (k_Ma_floorMod l D k5 t0 A H g.1 (by omega)) (mf_cS C mt_329 mt_327 mt_16 mt_328 mh_Ma_floorMod ⟨by decide, by decide⟩) (mf_preS C.ev hS) rfl rfl hl.1 rfl (lv_room (Nat.le_of_ble_eq_true rfl)) md_T_write_10 ⟨by omega, by omega⟩) ?_
  have hj : g.1 % 32 < 32 := Nat.mod_lt _ (by decide)
  refine mf_aaldA C (t := 1) rfl hrw hj (by decide) (hrf _ hj) md_T_write_13 ?_
  obtain ⟨hrj, hAj, hxj⟩ := hrr _ hj
  generalize hrow : rr (g.1 % 32) = row at hrj hAj ⊢
  generalize hrxj : rx (g.1 % 32) = fx at hrj hxj
  obtain ⟨A1, hA1⟩ : ∃ A1 : Nat → Prop, A1 = fun q => q = tp ∨ q = row := ⟨_, rfl⟩
  have hne : tp ≠ row := mf_ne_c (mf_co_o htp) (mf_co_a hrj) (mf_nd C.nd (i := 2) (j := 7) rfl rfl (by decide))
  have hD : va_D A1 [(tp, .inr (2, [.ref rw, .int (nI g.1), .int g.2.1, .int g.2.2.1, .long g.2.2.2.1])), (row, .inl (k5.2.2.1, 4, .inl fx))] := mf_D2 hne (by rw [hA1]; exact Or.inl rfl) (by rw [hA1]; exact Or.inr rfl)
  have hP : va_P D mf_cl [(tp, .inr (2, [.ref rw, .int (nI g.1), .int g.2.1, .int g.2.2.1, .long g.2.2.2.1])), (row, .inl (k5.2.2.1, 4, .inl fx))] H := mf_two htp hrj
  have hS : va_S A1 s.heap H [] := by rw [hH]; exact va_S.rf
  refine lv_astore (lv' := [(5, .ref row), (0, .ref tp), (1, .int i), (2, .int k), (3, .int p0), (4, .int n)]) C.x C.b md_T_write_14 hl (by decide) rfl (fun ls hl => ?_)
  refine lv_aload C.x C.b md_T_write_16 (lv_at hl 0 rfl) ?_
  refine lv_iconst (v := 0) C.x C.b md_T_write_18 (by decide) ?_
  refine lv_iload_n C.x C.b md_T_write_19 rfl (lv_at hl 2 rfl) ?_
  refine va_iast C.x C.b C.k hP hD hS 1 2 rfl rfl (pk_in 0 4 (by decide)) md_T_write_20 (fun H locs hP hD hS => ?_)
  have hP : va_P D mf_cl [(tp, .inr (2, [.ref rw, .int (nI g.1), .int g.2.1, .int g.2.2.1, .long g.2.2.2.1])), (row, .inl (k5.2.2.1, 4, .inl (upd fx 0 i)))] H := hP
  have hD : va_D A1 [(tp, .inr (2, [.ref rw, .int (nI g.1), .int g.2.1, .int g.2.2.1, .long g.2.2.2.1])), (row, .inl (k5.2.2.1, 4, .inl (upd fx 0 i)))] := hD
  refine lv_aload C.x C.b md_T_write_21 (lv_at hl 0 rfl) ?_
  refine lv_iconst (v := 1) C.x C.b md_T_write_23 (by decide) ?_
  refine lv_iload_n C.x C.b md_T_write_24 rfl (lv_at hl 3 rfl) ?_
  refine va_iast C.x C.b C.k hP hD hS 1 2 rfl rfl (pk_in 1 4 (by decide)) md_T_write_25 (fun H locs hP hD hS => ?_)
  have hP : va_P D mf_cl [(tp, .inr (2, [.ref rw, .int (nI g.1), .int g.2.1, .int g.2.2.1, .long g.2.2.2.1])), (row, .inl (k5.2.2.1, 4, .inl (upd (upd fx 0 i) 1 k)))] H := hP
  have hD : va_D A1 [(tp, .inr (2, [.ref rw, .int (nI g.1), .int g.2.1, .int g.2.2.1, .long g.2.2.2.1])), (row, .inl (k5.2.2.1, 4, .inl (upd (upd fx 0 i) 1 k)))] := hD
  refine lv_aload C.x C.b md_T_write_26 (lv_at hl 0 rfl) ?_
  refine lv_iconst (v := 2) C.x C.b md_T_write_28 (by decide) ?_
  refine lv_iload_n C.x C.b md_T_write_29 rfl (lv_at hl 4 rfl) ?_
  refine va_iast C.x C.b C.k hP hD hS 1 2 rfl rfl (pk_in 2 4 (by decide)) md_T_write_30 (fun H locs hP hD hS => ?_)
  have hP : va_P D mf_cl [(tp, .inr (2, [.ref rw, .int (nI g.1), .int g.2.1, .int g.2.2.1, .long g.2.2.2.1])), (row, .inl (k5.2.2.1, 4, .inl (upd (upd (upd fx 0 i) 1 k) 2 p0)))] H := hP
  have hD : va_D A1 [(tp, .inr (2, [.ref rw, .int (nI g.1), .int g.2.1, .int g.2.2.1, .long g.2.2.2.1])), (row, .inl (k5.2.2.1, 4, .inl (upd (upd (upd fx 0 i) 1 k) 2 p0)))] := hD
  refine lv_aload C.x C.b md_T_write_31 (lv_at hl 0 rfl) ?_
  refine lv_iconst (v := 3) C.x C.b md_T_write_33 (by decide) ?_
  refine lv_iload C.x C.b md_T_write_34 (lv_at hl 5 rfl) ?_
  refine va_iast C.x C.b C.k hP hD hS 1 2 rfl rfl (pk_in 3 4 (by decide)) md_T_write_36 (fun H locs hP hD hS => ?_)
  have hP : va_P D mf_cl [(tp, .inr (2, [.ref rw, .int (nI g.1), .int g.2.1, .int g.2.2.1, .long g.2.2.2.1])), (row, .inl (k5.2.2.1, 4, .inl (upd (upd (upd (upd fx 0 i) 1 k) 2 p0) 3 n)))] H := hP
  have hD : va_D A1 [(tp, .inr (2, [.ref rw, .int (nI g.1), .int g.2.1, .int g.2.2.1, .long g.2.2.2.1])), (row, .inl (k5.2.2.1, 4, .inl (upd (upd (upd (upd fx 0 i) 1 k) 2 p0) 3 n)))] := hD
  refine lv_aload_n C.x C.b md_T_write_37 rfl (lv_at hl 1 rfl) ?_
  refine lv_dup C.x C.b md_T_write_38 rfl ?_
  refine mf_gf C (ci := 2) (N := 5) rfl mi_T 1 (by decide) mt_64 (hP 0 _ rfl) (v := .int (nI g.1)) rfl md_T_write_39 ?_
  refine lv_iconst (v := 1) C.x C.b md_T_write_42 (by decide) ?_
  refine lv_iadd C.x C.b md_T_write_43 ?_
  rw [nI_1]
  refine va_put (D := D) (ci := 2) (v := .int (nI (g.1 + 1))) (ty := .int) (C := mf_RT) (T := mf_TT) (N := 5) C.x C.b C.2.2.1 mi_T mf_tyT mp_T mn_T C.o C.k hP hD hS 0 rfl rfl 1 (by decide) (C.t mt_64) (fun _ h => h) rfl (by decide +kernel) rfl rfl (Nat.le_of_ble_eq_true rfl) md_T_write_44 (fun H locs hP hD hS => ?_)
  have hP : va_P D mf_cl [(tp, .inr (2, [.ref rw, .int (nI (g.1 + 1)), .int g.2.1, .int g.2.2.1, .long g.2.2.2.1])), (row, .inl (k5.2.2.1, 4, .inl (upd (upd (upd (upd fx 0 i) 1 k) 2 p0) 3 n)))] H := hP
  have hD : va_D A1 [(tp, .inr (2, [.ref rw, .int (nI (g.1 + 1)), .int g.2.1, .int g.2.2.1, .long g.2.2.2.1])), (row, .inl (k5.2.2.1, 4, .inl (upd (upd (upd (upd fx 0 i) 1 k) 2 p0) 3 n)))] := hD
  refine lv_aload_n C.x C.b md_T_write_47 rfl (lv_at hl 1 rfl) ?_
  refine lv_iload_n C.x C.b md_T_write_48 rfl (lv_at hl 4 rfl) ?_
  refine va_put (D := D) (ci := 2) (v := .int p0) (ty := .int) (C := mf_RT) (T := mf_TT) (N := 5) C.x C.b C.2.2.1 mi_T mf_tyT mp_T mn_T C.o C.k hP hD hS 0 rfl rfl 2 (by decide) (C.t mt_66) (fun _ h => h) rfl (by decide +kernel) rfl rfl (Nat.le_of_ble_eq_true rfl) md_T_write_49 (fun H locs hP hD hS => ?_)
  have hP : va_P D mf_cl [(tp, .inr (2, [.ref rw, .int (nI (g.1 + 1)), .int p0, .int g.2.2.1, .long g.2.2.2.1])), (row, .inl (k5.2.2.1, 4, .inl (upd (upd (upd (upd fx 0 i) 1 k) 2 p0) 3 n)))] H := hP
  have hD : va_D A1 [(tp, .inr (2, [.ref rw, .int (nI (g.1 + 1)), .int p0, .int g.2.2.1, .long g.2.2.2.1])), (row, .inl (k5.2.2.1, 4, .inl (upd (upd (upd (upd fx 0 i) 1 k) 2 p0) 3 n)))] := hD
  refine lv_aload_n C.x C.b md_T_write_52 rfl (lv_at hl 1 rfl) ?_
  refine lv_dup C.x C.b md_T_write_53 rfl ?_
  refine mf_gf C (ci := 2) (N := 5) rfl mi_T 3 (by decide) mt_68 (hP 0 _ rfl) (v := .int g.2.2.1) rfl md_T_write_54 ?_
  refine lv_iload C.x C.b md_T_write_57 (lv_at hl 5 rfl) ?_
  refine lv_iadd C.x C.b md_T_write_59 ?_
  refine va_put (D := D) (ci := 2) (v := .int (g.2.2.1 + n)) (ty := .int) (C := mf_RT) (T := mf_TT) (N := 5) C.x C.b C.2.2.1 mi_T mf_tyT mp_T mn_T C.o C.k hP hD hS 0 rfl rfl 3 (by decide) (C.t mt_68) (fun _ h => h) rfl (by decide +kernel) rfl rfl (Nat.le_of_ble_eq_true rfl) md_T_write_60 (fun H locs hP hD hS => ?_)
  have hP : va_P D mf_cl [(tp, .inr (2, [.ref rw, .int (nI (g.1 + 1)), .int p0, .int (g.2.2.1 + n), .long g.2.2.2.1])), (row, .inl (k5.2.2.1, 4, .inl (upd (upd (upd (upd fx 0 i) 1 k) 2 p0) 3 n)))] H := hP
  have hD : va_D A1 [(tp, .inr (2, [.ref rw, .int (nI (g.1 + 1)), .int p0, .int (g.2.2.1 + n), .long g.2.2.2.1])), (row, .inl (k5.2.2.1, 4, .inl (upd (upd (upd (upd fx 0 i) 1 k) 2 p0) 3 n)))] := hD
  refine lv_aload_n C.x C.b md_T_write_63 rfl (lv_at hl 1 rfl) ?_
  refine lv_dup C.x C.b md_T_write_64 rfl ?_
  refine mf_gf C (ci := 2) (N := 5) rfl mi_T 4 (by decide) mt_70 (hP 0 _ rfl) (v := .long g.2.2.2.1) rfl md_T_write_65 ?_
  refine lv_iload_n C.x C.b md_T_write_68 rfl (lv_at hl 4 rfl) ?_
  refine lv_i2l (v := p0.toInt64) C.x C.b md_T_write_69 rfl ?_
  refine lv_iload C.x C.b md_T_write_70 (lv_at hl 5 rfl) ?_
  refine lv_i2l (v := n.toInt64) C.x C.b md_T_write_72 rfl ?_
  refine lv_lmul C.x C.b md_T_write_73 ?_
  refine lv_ladd C.x C.b md_T_write_74 ?_
  refine va_put (D := D) (ci := 2) (v := .long (g.2.2.2.1 + (p0.toInt64 * n.toInt64))) (ty := .long) (C := mf_RT) (T := mf_TT) (N := 5) C.x C.b C.2.2.1 mi_T mf_tyT mp_T mn_T C.o C.k hP hD hS 0 rfl rfl 4 (by decide) (C.t mt_70) (fun _ h => h) rfl (by decide +kernel) rfl rfl (Nat.le_of_ble_eq_true rfl) md_T_write_75 (fun H locs hP hD hS => ?_)
  have hP : va_P D mf_cl [(tp, .inr (2, [.ref rw, .int (nI (g.1 + 1)), .int p0, .int (g.2.2.1 + n), .long (g.2.2.2.1 + p0.toInt64 * n.toInt64)])), (row, .inl (k5.2.2.1, 4, .inl (upd (upd (upd (upd fx 0 i) 1 k) 2 p0) 3 n)))] H := hP
  have hD : va_D A1 [(tp, .inr (2, [.ref rw, .int (nI (g.1 + 1)), .int p0, .int (g.2.2.1 + n), .long (g.2.2.2.1 + p0.toInt64 * n.toInt64)])), (row, .inl (k5.2.2.1, 4, .inl (upd (upd (upd (upd fx 0 i) 1 k) 2 p0) 3 n)))] := hD
  have hoff : ∀ q, q ≠ tp → q ≠ row → q < s.heap.size → H[q]? = s.heap[q]? := fun q h1 h2 h3 => hS.2.1 q h3 (by rw [hA1]; exact fun z => z.elim h1 h2)
  refine mf_wv C.x C.b hr hlk md_T_write_78 ⟨rw, rr, rf, fun j => if j = g.1 % 32 then (upd (upd (upd (upd fx 0 i) 1 k) 2 p0) 3 n) else rx j, hP 0 _ rfl, hA3, hrw.kept ?_, hA4, hrf, fun j hj2 => ?_, hin⟩ ?_ hH (fun q hq => ?_) (Nat.le_refl _) (Nat.le_refl _)
  · rw [hoff rw (mf_ne_c (mf_co_a hrw) (mf_co_o htp) (mf_nd C.nd (i := 6) (j := 2) rfl rfl (by decide))) (mf_ne_c (mf_co_a hrw) (mf_co_a hrj) (mf_nd C.nd (i := 6) (j := 7) rfl rfl (by decide))) (by rw [hH]; exact hrw.lt), hH]
  · by_cases hjj : j = g.1 % 32
    · subst hjj
      simp only [if_true]
      rw [hrow]
      refine ⟨hP 1 _ rfl, hAj, fun c hc => ?_⟩
      show _ = (mf_write g i k p0 n).2.2.2.2 _ c
      unfold mf_write
      simp only [if_true]
      match c, hc with
      | 0, _ => simp [upd]
      | 1, _ => simp [upd]
      | 2, _ => simp [upd]
      | 3, _ => simp [upd]
    · simp only [hjj, if_false]
      obtain ⟨g1, g2, g3⟩ := hrr j hj2
      refine ⟨g1.kept ?_, g2, fun c hc => ?_⟩
      · rw [hoff (rr j) (mf_ne_c (mf_co_a g1) (mf_co_o htp) (mf_nd C.nd (i := 7) (j := 2) rfl rfl (by decide))) (fun z => hjj (hin j _ hj2 hj (z.trans hrow.symm))) (by rw [hH]; exact g1.lt), hH]
      · rw [g3 c hc]
        show _ = (mf_write g i k p0 n).2.2.2.2 j c
        unfold mf_write
        simp only [hjj, if_false]
  · rw [← hH]
    refine ⟨hS.1, fun q h1 h2 => hoff q (fun z => h2 ?_) (fun z => h2 ?_) h1⟩
    · rw [z, hH]; exact mf_fr_c hA3 (mf_co_o htp) (by simp)
    · rw [z, hH]; exact mf_fr_c hAj (mf_co_a hrj) (by simp)
  · have h9 := hS.2.2 q hq
    rw [hA1] at h9
    rcases h9 with h9 | h9
    · rw [h9]; exact hA3
    · rw [h9]; exact hAj
end
section
/-! ArrayList: growing -/
set_option maxRecDepth 100000 in
set_option maxHeartbeats 4000000 in
theorem k_As_newLength (l : Launch) (D : va_G) (k5 : mf_k5) (t0 : Nat × Nat) (A : Nat → Prop) (H : Heap) (n : Nat) (h1 : 10 ≤ n) (h2 : n ≤ 40) : mf_cRO l my_As_newLength mc_As_newLength 4 (some .int) { frames := 1, cells := 0, slots := 0, locals := 40 } D (mf_tys k5) t0 A H [.int (nI n), .int 1, .int (nI (n / 2))] (some (.int (nI (n + n / 2)))) := by
  refine mf_of (by decide) (Nat.le_of_ble_eq_true rfl) ?_
  intro p e s m below meth c ls C hH hr hlk hnm hmt hl hS
  have hl : lv_has ls 4 [(0, .int (nI n)), (1, .int 1), (2, .int (nI (n / 2)))] := hl
  refine lv_iload_n C.x C.b md_As_newLength_0 rfl (lv_at hl 0 rfl) ?_
  refine lv_iload_n C.x C.b md_As_newLength_1 rfl (lv_at hl 1 rfl) ?_
  refine lv_iload_n C.x C.b md_As_newLength_2 rfl (lv_at hl 2 rfl) ?_
  refine va_mmax C.x C.b (C.2.2.2.2.2.trans hl.1.symm) C.o (C.t mt_349) (C.t mt_350) (C.t mt_16) (C.t mt_351) (Nat.le_of_ble_eq_true rfl) (Nat.le_of_ble_eq_true rfl) (Nat.le_of_ble_eq_true rfl) (Nat.le_of_ble_eq_true rfl) md_As_newLength_3 ?_
  rw [if_pos (show (1 : Int32) < nI (n / 2) from nI_lt (a := 1) (by omega) (by omega))]
  refine lv_iadd C.x C.b md_As_newLength_6 ?_
  rw [nI_add]
  refine lv_istore_n (lv' := [(3, .int (nI (n + n / 2))), (0, .int (nI n)), (1, .int 1), (2, .int (nI (n / 2)))]) C.x C.b md_As_newLength_7 rfl hl (by decide) rfl (fun ls hl => ?_)
  refine lv_iconst (v := 0) C.x C.b md_As_newLength_8 (by decide) ?_
  refine lv_iload_n C.x C.b md_As_newLength_9 rfl (lv_at hl 0 rfl) ?_
  refine lv_icmp_ge (tgt := 21) C.x C.b md_As_newLength_10 (by decide) (fun h1 => ?_) (fun h1 => ?_)
  · exact absurd h1 (nI_nle (by omega) (by omega))
  · skip
    refine lv_iload_n C.x C.b md_As_newLength_13 rfl (lv_at hl 0 rfl) ?_
    refine lv_ldc (v := 2147483639) C.x C.b C.o (C.t mt_352) md_As_newLength_14 ?_
    refine lv_icmp_gt (tgt := 21) C.x C.b md_As_newLength_16 (by decide) (fun h2 => ?_) (fun h2 => ?_)
    · exact absurd h2 (nI_nlt (a := 2147483639) (b := n + n / 2) (by omega) (by decide))
    · skip
      refine lv_iload_n C.x C.b md_As_newLength_19 rfl (lv_at hl 0 rfl) ?_
      exact mf_ri C.x C.b hH hr hlk md_As_newLength_20
set_option maxRecDepth 100000 in
set_option maxHeartbeats 4000000 in
theorem k_Ar_copyOf2 (l : Launch) (D : va_G) (k5 : mf_k5) (t0 : Nat × Nat) (A : Nat → Prop) (H : Heap) (ed n n2 : Nat) (f : Nat → Option Nat) (hed : va_at D mf_cl (ed, .inl (k5.1, n, .inr (.inr (.inr (.inr f))))) H) (hAe : A ed) (hn : n ≤ n2) (hn2 : n2 ≤ 60) (hel : ∀ j, j < n → ∃ y fs, f j = some y ∧ va_at D mf_cl (y, .inr (1, fs)) H) : mf_cRR l my_Ar_copyOf2 mc_Ar_copyOf2 4 (some (.array (.object "java/lang/Object"))) { frames := 1, cells := 1, slots := 60, locals := 60 } D (mf_tys k5) t0 A H [.ref ed, .int (nI n2), .ref t0.2]  (fun a H1 => ∃ f1, va_at D mf_cl (a, .inl (k5.1, n2, .inr (.inr (.inr (.inr f1))))) H1 ∧ A a ∧ H.size ≤ a ∧ ∀ j, j < n → f1 j = f j) (mf_fr A H []) 1 60 := by
  refine mf_of (by decide) (Nat.le_of_ble_eq_true rfl) ?_
  intro p e s m below meth c ls C hH hr hlk hnm hmt hl hS
  have hl : lv_has ls 4 [(0, .ref ed), (1, .int (nI n2)), (2, .ref t0.2)] := hl
  refine lv_aload_n C.x C.b md_Ar_copyOf2_0 rfl (lv_at hl 2 rfl) ?_
  refine va_ldcM (mi := t0.2) C.x C.b C.o (C.t mt_375) C.ev.2.1.2.2.2.2.2.2.2 md_Ar_copyOf2_1 ?_
  refine lv_acmp_ne (rx := some t0.2) (ry := some t0.2) (tgt := 13) C.x C.b md_Ar_copyOf2_3 (by decide) (fun h => absurd rfl h) (fun _ => ?_)
  refine lv_iload_n C.x C.b md_Ar_copyOf2_6 rfl (lv_at hl 1 rfl) ?_
  obtain ⟨A1, hA1⟩ : ∃ A1 : Nat → Prop, A1 = fun q => q = ed ∨ H.size ≤ q := ⟨_, rfl⟩
  have hD : va_D A1 [(ed, .inl (k5.1, n, .inr (.inr (.inr (.inr f)))))] := mf_D1 (by rw [hA1]; exact Or.inl rfl)
  have hP : va_P D mf_cl [(ed, .inl (k5.1, n, .inr (.inr (.inr (.inr f)))))] H := mf_one hed
  have hS : va_S A1 s.heap H [] := by rw [hH]; exact va_S.rf
  have hA : ∀ q, s.heap.size ≤ q → A1 q := fun q hq => by rw [hA1]; exact Or.inr (by rw [← hH]; exact hq)
  obtain ⟨H0, e0⟩ : ∃ H0, H0 = H := ⟨_, rfl⟩
  rw [← e0] at hed hel
  refine va_newq C.x C.b C.o (C.t mt_377) C.ev.2.1.2.2.2.1 C.k hP hD hS hA (nI_pos (by omega)) (nI_clamp (by omega)) (by omega) (by decide) (by show 0 + n2 ≤ 60; omega) md_Ar_copyOf2_7 (fun q cA H hK hP hD hS => ?_)
  obtain rfl : cA = k5.1 := Option.some.inj ((va_nmO (hK.2 5 _ rfl).2 rfl).symm.trans (va_nmO (C.k.2 0 _ rfl).2 rfl))
  have hP : va_P D mf_cl [(ed, .inl (k5.1, n, .inr (.inr (.inr (.inr f))))), (q, .inl (k5.1, n2, .inr (.inr (.inr (.inr (fun _ => none))))))] H := hP
  have hD : va_D A1 [(ed, .inl (k5.1, n, .inr (.inr (.inr (.inr f))))), (q, .inl (k5.1, n2, .inr (.inr (.inr (.inr (fun _ => none))))))] := hD
  refine W.widen (k := 1) (n := 60) (by omega) (by omega) ?_
  refine lv_goto (tgt := 24) C.x C.b md_Ar_copyOf2_10 (by decide) ?_
  refine lv_astore_n (lv' := [(3, .ref q), (0, .ref ed), (1, .int (nI n2)), (2, .ref t0.2)]) C.x C.b md_Ar_copyOf2_24 rfl hl (by decide) rfl (fun ls hl => ?_)
  refine lv_aload_n C.x C.b md_Ar_copyOf2_25 rfl (lv_at hl 1 rfl) ?_
  refine lv_iconst (v := 0) C.x C.b md_Ar_copyOf2_26 (by decide) ?_
  refine lv_aload_n C.x C.b md_Ar_copyOf2_27 rfl (lv_at hl 0 rfl) ?_
  refine lv_iconst (v := 0) C.x C.b md_Ar_copyOf2_28 (by decide) ?_
  refine lv_aload_n C.x C.b md_Ar_copyOf2_29 rfl (lv_at hl 1 rfl) ?_
  refine va_alen C.x C.b C.k hP 0 0 rfl rfl (v := nI n) rfl md_Ar_copyOf2_30 ?_
  refine lv_iload_n C.x C.b md_Ar_copyOf2_31 rfl (lv_at hl 2 rfl) ?_
  refine va_mmin C.x C.b (C.2.2.2.2.2.trans hl.1.symm) C.o (C.t mt_378) (C.t mt_321) (C.t mt_16) (C.t mt_322) (Nat.le_of_ble_eq_true rfl) (Nat.le_of_ble_eq_true rfl) (Nat.le_of_ble_eq_true rfl) (Nat.le_of_ble_eq_true rfl) md_Ar_copyOf2_32 ?_
  rw [if_neg (nI_nlt (by omega) (by omega))]
  have hel2 : ∀ j, j < n → ∃ y fs, f j = some y ∧ va_at D mf_cl (y, .inr (1, fs)) H := by
    intro j hj
    obtain ⟨y, fs, e1, e2⟩ := hel j hj
    refine ⟨y, fs, e1, e2.kept ?_⟩
    rw [hS.2.1 y (by rw [hH, ← e0]; exact e2.lt) ?_, hH, e0]
    rw [hA1]
    rintro (z | z)
    · exact mf_ne_c (mf_co_o e2) (mf_co_a hed) (mf_nd C.nd (i := 1) (j := 5) rfl rfl (by decide)) z
    · have := e2.lt; rw [e0] at this; omega
  refine va_copyq (C := "MatchFloor$Order") C.x C.b (C.2.2.2.2.2.trans hl.1.symm) C.o (C.t mt_379) (C.t mt_319) (C.t mt_318) (C.t mt_15) C.k hP hD hS 0 1 0 0 rfl rfl rfl rfl (by decide) (by decide) (nI_pos (by omega)) (by rw [nI_clamp (by omega)]; show 0 + n ≤ n; omega) (by rw [nI_clamp (by omega)]; show 0 + n ≤ n2; omega) (fun j hj y hy => ?_) (vb_asgC C.ev.2.1.2.2.1) (Nat.le_of_ble_eq_true rfl) (Nat.le_of_ble_eq_true rfl) md_Ar_copyOf2_35 (fun H locs hP hD hS => ?_)
  · rw [nI_clamp (by omega)] at hj
    obtain ⟨y2, fs, e1, e2⟩ := hel2 j hj
    have hy : f (0 + j) = some y := hy
    rw [Nat.zero_add] at hy
    cases hy.symm.trans e1
    exact mf_rv C (ci := 1) (N := 6) rfl e2
  rw [nI_clamp (by omega)] at hP hD
  have hP : va_P D mf_cl [(ed, .inl (k5.1, n, .inr (.inr (.inr (.inr f))))), (q, .inl (k5.1, n2, .inr (.inr (.inr (.inr (va_cpy f (fun _ => none) 0 0 n))))))] H := hP
  refine lv_aload_n C.x C.b md_Ar_copyOf2_38 rfl (lv_at hl 0 rfl) ?_
  have hqn : s.heap.size ≤ q := by
    have h9 := hD.2 1 _ rfl
    rw [hA1] at h9
    rcases h9 with h9 | h9
    · have h8 := hD.1 0 1 _ _ rfl rfl h9.symm; cases h8
    · rw [hH]; exact h9
  refine mf_wr C.x C.b hr (Or.inr ⟨_, rfl⟩) hlk md_Ar_copyOf2_39 ⟨va_cpy f (fun _ => none) 0 0 n, hP 1 _ rfl, C.aa q hqn, by rw [← hH]; exact hqn, fun j hj => by rw [pk_cpy_in (Nat.zero_le _) (by omega)]; congr 1; omega⟩ ?_ hH (fun z hz => ?_) (Nat.le_refl _) (Nat.le_refl _)
  · rw [← hH]
    refine ⟨hS.1, fun z h1 h2 => ?_⟩
    by_cases hz : z = ed
    · rw [hz, show H[ed]? = some _ from hP 0 _ rfl, hH, ← e0]; exact hed.symm
    · exact hS.2.1 z h1 (by rw [hA1]; exact fun v => v.elim hz (fun y => by rw [← hH] at y; omega))
  · have h9 := hS.2.2 z hz
    rw [hA1] at h9
    rcases h9 with h9 | h9
    · rw [h9]; exact hAe
    · exact C.aa _ (by rw [hH]; exact h9)
set_option maxRecDepth 100000 in
set_option maxHeartbeats 4000000 in
theorem k_Ar_copyOf (l : Launch) (D : va_G) (k5 : mf_k5) (t0 : Nat × Nat) (A : Nat → Prop) (H : Heap) (ed n n2 : Nat) (f : Nat → Option Nat) (hed : va_at D mf_cl (ed, .inl (k5.1, n, .inr (.inr (.inr (.inr f))))) H) (hAe : A ed) (hn : n ≤ n2) (hn2 : n2 ≤ 60) (hel : ∀ j, j < n → ∃ y fs, f j = some y ∧ va_at D mf_cl (y, .inr (1, fs)) H) : mf_cRR l my_Ar_copyOf mc_Ar_copyOf 2 (some (.array (.object "java/lang/Object"))) { frames := 2, cells := 1, slots := 60, locals := 83 } D (mf_tys k5) t0 A H [.ref ed, .int (nI n2)]  (fun a H1 => ∃ f1, va_at D mf_cl (a, .inl (k5.1, n2, .inr (.inr (.inr (.inr f1))))) H1 ∧ A a ∧ H.size ≤ a ∧ ∀ j, j < n → f1 j = f j) (mf_fr A H []) 1 60 := by
  refine mf_of (by decide) (Nat.le_of_ble_eq_true rfl) ?_
  intro p e s m below meth c ls C hH hr hlk hnm hmt hl hS
  have hl : lv_has ls 2 [(0, .ref ed), (1, .int (nI n2))] := hl
  refine lv_aload_n C.x C.b md_Ar_copyOf_0 rfl (lv_at hl 0 rfl) ?_
  refine lv_iload_n C.x C.b md_Ar_copyOf_1 rfl (lv_at hl 1 rfl) ?_
  refine lv_aload_n C.x C.b md_Ar_copyOf_2 rfl (lv_at hl 0 rfl) ?_
  refine va_getC (C := "[Ljava/lang/Object;") (mi := t0.2) C.x C.b (C.2.2.2.2.2.trans hl.1.symm) C.o (C.t mt_359) C.ev.2.1.2.2.2.2.2.1 (C.t mt_713) (C.t mt_360) (C.t mt_371) C.ev.2.1.2.2.2.2.2.2.2 ⟨_, hed, rfl, va_nmO (C.k.2 0 _ rfl).2 rfl⟩ (Nat.le_of_ble_eq_true rfl) (Nat.le_of_ble_eq_true rfl) md_Ar_copyOf_3 ?_
  refine mf_cwr (va_runS (As := [.ref ed, .int (nI n2), .ref t0.2]) (rest := []) C.f (k_Ar_copyOf2 l D k5 t0 A H ed n n2 f hed hAe hn hn2 hel) (mf_cS C mt_374 mt_372 mt_18 mt_373 mh_Ar_copyOf2 ⟨by decide, by decide⟩) (mf_preS C.ev hS) rfl rfl hl.1 rfl (lv_room (Nat.le_of_ble_eq_true rfl)) md_Ar_copyOf_6 ⟨by first | omega | exact Nat.le_of_ble_eq_true rfl, by first | omega | exact Nat.le_of_ble_eq_true rfl⟩) hS (fun _ _ h => h.1) (fun q H locs hB hz hk hS => ?_)
  exact mf_wr C.x C.b hr (Or.inr ⟨_, rfl⟩) hlk md_Ar_copyOf_9 hB ⟨hz, hk⟩ hH hS.2.2 (Nat.le_refl _) (Nat.le_refl _)
set_option maxRecDepth 100000 in
set_option maxHeartbeats 4000000 in
theorem k_A_grow1_E (l : Launch) (D : va_G) (k5 : mf_k5) (t0 : Nat × Nat) (A : Nat → Prop) (H : Heap) (al : Nat) (mc : Int32) (f : Nat → Option Nat) (hal : va_at D mf_cl (al, .inr (0, [.ref t0.1, .int (nI 0), .int mc])) H) (hAa : A al) : mf_cRR l my_A_grow1 mc_A_grow1 4 (some (.array (.object "java/lang/Object"))) { frames := 3, cells := 1, slots := 60, locals := 104 } D (mf_tys k5) t0 A H [.ref al, .int (nI (0 + 1))]  (fun a H1 => ∃ cap f1, va_at D mf_cl (al, .inr (0, [.ref a, .int (nI 0), .int mc])) H1 ∧ va_at D mf_cl (a, .inl (k5.1, cap, .inr (.inr (.inr (.inr f1))))) H1 ∧ A a ∧ H.size ≤ a ∧ 0 < cap ∧ 10 ≤ cap ∧ cap ≤ 60 ∧ ∀ j, j < 0 → f1 j = f j) (mf_fr A H [D.1 0]) 1 60 := by
  refine mf_of (by decide) (Nat.le_of_ble_eq_true rfl) ?_
  intro p e s m below meth c ls C hH hr hlk hnm hmt hl hS
  have hl : lv_has ls 4 [(0, .ref al), (1, .int (nI (0 + 1)))] := hl
  refine lv_aload_n C.x C.b md_A_grow1_0 rfl (lv_at hl 0 rfl) ?_
  refine mf_gf C (ci := 0) (N := 3) rfl mi_A 0 (by decide) mt_43 hal (v := .ref t0.1) rfl md_A_grow1_1 ?_
  refine va_tlen C.x C.b C.ev.2.2.1.2.2.2 hS (v := 0) rfl md_A_grow1_4 ?_
  refine lv_istore_n (lv' := [(2, .int 0), (0, .ref al), (1, .int (nI (0 + 1)))]) C.x C.b md_A_grow1_5 rfl hl (by decide) rfl (fun ls hl => ?_)
  refine lv_iload_n C.x C.b md_A_grow1_6 rfl (lv_at hl 0 rfl) ?_
  refine lv_if_gt (tgt := 20) C.x C.b md_A_grow1_7 (by decide) (fun h1 => ?_) (fun h1 => ?_)
  · exact absurd h1 (by decide)
  · skip
    refine lv_aload_n C.x C.b md_A_grow1_10 rfl (lv_at hl 1 rfl) ?_
    refine mf_gf C (ci := 0) (N := 3) rfl mi_A 0 (by decide) mt_43 hal (v := .ref t0.1) rfl md_A_grow1_11 ?_
    refine va_gets C.x C.b C.ev.2.2.1.2.2.1 hS C.o (C.t mt_41) (fun _ h => h) md_A_grow1_14 ?_
    refine lv_acmp_eq (rx := some t0.1) (ry := some t0.1) (tgt := 45) C.x C.b md_A_grow1_17 (by decide) (fun _ => ?_) (fun h => absurd rfl h)
    refine lv_aload_n C.x C.b md_A_grow1_45 rfl (lv_at hl 1 rfl) ?_
    refine lv_bipush (v := 10) C.x C.b md_A_grow1_46 (by decide) ?_
    refine lv_iload_n C.x C.b md_A_grow1_48 rfl (lv_at hl 2 rfl) ?_
    refine va_mmax C.x C.b (C.2.2.2.2.2.trans hl.1.symm) C.o (C.t mt_380) (C.t mt_350) (C.t mt_16) (C.t mt_351) (Nat.le_of_ble_eq_true rfl) (Nat.le_of_ble_eq_true rfl) (Nat.le_of_ble_eq_true rfl) (Nat.le_of_ble_eq_true rfl) md_A_grow1_49 ?_
    rw [if_neg (by decide)]
    obtain ⟨A1, hA1⟩ : ∃ A1 : Nat → Prop, A1 = fun q => q = al ∨ H.size ≤ q := ⟨_, rfl⟩
    have hup : ∀ q, A1 q → mf_fr A H [D.1 0] q := by
      intro q h9
      rw [hA1] at h9
      rcases h9 with h9 | h9
      · rw [h9]; exact mf_fr_c hAa (mf_co_o hal) (by simp)
      · exact ⟨C.aa q (by rw [hH]; exact h9), Or.inl h9⟩
    have hD : va_D A1 [(al, .inr (0, [.ref t0.1, .int (nI 0), .int mc]))] := mf_D1 (by rw [hA1]; exact Or.inl rfl)
    have hP : va_P D mf_cl [(al, .inr (0, [.ref t0.1, .int (nI 0), .int mc]))] H := mf_one hal
    have hS : va_S A1 s.heap H [] := by rw [hH]; exact va_S.rf
    have hA : ∀ q, s.heap.size ≤ q → A1 q := fun q hq => by rw [hA1]; exact Or.inr (by rw [← hH]; exact hq)
    refine va_newq C.x C.b C.o (C.t mt_381) C.ev.2.1.2.2.2.1 C.k hP hD hS hA (n := 10) (N' := 10) (by decide) (by decide) (by decide) (by decide) (by decide) md_A_grow1_52 (fun q cA H hK hP hD hS => ?_)
    obtain rfl : cA = k5.1 := Option.some.inj ((va_nmO (hK.2 5 _ rfl).2 rfl).symm.trans (va_nmO (C.k.2 0 _ rfl).2 rfl))
    have hP : va_P D mf_cl [(al, .inr (0, [.ref t0.1, .int (nI 0), .int mc])), (q, .inl (k5.1, 10, .inr (.inr (.inr (.inr (fun _ => none))))))] H := hP
    have hD : va_D A1 [(al, .inr (0, [.ref t0.1, .int (nI 0), .int mc])), (q, .inl (k5.1, 10, .inr (.inr (.inr (.inr (fun _ => none))))))] := hD
    refine lv_dup_x1 C.x C.b md_A_grow1_55 rfl rfl ?_
    refine va_put (D := D) (ci := 0) (v := .ref q) (ty := .array (.object "java/lang/Object")) (C := mf_RA) (T := mf_TA) (N := 3) C.x C.b C.2.2.1 mi_A mf_tyA mp_A mn_A C.o C.k hP hD hS 0 rfl rfl 0 (by decide) (C.t mt_43) (fun _ h => h) rfl (by decide +kernel) rfl rfl (Nat.le_of_ble_eq_true rfl) md_A_grow1_56 (fun H locs hP hD hS => ?_)
    have hP : va_P D mf_cl [(al, .inr (0, [.ref q, .int (nI 0), .int mc])), (q, .inl (k5.1, 10, .inr (.inr (.inr (.inr (fun _ => none))))))] H := hP
    have hD : va_D A1 [(al, .inr (0, [.ref q, .int (nI 0), .int mc])), (q, .inl (k5.1, 10, .inr (.inr (.inr (.inr (fun _ => none))))))] := hD
    have hqn : s.heap.size ≤ q := by
      have h9 := hD.2 1 _ rfl
      rw [hA1] at h9
      rcases h9 with h9 | h9
      · have h8 := hD.1 0 1 _ _ rfl rfl h9.symm; cases h8
      · rw [hH]; exact h9
    refine mf_wr C.x C.b hr (Or.inr ⟨_, rfl⟩) hlk md_A_grow1_59 ⟨10, fun _ => none, hP 0 _ rfl, hP 1 _ rfl, C.aa q hqn, by rw [← hH]; exact hqn, by decide, by decide, by decide, fun j hj => absurd hj (Nat.not_lt_zero _)⟩ ?_ hH (fun z hz => ?_) (by decide) (by decide)
    · rw [← hH]
      exact ⟨hS.1, fun z h1 h2 => hS.2.1 z h1 (fun v => h2 (by rw [hH]; exact hup z v))⟩
    · exact (hup _ (hS.2.2 z hz)).1
set_option maxRecDepth 100000 in
set_option maxHeartbeats 4000000 in
theorem k_A_grow1_F (l : Launch) (D : va_G) (k5 : mf_k5) (t0 : Nat × Nat) (A : Nat → Prop) (H : Heap) (al ed n : Nat) (mc : Int32) (f : Nat → Option Nat) (hal : va_at D mf_cl (al, .inr (0, [.ref ed, .int (nI n), .int mc])) H) (hAa : A al) (hed : va_at D mf_cl (ed, .inl (k5.1, n, .inr (.inr (.inr (.inr f))))) H) (hAe : A ed) (h10 : 10 ≤ n) (h39 : n ≤ 40) (hel : ∀ j, j < n → ∃ y fs, f j = some y ∧ va_at D mf_cl (y, .inr (1, fs)) H) : mf_cRR l my_A_grow1 mc_A_grow1 4 (some (.array (.object "java/lang/Object"))) { frames := 3, cells := 1, slots := 60, locals := 104 } D (mf_tys k5) t0 A H [.ref al, .int (nI (n + 1))]  (fun a H1 => ∃ cap f1, va_at D mf_cl (al, .inr (0, [.ref a, .int (nI n), .int mc])) H1 ∧ va_at D mf_cl (a, .inl (k5.1, cap, .inr (.inr (.inr (.inr f1))))) H1 ∧ A a ∧ H.size ≤ a ∧ n < cap ∧ 10 ≤ cap ∧ cap ≤ 60 ∧ ∀ j, j < n → f1 j = f j) (mf_fr A H [D.1 0]) 1 60 := by
  refine mf_of (by decide) (Nat.le_of_ble_eq_true rfl) ?_
  intro p e s m below meth c ls C hH hr hlk hnm hmt hl hS
  have hl : lv_has ls 4 [(0, .ref al), (1, .int (nI (n + 1)))] := hl
  refine lv_aload_n C.x C.b md_A_grow1_0 rfl (lv_at hl 0 rfl) ?_
  refine mf_gf C (ci := 0) (N := 3) rfl mi_A 0 (by decide) mt_43 hal (v := .ref ed) rfl md_A_grow1_1 ?_
  refine va_alen C.x C.b C.k (mf_one hed) 0 0 rfl rfl (v := nI n) rfl md_A_grow1_4 ?_
  refine lv_istore_n (lv' := [(2, .int (nI n)), (0, .ref al), (1, .int (nI (n + 1)))]) C.x C.b md_A_grow1_5 rfl hl (by decide) rfl (fun ls hl => ?_)
  refine lv_iload_n C.x C.b md_A_grow1_6 rfl (lv_at hl 0 rfl) ?_
  refine lv_if_gt (tgt := 20) C.x C.b md_A_grow1_7 (by decide) (fun h1 => ?_) (fun h1 => ?_)
  · skip
    refine lv_iload_n C.x C.b md_A_grow1_20 rfl (lv_at hl 0 rfl) ?_
    refine lv_iload_n C.x C.b md_A_grow1_21 rfl (lv_at hl 2 rfl) ?_
    refine lv_iload_n C.x C.b md_A_grow1_22 rfl (lv_at hl 0 rfl) ?_
    refine lv_isub C.x C.b md_A_grow1_23 ?_
    rw [show nI (n + 1) - nI n = 1 by rw [pk_sub (by omega), show n + 1 - n = 1 by omega]; rfl]
    refine lv_iload_n C.x C.b md_A_grow1_24 rfl (lv_at hl 0 rfl) ?_
    refine lv_iconst (v := 1) C.x C.b md_A_grow1_25 (by decide) ?_
    refine lv_ishr C.x C.b md_A_grow1_26 ?_
    rw [show nI n >>> ((1 : Int32) &&& 31) = nI (n / 2) from pk_shrN (by omega) _ 1 (by decide)]
    refine mf_cks (va_runS (As := [.int (nI n), .int 1, .int (nI (n / 2))]) (rest := []) C.f (k_As_newLength l D k5 t0 A H n h10 h39) (mf_cS C mt_348 mt_346 mt_17 mt_347 mh_As_newLength ⟨by decide, by decide⟩) (mf_preS C.ev hS) rfl rfl hl.1 rfl (lv_room (Nat.le_of_ble_eq_true rfl)) md_A_grow1_27 ⟨by first | omega | exact Nat.le_of_ble_eq_true rfl, by first | omega | exact Nat.le_of_ble_eq_true rfl⟩) ?_
    refine lv_istore_n (lv' := [(3, .int (nI (n + n / 2))), (2, .int (nI n)), (0, .ref al), (1, .int (nI (n + 1)))]) C.x C.b md_A_grow1_30 rfl hl (by decide) rfl (fun ls hl => ?_)
    refine lv_aload_n C.x C.b md_A_grow1_31 rfl (lv_at hl 2 rfl) ?_
    refine lv_aload_n C.x C.b md_A_grow1_32 rfl (lv_at hl 2 rfl) ?_
    refine mf_gf C (ci := 0) (N := 3) rfl mi_A 0 (by decide) mt_43 hal (v := .ref ed) rfl md_A_grow1_33 ?_
    refine lv_iload_n C.x C.b md_A_grow1_36 rfl (lv_at hl 0 rfl) ?_
    refine mf_cwr (va_runS (As := [.ref ed, .int (nI (n + n / 2))]) (rest := [.ref al]) C.f (k_Ar_copyOf l D k5 t0 A H ed n (n + n / 2) f hed hAe (by omega) (by omega) hel) (mf_cS C mt_358 mt_356 mt_18 mt_357 mh_Ar_copyOf ⟨by decide, by decide⟩) (mf_preS C.ev hS) rfl rfl hl.1 rfl (lv_room (Nat.le_of_ble_eq_true rfl)) md_A_grow1_37 ⟨by first | omega | exact Nat.le_of_ble_eq_true rfl, by first | omega | exact Nat.le_of_ble_eq_true rfl⟩) hS (fun _ _ h => h.1) (fun q H locs hB hz hk hS => ?_)
    obtain ⟨f1, hq1, hAq, hqn, hf1⟩ := hB
    have hE1 : mf_Eq A [] _ H := ⟨hz, hk⟩
    have hal1 := hE1.ko hal (by simp)
    refine lv_dup_x1 C.x C.b md_A_grow1_40 rfl rfl ?_
    refine mf_pf C (ci := 0) (N := 3) rfl mi_A mp_A mn_A 0 (by decide) mt_43 rfl (v := .ref q) rfl rfl hal1 (Nat.le_of_ble_eq_true rfl) (fs' := [.ref q, .int (nI n), .int mc]) rfl hS hAa md_A_grow1_41 (fun H2 locs hal2 hz2 ho2 hS => ?_)
    have hE2 : mf_Eq A [D.1 0] H H2 := mf_Eq.one hz2 ho2 hAa (mf_co_o hal1)
    refine mf_wr C.x C.b hr (Or.inr ⟨_, rfl⟩) hlk md_A_grow1_44 ⟨n + n / 2, f1, hal2, hE2.ka hq1 (by simp [mf_nd C.nd (i := 5) (j := 0) rfl rfl (by decide)]), hAq, hqn, by omega, by omega, by omega, hf1⟩ (hE1.tr hE2 (by simp) (by simp)) hH hS.2.2 (Nat.le_refl _) (Nat.le_refl _)
  · exact absurd (nI_lt (a := 0) (by omega) (by omega)) h1
set_option maxRecDepth 100000 in
theorem k_A_grow1 (l : Launch) (D : va_G) (k5 : mf_k5) (t0 : Nat × Nat) (A : Nat → Prop) (H : Heap) (al ed n : Nat) (mc : Int32) (f : Nat → Option Nat) (hal : va_at D mf_cl (al, .inr (0, [.ref ed, .int (nI n), .int mc])) H) (hAa : A al) (hor : (n = 0 ∧ ed = t0.1) ∨ (va_at D mf_cl (ed, .inl (k5.1, n, .inr (.inr (.inr (.inr f))))) H ∧ A ed ∧ 10 ≤ n ∧ n ≤ 40 ∧ ∀ j, j < n → ∃ y fs, f j = some y ∧ va_at D mf_cl (y, .inr (1, fs)) H)) : mf_cRR l my_A_grow1 mc_A_grow1 4 (some (.array (.object "java/lang/Object"))) { frames := 3, cells := 1, slots := 60, locals := 104 } D (mf_tys k5) t0 A H [.ref al, .int (nI (n + 1))] (fun a H1 => ∃ cap f1, va_at D mf_cl (al, .inr (0, [.ref a, .int (nI n), .int mc])) H1 ∧ va_at D mf_cl (a, .inl (k5.1, cap, .inr (.inr (.inr (.inr f1))))) H1 ∧ A a ∧ H.size ≤ a ∧ n < cap ∧ 10 ≤ cap ∧ cap ≤ 60 ∧ ∀ j, j < n → f1 j = f j) (mf_fr A H [D.1 0]) 1 60 := by
  rcases hor with ⟨rfl, rfl⟩ | ⟨h1, h2, h3, h4, h5⟩
  · exact k_A_grow1_E l D k5 t0 A H al mc f hal hAa
  · exact k_A_grow1_F l D k5 t0 A H al ed n mc f hal hAa h1 h2 h3 h4 h5
set_option maxRecDepth 100000 in
set_option maxHeartbeats 4000000 in
theorem k_A_grow (l : Launch) (D : va_G) (k5 : mf_k5) (t0 : Nat × Nat) (A : Nat → Prop) (H : Heap) (al ed n : Nat) (mc : Int32) (f : Nat → Option Nat) (hal : va_at D mf_cl (al, .inr (0, [.ref ed, .int (nI n), .int mc])) H) (hAa : A al) (hor : (n = 0 ∧ ed = t0.1) ∨ (va_at D mf_cl (ed, .inl (k5.1, n, .inr (.inr (.inr (.inr f))))) H ∧ A ed ∧ 10 ≤ n ∧ n ≤ 40 ∧ ∀ j, j < n → ∃ y fs, f j = some y ∧ va_at D mf_cl (y, .inr (1, fs)) H)) : mf_cRR l my_A_grow mc_A_grow 1 (some (.array (.object "java/lang/Object"))) { frames := 4, cells := 1, slots := 60, locals := 127 } D (mf_tys k5) t0 A H [.ref al]  (fun a H1 => ∃ cap f1, va_at D mf_cl (al, .inr (0, [.ref a, .int (nI n), .int mc])) H1 ∧ va_at D mf_cl (a, .inl (k5.1, cap, .inr (.inr (.inr (.inr f1))))) H1 ∧ A a ∧ H.size ≤ a ∧ n < cap ∧ 10 ≤ cap ∧ cap ≤ 60 ∧ ∀ j, j < n → f1 j = f j) (mf_fr A H [D.1 0]) 1 60 := by
  refine mf_of (by decide) (Nat.le_of_ble_eq_true rfl) ?_
  intro p e s m below meth c ls C hH hr hlk hnm hmt hl hS
  have hl : lv_has ls 1 [(0, .ref al)] := hl
  refine lv_aload_n C.x C.b md_A_grow_0 rfl (lv_at hl 0 rfl) ?_
  refine lv_aload_n C.x C.b md_A_grow_1 rfl (lv_at hl 0 rfl) ?_
  refine mf_gf C (ci := 0) (N := 3) rfl mi_A 1 (by decide) mt_44 hal (v := .int (nI n)) rfl md_A_grow_2 ?_
  refine lv_iconst (v := 1) C.x C.b md_A_grow_5 (by decide) ?_
  refine lv_iadd C.x C.b md_A_grow_6 ?_
  rw [nI_1]
  refine mf_cwr (va_runV (As := [.int (nI (n + 1))]) (rest := []) C.f (k_A_grow1 l D k5 t0 A H al ed n mc f hal hAa hor) (mf_cV C mt_345 mt_342 mt_4 mt_344 ms_14 mh_A_grow1 ⟨by decide, by decide⟩) (mf_preV C.ev hS (mf_rv C (ci := 0) (N := 3) rfl hal)) rfl rfl hl.1 rfl (lv_room (Nat.le_of_ble_eq_true rfl)) md_A_grow_7 ⟨by first | omega | exact Nat.le_of_ble_eq_true rfl, by first | omega | exact Nat.le_of_ble_eq_true rfl⟩) hS (fun _ _ h => h.1) (fun q H locs hB hz hk hS => ?_)
  exact mf_wr C.x C.b hr (Or.inr ⟨_, rfl⟩) hlk md_A_grow_10 hB ⟨hz, hk⟩ hH hS.2.2 (Nat.le_refl _) (Nat.le_refl _)
end
section
/-! ArrayList: adding -/
section MFA
variable {p : Program} {l : Launch} {e : Env} {R : Room} {s : State} {m : MethodId} {args : Array Value} {below : List Frame} {meth : Method} {c : Code} {H : Heap} {locs : List Loc} {cells slots : Nat} {Q : State → Prop}
variable {cc : ByteArray} {nL pc : Nat} {ls : Array Slot} {rest : List Value} {D : va_G} {t0 : Nat × Nat} {A : Nat → Prop} {a : Nat} {tys : List (ClassId × FieldType)} {own : String}
/-- aastore of an object, the other cells as they were -/
theorem mf_aast (C : mf_Cx p s m args c own cc nL D tys t0 A) {cA : ClassId} {E1 C1 : String} {t n i v : Nat} {f : Nat → Option Nat} (ht : tys[t]? = some (cA, .object E1)) (hat : va_at D mf_cl (a, .inl (cA, n, .inr (.inr (.inr (.inr f))))) H) (hi : i < n) (hn : n < 2 ^ 31) (hr : ∃ cellV : Cell, H[v]? = some cellV ∧ cellV.vm.isStatics = false ∧ s.vm.findClass C1 = some cellV.cls) (hasg : ∀ comp c0 : ClassId, s.vm.findClass E1 = some comp → s.vm.findClass C1 = some c0 → s.vm.assignable c0 comp = true) (hS : va_S A s.heap H locs) (ha : A a) (hdg : decode cc pc = .ok (.aastore, 1))
    (kk : ∀ (H1 : Heap) (locs1 : List Loc), va_at D mf_cl (a, .inl (cA, n, .inr (.inr (.inr (.inr (va_up f i (some v))))))) H1 → mf_Eq A [cA] H H1 → va_S A s.heap H1 locs1 → W p l e R s m args below meth c H1 locs1 cells slots Q (F0 m (pc + 1) ls rest)) : W p l e R s m args below meth c H locs cells slots Q (F0 m pc ls (.ref v :: .int (nI i) :: .ref a :: rest)) := by
  obtain ⟨cellV, g1, g3, g2⟩ := hr
  obtain ⟨kA, comp, k1, k2, k3, -⟩ := (C.k.2 t _ ht).2
  obtain ⟨kE, hkE, -⟩ := Vm.findClass_spec k3
  obtain ⟨kC, hkC, -⟩ := Vm.findClass_spec g2
  have hin := vp_in_nI hi hn
  refine W.aast C.x C.b hat (fun q h => by cases h) (fun h => by cases h) k1 k2 rfl hkE ⟨fun q => hin (Or.inl q), by show _ < (arrV _ _ _).slots.size; rw [arrV_size, nI_clamp (by omega)]; exact hi⟩ g1 (fun q h => by rw [h] at g3; cases g3) hkC (hasg _ _ k3 g2) rfl rfl hdg fun H1 e z oq => ?_
  refine kk H1 _ ?_ (mf_Eq.one z oq ha (mf_co_a hat)) (hS.put z oq ha)
  show H1[a]? = some (vp_cell _ _)
  rw [e]
  rw [vp_cell_q, vp_cell_q, arrV_store]
  congr 2
  funext q
  rw [nI_clamp (by omega)]
  by_cases hq : q = i
  · subst hq
    simp [updV, va_up, va_rf]
  · simp [updV, va_up, hq]
/-- putfield of an inherited field -/
theorem mf_pfS (C : mf_Cx p s m args c own cc nL D tys t0 A) {ci N : Nat} {R0 ref : String} {T : u_T} (hc : mf_cl[ci]? = some (R0, T, N)) (hin : ∀ w ∈ u_ws R0 T N, w ∈ mf_tb) {ty0 : Nat → FieldType} (hty : ∀ k, k < N → parseFieldDescriptor (T k).2.2.1 = some (ty0 k)) (hnm : ∀ a, a < N → ∀ b, b < N → a ≠ b → (T a).2.1 ≠ (T b).2.1) (k : Nat) (hk : k < N) {index : Nat} (hl : Cond.fieldLink own index ref (T k).2.1 (T k).2.2.1 ∈ mf_tb) (hsm : Cond.sameField ref (T k).1 (T k).2.1 (T k).2.2.1 ∈ mf_tb) (hfin : (T k).2.2.2 = false) {v : Value} (hn : narrow (ty0 k) v = v) (hfit : fits (ty0 k) v = true) {fs fs' : List Value} (hat : va_at D mf_cl (a, .inr (ci, fs)) H) (hlen : k < fs.length) (hfs : fs.set k v = fs') (hS : va_S A s.heap H locs) (ha : A a) (hdg : decode cc pc = .ok (.putfield index, 3))
    (kk : ∀ (H1 : Heap) (locs1 : List Loc), va_at D mf_cl (a, .inr (ci, fs')) H1 → H1.size = H.size → (∀ q, q ≠ a → H1[q]? = H[q]?) → va_S A s.heap H1 locs1 → W p l e R s m args below meth c H1 locs1 cells slots Q (F0 m (pc + 3) ls rest)) : W p l e R s m args below meth c H locs cells slots Q (F0 m pc ls (v :: .ref a :: rest)) := by
  subst hfs
  have hap := va_apart (own := own) C.2.2.1 hin ty0 hty hnm C.k hc
  obtain ⟨r, h1, cell, q1, q2, q3, q4⟩ := hat
  obtain rfl : r = (R0, T, N) := Option.some.inj (h1.symm.trans hc)
  obtain ⟨hSl, hfc, kC, hkC, hkind⟩ := C.k.1 ci _ hc
  obtain ⟨cf, kf, fi, f, hi, hsl⟩ := hSl k hk
  have hlay := C.2.2.1 _ (hin _ (u_in_lay hk))
  unfold u_lay at hlay
  rw [if_neg (by rw [hfin]; decide)] at hlay
  have hst := (u_facts hfc hkC (u_lays C.2.2.1 hin hk) hi).1
  have h6 := u_store hfc hkC hkind hlay hi (hty k hk) hn hfit
  refine W.putK C.x C.b (f := f) ⟨C.o, C.t hl, ⟨_, _, _, u_same (C.t hsm) _ hi⟩, hst⟩ (by rw [q2]; exact h6) q1 q3 (by rw [hsl]; exact k2_hasslot (q4 k hk)) rfl rfl hdg fun H' e1 e2 e3 => ?_
  rw [hsl] at e1 ⊢
  exact kk H' _ ⟨_, hc, t_OB.to (V := updV (vp_V fs) k v) ⟨_, e1, q2, q3, t_set q4 hap hk v⟩ (fun j _ => vp_updV_set hlen v j)⟩ e2 e3 (hS.put e2 e3 ha)
end MFA
set_option maxRecDepth 100000 in
set_option maxHeartbeats 4000000 in
theorem k_A_add2 (l : Launch) (D : va_G) (k5 : mf_k5) (t0 : Nat × Nat) (A : Nat → Prop) (H : Heap) (al b ed n : Nat) (mc : Int32) (f : Nat → Option Nat) (fsb : List Value) (hal : va_at D mf_cl (al, .inr (0, [.ref ed, .int (nI n), .int mc])) H) (hAa : A al) (hb : va_at D mf_cl (b, .inr (1, fsb)) H) (hn : n ≤ 40) (hor : (n = 0 ∧ ed = t0.1) ∨ (∃ cap, va_at D mf_cl (ed, .inl (k5.1, cap, .inr (.inr (.inr (.inr f))))) H ∧ A ed ∧ n ≤ cap ∧ 10 ≤ cap ∧ cap ≤ 60 ∧ ∀ j, j < n → ∃ y fs, f j = some y ∧ va_at D mf_cl (y, .inr (1, fs)) H)) : mf_cWR l my_A_add2 mc_A_add2 4 none { frames := 5, cells := 1, slots := 60, locals := 147 } D (mf_tys k5) t0 A H [.ref al, .ref b, .ref ed, .int (nI n)] none (fun H1 => ∃ ed1 cap1 f1, va_at D mf_cl (al, .inr (0, [.ref ed1, .int (nI (n + 1)), .int mc])) H1 ∧ va_at D mf_cl (ed1, .inl (k5.1, cap1, .inr (.inr (.inr (.inr f1))))) H1 ∧ A ed1 ∧ n + 1 ≤ cap1 ∧ 10 ≤ cap1 ∧ cap1 ≤ 60 ∧ f1 n = some b ∧ ∀ j, j < n → f1 j = f j) (mf_fr A H [D.1 0, k5.1]) 1 60 := by
  refine mf_of (by decide) (Nat.le_of_ble_eq_true rfl) ?_
  intro p e s m below meth c ls C hH hr hlk hnm hmt hl hS
  have hl : lv_has ls 4 [(0, .ref al), (1, .ref b), (2, .ref ed), (3, .int (nI n))] := hl
  have fin : ∀ (ls : Array Slot) (H2 : Heap) (locs : List Loc) (ed2 cap2 : Nat) (f2 : Nat → Option Nat), lv_has ls 4 [(2, .ref ed2), (0, .ref al), (1, .ref b), (3, .int (nI n))] → va_S A s.heap H2 locs → mf_Eq A [D.1 0] H H2 → va_at D mf_cl (al, .inr (0, [.ref ed2, .int (nI n), .int mc])) H2 → va_at D mf_cl (ed2, .inl (k5.1, cap2, .inr (.inr (.inr (.inr f2))))) H2 → A ed2 → n < cap2 → 10 ≤ cap2 → cap2 ≤ 60 → (∀ j, j < n → f2 j = f j) → W p l e ({ frames := 5, cells := 1, slots := 60, locals := 147 } : Room) s m (([.ref al, .ref b, .ref ed, .int (nI n)] : List Value).toArray) below meth c H2 locs 1 60 (MQ below (mf_Kw none (fun H1 => ∃ ed1 cap1 f1, va_at D mf_cl (al, .inr (0, [.ref ed1, .int (nI (n + 1)), .int mc])) H1 ∧ va_at D mf_cl (ed1, .inl (k5.1, cap1, .inr (.inr (.inr (.inr f1))))) H1 ∧ A ed1 ∧ n + 1 ≤ cap1 ∧ 10 ≤ cap1 ∧ cap1 ≤ 60 ∧ f1 n = some b ∧ ∀ j, j < n → f1 j = f j) (mf_fr A H [D.1 0, k5.1])) (([.ref al, .ref b, .ref ed, .int (nI n)] : List Value).toArray) s 1 60 A) (F0 m 11 ls []) := by
    intro ls H2 locs ed2 cap2 f2 hl hS hE hal2 hed2 hA2 c1 c2 c3 hf2
    have hb2 := hE.ko hb (by simp [mf_nd C.nd (i := 1) (j := 0) rfl rfl (by decide)])
    refine lv_aload_n C.x C.b md_A_add2_11 rfl (lv_at hl 0 rfl) ?_
    refine lv_iload_n C.x C.b md_A_add2_12 rfl (lv_at hl 3 rfl) ?_
    refine lv_aload_n C.x C.b md_A_add2_13 rfl (lv_at hl 2 rfl) ?_
    refine mf_aast C (t := 0) (E1 := "java/lang/Object") (C1 := "MatchFloor$Order") rfl hed2 c1 (by omega) (mf_rv C (ci := 1) (N := 6) rfl hb2) (vb_asgC C.ev.2.1.2.2.1) hS hA2 md_A_add2_14 (fun H3 locs hed3 hE3 hS => ?_)
    have hal3 := hE3.ko hal2 (by simp [mf_nd C.nd (i := 0) (j := 5) rfl rfl (by decide)])
    refine lv_aload_n C.x C.b md_A_add2_15 rfl (lv_at hl 1 rfl) ?_
    refine lv_iload_n C.x C.b md_A_add2_16 rfl (lv_at hl 3 rfl) ?_
    refine lv_iconst (v := 1) C.x C.b md_A_add2_17 (by decide) ?_
    refine lv_iadd C.x C.b md_A_add2_18 ?_
    rw [nI_1]
    refine mf_pf C (ci := 0) (N := 3) rfl mi_A mp_A mn_A 1 (by decide) mt_44 rfl (v := .int (nI (n + 1))) rfl rfl hal3 (Nat.le_of_ble_eq_true rfl) (fs' := [.ref ed2, .int (nI (n + 1)), .int mc]) rfl hS hAa md_A_add2_19 (fun H4 locs hal4 hz4 ho4 hS => ?_)
    have hE4 : mf_Eq A [D.1 0] H3 H4 := mf_Eq.one hz4 ho4 hAa (mf_co_o hal3)
    refine mf_wv C.x C.b hr hlk md_A_add2_22 ⟨ed2, cap2, va_up f2 n (some b), hal4, hE4.ka hed3 (by simp [mf_nd C.nd (i := 5) (j := 0) rfl rfl (by decide)]), hA2, by omega, c2, c3, va_up_self _ _ _, fun j hj => ?_⟩ ((hE.tr (L := [D.1 0, k5.1]) (hE3.tr (L := [D.1 0, k5.1]) hE4 (by simp) (by simp)) (by simp) (by simp))) hH hS.2.2 (Nat.le_refl _) (Nat.le_refl _)
    rw [va_up_ne _ _ (by omega)]; exact hf2 j hj
  rcases hor with ⟨rfl, rfl⟩ | ⟨cap, hed, hAe, c1, c2, c3, hel⟩
  · skip
    refine lv_iload_n C.x C.b md_A_add2_0 rfl (lv_at hl 3 rfl) ?_
    refine lv_aload_n C.x C.b md_A_add2_1 rfl (lv_at hl 2 rfl) ?_
    refine va_tlen C.x C.b C.ev.2.2.1.2.2.2 hS (v := 0) rfl md_A_add2_2 ?_
    refine lv_icmp_ne (tgt := 11) C.x C.b md_A_add2_3 (by decide) (fun h1 => ?_) (fun h1 => ?_)
    · exact absurd rfl h1
    · skip
      refine lv_aload_n C.x C.b md_A_add2_6 rfl (lv_at hl 0 rfl) ?_
      refine mf_cwr (va_runV (As := []) (rest := []) C.f (k_A_grow l D k5 t0 A H al t0.1 0 mc f hal hAa (Or.inl ⟨rfl, rfl⟩)) (mf_cV C mt_341 mt_338 mt_4 mt_340 ms_13 mh_A_grow ⟨by decide, by decide⟩) (mf_preV C.ev hS (mf_rv C (ci := 0) (N := 3) rfl hal)) rfl rfl hl.1 rfl (lv_room (Nat.le_of_ble_eq_true rfl)) md_A_add2_7 ⟨by first | omega | exact Nat.le_of_ble_eq_true rfl, by first | omega | exact Nat.le_of_ble_eq_true rfl⟩) hS (fun _ _ h => h.1) (fun q H locs hB hz hk hS => ?_)
      refine lv_astore_n (lv' := [(2, .ref q), (0, .ref al), (1, .ref b), (3, .int (nI 0))]) C.x C.b md_A_add2_10 rfl hl (by decide) rfl (fun ls hl => ?_)
      obtain ⟨cap2, f2, hal2, hed2, hA2, hn2, c1, c2, c3, hf2⟩ := hB
      exact fin _ _ _ q cap2 f2 (lv_sub hl [0, 1, 2, 3] rfl) hS ⟨hz, hk⟩ hal2 hed2 hA2 c1 c2 c3 hf2
  · skip
    refine lv_iload_n C.x C.b md_A_add2_0 rfl (lv_at hl 3 rfl) ?_
    refine lv_aload_n C.x C.b md_A_add2_1 rfl (lv_at hl 2 rfl) ?_
    refine va_alen C.x C.b C.k (mf_one hed) 0 0 rfl rfl (v := nI cap) rfl md_A_add2_2 ?_
    refine lv_icmp_ne (tgt := 11) C.x C.b md_A_add2_3 (by decide) (fun h2 => ?_) (fun h2 => ?_)
    · have hne : n ≠ cap := fun z => h2 (by rw [z])
      refine W.widen (k := 1) (n := 60) (by omega) (by omega) ?_
      exact fin _ _ _ ed cap f (lv_sub hl [2, 0, 1, 3] rfl) hS mf_Eq.rf hal hed hAe (by omega) c2 c3 (fun _ _ => rfl)
    · have heq : n = cap := (nI_eq (by omega) (by omega)).mp h2
      subst heq
      refine lv_aload_n C.x C.b md_A_add2_6 rfl (lv_at hl 0 rfl) ?_
      refine mf_cwr (va_runV (As := []) (rest := []) C.f (k_A_grow l D k5 t0 A H al ed n mc f hal hAa (Or.inr ⟨hed, hAe, c2, hn, hel⟩)) (mf_cV C mt_341 mt_338 mt_4 mt_340 ms_13 mh_A_grow ⟨by decide, by decide⟩) (mf_preV C.ev hS (mf_rv C (ci := 0) (N := 3) rfl hal)) rfl rfl hl.1 rfl (lv_room (Nat.le_of_ble_eq_true rfl)) md_A_add2_7 ⟨by first | omega | exact Nat.le_of_ble_eq_true rfl, by first | omega | exact Nat.le_of_ble_eq_true rfl⟩) hS (fun _ _ h => h.1) (fun q H locs hB hz hk hS => ?_)
      refine lv_astore_n (lv' := [(2, .ref q), (0, .ref al), (1, .ref b), (3, .int (nI n))]) C.x C.b md_A_add2_10 rfl hl (by decide) rfl (fun ls hl => ?_)
      obtain ⟨cap2, f2, hal2, hed2, hA2, hn2, c1, c2, c3, hf2⟩ := hB
      exact fin _ _ _ q cap2 f2 (lv_sub hl [0, 1, 2, 3] rfl) hS ⟨hz, hk⟩ hal2 hed2 hA2 c1 c2 c3 hf2
set_option maxRecDepth 100000 in
set_option maxHeartbeats 4000000 in
theorem k_A_add (l : Launch) (D : va_G) (k5 : mf_k5) (t0 : Nat × Nat) (A : Nat → Prop) (H : Heap) (al b : Nat) (as : List Nat) (fsb : List Value) (hA : mf_AL D k5 t0 A H al as) (hlt : as.length + 1 ≤ 40) (hb : va_at D mf_cl (b, .inr (1, fsb)) H) (he : ∀ b ∈ as, ∃ fs, va_at D mf_cl (b, .inr (1, fs)) H) : mf_cWR l my_A_add mc_A_add 2 (some .boolean) { frames := 6, cells := 1, slots := 60, locals := 170 } D (mf_tys k5) t0 A H [.ref al, .ref b] (some (.int 1)) (fun H1 => mf_AL D k5 t0 A H1 al (as ++ [b])) (mf_fr A H [D.1 0, k5.1]) 1 60 := by
  obtain ⟨ed, mc, hal, hAa, hle, hor⟩ := hA
  refine mf_of (by decide) (Nat.le_of_ble_eq_true rfl) ?_
  intro p e s m below meth c ls C hH hr hlk hnm hmt hl hS
  have hl : lv_has ls 2 [(0, .ref al), (1, .ref b)] := hl
  refine lv_aload_n C.x C.b md_A_add_0 rfl (lv_at hl 0 rfl) ?_
  refine lv_dup C.x C.b md_A_add_1 rfl ?_
  refine mf_gfS C (ci := 0) (N := 3) (ref := "java/util/ArrayList") rfl mi_A 2 (by decide) mt_46 mt_47 hal (v := .int mc) rfl md_A_add_2 ?_
  refine lv_iconst (v := 1) C.x C.b md_A_add_5 (by decide) ?_
  refine lv_iadd C.x C.b md_A_add_6 ?_
  refine mf_pfS C (ci := 0) (N := 3) (ref := "java/util/ArrayList") rfl mi_A mp_A mn_A 2 (by decide) mt_46 mt_47 rfl (v := .int (mc + 1)) rfl rfl hal (Nat.le_of_ble_eq_true rfl) (fs' := [.ref ed, .int (nI as.length), .int (mc + 1)]) rfl hS hAa md_A_add_7 (fun H2 locs hal2 hz2 ho2 hS => ?_)
  have hE2 : mf_Eq A [D.1 0] H H2 := mf_Eq.one hz2 ho2 hAa (mf_co_o hal)
  have hb2 := hE2.ko hb (by simp [mf_nd C.nd (i := 1) (j := 0) rfl rfl (by decide)])
  obtain ⟨f, hor2⟩ : ∃ f : Nat → Option Nat, ((as.length = 0 ∧ ed = t0.1) ∨ (∃ cap, va_at D mf_cl (ed, .inl (k5.1, cap, .inr (.inr (.inr (.inr f))))) H2 ∧ A ed ∧ as.length ≤ cap ∧ 10 ≤ cap ∧ cap ≤ 60 ∧ ∀ j, j < as.length → ∃ y fs, f j = some y ∧ va_at D mf_cl (y, .inr (1, fs)) H2)) ∧ ∀ j y, as[j]? = some y → f j = some y := by
    rcases hor with ⟨rfl, h2⟩ | ⟨cap, f, hed, hA2, h1, h2, h3, hf⟩
    · exact ⟨fun _ => none, Or.inl ⟨rfl, h2⟩, fun j y h => by simp at h⟩
    · refine ⟨f, Or.inr ⟨cap, hE2.ka hed (by simp [mf_nd C.nd (i := 5) (j := 0) rfl rfl (by decide)]), hA2, h1, h2, h3, fun j hj => ?_⟩, hf⟩
      obtain ⟨y, hy⟩ := mf_at_lt (l := as) (k := j) hj
      obtain ⟨fs, h9⟩ := he y (List.mem_of_getElem? hy)
      exact ⟨y, fs, hf j y hy, hE2.ko h9 (by simp [mf_nd C.nd (i := 1) (j := 0) rfl rfl (by decide)])⟩
  refine lv_aload_n C.x C.b md_A_add_10 rfl (lv_at hl 0 rfl) ?_
  refine lv_aload_n C.x C.b md_A_add_11 rfl (lv_at hl 1 rfl) ?_
  refine lv_aload_n C.x C.b md_A_add_12 rfl (lv_at hl 0 rfl) ?_
  refine mf_gf C (ci := 0) (N := 3) rfl mi_A 0 (by decide) mt_43 hal2 (v := .ref ed) rfl md_A_add_13 ?_
  refine lv_aload_n C.x C.b md_A_add_16 rfl (lv_at hl 0 rfl) ?_
  refine mf_gf C (ci := 0) (N := 3) rfl mi_A 1 (by decide) mt_44 hal2 (v := .int (nI as.length)) rfl md_A_add_17 ?_
  refine mf_cwn (va_runV (As := [.ref b, .ref ed, .int (nI as.length)]) (rest := []) C.f (k_A_add2 l D k5 t0 A H2 al b ed as.length (mc + 1) f fsb hal2 hAa hb2 (by omega) hor2.1) (mf_cV C mt_337 mt_334 mt_4 mt_336 ms_12 mh_A_add2 ⟨by decide, by decide⟩) (mf_preV C.ev hS (mf_rv C (ci := 0) (N := 3) rfl hal2)) rfl rfl hl.1 rfl (lv_room (Nat.le_of_ble_eq_true rfl)) md_A_add_20 ⟨by first | omega | exact Nat.le_of_ble_eq_true rfl, by first | omega | exact Nat.le_of_ble_eq_true rfl⟩) hS (fun _ _ h => h.1) (fun H locs hB hz hk hS => ?_)
  refine lv_iconst (v := 1) C.x C.b md_A_add_23 (by decide) ?_
  obtain ⟨ed1, cap1, f1, hal3, hed3, hA3, c1, c2, c3, hn1, hf1⟩ := hB
  refine mf_wz C.x C.b hr hlk rfl md_A_add_24 ⟨ed1, mc + 1, ?_, hAa, ?_, Or.inr ⟨cap1, f1, hed3, hA3, ?_, c2, c3, fun j y hj => ?_⟩⟩ (hE2.tr (L := [D.1 0, k5.1]) ⟨hz, hk⟩ (by simp) (by simp)) hH hS.2.2 (Nat.le_refl _) (Nat.le_refl _)
  · rw [List.length_append]; exact hal3
  · rw [List.length_append]; exact hlt
  · rw [List.length_append]; exact c1
  · by_cases hj2 : j < as.length
    · rw [hf1 j hj2]; rw [List.getElem?_append_left hj2] at hj; exact hor2.2 j y hj
    · have hj3 := (List.getElem?_eq_some_iff.mp hj).1
      rw [List.length_append] at hj3
      have hj4 : j = as.length := by have : [b].length = 1 := rfl; omega
      subst hj4
      rw [hn1]
      rw [List.getElem?_append_right (Nat.le_refl _), Nat.sub_self] at hj
      exact hj
end
section
/-! the book and the tape under changes of the heap -/
theorem mf_AL.eq {D : va_G} {k5 : mf_k5} {t0 : Nat × Nat} {A : Nat → Prop} {H H1 : Heap} {al : Nat} {as : List Nat} {L : List ClassId} (h : mf_AL D k5 t0 A H al as) (E : mf_Eq A L H H1) (n0 : D.1 0 ∉ L) (n5 : k5.1 ∉ L) : mf_AL D k5 t0 A H1 al as := by
  obtain ⟨ed, mc, h1, h2, h3, h4⟩ := h
  refine ⟨ed, mc, E.ko h1 n0, h2, h3, ?_⟩
  rcases h4 with h4 | ⟨cap, f, g1, g2⟩
  · exact Or.inl h4
  · exact Or.inr ⟨cap, f, E.ka g1 n5, g2⟩
theorem mf_TP.eq {D : va_G} {k5 : mf_k5} {A : Nat → Prop} {H H1 : Heap} {tp : Nat} {g : mf_G} {L : List ClassId} (h : mf_TP D k5 A H tp g) (E : mf_Eq A L H H1) (n2 : D.1 2 ∉ L) (n6 : k5.2.1 ∉ L) (n7 : k5.2.2.1 ∉ L) : mf_TP D k5 A H1 tp g := by
  obtain ⟨rw, rr, rf, rx, h1, h2, h3, h4, h5, h6, h7⟩ := h
  exact ⟨rw, rr, rf, rx, E.ko h1 n2, h2, E.ka h3 n6, h4, h5, fun i hi => ⟨E.ka (h6 i hi).1 n7, (h6 i hi).2⟩, h7⟩
theorem mf_CL.eq {D : va_G} {k5 : mf_k5} {t0 : Nat × Nat} {A : Nat → Prop} {H H1 : Heap} {x al tp : Nat} {due met : Int32} {ks : List (Nat × mf_O)} {L : List ClassId} (h : mf_CL D k5 t0 A H x al tp due met ks) (E : mf_Eq A L H H1) (n0 : D.1 0 ∉ L) (n1 : D.1 1 ∉ L) (n3 : D.1 3 ∉ L) (n5 : k5.1 ∉ L) : mf_CL D k5 t0 A H1 x al tp due met ks := by
  obtain ⟨h1, h2, h3, h4, h5⟩ := h
  exact ⟨E.ko h1 n3, h2, h3.eq E n0 n5, fun q hq => ⟨E.ko (h4 q hq).1 n1, (h4 q hq).2⟩, h5⟩
/-- an order was taken out of the list -/
theorem mf_CL.er {D : va_G} {k5 : mf_k5} {t0 : Nat × Nat} {A : Nat → Prop} {H H1 : Heap} {x al tp : Nat} {due met : Int32} {ks : List (Nat × mf_O)} (nd : (mf_ids D (mf_tys k5)).Nodup) (h : mf_CL D k5 t0 A H x al tp due met ks) {j : Nat} (E : mf_Eq A [D.1 0, k5.1] H H1) (hAL : mf_AL D k5 t0 A H1 al ((ks.map (fun q => q.1)).eraseIdx j)) : mf_CL D k5 t0 A H1 x al tp due met (ks.eraseIdx j) := by
  obtain ⟨h1, h2, h3, h4, h5⟩ := h
  refine ⟨E.ko h1 (by simp [mf_nd nd (i := 3) (j := 0) rfl rfl (by decide), mf_nd nd (i := 3) (j := 5) rfl rfl (by decide)]), h2, by rw [← mf_map_erase]; exact hAL, fun q hq => ?_, by rw [← mf_map_erase]; exact h5.sublist (List.eraseIdx_sublist _ _)⟩
  have h9 := h4 q (List.mem_of_mem_eraseIdx hq)
  exact ⟨E.ko h9.1 (by simp [mf_nd nd (i := 1) (j := 0) rfl rfl (by decide), mf_nd nd (i := 1) (j := 5) rfl rfl (by decide)]), h9.2⟩
theorem mf_CL.ad {D : va_G} {k5 : mf_k5} {t0 : Nat × Nat} {A : Nat → Prop} {H H1 : Heap} {x al tp : Nat} {due met : Int32} {ks : List (Nat × mf_O)} (nd : (mf_ids D (mf_tys k5)).Nodup) (h : mf_CL D k5 t0 A H x al tp due met ks) {a : Nat} {o : mf_O} (E : mf_Eq A [D.1 0, k5.1] H H1) (ha : va_at D mf_cl (a, .inr (1, mf_fs o)) H) (hAa : A a) (hni : a ∉ ks.map (fun q => q.1)) (hAL : mf_AL D k5 t0 A H1 al ((ks.map (fun q => q.1)) ++ [a])) : mf_CL D k5 t0 A H1 x al tp due met (ks ++ [(a, o)]) := by
  obtain ⟨h1, h2, h3, h4, h5⟩ := h
  refine ⟨E.ko h1 (by simp [mf_nd nd (i := 3) (j := 0) rfl rfl (by decide), mf_nd nd (i := 3) (j := 5) rfl rfl (by decide)]), h2, by rw [List.map_append]; exact hAL, fun q hq => ?_, ?_⟩
  · have ho : va_at D mf_cl (q.1, .inr (1, mf_fs q.2)) H ∧ A q.1 := by
      rcases List.mem_append.mp hq with z | z
      · exact h4 q z
      · rw [List.mem_singleton.mp z]; exact ⟨ha, hAa⟩
    exact ⟨E.ko ho.1 (by simp [mf_nd nd (i := 1) (j := 0) rfl rfl (by decide), mf_nd nd (i := 1) (j := 5) rfl rfl (by decide)]), ho.2⟩
  · rw [List.map_append]
    refine List.nodup_append.mpr ⟨h5, by simp, fun z hz y hy => ?_⟩
    have hy1 : y = a := by simpa using hy
    intro e
    exact hni (by rw [← hy1, ← e]; exact hz)
/-- an order was written -/
theorem mf_CL.up {D : va_G} {k5 : mf_k5} {t0 : Nat × Nat} {A : Nat → Prop} {H H1 : Heap} {x al tp : Nat} {due met : Int32} {ks : List (Nat × mf_O)} (nd : (mf_ids D (mf_tys k5)).Nodup) (h : mf_CL D k5 t0 A H x al tp due met ks) {j a : Nat} {r r1 : mf_O} (hj : ks[j]? = some (a, r)) (ha : va_at D mf_cl (a, .inr (1, mf_fs r1)) H1) (hz : H1.size = H.size) (ho : ∀ q, q ≠ a → H1[q]? = H[q]?) : mf_CL D k5 t0 A H1 x al tp due met (ks.set j (a, r1)) := by
  obtain ⟨h1, h2, h3, h4, h5⟩ := h
  have hr := h4 _ (List.mem_of_getElem? hj)
  have E : mf_Eq A [D.1 1] H H1 := mf_Eq.one hz ho hr.2 (mf_co_o hr.1)
  have hm : (ks.set j (a, r1)).map (fun q => q.1) = ks.map (fun q => q.1) := by
    rw [List.map_set]
    apply List.ext_getElem? 
    intro i
    rw [List.getElem?_set]
    by_cases hij : j = i
    · subst hij
      rw [if_pos rfl, List.getElem?_map, hj]
      have := (List.getElem?_eq_some_iff.mp hj).1
      rw [if_pos (by rw [List.length_map]; exact this)]; rfl
    · rw [if_neg hij]
  refine ⟨E.ko h1 (by simp [mf_nd nd (i := 3) (j := 1) rfl rfl (by decide)]), h2, by rw [hm]; exact h3.eq E (by simp [mf_nd nd (i := 0) (j := 1) rfl rfl (by decide)]) (by simp [mf_nd nd (i := 5) (j := 1) rfl rfl (by decide)]), fun q hq => ?_, by rw [hm]; exact h5⟩
  obtain ⟨i, hi⟩ := List.getElem?_of_mem hq
  rw [List.getElem?_set] at hi
  by_cases hij : j = i
  · rw [if_pos hij] at hi
    split at hi
    · cases hi; exact ⟨ha, hr.2⟩
    · cases hi
  · rw [if_neg hij] at hi
    have hq1 := h4 q (List.mem_of_getElem? hi)
    refine ⟨hq1.1.kept (ho q.1 fun e => hij ?_), hq1.2⟩
    have e1 := mf_kq hj
    have e2 : (ks.map (fun q => q.1))[i]? = some a := by rw [List.getElem?_map, hi]; exact congrArg some e
    obtain ⟨l1, g1⟩ := List.getElem?_eq_some_iff.mp e1
    obtain ⟨l2, g2⟩ := List.getElem?_eq_some_iff.mp e2
    exact (List.getElem_inj (h₀ := l1) (h₁ := l2) h5).mp (g1.trans g2.symm)
/-- an order outside of the list was written -/
theorem mf_CL.ot {D : va_G} {k5 : mf_k5} {t0 : Nat × Nat} {A : Nat → Prop} {H H1 : Heap} {x al tp : Nat} {due met : Int32} {ks : List (Nat × mf_O)} (nd : (mf_ids D (mf_tys k5)).Nodup) (h : mf_CL D k5 t0 A H x al tp due met ks) {ca : Nat} {fs : List Value} (ha : va_at D mf_cl (ca, .inr (1, fs)) H) (hA : A ca) (hni : ca ∉ ks.map (fun q => q.1)) (hz : H1.size = H.size) (ho : ∀ q, q ≠ ca → H1[q]? = H[q]?) : mf_CL D k5 t0 A H1 x al tp due met ks := by
  obtain ⟨h1, h2, h3, h4, h5⟩ := h
  have E : mf_Eq A [D.1 1] H H1 := mf_Eq.one hz ho hA (mf_co_o ha)
  refine ⟨E.ko h1 (by simp [mf_nd nd (i := 3) (j := 1) rfl rfl (by decide)]), h2, h3.eq E (by simp [mf_nd nd (i := 0) (j := 1) rfl rfl (by decide)]) (by simp [mf_nd nd (i := 5) (j := 1) rfl rfl (by decide)]), fun q hq => ⟨(h4 q hq).1.kept (ho q.1 fun e => hni ?_), (h4 q hq).2⟩, h5⟩
  rw [← e]
  exact List.mem_map_of_mem hq
/-- the object itself was written -/
theorem mf_CL.se {D : va_G} {k5 : mf_k5} {t0 : Nat × Nat} {A : Nat → Prop} {H H1 : Heap} {x al tp : Nat} {due met due1 met1 : Int32} {ks : List (Nat × mf_O)} (nd : (mf_ids D (mf_tys k5)).Nodup) (h : mf_CL D k5 t0 A H x al tp due met ks) (hx : va_at D mf_cl (x, .inr (3, [.ref al, .ref tp, .int due1, .int met1])) H1) (E : mf_Eq A [D.1 3] H H1) : mf_CL D k5 t0 A H1 x al tp due1 met1 ks := by
  obtain ⟨h1, h2, h3, h4, h5⟩ := h
  exact ⟨hx, h2, h3.eq E (by simp [mf_nd nd (i := 0) (j := 3) rfl rfl (by decide)]) (by simp [mf_nd nd (i := 5) (j := 3) rfl rfl (by decide)]), fun q hq => ⟨E.ko (h4 q hq).1 (by simp [mf_nd nd (i := 1) (j := 3) rfl rfl (by decide)]), (h4 q hq).2⟩, h5⟩
theorem mf_TP.cl {D : va_G} {k5 : mf_k5} {A : Nat → Prop} {H H1 : Heap} {tp : Nat} {g : mf_G} {L : List ClassId} (nd : (mf_ids D (mf_tys k5)).Nodup) (h : mf_TP D k5 A H tp g) (E : mf_Eq A L H H1) (hL : ∀ k ∈ L, k = D.1 0 ∨ k = D.1 1 ∨ k = D.1 3 ∨ k = k5.1) : mf_TP D k5 A H1 tp g := by
  refine h.eq E (fun z => ?_) (fun z => ?_) (fun z => ?_)
  · rcases hL _ z with y | y | y | y
    · exact mf_nd nd (i := 2) (j := 0) rfl rfl (by decide) y
    · exact mf_nd nd (i := 2) (j := 1) rfl rfl (by decide) y
    · exact mf_nd nd (i := 2) (j := 3) rfl rfl (by decide) y
    · exact mf_nd nd (i := 2) (j := 5) rfl rfl (by decide) y
  · rcases hL _ z with y | y | y | y
    · exact mf_nd nd (i := 6) (j := 0) rfl rfl (by decide) y
    · exact mf_nd nd (i := 6) (j := 1) rfl rfl (by decide) y
    · exact mf_nd nd (i := 6) (j := 3) rfl rfl (by decide) y
    · exact mf_nd nd (i := 6) (j := 5) rfl rfl (by decide) y
  · rcases hL _ z with y | y | y | y
    · exact mf_nd nd (i := 7) (j := 0) rfl rfl (by decide) y
    · exact mf_nd nd (i := 7) (j := 1) rfl rfl (by decide) y
    · exact mf_nd nd (i := 7) (j := 3) rfl rfl (by decide) y
    · exact mf_nd nd (i := 7) (j := 5) rfl rfl (by decide) y
theorem mf_CL.tp {D : va_G} {k5 : mf_k5} {t0 : Nat × Nat} {A : Nat → Prop} {H H1 : Heap} {x al tp : Nat} {due met : Int32} {ks : List (Nat × mf_O)} (nd : (mf_ids D (mf_tys k5)).Nodup) (h : mf_CL D k5 t0 A H x al tp due met ks) (E : mf_Eq A [D.1 2, k5.2.2.1] H H1) : mf_CL D k5 t0 A H1 x al tp due met ks :=
  h.eq E (by simp [mf_nd nd (i := 0) (j := 2) rfl rfl (by decide), mf_nd nd (i := 0) (j := 7) rfl rfl (by decide)]) (by simp [mf_nd nd (i := 1) (j := 2) rfl rfl (by decide), mf_nd nd (i := 1) (j := 7) rfl rfl (by decide)]) (by simp [mf_nd nd (i := 3) (j := 2) rfl rfl (by decide), mf_nd nd (i := 3) (j := 7) rfl rfl (by decide)]) (by simp [mf_nd nd (i := 5) (j := 2) rfl rfl (by decide), mf_nd nd (i := 5) (j := 7) rfl rfl (by decide)])
/-- an order that comes in, and what it comes into -/
def mf_MS (D : va_G) (k5 : mf_k5) (t0 : Nat × Nat) (A : Nat → Prop) (H : Heap) (x al tp ca : Nat) (due : Int32) (q : mf_O × mf_M) : Prop := ∃ ks, mf_L ks = q.2.1 ∧ mf_CL D k5 t0 A H x al tp due q.2.2.1 ks ∧ mf_TP D k5 A H tp q.2.2.2 ∧ va_at D mf_cl (ca, .inr (1, mf_fs q.1)) H ∧ A ca ∧ ca ∉ ks.map (fun z => z.1)
abbrev mf_cM (D : va_G) (k5 : mf_k5) : List ClassId := [D.1 0, D.1 1, D.1 2, D.1 3, k5.1, k5.2.2.1]
end
section
/-! MatchFloor: meeting -/
theorem mf_min_lt {a b : Int32} : (if b < a then b else a) = mf_min a b := by
  unfold mf_min
  by_cases h : a ≤ b
  · rw [if_pos h, if_neg (Int32.not_lt.mpr h)]
  · rw [if_neg h, if_pos (Int32.not_le.mp h)]
theorem mf_ka_of {ks : List (Nat × mf_O)} {j : Nat} {r : mf_O} (h : (mf_L ks)[j]? = some r) : ∃ a, ks[j]? = some (a, r) := by
  have h2 : (ks.map (fun q => q.2))[j]? = some r := h
  rw [List.getElem?_map] at h2
  obtain ⟨⟨a, o⟩, e1, e2⟩ := Option.map_eq_some_iff.mp h2
  cases e2
  exact ⟨a, e1⟩
theorem mf_L_set (ks : List (Nat × mf_O)) (j a : Nat) (r : mf_O) : mf_L (ks.set j (a, r)) = (mf_L ks).set j r := List.map_set
theorem mf_set_erase {α : Type} : ∀ (l : List α) (j : Nat) (x : α), (l.set j x).eraseIdx j = l.eraseIdx j
  | [], _, _ => rfl
  | _ :: _, 0, _ => rfl
  | a :: l, j + 1, x => congrArg (a :: ·) (mf_set_erase l j x)
theorem mf_set_fst {ks : List (Nat × mf_O)} {j a : Nat} {r r1 : mf_O} (hj : ks[j]? = some (a, r)) : (ks.set j (a, r1)).map (fun q => q.1) = ks.map (fun q => q.1) := by
  rw [List.map_set]
  apply List.ext_getElem?
  intro i
  rw [List.getElem?_set]
  by_cases hij : j = i
  · subst hij
    rw [if_pos rfl, List.getElem?_map, hj]
    have := (List.getElem?_eq_some_iff.mp hj).1
    rw [if_pos (by rw [List.length_map]; exact this)]; rfl
  · rw [if_neg hij]
set_option maxRecDepth 100000 in
set_option maxHeartbeats 4000000 in
theorem k_F_meet (l : Launch) (D : va_G) (k5 : mf_k5) (t0 : Nat × Nat) (A : Nat → Prop) (H : Heap) (x al tp ca j : Nat) (due met : Int32) (co r : mf_O) (L : List mf_O) (g : mf_G) (hM : mf_MS D k5 t0 A H x al tp ca due (co, L, met, g)) (hj : L[j]? = some r) (hg : g.1 + 1 < 2 ^ 31) : mf_cWR l my_F_meet mc_F_meet 5 none { frames := 3, cells := 0, slots := 0, locals := 106 } D (mf_tys k5) t0 A H [.ref x, .ref ca, .int (nI j)] none (fun H1 => mf_MS D k5 t0 A H1 x al tp ca due (mf_meet co j r (L, met, g))) (mf_fr A H (mf_cM D k5)) 0 0 := by
  obtain ⟨ks, hL, hC, hT, hca, hAc, hni⟩ := hM
  have hL : mf_L ks = L := hL
  have hC : mf_CL D k5 t0 A H x al tp due met ks := hC
  have hT : mf_TP D k5 A H tp g := hT
  have hca : va_at D mf_cl (ca, .inr (1, mf_fs co)) H := hca
  obtain ⟨hx, hAx, hAL, hks, hnd⟩ := id hC
  obtain ⟨ed, mc, hal, hA1, hle, hor⟩ := id hAL
  rw [List.length_map] at hle
  rw [← hL] at hj
  refine mf_of (by decide) (Nat.le_of_ble_eq_true rfl) ?_
  intro p e s m below meth c ls C hH hr hlk hnm hmt hl hS
  have hl : lv_has ls 5 [(0, .ref x), (1, .ref ca), (2, .int (nI j))] := hl
  obtain ⟨a, hq⟩ : ∃ a, ks[j]? = some (a, r) := mf_ka_of hj
  have ha := (hks _ (List.mem_of_getElem? hq)).1
  have hAa := (hks _ (List.mem_of_getElem? hq)).2
  have ha : va_at D mf_cl (a, .inr (1, mf_fs r)) H := ha
  have hjn : j < ks.length := (List.getElem?_eq_some_iff.mp hq).1
  have hel : ∀ b ∈ ks.map (fun q => q.1), ∃ fs, va_at D mf_cl (b, .inr (1, fs)) H := fun b hb => by
    obtain ⟨q, hq1, hq2⟩ := List.mem_map.mp hb
    exact ⟨_, by rw [← hq2]; exact (hks q hq1).1⟩
  have hnea : a ≠ ca := fun z => hni (by rw [← z]; exact List.mem_map.mpr ⟨_, List.mem_of_getElem? hq, rfl⟩)
  refine lv_aload_n C.x C.b md_F_meet_0 rfl (lv_at hl 0 rfl) ?_
  refine mf_gf C (ci := 3) (N := 4) rfl mi_F 0 (by decide) mt_84 hx (v := .ref al) rfl md_F_meet_1 ?_
  refine lv_iload_n C.x C.b md_F_meet_4 rfl (lv_at hl 2 rfl) ?_
  refine mf_cks (va_runV (As := [.int (nI j)]) (rest := []) C.f (k_A_get l D k5 t0 A H al j a _ hAL (mf_kq hq)) (mf_cV C mt_209 mt_206 mt_4 mt_207 mt_208 mh_A_get ⟨by decide, by decide⟩) (mf_preV C.ev hS (mf_rv C (ci := 0) (N := 3) rfl hal)) rfl rfl hl.1 rfl (lv_room (Nat.le_of_ble_eq_true rfl)) md_F_meet_5 ⟨by first | omega | exact Nat.le_of_ble_eq_true rfl, by first | omega | exact Nat.le_of_ble_eq_true rfl⟩) ?_
  refine mf_cast C (ci := 1) (N := 6) rfl mt_220 ha md_F_meet_8 ?_
  refine lv_astore_n (lv' := [(3, .ref a), (0, .ref x), (1, .ref ca), (2, .int (nI j))]) C.x C.b md_F_meet_11 rfl hl (by decide) rfl (fun ls hl => ?_)
  refine lv_aload_n C.x C.b md_F_meet_12 rfl (lv_at hl 0 rfl) ?_
  refine mf_gfN C (ci := 1) (N := 6) rfl mi_O 1 (by decide) (C.ev.2.1.1 (97, "MatchFloor$Order", "owner", "I") (List.mem_of_getElem? (i := 5) rfl)) ha (v := .int (mf_ow r)) rfl md_F_meet_13 ?_
  refine lv_aload_n C.x C.b md_F_meet_16 rfl (lv_at hl 2 rfl) ?_
  refine mf_gfN C (ci := 1) (N := 6) rfl mi_O 1 (by decide) (C.ev.2.1.1 (97, "MatchFloor$Order", "owner", "I") (List.mem_of_getElem? (i := 5) rfl)) hca (v := .int (mf_ow co)) rfl md_F_meet_17 ?_
  refine lv_icmp_ne (tgt := 43) C.x C.b md_F_meet_20 (by decide) (fun h1 => ?_) (fun h1 => ?_)
  · skip
    refine lv_aload_n C.x C.b md_F_meet_43 rfl (lv_at hl 2 rfl) ?_
    refine mf_gfN C (ci := 1) (N := 6) rfl mi_O 5 (by decide) (C.ev.2.1.1 (81, "MatchFloor$Order", "left", "I") (List.mem_of_getElem? (i := 9) rfl)) hca (v := .int (mf_lf co)) rfl md_F_meet_44 ?_
    refine lv_aload_n C.x C.b md_F_meet_47 rfl (lv_at hl 0 rfl) ?_
    refine mf_gfN C (ci := 1) (N := 6) rfl mi_O 5 (by decide) (C.ev.2.1.1 (81, "MatchFloor$Order", "left", "I") (List.mem_of_getElem? (i := 9) rfl)) ha (v := .int (mf_lf r)) rfl md_F_meet_48 ?_
    refine va_mmin C.x C.b (C.2.2.2.2.2.trans hl.1.symm) C.o (C.t mt_320) (C.t mt_321) (C.t mt_16) (C.t mt_322) (Nat.le_of_ble_eq_true rfl) (Nat.le_of_ble_eq_true rfl) (Nat.le_of_ble_eq_true rfl) (Nat.le_of_ble_eq_true rfl) md_F_meet_51 ?_
    rw [mf_min_lt]
    refine lv_istore (lv' := [(4, .int (mf_min (mf_lf co) (mf_lf r))), (3, .ref a), (0, .ref x), (1, .ref ca), (2, .int (nI j))]) C.x C.b md_F_meet_54 hl (by decide) rfl (fun ls hl => ?_)
    generalize hmn : mf_min (mf_lf co) (mf_lf r) = mn at hl ⊢
    refine lv_aload_n C.x C.b md_F_meet_56 rfl (lv_at hl 3 rfl) ?_
    refine lv_dup C.x C.b md_F_meet_57 rfl ?_
    refine mf_gfN C (ci := 1) (N := 6) rfl mi_O 5 (by decide) (C.ev.2.1.1 (81, "MatchFloor$Order", "left", "I") (List.mem_of_getElem? (i := 9) rfl)) hca (v := .int (mf_lf co)) rfl md_F_meet_58 ?_
    refine lv_iload C.x C.b md_F_meet_61 (lv_at hl 0 rfl) ?_
    refine lv_isub C.x C.b md_F_meet_63 ?_
    refine mf_pfN C (ci := 1) (N := 6) rfl mi_O mp_O mn_O 5 (by decide) (C.ev.2.1.1 (81, "MatchFloor$Order", "left", "I") (List.mem_of_getElem? (i := 9) rfl)) rfl (v := .int ((mf_lf co) - mn)) rfl rfl hca (Nat.le_of_ble_eq_true rfl) (fs' := mf_fs (mf_setLf co (mf_lf co - mn))) rfl hS hAc md_F_meet_64 (fun H1 locs ho1 hz1 hk1 hS => ?_)
    have hE1 : mf_Eq A [D.1 1] H H1 := mf_Eq.one hz1 hk1 hAc (mf_co_o hca)
    have hC1 := hC.ot C.nd hca hAc hni hz1 hk1
    have hT1 := hT.cl C.nd hE1 (by simp)
    have ha1 : va_at D mf_cl (a, .inr (1, mf_fs r)) H1 := ha.kept (hk1 a hnea)
    refine lv_aload_n C.x C.b md_F_meet_67 rfl (lv_at hl 1 rfl) ?_
    refine lv_dup C.x C.b md_F_meet_68 rfl ?_
    refine mf_gfN C (ci := 1) (N := 6) rfl mi_O 5 (by decide) (C.ev.2.1.1 (81, "MatchFloor$Order", "left", "I") (List.mem_of_getElem? (i := 9) rfl)) ha1 (v := .int (mf_lf r)) rfl md_F_meet_69 ?_
    refine lv_iload C.x C.b md_F_meet_72 (lv_at hl 0 rfl) ?_
    refine lv_isub C.x C.b md_F_meet_74 ?_
    refine mf_pfN C (ci := 1) (N := 6) rfl mi_O mp_O mn_O 5 (by decide) (C.ev.2.1.1 (81, "MatchFloor$Order", "left", "I") (List.mem_of_getElem? (i := 9) rfl)) rfl (v := .int ((mf_lf r) - mn)) rfl rfl ha1 (Nat.le_of_ble_eq_true rfl) (fs' := mf_fs (mf_setLf r (mf_lf r - mn))) rfl hS hAa md_F_meet_75 (fun H2 locs ho2 hz2 hk2 hS => ?_)
    have hE2 : mf_Eq A [D.1 1] H1 H2 := mf_Eq.one hz2 hk2 hAa (mf_co_o ha1)
    have hC2 := hC1.up C.nd hq ho2 hz2 hk2
    have hT2 := hT1.cl C.nd hE2 (by simp)
    have hca2 : va_at D mf_cl (ca, .inr (1, mf_fs (mf_setLf co (mf_lf co - mn)))) H2 := ho1.kept (hk2 ca (Ne.symm hnea))
    refine lv_aload_n C.x C.b md_F_meet_78 rfl (lv_at hl 2 rfl) ?_
    refine mf_gf C (ci := 3) (N := 4) rfl mi_F 1 (by decide) mt_85 hC2.1 (v := .ref tp) rfl md_F_meet_79 ?_
    refine lv_aload_n C.x C.b md_F_meet_82 rfl (lv_at hl 3 rfl) ?_
    refine mf_gfN C (ci := 1) (N := 6) rfl mi_O 0 (by decide) (C.ev.2.1.1 (163, "MatchFloor$Order", "id", "I") (List.mem_of_getElem? (i := 4) rfl)) hca2 (v := .int (mf_id co)) rfl md_F_meet_83 ?_
    refine lv_aload_n C.x C.b md_F_meet_86 rfl (lv_at hl 1 rfl) ?_
    refine mf_gfN C (ci := 1) (N := 6) rfl mi_O 0 (by decide) (C.ev.2.1.1 (163, "MatchFloor$Order", "id", "I") (List.mem_of_getElem? (i := 4) rfl)) ho2 (v := .int (mf_id r)) rfl md_F_meet_87 ?_
    refine lv_aload_n C.x C.b md_F_meet_90 rfl (lv_at hl 1 rfl) ?_
    refine mf_gfN C (ci := 1) (N := 6) rfl mi_O 4 (by decide) (C.ev.2.1.1 (92, "MatchFloor$Order", "price", "I") (List.mem_of_getElem? (i := 8) rfl)) ho2 (v := .int (mf_pr r)) rfl md_F_meet_91 ?_
    refine lv_iload C.x C.b md_F_meet_94 (lv_at hl 0 rfl) ?_
    obtain ⟨rw2, rr2, rf2, rx2, htp2, hA32, hrw2⟩ := id hT2
    refine mf_cwn (va_runVN (As := [.int (mf_id co), .int (mf_id r), .int (mf_pr r), .int mn]) (rest := []) C.f (k_T_write l D k5 t0 A H2 tp (mf_id co) (mf_id r) (mf_pr r) mn _ hT2 hg) ⟨mf_cN C mt_326 (C.ev.2.1.2.1 ("MatchFloor", 211, my_T_write) (List.mem_of_getElem? (i := 6) rfl)) mt_5 mh_T_write ⟨by decide, by decide⟩, C.t mt_325, C.t ms_11⟩ (mf_preV C.ev hS (mf_rv C (ci := 2) (N := 5) rfl htp2)) rfl rfl hl.1 rfl (lv_room (Nat.le_of_ble_eq_true rfl)) md_F_meet_96 ⟨by first | omega | exact Nat.le_of_ble_eq_true rfl, by first | omega | exact Nat.le_of_ble_eq_true rfl⟩) hS (fun _ _ h => h.1) (fun H locs hB hz hk hS => ?_)
    have hE3 : mf_Eq A [D.1 2, k5.2.2.1] H2 H := ⟨hz, hk⟩
    have hC3 := hC2.tp C.nd hE3
    have hca3 := hE3.ko hca2 (by simp [mf_nd C.nd (i := 1) (j := 2) rfl rfl (by decide), mf_nd C.nd (i := 1) (j := 7) rfl rfl (by decide)])
    have ha3 := hE3.ko ho2 (by simp [mf_nd C.nd (i := 1) (j := 2) rfl rfl (by decide), mf_nd C.nd (i := 1) (j := 7) rfl rfl (by decide)])
    have hE03 : mf_Eq A (mf_cM D k5) _ H := (hE1.tr (L := mf_cM D k5) (hE2.tr (L := mf_cM D k5) hE3 (by simp) (by simp)) (by simp) (by simp))
    refine lv_aload_n C.x C.b md_F_meet_99 rfl (lv_at hl 1 rfl) ?_
    refine mf_gfN C (ci := 1) (N := 6) rfl mi_O 5 (by decide) (C.ev.2.1.1 (81, "MatchFloor$Order", "left", "I") (List.mem_of_getElem? (i := 9) rfl)) ha3 (v := .int (mf_lf r - mn)) rfl md_F_meet_100 ?_
    refine lv_if_ne (tgt := 115) C.x C.b md_F_meet_103 (by decide) (fun h2 => ?_) (fun h2 => ?_)
    · refine mf_wv C.x C.b hr hlk md_F_meet_115 ⟨ks.set j (a, mf_setLf r (mf_lf r - mn)), ?_, ?_, ?_, ?_, hAc, ?_⟩ hE03 hH hS.2.2 (Nat.le_refl _) (Nat.le_refl _)
      · unfold mf_meet; rw [if_neg h1, hmn, ← hL]; show _ = if _ then _ else _; rw [if_neg h2]; exact mf_L_set _ _ _ _
      · unfold mf_meet; rw [if_neg h1]; exact hC3
      · unfold mf_meet; rw [if_neg h1, hmn]; exact hB
      · unfold mf_meet; rw [if_neg h1, hmn]; exact hca3
      · rw [mf_set_fst hq]; exact hni
    · skip
      have hq3 : (ks.set j (a, mf_setLf r (mf_lf r - mn)))[j]? = some (a, mf_setLf r (mf_lf r - mn)) := by rw [List.getElem?_set, if_pos rfl, if_pos hjn]
      have hel3 : ∀ b ∈ (ks.set j (a, mf_setLf r (mf_lf r - mn))).map (fun q => q.1), ∃ fs, va_at D mf_cl (b, .inr (1, fs)) H := fun b hb => by
        obtain ⟨q, hq1, hq2⟩ := List.mem_map.mp hb
        exact ⟨_, by rw [← hq2]; exact (hC3.2.2.2.1 q hq1).1⟩
      obtain ⟨ed3, mc3, hal3, -⟩ := id hC3.2.2.1
      refine lv_aload_n C.x C.b md_F_meet_106 rfl (lv_at hl 2 rfl) ?_
      refine mf_gf C (ci := 3) (N := 4) rfl mi_F 0 (by decide) mt_84 hC3.1 (v := .ref al) rfl md_F_meet_107 ?_
      refine lv_iload_n C.x C.b md_F_meet_110 rfl (lv_at hl 4 rfl) ?_
      refine mf_cws (va_runV (As := [.int (nI j)]) (rest := []) C.f (k_A_remove l D k5 t0 A H al j a _ hC3.2.2.1 (mf_kq hq3) hel3) (mf_cV C mt_312 mt_309 mt_4 mt_310 mt_311 mh_A_remove ⟨by decide, by decide⟩) (mf_preV C.ev hS (mf_rv C (ci := 0) (N := 3) rfl hal3)) rfl rfl hl.1 rfl (lv_room (Nat.le_of_ble_eq_true rfl)) md_F_meet_111 ⟨by first | omega | exact Nat.le_of_ble_eq_true rfl, by first | omega | exact Nat.le_of_ble_eq_true rfl⟩) hS (fun _ _ h => h.1) (fun H locs hB4 hz4 hk4 hS => ?_)
      have hE4 : mf_Eq A [D.1 0, k5.1] _ H := ⟨hz4, hk4⟩
      have hC4 := hC3.er C.nd hE4 hB4
      refine lv_pop C.x C.b md_F_meet_114 rfl ?_
      refine mf_wv C.x C.b hr hlk md_F_meet_115 ⟨(ks.set j (a, mf_setLf r (mf_lf r - mn))).eraseIdx j, ?_, ?_, ?_, ?_, hAc, ?_⟩ (hE03.tr (L := mf_cM D k5) hE4 (fun _ h => h) (by simp)) hH hS.2.2 (Nat.le_refl _) (Nat.le_refl _)
      · unfold mf_meet; rw [if_neg h1, hmn, ← hL]; show _ = if _ then _ else _; rw [if_pos h2, mf_set_erase]; exact (mf_map_erase _ _ _).symm
      · unfold mf_meet; rw [if_neg h1]; exact hC4
      · unfold mf_meet; rw [if_neg h1, hmn]; exact hB.cl C.nd hE4 (by simp)
      · unfold mf_meet; rw [if_neg h1, hmn]; exact hE4.ko hca3 (by simp [mf_nd C.nd (i := 1) (j := 0) rfl rfl (by decide), mf_nd C.nd (i := 1) (j := 5) rfl rfl (by decide)])
      · rw [mf_set_erase, ← mf_map_erase]; exact fun z => hni (List.mem_of_mem_eraseIdx z)
  · skip
    refine lv_aload_n C.x C.b md_F_meet_23 rfl (lv_at hl 1 rfl) ?_
    refine mf_gf C (ci := 3) (N := 4) rfl mi_F 0 (by decide) mt_84 hx (v := .ref al) rfl md_F_meet_24 ?_
    refine lv_iload_n C.x C.b md_F_meet_27 rfl (lv_at hl 3 rfl) ?_
    refine mf_cws (va_runV (As := [.int (nI j)]) (rest := []) C.f (k_A_remove l D k5 t0 A H al j a _ hAL (mf_kq hq) hel) (mf_cV C mt_312 mt_309 mt_4 mt_310 mt_311 mh_A_remove ⟨by decide, by decide⟩) (mf_preV C.ev hS (mf_rv C (ci := 0) (N := 3) rfl hal)) rfl rfl hl.1 rfl (lv_room (Nat.le_of_ble_eq_true rfl)) md_F_meet_28 ⟨by first | omega | exact Nat.le_of_ble_eq_true rfl, by first | omega | exact Nat.le_of_ble_eq_true rfl⟩) hS (fun _ _ h => h.1) (fun H locs hB hz hk hS => ?_)
    have hE1 : mf_Eq A [D.1 0, k5.1] _ H := ⟨hz, hk⟩
    have hC1 := hC.er C.nd hE1 hB
    refine lv_pop C.x C.b md_F_meet_31 rfl ?_
    refine lv_aload_n C.x C.b md_F_meet_32 rfl (lv_at hl 1 rfl) ?_
    refine lv_dup C.x C.b md_F_meet_33 rfl ?_
    refine mf_gf C (ci := 3) (N := 4) rfl mi_F 3 (by decide) mt_87 hC1.1 (v := .int met) rfl md_F_meet_34 ?_
    refine lv_iconst (v := 1) C.x C.b md_F_meet_37 (by decide) ?_
    refine lv_iadd C.x C.b md_F_meet_38 ?_
    refine mf_pf C (ci := 3) (N := 4) rfl mi_F mp_F mn_F 3 (by decide) mt_87 rfl (v := .int (met + 1)) rfl rfl hC1.1 (Nat.le_of_ble_eq_true rfl) (fs' := [.ref al, .ref tp, .int due, .int (met + 1)]) rfl hS hAx md_F_meet_39 (fun H2 locs hx2 hz2 ho2 hS => ?_)
    have hE2 : mf_Eq A [D.1 3] _ H2 := mf_Eq.one hz2 ho2 hAx (mf_co_o hC1.1)
    have hC2 := hC1.se C.nd hx2 hE2
    have hE3 : mf_Eq A (mf_cM D k5) _ H2 := hE1.tr (L := mf_cM D k5) hE2 (by simp) (by simp)
    have hE4 : mf_Eq A [D.1 0, k5.1, D.1 3] _ H2 := hE1.tr (L := [D.1 0, k5.1, D.1 3]) hE2 (by simp) (by simp)
    refine mf_wv C.x C.b hr hlk md_F_meet_42 ⟨ks.eraseIdx j, ?_, ?_, ?_, ?_, hAc, ?_⟩ hE3 hH hS.2.2 (Nat.le_refl _) (Nat.le_refl _)
    · unfold mf_meet; rw [if_pos h1, ← hL]; exact (mf_map_erase _ _ _).symm
    · unfold mf_meet; rw [if_pos h1]; exact hC2
    · unfold mf_meet; rw [if_pos h1]; exact hT.cl C.nd hE4 (by simp)
    · unfold mf_meet; rw [if_pos h1]; exact hE4.ko hca (by simp [mf_nd C.nd (i := 1) (j := 0) rfl rfl (by decide), mf_nd C.nd (i := 1) (j := 5) rfl rfl (by decide), mf_nd C.nd (i := 1) (j := 3) rfl rfl (by decide)])
    · rw [← mf_map_erase]; exact fun z => hni (List.mem_of_mem_eraseIdx z)
end
