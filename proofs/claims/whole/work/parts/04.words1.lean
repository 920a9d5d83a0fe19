/-! words of the tables -/
set_option maxRecDepth 20000 in
theorem mt_0 : (Cond.initialized "MatchFloorLaw") ∈ mf_tb := mf_in (i := 41) (by decide +kernel) (by decide +kernel)
set_option maxRecDepth 20000 in
theorem mt_1 : (Cond.initialized "MatchFloor") ∈ mf_tb := mf_in (i := 42) (by decide +kernel) (by decide +kernel)
set_option maxRecDepth 20000 in
theorem mt_2 : (Cond.initialized "java/util/AbstractCollection") ∈ mf_tb := mf_in (i := 43) (by decide +kernel) (by decide +kernel)
set_option maxRecDepth 20000 in
theorem mt_3 : (Cond.initialized "java/util/AbstractList") ∈ mf_tb := mf_in (i := 44) (by decide +kernel) (by decide +kernel)
set_option maxRecDepth 20000 in
theorem mt_4 : (Cond.initialized "java/util/ArrayList") ∈ mf_tb := mf_in (i := 45) (by decide +kernel) (by decide +kernel)
set_option maxRecDepth 20000 in
theorem mt_5 : (Cond.initialized "MatchFloor$Tape") ∈ mf_tb := mf_in (i := 46) (by decide +kernel) (by decide +kernel)
set_option maxRecDepth 20000 in
theorem mt_6 : (Cond.initialized "MatchFloorModel") ∈ mf_tb := mf_in (i := 47) (by decide +kernel) (by decide +kernel)
set_option maxRecDepth 20000 in
theorem mt_7 : (Cond.initialized "java/lang/Throwable") ∈ mf_tb := mf_in (i := 48) (by decide +kernel) (by decide +kernel)
set_option maxRecDepth 20000 in
theorem mt_8 : (Cond.initialized "java/lang/Exception") ∈ mf_tb := mf_in (i := 49) (by decide +kernel) (by decide +kernel)
set_option maxRecDepth 20000 in
theorem mt_9 : (Cond.initialized "java/lang/RuntimeException") ∈ mf_tb := mf_in (i := 50) (by decide +kernel) (by decide +kernel)
set_option maxRecDepth 20000 in
theorem mt_10 : (Cond.initialized "java/lang/IllegalArgumentException") ∈ mf_tb := mf_in (i := 51) (by decide +kernel) (by decide +kernel)
set_option maxRecDepth 20000 in
theorem mt_11 : (Cond.initialized "java/util/Objects") ∈ mf_tb := mf_in (i := 52) (by decide +kernel) (by decide +kernel)
set_option maxRecDepth 20000 in
theorem mt_12 : (Cond.initialized "jdk/internal/util/Preconditions") ∈ mf_tb := mf_in (i := 53) (by decide +kernel) (by decide +kernel)
set_option maxRecDepth 20000 in
theorem mt_13 : (Cond.initialized "java/lang/IllegalStateException") ∈ mf_tb := mf_in (i := 54) (by decide +kernel) (by decide +kernel)
set_option maxRecDepth 20000 in
theorem mt_14 : (Cond.initialized "MatchFloor$Order") ∈ mf_tb := mf_in (i := 55) (by decide +kernel) (by decide +kernel)
set_option maxRecDepth 20000 in
theorem mt_15 : (Cond.initialized "java/lang/System") ∈ mf_tb := mf_in (i := 56) (by decide +kernel) (by decide +kernel)
set_option maxRecDepth 20000 in
theorem mt_16 : (Cond.initialized "java/lang/Math") ∈ mf_tb := mf_in (i := 57) (by decide +kernel) (by decide +kernel)
set_option maxRecDepth 20000 in
theorem mt_17 : (Cond.initialized "jdk/internal/util/ArraysSupport") ∈ mf_tb := mf_in (i := 58) (by decide +kernel) (by decide +kernel)
set_option maxRecDepth 20000 in
theorem mt_18 : (Cond.initialized "java/util/Arrays") ∈ mf_tb := mf_in (i := 59) (by decide +kernel) (by decide +kernel)
set_option maxRecDepth 20000 in
theorem mt_19 : (Cond.initialized "java/util/NoSuchElementException") ∈ mf_tb := mf_in (i := 60) (by decide +kernel) (by decide +kernel)
set_option maxRecDepth 20000 in
theorem mt_20 : (Cond.initialized "java/lang/IndexOutOfBoundsException") ∈ mf_tb := mf_in (i := 61) (by decide +kernel) (by decide +kernel)
set_option maxRecDepth 20000 in
theorem mt_21 : (Cond.classLink "MatchFloorLaw" 8 "MatchFloor") ∈ mf_tb := mf_in (i := 62) (by decide +kernel) (by decide +kernel)
set_option maxRecDepth 20000 in
theorem mt_22 : (Cond.instantiable "MatchFloor" 4) ∈ mf_tb := mf_in (i := 63) (by decide +kernel) (by decide +kernel)
set_option maxRecDepth 20000 in
theorem mt_23 : (Cond.methodLink "MatchFloorLaw" 48 ⟨"MatchFloor", "<init>", "()V"⟩) ∈ mf_tb := mf_in (i := 64) (by decide +kernel) (by decide +kernel)
set_option maxRecDepth 20000 in
theorem mt_24 : (Cond.instanceMethod ⟨"MatchFloor", "<init>", "()V"⟩) ∈ mf_tb := mf_in (i := 65) (by decide +kernel) (by decide +kernel)
set_option maxRecDepth 20000 in
theorem mt_25 : (Cond.code ⟨"MatchFloor", "<init>", "()V"⟩ prog_1_method_1_code 1 (Option.none : Option FieldType)) ∈ mf_tb := mf_in (i := 66) (by rfl) (by rfl)
set_option maxRecDepth 20000 in
theorem mt_26 : (Cond.methodLink "MatchFloor" 1 ⟨"java/lang/Object", "<init>", "()V"⟩) ∈ mf_tb := mf_in (i := 67) (by decide +kernel) (by decide +kernel)
set_option maxRecDepth 20000 in
theorem mt_27 : (Cond.instanceMethod ⟨"java/lang/Object", "<init>", "()V"⟩) ∈ mf_tb := mf_in (i := 68) (by decide +kernel) (by decide +kernel)
set_option maxRecDepth 20000 in
theorem mt_28 : (Cond.code ⟨"java/lang/Object", "<init>", "()V"⟩ object_method_1_code 1 (Option.none : Option FieldType)) ∈ mf_tb := mf_in (i := 69) (by rfl) (by rfl)
set_option maxRecDepth 20000 in
theorem mt_29 : (Cond.classLink "MatchFloor" 7 "java/util/ArrayList") ∈ mf_tb := mf_in (i := 70) (by decide +kernel) (by decide +kernel)
set_option maxRecDepth 20000 in
theorem mt_30 : (Cond.instantiable "java/util/ArrayList" 3) ∈ mf_tb := mf_in (i := 71) (by decide +kernel) (by decide +kernel)
set_option maxRecDepth 20000 in
theorem mt_31 : (Cond.methodLink "MatchFloor" 9 ⟨"java/util/ArrayList", "<init>", "()V"⟩) ∈ mf_tb := mf_in (i := 72) (by decide +kernel) (by decide +kernel)
set_option maxRecDepth 20000 in
theorem mt_32 : (Cond.instanceMethod ⟨"java/util/ArrayList", "<init>", "()V"⟩) ∈ mf_tb := mf_in (i := 73) (by decide +kernel) (by decide +kernel)
set_option maxRecDepth 20000 in
theorem mt_33 : (Cond.code ⟨"java/util/ArrayList", "<init>", "()V"⟩ prog_20_method_2_code 1 (Option.none : Option FieldType)) ∈ mf_tb := mf_in (i := 74) (by rfl) (by rfl)
set_option maxRecDepth 20000 in
theorem mt_34 : (Cond.methodLink "java/util/ArrayList" 1 ⟨"java/util/AbstractList", "<init>", "()V"⟩) ∈ mf_tb := mf_in (i := 75) (by decide +kernel) (by decide +kernel)
set_option maxRecDepth 20000 in
theorem mt_35 : (Cond.instanceMethod ⟨"java/util/AbstractList", "<init>", "()V"⟩) ∈ mf_tb := mf_in (i := 76) (by decide +kernel) (by decide +kernel)
set_option maxRecDepth 20000 in
theorem mt_36 : (Cond.code ⟨"java/util/AbstractList", "<init>", "()V"⟩ prog_19_method_1_code 1 (Option.none : Option FieldType)) ∈ mf_tb := mf_in (i := 77) (by rfl) (by rfl)
set_option maxRecDepth 20000 in
theorem mt_37 : (Cond.methodLink "java/util/AbstractList" 1 ⟨"java/util/AbstractCollection", "<init>", "()V"⟩) ∈ mf_tb := mf_in (i := 78) (by decide +kernel) (by decide +kernel)
set_option maxRecDepth 20000 in
theorem mt_38 : (Cond.instanceMethod ⟨"java/util/AbstractCollection", "<init>", "()V"⟩) ∈ mf_tb := mf_in (i := 79) (by decide +kernel) (by decide +kernel)
set_option maxRecDepth 20000 in
theorem mt_39 : (Cond.code ⟨"java/util/AbstractCollection", "<init>", "()V"⟩ prog_18_method_1_code 1 (Option.none : Option FieldType)) ∈ mf_tb := mf_in (i := 80) (by rfl) (by rfl)
set_option maxRecDepth 20000 in
theorem mt_40 : (Cond.methodLink "java/util/AbstractCollection" 1 ⟨"java/lang/Object", "<init>", "()V"⟩) ∈ mf_tb := mf_in (i := 81) (by decide +kernel) (by decide +kernel)
set_option maxRecDepth 20000 in
theorem mt_41 : (Cond.fieldLink "java/util/ArrayList" 39 "java/util/ArrayList" "DEFAULTCAPACITY_EMPTY_ELEMENTDATA" "[Ljava/lang/Object;") ∈ mf_tb := mf_in (i := 82) (by decide +kernel) (by decide +kernel)
set_option maxRecDepth 20000 in
theorem mt_43 : (Cond.fieldLink "java/util/ArrayList" 9 "java/util/ArrayList" "elementData" "[Ljava/lang/Object;") ∈ mf_tb := mf_in (i := 84) (by decide +kernel) (by decide +kernel)
set_option maxRecDepth 20000 in
theorem mt_44 : (Cond.fieldLink "java/util/ArrayList" 48 "java/util/ArrayList" "size" "I") ∈ mf_tb := mf_in (i := 85) (by decide +kernel) (by decide +kernel)
set_option maxRecDepth 20000 in
theorem mt_45 : (Cond.fieldLink "java/util/AbstractList" 7 "java/util/AbstractList" "modCount" "I") ∈ mf_tb := mf_in (i := 86) (by decide +kernel) (by decide +kernel)
set_option maxRecDepth 20000 in
theorem mt_46 : (Cond.fieldLink "java/util/ArrayList" 63 "java/util/ArrayList" "modCount" "I") ∈ mf_tb := mf_in (i := 87) (by decide +kernel) (by decide +kernel)
set_option maxRecDepth 20000 in
theorem mt_47 : (Cond.sameField "java/util/ArrayList" "java/util/AbstractList" "modCount" "I") ∈ mf_tb := mf_in (i := 88) (by decide +kernel) (by decide +kernel)
set_option maxRecDepth 20000 in
theorem mt_48 : (Cond.lays "java/util/ArrayList" "java/util/ArrayList" "elementData" "[Ljava/lang/Object;") ∈ mf_tb := mf_in (i := 89) (by decide +kernel) (by decide +kernel)
set_option maxRecDepth 20000 in
theorem mt_50 : (Cond.lays "java/util/ArrayList" "java/util/ArrayList" "size" "I") ∈ mf_tb := mf_in (i := 91) (by decide +kernel) (by decide +kernel)
set_option maxRecDepth 20000 in
theorem mt_52 : (Cond.lays "java/util/ArrayList" "java/util/AbstractList" "modCount" "I") ∈ mf_tb := mf_in (i := 93) (by decide +kernel) (by decide +kernel)
set_option maxRecDepth 20000 in
theorem mt_55 : (Cond.classLink "MatchFloor" 16 "MatchFloor$Tape") ∈ mf_tb := mf_in (i := 96) (by decide +kernel) (by decide +kernel)
set_option maxRecDepth 20000 in
theorem mt_56 : (Cond.instantiable "MatchFloor$Tape" 5) ∈ mf_tb := mf_in (i := 97) (by decide +kernel) (by decide +kernel)
set_option maxRecDepth 20000 in
theorem mt_58 : (Cond.instanceMethod ⟨"MatchFloor$Tape", "<init>", "()V"⟩) ∈ mf_tb := mf_in (i := 99) (by decide +kernel) (by decide +kernel)
set_option maxRecDepth 20000 in
theorem mt_59 : (Cond.code ⟨"MatchFloor$Tape", "<init>", "()V"⟩ prog_3_method_1_code 1 (Option.none : Option FieldType)) ∈ mf_tb := mf_in (i := 100) (by rfl) (by rfl)
set_option maxRecDepth 20000 in
theorem mt_60 : (Cond.methodLink "MatchFloor$Tape" 3 ⟨"java/lang/Object", "<init>", "()V"⟩) ∈ mf_tb := mf_in (i := 101) (by decide +kernel) (by decide +kernel)
set_option maxRecDepth 20000 in
theorem mt_61 : (Cond.classLink "MatchFloor$Tape" 11 "[[I") ∈ mf_tb := mf_in (i := 102) (by decide +kernel) (by decide +kernel)
set_option maxRecDepth 20000 in
theorem mt_63 : (Cond.fieldLink "MatchFloor$Tape" 13 "MatchFloor$Tape" "rows" "[[I") ∈ mf_tb := mf_in (i := 104) (by decide +kernel) (by decide +kernel)
set_option maxRecDepth 20000 in
theorem mt_64 : (Cond.fieldLink "MatchFloor$Tape" 20 "MatchFloor$Tape" "count" "I") ∈ mf_tb := mf_in (i := 105) (by decide +kernel) (by decide +kernel)
set_option maxRecDepth 20000 in
theorem mt_66 : (Cond.fieldLink "MatchFloor$Tape" 16 "MatchFloor$Tape" "lastPrice" "I") ∈ mf_tb := mf_in (i := 107) (by decide +kernel) (by decide +kernel)
set_option maxRecDepth 20000 in
theorem mt_68 : (Cond.fieldLink "MatchFloor$Tape" 29 "MatchFloor$Tape" "quantity" "I") ∈ mf_tb := mf_in (i := 109) (by decide +kernel) (by decide +kernel)
set_option maxRecDepth 20000 in
theorem mt_70 : (Cond.fieldLink "MatchFloor$Tape" 32 "MatchFloor$Tape" "worth" "J") ∈ mf_tb := mf_in (i := 111) (by decide +kernel) (by decide +kernel)
set_option maxRecDepth 20000 in
theorem mt_72 : (Cond.laysFinal "MatchFloor$Tape" "MatchFloor$Tape" "rows" "[[I") ∈ mf_tb := mf_in (i := 113) (by decide +kernel) (by decide +kernel)
set_option maxRecDepth 20000 in
theorem mt_74 : (Cond.lays "MatchFloor$Tape" "MatchFloor$Tape" "count" "I") ∈ mf_tb := mf_in (i := 115) (by decide +kernel) (by decide +kernel)
set_option maxRecDepth 20000 in
theorem mt_76 : (Cond.lays "MatchFloor$Tape" "MatchFloor$Tape" "lastPrice" "I") ∈ mf_tb := mf_in (i := 117) (by decide +kernel) (by decide +kernel)
set_option maxRecDepth 20000 in
theorem mt_78 : (Cond.lays "MatchFloor$Tape" "MatchFloor$Tape" "quantity" "I") ∈ mf_tb := mf_in (i := 119) (by decide +kernel) (by decide +kernel)
set_option maxRecDepth 20000 in
theorem mt_80 : (Cond.lays "MatchFloor$Tape" "MatchFloor$Tape" "worth" "J") ∈ mf_tb := mf_in (i := 121) (by decide +kernel) (by decide +kernel)
set_option maxRecDepth 20000 in
theorem mt_83 : (Cond.arrayClass FieldType.int) ∈ mf_tb := mf_in (i := 124) (by decide +kernel) (by decide +kernel)
set_option maxRecDepth 20000 in
theorem mt_84 : (Cond.fieldLink "MatchFloor" 10 "MatchFloor" "kept" "Ljava/util/ArrayList;") ∈ mf_tb := mf_in (i := 125) (by decide +kernel) (by decide +kernel)
set_option maxRecDepth 20000 in
theorem mt_85 : (Cond.fieldLink "MatchFloor" 19 "MatchFloor" "tape" "LMatchFloor$Tape;") ∈ mf_tb := mf_in (i := 126) (by decide +kernel) (by decide +kernel)
set_option maxRecDepth 20000 in
theorem mt_86 : (Cond.fieldLink "MatchFloor" 151 "MatchFloor" "dueStops" "I") ∈ mf_tb := mf_in (i := 127) (by decide +kernel) (by decide +kernel)
set_option maxRecDepth 20000 in
theorem mt_87 : (Cond.fieldLink "MatchFloor" 154 "MatchFloor" "metTheirOwner" "I") ∈ mf_tb := mf_in (i := 128) (by decide +kernel) (by decide +kernel)
set_option maxRecDepth 20000 in
theorem mt_88 : (Cond.laysFinal "MatchFloor" "MatchFloor" "kept" "Ljava/util/ArrayList;") ∈ mf_tb := mf_in (i := 129) (by decide +kernel) (by decide +kernel)
set_option maxRecDepth 20000 in
theorem mt_90 : (Cond.laysFinal "MatchFloor" "MatchFloor" "tape" "LMatchFloor$Tape;") ∈ mf_tb := mf_in (i := 131) (by decide +kernel) (by decide +kernel)
set_option maxRecDepth 20000 in
theorem mt_92 : (Cond.lays "MatchFloor" "MatchFloor" "dueStops" "I") ∈ mf_tb := mf_in (i := 133) (by decide +kernel) (by decide +kernel)
set_option maxRecDepth 20000 in
theorem mt_94 : (Cond.lays "MatchFloor" "MatchFloor" "metTheirOwner" "I") ∈ mf_tb := mf_in (i := 135) (by decide +kernel) (by decide +kernel)
set_option maxRecDepth 20000 in
theorem mt_97 : (Cond.methodLink "MatchFloorLaw" 86 ⟨"MatchFloor", "fills", "()I"⟩) ∈ mf_tb := mf_in (i := 138) (by decide +kernel) (by decide +kernel)
set_option maxRecDepth 20000 in
theorem mt_98 : (Cond.instanceMethod ⟨"MatchFloor", "fills", "()I"⟩) ∈ mf_tb := mf_in (i := 139) (by decide +kernel) (by decide +kernel)
set_option maxRecDepth 20000 in
theorem mt_99 : (Cond.selects "MatchFloor" ⟨"MatchFloor", "fills", "()I"⟩ ⟨"MatchFloor", "fills", "()I"⟩) ∈ mf_tb := mf_in (i := 140) (by decide +kernel) (by decide +kernel)
set_option maxRecDepth 20000 in
theorem mt_100 : (Cond.code ⟨"MatchFloor", "fills", "()I"⟩ prog_1_method_10_code 1 (Option.some FieldType.int)) ∈ mf_tb := mf_in (i := 141) (by rfl) (by rfl)
set_option maxRecDepth 20000 in
theorem mt_101 : (Cond.methodLink "MatchFloorLaw" 90 ⟨"MatchFloor", "last", "()I"⟩) ∈ mf_tb := mf_in (i := 142) (by decide +kernel) (by decide +kernel)
set_option maxRecDepth 20000 in
theorem mt_102 : (Cond.instanceMethod ⟨"MatchFloor", "last", "()I"⟩) ∈ mf_tb := mf_in (i := 143) (by decide +kernel) (by decide +kernel)
set_option maxRecDepth 20000 in
theorem mt_103 : (Cond.selects "MatchFloor" ⟨"MatchFloor", "last", "()I"⟩ ⟨"MatchFloor", "last", "()I"⟩) ∈ mf_tb := mf_in (i := 144) (by decide +kernel) (by decide +kernel)
set_option maxRecDepth 20000 in
theorem mt_104 : (Cond.code ⟨"MatchFloor", "last", "()I"⟩ prog_1_method_11_code 1 (Option.some FieldType.int)) ∈ mf_tb := mf_in (i := 145) (by rfl) (by rfl)
set_option maxRecDepth 20000 in
theorem mt_105 : (Cond.methodLink "MatchFloorLaw" 94 ⟨"MatchFloor", "turnover", "()J"⟩) ∈ mf_tb := mf_in (i := 146) (by decide +kernel) (by decide +kernel)
set_option maxRecDepth 20000 in
theorem mt_106 : (Cond.instanceMethod ⟨"MatchFloor", "turnover", "()J"⟩) ∈ mf_tb := mf_in (i := 147) (by decide +kernel) (by decide +kernel)
set_option maxRecDepth 20000 in
theorem mt_107 : (Cond.selects "MatchFloor" ⟨"MatchFloor", "turnover", "()J"⟩ ⟨"MatchFloor", "turnover", "()J"⟩) ∈ mf_tb := mf_in (i := 148) (by decide +kernel) (by decide +kernel)
set_option maxRecDepth 20000 in
theorem mt_108 : (Cond.code ⟨"MatchFloor", "turnover", "()J"⟩ prog_1_method_12_code 1 (Option.some FieldType.long)) ∈ mf_tb := mf_in (i := 149) (by rfl) (by rfl)
set_option maxRecDepth 20000 in
theorem mt_109 : (Cond.methodLink "MatchFloorLaw" 52 ⟨"MatchFloorLaw", "submit", "(LMatchFloor;IIII[J)I"⟩) ∈ mf_tb := mf_in (i := 150) (by decide +kernel) (by decide +kernel)
set_option maxRecDepth 20000 in
theorem mt_110 : (Cond.static ⟨"MatchFloorLaw", "submit", "(LMatchFloor;IIII[J)I"⟩) ∈ mf_tb := mf_in (i := 151) (by decide +kernel) (by decide +kernel)
set_option maxRecDepth 20000 in
theorem mt_111 : (Cond.codeWith ⟨"MatchFloorLaw", "submit", "(LMatchFloor;IIII[J)I"⟩ method_3_code 7 (Option.some FieldType.int) [(0, 14, 17, 13), (0, 14, 21, 15)]) ∈ mf_tb := mf_in (i := 152) (by rfl) (by rfl)
set_option maxRecDepth 20000 in
theorem mt_112 : (Cond.classLink "MatchFloorLaw" 13 "java/lang/IllegalArgumentException") ∈ mf_tb := mf_in (i := 153) (by decide +kernel) (by decide +kernel)
set_option maxRecDepth 20000 in
theorem mt_113 : (Cond.classLink "MatchFloorLaw" 15 "java/lang/IllegalStateException") ∈ mf_tb := mf_in (i := 154) (by decide +kernel) (by decide +kernel)
set_option maxRecDepth 20000 in
theorem mt_114 : (Cond.methodLink "MatchFloorLaw" 7 ⟨"MatchFloor", "submit", "(IIII)I"⟩) ∈ mf_tb := mf_in (i := 155) (by decide +kernel) (by decide +kernel)
set_option maxRecDepth 20000 in
theorem mt_115 : (Cond.instanceMethod ⟨"MatchFloor", "submit", "(IIII)I"⟩) ∈ mf_tb := mf_in (i := 156) (by decide +kernel) (by decide +kernel)
set_option maxRecDepth 20000 in
theorem mt_116 : (Cond.selects "MatchFloor" ⟨"MatchFloor", "submit", "(IIII)I"⟩ ⟨"MatchFloor", "submit", "(IIII)I"⟩) ∈ mf_tb := mf_in (i := 157) (by decide +kernel) (by decide +kernel)
set_option maxRecDepth 20000 in
theorem mt_117 : (Cond.code ⟨"MatchFloor", "submit", "(IIII)I"⟩ prog_1_method_2_code 7 (Option.some FieldType.int)) ∈ mf_tb := mf_in (i := 158) (by rfl) (by rfl)
set_option maxRecDepth 20000 in
theorem mt_118 : (Cond.methodLink "MatchFloor" 23 ⟨"MatchFloor", "kindOf", "(I)I"⟩) ∈ mf_tb := mf_in (i := 159) (by decide +kernel) (by decide +kernel)
set_option maxRecDepth 20000 in
theorem mt_119 : (Cond.static ⟨"MatchFloor", "kindOf", "(I)I"⟩) ∈ mf_tb := mf_in (i := 160) (by decide +kernel) (by decide +kernel)
set_option maxRecDepth 20000 in
theorem mt_120 : (Cond.code ⟨"MatchFloor", "kindOf", "(I)I"⟩ prog_1_method_14_code 1 (Option.some FieldType.int)) ∈ mf_tb := mf_in (i := 161) (by rfl) (by rfl)
set_option maxRecDepth 20000 in
theorem mt_121 : (Cond.classLink "MatchFloor" 27 "java/lang/IllegalArgumentException") ∈ mf_tb := mf_in (i := 162) (by decide +kernel) (by decide +kernel)
set_option maxRecDepth 20000 in
theorem mt_122 : (Cond.instantiable "java/lang/IllegalArgumentException" 6) ∈ mf_tb := mf_in (i := 163) (by decide +kernel) (by decide +kernel)
set_option maxRecDepth 20000 in
theorem mt_130 : (Cond.selects "java/lang/IllegalArgumentException" ⟨"java/lang/Throwable", "fillInStackTrace", "(I)Ljava/lang/Throwable;"⟩ ⟨"java/lang/Throwable", "fillInStackTrace", "(I)Ljava/lang/Throwable;"⟩) ∈ mf_tb := mf_in (i := 171) (by decide +kernel) (by decide +kernel)
set_option maxRecDepth 20000 in
theorem mt_131 : (Cond.selects "java/lang/IllegalArgumentException" ⟨"java/lang/Throwable", "fillInStackTrace", "()Ljava/lang/Throwable;"⟩ ⟨"java/lang/Throwable", "fillInStackTrace", "()Ljava/lang/Throwable;"⟩) ∈ mf_tb := mf_in (i := 172) (by decide +kernel) (by decide +kernel)
set_option maxRecDepth 20000 in
theorem mt_132 : (Cond.lays "java/lang/IllegalArgumentException" "java/lang/Throwable" "cause" "Ljava/lang/Throwable;") ∈ mf_tb := mf_in (i := 173) (by decide +kernel) (by decide +kernel)
set_option maxRecDepth 20000 in
theorem mt_133 : (Cond.lays "java/lang/Throwable" "java/lang/Throwable" "cause" "Ljava/lang/Throwable;") ∈ mf_tb := mf_in (i := 174) (by decide +kernel) (by decide +kernel)
set_option maxRecDepth 20000 in
theorem mt_134 : (Cond.lays "java/lang/IllegalArgumentException" "java/lang/Throwable" "stackTrace" "[Ljava/lang/StackTraceElement;") ∈ mf_tb := mf_in (i := 175) (by decide +kernel) (by decide +kernel)
set_option maxRecDepth 20000 in
theorem mt_135 : (Cond.lays "java/lang/Throwable" "java/lang/Throwable" "stackTrace" "[Ljava/lang/StackTraceElement;") ∈ mf_tb := mf_in (i := 176) (by decide +kernel) (by decide +kernel)
set_option maxRecDepth 20000 in
theorem mt_136 : (Cond.lays "java/lang/IllegalArgumentException" "java/lang/Throwable" "suppressedExceptions" "Ljava/util/List;") ∈ mf_tb := mf_in (i := 177) (by decide +kernel) (by decide +kernel)
set_option maxRecDepth 20000 in
theorem mt_137 : (Cond.lays "java/lang/Throwable" "java/lang/Throwable" "suppressedExceptions" "Ljava/util/List;") ∈ mf_tb := mf_in (i := 178) (by decide +kernel) (by decide +kernel)
set_option maxRecDepth 20000 in
theorem mt_138 : (Cond.lays "java/lang/IllegalArgumentException" "java/lang/Throwable" "detailMessage" "Ljava/lang/String;") ∈ mf_tb := mf_in (i := 179) (by decide +kernel) (by decide +kernel)
set_option maxRecDepth 20000 in
theorem mt_139 : (Cond.lays "java/lang/Throwable" "java/lang/Throwable" "detailMessage" "Ljava/lang/String;") ∈ mf_tb := mf_in (i := 180) (by decide +kernel) (by decide +kernel)
set_option maxRecDepth 20000 in
theorem mt_140 : (Cond.lays "java/lang/IllegalArgumentException" "java/lang/Throwable" "backtrace" "Ljava/lang/Object;") ∈ mf_tb := mf_in (i := 181) (by decide +kernel) (by decide +kernel)
set_option maxRecDepth 20000 in
theorem mt_141 : (Cond.lays "java/lang/Throwable" "java/lang/Throwable" "backtrace" "Ljava/lang/Object;") ∈ mf_tb := mf_in (i := 182) (by decide +kernel) (by decide +kernel)
set_option maxRecDepth 20000 in
theorem mt_142 : (Cond.fieldLink "java/lang/Throwable" 198 "java/lang/Throwable" "backtrace" "Ljava/lang/Object;") ∈ mf_tb := mf_in (i := 183) (by decide +kernel) (by decide +kernel)
set_option maxRecDepth 20000 in
theorem mt_144 : (Cond.instanceMethod ⟨"java/lang/Throwable", "<init>", "()V"⟩) ∈ mf_tb := mf_in (i := 185) (by decide +kernel) (by decide +kernel)
set_option maxRecDepth 20000 in
theorem mt_145 : (Cond.code ⟨"java/lang/Throwable", "<init>", "()V"⟩ prog_17_method_1_code 1 (Option.none : Option FieldType)) ∈ mf_tb := mf_in (i := 186) (by rfl) (by rfl)
set_option maxRecDepth 20000 in
theorem mt_146 : (Cond.methodLink "java/lang/Throwable" 1 ⟨"java/lang/Object", "<init>", "()V"⟩) ∈ mf_tb := mf_in (i := 187) (by decide +kernel) (by decide +kernel)
set_option maxRecDepth 20000 in
theorem mt_147 : (Cond.fieldLink "java/lang/Throwable" 13 "java/lang/Throwable" "UNASSIGNED_STACK" "[Ljava/lang/StackTraceElement;") ∈ mf_tb := mf_in (i := 188) (by decide +kernel) (by decide +kernel)
set_option maxRecDepth 20000 in
theorem mt_149 : (Cond.fieldLink "java/lang/Throwable" 20 "java/lang/Throwable" "SUPPRESSED_SENTINEL" "Ljava/util/List;") ∈ mf_tb := mf_in (i := 190) (by decide +kernel) (by decide +kernel)
set_option maxRecDepth 20000 in
theorem mt_151 : (Cond.methodLink "java/lang/Throwable" 27 ⟨"java/lang/Throwable", "fillInStackTrace", "()Ljava/lang/Throwable;"⟩) ∈ mf_tb := mf_in (i := 192) (by decide +kernel) (by decide +kernel)
set_option maxRecDepth 20000 in
theorem mt_152 : (Cond.instanceMethod ⟨"java/lang/Throwable", "fillInStackTrace", "()Ljava/lang/Throwable;"⟩) ∈ mf_tb := mf_in (i := 193) (by decide +kernel) (by decide +kernel)
set_option maxRecDepth 20000 in
theorem mt_154 : (Cond.selects "java/lang/IllegalStateException" ⟨"java/lang/Throwable", "fillInStackTrace", "()Ljava/lang/Throwable;"⟩ ⟨"java/lang/Throwable", "fillInStackTrace", "()Ljava/lang/Throwable;"⟩) ∈ mf_tb := mf_in (i := 195) (by decide +kernel) (by decide +kernel)
set_option maxRecDepth 20000 in
theorem mt_155 : (Cond.selects "java/lang/IndexOutOfBoundsException" ⟨"java/lang/Throwable", "fillInStackTrace", "()Ljava/lang/Throwable;"⟩ ⟨"java/lang/Throwable", "fillInStackTrace", "()Ljava/lang/Throwable;"⟩) ∈ mf_tb := mf_in (i := 196) (by decide +kernel) (by decide +kernel)
set_option maxRecDepth 20000 in
theorem mt_156 : (Cond.selects "java/util/NoSuchElementException" ⟨"java/lang/Throwable", "fillInStackTrace", "()Ljava/lang/Throwable;"⟩ ⟨"java/lang/Throwable", "fillInStackTrace", "()Ljava/lang/Throwable;"⟩) ∈ mf_tb := mf_in (i := 197) (by decide +kernel) (by decide +kernel)
set_option maxRecDepth 20000 in
theorem mt_158 : (Cond.methodLink "java/lang/Throwable" 202 ⟨"java/lang/Throwable", "fillInStackTrace", "(I)Ljava/lang/Throwable;"⟩) ∈ mf_tb := mf_in (i := 199) (by decide +kernel) (by decide +kernel)
set_option maxRecDepth 20000 in
theorem mt_160 : (Cond.instanceMethod ⟨"java/lang/Throwable", "fillInStackTrace", "(I)Ljava/lang/Throwable;"⟩) ∈ mf_tb := mf_in (i := 201) (by decide +kernel) (by decide +kernel)
set_option maxRecDepth 20000 in
theorem mt_161 : (Cond.instantiable "java/lang/Throwable" 6) ∈ mf_tb := mf_in (i := 202) (by decide +kernel) (by decide +kernel)
set_option maxRecDepth 20000 in
theorem mt_162 : (Cond.native ⟨"java/lang/Throwable", "fillInStackTrace", "(I)Ljava/lang/Throwable;"⟩) ∈ mf_tb := mf_in (i := 203) (by decide +kernel) (by decide +kernel)
set_option maxRecDepth 20000 in
theorem mt_164 : (Cond.methodLink "MatchFloor" 31 ⟨"java/lang/IllegalArgumentException", "<init>", "(Ljava/lang/String;)V"⟩) ∈ mf_tb := mf_in (i := 205) (by decide +kernel) (by decide +kernel)
set_option maxRecDepth 20000 in
theorem mt_165 : (Cond.instanceMethod ⟨"java/lang/IllegalArgumentException", "<init>", "(Ljava/lang/String;)V"⟩) ∈ mf_tb := mf_in (i := 206) (by decide +kernel) (by decide +kernel)
set_option maxRecDepth 20000 in
theorem mt_166 : (Cond.code ⟨"java/lang/IllegalArgumentException", "<init>", "(Ljava/lang/String;)V"⟩ prog_9_method_2_code 2 (Option.none : Option FieldType)) ∈ mf_tb := mf_in (i := 207) (by rfl) (by rfl)
set_option maxRecDepth 20000 in
theorem mt_167 : (Cond.methodLink "java/lang/IllegalArgumentException" 7 ⟨"java/lang/RuntimeException", "<init>", "(Ljava/lang/String;)V"⟩) ∈ mf_tb := mf_in (i := 208) (by decide +kernel) (by decide +kernel)
set_option maxRecDepth 20000 in
theorem mt_168 : (Cond.instanceMethod ⟨"java/lang/RuntimeException", "<init>", "(Ljava/lang/String;)V"⟩) ∈ mf_tb := mf_in (i := 209) (by decide +kernel) (by decide +kernel)
set_option maxRecDepth 20000 in
theorem mt_169 : (Cond.code ⟨"java/lang/RuntimeException", "<init>", "(Ljava/lang/String;)V"⟩ prog_14_method_2_code 2 (Option.none : Option FieldType)) ∈ mf_tb := mf_in (i := 210) (by rfl) (by rfl)
set_option maxRecDepth 20000 in
theorem mt_170 : (Cond.methodLink "java/lang/RuntimeException" 7 ⟨"java/lang/Exception", "<init>", "(Ljava/lang/String;)V"⟩) ∈ mf_tb := mf_in (i := 211) (by decide +kernel) (by decide +kernel)
set_option maxRecDepth 20000 in
theorem mt_171 : (Cond.instanceMethod ⟨"java/lang/Exception", "<init>", "(Ljava/lang/String;)V"⟩) ∈ mf_tb := mf_in (i := 212) (by decide +kernel) (by decide +kernel)
set_option maxRecDepth 20000 in
theorem mt_172 : (Cond.code ⟨"java/lang/Exception", "<init>", "(Ljava/lang/String;)V"⟩ prog_8_method_2_code 2 (Option.none : Option FieldType)) ∈ mf_tb := mf_in (i := 213) (by rfl) (by rfl)
set_option maxRecDepth 20000 in
theorem mt_173 : (Cond.methodLink "java/lang/Exception" 7 ⟨"java/lang/Throwable", "<init>", "(Ljava/lang/String;)V"⟩) ∈ mf_tb := mf_in (i := 214) (by decide +kernel) (by decide +kernel)
set_option maxRecDepth 20000 in
theorem mt_174 : (Cond.instanceMethod ⟨"java/lang/Throwable", "<init>", "(Ljava/lang/String;)V"⟩) ∈ mf_tb := mf_in (i := 215) (by decide +kernel) (by decide +kernel)
set_option maxRecDepth 20000 in
theorem mt_175 : (Cond.code ⟨"java/lang/Throwable", "<init>", "(Ljava/lang/String;)V"⟩ prog_17_method_2_code 2 (Option.none : Option FieldType)) ∈ mf_tb := mf_in (i := 216) (by rfl) (by rfl)
set_option maxRecDepth 20000 in
theorem mt_176 : (Cond.fieldLink "java/lang/Throwable" 198 "java/lang/Throwable" "backtrace" "Ljava/lang/Object;") ∈ mf_tb := mf_in (i := 217) (by decide +kernel) (by decide +kernel)
set_option maxRecDepth 20000 in
theorem mt_177 : (Cond.fieldLink "java/lang/Throwable" 31 "java/lang/Throwable" "detailMessage" "Ljava/lang/String;") ∈ mf_tb := mf_in (i := 218) (by decide +kernel) (by decide +kernel)
set_option maxRecDepth 20000 in
theorem mt_178 : (Cond.fieldLink "java/lang/Throwable" 7 "java/lang/Throwable" "cause" "Ljava/lang/Throwable;") ∈ mf_tb := mf_in (i := 219) (by decide +kernel) (by decide +kernel)
set_option maxRecDepth 20000 in
theorem mt_179 : (Cond.fieldLink "java/lang/Throwable" 17 "java/lang/Throwable" "stackTrace" "[Ljava/lang/StackTraceElement;") ∈ mf_tb := mf_in (i := 220) (by decide +kernel) (by decide +kernel)
set_option maxRecDepth 20000 in
theorem mt_180 : (Cond.fieldLink "java/lang/Throwable" 24 "java/lang/Throwable" "suppressedExceptions" "Ljava/util/List;") ∈ mf_tb := mf_in (i := 221) (by decide +kernel) (by decide +kernel)
set_option maxRecDepth 20000 in
theorem mt_185 : (Cond.lays "java/lang/IllegalArgumentException" "java/lang/Throwable" "depth" "I") ∈ mf_tb := mf_in (i := 226) (by decide +kernel) (by decide +kernel)
set_option maxRecDepth 20000 in
theorem mt_189 : (Cond.arrayClass FieldType.byte) ∈ mf_tb := mf_in (i := 230) (by decide +kernel) (by decide +kernel)
set_option maxRecDepth 20000 in
theorem mt_190 : (Cond.methodLink "MatchFloor" 34 ⟨"MatchFloor", "isPrice", "(I)Z"⟩) ∈ mf_tb := mf_in (i := 231) (by decide +kernel) (by decide +kernel)
set_option maxRecDepth 20000 in
theorem mt_191 : (Cond.static ⟨"MatchFloor", "isPrice", "(I)Z"⟩) ∈ mf_tb := mf_in (i := 232) (by decide +kernel) (by decide +kernel)
set_option maxRecDepth 20000 in
theorem mt_192 : (Cond.code ⟨"MatchFloor", "isPrice", "(I)Z"⟩ prog_1_method_16_code 1 (Option.some FieldType.boolean)) ∈ mf_tb := mf_in (i := 233) (by rfl) (by rfl)
set_option maxRecDepth 20000 in
theorem mt_193 : (Cond.methodLink "MatchFloor" 38 ⟨"MatchFloor", "isQuantity", "(I)Z"⟩) ∈ mf_tb := mf_in (i := 234) (by decide +kernel) (by decide +kernel)
set_option maxRecDepth 20000 in
theorem mt_194 : (Cond.static ⟨"MatchFloor", "isQuantity", "(I)Z"⟩) ∈ mf_tb := mf_in (i := 235) (by decide +kernel) (by decide +kernel)
set_option maxRecDepth 20000 in
theorem mt_195 : (Cond.code ⟨"MatchFloor", "isQuantity", "(I)Z"⟩ prog_1_method_17_code 1 (Option.some FieldType.boolean)) ∈ mf_tb := mf_in (i := 236) (by rfl) (by rfl)
set_option maxRecDepth 20000 in
theorem mt_196 : (Cond.constant "MatchFloor" 162 (1000000 : Int32)) ∈ mf_tb := mf_in (i := 237) (by decide +kernel) (by decide +kernel)
set_option maxRecDepth 20000 in
theorem mt_198 : (Cond.methodLink "MatchFloor" 43 ⟨"MatchFloor", "placeOf", "(I)I"⟩) ∈ mf_tb := mf_in (i := 239) (by decide +kernel) (by decide +kernel)
set_option maxRecDepth 20000 in
theorem mt_200 : (Cond.instanceMethod ⟨"MatchFloor", "placeOf", "(I)I"⟩) ∈ mf_tb := mf_in (i := 241) (by decide +kernel) (by decide +kernel)
set_option maxRecDepth 20000 in
theorem mt_201 : (Cond.code ⟨"MatchFloor", "placeOf", "(I)I"⟩ prog_1_method_20_code 3 (Option.some FieldType.int)) ∈ mf_tb := mf_in (i := 242) (by rfl) (by rfl)
set_option maxRecDepth 20000 in
theorem mt_202 : (Cond.methodLink "MatchFloor" 51 ⟨"java/util/ArrayList", "size", "()I"⟩) ∈ mf_tb := mf_in (i := 243) (by decide +kernel) (by decide +kernel)
set_option maxRecDepth 20000 in
theorem mt_203 : (Cond.instanceMethod ⟨"java/util/ArrayList", "size", "()I"⟩) ∈ mf_tb := mf_in (i := 244) (by decide +kernel) (by decide +kernel)
set_option maxRecDepth 20000 in
theorem mt_204 : (Cond.selects "java/util/ArrayList" ⟨"java/util/ArrayList", "size", "()I"⟩ ⟨"java/util/ArrayList", "size", "()I"⟩) ∈ mf_tb := mf_in (i := 245) (by decide +kernel) (by decide +kernel)
set_option maxRecDepth 20000 in
theorem mt_205 : (Cond.code ⟨"java/util/ArrayList", "size", "()I"⟩ prog_20_method_8_code 1 (Option.some FieldType.int)) ∈ mf_tb := mf_in (i := 246) (by rfl) (by rfl)
set_option maxRecDepth 20000 in
theorem mt_206 : (Cond.methodLink "MatchFloor" 85 ⟨"java/util/ArrayList", "get", "(I)Ljava/lang/Object;"⟩) ∈ mf_tb := mf_in (i := 247) (by decide +kernel) (by decide +kernel)
set_option maxRecDepth 20000 in
theorem mt_207 : (Cond.instanceMethod ⟨"java/util/ArrayList", "get", "(I)Ljava/lang/Object;"⟩) ∈ mf_tb := mf_in (i := 248) (by decide +kernel) (by decide +kernel)
set_option maxRecDepth 20000 in
theorem mt_208 : (Cond.selects "java/util/ArrayList" ⟨"java/util/ArrayList", "get", "(I)Ljava/lang/Object;"⟩ ⟨"java/util/ArrayList", "get", "(I)Ljava/lang/Object;"⟩) ∈ mf_tb := mf_in (i := 249) (by decide +kernel) (by decide +kernel)
set_option maxRecDepth 20000 in
theorem mt_209 : (Cond.code ⟨"java/util/ArrayList", "get", "(I)Ljava/lang/Object;"⟩ prog_20_method_20_code 2 (Option.some (FieldType.object "java/lang/Object"))) ∈ mf_tb := mf_in (i := 250) (by rfl) (by rfl)
set_option maxRecDepth 20000 in
theorem mt_210 : (Cond.methodLink "java/util/ArrayList" 118 ⟨"java/util/Objects", "checkIndex", "(II)I"⟩) ∈ mf_tb := mf_in (i := 251) (by decide +kernel) (by decide +kernel)
set_option maxRecDepth 20000 in
theorem mt_211 : (Cond.static ⟨"java/util/Objects", "checkIndex", "(II)I"⟩) ∈ mf_tb := mf_in (i := 252) (by decide +kernel) (by decide +kernel)
set_option maxRecDepth 20000 in
theorem mt_212 : (Cond.code ⟨"java/util/Objects", "checkIndex", "(II)I"⟩ prog_25_method_17_code 2 (Option.some FieldType.int)) ∈ mf_tb := mf_in (i := 253) (by rfl) (by rfl)
set_option maxRecDepth 20000 in
theorem mt_213 : (Cond.methodLink "java/util/Objects" 105 ⟨"jdk/internal/util/Preconditions", "checkIndex", "(IILjava/util/function/BiFunction;)I"⟩) ∈ mf_tb := mf_in (i := 254) (by decide +kernel) (by decide +kernel)
set_option maxRecDepth 20000 in
theorem mt_214 : (Cond.static ⟨"jdk/internal/util/Preconditions", "checkIndex", "(IILjava/util/function/BiFunction;)I"⟩) ∈ mf_tb := mf_in (i := 255) (by decide +kernel) (by decide +kernel)
set_option maxRecDepth 20000 in
theorem mt_215 : (Cond.code ⟨"jdk/internal/util/Preconditions", "checkIndex", "(IILjava/util/function/BiFunction;)I"⟩ prog_29_method_11_code 3 (Option.some FieldType.int)) ∈ mf_tb := mf_in (i := 256) (by rfl) (by rfl)
set_option maxRecDepth 20000 in
theorem mt_216 : (Cond.methodLink "java/util/ArrayList" 123 ⟨"java/util/ArrayList", "elementData", "(I)Ljava/lang/Object;"⟩) ∈ mf_tb := mf_in (i := 257) (by decide +kernel) (by decide +kernel)
set_option maxRecDepth 20000 in
theorem mt_217 : (Cond.instanceMethod ⟨"java/util/ArrayList", "elementData", "(I)Ljava/lang/Object;"⟩) ∈ mf_tb := mf_in (i := 258) (by decide +kernel) (by decide +kernel)
set_option maxRecDepth 20000 in
theorem mt_218 : (Cond.selects "java/util/ArrayList" ⟨"java/util/ArrayList", "elementData", "(I)Ljava/lang/Object;"⟩ ⟨"java/util/ArrayList", "elementData", "(I)Ljava/lang/Object;"⟩) ∈ mf_tb := mf_in (i := 259) (by decide +kernel) (by decide +kernel)
set_option maxRecDepth 20000 in
theorem mt_219 : (Cond.code ⟨"java/util/ArrayList", "elementData", "(I)Ljava/lang/Object;"⟩ prog_20_method_18_code 2 (Option.some (FieldType.object "java/lang/Object"))) ∈ mf_tb := mf_in (i := 260) (by rfl) (by rfl)
set_option maxRecDepth 20000 in
theorem mt_220 : (Cond.classLink "MatchFloor" 57 "MatchFloor$Order") ∈ mf_tb := mf_in (i := 261) (by decide +kernel) (by decide +kernel)
set_option maxRecDepth 20000 in
theorem mt_221 : (Cond.classLink "MatchFloor" 46 "java/lang/IllegalStateException") ∈ mf_tb := mf_in (i := 262) (by decide +kernel) (by decide +kernel)
set_option maxRecDepth 20000 in
theorem mt_222 : (Cond.instantiable "java/lang/IllegalStateException" 6) ∈ mf_tb := mf_in (i := 263) (by decide +kernel) (by decide +kernel)
set_option maxRecDepth 20000 in
theorem mt_224 : (Cond.selects "java/lang/IllegalStateException" ⟨"java/lang/Throwable", "fillInStackTrace", "(I)Ljava/lang/Throwable;"⟩ ⟨"java/lang/Throwable", "fillInStackTrace", "(I)Ljava/lang/Throwable;"⟩) ∈ mf_tb := mf_in (i := 265) (by decide +kernel) (by decide +kernel)
set_option maxRecDepth 20000 in
theorem mt_225 : (Cond.lays "java/lang/IllegalStateException" "java/lang/Throwable" "cause" "Ljava/lang/Throwable;") ∈ mf_tb := mf_in (i := 266) (by decide +kernel) (by decide +kernel)
set_option maxRecDepth 20000 in
theorem mt_226 : (Cond.lays "java/lang/IllegalStateException" "java/lang/Throwable" "stackTrace" "[Ljava/lang/StackTraceElement;") ∈ mf_tb := mf_in (i := 267) (by decide +kernel) (by decide +kernel)
set_option maxRecDepth 20000 in
theorem mt_227 : (Cond.lays "java/lang/IllegalStateException" "java/lang/Throwable" "suppressedExceptions" "Ljava/util/List;") ∈ mf_tb := mf_in (i := 268) (by decide +kernel) (by decide +kernel)
set_option maxRecDepth 20000 in
theorem mt_228 : (Cond.lays "java/lang/IllegalStateException" "java/lang/Throwable" "detailMessage" "Ljava/lang/String;") ∈ mf_tb := mf_in (i := 269) (by decide +kernel) (by decide +kernel)
set_option maxRecDepth 20000 in
theorem mt_229 : (Cond.lays "java/lang/IllegalStateException" "java/lang/Throwable" "backtrace" "Ljava/lang/Object;") ∈ mf_tb := mf_in (i := 270) (by decide +kernel) (by decide +kernel)
set_option maxRecDepth 20000 in
theorem mt_231 : (Cond.methodLink "MatchFloor" 50 ⟨"java/lang/IllegalStateException", "<init>", "(Ljava/lang/String;)V"⟩) ∈ mf_tb := mf_in (i := 272) (by decide +kernel) (by decide +kernel)
set_option maxRecDepth 20000 in
theorem mt_232 : (Cond.instanceMethod ⟨"java/lang/IllegalStateException", "<init>", "(Ljava/lang/String;)V"⟩) ∈ mf_tb := mf_in (i := 273) (by decide +kernel) (by decide +kernel)
set_option maxRecDepth 20000 in
theorem mt_233 : (Cond.code ⟨"java/lang/IllegalStateException", "<init>", "(Ljava/lang/String;)V"⟩ prog_10_method_2_code 2 (Option.none : Option FieldType)) ∈ mf_tb := mf_in (i := 274) (by rfl) (by rfl)
set_option maxRecDepth 20000 in
theorem mt_234 : (Cond.methodLink "java/lang/IllegalStateException" 7 ⟨"java/lang/RuntimeException", "<init>", "(Ljava/lang/String;)V"⟩) ∈ mf_tb := mf_in (i := 275) (by decide +kernel) (by decide +kernel)
set_option maxRecDepth 20000 in
theorem mt_235 : (Cond.lays "java/lang/IllegalStateException" "java/lang/Throwable" "depth" "I") ∈ mf_tb := mf_in (i := 276) (by decide +kernel) (by decide +kernel)
set_option maxRecDepth 20000 in
theorem mt_238 : (Cond.instantiable "MatchFloor$Order" 6) ∈ mf_tb := mf_in (i := 279) (by decide +kernel) (by decide +kernel)
set_option maxRecDepth 20000 in
theorem mt_240 : (Cond.instanceMethod ⟨"MatchFloor$Order", "<init>", "(IIIZII)V"⟩) ∈ mf_tb := mf_in (i := 281) (by decide +kernel) (by decide +kernel)
set_option maxRecDepth 20000 in
theorem mt_241 : (Cond.code ⟨"MatchFloor$Order", "<init>", "(IIIZII)V"⟩ prog_2_method_1_code 7 (Option.none : Option FieldType)) ∈ mf_tb := mf_in (i := 282) (by rfl) (by rfl)
set_option maxRecDepth 20000 in
theorem mt_242 : (Cond.methodLink "MatchFloor$Order" 3 ⟨"java/lang/Object", "<init>", "()V"⟩) ∈ mf_tb := mf_in (i := 283) (by decide +kernel) (by decide +kernel)
set_option maxRecDepth 20000 in
theorem mt_243 : (Cond.fieldLink "MatchFloor$Order" 9 "MatchFloor$Order" "id" "I") ∈ mf_tb := mf_in (i := 284) (by decide +kernel) (by decide +kernel)
set_option maxRecDepth 20000 in
theorem mt_245 : (Cond.fieldLink "MatchFloor$Order" 15 "MatchFloor$Order" "owner" "I") ∈ mf_tb := mf_in (i := 286) (by decide +kernel) (by decide +kernel)
set_option maxRecDepth 20000 in
theorem mt_247 : (Cond.fieldLink "MatchFloor$Order" 18 "MatchFloor$Order" "side" "I") ∈ mf_tb := mf_in (i := 288) (by decide +kernel) (by decide +kernel)
set_option maxRecDepth 20000 in
theorem mt_249 : (Cond.fieldLink "MatchFloor$Order" 21 "MatchFloor$Order" "waits" "Z") ∈ mf_tb := mf_in (i := 290) (by decide +kernel) (by decide +kernel)
set_option maxRecDepth 20000 in
theorem mt_251 : (Cond.fieldLink "MatchFloor$Order" 25 "MatchFloor$Order" "price" "I") ∈ mf_tb := mf_in (i := 292) (by decide +kernel) (by decide +kernel)
set_option maxRecDepth 20000 in
theorem mt_253 : (Cond.fieldLink "MatchFloor$Order" 28 "MatchFloor$Order" "left" "I") ∈ mf_tb := mf_in (i := 294) (by decide +kernel) (by decide +kernel)
set_option maxRecDepth 20000 in
theorem mt_255 : (Cond.laysFinal "MatchFloor$Order" "MatchFloor$Order" "id" "I") ∈ mf_tb := mf_in (i := 296) (by decide +kernel) (by decide +kernel)
set_option maxRecDepth 20000 in
theorem mt_257 : (Cond.laysFinal "MatchFloor$Order" "MatchFloor$Order" "owner" "I") ∈ mf_tb := mf_in (i := 298) (by decide +kernel) (by decide +kernel)
set_option maxRecDepth 20000 in
theorem mt_259 : (Cond.laysFinal "MatchFloor$Order" "MatchFloor$Order" "side" "I") ∈ mf_tb := mf_in (i := 300) (by decide +kernel) (by decide +kernel)
set_option maxRecDepth 20000 in
theorem mt_261 : (Cond.laysFinal "MatchFloor$Order" "MatchFloor$Order" "waits" "Z") ∈ mf_tb := mf_in (i := 302) (by decide +kernel) (by decide +kernel)
set_option maxRecDepth 20000 in
theorem mt_263 : (Cond.lays "MatchFloor$Order" "MatchFloor$Order" "price" "I") ∈ mf_tb := mf_in (i := 304) (by decide +kernel) (by decide +kernel)
set_option maxRecDepth 20000 in
theorem mt_265 : (Cond.lays "MatchFloor$Order" "MatchFloor$Order" "left" "I") ∈ mf_tb := mf_in (i := 306) (by decide +kernel) (by decide +kernel)
set_option maxRecDepth 20000 in
theorem mt_268 : (Cond.methodLink "MatchFloor" 62 ⟨"MatchFloor", "isRefused", "(LMatchFloor$Order;I)Z"⟩) ∈ mf_tb := mf_in (i := 309) (by decide +kernel) (by decide +kernel)
set_option maxRecDepth 20000 in
theorem mt_270 : (Cond.instanceMethod ⟨"MatchFloor", "isRefused", "(LMatchFloor$Order;I)Z"⟩) ∈ mf_tb := mf_in (i := 311) (by decide +kernel) (by decide +kernel)
set_option maxRecDepth 20000 in
theorem mt_271 : (Cond.code ⟨"MatchFloor", "isRefused", "(LMatchFloor$Order;I)Z"⟩ prog_1_method_23_code 4 (Option.some FieldType.boolean)) ∈ mf_tb := mf_in (i := 312) (by rfl) (by rfl)
set_option maxRecDepth 20000 in
theorem mt_272 : (Cond.methodLink "MatchFloor" 176 ⟨"MatchFloor", "leftFor", "(LMatchFloor$Order;)I"⟩) ∈ mf_tb := mf_in (i := 313) (by decide +kernel) (by decide +kernel)
set_option maxRecDepth 20000 in
theorem mt_274 : (Cond.instanceMethod ⟨"MatchFloor", "leftFor", "(LMatchFloor$Order;)I"⟩) ∈ mf_tb := mf_in (i := 315) (by decide +kernel) (by decide +kernel)
set_option maxRecDepth 20000 in
theorem mt_275 : (Cond.code ⟨"MatchFloor", "leftFor", "(LMatchFloor$Order;)I"⟩ prog_1_method_24_code 6 (Option.some FieldType.int)) ∈ mf_tb := mf_in (i := 316) (by rfl) (by rfl)
set_option maxRecDepth 20000 in
theorem mt_276 : (Cond.methodLink "MatchFloor" 180 ⟨"MatchFloor", "otherSide", "(I)I"⟩) ∈ mf_tb := mf_in (i := 317) (by decide +kernel) (by decide +kernel)
set_option maxRecDepth 20000 in
theorem mt_277 : (Cond.static ⟨"MatchFloor", "otherSide", "(I)I"⟩) ∈ mf_tb := mf_in (i := 318) (by decide +kernel) (by decide +kernel)
set_option maxRecDepth 20000 in
theorem mt_278 : (Cond.code ⟨"MatchFloor", "otherSide", "(I)I"⟩ prog_1_method_18_code 1 (Option.some FieldType.int)) ∈ mf_tb := mf_in (i := 319) (by rfl) (by rfl)
set_option maxRecDepth 20000 in
theorem mt_281 : (Cond.instanceMethod ⟨"MatchFloor$Order", "restsOn", "(I)Z"⟩) ∈ mf_tb := mf_in (i := 322) (by decide +kernel) (by decide +kernel)
set_option maxRecDepth 20000 in
theorem mt_282 : (Cond.code ⟨"MatchFloor$Order", "restsOn", "(I)Z"⟩ prog_2_method_2_code 2 (Option.some FieldType.boolean)) ∈ mf_tb := mf_in (i := 323) (by rfl) (by rfl)
set_option maxRecDepth 20000 in
theorem mt_285 : (Cond.instanceMethod ⟨"MatchFloor$Order", "isFitBy", "(I)Z"⟩) ∈ mf_tb := mf_in (i := 326) (by decide +kernel) (by decide +kernel)
set_option maxRecDepth 20000 in
theorem mt_286 : (Cond.code ⟨"MatchFloor$Order", "isFitBy", "(I)Z"⟩ prog_2_method_3_code 2 (Option.some FieldType.boolean)) ∈ mf_tb := mf_in (i := 327) (by rfl) (by rfl)
set_option maxRecDepth 20000 in
theorem mt_289 : (Cond.static ⟨"MatchFloor", "isBetter", "(III)Z"⟩) ∈ mf_tb := mf_in (i := 330) (by decide +kernel) (by decide +kernel)
set_option maxRecDepth 20000 in
theorem mt_290 : (Cond.code ⟨"MatchFloor", "isBetter", "(III)Z"⟩ prog_1_method_19_code 3 (Option.some FieldType.boolean)) ∈ mf_tb := mf_in (i := 331) (by rfl) (by rfl)
set_option maxRecDepth 20000 in
theorem mt_291 : (Cond.methodLink "MatchFloor" 183 ⟨"MatchFloor", "placeOfFirst", "(I)I"⟩) ∈ mf_tb := mf_in (i := 332) (by decide +kernel) (by decide +kernel)
set_option maxRecDepth 20000 in
theorem mt_293 : (Cond.instanceMethod ⟨"MatchFloor", "placeOfFirst", "(I)I"⟩) ∈ mf_tb := mf_in (i := 334) (by decide +kernel) (by decide +kernel)
set_option maxRecDepth 20000 in
theorem mt_294 : (Cond.code ⟨"MatchFloor", "placeOfFirst", "(I)I"⟩ prog_1_method_21_code 6 (Option.some FieldType.int)) ∈ mf_tb := mf_in (i := 335) (by rfl) (by rfl)
set_option maxRecDepth 20000 in
theorem mt_295 : (Cond.methodLink "MatchFloor" 169 ⟨"MatchFloor", "isBetter", "(III)Z"⟩) ∈ mf_tb := mf_in (i := 336) (by decide +kernel) (by decide +kernel)
set_option maxRecDepth 20000 in
theorem mt_297 : (Cond.methodLink "MatchFloor" 68 ⟨"MatchFloor", "comeIn", "(LMatchFloor$Order;I)I"⟩) ∈ mf_tb := mf_in (i := 338) (by decide +kernel) (by decide +kernel)
set_option maxRecDepth 20000 in
theorem mt_299 : (Cond.instanceMethod ⟨"MatchFloor", "comeIn", "(LMatchFloor$Order;I)I"⟩) ∈ mf_tb := mf_in (i := 340) (by decide +kernel) (by decide +kernel)
set_option maxRecDepth 20000 in
theorem mt_300 : (Cond.code ⟨"MatchFloor", "comeIn", "(LMatchFloor$Order;I)I"⟩ prog_1_method_25_code 6 (Option.some FieldType.int)) ∈ mf_tb := mf_in (i := 341) (by rfl) (by rfl)
set_option maxRecDepth 20000 in
theorem mt_301 : (Cond.methodLink "MatchFloor" 189 ⟨"MatchFloor", "match", "(LMatchFloor$Order;I)V"⟩) ∈ mf_tb := mf_in (i := 342) (by decide +kernel) (by decide +kernel)
set_option maxRecDepth 20000 in
theorem mt_303 : (Cond.instanceMethod ⟨"MatchFloor", "match", "(LMatchFloor$Order;I)V"⟩) ∈ mf_tb := mf_in (i := 344) (by decide +kernel) (by decide +kernel)
set_option maxRecDepth 20000 in
theorem mt_304 : (Cond.code ⟨"MatchFloor", "match", "(LMatchFloor$Order;I)V"⟩ prog_1_method_27_code 5 (Option.none : Option FieldType)) ∈ mf_tb := mf_in (i := 345) (by rfl) (by rfl)
set_option maxRecDepth 20000 in
theorem mt_305 : (Cond.methodLink "MatchFloor" 203 ⟨"MatchFloor", "meet", "(LMatchFloor$Order;I)V"⟩) ∈ mf_tb := mf_in (i := 346) (by decide +kernel) (by decide +kernel)
set_option maxRecDepth 20000 in
theorem mt_307 : (Cond.instanceMethod ⟨"MatchFloor", "meet", "(LMatchFloor$Order;I)V"⟩) ∈ mf_tb := mf_in (i := 348) (by decide +kernel) (by decide +kernel)
set_option maxRecDepth 20000 in
theorem mt_308 : (Cond.code ⟨"MatchFloor", "meet", "(LMatchFloor$Order;I)V"⟩ prog_1_method_28_code 5 (Option.none : Option FieldType)) ∈ mf_tb := mf_in (i := 349) (by rfl) (by rfl)
set_option maxRecDepth 20000 in
theorem mt_309 : (Cond.methodLink "MatchFloor" 77 ⟨"java/util/ArrayList", "remove", "(I)Ljava/lang/Object;"⟩) ∈ mf_tb := mf_in (i := 350) (by decide +kernel) (by decide +kernel)
set_option maxRecDepth 20000 in
theorem mt_310 : (Cond.instanceMethod ⟨"java/util/ArrayList", "remove", "(I)Ljava/lang/Object;"⟩) ∈ mf_tb := mf_in (i := 351) (by decide +kernel) (by decide +kernel)
set_option maxRecDepth 20000 in
theorem mt_311 : (Cond.selects "java/util/ArrayList" ⟨"java/util/ArrayList", "remove", "(I)Ljava/lang/Object;"⟩ ⟨"java/util/ArrayList", "remove", "(I)Ljava/lang/Object;"⟩) ∈ mf_tb := mf_in (i := 352) (by decide +kernel) (by decide +kernel)
set_option maxRecDepth 20000 in
theorem mt_312 : (Cond.code ⟨"java/util/ArrayList", "remove", "(I)Ljava/lang/Object;"⟩ prog_20_method_29_code 4 (Option.some (FieldType.object "java/lang/Object"))) ∈ mf_tb := mf_in (i := 353) (by rfl) (by rfl)
set_option maxRecDepth 20000 in
theorem mt_313 : (Cond.methodLink "java/util/ArrayList" 144 ⟨"java/util/ArrayList", "fastRemove", "([Ljava/lang/Object;I)V"⟩) ∈ mf_tb := mf_in (i := 354) (by decide +kernel) (by decide +kernel)
set_option maxRecDepth 20000 in
theorem mt_315 : (Cond.instanceMethod ⟨"java/util/ArrayList", "fastRemove", "([Ljava/lang/Object;I)V"⟩) ∈ mf_tb := mf_in (i := 356) (by decide +kernel) (by decide +kernel)
set_option maxRecDepth 20000 in
theorem mt_316 : (Cond.code ⟨"java/util/ArrayList", "fastRemove", "([Ljava/lang/Object;I)V"⟩ prog_20_method_39_code 4 (Option.none : Option FieldType)) ∈ mf_tb := mf_in (i := 357) (by rfl) (by rfl)
set_option maxRecDepth 20000 in
theorem mt_317 : (Cond.methodLink "java/util/ArrayList" 112 ⟨"java/lang/System", "arraycopy", "(Ljava/lang/Object;ILjava/lang/Object;II)V"⟩) ∈ mf_tb := mf_in (i := 358) (by decide +kernel) (by decide +kernel)
set_option maxRecDepth 20000 in
theorem mt_318 : (Cond.static ⟨"java/lang/System", "arraycopy", "(Ljava/lang/Object;ILjava/lang/Object;II)V"⟩) ∈ mf_tb := mf_in (i := 359) (by decide +kernel) (by decide +kernel)
set_option maxRecDepth 20000 in
theorem mt_319 : (Cond.native ⟨"java/lang/System", "arraycopy", "(Ljava/lang/Object;ILjava/lang/Object;II)V"⟩) ∈ mf_tb := mf_in (i := 360) (by decide +kernel) (by decide +kernel)
set_option maxRecDepth 20000 in
theorem mt_320 : (Cond.methodLink "MatchFloor" 206 ⟨"java/lang/Math", "min", "(II)I"⟩) ∈ mf_tb := mf_in (i := 361) (by decide +kernel) (by decide +kernel)
set_option maxRecDepth 20000 in
theorem mt_321 : (Cond.static ⟨"java/lang/Math", "min", "(II)I"⟩) ∈ mf_tb := mf_in (i := 362) (by decide +kernel) (by decide +kernel)
set_option maxRecDepth 20000 in
theorem mt_322 : (Cond.code ⟨"java/lang/Math", "min", "(II)I"⟩ prog_13_method_69_code 2 (Option.some FieldType.int)) ∈ mf_tb := mf_in (i := 363) (by rfl) (by rfl)
set_option maxRecDepth 20000 in
theorem mt_325 : (Cond.instanceMethod ⟨"MatchFloor$Tape", "write", "(IIII)V"⟩) ∈ mf_tb := mf_in (i := 366) (by decide +kernel) (by decide +kernel)
set_option maxRecDepth 20000 in
theorem mt_326 : (Cond.code ⟨"MatchFloor$Tape", "write", "(IIII)V"⟩ prog_3_method_2_code 6 (Option.none : Option FieldType)) ∈ mf_tb := mf_in (i := 367) (by rfl) (by rfl)
set_option maxRecDepth 20000 in
theorem mt_327 : (Cond.methodLink "MatchFloor$Tape" 23 ⟨"java/lang/Math", "floorMod", "(II)I"⟩) ∈ mf_tb := mf_in (i := 368) (by decide +kernel) (by decide +kernel)
set_option maxRecDepth 20000 in
theorem mt_328 : (Cond.static ⟨"java/lang/Math", "floorMod", "(II)I"⟩) ∈ mf_tb := mf_in (i := 369) (by decide +kernel) (by decide +kernel)
set_option maxRecDepth 20000 in
theorem mt_329 : (Cond.code ⟨"java/lang/Math", "floorMod", "(II)I"⟩ prog_13_method_50_code 3 (Option.some FieldType.int)) ∈ mf_tb := mf_in (i := 370) (by rfl) (by rfl)
set_option maxRecDepth 20000 in
theorem mt_330 : (Cond.methodLink "MatchFloor" 193 ⟨"java/util/ArrayList", "add", "(Ljava/lang/Object;)Z"⟩) ∈ mf_tb := mf_in (i := 371) (by decide +kernel) (by decide +kernel)
set_option maxRecDepth 20000 in
theorem mt_331 : (Cond.instanceMethod ⟨"java/util/ArrayList", "add", "(Ljava/lang/Object;)Z"⟩) ∈ mf_tb := mf_in (i := 372) (by decide +kernel) (by decide +kernel)
set_option maxRecDepth 20000 in
theorem mt_332 : (Cond.selects "java/util/ArrayList" ⟨"java/util/ArrayList", "add", "(Ljava/lang/Object;)Z"⟩ ⟨"java/util/ArrayList", "add", "(Ljava/lang/Object;)Z"⟩) ∈ mf_tb := mf_in (i := 373) (by decide +kernel) (by decide +kernel)
set_option maxRecDepth 20000 in
theorem mt_333 : (Cond.code ⟨"java/util/ArrayList", "add", "(Ljava/lang/Object;)Z"⟩ prog_20_method_25_code 2 (Option.some FieldType.boolean)) ∈ mf_tb := mf_in (i := 374) (by rfl) (by rfl)
set_option maxRecDepth 20000 in
theorem mt_334 : (Cond.methodLink "java/util/ArrayList" 131 ⟨"java/util/ArrayList", "add", "(Ljava/lang/Object;[Ljava/lang/Object;I)V"⟩) ∈ mf_tb := mf_in (i := 375) (by decide +kernel) (by decide +kernel)
set_option maxRecDepth 20000 in
theorem mt_336 : (Cond.instanceMethod ⟨"java/util/ArrayList", "add", "(Ljava/lang/Object;[Ljava/lang/Object;I)V"⟩) ∈ mf_tb := mf_in (i := 377) (by decide +kernel) (by decide +kernel)
set_option maxRecDepth 20000 in
theorem mt_337 : (Cond.code ⟨"java/util/ArrayList", "add", "(Ljava/lang/Object;[Ljava/lang/Object;I)V"⟩ prog_20_method_24_code 4 (Option.none : Option FieldType)) ∈ mf_tb := mf_in (i := 378) (by rfl) (by rfl)
set_option maxRecDepth 20000 in
theorem mt_338 : (Cond.methodLink "java/util/ArrayList" 129 ⟨"java/util/ArrayList", "grow", "()[Ljava/lang/Object;"⟩) ∈ mf_tb := mf_in (i := 379) (by decide +kernel) (by decide +kernel)
set_option maxRecDepth 20000 in
theorem mt_340 : (Cond.instanceMethod ⟨"java/util/ArrayList", "grow", "()[Ljava/lang/Object;"⟩) ∈ mf_tb := mf_in (i := 381) (by decide +kernel) (by decide +kernel)
set_option maxRecDepth 20000 in
theorem mt_341 : (Cond.code ⟨"java/util/ArrayList", "grow", "()[Ljava/lang/Object;"⟩ prog_20_method_7_code 1 (Option.some (FieldType.array (FieldType.object "java/lang/Object")))) ∈ mf_tb := mf_in (i := 382) (by rfl) (by rfl)
set_option maxRecDepth 20000 in
theorem mt_342 : (Cond.methodLink "java/util/ArrayList" 69 ⟨"java/util/ArrayList", "grow", "(I)[Ljava/lang/Object;"⟩) ∈ mf_tb := mf_in (i := 383) (by decide +kernel) (by decide +kernel)
set_option maxRecDepth 20000 in
theorem mt_344 : (Cond.instanceMethod ⟨"java/util/ArrayList", "grow", "(I)[Ljava/lang/Object;"⟩) ∈ mf_tb := mf_in (i := 385) (by decide +kernel) (by decide +kernel)
set_option maxRecDepth 20000 in
theorem mt_345 : (Cond.code ⟨"java/util/ArrayList", "grow", "(I)[Ljava/lang/Object;"⟩ prog_20_method_6_code 4 (Option.some (FieldType.array (FieldType.object "java/lang/Object")))) ∈ mf_tb := mf_in (i := 386) (by rfl) (by rfl)
set_option maxRecDepth 20000 in
theorem mt_346 : (Cond.methodLink "java/util/ArrayList" 73 ⟨"jdk/internal/util/ArraysSupport", "newLength", "(III)I"⟩) ∈ mf_tb := mf_in (i := 387) (by decide +kernel) (by decide +kernel)
set_option maxRecDepth 20000 in
theorem mt_347 : (Cond.static ⟨"jdk/internal/util/ArraysSupport", "newLength", "(III)I"⟩) ∈ mf_tb := mf_in (i := 388) (by decide +kernel) (by decide +kernel)
set_option maxRecDepth 20000 in
theorem mt_348 : (Cond.code ⟨"jdk/internal/util/ArraysSupport", "newLength", "(III)I"⟩ prog_28_method_27_code 4 (Option.some FieldType.int)) ∈ mf_tb := mf_in (i := 389) (by rfl) (by rfl)
set_option maxRecDepth 20000 in
theorem mt_349 : (Cond.methodLink "jdk/internal/util/ArraysSupport" 194 ⟨"java/lang/Math", "max", "(II)I"⟩) ∈ mf_tb := mf_in (i := 390) (by decide +kernel) (by decide +kernel)
set_option maxRecDepth 20000 in
theorem mt_350 : (Cond.static ⟨"java/lang/Math", "max", "(II)I"⟩) ∈ mf_tb := mf_in (i := 391) (by decide +kernel) (by decide +kernel)
set_option maxRecDepth 20000 in
theorem mt_351 : (Cond.code ⟨"java/lang/Math", "max", "(II)I"⟩ prog_13_method_65_code 2 (Option.some FieldType.int)) ∈ mf_tb := mf_in (i := 392) (by rfl) (by rfl)
set_option maxRecDepth 20000 in
theorem mt_352 : (Cond.constant "jdk/internal/util/ArraysSupport" 200 (2147483639 : Int32)) ∈ mf_tb := mf_in (i := 393) (by decide +kernel) (by decide +kernel)
set_option maxRecDepth 20000 in
theorem mt_353 : (Cond.methodLink "jdk/internal/util/ArraysSupport" 201 ⟨"jdk/internal/util/ArraysSupport", "hugeLength", "(II)I"⟩) ∈ mf_tb := mf_in (i := 394) (by decide +kernel) (by decide +kernel)
set_option maxRecDepth 20000 in
theorem mt_354 : (Cond.static ⟨"jdk/internal/util/ArraysSupport", "hugeLength", "(II)I"⟩) ∈ mf_tb := mf_in (i := 395) (by decide +kernel) (by decide +kernel)
set_option maxRecDepth 20000 in
theorem mt_355 : (Cond.code ⟨"jdk/internal/util/ArraysSupport", "hugeLength", "(II)I"⟩ prog_28_method_28_code 3 (Option.some FieldType.int)) ∈ mf_tb := mf_in (i := 396) (by rfl) (by rfl)
set_option maxRecDepth 20000 in
theorem mt_356 : (Cond.methodLink "java/util/ArrayList" 66 ⟨"java/util/Arrays", "copyOf", "([Ljava/lang/Object;I)[Ljava/lang/Object;"⟩) ∈ mf_tb := mf_in (i := 397) (by decide +kernel) (by decide +kernel)
set_option maxRecDepth 20000 in
theorem mt_357 : (Cond.static ⟨"java/util/Arrays", "copyOf", "([Ljava/lang/Object;I)[Ljava/lang/Object;"⟩) ∈ mf_tb := mf_in (i := 398) (by decide +kernel) (by decide +kernel)
set_option maxRecDepth 20000 in
theorem mt_358 : (Cond.code ⟨"java/util/Arrays", "copyOf", "([Ljava/lang/Object;I)[Ljava/lang/Object;"⟩ prog_21_method_119_code 2 (Option.some (FieldType.array (FieldType.object "java/lang/Object")))) ∈ mf_tb := mf_in (i := 399) (by rfl) (by rfl)
set_option maxRecDepth 20000 in
theorem mt_359 : (Cond.methodLink "java/util/Arrays" 86 ⟨"java/lang/Object", "getClass", "()Ljava/lang/Class;"⟩) ∈ mf_tb := mf_in (i := 400) (by decide +kernel) (by decide +kernel)
set_option maxRecDepth 20000 in
theorem mt_360 : (Cond.instanceMethod ⟨"java/lang/Object", "getClass", "()Ljava/lang/Class;"⟩) ∈ mf_tb := mf_in (i := 401) (by decide +kernel) (by decide +kernel)
set_option maxRecDepth 20000 in
theorem mt_362 : (Cond.selects "MatchFloor" ⟨"java/lang/Object", "getClass", "()Ljava/lang/Class;"⟩ ⟨"java/lang/Object", "getClass", "()Ljava/lang/Class;"⟩) ∈ mf_tb := mf_in (i := 403) (by decide +kernel) (by decide +kernel)
set_option maxRecDepth 20000 in
theorem mt_363 : (Cond.selects "MatchFloor$Order" ⟨"java/lang/Object", "getClass", "()Ljava/lang/Class;"⟩ ⟨"java/lang/Object", "getClass", "()Ljava/lang/Class;"⟩) ∈ mf_tb := mf_in (i := 404) (by decide +kernel) (by decide +kernel)
set_option maxRecDepth 20000 in
theorem mt_364 : (Cond.selects "MatchFloor$Tape" ⟨"java/lang/Object", "getClass", "()Ljava/lang/Class;"⟩ ⟨"java/lang/Object", "getClass", "()Ljava/lang/Class;"⟩) ∈ mf_tb := mf_in (i := 405) (by decide +kernel) (by decide +kernel)
