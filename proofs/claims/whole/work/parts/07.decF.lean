/-! decode rows -/
theorem md_F_init_0 : decode mc_F_init 0 = .ok (.aload_n 0, 1) := by decide +kernel
theorem md_F_init_1 : decode mc_F_init 1 = .ok (.invokespecial 1, 3) := by decide +kernel
theorem md_F_init_4 : decode mc_F_init 4 = .ok (.aload_n 0, 1) := by decide +kernel
theorem md_F_init_5 : decode mc_F_init 5 = .ok (.new 7, 3) := by decide +kernel
theorem md_F_init_8 : decode mc_F_init 8 = .ok (.dup, 1) := by decide +kernel
theorem md_F_init_9 : decode mc_F_init 9 = .ok (.invokespecial 9, 3) := by decide +kernel
theorem md_F_init_12 : decode mc_F_init 12 = .ok (.putfield 10, 3) := by decide +kernel
theorem md_F_init_15 : decode mc_F_init 15 = .ok (.aload_n 0, 1) := by decide +kernel
theorem md_F_init_16 : decode mc_F_init 16 = .ok (.new 16, 3) := by decide +kernel
theorem md_F_init_19 : decode mc_F_init 19 = .ok (.dup, 1) := by decide +kernel
theorem md_F_init_20 : decode mc_F_init 20 = .ok (.invokespecial 18, 3) := by decide +kernel
theorem md_F_init_23 : decode mc_F_init 23 = .ok (.putfield 19, 3) := by decide +kernel
theorem md_F_init_26 : decode mc_F_init 26 = .ok (.return_, 1) := by decide +kernel
theorem md_T_init_0 : decode mc_T_init 0 = .ok (.aload_n 0, 1) := by decide +kernel
theorem md_T_init_1 : decode mc_T_init 1 = .ok (.invokespecial 3, 3) := by decide +kernel
theorem md_T_init_4 : decode mc_T_init 4 = .ok (.aload_n 0, 1) := by decide +kernel
theorem md_T_init_5 : decode mc_T_init 5 = .ok (.bipush 32, 2) := by decide +kernel
theorem md_T_init_7 : decode mc_T_init 7 = .ok (.iconst 4, 1) := by decide +kernel
theorem md_T_init_8 : decode mc_T_init 8 = .ok (.multianewarray 11 2, 4) := by decide +kernel
theorem md_T_init_12 : decode mc_T_init 12 = .ok (.putfield 13, 3) := by decide +kernel
theorem md_T_init_15 : decode mc_T_init 15 = .ok (.aload_n 0, 1) := by decide +kernel
theorem md_T_init_16 : decode mc_T_init 16 = .ok (.iconst 0, 1) := by decide +kernel
theorem md_T_init_17 : decode mc_T_init 17 = .ok (.putfield 16, 3) := by decide +kernel
theorem md_T_init_20 : decode mc_T_init 20 = .ok (.return_, 1) := by decide +kernel
theorem md_F_fills_0 : decode mc_F_fills 0 = .ok (.aload_n 0, 1) := by decide +kernel
theorem md_F_fills_1 : decode mc_F_fills 1 = .ok (.getfield 19, 3) := by decide +kernel
theorem md_F_fills_4 : decode mc_F_fills 4 = .ok (.getfield 133, 3) := by decide +kernel
theorem md_F_fills_7 : decode mc_F_fills 7 = .ok (.ireturn, 1) := by decide +kernel
theorem md_F_last_0 : decode mc_F_last 0 = .ok (.aload_n 0, 1) := by decide +kernel
theorem md_F_last_1 : decode mc_F_last 1 = .ok (.getfield 19, 3) := by decide +kernel
theorem md_F_last_4 : decode mc_F_last 4 = .ok (.getfield 141, 3) := by decide +kernel
theorem md_F_last_7 : decode mc_F_last 7 = .ok (.ireturn, 1) := by decide +kernel
theorem md_F_turnover_0 : decode mc_F_turnover 0 = .ok (.aload_n 0, 1) := by decide +kernel
theorem md_F_turnover_1 : decode mc_F_turnover 1 = .ok (.getfield 19, 3) := by decide +kernel
theorem md_F_turnover_4 : decode mc_F_turnover 4 = .ok (.getfield 144, 3) := by decide +kernel
theorem md_F_turnover_7 : decode mc_F_turnover 7 = .ok (.lreturn, 1) := by decide +kernel
theorem md_F_submit_0 : decode mc_F_submit 0 = .ok (.iload_n 2, 1) := by decide +kernel
theorem md_F_submit_1 : decode mc_F_submit 1 = .ok (.ifCond .lt 17, 3) := by decide +kernel
theorem md_F_submit_4 : decode mc_F_submit 4 = .ok (.iload_n 2, 1) := by decide +kernel
theorem md_F_submit_5 : decode mc_F_submit 5 = .ok (.bipush 127, 2) := by decide +kernel
theorem md_F_submit_7 : decode mc_F_submit 7 = .ok (.if_icmp .gt 11, 3) := by decide +kernel
theorem md_F_submit_10 : decode mc_F_submit 10 = .ok (.iload_n 2, 1) := by decide +kernel
theorem md_F_submit_11 : decode mc_F_submit 11 = .ok (.invokestatic 23, 3) := by decide +kernel
theorem md_F_submit_14 : decode mc_F_submit 14 = .ok (.iconst 5, 1) := by decide +kernel
theorem md_F_submit_15 : decode mc_F_submit 15 = .ok (.if_icmp .le 13, 3) := by decide +kernel
theorem md_F_submit_18 : decode mc_F_submit 18 = .ok (.new 27, 3) := by decide +kernel
theorem md_F_submit_21 : decode mc_F_submit 21 = .ok (.dup, 1) := by decide +kernel
theorem md_F_submit_22 : decode mc_F_submit 22 = .ok (.ldc 29, 2) := by decide +kernel
theorem md_F_submit_24 : decode mc_F_submit 24 = .ok (.invokespecial 31, 3) := by decide +kernel
theorem md_F_submit_27 : decode mc_F_submit 27 = .ok (.athrow, 1) := by decide +kernel
theorem md_F_submit_28 : decode mc_F_submit 28 = .ok (.iload_n 3, 1) := by decide +kernel
theorem md_F_submit_29 : decode mc_F_submit 29 = .ok (.invokestatic 34, 3) := by decide +kernel
theorem md_F_submit_32 : decode mc_F_submit 32 = .ok (.ifCond .eq 11, 3) := by decide +kernel
theorem md_F_submit_35 : decode mc_F_submit 35 = .ok (.iload 4, 2) := by decide +kernel
theorem md_F_submit_37 : decode mc_F_submit 37 = .ok (.invokestatic 38, 3) := by decide +kernel
theorem md_F_submit_40 : decode mc_F_submit 40 = .ok (.ifCond .ne 13, 3) := by decide +kernel
theorem md_F_submit_43 : decode mc_F_submit 43 = .ok (.new 27, 3) := by decide +kernel
theorem md_F_submit_46 : decode mc_F_submit 46 = .ok (.dup, 1) := by decide +kernel
theorem md_F_submit_47 : decode mc_F_submit 47 = .ok (.ldc 41, 2) := by decide +kernel
theorem md_F_submit_49 : decode mc_F_submit 49 = .ok (.invokespecial 31, 3) := by decide +kernel
theorem md_F_submit_52 : decode mc_F_submit 52 = .ok (.athrow, 1) := by decide +kernel
theorem md_F_submit_53 : decode mc_F_submit 53 = .ok (.aload_n 0, 1) := by decide +kernel
theorem md_F_submit_54 : decode mc_F_submit 54 = .ok (.iload_n 1, 1) := by decide +kernel
theorem md_F_submit_55 : decode mc_F_submit 55 = .ok (.invokevirtual 43, 3) := by decide +kernel
theorem md_F_submit_58 : decode mc_F_submit 58 = .ok (.iconst (-1), 1) := by decide +kernel
theorem md_F_submit_59 : decode mc_F_submit 59 = .ok (.if_icmp .eq 13, 3) := by decide +kernel
theorem md_F_submit_62 : decode mc_F_submit 62 = .ok (.new 46, 3) := by decide +kernel
theorem md_F_submit_65 : decode mc_F_submit 65 = .ok (.dup, 1) := by decide +kernel
theorem md_F_submit_66 : decode mc_F_submit 66 = .ok (.ldc 48, 2) := by decide +kernel
theorem md_F_submit_68 : decode mc_F_submit 68 = .ok (.invokespecial 50, 3) := by decide +kernel
theorem md_F_submit_71 : decode mc_F_submit 71 = .ok (.athrow, 1) := by decide +kernel
theorem md_F_submit_72 : decode mc_F_submit 72 = .ok (.aload_n 0, 1) := by decide +kernel
theorem md_F_submit_73 : decode mc_F_submit 73 = .ok (.getfield 10, 3) := by decide +kernel
theorem md_F_submit_76 : decode mc_F_submit 76 = .ok (.invokevirtual 51, 3) := by decide +kernel
theorem md_F_submit_79 : decode mc_F_submit 79 = .ok (.bipush 40, 2) := by decide +kernel
theorem md_F_submit_81 : decode mc_F_submit 81 = .ok (.if_icmp .lt 13, 3) := by decide +kernel
theorem md_F_submit_84 : decode mc_F_submit 84 = .ok (.new 46, 3) := by decide +kernel
theorem md_F_submit_87 : decode mc_F_submit 87 = .ok (.dup, 1) := by decide +kernel
theorem md_F_submit_88 : decode mc_F_submit 88 = .ok (.ldc 55, 2) := by decide +kernel
theorem md_F_submit_90 : decode mc_F_submit 90 = .ok (.invokespecial 50, 3) := by decide +kernel
theorem md_F_submit_93 : decode mc_F_submit 93 = .ok (.athrow, 1) := by decide +kernel
theorem md_F_submit_94 : decode mc_F_submit 94 = .ok (.iload_n 2, 1) := by decide +kernel
theorem md_F_submit_95 : decode mc_F_submit 95 = .ok (.invokestatic 23, 3) := by decide +kernel
theorem md_F_submit_98 : decode mc_F_submit 98 = .ok (.istore 5, 2) := by decide +kernel
theorem md_F_submit_100 : decode mc_F_submit 100 = .ok (.new 57, 3) := by decide +kernel
theorem md_F_submit_103 : decode mc_F_submit 103 = .ok (.dup, 1) := by decide +kernel
theorem md_F_submit_104 : decode mc_F_submit 104 = .ok (.iload_n 1, 1) := by decide +kernel
theorem md_F_submit_105 : decode mc_F_submit 105 = .ok (.iload_n 2, 1) := by decide +kernel
theorem md_F_submit_106 : decode mc_F_submit 106 = .ok (.iconst 4, 1) := by decide +kernel
theorem md_F_submit_107 : decode mc_F_submit 107 = .ok (.ishr, 1) := by decide +kernel
theorem md_F_submit_108 : decode mc_F_submit 108 = .ok (.iload_n 2, 1) := by decide +kernel
theorem md_F_submit_109 : decode mc_F_submit 109 = .ok (.iconst 1, 1) := by decide +kernel
theorem md_F_submit_110 : decode mc_F_submit 110 = .ok (.iand, 1) := by decide +kernel
theorem md_F_submit_111 : decode mc_F_submit 111 = .ok (.iload 5, 2) := by decide +kernel
theorem md_F_submit_113 : decode mc_F_submit 113 = .ok (.iconst 5, 1) := by decide +kernel
theorem md_F_submit_114 : decode mc_F_submit 114 = .ok (.if_icmp .ne 7, 3) := by decide +kernel
theorem md_F_submit_117 : decode mc_F_submit 117 = .ok (.iconst 1, 1) := by decide +kernel
theorem md_F_submit_118 : decode mc_F_submit 118 = .ok (.goto 4, 3) := by decide +kernel
theorem md_F_submit_121 : decode mc_F_submit 121 = .ok (.iconst 0, 1) := by decide +kernel
theorem md_F_submit_122 : decode mc_F_submit 122 = .ok (.iload_n 3, 1) := by decide +kernel
theorem md_F_submit_123 : decode mc_F_submit 123 = .ok (.iload 4, 2) := by decide +kernel
theorem md_F_submit_125 : decode mc_F_submit 125 = .ok (.invokespecial 59, 3) := by decide +kernel
theorem md_F_submit_128 : decode mc_F_submit 128 = .ok (.astore 6, 2) := by decide +kernel
theorem md_F_submit_130 : decode mc_F_submit 130 = .ok (.aload_n 0, 1) := by decide +kernel
theorem md_F_submit_131 : decode mc_F_submit 131 = .ok (.aload 6, 2) := by decide +kernel
theorem md_F_submit_133 : decode mc_F_submit 133 = .ok (.iload 5, 2) := by decide +kernel
theorem md_F_submit_135 : decode mc_F_submit 135 = .ok (.invokevirtual 62, 3) := by decide +kernel
theorem md_F_submit_138 : decode mc_F_submit 138 = .ok (.ifCond .eq 13, 3) := by decide +kernel
theorem md_F_submit_141 : decode mc_F_submit 141 = .ok (.new 46, 3) := by decide +kernel
theorem md_F_submit_144 : decode mc_F_submit 144 = .ok (.dup, 1) := by decide +kernel
theorem md_F_submit_145 : decode mc_F_submit 145 = .ok (.ldc 66, 2) := by decide +kernel
theorem md_F_submit_147 : decode mc_F_submit 147 = .ok (.invokespecial 50, 3) := by decide +kernel
theorem md_F_submit_150 : decode mc_F_submit 150 = .ok (.athrow, 1) := by decide +kernel
theorem md_F_submit_151 : decode mc_F_submit 151 = .ok (.aload_n 0, 1) := by decide +kernel
theorem md_F_submit_152 : decode mc_F_submit 152 = .ok (.aload 6, 2) := by decide +kernel
theorem md_F_submit_154 : decode mc_F_submit 154 = .ok (.iload 5, 2) := by decide +kernel
theorem md_F_submit_156 : decode mc_F_submit 156 = .ok (.invokevirtual 68, 3) := by decide +kernel
theorem md_F_submit_159 : decode mc_F_submit 159 = .ok (.ireturn, 1) := by decide +kernel
theorem md_F_kindOf_0 : decode mc_F_kindOf 0 = .ok (.iload_n 0, 1) := by decide +kernel
theorem md_F_kindOf_1 : decode mc_F_kindOf 1 = .ok (.iconst 1, 1) := by decide +kernel
theorem md_F_kindOf_2 : decode mc_F_kindOf 2 = .ok (.ishr, 1) := by decide +kernel
theorem md_F_kindOf_3 : decode mc_F_kindOf 3 = .ok (.bipush 7, 2) := by decide +kernel
theorem md_F_kindOf_5 : decode mc_F_kindOf 5 = .ok (.iand, 1) := by decide +kernel
theorem md_F_kindOf_6 : decode mc_F_kindOf 6 = .ok (.ireturn, 1) := by decide +kernel
theorem md_F_isPrice_0 : decode mc_F_isPrice 0 = .ok (.iload_n 0, 1) := by decide +kernel
theorem md_F_isPrice_1 : decode mc_F_isPrice 1 = .ok (.iconst 1, 1) := by decide +kernel
theorem md_F_isPrice_2 : decode mc_F_isPrice 2 = .ok (.if_icmp .lt 14, 3) := by decide +kernel
theorem md_F_isPrice_5 : decode mc_F_isPrice 5 = .ok (.iload_n 0, 1) := by decide +kernel
theorem md_F_isPrice_6 : decode mc_F_isPrice 6 = .ok (.sipush 10000, 3) := by decide +kernel
theorem md_F_isPrice_9 : decode mc_F_isPrice 9 = .ok (.if_icmp .gt 7, 3) := by decide +kernel
theorem md_F_isPrice_12 : decode mc_F_isPrice 12 = .ok (.iconst 1, 1) := by decide +kernel
theorem md_F_isPrice_13 : decode mc_F_isPrice 13 = .ok (.goto 4, 3) := by decide +kernel
theorem md_F_isPrice_16 : decode mc_F_isPrice 16 = .ok (.iconst 0, 1) := by decide +kernel
theorem md_F_isPrice_17 : decode mc_F_isPrice 17 = .ok (.ireturn, 1) := by decide +kernel
theorem md_F_isQuantity_0 : decode mc_F_isQuantity 0 = .ok (.iload_n 0, 1) := by decide +kernel
theorem md_F_isQuantity_1 : decode mc_F_isQuantity 1 = .ok (.iconst 1, 1) := by decide +kernel
theorem md_F_isQuantity_2 : decode mc_F_isQuantity 2 = .ok (.if_icmp .lt 13, 3) := by decide +kernel
theorem md_F_isQuantity_5 : decode mc_F_isQuantity 5 = .ok (.iload_n 0, 1) := by decide +kernel
theorem md_F_isQuantity_6 : decode mc_F_isQuantity 6 = .ok (.ldc 162, 2) := by decide +kernel
theorem md_F_isQuantity_8 : decode mc_F_isQuantity 8 = .ok (.if_icmp .gt 7, 3) := by decide +kernel
theorem md_F_isQuantity_11 : decode mc_F_isQuantity 11 = .ok (.iconst 1, 1) := by decide +kernel
theorem md_F_isQuantity_12 : decode mc_F_isQuantity 12 = .ok (.goto 4, 3) := by decide +kernel
theorem md_F_isQuantity_15 : decode mc_F_isQuantity 15 = .ok (.iconst 0, 1) := by decide +kernel
theorem md_F_isQuantity_16 : decode mc_F_isQuantity 16 = .ok (.ireturn, 1) := by decide +kernel
theorem md_F_placeOf_0 : decode mc_F_placeOf 0 = .ok (.iconst 0, 1) := by decide +kernel
theorem md_F_placeOf_1 : decode mc_F_placeOf 1 = .ok (.istore_n 2, 1) := by decide +kernel
theorem md_F_placeOf_2 : decode mc_F_placeOf 2 = .ok (.iload_n 2, 1) := by decide +kernel
theorem md_F_placeOf_3 : decode mc_F_placeOf 3 = .ok (.aload_n 0, 1) := by decide +kernel
theorem md_F_placeOf_4 : decode mc_F_placeOf 4 = .ok (.getfield 10, 3) := by decide +kernel
theorem md_F_placeOf_7 : decode mc_F_placeOf 7 = .ok (.invokevirtual 51, 3) := by decide +kernel
theorem md_F_placeOf_10 : decode mc_F_placeOf 10 = .ok (.if_icmp .ge 29, 3) := by decide +kernel
theorem md_F_placeOf_13 : decode mc_F_placeOf 13 = .ok (.aload_n 0, 1) := by decide +kernel
theorem md_F_placeOf_14 : decode mc_F_placeOf 14 = .ok (.getfield 10, 3) := by decide +kernel
theorem md_F_placeOf_17 : decode mc_F_placeOf 17 = .ok (.iload_n 2, 1) := by decide +kernel
theorem md_F_placeOf_18 : decode mc_F_placeOf 18 = .ok (.invokevirtual 85, 3) := by decide +kernel
theorem md_F_placeOf_21 : decode mc_F_placeOf 21 = .ok (.checkcast 57, 3) := by decide +kernel
theorem md_F_placeOf_24 : decode mc_F_placeOf 24 = .ok (.getfield 163, 3) := by decide +kernel
theorem md_F_placeOf_27 : decode mc_F_placeOf 27 = .ok (.iload_n 1, 1) := by decide +kernel
theorem md_F_placeOf_28 : decode mc_F_placeOf 28 = .ok (.if_icmp .ne 5, 3) := by decide +kernel
theorem md_F_placeOf_31 : decode mc_F_placeOf 31 = .ok (.iload_n 2, 1) := by decide +kernel
theorem md_F_placeOf_32 : decode mc_F_placeOf 32 = .ok (.ireturn, 1) := by decide +kernel
theorem md_F_placeOf_33 : decode mc_F_placeOf 33 = .ok (.iinc 2 1, 3) := by decide +kernel
theorem md_F_placeOf_36 : decode mc_F_placeOf 36 = .ok (.goto (-34), 3) := by decide +kernel
theorem md_F_placeOf_39 : decode mc_F_placeOf 39 = .ok (.iconst (-1), 1) := by decide +kernel
theorem md_F_placeOf_40 : decode mc_F_placeOf 40 = .ok (.ireturn, 1) := by decide +kernel
theorem md_O_init_0 : decode mc_O_init 0 = .ok (.aload_n 0, 1) := by decide +kernel
theorem md_O_init_1 : decode mc_O_init 1 = .ok (.invokespecial 3, 3) := by decide +kernel
theorem md_O_init_4 : decode mc_O_init 4 = .ok (.aload_n 0, 1) := by decide +kernel
theorem md_O_init_5 : decode mc_O_init 5 = .ok (.iload_n 1, 1) := by decide +kernel
theorem md_O_init_6 : decode mc_O_init 6 = .ok (.putfield 9, 3) := by decide +kernel
theorem md_O_init_9 : decode mc_O_init 9 = .ok (.aload_n 0, 1) := by decide +kernel
theorem md_O_init_10 : decode mc_O_init 10 = .ok (.iload_n 2, 1) := by decide +kernel
theorem md_O_init_11 : decode mc_O_init 11 = .ok (.putfield 15, 3) := by decide +kernel
theorem md_O_init_14 : decode mc_O_init 14 = .ok (.aload_n 0, 1) := by decide +kernel
theorem md_O_init_15 : decode mc_O_init 15 = .ok (.iload_n 3, 1) := by decide +kernel
theorem md_O_init_16 : decode mc_O_init 16 = .ok (.putfield 18, 3) := by decide +kernel
theorem md_O_init_19 : decode mc_O_init 19 = .ok (.aload_n 0, 1) := by decide +kernel
theorem md_O_init_20 : decode mc_O_init 20 = .ok (.iload 4, 2) := by decide +kernel
theorem md_O_init_22 : decode mc_O_init 22 = .ok (.putfield 21, 3) := by decide +kernel
theorem md_O_init_25 : decode mc_O_init 25 = .ok (.aload_n 0, 1) := by decide +kernel
theorem md_O_init_26 : decode mc_O_init 26 = .ok (.iload 5, 2) := by decide +kernel
theorem md_O_init_28 : decode mc_O_init 28 = .ok (.putfield 25, 3) := by decide +kernel
theorem md_O_init_31 : decode mc_O_init 31 = .ok (.aload_n 0, 1) := by decide +kernel
theorem md_O_init_32 : decode mc_O_init 32 = .ok (.iload 6, 2) := by decide +kernel
theorem md_O_init_34 : decode mc_O_init 34 = .ok (.putfield 28, 3) := by decide +kernel
theorem md_O_init_37 : decode mc_O_init 37 = .ok (.return_, 1) := by decide +kernel
theorem md_F_isRefused_0 : decode mc_F_isRefused 0 = .ok (.iload_n 2, 1) := by decide +kernel
theorem md_F_isRefused_1 : decode mc_F_isRefused 1 = .ok (.iconst 3, 1) := by decide +kernel
theorem md_F_isRefused_2 : decode mc_F_isRefused 2 = .ok (.if_icmp .ne 21, 3) := by decide +kernel
theorem md_F_isRefused_5 : decode mc_F_isRefused 5 = .ok (.aload_n 0, 1) := by decide +kernel
theorem md_F_isRefused_6 : decode mc_F_isRefused 6 = .ok (.aload_n 1, 1) := by decide +kernel
theorem md_F_isRefused_7 : decode mc_F_isRefused 7 = .ok (.invokevirtual 176, 3) := by decide +kernel
theorem md_F_isRefused_10 : decode mc_F_isRefused 10 = .ok (.aload_n 1, 1) := by decide +kernel
theorem md_F_isRefused_11 : decode mc_F_isRefused 11 = .ok (.getfield 81, 3) := by decide +kernel
theorem md_F_isRefused_14 : decode mc_F_isRefused 14 = .ok (.if_icmp .ge 7, 3) := by decide +kernel
theorem md_F_isRefused_17 : decode mc_F_isRefused 17 = .ok (.iconst 1, 1) := by decide +kernel
theorem md_F_isRefused_18 : decode mc_F_isRefused 18 = .ok (.goto 4, 3) := by decide +kernel
theorem md_F_isRefused_21 : decode mc_F_isRefused 21 = .ok (.iconst 0, 1) := by decide +kernel
theorem md_F_isRefused_22 : decode mc_F_isRefused 22 = .ok (.ireturn, 1) := by decide +kernel
theorem md_F_isRefused_23 : decode mc_F_isRefused 23 = .ok (.iload_n 2, 1) := by decide +kernel
theorem md_F_isRefused_24 : decode mc_F_isRefused 24 = .ok (.iconst 4, 1) := by decide +kernel
theorem md_F_isRefused_25 : decode mc_F_isRefused 25 = .ok (.if_icmp .ne 47, 3) := by decide +kernel
theorem md_F_isRefused_28 : decode mc_F_isRefused 28 = .ok (.aload_n 0, 1) := by decide +kernel
theorem md_F_isRefused_29 : decode mc_F_isRefused 29 = .ok (.aload_n 1, 1) := by decide +kernel
theorem md_F_isRefused_30 : decode mc_F_isRefused 30 = .ok (.getfield 125, 3) := by decide +kernel
theorem md_F_isRefused_33 : decode mc_F_isRefused 33 = .ok (.invokestatic 180, 3) := by decide +kernel
theorem md_F_isRefused_36 : decode mc_F_isRefused 36 = .ok (.invokevirtual 183, 3) := by decide +kernel
theorem md_F_isRefused_39 : decode mc_F_isRefused 39 = .ok (.istore_n 3, 1) := by decide +kernel
theorem md_F_isRefused_40 : decode mc_F_isRefused 40 = .ok (.iload_n 3, 1) := by decide +kernel
theorem md_F_isRefused_41 : decode mc_F_isRefused 41 = .ok (.iconst (-1), 1) := by decide +kernel
theorem md_F_isRefused_42 : decode mc_F_isRefused 42 = .ok (.if_icmp .eq 28, 3) := by decide +kernel
theorem md_F_isRefused_45 : decode mc_F_isRefused 45 = .ok (.aload_n 0, 1) := by decide +kernel
theorem md_F_isRefused_46 : decode mc_F_isRefused 46 = .ok (.getfield 10, 3) := by decide +kernel
theorem md_F_isRefused_49 : decode mc_F_isRefused 49 = .ok (.iload_n 3, 1) := by decide +kernel
theorem md_F_isRefused_50 : decode mc_F_isRefused 50 = .ok (.invokevirtual 85, 3) := by decide +kernel
theorem md_F_isRefused_53 : decode mc_F_isRefused 53 = .ok (.checkcast 57, 3) := by decide +kernel
theorem md_F_isRefused_56 : decode mc_F_isRefused 56 = .ok (.aload_n 1, 1) := by decide +kernel
theorem md_F_isRefused_57 : decode mc_F_isRefused 57 = .ok (.getfield 92, 3) := by decide +kernel
theorem md_F_isRefused_60 : decode mc_F_isRefused 60 = .ok (.invokevirtual 186, 3) := by decide +kernel
theorem md_F_isRefused_63 : decode mc_F_isRefused 63 = .ok (.ifCond .eq 7, 3) := by decide +kernel
theorem md_F_isRefused_66 : decode mc_F_isRefused 66 = .ok (.iconst 1, 1) := by decide +kernel
theorem md_F_isRefused_67 : decode mc_F_isRefused 67 = .ok (.goto 4, 3) := by decide +kernel
theorem md_F_isRefused_70 : decode mc_F_isRefused 70 = .ok (.iconst 0, 1) := by decide +kernel
theorem md_F_isRefused_71 : decode mc_F_isRefused 71 = .ok (.ireturn, 1) := by decide +kernel
theorem md_F_isRefused_72 : decode mc_F_isRefused 72 = .ok (.iconst 0, 1) := by decide +kernel
theorem md_F_isRefused_73 : decode mc_F_isRefused 73 = .ok (.ireturn, 1) := by decide +kernel
theorem md_F_leftFor_0 : decode mc_F_leftFor 0 = .ok (.aload_n 1, 1) := by decide +kernel
theorem md_F_leftFor_1 : decode mc_F_leftFor 1 = .ok (.getfield 125, 3) := by decide +kernel
theorem md_F_leftFor_4 : decode mc_F_leftFor 4 = .ok (.invokestatic 180, 3) := by decide +kernel
theorem md_F_leftFor_7 : decode mc_F_leftFor 7 = .ok (.istore_n 2, 1) := by decide +kernel
theorem md_F_leftFor_8 : decode mc_F_leftFor 8 = .ok (.iconst 0, 1) := by decide +kernel
theorem md_F_leftFor_9 : decode mc_F_leftFor 9 = .ok (.istore_n 3, 1) := by decide +kernel
theorem md_F_leftFor_10 : decode mc_F_leftFor 10 = .ok (.iconst 0, 1) := by decide +kernel
theorem md_F_leftFor_11 : decode mc_F_leftFor 11 = .ok (.istore 4, 2) := by decide +kernel
theorem md_F_leftFor_13 : decode mc_F_leftFor 13 = .ok (.iload 4, 2) := by decide +kernel
theorem md_F_leftFor_15 : decode mc_F_leftFor 15 = .ok (.aload_n 0, 1) := by decide +kernel
theorem md_F_leftFor_16 : decode mc_F_leftFor 16 = .ok (.getfield 10, 3) := by decide +kernel
theorem md_F_leftFor_19 : decode mc_F_leftFor 19 = .ok (.invokevirtual 51, 3) := by decide +kernel
theorem md_F_leftFor_22 : decode mc_F_leftFor 22 = .ok (.if_icmp .ge 64, 3) := by decide +kernel
theorem md_F_leftFor_25 : decode mc_F_leftFor 25 = .ok (.aload_n 0, 1) := by decide +kernel
theorem md_F_leftFor_26 : decode mc_F_leftFor 26 = .ok (.getfield 10, 3) := by decide +kernel
theorem md_F_leftFor_29 : decode mc_F_leftFor 29 = .ok (.iload 4, 2) := by decide +kernel
theorem md_F_leftFor_31 : decode mc_F_leftFor 31 = .ok (.invokevirtual 85, 3) := by decide +kernel
theorem md_F_leftFor_34 : decode mc_F_leftFor 34 = .ok (.checkcast 57, 3) := by decide +kernel
theorem md_F_leftFor_37 : decode mc_F_leftFor 37 = .ok (.astore 5, 2) := by decide +kernel
theorem md_F_leftFor_39 : decode mc_F_leftFor 39 = .ok (.aload 5, 2) := by decide +kernel
theorem md_F_leftFor_41 : decode mc_F_leftFor 41 = .ok (.iload_n 2, 1) := by decide +kernel
theorem md_F_leftFor_42 : decode mc_F_leftFor 42 = .ok (.invokevirtual 166, 3) := by decide +kernel
theorem md_F_leftFor_45 : decode mc_F_leftFor 45 = .ok (.ifCond .eq 35, 3) := by decide +kernel
theorem md_F_leftFor_48 : decode mc_F_leftFor 48 = .ok (.aload 5, 2) := by decide +kernel
theorem md_F_leftFor_50 : decode mc_F_leftFor 50 = .ok (.aload_n 1, 1) := by decide +kernel
theorem md_F_leftFor_51 : decode mc_F_leftFor 51 = .ok (.getfield 92, 3) := by decide +kernel
theorem md_F_leftFor_54 : decode mc_F_leftFor 54 = .ok (.invokevirtual 186, 3) := by decide +kernel
theorem md_F_leftFor_57 : decode mc_F_leftFor 57 = .ok (.ifCond .eq 23, 3) := by decide +kernel
theorem md_F_leftFor_60 : decode mc_F_leftFor 60 = .ok (.aload 5, 2) := by decide +kernel
theorem md_F_leftFor_62 : decode mc_F_leftFor 62 = .ok (.getfield 97, 3) := by decide +kernel
theorem md_F_leftFor_65 : decode mc_F_leftFor 65 = .ok (.aload_n 1, 1) := by decide +kernel
theorem md_F_leftFor_66 : decode mc_F_leftFor 66 = .ok (.getfield 97, 3) := by decide +kernel
theorem md_F_leftFor_69 : decode mc_F_leftFor 69 = .ok (.if_icmp .eq 11, 3) := by decide +kernel
theorem md_F_leftFor_72 : decode mc_F_leftFor 72 = .ok (.iload_n 3, 1) := by decide +kernel
theorem md_F_leftFor_73 : decode mc_F_leftFor 73 = .ok (.aload 5, 2) := by decide +kernel
theorem md_F_leftFor_75 : decode mc_F_leftFor 75 = .ok (.getfield 81, 3) := by decide +kernel
theorem md_F_leftFor_78 : decode mc_F_leftFor 78 = .ok (.iadd, 1) := by decide +kernel
theorem md_F_leftFor_79 : decode mc_F_leftFor 79 = .ok (.istore_n 3, 1) := by decide +kernel
theorem md_F_leftFor_80 : decode mc_F_leftFor 80 = .ok (.iinc 4 1, 3) := by decide +kernel
theorem md_F_leftFor_83 : decode mc_F_leftFor 83 = .ok (.goto (-70), 3) := by decide +kernel
theorem md_F_leftFor_86 : decode mc_F_leftFor 86 = .ok (.iload_n 3, 1) := by decide +kernel
theorem md_F_leftFor_87 : decode mc_F_leftFor 87 = .ok (.ireturn, 1) := by decide +kernel
theorem md_F_otherSide_0 : decode mc_F_otherSide 0 = .ok (.iload_n 0, 1) := by decide +kernel
theorem md_F_otherSide_1 : decode mc_F_otherSide 1 = .ok (.ifCond .ne 7, 3) := by decide +kernel
theorem md_F_otherSide_4 : decode mc_F_otherSide 4 = .ok (.iconst 1, 1) := by decide +kernel
theorem md_F_otherSide_5 : decode mc_F_otherSide 5 = .ok (.goto 4, 3) := by decide +kernel
theorem md_F_otherSide_8 : decode mc_F_otherSide 8 = .ok (.iconst 0, 1) := by decide +kernel
theorem md_F_otherSide_9 : decode mc_F_otherSide 9 = .ok (.ireturn, 1) := by decide +kernel
theorem md_O_restsOn_0 : decode mc_O_restsOn 0 = .ok (.aload_n 0, 1) := by decide +kernel
theorem md_O_restsOn_1 : decode mc_O_restsOn 1 = .ok (.getfield 21, 3) := by decide +kernel
theorem md_O_restsOn_4 : decode mc_O_restsOn 4 = .ok (.ifCond .ne 15, 3) := by decide +kernel
theorem md_O_restsOn_7 : decode mc_O_restsOn 7 = .ok (.aload_n 0, 1) := by decide +kernel
theorem md_O_restsOn_8 : decode mc_O_restsOn 8 = .ok (.getfield 18, 3) := by decide +kernel
theorem md_O_restsOn_11 : decode mc_O_restsOn 11 = .ok (.iload_n 1, 1) := by decide +kernel
theorem md_O_restsOn_12 : decode mc_O_restsOn 12 = .ok (.if_icmp .ne 7, 3) := by decide +kernel
theorem md_O_restsOn_15 : decode mc_O_restsOn 15 = .ok (.iconst 1, 1) := by decide +kernel
theorem md_O_restsOn_16 : decode mc_O_restsOn 16 = .ok (.goto 4, 3) := by decide +kernel
theorem md_O_restsOn_19 : decode mc_O_restsOn 19 = .ok (.iconst 0, 1) := by decide +kernel
theorem md_O_restsOn_20 : decode mc_O_restsOn 20 = .ok (.ireturn, 1) := by decide +kernel
theorem md_O_isFitBy_0 : decode mc_O_isFitBy 0 = .ok (.iload_n 1, 1) := by decide +kernel
theorem md_O_isFitBy_1 : decode mc_O_isFitBy 1 = .ok (.ifCond .eq 29, 3) := by decide +kernel
theorem md_O_isFitBy_4 : decode mc_O_isFitBy 4 = .ok (.iload_n 1, 1) := by decide +kernel
theorem md_O_isFitBy_5 : decode mc_O_isFitBy 5 = .ok (.aload_n 0, 1) := by decide +kernel
theorem md_O_isFitBy_6 : decode mc_O_isFitBy 6 = .ok (.getfield 25, 3) := by decide +kernel
theorem md_O_isFitBy_9 : decode mc_O_isFitBy 9 = .ok (.if_icmp .eq 21, 3) := by decide +kernel
theorem md_O_isFitBy_12 : decode mc_O_isFitBy 12 = .ok (.aload_n 0, 1) := by decide +kernel
theorem md_O_isFitBy_13 : decode mc_O_isFitBy 13 = .ok (.getfield 18, 3) := by decide +kernel
theorem md_O_isFitBy_16 : decode mc_O_isFitBy 16 = .ok (.invokestatic 31, 3) := by decide +kernel
theorem md_O_isFitBy_19 : decode mc_O_isFitBy 19 = .ok (.iload_n 1, 1) := by decide +kernel
theorem md_O_isFitBy_20 : decode mc_O_isFitBy 20 = .ok (.aload_n 0, 1) := by decide +kernel
theorem md_O_isFitBy_21 : decode mc_O_isFitBy 21 = .ok (.getfield 25, 3) := by decide +kernel
theorem md_O_isFitBy_24 : decode mc_O_isFitBy 24 = .ok (.invokestatic 35, 3) := by decide +kernel
theorem md_O_isFitBy_27 : decode mc_O_isFitBy 27 = .ok (.ifCond .eq 7, 3) := by decide +kernel
theorem md_O_isFitBy_30 : decode mc_O_isFitBy 30 = .ok (.iconst 1, 1) := by decide +kernel
theorem md_O_isFitBy_31 : decode mc_O_isFitBy 31 = .ok (.goto 4, 3) := by decide +kernel
theorem md_O_isFitBy_34 : decode mc_O_isFitBy 34 = .ok (.iconst 0, 1) := by decide +kernel
theorem md_O_isFitBy_35 : decode mc_O_isFitBy 35 = .ok (.ireturn, 1) := by decide +kernel
theorem md_F_isBetter_0 : decode mc_F_isBetter 0 = .ok (.iload_n 0, 1) := by decide +kernel
theorem md_F_isBetter_1 : decode mc_F_isBetter 1 = .ok (.ifCond .ne 16, 3) := by decide +kernel
theorem md_F_isBetter_4 : decode mc_F_isBetter 4 = .ok (.iload_n 1, 1) := by decide +kernel
theorem md_F_isBetter_5 : decode mc_F_isBetter 5 = .ok (.iload_n 2, 1) := by decide +kernel
theorem md_F_isBetter_6 : decode mc_F_isBetter 6 = .ok (.if_icmp .le 7, 3) := by decide +kernel
theorem md_F_isBetter_9 : decode mc_F_isBetter 9 = .ok (.iconst 1, 1) := by decide +kernel
theorem md_F_isBetter_10 : decode mc_F_isBetter 10 = .ok (.goto 17, 3) := by decide +kernel
theorem md_F_isBetter_13 : decode mc_F_isBetter 13 = .ok (.iconst 0, 1) := by decide +kernel
theorem md_F_isBetter_14 : decode mc_F_isBetter 14 = .ok (.goto 13, 3) := by decide +kernel
theorem md_F_isBetter_17 : decode mc_F_isBetter 17 = .ok (.iload_n 1, 1) := by decide +kernel
theorem md_F_isBetter_18 : decode mc_F_isBetter 18 = .ok (.iload_n 2, 1) := by decide +kernel
theorem md_F_isBetter_19 : decode mc_F_isBetter 19 = .ok (.if_icmp .ge 7, 3) := by decide +kernel
theorem md_F_isBetter_22 : decode mc_F_isBetter 22 = .ok (.iconst 1, 1) := by decide +kernel
theorem md_F_isBetter_23 : decode mc_F_isBetter 23 = .ok (.goto 4, 3) := by decide +kernel
theorem md_F_isBetter_26 : decode mc_F_isBetter 26 = .ok (.iconst 0, 1) := by decide +kernel
theorem md_F_isBetter_27 : decode mc_F_isBetter 27 = .ok (.ireturn, 1) := by decide +kernel
theorem md_F_placeOfFirst_0 : decode mc_F_placeOfFirst 0 = .ok (.iconst (-1), 1) := by decide +kernel
theorem md_F_placeOfFirst_1 : decode mc_F_placeOfFirst 1 = .ok (.istore_n 2, 1) := by decide +kernel
theorem md_F_placeOfFirst_2 : decode mc_F_placeOfFirst 2 = .ok (.iconst 0, 1) := by decide +kernel
theorem md_F_placeOfFirst_3 : decode mc_F_placeOfFirst 3 = .ok (.istore_n 3, 1) := by decide +kernel
theorem md_F_placeOfFirst_4 : decode mc_F_placeOfFirst 4 = .ok (.iconst 0, 1) := by decide +kernel
theorem md_F_placeOfFirst_5 : decode mc_F_placeOfFirst 5 = .ok (.istore 4, 2) := by decide +kernel
theorem md_F_placeOfFirst_7 : decode mc_F_placeOfFirst 7 = .ok (.iload 4, 2) := by decide +kernel
theorem md_F_placeOfFirst_9 : decode mc_F_placeOfFirst 9 = .ok (.aload_n 0, 1) := by decide +kernel
theorem md_F_placeOfFirst_10 : decode mc_F_placeOfFirst 10 = .ok (.getfield 10, 3) := by decide +kernel
theorem md_F_placeOfFirst_13 : decode mc_F_placeOfFirst 13 = .ok (.invokevirtual 51, 3) := by decide +kernel
theorem md_F_placeOfFirst_16 : decode mc_F_placeOfFirst 16 = .ok (.if_icmp .ge 59, 3) := by decide +kernel
theorem md_F_placeOfFirst_19 : decode mc_F_placeOfFirst 19 = .ok (.aload_n 0, 1) := by decide +kernel
theorem md_F_placeOfFirst_20 : decode mc_F_placeOfFirst 20 = .ok (.getfield 10, 3) := by decide +kernel
theorem md_F_placeOfFirst_23 : decode mc_F_placeOfFirst 23 = .ok (.iload 4, 2) := by decide +kernel
theorem md_F_placeOfFirst_25 : decode mc_F_placeOfFirst 25 = .ok (.invokevirtual 85, 3) := by decide +kernel
theorem md_F_placeOfFirst_28 : decode mc_F_placeOfFirst 28 = .ok (.checkcast 57, 3) := by decide +kernel
theorem md_F_placeOfFirst_31 : decode mc_F_placeOfFirst 31 = .ok (.astore 5, 2) := by decide +kernel
theorem md_F_placeOfFirst_33 : decode mc_F_placeOfFirst 33 = .ok (.aload 5, 2) := by decide +kernel
theorem md_F_placeOfFirst_35 : decode mc_F_placeOfFirst 35 = .ok (.iload_n 1, 1) := by decide +kernel
theorem md_F_placeOfFirst_36 : decode mc_F_placeOfFirst 36 = .ok (.invokevirtual 166, 3) := by decide +kernel
theorem md_F_placeOfFirst_39 : decode mc_F_placeOfFirst 39 = .ok (.ifCond .eq 30, 3) := by decide +kernel
theorem md_F_placeOfFirst_42 : decode mc_F_placeOfFirst 42 = .ok (.iload_n 2, 1) := by decide +kernel
theorem md_F_placeOfFirst_43 : decode mc_F_placeOfFirst 43 = .ok (.iconst (-1), 1) := by decide +kernel
theorem md_F_placeOfFirst_44 : decode mc_F_placeOfFirst 44 = .ok (.if_icmp .eq 16, 3) := by decide +kernel
theorem md_F_placeOfFirst_47 : decode mc_F_placeOfFirst 47 = .ok (.iload_n 1, 1) := by decide +kernel
theorem md_F_placeOfFirst_48 : decode mc_F_placeOfFirst 48 = .ok (.aload 5, 2) := by decide +kernel
theorem md_F_placeOfFirst_50 : decode mc_F_placeOfFirst 50 = .ok (.getfield 92, 3) := by decide +kernel
theorem md_F_placeOfFirst_53 : decode mc_F_placeOfFirst 53 = .ok (.iload_n 3, 1) := by decide +kernel
theorem md_F_placeOfFirst_54 : decode mc_F_placeOfFirst 54 = .ok (.invokestatic 169, 3) := by decide +kernel
theorem md_F_placeOfFirst_57 : decode mc_F_placeOfFirst 57 = .ok (.ifCond .eq 12, 3) := by decide +kernel
theorem md_F_placeOfFirst_60 : decode mc_F_placeOfFirst 60 = .ok (.iload 4, 2) := by decide +kernel
theorem md_F_placeOfFirst_62 : decode mc_F_placeOfFirst 62 = .ok (.istore_n 2, 1) := by decide +kernel
theorem md_F_placeOfFirst_63 : decode mc_F_placeOfFirst 63 = .ok (.aload 5, 2) := by decide +kernel
theorem md_F_placeOfFirst_65 : decode mc_F_placeOfFirst 65 = .ok (.getfield 92, 3) := by decide +kernel
theorem md_F_placeOfFirst_68 : decode mc_F_placeOfFirst 68 = .ok (.istore_n 3, 1) := by decide +kernel
theorem md_F_placeOfFirst_69 : decode mc_F_placeOfFirst 69 = .ok (.iinc 4 1, 3) := by decide +kernel
theorem md_F_placeOfFirst_72 : decode mc_F_placeOfFirst 72 = .ok (.goto (-65), 3) := by decide +kernel
theorem md_F_placeOfFirst_75 : decode mc_F_placeOfFirst 75 = .ok (.iload_n 2, 1) := by decide +kernel
theorem md_F_placeOfFirst_76 : decode mc_F_placeOfFirst 76 = .ok (.ireturn, 1) := by decide +kernel
theorem md_F_comeIn_0 : decode mc_F_comeIn 0 = .ok (.aload_n 1, 1) := by decide +kernel
theorem md_F_comeIn_1 : decode mc_F_comeIn 1 = .ok (.getfield 81, 3) := by decide +kernel
theorem md_F_comeIn_4 : decode mc_F_comeIn 4 = .ok (.istore_n 3, 1) := by decide +kernel
theorem md_F_comeIn_5 : decode mc_F_comeIn 5 = .ok (.iload_n 2, 1) := by decide +kernel
theorem md_F_comeIn_6 : decode mc_F_comeIn 6 = .ok (.iconst 4, 1) := by decide +kernel
theorem md_F_comeIn_7 : decode mc_F_comeIn 7 = .ok (.if_icmp .eq 26, 3) := by decide +kernel
theorem md_F_comeIn_10 : decode mc_F_comeIn 10 = .ok (.iload_n 2, 1) := by decide +kernel
theorem md_F_comeIn_11 : decode mc_F_comeIn 11 = .ok (.iconst 5, 1) := by decide +kernel
theorem md_F_comeIn_12 : decode mc_F_comeIn 12 = .ok (.if_icmp .eq 21, 3) := by decide +kernel
theorem md_F_comeIn_15 : decode mc_F_comeIn 15 = .ok (.aload_n 0, 1) := by decide +kernel
theorem md_F_comeIn_16 : decode mc_F_comeIn 16 = .ok (.aload_n 1, 1) := by decide +kernel
theorem md_F_comeIn_17 : decode mc_F_comeIn 17 = .ok (.iload_n 2, 1) := by decide +kernel
theorem md_F_comeIn_18 : decode mc_F_comeIn 18 = .ok (.iconst 1, 1) := by decide +kernel
theorem md_F_comeIn_19 : decode mc_F_comeIn 19 = .ok (.if_icmp .ne 7, 3) := by decide +kernel
theorem md_F_comeIn_22 : decode mc_F_comeIn 22 = .ok (.iconst 0, 1) := by decide +kernel
theorem md_F_comeIn_23 : decode mc_F_comeIn 23 = .ok (.goto 7, 3) := by decide +kernel
theorem md_F_comeIn_26 : decode mc_F_comeIn 26 = .ok (.aload_n 1, 1) := by decide +kernel
theorem md_F_comeIn_27 : decode mc_F_comeIn 27 = .ok (.getfield 92, 3) := by decide +kernel
theorem md_F_comeIn_30 : decode mc_F_comeIn 30 = .ok (.invokevirtual 189, 3) := by decide +kernel
theorem md_F_comeIn_33 : decode mc_F_comeIn 33 = .ok (.iload_n 3, 1) := by decide +kernel
theorem md_F_comeIn_34 : decode mc_F_comeIn 34 = .ok (.aload_n 1, 1) := by decide +kernel
theorem md_F_comeIn_35 : decode mc_F_comeIn 35 = .ok (.getfield 81, 3) := by decide +kernel
theorem md_F_comeIn_38 : decode mc_F_comeIn 38 = .ok (.isub, 1) := by decide +kernel
theorem md_F_comeIn_39 : decode mc_F_comeIn 39 = .ok (.istore 4, 2) := by decide +kernel
theorem md_F_comeIn_41 : decode mc_F_comeIn 41 = .ok (.iload_n 2, 1) := by decide +kernel
theorem md_F_comeIn_42 : decode mc_F_comeIn 42 = .ok (.ifCond .eq 13, 3) := by decide +kernel
theorem md_F_comeIn_45 : decode mc_F_comeIn 45 = .ok (.iload_n 2, 1) := by decide +kernel
theorem md_F_comeIn_46 : decode mc_F_comeIn 46 = .ok (.iconst 4, 1) := by decide +kernel
theorem md_F_comeIn_47 : decode mc_F_comeIn 47 = .ok (.if_icmp .eq 8, 3) := by decide +kernel
theorem md_F_comeIn_50 : decode mc_F_comeIn 50 = .ok (.iload_n 2, 1) := by decide +kernel
theorem md_F_comeIn_51 : decode mc_F_comeIn 51 = .ok (.iconst 5, 1) := by decide +kernel
theorem md_F_comeIn_52 : decode mc_F_comeIn 52 = .ok (.if_icmp .ne 7, 3) := by decide +kernel
theorem md_F_comeIn_55 : decode mc_F_comeIn 55 = .ok (.iconst 1, 1) := by decide +kernel
theorem md_F_comeIn_56 : decode mc_F_comeIn 56 = .ok (.goto 4, 3) := by decide +kernel
theorem md_F_comeIn_59 : decode mc_F_comeIn 59 = .ok (.iconst 0, 1) := by decide +kernel
theorem md_F_comeIn_60 : decode mc_F_comeIn 60 = .ok (.istore 5, 2) := by decide +kernel
theorem md_F_comeIn_62 : decode mc_F_comeIn 62 = .ok (.iload 5, 2) := by decide +kernel
theorem md_F_comeIn_64 : decode mc_F_comeIn 64 = .ok (.ifCond .eq 19, 3) := by decide +kernel
theorem md_F_comeIn_67 : decode mc_F_comeIn 67 = .ok (.aload_n 1, 1) := by decide +kernel
theorem md_F_comeIn_68 : decode mc_F_comeIn 68 = .ok (.getfield 81, 3) := by decide +kernel
theorem md_F_comeIn_71 : decode mc_F_comeIn 71 = .ok (.ifCond .le 12, 3) := by decide +kernel
theorem md_F_comeIn_74 : decode mc_F_comeIn 74 = .ok (.aload_n 0, 1) := by decide +kernel
theorem md_F_comeIn_75 : decode mc_F_comeIn 75 = .ok (.getfield 10, 3) := by decide +kernel
theorem md_F_comeIn_78 : decode mc_F_comeIn 78 = .ok (.aload_n 1, 1) := by decide +kernel
theorem md_F_comeIn_79 : decode mc_F_comeIn 79 = .ok (.invokevirtual 193, 3) := by decide +kernel
theorem md_F_comeIn_82 : decode mc_F_comeIn 82 = .ok (.pop, 1) := by decide +kernel
theorem md_F_comeIn_83 : decode mc_F_comeIn 83 = .ok (.aload_n 0, 1) := by decide +kernel
theorem md_F_comeIn_84 : decode mc_F_comeIn 84 = .ok (.invokevirtual 197, 3) := by decide +kernel
theorem md_F_comeIn_87 : decode mc_F_comeIn 87 = .ok (.iload 4, 2) := by decide +kernel
theorem md_F_comeIn_89 : decode mc_F_comeIn 89 = .ok (.ireturn, 1) := by decide +kernel
theorem md_F_match_0 : decode mc_F_match 0 = .ok (.iconst 0, 1) := by decide +kernel
theorem md_F_match_1 : decode mc_F_match 1 = .ok (.istore_n 3, 1) := by decide +kernel
theorem md_F_match_2 : decode mc_F_match 2 = .ok (.iload_n 3, 1) := by decide +kernel
theorem md_F_match_3 : decode mc_F_match 3 = .ok (.bipush 40, 2) := by decide +kernel
theorem md_F_match_5 : decode mc_F_match 5 = .ok (.if_icmp .gt 62, 3) := by decide +kernel
theorem md_F_match_8 : decode mc_F_match 8 = .ok (.aload_n 1, 1) := by decide +kernel
theorem md_F_match_9 : decode mc_F_match 9 = .ok (.getfield 81, 3) := by decide +kernel
theorem md_F_match_12 : decode mc_F_match 12 = .ok (.ifCond .le 55, 3) := by decide +kernel
theorem md_F_match_15 : decode mc_F_match 15 = .ok (.aload_n 0, 1) := by decide +kernel
theorem md_F_match_16 : decode mc_F_match 16 = .ok (.aload_n 1, 1) := by decide +kernel
theorem md_F_match_17 : decode mc_F_match 17 = .ok (.getfield 125, 3) := by decide +kernel
theorem md_F_match_20 : decode mc_F_match 20 = .ok (.invokestatic 180, 3) := by decide +kernel
theorem md_F_match_23 : decode mc_F_match 23 = .ok (.invokevirtual 183, 3) := by decide +kernel
theorem md_F_match_26 : decode mc_F_match 26 = .ok (.istore 4, 2) := by decide +kernel
theorem md_F_match_28 : decode mc_F_match 28 = .ok (.iload 4, 2) := by decide +kernel
theorem md_F_match_30 : decode mc_F_match 30 = .ok (.iconst (-1), 1) := by decide +kernel
theorem md_F_match_31 : decode mc_F_match 31 = .ok (.if_icmp .eq 22, 3) := by decide +kernel
theorem md_F_match_34 : decode mc_F_match 34 = .ok (.aload_n 0, 1) := by decide +kernel
theorem md_F_match_35 : decode mc_F_match 35 = .ok (.getfield 10, 3) := by decide +kernel
theorem md_F_match_38 : decode mc_F_match 38 = .ok (.iload 4, 2) := by decide +kernel
theorem md_F_match_40 : decode mc_F_match 40 = .ok (.invokevirtual 85, 3) := by decide +kernel
theorem md_F_match_43 : decode mc_F_match 43 = .ok (.checkcast 57, 3) := by decide +kernel
theorem md_F_match_46 : decode mc_F_match 46 = .ok (.iload_n 2, 1) := by decide +kernel
theorem md_F_match_47 : decode mc_F_match 47 = .ok (.invokevirtual 186, 3) := by decide +kernel
theorem md_F_match_50 : decode mc_F_match 50 = .ok (.ifCond .ne 4, 3) := by decide +kernel
theorem md_F_match_53 : decode mc_F_match 53 = .ok (.return_, 1) := by decide +kernel
theorem md_F_match_54 : decode mc_F_match 54 = .ok (.aload_n 0, 1) := by decide +kernel
theorem md_F_match_55 : decode mc_F_match 55 = .ok (.aload_n 1, 1) := by decide +kernel
theorem md_F_match_56 : decode mc_F_match 56 = .ok (.iload 4, 2) := by decide +kernel
theorem md_F_match_58 : decode mc_F_match 58 = .ok (.invokevirtual 203, 3) := by decide +kernel
theorem md_F_match_61 : decode mc_F_match 61 = .ok (.iinc 3 1, 3) := by decide +kernel
theorem md_F_match_64 : decode mc_F_match 64 = .ok (.goto (-62), 3) := by decide +kernel
theorem md_F_match_67 : decode mc_F_match 67 = .ok (.return_, 1) := by decide +kernel
theorem md_F_meet_0 : decode mc_F_meet 0 = .ok (.aload_n 0, 1) := by decide +kernel
theorem md_F_meet_1 : decode mc_F_meet 1 = .ok (.getfield 10, 3) := by decide +kernel
theorem md_F_meet_4 : decode mc_F_meet 4 = .ok (.iload_n 2, 1) := by decide +kernel
theorem md_F_meet_5 : decode mc_F_meet 5 = .ok (.invokevirtual 85, 3) := by decide +kernel
theorem md_F_meet_8 : decode mc_F_meet 8 = .ok (.checkcast 57, 3) := by decide +kernel
theorem md_F_meet_11 : decode mc_F_meet 11 = .ok (.astore_n 3, 1) := by decide +kernel
theorem md_F_meet_12 : decode mc_F_meet 12 = .ok (.aload_n 3, 1) := by decide +kernel
theorem md_F_meet_13 : decode mc_F_meet 13 = .ok (.getfield 97, 3) := by decide +kernel
theorem md_F_meet_16 : decode mc_F_meet 16 = .ok (.aload_n 1, 1) := by decide +kernel
theorem md_F_meet_17 : decode mc_F_meet 17 = .ok (.getfield 97, 3) := by decide +kernel
theorem md_F_meet_20 : decode mc_F_meet 20 = .ok (.if_icmp .ne 23, 3) := by decide +kernel
theorem md_F_meet_23 : decode mc_F_meet 23 = .ok (.aload_n 0, 1) := by decide +kernel
theorem md_F_meet_24 : decode mc_F_meet 24 = .ok (.getfield 10, 3) := by decide +kernel
theorem md_F_meet_27 : decode mc_F_meet 27 = .ok (.iload_n 2, 1) := by decide +kernel
theorem md_F_meet_28 : decode mc_F_meet 28 = .ok (.invokevirtual 77, 3) := by decide +kernel
theorem md_F_meet_31 : decode mc_F_meet 31 = .ok (.pop, 1) := by decide +kernel
theorem md_F_meet_32 : decode mc_F_meet 32 = .ok (.aload_n 0, 1) := by decide +kernel
theorem md_F_meet_33 : decode mc_F_meet 33 = .ok (.dup, 1) := by decide +kernel
theorem md_F_meet_34 : decode mc_F_meet 34 = .ok (.getfield 154, 3) := by decide +kernel
theorem md_F_meet_37 : decode mc_F_meet 37 = .ok (.iconst 1, 1) := by decide +kernel
theorem md_F_meet_38 : decode mc_F_meet 38 = .ok (.iadd, 1) := by decide +kernel
theorem md_F_meet_39 : decode mc_F_meet 39 = .ok (.putfield 154, 3) := by decide +kernel
theorem md_F_meet_42 : decode mc_F_meet 42 = .ok (.return_, 1) := by decide +kernel
theorem md_F_meet_43 : decode mc_F_meet 43 = .ok (.aload_n 1, 1) := by decide +kernel
theorem md_F_meet_44 : decode mc_F_meet 44 = .ok (.getfield 81, 3) := by decide +kernel
theorem md_F_meet_47 : decode mc_F_meet 47 = .ok (.aload_n 3, 1) := by decide +kernel
theorem md_F_meet_48 : decode mc_F_meet 48 = .ok (.getfield 81, 3) := by decide +kernel
theorem md_F_meet_51 : decode mc_F_meet 51 = .ok (.invokestatic 206, 3) := by decide +kernel
theorem md_F_meet_54 : decode mc_F_meet 54 = .ok (.istore 4, 2) := by decide +kernel
theorem md_F_meet_56 : decode mc_F_meet 56 = .ok (.aload_n 1, 1) := by decide +kernel
theorem md_F_meet_57 : decode mc_F_meet 57 = .ok (.dup, 1) := by decide +kernel
theorem md_F_meet_58 : decode mc_F_meet 58 = .ok (.getfield 81, 3) := by decide +kernel
theorem md_F_meet_61 : decode mc_F_meet 61 = .ok (.iload 4, 2) := by decide +kernel
theorem md_F_meet_63 : decode mc_F_meet 63 = .ok (.isub, 1) := by decide +kernel
theorem md_F_meet_64 : decode mc_F_meet 64 = .ok (.putfield 81, 3) := by decide +kernel
theorem md_F_meet_67 : decode mc_F_meet 67 = .ok (.aload_n 3, 1) := by decide +kernel
theorem md_F_meet_68 : decode mc_F_meet 68 = .ok (.dup, 1) := by decide +kernel
theorem md_F_meet_69 : decode mc_F_meet 69 = .ok (.getfield 81, 3) := by decide +kernel
theorem md_F_meet_72 : decode mc_F_meet 72 = .ok (.iload 4, 2) := by decide +kernel
theorem md_F_meet_74 : decode mc_F_meet 74 = .ok (.isub, 1) := by decide +kernel
theorem md_F_meet_75 : decode mc_F_meet 75 = .ok (.putfield 81, 3) := by decide +kernel
theorem md_F_meet_78 : decode mc_F_meet 78 = .ok (.aload_n 0, 1) := by decide +kernel
theorem md_F_meet_79 : decode mc_F_meet 79 = .ok (.getfield 19, 3) := by decide +kernel
theorem md_F_meet_82 : decode mc_F_meet 82 = .ok (.aload_n 1, 1) := by decide +kernel
theorem md_F_meet_83 : decode mc_F_meet 83 = .ok (.getfield 163, 3) := by decide +kernel
theorem md_F_meet_86 : decode mc_F_meet 86 = .ok (.aload_n 3, 1) := by decide +kernel
theorem md_F_meet_87 : decode mc_F_meet 87 = .ok (.getfield 163, 3) := by decide +kernel
theorem md_F_meet_90 : decode mc_F_meet 90 = .ok (.aload_n 3, 1) := by decide +kernel
theorem md_F_meet_91 : decode mc_F_meet 91 = .ok (.getfield 92, 3) := by decide +kernel
theorem md_F_meet_94 : decode mc_F_meet 94 = .ok (.iload 4, 2) := by decide +kernel
theorem md_F_meet_96 : decode mc_F_meet 96 = .ok (.invokevirtual 211, 3) := by decide +kernel
theorem md_F_meet_99 : decode mc_F_meet 99 = .ok (.aload_n 3, 1) := by decide +kernel
theorem md_F_meet_100 : decode mc_F_meet 100 = .ok (.getfield 81, 3) := by decide +kernel
theorem md_F_meet_103 : decode mc_F_meet 103 = .ok (.ifCond .ne 12, 3) := by decide +kernel
theorem md_F_meet_106 : decode mc_F_meet 106 = .ok (.aload_n 0, 1) := by decide +kernel
theorem md_F_meet_107 : decode mc_F_meet 107 = .ok (.getfield 10, 3) := by decide +kernel
theorem md_F_meet_110 : decode mc_F_meet 110 = .ok (.iload_n 2, 1) := by decide +kernel
theorem md_F_meet_111 : decode mc_F_meet 111 = .ok (.invokevirtual 77, 3) := by decide +kernel
theorem md_F_meet_114 : decode mc_F_meet 114 = .ok (.pop, 1) := by decide +kernel
theorem md_F_meet_115 : decode mc_F_meet 115 = .ok (.return_, 1) := by decide +kernel
theorem md_T_write_0 : decode mc_T_write 0 = .ok (.aload_n 0, 1) := by decide +kernel
theorem md_T_write_1 : decode mc_T_write 1 = .ok (.getfield 13, 3) := by decide +kernel
theorem md_T_write_4 : decode mc_T_write 4 = .ok (.aload_n 0, 1) := by decide +kernel
theorem md_T_write_5 : decode mc_T_write 5 = .ok (.getfield 20, 3) := by decide +kernel
theorem md_T_write_8 : decode mc_T_write 8 = .ok (.bipush 32, 2) := by decide +kernel
theorem md_T_write_10 : decode mc_T_write 10 = .ok (.invokestatic 23, 3) := by decide +kernel
theorem md_T_write_13 : decode mc_T_write 13 = .ok (.aaload, 1) := by decide +kernel
theorem md_T_write_14 : decode mc_T_write 14 = .ok (.astore 5, 2) := by decide +kernel
theorem md_T_write_16 : decode mc_T_write 16 = .ok (.aload 5, 2) := by decide +kernel
theorem md_T_write_18 : decode mc_T_write 18 = .ok (.iconst 0, 1) := by decide +kernel
theorem md_T_write_19 : decode mc_T_write 19 = .ok (.iload_n 1, 1) := by decide +kernel
theorem md_T_write_20 : decode mc_T_write 20 = .ok (.iastore, 1) := by decide +kernel
theorem md_T_write_21 : decode mc_T_write 21 = .ok (.aload 5, 2) := by decide +kernel
theorem md_T_write_23 : decode mc_T_write 23 = .ok (.iconst 1, 1) := by decide +kernel
theorem md_T_write_24 : decode mc_T_write 24 = .ok (.iload_n 2, 1) := by decide +kernel
theorem md_T_write_25 : decode mc_T_write 25 = .ok (.iastore, 1) := by decide +kernel
theorem md_T_write_26 : decode mc_T_write 26 = .ok (.aload 5, 2) := by decide +kernel
theorem md_T_write_28 : decode mc_T_write 28 = .ok (.iconst 2, 1) := by decide +kernel
theorem md_T_write_29 : decode mc_T_write 29 = .ok (.iload_n 3, 1) := by decide +kernel
theorem md_T_write_30 : decode mc_T_write 30 = .ok (.iastore, 1) := by decide +kernel
theorem md_T_write_31 : decode mc_T_write 31 = .ok (.aload 5, 2) := by decide +kernel
theorem md_T_write_33 : decode mc_T_write 33 = .ok (.iconst 3, 1) := by decide +kernel
theorem md_T_write_34 : decode mc_T_write 34 = .ok (.iload 4, 2) := by decide +kernel
theorem md_T_write_36 : decode mc_T_write 36 = .ok (.iastore, 1) := by decide +kernel
theorem md_T_write_37 : decode mc_T_write 37 = .ok (.aload_n 0, 1) := by decide +kernel
theorem md_T_write_38 : decode mc_T_write 38 = .ok (.dup, 1) := by decide +kernel
theorem md_T_write_39 : decode mc_T_write 39 = .ok (.getfield 20, 3) := by decide +kernel
theorem md_T_write_42 : decode mc_T_write 42 = .ok (.iconst 1, 1) := by decide +kernel
theorem md_T_write_43 : decode mc_T_write 43 = .ok (.iadd, 1) := by decide +kernel
theorem md_T_write_44 : decode mc_T_write 44 = .ok (.putfield 20, 3) := by decide +kernel
theorem md_T_write_47 : decode mc_T_write 47 = .ok (.aload_n 0, 1) := by decide +kernel
theorem md_T_write_48 : decode mc_T_write 48 = .ok (.iload_n 3, 1) := by decide +kernel
theorem md_T_write_49 : decode mc_T_write 49 = .ok (.putfield 16, 3) := by decide +kernel
theorem md_T_write_52 : decode mc_T_write 52 = .ok (.aload_n 0, 1) := by decide +kernel
theorem md_T_write_53 : decode mc_T_write 53 = .ok (.dup, 1) := by decide +kernel
theorem md_T_write_54 : decode mc_T_write 54 = .ok (.getfield 29, 3) := by decide +kernel
theorem md_T_write_57 : decode mc_T_write 57 = .ok (.iload 4, 2) := by decide +kernel
theorem md_T_write_59 : decode mc_T_write 59 = .ok (.iadd, 1) := by decide +kernel
theorem md_T_write_60 : decode mc_T_write 60 = .ok (.putfield 29, 3) := by decide +kernel
theorem md_T_write_63 : decode mc_T_write 63 = .ok (.aload_n 0, 1) := by decide +kernel
theorem md_T_write_64 : decode mc_T_write 64 = .ok (.dup, 1) := by decide +kernel
theorem md_T_write_65 : decode mc_T_write 65 = .ok (.getfield 32, 3) := by decide +kernel
theorem md_T_write_68 : decode mc_T_write 68 = .ok (.iload_n 3, 1) := by decide +kernel
theorem md_T_write_69 : decode mc_T_write 69 = .ok (.i2l, 1) := by decide +kernel
theorem md_T_write_70 : decode mc_T_write 70 = .ok (.iload 4, 2) := by decide +kernel
theorem md_T_write_72 : decode mc_T_write 72 = .ok (.i2l, 1) := by decide +kernel
theorem md_T_write_73 : decode mc_T_write 73 = .ok (.lmul, 1) := by decide +kernel
theorem md_T_write_74 : decode mc_T_write 74 = .ok (.ladd, 1) := by decide +kernel
theorem md_T_write_75 : decode mc_T_write 75 = .ok (.putfield 32, 3) := by decide +kernel
theorem md_T_write_78 : decode mc_T_write 78 = .ok (.return_, 1) := by decide +kernel
theorem md_F_matchDueStops_0 : decode mc_F_matchDueStops 0 = .ok (.iconst 0, 1) := by decide +kernel
theorem md_F_matchDueStops_1 : decode mc_F_matchDueStops 1 = .ok (.istore_n 1, 1) := by decide +kernel
theorem md_F_matchDueStops_2 : decode mc_F_matchDueStops 2 = .ok (.iload_n 1, 1) := by decide +kernel
theorem md_F_matchDueStops_3 : decode mc_F_matchDueStops 3 = .ok (.bipush 40, 2) := by decide +kernel
theorem md_F_matchDueStops_5 : decode mc_F_matchDueStops 5 = .ok (.if_icmp .ge 46, 3) := by decide +kernel
theorem md_F_matchDueStops_8 : decode mc_F_matchDueStops 8 = .ok (.aload_n 0, 1) := by decide +kernel
theorem md_F_matchDueStops_9 : decode mc_F_matchDueStops 9 = .ok (.invokevirtual 200, 3) := by decide +kernel
theorem md_F_matchDueStops_12 : decode mc_F_matchDueStops 12 = .ok (.istore_n 2, 1) := by decide +kernel
theorem md_F_matchDueStops_13 : decode mc_F_matchDueStops 13 = .ok (.iload_n 2, 1) := by decide +kernel
theorem md_F_matchDueStops_14 : decode mc_F_matchDueStops 14 = .ok (.iconst (-1), 1) := by decide +kernel
theorem md_F_matchDueStops_15 : decode mc_F_matchDueStops 15 = .ok (.if_icmp .ne 4, 3) := by decide +kernel
theorem md_F_matchDueStops_18 : decode mc_F_matchDueStops 18 = .ok (.return_, 1) := by decide +kernel
theorem md_F_matchDueStops_19 : decode mc_F_matchDueStops 19 = .ok (.aload_n 0, 1) := by decide +kernel
theorem md_F_matchDueStops_20 : decode mc_F_matchDueStops 20 = .ok (.dup, 1) := by decide +kernel
theorem md_F_matchDueStops_21 : decode mc_F_matchDueStops 21 = .ok (.getfield 151, 3) := by decide +kernel
theorem md_F_matchDueStops_24 : decode mc_F_matchDueStops 24 = .ok (.iconst 1, 1) := by decide +kernel
theorem md_F_matchDueStops_25 : decode mc_F_matchDueStops 25 = .ok (.iadd, 1) := by decide +kernel
theorem md_F_matchDueStops_26 : decode mc_F_matchDueStops 26 = .ok (.putfield 151, 3) := by decide +kernel
theorem md_F_matchDueStops_29 : decode mc_F_matchDueStops 29 = .ok (.aload_n 0, 1) := by decide +kernel
theorem md_F_matchDueStops_30 : decode mc_F_matchDueStops 30 = .ok (.aload_n 0, 1) := by decide +kernel
theorem md_F_matchDueStops_31 : decode mc_F_matchDueStops 31 = .ok (.getfield 10, 3) := by decide +kernel
theorem md_F_matchDueStops_34 : decode mc_F_matchDueStops 34 = .ok (.iload_n 2, 1) := by decide +kernel
theorem md_F_matchDueStops_35 : decode mc_F_matchDueStops 35 = .ok (.invokevirtual 77, 3) := by decide +kernel
theorem md_F_matchDueStops_38 : decode mc_F_matchDueStops 38 = .ok (.checkcast 57, 3) := by decide +kernel
theorem md_F_matchDueStops_41 : decode mc_F_matchDueStops 41 = .ok (.iconst 0, 1) := by decide +kernel
theorem md_F_matchDueStops_42 : decode mc_F_matchDueStops 42 = .ok (.invokevirtual 189, 3) := by decide +kernel
theorem md_F_matchDueStops_45 : decode mc_F_matchDueStops 45 = .ok (.iinc 1 1, 3) := by decide +kernel
theorem md_F_matchDueStops_48 : decode mc_F_matchDueStops 48 = .ok (.goto (-46), 3) := by decide +kernel
theorem md_F_matchDueStops_51 : decode mc_F_matchDueStops 51 = .ok (.return_, 1) := by decide +kernel
theorem md_F_placeOfDue_0 : decode mc_F_placeOfDue 0 = .ok (.iconst 0, 1) := by decide +kernel
theorem md_F_placeOfDue_1 : decode mc_F_placeOfDue 1 = .ok (.istore_n 1, 1) := by decide +kernel
theorem md_F_placeOfDue_2 : decode mc_F_placeOfDue 2 = .ok (.iload_n 1, 1) := by decide +kernel
theorem md_F_placeOfDue_3 : decode mc_F_placeOfDue 3 = .ok (.aload_n 0, 1) := by decide +kernel
theorem md_F_placeOfDue_4 : decode mc_F_placeOfDue 4 = .ok (.getfield 10, 3) := by decide +kernel
theorem md_F_placeOfDue_7 : decode mc_F_placeOfDue 7 = .ok (.invokevirtual 51, 3) := by decide +kernel
theorem md_F_placeOfDue_10 : decode mc_F_placeOfDue 10 = .ok (.if_icmp .ge 35, 3) := by decide +kernel
theorem md_F_placeOfDue_13 : decode mc_F_placeOfDue 13 = .ok (.aload_n 0, 1) := by decide +kernel
theorem md_F_placeOfDue_14 : decode mc_F_placeOfDue 14 = .ok (.getfield 10, 3) := by decide +kernel
theorem md_F_placeOfDue_17 : decode mc_F_placeOfDue 17 = .ok (.iload_n 1, 1) := by decide +kernel
theorem md_F_placeOfDue_18 : decode mc_F_placeOfDue 18 = .ok (.invokevirtual 85, 3) := by decide +kernel
theorem md_F_placeOfDue_21 : decode mc_F_placeOfDue 21 = .ok (.checkcast 57, 3) := by decide +kernel
theorem md_F_placeOfDue_24 : decode mc_F_placeOfDue 24 = .ok (.aload_n 0, 1) := by decide +kernel
theorem md_F_placeOfDue_25 : decode mc_F_placeOfDue 25 = .ok (.getfield 19, 3) := by decide +kernel
theorem md_F_placeOfDue_28 : decode mc_F_placeOfDue 28 = .ok (.getfield 141, 3) := by decide +kernel
theorem md_F_placeOfDue_31 : decode mc_F_placeOfDue 31 = .ok (.invokevirtual 173, 3) := by decide +kernel
theorem md_F_placeOfDue_34 : decode mc_F_placeOfDue 34 = .ok (.ifCond .eq 5, 3) := by decide +kernel
theorem md_F_placeOfDue_37 : decode mc_F_placeOfDue 37 = .ok (.iload_n 1, 1) := by decide +kernel
theorem md_F_placeOfDue_38 : decode mc_F_placeOfDue 38 = .ok (.ireturn, 1) := by decide +kernel
theorem md_F_placeOfDue_39 : decode mc_F_placeOfDue 39 = .ok (.iinc 1 1, 3) := by decide +kernel
theorem md_F_placeOfDue_42 : decode mc_F_placeOfDue 42 = .ok (.goto (-40), 3) := by decide +kernel
theorem md_F_placeOfDue_45 : decode mc_F_placeOfDue 45 = .ok (.iconst (-1), 1) := by decide +kernel
theorem md_F_placeOfDue_46 : decode mc_F_placeOfDue 46 = .ok (.ireturn, 1) := by decide +kernel
theorem md_O_isDueAt_0 : decode mc_O_isDueAt 0 = .ok (.aload_n 0, 1) := by decide +kernel
theorem md_O_isDueAt_1 : decode mc_O_isDueAt 1 = .ok (.getfield 21, 3) := by decide +kernel
theorem md_O_isDueAt_4 : decode mc_O_isDueAt 4 = .ok (.ifCond .eq 7, 3) := by decide +kernel
theorem md_O_isDueAt_7 : decode mc_O_isDueAt 7 = .ok (.iload_n 1, 1) := by decide +kernel
theorem md_O_isDueAt_8 : decode mc_O_isDueAt 8 = .ok (.ifCond .ne 5, 3) := by decide +kernel
theorem md_O_isDueAt_11 : decode mc_O_isDueAt 11 = .ok (.iconst 0, 1) := by decide +kernel
theorem md_O_isDueAt_12 : decode mc_O_isDueAt 12 = .ok (.ireturn, 1) := by decide +kernel
theorem md_O_isDueAt_13 : decode mc_O_isDueAt 13 = .ok (.aload_n 0, 1) := by decide +kernel
theorem md_O_isDueAt_14 : decode mc_O_isDueAt 14 = .ok (.getfield 18, 3) := by decide +kernel
theorem md_O_isDueAt_17 : decode mc_O_isDueAt 17 = .ok (.ifCond .ne 19, 3) := by decide +kernel
theorem md_O_isDueAt_20 : decode mc_O_isDueAt 20 = .ok (.iload_n 1, 1) := by decide +kernel
theorem md_O_isDueAt_21 : decode mc_O_isDueAt 21 = .ok (.aload_n 0, 1) := by decide +kernel
theorem md_O_isDueAt_22 : decode mc_O_isDueAt 22 = .ok (.getfield 25, 3) := by decide +kernel
theorem md_O_isDueAt_25 : decode mc_O_isDueAt 25 = .ok (.if_icmp .lt 7, 3) := by decide +kernel
theorem md_O_isDueAt_28 : decode mc_O_isDueAt 28 = .ok (.iconst 1, 1) := by decide +kernel
theorem md_O_isDueAt_29 : decode mc_O_isDueAt 29 = .ok (.goto 20, 3) := by decide +kernel
theorem md_O_isDueAt_32 : decode mc_O_isDueAt 32 = .ok (.iconst 0, 1) := by decide +kernel
theorem md_O_isDueAt_33 : decode mc_O_isDueAt 33 = .ok (.goto 16, 3) := by decide +kernel
theorem md_O_isDueAt_36 : decode mc_O_isDueAt 36 = .ok (.iload_n 1, 1) := by decide +kernel
theorem md_O_isDueAt_37 : decode mc_O_isDueAt 37 = .ok (.aload_n 0, 1) := by decide +kernel
theorem md_O_isDueAt_38 : decode mc_O_isDueAt 38 = .ok (.getfield 25, 3) := by decide +kernel
theorem md_O_isDueAt_41 : decode mc_O_isDueAt 41 = .ok (.if_icmp .gt 7, 3) := by decide +kernel
theorem md_O_isDueAt_44 : decode mc_O_isDueAt 44 = .ok (.iconst 1, 1) := by decide +kernel
theorem md_O_isDueAt_45 : decode mc_O_isDueAt 45 = .ok (.goto 4, 3) := by decide +kernel
theorem md_O_isDueAt_48 : decode mc_O_isDueAt 48 = .ok (.iconst 0, 1) := by decide +kernel
theorem md_O_isDueAt_49 : decode mc_O_isDueAt 49 = .ok (.ireturn, 1) := by decide +kernel
theorem md_F_cancel_0 : decode mc_F_cancel 0 = .ok (.aload_n 0, 1) := by decide +kernel
theorem md_F_cancel_1 : decode mc_F_cancel 1 = .ok (.iload_n 1, 1) := by decide +kernel
theorem md_F_cancel_2 : decode mc_F_cancel 2 = .ok (.invokevirtual 43, 3) := by decide +kernel
theorem md_F_cancel_5 : decode mc_F_cancel 5 = .ok (.istore_n 2, 1) := by decide +kernel
theorem md_F_cancel_6 : decode mc_F_cancel 6 = .ok (.iload_n 2, 1) := by decide +kernel
theorem md_F_cancel_7 : decode mc_F_cancel 7 = .ok (.iconst (-1), 1) := by decide +kernel
theorem md_F_cancel_8 : decode mc_F_cancel 8 = .ok (.if_icmp .ne 13, 3) := by decide +kernel
theorem md_F_cancel_11 : decode mc_F_cancel 11 = .ok (.new 72, 3) := by decide +kernel
theorem md_F_cancel_14 : decode mc_F_cancel 14 = .ok (.dup, 1) := by decide +kernel
theorem md_F_cancel_15 : decode mc_F_cancel 15 = .ok (.ldc 74, 2) := by decide +kernel
theorem md_F_cancel_17 : decode mc_F_cancel 17 = .ok (.invokespecial 76, 3) := by decide +kernel
theorem md_F_cancel_20 : decode mc_F_cancel 20 = .ok (.athrow, 1) := by decide +kernel
theorem md_F_cancel_21 : decode mc_F_cancel 21 = .ok (.aload_n 0, 1) := by decide +kernel
theorem md_F_cancel_22 : decode mc_F_cancel 22 = .ok (.getfield 10, 3) := by decide +kernel
theorem md_F_cancel_25 : decode mc_F_cancel 25 = .ok (.iload_n 2, 1) := by decide +kernel
theorem md_F_cancel_26 : decode mc_F_cancel 26 = .ok (.invokevirtual 77, 3) := by decide +kernel
theorem md_F_cancel_29 : decode mc_F_cancel 29 = .ok (.checkcast 57, 3) := by decide +kernel
theorem md_F_cancel_32 : decode mc_F_cancel 32 = .ok (.getfield 81, 3) := by decide +kernel
theorem md_F_cancel_35 : decode mc_F_cancel 35 = .ok (.ireturn, 1) := by decide +kernel
theorem md_F_amend_0 : decode mc_F_amend 0 = .ok (.iload_n 2, 1) := by decide +kernel
theorem md_F_amend_1 : decode mc_F_amend 1 = .ok (.invokestatic 34, 3) := by decide +kernel
theorem md_F_amend_4 : decode mc_F_amend 4 = .ok (.ifCond .eq 10, 3) := by decide +kernel
theorem md_F_amend_7 : decode mc_F_amend 7 = .ok (.iload_n 3, 1) := by decide +kernel
theorem md_F_amend_8 : decode mc_F_amend 8 = .ok (.invokestatic 38, 3) := by decide +kernel
theorem md_F_amend_11 : decode mc_F_amend 11 = .ok (.ifCond .ne 13, 3) := by decide +kernel
theorem md_F_amend_14 : decode mc_F_amend 14 = .ok (.new 27, 3) := by decide +kernel
theorem md_F_amend_17 : decode mc_F_amend 17 = .ok (.dup, 1) := by decide +kernel
theorem md_F_amend_18 : decode mc_F_amend 18 = .ok (.ldc 41, 2) := by decide +kernel
theorem md_F_amend_20 : decode mc_F_amend 20 = .ok (.invokespecial 31, 3) := by decide +kernel
theorem md_F_amend_23 : decode mc_F_amend 23 = .ok (.athrow, 1) := by decide +kernel
theorem md_F_amend_24 : decode mc_F_amend 24 = .ok (.aload_n 0, 1) := by decide +kernel
theorem md_F_amend_25 : decode mc_F_amend 25 = .ok (.iload_n 1, 1) := by decide +kernel
theorem md_F_amend_26 : decode mc_F_amend 26 = .ok (.invokevirtual 43, 3) := by decide +kernel
theorem md_F_amend_29 : decode mc_F_amend 29 = .ok (.istore 4, 2) := by decide +kernel
theorem md_F_amend_31 : decode mc_F_amend 31 = .ok (.iload 4, 2) := by decide +kernel
theorem md_F_amend_33 : decode mc_F_amend 33 = .ok (.iconst (-1), 1) := by decide +kernel
theorem md_F_amend_34 : decode mc_F_amend 34 = .ok (.if_icmp .ne 13, 3) := by decide +kernel
theorem md_F_amend_37 : decode mc_F_amend 37 = .ok (.new 72, 3) := by decide +kernel
theorem md_F_amend_40 : decode mc_F_amend 40 = .ok (.dup, 1) := by decide +kernel
theorem md_F_amend_41 : decode mc_F_amend 41 = .ok (.ldc 74, 2) := by decide +kernel
theorem md_F_amend_43 : decode mc_F_amend 43 = .ok (.invokespecial 76, 3) := by decide +kernel
theorem md_F_amend_46 : decode mc_F_amend 46 = .ok (.athrow, 1) := by decide +kernel
theorem md_F_amend_47 : decode mc_F_amend 47 = .ok (.aload_n 0, 1) := by decide +kernel
theorem md_F_amend_48 : decode mc_F_amend 48 = .ok (.getfield 10, 3) := by decide +kernel
theorem md_F_amend_51 : decode mc_F_amend 51 = .ok (.iload 4, 2) := by decide +kernel
theorem md_F_amend_53 : decode mc_F_amend 53 = .ok (.invokevirtual 85, 3) := by decide +kernel
theorem md_F_amend_56 : decode mc_F_amend 56 = .ok (.checkcast 57, 3) := by decide +kernel
theorem md_F_amend_59 : decode mc_F_amend 59 = .ok (.astore 5, 2) := by decide +kernel
theorem md_F_amend_61 : decode mc_F_amend 61 = .ok (.aload 5, 2) := by decide +kernel
theorem md_F_amend_63 : decode mc_F_amend 63 = .ok (.getfield 88, 3) := by decide +kernel
theorem md_F_amend_66 : decode mc_F_amend 66 = .ok (.ifCond .ne 29, 3) := by decide +kernel
theorem md_F_amend_69 : decode mc_F_amend 69 = .ok (.iload_n 2, 1) := by decide +kernel
theorem md_F_amend_70 : decode mc_F_amend 70 = .ok (.aload 5, 2) := by decide +kernel
theorem md_F_amend_72 : decode mc_F_amend 72 = .ok (.getfield 92, 3) := by decide +kernel
theorem md_F_amend_75 : decode mc_F_amend 75 = .ok (.if_icmp .ne 20, 3) := by decide +kernel
theorem md_F_amend_78 : decode mc_F_amend 78 = .ok (.iload_n 3, 1) := by decide +kernel
theorem md_F_amend_79 : decode mc_F_amend 79 = .ok (.aload 5, 2) := by decide +kernel
theorem md_F_amend_81 : decode mc_F_amend 81 = .ok (.getfield 81, 3) := by decide +kernel
theorem md_F_amend_84 : decode mc_F_amend 84 = .ok (.if_icmp .gt 11, 3) := by decide +kernel
theorem md_F_amend_87 : decode mc_F_amend 87 = .ok (.aload 5, 2) := by decide +kernel
theorem md_F_amend_89 : decode mc_F_amend 89 = .ok (.iload_n 3, 1) := by decide +kernel
theorem md_F_amend_90 : decode mc_F_amend 90 = .ok (.putfield 81, 3) := by decide +kernel
theorem md_F_amend_93 : decode mc_F_amend 93 = .ok (.iconst 0, 1) := by decide +kernel
theorem md_F_amend_94 : decode mc_F_amend 94 = .ok (.ireturn, 1) := by decide +kernel
theorem md_F_amend_95 : decode mc_F_amend 95 = .ok (.aload_n 0, 1) := by decide +kernel
theorem md_F_amend_96 : decode mc_F_amend 96 = .ok (.getfield 10, 3) := by decide +kernel
theorem md_F_amend_99 : decode mc_F_amend 99 = .ok (.iload 4, 2) := by decide +kernel
theorem md_F_amend_101 : decode mc_F_amend 101 = .ok (.invokevirtual 77, 3) := by decide +kernel
theorem md_F_amend_104 : decode mc_F_amend 104 = .ok (.pop, 1) := by decide +kernel
theorem md_F_amend_105 : decode mc_F_amend 105 = .ok (.aload 5, 2) := by decide +kernel
theorem md_F_amend_107 : decode mc_F_amend 107 = .ok (.iload_n 2, 1) := by decide +kernel
theorem md_F_amend_108 : decode mc_F_amend 108 = .ok (.putfield 92, 3) := by decide +kernel
theorem md_F_amend_111 : decode mc_F_amend 111 = .ok (.aload 5, 2) := by decide +kernel
theorem md_F_amend_113 : decode mc_F_amend 113 = .ok (.iload_n 3, 1) := by decide +kernel
theorem md_F_amend_114 : decode mc_F_amend 114 = .ok (.putfield 81, 3) := by decide +kernel
theorem md_F_amend_117 : decode mc_F_amend 117 = .ok (.aload_n 0, 1) := by decide +kernel
theorem md_F_amend_118 : decode mc_F_amend 118 = .ok (.aload 5, 2) := by decide +kernel
theorem md_F_amend_120 : decode mc_F_amend 120 = .ok (.aload 5, 2) := by decide +kernel
theorem md_F_amend_122 : decode mc_F_amend 122 = .ok (.getfield 88, 3) := by decide +kernel
theorem md_F_amend_125 : decode mc_F_amend 125 = .ok (.ifCond .eq 7, 3) := by decide +kernel
theorem md_F_amend_128 : decode mc_F_amend 128 = .ok (.iconst 5, 1) := by decide +kernel
theorem md_F_amend_129 : decode mc_F_amend 129 = .ok (.goto 4, 3) := by decide +kernel
theorem md_F_amend_132 : decode mc_F_amend 132 = .ok (.iconst 0, 1) := by decide +kernel
theorem md_F_amend_133 : decode mc_F_amend 133 = .ok (.invokevirtual 68, 3) := by decide +kernel
theorem md_F_amend_136 : decode mc_F_amend 136 = .ok (.ireturn, 1) := by decide +kernel
theorem md_F_withdraw_0 : decode mc_F_withdraw 0 = .ok (.iload_n 1, 1) := by decide +kernel
theorem md_F_withdraw_1 : decode mc_F_withdraw 1 = .ok (.ifCond .lt 9, 3) := by decide +kernel
theorem md_F_withdraw_4 : decode mc_F_withdraw 4 = .ok (.iload_n 1, 1) := by decide +kernel
theorem md_F_withdraw_5 : decode mc_F_withdraw 5 = .ok (.bipush 7, 2) := by decide +kernel
theorem md_F_withdraw_7 : decode mc_F_withdraw 7 = .ok (.if_icmp .le 13, 3) := by decide +kernel
theorem md_F_withdraw_10 : decode mc_F_withdraw 10 = .ok (.new 27, 3) := by decide +kernel
theorem md_F_withdraw_13 : decode mc_F_withdraw 13 = .ok (.dup, 1) := by decide +kernel
theorem md_F_withdraw_14 : decode mc_F_withdraw 14 = .ok (.ldc 95, 2) := by decide +kernel
theorem md_F_withdraw_16 : decode mc_F_withdraw 16 = .ok (.invokespecial 31, 3) := by decide +kernel
theorem md_F_withdraw_19 : decode mc_F_withdraw 19 = .ok (.athrow, 1) := by decide +kernel
theorem md_F_withdraw_20 : decode mc_F_withdraw 20 = .ok (.aload_n 0, 1) := by decide +kernel
theorem md_F_withdraw_21 : decode mc_F_withdraw 21 = .ok (.getfield 10, 3) := by decide +kernel
theorem md_F_withdraw_24 : decode mc_F_withdraw 24 = .ok (.invokevirtual 51, 3) := by decide +kernel
theorem md_F_withdraw_27 : decode mc_F_withdraw 27 = .ok (.istore_n 2, 1) := by decide +kernel
theorem md_F_withdraw_28 : decode mc_F_withdraw 28 = .ok (.iload_n 2, 1) := by decide +kernel
theorem md_F_withdraw_29 : decode mc_F_withdraw 29 = .ok (.iconst 1, 1) := by decide +kernel
theorem md_F_withdraw_30 : decode mc_F_withdraw 30 = .ok (.isub, 1) := by decide +kernel
theorem md_F_withdraw_31 : decode mc_F_withdraw 31 = .ok (.istore_n 3, 1) := by decide +kernel
theorem md_F_withdraw_32 : decode mc_F_withdraw 32 = .ok (.iload_n 3, 1) := by decide +kernel
theorem md_F_withdraw_33 : decode mc_F_withdraw 33 = .ok (.ifCond .lt 36, 3) := by decide +kernel
theorem md_F_withdraw_36 : decode mc_F_withdraw 36 = .ok (.aload_n 0, 1) := by decide +kernel
theorem md_F_withdraw_37 : decode mc_F_withdraw 37 = .ok (.getfield 10, 3) := by decide +kernel
theorem md_F_withdraw_40 : decode mc_F_withdraw 40 = .ok (.iload_n 3, 1) := by decide +kernel
theorem md_F_withdraw_41 : decode mc_F_withdraw 41 = .ok (.invokevirtual 85, 3) := by decide +kernel
theorem md_F_withdraw_44 : decode mc_F_withdraw 44 = .ok (.checkcast 57, 3) := by decide +kernel
theorem md_F_withdraw_47 : decode mc_F_withdraw 47 = .ok (.getfield 97, 3) := by decide +kernel
theorem md_F_withdraw_50 : decode mc_F_withdraw 50 = .ok (.iload_n 1, 1) := by decide +kernel
theorem md_F_withdraw_51 : decode mc_F_withdraw 51 = .ok (.if_icmp .ne 12, 3) := by decide +kernel
theorem md_F_withdraw_54 : decode mc_F_withdraw 54 = .ok (.aload_n 0, 1) := by decide +kernel
theorem md_F_withdraw_55 : decode mc_F_withdraw 55 = .ok (.getfield 10, 3) := by decide +kernel
theorem md_F_withdraw_58 : decode mc_F_withdraw 58 = .ok (.iload_n 3, 1) := by decide +kernel
theorem md_F_withdraw_59 : decode mc_F_withdraw 59 = .ok (.invokevirtual 77, 3) := by decide +kernel
theorem md_F_withdraw_62 : decode mc_F_withdraw 62 = .ok (.pop, 1) := by decide +kernel
theorem md_F_withdraw_63 : decode mc_F_withdraw 63 = .ok (.iinc 3 (-1), 3) := by decide +kernel
theorem md_F_withdraw_66 : decode mc_F_withdraw 66 = .ok (.goto (-34), 3) := by decide +kernel
theorem md_F_withdraw_69 : decode mc_F_withdraw 69 = .ok (.iload_n 2, 1) := by decide +kernel
theorem md_F_withdraw_70 : decode mc_F_withdraw 70 = .ok (.aload_n 0, 1) := by decide +kernel
theorem md_F_withdraw_71 : decode mc_F_withdraw 71 = .ok (.getfield 10, 3) := by decide +kernel
theorem md_F_withdraw_74 : decode mc_F_withdraw 74 = .ok (.invokevirtual 51, 3) := by decide +kernel
theorem md_F_withdraw_77 : decode mc_F_withdraw 77 = .ok (.isub, 1) := by decide +kernel
theorem md_F_withdraw_78 : decode mc_F_withdraw 78 = .ok (.ireturn, 1) := by decide +kernel
theorem md_F_levels_0 : decode mc_F_levels 0 = .ok (.iload_n 1, 1) := by decide +kernel
theorem md_F_levels_1 : decode mc_F_levels 1 = .ok (.invokestatic 100, 3) := by decide +kernel
theorem md_F_levels_4 : decode mc_F_levels 4 = .ok (.ifCond .ne 13, 3) := by decide +kernel
theorem md_F_levels_7 : decode mc_F_levels 7 = .ok (.new 27, 3) := by decide +kernel
theorem md_F_levels_10 : decode mc_F_levels 10 = .ok (.dup, 1) := by decide +kernel
theorem md_F_levels_11 : decode mc_F_levels 11 = .ok (.ldc 103, 2) := by decide +kernel
theorem md_F_levels_13 : decode mc_F_levels 13 = .ok (.invokespecial 31, 3) := by decide +kernel
theorem md_F_levels_16 : decode mc_F_levels 16 = .ok (.athrow, 1) := by decide +kernel
theorem md_F_levels_17 : decode mc_F_levels 17 = .ok (.aload_n 0, 1) := by decide +kernel
theorem md_F_levels_18 : decode mc_F_levels 18 = .ok (.iload_n 1, 1) := by decide +kernel
theorem md_F_levels_19 : decode mc_F_levels 19 = .ok (.invokevirtual 105, 3) := by decide +kernel
theorem md_F_levels_22 : decode mc_F_levels 22 = .ok (.ireturn, 1) := by decide +kernel
theorem md_F_isSide_0 : decode mc_F_isSide 0 = .ok (.iload_n 0, 1) := by decide +kernel
theorem md_F_isSide_1 : decode mc_F_isSide 1 = .ok (.ifCond .eq 8, 3) := by decide +kernel
theorem md_F_isSide_4 : decode mc_F_isSide 4 = .ok (.iload_n 0, 1) := by decide +kernel
theorem md_F_isSide_5 : decode mc_F_isSide 5 = .ok (.iconst 1, 1) := by decide +kernel
theorem md_F_isSide_6 : decode mc_F_isSide 6 = .ok (.if_icmp .ne 7, 3) := by decide +kernel
theorem md_F_isSide_9 : decode mc_F_isSide 9 = .ok (.iconst 1, 1) := by decide +kernel
theorem md_F_isSide_10 : decode mc_F_isSide 10 = .ok (.goto 4, 3) := by decide +kernel
theorem md_F_isSide_13 : decode mc_F_isSide 13 = .ok (.iconst 0, 1) := by decide +kernel
theorem md_F_isSide_14 : decode mc_F_isSide 14 = .ok (.ireturn, 1) := by decide +kernel
theorem md_F_countLevels_0 : decode mc_F_countLevels 0 = .ok (.iconst 0, 1) := by decide +kernel
theorem md_F_countLevels_1 : decode mc_F_countLevels 1 = .ok (.istore_n 2, 1) := by decide +kernel
theorem md_F_countLevels_2 : decode mc_F_countLevels 2 = .ok (.aload_n 0, 1) := by decide +kernel
theorem md_F_countLevels_3 : decode mc_F_countLevels 3 = .ok (.iload_n 1, 1) := by decide +kernel
theorem md_F_countLevels_4 : decode mc_F_countLevels 4 = .ok (.iconst 0, 1) := by decide +kernel
theorem md_F_countLevels_5 : decode mc_F_countLevels 5 = .ok (.invokevirtual 215, 3) := by decide +kernel
theorem md_F_countLevels_8 : decode mc_F_countLevels 8 = .ok (.istore_n 3, 1) := by decide +kernel
theorem md_F_countLevels_9 : decode mc_F_countLevels 9 = .ok (.iload_n 3, 1) := by decide +kernel
theorem md_F_countLevels_10 : decode mc_F_countLevels 10 = .ok (.ifCond .eq 22, 3) := by decide +kernel
theorem md_F_countLevels_13 : decode mc_F_countLevels 13 = .ok (.iload_n 2, 1) := by decide +kernel
theorem md_F_countLevels_14 : decode mc_F_countLevels 14 = .ok (.bipush 40, 2) := by decide +kernel
theorem md_F_countLevels_16 : decode mc_F_countLevels 16 = .ok (.if_icmp .ge 16, 3) := by decide +kernel
theorem md_F_countLevels_19 : decode mc_F_countLevels 19 = .ok (.iinc 2 1, 3) := by decide +kernel
theorem md_F_countLevels_22 : decode mc_F_countLevels 22 = .ok (.aload_n 0, 1) := by decide +kernel
theorem md_F_countLevels_23 : decode mc_F_countLevels 23 = .ok (.iload_n 1, 1) := by decide +kernel
theorem md_F_countLevels_24 : decode mc_F_countLevels 24 = .ok (.iload_n 3, 1) := by decide +kernel
theorem md_F_countLevels_25 : decode mc_F_countLevels 25 = .ok (.invokevirtual 215, 3) := by decide +kernel
theorem md_F_countLevels_28 : decode mc_F_countLevels 28 = .ok (.istore_n 3, 1) := by decide +kernel
theorem md_F_countLevels_29 : decode mc_F_countLevels 29 = .ok (.goto (-20), 3) := by decide +kernel
theorem md_F_countLevels_32 : decode mc_F_countLevels 32 = .ok (.iload_n 2, 1) := by decide +kernel
theorem md_F_countLevels_33 : decode mc_F_countLevels 33 = .ok (.ireturn, 1) := by decide +kernel
theorem md_F_nextPrice_0 : decode mc_F_nextPrice 0 = .ok (.iconst 0, 1) := by decide +kernel
theorem md_F_nextPrice_1 : decode mc_F_nextPrice 1 = .ok (.istore_n 3, 1) := by decide +kernel
theorem md_F_nextPrice_2 : decode mc_F_nextPrice 2 = .ok (.iconst 0, 1) := by decide +kernel
theorem md_F_nextPrice_3 : decode mc_F_nextPrice 3 = .ok (.istore 4, 2) := by decide +kernel
theorem md_F_nextPrice_5 : decode mc_F_nextPrice 5 = .ok (.iload 4, 2) := by decide +kernel
theorem md_F_nextPrice_7 : decode mc_F_nextPrice 7 = .ok (.aload_n 0, 1) := by decide +kernel
theorem md_F_nextPrice_8 : decode mc_F_nextPrice 8 = .ok (.getfield 10, 3) := by decide +kernel
theorem md_F_nextPrice_11 : decode mc_F_nextPrice 11 = .ok (.invokevirtual 51, 3) := by decide +kernel
theorem md_F_nextPrice_14 : decode mc_F_nextPrice 14 = .ok (.if_icmp .ge 96, 3) := by decide +kernel
theorem md_F_nextPrice_17 : decode mc_F_nextPrice 17 = .ok (.aload_n 0, 1) := by decide +kernel
theorem md_F_nextPrice_18 : decode mc_F_nextPrice 18 = .ok (.getfield 10, 3) := by decide +kernel
theorem md_F_nextPrice_21 : decode mc_F_nextPrice 21 = .ok (.iload 4, 2) := by decide +kernel
theorem md_F_nextPrice_23 : decode mc_F_nextPrice 23 = .ok (.invokevirtual 85, 3) := by decide +kernel
theorem md_F_nextPrice_26 : decode mc_F_nextPrice 26 = .ok (.checkcast 57, 3) := by decide +kernel
theorem md_F_nextPrice_29 : decode mc_F_nextPrice 29 = .ok (.astore 5, 2) := by decide +kernel
theorem md_F_nextPrice_31 : decode mc_F_nextPrice 31 = .ok (.iload_n 2, 1) := by decide +kernel
theorem md_F_nextPrice_32 : decode mc_F_nextPrice 32 = .ok (.ifCond .eq 16, 3) := by decide +kernel
theorem md_F_nextPrice_35 : decode mc_F_nextPrice 35 = .ok (.iload_n 1, 1) := by decide +kernel
theorem md_F_nextPrice_36 : decode mc_F_nextPrice 36 = .ok (.iload_n 2, 1) := by decide +kernel
theorem md_F_nextPrice_37 : decode mc_F_nextPrice 37 = .ok (.aload 5, 2) := by decide +kernel
theorem md_F_nextPrice_39 : decode mc_F_nextPrice 39 = .ok (.getfield 92, 3) := by decide +kernel
theorem md_F_nextPrice_42 : decode mc_F_nextPrice 42 = .ok (.invokestatic 169, 3) := by decide +kernel
theorem md_F_nextPrice_45 : decode mc_F_nextPrice 45 = .ok (.ifCond .eq 7, 3) := by decide +kernel
theorem md_F_nextPrice_48 : decode mc_F_nextPrice 48 = .ok (.iconst 1, 1) := by decide +kernel
theorem md_F_nextPrice_49 : decode mc_F_nextPrice 49 = .ok (.goto 4, 3) := by decide +kernel
theorem md_F_nextPrice_52 : decode mc_F_nextPrice 52 = .ok (.iconst 0, 1) := by decide +kernel
theorem md_F_nextPrice_53 : decode mc_F_nextPrice 53 = .ok (.istore 6, 2) := by decide +kernel
theorem md_F_nextPrice_55 : decode mc_F_nextPrice 55 = .ok (.iload_n 3, 1) := by decide +kernel
theorem md_F_nextPrice_56 : decode mc_F_nextPrice 56 = .ok (.ifCond .eq 16, 3) := by decide +kernel
theorem md_F_nextPrice_59 : decode mc_F_nextPrice 59 = .ok (.iload_n 1, 1) := by decide +kernel
theorem md_F_nextPrice_60 : decode mc_F_nextPrice 60 = .ok (.aload 5, 2) := by decide +kernel
theorem md_F_nextPrice_62 : decode mc_F_nextPrice 62 = .ok (.getfield 92, 3) := by decide +kernel
theorem md_F_nextPrice_65 : decode mc_F_nextPrice 65 = .ok (.iload_n 3, 1) := by decide +kernel
theorem md_F_nextPrice_66 : decode mc_F_nextPrice 66 = .ok (.invokestatic 169, 3) := by decide +kernel
theorem md_F_nextPrice_69 : decode mc_F_nextPrice 69 = .ok (.ifCond .eq 7, 3) := by decide +kernel
theorem md_F_nextPrice_72 : decode mc_F_nextPrice 72 = .ok (.iconst 1, 1) := by decide +kernel
theorem md_F_nextPrice_73 : decode mc_F_nextPrice 73 = .ok (.goto 4, 3) := by decide +kernel
theorem md_F_nextPrice_76 : decode mc_F_nextPrice 76 = .ok (.iconst 0, 1) := by decide +kernel
theorem md_F_nextPrice_77 : decode mc_F_nextPrice 77 = .ok (.istore 7, 2) := by decide +kernel
theorem md_F_nextPrice_79 : decode mc_F_nextPrice 79 = .ok (.aload 5, 2) := by decide +kernel
theorem md_F_nextPrice_81 : decode mc_F_nextPrice 81 = .ok (.iload_n 1, 1) := by decide +kernel
theorem md_F_nextPrice_82 : decode mc_F_nextPrice 82 = .ok (.invokevirtual 166, 3) := by decide +kernel
theorem md_F_nextPrice_85 : decode mc_F_nextPrice 85 = .ok (.ifCond .eq 19, 3) := by decide +kernel
theorem md_F_nextPrice_88 : decode mc_F_nextPrice 88 = .ok (.iload 6, 2) := by decide +kernel
theorem md_F_nextPrice_90 : decode mc_F_nextPrice 90 = .ok (.ifCond .eq 14, 3) := by decide +kernel
theorem md_F_nextPrice_93 : decode mc_F_nextPrice 93 = .ok (.iload 7, 2) := by decide +kernel
theorem md_F_nextPrice_95 : decode mc_F_nextPrice 95 = .ok (.ifCond .eq 9, 3) := by decide +kernel
theorem md_F_nextPrice_98 : decode mc_F_nextPrice 98 = .ok (.aload 5, 2) := by decide +kernel
theorem md_F_nextPrice_100 : decode mc_F_nextPrice 100 = .ok (.getfield 92, 3) := by decide +kernel
theorem md_F_nextPrice_103 : decode mc_F_nextPrice 103 = .ok (.istore_n 3, 1) := by decide +kernel
theorem md_F_nextPrice_104 : decode mc_F_nextPrice 104 = .ok (.iinc 4 1, 3) := by decide +kernel
theorem md_F_nextPrice_107 : decode mc_F_nextPrice 107 = .ok (.goto (-102), 3) := by decide +kernel
theorem md_F_nextPrice_110 : decode mc_F_nextPrice 110 = .ok (.iload_n 3, 1) := by decide +kernel
theorem md_F_nextPrice_111 : decode mc_F_nextPrice 111 = .ok (.ireturn, 1) := by decide +kernel
theorem md_F_level_0 : decode mc_F_level 0 = .ok (.iload_n 1, 1) := by decide +kernel
theorem md_F_level_1 : decode mc_F_level 1 = .ok (.invokestatic 100, 3) := by decide +kernel
theorem md_F_level_4 : decode mc_F_level 4 = .ok (.ifCond .eq 12, 3) := by decide +kernel
theorem md_F_level_7 : decode mc_F_level 7 = .ok (.iload_n 3, 1) := by decide +kernel
theorem md_F_level_8 : decode mc_F_level 8 = .ok (.ifCond .lt 8, 3) := by decide +kernel
theorem md_F_level_11 : decode mc_F_level 11 = .ok (.iload_n 3, 1) := by decide +kernel
theorem md_F_level_12 : decode mc_F_level 12 = .ok (.iconst 2, 1) := by decide +kernel
theorem md_F_level_13 : decode mc_F_level 13 = .ok (.if_icmp .le 13, 3) := by decide +kernel
theorem md_F_level_16 : decode mc_F_level 16 = .ok (.new 27, 3) := by decide +kernel
theorem md_F_level_19 : decode mc_F_level 19 = .ok (.dup, 1) := by decide +kernel
theorem md_F_level_20 : decode mc_F_level 20 = .ok (.ldc 108, 2) := by decide +kernel
theorem md_F_level_22 : decode mc_F_level 22 = .ok (.invokespecial 31, 3) := by decide +kernel
theorem md_F_level_25 : decode mc_F_level 25 = .ok (.athrow, 1) := by decide +kernel
theorem md_F_level_26 : decode mc_F_level 26 = .ok (.iload_n 2, 1) := by decide +kernel
theorem md_F_level_27 : decode mc_F_level 27 = .ok (.ifCond .lt 12, 3) := by decide +kernel
theorem md_F_level_30 : decode mc_F_level 30 = .ok (.iload_n 2, 1) := by decide +kernel
theorem md_F_level_31 : decode mc_F_level 31 = .ok (.aload_n 0, 1) := by decide +kernel
theorem md_F_level_32 : decode mc_F_level 32 = .ok (.iload_n 1, 1) := by decide +kernel
theorem md_F_level_33 : decode mc_F_level 33 = .ok (.invokevirtual 105, 3) := by decide +kernel
theorem md_F_level_36 : decode mc_F_level 36 = .ok (.if_icmp .lt 13, 3) := by decide +kernel
theorem md_F_level_39 : decode mc_F_level 39 = .ok (.new 110, 3) := by decide +kernel
theorem md_F_level_42 : decode mc_F_level 42 = .ok (.dup, 1) := by decide +kernel
theorem md_F_level_43 : decode mc_F_level 43 = .ok (.ldc 112, 2) := by decide +kernel
theorem md_F_level_45 : decode mc_F_level 45 = .ok (.invokespecial 114, 3) := by decide +kernel
theorem md_F_level_48 : decode mc_F_level 48 = .ok (.athrow, 1) := by decide +kernel
theorem md_F_level_49 : decode mc_F_level 49 = .ok (.aload_n 0, 1) := by decide +kernel
theorem md_F_level_50 : decode mc_F_level 50 = .ok (.iload_n 1, 1) := by decide +kernel
theorem md_F_level_51 : decode mc_F_level 51 = .ok (.iload_n 2, 1) := by decide +kernel
theorem md_F_level_52 : decode mc_F_level 52 = .ok (.invokevirtual 115, 3) := by decide +kernel
theorem md_F_level_55 : decode mc_F_level 55 = .ok (.istore 4, 2) := by decide +kernel
theorem md_F_level_57 : decode mc_F_level 57 = .ok (.iload_n 3, 1) := by decide +kernel
theorem md_F_level_58 : decode mc_F_level 58 = .ok (.lookupswitch 37 #[(0, 26), (1, 29)], 26) := by decide +kernel
theorem md_F_level_84 : decode mc_F_level 84 = .ok (.iload 4, 2) := by decide +kernel
theorem md_F_level_86 : decode mc_F_level 86 = .ok (.ireturn, 1) := by decide +kernel
theorem md_F_level_87 : decode mc_F_level 87 = .ok (.aload_n 0, 1) := by decide +kernel
theorem md_F_level_88 : decode mc_F_level 88 = .ok (.iload_n 1, 1) := by decide +kernel
theorem md_F_level_89 : decode mc_F_level 89 = .ok (.iload 4, 2) := by decide +kernel
theorem md_F_level_91 : decode mc_F_level 91 = .ok (.invokevirtual 119, 3) := by decide +kernel
theorem md_F_level_94 : decode mc_F_level 94 = .ok (.ireturn, 1) := by decide +kernel
theorem md_F_level_95 : decode mc_F_level 95 = .ok (.aload_n 0, 1) := by decide +kernel
theorem md_F_level_96 : decode mc_F_level 96 = .ok (.iload_n 1, 1) := by decide +kernel
theorem md_F_level_97 : decode mc_F_level 97 = .ok (.iload 4, 2) := by decide +kernel
theorem md_F_level_99 : decode mc_F_level 99 = .ok (.invokevirtual 122, 3) := by decide +kernel
theorem md_F_level_102 : decode mc_F_level 102 = .ok (.ireturn, 1) := by decide +kernel
theorem md_F_priceOfLevel_0 : decode mc_F_priceOfLevel 0 = .ok (.aload_n 0, 1) := by decide +kernel
theorem md_F_priceOfLevel_1 : decode mc_F_priceOfLevel 1 = .ok (.iload_n 1, 1) := by decide +kernel
theorem md_F_priceOfLevel_2 : decode mc_F_priceOfLevel 2 = .ok (.iconst 0, 1) := by decide +kernel
theorem md_F_priceOfLevel_3 : decode mc_F_priceOfLevel 3 = .ok (.invokevirtual 215, 3) := by decide +kernel
theorem md_F_priceOfLevel_6 : decode mc_F_priceOfLevel 6 = .ok (.istore_n 3, 1) := by decide +kernel
theorem md_F_priceOfLevel_7 : decode mc_F_priceOfLevel 7 = .ok (.iconst 0, 1) := by decide +kernel
theorem md_F_priceOfLevel_8 : decode mc_F_priceOfLevel 8 = .ok (.istore 4, 2) := by decide +kernel
theorem md_F_priceOfLevel_10 : decode mc_F_priceOfLevel 10 = .ok (.iload 4, 2) := by decide +kernel
theorem md_F_priceOfLevel_12 : decode mc_F_priceOfLevel 12 = .ok (.iload_n 2, 1) := by decide +kernel
theorem md_F_priceOfLevel_13 : decode mc_F_priceOfLevel 13 = .ok (.if_icmp .ge 16, 3) := by decide +kernel
theorem md_F_priceOfLevel_16 : decode mc_F_priceOfLevel 16 = .ok (.aload_n 0, 1) := by decide +kernel
theorem md_F_priceOfLevel_17 : decode mc_F_priceOfLevel 17 = .ok (.iload_n 1, 1) := by decide +kernel
theorem md_F_priceOfLevel_18 : decode mc_F_priceOfLevel 18 = .ok (.iload_n 3, 1) := by decide +kernel
theorem md_F_priceOfLevel_19 : decode mc_F_priceOfLevel 19 = .ok (.invokevirtual 215, 3) := by decide +kernel
theorem md_F_priceOfLevel_22 : decode mc_F_priceOfLevel 22 = .ok (.istore_n 3, 1) := by decide +kernel
theorem md_F_priceOfLevel_23 : decode mc_F_priceOfLevel 23 = .ok (.iinc 4 1, 3) := by decide +kernel
theorem md_F_priceOfLevel_26 : decode mc_F_priceOfLevel 26 = .ok (.goto (-16), 3) := by decide +kernel
theorem md_F_priceOfLevel_29 : decode mc_F_priceOfLevel 29 = .ok (.iload_n 3, 1) := by decide +kernel
theorem md_F_priceOfLevel_30 : decode mc_F_priceOfLevel 30 = .ok (.ireturn, 1) := by decide +kernel
theorem md_F_leftAt_0 : decode mc_F_leftAt 0 = .ok (.iconst 0, 1) := by decide +kernel
theorem md_F_leftAt_1 : decode mc_F_leftAt 1 = .ok (.istore_n 3, 1) := by decide +kernel
theorem md_F_leftAt_2 : decode mc_F_leftAt 2 = .ok (.iconst 0, 1) := by decide +kernel
theorem md_F_leftAt_3 : decode mc_F_leftAt 3 = .ok (.istore 4, 2) := by decide +kernel
theorem md_F_leftAt_5 : decode mc_F_leftAt 5 = .ok (.iload 4, 2) := by decide +kernel
theorem md_F_leftAt_7 : decode mc_F_leftAt 7 = .ok (.aload_n 0, 1) := by decide +kernel
theorem md_F_leftAt_8 : decode mc_F_leftAt 8 = .ok (.getfield 10, 3) := by decide +kernel
theorem md_F_leftAt_11 : decode mc_F_leftAt 11 = .ok (.invokevirtual 51, 3) := by decide +kernel
theorem md_F_leftAt_14 : decode mc_F_leftAt 14 = .ok (.if_icmp .ge 49, 3) := by decide +kernel
theorem md_F_leftAt_17 : decode mc_F_leftAt 17 = .ok (.aload_n 0, 1) := by decide +kernel
theorem md_F_leftAt_18 : decode mc_F_leftAt 18 = .ok (.getfield 10, 3) := by decide +kernel
theorem md_F_leftAt_21 : decode mc_F_leftAt 21 = .ok (.iload 4, 2) := by decide +kernel
theorem md_F_leftAt_23 : decode mc_F_leftAt 23 = .ok (.invokevirtual 85, 3) := by decide +kernel
theorem md_F_leftAt_26 : decode mc_F_leftAt 26 = .ok (.checkcast 57, 3) := by decide +kernel
theorem md_F_leftAt_29 : decode mc_F_leftAt 29 = .ok (.astore 5, 2) := by decide +kernel
theorem md_F_leftAt_31 : decode mc_F_leftAt 31 = .ok (.aload 5, 2) := by decide +kernel
theorem md_F_leftAt_33 : decode mc_F_leftAt 33 = .ok (.iload_n 1, 1) := by decide +kernel
theorem md_F_leftAt_34 : decode mc_F_leftAt 34 = .ok (.invokevirtual 166, 3) := by decide +kernel
theorem md_F_leftAt_37 : decode mc_F_leftAt 37 = .ok (.ifCond .eq 20, 3) := by decide +kernel
theorem md_F_leftAt_40 : decode mc_F_leftAt 40 = .ok (.aload 5, 2) := by decide +kernel
theorem md_F_leftAt_42 : decode mc_F_leftAt 42 = .ok (.getfield 92, 3) := by decide +kernel
theorem md_F_leftAt_45 : decode mc_F_leftAt 45 = .ok (.iload_n 2, 1) := by decide +kernel
theorem md_F_leftAt_46 : decode mc_F_leftAt 46 = .ok (.if_icmp .ne 11, 3) := by decide +kernel
theorem md_F_leftAt_49 : decode mc_F_leftAt 49 = .ok (.iload_n 3, 1) := by decide +kernel
theorem md_F_leftAt_50 : decode mc_F_leftAt 50 = .ok (.aload 5, 2) := by decide +kernel
theorem md_F_leftAt_52 : decode mc_F_leftAt 52 = .ok (.getfield 81, 3) := by decide +kernel
theorem md_F_leftAt_55 : decode mc_F_leftAt 55 = .ok (.iadd, 1) := by decide +kernel
theorem md_F_leftAt_56 : decode mc_F_leftAt 56 = .ok (.istore_n 3, 1) := by decide +kernel
theorem md_F_leftAt_57 : decode mc_F_leftAt 57 = .ok (.iinc 4 1, 3) := by decide +kernel
theorem md_F_leftAt_60 : decode mc_F_leftAt 60 = .ok (.goto (-55), 3) := by decide +kernel
theorem md_F_leftAt_63 : decode mc_F_leftAt 63 = .ok (.iload_n 3, 1) := by decide +kernel
theorem md_F_leftAt_64 : decode mc_F_leftAt 64 = .ok (.ireturn, 1) := by decide +kernel
theorem md_F_ordersAt_0 : decode mc_F_ordersAt 0 = .ok (.iconst 0, 1) := by decide +kernel
theorem md_F_ordersAt_1 : decode mc_F_ordersAt 1 = .ok (.istore_n 3, 1) := by decide +kernel
theorem md_F_ordersAt_2 : decode mc_F_ordersAt 2 = .ok (.iconst 0, 1) := by decide +kernel
theorem md_F_ordersAt_3 : decode mc_F_ordersAt 3 = .ok (.istore 4, 2) := by decide +kernel
theorem md_F_ordersAt_5 : decode mc_F_ordersAt 5 = .ok (.iload 4, 2) := by decide +kernel
theorem md_F_ordersAt_7 : decode mc_F_ordersAt 7 = .ok (.aload_n 0, 1) := by decide +kernel
theorem md_F_ordersAt_8 : decode mc_F_ordersAt 8 = .ok (.getfield 10, 3) := by decide +kernel
theorem md_F_ordersAt_11 : decode mc_F_ordersAt 11 = .ok (.invokevirtual 51, 3) := by decide +kernel
theorem md_F_ordersAt_14 : decode mc_F_ordersAt 14 = .ok (.if_icmp .ge 44, 3) := by decide +kernel
theorem md_F_ordersAt_17 : decode mc_F_ordersAt 17 = .ok (.aload_n 0, 1) := by decide +kernel
theorem md_F_ordersAt_18 : decode mc_F_ordersAt 18 = .ok (.getfield 10, 3) := by decide +kernel
theorem md_F_ordersAt_21 : decode mc_F_ordersAt 21 = .ok (.iload 4, 2) := by decide +kernel
theorem md_F_ordersAt_23 : decode mc_F_ordersAt 23 = .ok (.invokevirtual 85, 3) := by decide +kernel
theorem md_F_ordersAt_26 : decode mc_F_ordersAt 26 = .ok (.checkcast 57, 3) := by decide +kernel
theorem md_F_ordersAt_29 : decode mc_F_ordersAt 29 = .ok (.astore 5, 2) := by decide +kernel
theorem md_F_ordersAt_31 : decode mc_F_ordersAt 31 = .ok (.aload 5, 2) := by decide +kernel
theorem md_F_ordersAt_33 : decode mc_F_ordersAt 33 = .ok (.iload_n 1, 1) := by decide +kernel
theorem md_F_ordersAt_34 : decode mc_F_ordersAt 34 = .ok (.invokevirtual 166, 3) := by decide +kernel
theorem md_F_ordersAt_37 : decode mc_F_ordersAt 37 = .ok (.ifCond .eq 15, 3) := by decide +kernel
theorem md_F_ordersAt_40 : decode mc_F_ordersAt 40 = .ok (.aload 5, 2) := by decide +kernel
theorem md_F_ordersAt_42 : decode mc_F_ordersAt 42 = .ok (.getfield 92, 3) := by decide +kernel
theorem md_F_ordersAt_45 : decode mc_F_ordersAt 45 = .ok (.iload_n 2, 1) := by decide +kernel
theorem md_F_ordersAt_46 : decode mc_F_ordersAt 46 = .ok (.if_icmp .ne 6, 3) := by decide +kernel
theorem md_F_ordersAt_49 : decode mc_F_ordersAt 49 = .ok (.iinc 3 1, 3) := by decide +kernel
theorem md_F_ordersAt_52 : decode mc_F_ordersAt 52 = .ok (.iinc 4 1, 3) := by decide +kernel
theorem md_F_ordersAt_55 : decode mc_F_ordersAt 55 = .ok (.goto (-50), 3) := by decide +kernel
theorem md_F_ordersAt_58 : decode mc_F_ordersAt 58 = .ok (.iload_n 3, 1) := by decide +kernel
theorem md_F_ordersAt_59 : decode mc_F_ordersAt 59 = .ok (.ireturn, 1) := by decide +kernel
theorem md_F_order_0 : decode mc_F_order 0 = .ok (.aload_n 0, 1) := by decide +kernel
theorem md_F_order_1 : decode mc_F_order 1 = .ok (.iload_n 1, 1) := by decide +kernel
theorem md_F_order_2 : decode mc_F_order 2 = .ok (.invokevirtual 43, 3) := by decide +kernel
theorem md_F_order_5 : decode mc_F_order 5 = .ok (.istore_n 3, 1) := by decide +kernel
theorem md_F_order_6 : decode mc_F_order 6 = .ok (.iload_n 3, 1) := by decide +kernel
theorem md_F_order_7 : decode mc_F_order 7 = .ok (.iconst (-1), 1) := by decide +kernel
theorem md_F_order_8 : decode mc_F_order 8 = .ok (.if_icmp .ne 13, 3) := by decide +kernel
theorem md_F_order_11 : decode mc_F_order 11 = .ok (.new 72, 3) := by decide +kernel
theorem md_F_order_14 : decode mc_F_order 14 = .ok (.dup, 1) := by decide +kernel
theorem md_F_order_15 : decode mc_F_order 15 = .ok (.ldc 74, 2) := by decide +kernel
theorem md_F_order_17 : decode mc_F_order 17 = .ok (.invokespecial 76, 3) := by decide +kernel
theorem md_F_order_20 : decode mc_F_order 20 = .ok (.athrow, 1) := by decide +kernel
theorem md_F_order_21 : decode mc_F_order 21 = .ok (.aload_n 0, 1) := by decide +kernel
theorem md_F_order_22 : decode mc_F_order 22 = .ok (.getfield 10, 3) := by decide +kernel
theorem md_F_order_25 : decode mc_F_order 25 = .ok (.iload_n 3, 1) := by decide +kernel
theorem md_F_order_26 : decode mc_F_order 26 = .ok (.invokevirtual 85, 3) := by decide +kernel
theorem md_F_order_29 : decode mc_F_order 29 = .ok (.checkcast 57, 3) := by decide +kernel
theorem md_F_order_32 : decode mc_F_order 32 = .ok (.astore 4, 2) := by decide +kernel
theorem md_F_order_34 : decode mc_F_order 34 = .ok (.iload_n 2, 1) := by decide +kernel
theorem md_F_order_35 : decode mc_F_order 35 = .ok (.tableswitch 76 0 3 #[29, 58, 64, 70], 29) := by decide +kernel
theorem md_F_order_64 : decode mc_F_order 64 = .ok (.bipush 16, 2) := by decide +kernel
theorem md_F_order_66 : decode mc_F_order 66 = .ok (.aload 4, 2) := by decide +kernel
theorem md_F_order_68 : decode mc_F_order 68 = .ok (.getfield 97, 3) := by decide +kernel
theorem md_F_order_71 : decode mc_F_order 71 = .ok (.imul, 1) := by decide +kernel
theorem md_F_order_72 : decode mc_F_order 72 = .ok (.aload 4, 2) := by decide +kernel
theorem md_F_order_74 : decode mc_F_order 74 = .ok (.getfield 88, 3) := by decide +kernel
theorem md_F_order_77 : decode mc_F_order 77 = .ok (.ifCond .eq 7, 3) := by decide +kernel
theorem md_F_order_80 : decode mc_F_order 80 = .ok (.iconst 2, 1) := by decide +kernel
theorem md_F_order_81 : decode mc_F_order 81 = .ok (.goto 4, 3) := by decide +kernel
theorem md_F_order_84 : decode mc_F_order 84 = .ok (.iconst 0, 1) := by decide +kernel
theorem md_F_order_85 : decode mc_F_order 85 = .ok (.iadd, 1) := by decide +kernel
theorem md_F_order_86 : decode mc_F_order 86 = .ok (.aload 4, 2) := by decide +kernel
theorem md_F_order_88 : decode mc_F_order 88 = .ok (.getfield 125, 3) := by decide +kernel
theorem md_F_order_91 : decode mc_F_order 91 = .ok (.iadd, 1) := by decide +kernel
theorem md_F_order_92 : decode mc_F_order 92 = .ok (.ireturn, 1) := by decide +kernel
theorem md_F_order_93 : decode mc_F_order 93 = .ok (.aload 4, 2) := by decide +kernel
theorem md_F_order_95 : decode mc_F_order 95 = .ok (.getfield 92, 3) := by decide +kernel
theorem md_F_order_98 : decode mc_F_order 98 = .ok (.ireturn, 1) := by decide +kernel
theorem md_F_order_99 : decode mc_F_order 99 = .ok (.aload 4, 2) := by decide +kernel
theorem md_F_order_101 : decode mc_F_order 101 = .ok (.getfield 81, 3) := by decide +kernel
theorem md_F_order_104 : decode mc_F_order 104 = .ok (.ireturn, 1) := by decide +kernel
theorem md_F_order_105 : decode mc_F_order 105 = .ok (.aload_n 0, 1) := by decide +kernel
theorem md_F_order_106 : decode mc_F_order 106 = .ok (.iload_n 3, 1) := by decide +kernel
theorem md_F_order_107 : decode mc_F_order 107 = .ok (.invokevirtual 128, 3) := by decide +kernel
theorem md_F_order_110 : decode mc_F_order 110 = .ok (.ireturn, 1) := by decide +kernel
theorem md_F_order_111 : decode mc_F_order 111 = .ok (.new 27, 3) := by decide +kernel
theorem md_F_order_114 : decode mc_F_order 114 = .ok (.dup, 1) := by decide +kernel
theorem md_F_order_115 : decode mc_F_order 115 = .ok (.ldc 131, 2) := by decide +kernel
theorem md_F_order_117 : decode mc_F_order 117 = .ok (.invokespecial 31, 3) := by decide +kernel
theorem md_F_order_120 : decode mc_F_order 120 = .ok (.athrow, 1) := by decide +kernel
theorem md_F_ordersBefore_0 : decode mc_F_ordersBefore 0 = .ok (.aload_n 0, 1) := by decide +kernel
theorem md_F_ordersBefore_1 : decode mc_F_ordersBefore 1 = .ok (.getfield 10, 3) := by decide +kernel
theorem md_F_ordersBefore_4 : decode mc_F_ordersBefore 4 = .ok (.iload_n 1, 1) := by decide +kernel
theorem md_F_ordersBefore_5 : decode mc_F_ordersBefore 5 = .ok (.invokevirtual 85, 3) := by decide +kernel
theorem md_F_ordersBefore_8 : decode mc_F_ordersBefore 8 = .ok (.checkcast 57, 3) := by decide +kernel
theorem md_F_ordersBefore_11 : decode mc_F_ordersBefore 11 = .ok (.astore_n 2, 1) := by decide +kernel
theorem md_F_ordersBefore_12 : decode mc_F_ordersBefore 12 = .ok (.iconst 0, 1) := by decide +kernel
theorem md_F_ordersBefore_13 : decode mc_F_ordersBefore 13 = .ok (.istore_n 3, 1) := by decide +kernel
theorem md_F_ordersBefore_14 : decode mc_F_ordersBefore 14 = .ok (.iconst 0, 1) := by decide +kernel
theorem md_F_ordersBefore_15 : decode mc_F_ordersBefore 15 = .ok (.istore 4, 2) := by decide +kernel
theorem md_F_ordersBefore_17 : decode mc_F_ordersBefore 17 = .ok (.iload 4, 2) := by decide +kernel
theorem md_F_ordersBefore_19 : decode mc_F_ordersBefore 19 = .ok (.iload_n 1, 1) := by decide +kernel
theorem md_F_ordersBefore_20 : decode mc_F_ordersBefore 20 = .ok (.if_icmp .ge 31, 3) := by decide +kernel
theorem md_F_ordersBefore_23 : decode mc_F_ordersBefore 23 = .ok (.aload_n 0, 1) := by decide +kernel
theorem md_F_ordersBefore_24 : decode mc_F_ordersBefore 24 = .ok (.getfield 10, 3) := by decide +kernel
theorem md_F_ordersBefore_27 : decode mc_F_ordersBefore 27 = .ok (.iload 4, 2) := by decide +kernel
theorem md_F_ordersBefore_29 : decode mc_F_ordersBefore 29 = .ok (.invokevirtual 85, 3) := by decide +kernel
theorem md_F_ordersBefore_32 : decode mc_F_ordersBefore 32 = .ok (.checkcast 57, 3) := by decide +kernel
theorem md_F_ordersBefore_35 : decode mc_F_ordersBefore 35 = .ok (.aload_n 2, 1) := by decide +kernel
theorem md_F_ordersBefore_36 : decode mc_F_ordersBefore 36 = .ok (.invokevirtual 218, 3) := by decide +kernel
theorem md_F_ordersBefore_39 : decode mc_F_ordersBefore 39 = .ok (.ifCond .eq 6, 3) := by decide +kernel
theorem md_F_ordersBefore_42 : decode mc_F_ordersBefore 42 = .ok (.iinc 3 1, 3) := by decide +kernel
theorem md_F_ordersBefore_45 : decode mc_F_ordersBefore 45 = .ok (.iinc 4 1, 3) := by decide +kernel
theorem md_F_ordersBefore_48 : decode mc_F_ordersBefore 48 = .ok (.goto (-31), 3) := by decide +kernel
theorem md_F_ordersBefore_51 : decode mc_F_ordersBefore 51 = .ok (.iload_n 3, 1) := by decide +kernel
theorem md_F_ordersBefore_52 : decode mc_F_ordersBefore 52 = .ok (.ireturn, 1) := by decide +kernel
theorem md_O_queuesWith_0 : decode mc_O_queuesWith 0 = .ok (.aload_n 0, 1) := by decide +kernel
theorem md_O_queuesWith_1 : decode mc_O_queuesWith 1 = .ok (.getfield 21, 3) := by decide +kernel
theorem md_O_queuesWith_4 : decode mc_O_queuesWith 4 = .ok (.ifCond .ne 10, 3) := by decide +kernel
theorem md_O_queuesWith_7 : decode mc_O_queuesWith 7 = .ok (.aload_n 1, 1) := by decide +kernel
theorem md_O_queuesWith_8 : decode mc_O_queuesWith 8 = .ok (.getfield 21, 3) := by decide +kernel
theorem md_O_queuesWith_11 : decode mc_O_queuesWith 11 = .ok (.ifCond .eq 23, 3) := by decide +kernel
theorem md_O_queuesWith_14 : decode mc_O_queuesWith 14 = .ok (.aload_n 0, 1) := by decide +kernel
theorem md_O_queuesWith_15 : decode mc_O_queuesWith 15 = .ok (.getfield 21, 3) := by decide +kernel
theorem md_O_queuesWith_18 : decode mc_O_queuesWith 18 = .ok (.ifCond .eq 14, 3) := by decide +kernel
theorem md_O_queuesWith_21 : decode mc_O_queuesWith 21 = .ok (.aload_n 1, 1) := by decide +kernel
theorem md_O_queuesWith_22 : decode mc_O_queuesWith 22 = .ok (.getfield 21, 3) := by decide +kernel
theorem md_O_queuesWith_25 : decode mc_O_queuesWith 25 = .ok (.ifCond .eq 7, 3) := by decide +kernel
theorem md_O_queuesWith_28 : decode mc_O_queuesWith 28 = .ok (.iconst 1, 1) := by decide +kernel
theorem md_O_queuesWith_29 : decode mc_O_queuesWith 29 = .ok (.goto 4, 3) := by decide +kernel
theorem md_O_queuesWith_32 : decode mc_O_queuesWith 32 = .ok (.iconst 0, 1) := by decide +kernel
theorem md_O_queuesWith_33 : decode mc_O_queuesWith 33 = .ok (.ireturn, 1) := by decide +kernel
theorem md_O_queuesWith_34 : decode mc_O_queuesWith 34 = .ok (.aload_n 0, 1) := by decide +kernel
theorem md_O_queuesWith_35 : decode mc_O_queuesWith 35 = .ok (.getfield 18, 3) := by decide +kernel
theorem md_O_queuesWith_38 : decode mc_O_queuesWith 38 = .ok (.aload_n 1, 1) := by decide +kernel
theorem md_O_queuesWith_39 : decode mc_O_queuesWith 39 = .ok (.getfield 18, 3) := by decide +kernel
theorem md_O_queuesWith_42 : decode mc_O_queuesWith 42 = .ok (.if_icmp .ne 18, 3) := by decide +kernel
theorem md_O_queuesWith_45 : decode mc_O_queuesWith 45 = .ok (.aload_n 0, 1) := by decide +kernel
theorem md_O_queuesWith_46 : decode mc_O_queuesWith 46 = .ok (.getfield 25, 3) := by decide +kernel
theorem md_O_queuesWith_49 : decode mc_O_queuesWith 49 = .ok (.aload_n 1, 1) := by decide +kernel
theorem md_O_queuesWith_50 : decode mc_O_queuesWith 50 = .ok (.getfield 25, 3) := by decide +kernel
theorem md_O_queuesWith_53 : decode mc_O_queuesWith 53 = .ok (.if_icmp .ne 7, 3) := by decide +kernel
theorem md_O_queuesWith_56 : decode mc_O_queuesWith 56 = .ok (.iconst 1, 1) := by decide +kernel
theorem md_O_queuesWith_57 : decode mc_O_queuesWith 57 = .ok (.goto 4, 3) := by decide +kernel
theorem md_O_queuesWith_60 : decode mc_O_queuesWith 60 = .ok (.iconst 0, 1) := by decide +kernel
theorem md_O_queuesWith_61 : decode mc_O_queuesWith 61 = .ok (.ireturn, 1) := by decide +kernel
theorem md_F_fill_0 : decode mc_F_fill 0 = .ok (.iload_n 2, 1) := by decide +kernel
theorem md_F_fill_1 : decode mc_F_fill 1 = .ok (.ifCond .lt 8, 3) := by decide +kernel
theorem md_F_fill_4 : decode mc_F_fill 4 = .ok (.iload_n 2, 1) := by decide +kernel
theorem md_F_fill_5 : decode mc_F_fill 5 = .ok (.iconst 4, 1) := by decide +kernel
theorem md_F_fill_6 : decode mc_F_fill 6 = .ok (.if_icmp .lt 13, 3) := by decide +kernel
theorem md_F_fill_9 : decode mc_F_fill 9 = .ok (.new 27, 3) := by decide +kernel
theorem md_F_fill_12 : decode mc_F_fill 12 = .ok (.dup, 1) := by decide +kernel
theorem md_F_fill_13 : decode mc_F_fill 13 = .ok (.ldc 131, 2) := by decide +kernel
theorem md_F_fill_15 : decode mc_F_fill 15 = .ok (.invokespecial 31, 3) := by decide +kernel
theorem md_F_fill_18 : decode mc_F_fill 18 = .ok (.athrow, 1) := by decide +kernel
theorem md_F_fill_19 : decode mc_F_fill 19 = .ok (.iload_n 1, 1) := by decide +kernel
theorem md_F_fill_20 : decode mc_F_fill 20 = .ok (.ifCond .lt 20, 3) := by decide +kernel
theorem md_F_fill_23 : decode mc_F_fill 23 = .ok (.iload_n 1, 1) := by decide +kernel
theorem md_F_fill_24 : decode mc_F_fill 24 = .ok (.bipush 32, 2) := by decide +kernel
theorem md_F_fill_26 : decode mc_F_fill 26 = .ok (.if_icmp .ge 14, 3) := by decide +kernel
theorem md_F_fill_29 : decode mc_F_fill 29 = .ok (.iload_n 1, 1) := by decide +kernel
theorem md_F_fill_30 : decode mc_F_fill 30 = .ok (.aload_n 0, 1) := by decide +kernel
theorem md_F_fill_31 : decode mc_F_fill 31 = .ok (.getfield 19, 3) := by decide +kernel
theorem md_F_fill_34 : decode mc_F_fill 34 = .ok (.getfield 133, 3) := by decide +kernel
theorem md_F_fill_37 : decode mc_F_fill 37 = .ok (.if_icmp .lt 13, 3) := by decide +kernel
theorem md_F_fill_40 : decode mc_F_fill 40 = .ok (.new 110, 3) := by decide +kernel
theorem md_F_fill_43 : decode mc_F_fill 43 = .ok (.dup, 1) := by decide +kernel
theorem md_F_fill_44 : decode mc_F_fill 44 = .ok (.ldc 136, 2) := by decide +kernel
theorem md_F_fill_46 : decode mc_F_fill 46 = .ok (.invokespecial 114, 3) := by decide +kernel
theorem md_F_fill_49 : decode mc_F_fill 49 = .ok (.athrow, 1) := by decide +kernel
theorem md_F_fill_50 : decode mc_F_fill 50 = .ok (.aload_n 0, 1) := by decide +kernel
theorem md_F_fill_51 : decode mc_F_fill 51 = .ok (.getfield 19, 3) := by decide +kernel
theorem md_F_fill_54 : decode mc_F_fill 54 = .ok (.iload_n 1, 1) := by decide +kernel
theorem md_F_fill_55 : decode mc_F_fill 55 = .ok (.iload_n 2, 1) := by decide +kernel
theorem md_F_fill_56 : decode mc_F_fill 56 = .ok (.invokevirtual 138, 3) := by decide +kernel
theorem md_F_fill_59 : decode mc_F_fill 59 = .ok (.ireturn, 1) := by decide +kernel
theorem md_T_read_0 : decode mc_T_read 0 = .ok (.aload_n 0, 1) := by decide +kernel
theorem md_T_read_1 : decode mc_T_read 1 = .ok (.getfield 13, 3) := by decide +kernel
theorem md_T_read_4 : decode mc_T_read 4 = .ok (.aload_n 0, 1) := by decide +kernel
theorem md_T_read_5 : decode mc_T_read 5 = .ok (.getfield 20, 3) := by decide +kernel
theorem md_T_read_8 : decode mc_T_read 8 = .ok (.iconst 1, 1) := by decide +kernel
theorem md_T_read_9 : decode mc_T_read 9 = .ok (.isub, 1) := by decide +kernel
theorem md_T_read_10 : decode mc_T_read 10 = .ok (.iload_n 1, 1) := by decide +kernel
theorem md_T_read_11 : decode mc_T_read 11 = .ok (.isub, 1) := by decide +kernel
theorem md_T_read_12 : decode mc_T_read 12 = .ok (.bipush 32, 2) := by decide +kernel
theorem md_T_read_14 : decode mc_T_read 14 = .ok (.invokestatic 23, 3) := by decide +kernel
theorem md_T_read_17 : decode mc_T_read 17 = .ok (.aaload, 1) := by decide +kernel
theorem md_T_read_18 : decode mc_T_read 18 = .ok (.iload_n 2, 1) := by decide +kernel
theorem md_T_read_19 : decode mc_T_read 19 = .ok (.iaload, 1) := by decide +kernel
theorem md_T_read_20 : decode mc_T_read 20 = .ok (.ireturn, 1) := by decide +kernel
theorem md_F_figure_0 : decode mc_F_figure 0 = .ok (.iload_n 1, 1) := by decide +kernel
theorem md_F_figure_1 : decode mc_F_figure 1 = .ok (.tableswitch 66 0 4 #[35, 43, 48, 53, 58], 35) := by decide +kernel
theorem md_F_figure_36 : decode mc_F_figure 36 = .ok (.aload_n 0, 1) := by decide +kernel
theorem md_F_figure_37 : decode mc_F_figure 37 = .ok (.getfield 10, 3) := by decide +kernel
theorem md_F_figure_40 : decode mc_F_figure 40 = .ok (.invokevirtual 51, 3) := by decide +kernel
theorem md_F_figure_43 : decode mc_F_figure 43 = .ok (.ireturn, 1) := by decide +kernel
theorem md_F_figure_44 : decode mc_F_figure 44 = .ok (.aload_n 0, 1) := by decide +kernel
theorem md_F_figure_45 : decode mc_F_figure 45 = .ok (.invokevirtual 148, 3) := by decide +kernel
theorem md_F_figure_48 : decode mc_F_figure 48 = .ok (.ireturn, 1) := by decide +kernel
theorem md_F_figure_49 : decode mc_F_figure 49 = .ok (.aload_n 0, 1) := by decide +kernel
theorem md_F_figure_50 : decode mc_F_figure 50 = .ok (.getfield 151, 3) := by decide +kernel
theorem md_F_figure_53 : decode mc_F_figure 53 = .ok (.ireturn, 1) := by decide +kernel
theorem md_F_figure_54 : decode mc_F_figure 54 = .ok (.aload_n 0, 1) := by decide +kernel
theorem md_F_figure_55 : decode mc_F_figure 55 = .ok (.getfield 154, 3) := by decide +kernel
theorem md_F_figure_58 : decode mc_F_figure 58 = .ok (.ireturn, 1) := by decide +kernel
theorem md_F_figure_59 : decode mc_F_figure 59 = .ok (.aload_n 0, 1) := by decide +kernel
theorem md_F_figure_60 : decode mc_F_figure 60 = .ok (.getfield 19, 3) := by decide +kernel
theorem md_F_figure_63 : decode mc_F_figure 63 = .ok (.getfield 157, 3) := by decide +kernel
theorem md_F_figure_66 : decode mc_F_figure 66 = .ok (.ireturn, 1) := by decide +kernel
theorem md_F_figure_67 : decode mc_F_figure 67 = .ok (.new 27, 3) := by decide +kernel
theorem md_F_figure_70 : decode mc_F_figure 70 = .ok (.dup, 1) := by decide +kernel
theorem md_F_figure_71 : decode mc_F_figure 71 = .ok (.ldc 160, 2) := by decide +kernel
theorem md_F_figure_73 : decode mc_F_figure 73 = .ok (.invokespecial 31, 3) := by decide +kernel
theorem md_F_figure_76 : decode mc_F_figure 76 = .ok (.athrow, 1) := by decide +kernel
theorem md_F_countWaiting_0 : decode mc_F_countWaiting 0 = .ok (.iconst 0, 1) := by decide +kernel
theorem md_F_countWaiting_1 : decode mc_F_countWaiting 1 = .ok (.istore_n 1, 1) := by decide +kernel
theorem md_F_countWaiting_2 : decode mc_F_countWaiting 2 = .ok (.iconst 0, 1) := by decide +kernel
theorem md_F_countWaiting_3 : decode mc_F_countWaiting 3 = .ok (.istore_n 2, 1) := by decide +kernel
theorem md_F_countWaiting_4 : decode mc_F_countWaiting 4 = .ok (.iload_n 2, 1) := by decide +kernel
theorem md_F_countWaiting_5 : decode mc_F_countWaiting 5 = .ok (.aload_n 0, 1) := by decide +kernel
theorem md_F_countWaiting_6 : decode mc_F_countWaiting 6 = .ok (.getfield 10, 3) := by decide +kernel
theorem md_F_countWaiting_9 : decode mc_F_countWaiting 9 = .ok (.invokevirtual 51, 3) := by decide +kernel
theorem md_F_countWaiting_12 : decode mc_F_countWaiting 12 = .ok (.if_icmp .ge 29, 3) := by decide +kernel
theorem md_F_countWaiting_15 : decode mc_F_countWaiting 15 = .ok (.aload_n 0, 1) := by decide +kernel
theorem md_F_countWaiting_16 : decode mc_F_countWaiting 16 = .ok (.getfield 10, 3) := by decide +kernel
theorem md_F_countWaiting_19 : decode mc_F_countWaiting 19 = .ok (.iload_n 2, 1) := by decide +kernel
theorem md_F_countWaiting_20 : decode mc_F_countWaiting 20 = .ok (.invokevirtual 85, 3) := by decide +kernel
theorem md_F_countWaiting_23 : decode mc_F_countWaiting 23 = .ok (.checkcast 57, 3) := by decide +kernel
theorem md_F_countWaiting_26 : decode mc_F_countWaiting 26 = .ok (.getfield 88, 3) := by decide +kernel
theorem md_F_countWaiting_29 : decode mc_F_countWaiting 29 = .ok (.ifCond .eq 6, 3) := by decide +kernel
theorem md_F_countWaiting_32 : decode mc_F_countWaiting 32 = .ok (.iinc 1 1, 3) := by decide +kernel
theorem md_F_countWaiting_35 : decode mc_F_countWaiting 35 = .ok (.iinc 2 1, 3) := by decide +kernel
theorem md_F_countWaiting_38 : decode mc_F_countWaiting 38 = .ok (.goto (-34), 3) := by decide +kernel
theorem md_F_countWaiting_41 : decode mc_F_countWaiting 41 = .ok (.iload_n 1, 1) := by decide +kernel
theorem md_F_countWaiting_42 : decode mc_F_countWaiting 42 = .ok (.ireturn, 1) := by decide +kernel
