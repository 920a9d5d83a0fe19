/-! decode rows -/
theorem md_M_init_0 : decode mc_M_init 0 = .ok (.aload_n 0, 1) := by decide +kernel
theorem md_M_init_1 : decode mc_M_init 1 = .ok (.invokespecial 1, 3) := by decide +kernel
theorem md_M_init_4 : decode mc_M_init 4 = .ok (.aload_n 0, 1) := by decide +kernel
theorem md_M_init_5 : decode mc_M_init 5 = .ok (.bipush 40, 2) := by decide +kernel
theorem md_M_init_7 : decode mc_M_init 7 = .ok (.newarray .int, 2) := by decide +kernel
theorem md_M_init_9 : decode mc_M_init 9 = .ok (.putfield 7, 3) := by decide +kernel
theorem md_M_init_12 : decode mc_M_init 12 = .ok (.aload_n 0, 1) := by decide +kernel
theorem md_M_init_13 : decode mc_M_init 13 = .ok (.bipush 40, 2) := by decide +kernel
theorem md_M_init_15 : decode mc_M_init 15 = .ok (.newarray .int, 2) := by decide +kernel
theorem md_M_init_17 : decode mc_M_init 17 = .ok (.putfield 13, 3) := by decide +kernel
theorem md_M_init_20 : decode mc_M_init 20 = .ok (.aload_n 0, 1) := by decide +kernel
theorem md_M_init_21 : decode mc_M_init 21 = .ok (.bipush 40, 2) := by decide +kernel
theorem md_M_init_23 : decode mc_M_init 23 = .ok (.newarray .int, 2) := by decide +kernel
theorem md_M_init_25 : decode mc_M_init 25 = .ok (.putfield 16, 3) := by decide +kernel
theorem md_M_init_28 : decode mc_M_init 28 = .ok (.aload_n 0, 1) := by decide +kernel
theorem md_M_init_29 : decode mc_M_init 29 = .ok (.bipush 40, 2) := by decide +kernel
theorem md_M_init_31 : decode mc_M_init 31 = .ok (.newarray .int, 2) := by decide +kernel
theorem md_M_init_33 : decode mc_M_init 33 = .ok (.putfield 19, 3) := by decide +kernel
theorem md_M_init_36 : decode mc_M_init 36 = .ok (.aload_n 0, 1) := by decide +kernel
theorem md_M_init_37 : decode mc_M_init 37 = .ok (.bipush 40, 2) := by decide +kernel
theorem md_M_init_39 : decode mc_M_init 39 = .ok (.newarray .int, 2) := by decide +kernel
theorem md_M_init_41 : decode mc_M_init 41 = .ok (.putfield 22, 3) := by decide +kernel
theorem md_M_init_44 : decode mc_M_init 44 = .ok (.aload_n 0, 1) := by decide +kernel
theorem md_M_init_45 : decode mc_M_init 45 = .ok (.bipush 40, 2) := by decide +kernel
theorem md_M_init_47 : decode mc_M_init 47 = .ok (.newarray .int, 2) := by decide +kernel
theorem md_M_init_49 : decode mc_M_init 49 = .ok (.putfield 25, 3) := by decide +kernel
theorem md_M_init_52 : decode mc_M_init 52 = .ok (.aload_n 0, 1) := by decide +kernel
theorem md_M_init_53 : decode mc_M_init 53 = .ok (.bipush 40, 2) := by decide +kernel
theorem md_M_init_55 : decode mc_M_init 55 = .ok (.newarray .boolean, 2) := by decide +kernel
theorem md_M_init_57 : decode mc_M_init 57 = .ok (.putfield 28, 3) := by decide +kernel
theorem md_M_init_60 : decode mc_M_init 60 = .ok (.aload_n 0, 1) := by decide +kernel
theorem md_M_init_61 : decode mc_M_init 61 = .ok (.bipush 32, 2) := by decide +kernel
theorem md_M_init_63 : decode mc_M_init 63 = .ok (.newarray .int, 2) := by decide +kernel
theorem md_M_init_65 : decode mc_M_init 65 = .ok (.putfield 32, 3) := by decide +kernel
theorem md_M_init_68 : decode mc_M_init 68 = .ok (.aload_n 0, 1) := by decide +kernel
theorem md_M_init_69 : decode mc_M_init 69 = .ok (.bipush 32, 2) := by decide +kernel
theorem md_M_init_71 : decode mc_M_init 71 = .ok (.newarray .int, 2) := by decide +kernel
theorem md_M_init_73 : decode mc_M_init 73 = .ok (.putfield 35, 3) := by decide +kernel
theorem md_M_init_76 : decode mc_M_init 76 = .ok (.aload_n 0, 1) := by decide +kernel
theorem md_M_init_77 : decode mc_M_init 77 = .ok (.bipush 32, 2) := by decide +kernel
theorem md_M_init_79 : decode mc_M_init 79 = .ok (.newarray .int, 2) := by decide +kernel
theorem md_M_init_81 : decode mc_M_init 81 = .ok (.putfield 38, 3) := by decide +kernel
theorem md_M_init_84 : decode mc_M_init 84 = .ok (.aload_n 0, 1) := by decide +kernel
theorem md_M_init_85 : decode mc_M_init 85 = .ok (.bipush 32, 2) := by decide +kernel
theorem md_M_init_87 : decode mc_M_init 87 = .ok (.newarray .int, 2) := by decide +kernel
theorem md_M_init_89 : decode mc_M_init 89 = .ok (.putfield 41, 3) := by decide +kernel
theorem md_M_init_92 : decode mc_M_init 92 = .ok (.return_, 1) := by decide +kernel
theorem md_M_thrown_0 : decode mc_M_thrown 0 = .ok (.aload_n 0, 1) := by decide +kernel
theorem md_M_thrown_1 : decode mc_M_thrown 1 = .ok (.getfield 44, 3) := by decide +kernel
theorem md_M_thrown_4 : decode mc_M_thrown 4 = .ok (.ireturn, 1) := by decide +kernel
theorem md_M_submit_0 : decode mc_M_submit 0 = .ok (.iload_n 2, 1) := by decide +kernel
theorem md_M_submit_1 : decode mc_M_submit 1 = .ok (.iconst 4, 1) := by decide +kernel
theorem md_M_submit_2 : decode mc_M_submit 2 = .ok (.ishr, 1) := by decide +kernel
theorem md_M_submit_3 : decode mc_M_submit 3 = .ok (.istore 5, 2) := by decide +kernel
theorem md_M_submit_5 : decode mc_M_submit 5 = .ok (.iload_n 2, 1) := by decide +kernel
theorem md_M_submit_6 : decode mc_M_submit 6 = .ok (.iconst 1, 1) := by decide +kernel
theorem md_M_submit_7 : decode mc_M_submit 7 = .ok (.ishr, 1) := by decide +kernel
theorem md_M_submit_8 : decode mc_M_submit 8 = .ok (.bipush 7, 2) := by decide +kernel
theorem md_M_submit_10 : decode mc_M_submit 10 = .ok (.iand, 1) := by decide +kernel
theorem md_M_submit_11 : decode mc_M_submit 11 = .ok (.istore 6, 2) := by decide +kernel
theorem md_M_submit_13 : decode mc_M_submit 13 = .ok (.iload_n 2, 1) := by decide +kernel
theorem md_M_submit_14 : decode mc_M_submit 14 = .ok (.iconst 1, 1) := by decide +kernel
theorem md_M_submit_15 : decode mc_M_submit 15 = .ok (.iand, 1) := by decide +kernel
theorem md_M_submit_16 : decode mc_M_submit 16 = .ok (.istore 7, 2) := by decide +kernel
theorem md_M_submit_18 : decode mc_M_submit 18 = .ok (.iload_n 2, 1) := by decide +kernel
theorem md_M_submit_19 : decode mc_M_submit 19 = .ok (.iconst 0, 1) := by decide +kernel
theorem md_M_submit_20 : decode mc_M_submit 20 = .ok (.bipush 127, 2) := by decide +kernel
theorem md_M_submit_22 : decode mc_M_submit 22 = .ok (.invokestatic 109, 3) := by decide +kernel
theorem md_M_submit_25 : decode mc_M_submit 25 = .ok (.ifCond .eq 35, 3) := by decide +kernel
theorem md_M_submit_28 : decode mc_M_submit 28 = .ok (.iload 6, 2) := by decide +kernel
theorem md_M_submit_30 : decode mc_M_submit 30 = .ok (.iconst 5, 1) := by decide +kernel
theorem md_M_submit_31 : decode mc_M_submit 31 = .ok (.if_icmp .gt 29, 3) := by decide +kernel
theorem md_M_submit_34 : decode mc_M_submit 34 = .ok (.iload_n 3, 1) := by decide +kernel
theorem md_M_submit_35 : decode mc_M_submit 35 = .ok (.iconst 1, 1) := by decide +kernel
theorem md_M_submit_36 : decode mc_M_submit 36 = .ok (.sipush 10000, 3) := by decide +kernel
theorem md_M_submit_39 : decode mc_M_submit 39 = .ok (.invokestatic 109, 3) := by decide +kernel
theorem md_M_submit_42 : decode mc_M_submit 42 = .ok (.ifCond .eq 18, 3) := by decide +kernel
theorem md_M_submit_45 : decode mc_M_submit 45 = .ok (.iload 4, 2) := by decide +kernel
theorem md_M_submit_47 : decode mc_M_submit 47 = .ok (.iconst 1, 1) := by decide +kernel
theorem md_M_submit_48 : decode mc_M_submit 48 = .ok (.ldc 112, 2) := by decide +kernel
theorem md_M_submit_50 : decode mc_M_submit 50 = .ok (.invokestatic 109, 3) := by decide +kernel
theorem md_M_submit_53 : decode mc_M_submit 53 = .ok (.ifCond .eq 7, 3) := by decide +kernel
theorem md_M_submit_56 : decode mc_M_submit 56 = .ok (.iconst 1, 1) := by decide +kernel
theorem md_M_submit_57 : decode mc_M_submit 57 = .ok (.goto 4, 3) := by decide +kernel
theorem md_M_submit_60 : decode mc_M_submit 60 = .ok (.iconst 0, 1) := by decide +kernel
theorem md_M_submit_61 : decode mc_M_submit 61 = .ok (.istore 8, 2) := by decide +kernel
theorem md_M_submit_63 : decode mc_M_submit 63 = .ok (.aload_n 0, 1) := by decide +kernel
theorem md_M_submit_64 : decode mc_M_submit 64 = .ok (.iload 8, 2) := by decide +kernel
theorem md_M_submit_66 : decode mc_M_submit 66 = .ok (.ifCond .ne 7, 3) := by decide +kernel
theorem md_M_submit_69 : decode mc_M_submit 69 = .ok (.iconst 1, 1) := by decide +kernel
theorem md_M_submit_70 : decode mc_M_submit 70 = .ok (.goto 4, 3) := by decide +kernel
theorem md_M_submit_73 : decode mc_M_submit 73 = .ok (.iconst 0, 1) := by decide +kernel
theorem md_M_submit_74 : decode mc_M_submit 74 = .ok (.putfield 44, 3) := by decide +kernel
theorem md_M_submit_77 : decode mc_M_submit 77 = .ok (.iload 8, 2) := by decide +kernel
theorem md_M_submit_79 : decode mc_M_submit 79 = .ok (.ifCond .eq 41, 3) := by decide +kernel
theorem md_M_submit_82 : decode mc_M_submit 82 = .ok (.aload_n 0, 1) := by decide +kernel
theorem md_M_submit_83 : decode mc_M_submit 83 = .ok (.iload_n 1, 1) := by decide +kernel
theorem md_M_submit_84 : decode mc_M_submit 84 = .ok (.invokevirtual 113, 3) := by decide +kernel
theorem md_M_submit_87 : decode mc_M_submit 87 = .ok (.ifCond .ge 28, 3) := by decide +kernel
theorem md_M_submit_90 : decode mc_M_submit 90 = .ok (.aload_n 0, 1) := by decide +kernel
theorem md_M_submit_91 : decode mc_M_submit 91 = .ok (.getfield 48, 3) := by decide +kernel
theorem md_M_submit_94 : decode mc_M_submit 94 = .ok (.bipush 40, 2) := by decide +kernel
theorem md_M_submit_96 : decode mc_M_submit 96 = .ok (.if_icmp .eq 19, 3) := by decide +kernel
theorem md_M_submit_99 : decode mc_M_submit 99 = .ok (.aload_n 0, 1) := by decide +kernel
theorem md_M_submit_100 : decode mc_M_submit 100 = .ok (.iload 5, 2) := by decide +kernel
theorem md_M_submit_102 : decode mc_M_submit 102 = .ok (.iload 7, 2) := by decide +kernel
theorem md_M_submit_104 : decode mc_M_submit 104 = .ok (.iload 6, 2) := by decide +kernel
theorem md_M_submit_106 : decode mc_M_submit 106 = .ok (.iload_n 3, 1) := by decide +kernel
theorem md_M_submit_107 : decode mc_M_submit 107 = .ok (.iload 4, 2) := by decide +kernel
theorem md_M_submit_109 : decode mc_M_submit 109 = .ok (.invokevirtual 116, 3) := by decide +kernel
theorem md_M_submit_112 : decode mc_M_submit 112 = .ok (.ifCond .eq 8, 3) := by decide +kernel
theorem md_M_submit_115 : decode mc_M_submit 115 = .ok (.aload_n 0, 1) := by decide +kernel
theorem md_M_submit_116 : decode mc_M_submit 116 = .ok (.iconst 2, 1) := by decide +kernel
theorem md_M_submit_117 : decode mc_M_submit 117 = .ok (.putfield 44, 3) := by decide +kernel
theorem md_M_submit_120 : decode mc_M_submit 120 = .ok (.aload_n 0, 1) := by decide +kernel
theorem md_M_submit_121 : decode mc_M_submit 121 = .ok (.getfield 44, 3) := by decide +kernel
theorem md_M_submit_124 : decode mc_M_submit 124 = .ok (.ifCond .le 5, 3) := by decide +kernel
theorem md_M_submit_127 : decode mc_M_submit 127 = .ok (.iconst 0, 1) := by decide +kernel
theorem md_M_submit_128 : decode mc_M_submit 128 = .ok (.ireturn, 1) := by decide +kernel
theorem md_M_submit_129 : decode mc_M_submit 129 = .ok (.iload 4, 2) := by decide +kernel
theorem md_M_submit_131 : decode mc_M_submit 131 = .ok (.istore 9, 2) := by decide +kernel
theorem md_M_submit_133 : decode mc_M_submit 133 = .ok (.iload 6, 2) := by decide +kernel
theorem md_M_submit_135 : decode mc_M_submit 135 = .ok (.iconst 4, 1) := by decide +kernel
theorem md_M_submit_136 : decode mc_M_submit 136 = .ok (.if_icmp .ge 27, 3) := by decide +kernel
theorem md_M_submit_139 : decode mc_M_submit 139 = .ok (.aload_n 0, 1) := by decide +kernel
theorem md_M_submit_140 : decode mc_M_submit 140 = .ok (.iload_n 1, 1) := by decide +kernel
theorem md_M_submit_141 : decode mc_M_submit 141 = .ok (.iload 5, 2) := by decide +kernel
theorem md_M_submit_143 : decode mc_M_submit 143 = .ok (.iload 7, 2) := by decide +kernel
theorem md_M_submit_145 : decode mc_M_submit 145 = .ok (.iload 6, 2) := by decide +kernel
theorem md_M_submit_147 : decode mc_M_submit 147 = .ok (.iconst 1, 1) := by decide +kernel
theorem md_M_submit_148 : decode mc_M_submit 148 = .ok (.if_icmp .ne 7, 3) := by decide +kernel
theorem md_M_submit_151 : decode mc_M_submit 151 = .ok (.iconst 0, 1) := by decide +kernel
theorem md_M_submit_152 : decode mc_M_submit 152 = .ok (.goto 4, 3) := by decide +kernel
theorem md_M_submit_155 : decode mc_M_submit 155 = .ok (.iload_n 3, 1) := by decide +kernel
theorem md_M_submit_156 : decode mc_M_submit 156 = .ok (.iload 4, 2) := by decide +kernel
theorem md_M_submit_158 : decode mc_M_submit 158 = .ok (.invokevirtual 101, 3) := by decide +kernel
theorem md_M_submit_161 : decode mc_M_submit 161 = .ok (.istore 9, 2) := by decide +kernel
theorem md_M_submit_163 : decode mc_M_submit 163 = .ok (.iload 6, 2) := by decide +kernel
theorem md_M_submit_165 : decode mc_M_submit 165 = .ok (.iconst 3, 1) := by decide +kernel
theorem md_M_submit_166 : decode mc_M_submit 166 = .ok (.if_icmp .gt 13, 3) := by decide +kernel
theorem md_M_submit_169 : decode mc_M_submit 169 = .ok (.iload 6, 2) := by decide +kernel
theorem md_M_submit_171 : decode mc_M_submit 171 = .ok (.ifCond .ne 42, 3) := by decide +kernel
theorem md_M_submit_174 : decode mc_M_submit 174 = .ok (.iload 9, 2) := by decide +kernel
theorem md_M_submit_176 : decode mc_M_submit 176 = .ok (.ifCond .le 37, 3) := by decide +kernel
theorem md_M_submit_179 : decode mc_M_submit 179 = .ok (.aload_n 0, 1) := by decide +kernel
theorem md_M_submit_180 : decode mc_M_submit 180 = .ok (.iload_n 1, 1) := by decide +kernel
theorem md_M_submit_181 : decode mc_M_submit 181 = .ok (.iload 5, 2) := by decide +kernel
theorem md_M_submit_183 : decode mc_M_submit 183 = .ok (.iload 7, 2) := by decide +kernel
theorem md_M_submit_185 : decode mc_M_submit 185 = .ok (.iload_n 3, 1) := by decide +kernel
theorem md_M_submit_186 : decode mc_M_submit 186 = .ok (.iload 9, 2) := by decide +kernel
theorem md_M_submit_188 : decode mc_M_submit 188 = .ok (.invokevirtual 120, 3) := by decide +kernel
theorem md_M_submit_191 : decode mc_M_submit 191 = .ok (.aload_n 0, 1) := by decide +kernel
theorem md_M_submit_192 : decode mc_M_submit 192 = .ok (.getfield 28, 3) := by decide +kernel
theorem md_M_submit_195 : decode mc_M_submit 195 = .ok (.aload_n 0, 1) := by decide +kernel
theorem md_M_submit_196 : decode mc_M_submit 196 = .ok (.getfield 48, 3) := by decide +kernel
theorem md_M_submit_199 : decode mc_M_submit 199 = .ok (.iconst 1, 1) := by decide +kernel
theorem md_M_submit_200 : decode mc_M_submit 200 = .ok (.isub, 1) := by decide +kernel
theorem md_M_submit_201 : decode mc_M_submit 201 = .ok (.iload 6, 2) := by decide +kernel
theorem md_M_submit_203 : decode mc_M_submit 203 = .ok (.iconst 5, 1) := by decide +kernel
theorem md_M_submit_204 : decode mc_M_submit 204 = .ok (.if_icmp .ne 7, 3) := by decide +kernel
theorem md_M_submit_207 : decode mc_M_submit 207 = .ok (.iconst 1, 1) := by decide +kernel
theorem md_M_submit_208 : decode mc_M_submit 208 = .ok (.goto 4, 3) := by decide +kernel
theorem md_M_submit_211 : decode mc_M_submit 211 = .ok (.iconst 0, 1) := by decide +kernel
theorem md_M_submit_212 : decode mc_M_submit 212 = .ok (.bastore, 1) := by decide +kernel
theorem md_M_submit_213 : decode mc_M_submit 213 = .ok (.aload_n 0, 1) := by decide +kernel
theorem md_M_submit_214 : decode mc_M_submit 214 = .ok (.invokevirtual 124, 3) := by decide +kernel
theorem md_M_submit_217 : decode mc_M_submit 217 = .ok (.iload 4, 2) := by decide +kernel
theorem md_M_submit_219 : decode mc_M_submit 219 = .ok (.iload 9, 2) := by decide +kernel
theorem md_M_submit_221 : decode mc_M_submit 221 = .ok (.isub, 1) := by decide +kernel
theorem md_M_submit_222 : decode mc_M_submit 222 = .ok (.ireturn, 1) := by decide +kernel
theorem md_M_among_0 : decode mc_M_among 0 = .ok (.iload_n 0, 1) := by decide +kernel
theorem md_M_among_1 : decode mc_M_among 1 = .ok (.iload_n 1, 1) := by decide +kernel
theorem md_M_among_2 : decode mc_M_among 2 = .ok (.if_icmp .lt 12, 3) := by decide +kernel
theorem md_M_among_5 : decode mc_M_among 5 = .ok (.iload_n 0, 1) := by decide +kernel
theorem md_M_among_6 : decode mc_M_among 6 = .ok (.iload_n 2, 1) := by decide +kernel
theorem md_M_among_7 : decode mc_M_among 7 = .ok (.if_icmp .gt 7, 3) := by decide +kernel
theorem md_M_among_10 : decode mc_M_among 10 = .ok (.iconst 1, 1) := by decide +kernel
theorem md_M_among_11 : decode mc_M_among 11 = .ok (.goto 4, 3) := by decide +kernel
theorem md_M_among_14 : decode mc_M_among 14 = .ok (.iconst 0, 1) := by decide +kernel
theorem md_M_among_15 : decode mc_M_among 15 = .ok (.ireturn, 1) := by decide +kernel
theorem md_M_find_0 : decode mc_M_find 0 = .ok (.iconst (-1), 1) := by decide +kernel
theorem md_M_find_1 : decode mc_M_find 1 = .ok (.istore_n 2, 1) := by decide +kernel
theorem md_M_find_2 : decode mc_M_find 2 = .ok (.iconst 0, 1) := by decide +kernel
theorem md_M_find_3 : decode mc_M_find 3 = .ok (.istore_n 3, 1) := by decide +kernel
theorem md_M_find_4 : decode mc_M_find 4 = .ok (.iload_n 3, 1) := by decide +kernel
theorem md_M_find_5 : decode mc_M_find 5 = .ok (.aload_n 0, 1) := by decide +kernel
theorem md_M_find_6 : decode mc_M_find 6 = .ok (.getfield 48, 3) := by decide +kernel
theorem md_M_find_9 : decode mc_M_find 9 = .ok (.if_icmp .ge 25, 3) := by decide +kernel
theorem md_M_find_12 : decode mc_M_find 12 = .ok (.aload_n 0, 1) := by decide +kernel
theorem md_M_find_13 : decode mc_M_find 13 = .ok (.getfield 7, 3) := by decide +kernel
theorem md_M_find_16 : decode mc_M_find 16 = .ok (.iload_n 3, 1) := by decide +kernel
theorem md_M_find_17 : decode mc_M_find 17 = .ok (.iaload, 1) := by decide +kernel
theorem md_M_find_18 : decode mc_M_find 18 = .ok (.iload_n 1, 1) := by decide +kernel
theorem md_M_find_19 : decode mc_M_find 19 = .ok (.if_icmp .ne 7, 3) := by decide +kernel
theorem md_M_find_22 : decode mc_M_find 22 = .ok (.iload_n 3, 1) := by decide +kernel
theorem md_M_find_23 : decode mc_M_find 23 = .ok (.goto 4, 3) := by decide +kernel
theorem md_M_find_26 : decode mc_M_find 26 = .ok (.iload_n 2, 1) := by decide +kernel
theorem md_M_find_27 : decode mc_M_find 27 = .ok (.istore_n 2, 1) := by decide +kernel
theorem md_M_find_28 : decode mc_M_find 28 = .ok (.iinc 3 1, 3) := by decide +kernel
theorem md_M_find_31 : decode mc_M_find 31 = .ok (.goto (-27), 3) := by decide +kernel
theorem md_M_find_34 : decode mc_M_find 34 = .ok (.iload_n 2, 1) := by decide +kernel
theorem md_M_find_35 : decode mc_M_find 35 = .ok (.ireturn, 1) := by decide +kernel
theorem md_M_refused_0 : decode mc_M_refused 0 = .ok (.iload_n 3, 1) := by decide +kernel
theorem md_M_refused_1 : decode mc_M_refused 1 = .ok (.iconst 3, 1) := by decide +kernel
theorem md_M_refused_2 : decode mc_M_refused 2 = .ok (.if_icmp .ne 26, 3) := by decide +kernel
theorem md_M_refused_5 : decode mc_M_refused 5 = .ok (.aload_n 0, 1) := by decide +kernel
theorem md_M_refused_6 : decode mc_M_refused 6 = .ok (.iload_n 1, 1) := by decide +kernel
theorem md_M_refused_7 : decode mc_M_refused 7 = .ok (.iload_n 2, 1) := by decide +kernel
theorem md_M_refused_8 : decode mc_M_refused 8 = .ok (.iload 4, 2) := by decide +kernel
theorem md_M_refused_10 : decode mc_M_refused 10 = .ok (.invokevirtual 105, 3) := by decide +kernel
theorem md_M_refused_13 : decode mc_M_refused 13 = .ok (.istore 6, 2) := by decide +kernel
theorem md_M_refused_15 : decode mc_M_refused 15 = .ok (.iload 6, 2) := by decide +kernel
theorem md_M_refused_17 : decode mc_M_refused 17 = .ok (.iload 5, 2) := by decide +kernel
theorem md_M_refused_19 : decode mc_M_refused 19 = .ok (.if_icmp .ge 7, 3) := by decide +kernel
theorem md_M_refused_22 : decode mc_M_refused 22 = .ok (.iconst 1, 1) := by decide +kernel
theorem md_M_refused_23 : decode mc_M_refused 23 = .ok (.goto 4, 3) := by decide +kernel
theorem md_M_refused_26 : decode mc_M_refused 26 = .ok (.iconst 0, 1) := by decide +kernel
theorem md_M_refused_27 : decode mc_M_refused 27 = .ok (.ireturn, 1) := by decide +kernel
theorem md_M_refused_28 : decode mc_M_refused 28 = .ok (.aload_n 0, 1) := by decide +kernel
theorem md_M_refused_29 : decode mc_M_refused 29 = .ok (.iconst 1, 1) := by decide +kernel
theorem md_M_refused_30 : decode mc_M_refused 30 = .ok (.iload_n 2, 1) := by decide +kernel
theorem md_M_refused_31 : decode mc_M_refused 31 = .ok (.isub, 1) := by decide +kernel
theorem md_M_refused_32 : decode mc_M_refused 32 = .ok (.invokevirtual 71, 3) := by decide +kernel
theorem md_M_refused_35 : decode mc_M_refused 35 = .ok (.istore 6, 2) := by decide +kernel
theorem md_M_refused_37 : decode mc_M_refused 37 = .ok (.iload_n 3, 1) := by decide +kernel
theorem md_M_refused_38 : decode mc_M_refused 38 = .ok (.iconst 4, 1) := by decide +kernel
theorem md_M_refused_39 : decode mc_M_refused 39 = .ok (.if_icmp .ne 24, 3) := by decide +kernel
theorem md_M_refused_42 : decode mc_M_refused 42 = .ok (.iload 6, 2) := by decide +kernel
theorem md_M_refused_44 : decode mc_M_refused 44 = .ok (.ifCond .lt 19, 3) := by decide +kernel
theorem md_M_refused_47 : decode mc_M_refused 47 = .ok (.aload_n 0, 1) := by decide +kernel
theorem md_M_refused_48 : decode mc_M_refused 48 = .ok (.iload_n 2, 1) := by decide +kernel
theorem md_M_refused_49 : decode mc_M_refused 49 = .ok (.iload 4, 2) := by decide +kernel
theorem md_M_refused_51 : decode mc_M_refused 51 = .ok (.iload 6, 2) := by decide +kernel
theorem md_M_refused_53 : decode mc_M_refused 53 = .ok (.invokevirtual 75, 3) := by decide +kernel
theorem md_M_refused_56 : decode mc_M_refused 56 = .ok (.ifCond .eq 7, 3) := by decide +kernel
theorem md_M_refused_59 : decode mc_M_refused 59 = .ok (.iconst 1, 1) := by decide +kernel
theorem md_M_refused_60 : decode mc_M_refused 60 = .ok (.goto 4, 3) := by decide +kernel
theorem md_M_refused_63 : decode mc_M_refused 63 = .ok (.iconst 0, 1) := by decide +kernel
theorem md_M_refused_64 : decode mc_M_refused 64 = .ok (.ireturn, 1) := by decide +kernel
theorem md_M_within_0 : decode mc_M_within 0 = .ok (.iconst 0, 1) := by decide +kernel
theorem md_M_within_1 : decode mc_M_within 1 = .ok (.istore 4, 2) := by decide +kernel
theorem md_M_within_3 : decode mc_M_within 3 = .ok (.iconst 0, 1) := by decide +kernel
theorem md_M_within_4 : decode mc_M_within 4 = .ok (.istore 5, 2) := by decide +kernel
theorem md_M_within_6 : decode mc_M_within 6 = .ok (.iload 5, 2) := by decide +kernel
theorem md_M_within_8 : decode mc_M_within 8 = .ok (.aload_n 0, 1) := by decide +kernel
theorem md_M_within_9 : decode mc_M_within 9 = .ok (.getfield 48, 3) := by decide +kernel
theorem md_M_within_12 : decode mc_M_within 12 = .ok (.if_icmp .ge 80, 3) := by decide +kernel
theorem md_M_within_15 : decode mc_M_within 15 = .ok (.aload_n 0, 1) := by decide +kernel
theorem md_M_within_16 : decode mc_M_within 16 = .ok (.getfield 28, 3) := by decide +kernel
theorem md_M_within_19 : decode mc_M_within 19 = .ok (.iload 5, 2) := by decide +kernel
theorem md_M_within_21 : decode mc_M_within 21 = .ok (.baload, 1) := by decide +kernel
theorem md_M_within_22 : decode mc_M_within 22 = .ok (.ifCond .ne 40, 3) := by decide +kernel
theorem md_M_within_25 : decode mc_M_within 25 = .ok (.aload_n 0, 1) := by decide +kernel
theorem md_M_within_26 : decode mc_M_within 26 = .ok (.getfield 16, 3) := by decide +kernel
theorem md_M_within_29 : decode mc_M_within 29 = .ok (.iload 5, 2) := by decide +kernel
theorem md_M_within_31 : decode mc_M_within 31 = .ok (.iaload, 1) := by decide +kernel
theorem md_M_within_32 : decode mc_M_within 32 = .ok (.iload_n 2, 1) := by decide +kernel
theorem md_M_within_33 : decode mc_M_within 33 = .ok (.if_icmp .eq 29, 3) := by decide +kernel
theorem md_M_within_36 : decode mc_M_within 36 = .ok (.aload_n 0, 1) := by decide +kernel
theorem md_M_within_37 : decode mc_M_within 37 = .ok (.getfield 13, 3) := by decide +kernel
theorem md_M_within_40 : decode mc_M_within 40 = .ok (.iload 5, 2) := by decide +kernel
theorem md_M_within_42 : decode mc_M_within 42 = .ok (.iaload, 1) := by decide +kernel
theorem md_M_within_43 : decode mc_M_within 43 = .ok (.iload_n 1, 1) := by decide +kernel
theorem md_M_within_44 : decode mc_M_within 44 = .ok (.if_icmp .eq 18, 3) := by decide +kernel
theorem md_M_within_47 : decode mc_M_within 47 = .ok (.aload_n 0, 1) := by decide +kernel
theorem md_M_within_48 : decode mc_M_within 48 = .ok (.iload_n 2, 1) := by decide +kernel
theorem md_M_within_49 : decode mc_M_within 49 = .ok (.iload_n 3, 1) := by decide +kernel
theorem md_M_within_50 : decode mc_M_within 50 = .ok (.iload 5, 2) := by decide +kernel
theorem md_M_within_52 : decode mc_M_within 52 = .ok (.invokevirtual 75, 3) := by decide +kernel
theorem md_M_within_55 : decode mc_M_within 55 = .ok (.ifCond .eq 7, 3) := by decide +kernel
theorem md_M_within_58 : decode mc_M_within 58 = .ok (.iconst 1, 1) := by decide +kernel
theorem md_M_within_59 : decode mc_M_within 59 = .ok (.goto 4, 3) := by decide +kernel
theorem md_M_within_62 : decode mc_M_within 62 = .ok (.iconst 0, 1) := by decide +kernel
theorem md_M_within_63 : decode mc_M_within 63 = .ok (.istore 6, 2) := by decide +kernel
theorem md_M_within_65 : decode mc_M_within 65 = .ok (.iload 4, 2) := by decide +kernel
theorem md_M_within_67 : decode mc_M_within 67 = .ok (.iload 6, 2) := by decide +kernel
theorem md_M_within_69 : decode mc_M_within 69 = .ok (.ifCond .eq 13, 3) := by decide +kernel
theorem md_M_within_72 : decode mc_M_within 72 = .ok (.aload_n 0, 1) := by decide +kernel
theorem md_M_within_73 : decode mc_M_within 73 = .ok (.getfield 22, 3) := by decide +kernel
theorem md_M_within_76 : decode mc_M_within 76 = .ok (.iload 5, 2) := by decide +kernel
theorem md_M_within_78 : decode mc_M_within 78 = .ok (.iaload, 1) := by decide +kernel
theorem md_M_within_79 : decode mc_M_within 79 = .ok (.goto 4, 3) := by decide +kernel
theorem md_M_within_82 : decode mc_M_within 82 = .ok (.iconst 0, 1) := by decide +kernel
theorem md_M_within_83 : decode mc_M_within 83 = .ok (.iadd, 1) := by decide +kernel
theorem md_M_within_84 : decode mc_M_within 84 = .ok (.istore 4, 2) := by decide +kernel
theorem md_M_within_86 : decode mc_M_within 86 = .ok (.iinc 5 1, 3) := by decide +kernel
theorem md_M_within_89 : decode mc_M_within 89 = .ok (.goto (-83), 3) := by decide +kernel
theorem md_M_within_92 : decode mc_M_within 92 = .ok (.iload 4, 2) := by decide +kernel
theorem md_M_within_94 : decode mc_M_within 94 = .ok (.ireturn, 1) := by decide +kernel
theorem md_M_fits_0 : decode mc_M_fits 0 = .ok (.iload_n 2, 1) := by decide +kernel
theorem md_M_fits_1 : decode mc_M_fits 1 = .ok (.ifCond .eq 30, 3) := by decide +kernel
theorem md_M_fits_4 : decode mc_M_fits 4 = .ok (.iload_n 1, 1) := by decide +kernel
theorem md_M_fits_5 : decode mc_M_fits 5 = .ok (.ifCond .ne 16, 3) := by decide +kernel
theorem md_M_fits_8 : decode mc_M_fits 8 = .ok (.iload_n 2, 1) := by decide +kernel
theorem md_M_fits_9 : decode mc_M_fits 9 = .ok (.aload_n 0, 1) := by decide +kernel
theorem md_M_fits_10 : decode mc_M_fits 10 = .ok (.getfield 19, 3) := by decide +kernel
theorem md_M_fits_13 : decode mc_M_fits 13 = .ok (.iload_n 3, 1) := by decide +kernel
theorem md_M_fits_14 : decode mc_M_fits 14 = .ok (.iaload, 1) := by decide +kernel
theorem md_M_fits_15 : decode mc_M_fits 15 = .ok (.if_icmp .lt 20, 3) := by decide +kernel
theorem md_M_fits_18 : decode mc_M_fits 18 = .ok (.goto 13, 3) := by decide +kernel
theorem md_M_fits_21 : decode mc_M_fits 21 = .ok (.iload_n 2, 1) := by decide +kernel
theorem md_M_fits_22 : decode mc_M_fits 22 = .ok (.aload_n 0, 1) := by decide +kernel
theorem md_M_fits_23 : decode mc_M_fits 23 = .ok (.getfield 19, 3) := by decide +kernel
theorem md_M_fits_26 : decode mc_M_fits 26 = .ok (.iload_n 3, 1) := by decide +kernel
theorem md_M_fits_27 : decode mc_M_fits 27 = .ok (.iaload, 1) := by decide +kernel
theorem md_M_fits_28 : decode mc_M_fits 28 = .ok (.if_icmp .gt 7, 3) := by decide +kernel
theorem md_M_fits_31 : decode mc_M_fits 31 = .ok (.iconst 1, 1) := by decide +kernel
theorem md_M_fits_32 : decode mc_M_fits 32 = .ok (.goto 4, 3) := by decide +kernel
theorem md_M_fits_35 : decode mc_M_fits 35 = .ok (.iconst 0, 1) := by decide +kernel
theorem md_M_fits_36 : decode mc_M_fits 36 = .ok (.ireturn, 1) := by decide +kernel
theorem md_M_first_0 : decode mc_M_first 0 = .ok (.iconst (-1), 1) := by decide +kernel
theorem md_M_first_1 : decode mc_M_first 1 = .ok (.istore_n 2, 1) := by decide +kernel
theorem md_M_first_2 : decode mc_M_first 2 = .ok (.iconst 0, 1) := by decide +kernel
theorem md_M_first_3 : decode mc_M_first 3 = .ok (.istore_n 3, 1) := by decide +kernel
theorem md_M_first_4 : decode mc_M_first 4 = .ok (.iload_n 3, 1) := by decide +kernel
theorem md_M_first_5 : decode mc_M_first 5 = .ok (.aload_n 0, 1) := by decide +kernel
theorem md_M_first_6 : decode mc_M_first 6 = .ok (.getfield 48, 3) := by decide +kernel
theorem md_M_first_9 : decode mc_M_first 9 = .ok (.if_icmp .ge 59, 3) := by decide +kernel
theorem md_M_first_12 : decode mc_M_first 12 = .ok (.aload_n 0, 1) := by decide +kernel
theorem md_M_first_13 : decode mc_M_first 13 = .ok (.getfield 28, 3) := by decide +kernel
theorem md_M_first_16 : decode mc_M_first 16 = .ok (.iload_n 3, 1) := by decide +kernel
theorem md_M_first_17 : decode mc_M_first 17 = .ok (.baload, 1) := by decide +kernel
theorem md_M_first_18 : decode mc_M_first 18 = .ok (.ifCond .ne 17, 3) := by decide +kernel
theorem md_M_first_21 : decode mc_M_first 21 = .ok (.aload_n 0, 1) := by decide +kernel
theorem md_M_first_22 : decode mc_M_first 22 = .ok (.getfield 16, 3) := by decide +kernel
theorem md_M_first_25 : decode mc_M_first 25 = .ok (.iload_n 3, 1) := by decide +kernel
theorem md_M_first_26 : decode mc_M_first 26 = .ok (.iaload, 1) := by decide +kernel
theorem md_M_first_27 : decode mc_M_first 27 = .ok (.iload_n 1, 1) := by decide +kernel
theorem md_M_first_28 : decode mc_M_first 28 = .ok (.if_icmp .ne 7, 3) := by decide +kernel
theorem md_M_first_31 : decode mc_M_first 31 = .ok (.iconst 1, 1) := by decide +kernel
theorem md_M_first_32 : decode mc_M_first 32 = .ok (.goto 4, 3) := by decide +kernel
theorem md_M_first_35 : decode mc_M_first 35 = .ok (.iconst 0, 1) := by decide +kernel
theorem md_M_first_36 : decode mc_M_first 36 = .ok (.istore 4, 2) := by decide +kernel
theorem md_M_first_38 : decode mc_M_first 38 = .ok (.iload 4, 2) := by decide +kernel
theorem md_M_first_40 : decode mc_M_first 40 = .ok (.ifCond .eq 20, 3) := by decide +kernel
theorem md_M_first_43 : decode mc_M_first 43 = .ok (.iload_n 2, 1) := by decide +kernel
theorem md_M_first_44 : decode mc_M_first 44 = .ok (.ifCond .lt 12, 3) := by decide +kernel
theorem md_M_first_47 : decode mc_M_first 47 = .ok (.aload_n 0, 1) := by decide +kernel
theorem md_M_first_48 : decode mc_M_first 48 = .ok (.iload_n 3, 1) := by decide +kernel
theorem md_M_first_49 : decode mc_M_first 49 = .ok (.iload_n 2, 1) := by decide +kernel
theorem md_M_first_50 : decode mc_M_first 50 = .ok (.invokevirtual 54, 3) := by decide +kernel
theorem md_M_first_53 : decode mc_M_first 53 = .ok (.ifCond .eq 7, 3) := by decide +kernel
theorem md_M_first_56 : decode mc_M_first 56 = .ok (.iload_n 3, 1) := by decide +kernel
theorem md_M_first_57 : decode mc_M_first 57 = .ok (.goto 4, 3) := by decide +kernel
theorem md_M_first_60 : decode mc_M_first 60 = .ok (.iload_n 2, 1) := by decide +kernel
theorem md_M_first_61 : decode mc_M_first 61 = .ok (.istore_n 2, 1) := by decide +kernel
theorem md_M_first_62 : decode mc_M_first 62 = .ok (.iinc 3 1, 3) := by decide +kernel
theorem md_M_first_65 : decode mc_M_first 65 = .ok (.goto (-61), 3) := by decide +kernel
theorem md_M_first_68 : decode mc_M_first 68 = .ok (.iload_n 2, 1) := by decide +kernel
theorem md_M_first_69 : decode mc_M_first 69 = .ok (.ireturn, 1) := by decide +kernel
theorem md_M_comesBefore_0 : decode mc_M_comesBefore 0 = .ok (.aload_n 0, 1) := by decide +kernel
theorem md_M_comesBefore_1 : decode mc_M_comesBefore 1 = .ok (.getfield 19, 3) := by decide +kernel
theorem md_M_comesBefore_4 : decode mc_M_comesBefore 4 = .ok (.iload_n 1, 1) := by decide +kernel
theorem md_M_comesBefore_5 : decode mc_M_comesBefore 5 = .ok (.iaload, 1) := by decide +kernel
theorem md_M_comesBefore_6 : decode mc_M_comesBefore 6 = .ok (.aload_n 0, 1) := by decide +kernel
theorem md_M_comesBefore_7 : decode mc_M_comesBefore 7 = .ok (.getfield 19, 3) := by decide +kernel
theorem md_M_comesBefore_10 : decode mc_M_comesBefore 10 = .ok (.iload_n 2, 1) := by decide +kernel
theorem md_M_comesBefore_11 : decode mc_M_comesBefore 11 = .ok (.iaload, 1) := by decide +kernel
theorem md_M_comesBefore_12 : decode mc_M_comesBefore 12 = .ok (.if_icmp .eq 56, 3) := by decide +kernel
theorem md_M_comesBefore_15 : decode mc_M_comesBefore 15 = .ok (.aload_n 0, 1) := by decide +kernel
theorem md_M_comesBefore_16 : decode mc_M_comesBefore 16 = .ok (.getfield 16, 3) := by decide +kernel
theorem md_M_comesBefore_19 : decode mc_M_comesBefore 19 = .ok (.iload_n 1, 1) := by decide +kernel
theorem md_M_comesBefore_20 : decode mc_M_comesBefore 20 = .ok (.iaload, 1) := by decide +kernel
theorem md_M_comesBefore_21 : decode mc_M_comesBefore 21 = .ok (.ifCond .ne 26, 3) := by decide +kernel
theorem md_M_comesBefore_24 : decode mc_M_comesBefore 24 = .ok (.aload_n 0, 1) := by decide +kernel
theorem md_M_comesBefore_25 : decode mc_M_comesBefore 25 = .ok (.getfield 19, 3) := by decide +kernel
theorem md_M_comesBefore_28 : decode mc_M_comesBefore 28 = .ok (.iload_n 1, 1) := by decide +kernel
theorem md_M_comesBefore_29 : decode mc_M_comesBefore 29 = .ok (.iaload, 1) := by decide +kernel
theorem md_M_comesBefore_30 : decode mc_M_comesBefore 30 = .ok (.aload_n 0, 1) := by decide +kernel
theorem md_M_comesBefore_31 : decode mc_M_comesBefore 31 = .ok (.getfield 19, 3) := by decide +kernel
theorem md_M_comesBefore_34 : decode mc_M_comesBefore 34 = .ok (.iload_n 2, 1) := by decide +kernel
theorem md_M_comesBefore_35 : decode mc_M_comesBefore 35 = .ok (.iaload, 1) := by decide +kernel
theorem md_M_comesBefore_36 : decode mc_M_comesBefore 36 = .ok (.if_icmp .le 7, 3) := by decide +kernel
theorem md_M_comesBefore_39 : decode mc_M_comesBefore 39 = .ok (.iconst 1, 1) := by decide +kernel
theorem md_M_comesBefore_40 : decode mc_M_comesBefore 40 = .ok (.goto 27, 3) := by decide +kernel
theorem md_M_comesBefore_43 : decode mc_M_comesBefore 43 = .ok (.iconst 0, 1) := by decide +kernel
theorem md_M_comesBefore_44 : decode mc_M_comesBefore 44 = .ok (.goto 23, 3) := by decide +kernel
theorem md_M_comesBefore_47 : decode mc_M_comesBefore 47 = .ok (.aload_n 0, 1) := by decide +kernel
theorem md_M_comesBefore_48 : decode mc_M_comesBefore 48 = .ok (.getfield 19, 3) := by decide +kernel
theorem md_M_comesBefore_51 : decode mc_M_comesBefore 51 = .ok (.iload_n 1, 1) := by decide +kernel
theorem md_M_comesBefore_52 : decode mc_M_comesBefore 52 = .ok (.iaload, 1) := by decide +kernel
theorem md_M_comesBefore_53 : decode mc_M_comesBefore 53 = .ok (.aload_n 0, 1) := by decide +kernel
theorem md_M_comesBefore_54 : decode mc_M_comesBefore 54 = .ok (.getfield 19, 3) := by decide +kernel
theorem md_M_comesBefore_57 : decode mc_M_comesBefore 57 = .ok (.iload_n 2, 1) := by decide +kernel
theorem md_M_comesBefore_58 : decode mc_M_comesBefore 58 = .ok (.iaload, 1) := by decide +kernel
theorem md_M_comesBefore_59 : decode mc_M_comesBefore 59 = .ok (.if_icmp .ge 7, 3) := by decide +kernel
theorem md_M_comesBefore_62 : decode mc_M_comesBefore 62 = .ok (.iconst 1, 1) := by decide +kernel
theorem md_M_comesBefore_63 : decode mc_M_comesBefore 63 = .ok (.goto 4, 3) := by decide +kernel
theorem md_M_comesBefore_66 : decode mc_M_comesBefore 66 = .ok (.iconst 0, 1) := by decide +kernel
theorem md_M_comesBefore_67 : decode mc_M_comesBefore 67 = .ok (.ireturn, 1) := by decide +kernel
theorem md_M_comesBefore_68 : decode mc_M_comesBefore 68 = .ok (.aload_n 0, 1) := by decide +kernel
theorem md_M_comesBefore_69 : decode mc_M_comesBefore 69 = .ok (.getfield 25, 3) := by decide +kernel
theorem md_M_comesBefore_72 : decode mc_M_comesBefore 72 = .ok (.iload_n 1, 1) := by decide +kernel
theorem md_M_comesBefore_73 : decode mc_M_comesBefore 73 = .ok (.iaload, 1) := by decide +kernel
theorem md_M_comesBefore_74 : decode mc_M_comesBefore 74 = .ok (.aload_n 0, 1) := by decide +kernel
theorem md_M_comesBefore_75 : decode mc_M_comesBefore 75 = .ok (.getfield 25, 3) := by decide +kernel
theorem md_M_comesBefore_78 : decode mc_M_comesBefore 78 = .ok (.iload_n 2, 1) := by decide +kernel
theorem md_M_comesBefore_79 : decode mc_M_comesBefore 79 = .ok (.iaload, 1) := by decide +kernel
theorem md_M_comesBefore_80 : decode mc_M_comesBefore 80 = .ok (.if_icmp .ge 7, 3) := by decide +kernel
theorem md_M_comesBefore_83 : decode mc_M_comesBefore 83 = .ok (.iconst 1, 1) := by decide +kernel
theorem md_M_comesBefore_84 : decode mc_M_comesBefore 84 = .ok (.goto 4, 3) := by decide +kernel
theorem md_M_comesBefore_87 : decode mc_M_comesBefore 87 = .ok (.iconst 0, 1) := by decide +kernel
theorem md_M_comesBefore_88 : decode mc_M_comesBefore 88 = .ok (.ireturn, 1) := by decide +kernel
theorem md_M_match_0 : decode mc_M_match 0 = .ok (.iload 5, 2) := by decide +kernel
theorem md_M_match_2 : decode mc_M_match 2 = .ok (.istore 6, 2) := by decide +kernel
theorem md_M_match_4 : decode mc_M_match 4 = .ok (.aload_n 0, 1) := by decide +kernel
theorem md_M_match_5 : decode mc_M_match 5 = .ok (.iconst 1, 1) := by decide +kernel
theorem md_M_match_6 : decode mc_M_match 6 = .ok (.iload_n 3, 1) := by decide +kernel
theorem md_M_match_7 : decode mc_M_match 7 = .ok (.isub, 1) := by decide +kernel
theorem md_M_match_8 : decode mc_M_match 8 = .ok (.invokevirtual 71, 3) := by decide +kernel
theorem md_M_match_11 : decode mc_M_match 11 = .ok (.istore 7, 2) := by decide +kernel
theorem md_M_match_13 : decode mc_M_match 13 = .ok (.iload 6, 2) := by decide +kernel
theorem md_M_match_15 : decode mc_M_match 15 = .ok (.ifCond .le 132, 3) := by decide +kernel
theorem md_M_match_18 : decode mc_M_match 18 = .ok (.iload 7, 2) := by decide +kernel
theorem md_M_match_20 : decode mc_M_match 20 = .ok (.ifCond .lt 127, 3) := by decide +kernel
theorem md_M_match_23 : decode mc_M_match 23 = .ok (.aload_n 0, 1) := by decide +kernel
theorem md_M_match_24 : decode mc_M_match 24 = .ok (.iload_n 3, 1) := by decide +kernel
theorem md_M_match_25 : decode mc_M_match 25 = .ok (.iload 4, 2) := by decide +kernel
theorem md_M_match_27 : decode mc_M_match 27 = .ok (.iload 7, 2) := by decide +kernel
theorem md_M_match_29 : decode mc_M_match 29 = .ok (.invokevirtual 75, 3) := by decide +kernel
theorem md_M_match_32 : decode mc_M_match 32 = .ok (.ifCond .eq 115, 3) := by decide +kernel
theorem md_M_match_35 : decode mc_M_match 35 = .ok (.aload_n 0, 1) := by decide +kernel
theorem md_M_match_36 : decode mc_M_match 36 = .ok (.getfield 13, 3) := by decide +kernel
theorem md_M_match_39 : decode mc_M_match 39 = .ok (.iload 7, 2) := by decide +kernel
theorem md_M_match_41 : decode mc_M_match 41 = .ok (.iaload, 1) := by decide +kernel
theorem md_M_match_42 : decode mc_M_match 42 = .ok (.iload_n 2, 1) := by decide +kernel
theorem md_M_match_43 : decode mc_M_match 43 = .ok (.if_icmp .ne 22, 3) := by decide +kernel
theorem md_M_match_46 : decode mc_M_match 46 = .ok (.aload_n 0, 1) := by decide +kernel
theorem md_M_match_47 : decode mc_M_match 47 = .ok (.iload 7, 2) := by decide +kernel
theorem md_M_match_49 : decode mc_M_match 49 = .ok (.invokevirtual 79, 3) := by decide +kernel
theorem md_M_match_52 : decode mc_M_match 52 = .ok (.aload_n 0, 1) := by decide +kernel
theorem md_M_match_53 : decode mc_M_match 53 = .ok (.dup, 1) := by decide +kernel
theorem md_M_match_54 : decode mc_M_match 54 = .ok (.getfield 83, 3) := by decide +kernel
theorem md_M_match_57 : decode mc_M_match 57 = .ok (.iconst 1, 1) := by decide +kernel
theorem md_M_match_58 : decode mc_M_match 58 = .ok (.iadd, 1) := by decide +kernel
theorem md_M_match_59 : decode mc_M_match 59 = .ok (.putfield 83, 3) := by decide +kernel
theorem md_M_match_62 : decode mc_M_match 62 = .ok (.goto 73, 3) := by decide +kernel
theorem md_M_match_65 : decode mc_M_match 65 = .ok (.iload 6, 2) := by decide +kernel
theorem md_M_match_67 : decode mc_M_match 67 = .ok (.aload_n 0, 1) := by decide +kernel
theorem md_M_match_68 : decode mc_M_match 68 = .ok (.getfield 22, 3) := by decide +kernel
theorem md_M_match_71 : decode mc_M_match 71 = .ok (.iload 7, 2) := by decide +kernel
theorem md_M_match_73 : decode mc_M_match 73 = .ok (.iaload, 1) := by decide +kernel
theorem md_M_match_74 : decode mc_M_match 74 = .ok (.if_icmp .ge 8, 3) := by decide +kernel
theorem md_M_match_77 : decode mc_M_match 77 = .ok (.iload 6, 2) := by decide +kernel
theorem md_M_match_79 : decode mc_M_match 79 = .ok (.goto 10, 3) := by decide +kernel
theorem md_M_match_82 : decode mc_M_match 82 = .ok (.aload_n 0, 1) := by decide +kernel
theorem md_M_match_83 : decode mc_M_match 83 = .ok (.getfield 22, 3) := by decide +kernel
theorem md_M_match_86 : decode mc_M_match 86 = .ok (.iload 7, 2) := by decide +kernel
theorem md_M_match_88 : decode mc_M_match 88 = .ok (.iaload, 1) := by decide +kernel
theorem md_M_match_89 : decode mc_M_match 89 = .ok (.istore 8, 2) := by decide +kernel
theorem md_M_match_91 : decode mc_M_match 91 = .ok (.aload_n 0, 1) := by decide +kernel
theorem md_M_match_92 : decode mc_M_match 92 = .ok (.iload_n 1, 1) := by decide +kernel
theorem md_M_match_93 : decode mc_M_match 93 = .ok (.iload 7, 2) := by decide +kernel
theorem md_M_match_95 : decode mc_M_match 95 = .ok (.iload 8, 2) := by decide +kernel
theorem md_M_match_97 : decode mc_M_match 97 = .ok (.invokevirtual 86, 3) := by decide +kernel
theorem md_M_match_100 : decode mc_M_match 100 = .ok (.iload 6, 2) := by decide +kernel
theorem md_M_match_102 : decode mc_M_match 102 = .ok (.iload 8, 2) := by decide +kernel
theorem md_M_match_104 : decode mc_M_match 104 = .ok (.isub, 1) := by decide +kernel
theorem md_M_match_105 : decode mc_M_match 105 = .ok (.istore 6, 2) := by decide +kernel
theorem md_M_match_107 : decode mc_M_match 107 = .ok (.aload_n 0, 1) := by decide +kernel
theorem md_M_match_108 : decode mc_M_match 108 = .ok (.getfield 22, 3) := by decide +kernel
theorem md_M_match_111 : decode mc_M_match 111 = .ok (.iload 7, 2) := by decide +kernel
theorem md_M_match_113 : decode mc_M_match 113 = .ok (.dup2, 1) := by decide +kernel
theorem md_M_match_114 : decode mc_M_match 114 = .ok (.iaload, 1) := by decide +kernel
theorem md_M_match_115 : decode mc_M_match 115 = .ok (.iload 8, 2) := by decide +kernel
theorem md_M_match_117 : decode mc_M_match 117 = .ok (.isub, 1) := by decide +kernel
theorem md_M_match_118 : decode mc_M_match 118 = .ok (.iastore, 1) := by decide +kernel
theorem md_M_match_119 : decode mc_M_match 119 = .ok (.aload_n 0, 1) := by decide +kernel
theorem md_M_match_120 : decode mc_M_match 120 = .ok (.getfield 22, 3) := by decide +kernel
theorem md_M_match_123 : decode mc_M_match 123 = .ok (.iload 7, 2) := by decide +kernel
theorem md_M_match_125 : decode mc_M_match 125 = .ok (.iaload, 1) := by decide +kernel
theorem md_M_match_126 : decode mc_M_match 126 = .ok (.ifCond .ne 9, 3) := by decide +kernel
theorem md_M_match_129 : decode mc_M_match 129 = .ok (.aload_n 0, 1) := by decide +kernel
theorem md_M_match_130 : decode mc_M_match 130 = .ok (.iload 7, 2) := by decide +kernel
theorem md_M_match_132 : decode mc_M_match 132 = .ok (.invokevirtual 79, 3) := by decide +kernel
theorem md_M_match_135 : decode mc_M_match 135 = .ok (.aload_n 0, 1) := by decide +kernel
theorem md_M_match_136 : decode mc_M_match 136 = .ok (.iconst 1, 1) := by decide +kernel
theorem md_M_match_137 : decode mc_M_match 137 = .ok (.iload_n 3, 1) := by decide +kernel
theorem md_M_match_138 : decode mc_M_match 138 = .ok (.isub, 1) := by decide +kernel
theorem md_M_match_139 : decode mc_M_match 139 = .ok (.invokevirtual 71, 3) := by decide +kernel
theorem md_M_match_142 : decode mc_M_match 142 = .ok (.istore 7, 2) := by decide +kernel
theorem md_M_match_144 : decode mc_M_match 144 = .ok (.goto (-131), 3) := by decide +kernel
theorem md_M_match_147 : decode mc_M_match 147 = .ok (.iload 6, 2) := by decide +kernel
theorem md_M_match_149 : decode mc_M_match 149 = .ok (.ireturn, 1) := by decide +kernel
theorem md_M_drop_0 : decode mc_M_drop 0 = .ok (.aload_n 0, 1) := by decide +kernel
theorem md_M_drop_1 : decode mc_M_drop 1 = .ok (.dup, 1) := by decide +kernel
theorem md_M_drop_2 : decode mc_M_drop 2 = .ok (.getfield 48, 3) := by decide +kernel
theorem md_M_drop_5 : decode mc_M_drop 5 = .ok (.iconst 1, 1) := by decide +kernel
theorem md_M_drop_6 : decode mc_M_drop 6 = .ok (.isub, 1) := by decide +kernel
theorem md_M_drop_7 : decode mc_M_drop 7 = .ok (.putfield 48, 3) := by decide +kernel
theorem md_M_drop_10 : decode mc_M_drop 10 = .ok (.aload_n 0, 1) := by decide +kernel
theorem md_M_drop_11 : decode mc_M_drop 11 = .ok (.getfield 7, 3) := by decide +kernel
theorem md_M_drop_14 : decode mc_M_drop 14 = .ok (.iload_n 1, 1) := by decide +kernel
theorem md_M_drop_15 : decode mc_M_drop 15 = .ok (.aload_n 0, 1) := by decide +kernel
theorem md_M_drop_16 : decode mc_M_drop 16 = .ok (.getfield 7, 3) := by decide +kernel
theorem md_M_drop_19 : decode mc_M_drop 19 = .ok (.aload_n 0, 1) := by decide +kernel
theorem md_M_drop_20 : decode mc_M_drop 20 = .ok (.getfield 48, 3) := by decide +kernel
theorem md_M_drop_23 : decode mc_M_drop 23 = .ok (.iaload, 1) := by decide +kernel
theorem md_M_drop_24 : decode mc_M_drop 24 = .ok (.iastore, 1) := by decide +kernel
theorem md_M_drop_25 : decode mc_M_drop 25 = .ok (.aload_n 0, 1) := by decide +kernel
theorem md_M_drop_26 : decode mc_M_drop 26 = .ok (.getfield 13, 3) := by decide +kernel
theorem md_M_drop_29 : decode mc_M_drop 29 = .ok (.iload_n 1, 1) := by decide +kernel
theorem md_M_drop_30 : decode mc_M_drop 30 = .ok (.aload_n 0, 1) := by decide +kernel
theorem md_M_drop_31 : decode mc_M_drop 31 = .ok (.getfield 13, 3) := by decide +kernel
theorem md_M_drop_34 : decode mc_M_drop 34 = .ok (.aload_n 0, 1) := by decide +kernel
theorem md_M_drop_35 : decode mc_M_drop 35 = .ok (.getfield 48, 3) := by decide +kernel
theorem md_M_drop_38 : decode mc_M_drop 38 = .ok (.iaload, 1) := by decide +kernel
theorem md_M_drop_39 : decode mc_M_drop 39 = .ok (.iastore, 1) := by decide +kernel
theorem md_M_drop_40 : decode mc_M_drop 40 = .ok (.aload_n 0, 1) := by decide +kernel
theorem md_M_drop_41 : decode mc_M_drop 41 = .ok (.getfield 16, 3) := by decide +kernel
theorem md_M_drop_44 : decode mc_M_drop 44 = .ok (.iload_n 1, 1) := by decide +kernel
theorem md_M_drop_45 : decode mc_M_drop 45 = .ok (.aload_n 0, 1) := by decide +kernel
theorem md_M_drop_46 : decode mc_M_drop 46 = .ok (.getfield 16, 3) := by decide +kernel
theorem md_M_drop_49 : decode mc_M_drop 49 = .ok (.aload_n 0, 1) := by decide +kernel
theorem md_M_drop_50 : decode mc_M_drop 50 = .ok (.getfield 48, 3) := by decide +kernel
theorem md_M_drop_53 : decode mc_M_drop 53 = .ok (.iaload, 1) := by decide +kernel
theorem md_M_drop_54 : decode mc_M_drop 54 = .ok (.iastore, 1) := by decide +kernel
theorem md_M_drop_55 : decode mc_M_drop 55 = .ok (.aload_n 0, 1) := by decide +kernel
theorem md_M_drop_56 : decode mc_M_drop 56 = .ok (.getfield 19, 3) := by decide +kernel
theorem md_M_drop_59 : decode mc_M_drop 59 = .ok (.iload_n 1, 1) := by decide +kernel
theorem md_M_drop_60 : decode mc_M_drop 60 = .ok (.aload_n 0, 1) := by decide +kernel
theorem md_M_drop_61 : decode mc_M_drop 61 = .ok (.getfield 19, 3) := by decide +kernel
theorem md_M_drop_64 : decode mc_M_drop 64 = .ok (.aload_n 0, 1) := by decide +kernel
theorem md_M_drop_65 : decode mc_M_drop 65 = .ok (.getfield 48, 3) := by decide +kernel
theorem md_M_drop_68 : decode mc_M_drop 68 = .ok (.iaload, 1) := by decide +kernel
theorem md_M_drop_69 : decode mc_M_drop 69 = .ok (.iastore, 1) := by decide +kernel
theorem md_M_drop_70 : decode mc_M_drop 70 = .ok (.aload_n 0, 1) := by decide +kernel
theorem md_M_drop_71 : decode mc_M_drop 71 = .ok (.getfield 22, 3) := by decide +kernel
theorem md_M_drop_74 : decode mc_M_drop 74 = .ok (.iload_n 1, 1) := by decide +kernel
theorem md_M_drop_75 : decode mc_M_drop 75 = .ok (.aload_n 0, 1) := by decide +kernel
theorem md_M_drop_76 : decode mc_M_drop 76 = .ok (.getfield 22, 3) := by decide +kernel
theorem md_M_drop_79 : decode mc_M_drop 79 = .ok (.aload_n 0, 1) := by decide +kernel
theorem md_M_drop_80 : decode mc_M_drop 80 = .ok (.getfield 48, 3) := by decide +kernel
theorem md_M_drop_83 : decode mc_M_drop 83 = .ok (.iaload, 1) := by decide +kernel
theorem md_M_drop_84 : decode mc_M_drop 84 = .ok (.iastore, 1) := by decide +kernel
theorem md_M_drop_85 : decode mc_M_drop 85 = .ok (.aload_n 0, 1) := by decide +kernel
theorem md_M_drop_86 : decode mc_M_drop 86 = .ok (.getfield 25, 3) := by decide +kernel
theorem md_M_drop_89 : decode mc_M_drop 89 = .ok (.iload_n 1, 1) := by decide +kernel
theorem md_M_drop_90 : decode mc_M_drop 90 = .ok (.aload_n 0, 1) := by decide +kernel
theorem md_M_drop_91 : decode mc_M_drop 91 = .ok (.getfield 25, 3) := by decide +kernel
theorem md_M_drop_94 : decode mc_M_drop 94 = .ok (.aload_n 0, 1) := by decide +kernel
theorem md_M_drop_95 : decode mc_M_drop 95 = .ok (.getfield 48, 3) := by decide +kernel
theorem md_M_drop_98 : decode mc_M_drop 98 = .ok (.iaload, 1) := by decide +kernel
theorem md_M_drop_99 : decode mc_M_drop 99 = .ok (.iastore, 1) := by decide +kernel
theorem md_M_drop_100 : decode mc_M_drop 100 = .ok (.aload_n 0, 1) := by decide +kernel
theorem md_M_drop_101 : decode mc_M_drop 101 = .ok (.getfield 28, 3) := by decide +kernel
theorem md_M_drop_104 : decode mc_M_drop 104 = .ok (.iload_n 1, 1) := by decide +kernel
theorem md_M_drop_105 : decode mc_M_drop 105 = .ok (.aload_n 0, 1) := by decide +kernel
theorem md_M_drop_106 : decode mc_M_drop 106 = .ok (.getfield 28, 3) := by decide +kernel
theorem md_M_drop_109 : decode mc_M_drop 109 = .ok (.aload_n 0, 1) := by decide +kernel
theorem md_M_drop_110 : decode mc_M_drop 110 = .ok (.getfield 48, 3) := by decide +kernel
theorem md_M_drop_113 : decode mc_M_drop 113 = .ok (.baload, 1) := by decide +kernel
theorem md_M_drop_114 : decode mc_M_drop 114 = .ok (.bastore, 1) := by decide +kernel
theorem md_M_drop_115 : decode mc_M_drop 115 = .ok (.return_, 1) := by decide +kernel
theorem md_M_tell_0 : decode mc_M_tell 0 = .ok (.aload_n 0, 1) := by decide +kernel
theorem md_M_tell_1 : decode mc_M_tell 1 = .ok (.getfield 58, 3) := by decide +kernel
theorem md_M_tell_4 : decode mc_M_tell 4 = .ok (.bipush 32, 2) := by decide +kernel
theorem md_M_tell_6 : decode mc_M_tell 6 = .ok (.irem, 1) := by decide +kernel
theorem md_M_tell_7 : decode mc_M_tell 7 = .ok (.istore 4, 2) := by decide +kernel
theorem md_M_tell_9 : decode mc_M_tell 9 = .ok (.aload_n 0, 1) := by decide +kernel
theorem md_M_tell_10 : decode mc_M_tell 10 = .ok (.getfield 32, 3) := by decide +kernel
theorem md_M_tell_13 : decode mc_M_tell 13 = .ok (.iload 4, 2) := by decide +kernel
theorem md_M_tell_15 : decode mc_M_tell 15 = .ok (.iload_n 1, 1) := by decide +kernel
theorem md_M_tell_16 : decode mc_M_tell 16 = .ok (.iastore, 1) := by decide +kernel
theorem md_M_tell_17 : decode mc_M_tell 17 = .ok (.aload_n 0, 1) := by decide +kernel
theorem md_M_tell_18 : decode mc_M_tell 18 = .ok (.getfield 35, 3) := by decide +kernel
theorem md_M_tell_21 : decode mc_M_tell 21 = .ok (.iload 4, 2) := by decide +kernel
theorem md_M_tell_23 : decode mc_M_tell 23 = .ok (.aload_n 0, 1) := by decide +kernel
theorem md_M_tell_24 : decode mc_M_tell 24 = .ok (.getfield 7, 3) := by decide +kernel
theorem md_M_tell_27 : decode mc_M_tell 27 = .ok (.iload_n 2, 1) := by decide +kernel
theorem md_M_tell_28 : decode mc_M_tell 28 = .ok (.iaload, 1) := by decide +kernel
theorem md_M_tell_29 : decode mc_M_tell 29 = .ok (.iastore, 1) := by decide +kernel
theorem md_M_tell_30 : decode mc_M_tell 30 = .ok (.aload_n 0, 1) := by decide +kernel
theorem md_M_tell_31 : decode mc_M_tell 31 = .ok (.getfield 38, 3) := by decide +kernel
theorem md_M_tell_34 : decode mc_M_tell 34 = .ok (.iload 4, 2) := by decide +kernel
theorem md_M_tell_36 : decode mc_M_tell 36 = .ok (.aload_n 0, 1) := by decide +kernel
theorem md_M_tell_37 : decode mc_M_tell 37 = .ok (.getfield 19, 3) := by decide +kernel
theorem md_M_tell_40 : decode mc_M_tell 40 = .ok (.iload_n 2, 1) := by decide +kernel
theorem md_M_tell_41 : decode mc_M_tell 41 = .ok (.iaload, 1) := by decide +kernel
theorem md_M_tell_42 : decode mc_M_tell 42 = .ok (.iastore, 1) := by decide +kernel
theorem md_M_tell_43 : decode mc_M_tell 43 = .ok (.aload_n 0, 1) := by decide +kernel
theorem md_M_tell_44 : decode mc_M_tell 44 = .ok (.getfield 41, 3) := by decide +kernel
theorem md_M_tell_47 : decode mc_M_tell 47 = .ok (.iload 4, 2) := by decide +kernel
theorem md_M_tell_49 : decode mc_M_tell 49 = .ok (.iload_n 3, 1) := by decide +kernel
theorem md_M_tell_50 : decode mc_M_tell 50 = .ok (.iastore, 1) := by decide +kernel
theorem md_M_tell_51 : decode mc_M_tell 51 = .ok (.aload_n 0, 1) := by decide +kernel
theorem md_M_tell_52 : decode mc_M_tell 52 = .ok (.dup, 1) := by decide +kernel
theorem md_M_tell_53 : decode mc_M_tell 53 = .ok (.getfield 58, 3) := by decide +kernel
theorem md_M_tell_56 : decode mc_M_tell 56 = .ok (.iconst 1, 1) := by decide +kernel
theorem md_M_tell_57 : decode mc_M_tell 57 = .ok (.iadd, 1) := by decide +kernel
theorem md_M_tell_58 : decode mc_M_tell 58 = .ok (.putfield 58, 3) := by decide +kernel
theorem md_M_tell_61 : decode mc_M_tell 61 = .ok (.aload_n 0, 1) := by decide +kernel
theorem md_M_tell_62 : decode mc_M_tell 62 = .ok (.aload_n 0, 1) := by decide +kernel
theorem md_M_tell_63 : decode mc_M_tell 63 = .ok (.getfield 19, 3) := by decide +kernel
theorem md_M_tell_66 : decode mc_M_tell 66 = .ok (.iload_n 2, 1) := by decide +kernel
theorem md_M_tell_67 : decode mc_M_tell 67 = .ok (.iaload, 1) := by decide +kernel
theorem md_M_tell_68 : decode mc_M_tell 68 = .ok (.putfield 61, 3) := by decide +kernel
theorem md_M_tell_71 : decode mc_M_tell 71 = .ok (.aload_n 0, 1) := by decide +kernel
theorem md_M_tell_72 : decode mc_M_tell 72 = .ok (.dup, 1) := by decide +kernel
theorem md_M_tell_73 : decode mc_M_tell 73 = .ok (.getfield 64, 3) := by decide +kernel
theorem md_M_tell_76 : decode mc_M_tell 76 = .ok (.aload_n 0, 1) := by decide +kernel
theorem md_M_tell_77 : decode mc_M_tell 77 = .ok (.getfield 19, 3) := by decide +kernel
theorem md_M_tell_80 : decode mc_M_tell 80 = .ok (.iload_n 2, 1) := by decide +kernel
theorem md_M_tell_81 : decode mc_M_tell 81 = .ok (.iaload, 1) := by decide +kernel
theorem md_M_tell_82 : decode mc_M_tell 82 = .ok (.i2l, 1) := by decide +kernel
theorem md_M_tell_83 : decode mc_M_tell 83 = .ok (.iload_n 3, 1) := by decide +kernel
theorem md_M_tell_84 : decode mc_M_tell 84 = .ok (.i2l, 1) := by decide +kernel
theorem md_M_tell_85 : decode mc_M_tell 85 = .ok (.lmul, 1) := by decide +kernel
theorem md_M_tell_86 : decode mc_M_tell 86 = .ok (.ladd, 1) := by decide +kernel
theorem md_M_tell_87 : decode mc_M_tell 87 = .ok (.putfield 64, 3) := by decide +kernel
theorem md_M_tell_90 : decode mc_M_tell 90 = .ok (.aload_n 0, 1) := by decide +kernel
theorem md_M_tell_91 : decode mc_M_tell 91 = .ok (.dup, 1) := by decide +kernel
theorem md_M_tell_92 : decode mc_M_tell 92 = .ok (.getfield 68, 3) := by decide +kernel
theorem md_M_tell_95 : decode mc_M_tell 95 = .ok (.iload_n 3, 1) := by decide +kernel
theorem md_M_tell_96 : decode mc_M_tell 96 = .ok (.iadd, 1) := by decide +kernel
theorem md_M_tell_97 : decode mc_M_tell 97 = .ok (.putfield 68, 3) := by decide +kernel
theorem md_M_tell_100 : decode mc_M_tell 100 = .ok (.return_, 1) := by decide +kernel
theorem md_M_keep_0 : decode mc_M_keep 0 = .ok (.aload_n 0, 1) := by decide +kernel
theorem md_M_keep_1 : decode mc_M_keep 1 = .ok (.getfield 7, 3) := by decide +kernel
theorem md_M_keep_4 : decode mc_M_keep 4 = .ok (.aload_n 0, 1) := by decide +kernel
theorem md_M_keep_5 : decode mc_M_keep 5 = .ok (.getfield 48, 3) := by decide +kernel
theorem md_M_keep_8 : decode mc_M_keep 8 = .ok (.iload_n 1, 1) := by decide +kernel
theorem md_M_keep_9 : decode mc_M_keep 9 = .ok (.iastore, 1) := by decide +kernel
theorem md_M_keep_10 : decode mc_M_keep 10 = .ok (.aload_n 0, 1) := by decide +kernel
theorem md_M_keep_11 : decode mc_M_keep 11 = .ok (.getfield 13, 3) := by decide +kernel
theorem md_M_keep_14 : decode mc_M_keep 14 = .ok (.aload_n 0, 1) := by decide +kernel
theorem md_M_keep_15 : decode mc_M_keep 15 = .ok (.getfield 48, 3) := by decide +kernel
theorem md_M_keep_18 : decode mc_M_keep 18 = .ok (.iload_n 2, 1) := by decide +kernel
theorem md_M_keep_19 : decode mc_M_keep 19 = .ok (.iastore, 1) := by decide +kernel
theorem md_M_keep_20 : decode mc_M_keep 20 = .ok (.aload_n 0, 1) := by decide +kernel
theorem md_M_keep_21 : decode mc_M_keep 21 = .ok (.getfield 16, 3) := by decide +kernel
theorem md_M_keep_24 : decode mc_M_keep 24 = .ok (.aload_n 0, 1) := by decide +kernel
theorem md_M_keep_25 : decode mc_M_keep 25 = .ok (.getfield 48, 3) := by decide +kernel
theorem md_M_keep_28 : decode mc_M_keep 28 = .ok (.iload_n 3, 1) := by decide +kernel
theorem md_M_keep_29 : decode mc_M_keep 29 = .ok (.iastore, 1) := by decide +kernel
theorem md_M_keep_30 : decode mc_M_keep 30 = .ok (.aload_n 0, 1) := by decide +kernel
theorem md_M_keep_31 : decode mc_M_keep 31 = .ok (.getfield 19, 3) := by decide +kernel
theorem md_M_keep_34 : decode mc_M_keep 34 = .ok (.aload_n 0, 1) := by decide +kernel
theorem md_M_keep_35 : decode mc_M_keep 35 = .ok (.getfield 48, 3) := by decide +kernel
theorem md_M_keep_38 : decode mc_M_keep 38 = .ok (.iload 4, 2) := by decide +kernel
theorem md_M_keep_40 : decode mc_M_keep 40 = .ok (.iastore, 1) := by decide +kernel
theorem md_M_keep_41 : decode mc_M_keep 41 = .ok (.aload_n 0, 1) := by decide +kernel
theorem md_M_keep_42 : decode mc_M_keep 42 = .ok (.getfield 22, 3) := by decide +kernel
theorem md_M_keep_45 : decode mc_M_keep 45 = .ok (.aload_n 0, 1) := by decide +kernel
theorem md_M_keep_46 : decode mc_M_keep 46 = .ok (.getfield 48, 3) := by decide +kernel
theorem md_M_keep_49 : decode mc_M_keep 49 = .ok (.iload 5, 2) := by decide +kernel
theorem md_M_keep_51 : decode mc_M_keep 51 = .ok (.iastore, 1) := by decide +kernel
theorem md_M_keep_52 : decode mc_M_keep 52 = .ok (.aload_n 0, 1) := by decide +kernel
theorem md_M_keep_53 : decode mc_M_keep 53 = .ok (.dup, 1) := by decide +kernel
theorem md_M_keep_54 : decode mc_M_keep 54 = .ok (.getfield 51, 3) := by decide +kernel
theorem md_M_keep_57 : decode mc_M_keep 57 = .ok (.iconst 1, 1) := by decide +kernel
theorem md_M_keep_58 : decode mc_M_keep 58 = .ok (.iadd, 1) := by decide +kernel
theorem md_M_keep_59 : decode mc_M_keep 59 = .ok (.putfield 51, 3) := by decide +kernel
theorem md_M_keep_62 : decode mc_M_keep 62 = .ok (.aload_n 0, 1) := by decide +kernel
theorem md_M_keep_63 : decode mc_M_keep 63 = .ok (.getfield 25, 3) := by decide +kernel
theorem md_M_keep_66 : decode mc_M_keep 66 = .ok (.aload_n 0, 1) := by decide +kernel
theorem md_M_keep_67 : decode mc_M_keep 67 = .ok (.getfield 48, 3) := by decide +kernel
theorem md_M_keep_70 : decode mc_M_keep 70 = .ok (.aload_n 0, 1) := by decide +kernel
theorem md_M_keep_71 : decode mc_M_keep 71 = .ok (.getfield 51, 3) := by decide +kernel
theorem md_M_keep_74 : decode mc_M_keep 74 = .ok (.iastore, 1) := by decide +kernel
theorem md_M_keep_75 : decode mc_M_keep 75 = .ok (.aload_n 0, 1) := by decide +kernel
theorem md_M_keep_76 : decode mc_M_keep 76 = .ok (.getfield 28, 3) := by decide +kernel
theorem md_M_keep_79 : decode mc_M_keep 79 = .ok (.aload_n 0, 1) := by decide +kernel
theorem md_M_keep_80 : decode mc_M_keep 80 = .ok (.getfield 48, 3) := by decide +kernel
theorem md_M_keep_83 : decode mc_M_keep 83 = .ok (.iconst 0, 1) := by decide +kernel
theorem md_M_keep_84 : decode mc_M_keep 84 = .ok (.bastore, 1) := by decide +kernel
theorem md_M_keep_85 : decode mc_M_keep 85 = .ok (.aload_n 0, 1) := by decide +kernel
theorem md_M_keep_86 : decode mc_M_keep 86 = .ok (.dup, 1) := by decide +kernel
theorem md_M_keep_87 : decode mc_M_keep 87 = .ok (.getfield 48, 3) := by decide +kernel
theorem md_M_keep_90 : decode mc_M_keep 90 = .ok (.iconst 1, 1) := by decide +kernel
theorem md_M_keep_91 : decode mc_M_keep 91 = .ok (.iadd, 1) := by decide +kernel
theorem md_M_keep_92 : decode mc_M_keep 92 = .ok (.putfield 48, 3) := by decide +kernel
theorem md_M_keep_95 : decode mc_M_keep 95 = .ok (.return_, 1) := by decide +kernel
theorem md_M_runStops_0 : decode mc_M_runStops 0 = .ok (.aload_n 0, 1) := by decide +kernel
theorem md_M_runStops_1 : decode mc_M_runStops 1 = .ok (.invokevirtual 94, 3) := by decide +kernel
theorem md_M_runStops_4 : decode mc_M_runStops 4 = .ok (.istore_n 1, 1) := by decide +kernel
theorem md_M_runStops_5 : decode mc_M_runStops 5 = .ok (.iload_n 1, 1) := by decide +kernel
theorem md_M_runStops_6 : decode mc_M_runStops 6 = .ok (.ifCond .lt 68, 3) := by decide +kernel
theorem md_M_runStops_9 : decode mc_M_runStops 9 = .ok (.aload_n 0, 1) := by decide +kernel
theorem md_M_runStops_10 : decode mc_M_runStops 10 = .ok (.getfield 7, 3) := by decide +kernel
theorem md_M_runStops_13 : decode mc_M_runStops 13 = .ok (.iload_n 1, 1) := by decide +kernel
theorem md_M_runStops_14 : decode mc_M_runStops 14 = .ok (.iaload, 1) := by decide +kernel
theorem md_M_runStops_15 : decode mc_M_runStops 15 = .ok (.istore_n 2, 1) := by decide +kernel
theorem md_M_runStops_16 : decode mc_M_runStops 16 = .ok (.aload_n 0, 1) := by decide +kernel
theorem md_M_runStops_17 : decode mc_M_runStops 17 = .ok (.getfield 13, 3) := by decide +kernel
theorem md_M_runStops_20 : decode mc_M_runStops 20 = .ok (.iload_n 1, 1) := by decide +kernel
theorem md_M_runStops_21 : decode mc_M_runStops 21 = .ok (.iaload, 1) := by decide +kernel
theorem md_M_runStops_22 : decode mc_M_runStops 22 = .ok (.istore_n 3, 1) := by decide +kernel
theorem md_M_runStops_23 : decode mc_M_runStops 23 = .ok (.aload_n 0, 1) := by decide +kernel
theorem md_M_runStops_24 : decode mc_M_runStops 24 = .ok (.getfield 16, 3) := by decide +kernel
theorem md_M_runStops_27 : decode mc_M_runStops 27 = .ok (.iload_n 1, 1) := by decide +kernel
theorem md_M_runStops_28 : decode mc_M_runStops 28 = .ok (.iaload, 1) := by decide +kernel
theorem md_M_runStops_29 : decode mc_M_runStops 29 = .ok (.istore 4, 2) := by decide +kernel
theorem md_M_runStops_31 : decode mc_M_runStops 31 = .ok (.aload_n 0, 1) := by decide +kernel
theorem md_M_runStops_32 : decode mc_M_runStops 32 = .ok (.getfield 22, 3) := by decide +kernel
theorem md_M_runStops_35 : decode mc_M_runStops 35 = .ok (.iload_n 1, 1) := by decide +kernel
theorem md_M_runStops_36 : decode mc_M_runStops 36 = .ok (.iaload, 1) := by decide +kernel
theorem md_M_runStops_37 : decode mc_M_runStops 37 = .ok (.istore 5, 2) := by decide +kernel
theorem md_M_runStops_39 : decode mc_M_runStops 39 = .ok (.aload_n 0, 1) := by decide +kernel
theorem md_M_runStops_40 : decode mc_M_runStops 40 = .ok (.iload_n 1, 1) := by decide +kernel
theorem md_M_runStops_41 : decode mc_M_runStops 41 = .ok (.invokevirtual 79, 3) := by decide +kernel
theorem md_M_runStops_44 : decode mc_M_runStops 44 = .ok (.aload_n 0, 1) := by decide +kernel
theorem md_M_runStops_45 : decode mc_M_runStops 45 = .ok (.dup, 1) := by decide +kernel
theorem md_M_runStops_46 : decode mc_M_runStops 46 = .ok (.getfield 98, 3) := by decide +kernel
theorem md_M_runStops_49 : decode mc_M_runStops 49 = .ok (.iconst 1, 1) := by decide +kernel
theorem md_M_runStops_50 : decode mc_M_runStops 50 = .ok (.iadd, 1) := by decide +kernel
theorem md_M_runStops_51 : decode mc_M_runStops 51 = .ok (.putfield 98, 3) := by decide +kernel
theorem md_M_runStops_54 : decode mc_M_runStops 54 = .ok (.aload_n 0, 1) := by decide +kernel
theorem md_M_runStops_55 : decode mc_M_runStops 55 = .ok (.iload_n 2, 1) := by decide +kernel
theorem md_M_runStops_56 : decode mc_M_runStops 56 = .ok (.iload_n 3, 1) := by decide +kernel
theorem md_M_runStops_57 : decode mc_M_runStops 57 = .ok (.iload 4, 2) := by decide +kernel
theorem md_M_runStops_59 : decode mc_M_runStops 59 = .ok (.iconst 0, 1) := by decide +kernel
theorem md_M_runStops_60 : decode mc_M_runStops 60 = .ok (.iload 5, 2) := by decide +kernel
theorem md_M_runStops_62 : decode mc_M_runStops 62 = .ok (.invokevirtual 101, 3) := by decide +kernel
theorem md_M_runStops_65 : decode mc_M_runStops 65 = .ok (.pop, 1) := by decide +kernel
theorem md_M_runStops_66 : decode mc_M_runStops 66 = .ok (.aload_n 0, 1) := by decide +kernel
theorem md_M_runStops_67 : decode mc_M_runStops 67 = .ok (.invokevirtual 94, 3) := by decide +kernel
theorem md_M_runStops_70 : decode mc_M_runStops 70 = .ok (.istore_n 1, 1) := by decide +kernel
theorem md_M_runStops_71 : decode mc_M_runStops 71 = .ok (.goto (-66), 3) := by decide +kernel
theorem md_M_runStops_74 : decode mc_M_runStops 74 = .ok (.return_, 1) := by decide +kernel
theorem md_M_earliestDue_0 : decode mc_M_earliestDue 0 = .ok (.iconst (-1), 1) := by decide +kernel
theorem md_M_earliestDue_1 : decode mc_M_earliestDue 1 = .ok (.istore_n 1, 1) := by decide +kernel
theorem md_M_earliestDue_2 : decode mc_M_earliestDue 2 = .ok (.iconst 0, 1) := by decide +kernel
theorem md_M_earliestDue_3 : decode mc_M_earliestDue 3 = .ok (.istore_n 2, 1) := by decide +kernel
theorem md_M_earliestDue_4 : decode mc_M_earliestDue 4 = .ok (.iload_n 2, 1) := by decide +kernel
theorem md_M_earliestDue_5 : decode mc_M_earliestDue 5 = .ok (.aload_n 0, 1) := by decide +kernel
theorem md_M_earliestDue_6 : decode mc_M_earliestDue 6 = .ok (.getfield 48, 3) := by decide +kernel
theorem md_M_earliestDue_9 : decode mc_M_earliestDue 9 = .ok (.if_icmp .ge 42, 3) := by decide +kernel
theorem md_M_earliestDue_12 : decode mc_M_earliestDue 12 = .ok (.aload_n 0, 1) := by decide +kernel
theorem md_M_earliestDue_13 : decode mc_M_earliestDue 13 = .ok (.iload_n 2, 1) := by decide +kernel
theorem md_M_earliestDue_14 : decode mc_M_earliestDue 14 = .ok (.invokevirtual 90, 3) := by decide +kernel
theorem md_M_earliestDue_17 : decode mc_M_earliestDue 17 = .ok (.ifCond .eq 26, 3) := by decide +kernel
theorem md_M_earliestDue_20 : decode mc_M_earliestDue 20 = .ok (.iload_n 1, 1) := by decide +kernel
theorem md_M_earliestDue_21 : decode mc_M_earliestDue 21 = .ok (.ifCond .lt 18, 3) := by decide +kernel
theorem md_M_earliestDue_24 : decode mc_M_earliestDue 24 = .ok (.aload_n 0, 1) := by decide +kernel
theorem md_M_earliestDue_25 : decode mc_M_earliestDue 25 = .ok (.getfield 25, 3) := by decide +kernel
theorem md_M_earliestDue_28 : decode mc_M_earliestDue 28 = .ok (.iload_n 2, 1) := by decide +kernel
theorem md_M_earliestDue_29 : decode mc_M_earliestDue 29 = .ok (.iaload, 1) := by decide +kernel
theorem md_M_earliestDue_30 : decode mc_M_earliestDue 30 = .ok (.aload_n 0, 1) := by decide +kernel
theorem md_M_earliestDue_31 : decode mc_M_earliestDue 31 = .ok (.getfield 25, 3) := by decide +kernel
theorem md_M_earliestDue_34 : decode mc_M_earliestDue 34 = .ok (.iload_n 1, 1) := by decide +kernel
theorem md_M_earliestDue_35 : decode mc_M_earliestDue 35 = .ok (.iaload, 1) := by decide +kernel
theorem md_M_earliestDue_36 : decode mc_M_earliestDue 36 = .ok (.if_icmp .ge 7, 3) := by decide +kernel
theorem md_M_earliestDue_39 : decode mc_M_earliestDue 39 = .ok (.iload_n 2, 1) := by decide +kernel
theorem md_M_earliestDue_40 : decode mc_M_earliestDue 40 = .ok (.goto 4, 3) := by decide +kernel
theorem md_M_earliestDue_43 : decode mc_M_earliestDue 43 = .ok (.iload_n 1, 1) := by decide +kernel
theorem md_M_earliestDue_44 : decode mc_M_earliestDue 44 = .ok (.istore_n 1, 1) := by decide +kernel
theorem md_M_earliestDue_45 : decode mc_M_earliestDue 45 = .ok (.iinc 2 1, 3) := by decide +kernel
theorem md_M_earliestDue_48 : decode mc_M_earliestDue 48 = .ok (.goto (-44), 3) := by decide +kernel
theorem md_M_earliestDue_51 : decode mc_M_earliestDue 51 = .ok (.iload_n 1, 1) := by decide +kernel
theorem md_M_earliestDue_52 : decode mc_M_earliestDue 52 = .ok (.ireturn, 1) := by decide +kernel
theorem md_M_isDue_0 : decode mc_M_isDue 0 = .ok (.aload_n 0, 1) := by decide +kernel
theorem md_M_isDue_1 : decode mc_M_isDue 1 = .ok (.getfield 28, 3) := by decide +kernel
theorem md_M_isDue_4 : decode mc_M_isDue 4 = .ok (.iload_n 1, 1) := by decide +kernel
theorem md_M_isDue_5 : decode mc_M_isDue 5 = .ok (.baload, 1) := by decide +kernel
theorem md_M_isDue_6 : decode mc_M_isDue 6 = .ok (.ifCond .eq 52, 3) := by decide +kernel
theorem md_M_isDue_9 : decode mc_M_isDue 9 = .ok (.aload_n 0, 1) := by decide +kernel
theorem md_M_isDue_10 : decode mc_M_isDue 10 = .ok (.getfield 61, 3) := by decide +kernel
theorem md_M_isDue_13 : decode mc_M_isDue 13 = .ok (.ifCond .le 45, 3) := by decide +kernel
theorem md_M_isDue_16 : decode mc_M_isDue 16 = .ok (.aload_n 0, 1) := by decide +kernel
theorem md_M_isDue_17 : decode mc_M_isDue 17 = .ok (.getfield 16, 3) := by decide +kernel
theorem md_M_isDue_20 : decode mc_M_isDue 20 = .ok (.iload_n 1, 1) := by decide +kernel
theorem md_M_isDue_21 : decode mc_M_isDue 21 = .ok (.iaload, 1) := by decide +kernel
theorem md_M_isDue_22 : decode mc_M_isDue 22 = .ok (.ifCond .ne 19, 3) := by decide +kernel
theorem md_M_isDue_25 : decode mc_M_isDue 25 = .ok (.aload_n 0, 1) := by decide +kernel
theorem md_M_isDue_26 : decode mc_M_isDue 26 = .ok (.getfield 61, 3) := by decide +kernel
theorem md_M_isDue_29 : decode mc_M_isDue 29 = .ok (.aload_n 0, 1) := by decide +kernel
theorem md_M_isDue_30 : decode mc_M_isDue 30 = .ok (.getfield 19, 3) := by decide +kernel
theorem md_M_isDue_33 : decode mc_M_isDue 33 = .ok (.iload_n 1, 1) := by decide +kernel
theorem md_M_isDue_34 : decode mc_M_isDue 34 = .ok (.iaload, 1) := by decide +kernel
theorem md_M_isDue_35 : decode mc_M_isDue 35 = .ok (.if_icmp .lt 23, 3) := by decide +kernel
theorem md_M_isDue_38 : decode mc_M_isDue 38 = .ok (.goto 16, 3) := by decide +kernel
theorem md_M_isDue_41 : decode mc_M_isDue 41 = .ok (.aload_n 0, 1) := by decide +kernel
theorem md_M_isDue_42 : decode mc_M_isDue 42 = .ok (.getfield 61, 3) := by decide +kernel
theorem md_M_isDue_45 : decode mc_M_isDue 45 = .ok (.aload_n 0, 1) := by decide +kernel
theorem md_M_isDue_46 : decode mc_M_isDue 46 = .ok (.getfield 19, 3) := by decide +kernel
theorem md_M_isDue_49 : decode mc_M_isDue 49 = .ok (.iload_n 1, 1) := by decide +kernel
theorem md_M_isDue_50 : decode mc_M_isDue 50 = .ok (.iaload, 1) := by decide +kernel
theorem md_M_isDue_51 : decode mc_M_isDue 51 = .ok (.if_icmp .gt 7, 3) := by decide +kernel
theorem md_M_isDue_54 : decode mc_M_isDue 54 = .ok (.iconst 1, 1) := by decide +kernel
theorem md_M_isDue_55 : decode mc_M_isDue 55 = .ok (.goto 4, 3) := by decide +kernel
theorem md_M_isDue_58 : decode mc_M_isDue 58 = .ok (.iconst 0, 1) := by decide +kernel
theorem md_M_isDue_59 : decode mc_M_isDue 59 = .ok (.ireturn, 1) := by decide +kernel
theorem md_M_cancel_0 : decode mc_M_cancel 0 = .ok (.aload_n 0, 1) := by decide +kernel
theorem md_M_cancel_1 : decode mc_M_cancel 1 = .ok (.iload_n 1, 1) := by decide +kernel
theorem md_M_cancel_2 : decode mc_M_cancel 2 = .ok (.invokevirtual 113, 3) := by decide +kernel
theorem md_M_cancel_5 : decode mc_M_cancel 5 = .ok (.istore_n 2, 1) := by decide +kernel
theorem md_M_cancel_6 : decode mc_M_cancel 6 = .ok (.aload_n 0, 1) := by decide +kernel
theorem md_M_cancel_7 : decode mc_M_cancel 7 = .ok (.iload_n 2, 1) := by decide +kernel
theorem md_M_cancel_8 : decode mc_M_cancel 8 = .ok (.ifCond .ge 7, 3) := by decide +kernel
theorem md_M_cancel_11 : decode mc_M_cancel 11 = .ok (.iconst 1, 1) := by decide +kernel
theorem md_M_cancel_12 : decode mc_M_cancel 12 = .ok (.goto 4, 3) := by decide +kernel
theorem md_M_cancel_15 : decode mc_M_cancel 15 = .ok (.iconst 0, 1) := by decide +kernel
theorem md_M_cancel_16 : decode mc_M_cancel 16 = .ok (.putfield 44, 3) := by decide +kernel
theorem md_M_cancel_19 : decode mc_M_cancel 19 = .ok (.iload_n 2, 1) := by decide +kernel
theorem md_M_cancel_20 : decode mc_M_cancel 20 = .ok (.ifCond .ge 5, 3) := by decide +kernel
theorem md_M_cancel_23 : decode mc_M_cancel 23 = .ok (.iconst 0, 1) := by decide +kernel
theorem md_M_cancel_24 : decode mc_M_cancel 24 = .ok (.ireturn, 1) := by decide +kernel
theorem md_M_cancel_25 : decode mc_M_cancel 25 = .ok (.aload_n 0, 1) := by decide +kernel
theorem md_M_cancel_26 : decode mc_M_cancel 26 = .ok (.getfield 22, 3) := by decide +kernel
theorem md_M_cancel_29 : decode mc_M_cancel 29 = .ok (.iload_n 2, 1) := by decide +kernel
theorem md_M_cancel_30 : decode mc_M_cancel 30 = .ok (.iaload, 1) := by decide +kernel
theorem md_M_cancel_31 : decode mc_M_cancel 31 = .ok (.istore_n 3, 1) := by decide +kernel
theorem md_M_cancel_32 : decode mc_M_cancel 32 = .ok (.aload_n 0, 1) := by decide +kernel
theorem md_M_cancel_33 : decode mc_M_cancel 33 = .ok (.iload_n 2, 1) := by decide +kernel
theorem md_M_cancel_34 : decode mc_M_cancel 34 = .ok (.invokevirtual 79, 3) := by decide +kernel
theorem md_M_cancel_37 : decode mc_M_cancel 37 = .ok (.iload_n 3, 1) := by decide +kernel
theorem md_M_cancel_38 : decode mc_M_cancel 38 = .ok (.ireturn, 1) := by decide +kernel
theorem md_M_amend_0 : decode mc_M_amend 0 = .ok (.iload_n 2, 1) := by decide +kernel
theorem md_M_amend_1 : decode mc_M_amend 1 = .ok (.iconst 1, 1) := by decide +kernel
theorem md_M_amend_2 : decode mc_M_amend 2 = .ok (.sipush 10000, 3) := by decide +kernel
theorem md_M_amend_5 : decode mc_M_amend 5 = .ok (.invokestatic 109, 3) := by decide +kernel
theorem md_M_amend_8 : decode mc_M_amend 8 = .ok (.ifCond .eq 17, 3) := by decide +kernel
theorem md_M_amend_11 : decode mc_M_amend 11 = .ok (.iload_n 3, 1) := by decide +kernel
theorem md_M_amend_12 : decode mc_M_amend 12 = .ok (.iconst 1, 1) := by decide +kernel
theorem md_M_amend_13 : decode mc_M_amend 13 = .ok (.ldc 112, 2) := by decide +kernel
theorem md_M_amend_15 : decode mc_M_amend 15 = .ok (.invokestatic 109, 3) := by decide +kernel
theorem md_M_amend_18 : decode mc_M_amend 18 = .ok (.ifCond .eq 7, 3) := by decide +kernel
theorem md_M_amend_21 : decode mc_M_amend 21 = .ok (.iconst 1, 1) := by decide +kernel
theorem md_M_amend_22 : decode mc_M_amend 22 = .ok (.goto 4, 3) := by decide +kernel
theorem md_M_amend_25 : decode mc_M_amend 25 = .ok (.iconst 0, 1) := by decide +kernel
theorem md_M_amend_26 : decode mc_M_amend 26 = .ok (.istore 4, 2) := by decide +kernel
theorem md_M_amend_28 : decode mc_M_amend 28 = .ok (.iload 4, 2) := by decide +kernel
theorem md_M_amend_30 : decode mc_M_amend 30 = .ok (.ifCond .eq 11, 3) := by decide +kernel
theorem md_M_amend_33 : decode mc_M_amend 33 = .ok (.aload_n 0, 1) := by decide +kernel
theorem md_M_amend_34 : decode mc_M_amend 34 = .ok (.iload_n 1, 1) := by decide +kernel
theorem md_M_amend_35 : decode mc_M_amend 35 = .ok (.invokevirtual 113, 3) := by decide +kernel
theorem md_M_amend_38 : decode mc_M_amend 38 = .ok (.goto 4, 3) := by decide +kernel
theorem md_M_amend_41 : decode mc_M_amend 41 = .ok (.iconst (-1), 1) := by decide +kernel
theorem md_M_amend_42 : decode mc_M_amend 42 = .ok (.istore 5, 2) := by decide +kernel
theorem md_M_amend_44 : decode mc_M_amend 44 = .ok (.aload_n 0, 1) := by decide +kernel
theorem md_M_amend_45 : decode mc_M_amend 45 = .ok (.iload 4, 2) := by decide +kernel
theorem md_M_amend_47 : decode mc_M_amend 47 = .ok (.ifCond .ne 7, 3) := by decide +kernel
theorem md_M_amend_50 : decode mc_M_amend 50 = .ok (.iconst 1, 1) := by decide +kernel
theorem md_M_amend_51 : decode mc_M_amend 51 = .ok (.goto 13, 3) := by decide +kernel
theorem md_M_amend_54 : decode mc_M_amend 54 = .ok (.iload 5, 2) := by decide +kernel
theorem md_M_amend_56 : decode mc_M_amend 56 = .ok (.ifCond .ge 7, 3) := by decide +kernel
theorem md_M_amend_59 : decode mc_M_amend 59 = .ok (.iconst 2, 1) := by decide +kernel
theorem md_M_amend_60 : decode mc_M_amend 60 = .ok (.goto 4, 3) := by decide +kernel
theorem md_M_amend_63 : decode mc_M_amend 63 = .ok (.iconst 0, 1) := by decide +kernel
theorem md_M_amend_64 : decode mc_M_amend 64 = .ok (.putfield 44, 3) := by decide +kernel
theorem md_M_amend_67 : decode mc_M_amend 67 = .ok (.aload_n 0, 1) := by decide +kernel
theorem md_M_amend_68 : decode mc_M_amend 68 = .ok (.getfield 44, 3) := by decide +kernel
theorem md_M_amend_71 : decode mc_M_amend 71 = .ok (.ifCond .le 5, 3) := by decide +kernel
theorem md_M_amend_74 : decode mc_M_amend 74 = .ok (.iconst 0, 1) := by decide +kernel
theorem md_M_amend_75 : decode mc_M_amend 75 = .ok (.ireturn, 1) := by decide +kernel
theorem md_M_amend_76 : decode mc_M_amend 76 = .ok (.aload_n 0, 1) := by decide +kernel
theorem md_M_amend_77 : decode mc_M_amend 77 = .ok (.getfield 28, 3) := by decide +kernel
theorem md_M_amend_80 : decode mc_M_amend 80 = .ok (.iload 5, 2) := by decide +kernel
theorem md_M_amend_82 : decode mc_M_amend 82 = .ok (.baload, 1) := by decide +kernel
theorem md_M_amend_83 : decode mc_M_amend 83 = .ok (.ifCond .ne 35, 3) := by decide +kernel
theorem md_M_amend_86 : decode mc_M_amend 86 = .ok (.aload_n 0, 1) := by decide +kernel
theorem md_M_amend_87 : decode mc_M_amend 87 = .ok (.getfield 19, 3) := by decide +kernel
theorem md_M_amend_90 : decode mc_M_amend 90 = .ok (.iload 5, 2) := by decide +kernel
theorem md_M_amend_92 : decode mc_M_amend 92 = .ok (.iaload, 1) := by decide +kernel
theorem md_M_amend_93 : decode mc_M_amend 93 = .ok (.iload_n 2, 1) := by decide +kernel
theorem md_M_amend_94 : decode mc_M_amend 94 = .ok (.if_icmp .ne 24, 3) := by decide +kernel
theorem md_M_amend_97 : decode mc_M_amend 97 = .ok (.iload_n 3, 1) := by decide +kernel
theorem md_M_amend_98 : decode mc_M_amend 98 = .ok (.aload_n 0, 1) := by decide +kernel
theorem md_M_amend_99 : decode mc_M_amend 99 = .ok (.getfield 22, 3) := by decide +kernel
theorem md_M_amend_102 : decode mc_M_amend 102 = .ok (.iload 5, 2) := by decide +kernel
theorem md_M_amend_104 : decode mc_M_amend 104 = .ok (.iaload, 1) := by decide +kernel
theorem md_M_amend_105 : decode mc_M_amend 105 = .ok (.if_icmp .gt 13, 3) := by decide +kernel
theorem md_M_amend_108 : decode mc_M_amend 108 = .ok (.aload_n 0, 1) := by decide +kernel
theorem md_M_amend_109 : decode mc_M_amend 109 = .ok (.getfield 22, 3) := by decide +kernel
theorem md_M_amend_112 : decode mc_M_amend 112 = .ok (.iload 5, 2) := by decide +kernel
theorem md_M_amend_114 : decode mc_M_amend 114 = .ok (.iload_n 3, 1) := by decide +kernel
theorem md_M_amend_115 : decode mc_M_amend 115 = .ok (.iastore, 1) := by decide +kernel
theorem md_M_amend_116 : decode mc_M_amend 116 = .ok (.iconst 0, 1) := by decide +kernel
theorem md_M_amend_117 : decode mc_M_amend 117 = .ok (.ireturn, 1) := by decide +kernel
theorem md_M_amend_118 : decode mc_M_amend 118 = .ok (.aload_n 0, 1) := by decide +kernel
theorem md_M_amend_119 : decode mc_M_amend 119 = .ok (.getfield 13, 3) := by decide +kernel
theorem md_M_amend_122 : decode mc_M_amend 122 = .ok (.iload 5, 2) := by decide +kernel
theorem md_M_amend_124 : decode mc_M_amend 124 = .ok (.iaload, 1) := by decide +kernel
theorem md_M_amend_125 : decode mc_M_amend 125 = .ok (.istore 6, 2) := by decide +kernel
theorem md_M_amend_127 : decode mc_M_amend 127 = .ok (.aload_n 0, 1) := by decide +kernel
theorem md_M_amend_128 : decode mc_M_amend 128 = .ok (.getfield 16, 3) := by decide +kernel
theorem md_M_amend_131 : decode mc_M_amend 131 = .ok (.iload 5, 2) := by decide +kernel
theorem md_M_amend_133 : decode mc_M_amend 133 = .ok (.iaload, 1) := by decide +kernel
theorem md_M_amend_134 : decode mc_M_amend 134 = .ok (.istore 7, 2) := by decide +kernel
theorem md_M_amend_136 : decode mc_M_amend 136 = .ok (.aload_n 0, 1) := by decide +kernel
theorem md_M_amend_137 : decode mc_M_amend 137 = .ok (.getfield 28, 3) := by decide +kernel
theorem md_M_amend_140 : decode mc_M_amend 140 = .ok (.iload 5, 2) := by decide +kernel
theorem md_M_amend_142 : decode mc_M_amend 142 = .ok (.baload, 1) := by decide +kernel
theorem md_M_amend_143 : decode mc_M_amend 143 = .ok (.istore 8, 2) := by decide +kernel
theorem md_M_amend_145 : decode mc_M_amend 145 = .ok (.aload_n 0, 1) := by decide +kernel
theorem md_M_amend_146 : decode mc_M_amend 146 = .ok (.iload 5, 2) := by decide +kernel
theorem md_M_amend_148 : decode mc_M_amend 148 = .ok (.invokevirtual 79, 3) := by decide +kernel
theorem md_M_amend_151 : decode mc_M_amend 151 = .ok (.iload 8, 2) := by decide +kernel
theorem md_M_amend_153 : decode mc_M_amend 153 = .ok (.ifCond .eq 7, 3) := by decide +kernel
theorem md_M_amend_156 : decode mc_M_amend 156 = .ok (.iload_n 3, 1) := by decide +kernel
theorem md_M_amend_157 : decode mc_M_amend 157 = .ok (.goto 14, 3) := by decide +kernel
theorem md_M_amend_160 : decode mc_M_amend 160 = .ok (.aload_n 0, 1) := by decide +kernel
theorem md_M_amend_161 : decode mc_M_amend 161 = .ok (.iload_n 1, 1) := by decide +kernel
theorem md_M_amend_162 : decode mc_M_amend 162 = .ok (.iload 6, 2) := by decide +kernel
theorem md_M_amend_164 : decode mc_M_amend 164 = .ok (.iload 7, 2) := by decide +kernel
theorem md_M_amend_166 : decode mc_M_amend 166 = .ok (.iload_n 2, 1) := by decide +kernel
theorem md_M_amend_167 : decode mc_M_amend 167 = .ok (.iload_n 3, 1) := by decide +kernel
theorem md_M_amend_168 : decode mc_M_amend 168 = .ok (.invokevirtual 101, 3) := by decide +kernel
theorem md_M_amend_171 : decode mc_M_amend 171 = .ok (.istore 9, 2) := by decide +kernel
theorem md_M_amend_173 : decode mc_M_amend 173 = .ok (.iload 9, 2) := by decide +kernel
theorem md_M_amend_175 : decode mc_M_amend 175 = .ok (.ifCond .le 28, 3) := by decide +kernel
theorem md_M_amend_178 : decode mc_M_amend 178 = .ok (.aload_n 0, 1) := by decide +kernel
theorem md_M_amend_179 : decode mc_M_amend 179 = .ok (.iload_n 1, 1) := by decide +kernel
theorem md_M_amend_180 : decode mc_M_amend 180 = .ok (.iload 6, 2) := by decide +kernel
theorem md_M_amend_182 : decode mc_M_amend 182 = .ok (.iload 7, 2) := by decide +kernel
theorem md_M_amend_184 : decode mc_M_amend 184 = .ok (.iload_n 2, 1) := by decide +kernel
theorem md_M_amend_185 : decode mc_M_amend 185 = .ok (.iload 9, 2) := by decide +kernel
theorem md_M_amend_187 : decode mc_M_amend 187 = .ok (.invokevirtual 120, 3) := by decide +kernel
theorem md_M_amend_190 : decode mc_M_amend 190 = .ok (.aload_n 0, 1) := by decide +kernel
theorem md_M_amend_191 : decode mc_M_amend 191 = .ok (.getfield 28, 3) := by decide +kernel
theorem md_M_amend_194 : decode mc_M_amend 194 = .ok (.aload_n 0, 1) := by decide +kernel
theorem md_M_amend_195 : decode mc_M_amend 195 = .ok (.getfield 48, 3) := by decide +kernel
theorem md_M_amend_198 : decode mc_M_amend 198 = .ok (.iconst 1, 1) := by decide +kernel
theorem md_M_amend_199 : decode mc_M_amend 199 = .ok (.isub, 1) := by decide +kernel
theorem md_M_amend_200 : decode mc_M_amend 200 = .ok (.iload 8, 2) := by decide +kernel
theorem md_M_amend_202 : decode mc_M_amend 202 = .ok (.bastore, 1) := by decide +kernel
theorem md_M_amend_203 : decode mc_M_amend 203 = .ok (.aload_n 0, 1) := by decide +kernel
theorem md_M_amend_204 : decode mc_M_amend 204 = .ok (.invokevirtual 124, 3) := by decide +kernel
theorem md_M_amend_207 : decode mc_M_amend 207 = .ok (.iload_n 3, 1) := by decide +kernel
theorem md_M_amend_208 : decode mc_M_amend 208 = .ok (.iload 9, 2) := by decide +kernel
theorem md_M_amend_210 : decode mc_M_amend 210 = .ok (.isub, 1) := by decide +kernel
theorem md_M_amend_211 : decode mc_M_amend 211 = .ok (.ireturn, 1) := by decide +kernel
theorem md_M_withdraw_0 : decode mc_M_withdraw 0 = .ok (.aload_n 0, 1) := by decide +kernel
theorem md_M_withdraw_1 : decode mc_M_withdraw 1 = .ok (.iload_n 1, 1) := by decide +kernel
theorem md_M_withdraw_2 : decode mc_M_withdraw 2 = .ok (.iconst 0, 1) := by decide +kernel
theorem md_M_withdraw_3 : decode mc_M_withdraw 3 = .ok (.bipush 7, 2) := by decide +kernel
theorem md_M_withdraw_5 : decode mc_M_withdraw 5 = .ok (.invokestatic 109, 3) := by decide +kernel
theorem md_M_withdraw_8 : decode mc_M_withdraw 8 = .ok (.ifCond .eq 7, 3) := by decide +kernel
theorem md_M_withdraw_11 : decode mc_M_withdraw 11 = .ok (.iconst 0, 1) := by decide +kernel
theorem md_M_withdraw_12 : decode mc_M_withdraw 12 = .ok (.goto 4, 3) := by decide +kernel
theorem md_M_withdraw_15 : decode mc_M_withdraw 15 = .ok (.iconst 1, 1) := by decide +kernel
theorem md_M_withdraw_16 : decode mc_M_withdraw 16 = .ok (.putfield 44, 3) := by decide +kernel
theorem md_M_withdraw_19 : decode mc_M_withdraw 19 = .ok (.iconst 0, 1) := by decide +kernel
theorem md_M_withdraw_20 : decode mc_M_withdraw 20 = .ok (.istore_n 2, 1) := by decide +kernel
theorem md_M_withdraw_21 : decode mc_M_withdraw 21 = .ok (.aload_n 0, 1) := by decide +kernel
theorem md_M_withdraw_22 : decode mc_M_withdraw 22 = .ok (.getfield 48, 3) := by decide +kernel
theorem md_M_withdraw_25 : decode mc_M_withdraw 25 = .ok (.iconst 1, 1) := by decide +kernel
theorem md_M_withdraw_26 : decode mc_M_withdraw 26 = .ok (.isub, 1) := by decide +kernel
theorem md_M_withdraw_27 : decode mc_M_withdraw 27 = .ok (.istore_n 3, 1) := by decide +kernel
theorem md_M_withdraw_28 : decode mc_M_withdraw 28 = .ok (.iload_n 3, 1) := by decide +kernel
theorem md_M_withdraw_29 : decode mc_M_withdraw 29 = .ok (.ifCond .lt 34, 3) := by decide +kernel
theorem md_M_withdraw_32 : decode mc_M_withdraw 32 = .ok (.aload_n 0, 1) := by decide +kernel
theorem md_M_withdraw_33 : decode mc_M_withdraw 33 = .ok (.getfield 44, 3) := by decide +kernel
theorem md_M_withdraw_36 : decode mc_M_withdraw 36 = .ok (.ifCond .ne 27, 3) := by decide +kernel
theorem md_M_withdraw_39 : decode mc_M_withdraw 39 = .ok (.aload_n 0, 1) := by decide +kernel
theorem md_M_withdraw_40 : decode mc_M_withdraw 40 = .ok (.getfield 13, 3) := by decide +kernel
theorem md_M_withdraw_43 : decode mc_M_withdraw 43 = .ok (.iload_n 3, 1) := by decide +kernel
theorem md_M_withdraw_44 : decode mc_M_withdraw 44 = .ok (.iaload, 1) := by decide +kernel
theorem md_M_withdraw_45 : decode mc_M_withdraw 45 = .ok (.iload_n 1, 1) := by decide +kernel
theorem md_M_withdraw_46 : decode mc_M_withdraw 46 = .ok (.if_icmp .ne 11, 3) := by decide +kernel
theorem md_M_withdraw_49 : decode mc_M_withdraw 49 = .ok (.aload_n 0, 1) := by decide +kernel
theorem md_M_withdraw_50 : decode mc_M_withdraw 50 = .ok (.iload_n 3, 1) := by decide +kernel
theorem md_M_withdraw_51 : decode mc_M_withdraw 51 = .ok (.invokevirtual 79, 3) := by decide +kernel
theorem md_M_withdraw_54 : decode mc_M_withdraw 54 = .ok (.iinc 2 1, 3) := by decide +kernel
theorem md_M_withdraw_57 : decode mc_M_withdraw 57 = .ok (.iinc 3 (-1), 3) := by decide +kernel
theorem md_M_withdraw_60 : decode mc_M_withdraw 60 = .ok (.goto (-32), 3) := by decide +kernel
theorem md_M_withdraw_63 : decode mc_M_withdraw 63 = .ok (.iload_n 2, 1) := by decide +kernel
theorem md_M_withdraw_64 : decode mc_M_withdraw 64 = .ok (.ireturn, 1) := by decide +kernel
theorem md_M_levels_0 : decode mc_M_levels 0 = .ok (.aload_n 0, 1) := by decide +kernel
theorem md_M_levels_1 : decode mc_M_levels 1 = .ok (.iload_n 1, 1) := by decide +kernel
theorem md_M_levels_2 : decode mc_M_levels 2 = .ok (.iconst 0, 1) := by decide +kernel
theorem md_M_levels_3 : decode mc_M_levels 3 = .ok (.iconst 1, 1) := by decide +kernel
theorem md_M_levels_4 : decode mc_M_levels 4 = .ok (.invokestatic 109, 3) := by decide +kernel
theorem md_M_levels_7 : decode mc_M_levels 7 = .ok (.ifCond .eq 7, 3) := by decide +kernel
theorem md_M_levels_10 : decode mc_M_levels 10 = .ok (.iconst 0, 1) := by decide +kernel
theorem md_M_levels_11 : decode mc_M_levels 11 = .ok (.goto 4, 3) := by decide +kernel
theorem md_M_levels_14 : decode mc_M_levels 14 = .ok (.iconst 1, 1) := by decide +kernel
theorem md_M_levels_15 : decode mc_M_levels 15 = .ok (.putfield 44, 3) := by decide +kernel
theorem md_M_levels_18 : decode mc_M_levels 18 = .ok (.iconst 0, 1) := by decide +kernel
theorem md_M_levels_19 : decode mc_M_levels 19 = .ok (.istore_n 2, 1) := by decide +kernel
theorem md_M_levels_20 : decode mc_M_levels 20 = .ok (.aload_n 0, 1) := by decide +kernel
theorem md_M_levels_21 : decode mc_M_levels 21 = .ok (.getfield 44, 3) := by decide +kernel
theorem md_M_levels_24 : decode mc_M_levels 24 = .ok (.ifCond .le 7, 3) := by decide +kernel
theorem md_M_levels_27 : decode mc_M_levels 27 = .ok (.iconst 0, 1) := by decide +kernel
theorem md_M_levels_28 : decode mc_M_levels 28 = .ok (.goto 9, 3) := by decide +kernel
theorem md_M_levels_31 : decode mc_M_levels 31 = .ok (.aload_n 0, 1) := by decide +kernel
theorem md_M_levels_32 : decode mc_M_levels 32 = .ok (.iload_n 1, 1) := by decide +kernel
theorem md_M_levels_33 : decode mc_M_levels 33 = .ok (.iconst 0, 1) := by decide +kernel
theorem md_M_levels_34 : decode mc_M_levels 34 = .ok (.invokevirtual 127, 3) := by decide +kernel
theorem md_M_levels_37 : decode mc_M_levels 37 = .ok (.istore_n 3, 1) := by decide +kernel
theorem md_M_levels_38 : decode mc_M_levels 38 = .ok (.iload_n 3, 1) := by decide +kernel
theorem md_M_levels_39 : decode mc_M_levels 39 = .ok (.ifCond .le 16, 3) := by decide +kernel
theorem md_M_levels_42 : decode mc_M_levels 42 = .ok (.iinc 2 1, 3) := by decide +kernel
theorem md_M_levels_45 : decode mc_M_levels 45 = .ok (.aload_n 0, 1) := by decide +kernel
theorem md_M_levels_46 : decode mc_M_levels 46 = .ok (.iload_n 1, 1) := by decide +kernel
theorem md_M_levels_47 : decode mc_M_levels 47 = .ok (.iload_n 3, 1) := by decide +kernel
theorem md_M_levels_48 : decode mc_M_levels 48 = .ok (.invokevirtual 127, 3) := by decide +kernel
theorem md_M_levels_51 : decode mc_M_levels 51 = .ok (.istore_n 3, 1) := by decide +kernel
theorem md_M_levels_52 : decode mc_M_levels 52 = .ok (.goto (-14), 3) := by decide +kernel
theorem md_M_levels_55 : decode mc_M_levels 55 = .ok (.iload_n 2, 1) := by decide +kernel
theorem md_M_levels_56 : decode mc_M_levels 56 = .ok (.ireturn, 1) := by decide +kernel
theorem md_M_nextPrice_0 : decode mc_M_nextPrice 0 = .ok (.iconst 0, 1) := by decide +kernel
theorem md_M_nextPrice_1 : decode mc_M_nextPrice 1 = .ok (.istore_n 3, 1) := by decide +kernel
theorem md_M_nextPrice_2 : decode mc_M_nextPrice 2 = .ok (.iconst 0, 1) := by decide +kernel
theorem md_M_nextPrice_3 : decode mc_M_nextPrice 3 = .ok (.istore 4, 2) := by decide +kernel
theorem md_M_nextPrice_5 : decode mc_M_nextPrice 5 = .ok (.iload 4, 2) := by decide +kernel
theorem md_M_nextPrice_7 : decode mc_M_nextPrice 7 = .ok (.aload_n 0, 1) := by decide +kernel
theorem md_M_nextPrice_8 : decode mc_M_nextPrice 8 = .ok (.getfield 48, 3) := by decide +kernel
theorem md_M_nextPrice_11 : decode mc_M_nextPrice 11 = .ok (.if_icmp .ge 120, 3) := by decide +kernel
theorem md_M_nextPrice_14 : decode mc_M_nextPrice 14 = .ok (.aload_n 0, 1) := by decide +kernel
theorem md_M_nextPrice_15 : decode mc_M_nextPrice 15 = .ok (.getfield 28, 3) := by decide +kernel
theorem md_M_nextPrice_18 : decode mc_M_nextPrice 18 = .ok (.iload 4, 2) := by decide +kernel
theorem md_M_nextPrice_20 : decode mc_M_nextPrice 20 = .ok (.baload, 1) := by decide +kernel
theorem md_M_nextPrice_21 : decode mc_M_nextPrice 21 = .ok (.ifCond .ne 51, 3) := by decide +kernel
theorem md_M_nextPrice_24 : decode mc_M_nextPrice 24 = .ok (.aload_n 0, 1) := by decide +kernel
theorem md_M_nextPrice_25 : decode mc_M_nextPrice 25 = .ok (.getfield 16, 3) := by decide +kernel
theorem md_M_nextPrice_28 : decode mc_M_nextPrice 28 = .ok (.iload 4, 2) := by decide +kernel
theorem md_M_nextPrice_30 : decode mc_M_nextPrice 30 = .ok (.iaload, 1) := by decide +kernel
theorem md_M_nextPrice_31 : decode mc_M_nextPrice 31 = .ok (.iload_n 1, 1) := by decide +kernel
theorem md_M_nextPrice_32 : decode mc_M_nextPrice 32 = .ok (.if_icmp .ne 40, 3) := by decide +kernel
theorem md_M_nextPrice_35 : decode mc_M_nextPrice 35 = .ok (.iload_n 2, 1) := by decide +kernel
theorem md_M_nextPrice_36 : decode mc_M_nextPrice 36 = .ok (.ifCond .eq 32, 3) := by decide +kernel
theorem md_M_nextPrice_39 : decode mc_M_nextPrice 39 = .ok (.iload_n 1, 1) := by decide +kernel
theorem md_M_nextPrice_40 : decode mc_M_nextPrice 40 = .ok (.ifCond .ne 17, 3) := by decide +kernel
theorem md_M_nextPrice_43 : decode mc_M_nextPrice 43 = .ok (.aload_n 0, 1) := by decide +kernel
theorem md_M_nextPrice_44 : decode mc_M_nextPrice 44 = .ok (.getfield 19, 3) := by decide +kernel
theorem md_M_nextPrice_47 : decode mc_M_nextPrice 47 = .ok (.iload 4, 2) := by decide +kernel
theorem md_M_nextPrice_49 : decode mc_M_nextPrice 49 = .ok (.iaload, 1) := by decide +kernel
theorem md_M_nextPrice_50 : decode mc_M_nextPrice 50 = .ok (.iload_n 2, 1) := by decide +kernel
theorem md_M_nextPrice_51 : decode mc_M_nextPrice 51 = .ok (.if_icmp .ge 21, 3) := by decide +kernel
theorem md_M_nextPrice_54 : decode mc_M_nextPrice 54 = .ok (.goto 14, 3) := by decide +kernel
theorem md_M_nextPrice_57 : decode mc_M_nextPrice 57 = .ok (.aload_n 0, 1) := by decide +kernel
theorem md_M_nextPrice_58 : decode mc_M_nextPrice 58 = .ok (.getfield 19, 3) := by decide +kernel
theorem md_M_nextPrice_61 : decode mc_M_nextPrice 61 = .ok (.iload 4, 2) := by decide +kernel
theorem md_M_nextPrice_63 : decode mc_M_nextPrice 63 = .ok (.iaload, 1) := by decide +kernel
theorem md_M_nextPrice_64 : decode mc_M_nextPrice 64 = .ok (.iload_n 2, 1) := by decide +kernel
theorem md_M_nextPrice_65 : decode mc_M_nextPrice 65 = .ok (.if_icmp .le 7, 3) := by decide +kernel
theorem md_M_nextPrice_68 : decode mc_M_nextPrice 68 = .ok (.iconst 1, 1) := by decide +kernel
theorem md_M_nextPrice_69 : decode mc_M_nextPrice 69 = .ok (.goto 4, 3) := by decide +kernel
theorem md_M_nextPrice_72 : decode mc_M_nextPrice 72 = .ok (.iconst 0, 1) := by decide +kernel
theorem md_M_nextPrice_73 : decode mc_M_nextPrice 73 = .ok (.istore 5, 2) := by decide +kernel
theorem md_M_nextPrice_75 : decode mc_M_nextPrice 75 = .ok (.iload 5, 2) := by decide +kernel
theorem md_M_nextPrice_77 : decode mc_M_nextPrice 77 = .ok (.ifCond .eq 46, 3) := by decide +kernel
theorem md_M_nextPrice_80 : decode mc_M_nextPrice 80 = .ok (.iload_n 3, 1) := by decide +kernel
theorem md_M_nextPrice_81 : decode mc_M_nextPrice 81 = .ok (.ifCond .eq 32, 3) := by decide +kernel
theorem md_M_nextPrice_84 : decode mc_M_nextPrice 84 = .ok (.iload_n 1, 1) := by decide +kernel
theorem md_M_nextPrice_85 : decode mc_M_nextPrice 85 = .ok (.ifCond .ne 17, 3) := by decide +kernel
theorem md_M_nextPrice_88 : decode mc_M_nextPrice 88 = .ok (.aload_n 0, 1) := by decide +kernel
theorem md_M_nextPrice_89 : decode mc_M_nextPrice 89 = .ok (.getfield 19, 3) := by decide +kernel
theorem md_M_nextPrice_92 : decode mc_M_nextPrice 92 = .ok (.iload 4, 2) := by decide +kernel
theorem md_M_nextPrice_94 : decode mc_M_nextPrice 94 = .ok (.iaload, 1) := by decide +kernel
theorem md_M_nextPrice_95 : decode mc_M_nextPrice 95 = .ok (.iload_n 3, 1) := by decide +kernel
theorem md_M_nextPrice_96 : decode mc_M_nextPrice 96 = .ok (.if_icmp .le 27, 3) := by decide +kernel
theorem md_M_nextPrice_99 : decode mc_M_nextPrice 99 = .ok (.goto 14, 3) := by decide +kernel
theorem md_M_nextPrice_102 : decode mc_M_nextPrice 102 = .ok (.aload_n 0, 1) := by decide +kernel
theorem md_M_nextPrice_103 : decode mc_M_nextPrice 103 = .ok (.getfield 19, 3) := by decide +kernel
theorem md_M_nextPrice_106 : decode mc_M_nextPrice 106 = .ok (.iload 4, 2) := by decide +kernel
theorem md_M_nextPrice_108 : decode mc_M_nextPrice 108 = .ok (.iaload, 1) := by decide +kernel
theorem md_M_nextPrice_109 : decode mc_M_nextPrice 109 = .ok (.iload_n 3, 1) := by decide +kernel
theorem md_M_nextPrice_110 : decode mc_M_nextPrice 110 = .ok (.if_icmp .ge 13, 3) := by decide +kernel
theorem md_M_nextPrice_113 : decode mc_M_nextPrice 113 = .ok (.aload_n 0, 1) := by decide +kernel
theorem md_M_nextPrice_114 : decode mc_M_nextPrice 114 = .ok (.getfield 19, 3) := by decide +kernel
theorem md_M_nextPrice_117 : decode mc_M_nextPrice 117 = .ok (.iload 4, 2) := by decide +kernel
theorem md_M_nextPrice_119 : decode mc_M_nextPrice 119 = .ok (.iaload, 1) := by decide +kernel
theorem md_M_nextPrice_120 : decode mc_M_nextPrice 120 = .ok (.goto 4, 3) := by decide +kernel
theorem md_M_nextPrice_123 : decode mc_M_nextPrice 123 = .ok (.iload_n 3, 1) := by decide +kernel
theorem md_M_nextPrice_124 : decode mc_M_nextPrice 124 = .ok (.istore_n 3, 1) := by decide +kernel
theorem md_M_nextPrice_125 : decode mc_M_nextPrice 125 = .ok (.iinc 4 1, 3) := by decide +kernel
theorem md_M_nextPrice_128 : decode mc_M_nextPrice 128 = .ok (.goto (-123), 3) := by decide +kernel
theorem md_M_nextPrice_131 : decode mc_M_nextPrice 131 = .ok (.iload_n 3, 1) := by decide +kernel
theorem md_M_nextPrice_132 : decode mc_M_nextPrice 132 = .ok (.ireturn, 1) := by decide +kernel
theorem md_M_level_0 : decode mc_M_level 0 = .ok (.aload_n 0, 1) := by decide +kernel
theorem md_M_level_1 : decode mc_M_level 1 = .ok (.iload_n 1, 1) := by decide +kernel
theorem md_M_level_2 : decode mc_M_level 2 = .ok (.iconst 0, 1) := by decide +kernel
theorem md_M_level_3 : decode mc_M_level 3 = .ok (.iconst 1, 1) := by decide +kernel
theorem md_M_level_4 : decode mc_M_level 4 = .ok (.invokestatic 109, 3) := by decide +kernel
theorem md_M_level_7 : decode mc_M_level 7 = .ok (.ifCond .eq 16, 3) := by decide +kernel
theorem md_M_level_10 : decode mc_M_level 10 = .ok (.iload_n 3, 1) := by decide +kernel
theorem md_M_level_11 : decode mc_M_level 11 = .ok (.iconst 0, 1) := by decide +kernel
theorem md_M_level_12 : decode mc_M_level 12 = .ok (.iconst 2, 1) := by decide +kernel
theorem md_M_level_13 : decode mc_M_level 13 = .ok (.invokestatic 109, 3) := by decide +kernel
theorem md_M_level_16 : decode mc_M_level 16 = .ok (.ifCond .eq 7, 3) := by decide +kernel
theorem md_M_level_19 : decode mc_M_level 19 = .ok (.iconst 0, 1) := by decide +kernel
theorem md_M_level_20 : decode mc_M_level 20 = .ok (.goto 4, 3) := by decide +kernel
theorem md_M_level_23 : decode mc_M_level 23 = .ok (.iconst 1, 1) := by decide +kernel
theorem md_M_level_24 : decode mc_M_level 24 = .ok (.putfield 44, 3) := by decide +kernel
theorem md_M_level_27 : decode mc_M_level 27 = .ok (.aload_n 0, 1) := by decide +kernel
theorem md_M_level_28 : decode mc_M_level 28 = .ok (.getfield 44, 3) := by decide +kernel
theorem md_M_level_31 : decode mc_M_level 31 = .ok (.ifCond .le 5, 3) := by decide +kernel
theorem md_M_level_34 : decode mc_M_level 34 = .ok (.iconst 0, 1) := by decide +kernel
theorem md_M_level_35 : decode mc_M_level 35 = .ok (.ireturn, 1) := by decide +kernel
theorem md_M_level_36 : decode mc_M_level 36 = .ok (.iload_n 2, 1) := by decide +kernel
theorem md_M_level_37 : decode mc_M_level 37 = .ok (.ifCond .ge 7, 3) := by decide +kernel
theorem md_M_level_40 : decode mc_M_level 40 = .ok (.iconst 0, 1) := by decide +kernel
theorem md_M_level_41 : decode mc_M_level 41 = .ok (.goto 9, 3) := by decide +kernel
theorem md_M_level_44 : decode mc_M_level 44 = .ok (.aload_n 0, 1) := by decide +kernel
theorem md_M_level_45 : decode mc_M_level 45 = .ok (.iload_n 1, 1) := by decide +kernel
theorem md_M_level_46 : decode mc_M_level 46 = .ok (.iconst 0, 1) := by decide +kernel
theorem md_M_level_47 : decode mc_M_level 47 = .ok (.invokevirtual 127, 3) := by decide +kernel
theorem md_M_level_50 : decode mc_M_level 50 = .ok (.istore 4, 2) := by decide +kernel
theorem md_M_level_52 : decode mc_M_level 52 = .ok (.iconst 0, 1) := by decide +kernel
theorem md_M_level_53 : decode mc_M_level 53 = .ok (.istore 5, 2) := by decide +kernel
theorem md_M_level_55 : decode mc_M_level 55 = .ok (.iload 5, 2) := by decide +kernel
theorem md_M_level_57 : decode mc_M_level 57 = .ok (.iload_n 2, 1) := by decide +kernel
theorem md_M_level_58 : decode mc_M_level 58 = .ok (.if_icmp .ge 23, 3) := by decide +kernel
theorem md_M_level_61 : decode mc_M_level 61 = .ok (.iload 4, 2) := by decide +kernel
theorem md_M_level_63 : decode mc_M_level 63 = .ok (.ifCond .le 18, 3) := by decide +kernel
theorem md_M_level_66 : decode mc_M_level 66 = .ok (.aload_n 0, 1) := by decide +kernel
theorem md_M_level_67 : decode mc_M_level 67 = .ok (.iload_n 1, 1) := by decide +kernel
theorem md_M_level_68 : decode mc_M_level 68 = .ok (.iload 4, 2) := by decide +kernel
theorem md_M_level_70 : decode mc_M_level 70 = .ok (.invokevirtual 127, 3) := by decide +kernel
theorem md_M_level_73 : decode mc_M_level 73 = .ok (.istore 4, 2) := by decide +kernel
theorem md_M_level_75 : decode mc_M_level 75 = .ok (.iinc 5 1, 3) := by decide +kernel
theorem md_M_level_78 : decode mc_M_level 78 = .ok (.goto (-23), 3) := by decide +kernel
theorem md_M_level_81 : decode mc_M_level 81 = .ok (.aload_n 0, 1) := by decide +kernel
theorem md_M_level_82 : decode mc_M_level 82 = .ok (.iload 4, 2) := by decide +kernel
theorem md_M_level_84 : decode mc_M_level 84 = .ok (.ifCond .ne 7, 3) := by decide +kernel
theorem md_M_level_87 : decode mc_M_level 87 = .ok (.iconst 2, 1) := by decide +kernel
theorem md_M_level_88 : decode mc_M_level 88 = .ok (.goto 4, 3) := by decide +kernel
theorem md_M_level_91 : decode mc_M_level 91 = .ok (.iconst 0, 1) := by decide +kernel
theorem md_M_level_92 : decode mc_M_level 92 = .ok (.putfield 44, 3) := by decide +kernel
theorem md_M_level_95 : decode mc_M_level 95 = .ok (.iconst 0, 1) := by decide +kernel
theorem md_M_level_96 : decode mc_M_level 96 = .ok (.istore 5, 2) := by decide +kernel
theorem md_M_level_98 : decode mc_M_level 98 = .ok (.iconst 0, 1) := by decide +kernel
theorem md_M_level_99 : decode mc_M_level 99 = .ok (.istore 6, 2) := by decide +kernel
theorem md_M_level_101 : decode mc_M_level 101 = .ok (.iconst 0, 1) := by decide +kernel
theorem md_M_level_102 : decode mc_M_level 102 = .ok (.istore 7, 2) := by decide +kernel
theorem md_M_level_104 : decode mc_M_level 104 = .ok (.iload 7, 2) := by decide +kernel
theorem md_M_level_106 : decode mc_M_level 106 = .ok (.aload_n 0, 1) := by decide +kernel
theorem md_M_level_107 : decode mc_M_level 107 = .ok (.getfield 48, 3) := by decide +kernel
theorem md_M_level_110 : decode mc_M_level 110 = .ok (.if_icmp .ge 85, 3) := by decide +kernel
theorem md_M_level_113 : decode mc_M_level 113 = .ok (.aload_n 0, 1) := by decide +kernel
theorem md_M_level_114 : decode mc_M_level 114 = .ok (.getfield 28, 3) := by decide +kernel
theorem md_M_level_117 : decode mc_M_level 117 = .ok (.iload 7, 2) := by decide +kernel
theorem md_M_level_119 : decode mc_M_level 119 = .ok (.baload, 1) := by decide +kernel
theorem md_M_level_120 : decode mc_M_level 120 = .ok (.ifCond .ne 30, 3) := by decide +kernel
theorem md_M_level_123 : decode mc_M_level 123 = .ok (.aload_n 0, 1) := by decide +kernel
theorem md_M_level_124 : decode mc_M_level 124 = .ok (.getfield 16, 3) := by decide +kernel
theorem md_M_level_127 : decode mc_M_level 127 = .ok (.iload 7, 2) := by decide +kernel
theorem md_M_level_129 : decode mc_M_level 129 = .ok (.iaload, 1) := by decide +kernel
theorem md_M_level_130 : decode mc_M_level 130 = .ok (.iload_n 1, 1) := by decide +kernel
theorem md_M_level_131 : decode mc_M_level 131 = .ok (.if_icmp .ne 19, 3) := by decide +kernel
theorem md_M_level_134 : decode mc_M_level 134 = .ok (.aload_n 0, 1) := by decide +kernel
theorem md_M_level_135 : decode mc_M_level 135 = .ok (.getfield 19, 3) := by decide +kernel
theorem md_M_level_138 : decode mc_M_level 138 = .ok (.iload 7, 2) := by decide +kernel
theorem md_M_level_140 : decode mc_M_level 140 = .ok (.iaload, 1) := by decide +kernel
theorem md_M_level_141 : decode mc_M_level 141 = .ok (.iload 4, 2) := by decide +kernel
theorem md_M_level_143 : decode mc_M_level 143 = .ok (.if_icmp .ne 7, 3) := by decide +kernel
theorem md_M_level_146 : decode mc_M_level 146 = .ok (.iconst 1, 1) := by decide +kernel
theorem md_M_level_147 : decode mc_M_level 147 = .ok (.goto 4, 3) := by decide +kernel
theorem md_M_level_150 : decode mc_M_level 150 = .ok (.iconst 0, 1) := by decide +kernel
theorem md_M_level_151 : decode mc_M_level 151 = .ok (.istore 8, 2) := by decide +kernel
theorem md_M_level_153 : decode mc_M_level 153 = .ok (.iload 5, 2) := by decide +kernel
theorem md_M_level_155 : decode mc_M_level 155 = .ok (.iload 8, 2) := by decide +kernel
theorem md_M_level_157 : decode mc_M_level 157 = .ok (.ifCond .eq 13, 3) := by decide +kernel
theorem md_M_level_160 : decode mc_M_level 160 = .ok (.aload_n 0, 1) := by decide +kernel
theorem md_M_level_161 : decode mc_M_level 161 = .ok (.getfield 22, 3) := by decide +kernel
theorem md_M_level_164 : decode mc_M_level 164 = .ok (.iload 7, 2) := by decide +kernel
theorem md_M_level_166 : decode mc_M_level 166 = .ok (.iaload, 1) := by decide +kernel
theorem md_M_level_167 : decode mc_M_level 167 = .ok (.goto 4, 3) := by decide +kernel
theorem md_M_level_170 : decode mc_M_level 170 = .ok (.iconst 0, 1) := by decide +kernel
theorem md_M_level_171 : decode mc_M_level 171 = .ok (.iadd, 1) := by decide +kernel
theorem md_M_level_172 : decode mc_M_level 172 = .ok (.istore 5, 2) := by decide +kernel
theorem md_M_level_174 : decode mc_M_level 174 = .ok (.iload 6, 2) := by decide +kernel
theorem md_M_level_176 : decode mc_M_level 176 = .ok (.iload 8, 2) := by decide +kernel
theorem md_M_level_178 : decode mc_M_level 178 = .ok (.ifCond .eq 7, 3) := by decide +kernel
theorem md_M_level_181 : decode mc_M_level 181 = .ok (.iconst 1, 1) := by decide +kernel
theorem md_M_level_182 : decode mc_M_level 182 = .ok (.goto 4, 3) := by decide +kernel
theorem md_M_level_185 : decode mc_M_level 185 = .ok (.iconst 0, 1) := by decide +kernel
theorem md_M_level_186 : decode mc_M_level 186 = .ok (.iadd, 1) := by decide +kernel
theorem md_M_level_187 : decode mc_M_level 187 = .ok (.istore 6, 2) := by decide +kernel
theorem md_M_level_189 : decode mc_M_level 189 = .ok (.iinc 7 1, 3) := by decide +kernel
theorem md_M_level_192 : decode mc_M_level 192 = .ok (.goto (-88), 3) := by decide +kernel
theorem md_M_level_195 : decode mc_M_level 195 = .ok (.aload_n 0, 1) := by decide +kernel
theorem md_M_level_196 : decode mc_M_level 196 = .ok (.getfield 44, 3) := by decide +kernel
theorem md_M_level_199 : decode mc_M_level 199 = .ok (.ifCond .le 7, 3) := by decide +kernel
theorem md_M_level_202 : decode mc_M_level 202 = .ok (.iconst 0, 1) := by decide +kernel
theorem md_M_level_203 : decode mc_M_level 203 = .ok (.goto 24, 3) := by decide +kernel
theorem md_M_level_206 : decode mc_M_level 206 = .ok (.iload_n 3, 1) := by decide +kernel
theorem md_M_level_207 : decode mc_M_level 207 = .ok (.ifCond .ne 8, 3) := by decide +kernel
theorem md_M_level_210 : decode mc_M_level 210 = .ok (.iload 4, 2) := by decide +kernel
theorem md_M_level_212 : decode mc_M_level 212 = .ok (.goto 15, 3) := by decide +kernel
theorem md_M_level_215 : decode mc_M_level 215 = .ok (.iload_n 3, 1) := by decide +kernel
theorem md_M_level_216 : decode mc_M_level 216 = .ok (.iconst 1, 1) := by decide +kernel
theorem md_M_level_217 : decode mc_M_level 217 = .ok (.if_icmp .ne 8, 3) := by decide +kernel
theorem md_M_level_220 : decode mc_M_level 220 = .ok (.iload 5, 2) := by decide +kernel
theorem md_M_level_222 : decode mc_M_level 222 = .ok (.goto 5, 3) := by decide +kernel
theorem md_M_level_225 : decode mc_M_level 225 = .ok (.iload 6, 2) := by decide +kernel
theorem md_M_level_227 : decode mc_M_level 227 = .ok (.ireturn, 1) := by decide +kernel
theorem md_M_order_0 : decode mc_M_order 0 = .ok (.aload_n 0, 1) := by decide +kernel
theorem md_M_order_1 : decode mc_M_order 1 = .ok (.iload_n 1, 1) := by decide +kernel
theorem md_M_order_2 : decode mc_M_order 2 = .ok (.invokevirtual 113, 3) := by decide +kernel
theorem md_M_order_5 : decode mc_M_order 5 = .ok (.istore_n 3, 1) := by decide +kernel
theorem md_M_order_6 : decode mc_M_order 6 = .ok (.aload_n 0, 1) := by decide +kernel
theorem md_M_order_7 : decode mc_M_order 7 = .ok (.iload_n 3, 1) := by decide +kernel
theorem md_M_order_8 : decode mc_M_order 8 = .ok (.ifCond .ge 7, 3) := by decide +kernel
theorem md_M_order_11 : decode mc_M_order 11 = .ok (.iconst 1, 1) := by decide +kernel
theorem md_M_order_12 : decode mc_M_order 12 = .ok (.goto 17, 3) := by decide +kernel
theorem md_M_order_15 : decode mc_M_order 15 = .ok (.iload_n 2, 1) := by decide +kernel
theorem md_M_order_16 : decode mc_M_order 16 = .ok (.iconst 0, 1) := by decide +kernel
theorem md_M_order_17 : decode mc_M_order 17 = .ok (.iconst 3, 1) := by decide +kernel
theorem md_M_order_18 : decode mc_M_order 18 = .ok (.invokestatic 109, 3) := by decide +kernel
theorem md_M_order_21 : decode mc_M_order 21 = .ok (.ifCond .eq 7, 3) := by decide +kernel
theorem md_M_order_24 : decode mc_M_order 24 = .ok (.iconst 0, 1) := by decide +kernel
theorem md_M_order_25 : decode mc_M_order 25 = .ok (.goto 4, 3) := by decide +kernel
theorem md_M_order_28 : decode mc_M_order 28 = .ok (.iconst 2, 1) := by decide +kernel
theorem md_M_order_29 : decode mc_M_order 29 = .ok (.putfield 44, 3) := by decide +kernel
theorem md_M_order_32 : decode mc_M_order 32 = .ok (.aload_n 0, 1) := by decide +kernel
theorem md_M_order_33 : decode mc_M_order 33 = .ok (.getfield 44, 3) := by decide +kernel
theorem md_M_order_36 : decode mc_M_order 36 = .ok (.ifCond .le 5, 3) := by decide +kernel
theorem md_M_order_39 : decode mc_M_order 39 = .ok (.iconst 0, 1) := by decide +kernel
theorem md_M_order_40 : decode mc_M_order 40 = .ok (.ireturn, 1) := by decide +kernel
theorem md_M_order_41 : decode mc_M_order 41 = .ok (.iconst 0, 1) := by decide +kernel
theorem md_M_order_42 : decode mc_M_order 42 = .ok (.istore 4, 2) := by decide +kernel
theorem md_M_order_44 : decode mc_M_order 44 = .ok (.iconst 0, 1) := by decide +kernel
theorem md_M_order_45 : decode mc_M_order 45 = .ok (.istore 5, 2) := by decide +kernel
theorem md_M_order_47 : decode mc_M_order 47 = .ok (.iload 5, 2) := by decide +kernel
theorem md_M_order_49 : decode mc_M_order 49 = .ok (.aload_n 0, 1) := by decide +kernel
theorem md_M_order_50 : decode mc_M_order 50 = .ok (.getfield 48, 3) := by decide +kernel
theorem md_M_order_53 : decode mc_M_order 53 = .ok (.if_icmp .ge 108, 3) := by decide +kernel
theorem md_M_order_56 : decode mc_M_order 56 = .ok (.aload_n 0, 1) := by decide +kernel
theorem md_M_order_57 : decode mc_M_order 57 = .ok (.getfield 28, 3) := by decide +kernel
theorem md_M_order_60 : decode mc_M_order 60 = .ok (.iload_n 3, 1) := by decide +kernel
theorem md_M_order_61 : decode mc_M_order 61 = .ok (.baload, 1) := by decide +kernel
theorem md_M_order_62 : decode mc_M_order 62 = .ok (.ifCond .eq 13, 3) := by decide +kernel
theorem md_M_order_65 : decode mc_M_order 65 = .ok (.aload_n 0, 1) := by decide +kernel
theorem md_M_order_66 : decode mc_M_order 66 = .ok (.getfield 28, 3) := by decide +kernel
theorem md_M_order_69 : decode mc_M_order 69 = .ok (.iload 5, 2) := by decide +kernel
theorem md_M_order_71 : decode mc_M_order 71 = .ok (.baload, 1) := by decide +kernel
theorem md_M_order_72 : decode mc_M_order 72 = .ok (.goto 50, 3) := by decide +kernel
theorem md_M_order_75 : decode mc_M_order 75 = .ok (.aload_n 0, 1) := by decide +kernel
theorem md_M_order_76 : decode mc_M_order 76 = .ok (.getfield 28, 3) := by decide +kernel
theorem md_M_order_79 : decode mc_M_order 79 = .ok (.iload 5, 2) := by decide +kernel
theorem md_M_order_81 : decode mc_M_order 81 = .ok (.baload, 1) := by decide +kernel
theorem md_M_order_82 : decode mc_M_order 82 = .ok (.ifCond .ne 39, 3) := by decide +kernel
theorem md_M_order_85 : decode mc_M_order 85 = .ok (.aload_n 0, 1) := by decide +kernel
theorem md_M_order_86 : decode mc_M_order 86 = .ok (.getfield 16, 3) := by decide +kernel
theorem md_M_order_89 : decode mc_M_order 89 = .ok (.iload 5, 2) := by decide +kernel
theorem md_M_order_91 : decode mc_M_order 91 = .ok (.iaload, 1) := by decide +kernel
theorem md_M_order_92 : decode mc_M_order 92 = .ok (.aload_n 0, 1) := by decide +kernel
theorem md_M_order_93 : decode mc_M_order 93 = .ok (.getfield 16, 3) := by decide +kernel
theorem md_M_order_96 : decode mc_M_order 96 = .ok (.iload_n 3, 1) := by decide +kernel
theorem md_M_order_97 : decode mc_M_order 97 = .ok (.iaload, 1) := by decide +kernel
theorem md_M_order_98 : decode mc_M_order 98 = .ok (.if_icmp .ne 23, 3) := by decide +kernel
theorem md_M_order_101 : decode mc_M_order 101 = .ok (.aload_n 0, 1) := by decide +kernel
theorem md_M_order_102 : decode mc_M_order 102 = .ok (.getfield 19, 3) := by decide +kernel
theorem md_M_order_105 : decode mc_M_order 105 = .ok (.iload 5, 2) := by decide +kernel
theorem md_M_order_107 : decode mc_M_order 107 = .ok (.iaload, 1) := by decide +kernel
theorem md_M_order_108 : decode mc_M_order 108 = .ok (.aload_n 0, 1) := by decide +kernel
theorem md_M_order_109 : decode mc_M_order 109 = .ok (.getfield 19, 3) := by decide +kernel
theorem md_M_order_112 : decode mc_M_order 112 = .ok (.iload_n 3, 1) := by decide +kernel
theorem md_M_order_113 : decode mc_M_order 113 = .ok (.iaload, 1) := by decide +kernel
theorem md_M_order_114 : decode mc_M_order 114 = .ok (.if_icmp .ne 7, 3) := by decide +kernel
theorem md_M_order_117 : decode mc_M_order 117 = .ok (.iconst 1, 1) := by decide +kernel
theorem md_M_order_118 : decode mc_M_order 118 = .ok (.goto 4, 3) := by decide +kernel
theorem md_M_order_121 : decode mc_M_order 121 = .ok (.iconst 0, 1) := by decide +kernel
theorem md_M_order_122 : decode mc_M_order 122 = .ok (.istore 6, 2) := by decide +kernel
theorem md_M_order_124 : decode mc_M_order 124 = .ok (.iload 4, 2) := by decide +kernel
theorem md_M_order_126 : decode mc_M_order 126 = .ok (.iload 6, 2) := by decide +kernel
theorem md_M_order_128 : decode mc_M_order 128 = .ok (.ifCond .eq 23, 3) := by decide +kernel
theorem md_M_order_131 : decode mc_M_order 131 = .ok (.aload_n 0, 1) := by decide +kernel
theorem md_M_order_132 : decode mc_M_order 132 = .ok (.getfield 25, 3) := by decide +kernel
theorem md_M_order_135 : decode mc_M_order 135 = .ok (.iload 5, 2) := by decide +kernel
theorem md_M_order_137 : decode mc_M_order 137 = .ok (.iaload, 1) := by decide +kernel
theorem md_M_order_138 : decode mc_M_order 138 = .ok (.aload_n 0, 1) := by decide +kernel
theorem md_M_order_139 : decode mc_M_order 139 = .ok (.getfield 25, 3) := by decide +kernel
theorem md_M_order_142 : decode mc_M_order 142 = .ok (.iload_n 3, 1) := by decide +kernel
theorem md_M_order_143 : decode mc_M_order 143 = .ok (.iaload, 1) := by decide +kernel
theorem md_M_order_144 : decode mc_M_order 144 = .ok (.if_icmp .ge 7, 3) := by decide +kernel
theorem md_M_order_147 : decode mc_M_order 147 = .ok (.iconst 1, 1) := by decide +kernel
theorem md_M_order_148 : decode mc_M_order 148 = .ok (.goto 4, 3) := by decide +kernel
theorem md_M_order_151 : decode mc_M_order 151 = .ok (.iconst 0, 1) := by decide +kernel
theorem md_M_order_152 : decode mc_M_order 152 = .ok (.iadd, 1) := by decide +kernel
theorem md_M_order_153 : decode mc_M_order 153 = .ok (.istore 4, 2) := by decide +kernel
theorem md_M_order_155 : decode mc_M_order 155 = .ok (.iinc 5 1, 3) := by decide +kernel
theorem md_M_order_158 : decode mc_M_order 158 = .ok (.goto (-111), 3) := by decide +kernel
theorem md_M_order_161 : decode mc_M_order 161 = .ok (.iload_n 2, 1) := by decide +kernel
theorem md_M_order_162 : decode mc_M_order 162 = .ok (.ifCond .ne 37, 3) := by decide +kernel
theorem md_M_order_165 : decode mc_M_order 165 = .ok (.bipush 16, 2) := by decide +kernel
theorem md_M_order_167 : decode mc_M_order 167 = .ok (.aload_n 0, 1) := by decide +kernel
theorem md_M_order_168 : decode mc_M_order 168 = .ok (.getfield 13, 3) := by decide +kernel
theorem md_M_order_171 : decode mc_M_order 171 = .ok (.iload_n 3, 1) := by decide +kernel
theorem md_M_order_172 : decode mc_M_order 172 = .ok (.iaload, 1) := by decide +kernel
theorem md_M_order_173 : decode mc_M_order 173 = .ok (.imul, 1) := by decide +kernel
theorem md_M_order_174 : decode mc_M_order 174 = .ok (.aload_n 0, 1) := by decide +kernel
theorem md_M_order_175 : decode mc_M_order 175 = .ok (.getfield 16, 3) := by decide +kernel
theorem md_M_order_178 : decode mc_M_order 178 = .ok (.iload_n 3, 1) := by decide +kernel
theorem md_M_order_179 : decode mc_M_order 179 = .ok (.iaload, 1) := by decide +kernel
theorem md_M_order_180 : decode mc_M_order 180 = .ok (.iadd, 1) := by decide +kernel
theorem md_M_order_181 : decode mc_M_order 181 = .ok (.aload_n 0, 1) := by decide +kernel
theorem md_M_order_182 : decode mc_M_order 182 = .ok (.getfield 28, 3) := by decide +kernel
theorem md_M_order_185 : decode mc_M_order 185 = .ok (.iload_n 3, 1) := by decide +kernel
theorem md_M_order_186 : decode mc_M_order 186 = .ok (.baload, 1) := by decide +kernel
theorem md_M_order_187 : decode mc_M_order 187 = .ok (.ifCond .eq 7, 3) := by decide +kernel
theorem md_M_order_190 : decode mc_M_order 190 = .ok (.iconst 2, 1) := by decide +kernel
theorem md_M_order_191 : decode mc_M_order 191 = .ok (.goto 4, 3) := by decide +kernel
theorem md_M_order_194 : decode mc_M_order 194 = .ok (.iconst 0, 1) := by decide +kernel
theorem md_M_order_195 : decode mc_M_order 195 = .ok (.iadd, 1) := by decide +kernel
theorem md_M_order_196 : decode mc_M_order 196 = .ok (.goto 33, 3) := by decide +kernel
theorem md_M_order_199 : decode mc_M_order 199 = .ok (.iload_n 2, 1) := by decide +kernel
theorem md_M_order_200 : decode mc_M_order 200 = .ok (.iconst 1, 1) := by decide +kernel
theorem md_M_order_201 : decode mc_M_order 201 = .ok (.if_icmp .ne 12, 3) := by decide +kernel
theorem md_M_order_204 : decode mc_M_order 204 = .ok (.aload_n 0, 1) := by decide +kernel
theorem md_M_order_205 : decode mc_M_order 205 = .ok (.getfield 19, 3) := by decide +kernel
theorem md_M_order_208 : decode mc_M_order 208 = .ok (.iload_n 3, 1) := by decide +kernel
theorem md_M_order_209 : decode mc_M_order 209 = .ok (.iaload, 1) := by decide +kernel
theorem md_M_order_210 : decode mc_M_order 210 = .ok (.goto 19, 3) := by decide +kernel
theorem md_M_order_213 : decode mc_M_order 213 = .ok (.iload_n 2, 1) := by decide +kernel
theorem md_M_order_214 : decode mc_M_order 214 = .ok (.iconst 2, 1) := by decide +kernel
theorem md_M_order_215 : decode mc_M_order 215 = .ok (.if_icmp .ne 12, 3) := by decide +kernel
theorem md_M_order_218 : decode mc_M_order 218 = .ok (.aload_n 0, 1) := by decide +kernel
theorem md_M_order_219 : decode mc_M_order 219 = .ok (.getfield 22, 3) := by decide +kernel
theorem md_M_order_222 : decode mc_M_order 222 = .ok (.iload_n 3, 1) := by decide +kernel
theorem md_M_order_223 : decode mc_M_order 223 = .ok (.iaload, 1) := by decide +kernel
theorem md_M_order_224 : decode mc_M_order 224 = .ok (.goto 5, 3) := by decide +kernel
theorem md_M_order_227 : decode mc_M_order 227 = .ok (.iload 4, 2) := by decide +kernel
theorem md_M_order_229 : decode mc_M_order 229 = .ok (.ireturn, 1) := by decide +kernel
theorem md_M_fill_0 : decode mc_M_fill 0 = .ok (.aload_n 0, 1) := by decide +kernel
theorem md_M_fill_1 : decode mc_M_fill 1 = .ok (.iload_n 2, 1) := by decide +kernel
theorem md_M_fill_2 : decode mc_M_fill 2 = .ok (.iconst 0, 1) := by decide +kernel
theorem md_M_fill_3 : decode mc_M_fill 3 = .ok (.iconst 3, 1) := by decide +kernel
theorem md_M_fill_4 : decode mc_M_fill 4 = .ok (.invokestatic 109, 3) := by decide +kernel
theorem md_M_fill_7 : decode mc_M_fill 7 = .ok (.ifCond .ne 7, 3) := by decide +kernel
theorem md_M_fill_10 : decode mc_M_fill 10 = .ok (.iconst 1, 1) := by decide +kernel
theorem md_M_fill_11 : decode mc_M_fill 11 = .ok (.goto 26, 3) := by decide +kernel
theorem md_M_fill_14 : decode mc_M_fill 14 = .ok (.iload_n 1, 1) := by decide +kernel
theorem md_M_fill_15 : decode mc_M_fill 15 = .ok (.ifCond .lt 17, 3) := by decide +kernel
theorem md_M_fill_18 : decode mc_M_fill 18 = .ok (.iload_n 1, 1) := by decide +kernel
theorem md_M_fill_19 : decode mc_M_fill 19 = .ok (.bipush 31, 2) := by decide +kernel
theorem md_M_fill_21 : decode mc_M_fill 21 = .ok (.if_icmp .gt 11, 3) := by decide +kernel
theorem md_M_fill_24 : decode mc_M_fill 24 = .ok (.iload_n 1, 1) := by decide +kernel
theorem md_M_fill_25 : decode mc_M_fill 25 = .ok (.aload_n 0, 1) := by decide +kernel
theorem md_M_fill_26 : decode mc_M_fill 26 = .ok (.getfield 58, 3) := by decide +kernel
theorem md_M_fill_29 : decode mc_M_fill 29 = .ok (.if_icmp .lt 7, 3) := by decide +kernel
theorem md_M_fill_32 : decode mc_M_fill 32 = .ok (.iconst 2, 1) := by decide +kernel
theorem md_M_fill_33 : decode mc_M_fill 33 = .ok (.goto 4, 3) := by decide +kernel
theorem md_M_fill_36 : decode mc_M_fill 36 = .ok (.iconst 0, 1) := by decide +kernel
theorem md_M_fill_37 : decode mc_M_fill 37 = .ok (.putfield 44, 3) := by decide +kernel
theorem md_M_fill_40 : decode mc_M_fill 40 = .ok (.aload_n 0, 1) := by decide +kernel
theorem md_M_fill_41 : decode mc_M_fill 41 = .ok (.getfield 44, 3) := by decide +kernel
theorem md_M_fill_44 : decode mc_M_fill 44 = .ok (.ifCond .le 5, 3) := by decide +kernel
theorem md_M_fill_47 : decode mc_M_fill 47 = .ok (.iconst 0, 1) := by decide +kernel
theorem md_M_fill_48 : decode mc_M_fill 48 = .ok (.ireturn, 1) := by decide +kernel
theorem md_M_fill_49 : decode mc_M_fill 49 = .ok (.aload_n 0, 1) := by decide +kernel
theorem md_M_fill_50 : decode mc_M_fill 50 = .ok (.getfield 58, 3) := by decide +kernel
theorem md_M_fill_53 : decode mc_M_fill 53 = .ok (.iconst 1, 1) := by decide +kernel
theorem md_M_fill_54 : decode mc_M_fill 54 = .ok (.isub, 1) := by decide +kernel
theorem md_M_fill_55 : decode mc_M_fill 55 = .ok (.iload_n 1, 1) := by decide +kernel
theorem md_M_fill_56 : decode mc_M_fill 56 = .ok (.isub, 1) := by decide +kernel
theorem md_M_fill_57 : decode mc_M_fill 57 = .ok (.bipush 32, 2) := by decide +kernel
theorem md_M_fill_59 : decode mc_M_fill 59 = .ok (.irem, 1) := by decide +kernel
theorem md_M_fill_60 : decode mc_M_fill 60 = .ok (.istore_n 3, 1) := by decide +kernel
theorem md_M_fill_61 : decode mc_M_fill 61 = .ok (.iload_n 2, 1) := by decide +kernel
theorem md_M_fill_62 : decode mc_M_fill 62 = .ok (.ifCond .ne 12, 3) := by decide +kernel
theorem md_M_fill_65 : decode mc_M_fill 65 = .ok (.aload_n 0, 1) := by decide +kernel
theorem md_M_fill_66 : decode mc_M_fill 66 = .ok (.getfield 32, 3) := by decide +kernel
theorem md_M_fill_69 : decode mc_M_fill 69 = .ok (.iload_n 3, 1) := by decide +kernel
theorem md_M_fill_70 : decode mc_M_fill 70 = .ok (.iaload, 1) := by decide +kernel
theorem md_M_fill_71 : decode mc_M_fill 71 = .ok (.goto 37, 3) := by decide +kernel
theorem md_M_fill_74 : decode mc_M_fill 74 = .ok (.iload_n 2, 1) := by decide +kernel
theorem md_M_fill_75 : decode mc_M_fill 75 = .ok (.iconst 1, 1) := by decide +kernel
theorem md_M_fill_76 : decode mc_M_fill 76 = .ok (.if_icmp .ne 12, 3) := by decide +kernel
theorem md_M_fill_79 : decode mc_M_fill 79 = .ok (.aload_n 0, 1) := by decide +kernel
theorem md_M_fill_80 : decode mc_M_fill 80 = .ok (.getfield 35, 3) := by decide +kernel
theorem md_M_fill_83 : decode mc_M_fill 83 = .ok (.iload_n 3, 1) := by decide +kernel
theorem md_M_fill_84 : decode mc_M_fill 84 = .ok (.iaload, 1) := by decide +kernel
theorem md_M_fill_85 : decode mc_M_fill 85 = .ok (.goto 23, 3) := by decide +kernel
theorem md_M_fill_88 : decode mc_M_fill 88 = .ok (.iload_n 2, 1) := by decide +kernel
theorem md_M_fill_89 : decode mc_M_fill 89 = .ok (.iconst 2, 1) := by decide +kernel
theorem md_M_fill_90 : decode mc_M_fill 90 = .ok (.if_icmp .ne 12, 3) := by decide +kernel
theorem md_M_fill_93 : decode mc_M_fill 93 = .ok (.aload_n 0, 1) := by decide +kernel
theorem md_M_fill_94 : decode mc_M_fill 94 = .ok (.getfield 38, 3) := by decide +kernel
theorem md_M_fill_97 : decode mc_M_fill 97 = .ok (.iload_n 3, 1) := by decide +kernel
theorem md_M_fill_98 : decode mc_M_fill 98 = .ok (.iaload, 1) := by decide +kernel
theorem md_M_fill_99 : decode mc_M_fill 99 = .ok (.goto 9, 3) := by decide +kernel
theorem md_M_fill_102 : decode mc_M_fill 102 = .ok (.aload_n 0, 1) := by decide +kernel
theorem md_M_fill_103 : decode mc_M_fill 103 = .ok (.getfield 41, 3) := by decide +kernel
theorem md_M_fill_106 : decode mc_M_fill 106 = .ok (.iload_n 3, 1) := by decide +kernel
theorem md_M_fill_107 : decode mc_M_fill 107 = .ok (.iaload, 1) := by decide +kernel
theorem md_M_fill_108 : decode mc_M_fill 108 = .ok (.ireturn, 1) := by decide +kernel
theorem md_M_fills_0 : decode mc_M_fills 0 = .ok (.aload_n 0, 1) := by decide +kernel
theorem md_M_fills_1 : decode mc_M_fills 1 = .ok (.iconst 0, 1) := by decide +kernel
theorem md_M_fills_2 : decode mc_M_fills 2 = .ok (.putfield 44, 3) := by decide +kernel
theorem md_M_fills_5 : decode mc_M_fills 5 = .ok (.aload_n 0, 1) := by decide +kernel
theorem md_M_fills_6 : decode mc_M_fills 6 = .ok (.getfield 58, 3) := by decide +kernel
theorem md_M_fills_9 : decode mc_M_fills 9 = .ok (.ireturn, 1) := by decide +kernel
theorem md_M_last_0 : decode mc_M_last 0 = .ok (.aload_n 0, 1) := by decide +kernel
theorem md_M_last_1 : decode mc_M_last 1 = .ok (.iconst 0, 1) := by decide +kernel
theorem md_M_last_2 : decode mc_M_last 2 = .ok (.putfield 44, 3) := by decide +kernel
theorem md_M_last_5 : decode mc_M_last 5 = .ok (.aload_n 0, 1) := by decide +kernel
theorem md_M_last_6 : decode mc_M_last 6 = .ok (.getfield 61, 3) := by decide +kernel
theorem md_M_last_9 : decode mc_M_last 9 = .ok (.ireturn, 1) := by decide +kernel
theorem md_M_turnover_0 : decode mc_M_turnover 0 = .ok (.aload_n 0, 1) := by decide +kernel
theorem md_M_turnover_1 : decode mc_M_turnover 1 = .ok (.iconst 0, 1) := by decide +kernel
theorem md_M_turnover_2 : decode mc_M_turnover 2 = .ok (.putfield 44, 3) := by decide +kernel
theorem md_M_turnover_5 : decode mc_M_turnover 5 = .ok (.aload_n 0, 1) := by decide +kernel
theorem md_M_turnover_6 : decode mc_M_turnover 6 = .ok (.getfield 64, 3) := by decide +kernel
theorem md_M_turnover_9 : decode mc_M_turnover 9 = .ok (.lreturn, 1) := by decide +kernel
theorem md_M_figure_0 : decode mc_M_figure 0 = .ok (.aload_n 0, 1) := by decide +kernel
theorem md_M_figure_1 : decode mc_M_figure 1 = .ok (.iload_n 1, 1) := by decide +kernel
theorem md_M_figure_2 : decode mc_M_figure 2 = .ok (.iconst 0, 1) := by decide +kernel
theorem md_M_figure_3 : decode mc_M_figure 3 = .ok (.iconst 4, 1) := by decide +kernel
theorem md_M_figure_4 : decode mc_M_figure 4 = .ok (.invokestatic 109, 3) := by decide +kernel
theorem md_M_figure_7 : decode mc_M_figure 7 = .ok (.ifCond .eq 7, 3) := by decide +kernel
theorem md_M_figure_10 : decode mc_M_figure 10 = .ok (.iconst 0, 1) := by decide +kernel
theorem md_M_figure_11 : decode mc_M_figure 11 = .ok (.goto 4, 3) := by decide +kernel
theorem md_M_figure_14 : decode mc_M_figure 14 = .ok (.iconst 1, 1) := by decide +kernel
theorem md_M_figure_15 : decode mc_M_figure 15 = .ok (.putfield 44, 3) := by decide +kernel
theorem md_M_figure_18 : decode mc_M_figure 18 = .ok (.iconst 0, 1) := by decide +kernel
theorem md_M_figure_19 : decode mc_M_figure 19 = .ok (.istore_n 2, 1) := by decide +kernel
theorem md_M_figure_20 : decode mc_M_figure 20 = .ok (.iconst 0, 1) := by decide +kernel
theorem md_M_figure_21 : decode mc_M_figure 21 = .ok (.istore_n 3, 1) := by decide +kernel
theorem md_M_figure_22 : decode mc_M_figure 22 = .ok (.iload_n 3, 1) := by decide +kernel
theorem md_M_figure_23 : decode mc_M_figure 23 = .ok (.aload_n 0, 1) := by decide +kernel
theorem md_M_figure_24 : decode mc_M_figure 24 = .ok (.getfield 48, 3) := by decide +kernel
theorem md_M_figure_27 : decode mc_M_figure 27 = .ok (.if_icmp .ge 26, 3) := by decide +kernel
theorem md_M_figure_30 : decode mc_M_figure 30 = .ok (.iload_n 2, 1) := by decide +kernel
theorem md_M_figure_31 : decode mc_M_figure 31 = .ok (.aload_n 0, 1) := by decide +kernel
theorem md_M_figure_32 : decode mc_M_figure 32 = .ok (.getfield 28, 3) := by decide +kernel
theorem md_M_figure_35 : decode mc_M_figure 35 = .ok (.iload_n 3, 1) := by decide +kernel
theorem md_M_figure_36 : decode mc_M_figure 36 = .ok (.baload, 1) := by decide +kernel
theorem md_M_figure_37 : decode mc_M_figure 37 = .ok (.ifCond .eq 7, 3) := by decide +kernel
theorem md_M_figure_40 : decode mc_M_figure 40 = .ok (.iconst 1, 1) := by decide +kernel
theorem md_M_figure_41 : decode mc_M_figure 41 = .ok (.goto 4, 3) := by decide +kernel
theorem md_M_figure_44 : decode mc_M_figure 44 = .ok (.iconst 0, 1) := by decide +kernel
theorem md_M_figure_45 : decode mc_M_figure 45 = .ok (.iadd, 1) := by decide +kernel
theorem md_M_figure_46 : decode mc_M_figure 46 = .ok (.istore_n 2, 1) := by decide +kernel
theorem md_M_figure_47 : decode mc_M_figure 47 = .ok (.iinc 3 1, 3) := by decide +kernel
theorem md_M_figure_50 : decode mc_M_figure 50 = .ok (.goto (-28), 3) := by decide +kernel
theorem md_M_figure_53 : decode mc_M_figure 53 = .ok (.iload_n 1, 1) := by decide +kernel
theorem md_M_figure_54 : decode mc_M_figure 54 = .ok (.tableswitch 56 0 4 #[34, 39, 41, 46, 51], 34) := by decide +kernel
theorem md_M_figure_88 : decode mc_M_figure 88 = .ok (.aload_n 0, 1) := by decide +kernel
theorem md_M_figure_89 : decode mc_M_figure 89 = .ok (.getfield 48, 3) := by decide +kernel
theorem md_M_figure_92 : decode mc_M_figure 92 = .ok (.ireturn, 1) := by decide +kernel
theorem md_M_figure_93 : decode mc_M_figure 93 = .ok (.iload_n 2, 1) := by decide +kernel
theorem md_M_figure_94 : decode mc_M_figure 94 = .ok (.ireturn, 1) := by decide +kernel
theorem md_M_figure_95 : decode mc_M_figure 95 = .ok (.aload_n 0, 1) := by decide +kernel
theorem md_M_figure_96 : decode mc_M_figure 96 = .ok (.getfield 98, 3) := by decide +kernel
theorem md_M_figure_99 : decode mc_M_figure 99 = .ok (.ireturn, 1) := by decide +kernel
theorem md_M_figure_100 : decode mc_M_figure 100 = .ok (.aload_n 0, 1) := by decide +kernel
theorem md_M_figure_101 : decode mc_M_figure 101 = .ok (.getfield 83, 3) := by decide +kernel
theorem md_M_figure_104 : decode mc_M_figure 104 = .ok (.ireturn, 1) := by decide +kernel
theorem md_M_figure_105 : decode mc_M_figure 105 = .ok (.aload_n 0, 1) := by decide +kernel
theorem md_M_figure_106 : decode mc_M_figure 106 = .ok (.getfield 68, 3) := by decide +kernel
theorem md_M_figure_109 : decode mc_M_figure 109 = .ok (.ireturn, 1) := by decide +kernel
theorem md_M_figure_110 : decode mc_M_figure 110 = .ok (.iconst 0, 1) := by decide +kernel
theorem md_M_figure_111 : decode mc_M_figure 111 = .ok (.ireturn, 1) := by decide +kernel
