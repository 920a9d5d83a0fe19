/-! decode rows -/
theorem md_L_submit_0 : decode mc_L_submit 0 = .ok (.aload 5, 2) := by decide +kernel
theorem md_L_submit_2 : decode mc_L_submit 2 = .ok (.iconst 0, 1) := by decide +kernel
theorem md_L_submit_3 : decode mc_L_submit 3 = .ok (.aload_n 0, 1) := by decide +kernel
theorem md_L_submit_4 : decode mc_L_submit 4 = .ok (.iload_n 1, 1) := by decide +kernel
theorem md_L_submit_5 : decode mc_L_submit 5 = .ok (.iload_n 2, 1) := by decide +kernel
theorem md_L_submit_6 : decode mc_L_submit 6 = .ok (.iload_n 3, 1) := by decide +kernel
theorem md_L_submit_7 : decode mc_L_submit 7 = .ok (.iload 4, 2) := by decide +kernel
theorem md_L_submit_9 : decode mc_L_submit 9 = .ok (.invokevirtual 7, 3) := by decide +kernel
theorem md_L_submit_12 : decode mc_L_submit 12 = .ok (.i2l, 1) := by decide +kernel
theorem md_L_submit_13 : decode mc_L_submit 13 = .ok (.lastore, 1) := by decide +kernel
theorem md_L_submit_14 : decode mc_L_submit 14 = .ok (.goto 11, 3) := by decide +kernel
theorem md_L_submit_17 : decode mc_L_submit 17 = .ok (.astore 6, 2) := by decide +kernel
theorem md_L_submit_19 : decode mc_L_submit 19 = .ok (.iconst 1, 1) := by decide +kernel
theorem md_L_submit_20 : decode mc_L_submit 20 = .ok (.ireturn, 1) := by decide +kernel
theorem md_L_submit_21 : decode mc_L_submit 21 = .ok (.astore 6, 2) := by decide +kernel
theorem md_L_submit_23 : decode mc_L_submit 23 = .ok (.iconst 2, 1) := by decide +kernel
theorem md_L_submit_24 : decode mc_L_submit 24 = .ok (.ireturn, 1) := by decide +kernel
theorem md_L_submit_25 : decode mc_L_submit 25 = .ok (.iconst 0, 1) := by decide +kernel
theorem md_L_submit_26 : decode mc_L_submit 26 = .ok (.ireturn, 1) := by decide +kernel
theorem md_L_cancel_0 : decode mc_L_cancel 0 = .ok (.aload_n 2, 1) := by decide +kernel
theorem md_L_cancel_1 : decode mc_L_cancel 1 = .ok (.iconst 0, 1) := by decide +kernel
theorem md_L_cancel_2 : decode mc_L_cancel 2 = .ok (.aload_n 0, 1) := by decide +kernel
theorem md_L_cancel_3 : decode mc_L_cancel 3 = .ok (.iload_n 1, 1) := by decide +kernel
theorem md_L_cancel_4 : decode mc_L_cancel 4 = .ok (.invokevirtual 17, 3) := by decide +kernel
theorem md_L_cancel_7 : decode mc_L_cancel 7 = .ok (.i2l, 1) := by decide +kernel
theorem md_L_cancel_8 : decode mc_L_cancel 8 = .ok (.lastore, 1) := by decide +kernel
theorem md_L_cancel_9 : decode mc_L_cancel 9 = .ok (.goto 6, 3) := by decide +kernel
theorem md_L_cancel_12 : decode mc_L_cancel 12 = .ok (.astore_n 3, 1) := by decide +kernel
theorem md_L_cancel_13 : decode mc_L_cancel 13 = .ok (.iconst 1, 1) := by decide +kernel
theorem md_L_cancel_14 : decode mc_L_cancel 14 = .ok (.ireturn, 1) := by decide +kernel
theorem md_L_cancel_15 : decode mc_L_cancel 15 = .ok (.iconst 0, 1) := by decide +kernel
theorem md_L_cancel_16 : decode mc_L_cancel 16 = .ok (.ireturn, 1) := by decide +kernel
theorem md_L_amend_0 : decode mc_L_amend 0 = .ok (.aload 4, 2) := by decide +kernel
theorem md_L_amend_2 : decode mc_L_amend 2 = .ok (.iconst 0, 1) := by decide +kernel
theorem md_L_amend_3 : decode mc_L_amend 3 = .ok (.aload_n 0, 1) := by decide +kernel
theorem md_L_amend_4 : decode mc_L_amend 4 = .ok (.iload_n 1, 1) := by decide +kernel
theorem md_L_amend_5 : decode mc_L_amend 5 = .ok (.iload_n 2, 1) := by decide +kernel
theorem md_L_amend_6 : decode mc_L_amend 6 = .ok (.iload_n 3, 1) := by decide +kernel
theorem md_L_amend_7 : decode mc_L_amend 7 = .ok (.invokevirtual 23, 3) := by decide +kernel
theorem md_L_amend_10 : decode mc_L_amend 10 = .ok (.i2l, 1) := by decide +kernel
theorem md_L_amend_11 : decode mc_L_amend 11 = .ok (.lastore, 1) := by decide +kernel
theorem md_L_amend_12 : decode mc_L_amend 12 = .ok (.goto 11, 3) := by decide +kernel
theorem md_L_amend_15 : decode mc_L_amend 15 = .ok (.astore 5, 2) := by decide +kernel
theorem md_L_amend_17 : decode mc_L_amend 17 = .ok (.iconst 1, 1) := by decide +kernel
theorem md_L_amend_18 : decode mc_L_amend 18 = .ok (.ireturn, 1) := by decide +kernel
theorem md_L_amend_19 : decode mc_L_amend 19 = .ok (.astore 5, 2) := by decide +kernel
theorem md_L_amend_21 : decode mc_L_amend 21 = .ok (.iconst 2, 1) := by decide +kernel
theorem md_L_amend_22 : decode mc_L_amend 22 = .ok (.ireturn, 1) := by decide +kernel
theorem md_L_amend_23 : decode mc_L_amend 23 = .ok (.iconst 0, 1) := by decide +kernel
theorem md_L_amend_24 : decode mc_L_amend 24 = .ok (.ireturn, 1) := by decide +kernel
theorem md_L_withdraw_0 : decode mc_L_withdraw 0 = .ok (.aload_n 2, 1) := by decide +kernel
theorem md_L_withdraw_1 : decode mc_L_withdraw 1 = .ok (.iconst 0, 1) := by decide +kernel
theorem md_L_withdraw_2 : decode mc_L_withdraw 2 = .ok (.aload_n 0, 1) := by decide +kernel
theorem md_L_withdraw_3 : decode mc_L_withdraw 3 = .ok (.iload_n 1, 1) := by decide +kernel
theorem md_L_withdraw_4 : decode mc_L_withdraw 4 = .ok (.invokevirtual 27, 3) := by decide +kernel
theorem md_L_withdraw_7 : decode mc_L_withdraw 7 = .ok (.i2l, 1) := by decide +kernel
theorem md_L_withdraw_8 : decode mc_L_withdraw 8 = .ok (.lastore, 1) := by decide +kernel
theorem md_L_withdraw_9 : decode mc_L_withdraw 9 = .ok (.goto 6, 3) := by decide +kernel
theorem md_L_withdraw_12 : decode mc_L_withdraw 12 = .ok (.astore_n 3, 1) := by decide +kernel
theorem md_L_withdraw_13 : decode mc_L_withdraw 13 = .ok (.iconst 1, 1) := by decide +kernel
theorem md_L_withdraw_14 : decode mc_L_withdraw 14 = .ok (.ireturn, 1) := by decide +kernel
theorem md_L_withdraw_15 : decode mc_L_withdraw 15 = .ok (.iconst 0, 1) := by decide +kernel
theorem md_L_withdraw_16 : decode mc_L_withdraw 16 = .ok (.ireturn, 1) := by decide +kernel
theorem md_L_levels_0 : decode mc_L_levels 0 = .ok (.aload_n 2, 1) := by decide +kernel
theorem md_L_levels_1 : decode mc_L_levels 1 = .ok (.iconst 0, 1) := by decide +kernel
theorem md_L_levels_2 : decode mc_L_levels 2 = .ok (.aload_n 0, 1) := by decide +kernel
theorem md_L_levels_3 : decode mc_L_levels 3 = .ok (.iload_n 1, 1) := by decide +kernel
theorem md_L_levels_4 : decode mc_L_levels 4 = .ok (.invokevirtual 30, 3) := by decide +kernel
theorem md_L_levels_7 : decode mc_L_levels 7 = .ok (.i2l, 1) := by decide +kernel
theorem md_L_levels_8 : decode mc_L_levels 8 = .ok (.lastore, 1) := by decide +kernel
theorem md_L_levels_9 : decode mc_L_levels 9 = .ok (.goto 6, 3) := by decide +kernel
theorem md_L_levels_12 : decode mc_L_levels 12 = .ok (.astore_n 3, 1) := by decide +kernel
theorem md_L_levels_13 : decode mc_L_levels 13 = .ok (.iconst 1, 1) := by decide +kernel
theorem md_L_levels_14 : decode mc_L_levels 14 = .ok (.ireturn, 1) := by decide +kernel
theorem md_L_levels_15 : decode mc_L_levels 15 = .ok (.iconst 0, 1) := by decide +kernel
theorem md_L_levels_16 : decode mc_L_levels 16 = .ok (.ireturn, 1) := by decide +kernel
theorem md_L_level_0 : decode mc_L_level 0 = .ok (.aload 4, 2) := by decide +kernel
theorem md_L_level_2 : decode mc_L_level 2 = .ok (.iconst 0, 1) := by decide +kernel
theorem md_L_level_3 : decode mc_L_level 3 = .ok (.aload_n 0, 1) := by decide +kernel
theorem md_L_level_4 : decode mc_L_level 4 = .ok (.iload_n 1, 1) := by decide +kernel
theorem md_L_level_5 : decode mc_L_level 5 = .ok (.iload_n 2, 1) := by decide +kernel
theorem md_L_level_6 : decode mc_L_level 6 = .ok (.iload_n 3, 1) := by decide +kernel
theorem md_L_level_7 : decode mc_L_level 7 = .ok (.invokevirtual 33, 3) := by decide +kernel
theorem md_L_level_10 : decode mc_L_level 10 = .ok (.i2l, 1) := by decide +kernel
theorem md_L_level_11 : decode mc_L_level 11 = .ok (.lastore, 1) := by decide +kernel
theorem md_L_level_12 : decode mc_L_level 12 = .ok (.goto 11, 3) := by decide +kernel
theorem md_L_level_15 : decode mc_L_level 15 = .ok (.astore 5, 2) := by decide +kernel
theorem md_L_level_17 : decode mc_L_level 17 = .ok (.iconst 1, 1) := by decide +kernel
theorem md_L_level_18 : decode mc_L_level 18 = .ok (.ireturn, 1) := by decide +kernel
theorem md_L_level_19 : decode mc_L_level 19 = .ok (.astore 5, 2) := by decide +kernel
theorem md_L_level_21 : decode mc_L_level 21 = .ok (.iconst 2, 1) := by decide +kernel
theorem md_L_level_22 : decode mc_L_level 22 = .ok (.ireturn, 1) := by decide +kernel
theorem md_L_level_23 : decode mc_L_level 23 = .ok (.iconst 0, 1) := by decide +kernel
theorem md_L_level_24 : decode mc_L_level 24 = .ok (.ireturn, 1) := by decide +kernel
theorem md_L_order_0 : decode mc_L_order 0 = .ok (.aload_n 3, 1) := by decide +kernel
theorem md_L_order_1 : decode mc_L_order 1 = .ok (.iconst 0, 1) := by decide +kernel
theorem md_L_order_2 : decode mc_L_order 2 = .ok (.aload_n 0, 1) := by decide +kernel
theorem md_L_order_3 : decode mc_L_order 3 = .ok (.iload_n 1, 1) := by decide +kernel
theorem md_L_order_4 : decode mc_L_order 4 = .ok (.iload_n 2, 1) := by decide +kernel
theorem md_L_order_5 : decode mc_L_order 5 = .ok (.invokevirtual 38, 3) := by decide +kernel
theorem md_L_order_8 : decode mc_L_order 8 = .ok (.i2l, 1) := by decide +kernel
theorem md_L_order_9 : decode mc_L_order 9 = .ok (.lastore, 1) := by decide +kernel
theorem md_L_order_10 : decode mc_L_order 10 = .ok (.goto 11, 3) := by decide +kernel
theorem md_L_order_13 : decode mc_L_order 13 = .ok (.astore 4, 2) := by decide +kernel
theorem md_L_order_15 : decode mc_L_order 15 = .ok (.iconst 1, 1) := by decide +kernel
theorem md_L_order_16 : decode mc_L_order 16 = .ok (.ireturn, 1) := by decide +kernel
theorem md_L_order_17 : decode mc_L_order 17 = .ok (.astore 4, 2) := by decide +kernel
theorem md_L_order_19 : decode mc_L_order 19 = .ok (.iconst 2, 1) := by decide +kernel
theorem md_L_order_20 : decode mc_L_order 20 = .ok (.ireturn, 1) := by decide +kernel
theorem md_L_order_21 : decode mc_L_order 21 = .ok (.iconst 0, 1) := by decide +kernel
theorem md_L_order_22 : decode mc_L_order 22 = .ok (.ireturn, 1) := by decide +kernel
theorem md_L_fill_0 : decode mc_L_fill 0 = .ok (.aload_n 3, 1) := by decide +kernel
theorem md_L_fill_1 : decode mc_L_fill 1 = .ok (.iconst 0, 1) := by decide +kernel
theorem md_L_fill_2 : decode mc_L_fill 2 = .ok (.aload_n 0, 1) := by decide +kernel
theorem md_L_fill_3 : decode mc_L_fill 3 = .ok (.iload_n 1, 1) := by decide +kernel
theorem md_L_fill_4 : decode mc_L_fill 4 = .ok (.iload_n 2, 1) := by decide +kernel
theorem md_L_fill_5 : decode mc_L_fill 5 = .ok (.invokevirtual 42, 3) := by decide +kernel
theorem md_L_fill_8 : decode mc_L_fill 8 = .ok (.i2l, 1) := by decide +kernel
theorem md_L_fill_9 : decode mc_L_fill 9 = .ok (.lastore, 1) := by decide +kernel
theorem md_L_fill_10 : decode mc_L_fill 10 = .ok (.goto 11, 3) := by decide +kernel
theorem md_L_fill_13 : decode mc_L_fill 13 = .ok (.astore 4, 2) := by decide +kernel
theorem md_L_fill_15 : decode mc_L_fill 15 = .ok (.iconst 1, 1) := by decide +kernel
theorem md_L_fill_16 : decode mc_L_fill 16 = .ok (.ireturn, 1) := by decide +kernel
theorem md_L_fill_17 : decode mc_L_fill 17 = .ok (.astore 4, 2) := by decide +kernel
theorem md_L_fill_19 : decode mc_L_fill 19 = .ok (.iconst 2, 1) := by decide +kernel
theorem md_L_fill_20 : decode mc_L_fill 20 = .ok (.ireturn, 1) := by decide +kernel
theorem md_L_fill_21 : decode mc_L_fill 21 = .ok (.iconst 0, 1) := by decide +kernel
theorem md_L_fill_22 : decode mc_L_fill 22 = .ok (.ireturn, 1) := by decide +kernel
theorem md_L_figure_0 : decode mc_L_figure 0 = .ok (.aload_n 2, 1) := by decide +kernel
theorem md_L_figure_1 : decode mc_L_figure 1 = .ok (.iconst 0, 1) := by decide +kernel
theorem md_L_figure_2 : decode mc_L_figure 2 = .ok (.aload_n 0, 1) := by decide +kernel
theorem md_L_figure_3 : decode mc_L_figure 3 = .ok (.iload_n 1, 1) := by decide +kernel
theorem md_L_figure_4 : decode mc_L_figure 4 = .ok (.invokevirtual 45, 3) := by decide +kernel
theorem md_L_figure_7 : decode mc_L_figure 7 = .ok (.i2l, 1) := by decide +kernel
theorem md_L_figure_8 : decode mc_L_figure 8 = .ok (.lastore, 1) := by decide +kernel
theorem md_L_figure_9 : decode mc_L_figure 9 = .ok (.goto 6, 3) := by decide +kernel
theorem md_L_figure_12 : decode mc_L_figure 12 = .ok (.astore_n 3, 1) := by decide +kernel
theorem md_L_figure_13 : decode mc_L_figure 13 = .ok (.iconst 1, 1) := by decide +kernel
theorem md_L_figure_14 : decode mc_L_figure 14 = .ok (.ireturn, 1) := by decide +kernel
theorem md_L_figure_15 : decode mc_L_figure 15 = .ok (.iconst 0, 1) := by decide +kernel
theorem md_L_figure_16 : decode mc_L_figure 16 = .ok (.ireturn, 1) := by decide +kernel
theorem md_L_law_0 : decode mc_L_law 0 = .ok (.new 8, 3) := by decide +kernel
theorem md_L_law_3 : decode mc_L_law 3 = .ok (.dup, 1) := by decide +kernel
theorem md_L_law_4 : decode mc_L_law 4 = .ok (.invokespecial 48, 3) := by decide +kernel
theorem md_L_law_7 : decode mc_L_law 7 = .ok (.astore_n 1, 1) := by decide +kernel
theorem md_L_law_8 : decode mc_L_law 8 = .ok (.new 49, 3) := by decide +kernel
theorem md_L_law_11 : decode mc_L_law 11 = .ok (.dup, 1) := by decide +kernel
theorem md_L_law_12 : decode mc_L_law 12 = .ok (.invokespecial 51, 3) := by decide +kernel
theorem md_L_law_15 : decode mc_L_law 15 = .ok (.astore_n 2, 1) := by decide +kernel
theorem md_L_law_16 : decode mc_L_law 16 = .ok (.iconst 1, 1) := by decide +kernel
theorem md_L_law_17 : decode mc_L_law 17 = .ok (.newarray .long, 2) := by decide +kernel
theorem md_L_law_19 : decode mc_L_law 19 = .ok (.astore_n 3, 1) := by decide +kernel
theorem md_L_law_20 : decode mc_L_law 20 = .ok (.iconst 0, 1) := by decide +kernel
theorem md_L_law_21 : decode mc_L_law 21 = .ok (.istore 4, 2) := by decide +kernel
theorem md_L_law_23 : decode mc_L_law 23 = .ok (.iload 4, 2) := by decide +kernel
theorem md_L_law_25 : decode mc_L_law 25 = .ok (.aload_n 0, 1) := by decide +kernel
theorem md_L_law_26 : decode mc_L_law 26 = .ok (.arraylength, 1) := by decide +kernel
theorem md_L_law_27 : decode mc_L_law 27 = .ok (.iconst 5, 1) := by decide +kernel
theorem md_L_law_28 : decode mc_L_law 28 = .ok (.isub, 1) := by decide +kernel
theorem md_L_law_29 : decode mc_L_law 29 = .ok (.if_icmp .gt 729, 3) := by decide +kernel
theorem md_L_law_32 : decode mc_L_law 32 = .ok (.aload_n 0, 1) := by decide +kernel
theorem md_L_law_33 : decode mc_L_law 33 = .ok (.iload 4, 2) := by decide +kernel
theorem md_L_law_35 : decode mc_L_law 35 = .ok (.iaload, 1) := by decide +kernel
theorem md_L_law_36 : decode mc_L_law 36 = .ok (.bipush 15, 2) := by decide +kernel
theorem md_L_law_38 : decode mc_L_law 38 = .ok (.iand, 1) := by decide +kernel
theorem md_L_law_39 : decode mc_L_law 39 = .ok (.tableswitch 713 0 11 #[61, 153, 209, 289, 345, 401, 481, 549, 617, 630, 643, 657], 61) := by decide +kernel
theorem md_L_law_100 : decode mc_L_law 100 = .ok (.aload_n 1, 1) := by decide +kernel
theorem md_L_law_101 : decode mc_L_law 101 = .ok (.aload_n 0, 1) := by decide +kernel
theorem md_L_law_102 : decode mc_L_law 102 = .ok (.iload 4, 2) := by decide +kernel
theorem md_L_law_104 : decode mc_L_law 104 = .ok (.iconst 1, 1) := by decide +kernel
theorem md_L_law_105 : decode mc_L_law 105 = .ok (.iadd, 1) := by decide +kernel
theorem md_L_law_106 : decode mc_L_law 106 = .ok (.iaload, 1) := by decide +kernel
theorem md_L_law_107 : decode mc_L_law 107 = .ok (.aload_n 0, 1) := by decide +kernel
theorem md_L_law_108 : decode mc_L_law 108 = .ok (.iload 4, 2) := by decide +kernel
theorem md_L_law_110 : decode mc_L_law 110 = .ok (.iconst 2, 1) := by decide +kernel
theorem md_L_law_111 : decode mc_L_law 111 = .ok (.iadd, 1) := by decide +kernel
theorem md_L_law_112 : decode mc_L_law 112 = .ok (.iaload, 1) := by decide +kernel
theorem md_L_law_113 : decode mc_L_law 113 = .ok (.aload_n 0, 1) := by decide +kernel
theorem md_L_law_114 : decode mc_L_law 114 = .ok (.iload 4, 2) := by decide +kernel
theorem md_L_law_116 : decode mc_L_law 116 = .ok (.iconst 3, 1) := by decide +kernel
theorem md_L_law_117 : decode mc_L_law 117 = .ok (.iadd, 1) := by decide +kernel
theorem md_L_law_118 : decode mc_L_law 118 = .ok (.iaload, 1) := by decide +kernel
theorem md_L_law_119 : decode mc_L_law 119 = .ok (.aload_n 0, 1) := by decide +kernel
theorem md_L_law_120 : decode mc_L_law 120 = .ok (.iload 4, 2) := by decide +kernel
theorem md_L_law_122 : decode mc_L_law 122 = .ok (.iconst 4, 1) := by decide +kernel
theorem md_L_law_123 : decode mc_L_law 123 = .ok (.iadd, 1) := by decide +kernel
theorem md_L_law_124 : decode mc_L_law 124 = .ok (.iaload, 1) := by decide +kernel
theorem md_L_law_125 : decode mc_L_law 125 = .ok (.aload_n 3, 1) := by decide +kernel
theorem md_L_law_126 : decode mc_L_law 126 = .ok (.invokestatic 52, 3) := by decide +kernel
theorem md_L_law_129 : decode mc_L_law 129 = .ok (.istore 5, 2) := by decide +kernel
theorem md_L_law_131 : decode mc_L_law 131 = .ok (.aload_n 2, 1) := by decide +kernel
theorem md_L_law_132 : decode mc_L_law 132 = .ok (.aload_n 0, 1) := by decide +kernel
theorem md_L_law_133 : decode mc_L_law 133 = .ok (.iload 4, 2) := by decide +kernel
theorem md_L_law_135 : decode mc_L_law 135 = .ok (.iconst 1, 1) := by decide +kernel
theorem md_L_law_136 : decode mc_L_law 136 = .ok (.iadd, 1) := by decide +kernel
theorem md_L_law_137 : decode mc_L_law 137 = .ok (.iaload, 1) := by decide +kernel
theorem md_L_law_138 : decode mc_L_law 138 = .ok (.aload_n 0, 1) := by decide +kernel
theorem md_L_law_139 : decode mc_L_law 139 = .ok (.iload 4, 2) := by decide +kernel
theorem md_L_law_141 : decode mc_L_law 141 = .ok (.iconst 2, 1) := by decide +kernel
theorem md_L_law_142 : decode mc_L_law 142 = .ok (.iadd, 1) := by decide +kernel
theorem md_L_law_143 : decode mc_L_law 143 = .ok (.iaload, 1) := by decide +kernel
theorem md_L_law_144 : decode mc_L_law 144 = .ok (.aload_n 0, 1) := by decide +kernel
theorem md_L_law_145 : decode mc_L_law 145 = .ok (.iload 4, 2) := by decide +kernel
theorem md_L_law_147 : decode mc_L_law 147 = .ok (.iconst 3, 1) := by decide +kernel
theorem md_L_law_148 : decode mc_L_law 148 = .ok (.iadd, 1) := by decide +kernel
theorem md_L_law_149 : decode mc_L_law 149 = .ok (.iaload, 1) := by decide +kernel
theorem md_L_law_150 : decode mc_L_law 150 = .ok (.aload_n 0, 1) := by decide +kernel
theorem md_L_law_151 : decode mc_L_law 151 = .ok (.iload 4, 2) := by decide +kernel
theorem md_L_law_153 : decode mc_L_law 153 = .ok (.iconst 4, 1) := by decide +kernel
theorem md_L_law_154 : decode mc_L_law 154 = .ok (.iadd, 1) := by decide +kernel
theorem md_L_law_155 : decode mc_L_law 155 = .ok (.iaload, 1) := by decide +kernel
theorem md_L_law_156 : decode mc_L_law 156 = .ok (.invokevirtual 57, 3) := by decide +kernel
theorem md_L_law_159 : decode mc_L_law 159 = .ok (.istore 6, 2) := by decide +kernel
theorem md_L_law_161 : decode mc_L_law 161 = .ok (.aload_n 2, 1) := by decide +kernel
theorem md_L_law_162 : decode mc_L_law 162 = .ok (.invokevirtual 58, 3) := by decide +kernel
theorem md_L_law_165 : decode mc_L_law 165 = .ok (.iload 5, 2) := by decide +kernel
theorem md_L_law_167 : decode mc_L_law 167 = .ok (.if_icmp .eq 5, 3) := by decide +kernel
theorem md_L_law_170 : decode mc_L_law 170 = .ok (.iconst 0, 1) := by decide +kernel
theorem md_L_law_171 : decode mc_L_law 171 = .ok (.ireturn, 1) := by decide +kernel
theorem md_L_law_172 : decode mc_L_law 172 = .ok (.iload 5, 2) := by decide +kernel
theorem md_L_law_174 : decode mc_L_law 174 = .ok (.ifCond .ne 15, 3) := by decide +kernel
theorem md_L_law_177 : decode mc_L_law 177 = .ok (.aload_n 3, 1) := by decide +kernel
theorem md_L_law_178 : decode mc_L_law 178 = .ok (.iconst 0, 1) := by decide +kernel
theorem md_L_law_179 : decode mc_L_law 179 = .ok (.laload, 1) := by decide +kernel
theorem md_L_law_180 : decode mc_L_law 180 = .ok (.iload 6, 2) := by decide +kernel
theorem md_L_law_182 : decode mc_L_law 182 = .ok (.i2l, 1) := by decide +kernel
theorem md_L_law_183 : decode mc_L_law 183 = .ok (.lcmp, 1) := by decide +kernel
theorem md_L_law_184 : decode mc_L_law 184 = .ok (.ifCond .eq 5, 3) := by decide +kernel
theorem md_L_law_187 : decode mc_L_law 187 = .ok (.iconst 0, 1) := by decide +kernel
theorem md_L_law_188 : decode mc_L_law 188 = .ok (.ireturn, 1) := by decide +kernel
theorem md_L_law_189 : decode mc_L_law 189 = .ok (.goto 563, 3) := by decide +kernel
theorem md_L_law_192 : decode mc_L_law 192 = .ok (.aload_n 1, 1) := by decide +kernel
theorem md_L_law_193 : decode mc_L_law 193 = .ok (.aload_n 0, 1) := by decide +kernel
theorem md_L_law_194 : decode mc_L_law 194 = .ok (.iload 4, 2) := by decide +kernel
theorem md_L_law_196 : decode mc_L_law 196 = .ok (.iconst 1, 1) := by decide +kernel
theorem md_L_law_197 : decode mc_L_law 197 = .ok (.iadd, 1) := by decide +kernel
theorem md_L_law_198 : decode mc_L_law 198 = .ok (.iaload, 1) := by decide +kernel
theorem md_L_law_199 : decode mc_L_law 199 = .ok (.aload_n 3, 1) := by decide +kernel
theorem md_L_law_200 : decode mc_L_law 200 = .ok (.invokestatic 62, 3) := by decide +kernel
theorem md_L_law_203 : decode mc_L_law 203 = .ok (.istore 5, 2) := by decide +kernel
theorem md_L_law_205 : decode mc_L_law 205 = .ok (.aload_n 2, 1) := by decide +kernel
theorem md_L_law_206 : decode mc_L_law 206 = .ok (.aload_n 0, 1) := by decide +kernel
theorem md_L_law_207 : decode mc_L_law 207 = .ok (.iload 4, 2) := by decide +kernel
theorem md_L_law_209 : decode mc_L_law 209 = .ok (.iconst 1, 1) := by decide +kernel
theorem md_L_law_210 : decode mc_L_law 210 = .ok (.iadd, 1) := by decide +kernel
theorem md_L_law_211 : decode mc_L_law 211 = .ok (.iaload, 1) := by decide +kernel
theorem md_L_law_212 : decode mc_L_law 212 = .ok (.invokevirtual 65, 3) := by decide +kernel
theorem md_L_law_215 : decode mc_L_law 215 = .ok (.istore 6, 2) := by decide +kernel
theorem md_L_law_217 : decode mc_L_law 217 = .ok (.aload_n 2, 1) := by decide +kernel
theorem md_L_law_218 : decode mc_L_law 218 = .ok (.invokevirtual 58, 3) := by decide +kernel
theorem md_L_law_221 : decode mc_L_law 221 = .ok (.iload 5, 2) := by decide +kernel
theorem md_L_law_223 : decode mc_L_law 223 = .ok (.if_icmp .eq 5, 3) := by decide +kernel
theorem md_L_law_226 : decode mc_L_law 226 = .ok (.iconst 0, 1) := by decide +kernel
theorem md_L_law_227 : decode mc_L_law 227 = .ok (.ireturn, 1) := by decide +kernel
theorem md_L_law_228 : decode mc_L_law 228 = .ok (.iload 5, 2) := by decide +kernel
theorem md_L_law_230 : decode mc_L_law 230 = .ok (.ifCond .ne 15, 3) := by decide +kernel
theorem md_L_law_233 : decode mc_L_law 233 = .ok (.aload_n 3, 1) := by decide +kernel
theorem md_L_law_234 : decode mc_L_law 234 = .ok (.iconst 0, 1) := by decide +kernel
theorem md_L_law_235 : decode mc_L_law 235 = .ok (.laload, 1) := by decide +kernel
theorem md_L_law_236 : decode mc_L_law 236 = .ok (.iload 6, 2) := by decide +kernel
theorem md_L_law_238 : decode mc_L_law 238 = .ok (.i2l, 1) := by decide +kernel
theorem md_L_law_239 : decode mc_L_law 239 = .ok (.lcmp, 1) := by decide +kernel
theorem md_L_law_240 : decode mc_L_law 240 = .ok (.ifCond .eq 5, 3) := by decide +kernel
theorem md_L_law_243 : decode mc_L_law 243 = .ok (.iconst 0, 1) := by decide +kernel
theorem md_L_law_244 : decode mc_L_law 244 = .ok (.ireturn, 1) := by decide +kernel
theorem md_L_law_245 : decode mc_L_law 245 = .ok (.goto 507, 3) := by decide +kernel
theorem md_L_law_248 : decode mc_L_law 248 = .ok (.aload_n 1, 1) := by decide +kernel
theorem md_L_law_249 : decode mc_L_law 249 = .ok (.aload_n 0, 1) := by decide +kernel
theorem md_L_law_250 : decode mc_L_law 250 = .ok (.iload 4, 2) := by decide +kernel
theorem md_L_law_252 : decode mc_L_law 252 = .ok (.iconst 1, 1) := by decide +kernel
theorem md_L_law_253 : decode mc_L_law 253 = .ok (.iadd, 1) := by decide +kernel
theorem md_L_law_254 : decode mc_L_law 254 = .ok (.iaload, 1) := by decide +kernel
theorem md_L_law_255 : decode mc_L_law 255 = .ok (.aload_n 0, 1) := by decide +kernel
theorem md_L_law_256 : decode mc_L_law 256 = .ok (.iload 4, 2) := by decide +kernel
theorem md_L_law_258 : decode mc_L_law 258 = .ok (.iconst 2, 1) := by decide +kernel
theorem md_L_law_259 : decode mc_L_law 259 = .ok (.iadd, 1) := by decide +kernel
theorem md_L_law_260 : decode mc_L_law 260 = .ok (.iaload, 1) := by decide +kernel
theorem md_L_law_261 : decode mc_L_law 261 = .ok (.aload_n 0, 1) := by decide +kernel
theorem md_L_law_262 : decode mc_L_law 262 = .ok (.iload 4, 2) := by decide +kernel
theorem md_L_law_264 : decode mc_L_law 264 = .ok (.iconst 3, 1) := by decide +kernel
theorem md_L_law_265 : decode mc_L_law 265 = .ok (.iadd, 1) := by decide +kernel
theorem md_L_law_266 : decode mc_L_law 266 = .ok (.iaload, 1) := by decide +kernel
theorem md_L_law_267 : decode mc_L_law 267 = .ok (.aload_n 3, 1) := by decide +kernel
theorem md_L_law_268 : decode mc_L_law 268 = .ok (.invokestatic 66, 3) := by decide +kernel
theorem md_L_law_271 : decode mc_L_law 271 = .ok (.istore 5, 2) := by decide +kernel
theorem md_L_law_273 : decode mc_L_law 273 = .ok (.aload_n 2, 1) := by decide +kernel
theorem md_L_law_274 : decode mc_L_law 274 = .ok (.aload_n 0, 1) := by decide +kernel
theorem md_L_law_275 : decode mc_L_law 275 = .ok (.iload 4, 2) := by decide +kernel
theorem md_L_law_277 : decode mc_L_law 277 = .ok (.iconst 1, 1) := by decide +kernel
theorem md_L_law_278 : decode mc_L_law 278 = .ok (.iadd, 1) := by decide +kernel
theorem md_L_law_279 : decode mc_L_law 279 = .ok (.iaload, 1) := by decide +kernel
theorem md_L_law_280 : decode mc_L_law 280 = .ok (.aload_n 0, 1) := by decide +kernel
theorem md_L_law_281 : decode mc_L_law 281 = .ok (.iload 4, 2) := by decide +kernel
theorem md_L_law_283 : decode mc_L_law 283 = .ok (.iconst 2, 1) := by decide +kernel
theorem md_L_law_284 : decode mc_L_law 284 = .ok (.iadd, 1) := by decide +kernel
theorem md_L_law_285 : decode mc_L_law 285 = .ok (.iaload, 1) := by decide +kernel
theorem md_L_law_286 : decode mc_L_law 286 = .ok (.aload_n 0, 1) := by decide +kernel
theorem md_L_law_287 : decode mc_L_law 287 = .ok (.iload 4, 2) := by decide +kernel
theorem md_L_law_289 : decode mc_L_law 289 = .ok (.iconst 3, 1) := by decide +kernel
theorem md_L_law_290 : decode mc_L_law 290 = .ok (.iadd, 1) := by decide +kernel
theorem md_L_law_291 : decode mc_L_law 291 = .ok (.iaload, 1) := by decide +kernel
theorem md_L_law_292 : decode mc_L_law 292 = .ok (.invokevirtual 69, 3) := by decide +kernel
theorem md_L_law_295 : decode mc_L_law 295 = .ok (.istore 6, 2) := by decide +kernel
theorem md_L_law_297 : decode mc_L_law 297 = .ok (.aload_n 2, 1) := by decide +kernel
theorem md_L_law_298 : decode mc_L_law 298 = .ok (.invokevirtual 58, 3) := by decide +kernel
theorem md_L_law_301 : decode mc_L_law 301 = .ok (.iload 5, 2) := by decide +kernel
theorem md_L_law_303 : decode mc_L_law 303 = .ok (.if_icmp .eq 5, 3) := by decide +kernel
theorem md_L_law_306 : decode mc_L_law 306 = .ok (.iconst 0, 1) := by decide +kernel
theorem md_L_law_307 : decode mc_L_law 307 = .ok (.ireturn, 1) := by decide +kernel
theorem md_L_law_308 : decode mc_L_law 308 = .ok (.iload 5, 2) := by decide +kernel
theorem md_L_law_310 : decode mc_L_law 310 = .ok (.ifCond .ne 15, 3) := by decide +kernel
theorem md_L_law_313 : decode mc_L_law 313 = .ok (.aload_n 3, 1) := by decide +kernel
theorem md_L_law_314 : decode mc_L_law 314 = .ok (.iconst 0, 1) := by decide +kernel
theorem md_L_law_315 : decode mc_L_law 315 = .ok (.laload, 1) := by decide +kernel
theorem md_L_law_316 : decode mc_L_law 316 = .ok (.iload 6, 2) := by decide +kernel
theorem md_L_law_318 : decode mc_L_law 318 = .ok (.i2l, 1) := by decide +kernel
theorem md_L_law_319 : decode mc_L_law 319 = .ok (.lcmp, 1) := by decide +kernel
theorem md_L_law_320 : decode mc_L_law 320 = .ok (.ifCond .eq 5, 3) := by decide +kernel
theorem md_L_law_323 : decode mc_L_law 323 = .ok (.iconst 0, 1) := by decide +kernel
theorem md_L_law_324 : decode mc_L_law 324 = .ok (.ireturn, 1) := by decide +kernel
theorem md_L_law_325 : decode mc_L_law 325 = .ok (.goto 427, 3) := by decide +kernel
theorem md_L_law_328 : decode mc_L_law 328 = .ok (.aload_n 1, 1) := by decide +kernel
theorem md_L_law_329 : decode mc_L_law 329 = .ok (.aload_n 0, 1) := by decide +kernel
theorem md_L_law_330 : decode mc_L_law 330 = .ok (.iload 4, 2) := by decide +kernel
theorem md_L_law_332 : decode mc_L_law 332 = .ok (.iconst 1, 1) := by decide +kernel
theorem md_L_law_333 : decode mc_L_law 333 = .ok (.iadd, 1) := by decide +kernel
theorem md_L_law_334 : decode mc_L_law 334 = .ok (.iaload, 1) := by decide +kernel
theorem md_L_law_335 : decode mc_L_law 335 = .ok (.aload_n 3, 1) := by decide +kernel
theorem md_L_law_336 : decode mc_L_law 336 = .ok (.invokestatic 70, 3) := by decide +kernel
theorem md_L_law_339 : decode mc_L_law 339 = .ok (.istore 5, 2) := by decide +kernel
theorem md_L_law_341 : decode mc_L_law 341 = .ok (.aload_n 2, 1) := by decide +kernel
theorem md_L_law_342 : decode mc_L_law 342 = .ok (.aload_n 0, 1) := by decide +kernel
theorem md_L_law_343 : decode mc_L_law 343 = .ok (.iload 4, 2) := by decide +kernel
theorem md_L_law_345 : decode mc_L_law 345 = .ok (.iconst 1, 1) := by decide +kernel
theorem md_L_law_346 : decode mc_L_law 346 = .ok (.iadd, 1) := by decide +kernel
theorem md_L_law_347 : decode mc_L_law 347 = .ok (.iaload, 1) := by decide +kernel
theorem md_L_law_348 : decode mc_L_law 348 = .ok (.invokevirtual 72, 3) := by decide +kernel
theorem md_L_law_351 : decode mc_L_law 351 = .ok (.istore 6, 2) := by decide +kernel
theorem md_L_law_353 : decode mc_L_law 353 = .ok (.aload_n 2, 1) := by decide +kernel
theorem md_L_law_354 : decode mc_L_law 354 = .ok (.invokevirtual 58, 3) := by decide +kernel
theorem md_L_law_357 : decode mc_L_law 357 = .ok (.iload 5, 2) := by decide +kernel
theorem md_L_law_359 : decode mc_L_law 359 = .ok (.if_icmp .eq 5, 3) := by decide +kernel
theorem md_L_law_362 : decode mc_L_law 362 = .ok (.iconst 0, 1) := by decide +kernel
theorem md_L_law_363 : decode mc_L_law 363 = .ok (.ireturn, 1) := by decide +kernel
theorem md_L_law_364 : decode mc_L_law 364 = .ok (.iload 5, 2) := by decide +kernel
theorem md_L_law_366 : decode mc_L_law 366 = .ok (.ifCond .ne 15, 3) := by decide +kernel
theorem md_L_law_369 : decode mc_L_law 369 = .ok (.aload_n 3, 1) := by decide +kernel
theorem md_L_law_370 : decode mc_L_law 370 = .ok (.iconst 0, 1) := by decide +kernel
theorem md_L_law_371 : decode mc_L_law 371 = .ok (.laload, 1) := by decide +kernel
theorem md_L_law_372 : decode mc_L_law 372 = .ok (.iload 6, 2) := by decide +kernel
theorem md_L_law_374 : decode mc_L_law 374 = .ok (.i2l, 1) := by decide +kernel
theorem md_L_law_375 : decode mc_L_law 375 = .ok (.lcmp, 1) := by decide +kernel
theorem md_L_law_376 : decode mc_L_law 376 = .ok (.ifCond .eq 5, 3) := by decide +kernel
theorem md_L_law_379 : decode mc_L_law 379 = .ok (.iconst 0, 1) := by decide +kernel
theorem md_L_law_380 : decode mc_L_law 380 = .ok (.ireturn, 1) := by decide +kernel
theorem md_L_law_381 : decode mc_L_law 381 = .ok (.goto 371, 3) := by decide +kernel
theorem md_L_law_384 : decode mc_L_law 384 = .ok (.aload_n 1, 1) := by decide +kernel
theorem md_L_law_385 : decode mc_L_law 385 = .ok (.aload_n 0, 1) := by decide +kernel
theorem md_L_law_386 : decode mc_L_law 386 = .ok (.iload 4, 2) := by decide +kernel
theorem md_L_law_388 : decode mc_L_law 388 = .ok (.iconst 1, 1) := by decide +kernel
theorem md_L_law_389 : decode mc_L_law 389 = .ok (.iadd, 1) := by decide +kernel
theorem md_L_law_390 : decode mc_L_law 390 = .ok (.iaload, 1) := by decide +kernel
theorem md_L_law_391 : decode mc_L_law 391 = .ok (.aload_n 3, 1) := by decide +kernel
theorem md_L_law_392 : decode mc_L_law 392 = .ok (.invokestatic 73, 3) := by decide +kernel
theorem md_L_law_395 : decode mc_L_law 395 = .ok (.istore 5, 2) := by decide +kernel
theorem md_L_law_397 : decode mc_L_law 397 = .ok (.aload_n 2, 1) := by decide +kernel
theorem md_L_law_398 : decode mc_L_law 398 = .ok (.aload_n 0, 1) := by decide +kernel
theorem md_L_law_399 : decode mc_L_law 399 = .ok (.iload 4, 2) := by decide +kernel
theorem md_L_law_401 : decode mc_L_law 401 = .ok (.iconst 1, 1) := by decide +kernel
theorem md_L_law_402 : decode mc_L_law 402 = .ok (.iadd, 1) := by decide +kernel
theorem md_L_law_403 : decode mc_L_law 403 = .ok (.iaload, 1) := by decide +kernel
theorem md_L_law_404 : decode mc_L_law 404 = .ok (.invokevirtual 75, 3) := by decide +kernel
theorem md_L_law_407 : decode mc_L_law 407 = .ok (.istore 6, 2) := by decide +kernel
theorem md_L_law_409 : decode mc_L_law 409 = .ok (.aload_n 2, 1) := by decide +kernel
theorem md_L_law_410 : decode mc_L_law 410 = .ok (.invokevirtual 58, 3) := by decide +kernel
theorem md_L_law_413 : decode mc_L_law 413 = .ok (.iload 5, 2) := by decide +kernel
theorem md_L_law_415 : decode mc_L_law 415 = .ok (.if_icmp .eq 5, 3) := by decide +kernel
theorem md_L_law_418 : decode mc_L_law 418 = .ok (.iconst 0, 1) := by decide +kernel
theorem md_L_law_419 : decode mc_L_law 419 = .ok (.ireturn, 1) := by decide +kernel
theorem md_L_law_420 : decode mc_L_law 420 = .ok (.iload 5, 2) := by decide +kernel
theorem md_L_law_422 : decode mc_L_law 422 = .ok (.ifCond .ne 15, 3) := by decide +kernel
theorem md_L_law_425 : decode mc_L_law 425 = .ok (.aload_n 3, 1) := by decide +kernel
theorem md_L_law_426 : decode mc_L_law 426 = .ok (.iconst 0, 1) := by decide +kernel
theorem md_L_law_427 : decode mc_L_law 427 = .ok (.laload, 1) := by decide +kernel
theorem md_L_law_428 : decode mc_L_law 428 = .ok (.iload 6, 2) := by decide +kernel
theorem md_L_law_430 : decode mc_L_law 430 = .ok (.i2l, 1) := by decide +kernel
theorem md_L_law_431 : decode mc_L_law 431 = .ok (.lcmp, 1) := by decide +kernel
theorem md_L_law_432 : decode mc_L_law 432 = .ok (.ifCond .eq 5, 3) := by decide +kernel
theorem md_L_law_435 : decode mc_L_law 435 = .ok (.iconst 0, 1) := by decide +kernel
theorem md_L_law_436 : decode mc_L_law 436 = .ok (.ireturn, 1) := by decide +kernel
theorem md_L_law_437 : decode mc_L_law 437 = .ok (.goto 315, 3) := by decide +kernel
theorem md_L_law_440 : decode mc_L_law 440 = .ok (.aload_n 1, 1) := by decide +kernel
theorem md_L_law_441 : decode mc_L_law 441 = .ok (.aload_n 0, 1) := by decide +kernel
theorem md_L_law_442 : decode mc_L_law 442 = .ok (.iload 4, 2) := by decide +kernel
theorem md_L_law_444 : decode mc_L_law 444 = .ok (.iconst 1, 1) := by decide +kernel
theorem md_L_law_445 : decode mc_L_law 445 = .ok (.iadd, 1) := by decide +kernel
theorem md_L_law_446 : decode mc_L_law 446 = .ok (.iaload, 1) := by decide +kernel
theorem md_L_law_447 : decode mc_L_law 447 = .ok (.aload_n 0, 1) := by decide +kernel
theorem md_L_law_448 : decode mc_L_law 448 = .ok (.iload 4, 2) := by decide +kernel
theorem md_L_law_450 : decode mc_L_law 450 = .ok (.iconst 2, 1) := by decide +kernel
theorem md_L_law_451 : decode mc_L_law 451 = .ok (.iadd, 1) := by decide +kernel
theorem md_L_law_452 : decode mc_L_law 452 = .ok (.iaload, 1) := by decide +kernel
theorem md_L_law_453 : decode mc_L_law 453 = .ok (.aload_n 0, 1) := by decide +kernel
theorem md_L_law_454 : decode mc_L_law 454 = .ok (.iload 4, 2) := by decide +kernel
theorem md_L_law_456 : decode mc_L_law 456 = .ok (.iconst 3, 1) := by decide +kernel
theorem md_L_law_457 : decode mc_L_law 457 = .ok (.iadd, 1) := by decide +kernel
theorem md_L_law_458 : decode mc_L_law 458 = .ok (.iaload, 1) := by decide +kernel
theorem md_L_law_459 : decode mc_L_law 459 = .ok (.aload_n 3, 1) := by decide +kernel
theorem md_L_law_460 : decode mc_L_law 460 = .ok (.invokestatic 76, 3) := by decide +kernel
theorem md_L_law_463 : decode mc_L_law 463 = .ok (.istore 5, 2) := by decide +kernel
theorem md_L_law_465 : decode mc_L_law 465 = .ok (.aload_n 2, 1) := by decide +kernel
theorem md_L_law_466 : decode mc_L_law 466 = .ok (.aload_n 0, 1) := by decide +kernel
theorem md_L_law_467 : decode mc_L_law 467 = .ok (.iload 4, 2) := by decide +kernel
theorem md_L_law_469 : decode mc_L_law 469 = .ok (.iconst 1, 1) := by decide +kernel
theorem md_L_law_470 : decode mc_L_law 470 = .ok (.iadd, 1) := by decide +kernel
theorem md_L_law_471 : decode mc_L_law 471 = .ok (.iaload, 1) := by decide +kernel
theorem md_L_law_472 : decode mc_L_law 472 = .ok (.aload_n 0, 1) := by decide +kernel
theorem md_L_law_473 : decode mc_L_law 473 = .ok (.iload 4, 2) := by decide +kernel
theorem md_L_law_475 : decode mc_L_law 475 = .ok (.iconst 2, 1) := by decide +kernel
theorem md_L_law_476 : decode mc_L_law 476 = .ok (.iadd, 1) := by decide +kernel
theorem md_L_law_477 : decode mc_L_law 477 = .ok (.iaload, 1) := by decide +kernel
theorem md_L_law_478 : decode mc_L_law 478 = .ok (.aload_n 0, 1) := by decide +kernel
theorem md_L_law_479 : decode mc_L_law 479 = .ok (.iload 4, 2) := by decide +kernel
theorem md_L_law_481 : decode mc_L_law 481 = .ok (.iconst 3, 1) := by decide +kernel
theorem md_L_law_482 : decode mc_L_law 482 = .ok (.iadd, 1) := by decide +kernel
theorem md_L_law_483 : decode mc_L_law 483 = .ok (.iaload, 1) := by decide +kernel
theorem md_L_law_484 : decode mc_L_law 484 = .ok (.invokevirtual 78, 3) := by decide +kernel
theorem md_L_law_487 : decode mc_L_law 487 = .ok (.istore 6, 2) := by decide +kernel
theorem md_L_law_489 : decode mc_L_law 489 = .ok (.aload_n 2, 1) := by decide +kernel
theorem md_L_law_490 : decode mc_L_law 490 = .ok (.invokevirtual 58, 3) := by decide +kernel
theorem md_L_law_493 : decode mc_L_law 493 = .ok (.iload 5, 2) := by decide +kernel
theorem md_L_law_495 : decode mc_L_law 495 = .ok (.if_icmp .eq 5, 3) := by decide +kernel
theorem md_L_law_498 : decode mc_L_law 498 = .ok (.iconst 0, 1) := by decide +kernel
theorem md_L_law_499 : decode mc_L_law 499 = .ok (.ireturn, 1) := by decide +kernel
theorem md_L_law_500 : decode mc_L_law 500 = .ok (.iload 5, 2) := by decide +kernel
theorem md_L_law_502 : decode mc_L_law 502 = .ok (.ifCond .ne 15, 3) := by decide +kernel
theorem md_L_law_505 : decode mc_L_law 505 = .ok (.aload_n 3, 1) := by decide +kernel
theorem md_L_law_506 : decode mc_L_law 506 = .ok (.iconst 0, 1) := by decide +kernel
theorem md_L_law_507 : decode mc_L_law 507 = .ok (.laload, 1) := by decide +kernel
theorem md_L_law_508 : decode mc_L_law 508 = .ok (.iload 6, 2) := by decide +kernel
theorem md_L_law_510 : decode mc_L_law 510 = .ok (.i2l, 1) := by decide +kernel
theorem md_L_law_511 : decode mc_L_law 511 = .ok (.lcmp, 1) := by decide +kernel
theorem md_L_law_512 : decode mc_L_law 512 = .ok (.ifCond .eq 5, 3) := by decide +kernel
theorem md_L_law_515 : decode mc_L_law 515 = .ok (.iconst 0, 1) := by decide +kernel
theorem md_L_law_516 : decode mc_L_law 516 = .ok (.ireturn, 1) := by decide +kernel
theorem md_L_law_517 : decode mc_L_law 517 = .ok (.goto 235, 3) := by decide +kernel
theorem md_L_law_520 : decode mc_L_law 520 = .ok (.aload_n 1, 1) := by decide +kernel
theorem md_L_law_521 : decode mc_L_law 521 = .ok (.aload_n 0, 1) := by decide +kernel
theorem md_L_law_522 : decode mc_L_law 522 = .ok (.iload 4, 2) := by decide +kernel
theorem md_L_law_524 : decode mc_L_law 524 = .ok (.iconst 1, 1) := by decide +kernel
theorem md_L_law_525 : decode mc_L_law 525 = .ok (.iadd, 1) := by decide +kernel
theorem md_L_law_526 : decode mc_L_law 526 = .ok (.iaload, 1) := by decide +kernel
theorem md_L_law_527 : decode mc_L_law 527 = .ok (.aload_n 0, 1) := by decide +kernel
theorem md_L_law_528 : decode mc_L_law 528 = .ok (.iload 4, 2) := by decide +kernel
theorem md_L_law_530 : decode mc_L_law 530 = .ok (.iconst 2, 1) := by decide +kernel
theorem md_L_law_531 : decode mc_L_law 531 = .ok (.iadd, 1) := by decide +kernel
theorem md_L_law_532 : decode mc_L_law 532 = .ok (.iaload, 1) := by decide +kernel
theorem md_L_law_533 : decode mc_L_law 533 = .ok (.aload_n 3, 1) := by decide +kernel
theorem md_L_law_534 : decode mc_L_law 534 = .ok (.invokestatic 79, 3) := by decide +kernel
theorem md_L_law_537 : decode mc_L_law 537 = .ok (.istore 5, 2) := by decide +kernel
theorem md_L_law_539 : decode mc_L_law 539 = .ok (.aload_n 2, 1) := by decide +kernel
theorem md_L_law_540 : decode mc_L_law 540 = .ok (.aload_n 0, 1) := by decide +kernel
theorem md_L_law_541 : decode mc_L_law 541 = .ok (.iload 4, 2) := by decide +kernel
theorem md_L_law_543 : decode mc_L_law 543 = .ok (.iconst 1, 1) := by decide +kernel
theorem md_L_law_544 : decode mc_L_law 544 = .ok (.iadd, 1) := by decide +kernel
theorem md_L_law_545 : decode mc_L_law 545 = .ok (.iaload, 1) := by decide +kernel
theorem md_L_law_546 : decode mc_L_law 546 = .ok (.aload_n 0, 1) := by decide +kernel
theorem md_L_law_547 : decode mc_L_law 547 = .ok (.iload 4, 2) := by decide +kernel
theorem md_L_law_549 : decode mc_L_law 549 = .ok (.iconst 2, 1) := by decide +kernel
theorem md_L_law_550 : decode mc_L_law 550 = .ok (.iadd, 1) := by decide +kernel
theorem md_L_law_551 : decode mc_L_law 551 = .ok (.iaload, 1) := by decide +kernel
theorem md_L_law_552 : decode mc_L_law 552 = .ok (.invokevirtual 82, 3) := by decide +kernel
theorem md_L_law_555 : decode mc_L_law 555 = .ok (.istore 6, 2) := by decide +kernel
theorem md_L_law_557 : decode mc_L_law 557 = .ok (.aload_n 2, 1) := by decide +kernel
theorem md_L_law_558 : decode mc_L_law 558 = .ok (.invokevirtual 58, 3) := by decide +kernel
theorem md_L_law_561 : decode mc_L_law 561 = .ok (.iload 5, 2) := by decide +kernel
theorem md_L_law_563 : decode mc_L_law 563 = .ok (.if_icmp .eq 5, 3) := by decide +kernel
theorem md_L_law_566 : decode mc_L_law 566 = .ok (.iconst 0, 1) := by decide +kernel
theorem md_L_law_567 : decode mc_L_law 567 = .ok (.ireturn, 1) := by decide +kernel
theorem md_L_law_568 : decode mc_L_law 568 = .ok (.iload 5, 2) := by decide +kernel
theorem md_L_law_570 : decode mc_L_law 570 = .ok (.ifCond .ne 15, 3) := by decide +kernel
theorem md_L_law_573 : decode mc_L_law 573 = .ok (.aload_n 3, 1) := by decide +kernel
theorem md_L_law_574 : decode mc_L_law 574 = .ok (.iconst 0, 1) := by decide +kernel
theorem md_L_law_575 : decode mc_L_law 575 = .ok (.laload, 1) := by decide +kernel
theorem md_L_law_576 : decode mc_L_law 576 = .ok (.iload 6, 2) := by decide +kernel
theorem md_L_law_578 : decode mc_L_law 578 = .ok (.i2l, 1) := by decide +kernel
theorem md_L_law_579 : decode mc_L_law 579 = .ok (.lcmp, 1) := by decide +kernel
theorem md_L_law_580 : decode mc_L_law 580 = .ok (.ifCond .eq 5, 3) := by decide +kernel
theorem md_L_law_583 : decode mc_L_law 583 = .ok (.iconst 0, 1) := by decide +kernel
theorem md_L_law_584 : decode mc_L_law 584 = .ok (.ireturn, 1) := by decide +kernel
theorem md_L_law_585 : decode mc_L_law 585 = .ok (.goto 167, 3) := by decide +kernel
theorem md_L_law_588 : decode mc_L_law 588 = .ok (.aload_n 1, 1) := by decide +kernel
theorem md_L_law_589 : decode mc_L_law 589 = .ok (.aload_n 0, 1) := by decide +kernel
theorem md_L_law_590 : decode mc_L_law 590 = .ok (.iload 4, 2) := by decide +kernel
theorem md_L_law_592 : decode mc_L_law 592 = .ok (.iconst 1, 1) := by decide +kernel
theorem md_L_law_593 : decode mc_L_law 593 = .ok (.iadd, 1) := by decide +kernel
theorem md_L_law_594 : decode mc_L_law 594 = .ok (.iaload, 1) := by decide +kernel
theorem md_L_law_595 : decode mc_L_law 595 = .ok (.aload_n 0, 1) := by decide +kernel
theorem md_L_law_596 : decode mc_L_law 596 = .ok (.iload 4, 2) := by decide +kernel
theorem md_L_law_598 : decode mc_L_law 598 = .ok (.iconst 2, 1) := by decide +kernel
theorem md_L_law_599 : decode mc_L_law 599 = .ok (.iadd, 1) := by decide +kernel
theorem md_L_law_600 : decode mc_L_law 600 = .ok (.iaload, 1) := by decide +kernel
theorem md_L_law_601 : decode mc_L_law 601 = .ok (.aload_n 3, 1) := by decide +kernel
theorem md_L_law_602 : decode mc_L_law 602 = .ok (.invokestatic 83, 3) := by decide +kernel
theorem md_L_law_605 : decode mc_L_law 605 = .ok (.istore 5, 2) := by decide +kernel
theorem md_L_law_607 : decode mc_L_law 607 = .ok (.aload_n 2, 1) := by decide +kernel
theorem md_L_law_608 : decode mc_L_law 608 = .ok (.aload_n 0, 1) := by decide +kernel
theorem md_L_law_609 : decode mc_L_law 609 = .ok (.iload 4, 2) := by decide +kernel
theorem md_L_law_611 : decode mc_L_law 611 = .ok (.iconst 1, 1) := by decide +kernel
theorem md_L_law_612 : decode mc_L_law 612 = .ok (.iadd, 1) := by decide +kernel
theorem md_L_law_613 : decode mc_L_law 613 = .ok (.iaload, 1) := by decide +kernel
theorem md_L_law_614 : decode mc_L_law 614 = .ok (.aload_n 0, 1) := by decide +kernel
theorem md_L_law_615 : decode mc_L_law 615 = .ok (.iload 4, 2) := by decide +kernel
theorem md_L_law_617 : decode mc_L_law 617 = .ok (.iconst 2, 1) := by decide +kernel
theorem md_L_law_618 : decode mc_L_law 618 = .ok (.iadd, 1) := by decide +kernel
theorem md_L_law_619 : decode mc_L_law 619 = .ok (.iaload, 1) := by decide +kernel
theorem md_L_law_620 : decode mc_L_law 620 = .ok (.invokevirtual 85, 3) := by decide +kernel
theorem md_L_law_623 : decode mc_L_law 623 = .ok (.istore 6, 2) := by decide +kernel
theorem md_L_law_625 : decode mc_L_law 625 = .ok (.aload_n 2, 1) := by decide +kernel
theorem md_L_law_626 : decode mc_L_law 626 = .ok (.invokevirtual 58, 3) := by decide +kernel
theorem md_L_law_629 : decode mc_L_law 629 = .ok (.iload 5, 2) := by decide +kernel
theorem md_L_law_631 : decode mc_L_law 631 = .ok (.if_icmp .eq 5, 3) := by decide +kernel
theorem md_L_law_634 : decode mc_L_law 634 = .ok (.iconst 0, 1) := by decide +kernel
theorem md_L_law_635 : decode mc_L_law 635 = .ok (.ireturn, 1) := by decide +kernel
theorem md_L_law_636 : decode mc_L_law 636 = .ok (.iload 5, 2) := by decide +kernel
theorem md_L_law_638 : decode mc_L_law 638 = .ok (.ifCond .ne 15, 3) := by decide +kernel
theorem md_L_law_641 : decode mc_L_law 641 = .ok (.aload_n 3, 1) := by decide +kernel
theorem md_L_law_642 : decode mc_L_law 642 = .ok (.iconst 0, 1) := by decide +kernel
theorem md_L_law_643 : decode mc_L_law 643 = .ok (.laload, 1) := by decide +kernel
theorem md_L_law_644 : decode mc_L_law 644 = .ok (.iload 6, 2) := by decide +kernel
theorem md_L_law_646 : decode mc_L_law 646 = .ok (.i2l, 1) := by decide +kernel
theorem md_L_law_647 : decode mc_L_law 647 = .ok (.lcmp, 1) := by decide +kernel
theorem md_L_law_648 : decode mc_L_law 648 = .ok (.ifCond .eq 5, 3) := by decide +kernel
theorem md_L_law_651 : decode mc_L_law 651 = .ok (.iconst 0, 1) := by decide +kernel
theorem md_L_law_652 : decode mc_L_law 652 = .ok (.ireturn, 1) := by decide +kernel
theorem md_L_law_653 : decode mc_L_law 653 = .ok (.goto 99, 3) := by decide +kernel
theorem md_L_law_656 : decode mc_L_law 656 = .ok (.aload_n 1, 1) := by decide +kernel
theorem md_L_law_657 : decode mc_L_law 657 = .ok (.invokevirtual 86, 3) := by decide +kernel
theorem md_L_law_660 : decode mc_L_law 660 = .ok (.aload_n 2, 1) := by decide +kernel
theorem md_L_law_661 : decode mc_L_law 661 = .ok (.invokevirtual 89, 3) := by decide +kernel
theorem md_L_law_664 : decode mc_L_law 664 = .ok (.if_icmp .eq 88, 3) := by decide +kernel
theorem md_L_law_667 : decode mc_L_law 667 = .ok (.iconst 0, 1) := by decide +kernel
theorem md_L_law_668 : decode mc_L_law 668 = .ok (.ireturn, 1) := by decide +kernel
theorem md_L_law_669 : decode mc_L_law 669 = .ok (.aload_n 1, 1) := by decide +kernel
theorem md_L_law_670 : decode mc_L_law 670 = .ok (.invokevirtual 90, 3) := by decide +kernel
theorem md_L_law_673 : decode mc_L_law 673 = .ok (.aload_n 2, 1) := by decide +kernel
theorem md_L_law_674 : decode mc_L_law 674 = .ok (.invokevirtual 93, 3) := by decide +kernel
theorem md_L_law_677 : decode mc_L_law 677 = .ok (.if_icmp .eq 75, 3) := by decide +kernel
theorem md_L_law_680 : decode mc_L_law 680 = .ok (.iconst 0, 1) := by decide +kernel
theorem md_L_law_681 : decode mc_L_law 681 = .ok (.ireturn, 1) := by decide +kernel
theorem md_L_law_682 : decode mc_L_law 682 = .ok (.aload_n 1, 1) := by decide +kernel
theorem md_L_law_683 : decode mc_L_law 683 = .ok (.invokevirtual 94, 3) := by decide +kernel
theorem md_L_law_686 : decode mc_L_law 686 = .ok (.aload_n 2, 1) := by decide +kernel
theorem md_L_law_687 : decode mc_L_law 687 = .ok (.invokevirtual 98, 3) := by decide +kernel
theorem md_L_law_690 : decode mc_L_law 690 = .ok (.lcmp, 1) := by decide +kernel
theorem md_L_law_691 : decode mc_L_law 691 = .ok (.ifCond .eq 61, 3) := by decide +kernel
theorem md_L_law_694 : decode mc_L_law 694 = .ok (.iconst 0, 1) := by decide +kernel
theorem md_L_law_695 : decode mc_L_law 695 = .ok (.ireturn, 1) := by decide +kernel
theorem md_L_law_696 : decode mc_L_law 696 = .ok (.aload_n 1, 1) := by decide +kernel
theorem md_L_law_697 : decode mc_L_law 697 = .ok (.aload_n 0, 1) := by decide +kernel
theorem md_L_law_698 : decode mc_L_law 698 = .ok (.iload 4, 2) := by decide +kernel
theorem md_L_law_700 : decode mc_L_law 700 = .ok (.iconst 1, 1) := by decide +kernel
theorem md_L_law_701 : decode mc_L_law 701 = .ok (.iadd, 1) := by decide +kernel
theorem md_L_law_702 : decode mc_L_law 702 = .ok (.iaload, 1) := by decide +kernel
theorem md_L_law_703 : decode mc_L_law 703 = .ok (.aload_n 3, 1) := by decide +kernel
theorem md_L_law_704 : decode mc_L_law 704 = .ok (.invokestatic 99, 3) := by decide +kernel
theorem md_L_law_707 : decode mc_L_law 707 = .ok (.istore 5, 2) := by decide +kernel
theorem md_L_law_709 : decode mc_L_law 709 = .ok (.aload_n 2, 1) := by decide +kernel
theorem md_L_law_710 : decode mc_L_law 710 = .ok (.aload_n 0, 1) := by decide +kernel
theorem md_L_law_711 : decode mc_L_law 711 = .ok (.iload 4, 2) := by decide +kernel
theorem md_L_law_713 : decode mc_L_law 713 = .ok (.iconst 1, 1) := by decide +kernel
theorem md_L_law_714 : decode mc_L_law 714 = .ok (.iadd, 1) := by decide +kernel
theorem md_L_law_715 : decode mc_L_law 715 = .ok (.iaload, 1) := by decide +kernel
theorem md_L_law_716 : decode mc_L_law 716 = .ok (.invokevirtual 101, 3) := by decide +kernel
theorem md_L_law_719 : decode mc_L_law 719 = .ok (.istore 6, 2) := by decide +kernel
theorem md_L_law_721 : decode mc_L_law 721 = .ok (.aload_n 2, 1) := by decide +kernel
theorem md_L_law_722 : decode mc_L_law 722 = .ok (.invokevirtual 58, 3) := by decide +kernel
theorem md_L_law_725 : decode mc_L_law 725 = .ok (.iload 5, 2) := by decide +kernel
theorem md_L_law_727 : decode mc_L_law 727 = .ok (.if_icmp .eq 5, 3) := by decide +kernel
theorem md_L_law_730 : decode mc_L_law 730 = .ok (.iconst 0, 1) := by decide +kernel
theorem md_L_law_731 : decode mc_L_law 731 = .ok (.ireturn, 1) := by decide +kernel
theorem md_L_law_732 : decode mc_L_law 732 = .ok (.iload 5, 2) := by decide +kernel
theorem md_L_law_734 : decode mc_L_law 734 = .ok (.ifCond .ne 15, 3) := by decide +kernel
theorem md_L_law_737 : decode mc_L_law 737 = .ok (.aload_n 3, 1) := by decide +kernel
theorem md_L_law_738 : decode mc_L_law 738 = .ok (.iconst 0, 1) := by decide +kernel
theorem md_L_law_739 : decode mc_L_law 739 = .ok (.laload, 1) := by decide +kernel
theorem md_L_law_740 : decode mc_L_law 740 = .ok (.iload 6, 2) := by decide +kernel
theorem md_L_law_742 : decode mc_L_law 742 = .ok (.i2l, 1) := by decide +kernel
theorem md_L_law_743 : decode mc_L_law 743 = .ok (.lcmp, 1) := by decide +kernel
theorem md_L_law_744 : decode mc_L_law 744 = .ok (.ifCond .eq 5, 3) := by decide +kernel
theorem md_L_law_747 : decode mc_L_law 747 = .ok (.iconst 0, 1) := by decide +kernel
theorem md_L_law_748 : decode mc_L_law 748 = .ok (.ireturn, 1) := by decide +kernel
theorem md_L_law_749 : decode mc_L_law 749 = .ok (.goto 3, 3) := by decide +kernel
theorem md_L_law_752 : decode mc_L_law 752 = .ok (.iinc 4 5, 3) := by decide +kernel
theorem md_L_law_755 : decode mc_L_law 755 = .ok (.goto (-732), 3) := by decide +kernel
theorem md_L_law_758 : decode mc_L_law 758 = .ok (.iconst 1, 1) := by decide +kernel
theorem md_L_law_759 : decode mc_L_law 759 = .ok (.ireturn, 1) := by decide +kernel
