theorem dL_lot_0 : decode cL_lot 0 = .ok (.iload_n 1, 1) := by decide +kernel
theorem dL_lot_1 : decode cL_lot 1 = .ok (.aload_n 0, 1) := by decide +kernel
theorem dL_lot_2 : decode cL_lot 2 = .ok (.arraylength, 1) := by decide +kernel
theorem dL_lot_3 : decode cL_lot 3 = .ok (.if_icmp .ge 9, 3) := by decide +kernel
theorem dL_lot_6 : decode cL_lot 6 = .ok (.aload_n 0, 1) := by decide +kernel
theorem dL_lot_7 : decode cL_lot 7 = .ok (.iload_n 1, 1) := by decide +kernel
theorem dL_lot_8 : decode cL_lot 8 = .ok (.iaload, 1) := by decide +kernel
theorem dL_lot_9 : decode cL_lot 9 = .ok (.goto 15, 3) := by decide +kernel
theorem dL_lot_12 : decode cL_lot 12 = .ok (.ldc 7, 2) := by decide +kernel
theorem dL_lot_14 : decode cL_lot 14 = .ok (.iload_n 1, 1) := by decide +kernel
theorem dL_lot_15 : decode cL_lot 15 = .ok (.sipush 2393, 3) := by decide +kernel
theorem dL_lot_18 : decode cL_lot 18 = .ok (.iadd, 1) := by decide +kernel
theorem dL_lot_19 : decode cL_lot 19 = .ok (.imul, 1) := by decide +kernel
theorem dL_lot_20 : decode cL_lot 20 = .ok (.sipush 2207, 3) := by decide +kernel
theorem dL_lot_23 : decode cL_lot 23 = .ok (.iadd, 1) := by decide +kernel
theorem dL_lot_24 : decode cL_lot 24 = .ok (.ireturn, 1) := by decide +kernel
theorem dL_low_0 : decode cL_low 0 = .ok (.iload_n 0, 1) := by decide +kernel
theorem dL_low_1 : decode cL_low 1 = .ok (.ldc 8, 2) := by decide +kernel
theorem dL_low_3 : decode cL_low 3 = .ok (.iand, 1) := by decide +kernel
theorem dL_low_4 : decode cL_low 4 = .ok (.iload_n 1, 1) := by decide +kernel
theorem dL_low_5 : decode cL_low 5 = .ok (.irem, 1) := by decide +kernel
theorem dL_low_6 : decode cL_low 6 = .ok (.ireturn, 1) := by decide +kernel
theorem dL_stock_0 : decode cL_stock 0 = .ok (.aload_n 0, 1) := by decide +kernel
theorem dL_stock_1 : decode cL_stock 1 = .ok (.iload_n 1, 1) := by decide +kernel
theorem dL_stock_2 : decode cL_stock 2 = .ok (.iload_n 2, 1) := by decide +kernel
theorem dL_stock_3 : decode cL_stock 3 = .ok (.invokevirtual 9, 3) := by decide +kernel
theorem dL_stock_6 : decode cL_stock 6 = .ok (.ireturn, 1) := by decide +kernel
theorem dL_stock_7 : decode cL_stock 7 = .ok (.astore_n 3, 1) := by decide +kernel
theorem dL_stock_8 : decode cL_stock 8 = .ok (.sipush (-903), 3) := by decide +kernel
theorem dL_stock_11 : decode cL_stock 11 = .ok (.ireturn, 1) := by decide +kernel
theorem dL_stock_12 : decode cL_stock 12 = .ok (.astore_n 3, 1) := by decide +kernel
theorem dL_stock_13 : decode cL_stock 13 = .ok (.sipush (-901), 3) := by decide +kernel
theorem dL_stock_16 : decode cL_stock 16 = .ok (.ireturn, 1) := by decide +kernel
theorem dL_stock_17 : decode cL_stock 17 = .ok (.astore_n 3, 1) := by decide +kernel
theorem dL_stock_18 : decode cL_stock 18 = .ok (.sipush (-902), 3) := by decide +kernel
theorem dL_stock_21 : decode cL_stock 21 = .ok (.ireturn, 1) := by decide +kernel
theorem dL_fill_0 : decode cL_fill 0 = .ok (.aload_n 0, 1) := by decide +kernel
theorem dL_fill_1 : decode cL_fill 1 = .ok (.iload_n 1, 1) := by decide +kernel
theorem dL_fill_2 : decode cL_fill 2 = .ok (.iload_n 2, 1) := by decide +kernel
theorem dL_fill_3 : decode cL_fill 3 = .ok (.invokevirtual 21, 3) := by decide +kernel
theorem dL_fill_6 : decode cL_fill 6 = .ok (.ireturn, 1) := by decide +kernel
theorem dL_fill_7 : decode cL_fill 7 = .ok (.astore_n 3, 1) := by decide +kernel
theorem dL_fill_8 : decode cL_fill 8 = .ok (.sipush (-903), 3) := by decide +kernel
theorem dL_fill_11 : decode cL_fill 11 = .ok (.ireturn, 1) := by decide +kernel
theorem dL_fill_12 : decode cL_fill 12 = .ok (.astore_n 3, 1) := by decide +kernel
theorem dL_fill_13 : decode cL_fill 13 = .ok (.sipush (-901), 3) := by decide +kernel
theorem dL_fill_16 : decode cL_fill 16 = .ok (.ireturn, 1) := by decide +kernel
theorem dL_buy_0 : decode cL_buy 0 = .ok (.aload_n 0, 1) := by decide +kernel
theorem dL_buy_1 : decode cL_buy 1 = .ok (.iload_n 1, 1) := by decide +kernel
theorem dL_buy_2 : decode cL_buy 2 = .ok (.iload_n 2, 1) := by decide +kernel
theorem dL_buy_3 : decode cL_buy 3 = .ok (.iload_n 3, 1) := by decide +kernel
theorem dL_buy_4 : decode cL_buy 4 = .ok (.iload 4, 2) := by decide +kernel
theorem dL_buy_6 : decode cL_buy 6 = .ok (.iload 5, 2) := by decide +kernel
theorem dL_buy_8 : decode cL_buy 8 = .ok (.invokevirtual 24, 3) := by decide +kernel
theorem dL_buy_11 : decode cL_buy 11 = .ok (.ireturn, 1) := by decide +kernel
theorem dL_buy_12 : decode cL_buy 12 = .ok (.astore 6, 2) := by decide +kernel
theorem dL_buy_14 : decode cL_buy 14 = .ok (.sipush (-903), 3) := by decide +kernel
theorem dL_buy_17 : decode cL_buy 17 = .ok (.ireturn, 1) := by decide +kernel
theorem dL_buy_18 : decode cL_buy 18 = .ok (.astore 6, 2) := by decide +kernel
theorem dL_buy_20 : decode cL_buy 20 = .ok (.sipush (-901), 3) := by decide +kernel
theorem dL_buy_23 : decode cL_buy 23 = .ok (.ireturn, 1) := by decide +kernel
theorem dL_buy_24 : decode cL_buy 24 = .ok (.astore 6, 2) := by decide +kernel
theorem dL_buy_26 : decode cL_buy 26 = .ok (.sipush (-902), 3) := by decide +kernel
theorem dL_buy_29 : decode cL_buy 29 = .ok (.ireturn, 1) := by decide +kernel
theorem dL_pass_0 : decode cL_pass 0 = .ok (.aload_n 0, 1) := by decide +kernel
theorem dL_pass_1 : decode cL_pass 1 = .ok (.iload_n 1, 1) := by decide +kernel
theorem dL_pass_2 : decode cL_pass 2 = .ok (.invokevirtual 28, 3) := by decide +kernel
theorem dL_pass_5 : decode cL_pass 5 = .ok (.ireturn, 1) := by decide +kernel
theorem dL_pass_6 : decode cL_pass 6 = .ok (.astore_n 2, 1) := by decide +kernel
theorem dL_pass_7 : decode cL_pass 7 = .ok (.sipush (-901), 3) := by decide +kernel
theorem dL_pass_10 : decode cL_pass 10 = .ok (.ireturn, 1) := by decide +kernel
theorem dL_pass_11 : decode cL_pass 11 = .ok (.astore_n 2, 1) := by decide +kernel
theorem dL_pass_12 : decode cL_pass 12 = .ok (.sipush (-902), 3) := by decide +kernel
theorem dL_pass_15 : decode cL_pass 15 = .ok (.ireturn, 1) := by decide +kernel
theorem dL_undo_0 : decode cL_undo 0 = .ok (.aload_n 0, 1) := by decide +kernel
theorem dL_undo_1 : decode cL_undo 1 = .ok (.invokevirtual 32, 3) := by decide +kernel
theorem dL_undo_4 : decode cL_undo 4 = .ok (.ireturn, 1) := by decide +kernel
theorem dL_undo_5 : decode cL_undo 5 = .ok (.astore_n 1, 1) := by decide +kernel
theorem dL_undo_6 : decode cL_undo 6 = .ok (.sipush (-902), 3) := by decide +kernel
theorem dL_undo_9 : decode cL_undo 9 = .ok (.ireturn, 1) := by decide +kernel
theorem dL_promise_0 : decode cL_promise 0 = .ok (.aload_n 0, 1) := by decide +kernel
theorem dL_promise_1 : decode cL_promise 1 = .ok (.iload_n 1, 1) := by decide +kernel
theorem dL_promise_2 : decode cL_promise 2 = .ok (.invokevirtual 36, 3) := by decide +kernel
theorem dL_promise_5 : decode cL_promise 5 = .ok (.ireturn, 1) := by decide +kernel
theorem dL_promise_6 : decode cL_promise 6 = .ok (.astore_n 2, 1) := by decide +kernel
theorem dL_promise_7 : decode cL_promise 7 = .ok (.sipush (-903), 3) := by decide +kernel
theorem dL_promise_10 : decode cL_promise 10 = .ok (.ireturn, 1) := by decide +kernel
theorem dL_coil_0 : decode cL_coil 0 = .ok (.aload_n 0, 1) := by decide +kernel
theorem dL_coil_1 : decode cL_coil 1 = .ok (.iload_n 1, 1) := by decide +kernel
theorem dL_coil_2 : decode cL_coil 2 = .ok (.iload_n 2, 1) := by decide +kernel
theorem dL_coil_3 : decode cL_coil 3 = .ok (.invokevirtual 39, 3) := by decide +kernel
theorem dL_coil_6 : decode cL_coil 6 = .ok (.ireturn, 1) := by decide +kernel
theorem dL_coil_7 : decode cL_coil 7 = .ok (.astore_n 3, 1) := by decide +kernel
theorem dL_coil_8 : decode cL_coil 8 = .ok (.sipush (-903), 3) := by decide +kernel
theorem dL_coil_11 : decode cL_coil 11 = .ok (.ireturn, 1) := by decide +kernel
theorem dL_coil_12 : decode cL_coil 12 = .ok (.astore_n 3, 1) := by decide +kernel
theorem dL_coil_13 : decode cL_coil 13 = .ok (.sipush (-901), 3) := by decide +kernel
theorem dL_coil_16 : decode cL_coil 16 = .ok (.ireturn, 1) := by decide +kernel
theorem dL_worth_0 : decode cL_worth 0 = .ok (.iload_n 0, 1) := by decide +kernel
theorem dL_worth_1 : decode cL_worth 1 = .ok (.iconst 3, 1) := by decide +kernel
theorem dL_worth_2 : decode cL_worth 2 = .ok (.if_icmp .ne 8, 3) := by decide +kernel
theorem dL_worth_5 : decode cL_worth 5 = .ok (.bipush 50, 2) := by decide +kernel
theorem dL_worth_7 : decode cL_worth 7 = .ok (.goto 6, 3) := by decide +kernel
theorem dL_worth_10 : decode cL_worth 10 = .ok (.iconst 5, 1) := by decide +kernel
theorem dL_worth_11 : decode cL_worth 11 = .ok (.iload_n 0, 1) := by decide +kernel
theorem dL_worth_12 : decode cL_worth 12 = .ok (.ishl, 1) := by decide +kernel
theorem dL_worth_13 : decode cL_worth 13 = .ok (.ireturn, 1) := by decide +kernel
theorem dL_holds_0 : decode cL_holds 0 = .ok (.iconst 4, 1) := by decide +kernel
theorem dL_holds_1 : decode cL_holds 1 = .ok (.newarray .int, 2) := by decide +kernel
theorem dL_holds_3 : decode cL_holds 3 = .ok (.astore_n 1, 1) := by decide +kernel
theorem dL_holds_4 : decode cL_holds 4 = .ok (.aload_n 0, 1) := by decide +kernel
theorem dL_holds_5 : decode cL_holds 5 = .ok (.iconst 0, 1) := by decide +kernel
theorem dL_holds_6 : decode cL_holds 6 = .ok (.invokevirtual 42, 3) := by decide +kernel
theorem dL_holds_9 : decode cL_holds 9 = .ok (.istore_n 2, 1) := by decide +kernel
theorem dL_holds_10 : decode cL_holds 10 = .ok (.iconst 0, 1) := by decide +kernel
theorem dL_holds_11 : decode cL_holds 11 = .ok (.istore_n 3, 1) := by decide +kernel
theorem dL_holds_12 : decode cL_holds 12 = .ok (.iload_n 3, 1) := by decide +kernel
theorem dL_holds_13 : decode cL_holds 13 = .ok (.iload_n 2, 1) := by decide +kernel
theorem dL_holds_14 : decode cL_holds 14 = .ok (.if_icmp .ge 208, 3) := by decide +kernel
theorem dL_holds_17 : decode cL_holds 17 = .ok (.aload_n 0, 1) := by decide +kernel
theorem dL_holds_18 : decode cL_holds 18 = .ok (.iload_n 3, 1) := by decide +kernel
theorem dL_holds_19 : decode cL_holds 19 = .ok (.iconst 2, 1) := by decide +kernel
theorem dL_holds_20 : decode cL_holds 20 = .ok (.invokevirtual 39, 3) := by decide +kernel
theorem dL_holds_23 : decode cL_holds 23 = .ok (.istore 4, 2) := by decide +kernel
theorem dL_holds_25 : decode cL_holds 25 = .ok (.aload_n 0, 1) := by decide +kernel
theorem dL_holds_26 : decode cL_holds 26 = .ok (.iload_n 3, 1) := by decide +kernel
theorem dL_holds_27 : decode cL_holds 27 = .ok (.iconst 5, 1) := by decide +kernel
theorem dL_holds_28 : decode cL_holds 28 = .ok (.invokevirtual 39, 3) := by decide +kernel
theorem dL_holds_31 : decode cL_holds 31 = .ok (.istore 5, 2) := by decide +kernel
theorem dL_holds_33 : decode cL_holds 33 = .ok (.aload_n 0, 1) := by decide +kernel
theorem dL_holds_34 : decode cL_holds 34 = .ok (.iload_n 3, 1) := by decide +kernel
theorem dL_holds_35 : decode cL_holds 35 = .ok (.bipush 9, 2) := by decide +kernel
theorem dL_holds_37 : decode cL_holds 37 = .ok (.invokevirtual 39, 3) := by decide +kernel
theorem dL_holds_40 : decode cL_holds 40 = .ok (.istore 6, 2) := by decide +kernel
theorem dL_holds_42 : decode cL_holds 42 = .ok (.aload_n 1, 1) := by decide +kernel
theorem dL_holds_43 : decode cL_holds 43 = .ok (.iconst 0, 1) := by decide +kernel
theorem dL_holds_44 : decode cL_holds 44 = .ok (.dup2, 1) := by decide +kernel
theorem dL_holds_45 : decode cL_holds 45 = .ok (.iaload, 1) := by decide +kernel
theorem dL_holds_46 : decode cL_holds 46 = .ok (.aload_n 0, 1) := by decide +kernel
theorem dL_holds_47 : decode cL_holds 47 = .ok (.iload_n 3, 1) := by decide +kernel
theorem dL_holds_48 : decode cL_holds 48 = .ok (.iconst 1, 1) := by decide +kernel
theorem dL_holds_49 : decode cL_holds 49 = .ok (.invokevirtual 39, 3) := by decide +kernel
theorem dL_holds_52 : decode cL_holds 52 = .ok (.iadd, 1) := by decide +kernel
theorem dL_holds_53 : decode cL_holds 53 = .ok (.iastore, 1) := by decide +kernel
theorem dL_holds_54 : decode cL_holds 54 = .ok (.aload_n 1, 1) := by decide +kernel
theorem dL_holds_55 : decode cL_holds 55 = .ok (.iconst 1, 1) := by decide +kernel
theorem dL_holds_56 : decode cL_holds 56 = .ok (.dup2, 1) := by decide +kernel
theorem dL_holds_57 : decode cL_holds 57 = .ok (.iaload, 1) := by decide +kernel
theorem dL_holds_58 : decode cL_holds 58 = .ok (.aload_n 0, 1) := by decide +kernel
theorem dL_holds_59 : decode cL_holds 59 = .ok (.iload_n 3, 1) := by decide +kernel
theorem dL_holds_60 : decode cL_holds 60 = .ok (.bipush 6, 2) := by decide +kernel
theorem dL_holds_62 : decode cL_holds 62 = .ok (.invokevirtual 39, 3) := by decide +kernel
theorem dL_holds_65 : decode cL_holds 65 = .ok (.iadd, 1) := by decide +kernel
theorem dL_holds_66 : decode cL_holds 66 = .ok (.iastore, 1) := by decide +kernel
theorem dL_holds_67 : decode cL_holds 67 = .ok (.aload_n 1, 1) := by decide +kernel
theorem dL_holds_68 : decode cL_holds 68 = .ok (.iconst 2, 1) := by decide +kernel
theorem dL_holds_69 : decode cL_holds 69 = .ok (.dup2, 1) := by decide +kernel
theorem dL_holds_70 : decode cL_holds 70 = .ok (.iaload, 1) := by decide +kernel
theorem dL_holds_71 : decode cL_holds 71 = .ok (.aload_n 0, 1) := by decide +kernel
theorem dL_holds_72 : decode cL_holds 72 = .ok (.iload_n 3, 1) := by decide +kernel
theorem dL_holds_73 : decode cL_holds 73 = .ok (.bipush 7, 2) := by decide +kernel
theorem dL_holds_75 : decode cL_holds 75 = .ok (.invokevirtual 39, 3) := by decide +kernel
theorem dL_holds_78 : decode cL_holds 78 = .ok (.iadd, 1) := by decide +kernel
theorem dL_holds_79 : decode cL_holds 79 = .ok (.iastore, 1) := by decide +kernel
theorem dL_holds_80 : decode cL_holds 80 = .ok (.iload 4, 2) := by decide +kernel
theorem dL_holds_82 : decode cL_holds 82 = .ok (.iconst 5, 1) := by decide +kernel
theorem dL_holds_83 : decode cL_holds 83 = .ok (.irem, 1) := by decide +kernel
theorem dL_holds_84 : decode cL_holds 84 = .ok (.ifCond .ne 130, 3) := by decide +kernel
theorem dL_holds_87 : decode cL_holds 87 = .ok (.iload 4, 2) := by decide +kernel
theorem dL_holds_89 : decode cL_holds 89 = .ok (.aload_n 0, 1) := by decide +kernel
theorem dL_holds_90 : decode cL_holds 90 = .ok (.iload_n 3, 1) := by decide +kernel
theorem dL_holds_91 : decode cL_holds 91 = .ok (.iconst 3, 1) := by decide +kernel
theorem dL_holds_92 : decode cL_holds 92 = .ok (.invokevirtual 39, 3) := by decide +kernel
theorem dL_holds_95 : decode cL_holds 95 = .ok (.if_icmp .lt 119, 3) := by decide +kernel
theorem dL_holds_98 : decode cL_holds 98 = .ok (.iload 4, 2) := by decide +kernel
theorem dL_holds_100 : decode cL_holds 100 = .ok (.aload_n 0, 1) := by decide +kernel
theorem dL_holds_101 : decode cL_holds 101 = .ok (.iload_n 3, 1) := by decide +kernel
theorem dL_holds_102 : decode cL_holds 102 = .ok (.iconst 4, 1) := by decide +kernel
theorem dL_holds_103 : decode cL_holds 103 = .ok (.invokevirtual 39, 3) := by decide +kernel
theorem dL_holds_106 : decode cL_holds 106 = .ok (.if_icmp .gt 108, 3) := by decide +kernel
theorem dL_holds_109 : decode cL_holds 109 = .ok (.aload_n 0, 1) := by decide +kernel
theorem dL_holds_110 : decode cL_holds 110 = .ok (.iload_n 3, 1) := by decide +kernel
theorem dL_holds_111 : decode cL_holds 111 = .ok (.iconst 1, 1) := by decide +kernel
theorem dL_holds_112 : decode cL_holds 112 = .ok (.invokevirtual 39, 3) := by decide +kernel
theorem dL_holds_115 : decode cL_holds 115 = .ok (.ifCond .lt 99, 3) := by decide +kernel
theorem dL_holds_118 : decode cL_holds 118 = .ok (.aload_n 0, 1) := by decide +kernel
theorem dL_holds_119 : decode cL_holds 119 = .ok (.iload_n 3, 1) := by decide +kernel
theorem dL_holds_120 : decode cL_holds 120 = .ok (.iconst 1, 1) := by decide +kernel
theorem dL_holds_121 : decode cL_holds 121 = .ok (.invokevirtual 39, 3) := by decide +kernel
theorem dL_holds_124 : decode cL_holds 124 = .ok (.bipush 20, 2) := by decide +kernel
theorem dL_holds_126 : decode cL_holds 126 = .ok (.if_icmp .gt 88, 3) := by decide +kernel
theorem dL_holds_129 : decode cL_holds 129 = .ok (.iload 5, 2) := by decide +kernel
theorem dL_holds_131 : decode cL_holds 131 = .ok (.ifCond .lt 83, 3) := by decide +kernel
theorem dL_holds_134 : decode cL_holds 134 = .ok (.iload 5, 2) := by decide +kernel
theorem dL_holds_136 : decode cL_holds 136 = .ok (.iconst 3, 1) := by decide +kernel
theorem dL_holds_137 : decode cL_holds 137 = .ok (.if_icmp .gt 77, 3) := by decide +kernel
theorem dL_holds_140 : decode cL_holds 140 = .ok (.iload 6, 2) := by decide +kernel
theorem dL_holds_142 : decode cL_holds 142 = .ok (.ifCond .lt 72, 3) := by decide +kernel
theorem dL_holds_145 : decode cL_holds 145 = .ok (.iload 6, 2) := by decide +kernel
theorem dL_holds_147 : decode cL_holds 147 = .ok (.iconst 1, 1) := by decide +kernel
theorem dL_holds_148 : decode cL_holds 148 = .ok (.if_icmp .gt 66, 3) := by decide +kernel
theorem dL_holds_151 : decode cL_holds 151 = .ok (.iload_n 3, 1) := by decide +kernel
theorem dL_holds_152 : decode cL_holds 152 = .ok (.iload_n 2, 1) := by decide +kernel
theorem dL_holds_153 : decode cL_holds 153 = .ok (.iconst 1, 1) := by decide +kernel
theorem dL_holds_154 : decode cL_holds 154 = .ok (.isub, 1) := by decide +kernel
theorem dL_holds_155 : decode cL_holds 155 = .ok (.if_icmp .ne 8, 3) := by decide +kernel
theorem dL_holds_158 : decode cL_holds 158 = .ok (.iload 6, 2) := by decide +kernel
theorem dL_holds_160 : decode cL_holds 160 = .ok (.ifCond .ne 54, 3) := by decide +kernel
theorem dL_holds_163 : decode cL_holds 163 = .ok (.aload_n 0, 1) := by decide +kernel
theorem dL_holds_164 : decode cL_holds 164 = .ok (.iload_n 3, 1) := by decide +kernel
theorem dL_holds_165 : decode cL_holds 165 = .ok (.invokevirtual 45, 3) := by decide +kernel
theorem dL_holds_168 : decode cL_holds 168 = .ok (.fconst 0, 1) := by decide +kernel
theorem dL_holds_169 : decode cL_holds 169 = .ok (.fcmp .l, 1) := by decide +kernel
theorem dL_holds_170 : decode cL_holds 170 = .ok (.ifCond .lt 44, 3) := by decide +kernel
theorem dL_holds_173 : decode cL_holds 173 = .ok (.aload_n 0, 1) := by decide +kernel
theorem dL_holds_174 : decode cL_holds 174 = .ok (.iload_n 3, 1) := by decide +kernel
theorem dL_holds_175 : decode cL_holds 175 = .ok (.invokevirtual 45, 3) := by decide +kernel
theorem dL_holds_178 : decode cL_holds 178 = .ok (.aload_n 0, 1) := by decide +kernel
theorem dL_holds_179 : decode cL_holds 179 = .ok (.aload_n 0, 1) := by decide +kernel
theorem dL_holds_180 : decode cL_holds 180 = .ok (.invokevirtual 49, 3) := by decide +kernel
theorem dL_holds_183 : decode cL_holds 183 = .ok (.invokevirtual 45, 3) := by decide +kernel
theorem dL_holds_186 : decode cL_holds 186 = .ok (.fcmp .l, 1) := by decide +kernel
theorem dL_holds_187 : decode cL_holds 187 = .ok (.ifCond .gt 27, 3) := by decide +kernel
theorem dL_holds_190 : decode cL_holds 190 = .ok (.aload_n 0, 1) := by decide +kernel
theorem dL_holds_191 : decode cL_holds 191 = .ok (.iload_n 3, 1) := by decide +kernel
theorem dL_holds_192 : decode cL_holds 192 = .ok (.bipush 7, 2) := by decide +kernel
theorem dL_holds_194 : decode cL_holds 194 = .ok (.invokevirtual 39, 3) := by decide +kernel
theorem dL_holds_197 : decode cL_holds 197 = .ok (.aload_n 0, 1) := by decide +kernel
theorem dL_holds_198 : decode cL_holds 198 = .ok (.iload_n 3, 1) := by decide +kernel
theorem dL_holds_199 : decode cL_holds 199 = .ok (.bipush 6, 2) := by decide +kernel
theorem dL_holds_201 : decode cL_holds 201 = .ok (.invokevirtual 39, 3) := by decide +kernel
theorem dL_holds_204 : decode cL_holds 204 = .ok (.aload_n 0, 1) := by decide +kernel
theorem dL_holds_205 : decode cL_holds 205 = .ok (.iload_n 3, 1) := by decide +kernel
theorem dL_holds_206 : decode cL_holds 206 = .ok (.iconst 3, 1) := by decide +kernel
theorem dL_holds_207 : decode cL_holds 207 = .ok (.invokevirtual 39, 3) := by decide +kernel
theorem dL_holds_210 : decode cL_holds 210 = .ok (.imul, 1) := by decide +kernel
theorem dL_holds_211 : decode cL_holds 211 = .ok (.if_icmp .ge 5, 3) := by decide +kernel
theorem dL_holds_214 : decode cL_holds 214 = .ok (.iconst 0, 1) := by decide +kernel
theorem dL_holds_215 : decode cL_holds 215 = .ok (.ireturn, 1) := by decide +kernel
theorem dL_holds_216 : decode cL_holds 216 = .ok (.iinc 3 1, 3) := by decide +kernel
theorem dL_holds_219 : decode cL_holds 219 = .ok (.goto (-207), 3) := by decide +kernel
theorem dL_holds_222 : decode cL_holds 222 = .ok (.iconst 0, 1) := by decide +kernel
theorem dL_holds_223 : decode cL_holds 223 = .ok (.istore_n 3, 1) := by decide +kernel
theorem dL_holds_224 : decode cL_holds 224 = .ok (.iconst 0, 1) := by decide +kernel
theorem dL_holds_225 : decode cL_holds 225 = .ok (.istore 4, 2) := by decide +kernel
theorem dL_holds_227 : decode cL_holds 227 = .ok (.iload 4, 2) := by decide +kernel
theorem dL_holds_229 : decode cL_holds 229 = .ok (.iconst 4, 1) := by decide +kernel
theorem dL_holds_230 : decode cL_holds 230 = .ok (.if_icmp .ge 46, 3) := by decide +kernel
theorem dL_holds_233 : decode cL_holds 233 = .ok (.iload_n 3, 1) := by decide +kernel
theorem dL_holds_234 : decode cL_holds 234 = .ok (.aload_n 0, 1) := by decide +kernel
theorem dL_holds_235 : decode cL_holds 235 = .ok (.iload 4, 2) := by decide +kernel
theorem dL_holds_237 : decode cL_holds 237 = .ok (.invokevirtual 52, 3) := by decide +kernel
theorem dL_holds_240 : decode cL_holds 240 = .ok (.iload 4, 2) := by decide +kernel
theorem dL_holds_242 : decode cL_holds 242 = .ok (.invokestatic 55, 3) := by decide +kernel
theorem dL_holds_245 : decode cL_holds 245 = .ok (.imul, 1) := by decide +kernel
theorem dL_holds_246 : decode cL_holds 246 = .ok (.iadd, 1) := by decide +kernel
theorem dL_holds_247 : decode cL_holds 247 = .ok (.istore_n 3, 1) := by decide +kernel
theorem dL_holds_248 : decode cL_holds 248 = .ok (.aload_n 0, 1) := by decide +kernel
theorem dL_holds_249 : decode cL_holds 249 = .ok (.iload 4, 2) := by decide +kernel
theorem dL_holds_251 : decode cL_holds 251 = .ok (.invokevirtual 52, 3) := by decide +kernel
theorem dL_holds_254 : decode cL_holds 254 = .ok (.ifCond .lt 14, 3) := by decide +kernel
theorem dL_holds_257 : decode cL_holds 257 = .ok (.aload_n 0, 1) := by decide +kernel
theorem dL_holds_258 : decode cL_holds 258 = .ok (.iload 4, 2) := by decide +kernel
theorem dL_holds_260 : decode cL_holds 260 = .ok (.invokevirtual 52, 3) := by decide +kernel
theorem dL_holds_263 : decode cL_holds 263 = .ok (.bipush 30, 2) := by decide +kernel
theorem dL_holds_265 : decode cL_holds 265 = .ok (.if_icmp .le 5, 3) := by decide +kernel
theorem dL_holds_268 : decode cL_holds 268 = .ok (.iconst 0, 1) := by decide +kernel
theorem dL_holds_269 : decode cL_holds 269 = .ok (.ireturn, 1) := by decide +kernel
theorem dL_holds_270 : decode cL_holds 270 = .ok (.iinc 4 1, 3) := by decide +kernel
theorem dL_holds_273 : decode cL_holds 273 = .ok (.goto (-46), 3) := by decide +kernel
theorem dL_holds_276 : decode cL_holds 276 = .ok (.iconst 0, 1) := by decide +kernel
theorem dL_holds_277 : decode cL_holds 277 = .ok (.istore 4, 2) := by decide +kernel
theorem dL_holds_279 : decode cL_holds 279 = .ok (.iload 4, 2) := by decide +kernel
theorem dL_holds_281 : decode cL_holds 281 = .ok (.aload_n 0, 1) := by decide +kernel
theorem dL_holds_282 : decode cL_holds 282 = .ok (.iconst 4, 1) := by decide +kernel
theorem dL_holds_283 : decode cL_holds 283 = .ok (.invokevirtual 42, 3) := by decide +kernel
theorem dL_holds_286 : decode cL_holds 286 = .ok (.if_icmp .ge 44, 3) := by decide +kernel
theorem dL_holds_289 : decode cL_holds 289 = .ok (.aload_n 1, 1) := by decide +kernel
theorem dL_holds_290 : decode cL_holds 290 = .ok (.iconst 3, 1) := by decide +kernel
theorem dL_holds_291 : decode cL_holds 291 = .ok (.dup2, 1) := by decide +kernel
theorem dL_holds_292 : decode cL_holds 292 = .ok (.iaload, 1) := by decide +kernel
theorem dL_holds_293 : decode cL_holds 293 = .ok (.aload_n 0, 1) := by decide +kernel
theorem dL_holds_294 : decode cL_holds 294 = .ok (.iload 4, 2) := by decide +kernel
theorem dL_holds_296 : decode cL_holds 296 = .ok (.invokevirtual 36, 3) := by decide +kernel
theorem dL_holds_299 : decode cL_holds 299 = .ok (.iadd, 1) := by decide +kernel
theorem dL_holds_300 : decode cL_holds 300 = .ok (.iastore, 1) := by decide +kernel
theorem dL_holds_301 : decode cL_holds 301 = .ok (.aload_n 0, 1) := by decide +kernel
theorem dL_holds_302 : decode cL_holds 302 = .ok (.iload 4, 2) := by decide +kernel
theorem dL_holds_304 : decode cL_holds 304 = .ok (.invokevirtual 36, 3) := by decide +kernel
theorem dL_holds_307 : decode cL_holds 307 = .ok (.iconst 5, 1) := by decide +kernel
theorem dL_holds_308 : decode cL_holds 308 = .ok (.if_icmp .lt 14, 3) := by decide +kernel
theorem dL_holds_311 : decode cL_holds 311 = .ok (.aload_n 0, 1) := by decide +kernel
theorem dL_holds_312 : decode cL_holds 312 = .ok (.iload 4, 2) := by decide +kernel
theorem dL_holds_314 : decode cL_holds 314 = .ok (.invokevirtual 36, 3) := by decide +kernel
theorem dL_holds_317 : decode cL_holds 317 = .ok (.iconst 5, 1) := by decide +kernel
theorem dL_holds_318 : decode cL_holds 318 = .ok (.irem, 1) := by decide +kernel
theorem dL_holds_319 : decode cL_holds 319 = .ok (.ifCond .eq 5, 3) := by decide +kernel
theorem dL_holds_322 : decode cL_holds 322 = .ok (.iconst 0, 1) := by decide +kernel
theorem dL_holds_323 : decode cL_holds 323 = .ok (.ireturn, 1) := by decide +kernel
theorem dL_holds_324 : decode cL_holds 324 = .ok (.iinc 4 1, 3) := by decide +kernel
theorem dL_holds_327 : decode cL_holds 327 = .ok (.goto (-48), 3) := by decide +kernel
theorem dL_holds_330 : decode cL_holds 330 = .ok (.aload_n 0, 1) := by decide +kernel
theorem dL_holds_331 : decode cL_holds 331 = .ok (.aload_n 0, 1) := by decide +kernel
theorem dL_holds_332 : decode cL_holds 332 = .ok (.iconst 4, 1) := by decide +kernel
theorem dL_holds_333 : decode cL_holds 333 = .ok (.invokevirtual 42, 3) := by decide +kernel
theorem dL_holds_336 : decode cL_holds 336 = .ok (.invokestatic 60, 3) := by decide +kernel
theorem dL_holds_339 : decode cL_holds 339 = .ok (.sipush (-903), 3) := by decide +kernel
theorem dL_holds_342 : decode cL_holds 342 = .ok (.if_icmp .ne 87, 3) := by decide +kernel
theorem dL_holds_345 : decode cL_holds 345 = .ok (.aload_n 0, 1) := by decide +kernel
theorem dL_holds_346 : decode cL_holds 346 = .ok (.iconst 2, 1) := by decide +kernel
theorem dL_holds_347 : decode cL_holds 347 = .ok (.invokevirtual 42, 3) := by decide +kernel
theorem dL_holds_350 : decode cL_holds 350 = .ok (.iload_n 3, 1) := by decide +kernel
theorem dL_holds_351 : decode cL_holds 351 = .ok (.if_icmp .ne 78, 3) := by decide +kernel
theorem dL_holds_354 : decode cL_holds 354 = .ok (.aload_n 0, 1) := by decide +kernel
theorem dL_holds_355 : decode cL_holds 355 = .ok (.iconst 5, 1) := by decide +kernel
theorem dL_holds_356 : decode cL_holds 356 = .ok (.invokevirtual 42, 3) := by decide +kernel
theorem dL_holds_359 : decode cL_holds 359 = .ok (.aload_n 1, 1) := by decide +kernel
theorem dL_holds_360 : decode cL_holds 360 = .ok (.iconst 3, 1) := by decide +kernel
theorem dL_holds_361 : decode cL_holds 361 = .ok (.iaload, 1) := by decide +kernel
theorem dL_holds_362 : decode cL_holds 362 = .ok (.if_icmp .ne 67, 3) := by decide +kernel
theorem dL_holds_365 : decode cL_holds 365 = .ok (.aload_n 0, 1) := by decide +kernel
theorem dL_holds_366 : decode cL_holds 366 = .ok (.bipush 7, 2) := by decide +kernel
theorem dL_holds_368 : decode cL_holds 368 = .ok (.invokevirtual 42, 3) := by decide +kernel
theorem dL_holds_371 : decode cL_holds 371 = .ok (.aload_n 1, 1) := by decide +kernel
theorem dL_holds_372 : decode cL_holds 372 = .ok (.iconst 1, 1) := by decide +kernel
theorem dL_holds_373 : decode cL_holds 373 = .ok (.iaload, 1) := by decide +kernel
theorem dL_holds_374 : decode cL_holds 374 = .ok (.if_icmp .ne 55, 3) := by decide +kernel
theorem dL_holds_377 : decode cL_holds 377 = .ok (.aload_n 0, 1) := by decide +kernel
theorem dL_holds_378 : decode cL_holds 378 = .ok (.bipush 8, 2) := by decide +kernel
theorem dL_holds_380 : decode cL_holds 380 = .ok (.invokevirtual 42, 3) := by decide +kernel
theorem dL_holds_383 : decode cL_holds 383 = .ok (.aload_n 1, 1) := by decide +kernel
theorem dL_holds_384 : decode cL_holds 384 = .ok (.iconst 2, 1) := by decide +kernel
theorem dL_holds_385 : decode cL_holds 385 = .ok (.iaload, 1) := by decide +kernel
theorem dL_holds_386 : decode cL_holds 386 = .ok (.if_icmp .ne 43, 3) := by decide +kernel
theorem dL_holds_389 : decode cL_holds 389 = .ok (.aload_n 0, 1) := by decide +kernel
theorem dL_holds_390 : decode cL_holds 390 = .ok (.bipush 10, 2) := by decide +kernel
theorem dL_holds_392 : decode cL_holds 392 = .ok (.invokevirtual 42, 3) := by decide +kernel
theorem dL_holds_395 : decode cL_holds 395 = .ok (.aload_n 1, 1) := by decide +kernel
theorem dL_holds_396 : decode cL_holds 396 = .ok (.iconst 0, 1) := by decide +kernel
theorem dL_holds_397 : decode cL_holds 397 = .ok (.iaload, 1) := by decide +kernel
theorem dL_holds_398 : decode cL_holds 398 = .ok (.if_icmp .ne 31, 3) := by decide +kernel
theorem dL_holds_401 : decode cL_holds 401 = .ok (.iload_n 2, 1) := by decide +kernel
theorem dL_holds_402 : decode cL_holds 402 = .ok (.ifCond .gt 11, 3) := by decide +kernel
theorem dL_holds_405 : decode cL_holds 405 = .ok (.aload_n 0, 1) := by decide +kernel
theorem dL_holds_406 : decode cL_holds 406 = .ok (.invokevirtual 49, 3) := by decide +kernel
theorem dL_holds_409 : decode cL_holds 409 = .ok (.iconst (-1), 1) := by decide +kernel
theorem dL_holds_410 : decode cL_holds 410 = .ok (.if_icmp .ne 19, 3) := by decide +kernel
theorem dL_holds_413 : decode cL_holds 413 = .ok (.aload_n 0, 1) := by decide +kernel
theorem dL_holds_414 : decode cL_holds 414 = .ok (.iload_n 2, 1) := by decide +kernel
theorem dL_holds_415 : decode cL_holds 415 = .ok (.iconst 0, 1) := by decide +kernel
theorem dL_holds_416 : decode cL_holds 416 = .ok (.invokestatic 63, 3) := by decide +kernel
theorem dL_holds_419 : decode cL_holds 419 = .ok (.sipush (-903), 3) := by decide +kernel
theorem dL_holds_422 : decode cL_holds 422 = .ok (.if_icmp .ne 7, 3) := by decide +kernel
theorem dL_holds_425 : decode cL_holds 425 = .ok (.iconst 1, 1) := by decide +kernel
theorem dL_holds_426 : decode cL_holds 426 = .ok (.goto 4, 3) := by decide +kernel
theorem dL_holds_429 : decode cL_holds 429 = .ok (.iconst 0, 1) := by decide +kernel
theorem dL_holds_430 : decode cL_holds 430 = .ok (.ireturn, 1) := by decide +kernel
theorem dL_pays_0 : decode cL_pays 0 = .ok (.iconst 0, 1) := by decide +kernel
theorem dL_pays_1 : decode cL_pays 1 = .ok (.istore_n 2, 1) := by decide +kernel
theorem dL_pays_2 : decode cL_pays 2 = .ok (.iconst 0, 1) := by decide +kernel
theorem dL_pays_3 : decode cL_pays 3 = .ok (.istore_n 3, 1) := by decide +kernel
theorem dL_pays_4 : decode cL_pays 4 = .ok (.aload_n 0, 1) := by decide +kernel
theorem dL_pays_5 : decode cL_pays 5 = .ok (.iload_n 1, 1) := by decide +kernel
theorem dL_pays_6 : decode cL_pays 6 = .ok (.iconst 0, 1) := by decide +kernel
theorem dL_pays_7 : decode cL_pays 7 = .ok (.invokevirtual 66, 3) := by decide +kernel
theorem dL_pays_10 : decode cL_pays 10 = .ok (.iconst (-1), 1) := by decide +kernel
theorem dL_pays_11 : decode cL_pays 11 = .ok (.if_icmp .ne 7, 3) := by decide +kernel
theorem dL_pays_14 : decode cL_pays 14 = .ok (.iconst 1, 1) := by decide +kernel
theorem dL_pays_15 : decode cL_pays 15 = .ok (.goto 4, 3) := by decide +kernel
theorem dL_pays_18 : decode cL_pays 18 = .ok (.iconst 0, 1) := by decide +kernel
theorem dL_pays_19 : decode cL_pays 19 = .ok (.istore 4, 2) := by decide +kernel
theorem dL_pays_21 : decode cL_pays 21 = .ok (.iconst 0, 1) := by decide +kernel
theorem dL_pays_22 : decode cL_pays 22 = .ok (.istore 5, 2) := by decide +kernel
theorem dL_pays_24 : decode cL_pays 24 = .ok (.iload 5, 2) := by decide +kernel
theorem dL_pays_26 : decode cL_pays 26 = .ok (.iconst 4, 1) := by decide +kernel
theorem dL_pays_27 : decode cL_pays 27 = .ok (.if_icmp .ge 63, 3) := by decide +kernel
theorem dL_pays_30 : decode cL_pays 30 = .ok (.aload_n 0, 1) := by decide +kernel
theorem dL_pays_31 : decode cL_pays 31 = .ok (.iload_n 1, 1) := by decide +kernel
theorem dL_pays_32 : decode cL_pays 32 = .ok (.iload 5, 2) := by decide +kernel
theorem dL_pays_34 : decode cL_pays 34 = .ok (.invokevirtual 66, 3) := by decide +kernel
theorem dL_pays_37 : decode cL_pays 37 = .ok (.istore 6, 2) := by decide +kernel
theorem dL_pays_39 : decode cL_pays 39 = .ok (.iload_n 2, 1) := by decide +kernel
theorem dL_pays_40 : decode cL_pays 40 = .ok (.iload 6, 2) := by decide +kernel
theorem dL_pays_42 : decode cL_pays 42 = .ok (.iload 5, 2) := by decide +kernel
theorem dL_pays_44 : decode cL_pays 44 = .ok (.invokestatic 55, 3) := by decide +kernel
theorem dL_pays_47 : decode cL_pays 47 = .ok (.imul, 1) := by decide +kernel
theorem dL_pays_48 : decode cL_pays 48 = .ok (.iadd, 1) := by decide +kernel
theorem dL_pays_49 : decode cL_pays 49 = .ok (.istore_n 2, 1) := by decide +kernel
theorem dL_pays_50 : decode cL_pays 50 = .ok (.iload_n 3, 1) := by decide +kernel
theorem dL_pays_51 : decode cL_pays 51 = .ok (.iload 6, 2) := by decide +kernel
theorem dL_pays_53 : decode cL_pays 53 = .ok (.iadd, 1) := by decide +kernel
theorem dL_pays_54 : decode cL_pays 54 = .ok (.istore_n 3, 1) := by decide +kernel
theorem dL_pays_55 : decode cL_pays 55 = .ok (.iload 6, 2) := by decide +kernel
theorem dL_pays_57 : decode cL_pays 57 = .ok (.iconst (-1), 1) := by decide +kernel
theorem dL_pays_58 : decode cL_pays 58 = .ok (.if_icmp .ne 7, 3) := by decide +kernel
theorem dL_pays_61 : decode cL_pays 61 = .ok (.iconst 1, 1) := by decide +kernel
theorem dL_pays_62 : decode cL_pays 62 = .ok (.goto 4, 3) := by decide +kernel
theorem dL_pays_65 : decode cL_pays 65 = .ok (.iconst 0, 1) := by decide +kernel
theorem dL_pays_66 : decode cL_pays 66 = .ok (.iload 4, 2) := by decide +kernel
theorem dL_pays_68 : decode cL_pays 68 = .ok (.if_icmp .ne 14, 3) := by decide +kernel
theorem dL_pays_71 : decode cL_pays 71 = .ok (.iload 6, 2) := by decide +kernel
theorem dL_pays_73 : decode cL_pays 73 = .ok (.aload_n 0, 1) := by decide +kernel
theorem dL_pays_74 : decode cL_pays 74 = .ok (.iload 5, 2) := by decide +kernel
theorem dL_pays_76 : decode cL_pays 76 = .ok (.invokevirtual 52, 3) := by decide +kernel
theorem dL_pays_79 : decode cL_pays 79 = .ok (.if_icmp .le 5, 3) := by decide +kernel
theorem dL_pays_82 : decode cL_pays 82 = .ok (.iconst 0, 1) := by decide +kernel
theorem dL_pays_83 : decode cL_pays 83 = .ok (.ireturn, 1) := by decide +kernel
theorem dL_pays_84 : decode cL_pays 84 = .ok (.iinc 5 1, 3) := by decide +kernel
theorem dL_pays_87 : decode cL_pays 87 = .ok (.goto (-63), 3) := by decide +kernel
theorem dL_pays_90 : decode cL_pays 90 = .ok (.aload_n 0, 1) := by decide +kernel
theorem dL_pays_91 : decode cL_pays 91 = .ok (.iload_n 1, 1) := by decide +kernel
theorem dL_pays_92 : decode cL_pays 92 = .ok (.invokevirtual 69, 3) := by decide +kernel
theorem dL_pays_95 : decode cL_pays 95 = .ok (.istore 5, 2) := by decide +kernel
theorem dL_pays_97 : decode cL_pays 97 = .ok (.aload_n 0, 1) := by decide +kernel
theorem dL_pays_98 : decode cL_pays 98 = .ok (.iload_n 1, 1) := by decide +kernel
theorem dL_pays_99 : decode cL_pays 99 = .ok (.invokevirtual 72, 3) := by decide +kernel
theorem dL_pays_102 : decode cL_pays 102 = .ok (.istore 6, 2) := by decide +kernel
theorem dL_pays_104 : decode cL_pays 104 = .ok (.iload 4, 2) := by decide +kernel
theorem dL_pays_106 : decode cL_pays 106 = .ok (.ifCond .eq 18, 3) := by decide +kernel
theorem dL_pays_109 : decode cL_pays 109 = .ok (.iload 5, 2) := by decide +kernel
theorem dL_pays_111 : decode cL_pays 111 = .ok (.iconst 4, 1) := by decide +kernel
theorem dL_pays_112 : decode cL_pays 112 = .ok (.if_icmp .eq 36, 3) := by decide +kernel
theorem dL_pays_115 : decode cL_pays 115 = .ok (.iload 6, 2) := by decide +kernel
theorem dL_pays_117 : decode cL_pays 117 = .ok (.iload_n 1, 1) := by decide +kernel
theorem dL_pays_118 : decode cL_pays 118 = .ok (.if_icmp .ne 32, 3) := by decide +kernel
theorem dL_pays_121 : decode cL_pays 121 = .ok (.goto 27, 3) := by decide +kernel
theorem dL_pays_124 : decode cL_pays 124 = .ok (.iload 5, 2) := by decide +kernel
theorem dL_pays_126 : decode cL_pays 126 = .ok (.iconst 4, 1) := by decide +kernel
theorem dL_pays_127 : decode cL_pays 127 = .ok (.if_icmp .ne 21, 3) := by decide +kernel
theorem dL_pays_130 : decode cL_pays 130 = .ok (.iload_n 2, 1) := by decide +kernel
theorem dL_pays_131 : decode cL_pays 131 = .ok (.iload_n 1, 1) := by decide +kernel
theorem dL_pays_132 : decode cL_pays 132 = .ok (.if_icmp .ne 16, 3) := by decide +kernel
theorem dL_pays_135 : decode cL_pays 135 = .ok (.iload 6, 2) := by decide +kernel
theorem dL_pays_137 : decode cL_pays 137 = .ok (.iload_n 1, 1) := by decide +kernel
theorem dL_pays_138 : decode cL_pays 138 = .ok (.if_icmp .ne 10, 3) := by decide +kernel
theorem dL_pays_141 : decode cL_pays 141 = .ok (.iload_n 3, 1) := by decide +kernel
theorem dL_pays_142 : decode cL_pays 142 = .ok (.iload_n 1, 1) := by decide +kernel
theorem dL_pays_143 : decode cL_pays 143 = .ok (.iconst 5, 1) := by decide +kernel
theorem dL_pays_144 : decode cL_pays 144 = .ok (.idiv, 1) := by decide +kernel
theorem dL_pays_145 : decode cL_pays 145 = .ok (.if_icmp .le 5, 3) := by decide +kernel
theorem dL_pays_148 : decode cL_pays 148 = .ok (.iconst 0, 1) := by decide +kernel
theorem dL_pays_149 : decode cL_pays 149 = .ok (.ireturn, 1) := by decide +kernel
theorem dL_pays_150 : decode cL_pays 150 = .ok (.aload_n 0, 1) := by decide +kernel
theorem dL_pays_151 : decode cL_pays 151 = .ok (.iload 6, 2) := by decide +kernel
theorem dL_pays_153 : decode cL_pays 153 = .ok (.iconst 0, 1) := by decide +kernel
theorem dL_pays_154 : decode cL_pays 154 = .ok (.invokevirtual 66, 3) := by decide +kernel
theorem dL_pays_157 : decode cL_pays 157 = .ok (.iconst (-1), 1) := by decide +kernel
theorem dL_pays_158 : decode cL_pays 158 = .ok (.if_icmp .eq 20, 3) := by decide +kernel
theorem dL_pays_161 : decode cL_pays 161 = .ok (.iload 6, 2) := by decide +kernel
theorem dL_pays_163 : decode cL_pays 163 = .ok (.iload_n 1, 1) := by decide +kernel
theorem dL_pays_164 : decode cL_pays 164 = .ok (.if_icmp .gt 14, 3) := by decide +kernel
theorem dL_pays_167 : decode cL_pays 167 = .ok (.iload 6, 2) := by decide +kernel
theorem dL_pays_169 : decode cL_pays 169 = .ok (.iconst 5, 1) := by decide +kernel
theorem dL_pays_170 : decode cL_pays 170 = .ok (.irem, 1) := by decide +kernel
theorem dL_pays_171 : decode cL_pays 171 = .ok (.ifCond .ne 7, 3) := by decide +kernel
theorem dL_pays_174 : decode cL_pays 174 = .ok (.iconst 1, 1) := by decide +kernel
theorem dL_pays_175 : decode cL_pays 175 = .ok (.goto 4, 3) := by decide +kernel
theorem dL_pays_178 : decode cL_pays 178 = .ok (.iconst 0, 1) := by decide +kernel
theorem dL_pays_179 : decode cL_pays 179 = .ok (.istore 7, 2) := by decide +kernel
theorem dL_pays_181 : decode cL_pays 181 = .ok (.iload 6, 2) := by decide +kernel
theorem dL_pays_183 : decode cL_pays 183 = .ok (.iconst 1, 1) := by decide +kernel
theorem dL_pays_184 : decode cL_pays 184 = .ok (.iadd, 1) := by decide +kernel
theorem dL_pays_185 : decode cL_pays 185 = .ok (.istore 8, 2) := by decide +kernel
theorem dL_pays_187 : decode cL_pays 187 = .ok (.iload 8, 2) := by decide +kernel
theorem dL_pays_189 : decode cL_pays 189 = .ok (.iload_n 1, 1) := by decide +kernel
theorem dL_pays_190 : decode cL_pays 190 = .ok (.if_icmp .gt 42, 3) := by decide +kernel
theorem dL_pays_193 : decode cL_pays 193 = .ok (.iload 8, 2) := by decide +kernel
theorem dL_pays_195 : decode cL_pays 195 = .ok (.iload 6, 2) := by decide +kernel
theorem dL_pays_197 : decode cL_pays 197 = .ok (.bipush 60, 2) := by decide +kernel
theorem dL_pays_199 : decode cL_pays 199 = .ok (.iadd, 1) := by decide +kernel
theorem dL_pays_200 : decode cL_pays 200 = .ok (.if_icmp .ge 32, 3) := by decide +kernel
theorem dL_pays_203 : decode cL_pays 203 = .ok (.iload 7, 2) := by decide +kernel
theorem dL_pays_205 : decode cL_pays 205 = .ok (.ifCond .eq 27, 3) := by decide +kernel
theorem dL_pays_208 : decode cL_pays 208 = .ok (.aload_n 0, 1) := by decide +kernel
theorem dL_pays_209 : decode cL_pays 209 = .ok (.iload 8, 2) := by decide +kernel
theorem dL_pays_211 : decode cL_pays 211 = .ok (.iconst 0, 1) := by decide +kernel
theorem dL_pays_212 : decode cL_pays 212 = .ok (.invokevirtual 66, 3) := by decide +kernel
theorem dL_pays_215 : decode cL_pays 215 = .ok (.iconst (-1), 1) := by decide +kernel
theorem dL_pays_216 : decode cL_pays 216 = .ok (.if_icmp .ne 7, 3) := by decide +kernel
theorem dL_pays_219 : decode cL_pays 219 = .ok (.iconst 1, 1) := by decide +kernel
theorem dL_pays_220 : decode cL_pays 220 = .ok (.goto 4, 3) := by decide +kernel
theorem dL_pays_223 : decode cL_pays 223 = .ok (.iconst 0, 1) := by decide +kernel
theorem dL_pays_224 : decode cL_pays 224 = .ok (.istore 7, 2) := by decide +kernel
theorem dL_pays_226 : decode cL_pays 226 = .ok (.iinc 8 1, 3) := by decide +kernel
theorem dL_pays_229 : decode cL_pays 229 = .ok (.goto (-42), 3) := by decide +kernel
theorem dL_pays_232 : decode cL_pays 232 = .ok (.iload 7, 2) := by decide +kernel
theorem dL_pays_234 : decode cL_pays 234 = .ok (.ifCond .eq 24, 3) := by decide +kernel
theorem dL_pays_237 : decode cL_pays 237 = .ok (.iload_n 1, 1) := by decide +kernel
theorem dL_pays_238 : decode cL_pays 238 = .ok (.iconst 5, 1) := by decide +kernel
theorem dL_pays_239 : decode cL_pays 239 = .ok (.irem, 1) := by decide +kernel
theorem dL_pays_240 : decode cL_pays 240 = .ok (.ifCond .eq 14, 3) := by decide +kernel
theorem dL_pays_243 : decode cL_pays 243 = .ok (.iload 4, 2) := by decide +kernel
theorem dL_pays_245 : decode cL_pays 245 = .ok (.ifCond .eq 13, 3) := by decide +kernel
theorem dL_pays_248 : decode cL_pays 248 = .ok (.iload 5, 2) := by decide +kernel
theorem dL_pays_250 : decode cL_pays 250 = .ok (.iconst (-1), 1) := by decide +kernel
theorem dL_pays_251 : decode cL_pays 251 = .ok (.if_icmp .ne 7, 3) := by decide +kernel
theorem dL_pays_254 : decode cL_pays 254 = .ok (.iconst 1, 1) := by decide +kernel
theorem dL_pays_255 : decode cL_pays 255 = .ok (.goto 4, 3) := by decide +kernel
theorem dL_pays_258 : decode cL_pays 258 = .ok (.iconst 0, 1) := by decide +kernel
theorem dL_pays_259 : decode cL_pays 259 = .ok (.ireturn, 1) := by decide +kernel
theorem dL_sells_0 : decode cL_sells 0 = .ok (.iload_n 2, 1) := by decide +kernel
theorem dL_sells_1 : decode cL_sells 1 = .ok (.iload_n 2, 1) := by decide +kernel
theorem dL_sells_2 : decode cL_sells 2 = .ok (.bipush 20, 2) := by decide +kernel
theorem dL_sells_4 : decode cL_sells 4 = .ok (.ishr, 1) := by decide +kernel
theorem dL_sells_5 : decode cL_sells 5 = .ok (.iconst 3, 1) := by decide +kernel
theorem dL_sells_6 : decode cL_sells 6 = .ok (.invokestatic 75, 3) := by decide +kernel
theorem dL_sells_9 : decode cL_sells 9 = .ok (.ifCond .ne 8, 3) := by decide +kernel
theorem dL_sells_12 : decode cL_sells 12 = .ok (.bipush 10, 2) := by decide +kernel
theorem dL_sells_14 : decode cL_sells 14 = .ok (.goto 4, 3) := by decide +kernel
theorem dL_sells_17 : decode cL_sells 17 = .ok (.iconst 2, 1) := by decide +kernel
theorem dL_sells_18 : decode cL_sells 18 = .ok (.invokestatic 75, 3) := by decide +kernel
theorem dL_sells_21 : decode cL_sells 21 = .ok (.istore_n 3, 1) := by decide +kernel
theorem dL_sells_22 : decode cL_sells 22 = .ok (.iload_n 2, 1) := by decide +kernel
theorem dL_sells_23 : decode cL_sells 23 = .ok (.iconst 4, 1) := by decide +kernel
theorem dL_sells_24 : decode cL_sells 24 = .ok (.ishr, 1) := by decide +kernel
theorem dL_sells_25 : decode cL_sells 25 = .ok (.iconst 4, 1) := by decide +kernel
theorem dL_sells_26 : decode cL_sells 26 = .ok (.invokestatic 75, 3) := by decide +kernel
theorem dL_sells_29 : decode cL_sells 29 = .ok (.istore 4, 2) := by decide +kernel
theorem dL_sells_31 : decode cL_sells 31 = .ok (.iload_n 2, 1) := by decide +kernel
theorem dL_sells_32 : decode cL_sells 32 = .ok (.bipush 7, 2) := by decide +kernel
theorem dL_sells_34 : decode cL_sells 34 = .ok (.ishr, 1) := by decide +kernel
theorem dL_sells_35 : decode cL_sells 35 = .ok (.iconst 4, 1) := by decide +kernel
theorem dL_sells_36 : decode cL_sells 36 = .ok (.invokestatic 75, 3) := by decide +kernel
theorem dL_sells_39 : decode cL_sells 39 = .ok (.istore 5, 2) := by decide +kernel
theorem dL_sells_41 : decode cL_sells 41 = .ok (.iload_n 2, 1) := by decide +kernel
theorem dL_sells_42 : decode cL_sells 42 = .ok (.bipush 10, 2) := by decide +kernel
theorem dL_sells_44 : decode cL_sells 44 = .ok (.ishr, 1) := by decide +kernel
theorem dL_sells_45 : decode cL_sells 45 = .ok (.iconst 5, 1) := by decide +kernel
theorem dL_sells_46 : decode cL_sells 46 = .ok (.invokestatic 75, 3) := by decide +kernel
theorem dL_sells_49 : decode cL_sells 49 = .ok (.istore 6, 2) := by decide +kernel
theorem dL_sells_51 : decode cL_sells 51 = .ok (.iconst 5, 1) := by decide +kernel
theorem dL_sells_52 : decode cL_sells 52 = .ok (.iload_n 3, 1) := by decide +kernel
theorem dL_sells_53 : decode cL_sells 53 = .ok (.imul, 1) := by decide +kernel
theorem dL_sells_54 : decode cL_sells 54 = .ok (.bipush 10, 2) := by decide +kernel
theorem dL_sells_56 : decode cL_sells 56 = .ok (.iload 4, 2) := by decide +kernel
theorem dL_sells_58 : decode cL_sells 58 = .ok (.imul, 1) := by decide +kernel
theorem dL_sells_59 : decode cL_sells 59 = .ok (.iadd, 1) := by decide +kernel
theorem dL_sells_60 : decode cL_sells 60 = .ok (.bipush 20, 2) := by decide +kernel
theorem dL_sells_62 : decode cL_sells 62 = .ok (.iload 5, 2) := by decide +kernel
theorem dL_sells_64 : decode cL_sells 64 = .ok (.imul, 1) := by decide +kernel
theorem dL_sells_65 : decode cL_sells 65 = .ok (.iadd, 1) := by decide +kernel
theorem dL_sells_66 : decode cL_sells 66 = .ok (.bipush 50, 2) := by decide +kernel
theorem dL_sells_68 : decode cL_sells 68 = .ok (.iload 6, 2) := by decide +kernel
theorem dL_sells_70 : decode cL_sells 70 = .ok (.imul, 1) := by decide +kernel
theorem dL_sells_71 : decode cL_sells 71 = .ok (.iadd, 1) := by decide +kernel
theorem dL_sells_72 : decode cL_sells 72 = .ok (.istore 7, 2) := by decide +kernel
theorem dL_sells_74 : decode cL_sells 74 = .ok (.aload_n 0, 1) := by decide +kernel
theorem dL_sells_75 : decode cL_sells 75 = .ok (.iload_n 1, 1) := by decide +kernel
theorem dL_sells_76 : decode cL_sells 76 = .ok (.iconst 2, 1) := by decide +kernel
theorem dL_sells_77 : decode cL_sells 77 = .ok (.invokevirtual 39, 3) := by decide +kernel
theorem dL_sells_80 : decode cL_sells 80 = .ok (.istore 8, 2) := by decide +kernel
theorem dL_sells_82 : decode cL_sells 82 = .ok (.aload_n 0, 1) := by decide +kernel
theorem dL_sells_83 : decode cL_sells 83 = .ok (.iload_n 1, 1) := by decide +kernel
theorem dL_sells_84 : decode cL_sells 84 = .ok (.iconst 1, 1) := by decide +kernel
theorem dL_sells_85 : decode cL_sells 85 = .ok (.invokevirtual 39, 3) := by decide +kernel
theorem dL_sells_88 : decode cL_sells 88 = .ok (.istore 9, 2) := by decide +kernel
theorem dL_sells_90 : decode cL_sells 90 = .ok (.aload_n 0, 1) := by decide +kernel
theorem dL_sells_91 : decode cL_sells 91 = .ok (.iload_n 1, 1) := by decide +kernel
theorem dL_sells_92 : decode cL_sells 92 = .ok (.bipush 6, 2) := by decide +kernel
theorem dL_sells_94 : decode cL_sells 94 = .ok (.invokevirtual 39, 3) := by decide +kernel
theorem dL_sells_97 : decode cL_sells 97 = .ok (.istore 10, 2) := by decide +kernel
theorem dL_sells_99 : decode cL_sells 99 = .ok (.aload_n 0, 1) := by decide +kernel
theorem dL_sells_100 : decode cL_sells 100 = .ok (.iload_n 1, 1) := by decide +kernel
theorem dL_sells_101 : decode cL_sells 101 = .ok (.bipush 7, 2) := by decide +kernel
theorem dL_sells_103 : decode cL_sells 103 = .ok (.invokevirtual 39, 3) := by decide +kernel
theorem dL_sells_106 : decode cL_sells 106 = .ok (.istore 11, 2) := by decide +kernel
theorem dL_sells_108 : decode cL_sells 108 = .ok (.aload_n 0, 1) := by decide +kernel
theorem dL_sells_109 : decode cL_sells 109 = .ok (.iconst 2, 1) := by decide +kernel
theorem dL_sells_110 : decode cL_sells 110 = .ok (.invokevirtual 42, 3) := by decide +kernel
theorem dL_sells_113 : decode cL_sells 113 = .ok (.aload_n 0, 1) := by decide +kernel
theorem dL_sells_114 : decode cL_sells 114 = .ok (.iconst 3, 1) := by decide +kernel
theorem dL_sells_115 : decode cL_sells 115 = .ok (.invokevirtual 42, 3) := by decide +kernel
theorem dL_sells_118 : decode cL_sells 118 = .ok (.iadd, 1) := by decide +kernel
theorem dL_sells_119 : decode cL_sells 119 = .ok (.istore 12, 2) := by decide +kernel
theorem dL_sells_121 : decode cL_sells 121 = .ok (.aload_n 0, 1) := by decide +kernel
theorem dL_sells_122 : decode cL_sells 122 = .ok (.bipush 6, 2) := by decide +kernel
theorem dL_sells_124 : decode cL_sells 124 = .ok (.invokevirtual 42, 3) := by decide +kernel
theorem dL_sells_127 : decode cL_sells 127 = .ok (.istore 13, 2) := by decide +kernel
theorem dL_sells_129 : decode cL_sells 129 = .ok (.aload_n 0, 1) := by decide +kernel
theorem dL_sells_130 : decode cL_sells 130 = .ok (.iconst 5, 1) := by decide +kernel
theorem dL_sells_131 : decode cL_sells 131 = .ok (.invokevirtual 42, 3) := by decide +kernel
theorem dL_sells_134 : decode cL_sells 134 = .ok (.istore 14, 2) := by decide +kernel
theorem dL_sells_136 : decode cL_sells 136 = .ok (.aload_n 0, 1) := by decide +kernel
theorem dL_sells_137 : decode cL_sells 137 = .ok (.iload_n 1, 1) := by decide +kernel
theorem dL_sells_138 : decode cL_sells 138 = .ok (.invokevirtual 45, 3) := by decide +kernel
theorem dL_sells_141 : decode cL_sells 141 = .ok (.fstore 15, 2) := by decide +kernel
theorem dL_sells_143 : decode cL_sells 143 = .ok (.iload_n 3, 1) := by decide +kernel
theorem dL_sells_144 : decode cL_sells 144 = .ok (.ifCond .ne 20, 3) := by decide +kernel
theorem dL_sells_147 : decode cL_sells 147 = .ok (.iload 5, 2) := by decide +kernel
theorem dL_sells_149 : decode cL_sells 149 = .ok (.ifCond .ne 15, 3) := by decide +kernel
theorem dL_sells_152 : decode cL_sells 152 = .ok (.aload_n 0, 1) := by decide +kernel
theorem dL_sells_153 : decode cL_sells 153 = .ok (.iload_n 1, 1) := by decide +kernel
theorem dL_sells_154 : decode cL_sells 154 = .ok (.iload 4, 2) := by decide +kernel
theorem dL_sells_156 : decode cL_sells 156 = .ok (.iload 6, 2) := by decide +kernel
theorem dL_sells_158 : decode cL_sells 158 = .ok (.invokevirtual 78, 3) := by decide +kernel
theorem dL_sells_161 : decode cL_sells 161 = .ok (.goto 4, 3) := by decide +kernel
theorem dL_sells_164 : decode cL_sells 164 = .ok (.iconst (-1), 1) := by decide +kernel
theorem dL_sells_165 : decode cL_sells 165 = .ok (.istore 16, 2) := by decide +kernel
theorem dL_sells_167 : decode cL_sells 167 = .ok (.aload_n 0, 1) := by decide +kernel
theorem dL_sells_168 : decode cL_sells 168 = .ok (.iload_n 1, 1) := by decide +kernel
theorem dL_sells_169 : decode cL_sells 169 = .ok (.iload_n 3, 1) := by decide +kernel
theorem dL_sells_170 : decode cL_sells 170 = .ok (.iload 4, 2) := by decide +kernel
theorem dL_sells_172 : decode cL_sells 172 = .ok (.iload 5, 2) := by decide +kernel
theorem dL_sells_174 : decode cL_sells 174 = .ok (.iload 6, 2) := by decide +kernel
theorem dL_sells_176 : decode cL_sells 176 = .ok (.invokestatic 82, 3) := by decide +kernel
theorem dL_sells_179 : decode cL_sells 179 = .ok (.istore 17, 2) := by decide +kernel
theorem dL_sells_181 : decode cL_sells 181 = .ok (.iload 17, 2) := by decide +kernel
theorem dL_sells_183 : decode cL_sells 183 = .ok (.sipush (-902), 3) := by decide +kernel
theorem dL_sells_186 : decode cL_sells 186 = .ok (.if_icmp .ne 91, 3) := by decide +kernel
theorem dL_sells_189 : decode cL_sells 189 = .ok (.iload 16, 2) := by decide +kernel
theorem dL_sells_191 : decode cL_sells 191 = .ok (.iconst 1, 1) := by decide +kernel
theorem dL_sells_192 : decode cL_sells 192 = .ok (.if_icmp .ge 83, 3) := by decide +kernel
theorem dL_sells_195 : decode cL_sells 195 = .ok (.iload 9, 2) := by decide +kernel
theorem dL_sells_197 : decode cL_sells 197 = .ok (.ifCond .eq 26, 3) := by decide +kernel
theorem dL_sells_200 : decode cL_sells 200 = .ok (.iload 7, 2) := by decide +kernel
theorem dL_sells_202 : decode cL_sells 202 = .ok (.iload 8, 2) := by decide +kernel
theorem dL_sells_204 : decode cL_sells 204 = .ok (.if_icmp .lt 19, 3) := by decide +kernel
theorem dL_sells_207 : decode cL_sells 207 = .ok (.iload 14, 2) := by decide +kernel
theorem dL_sells_209 : decode cL_sells 209 = .ok (.iload 7, 2) := by decide +kernel
theorem dL_sells_211 : decode cL_sells 211 = .ok (.iadd, 1) := by decide +kernel
theorem dL_sells_212 : decode cL_sells 212 = .ok (.iload 8, 2) := by decide +kernel
theorem dL_sells_214 : decode cL_sells 214 = .ok (.isub, 1) := by decide +kernel
theorem dL_sells_215 : decode cL_sells 215 = .ok (.aload_n 0, 1) := by decide +kernel
theorem dL_sells_216 : decode cL_sells 216 = .ok (.iconst 3, 1) := by decide +kernel
theorem dL_sells_217 : decode cL_sells 217 = .ok (.invokevirtual 85, 3) := by decide +kernel
theorem dL_sells_220 : decode cL_sells 220 = .ok (.if_icmp .le 55, 3) := by decide +kernel
theorem dL_sells_223 : decode cL_sells 223 = .ok (.aload_n 0, 1) := by decide +kernel
theorem dL_sells_224 : decode cL_sells 224 = .ok (.iconst 2, 1) := by decide +kernel
theorem dL_sells_225 : decode cL_sells 225 = .ok (.invokevirtual 42, 3) := by decide +kernel
theorem dL_sells_228 : decode cL_sells 228 = .ok (.aload_n 0, 1) := by decide +kernel
theorem dL_sells_229 : decode cL_sells 229 = .ok (.iconst 3, 1) := by decide +kernel
theorem dL_sells_230 : decode cL_sells 230 = .ok (.invokevirtual 42, 3) := by decide +kernel
theorem dL_sells_233 : decode cL_sells 233 = .ok (.iadd, 1) := by decide +kernel
theorem dL_sells_234 : decode cL_sells 234 = .ok (.iload 12, 2) := by decide +kernel
theorem dL_sells_236 : decode cL_sells 236 = .ok (.if_icmp .ne 39, 3) := by decide +kernel
theorem dL_sells_239 : decode cL_sells 239 = .ok (.aload_n 0, 1) := by decide +kernel
theorem dL_sells_240 : decode cL_sells 240 = .ok (.iload_n 1, 1) := by decide +kernel
theorem dL_sells_241 : decode cL_sells 241 = .ok (.iconst 1, 1) := by decide +kernel
theorem dL_sells_242 : decode cL_sells 242 = .ok (.invokevirtual 39, 3) := by decide +kernel
theorem dL_sells_245 : decode cL_sells 245 = .ok (.iload 9, 2) := by decide +kernel
theorem dL_sells_247 : decode cL_sells 247 = .ok (.if_icmp .ne 28, 3) := by decide +kernel
theorem dL_sells_250 : decode cL_sells 250 = .ok (.aload_n 0, 1) := by decide +kernel
theorem dL_sells_251 : decode cL_sells 251 = .ok (.iconst 5, 1) := by decide +kernel
theorem dL_sells_252 : decode cL_sells 252 = .ok (.invokevirtual 42, 3) := by decide +kernel
theorem dL_sells_255 : decode cL_sells 255 = .ok (.iload 14, 2) := by decide +kernel
theorem dL_sells_257 : decode cL_sells 257 = .ok (.if_icmp .ne 18, 3) := by decide +kernel
theorem dL_sells_260 : decode cL_sells 260 = .ok (.aload_n 0, 1) := by decide +kernel
theorem dL_sells_261 : decode cL_sells 261 = .ok (.iload_n 1, 1) := by decide +kernel
theorem dL_sells_262 : decode cL_sells 262 = .ok (.invokevirtual 45, 3) := by decide +kernel
theorem dL_sells_265 : decode cL_sells 265 = .ok (.fload 15, 2) := by decide +kernel
theorem dL_sells_267 : decode cL_sells 267 = .ok (.fcmp .l, 1) := by decide +kernel
theorem dL_sells_268 : decode cL_sells 268 = .ok (.ifCond .ne 7, 3) := by decide +kernel
theorem dL_sells_271 : decode cL_sells 271 = .ok (.iconst 1, 1) := by decide +kernel
theorem dL_sells_272 : decode cL_sells 272 = .ok (.goto 4, 3) := by decide +kernel
theorem dL_sells_275 : decode cL_sells 275 = .ok (.iconst 0, 1) := by decide +kernel
theorem dL_sells_276 : decode cL_sells 276 = .ok (.ireturn, 1) := by decide +kernel
theorem dL_sells_277 : decode cL_sells 277 = .ok (.iload 17, 2) := by decide +kernel
theorem dL_sells_279 : decode cL_sells 279 = .ok (.ifCond .ge 11, 3) := by decide +kernel
theorem dL_sells_282 : decode cL_sells 282 = .ok (.bipush (-10), 2) := by decide +kernel
theorem dL_sells_284 : decode cL_sells 284 = .ok (.iload 17, 2) := by decide +kernel
theorem dL_sells_286 : decode cL_sells 286 = .ok (.isub, 1) := by decide +kernel
theorem dL_sells_287 : decode cL_sells 287 = .ok (.goto 5, 3) := by decide +kernel
theorem dL_sells_290 : decode cL_sells 290 = .ok (.iload 17, 2) := by decide +kernel
theorem dL_sells_292 : decode cL_sells 292 = .ok (.istore 18, 2) := by decide +kernel
theorem dL_sells_294 : decode cL_sells 294 = .ok (.iload 16, 2) := by decide +kernel
theorem dL_sells_296 : decode cL_sells 296 = .ok (.ifCond .eq 197, 3) := by decide +kernel
theorem dL_sells_299 : decode cL_sells 299 = .ok (.iload 16, 2) := by decide +kernel
theorem dL_sells_301 : decode cL_sells 301 = .ok (.iload 9, 2) := by decide +kernel
theorem dL_sells_303 : decode cL_sells 303 = .ok (.if_icmp .gt 190, 3) := by decide +kernel
theorem dL_sells_306 : decode cL_sells 306 = .ok (.iload 18, 2) := by decide +kernel
theorem dL_sells_308 : decode cL_sells 308 = .ok (.iload 7, 2) := by decide +kernel
theorem dL_sells_310 : decode cL_sells 310 = .ok (.iload 8, 2) := by decide +kernel
theorem dL_sells_312 : decode cL_sells 312 = .ok (.isub, 1) := by decide +kernel
theorem dL_sells_313 : decode cL_sells 313 = .ok (.if_icmp .ne 180, 3) := by decide +kernel
theorem dL_sells_316 : decode cL_sells 316 = .ok (.iload 9, 2) := by decide +kernel
theorem dL_sells_318 : decode cL_sells 318 = .ok (.ifCond .le 175, 3) := by decide +kernel
theorem dL_sells_321 : decode cL_sells 321 = .ok (.aload_n 0, 1) := by decide +kernel
theorem dL_sells_322 : decode cL_sells 322 = .ok (.iload_n 1, 1) := by decide +kernel
theorem dL_sells_323 : decode cL_sells 323 = .ok (.iconst 1, 1) := by decide +kernel
theorem dL_sells_324 : decode cL_sells 324 = .ok (.invokevirtual 39, 3) := by decide +kernel
theorem dL_sells_327 : decode cL_sells 327 = .ok (.iload 9, 2) := by decide +kernel
theorem dL_sells_329 : decode cL_sells 329 = .ok (.iconst 1, 1) := by decide +kernel
theorem dL_sells_330 : decode cL_sells 330 = .ok (.isub, 1) := by decide +kernel
theorem dL_sells_331 : decode cL_sells 331 = .ok (.if_icmp .ne 162, 3) := by decide +kernel
theorem dL_sells_334 : decode cL_sells 334 = .ok (.aload_n 0, 1) := by decide +kernel
theorem dL_sells_335 : decode cL_sells 335 = .ok (.iload_n 1, 1) := by decide +kernel
theorem dL_sells_336 : decode cL_sells 336 = .ok (.bipush 6, 2) := by decide +kernel
theorem dL_sells_338 : decode cL_sells 338 = .ok (.invokevirtual 39, 3) := by decide +kernel
theorem dL_sells_341 : decode cL_sells 341 = .ok (.iload 10, 2) := by decide +kernel
theorem dL_sells_343 : decode cL_sells 343 = .ok (.iconst 1, 1) := by decide +kernel
theorem dL_sells_344 : decode cL_sells 344 = .ok (.iadd, 1) := by decide +kernel
theorem dL_sells_345 : decode cL_sells 345 = .ok (.if_icmp .ne 148, 3) := by decide +kernel
theorem dL_sells_348 : decode cL_sells 348 = .ok (.aload_n 0, 1) := by decide +kernel
theorem dL_sells_349 : decode cL_sells 349 = .ok (.iload_n 1, 1) := by decide +kernel
theorem dL_sells_350 : decode cL_sells 350 = .ok (.bipush 7, 2) := by decide +kernel
theorem dL_sells_352 : decode cL_sells 352 = .ok (.invokevirtual 39, 3) := by decide +kernel
theorem dL_sells_355 : decode cL_sells 355 = .ok (.iload 11, 2) := by decide +kernel
theorem dL_sells_357 : decode cL_sells 357 = .ok (.iload 8, 2) := by decide +kernel
theorem dL_sells_359 : decode cL_sells 359 = .ok (.iadd, 1) := by decide +kernel
theorem dL_sells_360 : decode cL_sells 360 = .ok (.if_icmp .ne 133, 3) := by decide +kernel
theorem dL_sells_363 : decode cL_sells 363 = .ok (.aload_n 0, 1) := by decide +kernel
theorem dL_sells_364 : decode cL_sells 364 = .ok (.iload_n 1, 1) := by decide +kernel
theorem dL_sells_365 : decode cL_sells 365 = .ok (.invokevirtual 45, 3) := by decide +kernel
theorem dL_sells_368 : decode cL_sells 368 = .ok (.fload 15, 2) := by decide +kernel
theorem dL_sells_370 : decode cL_sells 370 = .ok (.fconst 1, 1) := by decide +kernel
theorem dL_sells_371 : decode cL_sells 371 = .ok (.fadd, 1) := by decide +kernel
theorem dL_sells_372 : decode cL_sells 372 = .ok (.fcmp .l, 1) := by decide +kernel
theorem dL_sells_373 : decode cL_sells 373 = .ok (.ifCond .ne 120, 3) := by decide +kernel
theorem dL_sells_376 : decode cL_sells 376 = .ok (.aload_n 0, 1) := by decide +kernel
theorem dL_sells_377 : decode cL_sells 377 = .ok (.iconst 2, 1) := by decide +kernel
theorem dL_sells_378 : decode cL_sells 378 = .ok (.invokevirtual 42, 3) := by decide +kernel
theorem dL_sells_381 : decode cL_sells 381 = .ok (.aload_n 0, 1) := by decide +kernel
theorem dL_sells_382 : decode cL_sells 382 = .ok (.iconst 3, 1) := by decide +kernel
theorem dL_sells_383 : decode cL_sells 383 = .ok (.invokevirtual 42, 3) := by decide +kernel
theorem dL_sells_386 : decode cL_sells 386 = .ok (.iadd, 1) := by decide +kernel
theorem dL_sells_387 : decode cL_sells 387 = .ok (.iload 12, 2) := by decide +kernel
theorem dL_sells_389 : decode cL_sells 389 = .ok (.iload 7, 2) := by decide +kernel
theorem dL_sells_391 : decode cL_sells 391 = .ok (.iadd, 1) := by decide +kernel
theorem dL_sells_392 : decode cL_sells 392 = .ok (.iload 17, 2) := by decide +kernel
theorem dL_sells_394 : decode cL_sells 394 = .ok (.ifCond .ge 7, 3) := by decide +kernel
theorem dL_sells_397 : decode cL_sells 397 = .ok (.iconst 0, 1) := by decide +kernel
theorem dL_sells_398 : decode cL_sells 398 = .ok (.goto 5, 3) := by decide +kernel
theorem dL_sells_401 : decode cL_sells 401 = .ok (.iload 18, 2) := by decide +kernel
theorem dL_sells_403 : decode cL_sells 403 = .ok (.isub, 1) := by decide +kernel
theorem dL_sells_404 : decode cL_sells 404 = .ok (.aload_n 0, 1) := by decide +kernel
theorem dL_sells_405 : decode cL_sells 405 = .ok (.bipush 6, 2) := by decide +kernel
theorem dL_sells_407 : decode cL_sells 407 = .ok (.invokevirtual 42, 3) := by decide +kernel
theorem dL_sells_410 : decode cL_sells 410 = .ok (.iload 13, 2) := by decide +kernel
theorem dL_sells_412 : decode cL_sells 412 = .ok (.isub, 1) := by decide +kernel
theorem dL_sells_413 : decode cL_sells 413 = .ok (.isub, 1) := by decide +kernel
theorem dL_sells_414 : decode cL_sells 414 = .ok (.if_icmp .ne 79, 3) := by decide +kernel
theorem dL_sells_417 : decode cL_sells 417 = .ok (.aload_n 0, 1) := by decide +kernel
theorem dL_sells_418 : decode cL_sells 418 = .ok (.iconst 5, 1) := by decide +kernel
theorem dL_sells_419 : decode cL_sells 419 = .ok (.invokevirtual 42, 3) := by decide +kernel
theorem dL_sells_422 : decode cL_sells 422 = .ok (.iload 14, 2) := by decide +kernel
theorem dL_sells_424 : decode cL_sells 424 = .ok (.iload 17, 2) := by decide +kernel
theorem dL_sells_426 : decode cL_sells 426 = .ok (.ifCond .ge 8, 3) := by decide +kernel
theorem dL_sells_429 : decode cL_sells 429 = .ok (.iload 18, 2) := by decide +kernel
theorem dL_sells_431 : decode cL_sells 431 = .ok (.goto 4, 3) := by decide +kernel
theorem dL_sells_434 : decode cL_sells 434 = .ok (.iconst 0, 1) := by decide +kernel
theorem dL_sells_435 : decode cL_sells 435 = .ok (.iadd, 1) := by decide +kernel
theorem dL_sells_436 : decode cL_sells 436 = .ok (.aload_n 0, 1) := by decide +kernel
theorem dL_sells_437 : decode cL_sells 437 = .ok (.bipush 6, 2) := by decide +kernel
theorem dL_sells_439 : decode cL_sells 439 = .ok (.invokevirtual 42, 3) := by decide +kernel
theorem dL_sells_442 : decode cL_sells 442 = .ok (.iload 13, 2) := by decide +kernel
theorem dL_sells_444 : decode cL_sells 444 = .ok (.isub, 1) := by decide +kernel
theorem dL_sells_445 : decode cL_sells 445 = .ok (.isub, 1) := by decide +kernel
theorem dL_sells_446 : decode cL_sells 446 = .ok (.if_icmp .ne 47, 3) := by decide +kernel
theorem dL_sells_449 : decode cL_sells 449 = .ok (.iload 17, 2) := by decide +kernel
theorem dL_sells_451 : decode cL_sells 451 = .ok (.ifCond .ge 16, 3) := by decide +kernel
theorem dL_sells_454 : decode cL_sells 454 = .ok (.aload_n 0, 1) := by decide +kernel
theorem dL_sells_455 : decode cL_sells 455 = .ok (.iconst 5, 1) := by decide +kernel
theorem dL_sells_456 : decode cL_sells 456 = .ok (.invokevirtual 42, 3) := by decide +kernel
theorem dL_sells_459 : decode cL_sells 459 = .ok (.aload_n 0, 1) := by decide +kernel
theorem dL_sells_460 : decode cL_sells 460 = .ok (.iconst 3, 1) := by decide +kernel
theorem dL_sells_461 : decode cL_sells 461 = .ok (.invokevirtual 85, 3) := by decide +kernel
theorem dL_sells_464 : decode cL_sells 464 = .ok (.if_icmp .gt 29, 3) := by decide +kernel
theorem dL_sells_467 : decode cL_sells 467 = .ok (.aload_n 0, 1) := by decide +kernel
theorem dL_sells_468 : decode cL_sells 468 = .ok (.iconst 4, 1) := by decide +kernel
theorem dL_sells_469 : decode cL_sells 469 = .ok (.invokevirtual 42, 3) := by decide +kernel
theorem dL_sells_472 : decode cL_sells 472 = .ok (.ifCond .eq 17, 3) := by decide +kernel
theorem dL_sells_475 : decode cL_sells 475 = .ok (.aload_n 0, 1) := by decide +kernel
theorem dL_sells_476 : decode cL_sells 476 = .ok (.aload_n 0, 1) := by decide +kernel
theorem dL_sells_477 : decode cL_sells 477 = .ok (.iconst 0, 1) := by decide +kernel
theorem dL_sells_478 : decode cL_sells 478 = .ok (.invokevirtual 36, 3) := by decide +kernel
theorem dL_sells_481 : decode cL_sells 481 = .ok (.iconst 0, 1) := by decide +kernel
theorem dL_sells_482 : decode cL_sells 482 = .ok (.invokevirtual 66, 3) := by decide +kernel
theorem dL_sells_485 : decode cL_sells 485 = .ok (.iconst (-1), 1) := by decide +kernel
theorem dL_sells_486 : decode cL_sells 486 = .ok (.if_icmp .ne 7, 3) := by decide +kernel
theorem dL_sells_489 : decode cL_sells 489 = .ok (.iconst 1, 1) := by decide +kernel
theorem dL_sells_490 : decode cL_sells 490 = .ok (.goto 4, 3) := by decide +kernel
theorem dL_sells_493 : decode cL_sells 493 = .ok (.iconst 0, 1) := by decide +kernel
theorem dL_sells_494 : decode cL_sells 494 = .ok (.ireturn, 1) := by decide +kernel
theorem dL_hours_0 : decode cL_hours 0 = .ok (.iload_n 1, 1) := by decide +kernel
theorem dL_hours_1 : decode cL_hours 1 = .ok (.aload_n 0, 1) := by decide +kernel
theorem dL_hours_2 : decode cL_hours 2 = .ok (.iconst 0, 1) := by decide +kernel
theorem dL_hours_3 : decode cL_hours 3 = .ok (.invokevirtual 42, 3) := by decide +kernel
theorem dL_hours_6 : decode cL_hours 6 = .ok (.invokestatic 75, 3) := by decide +kernel
theorem dL_hours_9 : decode cL_hours 9 = .ok (.istore_n 3, 1) := by decide +kernel
theorem dL_hours_10 : decode cL_hours 10 = .ok (.iconst 1, 1) := by decide +kernel
theorem dL_hours_11 : decode cL_hours 11 = .ok (.iload_n 2, 1) := by decide +kernel
theorem dL_hours_12 : decode cL_hours 12 = .ok (.bipush 12, 2) := by decide +kernel
theorem dL_hours_14 : decode cL_hours 14 = .ok (.invokestatic 75, 3) := by decide +kernel
theorem dL_hours_17 : decode cL_hours 17 = .ok (.iadd, 1) := by decide +kernel
theorem dL_hours_18 : decode cL_hours 18 = .ok (.istore 4, 2) := by decide +kernel
theorem dL_hours_20 : decode cL_hours 20 = .ok (.aload_n 0, 1) := by decide +kernel
theorem dL_hours_21 : decode cL_hours 21 = .ok (.iload_n 3, 1) := by decide +kernel
theorem dL_hours_22 : decode cL_hours 22 = .ok (.iload 4, 2) := by decide +kernel
theorem dL_hours_24 : decode cL_hours 24 = .ok (.invokevirtual 88, 3) := by decide +kernel
theorem dL_hours_27 : decode cL_hours 27 = .ok (.istore 5, 2) := by decide +kernel
theorem dL_hours_29 : decode cL_hours 29 = .ok (.aload_n 0, 1) := by decide +kernel
theorem dL_hours_30 : decode cL_hours 30 = .ok (.iload_n 3, 1) := by decide +kernel
theorem dL_hours_31 : decode cL_hours 31 = .ok (.iconst 1, 1) := by decide +kernel
theorem dL_hours_32 : decode cL_hours 32 = .ok (.invokevirtual 88, 3) := by decide +kernel
theorem dL_hours_35 : decode cL_hours 35 = .ok (.istore 6, 2) := by decide +kernel
theorem dL_hours_37 : decode cL_hours 37 = .ok (.aload_n 0, 1) := by decide +kernel
theorem dL_hours_38 : decode cL_hours 38 = .ok (.iload_n 3, 1) := by decide +kernel
theorem dL_hours_39 : decode cL_hours 39 = .ok (.iconst 2, 1) := by decide +kernel
theorem dL_hours_40 : decode cL_hours 40 = .ok (.invokevirtual 39, 3) := by decide +kernel
theorem dL_hours_43 : decode cL_hours 43 = .ok (.istore 7, 2) := by decide +kernel
theorem dL_hours_45 : decode cL_hours 45 = .ok (.aload_n 0, 1) := by decide +kernel
theorem dL_hours_46 : decode cL_hours 46 = .ok (.bipush 9, 2) := by decide +kernel
theorem dL_hours_48 : decode cL_hours 48 = .ok (.invokevirtual 42, 3) := by decide +kernel
theorem dL_hours_51 : decode cL_hours 51 = .ok (.istore 8, 2) := by decide +kernel
theorem dL_hours_53 : decode cL_hours 53 = .ok (.aload_n 0, 1) := by decide +kernel
theorem dL_hours_54 : decode cL_hours 54 = .ok (.iload_n 3, 1) := by decide +kernel
theorem dL_hours_55 : decode cL_hours 55 = .ok (.bipush 8, 2) := by decide +kernel
theorem dL_hours_57 : decode cL_hours 57 = .ok (.invokevirtual 39, 3) := by decide +kernel
theorem dL_hours_60 : decode cL_hours 60 = .ok (.istore 9, 2) := by decide +kernel
theorem dL_hours_62 : decode cL_hours 62 = .ok (.aload_n 0, 1) := by decide +kernel
theorem dL_hours_63 : decode cL_hours 63 = .ok (.iload_n 3, 1) := by decide +kernel
theorem dL_hours_64 : decode cL_hours 64 = .ok (.iconst 5, 1) := by decide +kernel
theorem dL_hours_65 : decode cL_hours 65 = .ok (.invokevirtual 39, 3) := by decide +kernel
theorem dL_hours_68 : decode cL_hours 68 = .ok (.istore 10, 2) := by decide +kernel
theorem dL_hours_70 : decode cL_hours 70 = .ok (.aload_n 0, 1) := by decide +kernel
theorem dL_hours_71 : decode cL_hours 71 = .ok (.iconst 1, 1) := by decide +kernel
theorem dL_hours_72 : decode cL_hours 72 = .ok (.invokevirtual 42, 3) := by decide +kernel
theorem dL_hours_75 : decode cL_hours 75 = .ok (.istore 11, 2) := by decide +kernel
theorem dL_hours_77 : decode cL_hours 77 = .ok (.aload_n 0, 1) := by decide +kernel
theorem dL_hours_78 : decode cL_hours 78 = .ok (.iload_n 3, 1) := by decide +kernel
theorem dL_hours_79 : decode cL_hours 79 = .ok (.invokevirtual 45, 3) := by decide +kernel
theorem dL_hours_82 : decode cL_hours 82 = .ok (.fstore 12, 2) := by decide +kernel
theorem dL_hours_84 : decode cL_hours 84 = .ok (.aload_n 0, 1) := by decide +kernel
theorem dL_hours_85 : decode cL_hours 85 = .ok (.iconst 2, 1) := by decide +kernel
theorem dL_hours_86 : decode cL_hours 86 = .ok (.invokevirtual 42, 3) := by decide +kernel
theorem dL_hours_89 : decode cL_hours 89 = .ok (.istore 13, 2) := by decide +kernel
theorem dL_hours_91 : decode cL_hours 91 = .ok (.aload_n 0, 1) := by decide +kernel
theorem dL_hours_92 : decode cL_hours 92 = .ok (.iload_n 3, 1) := by decide +kernel
theorem dL_hours_93 : decode cL_hours 93 = .ok (.iconst 0, 1) := by decide +kernel
theorem dL_hours_94 : decode cL_hours 94 = .ok (.invokevirtual 88, 3) := by decide +kernel
theorem dL_hours_97 : decode cL_hours 97 = .ok (.iload 7, 2) := by decide +kernel
theorem dL_hours_99 : decode cL_hours 99 = .ok (.if_icmp .ne 55, 3) := by decide +kernel
theorem dL_hours_102 : decode cL_hours 102 = .ok (.iload 10, 2) := by decide +kernel
theorem dL_hours_104 : decode cL_hours 104 = .ok (.ifCond .le 10, 3) := by decide +kernel
theorem dL_hours_107 : decode cL_hours 107 = .ok (.iload 6, 2) := by decide +kernel
theorem dL_hours_109 : decode cL_hours 109 = .ok (.iload 7, 2) := by decide +kernel
theorem dL_hours_111 : decode cL_hours 111 = .ok (.if_icmp .gt 43, 3) := by decide +kernel
theorem dL_hours_114 : decode cL_hours 114 = .ok (.iload 6, 2) := by decide +kernel
theorem dL_hours_116 : decode cL_hours 116 = .ok (.iload 7, 2) := by decide +kernel
theorem dL_hours_118 : decode cL_hours 118 = .ok (.iconst 5, 1) := by decide +kernel
theorem dL_hours_119 : decode cL_hours 119 = .ok (.iadd, 1) := by decide +kernel
theorem dL_hours_120 : decode cL_hours 120 = .ok (.if_icmp .gt 34, 3) := by decide +kernel
theorem dL_hours_123 : decode cL_hours 123 = .ok (.aload_n 0, 1) := by decide +kernel
theorem dL_hours_124 : decode cL_hours 124 = .ok (.iload 4, 2) := by decide +kernel
theorem dL_hours_126 : decode cL_hours 126 = .ok (.invokevirtual 28, 3) := by decide +kernel
theorem dL_hours_129 : decode cL_hours 129 = .ok (.aload_n 0, 1) := by decide +kernel
theorem dL_hours_130 : decode cL_hours 130 = .ok (.bipush 9, 2) := by decide +kernel
theorem dL_hours_132 : decode cL_hours 132 = .ok (.invokevirtual 42, 3) := by decide +kernel
theorem dL_hours_135 : decode cL_hours 135 = .ok (.iload 8, 2) := by decide +kernel
theorem dL_hours_137 : decode cL_hours 137 = .ok (.isub, 1) := by decide +kernel
theorem dL_hours_138 : decode cL_hours 138 = .ok (.if_icmp .ne 16, 3) := by decide +kernel
theorem dL_hours_141 : decode cL_hours 141 = .ok (.aload_n 0, 1) := by decide +kernel
theorem dL_hours_142 : decode cL_hours 142 = .ok (.iconst 1, 1) := by decide +kernel
theorem dL_hours_143 : decode cL_hours 143 = .ok (.invokevirtual 42, 3) := by decide +kernel
theorem dL_hours_146 : decode cL_hours 146 = .ok (.iload 11, 2) := by decide +kernel
theorem dL_hours_148 : decode cL_hours 148 = .ok (.iload 4, 2) := by decide +kernel
theorem dL_hours_150 : decode cL_hours 150 = .ok (.iadd, 1) := by decide +kernel
theorem dL_hours_151 : decode cL_hours 151 = .ok (.if_icmp .eq 5, 3) := by decide +kernel
theorem dL_hours_154 : decode cL_hours 154 = .ok (.iconst 0, 1) := by decide +kernel
theorem dL_hours_155 : decode cL_hours 155 = .ok (.ireturn, 1) := by decide +kernel
theorem dL_hours_156 : decode cL_hours 156 = .ok (.fload 12, 2) := by decide +kernel
theorem dL_hours_158 : decode cL_hours 158 = .ok (.fstore 14, 2) := by decide +kernel
theorem dL_hours_160 : decode cL_hours 160 = .ok (.iconst 0, 1) := by decide +kernel
theorem dL_hours_161 : decode cL_hours 161 = .ok (.istore 15, 2) := by decide +kernel
theorem dL_hours_163 : decode cL_hours 163 = .ok (.iload 15, 2) := by decide +kernel
theorem dL_hours_165 : decode cL_hours 165 = .ok (.iload 4, 2) := by decide +kernel
theorem dL_hours_167 : decode cL_hours 167 = .ok (.if_icmp .ge 23, 3) := by decide +kernel
theorem dL_hours_170 : decode cL_hours 170 = .ok (.fload 14, 2) := by decide +kernel
theorem dL_hours_172 : decode cL_hours 172 = .ok (.aload_n 0, 1) := by decide +kernel
theorem dL_hours_173 : decode cL_hours 173 = .ok (.iconst 2, 1) := by decide +kernel
theorem dL_hours_174 : decode cL_hours 174 = .ok (.invokevirtual 85, 3) := by decide +kernel
theorem dL_hours_177 : decode cL_hours 177 = .ok (.i2f, 1) := by decide +kernel
theorem dL_hours_178 : decode cL_hours 178 = .ok (.fmul, 1) := by decide +kernel
theorem dL_hours_179 : decode cL_hours 179 = .ok (.ldc 91, 2) := by decide +kernel
theorem dL_hours_181 : decode cL_hours 181 = .ok (.fdiv, 1) := by decide +kernel
theorem dL_hours_182 : decode cL_hours 182 = .ok (.fstore 14, 2) := by decide +kernel
theorem dL_hours_184 : decode cL_hours 184 = .ok (.iinc 15 1, 3) := by decide +kernel
theorem dL_hours_187 : decode cL_hours 187 = .ok (.goto (-24), 3) := by decide +kernel
theorem dL_hours_190 : decode cL_hours 190 = .ok (.aload_n 0, 1) := by decide +kernel
theorem dL_hours_191 : decode cL_hours 191 = .ok (.iload_n 3, 1) := by decide +kernel
theorem dL_hours_192 : decode cL_hours 192 = .ok (.iconst 2, 1) := by decide +kernel
theorem dL_hours_193 : decode cL_hours 193 = .ok (.invokevirtual 39, 3) := by decide +kernel
theorem dL_hours_196 : decode cL_hours 196 = .ok (.iload 5, 2) := by decide +kernel
theorem dL_hours_198 : decode cL_hours 198 = .ok (.if_icmp .ne 78, 3) := by decide +kernel
theorem dL_hours_201 : decode cL_hours 201 = .ok (.aload_n 0, 1) := by decide +kernel
theorem dL_hours_202 : decode cL_hours 202 = .ok (.iload_n 3, 1) := by decide +kernel
theorem dL_hours_203 : decode cL_hours 203 = .ok (.invokevirtual 45, 3) := by decide +kernel
theorem dL_hours_206 : decode cL_hours 206 = .ok (.fload 14, 2) := by decide +kernel
theorem dL_hours_208 : decode cL_hours 208 = .ok (.fcmp .l, 1) := by decide +kernel
theorem dL_hours_209 : decode cL_hours 209 = .ok (.ifCond .ne 67, 3) := by decide +kernel
theorem dL_hours_212 : decode cL_hours 212 = .ok (.aload_n 0, 1) := by decide +kernel
theorem dL_hours_213 : decode cL_hours 213 = .ok (.iload_n 3, 1) := by decide +kernel
theorem dL_hours_214 : decode cL_hours 214 = .ok (.bipush 8, 2) := by decide +kernel
theorem dL_hours_216 : decode cL_hours 216 = .ok (.invokevirtual 39, 3) := by decide +kernel
theorem dL_hours_219 : decode cL_hours 219 = .ok (.iload 9, 2) := by decide +kernel
theorem dL_hours_221 : decode cL_hours 221 = .ok (.isub, 1) := by decide +kernel
theorem dL_hours_222 : decode cL_hours 222 = .ok (.iload 4, 2) := by decide +kernel
theorem dL_hours_224 : decode cL_hours 224 = .ok (.if_icmp .gt 52, 3) := by decide +kernel
theorem dL_hours_227 : decode cL_hours 227 = .ok (.aload_n 0, 1) := by decide +kernel
theorem dL_hours_228 : decode cL_hours 228 = .ok (.iload_n 3, 1) := by decide +kernel
theorem dL_hours_229 : decode cL_hours 229 = .ok (.bipush 8, 2) := by decide +kernel
theorem dL_hours_231 : decode cL_hours 231 = .ok (.invokevirtual 39, 3) := by decide +kernel
theorem dL_hours_234 : decode cL_hours 234 = .ok (.iload 9, 2) := by decide +kernel
theorem dL_hours_236 : decode cL_hours 236 = .ok (.if_icmp .lt 40, 3) := by decide +kernel
theorem dL_hours_239 : decode cL_hours 239 = .ok (.iload 10, 2) := by decide +kernel
theorem dL_hours_241 : decode cL_hours 241 = .ok (.ifCond .eq 21, 3) := by decide +kernel
theorem dL_hours_244 : decode cL_hours 244 = .ok (.iload 4, 2) := by decide +kernel
theorem dL_hours_246 : decode cL_hours 246 = .ok (.iconst 1, 1) := by decide +kernel
theorem dL_hours_247 : decode cL_hours 247 = .ok (.if_icmp .gt 15, 3) := by decide +kernel
theorem dL_hours_250 : decode cL_hours 250 = .ok (.aload_n 0, 1) := by decide +kernel
theorem dL_hours_251 : decode cL_hours 251 = .ok (.iload_n 3, 1) := by decide +kernel
theorem dL_hours_252 : decode cL_hours 252 = .ok (.bipush 8, 2) := by decide +kernel
theorem dL_hours_254 : decode cL_hours 254 = .ok (.invokevirtual 39, 3) := by decide +kernel
theorem dL_hours_257 : decode cL_hours 257 = .ok (.iload 9, 2) := by decide +kernel
theorem dL_hours_259 : decode cL_hours 259 = .ok (.if_icmp .ne 17, 3) := by decide +kernel
theorem dL_hours_262 : decode cL_hours 262 = .ok (.aload_n 0, 1) := by decide +kernel
theorem dL_hours_263 : decode cL_hours 263 = .ok (.iconst 2, 1) := by decide +kernel
theorem dL_hours_264 : decode cL_hours 264 = .ok (.invokevirtual 42, 3) := by decide +kernel
theorem dL_hours_267 : decode cL_hours 267 = .ok (.iload 13, 2) := by decide +kernel
theorem dL_hours_269 : decode cL_hours 269 = .ok (.if_icmp .ne 7, 3) := by decide +kernel
theorem dL_hours_272 : decode cL_hours 272 = .ok (.iconst 1, 1) := by decide +kernel
theorem dL_hours_273 : decode cL_hours 273 = .ok (.goto 4, 3) := by decide +kernel
theorem dL_hours_276 : decode cL_hours 276 = .ok (.iconst 0, 1) := by decide +kernel
theorem dL_hours_277 : decode cL_hours 277 = .ok (.ireturn, 1) := by decide +kernel
theorem dL_acts_0 : decode cL_acts 0 = .ok (.iload_n 1, 1) := by decide +kernel
theorem dL_acts_1 : decode cL_acts 1 = .ok (.bipush 16, 2) := by decide +kernel
theorem dL_acts_3 : decode cL_acts 3 = .ok (.invokestatic 75, 3) := by decide +kernel
theorem dL_acts_6 : decode cL_acts 6 = .ok (.istore_n 3, 1) := by decide +kernel
theorem dL_acts_7 : decode cL_acts 7 = .ok (.aload_n 0, 1) := by decide +kernel
theorem dL_acts_8 : decode cL_acts 8 = .ok (.iconst 0, 1) := by decide +kernel
theorem dL_acts_9 : decode cL_acts 9 = .ok (.invokevirtual 42, 3) := by decide +kernel
theorem dL_acts_12 : decode cL_acts 12 = .ok (.istore 4, 2) := by decide +kernel
theorem dL_acts_14 : decode cL_acts 14 = .ok (.iload_n 3, 1) := by decide +kernel
theorem dL_acts_15 : decode cL_acts 15 = .ok (.ifCond .ne 99, 3) := by decide +kernel
theorem dL_acts_18 : decode cL_acts 18 = .ok (.iload 4, 2) := by decide +kernel
theorem dL_acts_20 : decode cL_acts 20 = .ok (.bipush 8, 2) := by decide +kernel
theorem dL_acts_22 : decode cL_acts 22 = .ok (.if_icmp .ge 92, 3) := by decide +kernel
theorem dL_acts_25 : decode cL_acts 25 = .ok (.iconst 5, 1) := by decide +kernel
theorem dL_acts_26 : decode cL_acts 26 = .ok (.iconst 5, 1) := by decide +kernel
theorem dL_acts_27 : decode cL_acts 27 = .ok (.iload_n 2, 1) := by decide +kernel
theorem dL_acts_28 : decode cL_acts 28 = .ok (.bipush 30, 2) := by decide +kernel
theorem dL_acts_30 : decode cL_acts 30 = .ok (.invokestatic 75, 3) := by decide +kernel
theorem dL_acts_33 : decode cL_acts 33 = .ok (.imul, 1) := by decide +kernel
theorem dL_acts_34 : decode cL_acts 34 = .ok (.iadd, 1) := by decide +kernel
theorem dL_acts_35 : decode cL_acts 35 = .ok (.istore 5, 2) := by decide +kernel
theorem dL_acts_37 : decode cL_acts 37 = .ok (.iload_n 2, 1) := by decide +kernel
theorem dL_acts_38 : decode cL_acts 38 = .ok (.iconst 5, 1) := by decide +kernel
theorem dL_acts_39 : decode cL_acts 39 = .ok (.ishr, 1) := by decide +kernel
theorem dL_acts_40 : decode cL_acts 40 = .ok (.iconst 3, 1) := by decide +kernel
theorem dL_acts_41 : decode cL_acts 41 = .ok (.invokestatic 75, 3) := by decide +kernel
theorem dL_acts_44 : decode cL_acts 44 = .ok (.istore 6, 2) := by decide +kernel
theorem dL_acts_46 : decode cL_acts 46 = .ok (.aload_n 0, 1) := by decide +kernel
theorem dL_acts_47 : decode cL_acts 47 = .ok (.iload 6, 2) := by decide +kernel
theorem dL_acts_49 : decode cL_acts 49 = .ok (.iload 5, 2) := by decide +kernel
theorem dL_acts_51 : decode cL_acts 51 = .ok (.iload 5, 2) := by decide +kernel
theorem dL_acts_53 : decode cL_acts 53 = .ok (.iconst 5, 1) := by decide +kernel
theorem dL_acts_54 : decode cL_acts 54 = .ok (.iload_n 2, 1) := by decide +kernel
theorem dL_acts_55 : decode cL_acts 55 = .ok (.bipush 7, 2) := by decide +kernel
theorem dL_acts_57 : decode cL_acts 57 = .ok (.ishr, 1) := by decide +kernel
theorem dL_acts_58 : decode cL_acts 58 = .ok (.bipush 20, 2) := by decide +kernel
theorem dL_acts_60 : decode cL_acts 60 = .ok (.invokestatic 75, 3) := by decide +kernel
theorem dL_acts_63 : decode cL_acts 63 = .ok (.imul, 1) := by decide +kernel
theorem dL_acts_64 : decode cL_acts 64 = .ok (.iadd, 1) := by decide +kernel
theorem dL_acts_65 : decode cL_acts 65 = .ok (.invokevirtual 92, 3) := by decide +kernel
theorem dL_acts_68 : decode cL_acts 68 = .ok (.iload 4, 2) := by decide +kernel
theorem dL_acts_70 : decode cL_acts 70 = .ok (.if_icmp .ne 42, 3) := by decide +kernel
theorem dL_acts_73 : decode cL_acts 73 = .ok (.aload_n 0, 1) := by decide +kernel
theorem dL_acts_74 : decode cL_acts 74 = .ok (.iload 4, 2) := by decide +kernel
theorem dL_acts_76 : decode cL_acts 76 = .ok (.iconst 0, 1) := by decide +kernel
theorem dL_acts_77 : decode cL_acts 77 = .ok (.invokevirtual 39, 3) := by decide +kernel
theorem dL_acts_80 : decode cL_acts 80 = .ok (.iload 6, 2) := by decide +kernel
theorem dL_acts_82 : decode cL_acts 82 = .ok (.if_icmp .ne 30, 3) := by decide +kernel
theorem dL_acts_85 : decode cL_acts 85 = .ok (.aload_n 0, 1) := by decide +kernel
theorem dL_acts_86 : decode cL_acts 86 = .ok (.iload 4, 2) := by decide +kernel
theorem dL_acts_88 : decode cL_acts 88 = .ok (.iconst 2, 1) := by decide +kernel
theorem dL_acts_89 : decode cL_acts 89 = .ok (.invokevirtual 39, 3) := by decide +kernel
theorem dL_acts_92 : decode cL_acts 92 = .ok (.iload 5, 2) := by decide +kernel
theorem dL_acts_94 : decode cL_acts 94 = .ok (.if_icmp .ne 18, 3) := by decide +kernel
theorem dL_acts_97 : decode cL_acts 97 = .ok (.aload_n 0, 1) := by decide +kernel
theorem dL_acts_98 : decode cL_acts 98 = .ok (.iload 4, 2) := by decide +kernel
theorem dL_acts_100 : decode cL_acts 100 = .ok (.invokevirtual 45, 3) := by decide +kernel
theorem dL_acts_103 : decode cL_acts 103 = .ok (.fconst 0, 1) := by decide +kernel
theorem dL_acts_104 : decode cL_acts 104 = .ok (.fcmp .l, 1) := by decide +kernel
theorem dL_acts_105 : decode cL_acts 105 = .ok (.ifCond .ne 7, 3) := by decide +kernel
theorem dL_acts_108 : decode cL_acts 108 = .ok (.iconst 1, 1) := by decide +kernel
theorem dL_acts_109 : decode cL_acts 109 = .ok (.goto 4, 3) := by decide +kernel
theorem dL_acts_112 : decode cL_acts 112 = .ok (.iconst 0, 1) := by decide +kernel
theorem dL_acts_113 : decode cL_acts 113 = .ok (.ireturn, 1) := by decide +kernel
theorem dL_acts_114 : decode cL_acts 114 = .ok (.iload 4, 2) := by decide +kernel
theorem dL_acts_116 : decode cL_acts 116 = .ok (.ifCond .eq 8, 3) := by decide +kernel
theorem dL_acts_119 : decode cL_acts 119 = .ok (.iload_n 3, 1) := by decide +kernel
theorem dL_acts_120 : decode cL_acts 120 = .ok (.iconst 3, 1) := by decide +kernel
theorem dL_acts_121 : decode cL_acts 121 = .ok (.if_icmp .ge 121, 3) := by decide +kernel
theorem dL_acts_124 : decode cL_acts 124 = .ok (.iload_n 2, 1) := by decide +kernel
theorem dL_acts_125 : decode cL_acts 125 = .ok (.iload 4, 2) := by decide +kernel
theorem dL_acts_127 : decode cL_acts 127 = .ok (.iconst 1, 1) := by decide +kernel
theorem dL_acts_128 : decode cL_acts 128 = .ok (.iadd, 1) := by decide +kernel
theorem dL_acts_129 : decode cL_acts 129 = .ok (.invokestatic 75, 3) := by decide +kernel
theorem dL_acts_132 : decode cL_acts 132 = .ok (.istore 5, 2) := by decide +kernel
theorem dL_acts_134 : decode cL_acts 134 = .ok (.iconst 1, 1) := by decide +kernel
theorem dL_acts_135 : decode cL_acts 135 = .ok (.iload_n 2, 1) := by decide +kernel
theorem dL_acts_136 : decode cL_acts 136 = .ok (.iconst 4, 1) := by decide +kernel
theorem dL_acts_137 : decode cL_acts 137 = .ok (.ishr, 1) := by decide +kernel
theorem dL_acts_138 : decode cL_acts 138 = .ok (.bipush 20, 2) := by decide +kernel
theorem dL_acts_140 : decode cL_acts 140 = .ok (.invokestatic 75, 3) := by decide +kernel
theorem dL_acts_143 : decode cL_acts 143 = .ok (.iadd, 1) := by decide +kernel
theorem dL_acts_144 : decode cL_acts 144 = .ok (.istore 6, 2) := by decide +kernel
theorem dL_acts_146 : decode cL_acts 146 = .ok (.aload_n 0, 1) := by decide +kernel
theorem dL_acts_147 : decode cL_acts 147 = .ok (.iload 5, 2) := by decide +kernel
theorem dL_acts_149 : decode cL_acts 149 = .ok (.iconst 1, 1) := by decide +kernel
theorem dL_acts_150 : decode cL_acts 150 = .ok (.invokestatic 63, 3) := by decide +kernel
theorem dL_acts_153 : decode cL_acts 153 = .ok (.istore 7, 2) := by decide +kernel
theorem dL_acts_155 : decode cL_acts 155 = .ok (.aload_n 0, 1) := by decide +kernel
theorem dL_acts_156 : decode cL_acts 156 = .ok (.iload 5, 2) := by decide +kernel
theorem dL_acts_158 : decode cL_acts 158 = .ok (.iload 6, 2) := by decide +kernel
theorem dL_acts_160 : decode cL_acts 160 = .ok (.invokestatic 95, 3) := by decide +kernel
theorem dL_acts_163 : decode cL_acts 163 = .ok (.istore 8, 2) := by decide +kernel
theorem dL_acts_165 : decode cL_acts 165 = .ok (.iload 5, 2) := by decide +kernel
theorem dL_acts_167 : decode cL_acts 167 = .ok (.iload 4, 2) := by decide +kernel
theorem dL_acts_169 : decode cL_acts 169 = .ok (.if_icmp .ne 19, 3) := by decide +kernel
theorem dL_acts_172 : decode cL_acts 172 = .ok (.iload 8, 2) := by decide +kernel
theorem dL_acts_174 : decode cL_acts 174 = .ok (.sipush (-903), 3) := by decide +kernel
theorem dL_acts_177 : decode cL_acts 177 = .ok (.if_icmp .ne 7, 3) := by decide +kernel
theorem dL_acts_180 : decode cL_acts 180 = .ok (.iconst 1, 1) := by decide +kernel
theorem dL_acts_181 : decode cL_acts 181 = .ok (.goto 60, 3) := by decide +kernel
theorem dL_acts_184 : decode cL_acts 184 = .ok (.iconst 0, 1) := by decide +kernel
theorem dL_acts_185 : decode cL_acts 185 = .ok (.goto 56, 3) := by decide +kernel
theorem dL_acts_188 : decode cL_acts 188 = .ok (.iload 7, 2) := by decide +kernel
theorem dL_acts_190 : decode cL_acts 190 = .ok (.iload 6, 2) := by decide +kernel
theorem dL_acts_192 : decode cL_acts 192 = .ok (.iadd, 1) := by decide +kernel
theorem dL_acts_193 : decode cL_acts 193 = .ok (.bipush 20, 2) := by decide +kernel
theorem dL_acts_195 : decode cL_acts 195 = .ok (.if_icmp .le 31, 3) := by decide +kernel
theorem dL_acts_198 : decode cL_acts 198 = .ok (.iload 8, 2) := by decide +kernel
theorem dL_acts_200 : decode cL_acts 200 = .ok (.sipush (-902), 3) := by decide +kernel
theorem dL_acts_203 : decode cL_acts 203 = .ok (.if_icmp .ne 19, 3) := by decide +kernel
theorem dL_acts_206 : decode cL_acts 206 = .ok (.aload_n 0, 1) := by decide +kernel
theorem dL_acts_207 : decode cL_acts 207 = .ok (.iload 5, 2) := by decide +kernel
theorem dL_acts_209 : decode cL_acts 209 = .ok (.iconst 1, 1) := by decide +kernel
theorem dL_acts_210 : decode cL_acts 210 = .ok (.invokevirtual 39, 3) := by decide +kernel
theorem dL_acts_213 : decode cL_acts 213 = .ok (.iload 7, 2) := by decide +kernel
theorem dL_acts_215 : decode cL_acts 215 = .ok (.if_icmp .ne 7, 3) := by decide +kernel
theorem dL_acts_218 : decode cL_acts 218 = .ok (.iconst 1, 1) := by decide +kernel
theorem dL_acts_219 : decode cL_acts 219 = .ok (.goto 22, 3) := by decide +kernel
theorem dL_acts_222 : decode cL_acts 222 = .ok (.iconst 0, 1) := by decide +kernel
theorem dL_acts_223 : decode cL_acts 223 = .ok (.goto 18, 3) := by decide +kernel
theorem dL_acts_226 : decode cL_acts 226 = .ok (.iload 8, 2) := by decide +kernel
theorem dL_acts_228 : decode cL_acts 228 = .ok (.iload 7, 2) := by decide +kernel
theorem dL_acts_230 : decode cL_acts 230 = .ok (.iload 6, 2) := by decide +kernel
theorem dL_acts_232 : decode cL_acts 232 = .ok (.iadd, 1) := by decide +kernel
theorem dL_acts_233 : decode cL_acts 233 = .ok (.if_icmp .ne 7, 3) := by decide +kernel
theorem dL_acts_236 : decode cL_acts 236 = .ok (.iconst 1, 1) := by decide +kernel
theorem dL_acts_237 : decode cL_acts 237 = .ok (.goto 4, 3) := by decide +kernel
theorem dL_acts_240 : decode cL_acts 240 = .ok (.iconst 0, 1) := by decide +kernel
theorem dL_acts_241 : decode cL_acts 241 = .ok (.ireturn, 1) := by decide +kernel
theorem dL_acts_242 : decode cL_acts 242 = .ok (.iload_n 3, 1) := by decide +kernel
theorem dL_acts_243 : decode cL_acts 243 = .ok (.bipush 8, 2) := by decide +kernel
theorem dL_acts_245 : decode cL_acts 245 = .ok (.if_icmp .ge 17, 3) := by decide +kernel
theorem dL_acts_248 : decode cL_acts 248 = .ok (.aload_n 0, 1) := by decide +kernel
theorem dL_acts_249 : decode cL_acts 249 = .ok (.iload_n 2, 1) := by decide +kernel
theorem dL_acts_250 : decode cL_acts 250 = .ok (.iload 4, 2) := by decide +kernel
theorem dL_acts_252 : decode cL_acts 252 = .ok (.invokestatic 75, 3) := by decide +kernel
theorem dL_acts_255 : decode cL_acts 255 = .ok (.iload_n 2, 1) := by decide +kernel
theorem dL_acts_256 : decode cL_acts 256 = .ok (.iconst 3, 1) := by decide +kernel
theorem dL_acts_257 : decode cL_acts 257 = .ok (.ishr, 1) := by decide +kernel
theorem dL_acts_258 : decode cL_acts 258 = .ok (.invokestatic 97, 3) := by decide +kernel
theorem dL_acts_261 : decode cL_acts 261 = .ok (.ireturn, 1) := by decide +kernel
theorem dL_acts_262 : decode cL_acts 262 = .ok (.iload_n 3, 1) := by decide +kernel
theorem dL_acts_263 : decode cL_acts 263 = .ok (.bipush 10, 2) := by decide +kernel
theorem dL_acts_265 : decode cL_acts 265 = .ok (.if_icmp .ge 169, 3) := by decide +kernel
theorem dL_acts_268 : decode cL_acts 268 = .ok (.iload_n 2, 1) := by decide +kernel
theorem dL_acts_269 : decode cL_acts 269 = .ok (.iconst 5, 1) := by decide +kernel
theorem dL_acts_270 : decode cL_acts 270 = .ok (.invokestatic 75, 3) := by decide +kernel
theorem dL_acts_273 : decode cL_acts 273 = .ok (.istore 5, 2) := by decide +kernel
theorem dL_acts_275 : decode cL_acts 275 = .ok (.iconst 1, 1) := by decide +kernel
theorem dL_acts_276 : decode cL_acts 276 = .ok (.iload_n 2, 1) := by decide +kernel
theorem dL_acts_277 : decode cL_acts 277 = .ok (.iconst 3, 1) := by decide +kernel
theorem dL_acts_278 : decode cL_acts 278 = .ok (.ishr, 1) := by decide +kernel
theorem dL_acts_279 : decode cL_acts 279 = .ok (.bipush 30, 2) := by decide +kernel
theorem dL_acts_281 : decode cL_acts 281 = .ok (.invokestatic 75, 3) := by decide +kernel
theorem dL_acts_284 : decode cL_acts 284 = .ok (.iadd, 1) := by decide +kernel
theorem dL_acts_285 : decode cL_acts 285 = .ok (.istore 6, 2) := by decide +kernel
theorem dL_acts_287 : decode cL_acts 287 = .ok (.aload_n 0, 1) := by decide +kernel
theorem dL_acts_288 : decode cL_acts 288 = .ok (.iconst 2, 1) := by decide +kernel
theorem dL_acts_289 : decode cL_acts 289 = .ok (.invokevirtual 42, 3) := by decide +kernel
theorem dL_acts_292 : decode cL_acts 292 = .ok (.istore 7, 2) := by decide +kernel
theorem dL_acts_294 : decode cL_acts 294 = .ok (.aload_n 0, 1) := by decide +kernel
theorem dL_acts_295 : decode cL_acts 295 = .ok (.bipush 6, 2) := by decide +kernel
theorem dL_acts_297 : decode cL_acts 297 = .ok (.invokevirtual 42, 3) := by decide +kernel
theorem dL_acts_300 : decode cL_acts 300 = .ok (.istore 8, 2) := by decide +kernel
theorem dL_acts_302 : decode cL_acts 302 = .ok (.iload 5, 2) := by decide +kernel
theorem dL_acts_304 : decode cL_acts 304 = .ok (.iconst 4, 1) := by decide +kernel
theorem dL_acts_305 : decode cL_acts 305 = .ok (.if_icmp .ge 12, 3) := by decide +kernel
theorem dL_acts_308 : decode cL_acts 308 = .ok (.aload_n 0, 1) := by decide +kernel
theorem dL_acts_309 : decode cL_acts 309 = .ok (.iload 5, 2) := by decide +kernel
theorem dL_acts_311 : decode cL_acts 311 = .ok (.invokevirtual 52, 3) := by decide +kernel
theorem dL_acts_314 : decode cL_acts 314 = .ok (.goto 4, 3) := by decide +kernel
theorem dL_acts_317 : decode cL_acts 317 = .ok (.iconst 0, 1) := by decide +kernel
theorem dL_acts_318 : decode cL_acts 318 = .ok (.istore 9, 2) := by decide +kernel
theorem dL_acts_320 : decode cL_acts 320 = .ok (.aload_n 0, 1) := by decide +kernel
theorem dL_acts_321 : decode cL_acts 321 = .ok (.iload 5, 2) := by decide +kernel
theorem dL_acts_323 : decode cL_acts 323 = .ok (.iload 6, 2) := by decide +kernel
theorem dL_acts_325 : decode cL_acts 325 = .ok (.invokestatic 101, 3) := by decide +kernel
theorem dL_acts_328 : decode cL_acts 328 = .ok (.istore 10, 2) := by decide +kernel
theorem dL_acts_330 : decode cL_acts 330 = .ok (.iload 5, 2) := by decide +kernel
theorem dL_acts_332 : decode cL_acts 332 = .ok (.iconst 4, 1) := by decide +kernel
theorem dL_acts_333 : decode cL_acts 333 = .ok (.if_icmp .ne 19, 3) := by decide +kernel
theorem dL_acts_336 : decode cL_acts 336 = .ok (.iload 10, 2) := by decide +kernel
theorem dL_acts_338 : decode cL_acts 338 = .ok (.sipush (-903), 3) := by decide +kernel
theorem dL_acts_341 : decode cL_acts 341 = .ok (.if_icmp .ne 7, 3) := by decide +kernel
theorem dL_acts_344 : decode cL_acts 344 = .ok (.iconst 1, 1) := by decide +kernel
theorem dL_acts_345 : decode cL_acts 345 = .ok (.goto 88, 3) := by decide +kernel
theorem dL_acts_348 : decode cL_acts 348 = .ok (.iconst 0, 1) := by decide +kernel
theorem dL_acts_349 : decode cL_acts 349 = .ok (.goto 84, 3) := by decide +kernel
theorem dL_acts_352 : decode cL_acts 352 = .ok (.iload 10, 2) := by decide +kernel
theorem dL_acts_354 : decode cL_acts 354 = .ok (.bipush 30, 2) := by decide +kernel
theorem dL_acts_356 : decode cL_acts 356 = .ok (.iload 9, 2) := by decide +kernel
theorem dL_acts_358 : decode cL_acts 358 = .ok (.isub, 1) := by decide +kernel
theorem dL_acts_359 : decode cL_acts 359 = .ok (.iload 6, 2) := by decide +kernel
theorem dL_acts_361 : decode cL_acts 361 = .ok (.if_icmp .ge 11, 3) := by decide +kernel
theorem dL_acts_364 : decode cL_acts 364 = .ok (.bipush 30, 2) := by decide +kernel
theorem dL_acts_366 : decode cL_acts 366 = .ok (.iload 9, 2) := by decide +kernel
theorem dL_acts_368 : decode cL_acts 368 = .ok (.isub, 1) := by decide +kernel
theorem dL_acts_369 : decode cL_acts 369 = .ok (.goto 5, 3) := by decide +kernel
theorem dL_acts_372 : decode cL_acts 372 = .ok (.iload 6, 2) := by decide +kernel
theorem dL_acts_374 : decode cL_acts 374 = .ok (.if_icmp .ne 58, 3) := by decide +kernel
theorem dL_acts_377 : decode cL_acts 377 = .ok (.aload_n 0, 1) := by decide +kernel
theorem dL_acts_378 : decode cL_acts 378 = .ok (.iconst 2, 1) := by decide +kernel
theorem dL_acts_379 : decode cL_acts 379 = .ok (.invokevirtual 42, 3) := by decide +kernel
theorem dL_acts_382 : decode cL_acts 382 = .ok (.iload 7, 2) := by decide +kernel
theorem dL_acts_384 : decode cL_acts 384 = .ok (.iload 10, 2) := by decide +kernel
theorem dL_acts_386 : decode cL_acts 386 = .ok (.iload 5, 2) := by decide +kernel
theorem dL_acts_388 : decode cL_acts 388 = .ok (.invokestatic 55, 3) := by decide +kernel
theorem dL_acts_391 : decode cL_acts 391 = .ok (.imul, 1) := by decide +kernel
theorem dL_acts_392 : decode cL_acts 392 = .ok (.iadd, 1) := by decide +kernel
theorem dL_acts_393 : decode cL_acts 393 = .ok (.aload_n 0, 1) := by decide +kernel
theorem dL_acts_394 : decode cL_acts 394 = .ok (.bipush 6, 2) := by decide +kernel
theorem dL_acts_396 : decode cL_acts 396 = .ok (.invokevirtual 42, 3) := by decide +kernel
theorem dL_acts_399 : decode cL_acts 399 = .ok (.iload 8, 2) := by decide +kernel
theorem dL_acts_401 : decode cL_acts 401 = .ok (.isub, 1) := by decide +kernel
theorem dL_acts_402 : decode cL_acts 402 = .ok (.isub, 1) := by decide +kernel
theorem dL_acts_403 : decode cL_acts 403 = .ok (.if_icmp .ne 29, 3) := by decide +kernel
theorem dL_acts_406 : decode cL_acts 406 = .ok (.aload_n 0, 1) := by decide +kernel
theorem dL_acts_407 : decode cL_acts 407 = .ok (.iconst 4, 1) := by decide +kernel
theorem dL_acts_408 : decode cL_acts 408 = .ok (.invokevirtual 42, 3) := by decide +kernel
theorem dL_acts_411 : decode cL_acts 411 = .ok (.ifCond .eq 17, 3) := by decide +kernel
theorem dL_acts_414 : decode cL_acts 414 = .ok (.aload_n 0, 1) := by decide +kernel
theorem dL_acts_415 : decode cL_acts 415 = .ok (.aload_n 0, 1) := by decide +kernel
theorem dL_acts_416 : decode cL_acts 416 = .ok (.iconst 0, 1) := by decide +kernel
theorem dL_acts_417 : decode cL_acts 417 = .ok (.invokevirtual 36, 3) := by decide +kernel
theorem dL_acts_420 : decode cL_acts 420 = .ok (.iconst 0, 1) := by decide +kernel
theorem dL_acts_421 : decode cL_acts 421 = .ok (.invokevirtual 66, 3) := by decide +kernel
theorem dL_acts_424 : decode cL_acts 424 = .ok (.iconst (-1), 1) := by decide +kernel
theorem dL_acts_425 : decode cL_acts 425 = .ok (.if_icmp .ne 7, 3) := by decide +kernel
theorem dL_acts_428 : decode cL_acts 428 = .ok (.iconst 1, 1) := by decide +kernel
theorem dL_acts_429 : decode cL_acts 429 = .ok (.goto 4, 3) := by decide +kernel
theorem dL_acts_432 : decode cL_acts 432 = .ok (.iconst 0, 1) := by decide +kernel
theorem dL_acts_433 : decode cL_acts 433 = .ok (.ireturn, 1) := by decide +kernel
theorem dL_acts_434 : decode cL_acts 434 = .ok (.iload_n 3, 1) := by decide +kernel
theorem dL_acts_435 : decode cL_acts 435 = .ok (.bipush 10, 2) := by decide +kernel
theorem dL_acts_437 : decode cL_acts 437 = .ok (.if_icmp .ne 56, 3) := by decide +kernel
theorem dL_acts_440 : decode cL_acts 440 = .ok (.iload_n 2, 1) := by decide +kernel
theorem dL_acts_441 : decode cL_acts 441 = .ok (.iload 4, 2) := by decide +kernel
theorem dL_acts_443 : decode cL_acts 443 = .ok (.invokestatic 75, 3) := by decide +kernel
theorem dL_acts_446 : decode cL_acts 446 = .ok (.istore 5, 2) := by decide +kernel
theorem dL_acts_448 : decode cL_acts 448 = .ok (.aload_n 0, 1) := by decide +kernel
theorem dL_acts_449 : decode cL_acts 449 = .ok (.iload 5, 2) := by decide +kernel
theorem dL_acts_451 : decode cL_acts 451 = .ok (.invokevirtual 45, 3) := by decide +kernel
theorem dL_acts_454 : decode cL_acts 454 = .ok (.fstore 6, 2) := by decide +kernel
theorem dL_acts_456 : decode cL_acts 456 = .ok (.aload_n 0, 1) := by decide +kernel
theorem dL_acts_457 : decode cL_acts 457 = .ok (.iload 5, 2) := by decide +kernel
theorem dL_acts_459 : decode cL_acts 459 = .ok (.invokevirtual 103, 3) := by decide +kernel
theorem dL_acts_462 : decode cL_acts 462 = .ok (.aload_n 0, 1) := by decide +kernel
theorem dL_acts_463 : decode cL_acts 463 = .ok (.iload 5, 2) := by decide +kernel
theorem dL_acts_465 : decode cL_acts 465 = .ok (.iconst 2, 1) := by decide +kernel
theorem dL_acts_466 : decode cL_acts 466 = .ok (.invokevirtual 39, 3) := by decide +kernel
theorem dL_acts_469 : decode cL_acts 469 = .ok (.if_icmp .ne 22, 3) := by decide +kernel
theorem dL_acts_472 : decode cL_acts 472 = .ok (.aload_n 0, 1) := by decide +kernel
theorem dL_acts_473 : decode cL_acts 473 = .ok (.iload 5, 2) := by decide +kernel
theorem dL_acts_475 : decode cL_acts 475 = .ok (.invokevirtual 45, 3) := by decide +kernel
theorem dL_acts_478 : decode cL_acts 478 = .ok (.fload 6, 2) := by decide +kernel
theorem dL_acts_480 : decode cL_acts 480 = .ok (.ldc 106, 2) := by decide +kernel
theorem dL_acts_482 : decode cL_acts 482 = .ok (.fadd, 1) := by decide +kernel
theorem dL_acts_483 : decode cL_acts 483 = .ok (.fcmp .l, 1) := by decide +kernel
theorem dL_acts_484 : decode cL_acts 484 = .ok (.ifCond .ne 7, 3) := by decide +kernel
theorem dL_acts_487 : decode cL_acts 487 = .ok (.iconst 1, 1) := by decide +kernel
theorem dL_acts_488 : decode cL_acts 488 = .ok (.goto 4, 3) := by decide +kernel
theorem dL_acts_491 : decode cL_acts 491 = .ok (.iconst 0, 1) := by decide +kernel
theorem dL_acts_492 : decode cL_acts 492 = .ok (.ireturn, 1) := by decide +kernel
theorem dL_acts_493 : decode cL_acts 493 = .ok (.iload_n 3, 1) := by decide +kernel
theorem dL_acts_494 : decode cL_acts 494 = .ok (.bipush 11, 2) := by decide +kernel
theorem dL_acts_496 : decode cL_acts 496 = .ok (.if_icmp .ne 113, 3) := by decide +kernel
theorem dL_acts_499 : decode cL_acts 499 = .ok (.iload_n 2, 1) := by decide +kernel
theorem dL_acts_500 : decode cL_acts 500 = .ok (.iconst 5, 1) := by decide +kernel
theorem dL_acts_501 : decode cL_acts 501 = .ok (.invokestatic 75, 3) := by decide +kernel
theorem dL_acts_504 : decode cL_acts 504 = .ok (.istore 5, 2) := by decide +kernel
theorem dL_acts_506 : decode cL_acts 506 = .ok (.iload 5, 2) := by decide +kernel
theorem dL_acts_508 : decode cL_acts 508 = .ok (.ifCond .ne 16, 3) := by decide +kernel
theorem dL_acts_511 : decode cL_acts 511 = .ok (.iconst 1, 1) := by decide +kernel
theorem dL_acts_512 : decode cL_acts 512 = .ok (.iload_n 2, 1) := by decide +kernel
theorem dL_acts_513 : decode cL_acts 513 = .ok (.iconst 3, 1) := by decide +kernel
theorem dL_acts_514 : decode cL_acts 514 = .ok (.ishr, 1) := by decide +kernel
theorem dL_acts_515 : decode cL_acts 515 = .ok (.bipush 40, 2) := by decide +kernel
theorem dL_acts_517 : decode cL_acts 517 = .ok (.invokestatic 75, 3) := by decide +kernel
theorem dL_acts_520 : decode cL_acts 520 = .ok (.iadd, 1) := by decide +kernel
theorem dL_acts_521 : decode cL_acts 521 = .ok (.goto 48, 3) := by decide +kernel
theorem dL_acts_524 : decode cL_acts 524 = .ok (.iload 5, 2) := by decide +kernel
theorem dL_acts_526 : decode cL_acts 526 = .ok (.iconst 3, 1) := by decide +kernel
theorem dL_acts_527 : decode cL_acts 527 = .ok (.if_icmp .ne 15, 3) := by decide +kernel
theorem dL_acts_530 : decode cL_acts 530 = .ok (.iload_n 2, 1) := by decide +kernel
theorem dL_acts_531 : decode cL_acts 531 = .ok (.iconst 3, 1) := by decide +kernel
theorem dL_acts_532 : decode cL_acts 532 = .ok (.ishr, 1) := by decide +kernel
theorem dL_acts_533 : decode cL_acts 533 = .ok (.sipush 300, 3) := by decide +kernel
theorem dL_acts_536 : decode cL_acts 536 = .ok (.invokestatic 75, 3) := by decide +kernel
theorem dL_acts_539 : decode cL_acts 539 = .ok (.goto 30, 3) := by decide +kernel
theorem dL_acts_542 : decode cL_acts 542 = .ok (.iload 5, 2) := by decide +kernel
theorem dL_acts_544 : decode cL_acts 544 = .ok (.iconst 4, 1) := by decide +kernel
theorem dL_acts_545 : decode cL_acts 545 = .ok (.if_icmp .ne 16, 3) := by decide +kernel
theorem dL_acts_548 : decode cL_acts 548 = .ok (.iconst 5, 1) := by decide +kernel
theorem dL_acts_549 : decode cL_acts 549 = .ok (.iload_n 2, 1) := by decide +kernel
theorem dL_acts_550 : decode cL_acts 550 = .ok (.iconst 3, 1) := by decide +kernel
theorem dL_acts_551 : decode cL_acts 551 = .ok (.ishr, 1) := by decide +kernel
theorem dL_acts_552 : decode cL_acts 552 = .ok (.bipush 21, 2) := by decide +kernel
theorem dL_acts_554 : decode cL_acts 554 = .ok (.invokestatic 75, 3) := by decide +kernel
theorem dL_acts_557 : decode cL_acts 557 = .ok (.imul, 1) := by decide +kernel
theorem dL_acts_558 : decode cL_acts 558 = .ok (.goto 11, 3) := by decide +kernel
theorem dL_acts_561 : decode cL_acts 561 = .ok (.iload_n 2, 1) := by decide +kernel
theorem dL_acts_562 : decode cL_acts 562 = .ok (.iconst 3, 1) := by decide +kernel
theorem dL_acts_563 : decode cL_acts 563 = .ok (.ishr, 1) := by decide +kernel
theorem dL_acts_564 : decode cL_acts 564 = .ok (.bipush 101, 2) := by decide +kernel
theorem dL_acts_566 : decode cL_acts 566 = .ok (.invokestatic 75, 3) := by decide +kernel
theorem dL_acts_569 : decode cL_acts 569 = .ok (.istore 6, 2) := by decide +kernel
theorem dL_acts_571 : decode cL_acts 571 = .ok (.aload_n 0, 1) := by decide +kernel
theorem dL_acts_572 : decode cL_acts 572 = .ok (.iload 5, 2) := by decide +kernel
theorem dL_acts_574 : decode cL_acts 574 = .ok (.invokevirtual 85, 3) := by decide +kernel
theorem dL_acts_577 : decode cL_acts 577 = .ok (.istore 7, 2) := by decide +kernel
theorem dL_acts_579 : decode cL_acts 579 = .ok (.aload_n 0, 1) := by decide +kernel
theorem dL_acts_580 : decode cL_acts 580 = .ok (.iload 5, 2) := by decide +kernel
theorem dL_acts_582 : decode cL_acts 582 = .ok (.iload 6, 2) := by decide +kernel
theorem dL_acts_584 : decode cL_acts 584 = .ok (.invokevirtual 107, 3) := by decide +kernel
theorem dL_acts_587 : decode cL_acts 587 = .ok (.iload 7, 2) := by decide +kernel
theorem dL_acts_589 : decode cL_acts 589 = .ok (.if_icmp .ne 18, 3) := by decide +kernel
theorem dL_acts_592 : decode cL_acts 592 = .ok (.aload_n 0, 1) := by decide +kernel
theorem dL_acts_593 : decode cL_acts 593 = .ok (.iload 5, 2) := by decide +kernel
theorem dL_acts_595 : decode cL_acts 595 = .ok (.invokevirtual 85, 3) := by decide +kernel
theorem dL_acts_598 : decode cL_acts 598 = .ok (.iload 6, 2) := by decide +kernel
theorem dL_acts_600 : decode cL_acts 600 = .ok (.if_icmp .ne 7, 3) := by decide +kernel
theorem dL_acts_603 : decode cL_acts 603 = .ok (.iconst 1, 1) := by decide +kernel
theorem dL_acts_604 : decode cL_acts 604 = .ok (.goto 4, 3) := by decide +kernel
theorem dL_acts_607 : decode cL_acts 607 = .ok (.iconst 0, 1) := by decide +kernel
theorem dL_acts_608 : decode cL_acts 608 = .ok (.ireturn, 1) := by decide +kernel
theorem dL_acts_609 : decode cL_acts 609 = .ok (.iload_n 3, 1) := by decide +kernel
theorem dL_acts_610 : decode cL_acts 610 = .ok (.bipush 12, 2) := by decide +kernel
theorem dL_acts_612 : decode cL_acts 612 = .ok (.if_icmp .ne 33, 3) := by decide +kernel
theorem dL_acts_615 : decode cL_acts 615 = .ok (.aload_n 0, 1) := by decide +kernel
theorem dL_acts_616 : decode cL_acts 616 = .ok (.iconst 3, 1) := by decide +kernel
theorem dL_acts_617 : decode cL_acts 617 = .ok (.invokevirtual 42, 3) := by decide +kernel
theorem dL_acts_620 : decode cL_acts 620 = .ok (.istore 5, 2) := by decide +kernel
theorem dL_acts_622 : decode cL_acts 622 = .ok (.aload_n 0, 1) := by decide +kernel
theorem dL_acts_623 : decode cL_acts 623 = .ok (.invokevirtual 110, 3) := by decide +kernel
theorem dL_acts_626 : decode cL_acts 626 = .ok (.iload 5, 2) := by decide +kernel
theorem dL_acts_628 : decode cL_acts 628 = .ok (.if_icmp .ne 15, 3) := by decide +kernel
theorem dL_acts_631 : decode cL_acts 631 = .ok (.aload_n 0, 1) := by decide +kernel
theorem dL_acts_632 : decode cL_acts 632 = .ok (.iconst 3, 1) := by decide +kernel
theorem dL_acts_633 : decode cL_acts 633 = .ok (.invokevirtual 42, 3) := by decide +kernel
theorem dL_acts_636 : decode cL_acts 636 = .ok (.ifCond .ne 7, 3) := by decide +kernel
theorem dL_acts_639 : decode cL_acts 639 = .ok (.iconst 1, 1) := by decide +kernel
theorem dL_acts_640 : decode cL_acts 640 = .ok (.goto 4, 3) := by decide +kernel
theorem dL_acts_643 : decode cL_acts 643 = .ok (.iconst 0, 1) := by decide +kernel
theorem dL_acts_644 : decode cL_acts 644 = .ok (.ireturn, 1) := by decide +kernel
theorem dL_acts_645 : decode cL_acts 645 = .ok (.iload_n 3, 1) := by decide +kernel
theorem dL_acts_646 : decode cL_acts 646 = .ok (.bipush 13, 2) := by decide +kernel
theorem dL_acts_648 : decode cL_acts 648 = .ok (.if_icmp .ne 42, 3) := by decide +kernel
theorem dL_acts_651 : decode cL_acts 651 = .ok (.aload_n 0, 1) := by decide +kernel
theorem dL_acts_652 : decode cL_acts 652 = .ok (.iload_n 2, 1) := by decide +kernel
theorem dL_acts_653 : decode cL_acts 653 = .ok (.sipush 480, 3) := by decide +kernel
theorem dL_acts_656 : decode cL_acts 656 = .ok (.invokestatic 75, 3) := by decide +kernel
theorem dL_acts_659 : decode cL_acts 659 = .ok (.invokestatic 113, 3) := by decide +kernel
theorem dL_acts_662 : decode cL_acts 662 = .ok (.ifCond .eq 26, 3) := by decide +kernel
theorem dL_acts_665 : decode cL_acts 665 = .ok (.aload_n 0, 1) := by decide +kernel
theorem dL_acts_666 : decode cL_acts 666 = .ok (.iconst 5, 1) := by decide +kernel
theorem dL_acts_667 : decode cL_acts 667 = .ok (.iload_n 2, 1) := by decide +kernel
theorem dL_acts_668 : decode cL_acts 668 = .ok (.bipush 9, 2) := by decide +kernel
theorem dL_acts_670 : decode cL_acts 670 = .ok (.ishr, 1) := by decide +kernel
theorem dL_acts_671 : decode cL_acts 671 = .ok (.sipush 200, 3) := by decide +kernel
theorem dL_acts_674 : decode cL_acts 674 = .ok (.invokestatic 75, 3) := by decide +kernel
theorem dL_acts_677 : decode cL_acts 677 = .ok (.imul, 1) := by decide +kernel
theorem dL_acts_678 : decode cL_acts 678 = .ok (.invokestatic 113, 3) := by decide +kernel
theorem dL_acts_681 : decode cL_acts 681 = .ok (.ifCond .eq 7, 3) := by decide +kernel
theorem dL_acts_684 : decode cL_acts 684 = .ok (.iconst 1, 1) := by decide +kernel
theorem dL_acts_685 : decode cL_acts 685 = .ok (.goto 4, 3) := by decide +kernel
theorem dL_acts_688 : decode cL_acts 688 = .ok (.iconst 0, 1) := by decide +kernel
theorem dL_acts_689 : decode cL_acts 689 = .ok (.ireturn, 1) := by decide +kernel
theorem dL_acts_690 : decode cL_acts 690 = .ok (.iload_n 3, 1) := by decide +kernel
theorem dL_acts_691 : decode cL_acts 691 = .ok (.bipush 14, 2) := by decide +kernel
theorem dL_acts_693 : decode cL_acts 693 = .ok (.if_icmp .ne 107, 3) := by decide +kernel
theorem dL_acts_696 : decode cL_acts 696 = .ok (.aload_n 0, 1) := by decide +kernel
theorem dL_acts_697 : decode cL_acts 697 = .ok (.iconst 2, 1) := by decide +kernel
theorem dL_acts_698 : decode cL_acts 698 = .ok (.invokevirtual 42, 3) := by decide +kernel
theorem dL_acts_701 : decode cL_acts 701 = .ok (.istore 5, 2) := by decide +kernel
theorem dL_acts_703 : decode cL_acts 703 = .ok (.aload_n 0, 1) := by decide +kernel
theorem dL_acts_704 : decode cL_acts 704 = .ok (.bipush 7, 2) := by decide +kernel
theorem dL_acts_706 : decode cL_acts 706 = .ok (.invokevirtual 42, 3) := by decide +kernel
theorem dL_acts_709 : decode cL_acts 709 = .ok (.istore 6, 2) := by decide +kernel
theorem dL_acts_711 : decode cL_acts 711 = .ok (.aload_n 0, 1) := by decide +kernel
theorem dL_acts_712 : decode cL_acts 712 = .ok (.iconst 1, 1) := by decide +kernel
theorem dL_acts_713 : decode cL_acts 713 = .ok (.invokevirtual 42, 3) := by decide +kernel
theorem dL_acts_716 : decode cL_acts 716 = .ok (.istore 7, 2) := by decide +kernel
theorem dL_acts_718 : decode cL_acts 718 = .ok (.aload_n 0, 1) := by decide +kernel
theorem dL_acts_719 : decode cL_acts 719 = .ok (.iconst 1, 1) := by decide +kernel
theorem dL_acts_720 : decode cL_acts 720 = .ok (.iload_n 2, 1) := by decide +kernel
theorem dL_acts_721 : decode cL_acts 721 = .ok (.bipush 48, 2) := by decide +kernel
theorem dL_acts_723 : decode cL_acts 723 = .ok (.invokestatic 75, 3) := by decide +kernel
theorem dL_acts_726 : decode cL_acts 726 = .ok (.iadd, 1) := by decide +kernel
theorem dL_acts_727 : decode cL_acts 727 = .ok (.invokestatic 117, 3) := by decide +kernel
theorem dL_acts_730 : decode cL_acts 730 = .ok (.ifCond .lt 68, 3) := by decide +kernel
theorem dL_acts_733 : decode cL_acts 733 = .ok (.aload_n 0, 1) := by decide +kernel
theorem dL_acts_734 : decode cL_acts 734 = .ok (.invokestatic 119, 3) := by decide +kernel
theorem dL_acts_737 : decode cL_acts 737 = .ok (.ifCond .lt 61, 3) := by decide +kernel
theorem dL_acts_740 : decode cL_acts 740 = .ok (.aload_n 0, 1) := by decide +kernel
theorem dL_acts_741 : decode cL_acts 741 = .ok (.iconst 1, 1) := by decide +kernel
theorem dL_acts_742 : decode cL_acts 742 = .ok (.invokevirtual 42, 3) := by decide +kernel
theorem dL_acts_745 : decode cL_acts 745 = .ok (.iload 7, 2) := by decide +kernel
theorem dL_acts_747 : decode cL_acts 747 = .ok (.if_icmp .ne 51, 3) := by decide +kernel
theorem dL_acts_750 : decode cL_acts 750 = .ok (.aload_n 0, 1) := by decide +kernel
theorem dL_acts_751 : decode cL_acts 751 = .ok (.bipush 7, 2) := by decide +kernel
theorem dL_acts_753 : decode cL_acts 753 = .ok (.invokevirtual 42, 3) := by decide +kernel
theorem dL_acts_756 : decode cL_acts 756 = .ok (.iload 6, 2) := by decide +kernel
theorem dL_acts_758 : decode cL_acts 758 = .ok (.if_icmp .ne 40, 3) := by decide +kernel
theorem dL_acts_761 : decode cL_acts 761 = .ok (.aload_n 0, 1) := by decide +kernel
theorem dL_acts_762 : decode cL_acts 762 = .ok (.iconst 2, 1) := by decide +kernel
theorem dL_acts_763 : decode cL_acts 763 = .ok (.invokevirtual 42, 3) := by decide +kernel
theorem dL_acts_766 : decode cL_acts 766 = .ok (.iload 5, 2) := by decide +kernel
theorem dL_acts_768 : decode cL_acts 768 = .ok (.if_icmp .ne 30, 3) := by decide +kernel
theorem dL_acts_771 : decode cL_acts 771 = .ok (.aload_n 0, 1) := by decide +kernel
theorem dL_acts_772 : decode cL_acts 772 = .ok (.iconst 0, 1) := by decide +kernel
theorem dL_acts_773 : decode cL_acts 773 = .ok (.invokestatic 117, 3) := by decide +kernel
theorem dL_acts_776 : decode cL_acts 776 = .ok (.sipush (-901), 3) := by decide +kernel
theorem dL_acts_779 : decode cL_acts 779 = .ok (.if_icmp .ne 19, 3) := by decide +kernel
theorem dL_acts_782 : decode cL_acts 782 = .ok (.aload_n 0, 1) := by decide +kernel
theorem dL_acts_783 : decode cL_acts 783 = .ok (.bipush 49, 2) := by decide +kernel
theorem dL_acts_785 : decode cL_acts 785 = .ok (.invokestatic 117, 3) := by decide +kernel
theorem dL_acts_788 : decode cL_acts 788 = .ok (.sipush (-901), 3) := by decide +kernel
theorem dL_acts_791 : decode cL_acts 791 = .ok (.if_icmp .ne 7, 3) := by decide +kernel
theorem dL_acts_794 : decode cL_acts 794 = .ok (.iconst 1, 1) := by decide +kernel
theorem dL_acts_795 : decode cL_acts 795 = .ok (.goto 4, 3) := by decide +kernel
theorem dL_acts_798 : decode cL_acts 798 = .ok (.iconst 0, 1) := by decide +kernel
theorem dL_acts_799 : decode cL_acts 799 = .ok (.ireturn, 1) := by decide +kernel
theorem dL_acts_800 : decode cL_acts 800 = .ok (.aload_n 0, 1) := by decide +kernel
theorem dL_acts_801 : decode cL_acts 801 = .ok (.iload_n 1, 1) := by decide +kernel
theorem dL_acts_802 : decode cL_acts 802 = .ok (.iconst 4, 1) := by decide +kernel
theorem dL_acts_803 : decode cL_acts 803 = .ok (.ishr, 1) := by decide +kernel
theorem dL_acts_804 : decode cL_acts 804 = .ok (.iload_n 2, 1) := by decide +kernel
theorem dL_acts_805 : decode cL_acts 805 = .ok (.invokestatic 122, 3) := by decide +kernel
theorem dL_acts_808 : decode cL_acts 808 = .ok (.ireturn, 1) := by decide +kernel
theorem dL_law_0 : decode cL_law 0 = .ok (.new 10, 3) := by decide +kernel
theorem dL_law_3 : decode cL_law 3 = .ok (.dup, 1) := by decide +kernel
theorem dL_law_4 : decode cL_law 4 = .ok (.invokespecial 125, 3) := by decide +kernel
theorem dL_law_7 : decode cL_law 7 = .ok (.astore_n 1, 1) := by decide +kernel
theorem dL_law_8 : decode cL_law 8 = .ok (.aload_n 1, 1) := by decide +kernel
theorem dL_law_9 : decode cL_law 9 = .ok (.invokestatic 126, 3) := by decide +kernel
theorem dL_law_12 : decode cL_law 12 = .ok (.ifCond .eq 50, 3) := by decide +kernel
theorem dL_law_15 : decode cL_law 15 = .ok (.aload_n 1, 1) := by decide +kernel
theorem dL_law_16 : decode cL_law 16 = .ok (.iconst 5, 1) := by decide +kernel
theorem dL_law_17 : decode cL_law 17 = .ok (.aload_n 0, 1) := by decide +kernel
theorem dL_law_18 : decode cL_law 18 = .ok (.iconst 0, 1) := by decide +kernel
theorem dL_law_19 : decode cL_law 19 = .ok (.invokestatic 130, 3) := by decide +kernel
theorem dL_law_22 : decode cL_law 22 = .ok (.bipush 90, 2) := by decide +kernel
theorem dL_law_24 : decode cL_law 24 = .ok (.invokestatic 75, 3) := by decide +kernel
theorem dL_law_27 : decode cL_law 27 = .ok (.imul, 1) := by decide +kernel
theorem dL_law_28 : decode cL_law 28 = .ok (.invokestatic 113, 3) := by decide +kernel
theorem dL_law_31 : decode cL_law 31 = .ok (.ifCond .eq 31, 3) := by decide +kernel
theorem dL_law_34 : decode cL_law 34 = .ok (.aload_n 1, 1) := by decide +kernel
theorem dL_law_35 : decode cL_law 35 = .ok (.invokestatic 119, 3) := by decide +kernel
theorem dL_law_38 : decode cL_law 38 = .ok (.sipush (-902), 3) := by decide +kernel
theorem dL_law_41 : decode cL_law 41 = .ok (.if_icmp .ne 21, 3) := by decide +kernel
theorem dL_law_44 : decode cL_law 44 = .ok (.aload_n 1, 1) := by decide +kernel
theorem dL_law_45 : decode cL_law 45 = .ok (.invokevirtual 134, 3) := by decide +kernel
theorem dL_law_48 : decode cL_law 48 = .ok (.ifCond .ne 14, 3) := by decide +kernel
theorem dL_law_51 : decode cL_law 51 = .ok (.aload_n 1, 1) := by decide +kernel
theorem dL_law_52 : decode cL_law 52 = .ok (.invokestatic 119, 3) := by decide +kernel
theorem dL_law_55 : decode cL_law 55 = .ok (.ifCond .ne 7, 3) := by decide +kernel
theorem dL_law_58 : decode cL_law 58 = .ok (.iconst 1, 1) := by decide +kernel
theorem dL_law_59 : decode cL_law 59 = .ok (.goto 4, 3) := by decide +kernel
theorem dL_law_62 : decode cL_law 62 = .ok (.iconst 0, 1) := by decide +kernel
theorem dL_law_63 : decode cL_law 63 = .ok (.istore_n 2, 1) := by decide +kernel
theorem dL_law_64 : decode cL_law 64 = .ok (.iconst 0, 1) := by decide +kernel
theorem dL_law_65 : decode cL_law 65 = .ok (.istore_n 3, 1) := by decide +kernel
theorem dL_law_66 : decode cL_law 66 = .ok (.iload_n 3, 1) := by decide +kernel
theorem dL_law_67 : decode cL_law 67 = .ok (.iconst 4, 1) := by decide +kernel
theorem dL_law_68 : decode cL_law 68 = .ok (.if_icmp .ge 63, 3) := by decide +kernel
theorem dL_law_71 : decode cL_law 71 = .ok (.iload_n 2, 1) := by decide +kernel
theorem dL_law_72 : decode cL_law 72 = .ok (.ifCond .eq 59, 3) := by decide +kernel
theorem dL_law_75 : decode cL_law 75 = .ok (.aload_n 0, 1) := by decide +kernel
theorem dL_law_76 : decode cL_law 76 = .ok (.iconst 1, 1) := by decide +kernel
theorem dL_law_77 : decode cL_law 77 = .ok (.iload_n 3, 1) := by decide +kernel
theorem dL_law_78 : decode cL_law 78 = .ok (.iadd, 1) := by decide +kernel
theorem dL_law_79 : decode cL_law 79 = .ok (.invokestatic 130, 3) := by decide +kernel
theorem dL_law_82 : decode cL_law 82 = .ok (.istore 4, 2) := by decide +kernel
theorem dL_law_84 : decode cL_law 84 = .ok (.aload_n 1, 1) := by decide +kernel
theorem dL_law_85 : decode cL_law 85 = .ok (.iload 4, 2) := by decide +kernel
theorem dL_law_87 : decode cL_law 87 = .ok (.ldc 137, 2) := by decide +kernel
theorem dL_law_89 : decode cL_law 89 = .ok (.iand, 1) := by decide +kernel
theorem dL_law_90 : decode cL_law 90 = .ok (.iload 4, 2) := by decide +kernel
theorem dL_law_92 : decode cL_law 92 = .ok (.iconst 3, 1) := by decide +kernel
theorem dL_law_93 : decode cL_law 93 = .ok (.ishr, 1) := by decide +kernel
theorem dL_law_94 : decode cL_law 94 = .ok (.invokestatic 138, 3) := by decide +kernel
theorem dL_law_97 : decode cL_law 97 = .ok (.ifCond .eq 26, 3) := by decide +kernel
theorem dL_law_100 : decode cL_law 100 = .ok (.aload_n 1, 1) := by decide +kernel
theorem dL_law_101 : decode cL_law 101 = .ok (.iload_n 3, 1) := by decide +kernel
theorem dL_law_102 : decode cL_law 102 = .ok (.iconst 1, 1) := by decide +kernel
theorem dL_law_103 : decode cL_law 103 = .ok (.iload 4, 2) := by decide +kernel
theorem dL_law_105 : decode cL_law 105 = .ok (.iconst 5, 1) := by decide +kernel
theorem dL_law_106 : decode cL_law 106 = .ok (.ishr, 1) := by decide +kernel
theorem dL_law_107 : decode cL_law 107 = .ok (.bipush 20, 2) := by decide +kernel
theorem dL_law_109 : decode cL_law 109 = .ok (.invokestatic 75, 3) := by decide +kernel
theorem dL_law_112 : decode cL_law 112 = .ok (.iadd, 1) := by decide +kernel
theorem dL_law_113 : decode cL_law 113 = .ok (.invokestatic 95, 3) := by decide +kernel
theorem dL_law_116 : decode cL_law 116 = .ok (.ifCond .le 7, 3) := by decide +kernel
theorem dL_law_119 : decode cL_law 119 = .ok (.iconst 1, 1) := by decide +kernel
theorem dL_law_120 : decode cL_law 120 = .ok (.goto 4, 3) := by decide +kernel
theorem dL_law_123 : decode cL_law 123 = .ok (.iconst 0, 1) := by decide +kernel
theorem dL_law_124 : decode cL_law 124 = .ok (.istore_n 2, 1) := by decide +kernel
theorem dL_law_125 : decode cL_law 125 = .ok (.iinc 3 1, 3) := by decide +kernel
theorem dL_law_128 : decode cL_law 128 = .ok (.goto (-62), 3) := by decide +kernel
theorem dL_law_131 : decode cL_law 131 = .ok (.iconst 3, 1) := by decide +kernel
theorem dL_law_132 : decode cL_law 132 = .ok (.istore_n 3, 1) := by decide +kernel
theorem dL_law_133 : decode cL_law 133 = .ok (.iload_n 3, 1) := by decide +kernel
theorem dL_law_134 : decode cL_law 134 = .ok (.bipush 46, 2) := by decide +kernel
theorem dL_law_136 : decode cL_law 136 = .ok (.if_icmp .ge 49, 3) := by decide +kernel
theorem dL_law_139 : decode cL_law 139 = .ok (.iload_n 2, 1) := by decide +kernel
theorem dL_law_140 : decode cL_law 140 = .ok (.ifCond .eq 45, 3) := by decide +kernel
theorem dL_law_143 : decode cL_law 143 = .ok (.aload_n 1, 1) := by decide +kernel
theorem dL_law_144 : decode cL_law 144 = .ok (.aload_n 0, 1) := by decide +kernel
theorem dL_law_145 : decode cL_law 145 = .ok (.iconst 2, 1) := by decide +kernel
theorem dL_law_146 : decode cL_law 146 = .ok (.iload_n 3, 1) := by decide +kernel
theorem dL_law_147 : decode cL_law 147 = .ok (.imul, 1) := by decide +kernel
theorem dL_law_148 : decode cL_law 148 = .ok (.invokestatic 130, 3) := by decide +kernel
theorem dL_law_151 : decode cL_law 151 = .ok (.aload_n 0, 1) := by decide +kernel
theorem dL_law_152 : decode cL_law 152 = .ok (.iconst 2, 1) := by decide +kernel
theorem dL_law_153 : decode cL_law 153 = .ok (.iload_n 3, 1) := by decide +kernel
theorem dL_law_154 : decode cL_law 154 = .ok (.imul, 1) := by decide +kernel
theorem dL_law_155 : decode cL_law 155 = .ok (.iconst 1, 1) := by decide +kernel
theorem dL_law_156 : decode cL_law 156 = .ok (.iadd, 1) := by decide +kernel
theorem dL_law_157 : decode cL_law 157 = .ok (.invokestatic 130, 3) := by decide +kernel
theorem dL_law_160 : decode cL_law 160 = .ok (.invokestatic 138, 3) := by decide +kernel
theorem dL_law_163 : decode cL_law 163 = .ok (.ifCond .eq 14, 3) := by decide +kernel
theorem dL_law_166 : decode cL_law 166 = .ok (.aload_n 1, 1) := by decide +kernel
theorem dL_law_167 : decode cL_law 167 = .ok (.invokestatic 126, 3) := by decide +kernel
theorem dL_law_170 : decode cL_law 170 = .ok (.ifCond .eq 7, 3) := by decide +kernel
theorem dL_law_173 : decode cL_law 173 = .ok (.iconst 1, 1) := by decide +kernel
theorem dL_law_174 : decode cL_law 174 = .ok (.goto 4, 3) := by decide +kernel
theorem dL_law_177 : decode cL_law 177 = .ok (.iconst 0, 1) := by decide +kernel
theorem dL_law_178 : decode cL_law 178 = .ok (.istore_n 2, 1) := by decide +kernel
theorem dL_law_179 : decode cL_law 179 = .ok (.iinc 3 1, 3) := by decide +kernel
theorem dL_law_182 : decode cL_law 182 = .ok (.goto (-49), 3) := by decide +kernel
theorem dL_law_185 : decode cL_law 185 = .ok (.iload_n 2, 1) := by decide +kernel
theorem dL_law_186 : decode cL_law 186 = .ok (.ireturn, 1) := by decide +kernel
