theorem dX6_init_0 : decode cX6_init 0 = .ok (.aload_n 0, 1) := by decide +kernel
theorem dX6_init_1 : decode cX6_init 1 = .ok (.invokespecial 1, 3) := by decide +kernel
theorem dX6_init_4 : decode cX6_init 4 = .ok (.aload_n 0, 1) := by decide +kernel
theorem dX6_init_5 : decode cX6_init 5 = .ok (.sipush 311, 3) := by decide +kernel
theorem dX6_init_8 : decode cX6_init 8 = .ok (.newarray .int, 2) := by decide +kernel
theorem dX6_init_10 : decode cX6_init 10 = .ok (.putfield 7, 3) := by decide +kernel
theorem dX6_init_13 : decode cX6_init 13 = .ok (.aload_n 0, 1) := by decide +kernel
theorem dX6_init_14 : decode cX6_init 14 = .ok (.sipush 311, 3) := by decide +kernel
theorem dX6_init_17 : decode cX6_init 17 = .ok (.newarray .int, 2) := by decide +kernel
theorem dX6_init_19 : decode cX6_init 19 = .ok (.putfield 13, 3) := by decide +kernel
theorem dX6_init_22 : decode cX6_init 22 = .ok (.aload_n 0, 1) := by decide +kernel
theorem dX6_init_23 : decode cX6_init 23 = .ok (.sipush 311, 3) := by decide +kernel
theorem dX6_init_26 : decode cX6_init 26 = .ok (.newarray .int, 2) := by decide +kernel
theorem dX6_init_28 : decode cX6_init 28 = .ok (.putfield 16, 3) := by decide +kernel
theorem dX6_init_31 : decode cX6_init 31 = .ok (.aload_n 0, 1) := by decide +kernel
theorem dX6_init_32 : decode cX6_init 32 = .ok (.sipush 1244, 3) := by decide +kernel
theorem dX6_init_35 : decode cX6_init 35 = .ok (.newarray .int, 2) := by decide +kernel
theorem dX6_init_37 : decode cX6_init 37 = .ok (.putfield 19, 3) := by decide +kernel
theorem dX6_init_40 : decode cX6_init 40 = .ok (.aload_n 0, 1) := by decide +kernel
theorem dX6_init_41 : decode cX6_init 41 = .ok (.bipush 100, 2) := by decide +kernel
theorem dX6_init_43 : decode cX6_init 43 = .ok (.newarray .int, 2) := by decide +kernel
theorem dX6_init_45 : decode cX6_init 45 = .ok (.putfield 22, 3) := by decide +kernel
theorem dX6_init_48 : decode cX6_init 48 = .ok (.aload_n 0, 1) := by decide +kernel
theorem dX6_init_49 : decode cX6_init 49 = .ok (.iconst 4, 1) := by decide +kernel
theorem dX6_init_50 : decode cX6_init 50 = .ok (.newarray .int, 2) := by decide +kernel
theorem dX6_init_52 : decode cX6_init 52 = .ok (.putfield 25, 3) := by decide +kernel
theorem dX6_init_55 : decode cX6_init 55 = .ok (.aload_n 0, 1) := by decide +kernel
theorem dX6_init_56 : decode cX6_init 56 = .ok (.iconst 4, 1) := by decide +kernel
theorem dX6_init_57 : decode cX6_init 57 = .ok (.newarray .int, 2) := by decide +kernel
theorem dX6_init_59 : decode cX6_init 59 = .ok (.putfield 28, 3) := by decide +kernel
theorem dX6_init_62 : decode cX6_init 62 = .ok (.aload_n 0, 1) := by decide +kernel
theorem dX6_init_63 : decode cX6_init 63 = .ok (.sipush 401, 3) := by decide +kernel
theorem dX6_init_66 : decode cX6_init 66 = .ok (.newarray .boolean, 2) := by decide +kernel
theorem dX6_init_68 : decode cX6_init 68 = .ok (.putfield 31, 3) := by decide +kernel
theorem dX6_init_71 : decode cX6_init 71 = .ok (.aload_n 0, 1) := by decide +kernel
theorem dX6_init_72 : decode cX6_init 72 = .ok (.sipush 311, 3) := by decide +kernel
theorem dX6_init_75 : decode cX6_init 75 = .ok (.newarray .int, 2) := by decide +kernel
theorem dX6_init_77 : decode cX6_init 77 = .ok (.putfield 35, 3) := by decide +kernel
theorem dX6_init_80 : decode cX6_init 80 = .ok (.aload_n 0, 1) := by decide +kernel
theorem dX6_init_81 : decode cX6_init 81 = .ok (.getfield 7, 3) := by decide +kernel
theorem dX6_init_84 : decode cX6_init 84 = .ok (.iconst 0, 1) := by decide +kernel
theorem dX6_init_85 : decode cX6_init 85 = .ok (.bipush 20, 2) := by decide +kernel
theorem dX6_init_87 : decode cX6_init 87 = .ok (.iastore, 1) := by decide +kernel
theorem dX6_init_88 : decode cX6_init 88 = .ok (.aload_n 0, 1) := by decide +kernel
theorem dX6_init_89 : decode cX6_init 89 = .ok (.getfield 7, 3) := by decide +kernel
theorem dX6_init_92 : decode cX6_init 92 = .ok (.iconst 1, 1) := by decide +kernel
theorem dX6_init_93 : decode cX6_init 93 = .ok (.iconst 5, 1) := by decide +kernel
theorem dX6_init_94 : decode cX6_init 94 = .ok (.iastore, 1) := by decide +kernel
theorem dX6_init_95 : decode cX6_init 95 = .ok (.aload_n 0, 1) := by decide +kernel
theorem dX6_init_96 : decode cX6_init 96 = .ok (.getfield 7, 3) := by decide +kernel
theorem dX6_init_99 : decode cX6_init 99 = .ok (.iconst 2, 1) := by decide +kernel
theorem dX6_init_100 : decode cX6_init 100 = .ok (.bipush 50, 2) := by decide +kernel
theorem dX6_init_102 : decode cX6_init 102 = .ok (.iastore, 1) := by decide +kernel
theorem dX6_init_103 : decode cX6_init 103 = .ok (.aload_n 0, 1) := by decide +kernel
theorem dX6_init_104 : decode cX6_init 104 = .ok (.getfield 7, 3) := by decide +kernel
theorem dX6_init_107 : decode cX6_init 107 = .ok (.iconst 3, 1) := by decide +kernel
theorem dX6_init_108 : decode cX6_init 108 = .ok (.bipush 100, 2) := by decide +kernel
theorem dX6_init_110 : decode cX6_init 110 = .ok (.iastore, 1) := by decide +kernel
theorem dX6_init_111 : decode cX6_init 111 = .ok (.aload_n 0, 1) := by decide +kernel
theorem dX6_init_112 : decode cX6_init 112 = .ok (.getfield 7, 3) := by decide +kernel
theorem dX6_init_115 : decode cX6_init 115 = .ok (.iconst 4, 1) := by decide +kernel
theorem dX6_init_116 : decode cX6_init 116 = .ok (.bipush 10, 2) := by decide +kernel
theorem dX6_init_118 : decode cX6_init 118 = .ok (.iastore, 1) := by decide +kernel
theorem dX6_init_119 : decode cX6_init 119 = .ok (.iconst 0, 1) := by decide +kernel
theorem dX6_init_120 : decode cX6_init 120 = .ok (.istore_n 1, 1) := by decide +kernel
theorem dX6_init_121 : decode cX6_init 121 = .ok (.iload_n 1, 1) := by decide +kernel
theorem dX6_init_122 : decode cX6_init 122 = .ok (.iconst 4, 1) := by decide +kernel
theorem dX6_init_123 : decode cX6_init 123 = .ok (.if_icmp .ge 18, 3) := by decide +kernel
theorem dX6_init_126 : decode cX6_init 126 = .ok (.aload_n 0, 1) := by decide +kernel
theorem dX6_init_127 : decode cX6_init 127 = .ok (.getfield 7, 3) := by decide +kernel
theorem dX6_init_130 : decode cX6_init 130 = .ok (.iconst 5, 1) := by decide +kernel
theorem dX6_init_131 : decode cX6_init 131 = .ok (.iload_n 1, 1) := by decide +kernel
theorem dX6_init_132 : decode cX6_init 132 = .ok (.iadd, 1) := by decide +kernel
theorem dX6_init_133 : decode cX6_init 133 = .ok (.iconst 5, 1) := by decide +kernel
theorem dX6_init_134 : decode cX6_init 134 = .ok (.iastore, 1) := by decide +kernel
theorem dX6_init_135 : decode cX6_init 135 = .ok (.iinc 1 1, 3) := by decide +kernel
theorem dX6_init_138 : decode cX6_init 138 = .ok (.goto (-17), 3) := by decide +kernel
theorem dX6_init_141 : decode cX6_init 141 = .ok (.return_, 1) := by decide +kernel
theorem dX6_thrown_0 : decode cX6_thrown 0 = .ok (.aload_n 0, 1) := by decide +kernel
theorem dX6_thrown_1 : decode cX6_thrown 1 = .ok (.getfield 38, 3) := by decide +kernel
theorem dX6_thrown_4 : decode cX6_thrown 4 = .ok (.ireturn, 1) := by decide +kernel
theorem dX6_in_0 : decode cX6_in 0 = .ok (.iload_n 0, 1) := by decide +kernel
theorem dX6_in_1 : decode cX6_in 1 = .ok (.iload_n 1, 1) := by decide +kernel
theorem dX6_in_2 : decode cX6_in 2 = .ok (.if_icmp .lt 12, 3) := by decide +kernel
theorem dX6_in_5 : decode cX6_in 5 = .ok (.iload_n 0, 1) := by decide +kernel
theorem dX6_in_6 : decode cX6_in 6 = .ok (.iload_n 2, 1) := by decide +kernel
theorem dX6_in_7 : decode cX6_in 7 = .ok (.if_icmp .gt 7, 3) := by decide +kernel
theorem dX6_in_10 : decode cX6_in 10 = .ok (.iconst 1, 1) := by decide +kernel
theorem dX6_in_11 : decode cX6_in 11 = .ok (.goto 4, 3) := by decide +kernel
theorem dX6_in_14 : decode cX6_in 14 = .ok (.iconst 0, 1) := by decide +kernel
theorem dX6_in_15 : decode cX6_in 15 = .ok (.ireturn, 1) := by decide +kernel
theorem dX6_real_0 : decode cX6_real 0 = .ok (.iload_n 0, 1) := by decide +kernel
theorem dX6_real_1 : decode cX6_real 1 = .ok (.invokestatic 42, 3) := by decide +kernel
theorem dX6_real_4 : decode cX6_real 4 = .ok (.freturn, 1) := by decide +kernel
theorem dX6_bits_0 : decode cX6_bits 0 = .ok (.fload_n 0, 1) := by decide +kernel
theorem dX6_bits_1 : decode cX6_bits 1 = .ok (.invokestatic 48, 3) := by decide +kernel
theorem dX6_bits_4 : decode cX6_bits 4 = .ok (.ireturn, 1) := by decide +kernel
theorem dX6_bring_0 : decode cX6_bring 0 = .ok (.iconst 0, 1) := by decide +kernel
theorem dX6_bring_1 : decode cX6_bring 1 = .ok (.istore 4, 2) := by decide +kernel
theorem dX6_bring_3 : decode cX6_bring 3 = .ok (.iload 4, 2) := by decide +kernel
theorem dX6_bring_5 : decode cX6_bring 5 = .ok (.sipush 311, 3) := by decide +kernel
theorem dX6_bring_8 : decode cX6_bring 8 = .ok (.if_icmp .ge 21, 3) := by decide +kernel
theorem dX6_bring_11 : decode cX6_bring 11 = .ok (.aload_n 2, 1) := by decide +kernel
theorem dX6_bring_12 : decode cX6_bring 12 = .ok (.iload_n 3, 1) := by decide +kernel
theorem dX6_bring_13 : decode cX6_bring 13 = .ok (.iload 4, 2) := by decide +kernel
theorem dX6_bring_15 : decode cX6_bring 15 = .ok (.iadd, 1) := by decide +kernel
theorem dX6_bring_16 : decode cX6_bring 16 = .ok (.aload_n 0, 1) := by decide +kernel
theorem dX6_bring_17 : decode cX6_bring 17 = .ok (.iload_n 1, 1) := by decide +kernel
theorem dX6_bring_18 : decode cX6_bring 18 = .ok (.iload 4, 2) := by decide +kernel
theorem dX6_bring_20 : decode cX6_bring 20 = .ok (.iadd, 1) := by decide +kernel
theorem dX6_bring_21 : decode cX6_bring 21 = .ok (.iaload, 1) := by decide +kernel
theorem dX6_bring_22 : decode cX6_bring 22 = .ok (.iastore, 1) := by decide +kernel
theorem dX6_bring_23 : decode cX6_bring 23 = .ok (.iinc 4 1, 3) := by decide +kernel
theorem dX6_bring_26 : decode cX6_bring 26 = .ok (.goto (-23), 3) := by decide +kernel
theorem dX6_bring_29 : decode cX6_bring 29 = .ok (.return_, 1) := by decide +kernel
theorem dX6_hold_0 : decode cX6_hold 0 = .ok (.aload_n 0, 1) := by decide +kernel
theorem dX6_hold_1 : decode cX6_hold 1 = .ok (.iconst 0, 1) := by decide +kernel
theorem dX6_hold_2 : decode cX6_hold 2 = .ok (.putfield 52, 3) := by decide +kernel
theorem dX6_hold_5 : decode cX6_hold 5 = .ok (.aload_n 0, 1) := by decide +kernel
theorem dX6_hold_6 : decode cX6_hold 6 = .ok (.getfield 7, 3) := by decide +kernel
theorem dX6_hold_9 : decode cX6_hold 9 = .ok (.iconst 0, 1) := by decide +kernel
theorem dX6_hold_10 : decode cX6_hold 10 = .ok (.aload_n 0, 1) := by decide +kernel
theorem dX6_hold_11 : decode cX6_hold 11 = .ok (.getfield 13, 3) := by decide +kernel
theorem dX6_hold_14 : decode cX6_hold 14 = .ok (.iconst 0, 1) := by decide +kernel
theorem dX6_hold_15 : decode cX6_hold 15 = .ok (.invokestatic 55, 3) := by decide +kernel
theorem dX6_hold_18 : decode cX6_hold 18 = .ok (.return_, 1) := by decide +kernel
theorem dX6_ends_0 : decode cX6_ends 0 = .ok (.aload_n 0, 1) := by decide +kernel
theorem dX6_ends_1 : decode cX6_ends 1 = .ok (.aload_n 0, 1) := by decide +kernel
theorem dX6_ends_2 : decode cX6_ends 2 = .ok (.getfield 52, 3) := by decide +kernel
theorem dX6_ends_5 : decode cX6_ends 5 = .ok (.putfield 38, 3) := by decide +kernel
theorem dX6_ends_8 : decode cX6_ends 8 = .ok (.aload_n 0, 1) := by decide +kernel
theorem dX6_ends_9 : decode cX6_ends 9 = .ok (.getfield 52, 3) := by decide +kernel
theorem dX6_ends_12 : decode cX6_ends 12 = .ok (.ifCond .eq 5, 3) := by decide +kernel
theorem dX6_ends_15 : decode cX6_ends 15 = .ok (.iconst 0, 1) := by decide +kernel
theorem dX6_ends_16 : decode cX6_ends 16 = .ok (.ireturn, 1) := by decide +kernel
theorem dX6_ends_17 : decode cX6_ends 17 = .ok (.aload_n 0, 1) := by decide +kernel
theorem dX6_ends_18 : decode cX6_ends 18 = .ok (.getfield 59, 3) := by decide +kernel
theorem dX6_ends_21 : decode cX6_ends 21 = .ok (.iconst 4, 1) := by decide +kernel
theorem dX6_ends_22 : decode cX6_ends 22 = .ok (.if_icmp .ne 44, 3) := by decide +kernel
theorem dX6_ends_25 : decode cX6_ends 25 = .ok (.iconst 0, 1) := by decide +kernel
theorem dX6_ends_26 : decode cX6_ends 26 = .ok (.istore_n 2, 1) := by decide +kernel
theorem dX6_ends_27 : decode cX6_ends 27 = .ok (.iload_n 2, 1) := by decide +kernel
theorem dX6_ends_28 : decode cX6_ends 28 = .ok (.sipush 933, 3) := by decide +kernel
theorem dX6_ends_31 : decode cX6_ends 31 = .ok (.if_icmp .ge 25, 3) := by decide +kernel
theorem dX6_ends_34 : decode cX6_ends 34 = .ok (.aload_n 0, 1) := by decide +kernel
theorem dX6_ends_35 : decode cX6_ends 35 = .ok (.getfield 19, 3) := by decide +kernel
theorem dX6_ends_38 : decode cX6_ends 38 = .ok (.iload_n 2, 1) := by decide +kernel
theorem dX6_ends_39 : decode cX6_ends 39 = .ok (.aload_n 0, 1) := by decide +kernel
theorem dX6_ends_40 : decode cX6_ends 40 = .ok (.getfield 19, 3) := by decide +kernel
theorem dX6_ends_43 : decode cX6_ends 43 = .ok (.iload_n 2, 1) := by decide +kernel
theorem dX6_ends_44 : decode cX6_ends 44 = .ok (.sipush 311, 3) := by decide +kernel
theorem dX6_ends_47 : decode cX6_ends 47 = .ok (.iadd, 1) := by decide +kernel
theorem dX6_ends_48 : decode cX6_ends 48 = .ok (.iaload, 1) := by decide +kernel
theorem dX6_ends_49 : decode cX6_ends 49 = .ok (.iastore, 1) := by decide +kernel
theorem dX6_ends_50 : decode cX6_ends 50 = .ok (.iinc 2 1, 3) := by decide +kernel
theorem dX6_ends_53 : decode cX6_ends 53 = .ok (.goto (-26), 3) := by decide +kernel
theorem dX6_ends_56 : decode cX6_ends 56 = .ok (.aload_n 0, 1) := by decide +kernel
theorem dX6_ends_57 : decode cX6_ends 57 = .ok (.dup, 1) := by decide +kernel
theorem dX6_ends_58 : decode cX6_ends 58 = .ok (.getfield 59, 3) := by decide +kernel
theorem dX6_ends_61 : decode cX6_ends 61 = .ok (.iconst 1, 1) := by decide +kernel
theorem dX6_ends_62 : decode cX6_ends 62 = .ok (.isub, 1) := by decide +kernel
theorem dX6_ends_63 : decode cX6_ends 63 = .ok (.putfield 59, 3) := by decide +kernel
theorem dX6_ends_66 : decode cX6_ends 66 = .ok (.aload_n 0, 1) := by decide +kernel
theorem dX6_ends_67 : decode cX6_ends 67 = .ok (.getfield 13, 3) := by decide +kernel
theorem dX6_ends_70 : decode cX6_ends 70 = .ok (.iconst 0, 1) := by decide +kernel
theorem dX6_ends_71 : decode cX6_ends 71 = .ok (.aload_n 0, 1) := by decide +kernel
theorem dX6_ends_72 : decode cX6_ends 72 = .ok (.getfield 19, 3) := by decide +kernel
theorem dX6_ends_75 : decode cX6_ends 75 = .ok (.sipush 311, 3) := by decide +kernel
theorem dX6_ends_78 : decode cX6_ends 78 = .ok (.aload_n 0, 1) := by decide +kernel
theorem dX6_ends_79 : decode cX6_ends 79 = .ok (.getfield 59, 3) := by decide +kernel
theorem dX6_ends_82 : decode cX6_ends 82 = .ok (.imul, 1) := by decide +kernel
theorem dX6_ends_83 : decode cX6_ends 83 = .ok (.invokestatic 55, 3) := by decide +kernel
theorem dX6_ends_86 : decode cX6_ends 86 = .ok (.aload_n 0, 1) := by decide +kernel
theorem dX6_ends_87 : decode cX6_ends 87 = .ok (.dup, 1) := by decide +kernel
theorem dX6_ends_88 : decode cX6_ends 88 = .ok (.getfield 59, 3) := by decide +kernel
theorem dX6_ends_91 : decode cX6_ends 91 = .ok (.iconst 1, 1) := by decide +kernel
theorem dX6_ends_92 : decode cX6_ends 92 = .ok (.iadd, 1) := by decide +kernel
theorem dX6_ends_93 : decode cX6_ends 93 = .ok (.putfield 59, 3) := by decide +kernel
theorem dX6_ends_96 : decode cX6_ends 96 = .ok (.iload_n 1, 1) := by decide +kernel
theorem dX6_ends_97 : decode cX6_ends 97 = .ok (.ireturn, 1) := by decide +kernel
theorem dX6_refuse_0 : decode cX6_refuse 0 = .ok (.aload_n 0, 1) := by decide +kernel
theorem dX6_refuse_1 : decode cX6_refuse 1 = .ok (.iload_n 1, 1) := by decide +kernel
theorem dX6_refuse_2 : decode cX6_refuse 2 = .ok (.putfield 52, 3) := by decide +kernel
theorem dX6_refuse_5 : decode cX6_refuse 5 = .ok (.iconst 0, 1) := by decide +kernel
theorem dX6_refuse_6 : decode cX6_refuse 6 = .ok (.ireturn, 1) := by decide +kernel
theorem dX6_fails_0 : decode cX6_fails 0 = .ok (.aload_n 0, 1) := by decide +kernel
theorem dX6_fails_1 : decode cX6_fails 1 = .ok (.iload_n 1, 1) := by decide +kernel
theorem dX6_fails_2 : decode cX6_fails 2 = .ok (.putfield 38, 3) := by decide +kernel
theorem dX6_fails_5 : decode cX6_fails 5 = .ok (.iconst 0, 1) := by decide +kernel
theorem dX6_fails_6 : decode cX6_fails 6 = .ok (.ireturn, 1) := by decide +kernel
theorem dX6_isCoil_0 : decode cX6_isCoil 0 = .ok (.iload_n 1, 1) := by decide +kernel
theorem dX6_isCoil_1 : decode cX6_isCoil 1 = .ok (.iconst 0, 1) := by decide +kernel
theorem dX6_isCoil_2 : decode cX6_isCoil 2 = .ok (.aload_n 0, 1) := by decide +kernel
theorem dX6_isCoil_3 : decode cX6_isCoil 3 = .ok (.getfield 7, 3) := by decide +kernel
theorem dX6_isCoil_6 : decode cX6_isCoil 6 = .ok (.bipush 13, 2) := by decide +kernel
theorem dX6_isCoil_8 : decode cX6_isCoil 8 = .ok (.iaload, 1) := by decide +kernel
theorem dX6_isCoil_9 : decode cX6_isCoil 9 = .ok (.iconst 1, 1) := by decide +kernel
theorem dX6_isCoil_10 : decode cX6_isCoil 10 = .ok (.isub, 1) := by decide +kernel
theorem dX6_isCoil_11 : decode cX6_isCoil 11 = .ok (.invokestatic 62, 3) := by decide +kernel
theorem dX6_isCoil_14 : decode cX6_isCoil 14 = .ok (.ireturn, 1) := by decide +kernel
theorem dX6_of_0 : decode cX6_of 0 = .ok (.aload_n 0, 1) := by decide +kernel
theorem dX6_of_1 : decode cX6_of 1 = .ok (.getfield 7, 3) := by decide +kernel
theorem dX6_of_4 : decode cX6_of 4 = .ok (.bipush 15, 2) := by decide +kernel
theorem dX6_of_6 : decode cX6_of 6 = .ok (.bipush 12, 2) := by decide +kernel
theorem dX6_of_8 : decode cX6_of 8 = .ok (.iload_n 1, 1) := by decide +kernel
theorem dX6_of_9 : decode cX6_of 9 = .ok (.imul, 1) := by decide +kernel
theorem dX6_of_10 : decode cX6_of 10 = .ok (.iadd, 1) := by decide +kernel
theorem dX6_of_11 : decode cX6_of 11 = .ok (.iload_n 2, 1) := by decide +kernel
theorem dX6_of_12 : decode cX6_of 12 = .ok (.iadd, 1) := by decide +kernel
theorem dX6_of_13 : decode cX6_of 13 = .ok (.iaload, 1) := by decide +kernel
theorem dX6_of_14 : decode cX6_of 14 = .ok (.ireturn, 1) := by decide +kernel
theorem dX6_lay_0 : decode cX6_lay 0 = .ok (.aload_n 0, 1) := by decide +kernel
theorem dX6_lay_1 : decode cX6_lay 1 = .ok (.getfield 7, 3) := by decide +kernel
theorem dX6_lay_4 : decode cX6_lay 4 = .ok (.bipush 15, 2) := by decide +kernel
theorem dX6_lay_6 : decode cX6_lay 6 = .ok (.bipush 12, 2) := by decide +kernel
theorem dX6_lay_8 : decode cX6_lay 8 = .ok (.iload_n 1, 1) := by decide +kernel
theorem dX6_lay_9 : decode cX6_lay 9 = .ok (.imul, 1) := by decide +kernel
theorem dX6_lay_10 : decode cX6_lay 10 = .ok (.iadd, 1) := by decide +kernel
theorem dX6_lay_11 : decode cX6_lay 11 = .ok (.iload_n 2, 1) := by decide +kernel
theorem dX6_lay_12 : decode cX6_lay 12 = .ok (.iadd, 1) := by decide +kernel
theorem dX6_lay_13 : decode cX6_lay 13 = .ok (.iload_n 3, 1) := by decide +kernel
theorem dX6_lay_14 : decode cX6_lay 14 = .ok (.iastore, 1) := by decide +kernel
theorem dX6_lay_15 : decode cX6_lay 15 = .ok (.return_, 1) := by decide +kernel
theorem dX6_worth_0 : decode cX6_worth 0 = .ok (.iload_n 0, 1) := by decide +kernel
theorem dX6_worth_1 : decode cX6_worth 1 = .ok (.ifCond .ne 7, 3) := by decide +kernel
theorem dX6_worth_4 : decode cX6_worth 4 = .ok (.iconst 5, 1) := by decide +kernel
theorem dX6_worth_5 : decode cX6_worth 5 = .ok (.goto 25, 3) := by decide +kernel
theorem dX6_worth_8 : decode cX6_worth 8 = .ok (.iload_n 0, 1) := by decide +kernel
theorem dX6_worth_9 : decode cX6_worth 9 = .ok (.iconst 1, 1) := by decide +kernel
theorem dX6_worth_10 : decode cX6_worth 10 = .ok (.if_icmp .ne 8, 3) := by decide +kernel
theorem dX6_worth_13 : decode cX6_worth 13 = .ok (.bipush 10, 2) := by decide +kernel
theorem dX6_worth_15 : decode cX6_worth 15 = .ok (.goto 15, 3) := by decide +kernel
theorem dX6_worth_18 : decode cX6_worth 18 = .ok (.iload_n 0, 1) := by decide +kernel
theorem dX6_worth_19 : decode cX6_worth 19 = .ok (.iconst 2, 1) := by decide +kernel
theorem dX6_worth_20 : decode cX6_worth 20 = .ok (.if_icmp .ne 8, 3) := by decide +kernel
theorem dX6_worth_23 : decode cX6_worth 23 = .ok (.bipush 20, 2) := by decide +kernel
theorem dX6_worth_25 : decode cX6_worth 25 = .ok (.goto 5, 3) := by decide +kernel
theorem dX6_worth_28 : decode cX6_worth 28 = .ok (.bipush 50, 2) := by decide +kernel
theorem dX6_worth_30 : decode cX6_worth 30 = .ok (.ireturn, 1) := by decide +kernel
theorem dX6_pays_0 : decode cX6_pays 0 = .ok (.iconst (-1), 1) := by decide +kernel
theorem dX6_pays_1 : decode cX6_pays 1 = .ok (.istore 4, 2) := by decide +kernel
theorem dX6_pays_3 : decode cX6_pays 3 = .ok (.aload_n 0, 1) := by decide +kernel
theorem dX6_pays_4 : decode cX6_pays 4 = .ok (.getfield 7, 3) := by decide +kernel
theorem dX6_pays_7 : decode cX6_pays 7 = .ok (.iconst 5, 1) := by decide +kernel
theorem dX6_pays_8 : decode cX6_pays 8 = .ok (.iaload, 1) := by decide +kernel
theorem dX6_pays_9 : decode cX6_pays 9 = .ok (.iload_n 2, 1) := by decide +kernel
theorem dX6_pays_10 : decode cX6_pays 10 = .ok (.ifCond .ne 7, 3) := by decide +kernel
theorem dX6_pays_13 : decode cX6_pays 13 = .ok (.iload_n 3, 1) := by decide +kernel
theorem dX6_pays_14 : decode cX6_pays 14 = .ok (.goto 4, 3) := by decide +kernel
theorem dX6_pays_17 : decode cX6_pays 17 = .ok (.iconst 0, 1) := by decide +kernel
theorem dX6_pays_18 : decode cX6_pays 18 = .ok (.iadd, 1) := by decide +kernel
theorem dX6_pays_19 : decode cX6_pays 19 = .ok (.istore 5, 2) := by decide +kernel
theorem dX6_pays_21 : decode cX6_pays 21 = .ok (.aload_n 0, 1) := by decide +kernel
theorem dX6_pays_22 : decode cX6_pays 22 = .ok (.getfield 7, 3) := by decide +kernel
theorem dX6_pays_25 : decode cX6_pays 25 = .ok (.bipush 6, 2) := by decide +kernel
theorem dX6_pays_27 : decode cX6_pays 27 = .ok (.iaload, 1) := by decide +kernel
theorem dX6_pays_28 : decode cX6_pays 28 = .ok (.iload_n 2, 1) := by decide +kernel
theorem dX6_pays_29 : decode cX6_pays 29 = .ok (.iconst 1, 1) := by decide +kernel
theorem dX6_pays_30 : decode cX6_pays 30 = .ok (.if_icmp .ne 7, 3) := by decide +kernel
theorem dX6_pays_33 : decode cX6_pays 33 = .ok (.iload_n 3, 1) := by decide +kernel
theorem dX6_pays_34 : decode cX6_pays 34 = .ok (.goto 4, 3) := by decide +kernel
theorem dX6_pays_37 : decode cX6_pays 37 = .ok (.iconst 0, 1) := by decide +kernel
theorem dX6_pays_38 : decode cX6_pays 38 = .ok (.iadd, 1) := by decide +kernel
theorem dX6_pays_39 : decode cX6_pays 39 = .ok (.istore 6, 2) := by decide +kernel
theorem dX6_pays_41 : decode cX6_pays 41 = .ok (.aload_n 0, 1) := by decide +kernel
theorem dX6_pays_42 : decode cX6_pays 42 = .ok (.getfield 7, 3) := by decide +kernel
theorem dX6_pays_45 : decode cX6_pays 45 = .ok (.bipush 7, 2) := by decide +kernel
theorem dX6_pays_47 : decode cX6_pays 47 = .ok (.iaload, 1) := by decide +kernel
theorem dX6_pays_48 : decode cX6_pays 48 = .ok (.iload_n 2, 1) := by decide +kernel
theorem dX6_pays_49 : decode cX6_pays 49 = .ok (.iconst 2, 1) := by decide +kernel
theorem dX6_pays_50 : decode cX6_pays 50 = .ok (.if_icmp .ne 7, 3) := by decide +kernel
theorem dX6_pays_53 : decode cX6_pays 53 = .ok (.iload_n 3, 1) := by decide +kernel
theorem dX6_pays_54 : decode cX6_pays 54 = .ok (.goto 4, 3) := by decide +kernel
theorem dX6_pays_57 : decode cX6_pays 57 = .ok (.iconst 0, 1) := by decide +kernel
theorem dX6_pays_58 : decode cX6_pays 58 = .ok (.iadd, 1) := by decide +kernel
theorem dX6_pays_59 : decode cX6_pays 59 = .ok (.istore 7, 2) := by decide +kernel
theorem dX6_pays_61 : decode cX6_pays 61 = .ok (.aload_n 0, 1) := by decide +kernel
theorem dX6_pays_62 : decode cX6_pays 62 = .ok (.getfield 7, 3) := by decide +kernel
theorem dX6_pays_65 : decode cX6_pays 65 = .ok (.bipush 8, 2) := by decide +kernel
theorem dX6_pays_67 : decode cX6_pays 67 = .ok (.iaload, 1) := by decide +kernel
theorem dX6_pays_68 : decode cX6_pays 68 = .ok (.iload_n 2, 1) := by decide +kernel
theorem dX6_pays_69 : decode cX6_pays 69 = .ok (.iconst 3, 1) := by decide +kernel
theorem dX6_pays_70 : decode cX6_pays 70 = .ok (.if_icmp .ne 7, 3) := by decide +kernel
theorem dX6_pays_73 : decode cX6_pays 73 = .ok (.iload_n 3, 1) := by decide +kernel
theorem dX6_pays_74 : decode cX6_pays 74 = .ok (.goto 4, 3) := by decide +kernel
theorem dX6_pays_77 : decode cX6_pays 77 = .ok (.iconst 0, 1) := by decide +kernel
theorem dX6_pays_78 : decode cX6_pays 78 = .ok (.iadd, 1) := by decide +kernel
theorem dX6_pays_79 : decode cX6_pays 79 = .ok (.istore 8, 2) := by decide +kernel
theorem dX6_pays_81 : decode cX6_pays 81 = .ok (.iload 8, 2) := by decide +kernel
theorem dX6_pays_83 : decode cX6_pays 83 = .ok (.istore 9, 2) := by decide +kernel
theorem dX6_pays_85 : decode cX6_pays 85 = .ok (.iload 9, 2) := by decide +kernel
theorem dX6_pays_87 : decode cX6_pays 87 = .ok (.ifCond .lt 166, 3) := by decide +kernel
theorem dX6_pays_90 : decode cX6_pays 90 = .ok (.iload 7, 2) := by decide +kernel
theorem dX6_pays_92 : decode cX6_pays 92 = .ok (.istore 10, 2) := by decide +kernel
theorem dX6_pays_94 : decode cX6_pays 94 = .ok (.iload 10, 2) := by decide +kernel
theorem dX6_pays_96 : decode cX6_pays 96 = .ok (.ifCond .lt 151, 3) := by decide +kernel
theorem dX6_pays_99 : decode cX6_pays 99 = .ok (.iload_n 1, 1) := by decide +kernel
theorem dX6_pays_100 : decode cX6_pays 100 = .ok (.bipush 50, 2) := by decide +kernel
theorem dX6_pays_102 : decode cX6_pays 102 = .ok (.iload 9, 2) := by decide +kernel
theorem dX6_pays_104 : decode cX6_pays 104 = .ok (.imul, 1) := by decide +kernel
theorem dX6_pays_105 : decode cX6_pays 105 = .ok (.isub, 1) := by decide +kernel
theorem dX6_pays_106 : decode cX6_pays 106 = .ok (.bipush 20, 2) := by decide +kernel
theorem dX6_pays_108 : decode cX6_pays 108 = .ok (.iload 10, 2) := by decide +kernel
theorem dX6_pays_110 : decode cX6_pays 110 = .ok (.imul, 1) := by decide +kernel
theorem dX6_pays_111 : decode cX6_pays 111 = .ok (.isub, 1) := by decide +kernel
theorem dX6_pays_112 : decode cX6_pays 112 = .ok (.istore 11, 2) := by decide +kernel
theorem dX6_pays_114 : decode cX6_pays 114 = .ok (.iload 11, 2) := by decide +kernel
theorem dX6_pays_116 : decode cX6_pays 116 = .ok (.ifCond .ge 7, 3) := by decide +kernel
theorem dX6_pays_119 : decode cX6_pays 119 = .ok (.iconst 0, 1) := by decide +kernel
theorem dX6_pays_120 : decode cX6_pays 120 = .ok (.goto 23, 3) := by decide +kernel
theorem dX6_pays_123 : decode cX6_pays 123 = .ok (.iload 11, 2) := by decide +kernel
theorem dX6_pays_125 : decode cX6_pays 125 = .ok (.bipush 10, 2) := by decide +kernel
theorem dX6_pays_127 : decode cX6_pays 127 = .ok (.idiv, 1) := by decide +kernel
theorem dX6_pays_128 : decode cX6_pays 128 = .ok (.iload 6, 2) := by decide +kernel
theorem dX6_pays_130 : decode cX6_pays 130 = .ok (.if_icmp .ge 11, 3) := by decide +kernel
theorem dX6_pays_133 : decode cX6_pays 133 = .ok (.iload 11, 2) := by decide +kernel
theorem dX6_pays_135 : decode cX6_pays 135 = .ok (.bipush 10, 2) := by decide +kernel
theorem dX6_pays_137 : decode cX6_pays 137 = .ok (.idiv, 1) := by decide +kernel
theorem dX6_pays_138 : decode cX6_pays 138 = .ok (.goto 5, 3) := by decide +kernel
theorem dX6_pays_141 : decode cX6_pays 141 = .ok (.iload 6, 2) := by decide +kernel
theorem dX6_pays_143 : decode cX6_pays 143 = .ok (.istore 12, 2) := by decide +kernel
theorem dX6_pays_145 : decode cX6_pays 145 = .ok (.iload 11, 2) := by decide +kernel
theorem dX6_pays_147 : decode cX6_pays 147 = .ok (.bipush 10, 2) := by decide +kernel
theorem dX6_pays_149 : decode cX6_pays 149 = .ok (.iload 12, 2) := by decide +kernel
theorem dX6_pays_151 : decode cX6_pays 151 = .ok (.imul, 1) := by decide +kernel
theorem dX6_pays_152 : decode cX6_pays 152 = .ok (.isub, 1) := by decide +kernel
theorem dX6_pays_153 : decode cX6_pays 153 = .ok (.istore 13, 2) := by decide +kernel
theorem dX6_pays_155 : decode cX6_pays 155 = .ok (.iload 9, 2) := by decide +kernel
theorem dX6_pays_157 : decode cX6_pays 157 = .ok (.iload 10, 2) := by decide +kernel
theorem dX6_pays_159 : decode cX6_pays 159 = .ok (.iadd, 1) := by decide +kernel
theorem dX6_pays_160 : decode cX6_pays 160 = .ok (.iload 12, 2) := by decide +kernel
theorem dX6_pays_162 : decode cX6_pays 162 = .ok (.iadd, 1) := by decide +kernel
theorem dX6_pays_163 : decode cX6_pays 163 = .ok (.iload 13, 2) := by decide +kernel
theorem dX6_pays_165 : decode cX6_pays 165 = .ok (.iconst 5, 1) := by decide +kernel
theorem dX6_pays_166 : decode cX6_pays 166 = .ok (.idiv, 1) := by decide +kernel
theorem dX6_pays_167 : decode cX6_pays 167 = .ok (.iadd, 1) := by decide +kernel
theorem dX6_pays_168 : decode cX6_pays 168 = .ok (.istore 14, 2) := by decide +kernel
theorem dX6_pays_170 : decode cX6_pays 170 = .ok (.iload 11, 2) := by decide +kernel
theorem dX6_pays_172 : decode cX6_pays 172 = .ok (.ifCond .lt 69, 3) := by decide +kernel
theorem dX6_pays_175 : decode cX6_pays 175 = .ok (.iload 13, 2) := by decide +kernel
theorem dX6_pays_177 : decode cX6_pays 177 = .ok (.iconst 5, 1) := by decide +kernel
theorem dX6_pays_178 : decode cX6_pays 178 = .ok (.irem, 1) := by decide +kernel
theorem dX6_pays_179 : decode cX6_pays 179 = .ok (.ifCond .ne 62, 3) := by decide +kernel
theorem dX6_pays_182 : decode cX6_pays 182 = .ok (.iload 13, 2) := by decide +kernel
theorem dX6_pays_184 : decode cX6_pays 184 = .ok (.iconst 5, 1) := by decide +kernel
theorem dX6_pays_185 : decode cX6_pays 185 = .ok (.idiv, 1) := by decide +kernel
theorem dX6_pays_186 : decode cX6_pays 186 = .ok (.iload 5, 2) := by decide +kernel
theorem dX6_pays_188 : decode cX6_pays 188 = .ok (.if_icmp .gt 53, 3) := by decide +kernel
theorem dX6_pays_191 : decode cX6_pays 191 = .ok (.iload 4, 2) := by decide +kernel
theorem dX6_pays_193 : decode cX6_pays 193 = .ok (.ifCond .lt 10, 3) := by decide +kernel
theorem dX6_pays_196 : decode cX6_pays 196 = .ok (.iload 14, 2) := by decide +kernel
theorem dX6_pays_198 : decode cX6_pays 198 = .ok (.iload 4, 2) := by decide +kernel
theorem dX6_pays_200 : decode cX6_pays 200 = .ok (.if_icmp .ge 41, 3) := by decide +kernel
theorem dX6_pays_203 : decode cX6_pays 203 = .ok (.iload 14, 2) := by decide +kernel
theorem dX6_pays_205 : decode cX6_pays 205 = .ok (.istore 4, 2) := by decide +kernel
theorem dX6_pays_207 : decode cX6_pays 207 = .ok (.aload_n 0, 1) := by decide +kernel
theorem dX6_pays_208 : decode cX6_pays 208 = .ok (.getfield 25, 3) := by decide +kernel
theorem dX6_pays_211 : decode cX6_pays 211 = .ok (.iconst 0, 1) := by decide +kernel
theorem dX6_pays_212 : decode cX6_pays 212 = .ok (.iload 13, 2) := by decide +kernel
theorem dX6_pays_214 : decode cX6_pays 214 = .ok (.iconst 5, 1) := by decide +kernel
theorem dX6_pays_215 : decode cX6_pays 215 = .ok (.idiv, 1) := by decide +kernel
theorem dX6_pays_216 : decode cX6_pays 216 = .ok (.iastore, 1) := by decide +kernel
theorem dX6_pays_217 : decode cX6_pays 217 = .ok (.aload_n 0, 1) := by decide +kernel
theorem dX6_pays_218 : decode cX6_pays 218 = .ok (.getfield 25, 3) := by decide +kernel
theorem dX6_pays_221 : decode cX6_pays 221 = .ok (.iconst 1, 1) := by decide +kernel
theorem dX6_pays_222 : decode cX6_pays 222 = .ok (.iload 12, 2) := by decide +kernel
theorem dX6_pays_224 : decode cX6_pays 224 = .ok (.iastore, 1) := by decide +kernel
theorem dX6_pays_225 : decode cX6_pays 225 = .ok (.aload_n 0, 1) := by decide +kernel
theorem dX6_pays_226 : decode cX6_pays 226 = .ok (.getfield 25, 3) := by decide +kernel
theorem dX6_pays_229 : decode cX6_pays 229 = .ok (.iconst 2, 1) := by decide +kernel
theorem dX6_pays_230 : decode cX6_pays 230 = .ok (.iload 10, 2) := by decide +kernel
theorem dX6_pays_232 : decode cX6_pays 232 = .ok (.iastore, 1) := by decide +kernel
theorem dX6_pays_233 : decode cX6_pays 233 = .ok (.aload_n 0, 1) := by decide +kernel
theorem dX6_pays_234 : decode cX6_pays 234 = .ok (.getfield 25, 3) := by decide +kernel
theorem dX6_pays_237 : decode cX6_pays 237 = .ok (.iconst 3, 1) := by decide +kernel
theorem dX6_pays_238 : decode cX6_pays 238 = .ok (.iload 9, 2) := by decide +kernel
theorem dX6_pays_240 : decode cX6_pays 240 = .ok (.iastore, 1) := by decide +kernel
theorem dX6_pays_241 : decode cX6_pays 241 = .ok (.iinc 10 (-1), 3) := by decide +kernel
theorem dX6_pays_244 : decode cX6_pays 244 = .ok (.goto (-150), 3) := by decide +kernel
theorem dX6_pays_247 : decode cX6_pays 247 = .ok (.iinc 9 (-1), 3) := by decide +kernel
theorem dX6_pays_250 : decode cX6_pays 250 = .ok (.goto (-165), 3) := by decide +kernel
theorem dX6_pays_253 : decode cX6_pays 253 = .ok (.iload 4, 2) := by decide +kernel
theorem dX6_pays_255 : decode cX6_pays 255 = .ok (.ifCond .lt 7, 3) := by decide +kernel
theorem dX6_pays_258 : decode cX6_pays 258 = .ok (.iconst 1, 1) := by decide +kernel
theorem dX6_pays_259 : decode cX6_pays 259 = .ok (.goto 4, 3) := by decide +kernel
theorem dX6_pays_262 : decode cX6_pays 262 = .ok (.iconst 0, 1) := by decide +kernel
theorem dX6_pays_263 : decode cX6_pays 263 = .ok (.ireturn, 1) := by decide +kernel
theorem dX6_takes_0 : decode cX6_takes 0 = .ok (.iconst 0, 1) := by decide +kernel
theorem dX6_takes_1 : decode cX6_takes 1 = .ok (.istore_n 1, 1) := by decide +kernel
theorem dX6_takes_2 : decode cX6_takes 2 = .ok (.iload_n 1, 1) := by decide +kernel
theorem dX6_takes_3 : decode cX6_takes 3 = .ok (.iconst 4, 1) := by decide +kernel
theorem dX6_takes_4 : decode cX6_takes 4 = .ok (.if_icmp .ge 26, 3) := by decide +kernel
theorem dX6_takes_7 : decode cX6_takes 7 = .ok (.aload_n 0, 1) := by decide +kernel
theorem dX6_takes_8 : decode cX6_takes 8 = .ok (.getfield 7, 3) := by decide +kernel
theorem dX6_takes_11 : decode cX6_takes 11 = .ok (.iconst 5, 1) := by decide +kernel
theorem dX6_takes_12 : decode cX6_takes 12 = .ok (.iload_n 1, 1) := by decide +kernel
theorem dX6_takes_13 : decode cX6_takes 13 = .ok (.iadd, 1) := by decide +kernel
theorem dX6_takes_14 : decode cX6_takes 14 = .ok (.dup2, 1) := by decide +kernel
theorem dX6_takes_15 : decode cX6_takes 15 = .ok (.iaload, 1) := by decide +kernel
theorem dX6_takes_16 : decode cX6_takes 16 = .ok (.aload_n 0, 1) := by decide +kernel
theorem dX6_takes_17 : decode cX6_takes 17 = .ok (.getfield 25, 3) := by decide +kernel
theorem dX6_takes_20 : decode cX6_takes 20 = .ok (.iload_n 1, 1) := by decide +kernel
theorem dX6_takes_21 : decode cX6_takes 21 = .ok (.iaload, 1) := by decide +kernel
theorem dX6_takes_22 : decode cX6_takes 22 = .ok (.isub, 1) := by decide +kernel
theorem dX6_takes_23 : decode cX6_takes 23 = .ok (.iastore, 1) := by decide +kernel
theorem dX6_takes_24 : decode cX6_takes 24 = .ok (.iinc 1 1, 3) := by decide +kernel
theorem dX6_takes_27 : decode cX6_takes 27 = .ok (.goto (-25), 3) := by decide +kernel
theorem dX6_takes_30 : decode cX6_takes 30 = .ok (.return_, 1) := by decide +kernel
theorem dX6_owed_0 : decode cX6_owed 0 = .ok (.iconst 0, 1) := by decide +kernel
theorem dX6_owed_1 : decode cX6_owed 1 = .ok (.istore_n 1, 1) := by decide +kernel
theorem dX6_owed_2 : decode cX6_owed 2 = .ok (.iconst 0, 1) := by decide +kernel
theorem dX6_owed_3 : decode cX6_owed 3 = .ok (.istore_n 2, 1) := by decide +kernel
theorem dX6_owed_4 : decode cX6_owed 4 = .ok (.iload_n 2, 1) := by decide +kernel
theorem dX6_owed_5 : decode cX6_owed 5 = .ok (.aload_n 0, 1) := by decide +kernel
theorem dX6_owed_6 : decode cX6_owed 6 = .ok (.getfield 7, 3) := by decide +kernel
theorem dX6_owed_9 : decode cX6_owed 9 = .ok (.bipush 14, 2) := by decide +kernel
theorem dX6_owed_11 : decode cX6_owed 11 = .ok (.iaload, 1) := by decide +kernel
theorem dX6_owed_12 : decode cX6_owed 12 = .ok (.if_icmp .ge 21, 3) := by decide +kernel
theorem dX6_owed_15 : decode cX6_owed 15 = .ok (.iload_n 1, 1) := by decide +kernel
theorem dX6_owed_16 : decode cX6_owed 16 = .ok (.aload_n 0, 1) := by decide +kernel
theorem dX6_owed_17 : decode cX6_owed 17 = .ok (.getfield 7, 3) := by decide +kernel
theorem dX6_owed_20 : decode cX6_owed 20 = .ok (.bipush 111, 2) := by decide +kernel
theorem dX6_owed_22 : decode cX6_owed 22 = .ok (.iload_n 2, 1) := by decide +kernel
theorem dX6_owed_23 : decode cX6_owed 23 = .ok (.iadd, 1) := by decide +kernel
theorem dX6_owed_24 : decode cX6_owed 24 = .ok (.iaload, 1) := by decide +kernel
theorem dX6_owed_25 : decode cX6_owed 25 = .ok (.iadd, 1) := by decide +kernel
theorem dX6_owed_26 : decode cX6_owed 26 = .ok (.istore_n 1, 1) := by decide +kernel
theorem dX6_owed_27 : decode cX6_owed 27 = .ok (.iinc 2 1, 3) := by decide +kernel
theorem dX6_owed_30 : decode cX6_owed 30 = .ok (.goto (-26), 3) := by decide +kernel
theorem dX6_owed_33 : decode cX6_owed 33 = .ok (.iload_n 1, 1) := by decide +kernel
theorem dX6_owed_34 : decode cX6_owed 34 = .ok (.ireturn, 1) := by decide +kernel
theorem dX6_keepsPromises_0 : decode cX6_keepsPromises 0 = .ok (.aload_n 0, 1) := by decide +kernel
theorem dX6_keepsPromises_1 : decode cX6_keepsPromises 1 = .ok (.getfield 7, 3) := by decide +kernel
theorem dX6_keepsPromises_4 : decode cX6_keepsPromises 4 = .ok (.bipush 14, 2) := by decide +kernel
theorem dX6_keepsPromises_6 : decode cX6_keepsPromises 6 = .ok (.iaload, 1) := by decide +kernel
theorem dX6_keepsPromises_7 : decode cX6_keepsPromises 7 = .ok (.ifCond .le 93, 3) := by decide +kernel
theorem dX6_keepsPromises_10 : decode cX6_keepsPromises 10 = .ok (.aload_n 0, 1) := by decide +kernel
theorem dX6_keepsPromises_11 : decode cX6_keepsPromises 11 = .ok (.aload_n 0, 1) := by decide +kernel
theorem dX6_keepsPromises_12 : decode cX6_keepsPromises 12 = .ok (.getfield 7, 3) := by decide +kernel
theorem dX6_keepsPromises_15 : decode cX6_keepsPromises 15 = .ok (.bipush 111, 2) := by decide +kernel
theorem dX6_keepsPromises_17 : decode cX6_keepsPromises 17 = .ok (.iaload, 1) := by decide +kernel
theorem dX6_keepsPromises_18 : decode cX6_keepsPromises 18 = .ok (.iconst (-1), 1) := by decide +kernel
theorem dX6_keepsPromises_19 : decode cX6_keepsPromises 19 = .ok (.iconst 0, 1) := by decide +kernel
theorem dX6_keepsPromises_20 : decode cX6_keepsPromises 20 = .ok (.invokevirtual 66, 3) := by decide +kernel
theorem dX6_keepsPromises_23 : decode cX6_keepsPromises 23 = .ok (.ifCond .eq 77, 3) := by decide +kernel
theorem dX6_keepsPromises_26 : decode cX6_keepsPromises 26 = .ok (.aload_n 0, 1) := by decide +kernel
theorem dX6_keepsPromises_27 : decode cX6_keepsPromises 27 = .ok (.invokevirtual 69, 3) := by decide +kernel
theorem dX6_keepsPromises_30 : decode cX6_keepsPromises 30 = .ok (.aload_n 0, 1) := by decide +kernel
theorem dX6_keepsPromises_31 : decode cX6_keepsPromises 31 = .ok (.getfield 7, 3) := by decide +kernel
theorem dX6_keepsPromises_34 : decode cX6_keepsPromises 34 = .ok (.bipush 11, 2) := by decide +kernel
theorem dX6_keepsPromises_36 : decode cX6_keepsPromises 36 = .ok (.dup2, 1) := by decide +kernel
theorem dX6_keepsPromises_37 : decode cX6_keepsPromises 37 = .ok (.iaload, 1) := by decide +kernel
theorem dX6_keepsPromises_38 : decode cX6_keepsPromises 38 = .ok (.aload_n 0, 1) := by decide +kernel
theorem dX6_keepsPromises_39 : decode cX6_keepsPromises 39 = .ok (.getfield 7, 3) := by decide +kernel
theorem dX6_keepsPromises_42 : decode cX6_keepsPromises 42 = .ok (.bipush 111, 2) := by decide +kernel
theorem dX6_keepsPromises_44 : decode cX6_keepsPromises 44 = .ok (.iaload, 1) := by decide +kernel
theorem dX6_keepsPromises_45 : decode cX6_keepsPromises 45 = .ok (.iadd, 1) := by decide +kernel
theorem dX6_keepsPromises_46 : decode cX6_keepsPromises 46 = .ok (.iastore, 1) := by decide +kernel
theorem dX6_keepsPromises_47 : decode cX6_keepsPromises 47 = .ok (.aload_n 0, 1) := by decide +kernel
theorem dX6_keepsPromises_48 : decode cX6_keepsPromises 48 = .ok (.getfield 7, 3) := by decide +kernel
theorem dX6_keepsPromises_51 : decode cX6_keepsPromises 51 = .ok (.bipush 14, 2) := by decide +kernel
theorem dX6_keepsPromises_53 : decode cX6_keepsPromises 53 = .ok (.dup2, 1) := by decide +kernel
theorem dX6_keepsPromises_54 : decode cX6_keepsPromises 54 = .ok (.iaload, 1) := by decide +kernel
theorem dX6_keepsPromises_55 : decode cX6_keepsPromises 55 = .ok (.iconst 1, 1) := by decide +kernel
theorem dX6_keepsPromises_56 : decode cX6_keepsPromises 56 = .ok (.isub, 1) := by decide +kernel
theorem dX6_keepsPromises_57 : decode cX6_keepsPromises 57 = .ok (.iastore, 1) := by decide +kernel
theorem dX6_keepsPromises_58 : decode cX6_keepsPromises 58 = .ok (.iconst 0, 1) := by decide +kernel
theorem dX6_keepsPromises_59 : decode cX6_keepsPromises 59 = .ok (.istore_n 1, 1) := by decide +kernel
theorem dX6_keepsPromises_60 : decode cX6_keepsPromises 60 = .ok (.iload_n 1, 1) := by decide +kernel
theorem dX6_keepsPromises_61 : decode cX6_keepsPromises 61 = .ok (.aload_n 0, 1) := by decide +kernel
theorem dX6_keepsPromises_62 : decode cX6_keepsPromises 62 = .ok (.getfield 7, 3) := by decide +kernel
theorem dX6_keepsPromises_65 : decode cX6_keepsPromises 65 = .ok (.bipush 14, 2) := by decide +kernel
theorem dX6_keepsPromises_67 : decode cX6_keepsPromises 67 = .ok (.iaload, 1) := by decide +kernel
theorem dX6_keepsPromises_68 : decode cX6_keepsPromises 68 = .ok (.if_icmp .ge 29, 3) := by decide +kernel
theorem dX6_keepsPromises_71 : decode cX6_keepsPromises 71 = .ok (.aload_n 0, 1) := by decide +kernel
theorem dX6_keepsPromises_72 : decode cX6_keepsPromises 72 = .ok (.getfield 7, 3) := by decide +kernel
theorem dX6_keepsPromises_75 : decode cX6_keepsPromises 75 = .ok (.bipush 111, 2) := by decide +kernel
theorem dX6_keepsPromises_77 : decode cX6_keepsPromises 77 = .ok (.iload_n 1, 1) := by decide +kernel
theorem dX6_keepsPromises_78 : decode cX6_keepsPromises 78 = .ok (.iadd, 1) := by decide +kernel
theorem dX6_keepsPromises_79 : decode cX6_keepsPromises 79 = .ok (.aload_n 0, 1) := by decide +kernel
theorem dX6_keepsPromises_80 : decode cX6_keepsPromises 80 = .ok (.getfield 7, 3) := by decide +kernel
theorem dX6_keepsPromises_83 : decode cX6_keepsPromises 83 = .ok (.bipush 111, 2) := by decide +kernel
theorem dX6_keepsPromises_85 : decode cX6_keepsPromises 85 = .ok (.iload_n 1, 1) := by decide +kernel
theorem dX6_keepsPromises_86 : decode cX6_keepsPromises 86 = .ok (.iadd, 1) := by decide +kernel
theorem dX6_keepsPromises_87 : decode cX6_keepsPromises 87 = .ok (.iconst 1, 1) := by decide +kernel
theorem dX6_keepsPromises_88 : decode cX6_keepsPromises 88 = .ok (.iadd, 1) := by decide +kernel
theorem dX6_keepsPromises_89 : decode cX6_keepsPromises 89 = .ok (.iaload, 1) := by decide +kernel
theorem dX6_keepsPromises_90 : decode cX6_keepsPromises 90 = .ok (.iastore, 1) := by decide +kernel
theorem dX6_keepsPromises_91 : decode cX6_keepsPromises 91 = .ok (.iinc 1 1, 3) := by decide +kernel
theorem dX6_keepsPromises_94 : decode cX6_keepsPromises 94 = .ok (.goto (-34), 3) := by decide +kernel
theorem dX6_keepsPromises_97 : decode cX6_keepsPromises 97 = .ok (.goto (-97), 3) := by decide +kernel
theorem dX6_keepsPromises_100 : decode cX6_keepsPromises 100 = .ok (.return_, 1) := by decide +kernel
theorem dX6_puts_0 : decode cX6_puts 0 = .ok (.bipush 30, 2) := by decide +kernel
theorem dX6_puts_2 : decode cX6_puts 2 = .ok (.aload_n 0, 1) := by decide +kernel
theorem dX6_puts_3 : decode cX6_puts 3 = .ok (.getfield 7, 3) := by decide +kernel
theorem dX6_puts_6 : decode cX6_puts 6 = .ok (.iconst 5, 1) := by decide +kernel
theorem dX6_puts_7 : decode cX6_puts 7 = .ok (.iload_n 1, 1) := by decide +kernel
theorem dX6_puts_8 : decode cX6_puts 8 = .ok (.iadd, 1) := by decide +kernel
theorem dX6_puts_9 : decode cX6_puts 9 = .ok (.iaload, 1) := by decide +kernel
theorem dX6_puts_10 : decode cX6_puts 10 = .ok (.isub, 1) := by decide +kernel
theorem dX6_puts_11 : decode cX6_puts 11 = .ok (.iload_n 2, 1) := by decide +kernel
theorem dX6_puts_12 : decode cX6_puts 12 = .ok (.if_icmp .ge 17, 3) := by decide +kernel
theorem dX6_puts_15 : decode cX6_puts 15 = .ok (.bipush 30, 2) := by decide +kernel
theorem dX6_puts_17 : decode cX6_puts 17 = .ok (.aload_n 0, 1) := by decide +kernel
theorem dX6_puts_18 : decode cX6_puts 18 = .ok (.getfield 7, 3) := by decide +kernel
theorem dX6_puts_21 : decode cX6_puts 21 = .ok (.iconst 5, 1) := by decide +kernel
theorem dX6_puts_22 : decode cX6_puts 22 = .ok (.iload_n 1, 1) := by decide +kernel
theorem dX6_puts_23 : decode cX6_puts 23 = .ok (.iadd, 1) := by decide +kernel
theorem dX6_puts_24 : decode cX6_puts 24 = .ok (.iaload, 1) := by decide +kernel
theorem dX6_puts_25 : decode cX6_puts 25 = .ok (.isub, 1) := by decide +kernel
theorem dX6_puts_26 : decode cX6_puts 26 = .ok (.goto 4, 3) := by decide +kernel
theorem dX6_puts_29 : decode cX6_puts 29 = .ok (.iload_n 2, 1) := by decide +kernel
theorem dX6_puts_30 : decode cX6_puts 30 = .ok (.istore_n 3, 1) := by decide +kernel
theorem dX6_puts_31 : decode cX6_puts 31 = .ok (.aload_n 0, 1) := by decide +kernel
theorem dX6_puts_32 : decode cX6_puts 32 = .ok (.getfield 7, 3) := by decide +kernel
theorem dX6_puts_35 : decode cX6_puts 35 = .ok (.iconst 5, 1) := by decide +kernel
theorem dX6_puts_36 : decode cX6_puts 36 = .ok (.iload_n 1, 1) := by decide +kernel
theorem dX6_puts_37 : decode cX6_puts 37 = .ok (.iadd, 1) := by decide +kernel
theorem dX6_puts_38 : decode cX6_puts 38 = .ok (.dup2, 1) := by decide +kernel
theorem dX6_puts_39 : decode cX6_puts 39 = .ok (.iaload, 1) := by decide +kernel
theorem dX6_puts_40 : decode cX6_puts 40 = .ok (.iload_n 3, 1) := by decide +kernel
theorem dX6_puts_41 : decode cX6_puts 41 = .ok (.iadd, 1) := by decide +kernel
theorem dX6_puts_42 : decode cX6_puts 42 = .ok (.iastore, 1) := by decide +kernel
theorem dX6_puts_43 : decode cX6_puts 43 = .ok (.aload_n 0, 1) := by decide +kernel
theorem dX6_puts_44 : decode cX6_puts 44 = .ok (.getfield 7, 3) := by decide +kernel
theorem dX6_puts_47 : decode cX6_puts 47 = .ok (.bipush 9, 2) := by decide +kernel
theorem dX6_puts_49 : decode cX6_puts 49 = .ok (.dup2, 1) := by decide +kernel
theorem dX6_puts_50 : decode cX6_puts 50 = .ok (.iaload, 1) := by decide +kernel
theorem dX6_puts_51 : decode cX6_puts 51 = .ok (.iload_n 2, 1) := by decide +kernel
theorem dX6_puts_52 : decode cX6_puts 52 = .ok (.iload_n 3, 1) := by decide +kernel
theorem dX6_puts_53 : decode cX6_puts 53 = .ok (.isub, 1) := by decide +kernel
theorem dX6_puts_54 : decode cX6_puts 54 = .ok (.iload_n 1, 1) := by decide +kernel
theorem dX6_puts_55 : decode cX6_puts 55 = .ok (.invokestatic 72, 3) := by decide +kernel
theorem dX6_puts_58 : decode cX6_puts 58 = .ok (.imul, 1) := by decide +kernel
theorem dX6_puts_59 : decode cX6_puts 59 = .ok (.iadd, 1) := by decide +kernel
theorem dX6_puts_60 : decode cX6_puts 60 = .ok (.iastore, 1) := by decide +kernel
theorem dX6_puts_61 : decode cX6_puts 61 = .ok (.return_, 1) := by decide +kernel
theorem dX6_highest_0 : decode cX6_highest 0 = .ok (.iload_n 0, 1) := by decide +kernel
theorem dX6_highest_1 : decode cX6_highest 1 = .ok (.iconst 3, 1) := by decide +kernel
theorem dX6_highest_2 : decode cX6_highest 2 = .ok (.if_icmp .ne 9, 3) := by decide +kernel
theorem dX6_highest_5 : decode cX6_highest 5 = .ok (.sipush 1000, 3) := by decide +kernel
theorem dX6_highest_8 : decode cX6_highest 8 = .ok (.goto 5, 3) := by decide +kernel
theorem dX6_highest_11 : decode cX6_highest 11 = .ok (.bipush 100, 2) := by decide +kernel
theorem dX6_highest_13 : decode cX6_highest 13 = .ok (.ireturn, 1) := by decide +kernel
theorem dX6_set_0 : decode cX6_set 0 = .ok (.aload_n 0, 1) := by decide +kernel
theorem dX6_set_1 : decode cX6_set 1 = .ok (.invokevirtual 76, 3) := by decide +kernel
theorem dX6_set_4 : decode cX6_set 4 = .ok (.iload_n 1, 1) := by decide +kernel
theorem dX6_set_5 : decode cX6_set 5 = .ok (.iconst 0, 1) := by decide +kernel
theorem dX6_set_6 : decode cX6_set 6 = .ok (.iconst 4, 1) := by decide +kernel
theorem dX6_set_7 : decode cX6_set 7 = .ok (.invokestatic 62, 3) := by decide +kernel
theorem dX6_set_10 : decode cX6_set 10 = .ok (.ifCond .eq 34, 3) := by decide +kernel
theorem dX6_set_13 : decode cX6_set 13 = .ok (.iload_n 2, 1) := by decide +kernel
theorem dX6_set_14 : decode cX6_set 14 = .ok (.iload_n 1, 1) := by decide +kernel
theorem dX6_set_15 : decode cX6_set 15 = .ok (.ifCond .ne 7, 3) := by decide +kernel
theorem dX6_set_18 : decode cX6_set 18 = .ok (.iconst 1, 1) := by decide +kernel
theorem dX6_set_19 : decode cX6_set 19 = .ok (.goto 4, 3) := by decide +kernel
theorem dX6_set_22 : decode cX6_set 22 = .ok (.iconst 0, 1) := by decide +kernel
theorem dX6_set_23 : decode cX6_set 23 = .ok (.iload_n 1, 1) := by decide +kernel
theorem dX6_set_24 : decode cX6_set 24 = .ok (.invokestatic 79, 3) := by decide +kernel
theorem dX6_set_27 : decode cX6_set 27 = .ok (.invokestatic 62, 3) := by decide +kernel
theorem dX6_set_30 : decode cX6_set 30 = .ok (.ifCond .eq 14, 3) := by decide +kernel
theorem dX6_set_33 : decode cX6_set 33 = .ok (.iload_n 1, 1) := by decide +kernel
theorem dX6_set_34 : decode cX6_set 34 = .ok (.iconst 4, 1) := by decide +kernel
theorem dX6_set_35 : decode cX6_set 35 = .ok (.if_icmp .ne 19, 3) := by decide +kernel
theorem dX6_set_38 : decode cX6_set 38 = .ok (.iload_n 2, 1) := by decide +kernel
theorem dX6_set_39 : decode cX6_set 39 = .ok (.iconst 5, 1) := by decide +kernel
theorem dX6_set_40 : decode cX6_set 40 = .ok (.irem, 1) := by decide +kernel
theorem dX6_set_41 : decode cX6_set 41 = .ok (.ifCond .eq 13, 3) := by decide +kernel
theorem dX6_set_44 : decode cX6_set 44 = .ok (.aload_n 0, 1) := by decide +kernel
theorem dX6_set_45 : decode cX6_set 45 = .ok (.aload_n 0, 1) := by decide +kernel
theorem dX6_set_46 : decode cX6_set 46 = .ok (.iconst 1, 1) := by decide +kernel
theorem dX6_set_47 : decode cX6_set 47 = .ok (.invokevirtual 82, 3) := by decide +kernel
theorem dX6_set_50 : decode cX6_set 50 = .ok (.invokevirtual 85, 3) := by decide +kernel
theorem dX6_set_53 : decode cX6_set 53 = .ok (.ireturn, 1) := by decide +kernel
theorem dX6_set_54 : decode cX6_set 54 = .ok (.aload_n 0, 1) := by decide +kernel
theorem dX6_set_55 : decode cX6_set 55 = .ok (.getfield 7, 3) := by decide +kernel
theorem dX6_set_58 : decode cX6_set 58 = .ok (.iconst 0, 1) := by decide +kernel
theorem dX6_set_59 : decode cX6_set 59 = .ok (.iload_n 1, 1) := by decide +kernel
theorem dX6_set_60 : decode cX6_set 60 = .ok (.iadd, 1) := by decide +kernel
theorem dX6_set_61 : decode cX6_set 61 = .ok (.iaload, 1) := by decide +kernel
theorem dX6_set_62 : decode cX6_set 62 = .ok (.istore_n 3, 1) := by decide +kernel
theorem dX6_set_63 : decode cX6_set 63 = .ok (.aload_n 0, 1) := by decide +kernel
theorem dX6_set_64 : decode cX6_set 64 = .ok (.getfield 7, 3) := by decide +kernel
theorem dX6_set_67 : decode cX6_set 67 = .ok (.iconst 0, 1) := by decide +kernel
theorem dX6_set_68 : decode cX6_set 68 = .ok (.iload_n 1, 1) := by decide +kernel
theorem dX6_set_69 : decode cX6_set 69 = .ok (.iadd, 1) := by decide +kernel
theorem dX6_set_70 : decode cX6_set 70 = .ok (.iload_n 2, 1) := by decide +kernel
theorem dX6_set_71 : decode cX6_set 71 = .ok (.iastore, 1) := by decide +kernel
theorem dX6_set_72 : decode cX6_set 72 = .ok (.aload_n 0, 1) := by decide +kernel
theorem dX6_set_73 : decode cX6_set 73 = .ok (.iload_n 3, 1) := by decide +kernel
theorem dX6_set_74 : decode cX6_set 74 = .ok (.invokevirtual 85, 3) := by decide +kernel
theorem dX6_set_77 : decode cX6_set 77 = .ok (.ireturn, 1) := by decide +kernel
theorem dX6_isPrice_0 : decode cX6_isPrice 0 = .ok (.iload_n 0, 1) := by decide +kernel
theorem dX6_isPrice_1 : decode cX6_isPrice 1 = .ok (.iload_n 1, 1) := by decide +kernel
theorem dX6_isPrice_2 : decode cX6_isPrice 2 = .ok (.sipush 500, 3) := by decide +kernel
theorem dX6_isPrice_5 : decode cX6_isPrice 5 = .ok (.invokestatic 62, 3) := by decide +kernel
theorem dX6_isPrice_8 : decode cX6_isPrice 8 = .ok (.ifCond .eq 13, 3) := by decide +kernel
theorem dX6_isPrice_11 : decode cX6_isPrice 11 = .ok (.iload_n 0, 1) := by decide +kernel
theorem dX6_isPrice_12 : decode cX6_isPrice 12 = .ok (.iconst 5, 1) := by decide +kernel
theorem dX6_isPrice_13 : decode cX6_isPrice 13 = .ok (.irem, 1) := by decide +kernel
theorem dX6_isPrice_14 : decode cX6_isPrice 14 = .ok (.ifCond .ne 7, 3) := by decide +kernel
theorem dX6_isPrice_17 : decode cX6_isPrice 17 = .ok (.iconst 1, 1) := by decide +kernel
theorem dX6_isPrice_18 : decode cX6_isPrice 18 = .ok (.goto 4, 3) := by decide +kernel
theorem dX6_isPrice_21 : decode cX6_isPrice 21 = .ok (.iconst 0, 1) := by decide +kernel
theorem dX6_isPrice_22 : decode cX6_isPrice 22 = .ok (.ireturn, 1) := by decide +kernel
theorem dX6_addCoil_0 : decode cX6_addCoil 0 = .ok (.aload_n 0, 1) := by decide +kernel
theorem dX6_addCoil_1 : decode cX6_addCoil 1 = .ok (.invokevirtual 76, 3) := by decide +kernel
theorem dX6_addCoil_4 : decode cX6_addCoil 4 = .ok (.iload_n 1, 1) := by decide +kernel
theorem dX6_addCoil_5 : decode cX6_addCoil 5 = .ok (.iconst 0, 1) := by decide +kernel
theorem dX6_addCoil_6 : decode cX6_addCoil 6 = .ok (.iconst 5, 1) := by decide +kernel
theorem dX6_addCoil_7 : decode cX6_addCoil 7 = .ok (.invokestatic 62, 3) := by decide +kernel
theorem dX6_addCoil_10 : decode cX6_addCoil 10 = .ok (.ifCond .eq 19, 3) := by decide +kernel
theorem dX6_addCoil_13 : decode cX6_addCoil 13 = .ok (.iload_n 2, 1) := by decide +kernel
theorem dX6_addCoil_14 : decode cX6_addCoil 14 = .ok (.iconst 5, 1) := by decide +kernel
theorem dX6_addCoil_15 : decode cX6_addCoil 15 = .ok (.invokestatic 88, 3) := by decide +kernel
theorem dX6_addCoil_18 : decode cX6_addCoil 18 = .ok (.ifCond .eq 11, 3) := by decide +kernel
theorem dX6_addCoil_21 : decode cX6_addCoil 21 = .ok (.iload_n 3, 1) := by decide +kernel
theorem dX6_addCoil_22 : decode cX6_addCoil 22 = .ok (.iload_n 2, 1) := by decide +kernel
theorem dX6_addCoil_23 : decode cX6_addCoil 23 = .ok (.invokestatic 88, 3) := by decide +kernel
theorem dX6_addCoil_26 : decode cX6_addCoil 26 = .ok (.ifCond .ne 13, 3) := by decide +kernel
theorem dX6_addCoil_29 : decode cX6_addCoil 29 = .ok (.aload_n 0, 1) := by decide +kernel
theorem dX6_addCoil_30 : decode cX6_addCoil 30 = .ok (.aload_n 0, 1) := by decide +kernel
theorem dX6_addCoil_31 : decode cX6_addCoil 31 = .ok (.iconst 1, 1) := by decide +kernel
theorem dX6_addCoil_32 : decode cX6_addCoil 32 = .ok (.invokevirtual 82, 3) := by decide +kernel
theorem dX6_addCoil_35 : decode cX6_addCoil 35 = .ok (.invokevirtual 85, 3) := by decide +kernel
theorem dX6_addCoil_38 : decode cX6_addCoil 38 = .ok (.ireturn, 1) := by decide +kernel
theorem dX6_addCoil_39 : decode cX6_addCoil 39 = .ok (.aload_n 0, 1) := by decide +kernel
theorem dX6_addCoil_40 : decode cX6_addCoil 40 = .ok (.getfield 7, 3) := by decide +kernel
theorem dX6_addCoil_43 : decode cX6_addCoil 43 = .ok (.bipush 13, 2) := by decide +kernel
theorem dX6_addCoil_45 : decode cX6_addCoil 45 = .ok (.iaload, 1) := by decide +kernel
theorem dX6_addCoil_46 : decode cX6_addCoil 46 = .ok (.bipush 8, 2) := by decide +kernel
theorem dX6_addCoil_48 : decode cX6_addCoil 48 = .ok (.if_icmp .ne 13, 3) := by decide +kernel
theorem dX6_addCoil_51 : decode cX6_addCoil 51 = .ok (.aload_n 0, 1) := by decide +kernel
theorem dX6_addCoil_52 : decode cX6_addCoil 52 = .ok (.aload_n 0, 1) := by decide +kernel
theorem dX6_addCoil_53 : decode cX6_addCoil 53 = .ok (.iconst 2, 1) := by decide +kernel
theorem dX6_addCoil_54 : decode cX6_addCoil 54 = .ok (.invokevirtual 82, 3) := by decide +kernel
theorem dX6_addCoil_57 : decode cX6_addCoil 57 = .ok (.invokevirtual 85, 3) := by decide +kernel
theorem dX6_addCoil_60 : decode cX6_addCoil 60 = .ok (.ireturn, 1) := by decide +kernel
theorem dX6_addCoil_61 : decode cX6_addCoil 61 = .ok (.aload_n 0, 1) := by decide +kernel
theorem dX6_addCoil_62 : decode cX6_addCoil 62 = .ok (.getfield 7, 3) := by decide +kernel
theorem dX6_addCoil_65 : decode cX6_addCoil 65 = .ok (.bipush 13, 2) := by decide +kernel
theorem dX6_addCoil_67 : decode cX6_addCoil 67 = .ok (.iaload, 1) := by decide +kernel
theorem dX6_addCoil_68 : decode cX6_addCoil 68 = .ok (.istore 4, 2) := by decide +kernel
theorem dX6_addCoil_70 : decode cX6_addCoil 70 = .ok (.aload_n 0, 1) := by decide +kernel
theorem dX6_addCoil_71 : decode cX6_addCoil 71 = .ok (.iload 4, 2) := by decide +kernel
theorem dX6_addCoil_73 : decode cX6_addCoil 73 = .ok (.iconst 0, 1) := by decide +kernel
theorem dX6_addCoil_74 : decode cX6_addCoil 74 = .ok (.iload_n 1, 1) := by decide +kernel
theorem dX6_addCoil_75 : decode cX6_addCoil 75 = .ok (.invokevirtual 92, 3) := by decide +kernel
theorem dX6_addCoil_78 : decode cX6_addCoil 78 = .ok (.aload_n 0, 1) := by decide +kernel
theorem dX6_addCoil_79 : decode cX6_addCoil 79 = .ok (.iload 4, 2) := by decide +kernel
theorem dX6_addCoil_81 : decode cX6_addCoil 81 = .ok (.iconst 3, 1) := by decide +kernel
theorem dX6_addCoil_82 : decode cX6_addCoil 82 = .ok (.iload_n 2, 1) := by decide +kernel
theorem dX6_addCoil_83 : decode cX6_addCoil 83 = .ok (.invokevirtual 92, 3) := by decide +kernel
theorem dX6_addCoil_86 : decode cX6_addCoil 86 = .ok (.aload_n 0, 1) := by decide +kernel
theorem dX6_addCoil_87 : decode cX6_addCoil 87 = .ok (.iload 4, 2) := by decide +kernel
theorem dX6_addCoil_89 : decode cX6_addCoil 89 = .ok (.iconst 4, 1) := by decide +kernel
theorem dX6_addCoil_90 : decode cX6_addCoil 90 = .ok (.iload_n 3, 1) := by decide +kernel
theorem dX6_addCoil_91 : decode cX6_addCoil 91 = .ok (.invokevirtual 92, 3) := by decide +kernel
theorem dX6_addCoil_94 : decode cX6_addCoil 94 = .ok (.aload_n 0, 1) := by decide +kernel
theorem dX6_addCoil_95 : decode cX6_addCoil 95 = .ok (.iload 4, 2) := by decide +kernel
theorem dX6_addCoil_97 : decode cX6_addCoil 97 = .ok (.iconst 2, 1) := by decide +kernel
theorem dX6_addCoil_98 : decode cX6_addCoil 98 = .ok (.iload_n 2, 1) := by decide +kernel
theorem dX6_addCoil_99 : decode cX6_addCoil 99 = .ok (.invokevirtual 92, 3) := by decide +kernel
theorem dX6_addCoil_102 : decode cX6_addCoil 102 = .ok (.aload_n 0, 1) := by decide +kernel
theorem dX6_addCoil_103 : decode cX6_addCoil 103 = .ok (.getfield 7, 3) := by decide +kernel
theorem dX6_addCoil_106 : decode cX6_addCoil 106 = .ok (.bipush 13, 2) := by decide +kernel
theorem dX6_addCoil_108 : decode cX6_addCoil 108 = .ok (.dup2, 1) := by decide +kernel
theorem dX6_addCoil_109 : decode cX6_addCoil 109 = .ok (.iaload, 1) := by decide +kernel
theorem dX6_addCoil_110 : decode cX6_addCoil 110 = .ok (.iconst 1, 1) := by decide +kernel
theorem dX6_addCoil_111 : decode cX6_addCoil 111 = .ok (.iadd, 1) := by decide +kernel
theorem dX6_addCoil_112 : decode cX6_addCoil 112 = .ok (.iastore, 1) := by decide +kernel
theorem dX6_addCoil_113 : decode cX6_addCoil 113 = .ok (.aload_n 0, 1) := by decide +kernel
theorem dX6_addCoil_114 : decode cX6_addCoil 114 = .ok (.iload 4, 2) := by decide +kernel
theorem dX6_addCoil_116 : decode cX6_addCoil 116 = .ok (.invokevirtual 85, 3) := by decide +kernel
theorem dX6_addCoil_119 : decode cX6_addCoil 119 = .ok (.ireturn, 1) := by decide +kernel
theorem dX6_doStock_0 : decode cX6_doStock 0 = .ok (.aload_n 0, 1) := by decide +kernel
theorem dX6_doStock_1 : decode cX6_doStock 1 = .ok (.iload_n 1, 1) := by decide +kernel
theorem dX6_doStock_2 : decode cX6_doStock 2 = .ok (.invokevirtual 96, 3) := by decide +kernel
theorem dX6_doStock_5 : decode cX6_doStock 5 = .ok (.ifCond .ne 9, 3) := by decide +kernel
theorem dX6_doStock_8 : decode cX6_doStock 8 = .ok (.aload_n 0, 1) := by decide +kernel
theorem dX6_doStock_9 : decode cX6_doStock 9 = .ok (.iconst 1, 1) := by decide +kernel
theorem dX6_doStock_10 : decode cX6_doStock 10 = .ok (.invokevirtual 82, 3) := by decide +kernel
theorem dX6_doStock_13 : decode cX6_doStock 13 = .ok (.ireturn, 1) := by decide +kernel
theorem dX6_doStock_14 : decode cX6_doStock 14 = .ok (.iload_n 2, 1) := by decide +kernel
theorem dX6_doStock_15 : decode cX6_doStock 15 = .ok (.iconst 1, 1) := by decide +kernel
theorem dX6_doStock_16 : decode cX6_doStock 16 = .ok (.bipush 20, 2) := by decide +kernel
theorem dX6_doStock_18 : decode cX6_doStock 18 = .ok (.invokestatic 62, 3) := by decide +kernel
theorem dX6_doStock_21 : decode cX6_doStock 21 = .ok (.ifCond .ne 9, 3) := by decide +kernel
theorem dX6_doStock_24 : decode cX6_doStock 24 = .ok (.aload_n 0, 1) := by decide +kernel
theorem dX6_doStock_25 : decode cX6_doStock 25 = .ok (.iconst 2, 1) := by decide +kernel
theorem dX6_doStock_26 : decode cX6_doStock 26 = .ok (.invokevirtual 82, 3) := by decide +kernel
theorem dX6_doStock_29 : decode cX6_doStock 29 = .ok (.ireturn, 1) := by decide +kernel
theorem dX6_doStock_30 : decode cX6_doStock 30 = .ok (.aload_n 0, 1) := by decide +kernel
theorem dX6_doStock_31 : decode cX6_doStock 31 = .ok (.iload_n 1, 1) := by decide +kernel
theorem dX6_doStock_32 : decode cX6_doStock 32 = .ok (.iconst 1, 1) := by decide +kernel
theorem dX6_doStock_33 : decode cX6_doStock 33 = .ok (.invokevirtual 100, 3) := by decide +kernel
theorem dX6_doStock_36 : decode cX6_doStock 36 = .ok (.iload_n 2, 1) := by decide +kernel
theorem dX6_doStock_37 : decode cX6_doStock 37 = .ok (.iadd, 1) := by decide +kernel
theorem dX6_doStock_38 : decode cX6_doStock 38 = .ok (.bipush 20, 2) := by decide +kernel
theorem dX6_doStock_40 : decode cX6_doStock 40 = .ok (.if_icmp .le 9, 3) := by decide +kernel
theorem dX6_doStock_43 : decode cX6_doStock 43 = .ok (.aload_n 0, 1) := by decide +kernel
theorem dX6_doStock_44 : decode cX6_doStock 44 = .ok (.iconst 3, 1) := by decide +kernel
theorem dX6_doStock_45 : decode cX6_doStock 45 = .ok (.invokevirtual 82, 3) := by decide +kernel
theorem dX6_doStock_48 : decode cX6_doStock 48 = .ok (.ireturn, 1) := by decide +kernel
theorem dX6_doStock_49 : decode cX6_doStock 49 = .ok (.aload_n 0, 1) := by decide +kernel
theorem dX6_doStock_50 : decode cX6_doStock 50 = .ok (.iload_n 1, 1) := by decide +kernel
theorem dX6_doStock_51 : decode cX6_doStock 51 = .ok (.iconst 1, 1) := by decide +kernel
theorem dX6_doStock_52 : decode cX6_doStock 52 = .ok (.aload_n 0, 1) := by decide +kernel
theorem dX6_doStock_53 : decode cX6_doStock 53 = .ok (.iload_n 1, 1) := by decide +kernel
theorem dX6_doStock_54 : decode cX6_doStock 54 = .ok (.iconst 1, 1) := by decide +kernel
theorem dX6_doStock_55 : decode cX6_doStock 55 = .ok (.invokevirtual 100, 3) := by decide +kernel
theorem dX6_doStock_58 : decode cX6_doStock 58 = .ok (.iload_n 2, 1) := by decide +kernel
theorem dX6_doStock_59 : decode cX6_doStock 59 = .ok (.iadd, 1) := by decide +kernel
theorem dX6_doStock_60 : decode cX6_doStock 60 = .ok (.invokevirtual 92, 3) := by decide +kernel
theorem dX6_doStock_63 : decode cX6_doStock 63 = .ok (.aload_n 0, 1) := by decide +kernel
theorem dX6_doStock_64 : decode cX6_doStock 64 = .ok (.iload_n 1, 1) := by decide +kernel
theorem dX6_doStock_65 : decode cX6_doStock 65 = .ok (.iconst 1, 1) := by decide +kernel
theorem dX6_doStock_66 : decode cX6_doStock 66 = .ok (.invokevirtual 100, 3) := by decide +kernel
theorem dX6_doStock_69 : decode cX6_doStock 69 = .ok (.ireturn, 1) := by decide +kernel
theorem dX6_stock_0 : decode cX6_stock 0 = .ok (.aload_n 0, 1) := by decide +kernel
theorem dX6_stock_1 : decode cX6_stock 1 = .ok (.invokevirtual 76, 3) := by decide +kernel
theorem dX6_stock_4 : decode cX6_stock 4 = .ok (.aload_n 0, 1) := by decide +kernel
theorem dX6_stock_5 : decode cX6_stock 5 = .ok (.aload_n 0, 1) := by decide +kernel
theorem dX6_stock_6 : decode cX6_stock 6 = .ok (.iload_n 1, 1) := by decide +kernel
theorem dX6_stock_7 : decode cX6_stock 7 = .ok (.iload_n 2, 1) := by decide +kernel
theorem dX6_stock_8 : decode cX6_stock 8 = .ok (.invokevirtual 104, 3) := by decide +kernel
theorem dX6_stock_11 : decode cX6_stock 11 = .ok (.invokevirtual 85, 3) := by decide +kernel
theorem dX6_stock_14 : decode cX6_stock 14 = .ok (.ireturn, 1) := by decide +kernel
theorem dX6_doFill_0 : decode cX6_doFill 0 = .ok (.iload_n 1, 1) := by decide +kernel
theorem dX6_doFill_1 : decode cX6_doFill 1 = .ok (.iconst 0, 1) := by decide +kernel
theorem dX6_doFill_2 : decode cX6_doFill 2 = .ok (.iconst 3, 1) := by decide +kernel
theorem dX6_doFill_3 : decode cX6_doFill 3 = .ok (.invokestatic 62, 3) := by decide +kernel
theorem dX6_doFill_6 : decode cX6_doFill 6 = .ok (.ifCond .ne 9, 3) := by decide +kernel
theorem dX6_doFill_9 : decode cX6_doFill 9 = .ok (.aload_n 0, 1) := by decide +kernel
theorem dX6_doFill_10 : decode cX6_doFill 10 = .ok (.iconst 1, 1) := by decide +kernel
theorem dX6_doFill_11 : decode cX6_doFill 11 = .ok (.invokevirtual 82, 3) := by decide +kernel
theorem dX6_doFill_14 : decode cX6_doFill 14 = .ok (.ireturn, 1) := by decide +kernel
theorem dX6_doFill_15 : decode cX6_doFill 15 = .ok (.iload_n 2, 1) := by decide +kernel
theorem dX6_doFill_16 : decode cX6_doFill 16 = .ok (.iconst 1, 1) := by decide +kernel
theorem dX6_doFill_17 : decode cX6_doFill 17 = .ok (.bipush 30, 2) := by decide +kernel
theorem dX6_doFill_19 : decode cX6_doFill 19 = .ok (.invokestatic 62, 3) := by decide +kernel
theorem dX6_doFill_22 : decode cX6_doFill 22 = .ok (.ifCond .ne 9, 3) := by decide +kernel
theorem dX6_doFill_25 : decode cX6_doFill 25 = .ok (.aload_n 0, 1) := by decide +kernel
theorem dX6_doFill_26 : decode cX6_doFill 26 = .ok (.iconst 2, 1) := by decide +kernel
theorem dX6_doFill_27 : decode cX6_doFill 27 = .ok (.invokevirtual 82, 3) := by decide +kernel
theorem dX6_doFill_30 : decode cX6_doFill 30 = .ok (.ireturn, 1) := by decide +kernel
theorem dX6_doFill_31 : decode cX6_doFill 31 = .ok (.bipush 30, 2) := by decide +kernel
theorem dX6_doFill_33 : decode cX6_doFill 33 = .ok (.aload_n 0, 1) := by decide +kernel
theorem dX6_doFill_34 : decode cX6_doFill 34 = .ok (.getfield 7, 3) := by decide +kernel
theorem dX6_doFill_37 : decode cX6_doFill 37 = .ok (.iconst 5, 1) := by decide +kernel
theorem dX6_doFill_38 : decode cX6_doFill 38 = .ok (.iload_n 1, 1) := by decide +kernel
theorem dX6_doFill_39 : decode cX6_doFill 39 = .ok (.iadd, 1) := by decide +kernel
theorem dX6_doFill_40 : decode cX6_doFill 40 = .ok (.iaload, 1) := by decide +kernel
theorem dX6_doFill_41 : decode cX6_doFill 41 = .ok (.isub, 1) := by decide +kernel
theorem dX6_doFill_42 : decode cX6_doFill 42 = .ok (.iload_n 2, 1) := by decide +kernel
theorem dX6_doFill_43 : decode cX6_doFill 43 = .ok (.if_icmp .ge 17, 3) := by decide +kernel
theorem dX6_doFill_46 : decode cX6_doFill 46 = .ok (.bipush 30, 2) := by decide +kernel
theorem dX6_doFill_48 : decode cX6_doFill 48 = .ok (.aload_n 0, 1) := by decide +kernel
theorem dX6_doFill_49 : decode cX6_doFill 49 = .ok (.getfield 7, 3) := by decide +kernel
theorem dX6_doFill_52 : decode cX6_doFill 52 = .ok (.iconst 5, 1) := by decide +kernel
theorem dX6_doFill_53 : decode cX6_doFill 53 = .ok (.iload_n 1, 1) := by decide +kernel
theorem dX6_doFill_54 : decode cX6_doFill 54 = .ok (.iadd, 1) := by decide +kernel
theorem dX6_doFill_55 : decode cX6_doFill 55 = .ok (.iaload, 1) := by decide +kernel
theorem dX6_doFill_56 : decode cX6_doFill 56 = .ok (.isub, 1) := by decide +kernel
theorem dX6_doFill_57 : decode cX6_doFill 57 = .ok (.goto 4, 3) := by decide +kernel
theorem dX6_doFill_60 : decode cX6_doFill 60 = .ok (.iload_n 2, 1) := by decide +kernel
theorem dX6_doFill_61 : decode cX6_doFill 61 = .ok (.istore_n 3, 1) := by decide +kernel
theorem dX6_doFill_62 : decode cX6_doFill 62 = .ok (.aload_n 0, 1) := by decide +kernel
theorem dX6_doFill_63 : decode cX6_doFill 63 = .ok (.getfield 7, 3) := by decide +kernel
theorem dX6_doFill_66 : decode cX6_doFill 66 = .ok (.iconst 5, 1) := by decide +kernel
theorem dX6_doFill_67 : decode cX6_doFill 67 = .ok (.iload_n 1, 1) := by decide +kernel
theorem dX6_doFill_68 : decode cX6_doFill 68 = .ok (.iadd, 1) := by decide +kernel
theorem dX6_doFill_69 : decode cX6_doFill 69 = .ok (.dup2, 1) := by decide +kernel
theorem dX6_doFill_70 : decode cX6_doFill 70 = .ok (.iaload, 1) := by decide +kernel
theorem dX6_doFill_71 : decode cX6_doFill 71 = .ok (.iload_n 3, 1) := by decide +kernel
theorem dX6_doFill_72 : decode cX6_doFill 72 = .ok (.iadd, 1) := by decide +kernel
theorem dX6_doFill_73 : decode cX6_doFill 73 = .ok (.iastore, 1) := by decide +kernel
theorem dX6_doFill_74 : decode cX6_doFill 74 = .ok (.aload_n 0, 1) := by decide +kernel
theorem dX6_doFill_75 : decode cX6_doFill 75 = .ok (.invokevirtual 107, 3) := by decide +kernel
theorem dX6_doFill_78 : decode cX6_doFill 78 = .ok (.iload_n 3, 1) := by decide +kernel
theorem dX6_doFill_79 : decode cX6_doFill 79 = .ok (.ireturn, 1) := by decide +kernel
theorem dX6_fill_0 : decode cX6_fill 0 = .ok (.aload_n 0, 1) := by decide +kernel
theorem dX6_fill_1 : decode cX6_fill 1 = .ok (.invokevirtual 76, 3) := by decide +kernel
theorem dX6_fill_4 : decode cX6_fill 4 = .ok (.aload_n 0, 1) := by decide +kernel
theorem dX6_fill_5 : decode cX6_fill 5 = .ok (.aload_n 0, 1) := by decide +kernel
theorem dX6_fill_6 : decode cX6_fill 6 = .ok (.iload_n 1, 1) := by decide +kernel
theorem dX6_fill_7 : decode cX6_fill 7 = .ok (.iload_n 2, 1) := by decide +kernel
theorem dX6_fill_8 : decode cX6_fill 8 = .ok (.invokevirtual 110, 3) := by decide +kernel
theorem dX6_fill_11 : decode cX6_fill 11 = .ok (.invokevirtual 85, 3) := by decide +kernel
theorem dX6_fill_14 : decode cX6_fill 14 = .ok (.ireturn, 1) := by decide +kernel
theorem dX6_doBuy_0 : decode cX6_doBuy 0 = .ok (.iconst 0, 1) := by decide +kernel
theorem dX6_doBuy_1 : decode cX6_doBuy 1 = .ok (.istore_n 2, 1) := by decide +kernel
theorem dX6_doBuy_2 : decode cX6_doBuy 2 = .ok (.iconst 0, 1) := by decide +kernel
theorem dX6_doBuy_3 : decode cX6_doBuy 3 = .ok (.istore_n 3, 1) := by decide +kernel
theorem dX6_doBuy_4 : decode cX6_doBuy 4 = .ok (.iload_n 3, 1) := by decide +kernel
theorem dX6_doBuy_5 : decode cX6_doBuy 5 = .ok (.iconst 4, 1) := by decide +kernel
theorem dX6_doBuy_6 : decode cX6_doBuy 6 = .ok (.if_icmp .ge 23, 3) := by decide +kernel
theorem dX6_doBuy_9 : decode cX6_doBuy 9 = .ok (.iload_n 2, 1) := by decide +kernel
theorem dX6_doBuy_10 : decode cX6_doBuy 10 = .ok (.aload_n 0, 1) := by decide +kernel
theorem dX6_doBuy_11 : decode cX6_doBuy 11 = .ok (.getfield 28, 3) := by decide +kernel
theorem dX6_doBuy_14 : decode cX6_doBuy 14 = .ok (.iload_n 3, 1) := by decide +kernel
theorem dX6_doBuy_15 : decode cX6_doBuy 15 = .ok (.iaload, 1) := by decide +kernel
theorem dX6_doBuy_16 : decode cX6_doBuy 16 = .ok (.iload_n 3, 1) := by decide +kernel
theorem dX6_doBuy_17 : decode cX6_doBuy 17 = .ok (.invokestatic 72, 3) := by decide +kernel
theorem dX6_doBuy_20 : decode cX6_doBuy 20 = .ok (.imul, 1) := by decide +kernel
theorem dX6_doBuy_21 : decode cX6_doBuy 21 = .ok (.iadd, 1) := by decide +kernel
theorem dX6_doBuy_22 : decode cX6_doBuy 22 = .ok (.istore_n 2, 1) := by decide +kernel
theorem dX6_doBuy_23 : decode cX6_doBuy 23 = .ok (.iinc 3 1, 3) := by decide +kernel
theorem dX6_doBuy_26 : decode cX6_doBuy 26 = .ok (.goto (-22), 3) := by decide +kernel
theorem dX6_doBuy_29 : decode cX6_doBuy 29 = .ok (.iload_n 2, 1) := by decide +kernel
theorem dX6_doBuy_30 : decode cX6_doBuy 30 = .ok (.aload_n 0, 1) := by decide +kernel
theorem dX6_doBuy_31 : decode cX6_doBuy 31 = .ok (.iload_n 1, 1) := by decide +kernel
theorem dX6_doBuy_32 : decode cX6_doBuy 32 = .ok (.iconst 2, 1) := by decide +kernel
theorem dX6_doBuy_33 : decode cX6_doBuy 33 = .ok (.invokevirtual 100, 3) := by decide +kernel
theorem dX6_doBuy_36 : decode cX6_doBuy 36 = .ok (.isub, 1) := by decide +kernel
theorem dX6_doBuy_37 : decode cX6_doBuy 37 = .ok (.istore_n 3, 1) := by decide +kernel
theorem dX6_doBuy_38 : decode cX6_doBuy 38 = .ok (.aload_n 0, 1) := by decide +kernel
theorem dX6_doBuy_39 : decode cX6_doBuy 39 = .ok (.iload_n 1, 1) := by decide +kernel
theorem dX6_doBuy_40 : decode cX6_doBuy 40 = .ok (.iconst 1, 1) := by decide +kernel
theorem dX6_doBuy_41 : decode cX6_doBuy 41 = .ok (.invokevirtual 100, 3) := by decide +kernel
theorem dX6_doBuy_44 : decode cX6_doBuy 44 = .ok (.ifCond .eq 7, 3) := by decide +kernel
theorem dX6_doBuy_47 : decode cX6_doBuy 47 = .ok (.iload_n 3, 1) := by decide +kernel
theorem dX6_doBuy_48 : decode cX6_doBuy 48 = .ok (.ifCond .ge 9, 3) := by decide +kernel
theorem dX6_doBuy_51 : decode cX6_doBuy 51 = .ok (.aload_n 0, 1) := by decide +kernel
theorem dX6_doBuy_52 : decode cX6_doBuy 52 = .ok (.iconst 3, 1) := by decide +kernel
theorem dX6_doBuy_53 : decode cX6_doBuy 53 = .ok (.invokevirtual 82, 3) := by decide +kernel
theorem dX6_doBuy_56 : decode cX6_doBuy 56 = .ok (.ireturn, 1) := by decide +kernel
theorem dX6_doBuy_57 : decode cX6_doBuy 57 = .ok (.aload_n 0, 1) := by decide +kernel
theorem dX6_doBuy_58 : decode cX6_doBuy 58 = .ok (.getfield 7, 3) := by decide +kernel
theorem dX6_doBuy_61 : decode cX6_doBuy 61 = .ok (.iconst 0, 1) := by decide +kernel
theorem dX6_doBuy_62 : decode cX6_doBuy 62 = .ok (.aload_n 0, 1) := by decide +kernel
theorem dX6_doBuy_63 : decode cX6_doBuy 63 = .ok (.getfield 16, 3) := by decide +kernel
theorem dX6_doBuy_66 : decode cX6_doBuy 66 = .ok (.iconst 0, 1) := by decide +kernel
theorem dX6_doBuy_67 : decode cX6_doBuy 67 = .ok (.invokestatic 55, 3) := by decide +kernel
theorem dX6_doBuy_70 : decode cX6_doBuy 70 = .ok (.iconst 0, 1) := by decide +kernel
theorem dX6_doBuy_71 : decode cX6_doBuy 71 = .ok (.istore 4, 2) := by decide +kernel
theorem dX6_doBuy_73 : decode cX6_doBuy 73 = .ok (.iload 4, 2) := by decide +kernel
theorem dX6_doBuy_75 : decode cX6_doBuy 75 = .ok (.iconst 4, 1) := by decide +kernel
theorem dX6_doBuy_76 : decode cX6_doBuy 76 = .ok (.if_icmp .ge 22, 3) := by decide +kernel
theorem dX6_doBuy_79 : decode cX6_doBuy 79 = .ok (.aload_n 0, 1) := by decide +kernel
theorem dX6_doBuy_80 : decode cX6_doBuy 80 = .ok (.iload 4, 2) := by decide +kernel
theorem dX6_doBuy_82 : decode cX6_doBuy 82 = .ok (.aload_n 0, 1) := by decide +kernel
theorem dX6_doBuy_83 : decode cX6_doBuy 83 = .ok (.getfield 28, 3) := by decide +kernel
theorem dX6_doBuy_86 : decode cX6_doBuy 86 = .ok (.iload 4, 2) := by decide +kernel
theorem dX6_doBuy_88 : decode cX6_doBuy 88 = .ok (.iaload, 1) := by decide +kernel
theorem dX6_doBuy_89 : decode cX6_doBuy 89 = .ok (.invokevirtual 113, 3) := by decide +kernel
theorem dX6_doBuy_92 : decode cX6_doBuy 92 = .ok (.iinc 4 1, 3) := by decide +kernel
theorem dX6_doBuy_95 : decode cX6_doBuy 95 = .ok (.goto (-22), 3) := by decide +kernel
theorem dX6_doBuy_98 : decode cX6_doBuy 98 = .ok (.aload_n 0, 1) := by decide +kernel
theorem dX6_doBuy_99 : decode cX6_doBuy 99 = .ok (.iload_n 3, 1) := by decide +kernel
theorem dX6_doBuy_100 : decode cX6_doBuy 100 = .ok (.iconst (-1), 1) := by decide +kernel
theorem dX6_doBuy_101 : decode cX6_doBuy 101 = .ok (.iconst 0, 1) := by decide +kernel
theorem dX6_doBuy_102 : decode cX6_doBuy 102 = .ok (.invokevirtual 66, 3) := by decide +kernel
theorem dX6_doBuy_105 : decode cX6_doBuy 105 = .ok (.istore 4, 2) := by decide +kernel
theorem dX6_doBuy_107 : decode cX6_doBuy 107 = .ok (.iload 4, 2) := by decide +kernel
theorem dX6_doBuy_109 : decode cX6_doBuy 109 = .ok (.ifCond .ne 37, 3) := by decide +kernel
theorem dX6_doBuy_112 : decode cX6_doBuy 112 = .ok (.aload_n 0, 1) := by decide +kernel
theorem dX6_doBuy_113 : decode cX6_doBuy 113 = .ok (.invokevirtual 117, 3) := by decide +kernel
theorem dX6_doBuy_116 : decode cX6_doBuy 116 = .ok (.iload_n 3, 1) := by decide +kernel
theorem dX6_doBuy_117 : decode cX6_doBuy 117 = .ok (.iadd, 1) := by decide +kernel
theorem dX6_doBuy_118 : decode cX6_doBuy 118 = .ok (.aload_n 0, 1) := by decide +kernel
theorem dX6_doBuy_119 : decode cX6_doBuy 119 = .ok (.getfield 7, 3) := by decide +kernel
theorem dX6_doBuy_122 : decode cX6_doBuy 122 = .ok (.iconst 3, 1) := by decide +kernel
theorem dX6_doBuy_123 : decode cX6_doBuy 123 = .ok (.iaload, 1) := by decide +kernel
theorem dX6_doBuy_124 : decode cX6_doBuy 124 = .ok (.if_icmp .le 22, 3) := by decide +kernel
theorem dX6_doBuy_127 : decode cX6_doBuy 127 = .ok (.aload_n 0, 1) := by decide +kernel
theorem dX6_doBuy_128 : decode cX6_doBuy 128 = .ok (.getfield 16, 3) := by decide +kernel
theorem dX6_doBuy_131 : decode cX6_doBuy 131 = .ok (.iconst 0, 1) := by decide +kernel
theorem dX6_doBuy_132 : decode cX6_doBuy 132 = .ok (.aload_n 0, 1) := by decide +kernel
theorem dX6_doBuy_133 : decode cX6_doBuy 133 = .ok (.getfield 7, 3) := by decide +kernel
theorem dX6_doBuy_136 : decode cX6_doBuy 136 = .ok (.iconst 0, 1) := by decide +kernel
theorem dX6_doBuy_137 : decode cX6_doBuy 137 = .ok (.invokestatic 55, 3) := by decide +kernel
theorem dX6_doBuy_140 : decode cX6_doBuy 140 = .ok (.aload_n 0, 1) := by decide +kernel
theorem dX6_doBuy_141 : decode cX6_doBuy 141 = .ok (.iconst 3, 1) := by decide +kernel
theorem dX6_doBuy_142 : decode cX6_doBuy 142 = .ok (.invokevirtual 82, 3) := by decide +kernel
theorem dX6_doBuy_145 : decode cX6_doBuy 145 = .ok (.ireturn, 1) := by decide +kernel
theorem dX6_doBuy_146 : decode cX6_doBuy 146 = .ok (.iload 4, 2) := by decide +kernel
theorem dX6_doBuy_148 : decode cX6_doBuy 148 = .ok (.ifCond .eq 10, 3) := by decide +kernel
theorem dX6_doBuy_151 : decode cX6_doBuy 151 = .ok (.aload_n 0, 1) := by decide +kernel
theorem dX6_doBuy_152 : decode cX6_doBuy 152 = .ok (.invokevirtual 69, 3) := by decide +kernel
theorem dX6_doBuy_155 : decode cX6_doBuy 155 = .ok (.goto 30, 3) := by decide +kernel
theorem dX6_doBuy_158 : decode cX6_doBuy 158 = .ok (.aload_n 0, 1) := by decide +kernel
theorem dX6_doBuy_159 : decode cX6_doBuy 159 = .ok (.getfield 7, 3) := by decide +kernel
theorem dX6_doBuy_162 : decode cX6_doBuy 162 = .ok (.bipush 111, 2) := by decide +kernel
theorem dX6_doBuy_164 : decode cX6_doBuy 164 = .ok (.aload_n 0, 1) := by decide +kernel
theorem dX6_doBuy_165 : decode cX6_doBuy 165 = .ok (.getfield 7, 3) := by decide +kernel
theorem dX6_doBuy_168 : decode cX6_doBuy 168 = .ok (.bipush 14, 2) := by decide +kernel
theorem dX6_doBuy_170 : decode cX6_doBuy 170 = .ok (.iaload, 1) := by decide +kernel
theorem dX6_doBuy_171 : decode cX6_doBuy 171 = .ok (.iadd, 1) := by decide +kernel
theorem dX6_doBuy_172 : decode cX6_doBuy 172 = .ok (.iload_n 3, 1) := by decide +kernel
theorem dX6_doBuy_173 : decode cX6_doBuy 173 = .ok (.iastore, 1) := by decide +kernel
theorem dX6_doBuy_174 : decode cX6_doBuy 174 = .ok (.aload_n 0, 1) := by decide +kernel
theorem dX6_doBuy_175 : decode cX6_doBuy 175 = .ok (.getfield 7, 3) := by decide +kernel
theorem dX6_doBuy_178 : decode cX6_doBuy 178 = .ok (.bipush 14, 2) := by decide +kernel
theorem dX6_doBuy_180 : decode cX6_doBuy 180 = .ok (.dup2, 1) := by decide +kernel
theorem dX6_doBuy_181 : decode cX6_doBuy 181 = .ok (.iaload, 1) := by decide +kernel
theorem dX6_doBuy_182 : decode cX6_doBuy 182 = .ok (.iconst 1, 1) := by decide +kernel
theorem dX6_doBuy_183 : decode cX6_doBuy 183 = .ok (.iadd, 1) := by decide +kernel
theorem dX6_doBuy_184 : decode cX6_doBuy 184 = .ok (.iastore, 1) := by decide +kernel
theorem dX6_doBuy_185 : decode cX6_doBuy 185 = .ok (.aload_n 0, 1) := by decide +kernel
theorem dX6_doBuy_186 : decode cX6_doBuy 186 = .ok (.iload_n 1, 1) := by decide +kernel
theorem dX6_doBuy_187 : decode cX6_doBuy 187 = .ok (.iconst 1, 1) := by decide +kernel
theorem dX6_doBuy_188 : decode cX6_doBuy 188 = .ok (.aload_n 0, 1) := by decide +kernel
theorem dX6_doBuy_189 : decode cX6_doBuy 189 = .ok (.iload_n 1, 1) := by decide +kernel
theorem dX6_doBuy_190 : decode cX6_doBuy 190 = .ok (.iconst 1, 1) := by decide +kernel
theorem dX6_doBuy_191 : decode cX6_doBuy 191 = .ok (.invokevirtual 100, 3) := by decide +kernel
theorem dX6_doBuy_194 : decode cX6_doBuy 194 = .ok (.iconst 1, 1) := by decide +kernel
theorem dX6_doBuy_195 : decode cX6_doBuy 195 = .ok (.isub, 1) := by decide +kernel
theorem dX6_doBuy_196 : decode cX6_doBuy 196 = .ok (.invokevirtual 92, 3) := by decide +kernel
theorem dX6_doBuy_199 : decode cX6_doBuy 199 = .ok (.aload_n 0, 1) := by decide +kernel
theorem dX6_doBuy_200 : decode cX6_doBuy 200 = .ok (.iload_n 1, 1) := by decide +kernel
theorem dX6_doBuy_201 : decode cX6_doBuy 201 = .ok (.bipush 6, 2) := by decide +kernel
theorem dX6_doBuy_203 : decode cX6_doBuy 203 = .ok (.aload_n 0, 1) := by decide +kernel
theorem dX6_doBuy_204 : decode cX6_doBuy 204 = .ok (.iload_n 1, 1) := by decide +kernel
theorem dX6_doBuy_205 : decode cX6_doBuy 205 = .ok (.bipush 6, 2) := by decide +kernel
theorem dX6_doBuy_207 : decode cX6_doBuy 207 = .ok (.invokevirtual 100, 3) := by decide +kernel
theorem dX6_doBuy_210 : decode cX6_doBuy 210 = .ok (.iconst 1, 1) := by decide +kernel
theorem dX6_doBuy_211 : decode cX6_doBuy 211 = .ok (.iadd, 1) := by decide +kernel
theorem dX6_doBuy_212 : decode cX6_doBuy 212 = .ok (.invokevirtual 92, 3) := by decide +kernel
theorem dX6_doBuy_215 : decode cX6_doBuy 215 = .ok (.aload_n 0, 1) := by decide +kernel
theorem dX6_doBuy_216 : decode cX6_doBuy 216 = .ok (.iload_n 1, 1) := by decide +kernel
theorem dX6_doBuy_217 : decode cX6_doBuy 217 = .ok (.bipush 7, 2) := by decide +kernel
theorem dX6_doBuy_219 : decode cX6_doBuy 219 = .ok (.aload_n 0, 1) := by decide +kernel
theorem dX6_doBuy_220 : decode cX6_doBuy 220 = .ok (.iload_n 1, 1) := by decide +kernel
theorem dX6_doBuy_221 : decode cX6_doBuy 221 = .ok (.bipush 7, 2) := by decide +kernel
theorem dX6_doBuy_223 : decode cX6_doBuy 223 = .ok (.invokevirtual 100, 3) := by decide +kernel
theorem dX6_doBuy_226 : decode cX6_doBuy 226 = .ok (.aload_n 0, 1) := by decide +kernel
theorem dX6_doBuy_227 : decode cX6_doBuy 227 = .ok (.iload_n 1, 1) := by decide +kernel
theorem dX6_doBuy_228 : decode cX6_doBuy 228 = .ok (.iconst 2, 1) := by decide +kernel
theorem dX6_doBuy_229 : decode cX6_doBuy 229 = .ok (.invokevirtual 100, 3) := by decide +kernel
theorem dX6_doBuy_232 : decode cX6_doBuy 232 = .ok (.iadd, 1) := by decide +kernel
theorem dX6_doBuy_233 : decode cX6_doBuy 233 = .ok (.invokevirtual 92, 3) := by decide +kernel
theorem dX6_doBuy_236 : decode cX6_doBuy 236 = .ok (.aload_n 0, 1) := by decide +kernel
theorem dX6_doBuy_237 : decode cX6_doBuy 237 = .ok (.iload_n 1, 1) := by decide +kernel
theorem dX6_doBuy_238 : decode cX6_doBuy 238 = .ok (.bipush 10, 2) := by decide +kernel
theorem dX6_doBuy_240 : decode cX6_doBuy 240 = .ok (.aload_n 0, 1) := by decide +kernel
theorem dX6_doBuy_241 : decode cX6_doBuy 241 = .ok (.iload_n 1, 1) := by decide +kernel
theorem dX6_doBuy_242 : decode cX6_doBuy 242 = .ok (.bipush 10, 2) := by decide +kernel
theorem dX6_doBuy_244 : decode cX6_doBuy 244 = .ok (.invokevirtual 100, 3) := by decide +kernel
theorem dX6_doBuy_247 : decode cX6_doBuy 247 = .ok (.invokestatic 121, 3) := by decide +kernel
theorem dX6_doBuy_250 : decode cX6_doBuy 250 = .ok (.fconst 1, 1) := by decide +kernel
theorem dX6_doBuy_251 : decode cX6_doBuy 251 = .ok (.fadd, 1) := by decide +kernel
theorem dX6_doBuy_252 : decode cX6_doBuy 252 = .ok (.invokestatic 124, 3) := by decide +kernel
theorem dX6_doBuy_255 : decode cX6_doBuy 255 = .ok (.invokevirtual 92, 3) := by decide +kernel
theorem dX6_doBuy_258 : decode cX6_doBuy 258 = .ok (.aload_n 0, 1) := by decide +kernel
theorem dX6_doBuy_259 : decode cX6_doBuy 259 = .ok (.invokevirtual 107, 3) := by decide +kernel
theorem dX6_doBuy_262 : decode cX6_doBuy 262 = .ok (.iload 4, 2) := by decide +kernel
theorem dX6_doBuy_264 : decode cX6_doBuy 264 = .ok (.ifCond .eq 7, 3) := by decide +kernel
theorem dX6_doBuy_267 : decode cX6_doBuy 267 = .ok (.iload_n 3, 1) := by decide +kernel
theorem dX6_doBuy_268 : decode cX6_doBuy 268 = .ok (.goto 7, 3) := by decide +kernel
theorem dX6_doBuy_271 : decode cX6_doBuy 271 = .ok (.bipush (-10), 2) := by decide +kernel
theorem dX6_doBuy_273 : decode cX6_doBuy 273 = .ok (.iload_n 3, 1) := by decide +kernel
theorem dX6_doBuy_274 : decode cX6_doBuy 274 = .ok (.isub, 1) := by decide +kernel
theorem dX6_doBuy_275 : decode cX6_doBuy 275 = .ok (.ireturn, 1) := by decide +kernel
theorem dX6_isFew_0 : decode cX6_isFew 0 = .ok (.iload_n 0, 1) := by decide +kernel
theorem dX6_isFew_1 : decode cX6_isFew 1 = .ok (.iconst 0, 1) := by decide +kernel
theorem dX6_isFew_2 : decode cX6_isFew 2 = .ok (.bipush 9, 2) := by decide +kernel
theorem dX6_isFew_4 : decode cX6_isFew 4 = .ok (.invokestatic 62, 3) := by decide +kernel
theorem dX6_isFew_7 : decode cX6_isFew 7 = .ok (.ireturn, 1) := by decide +kernel
theorem dX6_lays_0 : decode cX6_lays 0 = .ok (.aload_n 0, 1) := by decide +kernel
theorem dX6_lays_1 : decode cX6_lays 1 = .ok (.getfield 28, 3) := by decide +kernel
theorem dX6_lays_4 : decode cX6_lays 4 = .ok (.iconst 0, 1) := by decide +kernel
theorem dX6_lays_5 : decode cX6_lays 5 = .ok (.iload_n 1, 1) := by decide +kernel
theorem dX6_lays_6 : decode cX6_lays 6 = .ok (.iastore, 1) := by decide +kernel
theorem dX6_lays_7 : decode cX6_lays 7 = .ok (.aload_n 0, 1) := by decide +kernel
theorem dX6_lays_8 : decode cX6_lays 8 = .ok (.getfield 28, 3) := by decide +kernel
theorem dX6_lays_11 : decode cX6_lays 11 = .ok (.iconst 1, 1) := by decide +kernel
theorem dX6_lays_12 : decode cX6_lays 12 = .ok (.iload_n 2, 1) := by decide +kernel
theorem dX6_lays_13 : decode cX6_lays 13 = .ok (.iastore, 1) := by decide +kernel
theorem dX6_lays_14 : decode cX6_lays 14 = .ok (.aload_n 0, 1) := by decide +kernel
theorem dX6_lays_15 : decode cX6_lays 15 = .ok (.getfield 28, 3) := by decide +kernel
theorem dX6_lays_18 : decode cX6_lays 18 = .ok (.iconst 2, 1) := by decide +kernel
theorem dX6_lays_19 : decode cX6_lays 19 = .ok (.iload_n 3, 1) := by decide +kernel
theorem dX6_lays_20 : decode cX6_lays 20 = .ok (.iastore, 1) := by decide +kernel
theorem dX6_lays_21 : decode cX6_lays 21 = .ok (.aload_n 0, 1) := by decide +kernel
theorem dX6_lays_22 : decode cX6_lays 22 = .ok (.getfield 28, 3) := by decide +kernel
theorem dX6_lays_25 : decode cX6_lays 25 = .ok (.iconst 3, 1) := by decide +kernel
theorem dX6_lays_26 : decode cX6_lays 26 = .ok (.iload 4, 2) := by decide +kernel
theorem dX6_lays_28 : decode cX6_lays 28 = .ok (.iastore, 1) := by decide +kernel
theorem dX6_lays_29 : decode cX6_lays 29 = .ok (.return_, 1) := by decide +kernel
theorem dX6_buy_0 : decode cX6_buy 0 = .ok (.aload_n 0, 1) := by decide +kernel
theorem dX6_buy_1 : decode cX6_buy 1 = .ok (.invokevirtual 76, 3) := by decide +kernel
theorem dX6_buy_4 : decode cX6_buy 4 = .ok (.aload_n 0, 1) := by decide +kernel
theorem dX6_buy_5 : decode cX6_buy 5 = .ok (.iload_n 1, 1) := by decide +kernel
theorem dX6_buy_6 : decode cX6_buy 6 = .ok (.invokevirtual 96, 3) := by decide +kernel
theorem dX6_buy_9 : decode cX6_buy 9 = .ok (.ifCond .ne 13, 3) := by decide +kernel
theorem dX6_buy_12 : decode cX6_buy 12 = .ok (.aload_n 0, 1) := by decide +kernel
theorem dX6_buy_13 : decode cX6_buy 13 = .ok (.aload_n 0, 1) := by decide +kernel
theorem dX6_buy_14 : decode cX6_buy 14 = .ok (.iconst 1, 1) := by decide +kernel
theorem dX6_buy_15 : decode cX6_buy 15 = .ok (.invokevirtual 82, 3) := by decide +kernel
theorem dX6_buy_18 : decode cX6_buy 18 = .ok (.invokevirtual 85, 3) := by decide +kernel
theorem dX6_buy_21 : decode cX6_buy 21 = .ok (.ireturn, 1) := by decide +kernel
theorem dX6_buy_22 : decode cX6_buy 22 = .ok (.iload_n 2, 1) := by decide +kernel
theorem dX6_buy_23 : decode cX6_buy 23 = .ok (.invokestatic 127, 3) := by decide +kernel
theorem dX6_buy_26 : decode cX6_buy 26 = .ok (.ifCond .eq 26, 3) := by decide +kernel
theorem dX6_buy_29 : decode cX6_buy 29 = .ok (.iload_n 3, 1) := by decide +kernel
theorem dX6_buy_30 : decode cX6_buy 30 = .ok (.invokestatic 127, 3) := by decide +kernel
theorem dX6_buy_33 : decode cX6_buy 33 = .ok (.ifCond .eq 19, 3) := by decide +kernel
theorem dX6_buy_36 : decode cX6_buy 36 = .ok (.iload 4, 2) := by decide +kernel
theorem dX6_buy_38 : decode cX6_buy 38 = .ok (.invokestatic 127, 3) := by decide +kernel
theorem dX6_buy_41 : decode cX6_buy 41 = .ok (.ifCond .eq 11, 3) := by decide +kernel
theorem dX6_buy_44 : decode cX6_buy 44 = .ok (.iload 5, 2) := by decide +kernel
theorem dX6_buy_46 : decode cX6_buy 46 = .ok (.invokestatic 127, 3) := by decide +kernel
theorem dX6_buy_49 : decode cX6_buy 49 = .ok (.ifCond .ne 13, 3) := by decide +kernel
theorem dX6_buy_52 : decode cX6_buy 52 = .ok (.aload_n 0, 1) := by decide +kernel
theorem dX6_buy_53 : decode cX6_buy 53 = .ok (.aload_n 0, 1) := by decide +kernel
theorem dX6_buy_54 : decode cX6_buy 54 = .ok (.iconst 2, 1) := by decide +kernel
theorem dX6_buy_55 : decode cX6_buy 55 = .ok (.invokevirtual 82, 3) := by decide +kernel
theorem dX6_buy_58 : decode cX6_buy 58 = .ok (.invokevirtual 85, 3) := by decide +kernel
theorem dX6_buy_61 : decode cX6_buy 61 = .ok (.ireturn, 1) := by decide +kernel
theorem dX6_buy_62 : decode cX6_buy 62 = .ok (.aload_n 0, 1) := by decide +kernel
theorem dX6_buy_63 : decode cX6_buy 63 = .ok (.iload_n 2, 1) := by decide +kernel
theorem dX6_buy_64 : decode cX6_buy 64 = .ok (.iload_n 3, 1) := by decide +kernel
theorem dX6_buy_65 : decode cX6_buy 65 = .ok (.iload 4, 2) := by decide +kernel
theorem dX6_buy_67 : decode cX6_buy 67 = .ok (.iload 5, 2) := by decide +kernel
theorem dX6_buy_69 : decode cX6_buy 69 = .ok (.invokevirtual 130, 3) := by decide +kernel
theorem dX6_buy_72 : decode cX6_buy 72 = .ok (.aload_n 0, 1) := by decide +kernel
theorem dX6_buy_73 : decode cX6_buy 73 = .ok (.aload_n 0, 1) := by decide +kernel
theorem dX6_buy_74 : decode cX6_buy 74 = .ok (.iload_n 1, 1) := by decide +kernel
theorem dX6_buy_75 : decode cX6_buy 75 = .ok (.invokevirtual 134, 3) := by decide +kernel
theorem dX6_buy_78 : decode cX6_buy 78 = .ok (.invokevirtual 85, 3) := by decide +kernel
theorem dX6_buy_81 : decode cX6_buy 81 = .ok (.ireturn, 1) := by decide +kernel
theorem dX6_look_0 : decode cX6_look 0 = .ok (.aload_n 0, 1) := by decide +kernel
theorem dX6_look_1 : decode cX6_look 1 = .ok (.invokevirtual 76, 3) := by decide +kernel
theorem dX6_look_4 : decode cX6_look 4 = .ok (.aload_n 0, 1) := by decide +kernel
theorem dX6_look_5 : decode cX6_look 5 = .ok (.iload_n 1, 1) := by decide +kernel
theorem dX6_look_6 : decode cX6_look 6 = .ok (.invokevirtual 96, 3) := by decide +kernel
theorem dX6_look_9 : decode cX6_look 9 = .ok (.ifCond .ne 13, 3) := by decide +kernel
theorem dX6_look_12 : decode cX6_look 12 = .ok (.aload_n 0, 1) := by decide +kernel
theorem dX6_look_13 : decode cX6_look 13 = .ok (.aload_n 0, 1) := by decide +kernel
theorem dX6_look_14 : decode cX6_look 14 = .ok (.iconst 1, 1) := by decide +kernel
theorem dX6_look_15 : decode cX6_look 15 = .ok (.invokevirtual 82, 3) := by decide +kernel
theorem dX6_look_18 : decode cX6_look 18 = .ok (.invokevirtual 85, 3) := by decide +kernel
theorem dX6_look_21 : decode cX6_look 21 = .ok (.ireturn, 1) := by decide +kernel
theorem dX6_look_22 : decode cX6_look 22 = .ok (.aload_n 0, 1) := by decide +kernel
theorem dX6_look_23 : decode cX6_look 23 = .ok (.iload_n 1, 1) := by decide +kernel
theorem dX6_look_24 : decode cX6_look 24 = .ok (.bipush 10, 2) := by decide +kernel
theorem dX6_look_26 : decode cX6_look 26 = .ok (.aload_n 0, 1) := by decide +kernel
theorem dX6_look_27 : decode cX6_look 27 = .ok (.iload_n 1, 1) := by decide +kernel
theorem dX6_look_28 : decode cX6_look 28 = .ok (.bipush 10, 2) := by decide +kernel
theorem dX6_look_30 : decode cX6_look 30 = .ok (.invokevirtual 100, 3) := by decide +kernel
theorem dX6_look_33 : decode cX6_look 33 = .ok (.invokestatic 121, 3) := by decide +kernel
theorem dX6_look_36 : decode cX6_look 36 = .ok (.ldc 137, 2) := by decide +kernel
theorem dX6_look_38 : decode cX6_look 38 = .ok (.fadd, 1) := by decide +kernel
theorem dX6_look_39 : decode cX6_look 39 = .ok (.invokestatic 124, 3) := by decide +kernel
theorem dX6_look_42 : decode cX6_look 42 = .ok (.invokevirtual 92, 3) := by decide +kernel
theorem dX6_look_45 : decode cX6_look 45 = .ok (.aload_n 0, 1) := by decide +kernel
theorem dX6_look_46 : decode cX6_look 46 = .ok (.aload_n 0, 1) := by decide +kernel
theorem dX6_look_47 : decode cX6_look 47 = .ok (.iload_n 1, 1) := by decide +kernel
theorem dX6_look_48 : decode cX6_look 48 = .ok (.iconst 2, 1) := by decide +kernel
theorem dX6_look_49 : decode cX6_look 49 = .ok (.invokevirtual 100, 3) := by decide +kernel
theorem dX6_look_52 : decode cX6_look 52 = .ok (.invokevirtual 85, 3) := by decide +kernel
theorem dX6_look_55 : decode cX6_look 55 = .ok (.ireturn, 1) := by decide +kernel
theorem dX6_setsPrice_0 : decode cX6_setsPrice 0 = .ok (.ldc 138, 2) := by decide +kernel
theorem dX6_setsPrice_2 : decode cX6_setsPrice 2 = .ok (.aload_n 0, 1) := by decide +kernel
theorem dX6_setsPrice_3 : decode cX6_setsPrice 3 = .ok (.iload_n 1, 1) := by decide +kernel
theorem dX6_setsPrice_4 : decode cX6_setsPrice 4 = .ok (.bipush 10, 2) := by decide +kernel
theorem dX6_setsPrice_6 : decode cX6_setsPrice 6 = .ok (.invokevirtual 100, 3) := by decide +kernel
theorem dX6_setsPrice_9 : decode cX6_setsPrice 9 = .ok (.invokestatic 121, 3) := by decide +kernel
theorem dX6_setsPrice_12 : decode cX6_setsPrice 12 = .ok (.fmul, 1) := by decide +kernel
theorem dX6_setsPrice_13 : decode cX6_setsPrice 13 = .ok (.fstore_n 2, 1) := by decide +kernel
theorem dX6_setsPrice_14 : decode cX6_setsPrice 14 = .ok (.fload_n 2, 1) := by decide +kernel
theorem dX6_setsPrice_15 : decode cX6_setsPrice 15 = .ok (.aload_n 0, 1) := by decide +kernel
theorem dX6_setsPrice_16 : decode cX6_setsPrice 16 = .ok (.getfield 7, 3) := by decide +kernel
theorem dX6_setsPrice_19 : decode cX6_setsPrice 19 = .ok (.iconst 0, 1) := by decide +kernel
theorem dX6_setsPrice_20 : decode cX6_setsPrice 20 = .ok (.iaload, 1) := by decide +kernel
theorem dX6_setsPrice_21 : decode cX6_setsPrice 21 = .ok (.i2f, 1) := by decide +kernel
theorem dX6_setsPrice_22 : decode cX6_setsPrice 22 = .ok (.fcmp .l, 1) := by decide +kernel
theorem dX6_setsPrice_23 : decode cX6_setsPrice 23 = .ok (.ifCond .lt 31, 3) := by decide +kernel
theorem dX6_setsPrice_26 : decode cX6_setsPrice 26 = .ok (.aload_n 0, 1) := by decide +kernel
theorem dX6_setsPrice_27 : decode cX6_setsPrice 27 = .ok (.iload_n 1, 1) := by decide +kernel
theorem dX6_setsPrice_28 : decode cX6_setsPrice 28 = .ok (.iconst 5, 1) := by decide +kernel
theorem dX6_setsPrice_29 : decode cX6_setsPrice 29 = .ok (.invokevirtual 100, 3) := by decide +kernel
theorem dX6_setsPrice_32 : decode cX6_setsPrice 32 = .ok (.ifCond .ne 22, 3) := by decide +kernel
theorem dX6_setsPrice_35 : decode cX6_setsPrice 35 = .ok (.aload_n 0, 1) := by decide +kernel
theorem dX6_setsPrice_36 : decode cX6_setsPrice 36 = .ok (.iload_n 1, 1) := by decide +kernel
theorem dX6_setsPrice_37 : decode cX6_setsPrice 37 = .ok (.iconst 2, 1) := by decide +kernel
theorem dX6_setsPrice_38 : decode cX6_setsPrice 38 = .ok (.invokevirtual 100, 3) := by decide +kernel
theorem dX6_setsPrice_41 : decode cX6_setsPrice 41 = .ok (.aload_n 0, 1) := by decide +kernel
theorem dX6_setsPrice_42 : decode cX6_setsPrice 42 = .ok (.iload_n 1, 1) := by decide +kernel
theorem dX6_setsPrice_43 : decode cX6_setsPrice 43 = .ok (.iconst 4, 1) := by decide +kernel
theorem dX6_setsPrice_44 : decode cX6_setsPrice 44 = .ok (.invokevirtual 100, 3) := by decide +kernel
theorem dX6_setsPrice_47 : decode cX6_setsPrice 47 = .ok (.if_icmp .ge 7, 3) := by decide +kernel
theorem dX6_setsPrice_50 : decode cX6_setsPrice 50 = .ok (.iconst 1, 1) := by decide +kernel
theorem dX6_setsPrice_51 : decode cX6_setsPrice 51 = .ok (.goto 4, 3) := by decide +kernel
theorem dX6_setsPrice_54 : decode cX6_setsPrice 54 = .ok (.iconst 0, 1) := by decide +kernel
theorem dX6_setsPrice_55 : decode cX6_setsPrice 55 = .ok (.istore_n 3, 1) := by decide +kernel
theorem dX6_setsPrice_56 : decode cX6_setsPrice 56 = .ok (.iload_n 3, 1) := by decide +kernel
theorem dX6_setsPrice_57 : decode cX6_setsPrice 57 = .ok (.ifCond .ne 34, 3) := by decide +kernel
theorem dX6_setsPrice_60 : decode cX6_setsPrice 60 = .ok (.fload_n 2, 1) := by decide +kernel
theorem dX6_setsPrice_61 : decode cX6_setsPrice 61 = .ok (.aload_n 0, 1) := by decide +kernel
theorem dX6_setsPrice_62 : decode cX6_setsPrice 62 = .ok (.getfield 7, 3) := by decide +kernel
theorem dX6_setsPrice_65 : decode cX6_setsPrice 65 = .ok (.iconst 1, 1) := by decide +kernel
theorem dX6_setsPrice_66 : decode cX6_setsPrice 66 = .ok (.iaload, 1) := by decide +kernel
theorem dX6_setsPrice_67 : decode cX6_setsPrice 67 = .ok (.i2f, 1) := by decide +kernel
theorem dX6_setsPrice_68 : decode cX6_setsPrice 68 = .ok (.fcmp .g, 1) := by decide +kernel
theorem dX6_setsPrice_69 : decode cX6_setsPrice 69 = .ok (.ifCond .ge 22, 3) := by decide +kernel
theorem dX6_setsPrice_72 : decode cX6_setsPrice 72 = .ok (.aload_n 0, 1) := by decide +kernel
theorem dX6_setsPrice_73 : decode cX6_setsPrice 73 = .ok (.iload_n 1, 1) := by decide +kernel
theorem dX6_setsPrice_74 : decode cX6_setsPrice 74 = .ok (.iconst 2, 1) := by decide +kernel
theorem dX6_setsPrice_75 : decode cX6_setsPrice 75 = .ok (.invokevirtual 100, 3) := by decide +kernel
theorem dX6_setsPrice_78 : decode cX6_setsPrice 78 = .ok (.aload_n 0, 1) := by decide +kernel
theorem dX6_setsPrice_79 : decode cX6_setsPrice 79 = .ok (.iload_n 1, 1) := by decide +kernel
theorem dX6_setsPrice_80 : decode cX6_setsPrice 80 = .ok (.iconst 3, 1) := by decide +kernel
theorem dX6_setsPrice_81 : decode cX6_setsPrice 81 = .ok (.invokevirtual 100, 3) := by decide +kernel
theorem dX6_setsPrice_84 : decode cX6_setsPrice 84 = .ok (.if_icmp .le 7, 3) := by decide +kernel
theorem dX6_setsPrice_87 : decode cX6_setsPrice 87 = .ok (.iconst 1, 1) := by decide +kernel
theorem dX6_setsPrice_88 : decode cX6_setsPrice 88 = .ok (.goto 4, 3) := by decide +kernel
theorem dX6_setsPrice_91 : decode cX6_setsPrice 91 = .ok (.iconst 0, 1) := by decide +kernel
theorem dX6_setsPrice_92 : decode cX6_setsPrice 92 = .ok (.istore 4, 2) := by decide +kernel
theorem dX6_setsPrice_94 : decode cX6_setsPrice 94 = .ok (.aload_n 0, 1) := by decide +kernel
theorem dX6_setsPrice_95 : decode cX6_setsPrice 95 = .ok (.iload_n 1, 1) := by decide +kernel
theorem dX6_setsPrice_96 : decode cX6_setsPrice 96 = .ok (.bipush 11, 2) := by decide +kernel
theorem dX6_setsPrice_98 : decode cX6_setsPrice 98 = .ok (.iload_n 3, 1) := by decide +kernel
theorem dX6_setsPrice_99 : decode cX6_setsPrice 99 = .ok (.ifCond .eq 7, 3) := by decide +kernel
theorem dX6_setsPrice_102 : decode cX6_setsPrice 102 = .ok (.iconst 1, 1) := by decide +kernel
theorem dX6_setsPrice_103 : decode cX6_setsPrice 103 = .ok (.goto 4, 3) := by decide +kernel
theorem dX6_setsPrice_106 : decode cX6_setsPrice 106 = .ok (.iconst 0, 1) := by decide +kernel
theorem dX6_setsPrice_107 : decode cX6_setsPrice 107 = .ok (.invokevirtual 92, 3) := by decide +kernel
theorem dX6_setsPrice_110 : decode cX6_setsPrice 110 = .ok (.aload_n 0, 1) := by decide +kernel
theorem dX6_setsPrice_111 : decode cX6_setsPrice 111 = .ok (.iload_n 1, 1) := by decide +kernel
theorem dX6_setsPrice_112 : decode cX6_setsPrice 112 = .ok (.bipush 8, 2) := by decide +kernel
theorem dX6_setsPrice_114 : decode cX6_setsPrice 114 = .ok (.aload_n 0, 1) := by decide +kernel
theorem dX6_setsPrice_115 : decode cX6_setsPrice 115 = .ok (.iload_n 1, 1) := by decide +kernel
theorem dX6_setsPrice_116 : decode cX6_setsPrice 116 = .ok (.bipush 8, 2) := by decide +kernel
theorem dX6_setsPrice_118 : decode cX6_setsPrice 118 = .ok (.invokevirtual 100, 3) := by decide +kernel
theorem dX6_setsPrice_121 : decode cX6_setsPrice 121 = .ok (.aload_n 0, 1) := by decide +kernel
theorem dX6_setsPrice_122 : decode cX6_setsPrice 122 = .ok (.iload_n 1, 1) := by decide +kernel
theorem dX6_setsPrice_123 : decode cX6_setsPrice 123 = .ok (.bipush 11, 2) := by decide +kernel
theorem dX6_setsPrice_125 : decode cX6_setsPrice 125 = .ok (.invokevirtual 100, 3) := by decide +kernel
theorem dX6_setsPrice_128 : decode cX6_setsPrice 128 = .ok (.iadd, 1) := by decide +kernel
theorem dX6_setsPrice_129 : decode cX6_setsPrice 129 = .ok (.invokevirtual 92, 3) := by decide +kernel
theorem dX6_setsPrice_132 : decode cX6_setsPrice 132 = .ok (.aload_n 0, 1) := by decide +kernel
theorem dX6_setsPrice_133 : decode cX6_setsPrice 133 = .ok (.iload_n 1, 1) := by decide +kernel
theorem dX6_setsPrice_134 : decode cX6_setsPrice 134 = .ok (.iconst 2, 1) := by decide +kernel
theorem dX6_setsPrice_135 : decode cX6_setsPrice 135 = .ok (.aload_n 0, 1) := by decide +kernel
theorem dX6_setsPrice_136 : decode cX6_setsPrice 136 = .ok (.iload_n 1, 1) := by decide +kernel
theorem dX6_setsPrice_137 : decode cX6_setsPrice 137 = .ok (.iconst 2, 1) := by decide +kernel
theorem dX6_setsPrice_138 : decode cX6_setsPrice 138 = .ok (.invokevirtual 100, 3) := by decide +kernel
theorem dX6_setsPrice_141 : decode cX6_setsPrice 141 = .ok (.iload_n 3, 1) := by decide +kernel
theorem dX6_setsPrice_142 : decode cX6_setsPrice 142 = .ok (.ifCond .eq 7, 3) := by decide +kernel
theorem dX6_setsPrice_145 : decode cX6_setsPrice 145 = .ok (.iconst 5, 1) := by decide +kernel
theorem dX6_setsPrice_146 : decode cX6_setsPrice 146 = .ok (.goto 14, 3) := by decide +kernel
theorem dX6_setsPrice_149 : decode cX6_setsPrice 149 = .ok (.iload 4, 2) := by decide +kernel
theorem dX6_setsPrice_151 : decode cX6_setsPrice 151 = .ok (.ifCond .eq 8, 3) := by decide +kernel
theorem dX6_setsPrice_154 : decode cX6_setsPrice 154 = .ok (.bipush (-5), 2) := by decide +kernel
theorem dX6_setsPrice_156 : decode cX6_setsPrice 156 = .ok (.goto 4, 3) := by decide +kernel
theorem dX6_setsPrice_159 : decode cX6_setsPrice 159 = .ok (.iconst 0, 1) := by decide +kernel
theorem dX6_setsPrice_160 : decode cX6_setsPrice 160 = .ok (.iadd, 1) := by decide +kernel
theorem dX6_setsPrice_161 : decode cX6_setsPrice 161 = .ok (.invokevirtual 92, 3) := by decide +kernel
theorem dX6_setsPrice_164 : decode cX6_setsPrice 164 = .ok (.return_, 1) := by decide +kernel
theorem dX6_isFined_0 : decode cX6_isFined 0 = .ok (.aload_n 0, 1) := by decide +kernel
theorem dX6_isFined_1 : decode cX6_isFined 1 = .ok (.iload_n 1, 1) := by decide +kernel
theorem dX6_isFined_2 : decode cX6_isFined 2 = .ok (.iconst 2, 1) := by decide +kernel
theorem dX6_isFined_3 : decode cX6_isFined 3 = .ok (.invokevirtual 100, 3) := by decide +kernel
theorem dX6_isFined_6 : decode cX6_isFined 6 = .ok (.aload_n 0, 1) := by decide +kernel
theorem dX6_isFined_7 : decode cX6_isFined 7 = .ok (.getfield 7, 3) := by decide +kernel
theorem dX6_isFined_10 : decode cX6_isFined 10 = .ok (.iconst 4, 1) := by decide +kernel
theorem dX6_isFined_11 : decode cX6_isFined 11 = .ok (.iaload, 1) := by decide +kernel
theorem dX6_isFined_12 : decode cX6_isFined 12 = .ok (.isub, 1) := by decide +kernel
theorem dX6_isFined_13 : decode cX6_isFined 13 = .ok (.istore_n 2, 1) := by decide +kernel
theorem dX6_isFined_14 : decode cX6_isFined 14 = .ok (.aload_n 0, 1) := by decide +kernel
theorem dX6_isFined_15 : decode cX6_isFined 15 = .ok (.iload_n 1, 1) := by decide +kernel
theorem dX6_isFined_16 : decode cX6_isFined 16 = .ok (.iconst 2, 1) := by decide +kernel
theorem dX6_isFined_17 : decode cX6_isFined 17 = .ok (.iload_n 2, 1) := by decide +kernel
theorem dX6_isFined_18 : decode cX6_isFined 18 = .ok (.aload_n 0, 1) := by decide +kernel
theorem dX6_isFined_19 : decode cX6_isFined 19 = .ok (.iload_n 1, 1) := by decide +kernel
theorem dX6_isFined_20 : decode cX6_isFined 20 = .ok (.iconst 3, 1) := by decide +kernel
theorem dX6_isFined_21 : decode cX6_isFined 21 = .ok (.invokevirtual 100, 3) := by decide +kernel
theorem dX6_isFined_24 : decode cX6_isFined 24 = .ok (.if_icmp .ge 12, 3) := by decide +kernel
theorem dX6_isFined_27 : decode cX6_isFined 27 = .ok (.aload_n 0, 1) := by decide +kernel
theorem dX6_isFined_28 : decode cX6_isFined 28 = .ok (.iload_n 1, 1) := by decide +kernel
theorem dX6_isFined_29 : decode cX6_isFined 29 = .ok (.iconst 3, 1) := by decide +kernel
theorem dX6_isFined_30 : decode cX6_isFined 30 = .ok (.invokevirtual 100, 3) := by decide +kernel
theorem dX6_isFined_33 : decode cX6_isFined 33 = .ok (.goto 4, 3) := by decide +kernel
theorem dX6_isFined_36 : decode cX6_isFined 36 = .ok (.iload_n 2, 1) := by decide +kernel
theorem dX6_isFined_37 : decode cX6_isFined 37 = .ok (.invokevirtual 92, 3) := by decide +kernel
theorem dX6_isFined_40 : decode cX6_isFined 40 = .ok (.aload_n 0, 1) := by decide +kernel
theorem dX6_isFined_41 : decode cX6_isFined 41 = .ok (.iload_n 1, 1) := by decide +kernel
theorem dX6_isFined_42 : decode cX6_isFined 42 = .ok (.iconst 5, 1) := by decide +kernel
theorem dX6_isFined_43 : decode cX6_isFined 43 = .ok (.iconst 3, 1) := by decide +kernel
theorem dX6_isFined_44 : decode cX6_isFined 44 = .ok (.invokevirtual 92, 3) := by decide +kernel
theorem dX6_isFined_47 : decode cX6_isFined 47 = .ok (.return_, 1) := by decide +kernel
theorem dX6_hour_0 : decode cX6_hour 0 = .ok (.iconst 0, 1) := by decide +kernel
theorem dX6_hour_1 : decode cX6_hour 1 = .ok (.istore_n 1, 1) := by decide +kernel
theorem dX6_hour_2 : decode cX6_hour 2 = .ok (.iconst 0, 1) := by decide +kernel
theorem dX6_hour_3 : decode cX6_hour 3 = .ok (.istore_n 2, 1) := by decide +kernel
theorem dX6_hour_4 : decode cX6_hour 4 = .ok (.iload_n 2, 1) := by decide +kernel
theorem dX6_hour_5 : decode cX6_hour 5 = .ok (.aload_n 0, 1) := by decide +kernel
theorem dX6_hour_6 : decode cX6_hour 6 = .ok (.getfield 7, 3) := by decide +kernel
theorem dX6_hour_9 : decode cX6_hour 9 = .ok (.bipush 13, 2) := by decide +kernel
theorem dX6_hour_11 : decode cX6_hour 11 = .ok (.iaload, 1) := by decide +kernel
theorem dX6_hour_12 : decode cX6_hour 12 = .ok (.if_icmp .ge 14, 3) := by decide +kernel
theorem dX6_hour_15 : decode cX6_hour 15 = .ok (.aload_n 0, 1) := by decide +kernel
theorem dX6_hour_16 : decode cX6_hour 16 = .ok (.iload_n 2, 1) := by decide +kernel
theorem dX6_hour_17 : decode cX6_hour 17 = .ok (.invokevirtual 139, 3) := by decide +kernel
theorem dX6_hour_20 : decode cX6_hour 20 = .ok (.iinc 2 1, 3) := by decide +kernel
theorem dX6_hour_23 : decode cX6_hour 23 = .ok (.goto (-19), 3) := by decide +kernel
theorem dX6_hour_26 : decode cX6_hour 26 = .ok (.iconst 0, 1) := by decide +kernel
theorem dX6_hour_27 : decode cX6_hour 27 = .ok (.istore_n 2, 1) := by decide +kernel
theorem dX6_hour_28 : decode cX6_hour 28 = .ok (.iload_n 2, 1) := by decide +kernel
theorem dX6_hour_29 : decode cX6_hour 29 = .ok (.aload_n 0, 1) := by decide +kernel
theorem dX6_hour_30 : decode cX6_hour 30 = .ok (.getfield 7, 3) := by decide +kernel
theorem dX6_hour_33 : decode cX6_hour 33 = .ok (.bipush 13, 2) := by decide +kernel
theorem dX6_hour_35 : decode cX6_hour 35 = .ok (.iaload, 1) := by decide +kernel
theorem dX6_hour_36 : decode cX6_hour 36 = .ok (.if_icmp .ge 36, 3) := by decide +kernel
theorem dX6_hour_39 : decode cX6_hour 39 = .ok (.aload_n 0, 1) := by decide +kernel
theorem dX6_hour_40 : decode cX6_hour 40 = .ok (.iload_n 2, 1) := by decide +kernel
theorem dX6_hour_41 : decode cX6_hour 41 = .ok (.iconst 5, 1) := by decide +kernel
theorem dX6_hour_42 : decode cX6_hour 42 = .ok (.aload_n 0, 1) := by decide +kernel
theorem dX6_hour_43 : decode cX6_hour 43 = .ok (.iload_n 2, 1) := by decide +kernel
theorem dX6_hour_44 : decode cX6_hour 44 = .ok (.iconst 5, 1) := by decide +kernel
theorem dX6_hour_45 : decode cX6_hour 45 = .ok (.invokevirtual 100, 3) := by decide +kernel
theorem dX6_hour_48 : decode cX6_hour 48 = .ok (.ifCond .le 14, 3) := by decide +kernel
theorem dX6_hour_51 : decode cX6_hour 51 = .ok (.aload_n 0, 1) := by decide +kernel
theorem dX6_hour_52 : decode cX6_hour 52 = .ok (.iload_n 2, 1) := by decide +kernel
theorem dX6_hour_53 : decode cX6_hour 53 = .ok (.iconst 5, 1) := by decide +kernel
theorem dX6_hour_54 : decode cX6_hour 54 = .ok (.invokevirtual 100, 3) := by decide +kernel
theorem dX6_hour_57 : decode cX6_hour 57 = .ok (.iconst 1, 1) := by decide +kernel
theorem dX6_hour_58 : decode cX6_hour 58 = .ok (.isub, 1) := by decide +kernel
theorem dX6_hour_59 : decode cX6_hour 59 = .ok (.goto 4, 3) := by decide +kernel
theorem dX6_hour_62 : decode cX6_hour 62 = .ok (.iconst 0, 1) := by decide +kernel
theorem dX6_hour_63 : decode cX6_hour 63 = .ok (.invokevirtual 92, 3) := by decide +kernel
theorem dX6_hour_66 : decode cX6_hour 66 = .ok (.iinc 2 1, 3) := by decide +kernel
theorem dX6_hour_69 : decode cX6_hour 69 = .ok (.goto (-41), 3) := by decide +kernel
theorem dX6_hour_72 : decode cX6_hour 72 = .ok (.iconst 0, 1) := by decide +kernel
theorem dX6_hour_73 : decode cX6_hour 73 = .ok (.istore_n 2, 1) := by decide +kernel
theorem dX6_hour_74 : decode cX6_hour 74 = .ok (.iload_n 2, 1) := by decide +kernel
theorem dX6_hour_75 : decode cX6_hour 75 = .ok (.iconst 1, 1) := by decide +kernel
theorem dX6_hour_76 : decode cX6_hour 76 = .ok (.iadd, 1) := by decide +kernel
theorem dX6_hour_77 : decode cX6_hour 77 = .ok (.aload_n 0, 1) := by decide +kernel
theorem dX6_hour_78 : decode cX6_hour 78 = .ok (.getfield 7, 3) := by decide +kernel
theorem dX6_hour_81 : decode cX6_hour 81 = .ok (.bipush 13, 2) := by decide +kernel
theorem dX6_hour_83 : decode cX6_hour 83 = .ok (.iaload, 1) := by decide +kernel
theorem dX6_hour_84 : decode cX6_hour 84 = .ok (.if_icmp .ge 101, 3) := by decide +kernel
theorem dX6_hour_87 : decode cX6_hour 87 = .ok (.aload_n 0, 1) := by decide +kernel
theorem dX6_hour_88 : decode cX6_hour 88 = .ok (.iload_n 2, 1) := by decide +kernel
theorem dX6_hour_89 : decode cX6_hour 89 = .ok (.iconst 0, 1) := by decide +kernel
theorem dX6_hour_90 : decode cX6_hour 90 = .ok (.invokevirtual 100, 3) := by decide +kernel
theorem dX6_hour_93 : decode cX6_hour 93 = .ok (.aload_n 0, 1) := by decide +kernel
theorem dX6_hour_94 : decode cX6_hour 94 = .ok (.iload_n 2, 1) := by decide +kernel
theorem dX6_hour_95 : decode cX6_hour 95 = .ok (.iconst 1, 1) := by decide +kernel
theorem dX6_hour_96 : decode cX6_hour 96 = .ok (.iadd, 1) := by decide +kernel
theorem dX6_hour_97 : decode cX6_hour 97 = .ok (.iconst 0, 1) := by decide +kernel
theorem dX6_hour_98 : decode cX6_hour 98 = .ok (.invokevirtual 100, 3) := by decide +kernel
theorem dX6_hour_101 : decode cX6_hour 101 = .ok (.if_icmp .ne 78, 3) := by decide +kernel
theorem dX6_hour_104 : decode cX6_hour 104 = .ok (.aload_n 0, 1) := by decide +kernel
theorem dX6_hour_105 : decode cX6_hour 105 = .ok (.iload_n 2, 1) := by decide +kernel
theorem dX6_hour_106 : decode cX6_hour 106 = .ok (.bipush 11, 2) := by decide +kernel
theorem dX6_hour_108 : decode cX6_hour 108 = .ok (.invokevirtual 100, 3) := by decide +kernel
theorem dX6_hour_111 : decode cX6_hour 111 = .ok (.iconst 1, 1) := by decide +kernel
theorem dX6_hour_112 : decode cX6_hour 112 = .ok (.if_icmp .ne 28, 3) := by decide +kernel
theorem dX6_hour_115 : decode cX6_hour 115 = .ok (.aload_n 0, 1) := by decide +kernel
theorem dX6_hour_116 : decode cX6_hour 116 = .ok (.iload_n 2, 1) := by decide +kernel
theorem dX6_hour_117 : decode cX6_hour 117 = .ok (.iconst 1, 1) := by decide +kernel
theorem dX6_hour_118 : decode cX6_hour 118 = .ok (.iadd, 1) := by decide +kernel
theorem dX6_hour_119 : decode cX6_hour 119 = .ok (.bipush 11, 2) := by decide +kernel
theorem dX6_hour_121 : decode cX6_hour 121 = .ok (.invokevirtual 100, 3) := by decide +kernel
theorem dX6_hour_124 : decode cX6_hour 124 = .ok (.iconst 1, 1) := by decide +kernel
theorem dX6_hour_125 : decode cX6_hour 125 = .ok (.if_icmp .ne 15, 3) := by decide +kernel
theorem dX6_hour_128 : decode cX6_hour 128 = .ok (.aload_n 0, 1) := by decide +kernel
theorem dX6_hour_129 : decode cX6_hour 129 = .ok (.iload_n 2, 1) := by decide +kernel
theorem dX6_hour_130 : decode cX6_hour 130 = .ok (.bipush 9, 2) := by decide +kernel
theorem dX6_hour_132 : decode cX6_hour 132 = .ok (.invokevirtual 100, 3) := by decide +kernel
theorem dX6_hour_135 : decode cX6_hour 135 = .ok (.iconst 1, 1) := by decide +kernel
theorem dX6_hour_136 : decode cX6_hour 136 = .ok (.iadd, 1) := by decide +kernel
theorem dX6_hour_137 : decode cX6_hour 137 = .ok (.goto 4, 3) := by decide +kernel
theorem dX6_hour_140 : decode cX6_hour 140 = .ok (.iconst 0, 1) := by decide +kernel
theorem dX6_hour_141 : decode cX6_hour 141 = .ok (.istore_n 3, 1) := by decide +kernel
theorem dX6_hour_142 : decode cX6_hour 142 = .ok (.aload_n 0, 1) := by decide +kernel
theorem dX6_hour_143 : decode cX6_hour 143 = .ok (.iload_n 2, 1) := by decide +kernel
theorem dX6_hour_144 : decode cX6_hour 144 = .ok (.bipush 9, 2) := by decide +kernel
theorem dX6_hour_146 : decode cX6_hour 146 = .ok (.iload_n 3, 1) := by decide +kernel
theorem dX6_hour_147 : decode cX6_hour 147 = .ok (.iconst 2, 1) := by decide +kernel
theorem dX6_hour_148 : decode cX6_hour 148 = .ok (.if_icmp .ne 7, 3) := by decide +kernel
theorem dX6_hour_151 : decode cX6_hour 151 = .ok (.iconst 0, 1) := by decide +kernel
theorem dX6_hour_152 : decode cX6_hour 152 = .ok (.goto 4, 3) := by decide +kernel
theorem dX6_hour_155 : decode cX6_hour 155 = .ok (.iload_n 3, 1) := by decide +kernel
theorem dX6_hour_156 : decode cX6_hour 156 = .ok (.invokevirtual 92, 3) := by decide +kernel
theorem dX6_hour_159 : decode cX6_hour 159 = .ok (.iload_n 3, 1) := by decide +kernel
theorem dX6_hour_160 : decode cX6_hour 160 = .ok (.iconst 2, 1) := by decide +kernel
theorem dX6_hour_161 : decode cX6_hour 161 = .ok (.if_icmp .ne 18, 3) := by decide +kernel
theorem dX6_hour_164 : decode cX6_hour 164 = .ok (.aload_n 0, 1) := by decide +kernel
theorem dX6_hour_165 : decode cX6_hour 165 = .ok (.iload_n 2, 1) := by decide +kernel
theorem dX6_hour_166 : decode cX6_hour 166 = .ok (.invokevirtual 143, 3) := by decide +kernel
theorem dX6_hour_169 : decode cX6_hour 169 = .ok (.aload_n 0, 1) := by decide +kernel
theorem dX6_hour_170 : decode cX6_hour 170 = .ok (.iload_n 2, 1) := by decide +kernel
theorem dX6_hour_171 : decode cX6_hour 171 = .ok (.iconst 1, 1) := by decide +kernel
theorem dX6_hour_172 : decode cX6_hour 172 = .ok (.iadd, 1) := by decide +kernel
theorem dX6_hour_173 : decode cX6_hour 173 = .ok (.invokevirtual 143, 3) := by decide +kernel
theorem dX6_hour_176 : decode cX6_hour 176 = .ok (.iinc 1 1, 3) := by decide +kernel
theorem dX6_hour_179 : decode cX6_hour 179 = .ok (.iinc 2 1, 3) := by decide +kernel
theorem dX6_hour_182 : decode cX6_hour 182 = .ok (.goto (-108), 3) := by decide +kernel
theorem dX6_hour_185 : decode cX6_hour 185 = .ok (.iconst 0, 1) := by decide +kernel
theorem dX6_hour_186 : decode cX6_hour 186 = .ok (.istore_n 2, 1) := by decide +kernel
theorem dX6_hour_187 : decode cX6_hour 187 = .ok (.iload_n 2, 1) := by decide +kernel
theorem dX6_hour_188 : decode cX6_hour 188 = .ok (.aload_n 0, 1) := by decide +kernel
theorem dX6_hour_189 : decode cX6_hour 189 = .ok (.getfield 7, 3) := by decide +kernel
theorem dX6_hour_192 : decode cX6_hour 192 = .ok (.bipush 13, 2) := by decide +kernel
theorem dX6_hour_194 : decode cX6_hour 194 = .ok (.iaload, 1) := by decide +kernel
theorem dX6_hour_195 : decode cX6_hour 195 = .ok (.if_icmp .ge 40, 3) := by decide +kernel
theorem dX6_hour_198 : decode cX6_hour 198 = .ok (.aload_n 0, 1) := by decide +kernel
theorem dX6_hour_199 : decode cX6_hour 199 = .ok (.iload_n 2, 1) := by decide +kernel
theorem dX6_hour_200 : decode cX6_hour 200 = .ok (.bipush 10, 2) := by decide +kernel
theorem dX6_hour_202 : decode cX6_hour 202 = .ok (.aload_n 0, 1) := by decide +kernel
theorem dX6_hour_203 : decode cX6_hour 203 = .ok (.iload_n 2, 1) := by decide +kernel
theorem dX6_hour_204 : decode cX6_hour 204 = .ok (.bipush 10, 2) := by decide +kernel
theorem dX6_hour_206 : decode cX6_hour 206 = .ok (.invokevirtual 100, 3) := by decide +kernel
theorem dX6_hour_209 : decode cX6_hour 209 = .ok (.invokestatic 121, 3) := by decide +kernel
theorem dX6_hour_212 : decode cX6_hour 212 = .ok (.aload_n 0, 1) := by decide +kernel
theorem dX6_hour_213 : decode cX6_hour 213 = .ok (.getfield 7, 3) := by decide +kernel
theorem dX6_hour_216 : decode cX6_hour 216 = .ok (.iconst 2, 1) := by decide +kernel
theorem dX6_hour_217 : decode cX6_hour 217 = .ok (.iaload, 1) := by decide +kernel
theorem dX6_hour_218 : decode cX6_hour 218 = .ok (.i2f, 1) := by decide +kernel
theorem dX6_hour_219 : decode cX6_hour 219 = .ok (.fmul, 1) := by decide +kernel
theorem dX6_hour_220 : decode cX6_hour 220 = .ok (.ldc 146, 2) := by decide +kernel
theorem dX6_hour_222 : decode cX6_hour 222 = .ok (.fdiv, 1) := by decide +kernel
theorem dX6_hour_223 : decode cX6_hour 223 = .ok (.invokestatic 124, 3) := by decide +kernel
theorem dX6_hour_226 : decode cX6_hour 226 = .ok (.invokevirtual 92, 3) := by decide +kernel
theorem dX6_hour_229 : decode cX6_hour 229 = .ok (.iinc 2 1, 3) := by decide +kernel
theorem dX6_hour_232 : decode cX6_hour 232 = .ok (.goto (-45), 3) := by decide +kernel
theorem dX6_hour_235 : decode cX6_hour 235 = .ok (.aload_n 0, 1) := by decide +kernel
theorem dX6_hour_236 : decode cX6_hour 236 = .ok (.getfield 7, 3) := by decide +kernel
theorem dX6_hour_239 : decode cX6_hour 239 = .ok (.bipush 10, 2) := by decide +kernel
theorem dX6_hour_241 : decode cX6_hour 241 = .ok (.dup2, 1) := by decide +kernel
theorem dX6_hour_242 : decode cX6_hour 242 = .ok (.iaload, 1) := by decide +kernel
theorem dX6_hour_243 : decode cX6_hour 243 = .ok (.iconst 1, 1) := by decide +kernel
theorem dX6_hour_244 : decode cX6_hour 244 = .ok (.iadd, 1) := by decide +kernel
theorem dX6_hour_245 : decode cX6_hour 245 = .ok (.iastore, 1) := by decide +kernel
theorem dX6_hour_246 : decode cX6_hour 246 = .ok (.aload_n 0, 1) := by decide +kernel
theorem dX6_hour_247 : decode cX6_hour 247 = .ok (.getfield 7, 3) := by decide +kernel
theorem dX6_hour_250 : decode cX6_hour 250 = .ok (.bipush 12, 2) := by decide +kernel
theorem dX6_hour_252 : decode cX6_hour 252 = .ok (.dup2, 1) := by decide +kernel
theorem dX6_hour_253 : decode cX6_hour 253 = .ok (.iaload, 1) := by decide +kernel
theorem dX6_hour_254 : decode cX6_hour 254 = .ok (.iload_n 1, 1) := by decide +kernel
theorem dX6_hour_255 : decode cX6_hour 255 = .ok (.iadd, 1) := by decide +kernel
theorem dX6_hour_256 : decode cX6_hour 256 = .ok (.iastore, 1) := by decide +kernel
theorem dX6_hour_257 : decode cX6_hour 257 = .ok (.iload_n 1, 1) := by decide +kernel
theorem dX6_hour_258 : decode cX6_hour 258 = .ok (.ireturn, 1) := by decide +kernel
theorem dX6_doPass_0 : decode cX6_doPass 0 = .ok (.iload_n 1, 1) := by decide +kernel
theorem dX6_doPass_1 : decode cX6_doPass 1 = .ok (.iconst 1, 1) := by decide +kernel
theorem dX6_doPass_2 : decode cX6_doPass 2 = .ok (.bipush 48, 2) := by decide +kernel
theorem dX6_doPass_4 : decode cX6_doPass 4 = .ok (.invokestatic 62, 3) := by decide +kernel
theorem dX6_doPass_7 : decode cX6_doPass 7 = .ok (.ifCond .ne 9, 3) := by decide +kernel
theorem dX6_doPass_10 : decode cX6_doPass 10 = .ok (.aload_n 0, 1) := by decide +kernel
theorem dX6_doPass_11 : decode cX6_doPass 11 = .ok (.iconst 1, 1) := by decide +kernel
theorem dX6_doPass_12 : decode cX6_doPass 12 = .ok (.invokevirtual 82, 3) := by decide +kernel
theorem dX6_doPass_15 : decode cX6_doPass 15 = .ok (.ireturn, 1) := by decide +kernel
theorem dX6_doPass_16 : decode cX6_doPass 16 = .ok (.aload_n 0, 1) := by decide +kernel
theorem dX6_doPass_17 : decode cX6_doPass 17 = .ok (.getfield 7, 3) := by decide +kernel
theorem dX6_doPass_20 : decode cX6_doPass 20 = .ok (.bipush 10, 2) := by decide +kernel
theorem dX6_doPass_22 : decode cX6_doPass 22 = .ok (.iaload, 1) := by decide +kernel
theorem dX6_doPass_23 : decode cX6_doPass 23 = .ok (.iload_n 1, 1) := by decide +kernel
theorem dX6_doPass_24 : decode cX6_doPass 24 = .ok (.iadd, 1) := by decide +kernel
theorem dX6_doPass_25 : decode cX6_doPass 25 = .ok (.ldc 147, 2) := by decide +kernel
theorem dX6_doPass_27 : decode cX6_doPass 27 = .ok (.if_icmp .le 9, 3) := by decide +kernel
theorem dX6_doPass_30 : decode cX6_doPass 30 = .ok (.aload_n 0, 1) := by decide +kernel
theorem dX6_doPass_31 : decode cX6_doPass 31 = .ok (.iconst 2, 1) := by decide +kernel
theorem dX6_doPass_32 : decode cX6_doPass 32 = .ok (.invokevirtual 82, 3) := by decide +kernel
theorem dX6_doPass_35 : decode cX6_doPass 35 = .ok (.ireturn, 1) := by decide +kernel
theorem dX6_doPass_36 : decode cX6_doPass 36 = .ok (.iconst 0, 1) := by decide +kernel
theorem dX6_doPass_37 : decode cX6_doPass 37 = .ok (.istore_n 2, 1) := by decide +kernel
theorem dX6_doPass_38 : decode cX6_doPass 38 = .ok (.iconst 0, 1) := by decide +kernel
theorem dX6_doPass_39 : decode cX6_doPass 39 = .ok (.istore_n 3, 1) := by decide +kernel
theorem dX6_doPass_40 : decode cX6_doPass 40 = .ok (.iload_n 3, 1) := by decide +kernel
theorem dX6_doPass_41 : decode cX6_doPass 41 = .ok (.iload_n 1, 1) := by decide +kernel
theorem dX6_doPass_42 : decode cX6_doPass 42 = .ok (.if_icmp .ge 16, 3) := by decide +kernel
theorem dX6_doPass_45 : decode cX6_doPass 45 = .ok (.iload_n 2, 1) := by decide +kernel
theorem dX6_doPass_46 : decode cX6_doPass 46 = .ok (.aload_n 0, 1) := by decide +kernel
theorem dX6_doPass_47 : decode cX6_doPass 47 = .ok (.invokevirtual 148, 3) := by decide +kernel
theorem dX6_doPass_50 : decode cX6_doPass 50 = .ok (.iadd, 1) := by decide +kernel
theorem dX6_doPass_51 : decode cX6_doPass 51 = .ok (.istore_n 2, 1) := by decide +kernel
theorem dX6_doPass_52 : decode cX6_doPass 52 = .ok (.iinc 3 1, 3) := by decide +kernel
theorem dX6_doPass_55 : decode cX6_doPass 55 = .ok (.goto (-15), 3) := by decide +kernel
theorem dX6_doPass_58 : decode cX6_doPass 58 = .ok (.iload_n 2, 1) := by decide +kernel
theorem dX6_doPass_59 : decode cX6_doPass 59 = .ok (.ireturn, 1) := by decide +kernel
theorem dX6_pass_0 : decode cX6_pass 0 = .ok (.aload_n 0, 1) := by decide +kernel
theorem dX6_pass_1 : decode cX6_pass 1 = .ok (.invokevirtual 76, 3) := by decide +kernel
theorem dX6_pass_4 : decode cX6_pass 4 = .ok (.aload_n 0, 1) := by decide +kernel
theorem dX6_pass_5 : decode cX6_pass 5 = .ok (.aload_n 0, 1) := by decide +kernel
theorem dX6_pass_6 : decode cX6_pass 6 = .ok (.iload_n 1, 1) := by decide +kernel
theorem dX6_pass_7 : decode cX6_pass 7 = .ok (.invokevirtual 151, 3) := by decide +kernel
theorem dX6_pass_10 : decode cX6_pass 10 = .ok (.invokevirtual 85, 3) := by decide +kernel
theorem dX6_pass_13 : decode cX6_pass 13 = .ok (.ireturn, 1) := by decide +kernel
theorem dX6_emptyBox_0 : decode cX6_emptyBox 0 = .ok (.aload_n 0, 1) := by decide +kernel
theorem dX6_emptyBox_1 : decode cX6_emptyBox 1 = .ok (.invokevirtual 76, 3) := by decide +kernel
theorem dX6_emptyBox_4 : decode cX6_emptyBox 4 = .ok (.aload_n 0, 1) := by decide +kernel
theorem dX6_emptyBox_5 : decode cX6_emptyBox 5 = .ok (.getfield 7, 3) := by decide +kernel
theorem dX6_emptyBox_8 : decode cX6_emptyBox 8 = .ok (.bipush 9, 2) := by decide +kernel
theorem dX6_emptyBox_10 : decode cX6_emptyBox 10 = .ok (.iaload, 1) := by decide +kernel
theorem dX6_emptyBox_11 : decode cX6_emptyBox 11 = .ok (.istore_n 1, 1) := by decide +kernel
theorem dX6_emptyBox_12 : decode cX6_emptyBox 12 = .ok (.aload_n 0, 1) := by decide +kernel
theorem dX6_emptyBox_13 : decode cX6_emptyBox 13 = .ok (.getfield 7, 3) := by decide +kernel
theorem dX6_emptyBox_16 : decode cX6_emptyBox 16 = .ok (.bipush 9, 2) := by decide +kernel
theorem dX6_emptyBox_18 : decode cX6_emptyBox 18 = .ok (.iconst 0, 1) := by decide +kernel
theorem dX6_emptyBox_19 : decode cX6_emptyBox 19 = .ok (.iastore, 1) := by decide +kernel
theorem dX6_emptyBox_20 : decode cX6_emptyBox 20 = .ok (.aload_n 0, 1) := by decide +kernel
theorem dX6_emptyBox_21 : decode cX6_emptyBox 21 = .ok (.iload_n 1, 1) := by decide +kernel
theorem dX6_emptyBox_22 : decode cX6_emptyBox 22 = .ok (.invokevirtual 85, 3) := by decide +kernel
theorem dX6_emptyBox_25 : decode cX6_emptyBox 25 = .ok (.ireturn, 1) := by decide +kernel
theorem dX6_coil_0 : decode cX6_coil 0 = .ok (.aload_n 0, 1) := by decide +kernel
theorem dX6_coil_1 : decode cX6_coil 1 = .ok (.iconst 0, 1) := by decide +kernel
theorem dX6_coil_2 : decode cX6_coil 2 = .ok (.putfield 38, 3) := by decide +kernel
theorem dX6_coil_5 : decode cX6_coil 5 = .ok (.aload_n 0, 1) := by decide +kernel
theorem dX6_coil_6 : decode cX6_coil 6 = .ok (.iload_n 1, 1) := by decide +kernel
theorem dX6_coil_7 : decode cX6_coil 7 = .ok (.invokevirtual 96, 3) := by decide +kernel
theorem dX6_coil_10 : decode cX6_coil 10 = .ok (.ifCond .ne 9, 3) := by decide +kernel
theorem dX6_coil_13 : decode cX6_coil 13 = .ok (.aload_n 0, 1) := by decide +kernel
theorem dX6_coil_14 : decode cX6_coil 14 = .ok (.iconst 1, 1) := by decide +kernel
theorem dX6_coil_15 : decode cX6_coil 15 = .ok (.invokevirtual 154, 3) := by decide +kernel
theorem dX6_coil_18 : decode cX6_coil 18 = .ok (.ireturn, 1) := by decide +kernel
theorem dX6_coil_19 : decode cX6_coil 19 = .ok (.iload_n 2, 1) := by decide +kernel
theorem dX6_coil_20 : decode cX6_coil 20 = .ok (.iconst 0, 1) := by decide +kernel
theorem dX6_coil_21 : decode cX6_coil 21 = .ok (.bipush 9, 2) := by decide +kernel
theorem dX6_coil_23 : decode cX6_coil 23 = .ok (.invokestatic 62, 3) := by decide +kernel
theorem dX6_coil_26 : decode cX6_coil 26 = .ok (.ifCond .eq 12, 3) := by decide +kernel
theorem dX6_coil_29 : decode cX6_coil 29 = .ok (.aload_n 0, 1) := by decide +kernel
theorem dX6_coil_30 : decode cX6_coil 30 = .ok (.iload_n 1, 1) := by decide +kernel
theorem dX6_coil_31 : decode cX6_coil 31 = .ok (.iload_n 2, 1) := by decide +kernel
theorem dX6_coil_32 : decode cX6_coil 32 = .ok (.invokevirtual 100, 3) := by decide +kernel
theorem dX6_coil_35 : decode cX6_coil 35 = .ok (.goto 8, 3) := by decide +kernel
theorem dX6_coil_38 : decode cX6_coil 38 = .ok (.aload_n 0, 1) := by decide +kernel
theorem dX6_coil_39 : decode cX6_coil 39 = .ok (.iconst 2, 1) := by decide +kernel
theorem dX6_coil_40 : decode cX6_coil 40 = .ok (.invokevirtual 154, 3) := by decide +kernel
theorem dX6_coil_43 : decode cX6_coil 43 = .ok (.ireturn, 1) := by decide +kernel
theorem dX6_demand_0 : decode cX6_demand 0 = .ok (.aload_n 0, 1) := by decide +kernel
theorem dX6_demand_1 : decode cX6_demand 1 = .ok (.aload_n 0, 1) := by decide +kernel
theorem dX6_demand_2 : decode cX6_demand 2 = .ok (.iload_n 1, 1) := by decide +kernel
theorem dX6_demand_3 : decode cX6_demand 3 = .ok (.invokevirtual 96, 3) := by decide +kernel
theorem dX6_demand_6 : decode cX6_demand 6 = .ok (.ifCond .eq 7, 3) := by decide +kernel
theorem dX6_demand_9 : decode cX6_demand 9 = .ok (.iconst 0, 1) := by decide +kernel
theorem dX6_demand_10 : decode cX6_demand 10 = .ok (.goto 4, 3) := by decide +kernel
theorem dX6_demand_13 : decode cX6_demand 13 = .ok (.iconst 1, 1) := by decide +kernel
theorem dX6_demand_14 : decode cX6_demand 14 = .ok (.putfield 38, 3) := by decide +kernel
theorem dX6_demand_17 : decode cX6_demand 17 = .ok (.aload_n 0, 1) := by decide +kernel
theorem dX6_demand_18 : decode cX6_demand 18 = .ok (.iload_n 1, 1) := by decide +kernel
theorem dX6_demand_19 : decode cX6_demand 19 = .ok (.invokevirtual 96, 3) := by decide +kernel
theorem dX6_demand_22 : decode cX6_demand 22 = .ok (.ifCond .eq 16, 3) := by decide +kernel
theorem dX6_demand_25 : decode cX6_demand 25 = .ok (.aload_n 0, 1) := by decide +kernel
theorem dX6_demand_26 : decode cX6_demand 26 = .ok (.iload_n 1, 1) := by decide +kernel
theorem dX6_demand_27 : decode cX6_demand 27 = .ok (.bipush 10, 2) := by decide +kernel
theorem dX6_demand_29 : decode cX6_demand 29 = .ok (.invokevirtual 100, 3) := by decide +kernel
theorem dX6_demand_32 : decode cX6_demand 32 = .ok (.invokestatic 121, 3) := by decide +kernel
theorem dX6_demand_35 : decode cX6_demand 35 = .ok (.goto 4, 3) := by decide +kernel
theorem dX6_demand_38 : decode cX6_demand 38 = .ok (.fconst 0, 1) := by decide +kernel
theorem dX6_demand_39 : decode cX6_demand 39 = .ok (.freturn, 1) := by decide +kernel
theorem dX6_tube_0 : decode cX6_tube 0 = .ok (.aload_n 0, 1) := by decide +kernel
theorem dX6_tube_1 : decode cX6_tube 1 = .ok (.iconst 0, 1) := by decide +kernel
theorem dX6_tube_2 : decode cX6_tube 2 = .ok (.putfield 38, 3) := by decide +kernel
theorem dX6_tube_5 : decode cX6_tube 5 = .ok (.iload_n 1, 1) := by decide +kernel
theorem dX6_tube_6 : decode cX6_tube 6 = .ok (.iconst 0, 1) := by decide +kernel
theorem dX6_tube_7 : decode cX6_tube 7 = .ok (.iconst 3, 1) := by decide +kernel
theorem dX6_tube_8 : decode cX6_tube 8 = .ok (.invokestatic 62, 3) := by decide +kernel
theorem dX6_tube_11 : decode cX6_tube 11 = .ok (.ifCond .eq 14, 3) := by decide +kernel
theorem dX6_tube_14 : decode cX6_tube 14 = .ok (.aload_n 0, 1) := by decide +kernel
theorem dX6_tube_15 : decode cX6_tube 15 = .ok (.getfield 7, 3) := by decide +kernel
theorem dX6_tube_18 : decode cX6_tube 18 = .ok (.iconst 5, 1) := by decide +kernel
theorem dX6_tube_19 : decode cX6_tube 19 = .ok (.iload_n 1, 1) := by decide +kernel
theorem dX6_tube_20 : decode cX6_tube 20 = .ok (.iadd, 1) := by decide +kernel
theorem dX6_tube_21 : decode cX6_tube 21 = .ok (.iaload, 1) := by decide +kernel
theorem dX6_tube_22 : decode cX6_tube 22 = .ok (.goto 8, 3) := by decide +kernel
theorem dX6_tube_25 : decode cX6_tube 25 = .ok (.aload_n 0, 1) := by decide +kernel
theorem dX6_tube_26 : decode cX6_tube 26 = .ok (.iconst 1, 1) := by decide +kernel
theorem dX6_tube_27 : decode cX6_tube 27 = .ok (.invokevirtual 154, 3) := by decide +kernel
theorem dX6_tube_30 : decode cX6_tube 30 = .ok (.ireturn, 1) := by decide +kernel
theorem dX6_money_0 : decode cX6_money 0 = .ok (.iconst 0, 1) := by decide +kernel
theorem dX6_money_1 : decode cX6_money 1 = .ok (.istore_n 1, 1) := by decide +kernel
theorem dX6_money_2 : decode cX6_money 2 = .ok (.iconst 0, 1) := by decide +kernel
theorem dX6_money_3 : decode cX6_money 3 = .ok (.istore_n 2, 1) := by decide +kernel
theorem dX6_money_4 : decode cX6_money 4 = .ok (.iload_n 2, 1) := by decide +kernel
theorem dX6_money_5 : decode cX6_money 5 = .ok (.iconst 4, 1) := by decide +kernel
theorem dX6_money_6 : decode cX6_money 6 = .ok (.if_icmp .ge 25, 3) := by decide +kernel
theorem dX6_money_9 : decode cX6_money 9 = .ok (.iload_n 1, 1) := by decide +kernel
theorem dX6_money_10 : decode cX6_money 10 = .ok (.aload_n 0, 1) := by decide +kernel
theorem dX6_money_11 : decode cX6_money 11 = .ok (.getfield 7, 3) := by decide +kernel
theorem dX6_money_14 : decode cX6_money 14 = .ok (.iconst 5, 1) := by decide +kernel
theorem dX6_money_15 : decode cX6_money 15 = .ok (.iload_n 2, 1) := by decide +kernel
theorem dX6_money_16 : decode cX6_money 16 = .ok (.iadd, 1) := by decide +kernel
theorem dX6_money_17 : decode cX6_money 17 = .ok (.iaload, 1) := by decide +kernel
theorem dX6_money_18 : decode cX6_money 18 = .ok (.iload_n 2, 1) := by decide +kernel
theorem dX6_money_19 : decode cX6_money 19 = .ok (.invokestatic 72, 3) := by decide +kernel
theorem dX6_money_22 : decode cX6_money 22 = .ok (.imul, 1) := by decide +kernel
theorem dX6_money_23 : decode cX6_money 23 = .ok (.iadd, 1) := by decide +kernel
theorem dX6_money_24 : decode cX6_money 24 = .ok (.istore_n 1, 1) := by decide +kernel
theorem dX6_money_25 : decode cX6_money 25 = .ok (.iinc 2 1, 3) := by decide +kernel
theorem dX6_money_28 : decode cX6_money 28 = .ok (.goto (-24), 3) := by decide +kernel
theorem dX6_money_31 : decode cX6_money 31 = .ok (.iload_n 1, 1) := by decide +kernel
theorem dX6_money_32 : decode cX6_money 32 = .ok (.ireturn, 1) := by decide +kernel
theorem dX6_inCoils_0 : decode cX6_inCoils 0 = .ok (.iconst 0, 1) := by decide +kernel
theorem dX6_inCoils_1 : decode cX6_inCoils 1 = .ok (.istore_n 2, 1) := by decide +kernel
theorem dX6_inCoils_2 : decode cX6_inCoils 2 = .ok (.iconst 0, 1) := by decide +kernel
theorem dX6_inCoils_3 : decode cX6_inCoils 3 = .ok (.istore_n 3, 1) := by decide +kernel
theorem dX6_inCoils_4 : decode cX6_inCoils 4 = .ok (.iload_n 3, 1) := by decide +kernel
theorem dX6_inCoils_5 : decode cX6_inCoils 5 = .ok (.aload_n 0, 1) := by decide +kernel
theorem dX6_inCoils_6 : decode cX6_inCoils 6 = .ok (.getfield 7, 3) := by decide +kernel
theorem dX6_inCoils_9 : decode cX6_inCoils 9 = .ok (.bipush 13, 2) := by decide +kernel
theorem dX6_inCoils_11 : decode cX6_inCoils 11 = .ok (.iaload, 1) := by decide +kernel
theorem dX6_inCoils_12 : decode cX6_inCoils 12 = .ok (.if_icmp .ge 18, 3) := by decide +kernel
theorem dX6_inCoils_15 : decode cX6_inCoils 15 = .ok (.iload_n 2, 1) := by decide +kernel
theorem dX6_inCoils_16 : decode cX6_inCoils 16 = .ok (.aload_n 0, 1) := by decide +kernel
theorem dX6_inCoils_17 : decode cX6_inCoils 17 = .ok (.iload_n 3, 1) := by decide +kernel
theorem dX6_inCoils_18 : decode cX6_inCoils 18 = .ok (.iload_n 1, 1) := by decide +kernel
theorem dX6_inCoils_19 : decode cX6_inCoils 19 = .ok (.invokevirtual 100, 3) := by decide +kernel
theorem dX6_inCoils_22 : decode cX6_inCoils 22 = .ok (.iadd, 1) := by decide +kernel
theorem dX6_inCoils_23 : decode cX6_inCoils 23 = .ok (.istore_n 2, 1) := by decide +kernel
theorem dX6_inCoils_24 : decode cX6_inCoils 24 = .ok (.iinc 3 1, 3) := by decide +kernel
theorem dX6_inCoils_27 : decode cX6_inCoils 27 = .ok (.goto (-23), 3) := by decide +kernel
theorem dX6_inCoils_30 : decode cX6_inCoils 30 = .ok (.iload_n 2, 1) := by decide +kernel
theorem dX6_inCoils_31 : decode cX6_inCoils 31 = .ok (.ireturn, 1) := by decide +kernel
theorem dX6_tell_0 : decode cX6_tell 0 = .ok (.iload_n 1, 1) := by decide +kernel
theorem dX6_tell_1 : decode cX6_tell 1 = .ok (.tableswitch 127 0 9 #[55, 63, 71, 76, 84, 92, 97, 105, 112, 119], 55) := by decide +kernel
theorem dX6_tell_56 : decode cX6_tell 56 = .ok (.aload_n 0, 1) := by decide +kernel
theorem dX6_tell_57 : decode cX6_tell 57 = .ok (.getfield 7, 3) := by decide +kernel
theorem dX6_tell_60 : decode cX6_tell 60 = .ok (.bipush 13, 2) := by decide +kernel
theorem dX6_tell_62 : decode cX6_tell 62 = .ok (.iaload, 1) := by decide +kernel
theorem dX6_tell_63 : decode cX6_tell 63 = .ok (.ireturn, 1) := by decide +kernel
theorem dX6_tell_64 : decode cX6_tell 64 = .ok (.aload_n 0, 1) := by decide +kernel
theorem dX6_tell_65 : decode cX6_tell 65 = .ok (.getfield 7, 3) := by decide +kernel
theorem dX6_tell_68 : decode cX6_tell 68 = .ok (.bipush 10, 2) := by decide +kernel
theorem dX6_tell_70 : decode cX6_tell 70 = .ok (.iaload, 1) := by decide +kernel
theorem dX6_tell_71 : decode cX6_tell 71 = .ok (.ireturn, 1) := by decide +kernel
theorem dX6_tell_72 : decode cX6_tell 72 = .ok (.aload_n 0, 1) := by decide +kernel
theorem dX6_tell_73 : decode cX6_tell 73 = .ok (.invokevirtual 157, 3) := by decide +kernel
theorem dX6_tell_76 : decode cX6_tell 76 = .ok (.ireturn, 1) := by decide +kernel
theorem dX6_tell_77 : decode cX6_tell 77 = .ok (.aload_n 0, 1) := by decide +kernel
theorem dX6_tell_78 : decode cX6_tell 78 = .ok (.getfield 7, 3) := by decide +kernel
theorem dX6_tell_81 : decode cX6_tell 81 = .ok (.bipush 9, 2) := by decide +kernel
theorem dX6_tell_83 : decode cX6_tell 83 = .ok (.iaload, 1) := by decide +kernel
theorem dX6_tell_84 : decode cX6_tell 84 = .ok (.ireturn, 1) := by decide +kernel
theorem dX6_tell_85 : decode cX6_tell 85 = .ok (.aload_n 0, 1) := by decide +kernel
theorem dX6_tell_86 : decode cX6_tell 86 = .ok (.getfield 7, 3) := by decide +kernel
theorem dX6_tell_89 : decode cX6_tell 89 = .ok (.bipush 14, 2) := by decide +kernel
theorem dX6_tell_91 : decode cX6_tell 91 = .ok (.iaload, 1) := by decide +kernel
theorem dX6_tell_92 : decode cX6_tell 92 = .ok (.ireturn, 1) := by decide +kernel
theorem dX6_tell_93 : decode cX6_tell 93 = .ok (.aload_n 0, 1) := by decide +kernel
theorem dX6_tell_94 : decode cX6_tell 94 = .ok (.invokevirtual 117, 3) := by decide +kernel
theorem dX6_tell_97 : decode cX6_tell 97 = .ok (.ireturn, 1) := by decide +kernel
theorem dX6_tell_98 : decode cX6_tell 98 = .ok (.aload_n 0, 1) := by decide +kernel
theorem dX6_tell_99 : decode cX6_tell 99 = .ok (.getfield 7, 3) := by decide +kernel
theorem dX6_tell_102 : decode cX6_tell 102 = .ok (.bipush 11, 2) := by decide +kernel
theorem dX6_tell_104 : decode cX6_tell 104 = .ok (.iaload, 1) := by decide +kernel
theorem dX6_tell_105 : decode cX6_tell 105 = .ok (.ireturn, 1) := by decide +kernel
theorem dX6_tell_106 : decode cX6_tell 106 = .ok (.aload_n 0, 1) := by decide +kernel
theorem dX6_tell_107 : decode cX6_tell 107 = .ok (.bipush 6, 2) := by decide +kernel
theorem dX6_tell_109 : decode cX6_tell 109 = .ok (.invokevirtual 160, 3) := by decide +kernel
theorem dX6_tell_112 : decode cX6_tell 112 = .ok (.ireturn, 1) := by decide +kernel
theorem dX6_tell_113 : decode cX6_tell 113 = .ok (.aload_n 0, 1) := by decide +kernel
theorem dX6_tell_114 : decode cX6_tell 114 = .ok (.bipush 7, 2) := by decide +kernel
theorem dX6_tell_116 : decode cX6_tell 116 = .ok (.invokevirtual 160, 3) := by decide +kernel
theorem dX6_tell_119 : decode cX6_tell 119 = .ok (.ireturn, 1) := by decide +kernel
theorem dX6_tell_120 : decode cX6_tell 120 = .ok (.aload_n 0, 1) := by decide +kernel
theorem dX6_tell_121 : decode cX6_tell 121 = .ok (.getfield 7, 3) := by decide +kernel
theorem dX6_tell_124 : decode cX6_tell 124 = .ok (.bipush 12, 2) := by decide +kernel
theorem dX6_tell_126 : decode cX6_tell 126 = .ok (.iaload, 1) := by decide +kernel
theorem dX6_tell_127 : decode cX6_tell 127 = .ok (.ireturn, 1) := by decide +kernel
theorem dX6_tell_128 : decode cX6_tell 128 = .ok (.aload_n 0, 1) := by decide +kernel
theorem dX6_tell_129 : decode cX6_tell 129 = .ok (.iconst 1, 1) := by decide +kernel
theorem dX6_tell_130 : decode cX6_tell 130 = .ok (.invokevirtual 160, 3) := by decide +kernel
theorem dX6_tell_133 : decode cX6_tell 133 = .ok (.ireturn, 1) := by decide +kernel
theorem dX6_value_0 : decode cX6_value 0 = .ok (.aload_n 0, 1) := by decide +kernel
theorem dX6_value_1 : decode cX6_value 1 = .ok (.iconst 0, 1) := by decide +kernel
theorem dX6_value_2 : decode cX6_value 2 = .ok (.putfield 38, 3) := by decide +kernel
theorem dX6_value_5 : decode cX6_value 5 = .ok (.iload_n 1, 1) := by decide +kernel
theorem dX6_value_6 : decode cX6_value 6 = .ok (.iconst 0, 1) := by decide +kernel
theorem dX6_value_7 : decode cX6_value 7 = .ok (.bipush 10, 2) := by decide +kernel
theorem dX6_value_9 : decode cX6_value 9 = .ok (.invokestatic 62, 3) := by decide +kernel
theorem dX6_value_12 : decode cX6_value 12 = .ok (.ifCond .eq 11, 3) := by decide +kernel
theorem dX6_value_15 : decode cX6_value 15 = .ok (.aload_n 0, 1) := by decide +kernel
theorem dX6_value_16 : decode cX6_value 16 = .ok (.iload_n 1, 1) := by decide +kernel
theorem dX6_value_17 : decode cX6_value 17 = .ok (.invokevirtual 163, 3) := by decide +kernel
theorem dX6_value_20 : decode cX6_value 20 = .ok (.goto 8, 3) := by decide +kernel
theorem dX6_value_23 : decode cX6_value 23 = .ok (.aload_n 0, 1) := by decide +kernel
theorem dX6_value_24 : decode cX6_value 24 = .ok (.iconst 1, 1) := by decide +kernel
theorem dX6_value_25 : decode cX6_value 25 = .ok (.invokevirtual 154, 3) := by decide +kernel
theorem dX6_value_28 : decode cX6_value 28 = .ok (.ireturn, 1) := by decide +kernel
theorem dX6_setting_0 : decode cX6_setting 0 = .ok (.aload_n 0, 1) := by decide +kernel
theorem dX6_setting_1 : decode cX6_setting 1 = .ok (.iconst 0, 1) := by decide +kernel
theorem dX6_setting_2 : decode cX6_setting 2 = .ok (.putfield 38, 3) := by decide +kernel
theorem dX6_setting_5 : decode cX6_setting 5 = .ok (.iload_n 1, 1) := by decide +kernel
theorem dX6_setting_6 : decode cX6_setting 6 = .ok (.iconst 0, 1) := by decide +kernel
theorem dX6_setting_7 : decode cX6_setting 7 = .ok (.iconst 4, 1) := by decide +kernel
theorem dX6_setting_8 : decode cX6_setting 8 = .ok (.invokestatic 62, 3) := by decide +kernel
theorem dX6_setting_11 : decode cX6_setting 11 = .ok (.ifCond .eq 14, 3) := by decide +kernel
theorem dX6_setting_14 : decode cX6_setting 14 = .ok (.aload_n 0, 1) := by decide +kernel
theorem dX6_setting_15 : decode cX6_setting 15 = .ok (.getfield 7, 3) := by decide +kernel
theorem dX6_setting_18 : decode cX6_setting 18 = .ok (.iconst 0, 1) := by decide +kernel
theorem dX6_setting_19 : decode cX6_setting 19 = .ok (.iload_n 1, 1) := by decide +kernel
theorem dX6_setting_20 : decode cX6_setting 20 = .ok (.iadd, 1) := by decide +kernel
theorem dX6_setting_21 : decode cX6_setting 21 = .ok (.iaload, 1) := by decide +kernel
theorem dX6_setting_22 : decode cX6_setting 22 = .ok (.goto 8, 3) := by decide +kernel
theorem dX6_setting_25 : decode cX6_setting 25 = .ok (.aload_n 0, 1) := by decide +kernel
theorem dX6_setting_26 : decode cX6_setting 26 = .ok (.iconst 1, 1) := by decide +kernel
theorem dX6_setting_27 : decode cX6_setting 27 = .ok (.invokevirtual 154, 3) := by decide +kernel
theorem dX6_setting_30 : decode cX6_setting 30 = .ok (.ireturn, 1) := by decide +kernel
theorem dX6_promise_0 : decode cX6_promise 0 = .ok (.aload_n 0, 1) := by decide +kernel
theorem dX6_promise_1 : decode cX6_promise 1 = .ok (.iconst 0, 1) := by decide +kernel
theorem dX6_promise_2 : decode cX6_promise 2 = .ok (.putfield 38, 3) := by decide +kernel
theorem dX6_promise_5 : decode cX6_promise 5 = .ok (.iload_n 1, 1) := by decide +kernel
theorem dX6_promise_6 : decode cX6_promise 6 = .ok (.iconst 0, 1) := by decide +kernel
theorem dX6_promise_7 : decode cX6_promise 7 = .ok (.aload_n 0, 1) := by decide +kernel
theorem dX6_promise_8 : decode cX6_promise 8 = .ok (.getfield 7, 3) := by decide +kernel
theorem dX6_promise_11 : decode cX6_promise 11 = .ok (.bipush 14, 2) := by decide +kernel
theorem dX6_promise_13 : decode cX6_promise 13 = .ok (.iaload, 1) := by decide +kernel
theorem dX6_promise_14 : decode cX6_promise 14 = .ok (.iconst 1, 1) := by decide +kernel
theorem dX6_promise_15 : decode cX6_promise 15 = .ok (.isub, 1) := by decide +kernel
theorem dX6_promise_16 : decode cX6_promise 16 = .ok (.invokestatic 62, 3) := by decide +kernel
theorem dX6_promise_19 : decode cX6_promise 19 = .ok (.ifCond .eq 15, 3) := by decide +kernel
theorem dX6_promise_22 : decode cX6_promise 22 = .ok (.aload_n 0, 1) := by decide +kernel
theorem dX6_promise_23 : decode cX6_promise 23 = .ok (.getfield 7, 3) := by decide +kernel
theorem dX6_promise_26 : decode cX6_promise 26 = .ok (.bipush 111, 2) := by decide +kernel
theorem dX6_promise_28 : decode cX6_promise 28 = .ok (.iload_n 1, 1) := by decide +kernel
theorem dX6_promise_29 : decode cX6_promise 29 = .ok (.iadd, 1) := by decide +kernel
theorem dX6_promise_30 : decode cX6_promise 30 = .ok (.iaload, 1) := by decide +kernel
theorem dX6_promise_31 : decode cX6_promise 31 = .ok (.goto 8, 3) := by decide +kernel
theorem dX6_promise_34 : decode cX6_promise 34 = .ok (.aload_n 0, 1) := by decide +kernel
theorem dX6_promise_35 : decode cX6_promise 35 = .ok (.iconst 1, 1) := by decide +kernel
theorem dX6_promise_36 : decode cX6_promise 36 = .ok (.invokevirtual 154, 3) := by decide +kernel
theorem dX6_promise_39 : decode cX6_promise 39 = .ok (.ireturn, 1) := by decide +kernel
theorem dX6_change_0 : decode cX6_change 0 = .ok (.aload_n 0, 1) := by decide +kernel
theorem dX6_change_1 : decode cX6_change 1 = .ok (.iconst 0, 1) := by decide +kernel
theorem dX6_change_2 : decode cX6_change 2 = .ok (.putfield 38, 3) := by decide +kernel
theorem dX6_change_5 : decode cX6_change 5 = .ok (.iload_n 1, 1) := by decide +kernel
theorem dX6_change_6 : decode cX6_change 6 = .ok (.iconst 0, 1) := by decide +kernel
theorem dX6_change_7 : decode cX6_change 7 = .ok (.sipush 2000, 3) := by decide +kernel
theorem dX6_change_10 : decode cX6_change 10 = .ok (.invokestatic 62, 3) := by decide +kernel
theorem dX6_change_13 : decode cX6_change 13 = .ok (.ifCond .ne 9, 3) := by decide +kernel
theorem dX6_change_16 : decode cX6_change 16 = .ok (.aload_n 0, 1) := by decide +kernel
theorem dX6_change_17 : decode cX6_change 17 = .ok (.iconst 1, 1) := by decide +kernel
theorem dX6_change_18 : decode cX6_change 18 = .ok (.invokevirtual 154, 3) := by decide +kernel
theorem dX6_change_21 : decode cX6_change 21 = .ok (.ireturn, 1) := by decide +kernel
theorem dX6_change_22 : decode cX6_change 22 = .ok (.iload_n 2, 1) := by decide +kernel
theorem dX6_change_23 : decode cX6_change 23 = .ok (.iconst 0, 1) := by decide +kernel
theorem dX6_change_24 : decode cX6_change 24 = .ok (.iconst 3, 1) := by decide +kernel
theorem dX6_change_25 : decode cX6_change 25 = .ok (.invokestatic 62, 3) := by decide +kernel
theorem dX6_change_28 : decode cX6_change 28 = .ok (.ifCond .ne 9, 3) := by decide +kernel
theorem dX6_change_31 : decode cX6_change 31 = .ok (.aload_n 0, 1) := by decide +kernel
theorem dX6_change_32 : decode cX6_change 32 = .ok (.iconst 2, 1) := by decide +kernel
theorem dX6_change_33 : decode cX6_change 33 = .ok (.invokevirtual 154, 3) := by decide +kernel
theorem dX6_change_36 : decode cX6_change 36 = .ok (.ireturn, 1) := by decide +kernel
theorem dX6_change_37 : decode cX6_change 37 = .ok (.aload_n 0, 1) := by decide +kernel
theorem dX6_change_38 : decode cX6_change 38 = .ok (.iload_n 1, 1) := by decide +kernel
theorem dX6_change_39 : decode cX6_change 39 = .ok (.iconst (-1), 1) := by decide +kernel
theorem dX6_change_40 : decode cX6_change 40 = .ok (.iconst 0, 1) := by decide +kernel
theorem dX6_change_41 : decode cX6_change 41 = .ok (.invokevirtual 66, 3) := by decide +kernel
theorem dX6_change_44 : decode cX6_change 44 = .ok (.ifCond .eq 12, 3) := by decide +kernel
theorem dX6_change_47 : decode cX6_change 47 = .ok (.aload_n 0, 1) := by decide +kernel
theorem dX6_change_48 : decode cX6_change 48 = .ok (.getfield 25, 3) := by decide +kernel
theorem dX6_change_51 : decode cX6_change 51 = .ok (.iload_n 2, 1) := by decide +kernel
theorem dX6_change_52 : decode cX6_change 52 = .ok (.iaload, 1) := by decide +kernel
theorem dX6_change_53 : decode cX6_change 53 = .ok (.goto 4, 3) := by decide +kernel
theorem dX6_change_56 : decode cX6_change 56 = .ok (.iconst (-1), 1) := by decide +kernel
theorem dX6_change_57 : decode cX6_change 57 = .ok (.ireturn, 1) := by decide +kernel
theorem dX6_mostPayable_0 : decode cX6_mostPayable 0 = .ok (.aload_n 0, 1) := by decide +kernel
theorem dX6_mostPayable_1 : decode cX6_mostPayable 1 = .ok (.iconst 0, 1) := by decide +kernel
theorem dX6_mostPayable_2 : decode cX6_mostPayable 2 = .ok (.putfield 38, 3) := by decide +kernel
theorem dX6_mostPayable_5 : decode cX6_mostPayable 5 = .ok (.iload_n 1, 1) := by decide +kernel
theorem dX6_mostPayable_6 : decode cX6_mostPayable 6 = .ok (.iconst 0, 1) := by decide +kernel
theorem dX6_mostPayable_7 : decode cX6_mostPayable 7 = .ok (.sipush 2000, 3) := by decide +kernel
theorem dX6_mostPayable_10 : decode cX6_mostPayable 10 = .ok (.invokestatic 62, 3) := by decide +kernel
theorem dX6_mostPayable_13 : decode cX6_mostPayable 13 = .ok (.ifCond .ne 9, 3) := by decide +kernel
theorem dX6_mostPayable_16 : decode cX6_mostPayable 16 = .ok (.aload_n 0, 1) := by decide +kernel
theorem dX6_mostPayable_17 : decode cX6_mostPayable 17 = .ok (.iconst 1, 1) := by decide +kernel
theorem dX6_mostPayable_18 : decode cX6_mostPayable 18 = .ok (.invokevirtual 154, 3) := by decide +kernel
theorem dX6_mostPayable_21 : decode cX6_mostPayable 21 = .ok (.ireturn, 1) := by decide +kernel
theorem dX6_mostPayable_22 : decode cX6_mostPayable 22 = .ok (.iconst 0, 1) := by decide +kernel
theorem dX6_mostPayable_23 : decode cX6_mostPayable 23 = .ok (.istore_n 2, 1) := by decide +kernel
theorem dX6_mostPayable_24 : decode cX6_mostPayable 24 = .ok (.iload_n 2, 1) := by decide +kernel
theorem dX6_mostPayable_25 : decode cX6_mostPayable 25 = .ok (.sipush 400, 3) := by decide +kernel
theorem dX6_mostPayable_28 : decode cX6_mostPayable 28 = .ok (.if_icmp .gt 24, 3) := by decide +kernel
theorem dX6_mostPayable_31 : decode cX6_mostPayable 31 = .ok (.aload_n 0, 1) := by decide +kernel
theorem dX6_mostPayable_32 : decode cX6_mostPayable 32 = .ok (.getfield 31, 3) := by decide +kernel
theorem dX6_mostPayable_35 : decode cX6_mostPayable 35 = .ok (.iload_n 2, 1) := by decide +kernel
theorem dX6_mostPayable_36 : decode cX6_mostPayable 36 = .ok (.iload_n 2, 1) := by decide +kernel
theorem dX6_mostPayable_37 : decode cX6_mostPayable 37 = .ok (.ifCond .ne 7, 3) := by decide +kernel
theorem dX6_mostPayable_40 : decode cX6_mostPayable 40 = .ok (.iconst 1, 1) := by decide +kernel
theorem dX6_mostPayable_41 : decode cX6_mostPayable 41 = .ok (.goto 4, 3) := by decide +kernel
theorem dX6_mostPayable_44 : decode cX6_mostPayable 44 = .ok (.iconst 0, 1) := by decide +kernel
theorem dX6_mostPayable_45 : decode cX6_mostPayable 45 = .ok (.bastore, 1) := by decide +kernel
theorem dX6_mostPayable_46 : decode cX6_mostPayable 46 = .ok (.iinc 2 1, 3) := by decide +kernel
theorem dX6_mostPayable_49 : decode cX6_mostPayable 49 = .ok (.goto (-25), 3) := by decide +kernel
theorem dX6_mostPayable_52 : decode cX6_mostPayable 52 = .ok (.iconst 0, 1) := by decide +kernel
theorem dX6_mostPayable_53 : decode cX6_mostPayable 53 = .ok (.istore_n 2, 1) := by decide +kernel
theorem dX6_mostPayable_54 : decode cX6_mostPayable 54 = .ok (.iload_n 2, 1) := by decide +kernel
theorem dX6_mostPayable_55 : decode cX6_mostPayable 55 = .ok (.iconst 4, 1) := by decide +kernel
theorem dX6_mostPayable_56 : decode cX6_mostPayable 56 = .ok (.if_icmp .ge 89, 3) := by decide +kernel
theorem dX6_mostPayable_59 : decode cX6_mostPayable 59 = .ok (.iload_n 2, 1) := by decide +kernel
theorem dX6_mostPayable_60 : decode cX6_mostPayable 60 = .ok (.invokestatic 72, 3) := by decide +kernel
theorem dX6_mostPayable_63 : decode cX6_mostPayable 63 = .ok (.iconst 5, 1) := by decide +kernel
theorem dX6_mostPayable_64 : decode cX6_mostPayable 64 = .ok (.idiv, 1) := by decide +kernel
theorem dX6_mostPayable_65 : decode cX6_mostPayable 65 = .ok (.istore_n 3, 1) := by decide +kernel
theorem dX6_mostPayable_66 : decode cX6_mostPayable 66 = .ok (.iconst 0, 1) := by decide +kernel
theorem dX6_mostPayable_67 : decode cX6_mostPayable 67 = .ok (.istore 4, 2) := by decide +kernel
theorem dX6_mostPayable_69 : decode cX6_mostPayable 69 = .ok (.iload 4, 2) := by decide +kernel
theorem dX6_mostPayable_71 : decode cX6_mostPayable 71 = .ok (.aload_n 0, 1) := by decide +kernel
theorem dX6_mostPayable_72 : decode cX6_mostPayable 72 = .ok (.getfield 7, 3) := by decide +kernel
theorem dX6_mostPayable_75 : decode cX6_mostPayable 75 = .ok (.iconst 5, 1) := by decide +kernel
theorem dX6_mostPayable_76 : decode cX6_mostPayable 76 = .ok (.iload_n 2, 1) := by decide +kernel
theorem dX6_mostPayable_77 : decode cX6_mostPayable 77 = .ok (.iadd, 1) := by decide +kernel
theorem dX6_mostPayable_78 : decode cX6_mostPayable 78 = .ok (.iaload, 1) := by decide +kernel
theorem dX6_mostPayable_79 : decode cX6_mostPayable 79 = .ok (.if_icmp .ge 60, 3) := by decide +kernel
theorem dX6_mostPayable_82 : decode cX6_mostPayable 82 = .ok (.sipush 400, 3) := by decide +kernel
theorem dX6_mostPayable_85 : decode cX6_mostPayable 85 = .ok (.istore 5, 2) := by decide +kernel
theorem dX6_mostPayable_87 : decode cX6_mostPayable 87 = .ok (.iload 5, 2) := by decide +kernel
theorem dX6_mostPayable_89 : decode cX6_mostPayable 89 = .ok (.iload_n 3, 1) := by decide +kernel
theorem dX6_mostPayable_90 : decode cX6_mostPayable 90 = .ok (.if_icmp .lt 43, 3) := by decide +kernel
theorem dX6_mostPayable_93 : decode cX6_mostPayable 93 = .ok (.aload_n 0, 1) := by decide +kernel
theorem dX6_mostPayable_94 : decode cX6_mostPayable 94 = .ok (.getfield 31, 3) := by decide +kernel
theorem dX6_mostPayable_97 : decode cX6_mostPayable 97 = .ok (.iload 5, 2) := by decide +kernel
theorem dX6_mostPayable_99 : decode cX6_mostPayable 99 = .ok (.aload_n 0, 1) := by decide +kernel
theorem dX6_mostPayable_100 : decode cX6_mostPayable 100 = .ok (.getfield 31, 3) := by decide +kernel
theorem dX6_mostPayable_103 : decode cX6_mostPayable 103 = .ok (.iload 5, 2) := by decide +kernel
theorem dX6_mostPayable_105 : decode cX6_mostPayable 105 = .ok (.baload, 1) := by decide +kernel
theorem dX6_mostPayable_106 : decode cX6_mostPayable 106 = .ok (.ifCond .ne 15, 3) := by decide +kernel
theorem dX6_mostPayable_109 : decode cX6_mostPayable 109 = .ok (.aload_n 0, 1) := by decide +kernel
theorem dX6_mostPayable_110 : decode cX6_mostPayable 110 = .ok (.getfield 31, 3) := by decide +kernel
theorem dX6_mostPayable_113 : decode cX6_mostPayable 113 = .ok (.iload 5, 2) := by decide +kernel
theorem dX6_mostPayable_115 : decode cX6_mostPayable 115 = .ok (.iload_n 3, 1) := by decide +kernel
theorem dX6_mostPayable_116 : decode cX6_mostPayable 116 = .ok (.isub, 1) := by decide +kernel
theorem dX6_mostPayable_117 : decode cX6_mostPayable 117 = .ok (.baload, 1) := by decide +kernel
theorem dX6_mostPayable_118 : decode cX6_mostPayable 118 = .ok (.ifCond .eq 7, 3) := by decide +kernel
theorem dX6_mostPayable_121 : decode cX6_mostPayable 121 = .ok (.iconst 1, 1) := by decide +kernel
theorem dX6_mostPayable_122 : decode cX6_mostPayable 122 = .ok (.goto 4, 3) := by decide +kernel
theorem dX6_mostPayable_125 : decode cX6_mostPayable 125 = .ok (.iconst 0, 1) := by decide +kernel
theorem dX6_mostPayable_126 : decode cX6_mostPayable 126 = .ok (.bastore, 1) := by decide +kernel
theorem dX6_mostPayable_127 : decode cX6_mostPayable 127 = .ok (.iinc 5 (-1), 3) := by decide +kernel
theorem dX6_mostPayable_130 : decode cX6_mostPayable 130 = .ok (.goto (-43), 3) := by decide +kernel
theorem dX6_mostPayable_133 : decode cX6_mostPayable 133 = .ok (.iinc 4 1, 3) := by decide +kernel
theorem dX6_mostPayable_136 : decode cX6_mostPayable 136 = .ok (.goto (-67), 3) := by decide +kernel
theorem dX6_mostPayable_139 : decode cX6_mostPayable 139 = .ok (.iinc 2 1, 3) := by decide +kernel
theorem dX6_mostPayable_142 : decode cX6_mostPayable 142 = .ok (.goto (-88), 3) := by decide +kernel
theorem dX6_mostPayable_145 : decode cX6_mostPayable 145 = .ok (.iload_n 1, 1) := by decide +kernel
theorem dX6_mostPayable_146 : decode cX6_mostPayable 146 = .ok (.iconst 5, 1) := by decide +kernel
theorem dX6_mostPayable_147 : decode cX6_mostPayable 147 = .ok (.idiv, 1) := by decide +kernel
theorem dX6_mostPayable_148 : decode cX6_mostPayable 148 = .ok (.istore_n 2, 1) := by decide +kernel
theorem dX6_mostPayable_149 : decode cX6_mostPayable 149 = .ok (.aload_n 0, 1) := by decide +kernel
theorem dX6_mostPayable_150 : decode cX6_mostPayable 150 = .ok (.getfield 31, 3) := by decide +kernel
theorem dX6_mostPayable_153 : decode cX6_mostPayable 153 = .ok (.iload_n 2, 1) := by decide +kernel
theorem dX6_mostPayable_154 : decode cX6_mostPayable 154 = .ok (.baload, 1) := by decide +kernel
theorem dX6_mostPayable_155 : decode cX6_mostPayable 155 = .ok (.ifCond .ne 9, 3) := by decide +kernel
theorem dX6_mostPayable_158 : decode cX6_mostPayable 158 = .ok (.iinc 2 (-1), 3) := by decide +kernel
theorem dX6_mostPayable_161 : decode cX6_mostPayable 161 = .ok (.goto (-12), 3) := by decide +kernel
theorem dX6_mostPayable_164 : decode cX6_mostPayable 164 = .ok (.iconst 5, 1) := by decide +kernel
theorem dX6_mostPayable_165 : decode cX6_mostPayable 165 = .ok (.iload_n 2, 1) := by decide +kernel
theorem dX6_mostPayable_166 : decode cX6_mostPayable 166 = .ok (.imul, 1) := by decide +kernel
theorem dX6_mostPayable_167 : decode cX6_mostPayable 167 = .ok (.ireturn, 1) := by decide +kernel
theorem dX6_coinFor_0 : decode cX6_coinFor 0 = .ok (.aload_n 0, 1) := by decide +kernel
theorem dX6_coinFor_1 : decode cX6_coinFor 1 = .ok (.iconst 0, 1) := by decide +kernel
theorem dX6_coinFor_2 : decode cX6_coinFor 2 = .ok (.putfield 38, 3) := by decide +kernel
theorem dX6_coinFor_5 : decode cX6_coinFor 5 = .ok (.iload_n 1, 1) := by decide +kernel
theorem dX6_coinFor_6 : decode cX6_coinFor 6 = .ok (.iconst 0, 1) := by decide +kernel
theorem dX6_coinFor_7 : decode cX6_coinFor 7 = .ok (.sipush 2000, 3) := by decide +kernel
theorem dX6_coinFor_10 : decode cX6_coinFor 10 = .ok (.invokestatic 62, 3) := by decide +kernel
theorem dX6_coinFor_13 : decode cX6_coinFor 13 = .ok (.ifCond .ne 9, 3) := by decide +kernel
theorem dX6_coinFor_16 : decode cX6_coinFor 16 = .ok (.aload_n 0, 1) := by decide +kernel
theorem dX6_coinFor_17 : decode cX6_coinFor 17 = .ok (.iconst 1, 1) := by decide +kernel
theorem dX6_coinFor_18 : decode cX6_coinFor 18 = .ok (.invokevirtual 154, 3) := by decide +kernel
theorem dX6_coinFor_21 : decode cX6_coinFor 21 = .ok (.ireturn, 1) := by decide +kernel
theorem dX6_coinFor_22 : decode cX6_coinFor 22 = .ok (.aload_n 0, 1) := by decide +kernel
theorem dX6_coinFor_23 : decode cX6_coinFor 23 = .ok (.iload_n 1, 1) := by decide +kernel
theorem dX6_coinFor_24 : decode cX6_coinFor 24 = .ok (.iconst (-1), 1) := by decide +kernel
theorem dX6_coinFor_25 : decode cX6_coinFor 25 = .ok (.iconst 0, 1) := by decide +kernel
theorem dX6_coinFor_26 : decode cX6_coinFor 26 = .ok (.invokevirtual 66, 3) := by decide +kernel
theorem dX6_coinFor_29 : decode cX6_coinFor 29 = .ok (.ifCond .eq 5, 3) := by decide +kernel
theorem dX6_coinFor_32 : decode cX6_coinFor 32 = .ok (.iconst 4, 1) := by decide +kernel
theorem dX6_coinFor_33 : decode cX6_coinFor 33 = .ok (.ireturn, 1) := by decide +kernel
theorem dX6_coinFor_34 : decode cX6_coinFor 34 = .ok (.iconst 0, 1) := by decide +kernel
theorem dX6_coinFor_35 : decode cX6_coinFor 35 = .ok (.istore_n 2, 1) := by decide +kernel
theorem dX6_coinFor_36 : decode cX6_coinFor 36 = .ok (.iload_n 2, 1) := by decide +kernel
theorem dX6_coinFor_37 : decode cX6_coinFor 37 = .ok (.iconst 4, 1) := by decide +kernel
theorem dX6_coinFor_38 : decode cX6_coinFor 38 = .ok (.if_icmp .ge 21, 3) := by decide +kernel
theorem dX6_coinFor_41 : decode cX6_coinFor 41 = .ok (.aload_n 0, 1) := by decide +kernel
theorem dX6_coinFor_42 : decode cX6_coinFor 42 = .ok (.iload_n 1, 1) := by decide +kernel
theorem dX6_coinFor_43 : decode cX6_coinFor 43 = .ok (.iload_n 2, 1) := by decide +kernel
theorem dX6_coinFor_44 : decode cX6_coinFor 44 = .ok (.iconst 1, 1) := by decide +kernel
theorem dX6_coinFor_45 : decode cX6_coinFor 45 = .ok (.invokevirtual 66, 3) := by decide +kernel
theorem dX6_coinFor_48 : decode cX6_coinFor 48 = .ok (.ifCond .eq 5, 3) := by decide +kernel
theorem dX6_coinFor_51 : decode cX6_coinFor 51 = .ok (.iload_n 2, 1) := by decide +kernel
theorem dX6_coinFor_52 : decode cX6_coinFor 52 = .ok (.ireturn, 1) := by decide +kernel
theorem dX6_coinFor_53 : decode cX6_coinFor 53 = .ok (.iinc 2 1, 3) := by decide +kernel
theorem dX6_coinFor_56 : decode cX6_coinFor 56 = .ok (.goto (-20), 3) := by decide +kernel
theorem dX6_coinFor_59 : decode cX6_coinFor 59 = .ok (.iconst (-1), 1) := by decide +kernel
theorem dX6_coinFor_60 : decode cX6_coinFor 60 = .ok (.ireturn, 1) := by decide +kernel
theorem dX6_priceIn_0 : decode cX6_priceIn 0 = .ok (.aload_n 0, 1) := by decide +kernel
theorem dX6_priceIn_1 : decode cX6_priceIn 1 = .ok (.iconst 0, 1) := by decide +kernel
theorem dX6_priceIn_2 : decode cX6_priceIn 2 = .ok (.putfield 38, 3) := by decide +kernel
theorem dX6_priceIn_5 : decode cX6_priceIn 5 = .ok (.aload_n 0, 1) := by decide +kernel
theorem dX6_priceIn_6 : decode cX6_priceIn 6 = .ok (.iload_n 1, 1) := by decide +kernel
theorem dX6_priceIn_7 : decode cX6_priceIn 7 = .ok (.invokevirtual 96, 3) := by decide +kernel
theorem dX6_priceIn_10 : decode cX6_priceIn 10 = .ok (.ifCond .ne 9, 3) := by decide +kernel
theorem dX6_priceIn_13 : decode cX6_priceIn 13 = .ok (.aload_n 0, 1) := by decide +kernel
theorem dX6_priceIn_14 : decode cX6_priceIn 14 = .ok (.iconst 1, 1) := by decide +kernel
theorem dX6_priceIn_15 : decode cX6_priceIn 15 = .ok (.invokevirtual 154, 3) := by decide +kernel
theorem dX6_priceIn_18 : decode cX6_priceIn 18 = .ok (.ireturn, 1) := by decide +kernel
theorem dX6_priceIn_19 : decode cX6_priceIn 19 = .ok (.iload_n 2, 1) := by decide +kernel
theorem dX6_priceIn_20 : decode cX6_priceIn 20 = .ok (.iconst 0, 1) := by decide +kernel
theorem dX6_priceIn_21 : decode cX6_priceIn 21 = .ok (.bipush 48, 2) := by decide +kernel
theorem dX6_priceIn_23 : decode cX6_priceIn 23 = .ok (.invokestatic 62, 3) := by decide +kernel
theorem dX6_priceIn_26 : decode cX6_priceIn 26 = .ok (.ifCond .ne 9, 3) := by decide +kernel
theorem dX6_priceIn_29 : decode cX6_priceIn 29 = .ok (.aload_n 0, 1) := by decide +kernel
theorem dX6_priceIn_30 : decode cX6_priceIn 30 = .ok (.iconst 2, 1) := by decide +kernel
theorem dX6_priceIn_31 : decode cX6_priceIn 31 = .ok (.invokevirtual 154, 3) := by decide +kernel
theorem dX6_priceIn_34 : decode cX6_priceIn 34 = .ok (.ireturn, 1) := by decide +kernel
theorem dX6_priceIn_35 : decode cX6_priceIn 35 = .ok (.aload_n 0, 1) := by decide +kernel
theorem dX6_priceIn_36 : decode cX6_priceIn 36 = .ok (.getfield 7, 3) := by decide +kernel
theorem dX6_priceIn_39 : decode cX6_priceIn 39 = .ok (.iconst 0, 1) := by decide +kernel
theorem dX6_priceIn_40 : decode cX6_priceIn 40 = .ok (.aload_n 0, 1) := by decide +kernel
theorem dX6_priceIn_41 : decode cX6_priceIn 41 = .ok (.getfield 35, 3) := by decide +kernel
theorem dX6_priceIn_44 : decode cX6_priceIn 44 = .ok (.iconst 0, 1) := by decide +kernel
theorem dX6_priceIn_45 : decode cX6_priceIn 45 = .ok (.invokestatic 55, 3) := by decide +kernel
theorem dX6_priceIn_48 : decode cX6_priceIn 48 = .ok (.iconst 0, 1) := by decide +kernel
theorem dX6_priceIn_49 : decode cX6_priceIn 49 = .ok (.istore_n 3, 1) := by decide +kernel
theorem dX6_priceIn_50 : decode cX6_priceIn 50 = .ok (.iload_n 3, 1) := by decide +kernel
theorem dX6_priceIn_51 : decode cX6_priceIn 51 = .ok (.iload_n 2, 1) := by decide +kernel
theorem dX6_priceIn_52 : decode cX6_priceIn 52 = .ok (.if_icmp .ge 15, 3) := by decide +kernel
theorem dX6_priceIn_55 : decode cX6_priceIn 55 = .ok (.aload_n 0, 1) := by decide +kernel
theorem dX6_priceIn_56 : decode cX6_priceIn 56 = .ok (.invokevirtual 148, 3) := by decide +kernel
theorem dX6_priceIn_59 : decode cX6_priceIn 59 = .ok (.istore 4, 2) := by decide +kernel
theorem dX6_priceIn_61 : decode cX6_priceIn 61 = .ok (.iinc 3 1, 3) := by decide +kernel
theorem dX6_priceIn_64 : decode cX6_priceIn 64 = .ok (.goto (-14), 3) := by decide +kernel
theorem dX6_priceIn_67 : decode cX6_priceIn 67 = .ok (.aload_n 0, 1) := by decide +kernel
theorem dX6_priceIn_68 : decode cX6_priceIn 68 = .ok (.iload_n 1, 1) := by decide +kernel
theorem dX6_priceIn_69 : decode cX6_priceIn 69 = .ok (.iconst 2, 1) := by decide +kernel
theorem dX6_priceIn_70 : decode cX6_priceIn 70 = .ok (.invokevirtual 100, 3) := by decide +kernel
theorem dX6_priceIn_73 : decode cX6_priceIn 73 = .ok (.istore_n 3, 1) := by decide +kernel
theorem dX6_priceIn_74 : decode cX6_priceIn 74 = .ok (.aload_n 0, 1) := by decide +kernel
theorem dX6_priceIn_75 : decode cX6_priceIn 75 = .ok (.getfield 35, 3) := by decide +kernel
theorem dX6_priceIn_78 : decode cX6_priceIn 78 = .ok (.iconst 0, 1) := by decide +kernel
theorem dX6_priceIn_79 : decode cX6_priceIn 79 = .ok (.aload_n 0, 1) := by decide +kernel
theorem dX6_priceIn_80 : decode cX6_priceIn 80 = .ok (.getfield 7, 3) := by decide +kernel
theorem dX6_priceIn_83 : decode cX6_priceIn 83 = .ok (.iconst 0, 1) := by decide +kernel
theorem dX6_priceIn_84 : decode cX6_priceIn 84 = .ok (.invokestatic 55, 3) := by decide +kernel
theorem dX6_priceIn_87 : decode cX6_priceIn 87 = .ok (.iload_n 3, 1) := by decide +kernel
theorem dX6_priceIn_88 : decode cX6_priceIn 88 = .ok (.ireturn, 1) := by decide +kernel
theorem dX6_salesInARow_0 : decode cX6_salesInARow 0 = .ok (.aload_n 0, 1) := by decide +kernel
theorem dX6_salesInARow_1 : decode cX6_salesInARow 1 = .ok (.iconst 0, 1) := by decide +kernel
theorem dX6_salesInARow_2 : decode cX6_salesInARow 2 = .ok (.putfield 38, 3) := by decide +kernel
theorem dX6_salesInARow_5 : decode cX6_salesInARow 5 = .ok (.aload_n 0, 1) := by decide +kernel
theorem dX6_salesInARow_6 : decode cX6_salesInARow 6 = .ok (.iload_n 1, 1) := by decide +kernel
theorem dX6_salesInARow_7 : decode cX6_salesInARow 7 = .ok (.invokevirtual 96, 3) := by decide +kernel
theorem dX6_salesInARow_10 : decode cX6_salesInARow 10 = .ok (.ifCond .ne 9, 3) := by decide +kernel
theorem dX6_salesInARow_13 : decode cX6_salesInARow 13 = .ok (.aload_n 0, 1) := by decide +kernel
theorem dX6_salesInARow_14 : decode cX6_salesInARow 14 = .ok (.iconst 1, 1) := by decide +kernel
theorem dX6_salesInARow_15 : decode cX6_salesInARow 15 = .ok (.invokevirtual 154, 3) := by decide +kernel
theorem dX6_salesInARow_18 : decode cX6_salesInARow 18 = .ok (.ireturn, 1) := by decide +kernel
theorem dX6_salesInARow_19 : decode cX6_salesInARow 19 = .ok (.iload_n 2, 1) := by decide +kernel
theorem dX6_salesInARow_20 : decode cX6_salesInARow 20 = .ok (.invokestatic 127, 3) := by decide +kernel
theorem dX6_salesInARow_23 : decode cX6_salesInARow 23 = .ok (.ifCond .eq 10, 3) := by decide +kernel
theorem dX6_salesInARow_26 : decode cX6_salesInARow 26 = .ok (.iload_n 3, 1) := by decide +kernel
theorem dX6_salesInARow_27 : decode cX6_salesInARow 27 = .ok (.invokestatic 127, 3) := by decide +kernel
theorem dX6_salesInARow_30 : decode cX6_salesInARow 30 = .ok (.ifCond .ne 9, 3) := by decide +kernel
theorem dX6_salesInARow_33 : decode cX6_salesInARow 33 = .ok (.aload_n 0, 1) := by decide +kernel
theorem dX6_salesInARow_34 : decode cX6_salesInARow 34 = .ok (.iconst 2, 1) := by decide +kernel
theorem dX6_salesInARow_35 : decode cX6_salesInARow 35 = .ok (.invokevirtual 154, 3) := by decide +kernel
theorem dX6_salesInARow_38 : decode cX6_salesInARow 38 = .ok (.ireturn, 1) := by decide +kernel
theorem dX6_salesInARow_39 : decode cX6_salesInARow 39 = .ok (.aload_n 0, 1) := by decide +kernel
theorem dX6_salesInARow_40 : decode cX6_salesInARow 40 = .ok (.getfield 7, 3) := by decide +kernel
theorem dX6_salesInARow_43 : decode cX6_salesInARow 43 = .ok (.iconst 0, 1) := by decide +kernel
theorem dX6_salesInARow_44 : decode cX6_salesInARow 44 = .ok (.aload_n 0, 1) := by decide +kernel
theorem dX6_salesInARow_45 : decode cX6_salesInARow 45 = .ok (.getfield 35, 3) := by decide +kernel
theorem dX6_salesInARow_48 : decode cX6_salesInARow 48 = .ok (.iconst 0, 1) := by decide +kernel
theorem dX6_salesInARow_49 : decode cX6_salesInARow 49 = .ok (.invokestatic 55, 3) := by decide +kernel
theorem dX6_salesInARow_52 : decode cX6_salesInARow 52 = .ok (.aload_n 0, 1) := by decide +kernel
theorem dX6_salesInARow_53 : decode cX6_salesInARow 53 = .ok (.iconst 0, 1) := by decide +kernel
theorem dX6_salesInARow_54 : decode cX6_salesInARow 54 = .ok (.iload_n 2, 1) := by decide +kernel
theorem dX6_salesInARow_55 : decode cX6_salesInARow 55 = .ok (.iconst 0, 1) := by decide +kernel
theorem dX6_salesInARow_56 : decode cX6_salesInARow 56 = .ok (.iload_n 3, 1) := by decide +kernel
theorem dX6_salesInARow_57 : decode cX6_salesInARow 57 = .ok (.invokevirtual 130, 3) := by decide +kernel
theorem dX6_salesInARow_60 : decode cX6_salesInARow 60 = .ok (.iconst (-1), 1) := by decide +kernel
theorem dX6_salesInARow_61 : decode cX6_salesInARow 61 = .ok (.istore 4, 2) := by decide +kernel
theorem dX6_salesInARow_63 : decode cX6_salesInARow 63 = .ok (.aload_n 0, 1) := by decide +kernel
theorem dX6_salesInARow_64 : decode cX6_salesInARow 64 = .ok (.iconst 0, 1) := by decide +kernel
theorem dX6_salesInARow_65 : decode cX6_salesInARow 65 = .ok (.putfield 52, 3) := by decide +kernel
theorem dX6_salesInARow_68 : decode cX6_salesInARow 68 = .ok (.aload_n 0, 1) := by decide +kernel
theorem dX6_salesInARow_69 : decode cX6_salesInARow 69 = .ok (.getfield 52, 3) := by decide +kernel
theorem dX6_salesInARow_72 : decode cX6_salesInARow 72 = .ok (.ifCond .ne 16, 3) := by decide +kernel
theorem dX6_salesInARow_75 : decode cX6_salesInARow 75 = .ok (.aload_n 0, 1) := by decide +kernel
theorem dX6_salesInARow_76 : decode cX6_salesInARow 76 = .ok (.iload_n 1, 1) := by decide +kernel
theorem dX6_salesInARow_77 : decode cX6_salesInARow 77 = .ok (.invokevirtual 134, 3) := by decide +kernel
theorem dX6_salesInARow_80 : decode cX6_salesInARow 80 = .ok (.istore 5, 2) := by decide +kernel
theorem dX6_salesInARow_82 : decode cX6_salesInARow 82 = .ok (.iinc 4 1, 3) := by decide +kernel
theorem dX6_salesInARow_85 : decode cX6_salesInARow 85 = .ok (.goto (-17), 3) := by decide +kernel
theorem dX6_salesInARow_88 : decode cX6_salesInARow 88 = .ok (.aload_n 0, 1) := by decide +kernel
theorem dX6_salesInARow_89 : decode cX6_salesInARow 89 = .ok (.getfield 35, 3) := by decide +kernel
theorem dX6_salesInARow_92 : decode cX6_salesInARow 92 = .ok (.iconst 0, 1) := by decide +kernel
theorem dX6_salesInARow_93 : decode cX6_salesInARow 93 = .ok (.aload_n 0, 1) := by decide +kernel
theorem dX6_salesInARow_94 : decode cX6_salesInARow 94 = .ok (.getfield 7, 3) := by decide +kernel
theorem dX6_salesInARow_97 : decode cX6_salesInARow 97 = .ok (.iconst 0, 1) := by decide +kernel
theorem dX6_salesInARow_98 : decode cX6_salesInARow 98 = .ok (.invokestatic 55, 3) := by decide +kernel
theorem dX6_salesInARow_101 : decode cX6_salesInARow 101 = .ok (.iload 4, 2) := by decide +kernel
theorem dX6_salesInARow_103 : decode cX6_salesInARow 103 = .ok (.ireturn, 1) := by decide +kernel
theorem dX6_favorite_0 : decode cX6_favorite 0 = .ok (.aload_n 0, 1) := by decide +kernel
theorem dX6_favorite_1 : decode cX6_favorite 1 = .ok (.iconst 0, 1) := by decide +kernel
theorem dX6_favorite_2 : decode cX6_favorite 2 = .ok (.putfield 38, 3) := by decide +kernel
theorem dX6_favorite_5 : decode cX6_favorite 5 = .ok (.iconst (-1), 1) := by decide +kernel
theorem dX6_favorite_6 : decode cX6_favorite 6 = .ok (.istore_n 1, 1) := by decide +kernel
theorem dX6_favorite_7 : decode cX6_favorite 7 = .ok (.iconst 0, 1) := by decide +kernel
theorem dX6_favorite_8 : decode cX6_favorite 8 = .ok (.istore_n 2, 1) := by decide +kernel
theorem dX6_favorite_9 : decode cX6_favorite 9 = .ok (.iload_n 2, 1) := by decide +kernel
theorem dX6_favorite_10 : decode cX6_favorite 10 = .ok (.aload_n 0, 1) := by decide +kernel
theorem dX6_favorite_11 : decode cX6_favorite 11 = .ok (.getfield 7, 3) := by decide +kernel
theorem dX6_favorite_14 : decode cX6_favorite 14 = .ok (.bipush 13, 2) := by decide +kernel
theorem dX6_favorite_16 : decode cX6_favorite 16 = .ok (.iaload, 1) := by decide +kernel
theorem dX6_favorite_17 : decode cX6_favorite 17 = .ok (.if_icmp .ge 43, 3) := by decide +kernel
theorem dX6_favorite_20 : decode cX6_favorite 20 = .ok (.iload_n 1, 1) := by decide +kernel
theorem dX6_favorite_21 : decode cX6_favorite 21 = .ok (.ifCond .lt 27, 3) := by decide +kernel
theorem dX6_favorite_24 : decode cX6_favorite 24 = .ok (.aload_n 0, 1) := by decide +kernel
theorem dX6_favorite_25 : decode cX6_favorite 25 = .ok (.iload_n 2, 1) := by decide +kernel
theorem dX6_favorite_26 : decode cX6_favorite 26 = .ok (.bipush 10, 2) := by decide +kernel
theorem dX6_favorite_28 : decode cX6_favorite 28 = .ok (.invokevirtual 100, 3) := by decide +kernel
theorem dX6_favorite_31 : decode cX6_favorite 31 = .ok (.invokestatic 121, 3) := by decide +kernel
theorem dX6_favorite_34 : decode cX6_favorite 34 = .ok (.aload_n 0, 1) := by decide +kernel
theorem dX6_favorite_35 : decode cX6_favorite 35 = .ok (.iload_n 1, 1) := by decide +kernel
theorem dX6_favorite_36 : decode cX6_favorite 36 = .ok (.bipush 10, 2) := by decide +kernel
theorem dX6_favorite_38 : decode cX6_favorite 38 = .ok (.invokevirtual 100, 3) := by decide +kernel
theorem dX6_favorite_41 : decode cX6_favorite 41 = .ok (.invokestatic 121, 3) := by decide +kernel
theorem dX6_favorite_44 : decode cX6_favorite 44 = .ok (.fcmp .l, 1) := by decide +kernel
theorem dX6_favorite_45 : decode cX6_favorite 45 = .ok (.ifCond .le 7, 3) := by decide +kernel
theorem dX6_favorite_48 : decode cX6_favorite 48 = .ok (.iload_n 2, 1) := by decide +kernel
theorem dX6_favorite_49 : decode cX6_favorite 49 = .ok (.goto 4, 3) := by decide +kernel
theorem dX6_favorite_52 : decode cX6_favorite 52 = .ok (.iload_n 1, 1) := by decide +kernel
theorem dX6_favorite_53 : decode cX6_favorite 53 = .ok (.istore_n 1, 1) := by decide +kernel
theorem dX6_favorite_54 : decode cX6_favorite 54 = .ok (.iinc 2 1, 3) := by decide +kernel
theorem dX6_favorite_57 : decode cX6_favorite 57 = .ok (.goto (-48), 3) := by decide +kernel
theorem dX6_favorite_60 : decode cX6_favorite 60 = .ok (.iload_n 1, 1) := by decide +kernel
theorem dX6_favorite_61 : decode cX6_favorite 61 = .ok (.ireturn, 1) := by decide +kernel
theorem dX6_append_0 : decode cX6_append 0 = .ok (.aload_n 0, 1) := by decide +kernel
theorem dX6_append_1 : decode cX6_append 1 = .ok (.iconst 0, 1) := by decide +kernel
theorem dX6_append_2 : decode cX6_append 2 = .ok (.putfield 38, 3) := by decide +kernel
theorem dX6_append_5 : decode cX6_append 5 = .ok (.iload_n 1, 1) := by decide +kernel
theorem dX6_append_6 : decode cX6_append 6 = .ok (.iconst 0, 1) := by decide +kernel
theorem dX6_append_7 : decode cX6_append 7 = .ok (.bipush 127, 2) := by decide +kernel
theorem dX6_append_9 : decode cX6_append 9 = .ok (.invokestatic 62, 3) := by decide +kernel
theorem dX6_append_12 : decode cX6_append 12 = .ok (.ifCond .ne 9, 3) := by decide +kernel
theorem dX6_append_15 : decode cX6_append 15 = .ok (.aload_n 0, 1) := by decide +kernel
theorem dX6_append_16 : decode cX6_append 16 = .ok (.iconst 1, 1) := by decide +kernel
theorem dX6_append_17 : decode cX6_append 17 = .ok (.invokevirtual 154, 3) := by decide +kernel
theorem dX6_append_20 : decode cX6_append 20 = .ok (.ireturn, 1) := by decide +kernel
theorem dX6_append_21 : decode cX6_append 21 = .ok (.aload_n 0, 1) := by decide +kernel
theorem dX6_append_22 : decode cX6_append 22 = .ok (.getfield 166, 3) := by decide +kernel
theorem dX6_append_25 : decode cX6_append 25 = .ok (.bipush 100, 2) := by decide +kernel
theorem dX6_append_27 : decode cX6_append 27 = .ok (.if_icmp .ne 9, 3) := by decide +kernel
theorem dX6_append_30 : decode cX6_append 30 = .ok (.aload_n 0, 1) := by decide +kernel
theorem dX6_append_31 : decode cX6_append 31 = .ok (.iconst 2, 1) := by decide +kernel
theorem dX6_append_32 : decode cX6_append 32 = .ok (.invokevirtual 154, 3) := by decide +kernel
theorem dX6_append_35 : decode cX6_append 35 = .ok (.ireturn, 1) := by decide +kernel
theorem dX6_append_36 : decode cX6_append 36 = .ok (.aload_n 0, 1) := by decide +kernel
theorem dX6_append_37 : decode cX6_append 37 = .ok (.getfield 22, 3) := by decide +kernel
theorem dX6_append_40 : decode cX6_append 40 = .ok (.aload_n 0, 1) := by decide +kernel
theorem dX6_append_41 : decode cX6_append 41 = .ok (.getfield 166, 3) := by decide +kernel
theorem dX6_append_44 : decode cX6_append 44 = .ok (.iload_n 1, 1) := by decide +kernel
theorem dX6_append_45 : decode cX6_append 45 = .ok (.iastore, 1) := by decide +kernel
theorem dX6_append_46 : decode cX6_append 46 = .ok (.aload_n 0, 1) := by decide +kernel
theorem dX6_append_47 : decode cX6_append 47 = .ok (.dup, 1) := by decide +kernel
theorem dX6_append_48 : decode cX6_append 48 = .ok (.getfield 166, 3) := by decide +kernel
theorem dX6_append_51 : decode cX6_append 51 = .ok (.iconst 1, 1) := by decide +kernel
theorem dX6_append_52 : decode cX6_append 52 = .ok (.iadd, 1) := by decide +kernel
theorem dX6_append_53 : decode cX6_append 53 = .ok (.putfield 166, 3) := by decide +kernel
theorem dX6_append_56 : decode cX6_append 56 = .ok (.aload_n 0, 1) := by decide +kernel
theorem dX6_append_57 : decode cX6_append 57 = .ok (.getfield 166, 3) := by decide +kernel
theorem dX6_append_60 : decode cX6_append 60 = .ok (.ireturn, 1) := by decide +kernel
theorem dX6_clearText_0 : decode cX6_clearText 0 = .ok (.aload_n 0, 1) := by decide +kernel
theorem dX6_clearText_1 : decode cX6_clearText 1 = .ok (.iconst 0, 1) := by decide +kernel
theorem dX6_clearText_2 : decode cX6_clearText 2 = .ok (.putfield 38, 3) := by decide +kernel
theorem dX6_clearText_5 : decode cX6_clearText 5 = .ok (.aload_n 0, 1) := by decide +kernel
theorem dX6_clearText_6 : decode cX6_clearText 6 = .ok (.getfield 166, 3) := by decide +kernel
theorem dX6_clearText_9 : decode cX6_clearText 9 = .ok (.istore_n 1, 1) := by decide +kernel
theorem dX6_clearText_10 : decode cX6_clearText 10 = .ok (.aload_n 0, 1) := by decide +kernel
theorem dX6_clearText_11 : decode cX6_clearText 11 = .ok (.iconst 0, 1) := by decide +kernel
theorem dX6_clearText_12 : decode cX6_clearText 12 = .ok (.putfield 166, 3) := by decide +kernel
theorem dX6_clearText_15 : decode cX6_clearText 15 = .ok (.iload_n 1, 1) := by decide +kernel
theorem dX6_clearText_16 : decode cX6_clearText 16 = .ok (.ireturn, 1) := by decide +kernel
theorem dX6_here_0 : decode cX6_here 0 = .ok (.aload_n 0, 1) := by decide +kernel
theorem dX6_here_1 : decode cX6_here 1 = .ok (.getfield 169, 3) := by decide +kernel
theorem dX6_here_4 : decode cX6_here 4 = .ok (.aload_n 0, 1) := by decide +kernel
theorem dX6_here_5 : decode cX6_here 5 = .ok (.getfield 166, 3) := by decide +kernel
theorem dX6_here_8 : decode cX6_here 8 = .ok (.if_icmp .ge 15, 3) := by decide +kernel
theorem dX6_here_11 : decode cX6_here 11 = .ok (.aload_n 0, 1) := by decide +kernel
theorem dX6_here_12 : decode cX6_here 12 = .ok (.getfield 22, 3) := by decide +kernel
theorem dX6_here_15 : decode cX6_here 15 = .ok (.aload_n 0, 1) := by decide +kernel
theorem dX6_here_16 : decode cX6_here 16 = .ok (.getfield 169, 3) := by decide +kernel
theorem dX6_here_19 : decode cX6_here 19 = .ok (.iaload, 1) := by decide +kernel
theorem dX6_here_20 : decode cX6_here 20 = .ok (.goto 4, 3) := by decide +kernel
theorem dX6_here_23 : decode cX6_here 23 = .ok (.iconst (-1), 1) := by decide +kernel
theorem dX6_here_24 : decode cX6_here 24 = .ok (.ireturn, 1) := by decide +kernel
theorem dX6_isFigure_0 : decode cX6_isFigure 0 = .ok (.iload_n 0, 1) := by decide +kernel
theorem dX6_isFigure_1 : decode cX6_isFigure 1 = .ok (.bipush 48, 2) := by decide +kernel
theorem dX6_isFigure_3 : decode cX6_isFigure 3 = .ok (.bipush 57, 2) := by decide +kernel
theorem dX6_isFigure_5 : decode cX6_isFigure 5 = .ok (.invokestatic 62, 3) := by decide +kernel
theorem dX6_isFigure_8 : decode cX6_isFigure 8 = .ok (.ireturn, 1) := by decide +kernel
theorem dX6_passes_0 : decode cX6_passes 0 = .ok (.aload_n 0, 1) := by decide +kernel
theorem dX6_passes_1 : decode cX6_passes 1 = .ok (.invokevirtual 172, 3) := by decide +kernel
theorem dX6_passes_4 : decode cX6_passes 4 = .ok (.iload_n 1, 1) := by decide +kernel
theorem dX6_passes_5 : decode cX6_passes 5 = .ok (.if_icmp .ne 7, 3) := by decide +kernel
theorem dX6_passes_8 : decode cX6_passes 8 = .ok (.iconst 1, 1) := by decide +kernel
theorem dX6_passes_9 : decode cX6_passes 9 = .ok (.goto 4, 3) := by decide +kernel
theorem dX6_passes_12 : decode cX6_passes 12 = .ok (.iconst 0, 1) := by decide +kernel
theorem dX6_passes_13 : decode cX6_passes 13 = .ok (.istore_n 2, 1) := by decide +kernel
theorem dX6_passes_14 : decode cX6_passes 14 = .ok (.aload_n 0, 1) := by decide +kernel
theorem dX6_passes_15 : decode cX6_passes 15 = .ok (.dup, 1) := by decide +kernel
theorem dX6_passes_16 : decode cX6_passes 16 = .ok (.getfield 169, 3) := by decide +kernel
theorem dX6_passes_19 : decode cX6_passes 19 = .ok (.iload_n 2, 1) := by decide +kernel
theorem dX6_passes_20 : decode cX6_passes 20 = .ok (.ifCond .eq 7, 3) := by decide +kernel
theorem dX6_passes_23 : decode cX6_passes 23 = .ok (.iconst 1, 1) := by decide +kernel
theorem dX6_passes_24 : decode cX6_passes 24 = .ok (.goto 4, 3) := by decide +kernel
theorem dX6_passes_27 : decode cX6_passes 27 = .ok (.iconst 0, 1) := by decide +kernel
theorem dX6_passes_28 : decode cX6_passes 28 = .ok (.iadd, 1) := by decide +kernel
theorem dX6_passes_29 : decode cX6_passes 29 = .ok (.putfield 169, 3) := by decide +kernel
theorem dX6_passes_32 : decode cX6_passes 32 = .ok (.iload_n 2, 1) := by decide +kernel
theorem dX6_passes_33 : decode cX6_passes 33 = .ok (.ireturn, 1) := by decide +kernel
theorem dX6_readDigit_0 : decode cX6_readDigit 0 = .ok (.aload_n 0, 1) := by decide +kernel
theorem dX6_readDigit_1 : decode cX6_readDigit 1 = .ok (.invokevirtual 172, 3) := by decide +kernel
theorem dX6_readDigit_4 : decode cX6_readDigit 4 = .ok (.bipush 48, 2) := by decide +kernel
theorem dX6_readDigit_6 : decode cX6_readDigit 6 = .ok (.iload_n 1, 1) := by decide +kernel
theorem dX6_readDigit_7 : decode cX6_readDigit 7 = .ok (.invokestatic 62, 3) := by decide +kernel
theorem dX6_readDigit_10 : decode cX6_readDigit 10 = .ok (.istore_n 2, 1) := by decide +kernel
theorem dX6_readDigit_11 : decode cX6_readDigit 11 = .ok (.aload_n 0, 1) := by decide +kernel
theorem dX6_readDigit_12 : decode cX6_readDigit 12 = .ok (.aload_n 0, 1) := by decide +kernel
theorem dX6_readDigit_13 : decode cX6_readDigit 13 = .ok (.invokevirtual 172, 3) := by decide +kernel
theorem dX6_readDigit_16 : decode cX6_readDigit 16 = .ok (.bipush 48, 2) := by decide +kernel
theorem dX6_readDigit_18 : decode cX6_readDigit 18 = .ok (.isub, 1) := by decide +kernel
theorem dX6_readDigit_19 : decode cX6_readDigit 19 = .ok (.putfield 175, 3) := by decide +kernel
theorem dX6_readDigit_22 : decode cX6_readDigit 22 = .ok (.aload_n 0, 1) := by decide +kernel
theorem dX6_readDigit_23 : decode cX6_readDigit 23 = .ok (.dup, 1) := by decide +kernel
theorem dX6_readDigit_24 : decode cX6_readDigit 24 = .ok (.getfield 169, 3) := by decide +kernel
theorem dX6_readDigit_27 : decode cX6_readDigit 27 = .ok (.iload_n 2, 1) := by decide +kernel
theorem dX6_readDigit_28 : decode cX6_readDigit 28 = .ok (.ifCond .eq 7, 3) := by decide +kernel
theorem dX6_readDigit_31 : decode cX6_readDigit 31 = .ok (.iconst 1, 1) := by decide +kernel
theorem dX6_readDigit_32 : decode cX6_readDigit 32 = .ok (.goto 4, 3) := by decide +kernel
theorem dX6_readDigit_35 : decode cX6_readDigit 35 = .ok (.iconst 0, 1) := by decide +kernel
theorem dX6_readDigit_36 : decode cX6_readDigit 36 = .ok (.iadd, 1) := by decide +kernel
theorem dX6_readDigit_37 : decode cX6_readDigit 37 = .ok (.putfield 169, 3) := by decide +kernel
theorem dX6_readDigit_40 : decode cX6_readDigit 40 = .ok (.iload_n 2, 1) := by decide +kernel
theorem dX6_readDigit_41 : decode cX6_readDigit 41 = .ok (.ireturn, 1) := by decide +kernel
theorem dX6_readNumber_0 : decode cX6_readNumber 0 = .ok (.aload_n 0, 1) := by decide +kernel
theorem dX6_readNumber_1 : decode cX6_readNumber 1 = .ok (.getfield 169, 3) := by decide +kernel
theorem dX6_readNumber_4 : decode cX6_readNumber 4 = .ok (.istore_n 2, 1) := by decide +kernel
theorem dX6_readNumber_5 : decode cX6_readNumber 5 = .ok (.aload_n 0, 1) := by decide +kernel
theorem dX6_readNumber_6 : decode cX6_readNumber 6 = .ok (.iconst 0, 1) := by decide +kernel
theorem dX6_readNumber_7 : decode cX6_readNumber 7 = .ok (.putfield 178, 3) := by decide +kernel
theorem dX6_readNumber_10 : decode cX6_readNumber 10 = .ok (.aload_n 0, 1) := by decide +kernel
theorem dX6_readNumber_11 : decode cX6_readNumber 11 = .ok (.invokevirtual 172, 3) := by decide +kernel
theorem dX6_readNumber_14 : decode cX6_readNumber 14 = .ok (.invokestatic 181, 3) := by decide +kernel
theorem dX6_readNumber_17 : decode cX6_readNumber 17 = .ok (.ifCond .eq 45, 3) := by decide +kernel
theorem dX6_readNumber_20 : decode cX6_readNumber 20 = .ok (.aload_n 0, 1) := by decide +kernel
theorem dX6_readNumber_21 : decode cX6_readNumber 21 = .ok (.getfield 169, 3) := by decide +kernel
theorem dX6_readNumber_24 : decode cX6_readNumber 24 = .ok (.iload_n 2, 1) := by decide +kernel
theorem dX6_readNumber_25 : decode cX6_readNumber 25 = .ok (.iconst 2, 1) := by decide +kernel
theorem dX6_readNumber_26 : decode cX6_readNumber 26 = .ok (.iadd, 1) := by decide +kernel
theorem dX6_readNumber_27 : decode cX6_readNumber 27 = .ok (.if_icmp .ge 35, 3) := by decide +kernel
theorem dX6_readNumber_30 : decode cX6_readNumber 30 = .ok (.aload_n 0, 1) := by decide +kernel
theorem dX6_readNumber_31 : decode cX6_readNumber 31 = .ok (.bipush 10, 2) := by decide +kernel
theorem dX6_readNumber_33 : decode cX6_readNumber 33 = .ok (.aload_n 0, 1) := by decide +kernel
theorem dX6_readNumber_34 : decode cX6_readNumber 34 = .ok (.getfield 178, 3) := by decide +kernel
theorem dX6_readNumber_37 : decode cX6_readNumber 37 = .ok (.imul, 1) := by decide +kernel
theorem dX6_readNumber_38 : decode cX6_readNumber 38 = .ok (.aload_n 0, 1) := by decide +kernel
theorem dX6_readNumber_39 : decode cX6_readNumber 39 = .ok (.invokevirtual 172, 3) := by decide +kernel
theorem dX6_readNumber_42 : decode cX6_readNumber 42 = .ok (.iadd, 1) := by decide +kernel
theorem dX6_readNumber_43 : decode cX6_readNumber 43 = .ok (.bipush 48, 2) := by decide +kernel
theorem dX6_readNumber_45 : decode cX6_readNumber 45 = .ok (.isub, 1) := by decide +kernel
theorem dX6_readNumber_46 : decode cX6_readNumber 46 = .ok (.putfield 178, 3) := by decide +kernel
theorem dX6_readNumber_49 : decode cX6_readNumber 49 = .ok (.aload_n 0, 1) := by decide +kernel
theorem dX6_readNumber_50 : decode cX6_readNumber 50 = .ok (.dup, 1) := by decide +kernel
theorem dX6_readNumber_51 : decode cX6_readNumber 51 = .ok (.getfield 169, 3) := by decide +kernel
theorem dX6_readNumber_54 : decode cX6_readNumber 54 = .ok (.iconst 1, 1) := by decide +kernel
theorem dX6_readNumber_55 : decode cX6_readNumber 55 = .ok (.iadd, 1) := by decide +kernel
theorem dX6_readNumber_56 : decode cX6_readNumber 56 = .ok (.putfield 169, 3) := by decide +kernel
theorem dX6_readNumber_59 : decode cX6_readNumber 59 = .ok (.goto (-49), 3) := by decide +kernel
theorem dX6_readNumber_62 : decode cX6_readNumber 62 = .ok (.aload_n 0, 1) := by decide +kernel
theorem dX6_readNumber_63 : decode cX6_readNumber 63 = .ok (.getfield 169, 3) := by decide +kernel
theorem dX6_readNumber_66 : decode cX6_readNumber 66 = .ok (.iload_n 2, 1) := by decide +kernel
theorem dX6_readNumber_67 : decode cX6_readNumber 67 = .ok (.if_icmp .eq 13, 3) := by decide +kernel
theorem dX6_readNumber_70 : decode cX6_readNumber 70 = .ok (.aload_n 0, 1) := by decide +kernel
theorem dX6_readNumber_71 : decode cX6_readNumber 71 = .ok (.invokevirtual 172, 3) := by decide +kernel
theorem dX6_readNumber_74 : decode cX6_readNumber 74 = .ok (.invokestatic 181, 3) := by decide +kernel
theorem dX6_readNumber_77 : decode cX6_readNumber 77 = .ok (.ifCond .eq 5, 3) := by decide +kernel
theorem dX6_readNumber_80 : decode cX6_readNumber 80 = .ok (.iconst 0, 1) := by decide +kernel
theorem dX6_readNumber_81 : decode cX6_readNumber 81 = .ok (.ireturn, 1) := by decide +kernel
theorem dX6_readNumber_82 : decode cX6_readNumber 82 = .ok (.aload_n 0, 1) := by decide +kernel
theorem dX6_readNumber_83 : decode cX6_readNumber 83 = .ok (.getfield 178, 3) := by decide +kernel
theorem dX6_readNumber_86 : decode cX6_readNumber 86 = .ok (.iconst 1, 1) := by decide +kernel
theorem dX6_readNumber_87 : decode cX6_readNumber 87 = .ok (.iload_n 1, 1) := by decide +kernel
theorem dX6_readNumber_88 : decode cX6_readNumber 88 = .ok (.invokestatic 62, 3) := by decide +kernel
theorem dX6_readNumber_91 : decode cX6_readNumber 91 = .ok (.istore_n 3, 1) := by decide +kernel
theorem dX6_readNumber_92 : decode cX6_readNumber 92 = .ok (.aload_n 0, 1) := by decide +kernel
theorem dX6_readNumber_93 : decode cX6_readNumber 93 = .ok (.iload_n 3, 1) := by decide +kernel
theorem dX6_readNumber_94 : decode cX6_readNumber 94 = .ok (.ifCond .eq 10, 3) := by decide +kernel
theorem dX6_readNumber_97 : decode cX6_readNumber 97 = .ok (.aload_n 0, 1) := by decide +kernel
theorem dX6_readNumber_98 : decode cX6_readNumber 98 = .ok (.getfield 169, 3) := by decide +kernel
theorem dX6_readNumber_101 : decode cX6_readNumber 101 = .ok (.goto 4, 3) := by decide +kernel
theorem dX6_readNumber_104 : decode cX6_readNumber 104 = .ok (.iload_n 2, 1) := by decide +kernel
theorem dX6_readNumber_105 : decode cX6_readNumber 105 = .ok (.putfield 169, 3) := by decide +kernel
theorem dX6_readNumber_108 : decode cX6_readNumber 108 = .ok (.iload_n 3, 1) := by decide +kernel
theorem dX6_readNumber_109 : decode cX6_readNumber 109 = .ok (.ireturn, 1) := by decide +kernel
theorem dX6_readCoins_0 : decode cX6_readCoins 0 = .ok (.iconst 0, 1) := by decide +kernel
theorem dX6_readCoins_1 : decode cX6_readCoins 1 = .ok (.istore_n 1, 1) := by decide +kernel
theorem dX6_readCoins_2 : decode cX6_readCoins 2 = .ok (.iload_n 1, 1) := by decide +kernel
theorem dX6_readCoins_3 : decode cX6_readCoins 3 = .ok (.iconst 4, 1) := by decide +kernel
theorem dX6_readCoins_4 : decode cX6_readCoins 4 = .ok (.if_icmp .ge 39, 3) := by decide +kernel
theorem dX6_readCoins_7 : decode cX6_readCoins 7 = .ok (.aload_n 0, 1) := by decide +kernel
theorem dX6_readCoins_8 : decode cX6_readCoins 8 = .ok (.bipush 44, 2) := by decide +kernel
theorem dX6_readCoins_10 : decode cX6_readCoins 10 = .ok (.invokevirtual 184, 3) := by decide +kernel
theorem dX6_readCoins_13 : decode cX6_readCoins 13 = .ok (.ifCond .eq 12, 3) := by decide +kernel
theorem dX6_readCoins_16 : decode cX6_readCoins 16 = .ok (.aload_n 0, 1) := by decide +kernel
theorem dX6_readCoins_17 : decode cX6_readCoins 17 = .ok (.bipush 57, 2) := by decide +kernel
theorem dX6_readCoins_19 : decode cX6_readCoins 19 = .ok (.invokevirtual 187, 3) := by decide +kernel
theorem dX6_readCoins_22 : decode cX6_readCoins 22 = .ok (.ifCond .ne 5, 3) := by decide +kernel
theorem dX6_readCoins_25 : decode cX6_readCoins 25 = .ok (.iconst 0, 1) := by decide +kernel
theorem dX6_readCoins_26 : decode cX6_readCoins 26 = .ok (.ireturn, 1) := by decide +kernel
theorem dX6_readCoins_27 : decode cX6_readCoins 27 = .ok (.aload_n 0, 1) := by decide +kernel
theorem dX6_readCoins_28 : decode cX6_readCoins 28 = .ok (.getfield 28, 3) := by decide +kernel
theorem dX6_readCoins_31 : decode cX6_readCoins 31 = .ok (.iload_n 1, 1) := by decide +kernel
theorem dX6_readCoins_32 : decode cX6_readCoins 32 = .ok (.aload_n 0, 1) := by decide +kernel
theorem dX6_readCoins_33 : decode cX6_readCoins 33 = .ok (.getfield 175, 3) := by decide +kernel
theorem dX6_readCoins_36 : decode cX6_readCoins 36 = .ok (.iastore, 1) := by decide +kernel
theorem dX6_readCoins_37 : decode cX6_readCoins 37 = .ok (.iinc 1 1, 3) := by decide +kernel
theorem dX6_readCoins_40 : decode cX6_readCoins 40 = .ok (.goto (-38), 3) := by decide +kernel
theorem dX6_readCoins_43 : decode cX6_readCoins 43 = .ok (.iconst 1, 1) := by decide +kernel
theorem dX6_readCoins_44 : decode cX6_readCoins 44 = .ok (.ireturn, 1) := by decide +kernel
theorem dX6_readOrder_0 : decode cX6_readOrder 0 = .ok (.aload_n 0, 1) := by decide +kernel
theorem dX6_readOrder_1 : decode cX6_readOrder 1 = .ok (.aload_n 0, 1) := by decide +kernel
theorem dX6_readOrder_2 : decode cX6_readOrder 2 = .ok (.invokevirtual 172, 3) := by decide +kernel
theorem dX6_readOrder_5 : decode cX6_readOrder 5 = .ok (.putfield 190, 3) := by decide +kernel
theorem dX6_readOrder_8 : decode cX6_readOrder 8 = .ok (.aload_n 0, 1) := by decide +kernel
theorem dX6_readOrder_9 : decode cX6_readOrder 9 = .ok (.getfield 190, 3) := by decide +kernel
theorem dX6_readOrder_12 : decode cX6_readOrder 12 = .ok (.bipush 115, 2) := by decide +kernel
theorem dX6_readOrder_14 : decode cX6_readOrder 14 = .ok (.if_icmp .eq 32, 3) := by decide +kernel
theorem dX6_readOrder_17 : decode cX6_readOrder 17 = .ok (.aload_n 0, 1) := by decide +kernel
theorem dX6_readOrder_18 : decode cX6_readOrder 18 = .ok (.getfield 190, 3) := by decide +kernel
theorem dX6_readOrder_21 : decode cX6_readOrder 21 = .ok (.bipush 98, 2) := by decide +kernel
theorem dX6_readOrder_23 : decode cX6_readOrder 23 = .ok (.if_icmp .eq 23, 3) := by decide +kernel
theorem dX6_readOrder_26 : decode cX6_readOrder 26 = .ok (.aload_n 0, 1) := by decide +kernel
theorem dX6_readOrder_27 : decode cX6_readOrder 27 = .ok (.getfield 190, 3) := by decide +kernel
theorem dX6_readOrder_30 : decode cX6_readOrder 30 = .ok (.bipush 102, 2) := by decide +kernel
theorem dX6_readOrder_32 : decode cX6_readOrder 32 = .ok (.if_icmp .eq 14, 3) := by decide +kernel
theorem dX6_readOrder_35 : decode cX6_readOrder 35 = .ok (.aload_n 0, 1) := by decide +kernel
theorem dX6_readOrder_36 : decode cX6_readOrder 36 = .ok (.getfield 190, 3) := by decide +kernel
theorem dX6_readOrder_39 : decode cX6_readOrder 39 = .ok (.bipush 104, 2) := by decide +kernel
theorem dX6_readOrder_41 : decode cX6_readOrder 41 = .ok (.if_icmp .eq 5, 3) := by decide +kernel
theorem dX6_readOrder_44 : decode cX6_readOrder 44 = .ok (.iconst 0, 1) := by decide +kernel
theorem dX6_readOrder_45 : decode cX6_readOrder 45 = .ok (.ireturn, 1) := by decide +kernel
theorem dX6_readOrder_46 : decode cX6_readOrder 46 = .ok (.aload_n 0, 1) := by decide +kernel
theorem dX6_readOrder_47 : decode cX6_readOrder 47 = .ok (.dup, 1) := by decide +kernel
theorem dX6_readOrder_48 : decode cX6_readOrder 48 = .ok (.getfield 169, 3) := by decide +kernel
theorem dX6_readOrder_51 : decode cX6_readOrder 51 = .ok (.iconst 1, 1) := by decide +kernel
theorem dX6_readOrder_52 : decode cX6_readOrder 52 = .ok (.iadd, 1) := by decide +kernel
theorem dX6_readOrder_53 : decode cX6_readOrder 53 = .ok (.putfield 169, 3) := by decide +kernel
theorem dX6_readOrder_56 : decode cX6_readOrder 56 = .ok (.aload_n 0, 1) := by decide +kernel
theorem dX6_readOrder_57 : decode cX6_readOrder 57 = .ok (.getfield 190, 3) := by decide +kernel
theorem dX6_readOrder_60 : decode cX6_readOrder 60 = .ok (.bipush 104, 2) := by decide +kernel
theorem dX6_readOrder_62 : decode cX6_readOrder 62 = .ok (.if_icmp .eq 36, 3) := by decide +kernel
theorem dX6_readOrder_65 : decode cX6_readOrder 65 = .ok (.aload_n 0, 1) := by decide +kernel
theorem dX6_readOrder_66 : decode cX6_readOrder 66 = .ok (.aload_n 0, 1) := by decide +kernel
theorem dX6_readOrder_67 : decode cX6_readOrder 67 = .ok (.getfield 190, 3) := by decide +kernel
theorem dX6_readOrder_70 : decode cX6_readOrder 70 = .ok (.bipush 102, 2) := by decide +kernel
theorem dX6_readOrder_72 : decode cX6_readOrder 72 = .ok (.if_icmp .ne 8, 3) := by decide +kernel
theorem dX6_readOrder_75 : decode cX6_readOrder 75 = .ok (.bipush 51, 2) := by decide +kernel
theorem dX6_readOrder_77 : decode cX6_readOrder 77 = .ok (.goto 5, 3) := by decide +kernel
theorem dX6_readOrder_80 : decode cX6_readOrder 80 = .ok (.bipush 55, 2) := by decide +kernel
theorem dX6_readOrder_82 : decode cX6_readOrder 82 = .ok (.invokevirtual 187, 3) := by decide +kernel
theorem dX6_readOrder_85 : decode cX6_readOrder 85 = .ok (.ifCond .ne 5, 3) := by decide +kernel
theorem dX6_readOrder_88 : decode cX6_readOrder 88 = .ok (.iconst 0, 1) := by decide +kernel
theorem dX6_readOrder_89 : decode cX6_readOrder 89 = .ok (.ireturn, 1) := by decide +kernel
theorem dX6_readOrder_90 : decode cX6_readOrder 90 = .ok (.aload_n 0, 1) := by decide +kernel
theorem dX6_readOrder_91 : decode cX6_readOrder 91 = .ok (.aload_n 0, 1) := by decide +kernel
theorem dX6_readOrder_92 : decode cX6_readOrder 92 = .ok (.getfield 175, 3) := by decide +kernel
theorem dX6_readOrder_95 : decode cX6_readOrder 95 = .ok (.putfield 193, 3) := by decide +kernel
theorem dX6_readOrder_98 : decode cX6_readOrder 98 = .ok (.aload_n 0, 1) := by decide +kernel
theorem dX6_readOrder_99 : decode cX6_readOrder 99 = .ok (.getfield 190, 3) := by decide +kernel
theorem dX6_readOrder_102 : decode cX6_readOrder 102 = .ok (.bipush 98, 2) := by decide +kernel
theorem dX6_readOrder_104 : decode cX6_readOrder 104 = .ok (.if_icmp .ne 10, 3) := by decide +kernel
theorem dX6_readOrder_107 : decode cX6_readOrder 107 = .ok (.aload_n 0, 1) := by decide +kernel
theorem dX6_readOrder_108 : decode cX6_readOrder 108 = .ok (.invokevirtual 196, 3) := by decide +kernel
theorem dX6_readOrder_111 : decode cX6_readOrder 111 = .ok (.goto 63, 3) := by decide +kernel
theorem dX6_readOrder_114 : decode cX6_readOrder 114 = .ok (.aload_n 0, 1) := by decide +kernel
theorem dX6_readOrder_115 : decode cX6_readOrder 115 = .ok (.getfield 190, 3) := by decide +kernel
theorem dX6_readOrder_118 : decode cX6_readOrder 118 = .ok (.bipush 104, 2) := by decide +kernel
theorem dX6_readOrder_120 : decode cX6_readOrder 120 = .ok (.if_icmp .eq 12, 3) := by decide +kernel
theorem dX6_readOrder_123 : decode cX6_readOrder 123 = .ok (.aload_n 0, 1) := by decide +kernel
theorem dX6_readOrder_124 : decode cX6_readOrder 124 = .ok (.bipush 120, 2) := by decide +kernel
theorem dX6_readOrder_126 : decode cX6_readOrder 126 = .ok (.invokevirtual 184, 3) := by decide +kernel
theorem dX6_readOrder_129 : decode cX6_readOrder 129 = .ok (.ifCond .eq 44, 3) := by decide +kernel
theorem dX6_readOrder_132 : decode cX6_readOrder 132 = .ok (.aload_n 0, 1) := by decide +kernel
theorem dX6_readOrder_133 : decode cX6_readOrder 133 = .ok (.aload_n 0, 1) := by decide +kernel
theorem dX6_readOrder_134 : decode cX6_readOrder 134 = .ok (.getfield 190, 3) := by decide +kernel
theorem dX6_readOrder_137 : decode cX6_readOrder 137 = .ok (.bipush 115, 2) := by decide +kernel
theorem dX6_readOrder_139 : decode cX6_readOrder 139 = .ok (.if_icmp .ne 8, 3) := by decide +kernel
theorem dX6_readOrder_142 : decode cX6_readOrder 142 = .ok (.bipush 20, 2) := by decide +kernel
theorem dX6_readOrder_144 : decode cX6_readOrder 144 = .ok (.goto 19, 3) := by decide +kernel
theorem dX6_readOrder_147 : decode cX6_readOrder 147 = .ok (.aload_n 0, 1) := by decide +kernel
theorem dX6_readOrder_148 : decode cX6_readOrder 148 = .ok (.getfield 190, 3) := by decide +kernel
theorem dX6_readOrder_151 : decode cX6_readOrder 151 = .ok (.bipush 102, 2) := by decide +kernel
theorem dX6_readOrder_153 : decode cX6_readOrder 153 = .ok (.if_icmp .ne 8, 3) := by decide +kernel
theorem dX6_readOrder_156 : decode cX6_readOrder 156 = .ok (.bipush 30, 2) := by decide +kernel
theorem dX6_readOrder_158 : decode cX6_readOrder 158 = .ok (.goto 5, 3) := by decide +kernel
theorem dX6_readOrder_161 : decode cX6_readOrder 161 = .ok (.bipush 48, 2) := by decide +kernel
theorem dX6_readOrder_163 : decode cX6_readOrder 163 = .ok (.invokevirtual 200, 3) := by decide +kernel
theorem dX6_readOrder_166 : decode cX6_readOrder 166 = .ok (.ifCond .eq 7, 3) := by decide +kernel
theorem dX6_readOrder_169 : decode cX6_readOrder 169 = .ok (.iconst 1, 1) := by decide +kernel
theorem dX6_readOrder_170 : decode cX6_readOrder 170 = .ok (.goto 4, 3) := by decide +kernel
theorem dX6_readOrder_173 : decode cX6_readOrder 173 = .ok (.iconst 0, 1) := by decide +kernel
theorem dX6_readOrder_174 : decode cX6_readOrder 174 = .ok (.istore_n 1, 1) := by decide +kernel
theorem dX6_readOrder_175 : decode cX6_readOrder 175 = .ok (.iload_n 1, 1) := by decide +kernel
theorem dX6_readOrder_176 : decode cX6_readOrder 176 = .ok (.ifCond .eq 16, 3) := by decide +kernel
theorem dX6_readOrder_179 : decode cX6_readOrder 179 = .ok (.aload_n 0, 1) := by decide +kernel
theorem dX6_readOrder_180 : decode cX6_readOrder 180 = .ok (.bipush 59, 2) := by decide +kernel
theorem dX6_readOrder_182 : decode cX6_readOrder 182 = .ok (.invokevirtual 184, 3) := by decide +kernel
theorem dX6_readOrder_185 : decode cX6_readOrder 185 = .ok (.ifCond .eq 7, 3) := by decide +kernel
theorem dX6_readOrder_188 : decode cX6_readOrder 188 = .ok (.iconst 1, 1) := by decide +kernel
theorem dX6_readOrder_189 : decode cX6_readOrder 189 = .ok (.goto 4, 3) := by decide +kernel
theorem dX6_readOrder_192 : decode cX6_readOrder 192 = .ok (.iconst 0, 1) := by decide +kernel
theorem dX6_readOrder_193 : decode cX6_readOrder 193 = .ok (.ireturn, 1) := by decide +kernel
theorem dX6_does_0 : decode cX6_does 0 = .ok (.aload_n 0, 1) := by decide +kernel
theorem dX6_does_1 : decode cX6_does 1 = .ok (.getfield 190, 3) := by decide +kernel
theorem dX6_does_4 : decode cX6_does 4 = .ok (.lookupswitch 71 #[(102, 49), (104, 62), (115, 36)], 36) := by decide +kernel
theorem dX6_does_40 : decode cX6_does 40 = .ok (.aload_n 0, 1) := by decide +kernel
theorem dX6_does_41 : decode cX6_does 41 = .ok (.aload_n 0, 1) := by decide +kernel
theorem dX6_does_42 : decode cX6_does 42 = .ok (.getfield 193, 3) := by decide +kernel
theorem dX6_does_45 : decode cX6_does 45 = .ok (.aload_n 0, 1) := by decide +kernel
theorem dX6_does_46 : decode cX6_does 46 = .ok (.getfield 178, 3) := by decide +kernel
theorem dX6_does_49 : decode cX6_does 49 = .ok (.invokevirtual 104, 3) := by decide +kernel
theorem dX6_does_52 : decode cX6_does 52 = .ok (.ireturn, 1) := by decide +kernel
theorem dX6_does_53 : decode cX6_does 53 = .ok (.aload_n 0, 1) := by decide +kernel
theorem dX6_does_54 : decode cX6_does 54 = .ok (.aload_n 0, 1) := by decide +kernel
theorem dX6_does_55 : decode cX6_does 55 = .ok (.getfield 193, 3) := by decide +kernel
theorem dX6_does_58 : decode cX6_does 58 = .ok (.aload_n 0, 1) := by decide +kernel
theorem dX6_does_59 : decode cX6_does 59 = .ok (.getfield 178, 3) := by decide +kernel
theorem dX6_does_62 : decode cX6_does 62 = .ok (.invokevirtual 110, 3) := by decide +kernel
theorem dX6_does_65 : decode cX6_does 65 = .ok (.ireturn, 1) := by decide +kernel
theorem dX6_does_66 : decode cX6_does 66 = .ok (.aload_n 0, 1) := by decide +kernel
theorem dX6_does_67 : decode cX6_does 67 = .ok (.aload_n 0, 1) := by decide +kernel
theorem dX6_does_68 : decode cX6_does 68 = .ok (.getfield 178, 3) := by decide +kernel
theorem dX6_does_71 : decode cX6_does 71 = .ok (.invokevirtual 151, 3) := by decide +kernel
theorem dX6_does_74 : decode cX6_does 74 = .ok (.ireturn, 1) := by decide +kernel
theorem dX6_does_75 : decode cX6_does 75 = .ok (.aload_n 0, 1) := by decide +kernel
theorem dX6_does_76 : decode cX6_does 76 = .ok (.aload_n 0, 1) := by decide +kernel
theorem dX6_does_77 : decode cX6_does 77 = .ok (.getfield 193, 3) := by decide +kernel
theorem dX6_does_80 : decode cX6_does 80 = .ok (.invokevirtual 96, 3) := by decide +kernel
theorem dX6_does_83 : decode cX6_does 83 = .ok (.ifCond .eq 14, 3) := by decide +kernel
theorem dX6_does_86 : decode cX6_does 86 = .ok (.aload_n 0, 1) := by decide +kernel
theorem dX6_does_87 : decode cX6_does 87 = .ok (.aload_n 0, 1) := by decide +kernel
theorem dX6_does_88 : decode cX6_does 88 = .ok (.getfield 193, 3) := by decide +kernel
theorem dX6_does_91 : decode cX6_does 91 = .ok (.invokevirtual 134, 3) := by decide +kernel
theorem dX6_does_94 : decode cX6_does 94 = .ok (.goto 8, 3) := by decide +kernel
theorem dX6_does_97 : decode cX6_does 97 = .ok (.aload_n 0, 1) := by decide +kernel
theorem dX6_does_98 : decode cX6_does 98 = .ok (.iconst 1, 1) := by decide +kernel
theorem dX6_does_99 : decode cX6_does 99 = .ok (.invokevirtual 82, 3) := by decide +kernel
theorem dX6_does_102 : decode cX6_does 102 = .ok (.ireturn, 1) := by decide +kernel
theorem dX6_carryOut_0 : decode cX6_carryOut 0 = .ok (.aload_n 0, 1) := by decide +kernel
theorem dX6_carryOut_1 : decode cX6_carryOut 1 = .ok (.iconst 0, 1) := by decide +kernel
theorem dX6_carryOut_2 : decode cX6_carryOut 2 = .ok (.putfield 38, 3) := by decide +kernel
theorem dX6_carryOut_5 : decode cX6_carryOut 5 = .ok (.aload_n 0, 1) := by decide +kernel
theorem dX6_carryOut_6 : decode cX6_carryOut 6 = .ok (.iconst 0, 1) := by decide +kernel
theorem dX6_carryOut_7 : decode cX6_carryOut 7 = .ok (.putfield 169, 3) := by decide +kernel
theorem dX6_carryOut_10 : decode cX6_carryOut 10 = .ok (.aload_n 0, 1) := by decide +kernel
theorem dX6_carryOut_11 : decode cX6_carryOut 11 = .ok (.getfield 169, 3) := by decide +kernel
theorem dX6_carryOut_14 : decode cX6_carryOut 14 = .ok (.aload_n 0, 1) := by decide +kernel
theorem dX6_carryOut_15 : decode cX6_carryOut 15 = .ok (.getfield 166, 3) := by decide +kernel
theorem dX6_carryOut_18 : decode cX6_carryOut 18 = .ok (.if_icmp .ge 18, 3) := by decide +kernel
theorem dX6_carryOut_21 : decode cX6_carryOut 21 = .ok (.aload_n 0, 1) := by decide +kernel
theorem dX6_carryOut_22 : decode cX6_carryOut 22 = .ok (.invokevirtual 203, 3) := by decide +kernel
theorem dX6_carryOut_25 : decode cX6_carryOut 25 = .ok (.ifCond .ne (-15), 3) := by decide +kernel
theorem dX6_carryOut_28 : decode cX6_carryOut 28 = .ok (.bipush (-10), 2) := by decide +kernel
theorem dX6_carryOut_30 : decode cX6_carryOut 30 = .ok (.aload_n 0, 1) := by decide +kernel
theorem dX6_carryOut_31 : decode cX6_carryOut 31 = .ok (.getfield 169, 3) := by decide +kernel
theorem dX6_carryOut_34 : decode cX6_carryOut 34 = .ok (.isub, 1) := by decide +kernel
theorem dX6_carryOut_35 : decode cX6_carryOut 35 = .ok (.ireturn, 1) := by decide +kernel
theorem dX6_carryOut_36 : decode cX6_carryOut 36 = .ok (.aload_n 0, 1) := by decide +kernel
theorem dX6_carryOut_37 : decode cX6_carryOut 37 = .ok (.invokevirtual 76, 3) := by decide +kernel
theorem dX6_carryOut_40 : decode cX6_carryOut 40 = .ok (.aload_n 0, 1) := by decide +kernel
theorem dX6_carryOut_41 : decode cX6_carryOut 41 = .ok (.iconst 0, 1) := by decide +kernel
theorem dX6_carryOut_42 : decode cX6_carryOut 42 = .ok (.putfield 169, 3) := by decide +kernel
theorem dX6_carryOut_45 : decode cX6_carryOut 45 = .ok (.iconst 0, 1) := by decide +kernel
theorem dX6_carryOut_46 : decode cX6_carryOut 46 = .ok (.istore_n 1, 1) := by decide +kernel
theorem dX6_carryOut_47 : decode cX6_carryOut 47 = .ok (.aload_n 0, 1) := by decide +kernel
theorem dX6_carryOut_48 : decode cX6_carryOut 48 = .ok (.getfield 169, 3) := by decide +kernel
theorem dX6_carryOut_51 : decode cX6_carryOut 51 = .ok (.aload_n 0, 1) := by decide +kernel
theorem dX6_carryOut_52 : decode cX6_carryOut 52 = .ok (.getfield 166, 3) := by decide +kernel
theorem dX6_carryOut_55 : decode cX6_carryOut 55 = .ok (.if_icmp .ge 42, 3) := by decide +kernel
theorem dX6_carryOut_58 : decode cX6_carryOut 58 = .ok (.aload_n 0, 1) := by decide +kernel
theorem dX6_carryOut_59 : decode cX6_carryOut 59 = .ok (.getfield 52, 3) := by decide +kernel
theorem dX6_carryOut_62 : decode cX6_carryOut 62 = .ok (.ifCond .ne 35, 3) := by decide +kernel
theorem dX6_carryOut_65 : decode cX6_carryOut 65 = .ok (.aload_n 0, 1) := by decide +kernel
theorem dX6_carryOut_66 : decode cX6_carryOut 66 = .ok (.invokevirtual 203, 3) := by decide +kernel
theorem dX6_carryOut_69 : decode cX6_carryOut 69 = .ok (.istore_n 2, 1) := by decide +kernel
theorem dX6_carryOut_70 : decode cX6_carryOut 70 = .ok (.aload_n 0, 1) := by decide +kernel
theorem dX6_carryOut_71 : decode cX6_carryOut 71 = .ok (.invokevirtual 206, 3) := by decide +kernel
theorem dX6_carryOut_74 : decode cX6_carryOut 74 = .ok (.istore_n 3, 1) := by decide +kernel
theorem dX6_carryOut_75 : decode cX6_carryOut 75 = .ok (.iload_n 1, 1) := by decide +kernel
theorem dX6_carryOut_76 : decode cX6_carryOut 76 = .ok (.iload_n 2, 1) := by decide +kernel
theorem dX6_carryOut_77 : decode cX6_carryOut 77 = .ok (.ifCond .eq 14, 3) := by decide +kernel
theorem dX6_carryOut_80 : decode cX6_carryOut 80 = .ok (.aload_n 0, 1) := by decide +kernel
theorem dX6_carryOut_81 : decode cX6_carryOut 81 = .ok (.getfield 52, 3) := by decide +kernel
theorem dX6_carryOut_84 : decode cX6_carryOut 84 = .ok (.ifCond .ne 7, 3) := by decide +kernel
theorem dX6_carryOut_87 : decode cX6_carryOut 87 = .ok (.iconst 1, 1) := by decide +kernel
theorem dX6_carryOut_88 : decode cX6_carryOut 88 = .ok (.goto 4, 3) := by decide +kernel
theorem dX6_carryOut_91 : decode cX6_carryOut 91 = .ok (.iconst 0, 1) := by decide +kernel
theorem dX6_carryOut_92 : decode cX6_carryOut 92 = .ok (.iadd, 1) := by decide +kernel
theorem dX6_carryOut_93 : decode cX6_carryOut 93 = .ok (.istore_n 1, 1) := by decide +kernel
theorem dX6_carryOut_94 : decode cX6_carryOut 94 = .ok (.goto (-47), 3) := by decide +kernel
theorem dX6_carryOut_97 : decode cX6_carryOut 97 = .ok (.aload_n 0, 1) := by decide +kernel
theorem dX6_carryOut_98 : decode cX6_carryOut 98 = .ok (.iconst 0, 1) := by decide +kernel
theorem dX6_carryOut_99 : decode cX6_carryOut 99 = .ok (.putfield 52, 3) := by decide +kernel
theorem dX6_carryOut_102 : decode cX6_carryOut 102 = .ok (.aload_n 0, 1) := by decide +kernel
theorem dX6_carryOut_103 : decode cX6_carryOut 103 = .ok (.iload_n 1, 1) := by decide +kernel
theorem dX6_carryOut_104 : decode cX6_carryOut 104 = .ok (.invokevirtual 85, 3) := by decide +kernel
theorem dX6_carryOut_107 : decode cX6_carryOut 107 = .ok (.ireturn, 1) := by decide +kernel
theorem dX6_undo_0 : decode cX6_undo 0 = .ok (.aload_n 0, 1) := by decide +kernel
theorem dX6_undo_1 : decode cX6_undo 1 = .ok (.iconst 0, 1) := by decide +kernel
theorem dX6_undo_2 : decode cX6_undo 2 = .ok (.putfield 38, 3) := by decide +kernel
theorem dX6_undo_5 : decode cX6_undo 5 = .ok (.aload_n 0, 1) := by decide +kernel
theorem dX6_undo_6 : decode cX6_undo 6 = .ok (.getfield 59, 3) := by decide +kernel
theorem dX6_undo_9 : decode cX6_undo 9 = .ok (.ifCond .ne 9, 3) := by decide +kernel
theorem dX6_undo_12 : decode cX6_undo 12 = .ok (.aload_n 0, 1) := by decide +kernel
theorem dX6_undo_13 : decode cX6_undo 13 = .ok (.iconst 1, 1) := by decide +kernel
theorem dX6_undo_14 : decode cX6_undo 14 = .ok (.invokevirtual 154, 3) := by decide +kernel
theorem dX6_undo_17 : decode cX6_undo 17 = .ok (.ireturn, 1) := by decide +kernel
theorem dX6_undo_18 : decode cX6_undo 18 = .ok (.aload_n 0, 1) := by decide +kernel
theorem dX6_undo_19 : decode cX6_undo 19 = .ok (.dup, 1) := by decide +kernel
theorem dX6_undo_20 : decode cX6_undo 20 = .ok (.getfield 59, 3) := by decide +kernel
theorem dX6_undo_23 : decode cX6_undo 23 = .ok (.iconst 1, 1) := by decide +kernel
theorem dX6_undo_24 : decode cX6_undo 24 = .ok (.isub, 1) := by decide +kernel
theorem dX6_undo_25 : decode cX6_undo 25 = .ok (.putfield 59, 3) := by decide +kernel
theorem dX6_undo_28 : decode cX6_undo 28 = .ok (.aload_n 0, 1) := by decide +kernel
theorem dX6_undo_29 : decode cX6_undo 29 = .ok (.getfield 19, 3) := by decide +kernel
theorem dX6_undo_32 : decode cX6_undo 32 = .ok (.sipush 311, 3) := by decide +kernel
theorem dX6_undo_35 : decode cX6_undo 35 = .ok (.aload_n 0, 1) := by decide +kernel
theorem dX6_undo_36 : decode cX6_undo 36 = .ok (.getfield 59, 3) := by decide +kernel
theorem dX6_undo_39 : decode cX6_undo 39 = .ok (.imul, 1) := by decide +kernel
theorem dX6_undo_40 : decode cX6_undo 40 = .ok (.aload_n 0, 1) := by decide +kernel
theorem dX6_undo_41 : decode cX6_undo 41 = .ok (.getfield 7, 3) := by decide +kernel
theorem dX6_undo_44 : decode cX6_undo 44 = .ok (.iconst 0, 1) := by decide +kernel
theorem dX6_undo_45 : decode cX6_undo 45 = .ok (.invokestatic 55, 3) := by decide +kernel
theorem dX6_undo_48 : decode cX6_undo 48 = .ok (.aload_n 0, 1) := by decide +kernel
theorem dX6_undo_49 : decode cX6_undo 49 = .ok (.getfield 59, 3) := by decide +kernel
theorem dX6_undo_52 : decode cX6_undo 52 = .ok (.ireturn, 1) := by decide +kernel
theorem dX6_mix_0 : decode cX6_mix 0 = .ok (.aload_n 0, 1) := by decide +kernel
theorem dX6_mix_1 : decode cX6_mix 1 = .ok (.ldc2_w 209, 3) := by decide +kernel
theorem dX6_mix_4 : decode cX6_mix 4 = .ok (.aload_n 0, 1) := by decide +kernel
theorem dX6_mix_5 : decode cX6_mix 5 = .ok (.getfield 211, 3) := by decide +kernel
theorem dX6_mix_8 : decode cX6_mix 8 = .ok (.lmul, 1) := by decide +kernel
theorem dX6_mix_9 : decode cX6_mix 9 = .ok (.iload_n 1, 1) := by decide +kernel
theorem dX6_mix_10 : decode cX6_mix 10 = .ok (.i2l, 1) := by decide +kernel
theorem dX6_mix_11 : decode cX6_mix 11 = .ok (.ladd, 1) := by decide +kernel
theorem dX6_mix_12 : decode cX6_mix 12 = .ok (.putfield 211, 3) := by decide +kernel
theorem dX6_mix_15 : decode cX6_mix 15 = .ok (.return_, 1) := by decide +kernel
theorem dX6_digest_0 : decode cX6_digest 0 = .ok (.aload_n 0, 1) := by decide +kernel
theorem dX6_digest_1 : decode cX6_digest 1 = .ok (.iconst 0, 1) := by decide +kernel
theorem dX6_digest_2 : decode cX6_digest 2 = .ok (.putfield 38, 3) := by decide +kernel
theorem dX6_digest_5 : decode cX6_digest 5 = .ok (.aload_n 0, 1) := by decide +kernel
theorem dX6_digest_6 : decode cX6_digest 6 = .ok (.ldc2_w 215, 3) := by decide +kernel
theorem dX6_digest_9 : decode cX6_digest 9 = .ok (.putfield 211, 3) := by decide +kernel
theorem dX6_digest_12 : decode cX6_digest 12 = .ok (.aload_n 0, 1) := by decide +kernel
theorem dX6_digest_13 : decode cX6_digest 13 = .ok (.aload_n 0, 1) := by decide +kernel
theorem dX6_digest_14 : decode cX6_digest 14 = .ok (.getfield 166, 3) := by decide +kernel
theorem dX6_digest_17 : decode cX6_digest 17 = .ok (.invokevirtual 217, 3) := by decide +kernel
theorem dX6_digest_20 : decode cX6_digest 20 = .ok (.iconst 0, 1) := by decide +kernel
theorem dX6_digest_21 : decode cX6_digest 21 = .ok (.istore_n 1, 1) := by decide +kernel
theorem dX6_digest_22 : decode cX6_digest 22 = .ok (.iload_n 1, 1) := by decide +kernel
theorem dX6_digest_23 : decode cX6_digest 23 = .ok (.bipush 11, 2) := by decide +kernel
theorem dX6_digest_25 : decode cX6_digest 25 = .ok (.if_icmp .ge 18, 3) := by decide +kernel
theorem dX6_digest_28 : decode cX6_digest 28 = .ok (.aload_n 0, 1) := by decide +kernel
theorem dX6_digest_29 : decode cX6_digest 29 = .ok (.aload_n 0, 1) := by decide +kernel
theorem dX6_digest_30 : decode cX6_digest 30 = .ok (.iload_n 1, 1) := by decide +kernel
theorem dX6_digest_31 : decode cX6_digest 31 = .ok (.invokevirtual 163, 3) := by decide +kernel
theorem dX6_digest_34 : decode cX6_digest 34 = .ok (.invokevirtual 217, 3) := by decide +kernel
theorem dX6_digest_37 : decode cX6_digest 37 = .ok (.iinc 1 1, 3) := by decide +kernel
theorem dX6_digest_40 : decode cX6_digest 40 = .ok (.goto (-18), 3) := by decide +kernel
theorem dX6_digest_43 : decode cX6_digest 43 = .ok (.iconst 0, 1) := by decide +kernel
theorem dX6_digest_44 : decode cX6_digest 44 = .ok (.istore_n 1, 1) := by decide +kernel
theorem dX6_digest_45 : decode cX6_digest 45 = .ok (.iload_n 1, 1) := by decide +kernel
theorem dX6_digest_46 : decode cX6_digest 46 = .ok (.bipush 9, 2) := by decide +kernel
theorem dX6_digest_48 : decode cX6_digest 48 = .ok (.if_icmp .ge 21, 3) := by decide +kernel
theorem dX6_digest_51 : decode cX6_digest 51 = .ok (.aload_n 0, 1) := by decide +kernel
theorem dX6_digest_52 : decode cX6_digest 52 = .ok (.aload_n 0, 1) := by decide +kernel
theorem dX6_digest_53 : decode cX6_digest 53 = .ok (.getfield 7, 3) := by decide +kernel
theorem dX6_digest_56 : decode cX6_digest 56 = .ok (.iconst 0, 1) := by decide +kernel
theorem dX6_digest_57 : decode cX6_digest 57 = .ok (.iload_n 1, 1) := by decide +kernel
theorem dX6_digest_58 : decode cX6_digest 58 = .ok (.iadd, 1) := by decide +kernel
theorem dX6_digest_59 : decode cX6_digest 59 = .ok (.iaload, 1) := by decide +kernel
theorem dX6_digest_60 : decode cX6_digest 60 = .ok (.invokevirtual 217, 3) := by decide +kernel
theorem dX6_digest_63 : decode cX6_digest 63 = .ok (.iinc 1 1, 3) := by decide +kernel
theorem dX6_digest_66 : decode cX6_digest 66 = .ok (.goto (-21), 3) := by decide +kernel
theorem dX6_digest_69 : decode cX6_digest 69 = .ok (.iconst 0, 1) := by decide +kernel
theorem dX6_digest_70 : decode cX6_digest 70 = .ok (.istore_n 1, 1) := by decide +kernel
theorem dX6_digest_71 : decode cX6_digest 71 = .ok (.iload_n 1, 1) := by decide +kernel
theorem dX6_digest_72 : decode cX6_digest 72 = .ok (.aload_n 0, 1) := by decide +kernel
theorem dX6_digest_73 : decode cX6_digest 73 = .ok (.getfield 7, 3) := by decide +kernel
theorem dX6_digest_76 : decode cX6_digest 76 = .ok (.bipush 13, 2) := by decide +kernel
theorem dX6_digest_78 : decode cX6_digest 78 = .ok (.iaload, 1) := by decide +kernel
theorem dX6_digest_79 : decode cX6_digest 79 = .ok (.if_icmp .ge 33, 3) := by decide +kernel
theorem dX6_digest_82 : decode cX6_digest 82 = .ok (.iconst 0, 1) := by decide +kernel
theorem dX6_digest_83 : decode cX6_digest 83 = .ok (.istore_n 2, 1) := by decide +kernel
theorem dX6_digest_84 : decode cX6_digest 84 = .ok (.iload_n 2, 1) := by decide +kernel
theorem dX6_digest_85 : decode cX6_digest 85 = .ok (.bipush 11, 2) := by decide +kernel
theorem dX6_digest_87 : decode cX6_digest 87 = .ok (.if_icmp .ge 19, 3) := by decide +kernel
theorem dX6_digest_90 : decode cX6_digest 90 = .ok (.aload_n 0, 1) := by decide +kernel
theorem dX6_digest_91 : decode cX6_digest 91 = .ok (.aload_n 0, 1) := by decide +kernel
theorem dX6_digest_92 : decode cX6_digest 92 = .ok (.iload_n 1, 1) := by decide +kernel
theorem dX6_digest_93 : decode cX6_digest 93 = .ok (.iload_n 2, 1) := by decide +kernel
theorem dX6_digest_94 : decode cX6_digest 94 = .ok (.invokevirtual 100, 3) := by decide +kernel
theorem dX6_digest_97 : decode cX6_digest 97 = .ok (.invokevirtual 217, 3) := by decide +kernel
theorem dX6_digest_100 : decode cX6_digest 100 = .ok (.iinc 2 1, 3) := by decide +kernel
theorem dX6_digest_103 : decode cX6_digest 103 = .ok (.goto (-19), 3) := by decide +kernel
theorem dX6_digest_106 : decode cX6_digest 106 = .ok (.iinc 1 1, 3) := by decide +kernel
theorem dX6_digest_109 : decode cX6_digest 109 = .ok (.goto (-38), 3) := by decide +kernel
theorem dX6_digest_112 : decode cX6_digest 112 = .ok (.iconst 0, 1) := by decide +kernel
theorem dX6_digest_113 : decode cX6_digest 113 = .ok (.istore_n 1, 1) := by decide +kernel
theorem dX6_digest_114 : decode cX6_digest 114 = .ok (.iload_n 1, 1) := by decide +kernel
theorem dX6_digest_115 : decode cX6_digest 115 = .ok (.aload_n 0, 1) := by decide +kernel
theorem dX6_digest_116 : decode cX6_digest 116 = .ok (.getfield 7, 3) := by decide +kernel
theorem dX6_digest_119 : decode cX6_digest 119 = .ok (.bipush 14, 2) := by decide +kernel
theorem dX6_digest_121 : decode cX6_digest 121 = .ok (.iaload, 1) := by decide +kernel
theorem dX6_digest_122 : decode cX6_digest 122 = .ok (.if_icmp .ge 22, 3) := by decide +kernel
theorem dX6_digest_125 : decode cX6_digest 125 = .ok (.aload_n 0, 1) := by decide +kernel
theorem dX6_digest_126 : decode cX6_digest 126 = .ok (.aload_n 0, 1) := by decide +kernel
theorem dX6_digest_127 : decode cX6_digest 127 = .ok (.getfield 7, 3) := by decide +kernel
theorem dX6_digest_130 : decode cX6_digest 130 = .ok (.bipush 111, 2) := by decide +kernel
theorem dX6_digest_132 : decode cX6_digest 132 = .ok (.iload_n 1, 1) := by decide +kernel
theorem dX6_digest_133 : decode cX6_digest 133 = .ok (.iadd, 1) := by decide +kernel
theorem dX6_digest_134 : decode cX6_digest 134 = .ok (.iaload, 1) := by decide +kernel
theorem dX6_digest_135 : decode cX6_digest 135 = .ok (.invokevirtual 217, 3) := by decide +kernel
theorem dX6_digest_138 : decode cX6_digest 138 = .ok (.iinc 1 1, 3) := by decide +kernel
theorem dX6_digest_141 : decode cX6_digest 141 = .ok (.goto (-27), 3) := by decide +kernel
theorem dX6_digest_144 : decode cX6_digest 144 = .ok (.aload_n 0, 1) := by decide +kernel
theorem dX6_digest_145 : decode cX6_digest 145 = .ok (.aload_n 0, 1) := by decide +kernel
theorem dX6_digest_146 : decode cX6_digest 146 = .ok (.getfield 59, 3) := by decide +kernel
theorem dX6_digest_149 : decode cX6_digest 149 = .ok (.invokevirtual 217, 3) := by decide +kernel
theorem dX6_digest_152 : decode cX6_digest 152 = .ok (.aload_n 0, 1) := by decide +kernel
theorem dX6_digest_153 : decode cX6_digest 153 = .ok (.getfield 211, 3) := by decide +kernel
theorem dX6_digest_156 : decode cX6_digest 156 = .ok (.lreturn, 1) := by decide +kernel
