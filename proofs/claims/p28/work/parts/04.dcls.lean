theorem dX0_init_0 : decode cX0_init 0 = .ok (.aload_n 0, 1) := by decide +kernel
theorem dX0_init_1 : decode cX0_init 1 = .ok (.invokespecial 3, 3) := by decide +kernel
theorem dX0_init_4 : decode cX0_init 4 = .ok (.aload_n 0, 1) := by decide +kernel
theorem dX0_init_5 : decode cX0_init 5 = .ok (.iconst 0, 1) := by decide +kernel
theorem dX0_init_6 : decode cX0_init 6 = .ok (.putfield 9, 3) := by decide +kernel
theorem dX0_init_9 : decode cX0_init 9 = .ok (.aload_n 0, 1) := by decide +kernel
theorem dX0_init_10 : decode cX0_init 10 = .ok (.iconst 0, 1) := by decide +kernel
theorem dX0_init_11 : decode cX0_init 11 = .ok (.putfield 15, 3) := by decide +kernel
theorem dX0_init_14 : decode cX0_init 14 = .ok (.aload_n 0, 1) := by decide +kernel
theorem dX0_init_15 : decode cX0_init 15 = .ok (.iconst 0, 1) := by decide +kernel
theorem dX0_init_16 : decode cX0_init 16 = .ok (.putfield 18, 3) := by decide +kernel
theorem dX0_init_19 : decode cX0_init 19 = .ok (.aload_n 0, 1) := by decide +kernel
theorem dX0_init_20 : decode cX0_init 20 = .ok (.iconst 0, 1) := by decide +kernel
theorem dX0_init_21 : decode cX0_init 21 = .ok (.putfield 21, 3) := by decide +kernel
theorem dX0_init_24 : decode cX0_init 24 = .ok (.aload_n 0, 1) := by decide +kernel
theorem dX0_init_25 : decode cX0_init 25 = .ok (.iconst 0, 1) := by decide +kernel
theorem dX0_init_26 : decode cX0_init 26 = .ok (.putfield 24, 3) := by decide +kernel
theorem dX0_init_29 : decode cX0_init 29 = .ok (.aload_n 0, 1) := by decide +kernel
theorem dX0_init_30 : decode cX0_init 30 = .ok (.iconst 0, 1) := by decide +kernel
theorem dX0_init_31 : decode cX0_init 31 = .ok (.putfield 27, 3) := by decide +kernel
theorem dX0_init_34 : decode cX0_init 34 = .ok (.aload_n 0, 1) := by decide +kernel
theorem dX0_init_35 : decode cX0_init 35 = .ok (.iconst 0, 1) := by decide +kernel
theorem dX0_init_36 : decode cX0_init 36 = .ok (.putfield 30, 3) := by decide +kernel
theorem dX0_init_39 : decode cX0_init 39 = .ok (.aload_n 0, 1) := by decide +kernel
theorem dX0_init_40 : decode cX0_init 40 = .ok (.iconst 0, 1) := by decide +kernel
theorem dX0_init_41 : decode cX0_init 41 = .ok (.putfield 33, 3) := by decide +kernel
theorem dX0_init_44 : decode cX0_init 44 = .ok (.aload_n 0, 1) := by decide +kernel
theorem dX0_init_45 : decode cX0_init 45 = .ok (.iconst 0, 1) := by decide +kernel
theorem dX0_init_46 : decode cX0_init 46 = .ok (.putfield 36, 3) := by decide +kernel
theorem dX0_init_49 : decode cX0_init 49 = .ok (.aload_n 0, 1) := by decide +kernel
theorem dX0_init_50 : decode cX0_init 50 = .ok (.iconst 0, 1) := by decide +kernel
theorem dX0_init_51 : decode cX0_init 51 = .ok (.putfield 39, 3) := by decide +kernel
theorem dX0_init_54 : decode cX0_init 54 = .ok (.aload_n 0, 1) := by decide +kernel
theorem dX0_init_55 : decode cX0_init 55 = .ok (.fconst 0, 1) := by decide +kernel
theorem dX0_init_56 : decode cX0_init 56 = .ok (.putfield 42, 3) := by decide +kernel
theorem dX0_init_59 : decode cX0_init 59 = .ok (.aload_n 0, 1) := by decide +kernel
theorem dX0_init_60 : decode cX0_init 60 = .ok (.iconst 0, 1) := by decide +kernel
theorem dX0_init_61 : decode cX0_init 61 = .ok (.putfield 46, 3) := by decide +kernel
theorem dX0_init_64 : decode cX0_init 64 = .ok (.return_, 1) := by decide +kernel
theorem dX0_begin_0 : decode cX0_begin 0 = .ok (.aload_n 0, 1) := by decide +kernel
theorem dX0_begin_1 : decode cX0_begin 1 = .ok (.iload_n 1, 1) := by decide +kernel
theorem dX0_begin_2 : decode cX0_begin 2 = .ok (.putfield 9, 3) := by decide +kernel
theorem dX0_begin_5 : decode cX0_begin 5 = .ok (.aload_n 0, 1) := by decide +kernel
theorem dX0_begin_6 : decode cX0_begin 6 = .ok (.iconst 0, 1) := by decide +kernel
theorem dX0_begin_7 : decode cX0_begin 7 = .ok (.putfield 15, 3) := by decide +kernel
theorem dX0_begin_10 : decode cX0_begin 10 = .ok (.aload_n 0, 1) := by decide +kernel
theorem dX0_begin_11 : decode cX0_begin 11 = .ok (.iload_n 2, 1) := by decide +kernel
theorem dX0_begin_12 : decode cX0_begin 12 = .ok (.putfield 18, 3) := by decide +kernel
theorem dX0_begin_15 : decode cX0_begin 15 = .ok (.aload_n 0, 1) := by decide +kernel
theorem dX0_begin_16 : decode cX0_begin 16 = .ok (.iload_n 2, 1) := by decide +kernel
theorem dX0_begin_17 : decode cX0_begin 17 = .ok (.putfield 21, 3) := by decide +kernel
theorem dX0_begin_20 : decode cX0_begin 20 = .ok (.aload_n 0, 1) := by decide +kernel
theorem dX0_begin_21 : decode cX0_begin 21 = .ok (.iload_n 3, 1) := by decide +kernel
theorem dX0_begin_22 : decode cX0_begin 22 = .ok (.putfield 24, 3) := by decide +kernel
theorem dX0_begin_25 : decode cX0_begin 25 = .ok (.aload_n 0, 1) := by decide +kernel
theorem dX0_begin_26 : decode cX0_begin 26 = .ok (.iconst 0, 1) := by decide +kernel
theorem dX0_begin_27 : decode cX0_begin 27 = .ok (.putfield 27, 3) := by decide +kernel
theorem dX0_begin_30 : decode cX0_begin 30 = .ok (.aload_n 0, 1) := by decide +kernel
theorem dX0_begin_31 : decode cX0_begin 31 = .ok (.iconst 0, 1) := by decide +kernel
theorem dX0_begin_32 : decode cX0_begin 32 = .ok (.putfield 30, 3) := by decide +kernel
theorem dX0_begin_35 : decode cX0_begin 35 = .ok (.aload_n 0, 1) := by decide +kernel
theorem dX0_begin_36 : decode cX0_begin 36 = .ok (.iconst 0, 1) := by decide +kernel
theorem dX0_begin_37 : decode cX0_begin 37 = .ok (.putfield 33, 3) := by decide +kernel
theorem dX0_begin_40 : decode cX0_begin 40 = .ok (.aload_n 0, 1) := by decide +kernel
theorem dX0_begin_41 : decode cX0_begin 41 = .ok (.iconst 0, 1) := by decide +kernel
theorem dX0_begin_42 : decode cX0_begin 42 = .ok (.putfield 36, 3) := by decide +kernel
theorem dX0_begin_45 : decode cX0_begin 45 = .ok (.aload_n 0, 1) := by decide +kernel
theorem dX0_begin_46 : decode cX0_begin 46 = .ok (.iconst 0, 1) := by decide +kernel
theorem dX0_begin_47 : decode cX0_begin 47 = .ok (.putfield 39, 3) := by decide +kernel
theorem dX0_begin_50 : decode cX0_begin 50 = .ok (.aload_n 0, 1) := by decide +kernel
theorem dX0_begin_51 : decode cX0_begin 51 = .ok (.fconst 0, 1) := by decide +kernel
theorem dX0_begin_52 : decode cX0_begin 52 = .ok (.putfield 42, 3) := by decide +kernel
theorem dX0_begin_55 : decode cX0_begin 55 = .ok (.aload_n 0, 1) := by decide +kernel
theorem dX0_begin_56 : decode cX0_begin 56 = .ok (.iconst 0, 1) := by decide +kernel
theorem dX0_begin_57 : decode cX0_begin 57 = .ok (.putfield 46, 3) := by decide +kernel
theorem dX0_begin_60 : decode cX0_begin 60 = .ok (.return_, 1) := by decide +kernel
theorem dX0_takeOver_0 : decode cX0_takeOver 0 = .ok (.aload_n 0, 1) := by decide +kernel
theorem dX0_takeOver_1 : decode cX0_takeOver 1 = .ok (.aload_n 1, 1) := by decide +kernel
theorem dX0_takeOver_2 : decode cX0_takeOver 2 = .ok (.getfield 9, 3) := by decide +kernel
theorem dX0_takeOver_5 : decode cX0_takeOver 5 = .ok (.putfield 9, 3) := by decide +kernel
theorem dX0_takeOver_8 : decode cX0_takeOver 8 = .ok (.aload_n 0, 1) := by decide +kernel
theorem dX0_takeOver_9 : decode cX0_takeOver 9 = .ok (.aload_n 1, 1) := by decide +kernel
theorem dX0_takeOver_10 : decode cX0_takeOver 10 = .ok (.getfield 15, 3) := by decide +kernel
theorem dX0_takeOver_13 : decode cX0_takeOver 13 = .ok (.putfield 15, 3) := by decide +kernel
theorem dX0_takeOver_16 : decode cX0_takeOver 16 = .ok (.aload_n 0, 1) := by decide +kernel
theorem dX0_takeOver_17 : decode cX0_takeOver 17 = .ok (.aload_n 1, 1) := by decide +kernel
theorem dX0_takeOver_18 : decode cX0_takeOver 18 = .ok (.getfield 18, 3) := by decide +kernel
theorem dX0_takeOver_21 : decode cX0_takeOver 21 = .ok (.putfield 18, 3) := by decide +kernel
theorem dX0_takeOver_24 : decode cX0_takeOver 24 = .ok (.aload_n 0, 1) := by decide +kernel
theorem dX0_takeOver_25 : decode cX0_takeOver 25 = .ok (.aload_n 1, 1) := by decide +kernel
theorem dX0_takeOver_26 : decode cX0_takeOver 26 = .ok (.getfield 21, 3) := by decide +kernel
theorem dX0_takeOver_29 : decode cX0_takeOver 29 = .ok (.putfield 21, 3) := by decide +kernel
theorem dX0_takeOver_32 : decode cX0_takeOver 32 = .ok (.aload_n 0, 1) := by decide +kernel
theorem dX0_takeOver_33 : decode cX0_takeOver 33 = .ok (.aload_n 1, 1) := by decide +kernel
theorem dX0_takeOver_34 : decode cX0_takeOver 34 = .ok (.getfield 24, 3) := by decide +kernel
theorem dX0_takeOver_37 : decode cX0_takeOver 37 = .ok (.putfield 24, 3) := by decide +kernel
theorem dX0_takeOver_40 : decode cX0_takeOver 40 = .ok (.aload_n 0, 1) := by decide +kernel
theorem dX0_takeOver_41 : decode cX0_takeOver 41 = .ok (.aload_n 1, 1) := by decide +kernel
theorem dX0_takeOver_42 : decode cX0_takeOver 42 = .ok (.getfield 27, 3) := by decide +kernel
theorem dX0_takeOver_45 : decode cX0_takeOver 45 = .ok (.putfield 27, 3) := by decide +kernel
theorem dX0_takeOver_48 : decode cX0_takeOver 48 = .ok (.aload_n 0, 1) := by decide +kernel
theorem dX0_takeOver_49 : decode cX0_takeOver 49 = .ok (.aload_n 1, 1) := by decide +kernel
theorem dX0_takeOver_50 : decode cX0_takeOver 50 = .ok (.getfield 30, 3) := by decide +kernel
theorem dX0_takeOver_53 : decode cX0_takeOver 53 = .ok (.putfield 30, 3) := by decide +kernel
theorem dX0_takeOver_56 : decode cX0_takeOver 56 = .ok (.aload_n 0, 1) := by decide +kernel
theorem dX0_takeOver_57 : decode cX0_takeOver 57 = .ok (.aload_n 1, 1) := by decide +kernel
theorem dX0_takeOver_58 : decode cX0_takeOver 58 = .ok (.getfield 33, 3) := by decide +kernel
theorem dX0_takeOver_61 : decode cX0_takeOver 61 = .ok (.putfield 33, 3) := by decide +kernel
theorem dX0_takeOver_64 : decode cX0_takeOver 64 = .ok (.aload_n 0, 1) := by decide +kernel
theorem dX0_takeOver_65 : decode cX0_takeOver 65 = .ok (.aload_n 1, 1) := by decide +kernel
theorem dX0_takeOver_66 : decode cX0_takeOver 66 = .ok (.getfield 36, 3) := by decide +kernel
theorem dX0_takeOver_69 : decode cX0_takeOver 69 = .ok (.putfield 36, 3) := by decide +kernel
theorem dX0_takeOver_72 : decode cX0_takeOver 72 = .ok (.aload_n 0, 1) := by decide +kernel
theorem dX0_takeOver_73 : decode cX0_takeOver 73 = .ok (.aload_n 1, 1) := by decide +kernel
theorem dX0_takeOver_74 : decode cX0_takeOver 74 = .ok (.getfield 39, 3) := by decide +kernel
theorem dX0_takeOver_77 : decode cX0_takeOver 77 = .ok (.putfield 39, 3) := by decide +kernel
theorem dX0_takeOver_80 : decode cX0_takeOver 80 = .ok (.aload_n 0, 1) := by decide +kernel
theorem dX0_takeOver_81 : decode cX0_takeOver 81 = .ok (.aload_n 1, 1) := by decide +kernel
theorem dX0_takeOver_82 : decode cX0_takeOver 82 = .ok (.getfield 42, 3) := by decide +kernel
theorem dX0_takeOver_85 : decode cX0_takeOver 85 = .ok (.putfield 42, 3) := by decide +kernel
theorem dX0_takeOver_88 : decode cX0_takeOver 88 = .ok (.aload_n 0, 1) := by decide +kernel
theorem dX0_takeOver_89 : decode cX0_takeOver 89 = .ok (.aload_n 1, 1) := by decide +kernel
theorem dX0_takeOver_90 : decode cX0_takeOver 90 = .ok (.getfield 46, 3) := by decide +kernel
theorem dX0_takeOver_93 : decode cX0_takeOver 93 = .ok (.putfield 46, 3) := by decide +kernel
theorem dX0_takeOver_96 : decode cX0_takeOver 96 = .ok (.return_, 1) := by decide +kernel
theorem dX0_noteSale_0 : decode cX0_noteSale 0 = .ok (.aload_n 0, 1) := by decide +kernel
theorem dX0_noteSale_1 : decode cX0_noteSale 1 = .ok (.dup, 1) := by decide +kernel
theorem dX0_noteSale_2 : decode cX0_noteSale 2 = .ok (.getfield 15, 3) := by decide +kernel
theorem dX0_noteSale_5 : decode cX0_noteSale 5 = .ok (.iconst 1, 1) := by decide +kernel
theorem dX0_noteSale_6 : decode cX0_noteSale 6 = .ok (.isub, 1) := by decide +kernel
theorem dX0_noteSale_7 : decode cX0_noteSale 7 = .ok (.putfield 15, 3) := by decide +kernel
theorem dX0_noteSale_10 : decode cX0_noteSale 10 = .ok (.aload_n 0, 1) := by decide +kernel
theorem dX0_noteSale_11 : decode cX0_noteSale 11 = .ok (.aload_n 0, 1) := by decide +kernel
theorem dX0_noteSale_12 : decode cX0_noteSale 12 = .ok (.getfield 42, 3) := by decide +kernel
theorem dX0_noteSale_15 : decode cX0_noteSale 15 = .ok (.fconst 1, 1) := by decide +kernel
theorem dX0_noteSale_16 : decode cX0_noteSale 16 = .ok (.fadd, 1) := by decide +kernel
theorem dX0_noteSale_17 : decode cX0_noteSale 17 = .ok (.putfield 42, 3) := by decide +kernel
theorem dX0_noteSale_20 : decode cX0_noteSale 20 = .ok (.aload_n 0, 1) := by decide +kernel
theorem dX0_noteSale_21 : decode cX0_noteSale 21 = .ok (.dup, 1) := by decide +kernel
theorem dX0_noteSale_22 : decode cX0_noteSale 22 = .ok (.getfield 30, 3) := by decide +kernel
theorem dX0_noteSale_25 : decode cX0_noteSale 25 = .ok (.iconst 1, 1) := by decide +kernel
theorem dX0_noteSale_26 : decode cX0_noteSale 26 = .ok (.iadd, 1) := by decide +kernel
theorem dX0_noteSale_27 : decode cX0_noteSale 27 = .ok (.putfield 30, 3) := by decide +kernel
theorem dX0_noteSale_30 : decode cX0_noteSale 30 = .ok (.aload_n 0, 1) := by decide +kernel
theorem dX0_noteSale_31 : decode cX0_noteSale 31 = .ok (.dup, 1) := by decide +kernel
theorem dX0_noteSale_32 : decode cX0_noteSale 32 = .ok (.getfield 33, 3) := by decide +kernel
theorem dX0_noteSale_35 : decode cX0_noteSale 35 = .ok (.aload_n 0, 1) := by decide +kernel
theorem dX0_noteSale_36 : decode cX0_noteSale 36 = .ok (.getfield 18, 3) := by decide +kernel
theorem dX0_noteSale_39 : decode cX0_noteSale 39 = .ok (.iadd, 1) := by decide +kernel
theorem dX0_noteSale_40 : decode cX0_noteSale 40 = .ok (.putfield 33, 3) := by decide +kernel
theorem dX0_noteSale_43 : decode cX0_noteSale 43 = .ok (.return_, 1) := by decide +kernel
theorem dX0_setPrice_0 : decode cX0_setPrice 0 = .ok (.ldc 50, 2) := by decide +kernel
theorem dX0_setPrice_2 : decode cX0_setPrice 2 = .ok (.aload_n 0, 1) := by decide +kernel
theorem dX0_setPrice_3 : decode cX0_setPrice 3 = .ok (.getfield 42, 3) := by decide +kernel
theorem dX0_setPrice_6 : decode cX0_setPrice 6 = .ok (.fmul, 1) := by decide +kernel
theorem dX0_setPrice_7 : decode cX0_setPrice 7 = .ok (.fstore_n 3, 1) := by decide +kernel
theorem dX0_setPrice_8 : decode cX0_setPrice 8 = .ok (.aload_n 0, 1) := by decide +kernel
theorem dX0_setPrice_9 : decode cX0_setPrice 9 = .ok (.fload_n 3, 1) := by decide +kernel
theorem dX0_setPrice_10 : decode cX0_setPrice 10 = .ok (.iload_n 1, 1) := by decide +kernel
theorem dX0_setPrice_11 : decode cX0_setPrice 11 = .ok (.i2f, 1) := by decide +kernel
theorem dX0_setPrice_12 : decode cX0_setPrice 12 = .ok (.fcmp .l, 1) := by decide +kernel
theorem dX0_setPrice_13 : decode cX0_setPrice 13 = .ok (.ifCond .lt 25, 3) := by decide +kernel
theorem dX0_setPrice_16 : decode cX0_setPrice 16 = .ok (.aload_n 0, 1) := by decide +kernel
theorem dX0_setPrice_17 : decode cX0_setPrice 17 = .ok (.getfield 27, 3) := by decide +kernel
theorem dX0_setPrice_20 : decode cX0_setPrice 20 = .ok (.ifCond .ne 18, 3) := by decide +kernel
theorem dX0_setPrice_23 : decode cX0_setPrice 23 = .ok (.aload_n 0, 1) := by decide +kernel
theorem dX0_setPrice_24 : decode cX0_setPrice 24 = .ok (.getfield 18, 3) := by decide +kernel
theorem dX0_setPrice_27 : decode cX0_setPrice 27 = .ok (.aload_n 0, 1) := by decide +kernel
theorem dX0_setPrice_28 : decode cX0_setPrice 28 = .ok (.getfield 24, 3) := by decide +kernel
theorem dX0_setPrice_31 : decode cX0_setPrice 31 = .ok (.if_icmp .ge 7, 3) := by decide +kernel
theorem dX0_setPrice_34 : decode cX0_setPrice 34 = .ok (.iconst 1, 1) := by decide +kernel
theorem dX0_setPrice_35 : decode cX0_setPrice 35 = .ok (.goto 4, 3) := by decide +kernel
theorem dX0_setPrice_38 : decode cX0_setPrice 38 = .ok (.iconst 0, 1) := by decide +kernel
theorem dX0_setPrice_39 : decode cX0_setPrice 39 = .ok (.putfield 46, 3) := by decide +kernel
theorem dX0_setPrice_42 : decode cX0_setPrice 42 = .ok (.aload_n 0, 1) := by decide +kernel
theorem dX0_setPrice_43 : decode cX0_setPrice 43 = .ok (.getfield 46, 3) := by decide +kernel
theorem dX0_setPrice_46 : decode cX0_setPrice 46 = .ok (.ifCond .eq 26, 3) := by decide +kernel
theorem dX0_setPrice_49 : decode cX0_setPrice 49 = .ok (.aload_n 0, 1) := by decide +kernel
theorem dX0_setPrice_50 : decode cX0_setPrice 50 = .ok (.dup, 1) := by decide +kernel
theorem dX0_setPrice_51 : decode cX0_setPrice 51 = .ok (.getfield 18, 3) := by decide +kernel
theorem dX0_setPrice_54 : decode cX0_setPrice 54 = .ok (.iconst 5, 1) := by decide +kernel
theorem dX0_setPrice_55 : decode cX0_setPrice 55 = .ok (.iadd, 1) := by decide +kernel
theorem dX0_setPrice_56 : decode cX0_setPrice 56 = .ok (.putfield 18, 3) := by decide +kernel
theorem dX0_setPrice_59 : decode cX0_setPrice 59 = .ok (.aload_n 0, 1) := by decide +kernel
theorem dX0_setPrice_60 : decode cX0_setPrice 60 = .ok (.dup, 1) := by decide +kernel
theorem dX0_setPrice_61 : decode cX0_setPrice 61 = .ok (.getfield 36, 3) := by decide +kernel
theorem dX0_setPrice_64 : decode cX0_setPrice 64 = .ok (.iconst 1, 1) := by decide +kernel
theorem dX0_setPrice_65 : decode cX0_setPrice 65 = .ok (.iadd, 1) := by decide +kernel
theorem dX0_setPrice_66 : decode cX0_setPrice 66 = .ok (.putfield 36, 3) := by decide +kernel
theorem dX0_setPrice_69 : decode cX0_setPrice 69 = .ok (.goto 31, 3) := by decide +kernel
theorem dX0_setPrice_72 : decode cX0_setPrice 72 = .ok (.fload_n 3, 1) := by decide +kernel
theorem dX0_setPrice_73 : decode cX0_setPrice 73 = .ok (.iload_n 2, 1) := by decide +kernel
theorem dX0_setPrice_74 : decode cX0_setPrice 74 = .ok (.i2f, 1) := by decide +kernel
theorem dX0_setPrice_75 : decode cX0_setPrice 75 = .ok (.fcmp .g, 1) := by decide +kernel
theorem dX0_setPrice_76 : decode cX0_setPrice 76 = .ok (.ifCond .ge 24, 3) := by decide +kernel
theorem dX0_setPrice_79 : decode cX0_setPrice 79 = .ok (.aload_n 0, 1) := by decide +kernel
theorem dX0_setPrice_80 : decode cX0_setPrice 80 = .ok (.getfield 18, 3) := by decide +kernel
theorem dX0_setPrice_83 : decode cX0_setPrice 83 = .ok (.aload_n 0, 1) := by decide +kernel
theorem dX0_setPrice_84 : decode cX0_setPrice 84 = .ok (.getfield 21, 3) := by decide +kernel
theorem dX0_setPrice_87 : decode cX0_setPrice 87 = .ok (.if_icmp .le 13, 3) := by decide +kernel
theorem dX0_setPrice_90 : decode cX0_setPrice 90 = .ok (.aload_n 0, 1) := by decide +kernel
theorem dX0_setPrice_91 : decode cX0_setPrice 91 = .ok (.dup, 1) := by decide +kernel
theorem dX0_setPrice_92 : decode cX0_setPrice 92 = .ok (.getfield 18, 3) := by decide +kernel
theorem dX0_setPrice_95 : decode cX0_setPrice 95 = .ok (.iconst 5, 1) := by decide +kernel
theorem dX0_setPrice_96 : decode cX0_setPrice 96 = .ok (.isub, 1) := by decide +kernel
theorem dX0_setPrice_97 : decode cX0_setPrice 97 = .ok (.putfield 18, 3) := by decide +kernel
theorem dX0_setPrice_100 : decode cX0_setPrice 100 = .ok (.return_, 1) := by decide +kernel
theorem dX0_shortenBan_0 : decode cX0_shortenBan 0 = .ok (.aload_n 0, 1) := by decide +kernel
theorem dX0_shortenBan_1 : decode cX0_shortenBan 1 = .ok (.getfield 27, 3) := by decide +kernel
theorem dX0_shortenBan_4 : decode cX0_shortenBan 4 = .ok (.ifCond .le 13, 3) := by decide +kernel
theorem dX0_shortenBan_7 : decode cX0_shortenBan 7 = .ok (.aload_n 0, 1) := by decide +kernel
theorem dX0_shortenBan_8 : decode cX0_shortenBan 8 = .ok (.dup, 1) := by decide +kernel
theorem dX0_shortenBan_9 : decode cX0_shortenBan 9 = .ok (.getfield 27, 3) := by decide +kernel
theorem dX0_shortenBan_12 : decode cX0_shortenBan 12 = .ok (.iconst 1, 1) := by decide +kernel
theorem dX0_shortenBan_13 : decode cX0_shortenBan 13 = .ok (.isub, 1) := by decide +kernel
theorem dX0_shortenBan_14 : decode cX0_shortenBan 14 = .ok (.putfield 27, 3) := by decide +kernel
theorem dX0_shortenBan_17 : decode cX0_shortenBan 17 = .ok (.return_, 1) := by decide +kernel
theorem dX0_payFine_0 : decode cX0_payFine 0 = .ok (.aload_n 0, 1) := by decide +kernel
theorem dX0_payFine_1 : decode cX0_payFine 1 = .ok (.aload_n 0, 1) := by decide +kernel
theorem dX0_payFine_2 : decode cX0_payFine 2 = .ok (.getfield 21, 3) := by decide +kernel
theorem dX0_payFine_5 : decode cX0_payFine 5 = .ok (.aload_n 0, 1) := by decide +kernel
theorem dX0_payFine_6 : decode cX0_payFine 6 = .ok (.getfield 18, 3) := by decide +kernel
theorem dX0_payFine_9 : decode cX0_payFine 9 = .ok (.iload_n 1, 1) := by decide +kernel
theorem dX0_payFine_10 : decode cX0_payFine 10 = .ok (.isub, 1) := by decide +kernel
theorem dX0_payFine_11 : decode cX0_payFine 11 = .ok (.invokestatic 51, 3) := by decide +kernel
theorem dX0_payFine_14 : decode cX0_payFine 14 = .ok (.putfield 18, 3) := by decide +kernel
theorem dX0_payFine_17 : decode cX0_payFine 17 = .ok (.aload_n 0, 1) := by decide +kernel
theorem dX0_payFine_18 : decode cX0_payFine 18 = .ok (.iconst 3, 1) := by decide +kernel
theorem dX0_payFine_19 : decode cX0_payFine 19 = .ok (.putfield 27, 3) := by decide +kernel
theorem dX0_payFine_22 : decode cX0_payFine 22 = .ok (.return_, 1) := by decide +kernel
theorem dX0_fade_0 : decode cX0_fade 0 = .ok (.aload_n 0, 1) := by decide +kernel
theorem dX0_fade_1 : decode cX0_fade 1 = .ok (.aload_n 0, 1) := by decide +kernel
theorem dX0_fade_2 : decode cX0_fade 2 = .ok (.getfield 42, 3) := by decide +kernel
theorem dX0_fade_5 : decode cX0_fade 5 = .ok (.iload_n 1, 1) := by decide +kernel
theorem dX0_fade_6 : decode cX0_fade 6 = .ok (.i2f, 1) := by decide +kernel
theorem dX0_fade_7 : decode cX0_fade 7 = .ok (.fmul, 1) := by decide +kernel
theorem dX0_fade_8 : decode cX0_fade 8 = .ok (.ldc 57, 2) := by decide +kernel
theorem dX0_fade_10 : decode cX0_fade 10 = .ok (.fdiv, 1) := by decide +kernel
theorem dX0_fade_11 : decode cX0_fade 11 = .ok (.putfield 42, 3) := by decide +kernel
theorem dX0_fade_14 : decode cX0_fade 14 = .ok (.return_, 1) := by decide +kernel
theorem dX0_fact_0 : decode cX0_fact 0 = .ok (.iload_n 1, 1) := by decide +kernel
theorem dX0_fact_1 : decode cX0_fact 1 = .ok (.tableswitch 96 0 8 #[51, 56, 61, 66, 71, 76, 81, 86, 91], 51) := by decide +kernel
theorem dX0_fact_52 : decode cX0_fact 52 = .ok (.aload_n 0, 1) := by decide +kernel
theorem dX0_fact_53 : decode cX0_fact 53 = .ok (.getfield 9, 3) := by decide +kernel
theorem dX0_fact_56 : decode cX0_fact 56 = .ok (.ireturn, 1) := by decide +kernel
theorem dX0_fact_57 : decode cX0_fact 57 = .ok (.aload_n 0, 1) := by decide +kernel
theorem dX0_fact_58 : decode cX0_fact 58 = .ok (.getfield 15, 3) := by decide +kernel
theorem dX0_fact_61 : decode cX0_fact 61 = .ok (.ireturn, 1) := by decide +kernel
theorem dX0_fact_62 : decode cX0_fact 62 = .ok (.aload_n 0, 1) := by decide +kernel
theorem dX0_fact_63 : decode cX0_fact 63 = .ok (.getfield 18, 3) := by decide +kernel
theorem dX0_fact_66 : decode cX0_fact 66 = .ok (.ireturn, 1) := by decide +kernel
theorem dX0_fact_67 : decode cX0_fact 67 = .ok (.aload_n 0, 1) := by decide +kernel
theorem dX0_fact_68 : decode cX0_fact 68 = .ok (.getfield 21, 3) := by decide +kernel
theorem dX0_fact_71 : decode cX0_fact 71 = .ok (.ireturn, 1) := by decide +kernel
theorem dX0_fact_72 : decode cX0_fact 72 = .ok (.aload_n 0, 1) := by decide +kernel
theorem dX0_fact_73 : decode cX0_fact 73 = .ok (.getfield 24, 3) := by decide +kernel
theorem dX0_fact_76 : decode cX0_fact 76 = .ok (.ireturn, 1) := by decide +kernel
theorem dX0_fact_77 : decode cX0_fact 77 = .ok (.aload_n 0, 1) := by decide +kernel
theorem dX0_fact_78 : decode cX0_fact 78 = .ok (.getfield 27, 3) := by decide +kernel
theorem dX0_fact_81 : decode cX0_fact 81 = .ok (.ireturn, 1) := by decide +kernel
theorem dX0_fact_82 : decode cX0_fact 82 = .ok (.aload_n 0, 1) := by decide +kernel
theorem dX0_fact_83 : decode cX0_fact 83 = .ok (.getfield 30, 3) := by decide +kernel
theorem dX0_fact_86 : decode cX0_fact 86 = .ok (.ireturn, 1) := by decide +kernel
theorem dX0_fact_87 : decode cX0_fact 87 = .ok (.aload_n 0, 1) := by decide +kernel
theorem dX0_fact_88 : decode cX0_fact 88 = .ok (.getfield 33, 3) := by decide +kernel
theorem dX0_fact_91 : decode cX0_fact 91 = .ok (.ireturn, 1) := by decide +kernel
theorem dX0_fact_92 : decode cX0_fact 92 = .ok (.aload_n 0, 1) := by decide +kernel
theorem dX0_fact_93 : decode cX0_fact 93 = .ok (.getfield 36, 3) := by decide +kernel
theorem dX0_fact_96 : decode cX0_fact 96 = .ok (.ireturn, 1) := by decide +kernel
theorem dX0_fact_97 : decode cX0_fact 97 = .ok (.aload_n 0, 1) := by decide +kernel
theorem dX0_fact_98 : decode cX0_fact 98 = .ok (.getfield 39, 3) := by decide +kernel
theorem dX0_fact_101 : decode cX0_fact 101 = .ok (.ireturn, 1) := by decide +kernel
theorem dX2_init_0 : decode cX2_init 0 = .ok (.aload_n 0, 1) := by decide +kernel
theorem dX2_init_1 : decode cX2_init 1 = .ok (.invokespecial 3, 3) := by decide +kernel
theorem dX2_init_4 : decode cX2_init 4 = .ok (.aload_n 0, 1) := by decide +kernel
theorem dX2_init_5 : decode cX2_init 5 = .ok (.bipush 100, 2) := by decide +kernel
theorem dX2_init_7 : decode cX2_init 7 = .ok (.newarray .int, 2) := by decide +kernel
theorem dX2_init_9 : decode cX2_init 9 = .ok (.putfield 9, 3) := by decide +kernel
theorem dX2_init_12 : decode cX2_init 12 = .ok (.aload_n 0, 1) := by decide +kernel
theorem dX2_init_13 : decode cX2_init 13 = .ok (.iconst 0, 1) := by decide +kernel
theorem dX2_init_14 : decode cX2_init 14 = .ok (.putfield 15, 3) := by decide +kernel
theorem dX2_init_17 : decode cX2_init 17 = .ok (.aload_n 0, 1) := by decide +kernel
theorem dX2_init_18 : decode cX2_init 18 = .ok (.iconst 0, 1) := by decide +kernel
theorem dX2_init_19 : decode cX2_init 19 = .ok (.putfield 19, 3) := by decide +kernel
theorem dX2_init_22 : decode cX2_init 22 = .ok (.aload_n 0, 1) := by decide +kernel
theorem dX2_init_23 : decode cX2_init 23 = .ok (.iconst 0, 1) := by decide +kernel
theorem dX2_init_24 : decode cX2_init 24 = .ok (.putfield 22, 3) := by decide +kernel
theorem dX2_init_27 : decode cX2_init 27 = .ok (.aload_n 0, 1) := by decide +kernel
theorem dX2_init_28 : decode cX2_init 28 = .ok (.iconst 0, 1) := by decide +kernel
theorem dX2_init_29 : decode cX2_init 29 = .ok (.putfield 25, 3) := by decide +kernel
theorem dX2_init_32 : decode cX2_init 32 = .ok (.aload_n 0, 1) := by decide +kernel
theorem dX2_init_33 : decode cX2_init 33 = .ok (.iconst 4, 1) := by decide +kernel
theorem dX2_init_34 : decode cX2_init 34 = .ok (.newarray .int, 2) := by decide +kernel
theorem dX2_init_36 : decode cX2_init 36 = .ok (.putfield 28, 3) := by decide +kernel
theorem dX2_init_39 : decode cX2_init 39 = .ok (.aload_n 0, 1) := by decide +kernel
theorem dX2_init_40 : decode cX2_init 40 = .ok (.iconst 0, 1) := by decide +kernel
theorem dX2_init_41 : decode cX2_init 41 = .ok (.putfield 31, 3) := by decide +kernel
theorem dX2_init_44 : decode cX2_init 44 = .ok (.aload_n 0, 1) := by decide +kernel
theorem dX2_init_45 : decode cX2_init 45 = .ok (.iconst (-1), 1) := by decide +kernel
theorem dX2_init_46 : decode cX2_init 46 = .ok (.putfield 34, 3) := by decide +kernel
theorem dX2_init_49 : decode cX2_init 49 = .ok (.return_, 1) := by decide +kernel
theorem dX2_errorPosition_0 : decode cX2_errorPosition 0 = .ok (.aload_n 0, 1) := by decide +kernel
theorem dX2_errorPosition_1 : decode cX2_errorPosition 1 = .ok (.invokevirtual 37, 3) := by decide +kernel
theorem dX2_errorPosition_4 : decode cX2_errorPosition 4 = .ok (.iconst 0, 1) := by decide +kernel
theorem dX2_errorPosition_5 : decode cX2_errorPosition 5 = .ok (.istore_n 1, 1) := by decide +kernel
theorem dX2_errorPosition_6 : decode cX2_errorPosition 6 = .ok (.iload_n 1, 1) := by decide +kernel
theorem dX2_errorPosition_7 : decode cX2_errorPosition 7 = .ok (.bipush 100, 2) := by decide +kernel
theorem dX2_errorPosition_9 : decode cX2_errorPosition 9 = .ok (.if_icmp .ge 16, 3) := by decide +kernel
theorem dX2_errorPosition_12 : decode cX2_errorPosition 12 = .ok (.aload_n 0, 1) := by decide +kernel
theorem dX2_errorPosition_13 : decode cX2_errorPosition 13 = .ok (.invokevirtual 40, 3) := by decide +kernel
theorem dX2_errorPosition_16 : decode cX2_errorPosition 16 = .ok (.ifCond .eq 9, 3) := by decide +kernel
theorem dX2_errorPosition_19 : decode cX2_errorPosition 19 = .ok (.iinc 1 1, 3) := by decide +kernel
theorem dX2_errorPosition_22 : decode cX2_errorPosition 22 = .ok (.goto (-16), 3) := by decide +kernel
theorem dX2_errorPosition_25 : decode cX2_errorPosition 25 = .ok (.aload_n 0, 1) := by decide +kernel
theorem dX2_errorPosition_26 : decode cX2_errorPosition 26 = .ok (.getfield 34, 3) := by decide +kernel
theorem dX2_errorPosition_29 : decode cX2_errorPosition 29 = .ok (.ireturn, 1) := by decide +kernel
theorem dX2_startReading_0 : decode cX2_startReading 0 = .ok (.aload_n 0, 1) := by decide +kernel
theorem dX2_startReading_1 : decode cX2_startReading 1 = .ok (.iconst 0, 1) := by decide +kernel
theorem dX2_startReading_2 : decode cX2_startReading 2 = .ok (.putfield 31, 3) := by decide +kernel
theorem dX2_startReading_5 : decode cX2_startReading 5 = .ok (.aload_n 0, 1) := by decide +kernel
theorem dX2_startReading_6 : decode cX2_startReading 6 = .ok (.iconst (-1), 1) := by decide +kernel
theorem dX2_startReading_7 : decode cX2_startReading 7 = .ok (.putfield 34, 3) := by decide +kernel
theorem dX2_startReading_10 : decode cX2_startReading 10 = .ok (.return_, 1) := by decide +kernel
theorem dX2_readOrder_0 : decode cX2_readOrder 0 = .ok (.aload_n 0, 1) := by decide +kernel
theorem dX2_readOrder_1 : decode cX2_readOrder 1 = .ok (.getfield 31, 3) := by decide +kernel
theorem dX2_readOrder_4 : decode cX2_readOrder 4 = .ok (.aload_n 0, 1) := by decide +kernel
theorem dX2_readOrder_5 : decode cX2_readOrder 5 = .ok (.getfield 15, 3) := by decide +kernel
theorem dX2_readOrder_8 : decode cX2_readOrder 8 = .ok (.if_icmp .ge 11, 3) := by decide +kernel
theorem dX2_readOrder_11 : decode cX2_readOrder 11 = .ok (.aload_n 0, 1) := by decide +kernel
theorem dX2_readOrder_12 : decode cX2_readOrder 12 = .ok (.getfield 34, 3) := by decide +kernel
theorem dX2_readOrder_15 : decode cX2_readOrder 15 = .ok (.iconst (-1), 1) := by decide +kernel
theorem dX2_readOrder_16 : decode cX2_readOrder 16 = .ok (.if_icmp .eq 5, 3) := by decide +kernel
theorem dX2_readOrder_19 : decode cX2_readOrder 19 = .ok (.iconst 0, 1) := by decide +kernel
theorem dX2_readOrder_20 : decode cX2_readOrder 20 = .ok (.ireturn, 1) := by decide +kernel
theorem dX2_readOrder_21 : decode cX2_readOrder 21 = .ok (.aload_n 0, 1) := by decide +kernel
theorem dX2_readOrder_22 : decode cX2_readOrder 22 = .ok (.aload_n 0, 1) := by decide +kernel
theorem dX2_readOrder_23 : decode cX2_readOrder 23 = .ok (.aload_n 0, 1) := by decide +kernel
theorem dX2_readOrder_24 : decode cX2_readOrder 24 = .ok (.getfield 31, 3) := by decide +kernel
theorem dX2_readOrder_27 : decode cX2_readOrder 27 = .ok (.invokevirtual 44, 3) := by decide +kernel
theorem dX2_readOrder_30 : decode cX2_readOrder 30 = .ok (.putfield 19, 3) := by decide +kernel
theorem dX2_readOrder_33 : decode cX2_readOrder 33 = .ok (.aload_n 0, 1) := by decide +kernel
theorem dX2_readOrder_34 : decode cX2_readOrder 34 = .ok (.getfield 19, 3) := by decide +kernel
theorem dX2_readOrder_37 : decode cX2_readOrder 37 = .ok (.lookupswitch 170 #[(98, 82), (102, 109), (104, 147), (115, 43)], 43) := by decide +kernel
theorem dX2_readOrder_80 : decode cX2_readOrder 80 = .ok (.aload_n 0, 1) := by decide +kernel
theorem dX2_readOrder_81 : decode cX2_readOrder 81 = .ok (.dup, 1) := by decide +kernel
theorem dX2_readOrder_82 : decode cX2_readOrder 82 = .ok (.getfield 31, 3) := by decide +kernel
theorem dX2_readOrder_85 : decode cX2_readOrder 85 = .ok (.iconst 1, 1) := by decide +kernel
theorem dX2_readOrder_86 : decode cX2_readOrder 86 = .ok (.iadd, 1) := by decide +kernel
theorem dX2_readOrder_87 : decode cX2_readOrder 87 = .ok (.putfield 31, 3) := by decide +kernel
theorem dX2_readOrder_90 : decode cX2_readOrder 90 = .ok (.aload_n 0, 1) := by decide +kernel
theorem dX2_readOrder_91 : decode cX2_readOrder 91 = .ok (.aload_n 0, 1) := by decide +kernel
theorem dX2_readOrder_92 : decode cX2_readOrder 92 = .ok (.bipush 7, 2) := by decide +kernel
theorem dX2_readOrder_94 : decode cX2_readOrder 94 = .ok (.invokevirtual 48, 3) := by decide +kernel
theorem dX2_readOrder_97 : decode cX2_readOrder 97 = .ok (.putfield 22, 3) := by decide +kernel
theorem dX2_readOrder_100 : decode cX2_readOrder 100 = .ok (.aload_n 0, 1) := by decide +kernel
theorem dX2_readOrder_101 : decode cX2_readOrder 101 = .ok (.bipush 120, 2) := by decide +kernel
theorem dX2_readOrder_103 : decode cX2_readOrder 103 = .ok (.invokevirtual 51, 3) := by decide +kernel
theorem dX2_readOrder_106 : decode cX2_readOrder 106 = .ok (.aload_n 0, 1) := by decide +kernel
theorem dX2_readOrder_107 : decode cX2_readOrder 107 = .ok (.aload_n 0, 1) := by decide +kernel
theorem dX2_readOrder_108 : decode cX2_readOrder 108 = .ok (.bipush 20, 2) := by decide +kernel
theorem dX2_readOrder_110 : decode cX2_readOrder 110 = .ok (.invokevirtual 55, 3) := by decide +kernel
theorem dX2_readOrder_113 : decode cX2_readOrder 113 = .ok (.putfield 25, 3) := by decide +kernel
theorem dX2_readOrder_116 : decode cX2_readOrder 116 = .ok (.goto 99, 3) := by decide +kernel
theorem dX2_readOrder_119 : decode cX2_readOrder 119 = .ok (.aload_n 0, 1) := by decide +kernel
theorem dX2_readOrder_120 : decode cX2_readOrder 120 = .ok (.dup, 1) := by decide +kernel
theorem dX2_readOrder_121 : decode cX2_readOrder 121 = .ok (.getfield 31, 3) := by decide +kernel
theorem dX2_readOrder_124 : decode cX2_readOrder 124 = .ok (.iconst 1, 1) := by decide +kernel
theorem dX2_readOrder_125 : decode cX2_readOrder 125 = .ok (.iadd, 1) := by decide +kernel
theorem dX2_readOrder_126 : decode cX2_readOrder 126 = .ok (.putfield 31, 3) := by decide +kernel
theorem dX2_readOrder_129 : decode cX2_readOrder 129 = .ok (.aload_n 0, 1) := by decide +kernel
theorem dX2_readOrder_130 : decode cX2_readOrder 130 = .ok (.aload_n 0, 1) := by decide +kernel
theorem dX2_readOrder_131 : decode cX2_readOrder 131 = .ok (.bipush 7, 2) := by decide +kernel
theorem dX2_readOrder_133 : decode cX2_readOrder 133 = .ok (.invokevirtual 48, 3) := by decide +kernel
theorem dX2_readOrder_136 : decode cX2_readOrder 136 = .ok (.putfield 22, 3) := by decide +kernel
theorem dX2_readOrder_139 : decode cX2_readOrder 139 = .ok (.aload_n 0, 1) := by decide +kernel
theorem dX2_readOrder_140 : decode cX2_readOrder 140 = .ok (.invokevirtual 58, 3) := by decide +kernel
theorem dX2_readOrder_143 : decode cX2_readOrder 143 = .ok (.goto 72, 3) := by decide +kernel
theorem dX2_readOrder_146 : decode cX2_readOrder 146 = .ok (.aload_n 0, 1) := by decide +kernel
theorem dX2_readOrder_147 : decode cX2_readOrder 147 = .ok (.dup, 1) := by decide +kernel
theorem dX2_readOrder_148 : decode cX2_readOrder 148 = .ok (.getfield 31, 3) := by decide +kernel
theorem dX2_readOrder_151 : decode cX2_readOrder 151 = .ok (.iconst 1, 1) := by decide +kernel
theorem dX2_readOrder_152 : decode cX2_readOrder 152 = .ok (.iadd, 1) := by decide +kernel
theorem dX2_readOrder_153 : decode cX2_readOrder 153 = .ok (.putfield 31, 3) := by decide +kernel
theorem dX2_readOrder_156 : decode cX2_readOrder 156 = .ok (.aload_n 0, 1) := by decide +kernel
theorem dX2_readOrder_157 : decode cX2_readOrder 157 = .ok (.aload_n 0, 1) := by decide +kernel
theorem dX2_readOrder_158 : decode cX2_readOrder 158 = .ok (.iconst 3, 1) := by decide +kernel
theorem dX2_readOrder_159 : decode cX2_readOrder 159 = .ok (.invokevirtual 48, 3) := by decide +kernel
theorem dX2_readOrder_162 : decode cX2_readOrder 162 = .ok (.putfield 22, 3) := by decide +kernel
theorem dX2_readOrder_165 : decode cX2_readOrder 165 = .ok (.aload_n 0, 1) := by decide +kernel
theorem dX2_readOrder_166 : decode cX2_readOrder 166 = .ok (.bipush 120, 2) := by decide +kernel
theorem dX2_readOrder_168 : decode cX2_readOrder 168 = .ok (.invokevirtual 51, 3) := by decide +kernel
theorem dX2_readOrder_171 : decode cX2_readOrder 171 = .ok (.aload_n 0, 1) := by decide +kernel
theorem dX2_readOrder_172 : decode cX2_readOrder 172 = .ok (.aload_n 0, 1) := by decide +kernel
theorem dX2_readOrder_173 : decode cX2_readOrder 173 = .ok (.bipush 30, 2) := by decide +kernel
theorem dX2_readOrder_175 : decode cX2_readOrder 175 = .ok (.invokevirtual 55, 3) := by decide +kernel
theorem dX2_readOrder_178 : decode cX2_readOrder 178 = .ok (.putfield 25, 3) := by decide +kernel
theorem dX2_readOrder_181 : decode cX2_readOrder 181 = .ok (.goto 34, 3) := by decide +kernel
theorem dX2_readOrder_184 : decode cX2_readOrder 184 = .ok (.aload_n 0, 1) := by decide +kernel
theorem dX2_readOrder_185 : decode cX2_readOrder 185 = .ok (.dup, 1) := by decide +kernel
theorem dX2_readOrder_186 : decode cX2_readOrder 186 = .ok (.getfield 31, 3) := by decide +kernel
theorem dX2_readOrder_189 : decode cX2_readOrder 189 = .ok (.iconst 1, 1) := by decide +kernel
theorem dX2_readOrder_190 : decode cX2_readOrder 190 = .ok (.iadd, 1) := by decide +kernel
theorem dX2_readOrder_191 : decode cX2_readOrder 191 = .ok (.putfield 31, 3) := by decide +kernel
theorem dX2_readOrder_194 : decode cX2_readOrder 194 = .ok (.aload_n 0, 1) := by decide +kernel
theorem dX2_readOrder_195 : decode cX2_readOrder 195 = .ok (.aload_n 0, 1) := by decide +kernel
theorem dX2_readOrder_196 : decode cX2_readOrder 196 = .ok (.bipush 48, 2) := by decide +kernel
theorem dX2_readOrder_198 : decode cX2_readOrder 198 = .ok (.invokevirtual 55, 3) := by decide +kernel
theorem dX2_readOrder_201 : decode cX2_readOrder 201 = .ok (.putfield 25, 3) := by decide +kernel
theorem dX2_readOrder_204 : decode cX2_readOrder 204 = .ok (.goto 11, 3) := by decide +kernel
theorem dX2_readOrder_207 : decode cX2_readOrder 207 = .ok (.aload_n 0, 1) := by decide +kernel
theorem dX2_readOrder_208 : decode cX2_readOrder 208 = .ok (.aload_n 0, 1) := by decide +kernel
theorem dX2_readOrder_209 : decode cX2_readOrder 209 = .ok (.getfield 31, 3) := by decide +kernel
theorem dX2_readOrder_212 : decode cX2_readOrder 212 = .ok (.putfield 34, 3) := by decide +kernel
theorem dX2_readOrder_215 : decode cX2_readOrder 215 = .ok (.aload_n 0, 1) := by decide +kernel
theorem dX2_readOrder_216 : decode cX2_readOrder 216 = .ok (.bipush 59, 2) := by decide +kernel
theorem dX2_readOrder_218 : decode cX2_readOrder 218 = .ok (.invokevirtual 51, 3) := by decide +kernel
theorem dX2_readOrder_221 : decode cX2_readOrder 221 = .ok (.aload_n 0, 1) := by decide +kernel
theorem dX2_readOrder_222 : decode cX2_readOrder 222 = .ok (.getfield 34, 3) := by decide +kernel
theorem dX2_readOrder_225 : decode cX2_readOrder 225 = .ok (.iconst (-1), 1) := by decide +kernel
theorem dX2_readOrder_226 : decode cX2_readOrder 226 = .ok (.if_icmp .ne 7, 3) := by decide +kernel
theorem dX2_readOrder_229 : decode cX2_readOrder 229 = .ok (.iconst 1, 1) := by decide +kernel
theorem dX2_readOrder_230 : decode cX2_readOrder 230 = .ok (.goto 4, 3) := by decide +kernel
theorem dX2_readOrder_233 : decode cX2_readOrder 233 = .ok (.iconst 0, 1) := by decide +kernel
theorem dX2_readOrder_234 : decode cX2_readOrder 234 = .ok (.ireturn, 1) := by decide +kernel
theorem dX2_readCoins_0 : decode cX2_readCoins 0 = .ok (.iconst 0, 1) := by decide +kernel
theorem dX2_readCoins_1 : decode cX2_readCoins 1 = .ok (.istore_n 1, 1) := by decide +kernel
theorem dX2_readCoins_2 : decode cX2_readCoins 2 = .ok (.iload_n 1, 1) := by decide +kernel
theorem dX2_readCoins_3 : decode cX2_readCoins 3 = .ok (.iconst 4, 1) := by decide +kernel
theorem dX2_readCoins_4 : decode cX2_readCoins 4 = .ok (.if_icmp .ge 27, 3) := by decide +kernel
theorem dX2_readCoins_7 : decode cX2_readCoins 7 = .ok (.aload_n 0, 1) := by decide +kernel
theorem dX2_readCoins_8 : decode cX2_readCoins 8 = .ok (.bipush 44, 2) := by decide +kernel
theorem dX2_readCoins_10 : decode cX2_readCoins 10 = .ok (.invokevirtual 51, 3) := by decide +kernel
theorem dX2_readCoins_13 : decode cX2_readCoins 13 = .ok (.aload_n 0, 1) := by decide +kernel
theorem dX2_readCoins_14 : decode cX2_readCoins 14 = .ok (.getfield 28, 3) := by decide +kernel
theorem dX2_readCoins_17 : decode cX2_readCoins 17 = .ok (.iload_n 1, 1) := by decide +kernel
theorem dX2_readCoins_18 : decode cX2_readCoins 18 = .ok (.aload_n 0, 1) := by decide +kernel
theorem dX2_readCoins_19 : decode cX2_readCoins 19 = .ok (.bipush 9, 2) := by decide +kernel
theorem dX2_readCoins_21 : decode cX2_readCoins 21 = .ok (.invokevirtual 48, 3) := by decide +kernel
theorem dX2_readCoins_24 : decode cX2_readCoins 24 = .ok (.iastore, 1) := by decide +kernel
theorem dX2_readCoins_25 : decode cX2_readCoins 25 = .ok (.iinc 1 1, 3) := by decide +kernel
theorem dX2_readCoins_28 : decode cX2_readCoins 28 = .ok (.goto (-26), 3) := by decide +kernel
theorem dX2_readCoins_31 : decode cX2_readCoins 31 = .ok (.return_, 1) := by decide +kernel
theorem dX2_readNumber_0 : decode cX2_readNumber 0 = .ok (.aload_n 0, 1) := by decide +kernel
theorem dX2_readNumber_1 : decode cX2_readNumber 1 = .ok (.getfield 31, 3) := by decide +kernel
theorem dX2_readNumber_4 : decode cX2_readNumber 4 = .ok (.istore_n 2, 1) := by decide +kernel
theorem dX2_readNumber_5 : decode cX2_readNumber 5 = .ok (.aload_n 0, 1) := by decide +kernel
theorem dX2_readNumber_6 : decode cX2_readNumber 6 = .ok (.bipush 9, 2) := by decide +kernel
theorem dX2_readNumber_8 : decode cX2_readNumber 8 = .ok (.invokevirtual 48, 3) := by decide +kernel
theorem dX2_readNumber_11 : decode cX2_readNumber 11 = .ok (.istore_n 3, 1) := by decide +kernel
theorem dX2_readNumber_12 : decode cX2_readNumber 12 = .ok (.aload_n 0, 1) := by decide +kernel
theorem dX2_readNumber_13 : decode cX2_readNumber 13 = .ok (.aload_n 0, 1) := by decide +kernel
theorem dX2_readNumber_14 : decode cX2_readNumber 14 = .ok (.getfield 31, 3) := by decide +kernel
theorem dX2_readNumber_17 : decode cX2_readNumber 17 = .ok (.invokevirtual 44, 3) := by decide +kernel
theorem dX2_readNumber_20 : decode cX2_readNumber 20 = .ok (.invokestatic 61, 3) := by decide +kernel
theorem dX2_readNumber_23 : decode cX2_readNumber 23 = .ok (.ifCond .eq 15, 3) := by decide +kernel
theorem dX2_readNumber_26 : decode cX2_readNumber 26 = .ok (.bipush 10, 2) := by decide +kernel
theorem dX2_readNumber_28 : decode cX2_readNumber 28 = .ok (.iload_n 3, 1) := by decide +kernel
theorem dX2_readNumber_29 : decode cX2_readNumber 29 = .ok (.imul, 1) := by decide +kernel
theorem dX2_readNumber_30 : decode cX2_readNumber 30 = .ok (.aload_n 0, 1) := by decide +kernel
theorem dX2_readNumber_31 : decode cX2_readNumber 31 = .ok (.bipush 9, 2) := by decide +kernel
theorem dX2_readNumber_33 : decode cX2_readNumber 33 = .ok (.invokevirtual 48, 3) := by decide +kernel
theorem dX2_readNumber_36 : decode cX2_readNumber 36 = .ok (.iadd, 1) := by decide +kernel
theorem dX2_readNumber_37 : decode cX2_readNumber 37 = .ok (.istore_n 3, 1) := by decide +kernel
theorem dX2_readNumber_38 : decode cX2_readNumber 38 = .ok (.aload_n 0, 1) := by decide +kernel
theorem dX2_readNumber_39 : decode cX2_readNumber 39 = .ok (.getfield 34, 3) := by decide +kernel
theorem dX2_readNumber_42 : decode cX2_readNumber 42 = .ok (.iconst (-1), 1) := by decide +kernel
theorem dX2_readNumber_43 : decode cX2_readNumber 43 = .ok (.if_icmp .ne 32, 3) := by decide +kernel
theorem dX2_readNumber_46 : decode cX2_readNumber 46 = .ok (.aload_n 0, 1) := by decide +kernel
theorem dX2_readNumber_47 : decode cX2_readNumber 47 = .ok (.aload_n 0, 1) := by decide +kernel
theorem dX2_readNumber_48 : decode cX2_readNumber 48 = .ok (.getfield 31, 3) := by decide +kernel
theorem dX2_readNumber_51 : decode cX2_readNumber 51 = .ok (.invokevirtual 44, 3) := by decide +kernel
theorem dX2_readNumber_54 : decode cX2_readNumber 54 = .ok (.invokestatic 61, 3) := by decide +kernel
theorem dX2_readNumber_57 : decode cX2_readNumber 57 = .ok (.ifCond .ne 18, 3) := by decide +kernel
theorem dX2_readNumber_60 : decode cX2_readNumber 60 = .ok (.iload_n 3, 1) := by decide +kernel
theorem dX2_readNumber_61 : decode cX2_readNumber 61 = .ok (.iconst 1, 1) := by decide +kernel
theorem dX2_readNumber_62 : decode cX2_readNumber 62 = .ok (.if_icmp .lt 8, 3) := by decide +kernel
theorem dX2_readNumber_65 : decode cX2_readNumber 65 = .ok (.iload_n 3, 1) := by decide +kernel
theorem dX2_readNumber_66 : decode cX2_readNumber 66 = .ok (.iload_n 1, 1) := by decide +kernel
theorem dX2_readNumber_67 : decode cX2_readNumber 67 = .ok (.if_icmp .le 8, 3) := by decide +kernel
theorem dX2_readNumber_70 : decode cX2_readNumber 70 = .ok (.aload_n 0, 1) := by decide +kernel
theorem dX2_readNumber_71 : decode cX2_readNumber 71 = .ok (.iload_n 2, 1) := by decide +kernel
theorem dX2_readNumber_72 : decode cX2_readNumber 72 = .ok (.putfield 34, 3) := by decide +kernel
theorem dX2_readNumber_75 : decode cX2_readNumber 75 = .ok (.iload_n 3, 1) := by decide +kernel
theorem dX2_readNumber_76 : decode cX2_readNumber 76 = .ok (.ireturn, 1) := by decide +kernel
theorem dX2_readDigit_0 : decode cX2_readDigit 0 = .ok (.aload_n 0, 1) := by decide +kernel
theorem dX2_readDigit_1 : decode cX2_readDigit 1 = .ok (.aload_n 0, 1) := by decide +kernel
theorem dX2_readDigit_2 : decode cX2_readDigit 2 = .ok (.getfield 31, 3) := by decide +kernel
theorem dX2_readDigit_5 : decode cX2_readDigit 5 = .ok (.invokevirtual 44, 3) := by decide +kernel
theorem dX2_readDigit_8 : decode cX2_readDigit 8 = .ok (.istore_n 2, 1) := by decide +kernel
theorem dX2_readDigit_9 : decode cX2_readDigit 9 = .ok (.aload_n 0, 1) := by decide +kernel
theorem dX2_readDigit_10 : decode cX2_readDigit 10 = .ok (.getfield 34, 3) := by decide +kernel
theorem dX2_readDigit_13 : decode cX2_readDigit 13 = .ok (.iconst (-1), 1) := by decide +kernel
theorem dX2_readDigit_14 : decode cX2_readDigit 14 = .ok (.if_icmp .ne 17, 3) := by decide +kernel
theorem dX2_readDigit_17 : decode cX2_readDigit 17 = .ok (.iload_n 2, 1) := by decide +kernel
theorem dX2_readDigit_18 : decode cX2_readDigit 18 = .ok (.bipush 48, 2) := by decide +kernel
theorem dX2_readDigit_20 : decode cX2_readDigit 20 = .ok (.if_icmp .lt 11, 3) := by decide +kernel
theorem dX2_readDigit_23 : decode cX2_readDigit 23 = .ok (.iload_n 2, 1) := by decide +kernel
theorem dX2_readDigit_24 : decode cX2_readDigit 24 = .ok (.bipush 48, 2) := by decide +kernel
theorem dX2_readDigit_26 : decode cX2_readDigit 26 = .ok (.iload_n 1, 1) := by decide +kernel
theorem dX2_readDigit_27 : decode cX2_readDigit 27 = .ok (.iadd, 1) := by decide +kernel
theorem dX2_readDigit_28 : decode cX2_readDigit 28 = .ok (.if_icmp .le 9, 3) := by decide +kernel
theorem dX2_readDigit_31 : decode cX2_readDigit 31 = .ok (.aload_n 0, 1) := by decide +kernel
theorem dX2_readDigit_32 : decode cX2_readDigit 32 = .ok (.invokevirtual 65, 3) := by decide +kernel
theorem dX2_readDigit_35 : decode cX2_readDigit 35 = .ok (.iconst 0, 1) := by decide +kernel
theorem dX2_readDigit_36 : decode cX2_readDigit 36 = .ok (.ireturn, 1) := by decide +kernel
theorem dX2_readDigit_37 : decode cX2_readDigit 37 = .ok (.aload_n 0, 1) := by decide +kernel
theorem dX2_readDigit_38 : decode cX2_readDigit 38 = .ok (.dup, 1) := by decide +kernel
theorem dX2_readDigit_39 : decode cX2_readDigit 39 = .ok (.getfield 31, 3) := by decide +kernel
theorem dX2_readDigit_42 : decode cX2_readDigit 42 = .ok (.iconst 1, 1) := by decide +kernel
theorem dX2_readDigit_43 : decode cX2_readDigit 43 = .ok (.iadd, 1) := by decide +kernel
theorem dX2_readDigit_44 : decode cX2_readDigit 44 = .ok (.putfield 31, 3) := by decide +kernel
theorem dX2_readDigit_47 : decode cX2_readDigit 47 = .ok (.iload_n 2, 1) := by decide +kernel
theorem dX2_readDigit_48 : decode cX2_readDigit 48 = .ok (.bipush 48, 2) := by decide +kernel
theorem dX2_readDigit_50 : decode cX2_readDigit 50 = .ok (.isub, 1) := by decide +kernel
theorem dX2_readDigit_51 : decode cX2_readDigit 51 = .ok (.ireturn, 1) := by decide +kernel
theorem dX2_readSign_0 : decode cX2_readSign 0 = .ok (.aload_n 0, 1) := by decide +kernel
theorem dX2_readSign_1 : decode cX2_readSign 1 = .ok (.getfield 34, 3) := by decide +kernel
theorem dX2_readSign_4 : decode cX2_readSign 4 = .ok (.iconst (-1), 1) := by decide +kernel
theorem dX2_readSign_5 : decode cX2_readSign 5 = .ok (.if_icmp .ne 15, 3) := by decide +kernel
theorem dX2_readSign_8 : decode cX2_readSign 8 = .ok (.aload_n 0, 1) := by decide +kernel
theorem dX2_readSign_9 : decode cX2_readSign 9 = .ok (.aload_n 0, 1) := by decide +kernel
theorem dX2_readSign_10 : decode cX2_readSign 10 = .ok (.getfield 31, 3) := by decide +kernel
theorem dX2_readSign_13 : decode cX2_readSign 13 = .ok (.invokevirtual 44, 3) := by decide +kernel
theorem dX2_readSign_16 : decode cX2_readSign 16 = .ok (.iload_n 1, 1) := by decide +kernel
theorem dX2_readSign_17 : decode cX2_readSign 17 = .ok (.if_icmp .eq 10, 3) := by decide +kernel
theorem dX2_readSign_20 : decode cX2_readSign 20 = .ok (.aload_n 0, 1) := by decide +kernel
theorem dX2_readSign_21 : decode cX2_readSign 21 = .ok (.invokevirtual 65, 3) := by decide +kernel
theorem dX2_readSign_24 : decode cX2_readSign 24 = .ok (.goto 13, 3) := by decide +kernel
theorem dX2_readSign_27 : decode cX2_readSign 27 = .ok (.aload_n 0, 1) := by decide +kernel
theorem dX2_readSign_28 : decode cX2_readSign 28 = .ok (.dup, 1) := by decide +kernel
theorem dX2_readSign_29 : decode cX2_readSign 29 = .ok (.getfield 31, 3) := by decide +kernel
theorem dX2_readSign_32 : decode cX2_readSign 32 = .ok (.iconst 1, 1) := by decide +kernel
theorem dX2_readSign_33 : decode cX2_readSign 33 = .ok (.iadd, 1) := by decide +kernel
theorem dX2_readSign_34 : decode cX2_readSign 34 = .ok (.putfield 31, 3) := by decide +kernel
theorem dX2_readSign_37 : decode cX2_readSign 37 = .ok (.return_, 1) := by decide +kernel
theorem dX2_stumble_0 : decode cX2_stumble 0 = .ok (.aload_n 0, 1) := by decide +kernel
theorem dX2_stumble_1 : decode cX2_stumble 1 = .ok (.getfield 34, 3) := by decide +kernel
theorem dX2_stumble_4 : decode cX2_stumble 4 = .ok (.iconst (-1), 1) := by decide +kernel
theorem dX2_stumble_5 : decode cX2_stumble 5 = .ok (.if_icmp .ne 11, 3) := by decide +kernel
theorem dX2_stumble_8 : decode cX2_stumble 8 = .ok (.aload_n 0, 1) := by decide +kernel
theorem dX2_stumble_9 : decode cX2_stumble 9 = .ok (.aload_n 0, 1) := by decide +kernel
theorem dX2_stumble_10 : decode cX2_stumble 10 = .ok (.getfield 31, 3) := by decide +kernel
theorem dX2_stumble_13 : decode cX2_stumble 13 = .ok (.putfield 34, 3) := by decide +kernel
theorem dX2_stumble_16 : decode cX2_stumble 16 = .ok (.return_, 1) := by decide +kernel
theorem dX2_byteAt_0 : decode cX2_byteAt 0 = .ok (.iload_n 1, 1) := by decide +kernel
theorem dX2_byteAt_1 : decode cX2_byteAt 1 = .ok (.ifCond .lt 26, 3) := by decide +kernel
theorem dX2_byteAt_4 : decode cX2_byteAt 4 = .ok (.iload_n 1, 1) := by decide +kernel
theorem dX2_byteAt_5 : decode cX2_byteAt 5 = .ok (.aload_n 0, 1) := by decide +kernel
theorem dX2_byteAt_6 : decode cX2_byteAt 6 = .ok (.getfield 15, 3) := by decide +kernel
theorem dX2_byteAt_9 : decode cX2_byteAt 9 = .ok (.if_icmp .ge 18, 3) := by decide +kernel
theorem dX2_byteAt_12 : decode cX2_byteAt 12 = .ok (.iload_n 1, 1) := by decide +kernel
theorem dX2_byteAt_13 : decode cX2_byteAt 13 = .ok (.bipush 100, 2) := by decide +kernel
theorem dX2_byteAt_15 : decode cX2_byteAt 15 = .ok (.if_icmp .ge 12, 3) := by decide +kernel
theorem dX2_byteAt_18 : decode cX2_byteAt 18 = .ok (.aload_n 0, 1) := by decide +kernel
theorem dX2_byteAt_19 : decode cX2_byteAt 19 = .ok (.getfield 9, 3) := by decide +kernel
theorem dX2_byteAt_22 : decode cX2_byteAt 22 = .ok (.iload_n 1, 1) := by decide +kernel
theorem dX2_byteAt_23 : decode cX2_byteAt 23 = .ok (.iaload, 1) := by decide +kernel
theorem dX2_byteAt_24 : decode cX2_byteAt 24 = .ok (.goto 4, 3) := by decide +kernel
theorem dX2_byteAt_27 : decode cX2_byteAt 27 = .ok (.iconst (-1), 1) := by decide +kernel
theorem dX2_byteAt_28 : decode cX2_byteAt 28 = .ok (.ireturn, 1) := by decide +kernel
theorem dX2_isDigit_0 : decode cX2_isDigit 0 = .ok (.iload_n 0, 1) := by decide +kernel
theorem dX2_isDigit_1 : decode cX2_isDigit 1 = .ok (.bipush 48, 2) := by decide +kernel
theorem dX2_isDigit_3 : decode cX2_isDigit 3 = .ok (.if_icmp .lt 13, 3) := by decide +kernel
theorem dX2_isDigit_6 : decode cX2_isDigit 6 = .ok (.iload_n 0, 1) := by decide +kernel
theorem dX2_isDigit_7 : decode cX2_isDigit 7 = .ok (.bipush 57, 2) := by decide +kernel
theorem dX2_isDigit_9 : decode cX2_isDigit 9 = .ok (.if_icmp .gt 7, 3) := by decide +kernel
theorem dX2_isDigit_12 : decode cX2_isDigit 12 = .ok (.iconst 1, 1) := by decide +kernel
theorem dX2_isDigit_13 : decode cX2_isDigit 13 = .ok (.goto 4, 3) := by decide +kernel
theorem dX2_isDigit_16 : decode cX2_isDigit 16 = .ok (.iconst 0, 1) := by decide +kernel
theorem dX2_isDigit_17 : decode cX2_isDigit 17 = .ok (.ireturn, 1) := by decide +kernel
theorem dX3_init_0 : decode cX3_init 0 = .ok (.aload_n 0, 1) := by decide +kernel
theorem dX3_init_1 : decode cX3_init 1 = .ok (.invokespecial 3, 3) := by decide +kernel
theorem dX3_init_4 : decode cX3_init 4 = .ok (.aload_n 0, 1) := by decide +kernel
theorem dX3_init_5 : decode cX3_init 5 = .ok (.iconst 4, 1) := by decide +kernel
theorem dX3_init_6 : decode cX3_init 6 = .ok (.newarray .int, 2) := by decide +kernel
theorem dX3_init_8 : decode cX3_init 8 = .ok (.putfield 9, 3) := by decide +kernel
theorem dX3_init_11 : decode cX3_init 11 = .ok (.aload_n 0, 1) := by decide +kernel
theorem dX3_init_12 : decode cX3_init 12 = .ok (.iconst 4, 1) := by decide +kernel
theorem dX3_init_13 : decode cX3_init 13 = .ok (.newarray .int, 2) := by decide +kernel
theorem dX3_init_15 : decode cX3_init 15 = .ok (.putfield 15, 3) := by decide +kernel
theorem dX3_init_18 : decode cX3_init 18 = .ok (.return_, 1) := by decide +kernel
theorem dX3_find_0 : decode cX3_find 0 = .ok (.aload_n 0, 1) := by decide +kernel
theorem dX3_find_1 : decode cX3_find 1 = .ok (.getfield 9, 3) := by decide +kernel
theorem dX3_find_4 : decode cX3_find 4 = .ok (.iconst 3, 1) := by decide +kernel
theorem dX3_find_5 : decode cX3_find 5 = .ok (.iaload, 1) := by decide +kernel
theorem dX3_find_6 : decode cX3_find 6 = .ok (.iload_n 1, 1) := by decide +kernel
theorem dX3_find_7 : decode cX3_find 7 = .ok (.getstatic 18, 3) := by decide +kernel
theorem dX3_find_10 : decode cX3_find 10 = .ok (.iconst 3, 1) := by decide +kernel
theorem dX3_find_11 : decode cX3_find 11 = .ok (.iaload, 1) := by decide +kernel
theorem dX3_find_12 : decode cX3_find 12 = .ok (.idiv, 1) := by decide +kernel
theorem dX3_find_13 : decode cX3_find 13 = .ok (.invokestatic 21, 3) := by decide +kernel
theorem dX3_find_16 : decode cX3_find 16 = .ok (.istore_n 2, 1) := by decide +kernel
theorem dX3_find_17 : decode cX3_find 17 = .ok (.aload_n 0, 1) := by decide +kernel
theorem dX3_find_18 : decode cX3_find 18 = .ok (.iload_n 1, 1) := by decide +kernel
theorem dX3_find_19 : decode cX3_find 19 = .ok (.iload_n 2, 1) := by decide +kernel
theorem dX3_find_20 : decode cX3_find 20 = .ok (.iconst 1, 1) := by decide +kernel
theorem dX3_find_21 : decode cX3_find 21 = .ok (.isub, 1) := by decide +kernel
theorem dX3_find_22 : decode cX3_find 22 = .ok (.invokevirtual 27, 3) := by decide +kernel
theorem dX3_find_25 : decode cX3_find 25 = .ok (.istore_n 3, 1) := by decide +kernel
theorem dX3_find_26 : decode cX3_find 26 = .ok (.aload_n 0, 1) := by decide +kernel
theorem dX3_find_27 : decode cX3_find 27 = .ok (.iload_n 1, 1) := by decide +kernel
theorem dX3_find_28 : decode cX3_find 28 = .ok (.iload_n 2, 1) := by decide +kernel
theorem dX3_find_29 : decode cX3_find 29 = .ok (.invokevirtual 27, 3) := by decide +kernel
theorem dX3_find_32 : decode cX3_find 32 = .ok (.istore 4, 2) := by decide +kernel
theorem dX3_find_34 : decode cX3_find 34 = .ok (.iload_n 3, 1) := by decide +kernel
theorem dX3_find_35 : decode cX3_find 35 = .ok (.iconst (-1), 1) := by decide +kernel
theorem dX3_find_36 : decode cX3_find 36 = .ok (.if_icmp .eq 26, 3) := by decide +kernel
theorem dX3_find_39 : decode cX3_find 39 = .ok (.iload 4, 2) := by decide +kernel
theorem dX3_find_41 : decode cX3_find 41 = .ok (.iconst (-1), 1) := by decide +kernel
theorem dX3_find_42 : decode cX3_find 42 = .ok (.if_icmp .eq 9, 3) := by decide +kernel
theorem dX3_find_45 : decode cX3_find 45 = .ok (.iload_n 3, 1) := by decide +kernel
theorem dX3_find_46 : decode cX3_find 46 = .ok (.iload 4, 2) := by decide +kernel
theorem dX3_find_48 : decode cX3_find 48 = .ok (.if_icmp .ge 14, 3) := by decide +kernel
theorem dX3_find_51 : decode cX3_find 51 = .ok (.aload_n 0, 1) := by decide +kernel
theorem dX3_find_52 : decode cX3_find 52 = .ok (.iload_n 1, 1) := by decide +kernel
theorem dX3_find_53 : decode cX3_find 53 = .ok (.iload_n 2, 1) := by decide +kernel
theorem dX3_find_54 : decode cX3_find 54 = .ok (.iconst 1, 1) := by decide +kernel
theorem dX3_find_55 : decode cX3_find 55 = .ok (.isub, 1) := by decide +kernel
theorem dX3_find_56 : decode cX3_find 56 = .ok (.invokevirtual 27, 3) := by decide +kernel
theorem dX3_find_59 : decode cX3_find 59 = .ok (.pop, 1) := by decide +kernel
theorem dX3_find_60 : decode cX3_find 60 = .ok (.iconst 1, 1) := by decide +kernel
theorem dX3_find_61 : decode cX3_find 61 = .ok (.ireturn, 1) := by decide +kernel
theorem dX3_find_62 : decode cX3_find 62 = .ok (.iload 4, 2) := by decide +kernel
theorem dX3_find_64 : decode cX3_find 64 = .ok (.iconst (-1), 1) := by decide +kernel
theorem dX3_find_65 : decode cX3_find 65 = .ok (.if_icmp .eq 7, 3) := by decide +kernel
theorem dX3_find_68 : decode cX3_find 68 = .ok (.iconst 1, 1) := by decide +kernel
theorem dX3_find_69 : decode cX3_find 69 = .ok (.goto 4, 3) := by decide +kernel
theorem dX3_find_72 : decode cX3_find 72 = .ok (.iconst 0, 1) := by decide +kernel
theorem dX3_find_73 : decode cX3_find 73 = .ok (.ireturn, 1) := by decide +kernel
theorem dX3_take_0 : decode cX3_take 0 = .ok (.iload_n 2, 1) := by decide +kernel
theorem dX3_take_1 : decode cX3_take 1 = .ok (.ifCond .ge 5, 3) := by decide +kernel
theorem dX3_take_4 : decode cX3_take 4 = .ok (.iconst (-1), 1) := by decide +kernel
theorem dX3_take_5 : decode cX3_take 5 = .ok (.ireturn, 1) := by decide +kernel
theorem dX3_take_6 : decode cX3_take 6 = .ok (.iload_n 1, 1) := by decide +kernel
theorem dX3_take_7 : decode cX3_take 7 = .ok (.iload_n 2, 1) := by decide +kernel
theorem dX3_take_8 : decode cX3_take 8 = .ok (.getstatic 18, 3) := by decide +kernel
theorem dX3_take_11 : decode cX3_take 11 = .ok (.iconst 3, 1) := by decide +kernel
theorem dX3_take_12 : decode cX3_take 12 = .ok (.iaload, 1) := by decide +kernel
theorem dX3_take_13 : decode cX3_take 13 = .ok (.imul, 1) := by decide +kernel
theorem dX3_take_14 : decode cX3_take 14 = .ok (.isub, 1) := by decide +kernel
theorem dX3_take_15 : decode cX3_take 15 = .ok (.istore_n 3, 1) := by decide +kernel
theorem dX3_take_16 : decode cX3_take 16 = .ok (.iload_n 2, 1) := by decide +kernel
theorem dX3_take_17 : decode cX3_take 17 = .ok (.istore 4, 2) := by decide +kernel
theorem dX3_take_19 : decode cX3_take 19 = .ok (.aload_n 0, 1) := by decide +kernel
theorem dX3_take_20 : decode cX3_take 20 = .ok (.getfield 15, 3) := by decide +kernel
theorem dX3_take_23 : decode cX3_take 23 = .ok (.iconst 3, 1) := by decide +kernel
theorem dX3_take_24 : decode cX3_take 24 = .ok (.iload_n 2, 1) := by decide +kernel
theorem dX3_take_25 : decode cX3_take 25 = .ok (.iastore, 1) := by decide +kernel
theorem dX3_take_26 : decode cX3_take 26 = .ok (.iconst 2, 1) := by decide +kernel
theorem dX3_take_27 : decode cX3_take 27 = .ok (.istore 5, 2) := by decide +kernel
theorem dX3_take_29 : decode cX3_take 29 = .ok (.iload 5, 2) := by decide +kernel
theorem dX3_take_31 : decode cX3_take 31 = .ok (.ifCond .lt 63, 3) := by decide +kernel
theorem dX3_take_34 : decode cX3_take 34 = .ok (.aload_n 0, 1) := by decide +kernel
theorem dX3_take_35 : decode cX3_take 35 = .ok (.getfield 15, 3) := by decide +kernel
theorem dX3_take_38 : decode cX3_take 38 = .ok (.iload 5, 2) := by decide +kernel
theorem dX3_take_40 : decode cX3_take 40 = .ok (.aload_n 0, 1) := by decide +kernel
theorem dX3_take_41 : decode cX3_take 41 = .ok (.getfield 9, 3) := by decide +kernel
theorem dX3_take_44 : decode cX3_take 44 = .ok (.iload 5, 2) := by decide +kernel
theorem dX3_take_46 : decode cX3_take 46 = .ok (.iaload, 1) := by decide +kernel
theorem dX3_take_47 : decode cX3_take 47 = .ok (.iload_n 3, 1) := by decide +kernel
theorem dX3_take_48 : decode cX3_take 48 = .ok (.getstatic 18, 3) := by decide +kernel
theorem dX3_take_51 : decode cX3_take 51 = .ok (.iload 5, 2) := by decide +kernel
theorem dX3_take_53 : decode cX3_take 53 = .ok (.iaload, 1) := by decide +kernel
theorem dX3_take_54 : decode cX3_take 54 = .ok (.idiv, 1) := by decide +kernel
theorem dX3_take_55 : decode cX3_take 55 = .ok (.invokestatic 21, 3) := by decide +kernel
theorem dX3_take_58 : decode cX3_take 58 = .ok (.iastore, 1) := by decide +kernel
theorem dX3_take_59 : decode cX3_take 59 = .ok (.iload_n 3, 1) := by decide +kernel
theorem dX3_take_60 : decode cX3_take 60 = .ok (.aload_n 0, 1) := by decide +kernel
theorem dX3_take_61 : decode cX3_take 61 = .ok (.getfield 15, 3) := by decide +kernel
theorem dX3_take_64 : decode cX3_take 64 = .ok (.iload 5, 2) := by decide +kernel
theorem dX3_take_66 : decode cX3_take 66 = .ok (.iaload, 1) := by decide +kernel
theorem dX3_take_67 : decode cX3_take 67 = .ok (.getstatic 18, 3) := by decide +kernel
theorem dX3_take_70 : decode cX3_take 70 = .ok (.iload 5, 2) := by decide +kernel
theorem dX3_take_72 : decode cX3_take 72 = .ok (.iaload, 1) := by decide +kernel
theorem dX3_take_73 : decode cX3_take 73 = .ok (.imul, 1) := by decide +kernel
theorem dX3_take_74 : decode cX3_take 74 = .ok (.isub, 1) := by decide +kernel
theorem dX3_take_75 : decode cX3_take 75 = .ok (.istore_n 3, 1) := by decide +kernel
theorem dX3_take_76 : decode cX3_take 76 = .ok (.iload 4, 2) := by decide +kernel
theorem dX3_take_78 : decode cX3_take 78 = .ok (.aload_n 0, 1) := by decide +kernel
theorem dX3_take_79 : decode cX3_take 79 = .ok (.getfield 15, 3) := by decide +kernel
theorem dX3_take_82 : decode cX3_take 82 = .ok (.iload 5, 2) := by decide +kernel
theorem dX3_take_84 : decode cX3_take 84 = .ok (.iaload, 1) := by decide +kernel
theorem dX3_take_85 : decode cX3_take 85 = .ok (.iadd, 1) := by decide +kernel
theorem dX3_take_86 : decode cX3_take 86 = .ok (.istore 4, 2) := by decide +kernel
theorem dX3_take_88 : decode cX3_take 88 = .ok (.iinc 5 (-1), 3) := by decide +kernel
theorem dX3_take_91 : decode cX3_take 91 = .ok (.goto (-62), 3) := by decide +kernel
theorem dX3_take_94 : decode cX3_take 94 = .ok (.iload_n 3, 1) := by decide +kernel
theorem dX3_take_95 : decode cX3_take 95 = .ok (.ifCond .ne 8, 3) := by decide +kernel
theorem dX3_take_98 : decode cX3_take 98 = .ok (.iload 4, 2) := by decide +kernel
theorem dX3_take_100 : decode cX3_take 100 = .ok (.goto 4, 3) := by decide +kernel
theorem dX3_take_103 : decode cX3_take 103 = .ok (.iconst (-1), 1) := by decide +kernel
theorem dX3_take_104 : decode cX3_take 104 = .ok (.ireturn, 1) := by decide +kernel
theorem dX4_init_0 : decode cX4_init 0 = .ok (.aload_n 0, 1) := by decide +kernel
theorem dX4_init_1 : decode cX4_init 1 = .ok (.invokespecial 3, 3) := by decide +kernel
theorem dX4_init_4 : decode cX4_init 4 = .ok (.aload_n 0, 1) := by decide +kernel
theorem dX4_init_5 : decode cX4_init 5 = .ok (.iconst 4, 1) := by decide +kernel
theorem dX4_init_6 : decode cX4_init 6 = .ok (.newarray .int, 2) := by decide +kernel
theorem dX4_init_8 : decode cX4_init 8 = .ok (.putfield 9, 3) := by decide +kernel
theorem dX4_init_11 : decode cX4_init 11 = .ok (.aload_n 0, 1) := by decide +kernel
theorem dX4_init_12 : decode cX4_init 12 = .ok (.sipush 200, 3) := by decide +kernel
theorem dX4_init_15 : decode cX4_init 15 = .ok (.newarray .int, 2) := by decide +kernel
theorem dX4_init_17 : decode cX4_init 17 = .ok (.putfield 15, 3) := by decide +kernel
theorem dX4_init_20 : decode cX4_init 20 = .ok (.aload_n 0, 1) := by decide +kernel
theorem dX4_init_21 : decode cX4_init 21 = .ok (.new 18, 3) := by decide +kernel
theorem dX4_init_24 : decode cX4_init 24 = .ok (.dup, 1) := by decide +kernel
theorem dX4_init_25 : decode cX4_init 25 = .ok (.invokespecial 20, 3) := by decide +kernel
theorem dX4_init_28 : decode cX4_init 28 = .ok (.putfield 21, 3) := by decide +kernel
theorem dX4_init_31 : decode cX4_init 31 = .ok (.aload_n 0, 1) := by decide +kernel
theorem dX4_init_32 : decode cX4_init 32 = .ok (.iconst 0, 1) := by decide +kernel
theorem dX4_init_33 : decode cX4_init 33 = .ok (.putfield 25, 3) := by decide +kernel
theorem dX4_init_36 : decode cX4_init 36 = .ok (.aload_n 0, 1) := by decide +kernel
theorem dX4_init_37 : decode cX4_init 37 = .ok (.iconst 0, 1) := by decide +kernel
theorem dX4_init_38 : decode cX4_init 38 = .ok (.putfield 29, 3) := by decide +kernel
theorem dX4_init_41 : decode cX4_init 41 = .ok (.aload_n 0, 1) := by decide +kernel
theorem dX4_init_42 : decode cX4_init 42 = .ok (.iconst 0, 1) := by decide +kernel
theorem dX4_init_43 : decode cX4_init 43 = .ok (.putfield 32, 3) := by decide +kernel
theorem dX4_init_46 : decode cX4_init 46 = .ok (.aload_n 0, 1) := by decide +kernel
theorem dX4_init_47 : decode cX4_init 47 = .ok (.iconst 0, 1) := by decide +kernel
theorem dX4_init_48 : decode cX4_init 48 = .ok (.putfield 35, 3) := by decide +kernel
theorem dX4_init_51 : decode cX4_init 51 = .ok (.iconst 0, 1) := by decide +kernel
theorem dX4_init_52 : decode cX4_init 52 = .ok (.istore_n 1, 1) := by decide +kernel
theorem dX4_init_53 : decode cX4_init 53 = .ok (.iload_n 1, 1) := by decide +kernel
theorem dX4_init_54 : decode cX4_init 54 = .ok (.iconst 4, 1) := by decide +kernel
theorem dX4_init_55 : decode cX4_init 55 = .ok (.if_icmp .ge 16, 3) := by decide +kernel
theorem dX4_init_58 : decode cX4_init 58 = .ok (.aload_n 0, 1) := by decide +kernel
theorem dX4_init_59 : decode cX4_init 59 = .ok (.getfield 9, 3) := by decide +kernel
theorem dX4_init_62 : decode cX4_init 62 = .ok (.iload_n 1, 1) := by decide +kernel
theorem dX4_init_63 : decode cX4_init 63 = .ok (.iconst 5, 1) := by decide +kernel
theorem dX4_init_64 : decode cX4_init 64 = .ok (.iastore, 1) := by decide +kernel
theorem dX4_init_65 : decode cX4_init 65 = .ok (.iinc 1 1, 3) := by decide +kernel
theorem dX4_init_68 : decode cX4_init 68 = .ok (.goto (-15), 3) := by decide +kernel
theorem dX4_init_71 : decode cX4_init 71 = .ok (.return_, 1) := by decide +kernel
theorem dX4_takeOver_0 : decode cX4_takeOver 0 = .ok (.aload_n 1, 1) := by decide +kernel
theorem dX4_takeOver_1 : decode cX4_takeOver 1 = .ok (.getfield 9, 3) := by decide +kernel
theorem dX4_takeOver_4 : decode cX4_takeOver 4 = .ok (.iconst 0, 1) := by decide +kernel
theorem dX4_takeOver_5 : decode cX4_takeOver 5 = .ok (.aload_n 0, 1) := by decide +kernel
theorem dX4_takeOver_6 : decode cX4_takeOver 6 = .ok (.getfield 9, 3) := by decide +kernel
theorem dX4_takeOver_9 : decode cX4_takeOver 9 = .ok (.iconst 0, 1) := by decide +kernel
theorem dX4_takeOver_10 : decode cX4_takeOver 10 = .ok (.iconst 4, 1) := by decide +kernel
theorem dX4_takeOver_11 : decode cX4_takeOver 11 = .ok (.invokestatic 38, 3) := by decide +kernel
theorem dX4_takeOver_14 : decode cX4_takeOver 14 = .ok (.aload_n 1, 1) := by decide +kernel
theorem dX4_takeOver_15 : decode cX4_takeOver 15 = .ok (.getfield 15, 3) := by decide +kernel
theorem dX4_takeOver_18 : decode cX4_takeOver 18 = .ok (.iconst 0, 1) := by decide +kernel
theorem dX4_takeOver_19 : decode cX4_takeOver 19 = .ok (.aload_n 0, 1) := by decide +kernel
theorem dX4_takeOver_20 : decode cX4_takeOver 20 = .ok (.getfield 15, 3) := by decide +kernel
theorem dX4_takeOver_23 : decode cX4_takeOver 23 = .ok (.iconst 0, 1) := by decide +kernel
theorem dX4_takeOver_24 : decode cX4_takeOver 24 = .ok (.sipush 200, 3) := by decide +kernel
theorem dX4_takeOver_27 : decode cX4_takeOver 27 = .ok (.invokestatic 38, 3) := by decide +kernel
theorem dX4_takeOver_30 : decode cX4_takeOver 30 = .ok (.aload_n 0, 1) := by decide +kernel
theorem dX4_takeOver_31 : decode cX4_takeOver 31 = .ok (.aload_n 1, 1) := by decide +kernel
theorem dX4_takeOver_32 : decode cX4_takeOver 32 = .ok (.getfield 25, 3) := by decide +kernel
theorem dX4_takeOver_35 : decode cX4_takeOver 35 = .ok (.putfield 25, 3) := by decide +kernel
theorem dX4_takeOver_38 : decode cX4_takeOver 38 = .ok (.aload_n 0, 1) := by decide +kernel
theorem dX4_takeOver_39 : decode cX4_takeOver 39 = .ok (.aload_n 1, 1) := by decide +kernel
theorem dX4_takeOver_40 : decode cX4_takeOver 40 = .ok (.getfield 29, 3) := by decide +kernel
theorem dX4_takeOver_43 : decode cX4_takeOver 43 = .ok (.putfield 29, 3) := by decide +kernel
theorem dX4_takeOver_46 : decode cX4_takeOver 46 = .ok (.aload_n 0, 1) := by decide +kernel
theorem dX4_takeOver_47 : decode cX4_takeOver 47 = .ok (.aload_n 1, 1) := by decide +kernel
theorem dX4_takeOver_48 : decode cX4_takeOver 48 = .ok (.getfield 32, 3) := by decide +kernel
theorem dX4_takeOver_51 : decode cX4_takeOver 51 = .ok (.putfield 32, 3) := by decide +kernel
theorem dX4_takeOver_54 : decode cX4_takeOver 54 = .ok (.aload_n 0, 1) := by decide +kernel
theorem dX4_takeOver_55 : decode cX4_takeOver 55 = .ok (.aload_n 1, 1) := by decide +kernel
theorem dX4_takeOver_56 : decode cX4_takeOver 56 = .ok (.getfield 35, 3) := by decide +kernel
theorem dX4_takeOver_59 : decode cX4_takeOver 59 = .ok (.putfield 35, 3) := by decide +kernel
theorem dX4_takeOver_62 : decode cX4_takeOver 62 = .ok (.return_, 1) := by decide +kernel
theorem dX4_fillTube_0 : decode cX4_fillTube 0 = .ok (.iload_n 2, 1) := by decide +kernel
theorem dX4_fillTube_1 : decode cX4_fillTube 1 = .ok (.bipush 30, 2) := by decide +kernel
theorem dX4_fillTube_3 : decode cX4_fillTube 3 = .ok (.aload_n 0, 1) := by decide +kernel
theorem dX4_fillTube_4 : decode cX4_fillTube 4 = .ok (.getfield 9, 3) := by decide +kernel
theorem dX4_fillTube_7 : decode cX4_fillTube 7 = .ok (.iload_n 1, 1) := by decide +kernel
theorem dX4_fillTube_8 : decode cX4_fillTube 8 = .ok (.iaload, 1) := by decide +kernel
theorem dX4_fillTube_9 : decode cX4_fillTube 9 = .ok (.isub, 1) := by decide +kernel
theorem dX4_fillTube_10 : decode cX4_fillTube 10 = .ok (.invokestatic 44, 3) := by decide +kernel
theorem dX4_fillTube_13 : decode cX4_fillTube 13 = .ok (.istore_n 3, 1) := by decide +kernel
theorem dX4_fillTube_14 : decode cX4_fillTube 14 = .ok (.aload_n 0, 1) := by decide +kernel
theorem dX4_fillTube_15 : decode cX4_fillTube 15 = .ok (.getfield 9, 3) := by decide +kernel
theorem dX4_fillTube_18 : decode cX4_fillTube 18 = .ok (.iload_n 1, 1) := by decide +kernel
theorem dX4_fillTube_19 : decode cX4_fillTube 19 = .ok (.dup2, 1) := by decide +kernel
theorem dX4_fillTube_20 : decode cX4_fillTube 20 = .ok (.iaload, 1) := by decide +kernel
theorem dX4_fillTube_21 : decode cX4_fillTube 21 = .ok (.iload_n 3, 1) := by decide +kernel
theorem dX4_fillTube_22 : decode cX4_fillTube 22 = .ok (.iadd, 1) := by decide +kernel
theorem dX4_fillTube_23 : decode cX4_fillTube 23 = .ok (.iastore, 1) := by decide +kernel
theorem dX4_fillTube_24 : decode cX4_fillTube 24 = .ok (.aload_n 0, 1) := by decide +kernel
theorem dX4_fillTube_25 : decode cX4_fillTube 25 = .ok (.invokevirtual 50, 3) := by decide +kernel
theorem dX4_fillTube_28 : decode cX4_fillTube 28 = .ok (.iload_n 3, 1) := by decide +kernel
theorem dX4_fillTube_29 : decode cX4_fillTube 29 = .ok (.ireturn, 1) := by decide +kernel
theorem dX4_takeIn_0 : decode cX4_takeIn 0 = .ok (.iconst 0, 1) := by decide +kernel
theorem dX4_takeIn_1 : decode cX4_takeIn 1 = .ok (.istore_n 2, 1) := by decide +kernel
theorem dX4_takeIn_2 : decode cX4_takeIn 2 = .ok (.iload_n 2, 1) := by decide +kernel
theorem dX4_takeIn_3 : decode cX4_takeIn 3 = .ok (.iconst 4, 1) := by decide +kernel
theorem dX4_takeIn_4 : decode cX4_takeIn 4 = .ok (.if_icmp .ge 61, 3) := by decide +kernel
theorem dX4_takeIn_7 : decode cX4_takeIn 7 = .ok (.iload_n 2, 1) := by decide +kernel
theorem dX4_takeIn_8 : decode cX4_takeIn 8 = .ok (.aload_n 1, 1) := by decide +kernel
theorem dX4_takeIn_9 : decode cX4_takeIn 9 = .ok (.arraylength, 1) := by decide +kernel
theorem dX4_takeIn_10 : decode cX4_takeIn 10 = .ok (.if_icmp .ge 55, 3) := by decide +kernel
theorem dX4_takeIn_13 : decode cX4_takeIn 13 = .ok (.aload_n 1, 1) := by decide +kernel
theorem dX4_takeIn_14 : decode cX4_takeIn 14 = .ok (.iload_n 2, 1) := by decide +kernel
theorem dX4_takeIn_15 : decode cX4_takeIn 15 = .ok (.iaload, 1) := by decide +kernel
theorem dX4_takeIn_16 : decode cX4_takeIn 16 = .ok (.bipush 30, 2) := by decide +kernel
theorem dX4_takeIn_18 : decode cX4_takeIn 18 = .ok (.aload_n 0, 1) := by decide +kernel
theorem dX4_takeIn_19 : decode cX4_takeIn 19 = .ok (.getfield 9, 3) := by decide +kernel
theorem dX4_takeIn_22 : decode cX4_takeIn 22 = .ok (.iload_n 2, 1) := by decide +kernel
theorem dX4_takeIn_23 : decode cX4_takeIn 23 = .ok (.iaload, 1) := by decide +kernel
theorem dX4_takeIn_24 : decode cX4_takeIn 24 = .ok (.isub, 1) := by decide +kernel
theorem dX4_takeIn_25 : decode cX4_takeIn 25 = .ok (.invokestatic 44, 3) := by decide +kernel
theorem dX4_takeIn_28 : decode cX4_takeIn 28 = .ok (.istore_n 3, 1) := by decide +kernel
theorem dX4_takeIn_29 : decode cX4_takeIn 29 = .ok (.aload_n 0, 1) := by decide +kernel
theorem dX4_takeIn_30 : decode cX4_takeIn 30 = .ok (.getfield 9, 3) := by decide +kernel
theorem dX4_takeIn_33 : decode cX4_takeIn 33 = .ok (.iload_n 2, 1) := by decide +kernel
theorem dX4_takeIn_34 : decode cX4_takeIn 34 = .ok (.dup2, 1) := by decide +kernel
theorem dX4_takeIn_35 : decode cX4_takeIn 35 = .ok (.iaload, 1) := by decide +kernel
theorem dX4_takeIn_36 : decode cX4_takeIn 36 = .ok (.iload_n 3, 1) := by decide +kernel
theorem dX4_takeIn_37 : decode cX4_takeIn 37 = .ok (.iadd, 1) := by decide +kernel
theorem dX4_takeIn_38 : decode cX4_takeIn 38 = .ok (.iastore, 1) := by decide +kernel
theorem dX4_takeIn_39 : decode cX4_takeIn 39 = .ok (.aload_n 0, 1) := by decide +kernel
theorem dX4_takeIn_40 : decode cX4_takeIn 40 = .ok (.dup, 1) := by decide +kernel
theorem dX4_takeIn_41 : decode cX4_takeIn 41 = .ok (.getfield 25, 3) := by decide +kernel
theorem dX4_takeIn_44 : decode cX4_takeIn 44 = .ok (.aload_n 1, 1) := by decide +kernel
theorem dX4_takeIn_45 : decode cX4_takeIn 45 = .ok (.iload_n 2, 1) := by decide +kernel
theorem dX4_takeIn_46 : decode cX4_takeIn 46 = .ok (.iaload, 1) := by decide +kernel
theorem dX4_takeIn_47 : decode cX4_takeIn 47 = .ok (.iload_n 3, 1) := by decide +kernel
theorem dX4_takeIn_48 : decode cX4_takeIn 48 = .ok (.isub, 1) := by decide +kernel
theorem dX4_takeIn_49 : decode cX4_takeIn 49 = .ok (.getstatic 53, 3) := by decide +kernel
theorem dX4_takeIn_52 : decode cX4_takeIn 52 = .ok (.iload_n 2, 1) := by decide +kernel
theorem dX4_takeIn_53 : decode cX4_takeIn 53 = .ok (.iaload, 1) := by decide +kernel
theorem dX4_takeIn_54 : decode cX4_takeIn 54 = .ok (.imul, 1) := by decide +kernel
theorem dX4_takeIn_55 : decode cX4_takeIn 55 = .ok (.iadd, 1) := by decide +kernel
theorem dX4_takeIn_56 : decode cX4_takeIn 56 = .ok (.putfield 25, 3) := by decide +kernel
theorem dX4_takeIn_59 : decode cX4_takeIn 59 = .ok (.iinc 2 1, 3) := by decide +kernel
theorem dX4_takeIn_62 : decode cX4_takeIn 62 = .ok (.goto (-60), 3) := by decide +kernel
theorem dX4_takeIn_65 : decode cX4_takeIn 65 = .ok (.return_, 1) := by decide +kernel
theorem dX4_takeBox_0 : decode cX4_takeBox 0 = .ok (.aload_n 0, 1) := by decide +kernel
theorem dX4_takeBox_1 : decode cX4_takeBox 1 = .ok (.getfield 25, 3) := by decide +kernel
theorem dX4_takeBox_4 : decode cX4_takeBox 4 = .ok (.istore_n 1, 1) := by decide +kernel
theorem dX4_takeBox_5 : decode cX4_takeBox 5 = .ok (.aload_n 0, 1) := by decide +kernel
theorem dX4_takeBox_6 : decode cX4_takeBox 6 = .ok (.iconst 0, 1) := by decide +kernel
theorem dX4_takeBox_7 : decode cX4_takeBox 7 = .ok (.putfield 25, 3) := by decide +kernel
theorem dX4_takeBox_10 : decode cX4_takeBox 10 = .ok (.iload_n 1, 1) := by decide +kernel
theorem dX4_takeBox_11 : decode cX4_takeBox 11 = .ok (.ireturn, 1) := by decide +kernel
theorem dX4_canPay_0 : decode cX4_canPay 0 = .ok (.aload_n 0, 1) := by decide +kernel
theorem dX4_canPay_1 : decode cX4_canPay 1 = .ok (.getfield 9, 3) := by decide +kernel
theorem dX4_canPay_4 : decode cX4_canPay 4 = .ok (.iconst 0, 1) := by decide +kernel
theorem dX4_canPay_5 : decode cX4_canPay 5 = .ok (.aload_n 0, 1) := by decide +kernel
theorem dX4_canPay_6 : decode cX4_canPay 6 = .ok (.getfield 21, 3) := by decide +kernel
theorem dX4_canPay_9 : decode cX4_canPay 9 = .ok (.getfield 56, 3) := by decide +kernel
theorem dX4_canPay_12 : decode cX4_canPay 12 = .ok (.iconst 0, 1) := by decide +kernel
theorem dX4_canPay_13 : decode cX4_canPay 13 = .ok (.iconst 4, 1) := by decide +kernel
theorem dX4_canPay_14 : decode cX4_canPay 14 = .ok (.invokestatic 38, 3) := by decide +kernel
theorem dX4_canPay_17 : decode cX4_canPay 17 = .ok (.aload_n 0, 1) := by decide +kernel
theorem dX4_canPay_18 : decode cX4_canPay 18 = .ok (.getfield 21, 3) := by decide +kernel
theorem dX4_canPay_21 : decode cX4_canPay 21 = .ok (.iload_n 1, 1) := by decide +kernel
theorem dX4_canPay_22 : decode cX4_canPay 22 = .ok (.invokevirtual 59, 3) := by decide +kernel
theorem dX4_canPay_25 : decode cX4_canPay 25 = .ok (.ireturn, 1) := by decide +kernel
theorem dX4_canPayWithCoin_0 : decode cX4_canPayWithCoin 0 = .ok (.aload_n 0, 1) := by decide +kernel
theorem dX4_canPayWithCoin_1 : decode cX4_canPayWithCoin 1 = .ok (.getfield 9, 3) := by decide +kernel
theorem dX4_canPayWithCoin_4 : decode cX4_canPayWithCoin 4 = .ok (.iconst 0, 1) := by decide +kernel
theorem dX4_canPayWithCoin_5 : decode cX4_canPayWithCoin 5 = .ok (.aload_n 0, 1) := by decide +kernel
theorem dX4_canPayWithCoin_6 : decode cX4_canPayWithCoin 6 = .ok (.getfield 21, 3) := by decide +kernel
theorem dX4_canPayWithCoin_9 : decode cX4_canPayWithCoin 9 = .ok (.getfield 56, 3) := by decide +kernel
theorem dX4_canPayWithCoin_12 : decode cX4_canPayWithCoin 12 = .ok (.iconst 0, 1) := by decide +kernel
theorem dX4_canPayWithCoin_13 : decode cX4_canPayWithCoin 13 = .ok (.iconst 4, 1) := by decide +kernel
theorem dX4_canPayWithCoin_14 : decode cX4_canPayWithCoin 14 = .ok (.invokestatic 38, 3) := by decide +kernel
theorem dX4_canPayWithCoin_17 : decode cX4_canPayWithCoin 17 = .ok (.aload_n 0, 1) := by decide +kernel
theorem dX4_canPayWithCoin_18 : decode cX4_canPayWithCoin 18 = .ok (.getfield 21, 3) := by decide +kernel
theorem dX4_canPayWithCoin_21 : decode cX4_canPayWithCoin 21 = .ok (.getfield 56, 3) := by decide +kernel
theorem dX4_canPayWithCoin_24 : decode cX4_canPayWithCoin 24 = .ok (.iload_n 2, 1) := by decide +kernel
theorem dX4_canPayWithCoin_25 : decode cX4_canPayWithCoin 25 = .ok (.dup2, 1) := by decide +kernel
theorem dX4_canPayWithCoin_26 : decode cX4_canPayWithCoin 26 = .ok (.iaload, 1) := by decide +kernel
theorem dX4_canPayWithCoin_27 : decode cX4_canPayWithCoin 27 = .ok (.iconst 1, 1) := by decide +kernel
theorem dX4_canPayWithCoin_28 : decode cX4_canPayWithCoin 28 = .ok (.iadd, 1) := by decide +kernel
theorem dX4_canPayWithCoin_29 : decode cX4_canPayWithCoin 29 = .ok (.iastore, 1) := by decide +kernel
theorem dX4_canPayWithCoin_30 : decode cX4_canPayWithCoin 30 = .ok (.aload_n 0, 1) := by decide +kernel
theorem dX4_canPayWithCoin_31 : decode cX4_canPayWithCoin 31 = .ok (.getfield 21, 3) := by decide +kernel
theorem dX4_canPayWithCoin_34 : decode cX4_canPayWithCoin 34 = .ok (.iload_n 1, 1) := by decide +kernel
theorem dX4_canPayWithCoin_35 : decode cX4_canPayWithCoin 35 = .ok (.invokevirtual 59, 3) := by decide +kernel
theorem dX4_canPayWithCoin_38 : decode cX4_canPayWithCoin 38 = .ok (.ireturn, 1) := by decide +kernel
theorem dX4_canPayAfter_0 : decode cX4_canPayAfter 0 = .ok (.iconst 0, 1) := by decide +kernel
theorem dX4_canPayAfter_1 : decode cX4_canPayAfter 1 = .ok (.istore_n 3, 1) := by decide +kernel
theorem dX4_canPayAfter_2 : decode cX4_canPayAfter 2 = .ok (.iload_n 3, 1) := by decide +kernel
theorem dX4_canPayAfter_3 : decode cX4_canPayAfter 3 = .ok (.iconst 4, 1) := by decide +kernel
theorem dX4_canPayAfter_4 : decode cX4_canPayAfter 4 = .ok (.if_icmp .ge 39, 3) := by decide +kernel
theorem dX4_canPayAfter_7 : decode cX4_canPayAfter 7 = .ok (.iload_n 3, 1) := by decide +kernel
theorem dX4_canPayAfter_8 : decode cX4_canPayAfter 8 = .ok (.aload_n 1, 1) := by decide +kernel
theorem dX4_canPayAfter_9 : decode cX4_canPayAfter 9 = .ok (.arraylength, 1) := by decide +kernel
theorem dX4_canPayAfter_10 : decode cX4_canPayAfter 10 = .ok (.if_icmp .ge 33, 3) := by decide +kernel
theorem dX4_canPayAfter_13 : decode cX4_canPayAfter 13 = .ok (.aload_n 0, 1) := by decide +kernel
theorem dX4_canPayAfter_14 : decode cX4_canPayAfter 14 = .ok (.getfield 21, 3) := by decide +kernel
theorem dX4_canPayAfter_17 : decode cX4_canPayAfter 17 = .ok (.getfield 56, 3) := by decide +kernel
theorem dX4_canPayAfter_20 : decode cX4_canPayAfter 20 = .ok (.iload_n 3, 1) := by decide +kernel
theorem dX4_canPayAfter_21 : decode cX4_canPayAfter 21 = .ok (.bipush 30, 2) := by decide +kernel
theorem dX4_canPayAfter_23 : decode cX4_canPayAfter 23 = .ok (.aload_n 0, 1) := by decide +kernel
theorem dX4_canPayAfter_24 : decode cX4_canPayAfter 24 = .ok (.getfield 9, 3) := by decide +kernel
theorem dX4_canPayAfter_27 : decode cX4_canPayAfter 27 = .ok (.iload_n 3, 1) := by decide +kernel
theorem dX4_canPayAfter_28 : decode cX4_canPayAfter 28 = .ok (.iaload, 1) := by decide +kernel
theorem dX4_canPayAfter_29 : decode cX4_canPayAfter 29 = .ok (.aload_n 1, 1) := by decide +kernel
theorem dX4_canPayAfter_30 : decode cX4_canPayAfter 30 = .ok (.iload_n 3, 1) := by decide +kernel
theorem dX4_canPayAfter_31 : decode cX4_canPayAfter 31 = .ok (.iaload, 1) := by decide +kernel
theorem dX4_canPayAfter_32 : decode cX4_canPayAfter 32 = .ok (.iadd, 1) := by decide +kernel
theorem dX4_canPayAfter_33 : decode cX4_canPayAfter 33 = .ok (.invokestatic 44, 3) := by decide +kernel
theorem dX4_canPayAfter_36 : decode cX4_canPayAfter 36 = .ok (.iastore, 1) := by decide +kernel
theorem dX4_canPayAfter_37 : decode cX4_canPayAfter 37 = .ok (.iinc 3 1, 3) := by decide +kernel
theorem dX4_canPayAfter_40 : decode cX4_canPayAfter 40 = .ok (.goto (-38), 3) := by decide +kernel
theorem dX4_canPayAfter_43 : decode cX4_canPayAfter 43 = .ok (.aload_n 0, 1) := by decide +kernel
theorem dX4_canPayAfter_44 : decode cX4_canPayAfter 44 = .ok (.getfield 21, 3) := by decide +kernel
theorem dX4_canPayAfter_47 : decode cX4_canPayAfter 47 = .ok (.iload_n 2, 1) := by decide +kernel
theorem dX4_canPayAfter_48 : decode cX4_canPayAfter 48 = .ok (.invokevirtual 59, 3) := by decide +kernel
theorem dX4_canPayAfter_51 : decode cX4_canPayAfter 51 = .ok (.ireturn, 1) := by decide +kernel
theorem dX4_payOut_0 : decode cX4_payOut 0 = .ok (.iconst 0, 1) := by decide +kernel
theorem dX4_payOut_1 : decode cX4_payOut 1 = .ok (.istore_n 1, 1) := by decide +kernel
theorem dX4_payOut_2 : decode cX4_payOut 2 = .ok (.iload_n 1, 1) := by decide +kernel
theorem dX4_payOut_3 : decode cX4_payOut 3 = .ok (.iconst 4, 1) := by decide +kernel
theorem dX4_payOut_4 : decode cX4_payOut 4 = .ok (.if_icmp .ge 27, 3) := by decide +kernel
theorem dX4_payOut_7 : decode cX4_payOut 7 = .ok (.aload_n 0, 1) := by decide +kernel
theorem dX4_payOut_8 : decode cX4_payOut 8 = .ok (.getfield 9, 3) := by decide +kernel
theorem dX4_payOut_11 : decode cX4_payOut 11 = .ok (.iload_n 1, 1) := by decide +kernel
theorem dX4_payOut_12 : decode cX4_payOut 12 = .ok (.dup2, 1) := by decide +kernel
theorem dX4_payOut_13 : decode cX4_payOut 13 = .ok (.iaload, 1) := by decide +kernel
theorem dX4_payOut_14 : decode cX4_payOut 14 = .ok (.aload_n 0, 1) := by decide +kernel
theorem dX4_payOut_15 : decode cX4_payOut 15 = .ok (.getfield 21, 3) := by decide +kernel
theorem dX4_payOut_18 : decode cX4_payOut 18 = .ok (.getfield 63, 3) := by decide +kernel
theorem dX4_payOut_21 : decode cX4_payOut 21 = .ok (.iload_n 1, 1) := by decide +kernel
theorem dX4_payOut_22 : decode cX4_payOut 22 = .ok (.iaload, 1) := by decide +kernel
theorem dX4_payOut_23 : decode cX4_payOut 23 = .ok (.isub, 1) := by decide +kernel
theorem dX4_payOut_24 : decode cX4_payOut 24 = .ok (.iastore, 1) := by decide +kernel
theorem dX4_payOut_25 : decode cX4_payOut 25 = .ok (.iinc 1 1, 3) := by decide +kernel
theorem dX4_payOut_28 : decode cX4_payOut 28 = .ok (.goto (-26), 3) := by decide +kernel
theorem dX4_payOut_31 : decode cX4_payOut 31 = .ok (.return_, 1) := by decide +kernel
theorem dX4_addPromise_0 : decode cX4_addPromise 0 = .ok (.aload_n 0, 1) := by decide +kernel
theorem dX4_addPromise_1 : decode cX4_addPromise 1 = .ok (.getfield 29, 3) := by decide +kernel
theorem dX4_addPromise_4 : decode cX4_addPromise 4 = .ok (.sipush 200, 3) := by decide +kernel
theorem dX4_addPromise_7 : decode cX4_addPromise 7 = .ok (.if_icmp .ge 33, 3) := by decide +kernel
theorem dX4_addPromise_10 : decode cX4_addPromise 10 = .ok (.aload_n 0, 1) := by decide +kernel
theorem dX4_addPromise_11 : decode cX4_addPromise 11 = .ok (.getfield 15, 3) := by decide +kernel
theorem dX4_addPromise_14 : decode cX4_addPromise 14 = .ok (.aload_n 0, 1) := by decide +kernel
theorem dX4_addPromise_15 : decode cX4_addPromise 15 = .ok (.getfield 29, 3) := by decide +kernel
theorem dX4_addPromise_18 : decode cX4_addPromise 18 = .ok (.iload_n 1, 1) := by decide +kernel
theorem dX4_addPromise_19 : decode cX4_addPromise 19 = .ok (.iastore, 1) := by decide +kernel
theorem dX4_addPromise_20 : decode cX4_addPromise 20 = .ok (.aload_n 0, 1) := by decide +kernel
theorem dX4_addPromise_21 : decode cX4_addPromise 21 = .ok (.dup, 1) := by decide +kernel
theorem dX4_addPromise_22 : decode cX4_addPromise 22 = .ok (.getfield 29, 3) := by decide +kernel
theorem dX4_addPromise_25 : decode cX4_addPromise 25 = .ok (.iconst 1, 1) := by decide +kernel
theorem dX4_addPromise_26 : decode cX4_addPromise 26 = .ok (.iadd, 1) := by decide +kernel
theorem dX4_addPromise_27 : decode cX4_addPromise 27 = .ok (.putfield 29, 3) := by decide +kernel
theorem dX4_addPromise_30 : decode cX4_addPromise 30 = .ok (.aload_n 0, 1) := by decide +kernel
theorem dX4_addPromise_31 : decode cX4_addPromise 31 = .ok (.dup, 1) := by decide +kernel
theorem dX4_addPromise_32 : decode cX4_addPromise 32 = .ok (.getfield 32, 3) := by decide +kernel
theorem dX4_addPromise_35 : decode cX4_addPromise 35 = .ok (.iload_n 1, 1) := by decide +kernel
theorem dX4_addPromise_36 : decode cX4_addPromise 36 = .ok (.iadd, 1) := by decide +kernel
theorem dX4_addPromise_37 : decode cX4_addPromise 37 = .ok (.putfield 32, 3) := by decide +kernel
theorem dX4_addPromise_40 : decode cX4_addPromise 40 = .ok (.return_, 1) := by decide +kernel
theorem dX4_payPromises_0 : decode cX4_payPromises 0 = .ok (.iconst 0, 1) := by decide +kernel
theorem dX4_payPromises_1 : decode cX4_payPromises 1 = .ok (.istore_n 1, 1) := by decide +kernel
theorem dX4_payPromises_2 : decode cX4_payPromises 2 = .ok (.iload_n 1, 1) := by decide +kernel
theorem dX4_payPromises_3 : decode cX4_payPromises 3 = .ok (.aload_n 0, 1) := by decide +kernel
theorem dX4_payPromises_4 : decode cX4_payPromises 4 = .ok (.getfield 29, 3) := by decide +kernel
theorem dX4_payPromises_7 : decode cX4_payPromises 7 = .ok (.if_icmp .ge 63, 3) := by decide +kernel
theorem dX4_payPromises_10 : decode cX4_payPromises 10 = .ok (.iload_n 1, 1) := by decide +kernel
theorem dX4_payPromises_11 : decode cX4_payPromises 11 = .ok (.sipush 200, 3) := by decide +kernel
theorem dX4_payPromises_14 : decode cX4_payPromises 14 = .ok (.if_icmp .ge 56, 3) := by decide +kernel
theorem dX4_payPromises_17 : decode cX4_payPromises 17 = .ok (.aload_n 0, 1) := by decide +kernel
theorem dX4_payPromises_18 : decode cX4_payPromises 18 = .ok (.aload_n 0, 1) := by decide +kernel
theorem dX4_payPromises_19 : decode cX4_payPromises 19 = .ok (.getfield 15, 3) := by decide +kernel
theorem dX4_payPromises_22 : decode cX4_payPromises 22 = .ok (.iload_n 1, 1) := by decide +kernel
theorem dX4_payPromises_23 : decode cX4_payPromises 23 = .ok (.iaload, 1) := by decide +kernel
theorem dX4_payPromises_24 : decode cX4_payPromises 24 = .ok (.invokevirtual 66, 3) := by decide +kernel
theorem dX4_payPromises_27 : decode cX4_payPromises 27 = .ok (.ifCond .eq 43, 3) := by decide +kernel
theorem dX4_payPromises_30 : decode cX4_payPromises 30 = .ok (.aload_n 0, 1) := by decide +kernel
theorem dX4_payPromises_31 : decode cX4_payPromises 31 = .ok (.invokevirtual 69, 3) := by decide +kernel
theorem dX4_payPromises_34 : decode cX4_payPromises 34 = .ok (.aload_n 0, 1) := by decide +kernel
theorem dX4_payPromises_35 : decode cX4_payPromises 35 = .ok (.dup, 1) := by decide +kernel
theorem dX4_payPromises_36 : decode cX4_payPromises 36 = .ok (.getfield 32, 3) := by decide +kernel
theorem dX4_payPromises_39 : decode cX4_payPromises 39 = .ok (.aload_n 0, 1) := by decide +kernel
theorem dX4_payPromises_40 : decode cX4_payPromises 40 = .ok (.getfield 15, 3) := by decide +kernel
theorem dX4_payPromises_43 : decode cX4_payPromises 43 = .ok (.iload_n 1, 1) := by decide +kernel
theorem dX4_payPromises_44 : decode cX4_payPromises 44 = .ok (.iaload, 1) := by decide +kernel
theorem dX4_payPromises_45 : decode cX4_payPromises 45 = .ok (.isub, 1) := by decide +kernel
theorem dX4_payPromises_46 : decode cX4_payPromises 46 = .ok (.putfield 32, 3) := by decide +kernel
theorem dX4_payPromises_49 : decode cX4_payPromises 49 = .ok (.aload_n 0, 1) := by decide +kernel
theorem dX4_payPromises_50 : decode cX4_payPromises 50 = .ok (.dup, 1) := by decide +kernel
theorem dX4_payPromises_51 : decode cX4_payPromises 51 = .ok (.getfield 35, 3) := by decide +kernel
theorem dX4_payPromises_54 : decode cX4_payPromises 54 = .ok (.aload_n 0, 1) := by decide +kernel
theorem dX4_payPromises_55 : decode cX4_payPromises 55 = .ok (.getfield 15, 3) := by decide +kernel
theorem dX4_payPromises_58 : decode cX4_payPromises 58 = .ok (.iload_n 1, 1) := by decide +kernel
theorem dX4_payPromises_59 : decode cX4_payPromises 59 = .ok (.iaload, 1) := by decide +kernel
theorem dX4_payPromises_60 : decode cX4_payPromises 60 = .ok (.iadd, 1) := by decide +kernel
theorem dX4_payPromises_61 : decode cX4_payPromises 61 = .ok (.putfield 35, 3) := by decide +kernel
theorem dX4_payPromises_64 : decode cX4_payPromises 64 = .ok (.iinc 1 1, 3) := by decide +kernel
theorem dX4_payPromises_67 : decode cX4_payPromises 67 = .ok (.goto (-65), 3) := by decide +kernel
theorem dX4_payPromises_70 : decode cX4_payPromises 70 = .ok (.iload_n 1, 1) := by decide +kernel
theorem dX4_payPromises_71 : decode cX4_payPromises 71 = .ok (.ifCond .le 32, 3) := by decide +kernel
theorem dX4_payPromises_74 : decode cX4_payPromises 74 = .ok (.aload_n 0, 1) := by decide +kernel
theorem dX4_payPromises_75 : decode cX4_payPromises 75 = .ok (.getfield 15, 3) := by decide +kernel
theorem dX4_payPromises_78 : decode cX4_payPromises 78 = .ok (.iload_n 1, 1) := by decide +kernel
theorem dX4_payPromises_79 : decode cX4_payPromises 79 = .ok (.aload_n 0, 1) := by decide +kernel
theorem dX4_payPromises_80 : decode cX4_payPromises 80 = .ok (.getfield 15, 3) := by decide +kernel
theorem dX4_payPromises_83 : decode cX4_payPromises 83 = .ok (.iconst 0, 1) := by decide +kernel
theorem dX4_payPromises_84 : decode cX4_payPromises 84 = .ok (.aload_n 0, 1) := by decide +kernel
theorem dX4_payPromises_85 : decode cX4_payPromises 85 = .ok (.getfield 29, 3) := by decide +kernel
theorem dX4_payPromises_88 : decode cX4_payPromises 88 = .ok (.iload_n 1, 1) := by decide +kernel
theorem dX4_payPromises_89 : decode cX4_payPromises 89 = .ok (.isub, 1) := by decide +kernel
theorem dX4_payPromises_90 : decode cX4_payPromises 90 = .ok (.invokestatic 38, 3) := by decide +kernel
theorem dX4_payPromises_93 : decode cX4_payPromises 93 = .ok (.aload_n 0, 1) := by decide +kernel
theorem dX4_payPromises_94 : decode cX4_payPromises 94 = .ok (.dup, 1) := by decide +kernel
theorem dX4_payPromises_95 : decode cX4_payPromises 95 = .ok (.getfield 29, 3) := by decide +kernel
theorem dX4_payPromises_98 : decode cX4_payPromises 98 = .ok (.iload_n 1, 1) := by decide +kernel
theorem dX4_payPromises_99 : decode cX4_payPromises 99 = .ok (.isub, 1) := by decide +kernel
theorem dX4_payPromises_100 : decode cX4_payPromises 100 = .ok (.putfield 29, 3) := by decide +kernel
theorem dX4_payPromises_103 : decode cX4_payPromises 103 = .ok (.return_, 1) := by decide +kernel
