theorem dX1_init_0 : decode cX1_init 0 = .ok (.aload_n 0, 1) := by decide +kernel
theorem dX1_init_1 : decode cX1_init 1 = .ok (.invokespecial 3, 3) := by decide +kernel
theorem dX1_init_4 : decode cX1_init 4 = .ok (.aload_n 0, 1) := by decide +kernel
theorem dX1_init_5 : decode cX1_init 5 = .ok (.bipush 8, 2) := by decide +kernel
theorem dX1_init_7 : decode cX1_init 7 = .ok (.anewarray 9, 3) := by decide +kernel
theorem dX1_init_10 : decode cX1_init 10 = .ok (.putfield 11, 3) := by decide +kernel
theorem dX1_init_13 : decode cX1_init 13 = .ok (.aload_n 0, 1) := by decide +kernel
theorem dX1_init_14 : decode cX1_init 14 = .ok (.iconst 5, 1) := by decide +kernel
theorem dX1_init_15 : decode cX1_init 15 = .ok (.newarray .int, 2) := by decide +kernel
theorem dX1_init_17 : decode cX1_init 17 = .ok (.putfield 17, 3) := by decide +kernel
theorem dX1_init_20 : decode cX1_init 20 = .ok (.aload_n 0, 1) := by decide +kernel
theorem dX1_init_21 : decode cX1_init 21 = .ok (.new 21, 3) := by decide +kernel
theorem dX1_init_24 : decode cX1_init 24 = .ok (.dup, 1) := by decide +kernel
theorem dX1_init_25 : decode cX1_init 25 = .ok (.invokespecial 23, 3) := by decide +kernel
theorem dX1_init_28 : decode cX1_init 28 = .ok (.putfield 24, 3) := by decide +kernel
theorem dX1_init_31 : decode cX1_init 31 = .ok (.aload_n 0, 1) := by decide +kernel
theorem dX1_init_32 : decode cX1_init 32 = .ok (.iconst 0, 1) := by decide +kernel
theorem dX1_init_33 : decode cX1_init 33 = .ok (.putfield 28, 3) := by decide +kernel
theorem dX1_init_36 : decode cX1_init 36 = .ok (.aload_n 0, 1) := by decide +kernel
theorem dX1_init_37 : decode cX1_init 37 = .ok (.iconst 0, 1) := by decide +kernel
theorem dX1_init_38 : decode cX1_init 38 = .ok (.putfield 32, 3) := by decide +kernel
theorem dX1_init_41 : decode cX1_init 41 = .ok (.aload_n 0, 1) := by decide +kernel
theorem dX1_init_42 : decode cX1_init 42 = .ok (.iconst 0, 1) := by decide +kernel
theorem dX1_init_43 : decode cX1_init 43 = .ok (.putfield 35, 3) := by decide +kernel
theorem dX1_init_46 : decode cX1_init 46 = .ok (.iconst 0, 1) := by decide +kernel
theorem dX1_init_47 : decode cX1_init 47 = .ok (.istore_n 1, 1) := by decide +kernel
theorem dX1_init_48 : decode cX1_init 48 = .ok (.iload_n 1, 1) := by decide +kernel
theorem dX1_init_49 : decode cX1_init 49 = .ok (.bipush 8, 2) := by decide +kernel
theorem dX1_init_51 : decode cX1_init 51 = .ok (.if_icmp .ge 22, 3) := by decide +kernel
theorem dX1_init_54 : decode cX1_init 54 = .ok (.aload_n 0, 1) := by decide +kernel
theorem dX1_init_55 : decode cX1_init 55 = .ok (.getfield 11, 3) := by decide +kernel
theorem dX1_init_58 : decode cX1_init 58 = .ok (.iload_n 1, 1) := by decide +kernel
theorem dX1_init_59 : decode cX1_init 59 = .ok (.new 9, 3) := by decide +kernel
theorem dX1_init_62 : decode cX1_init 62 = .ok (.dup, 1) := by decide +kernel
theorem dX1_init_63 : decode cX1_init 63 = .ok (.invokespecial 38, 3) := by decide +kernel
theorem dX1_init_66 : decode cX1_init 66 = .ok (.aastore, 1) := by decide +kernel
theorem dX1_init_67 : decode cX1_init 67 = .ok (.iinc 1 1, 3) := by decide +kernel
theorem dX1_init_70 : decode cX1_init 70 = .ok (.goto (-22), 3) := by decide +kernel
theorem dX1_init_73 : decode cX1_init 73 = .ok (.iconst 0, 1) := by decide +kernel
theorem dX1_init_74 : decode cX1_init 74 = .ok (.istore_n 1, 1) := by decide +kernel
theorem dX1_init_75 : decode cX1_init 75 = .ok (.iload_n 1, 1) := by decide +kernel
theorem dX1_init_76 : decode cX1_init 76 = .ok (.iconst 5, 1) := by decide +kernel
theorem dX1_init_77 : decode cX1_init 77 = .ok (.if_icmp .ge 20, 3) := by decide +kernel
theorem dX1_init_80 : decode cX1_init 80 = .ok (.aload_n 0, 1) := by decide +kernel
theorem dX1_init_81 : decode cX1_init 81 = .ok (.getfield 17, 3) := by decide +kernel
theorem dX1_init_84 : decode cX1_init 84 = .ok (.iload_n 1, 1) := by decide +kernel
theorem dX1_init_85 : decode cX1_init 85 = .ok (.getstatic 39, 3) := by decide +kernel
theorem dX1_init_88 : decode cX1_init 88 = .ok (.iload_n 1, 1) := by decide +kernel
theorem dX1_init_89 : decode cX1_init 89 = .ok (.iaload, 1) := by decide +kernel
theorem dX1_init_90 : decode cX1_init 90 = .ok (.iastore, 1) := by decide +kernel
theorem dX1_init_91 : decode cX1_init 91 = .ok (.iinc 1 1, 3) := by decide +kernel
theorem dX1_init_94 : decode cX1_init 94 = .ok (.goto (-19), 3) := by decide +kernel
theorem dX1_init_97 : decode cX1_init 97 = .ok (.return_, 1) := by decide +kernel
theorem dX1_takeOver_0 : decode cX1_takeOver 0 = .ok (.iconst 0, 1) := by decide +kernel
theorem dX1_takeOver_1 : decode cX1_takeOver 1 = .ok (.istore_n 2, 1) := by decide +kernel
theorem dX1_takeOver_2 : decode cX1_takeOver 2 = .ok (.iload_n 2, 1) := by decide +kernel
theorem dX1_takeOver_3 : decode cX1_takeOver 3 = .ok (.aload_n 1, 1) := by decide +kernel
theorem dX1_takeOver_4 : decode cX1_takeOver 4 = .ok (.getfield 28, 3) := by decide +kernel
theorem dX1_takeOver_7 : decode cX1_takeOver 7 = .ok (.if_icmp .ge 24, 3) := by decide +kernel
theorem dX1_takeOver_10 : decode cX1_takeOver 10 = .ok (.aload_n 0, 1) := by decide +kernel
theorem dX1_takeOver_11 : decode cX1_takeOver 11 = .ok (.getfield 11, 3) := by decide +kernel
theorem dX1_takeOver_14 : decode cX1_takeOver 14 = .ok (.iload_n 2, 1) := by decide +kernel
theorem dX1_takeOver_15 : decode cX1_takeOver 15 = .ok (.aaload, 1) := by decide +kernel
theorem dX1_takeOver_16 : decode cX1_takeOver 16 = .ok (.aload_n 1, 1) := by decide +kernel
theorem dX1_takeOver_17 : decode cX1_takeOver 17 = .ok (.getfield 11, 3) := by decide +kernel
theorem dX1_takeOver_20 : decode cX1_takeOver 20 = .ok (.iload_n 2, 1) := by decide +kernel
theorem dX1_takeOver_21 : decode cX1_takeOver 21 = .ok (.aaload, 1) := by decide +kernel
theorem dX1_takeOver_22 : decode cX1_takeOver 22 = .ok (.invokevirtual 42, 3) := by decide +kernel
theorem dX1_takeOver_25 : decode cX1_takeOver 25 = .ok (.iinc 2 1, 3) := by decide +kernel
theorem dX1_takeOver_28 : decode cX1_takeOver 28 = .ok (.goto (-26), 3) := by decide +kernel
theorem dX1_takeOver_31 : decode cX1_takeOver 31 = .ok (.aload_n 1, 1) := by decide +kernel
theorem dX1_takeOver_32 : decode cX1_takeOver 32 = .ok (.getfield 17, 3) := by decide +kernel
theorem dX1_takeOver_35 : decode cX1_takeOver 35 = .ok (.iconst 0, 1) := by decide +kernel
theorem dX1_takeOver_36 : decode cX1_takeOver 36 = .ok (.aload_n 0, 1) := by decide +kernel
theorem dX1_takeOver_37 : decode cX1_takeOver 37 = .ok (.getfield 17, 3) := by decide +kernel
theorem dX1_takeOver_40 : decode cX1_takeOver 40 = .ok (.iconst 0, 1) := by decide +kernel
theorem dX1_takeOver_41 : decode cX1_takeOver 41 = .ok (.iconst 5, 1) := by decide +kernel
theorem dX1_takeOver_42 : decode cX1_takeOver 42 = .ok (.invokestatic 46, 3) := by decide +kernel
theorem dX1_takeOver_45 : decode cX1_takeOver 45 = .ok (.aload_n 0, 1) := by decide +kernel
theorem dX1_takeOver_46 : decode cX1_takeOver 46 = .ok (.getfield 24, 3) := by decide +kernel
theorem dX1_takeOver_49 : decode cX1_takeOver 49 = .ok (.aload_n 1, 1) := by decide +kernel
theorem dX1_takeOver_50 : decode cX1_takeOver 50 = .ok (.getfield 24, 3) := by decide +kernel
theorem dX1_takeOver_53 : decode cX1_takeOver 53 = .ok (.invokevirtual 52, 3) := by decide +kernel
theorem dX1_takeOver_56 : decode cX1_takeOver 56 = .ok (.aload_n 0, 1) := by decide +kernel
theorem dX1_takeOver_57 : decode cX1_takeOver 57 = .ok (.aload_n 1, 1) := by decide +kernel
theorem dX1_takeOver_58 : decode cX1_takeOver 58 = .ok (.getfield 28, 3) := by decide +kernel
theorem dX1_takeOver_61 : decode cX1_takeOver 61 = .ok (.putfield 28, 3) := by decide +kernel
theorem dX1_takeOver_64 : decode cX1_takeOver 64 = .ok (.aload_n 0, 1) := by decide +kernel
theorem dX1_takeOver_65 : decode cX1_takeOver 65 = .ok (.aload_n 1, 1) := by decide +kernel
theorem dX1_takeOver_66 : decode cX1_takeOver 66 = .ok (.getfield 32, 3) := by decide +kernel
theorem dX1_takeOver_69 : decode cX1_takeOver 69 = .ok (.putfield 32, 3) := by decide +kernel
theorem dX1_takeOver_72 : decode cX1_takeOver 72 = .ok (.aload_n 0, 1) := by decide +kernel
theorem dX1_takeOver_73 : decode cX1_takeOver 73 = .ok (.aload_n 1, 1) := by decide +kernel
theorem dX1_takeOver_74 : decode cX1_takeOver 74 = .ok (.getfield 35, 3) := by decide +kernel
theorem dX1_takeOver_77 : decode cX1_takeOver 77 = .ok (.putfield 35, 3) := by decide +kernel
theorem dX1_takeOver_80 : decode cX1_takeOver 80 = .ok (.return_, 1) := by decide +kernel
theorem dX1_changeSetting_0 : decode cX1_changeSetting 0 = .ok (.aload_n 0, 1) := by decide +kernel
theorem dX1_changeSetting_1 : decode cX1_changeSetting 1 = .ok (.getfield 17, 3) := by decide +kernel
theorem dX1_changeSetting_4 : decode cX1_changeSetting 4 = .ok (.iload_n 1, 1) := by decide +kernel
theorem dX1_changeSetting_5 : decode cX1_changeSetting 5 = .ok (.iaload, 1) := by decide +kernel
theorem dX1_changeSetting_6 : decode cX1_changeSetting 6 = .ok (.istore_n 3, 1) := by decide +kernel
theorem dX1_changeSetting_7 : decode cX1_changeSetting 7 = .ok (.aload_n 0, 1) := by decide +kernel
theorem dX1_changeSetting_8 : decode cX1_changeSetting 8 = .ok (.getfield 17, 3) := by decide +kernel
theorem dX1_changeSetting_11 : decode cX1_changeSetting 11 = .ok (.iload_n 1, 1) := by decide +kernel
theorem dX1_changeSetting_12 : decode cX1_changeSetting 12 = .ok (.iload_n 2, 1) := by decide +kernel
theorem dX1_changeSetting_13 : decode cX1_changeSetting 13 = .ok (.iastore, 1) := by decide +kernel
theorem dX1_changeSetting_14 : decode cX1_changeSetting 14 = .ok (.iload_n 3, 1) := by decide +kernel
theorem dX1_changeSetting_15 : decode cX1_changeSetting 15 = .ok (.ireturn, 1) := by decide +kernel
theorem dX1_hasCoil_0 : decode cX1_hasCoil 0 = .ok (.iload_n 1, 1) := by decide +kernel
theorem dX1_hasCoil_1 : decode cX1_hasCoil 1 = .ok (.ifCond .lt 15, 3) := by decide +kernel
theorem dX1_hasCoil_4 : decode cX1_hasCoil 4 = .ok (.iload_n 1, 1) := by decide +kernel
theorem dX1_hasCoil_5 : decode cX1_hasCoil 5 = .ok (.aload_n 0, 1) := by decide +kernel
theorem dX1_hasCoil_6 : decode cX1_hasCoil 6 = .ok (.getfield 28, 3) := by decide +kernel
theorem dX1_hasCoil_9 : decode cX1_hasCoil 9 = .ok (.if_icmp .ge 7, 3) := by decide +kernel
theorem dX1_hasCoil_12 : decode cX1_hasCoil 12 = .ok (.iconst 1, 1) := by decide +kernel
theorem dX1_hasCoil_13 : decode cX1_hasCoil 13 = .ok (.goto 4, 3) := by decide +kernel
theorem dX1_hasCoil_16 : decode cX1_hasCoil 16 = .ok (.iconst 0, 1) := by decide +kernel
theorem dX1_hasCoil_17 : decode cX1_hasCoil 17 = .ok (.ireturn, 1) := by decide +kernel
theorem dX1_hasRoomForCoil_0 : decode cX1_hasRoomForCoil 0 = .ok (.aload_n 0, 1) := by decide +kernel
theorem dX1_hasRoomForCoil_1 : decode cX1_hasRoomForCoil 1 = .ok (.getfield 28, 3) := by decide +kernel
theorem dX1_hasRoomForCoil_4 : decode cX1_hasRoomForCoil 4 = .ok (.bipush 8, 2) := by decide +kernel
theorem dX1_hasRoomForCoil_6 : decode cX1_hasRoomForCoil 6 = .ok (.if_icmp .ge 7, 3) := by decide +kernel
theorem dX1_hasRoomForCoil_9 : decode cX1_hasRoomForCoil 9 = .ok (.iconst 1, 1) := by decide +kernel
theorem dX1_hasRoomForCoil_10 : decode cX1_hasRoomForCoil 10 = .ok (.goto 4, 3) := by decide +kernel
theorem dX1_hasRoomForCoil_13 : decode cX1_hasRoomForCoil 13 = .ok (.iconst 0, 1) := by decide +kernel
theorem dX1_hasRoomForCoil_14 : decode cX1_hasRoomForCoil 14 = .ok (.ireturn, 1) := by decide +kernel
theorem dX1_newCoil_0 : decode cX1_newCoil 0 = .ok (.aload_n 0, 1) := by decide +kernel
theorem dX1_newCoil_1 : decode cX1_newCoil 1 = .ok (.getfield 11, 3) := by decide +kernel
theorem dX1_newCoil_4 : decode cX1_newCoil 4 = .ok (.aload_n 0, 1) := by decide +kernel
theorem dX1_newCoil_5 : decode cX1_newCoil 5 = .ok (.getfield 28, 3) := by decide +kernel
theorem dX1_newCoil_8 : decode cX1_newCoil 8 = .ok (.aaload, 1) := by decide +kernel
theorem dX1_newCoil_9 : decode cX1_newCoil 9 = .ok (.iload_n 1, 1) := by decide +kernel
theorem dX1_newCoil_10 : decode cX1_newCoil 10 = .ok (.iload_n 2, 1) := by decide +kernel
theorem dX1_newCoil_11 : decode cX1_newCoil 11 = .ok (.iload_n 3, 1) := by decide +kernel
theorem dX1_newCoil_12 : decode cX1_newCoil 12 = .ok (.invokevirtual 55, 3) := by decide +kernel
theorem dX1_newCoil_15 : decode cX1_newCoil 15 = .ok (.aload_n 0, 1) := by decide +kernel
theorem dX1_newCoil_16 : decode cX1_newCoil 16 = .ok (.dup, 1) := by decide +kernel
theorem dX1_newCoil_17 : decode cX1_newCoil 17 = .ok (.getfield 28, 3) := by decide +kernel
theorem dX1_newCoil_20 : decode cX1_newCoil 20 = .ok (.iconst 1, 1) := by decide +kernel
theorem dX1_newCoil_21 : decode cX1_newCoil 21 = .ok (.iadd, 1) := by decide +kernel
theorem dX1_newCoil_22 : decode cX1_newCoil 22 = .ok (.putfield 28, 3) := by decide +kernel
theorem dX1_newCoil_25 : decode cX1_newCoil 25 = .ok (.aload_n 0, 1) := by decide +kernel
theorem dX1_newCoil_26 : decode cX1_newCoil 26 = .ok (.getfield 28, 3) := by decide +kernel
theorem dX1_newCoil_29 : decode cX1_newCoil 29 = .ok (.iconst 1, 1) := by decide +kernel
theorem dX1_newCoil_30 : decode cX1_newCoil 30 = .ok (.isub, 1) := by decide +kernel
theorem dX1_newCoil_31 : decode cX1_newCoil 31 = .ok (.ireturn, 1) := by decide +kernel
theorem dX1_hasRoomForGoods_0 : decode cX1_hasRoomForGoods 0 = .ok (.aload_n 0, 1) := by decide +kernel
theorem dX1_hasRoomForGoods_1 : decode cX1_hasRoomForGoods 1 = .ok (.getfield 11, 3) := by decide +kernel
theorem dX1_hasRoomForGoods_4 : decode cX1_hasRoomForGoods 4 = .ok (.iload_n 1, 1) := by decide +kernel
theorem dX1_hasRoomForGoods_5 : decode cX1_hasRoomForGoods 5 = .ok (.aaload, 1) := by decide +kernel
theorem dX1_hasRoomForGoods_6 : decode cX1_hasRoomForGoods 6 = .ok (.getfield 59, 3) := by decide +kernel
theorem dX1_hasRoomForGoods_9 : decode cX1_hasRoomForGoods 9 = .ok (.iload_n 2, 1) := by decide +kernel
theorem dX1_hasRoomForGoods_10 : decode cX1_hasRoomForGoods 10 = .ok (.iadd, 1) := by decide +kernel
theorem dX1_hasRoomForGoods_11 : decode cX1_hasRoomForGoods 11 = .ok (.bipush 20, 2) := by decide +kernel
theorem dX1_hasRoomForGoods_13 : decode cX1_hasRoomForGoods 13 = .ok (.if_icmp .gt 7, 3) := by decide +kernel
theorem dX1_hasRoomForGoods_16 : decode cX1_hasRoomForGoods 16 = .ok (.iconst 1, 1) := by decide +kernel
theorem dX1_hasRoomForGoods_17 : decode cX1_hasRoomForGoods 17 = .ok (.goto 4, 3) := by decide +kernel
theorem dX1_hasRoomForGoods_20 : decode cX1_hasRoomForGoods 20 = .ok (.iconst 0, 1) := by decide +kernel
theorem dX1_hasRoomForGoods_21 : decode cX1_hasRoomForGoods 21 = .ok (.ireturn, 1) := by decide +kernel
theorem dX1_addGoods_0 : decode cX1_addGoods 0 = .ok (.aload_n 0, 1) := by decide +kernel
theorem dX1_addGoods_1 : decode cX1_addGoods 1 = .ok (.getfield 11, 3) := by decide +kernel
theorem dX1_addGoods_4 : decode cX1_addGoods 4 = .ok (.iload_n 1, 1) := by decide +kernel
theorem dX1_addGoods_5 : decode cX1_addGoods 5 = .ok (.aaload, 1) := by decide +kernel
theorem dX1_addGoods_6 : decode cX1_addGoods 6 = .ok (.dup, 1) := by decide +kernel
theorem dX1_addGoods_7 : decode cX1_addGoods 7 = .ok (.getfield 59, 3) := by decide +kernel
theorem dX1_addGoods_10 : decode cX1_addGoods 10 = .ok (.iload_n 2, 1) := by decide +kernel
theorem dX1_addGoods_11 : decode cX1_addGoods 11 = .ok (.iadd, 1) := by decide +kernel
theorem dX1_addGoods_12 : decode cX1_addGoods 12 = .ok (.putfield 59, 3) := by decide +kernel
theorem dX1_addGoods_15 : decode cX1_addGoods 15 = .ok (.aload_n 0, 1) := by decide +kernel
theorem dX1_addGoods_16 : decode cX1_addGoods 16 = .ok (.getfield 11, 3) := by decide +kernel
theorem dX1_addGoods_19 : decode cX1_addGoods 19 = .ok (.iload_n 1, 1) := by decide +kernel
theorem dX1_addGoods_20 : decode cX1_addGoods 20 = .ok (.aaload, 1) := by decide +kernel
theorem dX1_addGoods_21 : decode cX1_addGoods 21 = .ok (.getfield 59, 3) := by decide +kernel
theorem dX1_addGoods_24 : decode cX1_addGoods 24 = .ok (.ireturn, 1) := by decide +kernel
theorem dX1_lookAt_0 : decode cX1_lookAt 0 = .ok (.aload_n 0, 1) := by decide +kernel
theorem dX1_lookAt_1 : decode cX1_lookAt 1 = .ok (.getfield 11, 3) := by decide +kernel
theorem dX1_lookAt_4 : decode cX1_lookAt 4 = .ok (.iload_n 1, 1) := by decide +kernel
theorem dX1_lookAt_5 : decode cX1_lookAt 5 = .ok (.aaload, 1) := by decide +kernel
theorem dX1_lookAt_6 : decode cX1_lookAt 6 = .ok (.aload_n 0, 1) := by decide +kernel
theorem dX1_lookAt_7 : decode cX1_lookAt 7 = .ok (.getfield 11, 3) := by decide +kernel
theorem dX1_lookAt_10 : decode cX1_lookAt 10 = .ok (.iload_n 1, 1) := by decide +kernel
theorem dX1_lookAt_11 : decode cX1_lookAt 11 = .ok (.aaload, 1) := by decide +kernel
theorem dX1_lookAt_12 : decode cX1_lookAt 12 = .ok (.getfield 62, 3) := by decide +kernel
theorem dX1_lookAt_15 : decode cX1_lookAt 15 = .ok (.ldc 66, 2) := by decide +kernel
theorem dX1_lookAt_17 : decode cX1_lookAt 17 = .ok (.fadd, 1) := by decide +kernel
theorem dX1_lookAt_18 : decode cX1_lookAt 18 = .ok (.putfield 62, 3) := by decide +kernel
theorem dX1_lookAt_21 : decode cX1_lookAt 21 = .ok (.aload_n 0, 1) := by decide +kernel
theorem dX1_lookAt_22 : decode cX1_lookAt 22 = .ok (.getfield 11, 3) := by decide +kernel
theorem dX1_lookAt_25 : decode cX1_lookAt 25 = .ok (.iload_n 1, 1) := by decide +kernel
theorem dX1_lookAt_26 : decode cX1_lookAt 26 = .ok (.aaload, 1) := by decide +kernel
theorem dX1_lookAt_27 : decode cX1_lookAt 27 = .ok (.getfield 67, 3) := by decide +kernel
theorem dX1_lookAt_30 : decode cX1_lookAt 30 = .ok (.ireturn, 1) := by decide +kernel
theorem dX1_canSell_0 : decode cX1_canSell 0 = .ok (.aload_n 2, 1) := by decide +kernel
theorem dX1_canSell_1 : decode cX1_canSell 1 = .ok (.invokestatic 70, 3) := by decide +kernel
theorem dX1_canSell_4 : decode cX1_canSell 4 = .ok (.aload_n 0, 1) := by decide +kernel
theorem dX1_canSell_5 : decode cX1_canSell 5 = .ok (.getfield 11, 3) := by decide +kernel
theorem dX1_canSell_8 : decode cX1_canSell 8 = .ok (.iload_n 1, 1) := by decide +kernel
theorem dX1_canSell_9 : decode cX1_canSell 9 = .ok (.aaload, 1) := by decide +kernel
theorem dX1_canSell_10 : decode cX1_canSell 10 = .ok (.getfield 67, 3) := by decide +kernel
theorem dX1_canSell_13 : decode cX1_canSell 13 = .ok (.isub, 1) := by decide +kernel
theorem dX1_canSell_14 : decode cX1_canSell 14 = .ok (.istore_n 3, 1) := by decide +kernel
theorem dX1_canSell_15 : decode cX1_canSell 15 = .ok (.aload_n 0, 1) := by decide +kernel
theorem dX1_canSell_16 : decode cX1_canSell 16 = .ok (.getfield 11, 3) := by decide +kernel
theorem dX1_canSell_19 : decode cX1_canSell 19 = .ok (.iload_n 1, 1) := by decide +kernel
theorem dX1_canSell_20 : decode cX1_canSell 20 = .ok (.aaload, 1) := by decide +kernel
theorem dX1_canSell_21 : decode cX1_canSell 21 = .ok (.getfield 59, 3) := by decide +kernel
theorem dX1_canSell_24 : decode cX1_canSell 24 = .ok (.iconst 1, 1) := by decide +kernel
theorem dX1_canSell_25 : decode cX1_canSell 25 = .ok (.if_icmp .lt 7, 3) := by decide +kernel
theorem dX1_canSell_28 : decode cX1_canSell 28 = .ok (.iload_n 3, 1) := by decide +kernel
theorem dX1_canSell_29 : decode cX1_canSell 29 = .ok (.ifCond .ge 5, 3) := by decide +kernel
theorem dX1_canSell_32 : decode cX1_canSell 32 = .ok (.iconst 0, 1) := by decide +kernel
theorem dX1_canSell_33 : decode cX1_canSell 33 = .ok (.ireturn, 1) := by decide +kernel
theorem dX1_canSell_34 : decode cX1_canSell 34 = .ok (.aload_n 0, 1) := by decide +kernel
theorem dX1_canSell_35 : decode cX1_canSell 35 = .ok (.getfield 24, 3) := by decide +kernel
theorem dX1_canSell_38 : decode cX1_canSell 38 = .ok (.aload_n 2, 1) := by decide +kernel
theorem dX1_canSell_39 : decode cX1_canSell 39 = .ok (.iload_n 3, 1) := by decide +kernel
theorem dX1_canSell_40 : decode cX1_canSell 40 = .ok (.invokevirtual 74, 3) := by decide +kernel
theorem dX1_canSell_43 : decode cX1_canSell 43 = .ok (.ifCond .ne 21, 3) := by decide +kernel
theorem dX1_canSell_46 : decode cX1_canSell 46 = .ok (.aload_n 0, 1) := by decide +kernel
theorem dX1_canSell_47 : decode cX1_canSell 47 = .ok (.getfield 24, 3) := by decide +kernel
theorem dX1_canSell_50 : decode cX1_canSell 50 = .ok (.getfield 78, 3) := by decide +kernel
theorem dX1_canSell_53 : decode cX1_canSell 53 = .ok (.iload_n 3, 1) := by decide +kernel
theorem dX1_canSell_54 : decode cX1_canSell 54 = .ok (.iadd, 1) := by decide +kernel
theorem dX1_canSell_55 : decode cX1_canSell 55 = .ok (.aload_n 0, 1) := by decide +kernel
theorem dX1_canSell_56 : decode cX1_canSell 56 = .ok (.getfield 17, 3) := by decide +kernel
theorem dX1_canSell_59 : decode cX1_canSell 59 = .ok (.iconst 3, 1) := by decide +kernel
theorem dX1_canSell_60 : decode cX1_canSell 60 = .ok (.iaload, 1) := by decide +kernel
theorem dX1_canSell_61 : decode cX1_canSell 61 = .ok (.if_icmp .gt 7, 3) := by decide +kernel
theorem dX1_canSell_64 : decode cX1_canSell 64 = .ok (.iconst 1, 1) := by decide +kernel
theorem dX1_canSell_65 : decode cX1_canSell 65 = .ok (.goto 4, 3) := by decide +kernel
theorem dX1_canSell_68 : decode cX1_canSell 68 = .ok (.iconst 0, 1) := by decide +kernel
theorem dX1_canSell_69 : decode cX1_canSell 69 = .ok (.ireturn, 1) := by decide +kernel
theorem dX1_sell_0 : decode cX1_sell 0 = .ok (.aload_n 2, 1) := by decide +kernel
theorem dX1_sell_1 : decode cX1_sell 1 = .ok (.invokestatic 70, 3) := by decide +kernel
theorem dX1_sell_4 : decode cX1_sell 4 = .ok (.aload_n 0, 1) := by decide +kernel
theorem dX1_sell_5 : decode cX1_sell 5 = .ok (.getfield 11, 3) := by decide +kernel
theorem dX1_sell_8 : decode cX1_sell 8 = .ok (.iload_n 1, 1) := by decide +kernel
theorem dX1_sell_9 : decode cX1_sell 9 = .ok (.aaload, 1) := by decide +kernel
theorem dX1_sell_10 : decode cX1_sell 10 = .ok (.getfield 67, 3) := by decide +kernel
theorem dX1_sell_13 : decode cX1_sell 13 = .ok (.isub, 1) := by decide +kernel
theorem dX1_sell_14 : decode cX1_sell 14 = .ok (.istore_n 3, 1) := by decide +kernel
theorem dX1_sell_15 : decode cX1_sell 15 = .ok (.aload_n 0, 1) := by decide +kernel
theorem dX1_sell_16 : decode cX1_sell 16 = .ok (.getfield 11, 3) := by decide +kernel
theorem dX1_sell_19 : decode cX1_sell 19 = .ok (.iload_n 1, 1) := by decide +kernel
theorem dX1_sell_20 : decode cX1_sell 20 = .ok (.aaload, 1) := by decide +kernel
theorem dX1_sell_21 : decode cX1_sell 21 = .ok (.invokevirtual 81, 3) := by decide +kernel
theorem dX1_sell_24 : decode cX1_sell 24 = .ok (.aload_n 0, 1) := by decide +kernel
theorem dX1_sell_25 : decode cX1_sell 25 = .ok (.getfield 24, 3) := by decide +kernel
theorem dX1_sell_28 : decode cX1_sell 28 = .ok (.aload_n 2, 1) := by decide +kernel
theorem dX1_sell_29 : decode cX1_sell 29 = .ok (.invokevirtual 84, 3) := by decide +kernel
theorem dX1_sell_32 : decode cX1_sell 32 = .ok (.aload_n 0, 1) := by decide +kernel
theorem dX1_sell_33 : decode cX1_sell 33 = .ok (.getfield 24, 3) := by decide +kernel
theorem dX1_sell_36 : decode cX1_sell 36 = .ok (.iload_n 3, 1) := by decide +kernel
theorem dX1_sell_37 : decode cX1_sell 37 = .ok (.invokevirtual 88, 3) := by decide +kernel
theorem dX1_sell_40 : decode cX1_sell 40 = .ok (.istore 4, 2) := by decide +kernel
theorem dX1_sell_42 : decode cX1_sell 42 = .ok (.iload 4, 2) := by decide +kernel
theorem dX1_sell_44 : decode cX1_sell 44 = .ok (.ifCond .eq 13, 3) := by decide +kernel
theorem dX1_sell_47 : decode cX1_sell 47 = .ok (.aload_n 0, 1) := by decide +kernel
theorem dX1_sell_48 : decode cX1_sell 48 = .ok (.getfield 24, 3) := by decide +kernel
theorem dX1_sell_51 : decode cX1_sell 51 = .ok (.invokevirtual 92, 3) := by decide +kernel
theorem dX1_sell_54 : decode cX1_sell 54 = .ok (.goto 11, 3) := by decide +kernel
theorem dX1_sell_57 : decode cX1_sell 57 = .ok (.aload_n 0, 1) := by decide +kernel
theorem dX1_sell_58 : decode cX1_sell 58 = .ok (.getfield 24, 3) := by decide +kernel
theorem dX1_sell_61 : decode cX1_sell 61 = .ok (.iload_n 3, 1) := by decide +kernel
theorem dX1_sell_62 : decode cX1_sell 62 = .ok (.invokevirtual 95, 3) := by decide +kernel
theorem dX1_sell_65 : decode cX1_sell 65 = .ok (.aload_n 0, 1) := by decide +kernel
theorem dX1_sell_66 : decode cX1_sell 66 = .ok (.getfield 24, 3) := by decide +kernel
theorem dX1_sell_69 : decode cX1_sell 69 = .ok (.invokevirtual 99, 3) := by decide +kernel
theorem dX1_sell_72 : decode cX1_sell 72 = .ok (.iload 4, 2) := by decide +kernel
theorem dX1_sell_74 : decode cX1_sell 74 = .ok (.ifCond .eq 7, 3) := by decide +kernel
theorem dX1_sell_77 : decode cX1_sell 77 = .ok (.iload_n 3, 1) := by decide +kernel
theorem dX1_sell_78 : decode cX1_sell 78 = .ok (.goto 7, 3) := by decide +kernel
theorem dX1_sell_81 : decode cX1_sell 81 = .ok (.bipush (-10), 2) := by decide +kernel
theorem dX1_sell_83 : decode cX1_sell 83 = .ok (.iload_n 3, 1) := by decide +kernel
theorem dX1_sell_84 : decode cX1_sell 84 = .ok (.isub, 1) := by decide +kernel
theorem dX1_sell_85 : decode cX1_sell 85 = .ok (.ireturn, 1) := by decide +kernel
theorem dX1_hasTimeFor_0 : decode cX1_hasTimeFor 0 = .ok (.aload_n 0, 1) := by decide +kernel
theorem dX1_hasTimeFor_1 : decode cX1_hasTimeFor 1 = .ok (.getfield 32, 3) := by decide +kernel
theorem dX1_hasTimeFor_4 : decode cX1_hasTimeFor 4 = .ok (.iload_n 1, 1) := by decide +kernel
theorem dX1_hasTimeFor_5 : decode cX1_hasTimeFor 5 = .ok (.iadd, 1) := by decide +kernel
theorem dX1_hasTimeFor_6 : decode cX1_hasTimeFor 6 = .ok (.ldc 102, 2) := by decide +kernel
theorem dX1_hasTimeFor_8 : decode cX1_hasTimeFor 8 = .ok (.if_icmp .gt 7, 3) := by decide +kernel
theorem dX1_hasTimeFor_11 : decode cX1_hasTimeFor 11 = .ok (.iconst 1, 1) := by decide +kernel
theorem dX1_hasTimeFor_12 : decode cX1_hasTimeFor 12 = .ok (.goto 4, 3) := by decide +kernel
theorem dX1_hasTimeFor_15 : decode cX1_hasTimeFor 15 = .ok (.iconst 0, 1) := by decide +kernel
theorem dX1_hasTimeFor_16 : decode cX1_hasTimeFor 16 = .ok (.ireturn, 1) := by decide +kernel
theorem dX1_passHours_0 : decode cX1_passHours 0 = .ok (.aload_n 0, 1) := by decide +kernel
theorem dX1_passHours_1 : decode cX1_passHours 1 = .ok (.getfield 35, 3) := by decide +kernel
theorem dX1_passHours_4 : decode cX1_passHours 4 = .ok (.istore_n 2, 1) := by decide +kernel
theorem dX1_passHours_5 : decode cX1_passHours 5 = .ok (.iconst 0, 1) := by decide +kernel
theorem dX1_passHours_6 : decode cX1_passHours 6 = .ok (.istore_n 3, 1) := by decide +kernel
theorem dX1_passHours_7 : decode cX1_passHours 7 = .ok (.iload_n 3, 1) := by decide +kernel
theorem dX1_passHours_8 : decode cX1_passHours 8 = .ok (.iload_n 1, 1) := by decide +kernel
theorem dX1_passHours_9 : decode cX1_passHours 9 = .ok (.if_icmp .ge 13, 3) := by decide +kernel
theorem dX1_passHours_12 : decode cX1_passHours 12 = .ok (.aload_n 0, 1) := by decide +kernel
theorem dX1_passHours_13 : decode cX1_passHours 13 = .ok (.invokevirtual 103, 3) := by decide +kernel
theorem dX1_passHours_16 : decode cX1_passHours 16 = .ok (.iinc 3 1, 3) := by decide +kernel
theorem dX1_passHours_19 : decode cX1_passHours 19 = .ok (.goto (-12), 3) := by decide +kernel
theorem dX1_passHours_22 : decode cX1_passHours 22 = .ok (.aload_n 0, 1) := by decide +kernel
theorem dX1_passHours_23 : decode cX1_passHours 23 = .ok (.getfield 35, 3) := by decide +kernel
theorem dX1_passHours_26 : decode cX1_passHours 26 = .ok (.iload_n 2, 1) := by decide +kernel
theorem dX1_passHours_27 : decode cX1_passHours 27 = .ok (.isub, 1) := by decide +kernel
theorem dX1_passHours_28 : decode cX1_passHours 28 = .ok (.ireturn, 1) := by decide +kernel
theorem dX1_passHour_0 : decode cX1_passHour 0 = .ok (.iconst 0, 1) := by decide +kernel
theorem dX1_passHour_1 : decode cX1_passHour 1 = .ok (.istore_n 1, 1) := by decide +kernel
theorem dX1_passHour_2 : decode cX1_passHour 2 = .ok (.iload_n 1, 1) := by decide +kernel
theorem dX1_passHour_3 : decode cX1_passHour 3 = .ok (.aload_n 0, 1) := by decide +kernel
theorem dX1_passHour_4 : decode cX1_passHour 4 = .ok (.getfield 28, 3) := by decide +kernel
theorem dX1_passHour_7 : decode cX1_passHour 7 = .ok (.if_icmp .ge 30, 3) := by decide +kernel
theorem dX1_passHour_10 : decode cX1_passHour 10 = .ok (.aload_n 0, 1) := by decide +kernel
theorem dX1_passHour_11 : decode cX1_passHour 11 = .ok (.getfield 11, 3) := by decide +kernel
theorem dX1_passHour_14 : decode cX1_passHour 14 = .ok (.iload_n 1, 1) := by decide +kernel
theorem dX1_passHour_15 : decode cX1_passHour 15 = .ok (.aaload, 1) := by decide +kernel
theorem dX1_passHour_16 : decode cX1_passHour 16 = .ok (.aload_n 0, 1) := by decide +kernel
theorem dX1_passHour_17 : decode cX1_passHour 17 = .ok (.getfield 17, 3) := by decide +kernel
theorem dX1_passHour_20 : decode cX1_passHour 20 = .ok (.iconst 0, 1) := by decide +kernel
theorem dX1_passHour_21 : decode cX1_passHour 21 = .ok (.iaload, 1) := by decide +kernel
theorem dX1_passHour_22 : decode cX1_passHour 22 = .ok (.aload_n 0, 1) := by decide +kernel
theorem dX1_passHour_23 : decode cX1_passHour 23 = .ok (.getfield 17, 3) := by decide +kernel
theorem dX1_passHour_26 : decode cX1_passHour 26 = .ok (.iconst 1, 1) := by decide +kernel
theorem dX1_passHour_27 : decode cX1_passHour 27 = .ok (.iaload, 1) := by decide +kernel
theorem dX1_passHour_28 : decode cX1_passHour 28 = .ok (.invokevirtual 106, 3) := by decide +kernel
theorem dX1_passHour_31 : decode cX1_passHour 31 = .ok (.iinc 1 1, 3) := by decide +kernel
theorem dX1_passHour_34 : decode cX1_passHour 34 = .ok (.goto (-32), 3) := by decide +kernel
theorem dX1_passHour_37 : decode cX1_passHour 37 = .ok (.iconst 0, 1) := by decide +kernel
theorem dX1_passHour_38 : decode cX1_passHour 38 = .ok (.istore_n 1, 1) := by decide +kernel
theorem dX1_passHour_39 : decode cX1_passHour 39 = .ok (.iload_n 1, 1) := by decide +kernel
theorem dX1_passHour_40 : decode cX1_passHour 40 = .ok (.aload_n 0, 1) := by decide +kernel
theorem dX1_passHour_41 : decode cX1_passHour 41 = .ok (.getfield 28, 3) := by decide +kernel
theorem dX1_passHour_44 : decode cX1_passHour 44 = .ok (.if_icmp .ge 18, 3) := by decide +kernel
theorem dX1_passHour_47 : decode cX1_passHour 47 = .ok (.aload_n 0, 1) := by decide +kernel
theorem dX1_passHour_48 : decode cX1_passHour 48 = .ok (.getfield 11, 3) := by decide +kernel
theorem dX1_passHour_51 : decode cX1_passHour 51 = .ok (.iload_n 1, 1) := by decide +kernel
theorem dX1_passHour_52 : decode cX1_passHour 52 = .ok (.aaload, 1) := by decide +kernel
theorem dX1_passHour_53 : decode cX1_passHour 53 = .ok (.invokevirtual 110, 3) := by decide +kernel
theorem dX1_passHour_56 : decode cX1_passHour 56 = .ok (.iinc 1 1, 3) := by decide +kernel
theorem dX1_passHour_59 : decode cX1_passHour 59 = .ok (.goto (-20), 3) := by decide +kernel
theorem dX1_passHour_62 : decode cX1_passHour 62 = .ok (.iconst 0, 1) := by decide +kernel
theorem dX1_passHour_63 : decode cX1_passHour 63 = .ok (.istore_n 1, 1) := by decide +kernel
theorem dX1_passHour_64 : decode cX1_passHour 64 = .ok (.iload_n 1, 1) := by decide +kernel
theorem dX1_passHour_65 : decode cX1_passHour 65 = .ok (.iconst 1, 1) := by decide +kernel
theorem dX1_passHour_66 : decode cX1_passHour 66 = .ok (.iadd, 1) := by decide +kernel
theorem dX1_passHour_67 : decode cX1_passHour 67 = .ok (.aload_n 0, 1) := by decide +kernel
theorem dX1_passHour_68 : decode cX1_passHour 68 = .ok (.getfield 28, 3) := by decide +kernel
theorem dX1_passHour_71 : decode cX1_passHour 71 = .ok (.if_icmp .ge 27, 3) := by decide +kernel
theorem dX1_passHour_74 : decode cX1_passHour 74 = .ok (.aload_n 0, 1) := by decide +kernel
theorem dX1_passHour_75 : decode cX1_passHour 75 = .ok (.aload_n 0, 1) := by decide +kernel
theorem dX1_passHour_76 : decode cX1_passHour 76 = .ok (.getfield 11, 3) := by decide +kernel
theorem dX1_passHour_79 : decode cX1_passHour 79 = .ok (.iload_n 1, 1) := by decide +kernel
theorem dX1_passHour_80 : decode cX1_passHour 80 = .ok (.aaload, 1) := by decide +kernel
theorem dX1_passHour_81 : decode cX1_passHour 81 = .ok (.aload_n 0, 1) := by decide +kernel
theorem dX1_passHour_82 : decode cX1_passHour 82 = .ok (.getfield 11, 3) := by decide +kernel
theorem dX1_passHour_85 : decode cX1_passHour 85 = .ok (.iload_n 1, 1) := by decide +kernel
theorem dX1_passHour_86 : decode cX1_passHour 86 = .ok (.iconst 1, 1) := by decide +kernel
theorem dX1_passHour_87 : decode cX1_passHour 87 = .ok (.iadd, 1) := by decide +kernel
theorem dX1_passHour_88 : decode cX1_passHour 88 = .ok (.aaload, 1) := by decide +kernel
theorem dX1_passHour_89 : decode cX1_passHour 89 = .ok (.invokevirtual 113, 3) := by decide +kernel
theorem dX1_passHour_92 : decode cX1_passHour 92 = .ok (.iinc 1 1, 3) := by decide +kernel
theorem dX1_passHour_95 : decode cX1_passHour 95 = .ok (.goto (-31), 3) := by decide +kernel
theorem dX1_passHour_98 : decode cX1_passHour 98 = .ok (.iconst 0, 1) := by decide +kernel
theorem dX1_passHour_99 : decode cX1_passHour 99 = .ok (.istore_n 1, 1) := by decide +kernel
theorem dX1_passHour_100 : decode cX1_passHour 100 = .ok (.iload_n 1, 1) := by decide +kernel
theorem dX1_passHour_101 : decode cX1_passHour 101 = .ok (.aload_n 0, 1) := by decide +kernel
theorem dX1_passHour_102 : decode cX1_passHour 102 = .ok (.getfield 28, 3) := by decide +kernel
theorem dX1_passHour_105 : decode cX1_passHour 105 = .ok (.if_icmp .ge 24, 3) := by decide +kernel
theorem dX1_passHour_108 : decode cX1_passHour 108 = .ok (.aload_n 0, 1) := by decide +kernel
theorem dX1_passHour_109 : decode cX1_passHour 109 = .ok (.getfield 11, 3) := by decide +kernel
theorem dX1_passHour_112 : decode cX1_passHour 112 = .ok (.iload_n 1, 1) := by decide +kernel
theorem dX1_passHour_113 : decode cX1_passHour 113 = .ok (.aaload, 1) := by decide +kernel
theorem dX1_passHour_114 : decode cX1_passHour 114 = .ok (.aload_n 0, 1) := by decide +kernel
theorem dX1_passHour_115 : decode cX1_passHour 115 = .ok (.getfield 17, 3) := by decide +kernel
theorem dX1_passHour_118 : decode cX1_passHour 118 = .ok (.iconst 2, 1) := by decide +kernel
theorem dX1_passHour_119 : decode cX1_passHour 119 = .ok (.iaload, 1) := by decide +kernel
theorem dX1_passHour_120 : decode cX1_passHour 120 = .ok (.invokevirtual 117, 3) := by decide +kernel
theorem dX1_passHour_123 : decode cX1_passHour 123 = .ok (.iinc 1 1, 3) := by decide +kernel
theorem dX1_passHour_126 : decode cX1_passHour 126 = .ok (.goto (-26), 3) := by decide +kernel
theorem dX1_passHour_129 : decode cX1_passHour 129 = .ok (.aload_n 0, 1) := by decide +kernel
theorem dX1_passHour_130 : decode cX1_passHour 130 = .ok (.dup, 1) := by decide +kernel
theorem dX1_passHour_131 : decode cX1_passHour 131 = .ok (.getfield 32, 3) := by decide +kernel
theorem dX1_passHour_134 : decode cX1_passHour 134 = .ok (.iconst 1, 1) := by decide +kernel
theorem dX1_passHour_135 : decode cX1_passHour 135 = .ok (.iadd, 1) := by decide +kernel
theorem dX1_passHour_136 : decode cX1_passHour 136 = .ok (.putfield 32, 3) := by decide +kernel
theorem dX1_passHour_139 : decode cX1_passHour 139 = .ok (.return_, 1) := by decide +kernel
theorem dX1_watch_0 : decode cX1_watch 0 = .ok (.aload_n 1, 1) := by decide +kernel
theorem dX1_watch_1 : decode cX1_watch 1 = .ok (.getfield 120, 3) := by decide +kernel
theorem dX1_watch_4 : decode cX1_watch 4 = .ok (.aload_n 2, 1) := by decide +kernel
theorem dX1_watch_5 : decode cX1_watch 5 = .ok (.getfield 120, 3) := by decide +kernel
theorem dX1_watch_8 : decode cX1_watch 8 = .ok (.if_icmp .eq 4, 3) := by decide +kernel
theorem dX1_watch_11 : decode cX1_watch 11 = .ok (.return_, 1) := by decide +kernel
theorem dX1_watch_12 : decode cX1_watch 12 = .ok (.aload_n 1, 1) := by decide +kernel
theorem dX1_watch_13 : decode cX1_watch 13 = .ok (.aload_n 1, 1) := by decide +kernel
theorem dX1_watch_14 : decode cX1_watch 14 = .ok (.getfield 123, 3) := by decide +kernel
theorem dX1_watch_17 : decode cX1_watch 17 = .ok (.ifCond .eq 19, 3) := by decide +kernel
theorem dX1_watch_20 : decode cX1_watch 20 = .ok (.aload_n 2, 1) := by decide +kernel
theorem dX1_watch_21 : decode cX1_watch 21 = .ok (.getfield 123, 3) := by decide +kernel
theorem dX1_watch_24 : decode cX1_watch 24 = .ok (.ifCond .eq 12, 3) := by decide +kernel
theorem dX1_watch_27 : decode cX1_watch 27 = .ok (.aload_n 1, 1) := by decide +kernel
theorem dX1_watch_28 : decode cX1_watch 28 = .ok (.getfield 127, 3) := by decide +kernel
theorem dX1_watch_31 : decode cX1_watch 31 = .ok (.iconst 1, 1) := by decide +kernel
theorem dX1_watch_32 : decode cX1_watch 32 = .ok (.iadd, 1) := by decide +kernel
theorem dX1_watch_33 : decode cX1_watch 33 = .ok (.goto 4, 3) := by decide +kernel
theorem dX1_watch_36 : decode cX1_watch 36 = .ok (.iconst 0, 1) := by decide +kernel
theorem dX1_watch_37 : decode cX1_watch 37 = .ok (.putfield 127, 3) := by decide +kernel
theorem dX1_watch_40 : decode cX1_watch 40 = .ok (.aload_n 1, 1) := by decide +kernel
theorem dX1_watch_41 : decode cX1_watch 41 = .ok (.getfield 127, 3) := by decide +kernel
theorem dX1_watch_44 : decode cX1_watch 44 = .ok (.iconst 2, 1) := by decide +kernel
theorem dX1_watch_45 : decode cX1_watch 45 = .ok (.if_icmp .ne 38, 3) := by decide +kernel
theorem dX1_watch_48 : decode cX1_watch 48 = .ok (.aload_n 1, 1) := by decide +kernel
theorem dX1_watch_49 : decode cX1_watch 49 = .ok (.aload_n 0, 1) := by decide +kernel
theorem dX1_watch_50 : decode cX1_watch 50 = .ok (.getfield 17, 3) := by decide +kernel
theorem dX1_watch_53 : decode cX1_watch 53 = .ok (.iconst 4, 1) := by decide +kernel
theorem dX1_watch_54 : decode cX1_watch 54 = .ok (.iaload, 1) := by decide +kernel
theorem dX1_watch_55 : decode cX1_watch 55 = .ok (.invokevirtual 130, 3) := by decide +kernel
theorem dX1_watch_58 : decode cX1_watch 58 = .ok (.aload_n 2, 1) := by decide +kernel
theorem dX1_watch_59 : decode cX1_watch 59 = .ok (.aload_n 0, 1) := by decide +kernel
theorem dX1_watch_60 : decode cX1_watch 60 = .ok (.getfield 17, 3) := by decide +kernel
theorem dX1_watch_63 : decode cX1_watch 63 = .ok (.iconst 4, 1) := by decide +kernel
theorem dX1_watch_64 : decode cX1_watch 64 = .ok (.iaload, 1) := by decide +kernel
theorem dX1_watch_65 : decode cX1_watch 65 = .ok (.invokevirtual 130, 3) := by decide +kernel
theorem dX1_watch_68 : decode cX1_watch 68 = .ok (.aload_n 1, 1) := by decide +kernel
theorem dX1_watch_69 : decode cX1_watch 69 = .ok (.iconst 0, 1) := by decide +kernel
theorem dX1_watch_70 : decode cX1_watch 70 = .ok (.putfield 127, 3) := by decide +kernel
theorem dX1_watch_73 : decode cX1_watch 73 = .ok (.aload_n 0, 1) := by decide +kernel
theorem dX1_watch_74 : decode cX1_watch 74 = .ok (.dup, 1) := by decide +kernel
theorem dX1_watch_75 : decode cX1_watch 75 = .ok (.getfield 35, 3) := by decide +kernel
theorem dX1_watch_78 : decode cX1_watch 78 = .ok (.iconst 1, 1) := by decide +kernel
theorem dX1_watch_79 : decode cX1_watch 79 = .ok (.iadd, 1) := by decide +kernel
theorem dX1_watch_80 : decode cX1_watch 80 = .ok (.putfield 35, 3) := by decide +kernel
theorem dX1_watch_83 : decode cX1_watch 83 = .ok (.return_, 1) := by decide +kernel
theorem dX1_number_0 : decode cX1_number 0 = .ok (.iload_n 1, 1) := by decide +kernel
theorem dX1_number_1 : decode cX1_number 1 = .ok (.tableswitch 127 0 9 #[55, 60, 65, 76, 84, 92, 100, 108, 115, 122], 55) := by decide +kernel
theorem dX1_number_56 : decode cX1_number 56 = .ok (.aload_n 0, 1) := by decide +kernel
theorem dX1_number_57 : decode cX1_number 57 = .ok (.getfield 28, 3) := by decide +kernel
theorem dX1_number_60 : decode cX1_number 60 = .ok (.ireturn, 1) := by decide +kernel
theorem dX1_number_61 : decode cX1_number 61 = .ok (.aload_n 0, 1) := by decide +kernel
theorem dX1_number_62 : decode cX1_number 62 = .ok (.getfield 32, 3) := by decide +kernel
theorem dX1_number_65 : decode cX1_number 65 = .ok (.ireturn, 1) := by decide +kernel
theorem dX1_number_66 : decode cX1_number 66 = .ok (.aload_n 0, 1) := by decide +kernel
theorem dX1_number_67 : decode cX1_number 67 = .ok (.getfield 24, 3) := by decide +kernel
theorem dX1_number_70 : decode cX1_number 70 = .ok (.getfield 133, 3) := by decide +kernel
theorem dX1_number_73 : decode cX1_number 73 = .ok (.invokestatic 70, 3) := by decide +kernel
theorem dX1_number_76 : decode cX1_number 76 = .ok (.ireturn, 1) := by decide +kernel
theorem dX1_number_77 : decode cX1_number 77 = .ok (.aload_n 0, 1) := by decide +kernel
theorem dX1_number_78 : decode cX1_number 78 = .ok (.getfield 24, 3) := by decide +kernel
theorem dX1_number_81 : decode cX1_number 81 = .ok (.getfield 136, 3) := by decide +kernel
theorem dX1_number_84 : decode cX1_number 84 = .ok (.ireturn, 1) := by decide +kernel
theorem dX1_number_85 : decode cX1_number 85 = .ok (.aload_n 0, 1) := by decide +kernel
theorem dX1_number_86 : decode cX1_number 86 = .ok (.getfield 24, 3) := by decide +kernel
theorem dX1_number_89 : decode cX1_number 89 = .ok (.getfield 139, 3) := by decide +kernel
theorem dX1_number_92 : decode cX1_number 92 = .ok (.ireturn, 1) := by decide +kernel
theorem dX1_number_93 : decode cX1_number 93 = .ok (.aload_n 0, 1) := by decide +kernel
theorem dX1_number_94 : decode cX1_number 94 = .ok (.getfield 24, 3) := by decide +kernel
theorem dX1_number_97 : decode cX1_number 97 = .ok (.getfield 78, 3) := by decide +kernel
theorem dX1_number_100 : decode cX1_number 100 = .ok (.ireturn, 1) := by decide +kernel
theorem dX1_number_101 : decode cX1_number 101 = .ok (.aload_n 0, 1) := by decide +kernel
theorem dX1_number_102 : decode cX1_number 102 = .ok (.getfield 24, 3) := by decide +kernel
theorem dX1_number_105 : decode cX1_number 105 = .ok (.getfield 142, 3) := by decide +kernel
theorem dX1_number_108 : decode cX1_number 108 = .ok (.ireturn, 1) := by decide +kernel
theorem dX1_number_109 : decode cX1_number 109 = .ok (.aload_n 0, 1) := by decide +kernel
theorem dX1_number_110 : decode cX1_number 110 = .ok (.bipush 6, 2) := by decide +kernel
theorem dX1_number_112 : decode cX1_number 112 = .ok (.invokevirtual 145, 3) := by decide +kernel
theorem dX1_number_115 : decode cX1_number 115 = .ok (.ireturn, 1) := by decide +kernel
theorem dX1_number_116 : decode cX1_number 116 = .ok (.aload_n 0, 1) := by decide +kernel
theorem dX1_number_117 : decode cX1_number 117 = .ok (.bipush 7, 2) := by decide +kernel
theorem dX1_number_119 : decode cX1_number 119 = .ok (.invokevirtual 145, 3) := by decide +kernel
theorem dX1_number_122 : decode cX1_number 122 = .ok (.ireturn, 1) := by decide +kernel
theorem dX1_number_123 : decode cX1_number 123 = .ok (.aload_n 0, 1) := by decide +kernel
theorem dX1_number_124 : decode cX1_number 124 = .ok (.getfield 35, 3) := by decide +kernel
theorem dX1_number_127 : decode cX1_number 127 = .ok (.ireturn, 1) := by decide +kernel
theorem dX1_number_128 : decode cX1_number 128 = .ok (.aload_n 0, 1) := by decide +kernel
theorem dX1_number_129 : decode cX1_number 129 = .ok (.iconst 1, 1) := by decide +kernel
theorem dX1_number_130 : decode cX1_number 130 = .ok (.invokevirtual 145, 3) := by decide +kernel
theorem dX1_number_133 : decode cX1_number 133 = .ok (.ireturn, 1) := by decide +kernel
theorem dX1_sumOfFacts_0 : decode cX1_sumOfFacts 0 = .ok (.iconst 0, 1) := by decide +kernel
theorem dX1_sumOfFacts_1 : decode cX1_sumOfFacts 1 = .ok (.istore_n 2, 1) := by decide +kernel
theorem dX1_sumOfFacts_2 : decode cX1_sumOfFacts 2 = .ok (.iconst 0, 1) := by decide +kernel
theorem dX1_sumOfFacts_3 : decode cX1_sumOfFacts 3 = .ok (.istore_n 3, 1) := by decide +kernel
theorem dX1_sumOfFacts_4 : decode cX1_sumOfFacts 4 = .ok (.iload_n 3, 1) := by decide +kernel
theorem dX1_sumOfFacts_5 : decode cX1_sumOfFacts 5 = .ok (.aload_n 0, 1) := by decide +kernel
theorem dX1_sumOfFacts_6 : decode cX1_sumOfFacts 6 = .ok (.getfield 28, 3) := by decide +kernel
theorem dX1_sumOfFacts_9 : decode cX1_sumOfFacts 9 = .ok (.if_icmp .ge 22, 3) := by decide +kernel
theorem dX1_sumOfFacts_12 : decode cX1_sumOfFacts 12 = .ok (.iload_n 2, 1) := by decide +kernel
theorem dX1_sumOfFacts_13 : decode cX1_sumOfFacts 13 = .ok (.aload_n 0, 1) := by decide +kernel
theorem dX1_sumOfFacts_14 : decode cX1_sumOfFacts 14 = .ok (.getfield 11, 3) := by decide +kernel
theorem dX1_sumOfFacts_17 : decode cX1_sumOfFacts 17 = .ok (.iload_n 3, 1) := by decide +kernel
theorem dX1_sumOfFacts_18 : decode cX1_sumOfFacts 18 = .ok (.aaload, 1) := by decide +kernel
theorem dX1_sumOfFacts_19 : decode cX1_sumOfFacts 19 = .ok (.iload_n 1, 1) := by decide +kernel
theorem dX1_sumOfFacts_20 : decode cX1_sumOfFacts 20 = .ok (.invokevirtual 149, 3) := by decide +kernel
theorem dX1_sumOfFacts_23 : decode cX1_sumOfFacts 23 = .ok (.iadd, 1) := by decide +kernel
theorem dX1_sumOfFacts_24 : decode cX1_sumOfFacts 24 = .ok (.istore_n 2, 1) := by decide +kernel
theorem dX1_sumOfFacts_25 : decode cX1_sumOfFacts 25 = .ok (.iinc 3 1, 3) := by decide +kernel
theorem dX1_sumOfFacts_28 : decode cX1_sumOfFacts 28 = .ok (.goto (-24), 3) := by decide +kernel
theorem dX1_sumOfFacts_31 : decode cX1_sumOfFacts 31 = .ok (.iload_n 2, 1) := by decide +kernel
theorem dX1_sumOfFacts_32 : decode cX1_sumOfFacts 32 = .ok (.ireturn, 1) := by decide +kernel
theorem dX5_init_0 : decode cX5_init 0 = .ok (.aload_n 0, 1) := by decide +kernel
theorem dX5_init_1 : decode cX5_init 1 = .ok (.invokespecial 1, 3) := by decide +kernel
theorem dX5_init_4 : decode cX5_init 4 = .ok (.aload_n 0, 1) := by decide +kernel
theorem dX5_init_5 : decode cX5_init 5 = .ok (.new 7, 3) := by decide +kernel
theorem dX5_init_8 : decode cX5_init 8 = .ok (.dup, 1) := by decide +kernel
theorem dX5_init_9 : decode cX5_init 9 = .ok (.invokespecial 9, 3) := by decide +kernel
theorem dX5_init_12 : decode cX5_init 12 = .ok (.putfield 10, 3) := by decide +kernel
theorem dX5_init_15 : decode cX5_init 15 = .ok (.aload_n 0, 1) := by decide +kernel
theorem dX5_init_16 : decode cX5_init 16 = .ok (.new 7, 3) := by decide +kernel
theorem dX5_init_19 : decode cX5_init 19 = .ok (.dup, 1) := by decide +kernel
theorem dX5_init_20 : decode cX5_init 20 = .ok (.invokespecial 9, 3) := by decide +kernel
theorem dX5_init_23 : decode cX5_init 23 = .ok (.putfield 16, 3) := by decide +kernel
theorem dX5_init_26 : decode cX5_init 26 = .ok (.aload_n 0, 1) := by decide +kernel
theorem dX5_init_27 : decode cX5_init 27 = .ok (.iconst 4, 1) := by decide +kernel
theorem dX5_init_28 : decode cX5_init 28 = .ok (.anewarray 7, 3) := by decide +kernel
theorem dX5_init_31 : decode cX5_init 31 = .ok (.putfield 19, 3) := by decide +kernel
theorem dX5_init_34 : decode cX5_init 34 = .ok (.aload_n 0, 1) := by decide +kernel
theorem dX5_init_35 : decode cX5_init 35 = .ok (.iconst 0, 1) := by decide +kernel
theorem dX5_init_36 : decode cX5_init 36 = .ok (.putfield 23, 3) := by decide +kernel
theorem dX5_init_39 : decode cX5_init 39 = .ok (.aload_n 0, 1) := by decide +kernel
theorem dX5_init_40 : decode cX5_init 40 = .ok (.new 27, 3) := by decide +kernel
theorem dX5_init_43 : decode cX5_init 43 = .ok (.dup, 1) := by decide +kernel
theorem dX5_init_44 : decode cX5_init 44 = .ok (.invokespecial 29, 3) := by decide +kernel
theorem dX5_init_47 : decode cX5_init 47 = .ok (.putfield 30, 3) := by decide +kernel
theorem dX5_init_50 : decode cX5_init 50 = .ok (.aload_n 0, 1) := by decide +kernel
theorem dX5_init_51 : decode cX5_init 51 = .ok (.iconst 4, 1) := by decide +kernel
theorem dX5_init_52 : decode cX5_init 52 = .ok (.newarray .int, 2) := by decide +kernel
theorem dX5_init_54 : decode cX5_init 54 = .ok (.putfield 34, 3) := by decide +kernel
theorem dX5_init_57 : decode cX5_init 57 = .ok (.iconst 0, 1) := by decide +kernel
theorem dX5_init_58 : decode cX5_init 58 = .ok (.istore_n 1, 1) := by decide +kernel
theorem dX5_init_59 : decode cX5_init 59 = .ok (.iload_n 1, 1) := by decide +kernel
theorem dX5_init_60 : decode cX5_init 60 = .ok (.iconst 4, 1) := by decide +kernel
theorem dX5_init_61 : decode cX5_init 61 = .ok (.if_icmp .ge 22, 3) := by decide +kernel
theorem dX5_init_64 : decode cX5_init 64 = .ok (.aload_n 0, 1) := by decide +kernel
theorem dX5_init_65 : decode cX5_init 65 = .ok (.getfield 19, 3) := by decide +kernel
theorem dX5_init_68 : decode cX5_init 68 = .ok (.iload_n 1, 1) := by decide +kernel
theorem dX5_init_69 : decode cX5_init 69 = .ok (.new 7, 3) := by decide +kernel
theorem dX5_init_72 : decode cX5_init 72 = .ok (.dup, 1) := by decide +kernel
theorem dX5_init_73 : decode cX5_init 73 = .ok (.invokespecial 9, 3) := by decide +kernel
theorem dX5_init_76 : decode cX5_init 76 = .ok (.aastore, 1) := by decide +kernel
theorem dX5_init_77 : decode cX5_init 77 = .ok (.iinc 1 1, 3) := by decide +kernel
theorem dX5_init_80 : decode cX5_init 80 = .ok (.goto (-21), 3) := by decide +kernel
theorem dX5_init_83 : decode cX5_init 83 = .ok (.return_, 1) := by decide +kernel
theorem dX5_set_0 : decode cX5_set 0 = .ok (.iload_n 1, 1) := by decide +kernel
theorem dX5_set_1 : decode cX5_set 1 = .ok (.iconst 0, 1) := by decide +kernel
theorem dX5_set_2 : decode cX5_set 2 = .ok (.iconst 4, 1) := by decide +kernel
theorem dX5_set_3 : decode cX5_set 3 = .ok (.invokestatic 38, 3) := by decide +kernel
theorem dX5_set_6 : decode cX5_set 6 = .ok (.ifCond .ne 13, 3) := by decide +kernel
theorem dX5_set_9 : decode cX5_set 9 = .ok (.new 42, 3) := by decide +kernel
theorem dX5_set_12 : decode cX5_set 12 = .ok (.dup, 1) := by decide +kernel
theorem dX5_set_13 : decode cX5_set 13 = .ok (.ldc 44, 2) := by decide +kernel
theorem dX5_set_15 : decode cX5_set 15 = .ok (.invokespecial 46, 3) := by decide +kernel
theorem dX5_set_18 : decode cX5_set 18 = .ok (.athrow, 1) := by decide +kernel
theorem dX5_set_19 : decode cX5_set 19 = .ok (.iload_n 2, 1) := by decide +kernel
theorem dX5_set_20 : decode cX5_set 20 = .ok (.getstatic 49, 3) := by decide +kernel
theorem dX5_set_23 : decode cX5_set 23 = .ok (.iload_n 1, 1) := by decide +kernel
theorem dX5_set_24 : decode cX5_set 24 = .ok (.iaload, 1) := by decide +kernel
theorem dX5_set_25 : decode cX5_set 25 = .ok (.getstatic 52, 3) := by decide +kernel
theorem dX5_set_28 : decode cX5_set 28 = .ok (.iload_n 1, 1) := by decide +kernel
theorem dX5_set_29 : decode cX5_set 29 = .ok (.iaload, 1) := by decide +kernel
theorem dX5_set_30 : decode cX5_set 30 = .ok (.getstatic 55, 3) := by decide +kernel
theorem dX5_set_33 : decode cX5_set 33 = .ok (.iload_n 1, 1) := by decide +kernel
theorem dX5_set_34 : decode cX5_set 34 = .ok (.iaload, 1) := by decide +kernel
theorem dX5_set_35 : decode cX5_set 35 = .ok (.invokestatic 58, 3) := by decide +kernel
theorem dX5_set_38 : decode cX5_set 38 = .ok (.ifCond .ne 13, 3) := by decide +kernel
theorem dX5_set_41 : decode cX5_set 41 = .ok (.new 42, 3) := by decide +kernel
theorem dX5_set_44 : decode cX5_set 44 = .ok (.dup, 1) := by decide +kernel
theorem dX5_set_45 : decode cX5_set 45 = .ok (.ldc 62, 2) := by decide +kernel
theorem dX5_set_47 : decode cX5_set 47 = .ok (.invokespecial 46, 3) := by decide +kernel
theorem dX5_set_50 : decode cX5_set 50 = .ok (.athrow, 1) := by decide +kernel
theorem dX5_set_51 : decode cX5_set 51 = .ok (.aload_n 0, 1) := by decide +kernel
theorem dX5_set_52 : decode cX5_set 52 = .ok (.invokevirtual 64, 3) := by decide +kernel
theorem dX5_set_55 : decode cX5_set 55 = .ok (.aload_n 0, 1) := by decide +kernel
theorem dX5_set_56 : decode cX5_set 56 = .ok (.getfield 10, 3) := by decide +kernel
theorem dX5_set_59 : decode cX5_set 59 = .ok (.iload_n 1, 1) := by decide +kernel
theorem dX5_set_60 : decode cX5_set 60 = .ok (.iload_n 2, 1) := by decide +kernel
theorem dX5_set_61 : decode cX5_set 61 = .ok (.invokevirtual 67, 3) := by decide +kernel
theorem dX5_set_64 : decode cX5_set 64 = .ok (.ireturn, 1) := by decide +kernel
theorem dX5_addCoil_0 : decode cX5_addCoil 0 = .ok (.iload_n 1, 1) := by decide +kernel
theorem dX5_addCoil_1 : decode cX5_addCoil 1 = .ok (.iconst 0, 1) := by decide +kernel
theorem dX5_addCoil_2 : decode cX5_addCoil 2 = .ok (.iconst 5, 1) := by decide +kernel
theorem dX5_addCoil_3 : decode cX5_addCoil 3 = .ok (.invokestatic 38, 3) := by decide +kernel
theorem dX5_addCoil_6 : decode cX5_addCoil 6 = .ok (.ifCond .ne 13, 3) := by decide +kernel
theorem dX5_addCoil_9 : decode cX5_addCoil 9 = .ok (.new 42, 3) := by decide +kernel
theorem dX5_addCoil_12 : decode cX5_addCoil 12 = .ok (.dup, 1) := by decide +kernel
theorem dX5_addCoil_13 : decode cX5_addCoil 13 = .ok (.ldc 71, 2) := by decide +kernel
theorem dX5_addCoil_15 : decode cX5_addCoil 15 = .ok (.invokespecial 46, 3) := by decide +kernel
theorem dX5_addCoil_18 : decode cX5_addCoil 18 = .ok (.athrow, 1) := by decide +kernel
theorem dX5_addCoil_19 : decode cX5_addCoil 19 = .ok (.iload_n 2, 1) := by decide +kernel
theorem dX5_addCoil_20 : decode cX5_addCoil 20 = .ok (.iconst 5, 1) := by decide +kernel
theorem dX5_addCoil_21 : decode cX5_addCoil 21 = .ok (.iconst 5, 1) := by decide +kernel
theorem dX5_addCoil_22 : decode cX5_addCoil 22 = .ok (.sipush 500, 3) := by decide +kernel
theorem dX5_addCoil_25 : decode cX5_addCoil 25 = .ok (.invokestatic 58, 3) := by decide +kernel
theorem dX5_addCoil_28 : decode cX5_addCoil 28 = .ok (.ifCond .ne 13, 3) := by decide +kernel
theorem dX5_addCoil_31 : decode cX5_addCoil 31 = .ok (.new 42, 3) := by decide +kernel
theorem dX5_addCoil_34 : decode cX5_addCoil 34 = .ok (.dup, 1) := by decide +kernel
theorem dX5_addCoil_35 : decode cX5_addCoil 35 = .ok (.ldc 73, 2) := by decide +kernel
theorem dX5_addCoil_37 : decode cX5_addCoil 37 = .ok (.invokespecial 46, 3) := by decide +kernel
theorem dX5_addCoil_40 : decode cX5_addCoil 40 = .ok (.athrow, 1) := by decide +kernel
theorem dX5_addCoil_41 : decode cX5_addCoil 41 = .ok (.iload_n 3, 1) := by decide +kernel
theorem dX5_addCoil_42 : decode cX5_addCoil 42 = .ok (.iconst 5, 1) := by decide +kernel
theorem dX5_addCoil_43 : decode cX5_addCoil 43 = .ok (.iload_n 2, 1) := by decide +kernel
theorem dX5_addCoil_44 : decode cX5_addCoil 44 = .ok (.sipush 500, 3) := by decide +kernel
theorem dX5_addCoil_47 : decode cX5_addCoil 47 = .ok (.invokestatic 58, 3) := by decide +kernel
theorem dX5_addCoil_50 : decode cX5_addCoil 50 = .ok (.ifCond .ne 13, 3) := by decide +kernel
theorem dX5_addCoil_53 : decode cX5_addCoil 53 = .ok (.new 42, 3) := by decide +kernel
theorem dX5_addCoil_56 : decode cX5_addCoil 56 = .ok (.dup, 1) := by decide +kernel
theorem dX5_addCoil_57 : decode cX5_addCoil 57 = .ok (.ldc 75, 2) := by decide +kernel
theorem dX5_addCoil_59 : decode cX5_addCoil 59 = .ok (.invokespecial 46, 3) := by decide +kernel
theorem dX5_addCoil_62 : decode cX5_addCoil 62 = .ok (.athrow, 1) := by decide +kernel
theorem dX5_addCoil_63 : decode cX5_addCoil 63 = .ok (.aload_n 0, 1) := by decide +kernel
theorem dX5_addCoil_64 : decode cX5_addCoil 64 = .ok (.getfield 10, 3) := by decide +kernel
theorem dX5_addCoil_67 : decode cX5_addCoil 67 = .ok (.invokevirtual 77, 3) := by decide +kernel
theorem dX5_addCoil_70 : decode cX5_addCoil 70 = .ok (.ifCond .ne 13, 3) := by decide +kernel
theorem dX5_addCoil_73 : decode cX5_addCoil 73 = .ok (.new 81, 3) := by decide +kernel
theorem dX5_addCoil_76 : decode cX5_addCoil 76 = .ok (.dup, 1) := by decide +kernel
theorem dX5_addCoil_77 : decode cX5_addCoil 77 = .ok (.ldc 83, 2) := by decide +kernel
theorem dX5_addCoil_79 : decode cX5_addCoil 79 = .ok (.invokespecial 85, 3) := by decide +kernel
theorem dX5_addCoil_82 : decode cX5_addCoil 82 = .ok (.athrow, 1) := by decide +kernel
theorem dX5_addCoil_83 : decode cX5_addCoil 83 = .ok (.aload_n 0, 1) := by decide +kernel
theorem dX5_addCoil_84 : decode cX5_addCoil 84 = .ok (.invokevirtual 64, 3) := by decide +kernel
theorem dX5_addCoil_87 : decode cX5_addCoil 87 = .ok (.aload_n 0, 1) := by decide +kernel
theorem dX5_addCoil_88 : decode cX5_addCoil 88 = .ok (.getfield 10, 3) := by decide +kernel
theorem dX5_addCoil_91 : decode cX5_addCoil 91 = .ok (.iload_n 1, 1) := by decide +kernel
theorem dX5_addCoil_92 : decode cX5_addCoil 92 = .ok (.iload_n 2, 1) := by decide +kernel
theorem dX5_addCoil_93 : decode cX5_addCoil 93 = .ok (.iload_n 3, 1) := by decide +kernel
theorem dX5_addCoil_94 : decode cX5_addCoil 94 = .ok (.invokevirtual 86, 3) := by decide +kernel
theorem dX5_addCoil_97 : decode cX5_addCoil 97 = .ok (.ireturn, 1) := by decide +kernel
theorem dX5_stock_0 : decode cX5_stock 0 = .ok (.aload_n 0, 1) := by decide +kernel
theorem dX5_stock_1 : decode cX5_stock 1 = .ok (.getfield 10, 3) := by decide +kernel
theorem dX5_stock_4 : decode cX5_stock 4 = .ok (.iload_n 1, 1) := by decide +kernel
theorem dX5_stock_5 : decode cX5_stock 5 = .ok (.invokevirtual 90, 3) := by decide +kernel
theorem dX5_stock_8 : decode cX5_stock 8 = .ok (.ifCond .ne 13, 3) := by decide +kernel
theorem dX5_stock_11 : decode cX5_stock 11 = .ok (.new 94, 3) := by decide +kernel
theorem dX5_stock_14 : decode cX5_stock 14 = .ok (.dup, 1) := by decide +kernel
theorem dX5_stock_15 : decode cX5_stock 15 = .ok (.ldc 96, 2) := by decide +kernel
theorem dX5_stock_17 : decode cX5_stock 17 = .ok (.invokespecial 98, 3) := by decide +kernel
theorem dX5_stock_20 : decode cX5_stock 20 = .ok (.athrow, 1) := by decide +kernel
theorem dX5_stock_21 : decode cX5_stock 21 = .ok (.iload_n 2, 1) := by decide +kernel
theorem dX5_stock_22 : decode cX5_stock 22 = .ok (.iconst 1, 1) := by decide +kernel
theorem dX5_stock_23 : decode cX5_stock 23 = .ok (.bipush 20, 2) := by decide +kernel
theorem dX5_stock_25 : decode cX5_stock 25 = .ok (.invokestatic 38, 3) := by decide +kernel
theorem dX5_stock_28 : decode cX5_stock 28 = .ok (.ifCond .ne 13, 3) := by decide +kernel
theorem dX5_stock_31 : decode cX5_stock 31 = .ok (.new 42, 3) := by decide +kernel
theorem dX5_stock_34 : decode cX5_stock 34 = .ok (.dup, 1) := by decide +kernel
theorem dX5_stock_35 : decode cX5_stock 35 = .ok (.ldc 99, 2) := by decide +kernel
theorem dX5_stock_37 : decode cX5_stock 37 = .ok (.invokespecial 46, 3) := by decide +kernel
theorem dX5_stock_40 : decode cX5_stock 40 = .ok (.athrow, 1) := by decide +kernel
theorem dX5_stock_41 : decode cX5_stock 41 = .ok (.aload_n 0, 1) := by decide +kernel
theorem dX5_stock_42 : decode cX5_stock 42 = .ok (.getfield 10, 3) := by decide +kernel
theorem dX5_stock_45 : decode cX5_stock 45 = .ok (.iload_n 1, 1) := by decide +kernel
theorem dX5_stock_46 : decode cX5_stock 46 = .ok (.iload_n 2, 1) := by decide +kernel
theorem dX5_stock_47 : decode cX5_stock 47 = .ok (.invokevirtual 101, 3) := by decide +kernel
theorem dX5_stock_50 : decode cX5_stock 50 = .ok (.ifCond .ne 13, 3) := by decide +kernel
theorem dX5_stock_53 : decode cX5_stock 53 = .ok (.new 81, 3) := by decide +kernel
theorem dX5_stock_56 : decode cX5_stock 56 = .ok (.dup, 1) := by decide +kernel
theorem dX5_stock_57 : decode cX5_stock 57 = .ok (.ldc 105, 2) := by decide +kernel
theorem dX5_stock_59 : decode cX5_stock 59 = .ok (.invokespecial 85, 3) := by decide +kernel
theorem dX5_stock_62 : decode cX5_stock 62 = .ok (.athrow, 1) := by decide +kernel
theorem dX5_stock_63 : decode cX5_stock 63 = .ok (.aload_n 0, 1) := by decide +kernel
theorem dX5_stock_64 : decode cX5_stock 64 = .ok (.invokevirtual 64, 3) := by decide +kernel
theorem dX5_stock_67 : decode cX5_stock 67 = .ok (.aload_n 0, 1) := by decide +kernel
theorem dX5_stock_68 : decode cX5_stock 68 = .ok (.getfield 10, 3) := by decide +kernel
theorem dX5_stock_71 : decode cX5_stock 71 = .ok (.iload_n 1, 1) := by decide +kernel
theorem dX5_stock_72 : decode cX5_stock 72 = .ok (.iload_n 2, 1) := by decide +kernel
theorem dX5_stock_73 : decode cX5_stock 73 = .ok (.invokevirtual 107, 3) := by decide +kernel
theorem dX5_stock_76 : decode cX5_stock 76 = .ok (.ireturn, 1) := by decide +kernel
theorem dX5_fill_0 : decode cX5_fill 0 = .ok (.iload_n 1, 1) := by decide +kernel
theorem dX5_fill_1 : decode cX5_fill 1 = .ok (.iconst 0, 1) := by decide +kernel
theorem dX5_fill_2 : decode cX5_fill 2 = .ok (.iconst 3, 1) := by decide +kernel
theorem dX5_fill_3 : decode cX5_fill 3 = .ok (.invokestatic 38, 3) := by decide +kernel
theorem dX5_fill_6 : decode cX5_fill 6 = .ok (.ifCond .ne 13, 3) := by decide +kernel
theorem dX5_fill_9 : decode cX5_fill 9 = .ok (.new 94, 3) := by decide +kernel
theorem dX5_fill_12 : decode cX5_fill 12 = .ok (.dup, 1) := by decide +kernel
theorem dX5_fill_13 : decode cX5_fill 13 = .ok (.ldc 110, 2) := by decide +kernel
theorem dX5_fill_15 : decode cX5_fill 15 = .ok (.invokespecial 98, 3) := by decide +kernel
theorem dX5_fill_18 : decode cX5_fill 18 = .ok (.athrow, 1) := by decide +kernel
theorem dX5_fill_19 : decode cX5_fill 19 = .ok (.iload_n 2, 1) := by decide +kernel
theorem dX5_fill_20 : decode cX5_fill 20 = .ok (.iconst 1, 1) := by decide +kernel
theorem dX5_fill_21 : decode cX5_fill 21 = .ok (.bipush 30, 2) := by decide +kernel
theorem dX5_fill_23 : decode cX5_fill 23 = .ok (.invokestatic 38, 3) := by decide +kernel
theorem dX5_fill_26 : decode cX5_fill 26 = .ok (.ifCond .ne 13, 3) := by decide +kernel
theorem dX5_fill_29 : decode cX5_fill 29 = .ok (.new 42, 3) := by decide +kernel
theorem dX5_fill_32 : decode cX5_fill 32 = .ok (.dup, 1) := by decide +kernel
theorem dX5_fill_33 : decode cX5_fill 33 = .ok (.ldc 112, 2) := by decide +kernel
theorem dX5_fill_35 : decode cX5_fill 35 = .ok (.invokespecial 46, 3) := by decide +kernel
theorem dX5_fill_38 : decode cX5_fill 38 = .ok (.athrow, 1) := by decide +kernel
theorem dX5_fill_39 : decode cX5_fill 39 = .ok (.aload_n 0, 1) := by decide +kernel
theorem dX5_fill_40 : decode cX5_fill 40 = .ok (.invokevirtual 64, 3) := by decide +kernel
theorem dX5_fill_43 : decode cX5_fill 43 = .ok (.aload_n 0, 1) := by decide +kernel
theorem dX5_fill_44 : decode cX5_fill 44 = .ok (.getfield 10, 3) := by decide +kernel
theorem dX5_fill_47 : decode cX5_fill 47 = .ok (.getfield 114, 3) := by decide +kernel
theorem dX5_fill_50 : decode cX5_fill 50 = .ok (.iload_n 1, 1) := by decide +kernel
theorem dX5_fill_51 : decode cX5_fill 51 = .ok (.iload_n 2, 1) := by decide +kernel
theorem dX5_fill_52 : decode cX5_fill 52 = .ok (.invokevirtual 118, 3) := by decide +kernel
theorem dX5_fill_55 : decode cX5_fill 55 = .ok (.ireturn, 1) := by decide +kernel
theorem dX5_buy_0 : decode cX5_buy 0 = .ok (.aload_n 0, 1) := by decide +kernel
theorem dX5_buy_1 : decode cX5_buy 1 = .ok (.getfield 10, 3) := by decide +kernel
theorem dX5_buy_4 : decode cX5_buy 4 = .ok (.iload_n 1, 1) := by decide +kernel
theorem dX5_buy_5 : decode cX5_buy 5 = .ok (.invokevirtual 90, 3) := by decide +kernel
theorem dX5_buy_8 : decode cX5_buy 8 = .ok (.ifCond .ne 13, 3) := by decide +kernel
theorem dX5_buy_11 : decode cX5_buy 11 = .ok (.new 94, 3) := by decide +kernel
theorem dX5_buy_14 : decode cX5_buy 14 = .ok (.dup, 1) := by decide +kernel
theorem dX5_buy_15 : decode cX5_buy 15 = .ok (.ldc 96, 2) := by decide +kernel
theorem dX5_buy_17 : decode cX5_buy 17 = .ok (.invokespecial 98, 3) := by decide +kernel
theorem dX5_buy_20 : decode cX5_buy 20 = .ok (.athrow, 1) := by decide +kernel
theorem dX5_buy_21 : decode cX5_buy 21 = .ok (.aload_n 0, 1) := by decide +kernel
theorem dX5_buy_22 : decode cX5_buy 22 = .ok (.iload_n 2, 1) := by decide +kernel
theorem dX5_buy_23 : decode cX5_buy 23 = .ok (.iload_n 3, 1) := by decide +kernel
theorem dX5_buy_24 : decode cX5_buy 24 = .ok (.iload 4, 2) := by decide +kernel
theorem dX5_buy_26 : decode cX5_buy 26 = .ok (.iload 5, 2) := by decide +kernel
theorem dX5_buy_28 : decode cX5_buy 28 = .ok (.invokevirtual 123, 3) := by decide +kernel
theorem dX5_buy_31 : decode cX5_buy 31 = .ok (.ifCond .ne 13, 3) := by decide +kernel
theorem dX5_buy_34 : decode cX5_buy 34 = .ok (.new 42, 3) := by decide +kernel
theorem dX5_buy_37 : decode cX5_buy 37 = .ok (.dup, 1) := by decide +kernel
theorem dX5_buy_38 : decode cX5_buy 38 = .ok (.ldc 112, 2) := by decide +kernel
theorem dX5_buy_40 : decode cX5_buy 40 = .ok (.invokespecial 46, 3) := by decide +kernel
theorem dX5_buy_43 : decode cX5_buy 43 = .ok (.athrow, 1) := by decide +kernel
theorem dX5_buy_44 : decode cX5_buy 44 = .ok (.aload_n 0, 1) := by decide +kernel
theorem dX5_buy_45 : decode cX5_buy 45 = .ok (.getfield 10, 3) := by decide +kernel
theorem dX5_buy_48 : decode cX5_buy 48 = .ok (.iload_n 1, 1) := by decide +kernel
theorem dX5_buy_49 : decode cX5_buy 49 = .ok (.aload_n 0, 1) := by decide +kernel
theorem dX5_buy_50 : decode cX5_buy 50 = .ok (.getfield 34, 3) := by decide +kernel
theorem dX5_buy_53 : decode cX5_buy 53 = .ok (.invokevirtual 126, 3) := by decide +kernel
theorem dX5_buy_56 : decode cX5_buy 56 = .ok (.ifCond .ne 13, 3) := by decide +kernel
theorem dX5_buy_59 : decode cX5_buy 59 = .ok (.new 81, 3) := by decide +kernel
theorem dX5_buy_62 : decode cX5_buy 62 = .ok (.dup, 1) := by decide +kernel
theorem dX5_buy_63 : decode cX5_buy 63 = .ok (.ldc 130, 2) := by decide +kernel
theorem dX5_buy_65 : decode cX5_buy 65 = .ok (.invokespecial 85, 3) := by decide +kernel
theorem dX5_buy_68 : decode cX5_buy 68 = .ok (.athrow, 1) := by decide +kernel
theorem dX5_buy_69 : decode cX5_buy 69 = .ok (.aload_n 0, 1) := by decide +kernel
theorem dX5_buy_70 : decode cX5_buy 70 = .ok (.invokevirtual 64, 3) := by decide +kernel
theorem dX5_buy_73 : decode cX5_buy 73 = .ok (.aload_n 0, 1) := by decide +kernel
theorem dX5_buy_74 : decode cX5_buy 74 = .ok (.getfield 10, 3) := by decide +kernel
theorem dX5_buy_77 : decode cX5_buy 77 = .ok (.iload_n 1, 1) := by decide +kernel
theorem dX5_buy_78 : decode cX5_buy 78 = .ok (.aload_n 0, 1) := by decide +kernel
theorem dX5_buy_79 : decode cX5_buy 79 = .ok (.getfield 34, 3) := by decide +kernel
theorem dX5_buy_82 : decode cX5_buy 82 = .ok (.invokevirtual 132, 3) := by decide +kernel
theorem dX5_buy_85 : decode cX5_buy 85 = .ok (.ireturn, 1) := by decide +kernel
theorem dX5_look_0 : decode cX5_look 0 = .ok (.aload_n 0, 1) := by decide +kernel
theorem dX5_look_1 : decode cX5_look 1 = .ok (.getfield 10, 3) := by decide +kernel
theorem dX5_look_4 : decode cX5_look 4 = .ok (.iload_n 1, 1) := by decide +kernel
theorem dX5_look_5 : decode cX5_look 5 = .ok (.invokevirtual 90, 3) := by decide +kernel
theorem dX5_look_8 : decode cX5_look 8 = .ok (.ifCond .ne 13, 3) := by decide +kernel
theorem dX5_look_11 : decode cX5_look 11 = .ok (.new 94, 3) := by decide +kernel
theorem dX5_look_14 : decode cX5_look 14 = .ok (.dup, 1) := by decide +kernel
theorem dX5_look_15 : decode cX5_look 15 = .ok (.ldc 96, 2) := by decide +kernel
theorem dX5_look_17 : decode cX5_look 17 = .ok (.invokespecial 98, 3) := by decide +kernel
theorem dX5_look_20 : decode cX5_look 20 = .ok (.athrow, 1) := by decide +kernel
theorem dX5_look_21 : decode cX5_look 21 = .ok (.aload_n 0, 1) := by decide +kernel
theorem dX5_look_22 : decode cX5_look 22 = .ok (.invokevirtual 64, 3) := by decide +kernel
theorem dX5_look_25 : decode cX5_look 25 = .ok (.aload_n 0, 1) := by decide +kernel
theorem dX5_look_26 : decode cX5_look 26 = .ok (.getfield 10, 3) := by decide +kernel
theorem dX5_look_29 : decode cX5_look 29 = .ok (.iload_n 1, 1) := by decide +kernel
theorem dX5_look_30 : decode cX5_look 30 = .ok (.invokevirtual 136, 3) := by decide +kernel
theorem dX5_look_33 : decode cX5_look 33 = .ok (.ireturn, 1) := by decide +kernel
theorem dX5_pass_0 : decode cX5_pass 0 = .ok (.iload_n 1, 1) := by decide +kernel
theorem dX5_pass_1 : decode cX5_pass 1 = .ok (.iconst 1, 1) := by decide +kernel
theorem dX5_pass_2 : decode cX5_pass 2 = .ok (.bipush 48, 2) := by decide +kernel
theorem dX5_pass_4 : decode cX5_pass 4 = .ok (.invokestatic 38, 3) := by decide +kernel
theorem dX5_pass_7 : decode cX5_pass 7 = .ok (.ifCond .ne 13, 3) := by decide +kernel
theorem dX5_pass_10 : decode cX5_pass 10 = .ok (.new 42, 3) := by decide +kernel
theorem dX5_pass_13 : decode cX5_pass 13 = .ok (.dup, 1) := by decide +kernel
theorem dX5_pass_14 : decode cX5_pass 14 = .ok (.ldc 140, 2) := by decide +kernel
theorem dX5_pass_16 : decode cX5_pass 16 = .ok (.invokespecial 46, 3) := by decide +kernel
theorem dX5_pass_19 : decode cX5_pass 19 = .ok (.athrow, 1) := by decide +kernel
theorem dX5_pass_20 : decode cX5_pass 20 = .ok (.aload_n 0, 1) := by decide +kernel
theorem dX5_pass_21 : decode cX5_pass 21 = .ok (.getfield 10, 3) := by decide +kernel
theorem dX5_pass_24 : decode cX5_pass 24 = .ok (.iload_n 1, 1) := by decide +kernel
theorem dX5_pass_25 : decode cX5_pass 25 = .ok (.invokevirtual 142, 3) := by decide +kernel
theorem dX5_pass_28 : decode cX5_pass 28 = .ok (.ifCond .ne 13, 3) := by decide +kernel
theorem dX5_pass_31 : decode cX5_pass 31 = .ok (.new 81, 3) := by decide +kernel
theorem dX5_pass_34 : decode cX5_pass 34 = .ok (.dup, 1) := by decide +kernel
theorem dX5_pass_35 : decode cX5_pass 35 = .ok (.ldc 145, 2) := by decide +kernel
theorem dX5_pass_37 : decode cX5_pass 37 = .ok (.invokespecial 85, 3) := by decide +kernel
theorem dX5_pass_40 : decode cX5_pass 40 = .ok (.athrow, 1) := by decide +kernel
theorem dX5_pass_41 : decode cX5_pass 41 = .ok (.aload_n 0, 1) := by decide +kernel
theorem dX5_pass_42 : decode cX5_pass 42 = .ok (.invokevirtual 64, 3) := by decide +kernel
theorem dX5_pass_45 : decode cX5_pass 45 = .ok (.aload_n 0, 1) := by decide +kernel
theorem dX5_pass_46 : decode cX5_pass 46 = .ok (.getfield 10, 3) := by decide +kernel
theorem dX5_pass_49 : decode cX5_pass 49 = .ok (.iload_n 1, 1) := by decide +kernel
theorem dX5_pass_50 : decode cX5_pass 50 = .ok (.invokevirtual 147, 3) := by decide +kernel
theorem dX5_pass_53 : decode cX5_pass 53 = .ok (.ireturn, 1) := by decide +kernel
theorem dX5_emptyBox_0 : decode cX5_emptyBox 0 = .ok (.aload_n 0, 1) := by decide +kernel
theorem dX5_emptyBox_1 : decode cX5_emptyBox 1 = .ok (.invokevirtual 64, 3) := by decide +kernel
theorem dX5_emptyBox_4 : decode cX5_emptyBox 4 = .ok (.aload_n 0, 1) := by decide +kernel
theorem dX5_emptyBox_5 : decode cX5_emptyBox 5 = .ok (.getfield 10, 3) := by decide +kernel
theorem dX5_emptyBox_8 : decode cX5_emptyBox 8 = .ok (.getfield 114, 3) := by decide +kernel
theorem dX5_emptyBox_11 : decode cX5_emptyBox 11 = .ok (.invokevirtual 150, 3) := by decide +kernel
theorem dX5_emptyBox_14 : decode cX5_emptyBox 14 = .ok (.ireturn, 1) := by decide +kernel
theorem dX5_coil_0 : decode cX5_coil 0 = .ok (.aload_n 0, 1) := by decide +kernel
theorem dX5_coil_1 : decode cX5_coil 1 = .ok (.getfield 10, 3) := by decide +kernel
theorem dX5_coil_4 : decode cX5_coil 4 = .ok (.iload_n 1, 1) := by decide +kernel
theorem dX5_coil_5 : decode cX5_coil 5 = .ok (.invokevirtual 90, 3) := by decide +kernel
theorem dX5_coil_8 : decode cX5_coil 8 = .ok (.ifCond .ne 13, 3) := by decide +kernel
theorem dX5_coil_11 : decode cX5_coil 11 = .ok (.new 94, 3) := by decide +kernel
theorem dX5_coil_14 : decode cX5_coil 14 = .ok (.dup, 1) := by decide +kernel
theorem dX5_coil_15 : decode cX5_coil 15 = .ok (.ldc 96, 2) := by decide +kernel
theorem dX5_coil_17 : decode cX5_coil 17 = .ok (.invokespecial 98, 3) := by decide +kernel
theorem dX5_coil_20 : decode cX5_coil 20 = .ok (.athrow, 1) := by decide +kernel
theorem dX5_coil_21 : decode cX5_coil 21 = .ok (.iload_n 2, 1) := by decide +kernel
theorem dX5_coil_22 : decode cX5_coil 22 = .ok (.iconst 0, 1) := by decide +kernel
theorem dX5_coil_23 : decode cX5_coil 23 = .ok (.bipush 9, 2) := by decide +kernel
theorem dX5_coil_25 : decode cX5_coil 25 = .ok (.invokestatic 38, 3) := by decide +kernel
theorem dX5_coil_28 : decode cX5_coil 28 = .ok (.ifCond .ne 13, 3) := by decide +kernel
theorem dX5_coil_31 : decode cX5_coil 31 = .ok (.new 42, 3) := by decide +kernel
theorem dX5_coil_34 : decode cX5_coil 34 = .ok (.dup, 1) := by decide +kernel
theorem dX5_coil_35 : decode cX5_coil 35 = .ok (.ldc 154, 2) := by decide +kernel
theorem dX5_coil_37 : decode cX5_coil 37 = .ok (.invokespecial 46, 3) := by decide +kernel
theorem dX5_coil_40 : decode cX5_coil 40 = .ok (.athrow, 1) := by decide +kernel
theorem dX5_coil_41 : decode cX5_coil 41 = .ok (.aload_n 0, 1) := by decide +kernel
theorem dX5_coil_42 : decode cX5_coil 42 = .ok (.getfield 10, 3) := by decide +kernel
theorem dX5_coil_45 : decode cX5_coil 45 = .ok (.getfield 156, 3) := by decide +kernel
theorem dX5_coil_48 : decode cX5_coil 48 = .ok (.iload_n 1, 1) := by decide +kernel
theorem dX5_coil_49 : decode cX5_coil 49 = .ok (.aaload, 1) := by decide +kernel
theorem dX5_coil_50 : decode cX5_coil 50 = .ok (.iload_n 2, 1) := by decide +kernel
theorem dX5_coil_51 : decode cX5_coil 51 = .ok (.invokevirtual 160, 3) := by decide +kernel
theorem dX5_coil_54 : decode cX5_coil 54 = .ok (.ireturn, 1) := by decide +kernel
theorem dX5_demand_0 : decode cX5_demand 0 = .ok (.aload_n 0, 1) := by decide +kernel
theorem dX5_demand_1 : decode cX5_demand 1 = .ok (.getfield 10, 3) := by decide +kernel
theorem dX5_demand_4 : decode cX5_demand 4 = .ok (.iload_n 1, 1) := by decide +kernel
theorem dX5_demand_5 : decode cX5_demand 5 = .ok (.invokevirtual 90, 3) := by decide +kernel
theorem dX5_demand_8 : decode cX5_demand 8 = .ok (.ifCond .ne 13, 3) := by decide +kernel
theorem dX5_demand_11 : decode cX5_demand 11 = .ok (.new 94, 3) := by decide +kernel
theorem dX5_demand_14 : decode cX5_demand 14 = .ok (.dup, 1) := by decide +kernel
theorem dX5_demand_15 : decode cX5_demand 15 = .ok (.ldc 96, 2) := by decide +kernel
theorem dX5_demand_17 : decode cX5_demand 17 = .ok (.invokespecial 98, 3) := by decide +kernel
theorem dX5_demand_20 : decode cX5_demand 20 = .ok (.athrow, 1) := by decide +kernel
theorem dX5_demand_21 : decode cX5_demand 21 = .ok (.aload_n 0, 1) := by decide +kernel
theorem dX5_demand_22 : decode cX5_demand 22 = .ok (.getfield 10, 3) := by decide +kernel
theorem dX5_demand_25 : decode cX5_demand 25 = .ok (.getfield 156, 3) := by decide +kernel
theorem dX5_demand_28 : decode cX5_demand 28 = .ok (.iload_n 1, 1) := by decide +kernel
theorem dX5_demand_29 : decode cX5_demand 29 = .ok (.aaload, 1) := by decide +kernel
theorem dX5_demand_30 : decode cX5_demand 30 = .ok (.getfield 165, 3) := by decide +kernel
theorem dX5_demand_33 : decode cX5_demand 33 = .ok (.freturn, 1) := by decide +kernel
theorem dX5_tube_0 : decode cX5_tube 0 = .ok (.iload_n 1, 1) := by decide +kernel
theorem dX5_tube_1 : decode cX5_tube 1 = .ok (.iconst 0, 1) := by decide +kernel
theorem dX5_tube_2 : decode cX5_tube 2 = .ok (.iconst 3, 1) := by decide +kernel
theorem dX5_tube_3 : decode cX5_tube 3 = .ok (.invokestatic 38, 3) := by decide +kernel
theorem dX5_tube_6 : decode cX5_tube 6 = .ok (.ifCond .ne 13, 3) := by decide +kernel
theorem dX5_tube_9 : decode cX5_tube 9 = .ok (.new 94, 3) := by decide +kernel
theorem dX5_tube_12 : decode cX5_tube 12 = .ok (.dup, 1) := by decide +kernel
theorem dX5_tube_13 : decode cX5_tube 13 = .ok (.ldc 110, 2) := by decide +kernel
theorem dX5_tube_15 : decode cX5_tube 15 = .ok (.invokespecial 98, 3) := by decide +kernel
theorem dX5_tube_18 : decode cX5_tube 18 = .ok (.athrow, 1) := by decide +kernel
theorem dX5_tube_19 : decode cX5_tube 19 = .ok (.aload_n 0, 1) := by decide +kernel
theorem dX5_tube_20 : decode cX5_tube 20 = .ok (.getfield 10, 3) := by decide +kernel
theorem dX5_tube_23 : decode cX5_tube 23 = .ok (.getfield 114, 3) := by decide +kernel
theorem dX5_tube_26 : decode cX5_tube 26 = .ok (.getfield 169, 3) := by decide +kernel
theorem dX5_tube_29 : decode cX5_tube 29 = .ok (.iload_n 1, 1) := by decide +kernel
theorem dX5_tube_30 : decode cX5_tube 30 = .ok (.iaload, 1) := by decide +kernel
theorem dX5_tube_31 : decode cX5_tube 31 = .ok (.ireturn, 1) := by decide +kernel
theorem dX5_value_0 : decode cX5_value 0 = .ok (.iload_n 1, 1) := by decide +kernel
theorem dX5_value_1 : decode cX5_value 1 = .ok (.iconst 0, 1) := by decide +kernel
theorem dX5_value_2 : decode cX5_value 2 = .ok (.bipush 10, 2) := by decide +kernel
theorem dX5_value_4 : decode cX5_value 4 = .ok (.invokestatic 38, 3) := by decide +kernel
theorem dX5_value_7 : decode cX5_value 7 = .ok (.ifCond .ne 13, 3) := by decide +kernel
theorem dX5_value_10 : decode cX5_value 10 = .ok (.new 42, 3) := by decide +kernel
theorem dX5_value_13 : decode cX5_value 13 = .ok (.dup, 1) := by decide +kernel
theorem dX5_value_14 : decode cX5_value 14 = .ok (.ldc 154, 2) := by decide +kernel
theorem dX5_value_16 : decode cX5_value 16 = .ok (.invokespecial 46, 3) := by decide +kernel
theorem dX5_value_19 : decode cX5_value 19 = .ok (.athrow, 1) := by decide +kernel
theorem dX5_value_20 : decode cX5_value 20 = .ok (.aload_n 0, 1) := by decide +kernel
theorem dX5_value_21 : decode cX5_value 21 = .ok (.getfield 10, 3) := by decide +kernel
theorem dX5_value_24 : decode cX5_value 24 = .ok (.iload_n 1, 1) := by decide +kernel
theorem dX5_value_25 : decode cX5_value 25 = .ok (.invokevirtual 172, 3) := by decide +kernel
theorem dX5_value_28 : decode cX5_value 28 = .ok (.ireturn, 1) := by decide +kernel
theorem dX5_setting_0 : decode cX5_setting 0 = .ok (.iload_n 1, 1) := by decide +kernel
theorem dX5_setting_1 : decode cX5_setting 1 = .ok (.iconst 0, 1) := by decide +kernel
theorem dX5_setting_2 : decode cX5_setting 2 = .ok (.iconst 4, 1) := by decide +kernel
theorem dX5_setting_3 : decode cX5_setting 3 = .ok (.invokestatic 38, 3) := by decide +kernel
theorem dX5_setting_6 : decode cX5_setting 6 = .ok (.ifCond .ne 13, 3) := by decide +kernel
theorem dX5_setting_9 : decode cX5_setting 9 = .ok (.new 42, 3) := by decide +kernel
theorem dX5_setting_12 : decode cX5_setting 12 = .ok (.dup, 1) := by decide +kernel
theorem dX5_setting_13 : decode cX5_setting 13 = .ok (.ldc 44, 2) := by decide +kernel
theorem dX5_setting_15 : decode cX5_setting 15 = .ok (.invokespecial 46, 3) := by decide +kernel
theorem dX5_setting_18 : decode cX5_setting 18 = .ok (.athrow, 1) := by decide +kernel
theorem dX5_setting_19 : decode cX5_setting 19 = .ok (.aload_n 0, 1) := by decide +kernel
theorem dX5_setting_20 : decode cX5_setting 20 = .ok (.getfield 10, 3) := by decide +kernel
theorem dX5_setting_23 : decode cX5_setting 23 = .ok (.getfield 175, 3) := by decide +kernel
theorem dX5_setting_26 : decode cX5_setting 26 = .ok (.iload_n 1, 1) := by decide +kernel
theorem dX5_setting_27 : decode cX5_setting 27 = .ok (.iaload, 1) := by decide +kernel
theorem dX5_setting_28 : decode cX5_setting 28 = .ok (.ireturn, 1) := by decide +kernel
theorem dX5_promise_0 : decode cX5_promise 0 = .ok (.iload_n 1, 1) := by decide +kernel
theorem dX5_promise_1 : decode cX5_promise 1 = .ok (.iconst 0, 1) := by decide +kernel
theorem dX5_promise_2 : decode cX5_promise 2 = .ok (.aload_n 0, 1) := by decide +kernel
theorem dX5_promise_3 : decode cX5_promise 3 = .ok (.getfield 10, 3) := by decide +kernel
theorem dX5_promise_6 : decode cX5_promise 6 = .ok (.getfield 114, 3) := by decide +kernel
theorem dX5_promise_9 : decode cX5_promise 9 = .ok (.getfield 178, 3) := by decide +kernel
theorem dX5_promise_12 : decode cX5_promise 12 = .ok (.iconst 1, 1) := by decide +kernel
theorem dX5_promise_13 : decode cX5_promise 13 = .ok (.isub, 1) := by decide +kernel
theorem dX5_promise_14 : decode cX5_promise 14 = .ok (.invokestatic 38, 3) := by decide +kernel
theorem dX5_promise_17 : decode cX5_promise 17 = .ok (.ifCond .ne 13, 3) := by decide +kernel
theorem dX5_promise_20 : decode cX5_promise 20 = .ok (.new 94, 3) := by decide +kernel
theorem dX5_promise_23 : decode cX5_promise 23 = .ok (.dup, 1) := by decide +kernel
theorem dX5_promise_24 : decode cX5_promise 24 = .ok (.ldc 181, 2) := by decide +kernel
theorem dX5_promise_26 : decode cX5_promise 26 = .ok (.invokespecial 98, 3) := by decide +kernel
theorem dX5_promise_29 : decode cX5_promise 29 = .ok (.athrow, 1) := by decide +kernel
theorem dX5_promise_30 : decode cX5_promise 30 = .ok (.aload_n 0, 1) := by decide +kernel
theorem dX5_promise_31 : decode cX5_promise 31 = .ok (.getfield 10, 3) := by decide +kernel
theorem dX5_promise_34 : decode cX5_promise 34 = .ok (.getfield 114, 3) := by decide +kernel
theorem dX5_promise_37 : decode cX5_promise 37 = .ok (.getfield 183, 3) := by decide +kernel
theorem dX5_promise_40 : decode cX5_promise 40 = .ok (.iload_n 1, 1) := by decide +kernel
theorem dX5_promise_41 : decode cX5_promise 41 = .ok (.iaload, 1) := by decide +kernel
theorem dX5_promise_42 : decode cX5_promise 42 = .ok (.ireturn, 1) := by decide +kernel
theorem dX5_change_0 : decode cX5_change 0 = .ok (.iload_n 1, 1) := by decide +kernel
theorem dX5_change_1 : decode cX5_change 1 = .ok (.iconst 0, 1) := by decide +kernel
theorem dX5_change_2 : decode cX5_change 2 = .ok (.sipush 2000, 3) := by decide +kernel
theorem dX5_change_5 : decode cX5_change 5 = .ok (.invokestatic 38, 3) := by decide +kernel
theorem dX5_change_8 : decode cX5_change 8 = .ok (.ifCond .ne 13, 3) := by decide +kernel
theorem dX5_change_11 : decode cX5_change 11 = .ok (.new 42, 3) := by decide +kernel
theorem dX5_change_14 : decode cX5_change 14 = .ok (.dup, 1) := by decide +kernel
theorem dX5_change_15 : decode cX5_change 15 = .ok (.ldc 186, 2) := by decide +kernel
theorem dX5_change_17 : decode cX5_change 17 = .ok (.invokespecial 46, 3) := by decide +kernel
theorem dX5_change_20 : decode cX5_change 20 = .ok (.athrow, 1) := by decide +kernel
theorem dX5_change_21 : decode cX5_change 21 = .ok (.iload_n 2, 1) := by decide +kernel
theorem dX5_change_22 : decode cX5_change 22 = .ok (.iconst 0, 1) := by decide +kernel
theorem dX5_change_23 : decode cX5_change 23 = .ok (.iconst 3, 1) := by decide +kernel
theorem dX5_change_24 : decode cX5_change 24 = .ok (.invokestatic 38, 3) := by decide +kernel
theorem dX5_change_27 : decode cX5_change 27 = .ok (.ifCond .ne 13, 3) := by decide +kernel
theorem dX5_change_30 : decode cX5_change 30 = .ok (.new 94, 3) := by decide +kernel
theorem dX5_change_33 : decode cX5_change 33 = .ok (.dup, 1) := by decide +kernel
theorem dX5_change_34 : decode cX5_change 34 = .ok (.ldc 110, 2) := by decide +kernel
theorem dX5_change_36 : decode cX5_change 36 = .ok (.invokespecial 98, 3) := by decide +kernel
theorem dX5_change_39 : decode cX5_change 39 = .ok (.athrow, 1) := by decide +kernel
theorem dX5_change_40 : decode cX5_change 40 = .ok (.aload_n 0, 1) := by decide +kernel
theorem dX5_change_41 : decode cX5_change 41 = .ok (.getfield 10, 3) := by decide +kernel
theorem dX5_change_44 : decode cX5_change 44 = .ok (.getfield 114, 3) := by decide +kernel
theorem dX5_change_47 : decode cX5_change 47 = .ok (.iload_n 1, 1) := by decide +kernel
theorem dX5_change_48 : decode cX5_change 48 = .ok (.invokevirtual 188, 3) := by decide +kernel
theorem dX5_change_51 : decode cX5_change 51 = .ok (.ifCond .eq 21, 3) := by decide +kernel
theorem dX5_change_54 : decode cX5_change 54 = .ok (.aload_n 0, 1) := by decide +kernel
theorem dX5_change_55 : decode cX5_change 55 = .ok (.getfield 10, 3) := by decide +kernel
theorem dX5_change_58 : decode cX5_change 58 = .ok (.getfield 114, 3) := by decide +kernel
theorem dX5_change_61 : decode cX5_change 61 = .ok (.getfield 191, 3) := by decide +kernel
theorem dX5_change_64 : decode cX5_change 64 = .ok (.getfield 195, 3) := by decide +kernel
theorem dX5_change_67 : decode cX5_change 67 = .ok (.iload_n 2, 1) := by decide +kernel
theorem dX5_change_68 : decode cX5_change 68 = .ok (.iaload, 1) := by decide +kernel
theorem dX5_change_69 : decode cX5_change 69 = .ok (.goto 4, 3) := by decide +kernel
theorem dX5_change_72 : decode cX5_change 72 = .ok (.iconst (-1), 1) := by decide +kernel
theorem dX5_change_73 : decode cX5_change 73 = .ok (.ireturn, 1) := by decide +kernel
theorem dX5_mostPayable_0 : decode cX5_mostPayable 0 = .ok (.iload_n 1, 1) := by decide +kernel
theorem dX5_mostPayable_1 : decode cX5_mostPayable 1 = .ok (.iconst 0, 1) := by decide +kernel
theorem dX5_mostPayable_2 : decode cX5_mostPayable 2 = .ok (.sipush 2000, 3) := by decide +kernel
theorem dX5_mostPayable_5 : decode cX5_mostPayable 5 = .ok (.invokestatic 38, 3) := by decide +kernel
theorem dX5_mostPayable_8 : decode cX5_mostPayable 8 = .ok (.ifCond .ne 13, 3) := by decide +kernel
theorem dX5_mostPayable_11 : decode cX5_mostPayable 11 = .ok (.new 42, 3) := by decide +kernel
theorem dX5_mostPayable_14 : decode cX5_mostPayable 14 = .ok (.dup, 1) := by decide +kernel
theorem dX5_mostPayable_15 : decode cX5_mostPayable 15 = .ok (.ldc 200, 2) := by decide +kernel
theorem dX5_mostPayable_17 : decode cX5_mostPayable 17 = .ok (.invokespecial 46, 3) := by decide +kernel
theorem dX5_mostPayable_20 : decode cX5_mostPayable 20 = .ok (.athrow, 1) := by decide +kernel
theorem dX5_mostPayable_21 : decode cX5_mostPayable 21 = .ok (.iload_n 1, 1) := by decide +kernel
theorem dX5_mostPayable_22 : decode cX5_mostPayable 22 = .ok (.iload_n 1, 1) := by decide +kernel
theorem dX5_mostPayable_23 : decode cX5_mostPayable 23 = .ok (.iconst 5, 1) := by decide +kernel
theorem dX5_mostPayable_24 : decode cX5_mostPayable 24 = .ok (.irem, 1) := by decide +kernel
theorem dX5_mostPayable_25 : decode cX5_mostPayable 25 = .ok (.isub, 1) := by decide +kernel
theorem dX5_mostPayable_26 : decode cX5_mostPayable 26 = .ok (.istore_n 2, 1) := by decide +kernel
theorem dX5_mostPayable_27 : decode cX5_mostPayable 27 = .ok (.iload_n 2, 1) := by decide +kernel
theorem dX5_mostPayable_28 : decode cX5_mostPayable 28 = .ok (.ifCond .le 23, 3) := by decide +kernel
theorem dX5_mostPayable_31 : decode cX5_mostPayable 31 = .ok (.aload_n 0, 1) := by decide +kernel
theorem dX5_mostPayable_32 : decode cX5_mostPayable 32 = .ok (.getfield 10, 3) := by decide +kernel
theorem dX5_mostPayable_35 : decode cX5_mostPayable 35 = .ok (.getfield 114, 3) := by decide +kernel
theorem dX5_mostPayable_38 : decode cX5_mostPayable 38 = .ok (.iload_n 2, 1) := by decide +kernel
theorem dX5_mostPayable_39 : decode cX5_mostPayable 39 = .ok (.invokevirtual 188, 3) := by decide +kernel
theorem dX5_mostPayable_42 : decode cX5_mostPayable 42 = .ok (.ifCond .ne 9, 3) := by decide +kernel
theorem dX5_mostPayable_45 : decode cX5_mostPayable 45 = .ok (.iinc 2 (-5), 3) := by decide +kernel
theorem dX5_mostPayable_48 : decode cX5_mostPayable 48 = .ok (.goto (-21), 3) := by decide +kernel
theorem dX5_mostPayable_51 : decode cX5_mostPayable 51 = .ok (.iload_n 2, 1) := by decide +kernel
theorem dX5_mostPayable_52 : decode cX5_mostPayable 52 = .ok (.ireturn, 1) := by decide +kernel
theorem dX5_coinFor_0 : decode cX5_coinFor 0 = .ok (.iload_n 1, 1) := by decide +kernel
theorem dX5_coinFor_1 : decode cX5_coinFor 1 = .ok (.iconst 0, 1) := by decide +kernel
theorem dX5_coinFor_2 : decode cX5_coinFor 2 = .ok (.sipush 2000, 3) := by decide +kernel
theorem dX5_coinFor_5 : decode cX5_coinFor 5 = .ok (.invokestatic 38, 3) := by decide +kernel
theorem dX5_coinFor_8 : decode cX5_coinFor 8 = .ok (.ifCond .ne 13, 3) := by decide +kernel
theorem dX5_coinFor_11 : decode cX5_coinFor 11 = .ok (.new 42, 3) := by decide +kernel
theorem dX5_coinFor_14 : decode cX5_coinFor 14 = .ok (.dup, 1) := by decide +kernel
theorem dX5_coinFor_15 : decode cX5_coinFor 15 = .ok (.ldc 186, 2) := by decide +kernel
theorem dX5_coinFor_17 : decode cX5_coinFor 17 = .ok (.invokespecial 46, 3) := by decide +kernel
theorem dX5_coinFor_20 : decode cX5_coinFor 20 = .ok (.athrow, 1) := by decide +kernel
theorem dX5_coinFor_21 : decode cX5_coinFor 21 = .ok (.aload_n 0, 1) := by decide +kernel
theorem dX5_coinFor_22 : decode cX5_coinFor 22 = .ok (.getfield 10, 3) := by decide +kernel
theorem dX5_coinFor_25 : decode cX5_coinFor 25 = .ok (.getfield 114, 3) := by decide +kernel
theorem dX5_coinFor_28 : decode cX5_coinFor 28 = .ok (.iload_n 1, 1) := by decide +kernel
theorem dX5_coinFor_29 : decode cX5_coinFor 29 = .ok (.invokevirtual 188, 3) := by decide +kernel
theorem dX5_coinFor_32 : decode cX5_coinFor 32 = .ok (.ifCond .eq 5, 3) := by decide +kernel
theorem dX5_coinFor_35 : decode cX5_coinFor 35 = .ok (.iconst 4, 1) := by decide +kernel
theorem dX5_coinFor_36 : decode cX5_coinFor 36 = .ok (.ireturn, 1) := by decide +kernel
theorem dX5_coinFor_37 : decode cX5_coinFor 37 = .ok (.iconst 0, 1) := by decide +kernel
theorem dX5_coinFor_38 : decode cX5_coinFor 38 = .ok (.istore_n 2, 1) := by decide +kernel
theorem dX5_coinFor_39 : decode cX5_coinFor 39 = .ok (.iload_n 2, 1) := by decide +kernel
theorem dX5_coinFor_40 : decode cX5_coinFor 40 = .ok (.iconst 4, 1) := by decide +kernel
theorem dX5_coinFor_41 : decode cX5_coinFor 41 = .ok (.if_icmp .ge 26, 3) := by decide +kernel
theorem dX5_coinFor_44 : decode cX5_coinFor 44 = .ok (.aload_n 0, 1) := by decide +kernel
theorem dX5_coinFor_45 : decode cX5_coinFor 45 = .ok (.getfield 10, 3) := by decide +kernel
theorem dX5_coinFor_48 : decode cX5_coinFor 48 = .ok (.getfield 114, 3) := by decide +kernel
theorem dX5_coinFor_51 : decode cX5_coinFor 51 = .ok (.iload_n 1, 1) := by decide +kernel
theorem dX5_coinFor_52 : decode cX5_coinFor 52 = .ok (.iload_n 2, 1) := by decide +kernel
theorem dX5_coinFor_53 : decode cX5_coinFor 53 = .ok (.invokevirtual 202, 3) := by decide +kernel
theorem dX5_coinFor_56 : decode cX5_coinFor 56 = .ok (.ifCond .eq 5, 3) := by decide +kernel
theorem dX5_coinFor_59 : decode cX5_coinFor 59 = .ok (.iload_n 2, 1) := by decide +kernel
theorem dX5_coinFor_60 : decode cX5_coinFor 60 = .ok (.ireturn, 1) := by decide +kernel
theorem dX5_coinFor_61 : decode cX5_coinFor 61 = .ok (.iinc 2 1, 3) := by decide +kernel
theorem dX5_coinFor_64 : decode cX5_coinFor 64 = .ok (.goto (-25), 3) := by decide +kernel
theorem dX5_coinFor_67 : decode cX5_coinFor 67 = .ok (.iconst (-1), 1) := by decide +kernel
theorem dX5_coinFor_68 : decode cX5_coinFor 68 = .ok (.ireturn, 1) := by decide +kernel
theorem dX5_priceIn_0 : decode cX5_priceIn 0 = .ok (.aload_n 0, 1) := by decide +kernel
theorem dX5_priceIn_1 : decode cX5_priceIn 1 = .ok (.getfield 10, 3) := by decide +kernel
theorem dX5_priceIn_4 : decode cX5_priceIn 4 = .ok (.iload_n 1, 1) := by decide +kernel
theorem dX5_priceIn_5 : decode cX5_priceIn 5 = .ok (.invokevirtual 90, 3) := by decide +kernel
theorem dX5_priceIn_8 : decode cX5_priceIn 8 = .ok (.ifCond .ne 13, 3) := by decide +kernel
theorem dX5_priceIn_11 : decode cX5_priceIn 11 = .ok (.new 94, 3) := by decide +kernel
theorem dX5_priceIn_14 : decode cX5_priceIn 14 = .ok (.dup, 1) := by decide +kernel
theorem dX5_priceIn_15 : decode cX5_priceIn 15 = .ok (.ldc 96, 2) := by decide +kernel
theorem dX5_priceIn_17 : decode cX5_priceIn 17 = .ok (.invokespecial 98, 3) := by decide +kernel
theorem dX5_priceIn_20 : decode cX5_priceIn 20 = .ok (.athrow, 1) := by decide +kernel
theorem dX5_priceIn_21 : decode cX5_priceIn 21 = .ok (.iload_n 2, 1) := by decide +kernel
theorem dX5_priceIn_22 : decode cX5_priceIn 22 = .ok (.iconst 0, 1) := by decide +kernel
theorem dX5_priceIn_23 : decode cX5_priceIn 23 = .ok (.bipush 48, 2) := by decide +kernel
theorem dX5_priceIn_25 : decode cX5_priceIn 25 = .ok (.invokestatic 38, 3) := by decide +kernel
theorem dX5_priceIn_28 : decode cX5_priceIn 28 = .ok (.ifCond .ne 13, 3) := by decide +kernel
theorem dX5_priceIn_31 : decode cX5_priceIn 31 = .ok (.new 42, 3) := by decide +kernel
theorem dX5_priceIn_34 : decode cX5_priceIn 34 = .ok (.dup, 1) := by decide +kernel
theorem dX5_priceIn_35 : decode cX5_priceIn 35 = .ok (.ldc 140, 2) := by decide +kernel
theorem dX5_priceIn_37 : decode cX5_priceIn 37 = .ok (.invokespecial 46, 3) := by decide +kernel
theorem dX5_priceIn_40 : decode cX5_priceIn 40 = .ok (.athrow, 1) := by decide +kernel
theorem dX5_priceIn_41 : decode cX5_priceIn 41 = .ok (.aload_n 0, 1) := by decide +kernel
theorem dX5_priceIn_42 : decode cX5_priceIn 42 = .ok (.getfield 16, 3) := by decide +kernel
theorem dX5_priceIn_45 : decode cX5_priceIn 45 = .ok (.aload_n 0, 1) := by decide +kernel
theorem dX5_priceIn_46 : decode cX5_priceIn 46 = .ok (.getfield 10, 3) := by decide +kernel
theorem dX5_priceIn_49 : decode cX5_priceIn 49 = .ok (.invokevirtual 205, 3) := by decide +kernel
theorem dX5_priceIn_52 : decode cX5_priceIn 52 = .ok (.aload_n 0, 1) := by decide +kernel
theorem dX5_priceIn_53 : decode cX5_priceIn 53 = .ok (.getfield 16, 3) := by decide +kernel
theorem dX5_priceIn_56 : decode cX5_priceIn 56 = .ok (.iload_n 2, 1) := by decide +kernel
theorem dX5_priceIn_57 : decode cX5_priceIn 57 = .ok (.invokevirtual 147, 3) := by decide +kernel
theorem dX5_priceIn_60 : decode cX5_priceIn 60 = .ok (.pop, 1) := by decide +kernel
theorem dX5_priceIn_61 : decode cX5_priceIn 61 = .ok (.aload_n 0, 1) := by decide +kernel
theorem dX5_priceIn_62 : decode cX5_priceIn 62 = .ok (.getfield 16, 3) := by decide +kernel
theorem dX5_priceIn_65 : decode cX5_priceIn 65 = .ok (.getfield 156, 3) := by decide +kernel
theorem dX5_priceIn_68 : decode cX5_priceIn 68 = .ok (.iload_n 1, 1) := by decide +kernel
theorem dX5_priceIn_69 : decode cX5_priceIn 69 = .ok (.aaload, 1) := by decide +kernel
theorem dX5_priceIn_70 : decode cX5_priceIn 70 = .ok (.getfield 209, 3) := by decide +kernel
theorem dX5_priceIn_73 : decode cX5_priceIn 73 = .ok (.ireturn, 1) := by decide +kernel
theorem dX5_salesInARow_0 : decode cX5_salesInARow 0 = .ok (.aload_n 0, 1) := by decide +kernel
theorem dX5_salesInARow_1 : decode cX5_salesInARow 1 = .ok (.getfield 10, 3) := by decide +kernel
theorem dX5_salesInARow_4 : decode cX5_salesInARow 4 = .ok (.iload_n 1, 1) := by decide +kernel
theorem dX5_salesInARow_5 : decode cX5_salesInARow 5 = .ok (.invokevirtual 90, 3) := by decide +kernel
theorem dX5_salesInARow_8 : decode cX5_salesInARow 8 = .ok (.ifCond .ne 13, 3) := by decide +kernel
theorem dX5_salesInARow_11 : decode cX5_salesInARow 11 = .ok (.new 94, 3) := by decide +kernel
theorem dX5_salesInARow_14 : decode cX5_salesInARow 14 = .ok (.dup, 1) := by decide +kernel
theorem dX5_salesInARow_15 : decode cX5_salesInARow 15 = .ok (.ldc 96, 2) := by decide +kernel
theorem dX5_salesInARow_17 : decode cX5_salesInARow 17 = .ok (.invokespecial 98, 3) := by decide +kernel
theorem dX5_salesInARow_20 : decode cX5_salesInARow 20 = .ok (.athrow, 1) := by decide +kernel
theorem dX5_salesInARow_21 : decode cX5_salesInARow 21 = .ok (.aload_n 0, 1) := by decide +kernel
theorem dX5_salesInARow_22 : decode cX5_salesInARow 22 = .ok (.iconst 0, 1) := by decide +kernel
theorem dX5_salesInARow_23 : decode cX5_salesInARow 23 = .ok (.iload_n 2, 1) := by decide +kernel
theorem dX5_salesInARow_24 : decode cX5_salesInARow 24 = .ok (.iconst 0, 1) := by decide +kernel
theorem dX5_salesInARow_25 : decode cX5_salesInARow 25 = .ok (.iload_n 3, 1) := by decide +kernel
theorem dX5_salesInARow_26 : decode cX5_salesInARow 26 = .ok (.invokevirtual 123, 3) := by decide +kernel
theorem dX5_salesInARow_29 : decode cX5_salesInARow 29 = .ok (.ifCond .ne 13, 3) := by decide +kernel
theorem dX5_salesInARow_32 : decode cX5_salesInARow 32 = .ok (.new 42, 3) := by decide +kernel
theorem dX5_salesInARow_35 : decode cX5_salesInARow 35 = .ok (.dup, 1) := by decide +kernel
theorem dX5_salesInARow_36 : decode cX5_salesInARow 36 = .ok (.ldc 112, 2) := by decide +kernel
theorem dX5_salesInARow_38 : decode cX5_salesInARow 38 = .ok (.invokespecial 46, 3) := by decide +kernel
theorem dX5_salesInARow_41 : decode cX5_salesInARow 41 = .ok (.athrow, 1) := by decide +kernel
theorem dX5_salesInARow_42 : decode cX5_salesInARow 42 = .ok (.aload_n 0, 1) := by decide +kernel
theorem dX5_salesInARow_43 : decode cX5_salesInARow 43 = .ok (.getfield 16, 3) := by decide +kernel
theorem dX5_salesInARow_46 : decode cX5_salesInARow 46 = .ok (.aload_n 0, 1) := by decide +kernel
theorem dX5_salesInARow_47 : decode cX5_salesInARow 47 = .ok (.getfield 10, 3) := by decide +kernel
theorem dX5_salesInARow_50 : decode cX5_salesInARow 50 = .ok (.invokevirtual 205, 3) := by decide +kernel
theorem dX5_salesInARow_53 : decode cX5_salesInARow 53 = .ok (.iconst 0, 1) := by decide +kernel
theorem dX5_salesInARow_54 : decode cX5_salesInARow 54 = .ok (.istore 4, 2) := by decide +kernel
theorem dX5_salesInARow_56 : decode cX5_salesInARow 56 = .ok (.iload 4, 2) := by decide +kernel
theorem dX5_salesInARow_58 : decode cX5_salesInARow 58 = .ok (.bipush 20, 2) := by decide +kernel
theorem dX5_salesInARow_60 : decode cX5_salesInARow 60 = .ok (.if_icmp .ge 37, 3) := by decide +kernel
theorem dX5_salesInARow_63 : decode cX5_salesInARow 63 = .ok (.aload_n 0, 1) := by decide +kernel
theorem dX5_salesInARow_64 : decode cX5_salesInARow 64 = .ok (.getfield 16, 3) := by decide +kernel
theorem dX5_salesInARow_67 : decode cX5_salesInARow 67 = .ok (.iload_n 1, 1) := by decide +kernel
theorem dX5_salesInARow_68 : decode cX5_salesInARow 68 = .ok (.aload_n 0, 1) := by decide +kernel
theorem dX5_salesInARow_69 : decode cX5_salesInARow 69 = .ok (.getfield 34, 3) := by decide +kernel
theorem dX5_salesInARow_72 : decode cX5_salesInARow 72 = .ok (.invokevirtual 126, 3) := by decide +kernel
theorem dX5_salesInARow_75 : decode cX5_salesInARow 75 = .ok (.ifCond .eq 22, 3) := by decide +kernel
theorem dX5_salesInARow_78 : decode cX5_salesInARow 78 = .ok (.aload_n 0, 1) := by decide +kernel
theorem dX5_salesInARow_79 : decode cX5_salesInARow 79 = .ok (.getfield 16, 3) := by decide +kernel
theorem dX5_salesInARow_82 : decode cX5_salesInARow 82 = .ok (.iload_n 1, 1) := by decide +kernel
theorem dX5_salesInARow_83 : decode cX5_salesInARow 83 = .ok (.aload_n 0, 1) := by decide +kernel
theorem dX5_salesInARow_84 : decode cX5_salesInARow 84 = .ok (.getfield 34, 3) := by decide +kernel
theorem dX5_salesInARow_87 : decode cX5_salesInARow 87 = .ok (.invokevirtual 132, 3) := by decide +kernel
theorem dX5_salesInARow_90 : decode cX5_salesInARow 90 = .ok (.pop, 1) := by decide +kernel
theorem dX5_salesInARow_91 : decode cX5_salesInARow 91 = .ok (.iinc 4 1, 3) := by decide +kernel
theorem dX5_salesInARow_94 : decode cX5_salesInARow 94 = .ok (.goto (-38), 3) := by decide +kernel
theorem dX5_salesInARow_97 : decode cX5_salesInARow 97 = .ok (.iload 4, 2) := by decide +kernel
theorem dX5_salesInARow_99 : decode cX5_salesInARow 99 = .ok (.ireturn, 1) := by decide +kernel
theorem dX5_favorite_0 : decode cX5_favorite 0 = .ok (.iconst (-1), 1) := by decide +kernel
theorem dX5_favorite_1 : decode cX5_favorite 1 = .ok (.istore_n 1, 1) := by decide +kernel
theorem dX5_favorite_2 : decode cX5_favorite 2 = .ok (.ldc 212, 2) := by decide +kernel
theorem dX5_favorite_4 : decode cX5_favorite 4 = .ok (.fstore_n 2, 1) := by decide +kernel
theorem dX5_favorite_5 : decode cX5_favorite 5 = .ok (.iconst 0, 1) := by decide +kernel
theorem dX5_favorite_6 : decode cX5_favorite 6 = .ok (.istore_n 3, 1) := by decide +kernel
theorem dX5_favorite_7 : decode cX5_favorite 7 = .ok (.iload_n 3, 1) := by decide +kernel
theorem dX5_favorite_8 : decode cX5_favorite 8 = .ok (.aload_n 0, 1) := by decide +kernel
theorem dX5_favorite_9 : decode cX5_favorite 9 = .ok (.getfield 10, 3) := by decide +kernel
theorem dX5_favorite_12 : decode cX5_favorite 12 = .ok (.getfield 213, 3) := by decide +kernel
theorem dX5_favorite_15 : decode cX5_favorite 15 = .ok (.if_icmp .ge 41, 3) := by decide +kernel
theorem dX5_favorite_18 : decode cX5_favorite 18 = .ok (.aload_n 0, 1) := by decide +kernel
theorem dX5_favorite_19 : decode cX5_favorite 19 = .ok (.getfield 10, 3) := by decide +kernel
theorem dX5_favorite_22 : decode cX5_favorite 22 = .ok (.getfield 156, 3) := by decide +kernel
theorem dX5_favorite_25 : decode cX5_favorite 25 = .ok (.iload_n 3, 1) := by decide +kernel
theorem dX5_favorite_26 : decode cX5_favorite 26 = .ok (.aaload, 1) := by decide +kernel
theorem dX5_favorite_27 : decode cX5_favorite 27 = .ok (.getfield 165, 3) := by decide +kernel
theorem dX5_favorite_30 : decode cX5_favorite 30 = .ok (.fload_n 2, 1) := by decide +kernel
theorem dX5_favorite_31 : decode cX5_favorite 31 = .ok (.fcmp .l, 1) := by decide +kernel
theorem dX5_favorite_32 : decode cX5_favorite 32 = .ok (.ifCond .le 18, 3) := by decide +kernel
theorem dX5_favorite_35 : decode cX5_favorite 35 = .ok (.aload_n 0, 1) := by decide +kernel
theorem dX5_favorite_36 : decode cX5_favorite 36 = .ok (.getfield 10, 3) := by decide +kernel
theorem dX5_favorite_39 : decode cX5_favorite 39 = .ok (.getfield 156, 3) := by decide +kernel
theorem dX5_favorite_42 : decode cX5_favorite 42 = .ok (.iload_n 3, 1) := by decide +kernel
theorem dX5_favorite_43 : decode cX5_favorite 43 = .ok (.aaload, 1) := by decide +kernel
theorem dX5_favorite_44 : decode cX5_favorite 44 = .ok (.getfield 165, 3) := by decide +kernel
theorem dX5_favorite_47 : decode cX5_favorite 47 = .ok (.fstore_n 2, 1) := by decide +kernel
theorem dX5_favorite_48 : decode cX5_favorite 48 = .ok (.iload_n 3, 1) := by decide +kernel
theorem dX5_favorite_49 : decode cX5_favorite 49 = .ok (.istore_n 1, 1) := by decide +kernel
theorem dX5_favorite_50 : decode cX5_favorite 50 = .ok (.iinc 3 1, 3) := by decide +kernel
theorem dX5_favorite_53 : decode cX5_favorite 53 = .ok (.goto (-46), 3) := by decide +kernel
theorem dX5_favorite_56 : decode cX5_favorite 56 = .ok (.iload_n 1, 1) := by decide +kernel
theorem dX5_favorite_57 : decode cX5_favorite 57 = .ok (.ireturn, 1) := by decide +kernel
theorem dX5_carryOut_0 : decode cX5_carryOut 0 = .ok (.aload_n 0, 1) := by decide +kernel
theorem dX5_carryOut_1 : decode cX5_carryOut 1 = .ok (.getfield 30, 3) := by decide +kernel
theorem dX5_carryOut_4 : decode cX5_carryOut 4 = .ok (.invokevirtual 226, 3) := by decide +kernel
theorem dX5_carryOut_7 : decode cX5_carryOut 7 = .ok (.istore_n 1, 1) := by decide +kernel
theorem dX5_carryOut_8 : decode cX5_carryOut 8 = .ok (.iload_n 1, 1) := by decide +kernel
theorem dX5_carryOut_9 : decode cX5_carryOut 9 = .ok (.iconst (-1), 1) := by decide +kernel
theorem dX5_carryOut_10 : decode cX5_carryOut 10 = .ok (.if_icmp .eq 8, 3) := by decide +kernel
theorem dX5_carryOut_13 : decode cX5_carryOut 13 = .ok (.bipush (-10), 2) := by decide +kernel
theorem dX5_carryOut_15 : decode cX5_carryOut 15 = .ok (.iload_n 1, 1) := by decide +kernel
theorem dX5_carryOut_16 : decode cX5_carryOut 16 = .ok (.isub, 1) := by decide +kernel
theorem dX5_carryOut_17 : decode cX5_carryOut 17 = .ok (.ireturn, 1) := by decide +kernel
theorem dX5_carryOut_18 : decode cX5_carryOut 18 = .ok (.aload_n 0, 1) := by decide +kernel
theorem dX5_carryOut_19 : decode cX5_carryOut 19 = .ok (.invokevirtual 64, 3) := by decide +kernel
theorem dX5_carryOut_22 : decode cX5_carryOut 22 = .ok (.aload_n 0, 1) := by decide +kernel
theorem dX5_carryOut_23 : decode cX5_carryOut 23 = .ok (.getfield 30, 3) := by decide +kernel
theorem dX5_carryOut_26 : decode cX5_carryOut 26 = .ok (.invokevirtual 229, 3) := by decide +kernel
theorem dX5_carryOut_29 : decode cX5_carryOut 29 = .ok (.iconst 0, 1) := by decide +kernel
theorem dX5_carryOut_30 : decode cX5_carryOut 30 = .ok (.istore_n 2, 1) := by decide +kernel
theorem dX5_carryOut_31 : decode cX5_carryOut 31 = .ok (.iload_n 2, 1) := by decide +kernel
theorem dX5_carryOut_32 : decode cX5_carryOut 32 = .ok (.bipush 100, 2) := by decide +kernel
theorem dX5_carryOut_34 : decode cX5_carryOut 34 = .ok (.if_icmp .ge 26, 3) := by decide +kernel
theorem dX5_carryOut_37 : decode cX5_carryOut 37 = .ok (.aload_n 0, 1) := by decide +kernel
theorem dX5_carryOut_38 : decode cX5_carryOut 38 = .ok (.getfield 30, 3) := by decide +kernel
theorem dX5_carryOut_41 : decode cX5_carryOut 41 = .ok (.invokevirtual 232, 3) := by decide +kernel
theorem dX5_carryOut_44 : decode cX5_carryOut 44 = .ok (.ifCond .eq 16, 3) := by decide +kernel
theorem dX5_carryOut_47 : decode cX5_carryOut 47 = .ok (.aload_n 0, 1) := by decide +kernel
theorem dX5_carryOut_48 : decode cX5_carryOut 48 = .ok (.invokevirtual 235, 3) := by decide +kernel
theorem dX5_carryOut_51 : decode cX5_carryOut 51 = .ok (.ifCond .eq 9, 3) := by decide +kernel
theorem dX5_carryOut_54 : decode cX5_carryOut 54 = .ok (.iinc 2 1, 3) := by decide +kernel
theorem dX5_carryOut_57 : decode cX5_carryOut 57 = .ok (.goto (-26), 3) := by decide +kernel
theorem dX5_carryOut_60 : decode cX5_carryOut 60 = .ok (.iload_n 2, 1) := by decide +kernel
theorem dX5_carryOut_61 : decode cX5_carryOut 61 = .ok (.ireturn, 1) := by decide +kernel
theorem dX5_undo_0 : decode cX5_undo 0 = .ok (.aload_n 0, 1) := by decide +kernel
theorem dX5_undo_1 : decode cX5_undo 1 = .ok (.getfield 23, 3) := by decide +kernel
theorem dX5_undo_4 : decode cX5_undo 4 = .ok (.iconst 1, 1) := by decide +kernel
theorem dX5_undo_5 : decode cX5_undo 5 = .ok (.if_icmp .ge 13, 3) := by decide +kernel
theorem dX5_undo_8 : decode cX5_undo 8 = .ok (.new 81, 3) := by decide +kernel
theorem dX5_undo_11 : decode cX5_undo 11 = .ok (.dup, 1) := by decide +kernel
theorem dX5_undo_12 : decode cX5_undo 12 = .ok (.ldc 238, 2) := by decide +kernel
theorem dX5_undo_14 : decode cX5_undo 14 = .ok (.invokespecial 85, 3) := by decide +kernel
theorem dX5_undo_17 : decode cX5_undo 17 = .ok (.athrow, 1) := by decide +kernel
theorem dX5_undo_18 : decode cX5_undo 18 = .ok (.aload_n 0, 1) := by decide +kernel
theorem dX5_undo_19 : decode cX5_undo 19 = .ok (.dup, 1) := by decide +kernel
theorem dX5_undo_20 : decode cX5_undo 20 = .ok (.getfield 23, 3) := by decide +kernel
theorem dX5_undo_23 : decode cX5_undo 23 = .ok (.iconst 1, 1) := by decide +kernel
theorem dX5_undo_24 : decode cX5_undo 24 = .ok (.isub, 1) := by decide +kernel
theorem dX5_undo_25 : decode cX5_undo 25 = .ok (.putfield 23, 3) := by decide +kernel
theorem dX5_undo_28 : decode cX5_undo 28 = .ok (.aload_n 0, 1) := by decide +kernel
theorem dX5_undo_29 : decode cX5_undo 29 = .ok (.getfield 10, 3) := by decide +kernel
theorem dX5_undo_32 : decode cX5_undo 32 = .ok (.aload_n 0, 1) := by decide +kernel
theorem dX5_undo_33 : decode cX5_undo 33 = .ok (.getfield 19, 3) := by decide +kernel
theorem dX5_undo_36 : decode cX5_undo 36 = .ok (.aload_n 0, 1) := by decide +kernel
theorem dX5_undo_37 : decode cX5_undo 37 = .ok (.getfield 23, 3) := by decide +kernel
theorem dX5_undo_40 : decode cX5_undo 40 = .ok (.aaload, 1) := by decide +kernel
theorem dX5_undo_41 : decode cX5_undo 41 = .ok (.invokevirtual 205, 3) := by decide +kernel
theorem dX5_undo_44 : decode cX5_undo 44 = .ok (.aload_n 0, 1) := by decide +kernel
theorem dX5_undo_45 : decode cX5_undo 45 = .ok (.getfield 23, 3) := by decide +kernel
theorem dX5_undo_48 : decode cX5_undo 48 = .ok (.ireturn, 1) := by decide +kernel
theorem dX5_isBetween_0 : decode cX5_isBetween 0 = .ok (.iload_n 0, 1) := by decide +kernel
theorem dX5_isBetween_1 : decode cX5_isBetween 1 = .ok (.iload_n 1, 1) := by decide +kernel
theorem dX5_isBetween_2 : decode cX5_isBetween 2 = .ok (.if_icmp .lt 12, 3) := by decide +kernel
theorem dX5_isBetween_5 : decode cX5_isBetween 5 = .ok (.iload_n 0, 1) := by decide +kernel
theorem dX5_isBetween_6 : decode cX5_isBetween 6 = .ok (.iload_n 2, 1) := by decide +kernel
theorem dX5_isBetween_7 : decode cX5_isBetween 7 = .ok (.if_icmp .gt 7, 3) := by decide +kernel
theorem dX5_isBetween_10 : decode cX5_isBetween 10 = .ok (.iconst 1, 1) := by decide +kernel
theorem dX5_isBetween_11 : decode cX5_isBetween 11 = .ok (.goto 4, 3) := by decide +kernel
theorem dX5_isBetween_14 : decode cX5_isBetween 14 = .ok (.iconst 0, 1) := by decide +kernel
theorem dX5_isBetween_15 : decode cX5_isBetween 15 = .ok (.ireturn, 1) := by decide +kernel
theorem dX5_isStepBetween_0 : decode cX5_isStepBetween 0 = .ok (.iload_n 0, 1) := by decide +kernel
theorem dX5_isStepBetween_1 : decode cX5_isStepBetween 1 = .ok (.iload_n 2, 1) := by decide +kernel
theorem dX5_isStepBetween_2 : decode cX5_isStepBetween 2 = .ok (.iload_n 3, 1) := by decide +kernel
theorem dX5_isStepBetween_3 : decode cX5_isStepBetween 3 = .ok (.invokestatic 38, 3) := by decide +kernel
theorem dX5_isStepBetween_6 : decode cX5_isStepBetween 6 = .ok (.ifCond .eq 17, 3) := by decide +kernel
theorem dX5_isStepBetween_9 : decode cX5_isStepBetween 9 = .ok (.iload_n 1, 1) := by decide +kernel
theorem dX5_isStepBetween_10 : decode cX5_isStepBetween 10 = .ok (.ifCond .le 13, 3) := by decide +kernel
theorem dX5_isStepBetween_13 : decode cX5_isStepBetween 13 = .ok (.iload_n 0, 1) := by decide +kernel
theorem dX5_isStepBetween_14 : decode cX5_isStepBetween 14 = .ok (.iload_n 1, 1) := by decide +kernel
theorem dX5_isStepBetween_15 : decode cX5_isStepBetween 15 = .ok (.irem, 1) := by decide +kernel
theorem dX5_isStepBetween_16 : decode cX5_isStepBetween 16 = .ok (.ifCond .ne 7, 3) := by decide +kernel
theorem dX5_isStepBetween_19 : decode cX5_isStepBetween 19 = .ok (.iconst 1, 1) := by decide +kernel
theorem dX5_isStepBetween_20 : decode cX5_isStepBetween 20 = .ok (.goto 4, 3) := by decide +kernel
theorem dX5_isStepBetween_23 : decode cX5_isStepBetween 23 = .ok (.iconst 0, 1) := by decide +kernel
theorem dX5_isStepBetween_24 : decode cX5_isStepBetween 24 = .ok (.ireturn, 1) := by decide +kernel
theorem dX5_holdOut_0 : decode cX5_holdOut 0 = .ok (.aload_n 0, 1) := by decide +kernel
theorem dX5_holdOut_1 : decode cX5_holdOut 1 = .ok (.getfield 34, 3) := by decide +kernel
theorem dX5_holdOut_4 : decode cX5_holdOut 4 = .ok (.iconst 0, 1) := by decide +kernel
theorem dX5_holdOut_5 : decode cX5_holdOut 5 = .ok (.iload_n 1, 1) := by decide +kernel
theorem dX5_holdOut_6 : decode cX5_holdOut 6 = .ok (.iastore, 1) := by decide +kernel
theorem dX5_holdOut_7 : decode cX5_holdOut 7 = .ok (.aload_n 0, 1) := by decide +kernel
theorem dX5_holdOut_8 : decode cX5_holdOut 8 = .ok (.getfield 34, 3) := by decide +kernel
theorem dX5_holdOut_11 : decode cX5_holdOut 11 = .ok (.iconst 1, 1) := by decide +kernel
theorem dX5_holdOut_12 : decode cX5_holdOut 12 = .ok (.iload_n 2, 1) := by decide +kernel
theorem dX5_holdOut_13 : decode cX5_holdOut 13 = .ok (.iastore, 1) := by decide +kernel
theorem dX5_holdOut_14 : decode cX5_holdOut 14 = .ok (.aload_n 0, 1) := by decide +kernel
theorem dX5_holdOut_15 : decode cX5_holdOut 15 = .ok (.getfield 34, 3) := by decide +kernel
theorem dX5_holdOut_18 : decode cX5_holdOut 18 = .ok (.iconst 2, 1) := by decide +kernel
theorem dX5_holdOut_19 : decode cX5_holdOut 19 = .ok (.iload_n 3, 1) := by decide +kernel
theorem dX5_holdOut_20 : decode cX5_holdOut 20 = .ok (.iastore, 1) := by decide +kernel
theorem dX5_holdOut_21 : decode cX5_holdOut 21 = .ok (.aload_n 0, 1) := by decide +kernel
theorem dX5_holdOut_22 : decode cX5_holdOut 22 = .ok (.getfield 34, 3) := by decide +kernel
theorem dX5_holdOut_25 : decode cX5_holdOut 25 = .ok (.iconst 3, 1) := by decide +kernel
theorem dX5_holdOut_26 : decode cX5_holdOut 26 = .ok (.iload 4, 2) := by decide +kernel
theorem dX5_holdOut_28 : decode cX5_holdOut 28 = .ok (.iastore, 1) := by decide +kernel
theorem dX5_holdOut_29 : decode cX5_holdOut 29 = .ok (.iconst 0, 1) := by decide +kernel
theorem dX5_holdOut_30 : decode cX5_holdOut 30 = .ok (.istore 5, 2) := by decide +kernel
theorem dX5_holdOut_32 : decode cX5_holdOut 32 = .ok (.iload 5, 2) := by decide +kernel
theorem dX5_holdOut_34 : decode cX5_holdOut 34 = .ok (.iconst 4, 1) := by decide +kernel
theorem dX5_holdOut_35 : decode cX5_holdOut 35 = .ok (.if_icmp .ge 27, 3) := by decide +kernel
theorem dX5_holdOut_38 : decode cX5_holdOut 38 = .ok (.aload_n 0, 1) := by decide +kernel
theorem dX5_holdOut_39 : decode cX5_holdOut 39 = .ok (.getfield 34, 3) := by decide +kernel
theorem dX5_holdOut_42 : decode cX5_holdOut 42 = .ok (.iload 5, 2) := by decide +kernel
theorem dX5_holdOut_44 : decode cX5_holdOut 44 = .ok (.iaload, 1) := by decide +kernel
theorem dX5_holdOut_45 : decode cX5_holdOut 45 = .ok (.iconst 0, 1) := by decide +kernel
theorem dX5_holdOut_46 : decode cX5_holdOut 46 = .ok (.bipush 9, 2) := by decide +kernel
theorem dX5_holdOut_48 : decode cX5_holdOut 48 = .ok (.invokestatic 38, 3) := by decide +kernel
theorem dX5_holdOut_51 : decode cX5_holdOut 51 = .ok (.ifCond .ne 5, 3) := by decide +kernel
theorem dX5_holdOut_54 : decode cX5_holdOut 54 = .ok (.iconst 0, 1) := by decide +kernel
theorem dX5_holdOut_55 : decode cX5_holdOut 55 = .ok (.ireturn, 1) := by decide +kernel
theorem dX5_holdOut_56 : decode cX5_holdOut 56 = .ok (.iinc 5 1, 3) := by decide +kernel
theorem dX5_holdOut_59 : decode cX5_holdOut 59 = .ok (.goto (-27), 3) := by decide +kernel
theorem dX5_holdOut_62 : decode cX5_holdOut 62 = .ok (.iconst 1, 1) := by decide +kernel
theorem dX5_holdOut_63 : decode cX5_holdOut 63 = .ok (.ireturn, 1) := by decide +kernel
theorem dX5_save_0 : decode cX5_save 0 = .ok (.aload_n 0, 1) := by decide +kernel
theorem dX5_save_1 : decode cX5_save 1 = .ok (.getfield 23, 3) := by decide +kernel
theorem dX5_save_4 : decode cX5_save 4 = .ok (.iconst 4, 1) := by decide +kernel
theorem dX5_save_5 : decode cX5_save 5 = .ok (.if_icmp .lt 7, 3) := by decide +kernel
theorem dX5_save_8 : decode cX5_save 8 = .ok (.aload_n 0, 1) := by decide +kernel
theorem dX5_save_9 : decode cX5_save 9 = .ok (.invokevirtual 248, 3) := by decide +kernel
theorem dX5_save_12 : decode cX5_save 12 = .ok (.aload_n 0, 1) := by decide +kernel
theorem dX5_save_13 : decode cX5_save 13 = .ok (.getfield 19, 3) := by decide +kernel
theorem dX5_save_16 : decode cX5_save 16 = .ok (.aload_n 0, 1) := by decide +kernel
theorem dX5_save_17 : decode cX5_save 17 = .ok (.getfield 23, 3) := by decide +kernel
theorem dX5_save_20 : decode cX5_save 20 = .ok (.aaload, 1) := by decide +kernel
theorem dX5_save_21 : decode cX5_save 21 = .ok (.aload_n 0, 1) := by decide +kernel
theorem dX5_save_22 : decode cX5_save 22 = .ok (.getfield 10, 3) := by decide +kernel
theorem dX5_save_25 : decode cX5_save 25 = .ok (.invokevirtual 205, 3) := by decide +kernel
theorem dX5_save_28 : decode cX5_save 28 = .ok (.aload_n 0, 1) := by decide +kernel
theorem dX5_save_29 : decode cX5_save 29 = .ok (.dup, 1) := by decide +kernel
theorem dX5_save_30 : decode cX5_save 30 = .ok (.getfield 23, 3) := by decide +kernel
theorem dX5_save_33 : decode cX5_save 33 = .ok (.iconst 1, 1) := by decide +kernel
theorem dX5_save_34 : decode cX5_save 34 = .ok (.iadd, 1) := by decide +kernel
theorem dX5_save_35 : decode cX5_save 35 = .ok (.putfield 23, 3) := by decide +kernel
theorem dX5_save_38 : decode cX5_save 38 = .ok (.return_, 1) := by decide +kernel
theorem dX5_dropOldest_0 : decode cX5_dropOldest 0 = .ok (.aload_n 0, 1) := by decide +kernel
theorem dX5_dropOldest_1 : decode cX5_dropOldest 1 = .ok (.getfield 19, 3) := by decide +kernel
theorem dX5_dropOldest_4 : decode cX5_dropOldest 4 = .ok (.iconst 0, 1) := by decide +kernel
theorem dX5_dropOldest_5 : decode cX5_dropOldest 5 = .ok (.aaload, 1) := by decide +kernel
theorem dX5_dropOldest_6 : decode cX5_dropOldest 6 = .ok (.astore_n 1, 1) := by decide +kernel
theorem dX5_dropOldest_7 : decode cX5_dropOldest 7 = .ok (.iconst 1, 1) := by decide +kernel
theorem dX5_dropOldest_8 : decode cX5_dropOldest 8 = .ok (.istore_n 2, 1) := by decide +kernel
theorem dX5_dropOldest_9 : decode cX5_dropOldest 9 = .ok (.iload_n 2, 1) := by decide +kernel
theorem dX5_dropOldest_10 : decode cX5_dropOldest 10 = .ok (.iconst 4, 1) := by decide +kernel
theorem dX5_dropOldest_11 : decode cX5_dropOldest 11 = .ok (.if_icmp .ge 23, 3) := by decide +kernel
theorem dX5_dropOldest_14 : decode cX5_dropOldest 14 = .ok (.aload_n 0, 1) := by decide +kernel
theorem dX5_dropOldest_15 : decode cX5_dropOldest 15 = .ok (.getfield 19, 3) := by decide +kernel
theorem dX5_dropOldest_18 : decode cX5_dropOldest 18 = .ok (.iload_n 2, 1) := by decide +kernel
theorem dX5_dropOldest_19 : decode cX5_dropOldest 19 = .ok (.iconst 1, 1) := by decide +kernel
theorem dX5_dropOldest_20 : decode cX5_dropOldest 20 = .ok (.isub, 1) := by decide +kernel
theorem dX5_dropOldest_21 : decode cX5_dropOldest 21 = .ok (.aload_n 0, 1) := by decide +kernel
theorem dX5_dropOldest_22 : decode cX5_dropOldest 22 = .ok (.getfield 19, 3) := by decide +kernel
theorem dX5_dropOldest_25 : decode cX5_dropOldest 25 = .ok (.iload_n 2, 1) := by decide +kernel
theorem dX5_dropOldest_26 : decode cX5_dropOldest 26 = .ok (.aaload, 1) := by decide +kernel
theorem dX5_dropOldest_27 : decode cX5_dropOldest 27 = .ok (.aastore, 1) := by decide +kernel
theorem dX5_dropOldest_28 : decode cX5_dropOldest 28 = .ok (.iinc 2 1, 3) := by decide +kernel
theorem dX5_dropOldest_31 : decode cX5_dropOldest 31 = .ok (.goto (-22), 3) := by decide +kernel
theorem dX5_dropOldest_34 : decode cX5_dropOldest 34 = .ok (.aload_n 0, 1) := by decide +kernel
theorem dX5_dropOldest_35 : decode cX5_dropOldest 35 = .ok (.getfield 19, 3) := by decide +kernel
theorem dX5_dropOldest_38 : decode cX5_dropOldest 38 = .ok (.iconst 3, 1) := by decide +kernel
theorem dX5_dropOldest_39 : decode cX5_dropOldest 39 = .ok (.aload_n 1, 1) := by decide +kernel
theorem dX5_dropOldest_40 : decode cX5_dropOldest 40 = .ok (.aastore, 1) := by decide +kernel
theorem dX5_dropOldest_41 : decode cX5_dropOldest 41 = .ok (.aload_n 0, 1) := by decide +kernel
theorem dX5_dropOldest_42 : decode cX5_dropOldest 42 = .ok (.iconst 3, 1) := by decide +kernel
theorem dX5_dropOldest_43 : decode cX5_dropOldest 43 = .ok (.putfield 23, 3) := by decide +kernel
theorem dX5_dropOldest_46 : decode cX5_dropOldest 46 = .ok (.return_, 1) := by decide +kernel
theorem dX5_obey_0 : decode cX5_obey 0 = .ok (.aload_n 0, 1) := by decide +kernel
theorem dX5_obey_1 : decode cX5_obey 1 = .ok (.getfield 30, 3) := by decide +kernel
theorem dX5_obey_4 : decode cX5_obey 4 = .ok (.getfield 251, 3) := by decide +kernel
theorem dX5_obey_7 : decode cX5_obey 7 = .ok (.istore_n 1, 1) := by decide +kernel
theorem dX5_obey_8 : decode cX5_obey 8 = .ok (.aload_n 0, 1) := by decide +kernel
theorem dX5_obey_9 : decode cX5_obey 9 = .ok (.getfield 30, 3) := by decide +kernel
theorem dX5_obey_12 : decode cX5_obey 12 = .ok (.getfield 254, 3) := by decide +kernel
theorem dX5_obey_15 : decode cX5_obey 15 = .ok (.istore_n 2, 1) := by decide +kernel
theorem dX5_obey_16 : decode cX5_obey 16 = .ok (.aload_n 0, 1) := by decide +kernel
theorem dX5_obey_17 : decode cX5_obey 17 = .ok (.getfield 30, 3) := by decide +kernel
theorem dX5_obey_20 : decode cX5_obey 20 = .ok (.getfield 256, 3) := by decide +kernel
theorem dX5_obey_23 : decode cX5_obey 23 = .ok (.lookupswitch 166 #[(98, 78), (102, 127), (104, 142), (115, 41)], 41) := by decide +kernel
theorem dX5_obey_64 : decode cX5_obey 64 = .ok (.aload_n 0, 1) := by decide +kernel
theorem dX5_obey_65 : decode cX5_obey 65 = .ok (.getfield 10, 3) := by decide +kernel
theorem dX5_obey_68 : decode cX5_obey 68 = .ok (.iload_n 1, 1) := by decide +kernel
theorem dX5_obey_69 : decode cX5_obey 69 = .ok (.invokevirtual 90, 3) := by decide +kernel
theorem dX5_obey_72 : decode cX5_obey 72 = .ok (.ifCond .eq 15, 3) := by decide +kernel
theorem dX5_obey_75 : decode cX5_obey 75 = .ok (.aload_n 0, 1) := by decide +kernel
theorem dX5_obey_76 : decode cX5_obey 76 = .ok (.getfield 10, 3) := by decide +kernel
theorem dX5_obey_79 : decode cX5_obey 79 = .ok (.iload_n 1, 1) := by decide +kernel
theorem dX5_obey_80 : decode cX5_obey 80 = .ok (.iload_n 2, 1) := by decide +kernel
theorem dX5_obey_81 : decode cX5_obey 81 = .ok (.invokevirtual 101, 3) := by decide +kernel
theorem dX5_obey_84 : decode cX5_obey 84 = .ok (.ifCond .ne 5, 3) := by decide +kernel
theorem dX5_obey_87 : decode cX5_obey 87 = .ok (.iconst 0, 1) := by decide +kernel
theorem dX5_obey_88 : decode cX5_obey 88 = .ok (.ireturn, 1) := by decide +kernel
theorem dX5_obey_89 : decode cX5_obey 89 = .ok (.aload_n 0, 1) := by decide +kernel
theorem dX5_obey_90 : decode cX5_obey 90 = .ok (.getfield 10, 3) := by decide +kernel
theorem dX5_obey_93 : decode cX5_obey 93 = .ok (.iload_n 1, 1) := by decide +kernel
theorem dX5_obey_94 : decode cX5_obey 94 = .ok (.iload_n 2, 1) := by decide +kernel
theorem dX5_obey_95 : decode cX5_obey 95 = .ok (.invokevirtual 107, 3) := by decide +kernel
theorem dX5_obey_98 : decode cX5_obey 98 = .ok (.pop, 1) := by decide +kernel
theorem dX5_obey_99 : decode cX5_obey 99 = .ok (.iconst 1, 1) := by decide +kernel
theorem dX5_obey_100 : decode cX5_obey 100 = .ok (.ireturn, 1) := by decide +kernel
theorem dX5_obey_101 : decode cX5_obey 101 = .ok (.aload_n 0, 1) := by decide +kernel
theorem dX5_obey_102 : decode cX5_obey 102 = .ok (.getfield 10, 3) := by decide +kernel
theorem dX5_obey_105 : decode cX5_obey 105 = .ok (.iload_n 1, 1) := by decide +kernel
theorem dX5_obey_106 : decode cX5_obey 106 = .ok (.invokevirtual 90, 3) := by decide +kernel
theorem dX5_obey_109 : decode cX5_obey 109 = .ok (.ifCond .eq 21, 3) := by decide +kernel
theorem dX5_obey_112 : decode cX5_obey 112 = .ok (.aload_n 0, 1) := by decide +kernel
theorem dX5_obey_113 : decode cX5_obey 113 = .ok (.getfield 10, 3) := by decide +kernel
theorem dX5_obey_116 : decode cX5_obey 116 = .ok (.iload_n 1, 1) := by decide +kernel
theorem dX5_obey_117 : decode cX5_obey 117 = .ok (.aload_n 0, 1) := by decide +kernel
theorem dX5_obey_118 : decode cX5_obey 118 = .ok (.getfield 30, 3) := by decide +kernel
theorem dX5_obey_121 : decode cX5_obey 121 = .ok (.getfield 259, 3) := by decide +kernel
theorem dX5_obey_124 : decode cX5_obey 124 = .ok (.invokevirtual 126, 3) := by decide +kernel
theorem dX5_obey_127 : decode cX5_obey 127 = .ok (.ifCond .ne 5, 3) := by decide +kernel
theorem dX5_obey_130 : decode cX5_obey 130 = .ok (.iconst 0, 1) := by decide +kernel
theorem dX5_obey_131 : decode cX5_obey 131 = .ok (.ireturn, 1) := by decide +kernel
theorem dX5_obey_132 : decode cX5_obey 132 = .ok (.aload_n 0, 1) := by decide +kernel
theorem dX5_obey_133 : decode cX5_obey 133 = .ok (.getfield 10, 3) := by decide +kernel
theorem dX5_obey_136 : decode cX5_obey 136 = .ok (.iload_n 1, 1) := by decide +kernel
theorem dX5_obey_137 : decode cX5_obey 137 = .ok (.aload_n 0, 1) := by decide +kernel
theorem dX5_obey_138 : decode cX5_obey 138 = .ok (.getfield 30, 3) := by decide +kernel
theorem dX5_obey_141 : decode cX5_obey 141 = .ok (.getfield 259, 3) := by decide +kernel
theorem dX5_obey_144 : decode cX5_obey 144 = .ok (.invokevirtual 132, 3) := by decide +kernel
theorem dX5_obey_147 : decode cX5_obey 147 = .ok (.pop, 1) := by decide +kernel
theorem dX5_obey_148 : decode cX5_obey 148 = .ok (.iconst 1, 1) := by decide +kernel
theorem dX5_obey_149 : decode cX5_obey 149 = .ok (.ireturn, 1) := by decide +kernel
theorem dX5_obey_150 : decode cX5_obey 150 = .ok (.aload_n 0, 1) := by decide +kernel
theorem dX5_obey_151 : decode cX5_obey 151 = .ok (.getfield 10, 3) := by decide +kernel
theorem dX5_obey_154 : decode cX5_obey 154 = .ok (.getfield 114, 3) := by decide +kernel
theorem dX5_obey_157 : decode cX5_obey 157 = .ok (.iload_n 1, 1) := by decide +kernel
theorem dX5_obey_158 : decode cX5_obey 158 = .ok (.iload_n 2, 1) := by decide +kernel
theorem dX5_obey_159 : decode cX5_obey 159 = .ok (.invokevirtual 118, 3) := by decide +kernel
theorem dX5_obey_162 : decode cX5_obey 162 = .ok (.pop, 1) := by decide +kernel
theorem dX5_obey_163 : decode cX5_obey 163 = .ok (.iconst 1, 1) := by decide +kernel
theorem dX5_obey_164 : decode cX5_obey 164 = .ok (.ireturn, 1) := by decide +kernel
theorem dX5_obey_165 : decode cX5_obey 165 = .ok (.aload_n 0, 1) := by decide +kernel
theorem dX5_obey_166 : decode cX5_obey 166 = .ok (.getfield 10, 3) := by decide +kernel
theorem dX5_obey_169 : decode cX5_obey 169 = .ok (.iload_n 2, 1) := by decide +kernel
theorem dX5_obey_170 : decode cX5_obey 170 = .ok (.invokevirtual 142, 3) := by decide +kernel
theorem dX5_obey_173 : decode cX5_obey 173 = .ok (.ifCond .ne 5, 3) := by decide +kernel
theorem dX5_obey_176 : decode cX5_obey 176 = .ok (.iconst 0, 1) := by decide +kernel
theorem dX5_obey_177 : decode cX5_obey 177 = .ok (.ireturn, 1) := by decide +kernel
theorem dX5_obey_178 : decode cX5_obey 178 = .ok (.aload_n 0, 1) := by decide +kernel
theorem dX5_obey_179 : decode cX5_obey 179 = .ok (.getfield 10, 3) := by decide +kernel
theorem dX5_obey_182 : decode cX5_obey 182 = .ok (.iload_n 2, 1) := by decide +kernel
theorem dX5_obey_183 : decode cX5_obey 183 = .ok (.invokevirtual 147, 3) := by decide +kernel
theorem dX5_obey_186 : decode cX5_obey 186 = .ok (.pop, 1) := by decide +kernel
theorem dX5_obey_187 : decode cX5_obey 187 = .ok (.iconst 1, 1) := by decide +kernel
theorem dX5_obey_188 : decode cX5_obey 188 = .ok (.ireturn, 1) := by decide +kernel
theorem dX5_obey_189 : decode cX5_obey 189 = .ok (.iconst 0, 1) := by decide +kernel
theorem dX5_obey_190 : decode cX5_obey 190 = .ok (.ireturn, 1) := by decide +kernel
theorem dX5_worth_0 : decode cX5_worth 0 = .ok (.iconst 0, 1) := by decide +kernel
theorem dX5_worth_1 : decode cX5_worth 1 = .ok (.istore_n 1, 1) := by decide +kernel
theorem dX5_worth_2 : decode cX5_worth 2 = .ok (.iconst 0, 1) := by decide +kernel
theorem dX5_worth_3 : decode cX5_worth 3 = .ok (.istore_n 2, 1) := by decide +kernel
theorem dX5_worth_4 : decode cX5_worth 4 = .ok (.iload_n 2, 1) := by decide +kernel
theorem dX5_worth_5 : decode cX5_worth 5 = .ok (.iconst 4, 1) := by decide +kernel
theorem dX5_worth_6 : decode cX5_worth 6 = .ok (.if_icmp .ge 27, 3) := by decide +kernel
theorem dX5_worth_9 : decode cX5_worth 9 = .ok (.iload_n 2, 1) := by decide +kernel
theorem dX5_worth_10 : decode cX5_worth 10 = .ok (.aload_n 0, 1) := by decide +kernel
theorem dX5_worth_11 : decode cX5_worth 11 = .ok (.arraylength, 1) := by decide +kernel
theorem dX5_worth_12 : decode cX5_worth 12 = .ok (.if_icmp .ge 21, 3) := by decide +kernel
theorem dX5_worth_15 : decode cX5_worth 15 = .ok (.iload_n 1, 1) := by decide +kernel
theorem dX5_worth_16 : decode cX5_worth 16 = .ok (.aload_n 0, 1) := by decide +kernel
theorem dX5_worth_17 : decode cX5_worth 17 = .ok (.iload_n 2, 1) := by decide +kernel
theorem dX5_worth_18 : decode cX5_worth 18 = .ok (.iaload, 1) := by decide +kernel
theorem dX5_worth_19 : decode cX5_worth 19 = .ok (.getstatic 263, 3) := by decide +kernel
theorem dX5_worth_22 : decode cX5_worth 22 = .ok (.iload_n 2, 1) := by decide +kernel
theorem dX5_worth_23 : decode cX5_worth 23 = .ok (.iaload, 1) := by decide +kernel
theorem dX5_worth_24 : decode cX5_worth 24 = .ok (.imul, 1) := by decide +kernel
theorem dX5_worth_25 : decode cX5_worth 25 = .ok (.iadd, 1) := by decide +kernel
theorem dX5_worth_26 : decode cX5_worth 26 = .ok (.istore_n 1, 1) := by decide +kernel
theorem dX5_worth_27 : decode cX5_worth 27 = .ok (.iinc 2 1, 3) := by decide +kernel
theorem dX5_worth_30 : decode cX5_worth 30 = .ok (.goto (-26), 3) := by decide +kernel
theorem dX5_worth_33 : decode cX5_worth 33 = .ok (.iload_n 1, 1) := by decide +kernel
theorem dX5_worth_34 : decode cX5_worth 34 = .ok (.ireturn, 1) := by decide +kernel
