section
-- ===== PART A: goes FIRST, ahead of the names: the tables' words, and 'selects' of the private methods out of them =====
/-- a private method of a class that the tables say can be made, by its rows of tables_1 -/
def lw_okq (q : MethodName × Nat) : Prop := (q.1.cls ≠ "java/lang/invoke/MethodHandle" ∧ q.1.cls ≠ "java/lang/invoke/VarHandle") ∧ Cond.instantiable q.1.cls q.2 ∈ tables_1 ∧ Cond.privateMethod q.1 ∈ tables_1 ∧ Cond.instanceMethod q.1 ∈ tables_1
theorem lw_p0 : lw_okq (⟨"CoilPrices", "save", "()V"⟩, 6) := ⟨⟨by decide +kernel, by decide +kernel⟩, List.mem_of_getElem? (i := 18) (by decide +kernel), List.mem_of_getElem? (i := 223) (by decide +kernel), List.mem_of_getElem? (i := 224) (by decide +kernel)⟩
theorem lw_p1 : lw_okq (⟨"CoilPrices", "dropOldest", "()V"⟩, 6) := ⟨⟨by decide +kernel, by decide +kernel⟩, List.mem_of_getElem? (i := 18) (by decide +kernel), List.mem_of_getElem? (i := 227) (by decide +kernel), List.mem_of_getElem? (i := 228) (by decide +kernel)⟩
theorem lw_p2 : lw_okq (⟨"CoilPrices$OrderText", "byteAt", "(I)I"⟩, 8) := ⟨⟨by decide +kernel, by decide +kernel⟩, List.mem_of_getElem? (i := 164) (by decide +kernel), List.mem_of_getElem? (i := 276) (by decide +kernel), List.mem_of_getElem? (i := 277) (by decide +kernel)⟩
theorem lw_p3 : lw_okq (⟨"CoilPrices$OrderText", "readDigit", "(I)I"⟩, 8) := ⟨⟨by decide +kernel, by decide +kernel⟩, List.mem_of_getElem? (i := 164) (by decide +kernel), List.mem_of_getElem? (i := 280) (by decide +kernel), List.mem_of_getElem? (i := 281) (by decide +kernel)⟩
theorem lw_p4 : lw_okq (⟨"CoilPrices$OrderText", "stumble", "()V"⟩, 8) := ⟨⟨by decide +kernel, by decide +kernel⟩, List.mem_of_getElem? (i := 164) (by decide +kernel), List.mem_of_getElem? (i := 284) (by decide +kernel), List.mem_of_getElem? (i := 285) (by decide +kernel)⟩
theorem lw_p5 : lw_okq (⟨"CoilPrices$OrderText", "readSign", "(I)V"⟩, 8) := ⟨⟨by decide +kernel, by decide +kernel⟩, List.mem_of_getElem? (i := 164) (by decide +kernel), List.mem_of_getElem? (i := 288) (by decide +kernel), List.mem_of_getElem? (i := 289) (by decide +kernel)⟩
theorem lw_p6 : lw_okq (⟨"CoilPrices$OrderText", "readNumber", "(I)I"⟩, 8) := ⟨⟨by decide +kernel, by decide +kernel⟩, List.mem_of_getElem? (i := 164) (by decide +kernel), List.mem_of_getElem? (i := 292) (by decide +kernel), List.mem_of_getElem? (i := 293) (by decide +kernel)⟩
theorem lw_p7 : lw_okq (⟨"CoilPrices$OrderText", "readCoins", "()V"⟩, 8) := ⟨⟨by decide +kernel, by decide +kernel⟩, List.mem_of_getElem? (i := 164) (by decide +kernel), List.mem_of_getElem? (i := 299) (by decide +kernel), List.mem_of_getElem? (i := 300) (by decide +kernel)⟩
theorem lw_p8 : lw_okq (⟨"CoilPrices", "obey", "()Z"⟩, 6) := ⟨⟨by decide +kernel, by decide +kernel⟩, List.mem_of_getElem? (i := 18) (by decide +kernel), List.mem_of_getElem? (i := 305) (by decide +kernel), List.mem_of_getElem? (i := 306) (by decide +kernel)⟩
theorem lw_p9 : lw_okq (⟨"CoilPrices$Payment", "take", "(II)I"⟩, 2) := ⟨⟨by decide +kernel, by decide +kernel⟩, List.mem_of_getElem? (i := 40) (by decide +kernel), List.mem_of_getElem? (i := 343) (by decide +kernel), List.mem_of_getElem? (i := 344) (by decide +kernel)⟩
theorem lw_p10 : lw_okq (⟨"CoilPrices$Machine", "passHour", "()V"⟩, 6) := ⟨⟨by decide +kernel, by decide +kernel⟩, List.mem_of_getElem? (i := 26) (by decide +kernel), List.mem_of_getElem? (i := 392) (by decide +kernel), List.mem_of_getElem? (i := 393) (by decide +kernel)⟩
theorem lw_p11 : lw_okq (⟨"CoilPrices$Machine", "watch", "(LCoilPrices$Coil;LCoilPrices$Coil;)V"⟩, 6) := ⟨⟨by decide +kernel, by decide +kernel⟩, List.mem_of_getElem? (i := 26) (by decide +kernel), List.mem_of_getElem? (i := 405) (by decide +kernel), List.mem_of_getElem? (i := 406) (by decide +kernel)⟩
theorem lw_p12 : lw_okq (⟨"CoilPrices$Machine", "sumOfFacts", "(I)I"⟩, 6) := ⟨⟨by decide +kernel, by decide +kernel⟩, List.mem_of_getElem? (i := 26) (by decide +kernel), List.mem_of_getElem? (i := 431) (by decide +kernel), List.mem_of_getElem? (i := 432) (by decide +kernel)⟩
theorem lw_p13 : lw_okq (⟨"java/lang/Throwable", "fillInStackTrace", "(I)Ljava/lang/Throwable;"⟩, 6) := ⟨⟨by decide +kernel, by decide +kernel⟩, List.mem_of_getElem? (i := 493) (by decide +kernel), List.mem_of_getElem? (i := 491) (by decide +kernel), List.mem_of_getElem? (i := 492) (by decide +kernel)⟩
theorem lw_p14 : lw_okq (⟨"CoilPrices", "holdOut", "(IIII)Z"⟩, 6) := ⟨⟨by decide +kernel, by decide +kernel⟩, List.mem_of_getElem? (i := 18) (by decide +kernel), List.mem_of_getElem? (i := 618) (by decide +kernel), List.mem_of_getElem? (i := 619) (by decide +kernel)⟩
theorem lw_p15 : lw_okq (⟨"CoilPricesModel", "hold", "()V"⟩, 19) := ⟨⟨by decide +kernel, by decide +kernel⟩, List.mem_of_getElem? (i := 751) (by decide +kernel), List.mem_of_getElem? (i := 824) (by decide +kernel), List.mem_of_getElem? (i := 825) (by decide +kernel)⟩
def lw_privs_1 : List (MethodName × Nat) := [(⟨"CoilPrices", "save", "()V"⟩, 6), (⟨"CoilPrices", "dropOldest", "()V"⟩, 6), (⟨"CoilPrices$OrderText", "byteAt", "(I)I"⟩, 8), (⟨"CoilPrices$OrderText", "readDigit", "(I)I"⟩, 8), (⟨"CoilPrices$OrderText", "stumble", "()V"⟩, 8), (⟨"CoilPrices$OrderText", "readSign", "(I)V"⟩, 8), (⟨"CoilPrices$OrderText", "readNumber", "(I)I"⟩, 8), (⟨"CoilPrices$OrderText", "readCoins", "()V"⟩, 8), (⟨"CoilPrices", "obey", "()Z"⟩, 6), (⟨"CoilPrices$Payment", "take", "(II)I"⟩, 2), (⟨"CoilPrices$Machine", "passHour", "()V"⟩, 6), (⟨"CoilPrices$Machine", "watch", "(LCoilPrices$Coil;LCoilPrices$Coil;)V"⟩, 6), (⟨"CoilPrices$Machine", "sumOfFacts", "(I)I"⟩, 6), (⟨"java/lang/Throwable", "fillInStackTrace", "(I)Ljava/lang/Throwable;"⟩, 6), (⟨"CoilPrices", "holdOut", "(IIII)Z"⟩, 6), (⟨"CoilPricesModel", "hold", "()V"⟩, 19)]
theorem lw_r1 : ∀ q ∈ lw_privs_1, lw_okq q := List.forall_mem_cons.mpr ⟨lw_p0, List.forall_mem_cons.mpr ⟨lw_p1, List.forall_mem_cons.mpr ⟨lw_p2, List.forall_mem_cons.mpr ⟨lw_p3, List.forall_mem_cons.mpr ⟨lw_p4, List.forall_mem_cons.mpr ⟨lw_p5, List.forall_mem_cons.mpr ⟨lw_p6, List.forall_mem_cons.mpr ⟨lw_p7, List.forall_mem_cons.mpr ⟨lw_p8, List.forall_mem_cons.mpr ⟨lw_p9, List.forall_mem_cons.mpr ⟨lw_p10, List.forall_mem_cons.mpr ⟨lw_p11, List.forall_mem_cons.mpr ⟨lw_p12, List.forall_mem_cons.mpr ⟨lw_p13, List.forall_mem_cons.mpr ⟨lw_p14, List.forall_mem_cons.mpr ⟨lw_p15, fun _ h => absurd h List.not_mem_nil⟩⟩⟩⟩⟩⟩⟩⟩⟩⟩⟩⟩⟩⟩⟩⟩
theorem lw_p16 : lw_okq (⟨"CoilPricesModel", "refuse", "(I)I"⟩, 19) := ⟨⟨by decide +kernel, by decide +kernel⟩, List.mem_of_getElem? (i := 751) (by decide +kernel), List.mem_of_getElem? (i := 837) (by decide +kernel), List.mem_of_getElem? (i := 838) (by decide +kernel)⟩
theorem lw_p17 : lw_okq (⟨"CoilPricesModel", "ends", "(I)I"⟩, 19) := ⟨⟨by decide +kernel, by decide +kernel⟩, List.mem_of_getElem? (i := 751) (by decide +kernel), List.mem_of_getElem? (i := 841) (by decide +kernel), List.mem_of_getElem? (i := 842) (by decide +kernel)⟩
theorem lw_p18 : lw_okq (⟨"CoilPricesModel", "lay", "(III)V"⟩, 19) := ⟨⟨by decide +kernel, by decide +kernel⟩, List.mem_of_getElem? (i := 751) (by decide +kernel), List.mem_of_getElem? (i := 852) (by decide +kernel), List.mem_of_getElem? (i := 853) (by decide +kernel)⟩
theorem lw_p19 : lw_okq (⟨"CoilPricesModel", "doStock", "(II)I"⟩, 19) := ⟨⟨by decide +kernel, by decide +kernel⟩, List.mem_of_getElem? (i := 751) (by decide +kernel), List.mem_of_getElem? (i := 860) (by decide +kernel), List.mem_of_getElem? (i := 861) (by decide +kernel)⟩
theorem lw_p20 : lw_okq (⟨"CoilPricesModel", "isCoil", "(I)Z"⟩, 19) := ⟨⟨by decide +kernel, by decide +kernel⟩, List.mem_of_getElem? (i := 751) (by decide +kernel), List.mem_of_getElem? (i := 864) (by decide +kernel), List.mem_of_getElem? (i := 865) (by decide +kernel)⟩
theorem lw_p21 : lw_okq (⟨"CoilPricesModel", "of", "(II)I"⟩, 19) := ⟨⟨by decide +kernel, by decide +kernel⟩, List.mem_of_getElem? (i := 751) (by decide +kernel), List.mem_of_getElem? (i := 868) (by decide +kernel), List.mem_of_getElem? (i := 869) (by decide +kernel)⟩
theorem lw_p22 : lw_okq (⟨"CoilPricesModel", "doFill", "(II)I"⟩, 19) := ⟨⟨by decide +kernel, by decide +kernel⟩, List.mem_of_getElem? (i := 751) (by decide +kernel), List.mem_of_getElem? (i := 876) (by decide +kernel), List.mem_of_getElem? (i := 877) (by decide +kernel)⟩
theorem lw_p23 : lw_okq (⟨"CoilPricesModel", "keepsPromises", "()V"⟩, 19) := ⟨⟨by decide +kernel, by decide +kernel⟩, List.mem_of_getElem? (i := 751) (by decide +kernel), List.mem_of_getElem? (i := 880) (by decide +kernel), List.mem_of_getElem? (i := 881) (by decide +kernel)⟩
theorem lw_p24 : lw_okq (⟨"CoilPricesModel", "pays", "(III)Z"⟩, 19) := ⟨⟨by decide +kernel, by decide +kernel⟩, List.mem_of_getElem? (i := 751) (by decide +kernel), List.mem_of_getElem? (i := 884) (by decide +kernel), List.mem_of_getElem? (i := 885) (by decide +kernel)⟩
theorem lw_p25 : lw_okq (⟨"CoilPricesModel", "takes", "()V"⟩, 19) := ⟨⟨by decide +kernel, by decide +kernel⟩, List.mem_of_getElem? (i := 751) (by decide +kernel), List.mem_of_getElem? (i := 888) (by decide +kernel), List.mem_of_getElem? (i := 889) (by decide +kernel)⟩
theorem lw_p26 : lw_okq (⟨"CoilPricesModel", "lays", "(IIII)V"⟩, 19) := ⟨⟨by decide +kernel, by decide +kernel⟩, List.mem_of_getElem? (i := 751) (by decide +kernel), List.mem_of_getElem? (i := 899) (by decide +kernel), List.mem_of_getElem? (i := 900) (by decide +kernel)⟩
theorem lw_p27 : lw_okq (⟨"CoilPricesModel", "doBuy", "(I)I"⟩, 19) := ⟨⟨by decide +kernel, by decide +kernel⟩, List.mem_of_getElem? (i := 751) (by decide +kernel), List.mem_of_getElem? (i := 903) (by decide +kernel), List.mem_of_getElem? (i := 904) (by decide +kernel)⟩
theorem lw_p28 : lw_okq (⟨"CoilPricesModel", "puts", "(II)V"⟩, 19) := ⟨⟨by decide +kernel, by decide +kernel⟩, List.mem_of_getElem? (i := 751) (by decide +kernel), List.mem_of_getElem? (i := 910) (by decide +kernel), List.mem_of_getElem? (i := 911) (by decide +kernel)⟩
theorem lw_p29 : lw_okq (⟨"CoilPricesModel", "owed", "()I"⟩, 19) := ⟨⟨by decide +kernel, by decide +kernel⟩, List.mem_of_getElem? (i := 751) (by decide +kernel), List.mem_of_getElem? (i := 914) (by decide +kernel), List.mem_of_getElem? (i := 915) (by decide +kernel)⟩
theorem lw_p30 : lw_okq (⟨"CoilPricesModel", "doPass", "(I)I"⟩, 19) := ⟨⟨by decide +kernel, by decide +kernel⟩, List.mem_of_getElem? (i := 751) (by decide +kernel), List.mem_of_getElem? (i := 946) (by decide +kernel), List.mem_of_getElem? (i := 947) (by decide +kernel)⟩
theorem lw_p31 : lw_okq (⟨"CoilPricesModel", "hour", "()I"⟩, 19) := ⟨⟨by decide +kernel, by decide +kernel⟩, List.mem_of_getElem? (i := 751) (by decide +kernel), List.mem_of_getElem? (i := 951) (by decide +kernel), List.mem_of_getElem? (i := 952) (by decide +kernel)⟩
def lw_privs_2 : List (MethodName × Nat) := [(⟨"CoilPricesModel", "refuse", "(I)I"⟩, 19), (⟨"CoilPricesModel", "ends", "(I)I"⟩, 19), (⟨"CoilPricesModel", "lay", "(III)V"⟩, 19), (⟨"CoilPricesModel", "doStock", "(II)I"⟩, 19), (⟨"CoilPricesModel", "isCoil", "(I)Z"⟩, 19), (⟨"CoilPricesModel", "of", "(II)I"⟩, 19), (⟨"CoilPricesModel", "doFill", "(II)I"⟩, 19), (⟨"CoilPricesModel", "keepsPromises", "()V"⟩, 19), (⟨"CoilPricesModel", "pays", "(III)Z"⟩, 19), (⟨"CoilPricesModel", "takes", "()V"⟩, 19), (⟨"CoilPricesModel", "lays", "(IIII)V"⟩, 19), (⟨"CoilPricesModel", "doBuy", "(I)I"⟩, 19), (⟨"CoilPricesModel", "puts", "(II)V"⟩, 19), (⟨"CoilPricesModel", "owed", "()I"⟩, 19), (⟨"CoilPricesModel", "doPass", "(I)I"⟩, 19), (⟨"CoilPricesModel", "hour", "()I"⟩, 19)]
theorem lw_r2 : ∀ q ∈ lw_privs_2, lw_okq q := List.forall_mem_cons.mpr ⟨lw_p16, List.forall_mem_cons.mpr ⟨lw_p17, List.forall_mem_cons.mpr ⟨lw_p18, List.forall_mem_cons.mpr ⟨lw_p19, List.forall_mem_cons.mpr ⟨lw_p20, List.forall_mem_cons.mpr ⟨lw_p21, List.forall_mem_cons.mpr ⟨lw_p22, List.forall_mem_cons.mpr ⟨lw_p23, List.forall_mem_cons.mpr ⟨lw_p24, List.forall_mem_cons.mpr ⟨lw_p25, List.forall_mem_cons.mpr ⟨lw_p26, List.forall_mem_cons.mpr ⟨lw_p27, List.forall_mem_cons.mpr ⟨lw_p28, List.forall_mem_cons.mpr ⟨lw_p29, List.forall_mem_cons.mpr ⟨lw_p30, List.forall_mem_cons.mpr ⟨lw_p31, fun _ h => absurd h List.not_mem_nil⟩⟩⟩⟩⟩⟩⟩⟩⟩⟩⟩⟩⟩⟩⟩⟩
theorem lw_p32 : lw_okq (⟨"CoilPricesModel", "setsPrice", "(I)V"⟩, 19) := ⟨⟨by decide +kernel, by decide +kernel⟩, List.mem_of_getElem? (i := 751) (by decide +kernel), List.mem_of_getElem? (i := 955) (by decide +kernel), List.mem_of_getElem? (i := 956) (by decide +kernel)⟩
theorem lw_p33 : lw_okq (⟨"CoilPricesModel", "isFined", "(I)V"⟩, 19) := ⟨⟨by decide +kernel, by decide +kernel⟩, List.mem_of_getElem? (i := 751) (by decide +kernel), List.mem_of_getElem? (i := 960) (by decide +kernel), List.mem_of_getElem? (i := 961) (by decide +kernel)⟩
theorem lw_p34 : lw_okq (⟨"CoilPricesModel", "fails", "(I)I"⟩, 19) := ⟨⟨by decide +kernel, by decide +kernel⟩, List.mem_of_getElem? (i := 751) (by decide +kernel), List.mem_of_getElem? (i := 973) (by decide +kernel), List.mem_of_getElem? (i := 974) (by decide +kernel)⟩
theorem lw_p35 : lw_okq (⟨"CoilPricesModel", "tell", "(I)I"⟩, 19) := ⟨⟨by decide +kernel, by decide +kernel⟩, List.mem_of_getElem? (i := 751) (by decide +kernel), List.mem_of_getElem? (i := 989) (by decide +kernel), List.mem_of_getElem? (i := 990) (by decide +kernel)⟩
theorem lw_p36 : lw_okq (⟨"CoilPricesModel", "money", "()I"⟩, 19) := ⟨⟨by decide +kernel, by decide +kernel⟩, List.mem_of_getElem? (i := 751) (by decide +kernel), List.mem_of_getElem? (i := 993) (by decide +kernel), List.mem_of_getElem? (i := 994) (by decide +kernel)⟩
theorem lw_p37 : lw_okq (⟨"CoilPricesModel", "inCoils", "(I)I"⟩, 19) := ⟨⟨by decide +kernel, by decide +kernel⟩, List.mem_of_getElem? (i := 751) (by decide +kernel), List.mem_of_getElem? (i := 997) (by decide +kernel), List.mem_of_getElem? (i := 998) (by decide +kernel)⟩
theorem lw_p38 : lw_okq (⟨"CoilPricesModel", "readOrder", "()Z"⟩, 19) := ⟨⟨by decide +kernel, by decide +kernel⟩, List.mem_of_getElem? (i := 751) (by decide +kernel), List.mem_of_getElem? (i := 1045) (by decide +kernel), List.mem_of_getElem? (i := 1046) (by decide +kernel)⟩
theorem lw_p39 : lw_okq (⟨"CoilPricesModel", "here", "()I"⟩, 19) := ⟨⟨by decide +kernel, by decide +kernel⟩, List.mem_of_getElem? (i := 751) (by decide +kernel), List.mem_of_getElem? (i := 1049) (by decide +kernel), List.mem_of_getElem? (i := 1050) (by decide +kernel)⟩
theorem lw_p40 : lw_okq (⟨"CoilPricesModel", "readDigit", "(I)Z"⟩, 19) := ⟨⟨by decide +kernel, by decide +kernel⟩, List.mem_of_getElem? (i := 751) (by decide +kernel), List.mem_of_getElem? (i := 1053) (by decide +kernel), List.mem_of_getElem? (i := 1054) (by decide +kernel)⟩
theorem lw_p41 : lw_okq (⟨"CoilPricesModel", "readCoins", "()Z"⟩, 19) := ⟨⟨by decide +kernel, by decide +kernel⟩, List.mem_of_getElem? (i := 751) (by decide +kernel), List.mem_of_getElem? (i := 1057) (by decide +kernel), List.mem_of_getElem? (i := 1058) (by decide +kernel)⟩
theorem lw_p42 : lw_okq (⟨"CoilPricesModel", "passes", "(I)Z"⟩, 19) := ⟨⟨by decide +kernel, by decide +kernel⟩, List.mem_of_getElem? (i := 751) (by decide +kernel), List.mem_of_getElem? (i := 1061) (by decide +kernel), List.mem_of_getElem? (i := 1062) (by decide +kernel)⟩
theorem lw_p43 : lw_okq (⟨"CoilPricesModel", "readNumber", "(I)Z"⟩, 19) := ⟨⟨by decide +kernel, by decide +kernel⟩, List.mem_of_getElem? (i := 751) (by decide +kernel), List.mem_of_getElem? (i := 1065) (by decide +kernel), List.mem_of_getElem? (i := 1066) (by decide +kernel)⟩
theorem lw_p44 : lw_okq (⟨"CoilPricesModel", "does", "()I"⟩, 19) := ⟨⟨by decide +kernel, by decide +kernel⟩, List.mem_of_getElem? (i := 751) (by decide +kernel), List.mem_of_getElem? (i := 1072) (by decide +kernel), List.mem_of_getElem? (i := 1073) (by decide +kernel)⟩
theorem lw_p45 : lw_okq (⟨"CoilPricesModel", "mix", "(I)V"⟩, 19) := ⟨⟨by decide +kernel, by decide +kernel⟩, List.mem_of_getElem? (i := 751) (by decide +kernel), List.mem_of_getElem? (i := 1085) (by decide +kernel), List.mem_of_getElem? (i := 1086) (by decide +kernel)⟩
def lw_privs_3 : List (MethodName × Nat) := [(⟨"CoilPricesModel", "setsPrice", "(I)V"⟩, 19), (⟨"CoilPricesModel", "isFined", "(I)V"⟩, 19), (⟨"CoilPricesModel", "fails", "(I)I"⟩, 19), (⟨"CoilPricesModel", "tell", "(I)I"⟩, 19), (⟨"CoilPricesModel", "money", "()I"⟩, 19), (⟨"CoilPricesModel", "inCoils", "(I)I"⟩, 19), (⟨"CoilPricesModel", "readOrder", "()Z"⟩, 19), (⟨"CoilPricesModel", "here", "()I"⟩, 19), (⟨"CoilPricesModel", "readDigit", "(I)Z"⟩, 19), (⟨"CoilPricesModel", "readCoins", "()Z"⟩, 19), (⟨"CoilPricesModel", "passes", "(I)Z"⟩, 19), (⟨"CoilPricesModel", "readNumber", "(I)Z"⟩, 19), (⟨"CoilPricesModel", "does", "()I"⟩, 19), (⟨"CoilPricesModel", "mix", "(I)V"⟩, 19)]
theorem lw_r3 : ∀ q ∈ lw_privs_3, lw_okq q := List.forall_mem_cons.mpr ⟨lw_p32, List.forall_mem_cons.mpr ⟨lw_p33, List.forall_mem_cons.mpr ⟨lw_p34, List.forall_mem_cons.mpr ⟨lw_p35, List.forall_mem_cons.mpr ⟨lw_p36, List.forall_mem_cons.mpr ⟨lw_p37, List.forall_mem_cons.mpr ⟨lw_p38, List.forall_mem_cons.mpr ⟨lw_p39, List.forall_mem_cons.mpr ⟨lw_p40, List.forall_mem_cons.mpr ⟨lw_p41, List.forall_mem_cons.mpr ⟨lw_p42, List.forall_mem_cons.mpr ⟨lw_p43, List.forall_mem_cons.mpr ⟨lw_p44, List.forall_mem_cons.mpr ⟨lw_p45, fun _ h => absurd h List.not_mem_nil⟩⟩⟩⟩⟩⟩⟩⟩⟩⟩⟩⟩⟩⟩
def lw_privs : List (MethodName × Nat) := lw_privs_1 ++ (lw_privs_2 ++ (lw_privs_3))
def lw_tbl : List Cond := k2_sels lw_privs ++ tables_1
theorem lw_privs_ok : ∀ q ∈ lw_privs, lw_okq q := by
  show ∀ q ∈ lw_privs_1 ++ (lw_privs_2 ++ (lw_privs_3)), lw_okq q
  exact List.forall_mem_append.mpr ⟨lw_r1, List.forall_mem_append.mpr ⟨lw_r2, lw_r3⟩⟩
/-- the streams that the claim lets the run draw from -/
abbrev lw_cs : List Choice := [Jvm.Choice.named "NaN.bits", Jvm.Choice.named "NaN.copy"]
theorem lw_bits : nanBits ∈ lw_cs := by first | decide | exact List.mem_cons_self | simp [lw_cs, nanBits]
-- ===== end of PART A; then your names; then what follows =====
end
section
/-! ===== BEGIN words of one list among another's, by their places ===== -/
theorem goodIn_r {big : List Cond} (ws : List Cond) (ps : List Nat) (hp : ws = ps.filterMap (fun i => big[i]?)) (h : ws.all goodWord = true) : GoodIn big ws := by
  intro w hw
  have h1 := List.all_eq_true.mp h w hw
  rw [hp] at hw
  obtain ⟨i, -, hi⟩ := List.mem_filterMap.mp hw
  have hm : w ∈ big := by first | exact List.mem_of_getElem? hi | exact List.getElem?_mem hi
  exact ⟨hm, good_of_word h1⟩
theorem goodIn_app {big a b : List Cond} (ha : GoodIn big a) (hb : GoodIn big b) : GoodIn big (a ++ b) := fun w h => (List.mem_append.mp h).elim (ha w) (hb w)
theorem goodIn_ca {big a b : List Cond} {c : Cond} (ha : GoodIn big (c :: a)) (hb : GoodIn big b) : GoodIn big (c :: (a ++ b)) := fun w h => (List.mem_cons.mp h).elim (fun e => ha w (List.mem_cons.mpr (Or.inl e))) (fun h => (List.mem_append.mp h).elim (fun h => ha w (List.mem_cons.mpr (Or.inr h))) (hb w))
theorem goodIn_sub {big ws : List Cond} (hm : ∀ w ∈ ws, w ∈ big) (h : ws.all goodWord = true) : GoodIn big ws := fun w hw => ⟨hm w hw, good_of_word (List.all_eq_true.mp h w hw)⟩
/-! ===== END ===== -/

/-! ===== BEGIN exceptions that leave a method, and their catching by the caller (launches without stack traces) ===== -/
section VXA
/-! The laws vx_back, vx_callV, vx_callS, vx_callSW, vx_throw0, vx_throwS follow proofs of the library, with one case more: JvmDerived/Free/Laws.lean (Back.of_free), Shelf42/LK1.lean (callV, callS), Shelf/KitTraced.lean (throwNew0V, throwNewS). -/
/-- where a method has thrown q: the class by its name, the cell, what was written, the world -/
def vx_T (XC : String → State → State → Prop) (st : State) (q : Addr) (t : State) (mc ms : Nat) (free : Addr → Prop) : Prop :=
  ∃ (E : String) (ce : Cell) (L : List Loc), XC E st t ∧ t.heap[q]? = some ce ∧ ce.vm = .none ∧ st.vm.findClass E = some ce.cls ∧ st.WarmedH t.vm ∧ st.sameButNew ({ t with vm := st.vm } : State) L mc ms ∧ ∀ z ∈ L, free z.base
def vx_Q (Qc : Array Value → State → Outcome → State → Prop) (XC : String → State → State → Prop) (mc ms : Nat) (free : Addr → Prop) : Array Value → State → Outcome → State → Prop := fun a st o t =>
  (Qc a st o t ∧ ∃ L, FrameEnd st o t L mc ms ∧ ∀ q ∈ L, free q.base) ∨ ∃ q, o = .threw q ∧ vx_T XC st q t mc ms free
/-- a callee that returns or throws -/
def vx_Met (l : Launch) (y : MethodName) (ws : List Cond) (rm : Room) (Pc : Array Value → State → Prop) (Qc : Array Value → State → Outcome → State → Prop) (XC : String → State → State → Prop) (mc ms : Nat) (free : Addr → Prop) : Prop :=
  MetFree l y (headSpec ws rm) Pc (fun _ _ _ _ _ => True) (vx_Q Qc XC mc ms free)
def vx_Post (XC : String → State → State → Prop) (mc ms : Nat) (free : Addr → Prop) : Pt → Array Value → Addr → Pt → Prop := fun A a q B =>
  ∃ (g : JFrame) (mk : MethodId) (t : State) (L : List Loc) (E : String) (ce : Cell), B.U.heap = t.heap ∧ B.U.vm = t.vm ∧ XC E (A.U.calling g mk a) t ∧ t.heap[q]? = some ce ∧ ce.vm = .none ∧ A.U.vm.findClass E = some ce.cls ∧ B.locs = A.locs ++ L ∧ (∀ z ∈ L, free z.base) ∧ B.cells = A.cells + mc ∧ B.slots = A.slots + ms
def vx_Back (l : Launch) (R : Room) (p : Program) (e : Env) (below : List Frame) (s : State) (sargs : Array Value) (y : MethodName) (len W9 : Nat)
    (Pre : Pt → Array Value → Prop) (Post : Pt → Array Value → Option Value → Pt → Prop) (PostX : Pt → Array Value → Addr → Pt → Prop) : Prop :=
  ∀ (m : MethodId) (meth : Method) (c : Code) (A : Pt) (g : JFrame) (ig : Instr) (mk : MethodId) (a : Array Value),
    Stand p l e R s m sargs below meth c A.U A.locs A.cells A.slots → g.method = m → g.locals.size = c.maxLocals → decode c.code g.pc = .ok (ig, len) →
    2 * g.monitorRoom + (g.stack.map fun v => v.category).sum ≤ W9 → A.U.methodNamed? y = some mk → Pre A a →
    (∃ (v : Option Value) (B : Pt), Stand p l e R s m sargs below meth c B.U B.locs B.cells B.slots ∧ Post A a v B ∧
      Steps p.tables e below (doInvoke e (A.U.setTop g) [] mk a).1 (B.U.setTop { g with pc := g.pc + len, stack := v.toList ++ g.stack })) ∨
    (∃ (q : Addr) (B : Pt), Stand p l e R s m sargs below meth c B.U B.locs B.cells B.slots ∧ PostX A a q B ∧
      Steps p.tables e below (doInvoke e (A.U.setTop g) [] mk a).1 ((B.U.setTop g).pushFrame (.throwing q)))
section Payer
variable {l : Launch} {R : Room} {p : Program} {e : Env} {below : List Frame} {s : State} {sargs : Array Value} {y : MethodName} {len W9 : Nat}
theorem vx_back {ws : List Cond} {rm : Room} {Pc : Array Value → State → Prop} {Qc : Array Value → State → Outcome → State → Prop} {XC : String → State → State → Prop} {mc ms : Nat} {free : Addr → Prop} {bytes : ByteArray} {maxL : Nat} {ret : Option FieldType}
    (hM : vx_Met l y ws rm Pc Qc XC mc ms free) (hblind : FrameBlind Pc) (hrc : rm.cells = mc) (hrs : rm.slots = ms)
    (hframes : rm.frames + 1 ≤ R.frames) (hlocals : W9 + (maxL + 11) + rm.locals ≤ R.locals)
    (hws : ∀ w ∈ ws, ∀ a' U, s.WarmedH U.vm → w.before a' U = true) (hcode : Cond.code y bytes maxL ret ∈ ws) (hinit : ∀ a' U, s.WarmedH U.vm → (Cond.initialized y.cls).before a' U = true) :
    vx_Back l R p e below s sargs y len W9 (PreOf R mc ms Pc) (PostOf Qc mc ms free) (vx_Post XC mc ms free) := by
  intro m meth c A g ig mk a X hg hsize hdg hW hn hp
  have h1 : (headSpec ws rm).pre.before a A.U = true := atoms_intro fun w hw => hws w hw _ _ X.warmed
  have h2 : (Cond.code y bytes maxL ret).before a A.U = true := hws _ hcode _ _ X.warmed
  have h3 : (Cond.initialized y.cls).before a A.U = true := hinit _ _ X.warmed
  have h4 : A.cells + (headSpec ws rm).room.cells ≤ R.cells := by rw [show (headSpec ws rm).room.cells = mc from hrc]; exact hp.1
  have h5 : A.slots + (headSpec ws rm).room.slots ≤ R.slots := by rw [show (headSpec ws rm).room.slots = ms from hrs]; exact hp.2.1
  have hPc : Pc a (A.U.calling g mk a) := hblind _ _ _ _ hp.2.2
  obtain ⟨U, Ls, c0, s0⟩ := A
  dsimp only [Pt.U, Pt.locs, Pt.cells, Pt.slots] at h1 h2 h3 h4 h5 X hn hPc ⊢
  obtain ⟨methY, cY, hmY, hcY, -, hlY, -, -, -, -⟩ := Cond.code_spec hn h2
  obtain ⟨kY, hkY, -⟩ := className_of_methodNamed hn
  have hinitY : kY.init = .initialized := Cond.initialized_spec (findClass_of_methodNamed hn) hkY h3
  have h : At U g.method c below := by rw [hg]; exact X.here
  have hlocals9 : W9 + (maxL + 11) + (headSpec ws rm).room.locals ≤ R.locals := hlocals
  have happ : (headSpec ws rm).appliesLoose y e.platform (U.calling g mk a) = true :=
    Spec.appliesLoose_calling (g := g) h hdg hn hkY hinitY
      (X.room_calling (g := g) (R' := (headSpec ws rm).room) hsize hmY hcY hframes (by rw [hlY]; omega) h4 h5) h1
  obtain ⟨mid, hmid⟩ := h.above
  have hfr : (U.setTop g).frames = (.java g :: mid) ++ below := by rw [State.frames_setTop' g h.top, hmid]; rfl
  obtain ⟨o, s₂, hsteps, -, hend, hq⟩ := Steps.callFree hM p X.admits X.cas X.clock (acts := []) hfr happ hPc trivial
  have hq' : vx_Q Qc XC mc ms free a (U.calling g mk a) o s₂ := hq
  rw [State.frames_setTop' g h.top] at hend
  obtain ⟨g₀, hg0⟩ := Option.isSome_iff_exists.mp h.top
  obtain ⟨r, hr⟩ := State.topJava?_eq_some.mp hg0
  have hr' : (({ U with heap := s₂.heap, slotsUsed := s₂.slotsUsed } : State).setVm s₂.vm).frames = .java g₀ :: r := hr
  rcases hq' with ⟨hqc, L, hfe, hL⟩ | ⟨q, rfl, E, ce, L, hx, hce, hcv, hcl, hW₂, hsm, hL⟩
  · obtain ⟨⟨v, rfl⟩, hW₂, e2, q2, q3, q4, q5, q6⟩ := id hfe
    have e3 : s₂ = ({ (U.calling g mk a).setFrames s₂.frames with heap := s₂.heap, slotsUsed := s₂.slotsUsed } : State).setVm s₂.vm := by
      have : s₂ = ({ s₂ with vm := (U.calling g mk a).vm } : State).setVm s₂.vm := rfl
      rw [e2] at this
      exact this
    obtain ⟨c₂, i₂, len₂, hc₂, hd₂, hf₂⟩ := hend
    have hW' : U.WarmedH s₂.vm := hW₂
    have hcc : c₂ = c := by
      have h1 : s₂.code? g.method = U.code? g.method := by
        rw [State.code?_eq, State.code?_eq, hW'.alike.method?]
      exact Option.some.inj (hc₂.symm.trans (h1.trans h.code))
    subst hcc
    have hlen : len₂ = len := by rw [hdg] at hd₂; cases hd₂; rfl
    subst hlen
    have hs₂ : s₂ = (({ U with heap := s₂.heap, slotsUsed := s₂.slotsUsed } : State).setVm s₂.vm).setTop { g with pc := g.pc + len₂, stack := v.toList ++ g.stack } := by
      refine e3.trans ?_
      rw [hf₂, State.calling_eq h.top, State.setFrames_setFrames, State.setTop_of_frames _ hr', hr]
      rfl
    have hsame : U.sameButNew ({ U with heap := s₂.heap, slotsUsed := s₂.slotsUsed } : State) L mc ms := by
      refine ⟨?_, q2, q3, q4, q5, q6⟩
      obtain ⟨t, ht, -⟩ := State.frames_cons hr
      show ({ U with heap := s₂.heap, slotsUsed := s₂.slotsUsed } : State) = { U.setFrames U.frames with heap := s₂.heap, slotsUsed := s₂.slotsUsed }
      rw [State.setFrames_self ht]
    subst hg
    refine Or.inl ⟨v, ⟨(({ U with heap := s₂.heap, slotsUsed := s₂.slotsUsed } : State).setVm s₂.vm), Ls ++ L, c0 + mc, s0 + ms⟩,
      ⟨X.admits, X.cas, X.clock, X.frames, X.room, X.hears, X.method, X.code, (X.here.setHeapUsed s₂.heap s₂.slotsUsed).setVm hW'.alike, X.tail, State.WarmedH.trans X.warmed hW', X.limits, X.bytes, X.same.trans (hsame.setVm s.vm)⟩,
      ⟨g, mk, s₂, L, rfl, rfl, hqc, rfl, hL, rfl, rfl⟩, ?_⟩
    show Steps p.tables e below _ ((({ U with heap := s₂.heap, slotsUsed := s₂.slotsUsed } : State).setVm s₂.vm).setTop { g with pc := g.pc + len₂, stack := v.toList ++ g.stack })
    rw [← hs₂]
    exact hsteps
  · obtain ⟨e2, q2, q3, q4, q5, q6⟩ := id hsm
    have e3 : s₂ = ({ (U.calling g mk a).setFrames s₂.frames with heap := s₂.heap, slotsUsed := s₂.slotsUsed } : State).setVm s₂.vm := by
      have : s₂ = ({ s₂ with vm := (U.calling g mk a).vm } : State).setVm s₂.vm := rfl
      rw [e2] at this
      exact this
    have hf₂ : s₂.frames = .throwing q :: .java g :: U.frames.tail := hend
    have hW' : U.WarmedH s₂.vm := hW₂
    have hs₂ : s₂ = ((({ U with heap := s₂.heap, slotsUsed := s₂.slotsUsed } : State).setVm s₂.vm).setTop g).pushFrame (.throwing q) := by
      refine e3.trans ?_
      rw [hf₂, State.calling_eq h.top, State.setFrames_setFrames, State.pushFrame, State.frames_setTop _ hr', State.setTop_of_frames _ hr', State.setFrames_setFrames, hr]
      rfl
    have hsame : U.sameButNew ({ U with heap := s₂.heap, slotsUsed := s₂.slotsUsed } : State) L mc ms := by
      refine ⟨?_, q2, q3, q4, q5, q6⟩
      obtain ⟨t, ht, -⟩ := State.frames_cons hr
      show ({ U with heap := s₂.heap, slotsUsed := s₂.slotsUsed } : State) = { U.setFrames U.frames with heap := s₂.heap, slotsUsed := s₂.slotsUsed }
      rw [State.setFrames_self ht]
    subst hg
    refine Or.inr ⟨q, ⟨(({ U with heap := s₂.heap, slotsUsed := s₂.slotsUsed } : State).setVm s₂.vm), Ls ++ L, c0 + mc, s0 + ms⟩,
      ⟨X.admits, X.cas, X.clock, X.frames, X.room, X.hears, X.method, X.code, (X.here.setHeapUsed s₂.heap s₂.slotsUsed).setVm hW'.alike, X.tail, State.WarmedH.trans X.warmed hW', X.limits, X.bytes, X.same.trans (hsame.setVm s.vm)⟩,
      ⟨g, mk, s₂, L, E, ce, rfl, rfl, hx, hce, hcv, hcl, rfl, hL, rfl, rfl⟩, ?_⟩
    show Steps p.tables e below _ (((({ U with heap := s₂.heap, slotsUsed := s₂.slotsUsed } : State).setVm s₂.vm).setTop g).pushFrame (.throwing q))
    rw [← hs₂]
    exact hsteps
end Payer
section Calls
variable {p : Program} {l : Launch} {e : Env} {R : Room} {s : State} {m : MethodId} {args : Array Value} {below : List Frame} {meth : Method} {c : Code} {T : State} {locs : List Loc} {cells slots : Nat}
theorem vx_callV (X : Stand p l e R s m args below meth c T locs cells slots) (hexec : p.tables.exec = Jvm.exec) {own C : String} {index : Nat} {y : MethodName} {bytes : ByteArray} {maxL : Nat} {ret : Option FieldType}
    (hown : s.vm.findClass own = some m.cls) (hlink : (Cond.methodLink own index y).before args s = true) (hinst : (Cond.instanceMethod y).before args s = true) (hsel : (Cond.selects C y y).before args s = true)
    (hcode : (Cond.code y bytes maxL ret).before args s = true) (hy : y.cls ≠ "java/lang/invoke/MethodHandle" ∧ y.cls ≠ "java/lang/invoke/VarHandle")
    {W9 : Nat} {Pre : Pt → Array Value → Prop} {Post : Pt → Array Value → Option Value → Pt → Prop} {PostX : Pt → Array Value → Addr → Pt → Prop} (hK : vx_Back l R p e below s args y 3 W9 Pre Post PostX)
    {b : Addr} {cellB : Cell} (hcell : T.heap[b]? = some cellB) (hobj : cellB.vm.isStatics = false) (hcls : s.vm.findClass C = some cellB.cls)
    {g : JFrame} (hg : g.method = m) (hsize : g.locals.size = c.maxLocals) {argsL rest : List Value} (hlen : ∀ sig, parseMethodDescriptor y.desc = some sig → argsL.length = sig.parameters.length)
    (hstack : g.stack = argsL.reverse ++ .ref b :: rest) (hW : 2 * g.monitorRoom + (rest.map fun v => v.category).sum ≤ W9) (hdg : decode c.code g.pc = .ok (.invokevirtual index, 3))
    (hpre : ∀ vm₁, s.WarmedH vm₁ → Pre ⟨T.setVm vm₁, locs, cells, slots⟩ (Value.ref b :: argsL).toArray) :
    (∃ (v : Option Value) (vm₁ : Vm) (B : Pt), s.WarmedH vm₁ ∧ Stand p l e R s m args below meth c B.U B.locs B.cells B.slots ∧ Post ⟨T.setVm vm₁, locs, cells, slots⟩ (Value.ref b :: argsL).toArray v B ∧
      ∀ target, Steps p.tables e below (B.U.setTop { g with pc := g.pc + 3, stack := v.toList ++ rest }) target → Steps p.tables e below (T.setTop g) target) ∨
    (∃ (q : Addr) (vm₁ : Vm) (B : Pt), s.WarmedH vm₁ ∧ Stand p l e R s m args below meth c B.U B.locs B.cells B.slots ∧ PostX ⟨T.setVm vm₁, locs, cells, slots⟩ (Value.ref b :: argsL).toArray q B ∧
      Steps p.tables e below (T.setTop g) ((B.U.setTop { g with stack := rest }).pushFrame (.throwing q))) := by
  obtain ⟨mk, methM, hnamed, hmethM, hstM, habM⟩ := Cond.instanceMethod_spec hinst
  obtain ⟨methM', cM, hmethM', -, -, -, -, -, -, hsigM⟩ := Cond.code_spec hnamed hcode
  cases hmethM.symm.trans hmethM'
  obtain ⟨c2, r2, m2, q1, q2, q3, q4, kP, hkP, hkPi⟩ := Cond.selects_spec hsel
  cases hcls.symm.trans q1
  cases (State.methodFound?_of_named hnamed hy).symm.trans q2
  cases hnamed.symm.trans q3
  have hselP : selectMethod e.platform s.vm cellB.cls mk = .method mk := by rw [Launch.admits_selectMethod X.admits]; exact q4
  obtain ⟨vm₁, X₁, hstep₁⟩ := X.invokevirtual hexec hown hlink hnamed hmethM hstM hkP hkPi hy (a := b) (cell := cellB) hcell
    (fun z h => by rw [h] at hobj; cases hobj) hselP hmethM habM hkP hkPi (g := g) hg (argsL := argsL) (rest := rest) (hlen _ hsigM) hstack hdg
  rcases hK m meth c ⟨T.setVm vm₁, locs, cells, slots⟩ { g with stack := rest } (.invokevirtual index) mk (Value.ref b :: argsL).toArray X₁ hg hsize hdg hW (X₁.named hnamed) (hpre vm₁ X₁.warmed) with ⟨v, B, X', hpost, hsteps⟩ | ⟨q, B, X', hpost, hsteps⟩
  · exact Or.inl ⟨v, vm₁, B, X₁.warmed, X', hpost, fun target h => hstep₁ _ fun acts => by rw [doInvoke_state]; exact hsteps.trans h⟩
  · exact Or.inr ⟨q, vm₁, B, X₁.warmed, X', hpost, hstep₁ _ fun acts => by rw [doInvoke_state]; exact hsteps⟩
theorem vx_callS (X : Stand p l e R s m args below meth c T locs cells slots) (hexec : p.tables.exec = Jvm.exec) {own : String} {index : Nat} {y : MethodName} {bytes : ByteArray} {maxL : Nat} {ret : Option FieldType}
    (hown : s.vm.findClass own = some m.cls) (hlink : (Cond.methodLink own index y).before args s = true) (hstat : (Cond.static y).before args s = true) (hinit : (Cond.initialized y.cls).before args s = true)
    (hcode : (Cond.code y bytes maxL ret).before args s = true) (hy : y.cls ≠ "java/lang/invoke/MethodHandle" ∧ y.cls ≠ "java/lang/invoke/VarHandle")
    {W9 : Nat} {Pre : Pt → Array Value → Prop} {Post : Pt → Array Value → Option Value → Pt → Prop} {PostX : Pt → Array Value → Addr → Pt → Prop} (hK : vx_Back l R p e below s args y 3 W9 Pre Post PostX)
    {g : JFrame} (hg : g.method = m) (hsize : g.locals.size = c.maxLocals) {argsL rest : List Value} (hlen : ∀ sig, parseMethodDescriptor y.desc = some sig → argsL.length = sig.parameters.length)
    (hstack : g.stack = argsL.reverse ++ rest) (hW : 2 * g.monitorRoom + (rest.map fun v => v.category).sum ≤ W9) (hdg : decode c.code g.pc = .ok (.invokestatic index, 3))
    (hpre : ∀ vm₁, s.WarmedH vm₁ → Pre ⟨T.setVm vm₁, locs, cells, slots⟩ argsL.toArray) :
    (∃ (v : Option Value) (vm₁ : Vm) (B : Pt), s.WarmedH vm₁ ∧ Stand p l e R s m args below meth c B.U B.locs B.cells B.slots ∧ Post ⟨T.setVm vm₁, locs, cells, slots⟩ argsL.toArray v B ∧
      ∀ target, Steps p.tables e below (B.U.setTop { g with pc := g.pc + 3, stack := v.toList ++ rest }) target → Steps p.tables e below (T.setTop g) target) ∨
    (∃ (q : Addr) (vm₁ : Vm) (B : Pt), s.WarmedH vm₁ ∧ Stand p l e R s m args below meth c B.U B.locs B.cells B.slots ∧ PostX ⟨T.setVm vm₁, locs, cells, slots⟩ argsL.toArray q B ∧
      Steps p.tables e below (T.setTop g) ((B.U.setTop { g with stack := rest }).pushFrame (.throwing q))) := by
  obtain ⟨mk, hnamed⟩ := Cond.code_named hcode
  obtain ⟨methM, cM, hmethM, -, -, -, -, -, -, hsigM⟩ := Cond.code_spec hnamed hcode
  have hstatic : methM.isStatic = true := Cond.static_spec hnamed hmethM hstat
  obtain ⟨kP, hkP, -⟩ := className_of_methodNamed hnamed
  have hinitP : kP.init = .initialized := Cond.initialized_spec (findClass_of_methodNamed hnamed) hkP hinit
  obtain ⟨vm₁, X₁, hstep₁⟩ := X.invokestatic hexec hown hlink hnamed hmethM hstatic hkP hinitP hy (g := g) hg (argsL := argsL) (rest := rest) (hlen _ hsigM) hstack hdg
  rcases hK m meth c ⟨T.setVm vm₁, locs, cells, slots⟩ { g with stack := rest } (.invokestatic index) mk argsL.toArray X₁ hg hsize hdg hW (X₁.named hnamed) (hpre vm₁ X₁.warmed) with ⟨v, B, X', hpost, hsteps⟩ | ⟨q, B, X', hpost, hsteps⟩
  · exact Or.inl ⟨v, vm₁, B, X₁.warmed, X', hpost, fun target h => hstep₁ _ fun acts => by rw [doInvoke_state]; exact hsteps.trans h⟩
  · exact Or.inr ⟨q, vm₁, B, X₁.warmed, X', hpost, hstep₁ _ fun acts => by rw [doInvoke_state]; exact hsteps⟩
end Calls
theorem vx_cls {s : State} {T : State} {vm₁ : Vm} {E : String} {k : ClassId} (hW : s.WarmedH vm₁) (h : (T.setVm vm₁).vm.findClass E = some k) : s.vm.findClass E = some k := by
  have h1 : vm₁.findClass E = some k := h
  rw [hW.alike.findClass] at h1
  exact h1
/-- the method's frame g, with q thrown over it -/
def vx_W (p : Program) (l : Launch) (e : Env) (R : Room) (s : State) (m : MethodId) (args : Array Value) (below : List Frame) (meth : Method) (c : Code) (H : Heap) (locs : List Loc) (cells slots : Nat) (Q : State → Prop) (g : JFrame) (q : Addr) : Prop :=
  ∀ T : State, T.heap = H → Stand p l e R s m args below meth c T locs cells slots → ∃ t, Steps p.tables e below ((T.setTop g).pushFrame (.throwing q)) t ∧ Q t
def vx_Run (p : Program) (l : Launch) (e : Env) (R : Room) (s : State) (m : MethodId) (args : Array Value) (below : List Frame) (meth : Method) (c : Code) (H : Heap) (locs : List Loc) (cells slots mc ms : Nat) (g : JFrame) (rest : List Value) (Qa : State → Outcome → State → Prop) (XC : String → State → State → Prop) (free : Addr → Prop) : Prop :=
  ∀ T : State, T.heap = H → Stand p l e R s m args below meth c T locs cells slots →
    (∃ (v : Option Value) (st₀ t T' : State) (L : List Loc), st₀.heap = H ∧ Stand p l e R s m args below meth c T' (locs ++ L) (cells + mc) (slots + ms) ∧ (∀ q ∈ L, free q.base) ∧ T'.heap = t.heap ∧ T'.vm = t.vm ∧ Qa st₀ (.returned v) t ∧
      Goes p e below T g T' { g with pc := g.pc + 3, stack := v.toList ++ rest }) ∨
    (∃ (q : Addr) (st₀ t T' : State) (L : List Loc) (E : String) (ce : Cell), st₀.heap = H ∧ Stand p l e R s m args below meth c T' (locs ++ L) (cells + mc) (slots + ms) ∧ (∀ z ∈ L, free z.base) ∧ T'.heap = t.heap ∧ T'.vm = t.vm ∧ XC E st₀ t ∧ t.heap[q]? = some ce ∧ ce.vm = .none ∧ s.vm.findClass E = some ce.cls ∧
      Steps p.tables e below (T.setTop g) ((T'.setTop { g with stack := rest }).pushFrame (.throwing q)))
def vx_X {S : Type} (px : S → Prop) (B : String → S → State → Prop) (A : Nat → Prop) : String → State → State → Prop := fun E st t => ∃ u : S, px u ∧ B E u t ∧ va_F A st t
section Runs
variable {p : Program} {l : Launch} {e : Env} {R : Room} {s : State} {m : MethodId} {args : Array Value} {below : List Frame} {meth : Method} {c : Code} {H : Heap} {locs : List Loc} {cells slots : Nat}
variable {y : MethodName} {bytes cc : ByteArray} {maxL nL mc ms n index : Nat} {ret : Option FieldType} {ws : List Cond} {rm : Room} {Pc : Array Value → State → Prop} {Qc : Array Value → State → Outcome → State → Prop} {XC : String → State → State → Prop} {free : Addr → Prop} {Ts : List Cond} {own C : String} {b : Addr} {As rest : List Value} {g : JFrame}
theorem vx_callBack (cb : CallB R s args own index y bytes maxL ret ws rm mc ms n) (hM : vx_Met l y ws rm Pc Qc XC mc ms free) (hbl : FrameBlind Pc) : vx_Back l R p e below s args y 3 8 (PreOf R mc ms Pc) (PostOf Qc mc ms free) (vx_Post XC mc ms free) := by
  obtain ⟨hrc, hrs, hfr, hlo, hws, hcw, -, hini, -⟩ := cb
  exact vx_back (bytes := bytes) (maxL := maxL) (ret := ret) hM hbl hrc hrs hfr hlo hws hcw (fun a' U hW => word_at hW (Or.inl (by first | rfl | simp [Cond.onTables, Cond.keeps, Cond.steady])) hini)
theorem vx_runV (S : CallFix p m c cc nL s args Ts own) (hM : vx_Met l y ws rm Pc Qc XC mc ms free) (cw : CallW R s args own C index y bytes maxL ret ws rm mc ms n) (hp : PreV s H C b Pc As)
    (hg : g.method = m) (hn : As.length = n) (hsize : g.locals.size = nL) (hstack : g.stack = As.reverse ++ .ref b :: rest) (hW : 2 * g.monitorRoom + (rest.map fun v => v.category).sum ≤ 8) (hdg : decode cc g.pc = .ok (.invokevirtual index, 3)) (hf : cells + mc ≤ R.cells ∧ slots + ms ≤ R.slots) :
    vx_Run p l e R s m args below meth c H locs cells slots mc ms g rest (Qc (Value.ref b :: As).toArray) XC free := by
  have hK : vx_Back l R p e below s args y 3 8 (PreOf R mc ms Pc) (PostOf Qc mc ms free) (vx_Post XC mc ms free) := vx_callBack cw.1 hM hp.1
  obtain ⟨⟨-, -, -, -, -, -, hcode, -, hy, hlen, hl⟩, hin, hse⟩ := cw
  obtain ⟨hx, hb, hml, ho, -⟩ := S
  obtain ⟨-, ⟨cellB, hcB, hoB, hclB⟩, hPc⟩ := hp
  intro T hT X
  rcases vx_callV X hx (C := C) (bytes := bytes) (maxL := maxL) (ret := ret) ho hl hin hse hcode hy hK (by rw [hT]; exact hcB) hoB hclB hg (hsize.trans hml.symm) (argsL := As) (rest := rest) (fun sig h => hn.trans (hlen sig h)) hstack hW (by rw [hb]; exact hdg)
    (fun vm₁ hW₁ => ⟨hf.1, hf.2, hPc (T.setVm vm₁) hT hW₁⟩) with ⟨v, vm₁, ⟨U', l2, c2, s2⟩, hW₁, X', ⟨g', mk, t, L, e1, e2, hq, h1, hL, h2, h3⟩, st⟩ | ⟨q, vm₁, ⟨U', l2, c2, s2⟩, hW₁, X', ⟨g', mk, t, L, E, ce, e1, e2, hq, hce, hcv, hcl, h1, hL, h2, h3⟩, st⟩
  · dsimp only [Pt.U, Pt.locs, Pt.cells, Pt.slots] at X' e1 e2 h1 h2 h3 st
    subst h1; subst h2; subst h3
    exact Or.inl ⟨v, (T.setVm vm₁).calling g' mk (Value.ref b :: As).toArray, t, U', L, hT, X', hL, e1, e2, hq, st⟩
  · dsimp only [Pt.U, Pt.locs, Pt.cells, Pt.slots] at X' e1 e2 h1 h2 h3 st hcl
    subst h1; subst h2; subst h3
    exact Or.inr ⟨q, (T.setVm vm₁).calling g' mk (Value.ref b :: As).toArray, t, U', L, E, ce, hT, X', hL, e1, e2, hq, hce, hcv, vx_cls hW₁ hcl, st⟩
theorem vx_runS (S : CallFix p m c cc nL s args Ts own) (hM : vx_Met l y ws rm Pc Qc XC mc ms free) (cw : CallB R s args own index y bytes maxL ret ws rm mc ms n ∧ (Cond.static y).before args s = true) (hp : PreS s H Pc As)
    (hg : g.method = m) (hn : As.length = n) (hsize : g.locals.size = nL) (hstack : g.stack = As.reverse ++ rest) (hW : 2 * g.monitorRoom + (rest.map fun v => v.category).sum ≤ 8) (hdg : decode cc g.pc = .ok (.invokestatic index, 3)) (hf : cells + mc ≤ R.cells ∧ slots + ms ≤ R.slots) :
    vx_Run p l e R s m args below meth c H locs cells slots mc ms g rest (Qc As.toArray) XC free := by
  have hK : vx_Back l R p e below s args y 3 8 (PreOf R mc ms Pc) (PostOf Qc mc ms free) (vx_Post XC mc ms free) := vx_callBack cw.1 hM hp.1
  obtain ⟨⟨-, -, -, -, -, -, hcode, hini, hy, hlen, hl⟩, hstt⟩ := cw
  obtain ⟨hx, hb, hml, ho, -⟩ := S
  intro T hT X
  rcases vx_callS X hx (bytes := bytes) (maxL := maxL) (ret := ret) ho hl hstt hini hcode hy hK hg (hsize.trans hml.symm) (argsL := As) (rest := rest) (fun sig h => hn.trans (hlen sig h)) hstack hW (by rw [hb]; exact hdg)
    (fun vm₁ hW₁ => ⟨hf.1, hf.2, hp.2 (T.setVm vm₁) hT hW₁⟩) with ⟨v, vm₁, ⟨U', l2, c2, s2⟩, hW₁, X', ⟨g', mk, t, L, e1, e2, hq, h1, hL, h2, h3⟩, st⟩ | ⟨q, vm₁, ⟨U', l2, c2, s2⟩, hW₁, X', ⟨g', mk, t, L, E, ce, e1, e2, hq, hce, hcv, hcl, h1, hL, h2, h3⟩, st⟩
  · dsimp only [Pt.U, Pt.locs, Pt.cells, Pt.slots] at X' e1 e2 h1 h2 h3 st
    subst h1; subst h2; subst h3
    exact Or.inl ⟨v, (T.setVm vm₁).calling g' mk As.toArray, t, U', L, hT, X', hL, e1, e2, hq, st⟩
  · dsimp only [Pt.U, Pt.locs, Pt.cells, Pt.slots] at X' e1 e2 h1 h2 h3 st hcl
    subst h1; subst h2; subst h3
    exact Or.inr ⟨q, (T.setVm vm₁).calling g' mk As.toArray, t, U', L, E, ce, hT, X', hL, e1, e2, hq, hce, hcv, vx_cls hW₁ hcl, st⟩
end Runs
section Rows
variable {p : Program} {l : Launch} {e : Env} {R : Room} {s : State} {m : MethodId} {args : Array Value} {below : List Frame} {meth : Method} {c : Code} {H : Heap} {locs : List Loc} {cells slots : Nat} {Q : State → Prop}
variable {mc ms : Nat} {free : Addr → Prop} {A0 A1 : Nat → Prop} {H0 : Heap} {a : Array Value} {pc : Nat} {ls : Array Slot} {st0 rest : List Value}
theorem vx_keep {st₀ t T' : State} {L : List Loc} (h0 : st₀.heap = H) (e1 : T'.heap = t.heap) (hS : va_S A0 H0 H locs) (hA : ∀ q, q < H.size → A1 q → A0 q) (hf : ∀ q, free q → A0 q) (hL : ∀ q ∈ L, free q.base) (hF : va_F A1 st₀ t) :
    H.size ≤ T'.heap.size ∧ (∀ q : Nat, q < H.size → ¬ A1 q → T'.heap[q]? = H[q]?) ∧ va_S A0 H0 T'.heap (locs ++ L) := by
  obtain ⟨hz, hk⟩ := hF
  rw [h0] at hz hk
  exact ⟨by rw [e1]; exact hz, fun q h1 h2 => by rw [e1]; exact hk q h1 h2,
    ⟨Nat.le_trans hS.1 (by rw [e1]; exact hz), fun q h1 h2 => by rw [e1, hk q (Nat.lt_of_lt_of_le h1 hS.1) (fun z => h2 (hA q (Nat.lt_of_lt_of_le h1 hS.1) z))]; exact hS.2.1 q h1 h2, fun q hq => by
      rcases List.mem_append.mp hq with h | h
      · exact hS.2.2 q h
      · exact hf _ (hL q h)⟩⟩
theorem vx_calli {S SX : Type} {post : Int32 → S → Prop} {px : SX → Prop} {B : S → State → Prop} {BX : String → SX → State → Prop} {AX : Nat → Prop} (hr : vx_Run p l e R s m args below meth c H locs cells slots mc ms (F0 m pc ls st0) rest (va_Qi post B A1 a) (vx_X px BX AX) free) (hS : va_S A0 H0 H locs) (hA : ∀ q, q < H.size → A1 q → A0 q) (hf : ∀ q, free q → A0 q) (hAX : ∀ q, q < H.size → AX q → A0 q)
    (kx : ∀ (E : String) (ce : Cell) (q9 : Addr) (u : SX) (t : State) (H1 : Heap) (locs1 : List Loc), t.heap = H1 → s.vm.Alike t.vm → px u → BX E u t → H.size ≤ H1.size → (∀ q : Nat, q < H.size → ¬ AX q → H1[q]? = H[q]?) → va_S A0 H0 H1 locs1 → H1[q9]? = some ce → ce.vm = .none → s.vm.findClass E = some ce.cls → vx_W p l e R s m args below meth c H1 locs1 (cells + mc) (slots + ms) Q (F0 m pc ls rest) q9)
    (kk : ∀ (r : Int32) (u : S) (t : State) (H1 : Heap) (locs1 : List Loc), t.heap = H1 → s.vm.Alike t.vm → post r u → B u t → H.size ≤ H1.size → (∀ q : Nat, q < H.size → ¬ A1 q → H1[q]? = H[q]?) → va_S A0 H0 H1 locs1 → W p l e R s m args below meth c H1 locs1 (cells + mc) (slots + ms) Q (F0 m (pc + 3) ls (.int r :: rest))) : W p l e R s m args below meth c H locs cells slots Q (F0 m pc ls st0) := by
  intro T hT X
  rcases hr T hT X with ⟨v, st₀, t, T', L, h0, X', hL, e1, e2, ⟨⟨r, u, hv, hp, hb⟩, hF⟩, st⟩ | ⟨q, st₀, t, T', L, E, ce, h0, X', hL, e1, e2, ⟨u, hp, hb, hF⟩, hce, hcv, hcl, st⟩
  · cases hv
    obtain ⟨k1, k2, k3⟩ := vx_keep h0 e1 hS hA hf hL hF
    obtain ⟨t2, a1, b1⟩ := kk r u t T'.heap (locs ++ L) e1.symm (by rw [← e2]; exact X'.warmed.alike) hp hb k1 k2 k3 T' rfl X'
    exact ⟨t2, st t2 a1, b1⟩
  · obtain ⟨k1, k2, k3⟩ := vx_keep h0 e1 hS hAX hf hL hF
    obtain ⟨t2, a1, b1⟩ := kx E ce q u t T'.heap (locs ++ L) e1.symm (by rw [← e2]; exact X'.warmed.alike) hp hb k1 k2 k3 (by rw [e1]; exact hce) hcv hcl T' rfl X'
    exact ⟨t2, st.trans a1, b1⟩
theorem vx_calll {S SX : Type} {post : Int64 → S → Prop} {px : SX → Prop} {B : S → State → Prop} {BX : String → SX → State → Prop} {AX : Nat → Prop} (hr : vx_Run p l e R s m args below meth c H locs cells slots mc ms (F0 m pc ls st0) rest (va_Ql post B A1 a) (vx_X px BX AX) free) (hS : va_S A0 H0 H locs) (hA : ∀ q, q < H.size → A1 q → A0 q) (hf : ∀ q, free q → A0 q) (hAX : ∀ q, q < H.size → AX q → A0 q)
    (kx : ∀ (E : String) (ce : Cell) (q9 : Addr) (u : SX) (t : State) (H1 : Heap) (locs1 : List Loc), t.heap = H1 → s.vm.Alike t.vm → px u → BX E u t → H.size ≤ H1.size → (∀ q : Nat, q < H.size → ¬ AX q → H1[q]? = H[q]?) → va_S A0 H0 H1 locs1 → H1[q9]? = some ce → ce.vm = .none → s.vm.findClass E = some ce.cls → vx_W p l e R s m args below meth c H1 locs1 (cells + mc) (slots + ms) Q (F0 m pc ls rest) q9)
    (kk : ∀ (r : Int64) (u : S) (t : State) (H1 : Heap) (locs1 : List Loc), t.heap = H1 → s.vm.Alike t.vm → post r u → B u t → H.size ≤ H1.size → (∀ q : Nat, q < H.size → ¬ A1 q → H1[q]? = H[q]?) → va_S A0 H0 H1 locs1 → W p l e R s m args below meth c H1 locs1 (cells + mc) (slots + ms) Q (F0 m (pc + 3) ls (.long r :: rest))) : W p l e R s m args below meth c H locs cells slots Q (F0 m pc ls st0) := by
  intro T hT X
  rcases hr T hT X with ⟨v, st₀, t, T', L, h0, X', hL, e1, e2, ⟨⟨r, u, hv, hp, hb⟩, hF⟩, st⟩ | ⟨q, st₀, t, T', L, E, ce, h0, X', hL, e1, e2, ⟨u, hp, hb, hF⟩, hce, hcv, hcl, st⟩
  · cases hv
    obtain ⟨k1, k2, k3⟩ := vx_keep h0 e1 hS hA hf hL hF
    obtain ⟨t2, a1, b1⟩ := kk r u t T'.heap (locs ++ L) e1.symm (by rw [← e2]; exact X'.warmed.alike) hp hb k1 k2 k3 T' rfl X'
    exact ⟨t2, st t2 a1, b1⟩
  · obtain ⟨k1, k2, k3⟩ := vx_keep h0 e1 hS hAX hf hL hF
    obtain ⟨t2, a1, b1⟩ := kx E ce q u t T'.heap (locs ++ L) e1.symm (by rw [← e2]; exact X'.warmed.alike) hp hb k1 k2 k3 (by rw [e1]; exact hce) hcv hcl T' rfl X'
    exact ⟨t2, st.trans a1, b1⟩
theorem vx_callf {S SX : Type} {post : UInt32 → S → Prop} {px : SX → Prop} {B : S → State → Prop} {BX : String → SX → State → Prop} {AX : Nat → Prop} (hr : vx_Run p l e R s m args below meth c H locs cells slots mc ms (F0 m pc ls st0) rest (va_Qf post B A1 a) (vx_X px BX AX) free) (hS : va_S A0 H0 H locs) (hA : ∀ q, q < H.size → A1 q → A0 q) (hf : ∀ q, free q → A0 q) (hAX : ∀ q, q < H.size → AX q → A0 q)
    (kx : ∀ (E : String) (ce : Cell) (q9 : Addr) (u : SX) (t : State) (H1 : Heap) (locs1 : List Loc), t.heap = H1 → s.vm.Alike t.vm → px u → BX E u t → H.size ≤ H1.size → (∀ q : Nat, q < H.size → ¬ AX q → H1[q]? = H[q]?) → va_S A0 H0 H1 locs1 → H1[q9]? = some ce → ce.vm = .none → s.vm.findClass E = some ce.cls → vx_W p l e R s m args below meth c H1 locs1 (cells + mc) (slots + ms) Q (F0 m pc ls rest) q9)
    (kk : ∀ (r : UInt32) (u : S) (t : State) (H1 : Heap) (locs1 : List Loc), t.heap = H1 → s.vm.Alike t.vm → post r u → B u t → H.size ≤ H1.size → (∀ q : Nat, q < H.size → ¬ A1 q → H1[q]? = H[q]?) → va_S A0 H0 H1 locs1 → W p l e R s m args below meth c H1 locs1 (cells + mc) (slots + ms) Q (F0 m (pc + 3) ls (.float r :: rest))) : W p l e R s m args below meth c H locs cells slots Q (F0 m pc ls st0) := by
  intro T hT X
  rcases hr T hT X with ⟨v, st₀, t, T', L, h0, X', hL, e1, e2, ⟨⟨r, u, hv, hp, hb⟩, hF⟩, st⟩ | ⟨q, st₀, t, T', L, E, ce, h0, X', hL, e1, e2, ⟨u, hp, hb, hF⟩, hce, hcv, hcl, st⟩
  · cases hv
    obtain ⟨k1, k2, k3⟩ := vx_keep h0 e1 hS hA hf hL hF
    obtain ⟨t2, a1, b1⟩ := kk r u t T'.heap (locs ++ L) e1.symm (by rw [← e2]; exact X'.warmed.alike) hp hb k1 k2 k3 T' rfl X'
    exact ⟨t2, st t2 a1, b1⟩
  · obtain ⟨k1, k2, k3⟩ := vx_keep h0 e1 hS hAX hf hL hF
    obtain ⟨t2, a1, b1⟩ := kx E ce q u t T'.heap (locs ++ L) e1.symm (by rw [← e2]; exact X'.warmed.alike) hp hb k1 k2 k3 (by rw [e1]; exact hce) hcv hcl T' rfl X'
    exact ⟨t2, st.trans a1, b1⟩
theorem vx_calld {S SX : Type} {post : UInt64 → S → Prop} {px : SX → Prop} {B : S → State → Prop} {BX : String → SX → State → Prop} {AX : Nat → Prop} (hr : vx_Run p l e R s m args below meth c H locs cells slots mc ms (F0 m pc ls st0) rest (va_Qd post B A1 a) (vx_X px BX AX) free) (hS : va_S A0 H0 H locs) (hA : ∀ q, q < H.size → A1 q → A0 q) (hf : ∀ q, free q → A0 q) (hAX : ∀ q, q < H.size → AX q → A0 q)
    (kx : ∀ (E : String) (ce : Cell) (q9 : Addr) (u : SX) (t : State) (H1 : Heap) (locs1 : List Loc), t.heap = H1 → s.vm.Alike t.vm → px u → BX E u t → H.size ≤ H1.size → (∀ q : Nat, q < H.size → ¬ AX q → H1[q]? = H[q]?) → va_S A0 H0 H1 locs1 → H1[q9]? = some ce → ce.vm = .none → s.vm.findClass E = some ce.cls → vx_W p l e R s m args below meth c H1 locs1 (cells + mc) (slots + ms) Q (F0 m pc ls rest) q9)
    (kk : ∀ (r : UInt64) (u : S) (t : State) (H1 : Heap) (locs1 : List Loc), t.heap = H1 → s.vm.Alike t.vm → post r u → B u t → H.size ≤ H1.size → (∀ q : Nat, q < H.size → ¬ A1 q → H1[q]? = H[q]?) → va_S A0 H0 H1 locs1 → W p l e R s m args below meth c H1 locs1 (cells + mc) (slots + ms) Q (F0 m (pc + 3) ls (.double r :: rest))) : W p l e R s m args below meth c H locs cells slots Q (F0 m pc ls st0) := by
  intro T hT X
  rcases hr T hT X with ⟨v, st₀, t, T', L, h0, X', hL, e1, e2, ⟨⟨r, u, hv, hp, hb⟩, hF⟩, st⟩ | ⟨q, st₀, t, T', L, E, ce, h0, X', hL, e1, e2, ⟨u, hp, hb, hF⟩, hce, hcv, hcl, st⟩
  · cases hv
    obtain ⟨k1, k2, k3⟩ := vx_keep h0 e1 hS hA hf hL hF
    obtain ⟨t2, a1, b1⟩ := kk r u t T'.heap (locs ++ L) e1.symm (by rw [← e2]; exact X'.warmed.alike) hp hb k1 k2 k3 T' rfl X'
    exact ⟨t2, st t2 a1, b1⟩
  · obtain ⟨k1, k2, k3⟩ := vx_keep h0 e1 hS hAX hf hL hF
    obtain ⟨t2, a1, b1⟩ := kx E ce q u t T'.heap (locs ++ L) e1.symm (by rw [← e2]; exact X'.warmed.alike) hp hb k1 k2 k3 (by rw [e1]; exact hce) hcv hcl T' rfl X'
    exact ⟨t2, st.trans a1, b1⟩
theorem vx_callv {S SX : Type} {post : S → Prop} {px : SX → Prop} {B : S → State → Prop} {BX : String → SX → State → Prop} {AX : Nat → Prop} (hr : vx_Run p l e R s m args below meth c H locs cells slots mc ms (F0 m pc ls st0) rest (va_Qv post B A1 a) (vx_X px BX AX) free) (hS : va_S A0 H0 H locs) (hA : ∀ q, q < H.size → A1 q → A0 q) (hf : ∀ q, free q → A0 q) (hAX : ∀ q, q < H.size → AX q → A0 q)
    (kx : ∀ (E : String) (ce : Cell) (q9 : Addr) (u : SX) (t : State) (H1 : Heap) (locs1 : List Loc), t.heap = H1 → s.vm.Alike t.vm → px u → BX E u t → H.size ≤ H1.size → (∀ q : Nat, q < H.size → ¬ AX q → H1[q]? = H[q]?) → va_S A0 H0 H1 locs1 → H1[q9]? = some ce → ce.vm = .none → s.vm.findClass E = some ce.cls → vx_W p l e R s m args below meth c H1 locs1 (cells + mc) (slots + ms) Q (F0 m pc ls rest) q9)
    (kk : ∀ (u : S) (t : State) (H1 : Heap) (locs1 : List Loc), t.heap = H1 → s.vm.Alike t.vm → post u → B u t → H.size ≤ H1.size → (∀ q : Nat, q < H.size → ¬ A1 q → H1[q]? = H[q]?) → va_S A0 H0 H1 locs1 → W p l e R s m args below meth c H1 locs1 (cells + mc) (slots + ms) Q (F0 m (pc + 3) ls (rest))) : W p l e R s m args below meth c H locs cells slots Q (F0 m pc ls st0) := by
  intro T hT X
  rcases hr T hT X with ⟨v, st₀, t, T', L, h0, X', hL, e1, e2, ⟨⟨u, hv, hp, hb⟩, hF⟩, st⟩ | ⟨q, st₀, t, T', L, E, ce, h0, X', hL, e1, e2, ⟨u, hp, hb, hF⟩, hce, hcv, hcl, st⟩
  · cases hv
    obtain ⟨k1, k2, k3⟩ := vx_keep h0 e1 hS hA hf hL hF
    obtain ⟨t2, a1, b1⟩ := kk u t T'.heap (locs ++ L) e1.symm (by rw [← e2]; exact X'.warmed.alike) hp hb k1 k2 k3 T' rfl X'
    exact ⟨t2, st t2 a1, b1⟩
  · obtain ⟨k1, k2, k3⟩ := vx_keep h0 e1 hS hAX hf hL hF
    obtain ⟨t2, a1, b1⟩ := kx E ce q u t T'.heap (locs ++ L) e1.symm (by rw [← e2]; exact X'.warmed.alike) hp hb k1 k2 k3 (by rw [e1]; exact hce) hcv hcl T' rfl X'
    exact ⟨t2, st.trans a1, b1⟩
/-- caught by the row x of this method's table; the rows ahead don't take it -/
theorem vx_catch {own name : String} {E : String} {ce : Cell} {q : Addr} (hown : s.vm.findClass own = some m.cls) (pre : List ExceptionTableEntry) (x : ExceptionTableEntry) (suf : List ExceptionTableEntry) (hsplit : c.exceptionTable.toList = pre ++ x :: suf)
    (hpass : ∀ z ∈ pre, covers z pc = false ∨ (z.catchType ≠ 0 ∧ ∃ nm : String, (Cond.classLink own z.catchType nm).before args s = true ∧ va_Nc E nm s)) (hx : covers x pc = true) (h0 : x.catchType ≠ 0)
    (hlink : (Cond.classLink own x.catchType name).before args s = true) (hcast : (Cond.castable E name).before args s = true) (hcell : H[q]? = some ce) (hv : ce.vm = .none) (hcl : s.vm.findClass E = some ce.cls)
    (kk : W p l e R s m args below meth c H locs cells slots Q (F0 m x.handlerPc ls [.ref q])) : vx_W p l e R s m args below meth c H locs cells slots Q (F0 m pc ls rest) q := by
  intro T hT X
  have hpl : e.platform.magicAccessors = ({} : Platform).magicAccessors := by rw [X.admits.platform]
  obtain ⟨c3, c4, hc3, hc4, hasg⟩ := Cond.castable_spec hcast
  cases Option.some.inj (hc3.symm.trans hcl)
  obtain ⟨c5, hc5, hcl5⟩ := Cond.classLink_spec hown hlink e.platform hpl
  cases Option.some.inj (hc4.symm.trans hc5)
  obtain ⟨vm', X', st⟩ := X.thenCaughtThrough q (g := F0 m pc ls rest) rfl (Steps.refl _) (by rw [hT]; exact hcell) (by rw [hv]; rfl) (by obtain ⟨k9, h9, -⟩ := Vm.findClass_spec hcl; exact ⟨k9, h9⟩) pre x suf hsplit
    (fun z hz => by
      rcases hpass z hz with h | ⟨hz0, nm, hl1, hn1⟩
      · exact Or.inl h
      · obtain ⟨c6, hc6, hcl6⟩ := Cond.classLink_spec hown hl1 e.platform hpl
        obtain ⟨a8, b8, h1, h2, h3⟩ := hn1
        cases Option.some.inj (h1.symm.trans hcl)
        cases Option.some.inj (h2.symm.trans hc6)
        exact Or.inr ⟨hz0, _, hcl6, h3⟩) hx (Or.inr ⟨h0, c4, hcl5, hasg⟩)
  obtain ⟨t, a1, b1⟩ := kk (T.setVm vm') hT X'
  exact ⟨t, st.trans a1, b1⟩
end Rows
section Ends
variable {p : Program} {l : Launch} {e : Env} {R : Room} {s : State} {m : MethodId} {args : Array Value} {below : List Frame} {meth : Method} {c : Code} {H : Heap} {locs : List Loc} {cells slots : Nat} {Q : State → Prop}
variable {mc ms : Nat} {free : Addr → Prop} {A0 A1 : Nat → Prop} {H0 : Heap} {a : Array Value} {ls : Array Slot} {st0 rest : List Value}
variable {Qc : Array Value → State → Outcome → State → Prop} {XC : String → State → State → Prop}
/-- what a body that may throw owes at its end -/
def vx_MQ (below : List Frame) (Qc : Array Value → State → Outcome → State → Prop) (XC : String → State → State → Prop) (a : Array Value) (s : State) (mc ms : Nat) (free : Addr → Prop) : State → Prop := fun t =>
  ∃ o, t.status = .running ∧ Ended t below o ∧ vx_Q Qc XC mc ms free a s o t
theorem vx_ret {g : JFrame} {mc ms : Nat} (k : W p l e R s m args below meth c H locs cells slots (MQ below Qc args s mc ms free) g) : W p l e R s m args below meth c H locs cells slots (vx_MQ below Qc XC args s mc ms free) g := by
  intro T hT X
  obtain ⟨t, a1, o, b1, b2, b3, b4⟩ := k T hT X
  exact ⟨t, a1, o, b1, b2, Or.inl ⟨b3, b4⟩⟩
/-- not caught here: it goes on to the caller -/
theorem vx_widen {g : JFrame} {q : Addr} {k n : Nat} (h1 : cells ≤ k) (h2 : slots ≤ n) (kk : vx_W p l e R s m args below meth c H locs k n Q g q) : vx_W p l e R s m args below meth c H locs cells slots Q g q := fun T hT X => kk T hT (stand_widen X h1 h2)
theorem vx_out {pc : Nat} {E : String} {ce : Cell} {q : Addr} {mc ms : Nat} (hout : ∀ x ∈ c.exceptionTable.toList, covers x pc = false) (hlocks : meth.locks = false) (hcell : H[q]? = some ce) (hv : ce.vm = .none) (hcl : s.vm.findClass E = some ce.cls)
    (hx : ∀ t : State, t.heap = H → s.vm.Alike t.vm → XC E s t) (hf : ∀ z ∈ locs, free z.base) (hc : cells ≤ mc) (hs : slots ≤ ms) :
    vx_W p l e R s m args below meth c H locs cells slots (vx_MQ below Qc XC args s mc ms free) (F0 m pc ls rest) q := by
  intro T hT X
  obtain ⟨st1, hrun, hend, hW, hsm⟩ := X.leaveThrown q (g := F0 m pc ls rest) rfl rfl rfl hout hlocks
  have hcell9 : (T.setFrames (.throwing q :: below)).heap[q]? = some ce := by
    show T.heap[q]? = some ce
    rw [hT]; exact hcell
  exact ⟨_, st1, .threw q, hrun, hend, Or.inr ⟨q, rfl, E, ce, locs, hx _ hT hW.alike, hcell9, hv, hcl, hW, hsm.mono hc hs, hf⟩⟩
theorem vx_frame {U : State} {k n : Nat} (h : s.sameButNew ({ U with vm := s.vm } : State) locs k n) : s.heap.size ≤ U.heap.size ∧ ∀ q : Nat, q < s.heap.size → (∀ z ∈ locs, z.base ≠ q) → U.heap[q]? = s.heap[q]? := by
  obtain ⟨-, h2, -, -, -, h6⟩ := h
  refine ⟨h2, fun q hq hz => ?_⟩
  obtain ⟨c9, e1, e2, e3, e4⟩ := h6 q _ (Array.getElem?_eq_getElem hq)
  have hs : c9.slots = (s.heap[q]).slots := Array.ext_getElem? fun i => e4 i fun hm => hz _ hm rfl
  have h9 : c9 = s.heap[q] := by
    rw [hs] at e2
    exact e2
  have e5 : U.heap[q]? = some c9 := e1
  rw [e5, h9, Array.getElem?_eq_getElem hq]
/-- the words of a throw but the four that speak of the heap -/
def vx_no (w : Cond) : Bool := decide (w ≠ .isRef (.static Bundle.tN "UNASSIGNED_STACK" Bundle.steD)) && decide (w ≠ .isRef (.static Bundle.tN "SUPPRESSED_SENTINEL" Bundle.listD)) && decide (w ≠ .laysStatic Bundle.tN "UNASSIGNED_STACK" Bundle.steD) && decide (w ≠ .laysStatic Bundle.tN "SUPPRESSED_SENTINEL" Bundle.listD)
def vx_at0 (own : String) (ic : Nat) (X : String) (names : List String) : List Cond := (Bundle.ownAtoms0 own ic X names).filter vx_no
def vx_atS (own : String) (ic : Nat) (X : String) (names : List String) : List Cond := (Bundle.ownAtoms own ic X names).filter vx_no
/-- a word that the tables alone decide, or a good one -/
def vx_ot (w : Cond) : Bool := w.onTables || goodWord w
theorem vx_ot_at {args a' : Array Value} {s U : State} {w : Cond} (hW : s.WarmedH U.vm) (hvm : s.vm = U.vm) (hg : vx_ot w = true) (h : w.before args s = true) : w.before a' U = true := by
  simp only [vx_ot, Bool.or_eq_true] at hg
  rcases hg with hg | hg
  · exact va_tabs hg hvm h
  · exact word_at hW (good_of_word hg) h
/-- a list's words: the good ones out of the method's own list, the others by premises of their own -/
theorem vx_hat {args : Array Value} {s : State} {L B : List Cond} (h1 : ∀ w ∈ L.filter goodWord, w.before args s = true) (h2 : ∀ w ∈ L.filter (fun w => !goodWord w), w ∈ B) (h3 : ∀ w ∈ B, w.before args s = true) : ∀ w ∈ L, w.before args s = true := by
  intro w hw
  by_cases g : goodWord w = true
  · exact h1 w (List.mem_filter.mpr ⟨hw, g⟩)
  · refine h3 w (h2 w (List.mem_filter.mpr ⟨hw, ?_⟩))
    show (!goodWord w) = true
    cases hgw : goodWord w
    · rfl
    · exact absurd hgw g
theorem vx_c {args : Array Value} {s : State} {w : Cond} {B : List Cond} (h : w.before args s = true) (t : ∀ w ∈ B, w.before args s = true) : ∀ w' ∈ w :: B, w'.before args s = true := fun w' h' => (List.mem_cons.mp h').elim (fun e => by rw [e]; exact h) (t w')
theorem vx_n {args : Array Value} {s : State} : ∀ w ∈ ([] : List Cond), w.before args s = true := fun _ h => nomatch h
theorem vx_own {args : Array Value} {s : State} {L : List Cond} (h1 : ∀ w ∈ L.filter vx_no, w.before args s = true)
    (hU : (Cond.isRef (.static Bundle.tN "UNASSIGNED_STACK" Bundle.steD)).before args s = true) (hN : (Cond.isRef (.static Bundle.tN "SUPPRESSED_SENTINEL" Bundle.listD)).before args s = true)
    (lU : (Cond.laysStatic Bundle.tN "UNASSIGNED_STACK" Bundle.steD).before args s = true) (lN : (Cond.laysStatic Bundle.tN "SUPPRESSED_SENTINEL" Bundle.listD).before args s = true) : ∀ w ∈ L, w.before args s = true := by
  intro w hw
  by_cases e1 : w = .isRef (.static Bundle.tN "UNASSIGNED_STACK" Bundle.steD)
  · rw [e1]; exact hU
  · by_cases e2 : w = .isRef (.static Bundle.tN "SUPPRESSED_SENTINEL" Bundle.listD)
    · rw [e2]; exact hN
    · by_cases e3 : w = .laysStatic Bundle.tN "UNASSIGNED_STACK" Bundle.steD
      · rw [e3]; exact lU
      · by_cases e4 : w = .laysStatic Bundle.tN "SUPPRESSED_SENTINEL" Bundle.listD
        · rw [e4]; exact lN
        · exact h1 w (List.mem_filter.mpr ⟨hw, by unfold vx_no; rw [decide_eq_true e1, decide_eq_true e2, decide_eq_true e3, decide_eq_true e4]; rfl⟩)
/-- where a static field lies, its class's statics cell in H -/
def vx_L (C n d : String) (A : Nat → Prop) (U : State) (H : Heap) : Prop := ∃ (c : ClassId) (k : Class) (i : Nat) (f : Field) (a : Nat) (cell : Cell), U.vm.findClass C = some c ∧ U.fieldFound? C n d = some (c, k, i, f) ∧ f.isStatic = true ∧ k.statics = some a ∧ H[a]? = some cell ∧ cell.vm.isStatics = true ∧ cell.cls = c ∧ f.slot < cell.slots.size ∧ k.staticTypes[f.slot]? = some f.type ∧ ¬ A a
theorem vx_L.moved {C n d : String} {A : Nat → Prop} {u U : State} {H : Heap} (hvm : u.vm.Alike U.vm) (h : vx_L C n d A u H) : vx_L C n d A U H := by
  obtain ⟨c, k, i, f, a, cell, h1, h2, h3, h4, h5, h6, h7, h8, h9, h10⟩ := h
  obtain ⟨k', hi', he⟩ := State.fieldFound?_setVm hvm h2
  exact ⟨c, k', i, f, a, cell, by rw [hvm.findClass]; exact h1, hi', h3, by rw [he]; exact h4, h5, h6, h7, h8, by rw [he]; exact h9, h10⟩
theorem vx_L.kept {C n d : String} {A : Nat → Prop} {U : State} {H H1 : Heap} (h : vx_L C n d A U H) (hq : ∀ a : Nat, a < H.size → ¬ A a → H1[a]? = H[a]?) : vx_L C n d A U H1 := by
  obtain ⟨c, k, i, f, a, cell, h1, h2, h3, h4, h5, h6, h7, h8, h9, h10⟩ := h
  exact ⟨c, k, i, f, a, cell, h1, h2, h3, h4, by rw [hq a (Array.getElem?_eq_some_iff.mp h5).1 h10]; exact h5, h6, h7, h8, h9, h10⟩
theorem vx_L.narrow {C n d : String} {A B : Nat → Prop} {U : State} {H : Heap} (h : vx_L C n d A U H) (hAB : ∀ q, B q → A q) : vx_L C n d B U H := by
  obtain ⟨c, k, i, f, a, cell, h1, h2, h3, h4, h5, h6, h7, h8, h9, h10⟩ := h
  exact ⟨c, k, i, f, a, cell, h1, h2, h3, h4, h5, h6, h7, h8, h9, fun z => h10 (hAB _ z)⟩
theorem vx_L.word {C n d : String} {A : Nat → Prop} {s : State} {args : Array Value} (h : vx_L C n d A s s.heap) : (Cond.laysStatic C n d).before args s = true := by
  obtain ⟨c, k, i, f, a, cell, h1, h2, h3, h4, h5, h6, h7, h8, h9, -⟩ := h
  show (Cond.laysStatic C n d).holds args s none s [] = true
  exact Cond.laysStatic_of h1 h2 h3 h4 h5 h6 h7 h8 h9
/-- .. and what it holds: null or some reference -/
def vx_Zq (C n d : String) (A : Nat → Prop) (U : State) (H : Heap) : Prop := va_Zq C n d A U H ∧ vx_L C n d A U H
theorem vx_Zq.moved {C n d : String} {A : Nat → Prop} {u U : State} {H : Heap} (hvm : u.vm.Alike U.vm) (h : vx_Zq C n d A u H) : vx_Zq C n d A U H := ⟨va_Zq.moved hvm h.1, vx_L.moved hvm h.2⟩
theorem vx_Zq.kept {C n d : String} {A : Nat → Prop} {U : State} {H H1 : Heap} (h : vx_Zq C n d A U H) (hq : ∀ a : Nat, a < H.size → ¬ A a → H1[a]? = H[a]?) : vx_Zq C n d A U H1 := ⟨va_Zq.kept h.1 hq, vx_L.kept h.2 hq⟩
theorem vx_Zq.narrow {C n d : String} {A B : Nat → Prop} {U : State} {H : Heap} (h : vx_Zq C n d A U H) (hAB : ∀ q, B q → A q) : vx_Zq C n d B U H := ⟨va_Zq.narrow h.1 hAB, vx_L.narrow h.2 hAB⟩
theorem vx_Zqof {args : Array Value} {s : State} {C n d : String} {A : Nat → Prop} (hl : (Cond.laysStatic C n d).before args s = true) (hini : (Cond.initialized C).before args s = true) (h : (Cond.isRef (.static C n d)).before args s = true) (hA : ∀ a : Nat, a < s.heap.size → ¬ A a) : vx_Zq C n d A s s.heap := by
  refine ⟨va_Zqof hl hini h hA, ?_⟩
  obtain ⟨c, k, i, f, a, cell, h1, h2, h3, h4, h5, h6, h7, h8, h9⟩ := Cond.laysStatic_spec hl
  exact ⟨c, k, i, f, a, cell, h1, h2, h3, h4, h5, h6, h7, h8, h9, hA a (Array.getElem?_eq_some_iff.mp h5).1⟩
theorem vx_isRef {C n d : String} {v : Value} {A : Nat → Prop} {s : State} {args : Array Value} (h : va_Z C n d v A s s.heap) (hv : v.isRef = true) : (Cond.isRef (.static C n d)).before args s = true := by
  obtain ⟨cf, kf, fi, f, a, cell, h1, h2, h3, h4, h5, h6, h7, -⟩ := h
  have he : (Term.static C n d).eval args s none [] s = some v := by
    simp [Term.eval, State.fieldNamed?, h1, h2, h4, h5, h6, h7]
  simp only [Cond.before, Cond.holds, Cond.value, he]
  cases v <;> simp_all [Value.isRef]
theorem vx_isRefq {C n d : String} {A : Nat → Prop} {s : State} {args : Array Value} (h : va_Zq C n d A s s.heap) : (Cond.isRef (.static C n d)).before args s = true := by
  rcases h with h | ⟨t, h⟩
  · exact vx_isRef h rfl
  · exact vx_isRef h rfl
/-- the same frame, seen from here: as if the method were called anew in this heap -/
theorem vx_rebase {T : State} (X : Stand p l e R s m args below meth c T locs cells slots) {R' : Room} (hf : R'.frames ≤ R.frames) (hl : R'.locals ≤ R.locals) (hc : cells + R'.cells ≤ R.cells) (hs : slots + R'.slots ≤ R.slots) :
    Stand p l e R' ((T.setVm s.vm).setFrames (.invoking m args :: below)) m args below meth c T [] 0 0 := by
  have htop : (T.setVm s.vm).topJava?.isSome := X.here.top
  have hF : ((T.setVm s.vm).setFrames (.invoking m args :: below)).frames = .invoking m args :: below := State.frames_setFrames _ (State.cur_lt_of_top htop)
  obtain ⟨g₀, hg0⟩ := Option.isSome_iff_exists.mp htop
  obtain ⟨r, hr⟩ := State.topJava?_eq_some.mp hg0
  have hl9 : e.platform.stackLimits (T.setVm s.vm).me = e.platform.stackLimits s.me := X.limits
  have hb9 : (T.setVm s.vm).me.stackBytes = s.me.stackBytes := X.bytes
  refine ⟨X.admits, X.cas, X.clock, hF, ?_, X.hears, X.method, X.code, X.here, X.tail, X.warmed, ?_, ?_, ?_⟩
  · have h := X.room
    have hU : ((T.setVm s.vm).setFrames (.invoking m args :: below)).localsInUse = s.localsInUse := by
      rw [State.localsInUse_invoking hF (meth := meth) (c := c) X.method X.code, State.localsInUse_invoking X.frames X.method X.code]
    simp only [State.hasRoom, Bool.and_eq_true, decide_eq_true_eq] at h ⊢
    obtain ⟨⟨⟨⟨h1, h2, h3, h4, h5, h6⟩, h7⟩, h8⟩, h9⟩ := h
    rw [X.frames, List.length_cons] at h2 h3
    have q1 := X.heapSize
    have q2 := X.used
    simp only [hF, hU, List.length_cons, State.stackLimits_setFrames, State.stackBytes_setFrames, hl9, hb9]
    refine ⟨⟨⟨⟨by omega, by omega, by omega, by omega, by omega, h6⟩, ?_⟩, ?_⟩, X.book⟩
    · show T.heap.size + R'.cells ≤ e.platform.maxCells
      omega
    · show T.slotsUsed + R'.slots ≤ e.platform.maxSlots
      omega
  · rw [State.stackLimits_setFrames]; rfl
  · rw [State.stackBytes_setFrames]; rfl
  · refine ⟨?_, Nat.le_refl _, Nat.le_refl _, ?_, ?_, fun a c9 h9 => ⟨c9, h9, rfl, rfl, fun _ _ => rfl⟩⟩
    · obtain ⟨t, ht, -⟩ := State.frames_cons hr
      show T.setVm s.vm = { ((T.setVm s.vm).setFrames (.invoking m args :: below)).setFrames (T.setVm s.vm).frames with heap := T.heap, slotsUsed := T.slotsUsed }
      rw [State.setFrames_setFrames, State.setFrames_self ht]
      rfl
    · show T.slotsUsed = T.slotsUsed + ((T.heap.toList.drop T.heap.size).map (·.slots.size)).sum
      rw [List.drop_eq_nil_of_le (Nat.le_of_eq Array.length_toList)]
      rfl
    · show ((T.heap.toList.drop T.heap.size).map (·.slots.size)).sum ≤ 0
      rw [List.drop_eq_nil_of_le (Nat.le_of_eq Array.length_toList)]
      exact Nat.le_refl _
/-- 'throw new E()': new; dup; invokespecial; athrow -/
theorem vx_throw0 {cc : ByteArray} {pc : Nat} (hexec : p.tables.exec = Jvm.exec) (hb : c.code = cc) (hl : l.stackTraces = false) {own cls : String} {names : List String} {ik ic mc ms : Nat} {A : Nat → Prop}
    (hown : s.vm.findClass own = some m.cls) (hcls : Bundle.fit cls = true) (hnames : ∀ n ∈ names, Bundle.fit n = true)
    (hk : (Cond.classLink own ik cls).before args s = true) (hini : (Cond.initialized cls).before args s = true) (hat : ∀ w ∈ vx_at0 own ic cls names, w.before args s = true)
    (hgood : ∀ w ∈ Cond.classLink own ik cls :: Cond.initialized cls :: vx_at0 own ic cls names, vx_ot w = true)
    (hU : vx_Zq Bundle.tN "UNASSIGNED_STACK" Bundle.steD A s s.heap) (hN : vx_Zq Bundle.tN "SUPPRESSED_SENTINEL" Bundle.listD A s s.heap) (hS : va_S A s.heap H locs) (hsize : ls.size = c.maxLocals)
    (d0 : decode cc pc = .ok (.new ik, 3)) (d3 : decode cc (pc + 3) = .ok (.dup, 1)) (d4 : decode cc (pc + 4) = .ok (.invokespecial ic, 3)) (d7 : decode cc (pc + 7) = .ok (.athrow, 1))
    (hout : ∀ x ∈ c.exceptionTable.toList, covers x (pc + 7) = false)
    (hRframes : names.length + 3 < R.frames) (hRlocals : (rest.map fun v => v.category).sum + (13 * (names.length + 1) + 42) ≤ R.locals) (hRcells : cells + 1 ≤ R.cells) (hRslots : slots + 6 ≤ R.slots) (hlocks : meth.locks = false)
    (hx : ∀ t : State, s.vm.Alike t.vm → H.size ≤ t.heap.size → (∀ q : Nat, q < H.size → t.heap[q]? = H[q]?) → XC cls s t)
    (hf : ∀ z ∈ locs, free z.base) (hc : cells + 1 ≤ mc) (hs : slots + 6 ≤ ms) :
    W p l e R s m args below meth c H locs cells slots (vx_MQ below Qc XC args s mc ms free) (F0 m pc ls rest) := by
  intro T hT X
  have htr : e.platform.stackTraces = false := (show e.platform.stackTraces = l.stackTraces by rw [X.admits.platform]).trans hl
  have Y := vx_rebase X (R' := { frames := R.frames, locals := R.locals, cells := 1, slots := 6 }) (Nat.le_refl _) (Nat.le_refl _) hRcells hRslots
  obtain ⟨s', hA⟩ : ∃ z, z = (T.setVm s.vm).setFrames (.invoking m args :: below) := ⟨_, rfl⟩
  rw [← hA] at Y
  have hvm : s'.vm = s.vm := by rw [hA]; rfl
  have hhp : s'.heap = H := by rw [hA]; exact hT
  have hW0 : s.WarmedH s'.vm := by rw [hvm]; exact State.WarmedH.refl s
  have hat' : ∀ w ∈ vx_at0 own ic cls names, w.before args s' = true := fun w hw => vx_ot_at hW0 hvm.symm (hgood w (List.mem_cons_of_mem _ (List.mem_cons_of_mem _ hw))) (hat w hw)
  have hk' : (Cond.classLink own ik cls).before args s' = true := vx_ot_at hW0 hvm.symm (hgood _ List.mem_cons_self) hk
  have hini' : (Cond.initialized cls).before args s' = true := vx_ot_at hW0 hvm.symm (hgood _ (List.mem_cons_of_mem _ List.mem_cons_self)) hini
  have hU' : vx_Zq Bundle.tN "UNASSIGNED_STACK" Bundle.steD A s' s'.heap := by rw [hhp]; exact vx_Zq.moved hW0.alike (hU.kept hS.2.1)
  have hN' : vx_Zq Bundle.tN "SUPPRESSED_SENTINEL" Bundle.listD A s' s'.heap := by rw [hhp]; exact vx_Zq.moved hW0.alike (hN.kept hS.2.1)
  have h : ∀ w ∈ Bundle.ownAtoms0 own ic cls names, w.before args s' = true := vx_own hat' (vx_isRefq hU'.1) (vx_isRefq hN'.1) hU'.2.word hN'.2.word
  have hown' : s'.vm.findClass own = some m.cls := by rw [hvm]; exact hown
  have hins : (Cond.instantiable cls 6).before args s' = true := h _ (by simp [Bundle.ownAtoms0])
  obtain ⟨vm₁, cX, kX, hfX, hkX, -, -, X₁, st1⟩ := Y.newCold hexec (own := own) (C := cls) (index := ik) (n := 6) hown' hk' hins hini'
    (g := F0 m pc ls rest) rfl (by rw [hb]; exact d0) (Nat.le_refl _) (Nat.le_refl _)
  generalize hT1 : (T.setVm vm₁).pushCell { cls := cX, slots := kX.instanceTypes.map defaultValue, vm := .none } = T1 at X₁ st1
  have hcat : (Value.ref T.heap.size).category = 1 := rfl
  have hcellA : T1.heap[T.heap.size]? = some (freshCell cX kX) := by rw [← hT1]; exact State.heap_pushCell_size _ _
  have d3' : decode c.code (pc + 3) = .ok (.dup, 1) := by rw [hb]; exact d3
  obtain ⟨U, hsteps, hrun, hend, hW, hsame, ce, hce, hO⟩ := X₁.ctorThrow0 hexec htr (own := own) (cls := cls) (names := names) (ic := ic) hown' hcls hnames h (fun x hx => nomatch hx) hfX hkX hcellA (by rw [hhp, hT]; exact Nat.le_refl _)
    (g := { method := m, pc := pc + 4, locals := ls, stack := .ref T.heap.size :: .ref T.heap.size :: rest, locked := none }) rfl hsize rfl rfl (rest := rest) rfl
    (by rw [hb]; exact d4) (by rw [hb]; exact d7) hout hRframes (by simp only [List.map_cons, List.sum_cons, hcat]; omega) hlocks
  obtain ⟨f1, f2⟩ := vx_frame hsame
  rw [hhp] at f1 f2
  have hWs : s.WarmedH U.vm := State.WarmedH.trans hW0 hW
  have hcl : s.vm.findClass cls = some ce.cls := by
    have h9 := hO.cls
    rw [hvm] at h9
    exact h9
  have hall : s.sameButNew ({ U with vm := s.vm } : State) locs mc ms := by
    subst hA
    obtain ⟨e1, e2⟩ := hsame
    rw [State.setFrames_setFrames] at e1
    have h2 : (T.setVm s.vm).sameButNew ({ U with vm := s.vm } : State) [] (0 + 1) (0 + 6) := ⟨e1, e2⟩
    have h3 := X.same.trans h2
    rw [List.append_nil] at h3
    exact h3.mono hc hs
  refine ⟨U, ?_, .threw T.heap.size, hrun, hend, Or.inr ⟨T.heap.size, rfl, cls, ce, locs, hx U hWs.alike f1 (fun q hq => f2 q hq (fun z hz => nomatch hz)), hce, hO.vm, hcl, hWs, hall, hf⟩⟩
  refine st1 _ ?_
  show Steps p.tables e below (T1.setTop { method := m, pc := pc + 3, locals := ls, stack := .ref T.heap.size :: rest, locked := none }) _
  jvm_step X₁.here [X₁.here.top, hexec, d3', Value.category]
  exact hsteps
/-- 'throw new E("text")': new; dup; ldc; invokespecial; athrow -/
theorem vx_throwS {cc : ByteArray} {pc : Nat} (hexec : p.tables.exec = Jvm.exec) (hb : c.code = cc) (hl : l.stackTraces = false) {own cls text : String} {names : List String} {ik is ic mc ms sa : Nat} {A : Nat → Prop}
    (hown : s.vm.findClass own = some m.cls) (hcls : Bundle.fit cls = true) (hnames : ∀ n ∈ names, Bundle.fit n = true)
    (hk : (Cond.classLink own ik cls).before args s = true) (hini : (Cond.initialized cls).before args s = true) (hstr : vk_R own is text sa s) (hat : ∀ w ∈ vx_atS own ic cls names, w.before args s = true)
    (hgood : ∀ w ∈ Cond.classLink own ik cls :: Cond.initialized cls :: vx_atS own ic cls names, vx_ot w = true)
    (hU : vx_Zq Bundle.tN "UNASSIGNED_STACK" Bundle.steD A s s.heap) (hN : vx_Zq Bundle.tN "SUPPRESSED_SENTINEL" Bundle.listD A s s.heap) (hS : va_S A s.heap H locs) (hsize : ls.size = c.maxLocals)
    (d0 : decode cc pc = .ok (.new ik, 3)) (d3 : decode cc (pc + 3) = .ok (.dup, 1)) (d4 : decode cc (pc + 4) = .ok (.ldc is, 2)) (d6 : decode cc (pc + 6) = .ok (.invokespecial ic, 3)) (d9 : decode cc (pc + 9) = .ok (.athrow, 1))
    (hout : ∀ x ∈ c.exceptionTable.toList, covers x (pc + 9) = false)
    (hRframes : names.length + 3 < R.frames) (hRlocals : (rest.map fun v => v.category).sum + (13 * (names.length + 1) + 43) ≤ R.locals) (hRcells : cells + 1 ≤ R.cells) (hRslots : slots + 6 ≤ R.slots) (hlocks : meth.locks = false)
    (hx : ∀ t : State, s.vm.Alike t.vm → H.size ≤ t.heap.size → (∀ q : Nat, q < H.size → t.heap[q]? = H[q]?) → XC cls s t)
    (hf : ∀ z ∈ locs, free z.base) (hc : cells + 1 ≤ mc) (hs : slots + 6 ≤ ms) :
    W p l e R s m args below meth c H locs cells slots (vx_MQ below Qc XC args s mc ms free) (F0 m pc ls rest) := by
  intro T hT X
  have htr : e.platform.stackTraces = false := (show e.platform.stackTraces = l.stackTraces by rw [X.admits.platform]).trans hl
  have Y := vx_rebase X (R' := { frames := R.frames, locals := R.locals, cells := 1, slots := 6 }) (Nat.le_refl _) (Nat.le_refl _) hRcells hRslots
  obtain ⟨s', hA⟩ : ∃ z, z = (T.setVm s.vm).setFrames (.invoking m args :: below) := ⟨_, rfl⟩
  rw [← hA] at Y
  have hvm : s'.vm = s.vm := by rw [hA]; rfl
  have hhp : s'.heap = H := by rw [hA]; exact hT
  have hW0 : s.WarmedH s'.vm := by rw [hvm]; exact State.WarmedH.refl s
  have hat' : ∀ w ∈ vx_atS own ic cls names, w.before args s' = true := fun w hw => vx_ot_at hW0 hvm.symm (hgood w (List.mem_cons_of_mem _ (List.mem_cons_of_mem _ hw))) (hat w hw)
  have hk' : (Cond.classLink own ik cls).before args s' = true := vx_ot_at hW0 hvm.symm (hgood _ List.mem_cons_self) hk
  have hini' : (Cond.initialized cls).before args s' = true := vx_ot_at hW0 hvm.symm (hgood _ (List.mem_cons_of_mem _ List.mem_cons_self)) hini
  have hU' : vx_Zq Bundle.tN "UNASSIGNED_STACK" Bundle.steD A s' s'.heap := by rw [hhp]; exact vx_Zq.moved hW0.alike (hU.kept hS.2.1)
  have hN' : vx_Zq Bundle.tN "SUPPRESSED_SENTINEL" Bundle.listD A s' s'.heap := by rw [hhp]; exact vx_Zq.moved hW0.alike (hN.kept hS.2.1)
  have h : ∀ w ∈ Bundle.ownAtoms own ic cls names, w.before args s' = true := vx_own hat' (vx_isRefq hU'.1) (vx_isRefq hN'.1) hU'.2.word hN'.2.word
  have hown' : s'.vm.findClass own = some m.cls := by rw [hvm]; exact hown
  have hins : (Cond.instantiable cls 6).before args s' = true := h _ (by simp [Bundle.ownAtoms])
  obtain ⟨vm₁, cX, kX, hfX, hkX, -, -, X₁, st1⟩ := Y.newCold hexec (own := own) (C := cls) (index := ik) (n := 6) hown' hk' hins hini'
    (g := F0 m pc ls rest) rfl (by rw [hb]; exact d0) (Nat.le_refl _) (Nat.le_refl _)
  generalize hT1 : (T.setVm vm₁).pushCell { cls := cX, slots := kX.instanceTypes.map defaultValue, vm := .none } = T1 at X₁ st1
  have hcat : (Value.ref T.heap.size).category = 1 := rfl
  have hcellA : T1.heap[T.heap.size]? = some (freshCell cX kX) := by rw [← hT1]; exact State.heap_pushCell_size _ _
  have d3' : decode c.code (pc + 3) = .ok (.dup, 1) := by rw [hb]; exact d3
  have d4' : decode c.code (pc + 4) = .ok (.ldc is, 2) := by rw [hb]; exact d4
  have hstr' : vk_R own is text sa s' := vk_R.warm hW0 hstr
  obtain ⟨U, hsteps, hrun, hend, hW, hsame, ce, hce, hO⟩ := X₁.ctorThrowS hexec htr (own := own) (cls := cls) (names := names) (ic := ic) hown' hcls hnames h (fun x hx => nomatch hx) hfX hkX hcellA (by rw [hhp, hT]; exact Nat.le_refl _) (msg := .ref sa) rfl
    (g := { method := m, pc := pc + 6, locals := ls, stack := .ref sa :: .ref T.heap.size :: .ref T.heap.size :: rest, locked := none }) rfl hsize rfl rfl (rest := rest) rfl
    (by rw [hb]; exact d6) (by rw [hb]; exact d9) hout hRframes (by simp only [List.map_cons, List.sum_cons, hcat]; omega) hlocks
  obtain ⟨f1, f2⟩ := vx_frame hsame
  rw [hhp] at f1 f2
  have hWs : s.WarmedH U.vm := State.WarmedH.trans hW0 hW
  have hcl : s.vm.findClass cls = some ce.cls := by
    have h9 := hO.cls
    rw [hvm] at h9
    exact h9
  have hall : s.sameButNew ({ U with vm := s.vm } : State) locs mc ms := by
    subst hA
    obtain ⟨e1, e2⟩ := hsame
    rw [State.setFrames_setFrames] at e1
    have h2 : (T.setVm s.vm).sameButNew ({ U with vm := s.vm } : State) [] (0 + 1) (0 + 6) := ⟨e1, e2⟩
    have h3 := X.same.trans h2
    rw [List.append_nil] at h3
    exact h3.mono hc hs
  refine ⟨U, ?_, .threw T.heap.size, hrun, hend, Or.inr ⟨T.heap.size, rfl, cls, ce, locs, hx U hWs.alike f1 (fun q hq => f2 q hq (fun z hz => nomatch hz)), hce, hO.vm, hcl, hWs, hall, hf⟩⟩
  refine st1 _ ?_
  show Steps p.tables e below (T1.setTop { method := m, pc := pc + 3, locals := ls, stack := .ref T.heap.size :: rest, locked := none }) _
  jvm_step X₁.here [X₁.here.top, hexec, d3', Value.category]
  exact X₁.ldcString hexec (own := own) (text := text) (index := is) (a := sa) hown' hstr'.1 hstr'.2
    (g := { method := m, pc := pc + 4, locals := ls, stack := .ref T.heap.size :: .ref T.heap.size :: rest, locked := none }) rfl d4' _ hsteps
/-- 'throw new E("text")', the text by a wide index -/
theorem vx_throwSW {cc : ByteArray} {pc : Nat} (hexec : p.tables.exec = Jvm.exec) (hb : c.code = cc) (hl : l.stackTraces = false) {own cls text : String} {names : List String} {ik is ic mc ms sa : Nat} {A : Nat → Prop}
    (hown : s.vm.findClass own = some m.cls) (hcls : Bundle.fit cls = true) (hnames : ∀ n ∈ names, Bundle.fit n = true)
    (hk : (Cond.classLink own ik cls).before args s = true) (hini : (Cond.initialized cls).before args s = true) (hstr : vk_R own is text sa s) (hat : ∀ w ∈ vx_atS own ic cls names, w.before args s = true)
    (hgood : ∀ w ∈ Cond.classLink own ik cls :: Cond.initialized cls :: vx_atS own ic cls names, vx_ot w = true)
    (hU : vx_Zq Bundle.tN "UNASSIGNED_STACK" Bundle.steD A s s.heap) (hN : vx_Zq Bundle.tN "SUPPRESSED_SENTINEL" Bundle.listD A s s.heap) (hS : va_S A s.heap H locs) (hsize : ls.size = c.maxLocals)
    (d0 : decode cc pc = .ok (.new ik, 3)) (d3 : decode cc (pc + 3) = .ok (.dup, 1)) (d4 : decode cc (pc + 4) = .ok (.ldc_w is, 3)) (d7 : decode cc (pc + 7) = .ok (.invokespecial ic, 3)) (d10 : decode cc (pc + 10) = .ok (.athrow, 1))
    (hout : ∀ x ∈ c.exceptionTable.toList, covers x (pc + 10) = false)
    (hRframes : names.length + 3 < R.frames) (hRlocals : (rest.map fun v => v.category).sum + (13 * (names.length + 1) + 43) ≤ R.locals) (hRcells : cells + 1 ≤ R.cells) (hRslots : slots + 6 ≤ R.slots) (hlocks : meth.locks = false)
    (hx : ∀ t : State, s.vm.Alike t.vm → H.size ≤ t.heap.size → (∀ q : Nat, q < H.size → t.heap[q]? = H[q]?) → XC cls s t)
    (hf : ∀ z ∈ locs, free z.base) (hc : cells + 1 ≤ mc) (hs : slots + 6 ≤ ms) :
    W p l e R s m args below meth c H locs cells slots (vx_MQ below Qc XC args s mc ms free) (F0 m pc ls rest) := by
  intro T hT X
  have htr : e.platform.stackTraces = false := (show e.platform.stackTraces = l.stackTraces by rw [X.admits.platform]).trans hl
  have Y := vx_rebase X (R' := { frames := R.frames, locals := R.locals, cells := 1, slots := 6 }) (Nat.le_refl _) (Nat.le_refl _) hRcells hRslots
  obtain ⟨s', hA⟩ : ∃ z, z = (T.setVm s.vm).setFrames (.invoking m args :: below) := ⟨_, rfl⟩
  rw [← hA] at Y
  have hvm : s'.vm = s.vm := by rw [hA]; rfl
  have hhp : s'.heap = H := by rw [hA]; exact hT
  have hW0 : s.WarmedH s'.vm := by rw [hvm]; exact State.WarmedH.refl s
  have hat' : ∀ w ∈ vx_atS own ic cls names, w.before args s' = true := fun w hw => vx_ot_at hW0 hvm.symm (hgood w (List.mem_cons_of_mem _ (List.mem_cons_of_mem _ hw))) (hat w hw)
  have hk' : (Cond.classLink own ik cls).before args s' = true := vx_ot_at hW0 hvm.symm (hgood _ List.mem_cons_self) hk
  have hini' : (Cond.initialized cls).before args s' = true := vx_ot_at hW0 hvm.symm (hgood _ (List.mem_cons_of_mem _ List.mem_cons_self)) hini
  have hU' : vx_Zq Bundle.tN "UNASSIGNED_STACK" Bundle.steD A s' s'.heap := by rw [hhp]; exact vx_Zq.moved hW0.alike (hU.kept hS.2.1)
  have hN' : vx_Zq Bundle.tN "SUPPRESSED_SENTINEL" Bundle.listD A s' s'.heap := by rw [hhp]; exact vx_Zq.moved hW0.alike (hN.kept hS.2.1)
  have h : ∀ w ∈ Bundle.ownAtoms own ic cls names, w.before args s' = true := vx_own hat' (vx_isRefq hU'.1) (vx_isRefq hN'.1) hU'.2.word hN'.2.word
  have hown' : s'.vm.findClass own = some m.cls := by rw [hvm]; exact hown
  have hins : (Cond.instantiable cls 6).before args s' = true := h _ (by simp [Bundle.ownAtoms])
  obtain ⟨vm₁, cX, kX, hfX, hkX, -, -, X₁, st1⟩ := Y.newCold hexec (own := own) (C := cls) (index := ik) (n := 6) hown' hk' hins hini'
    (g := F0 m pc ls rest) rfl (by rw [hb]; exact d0) (Nat.le_refl _) (Nat.le_refl _)
  generalize hT1 : (T.setVm vm₁).pushCell { cls := cX, slots := kX.instanceTypes.map defaultValue, vm := .none } = T1 at X₁ st1
  have hcat : (Value.ref T.heap.size).category = 1 := rfl
  have hcellA : T1.heap[T.heap.size]? = some (freshCell cX kX) := by rw [← hT1]; exact State.heap_pushCell_size _ _
  have d3' : decode c.code (pc + 3) = .ok (.dup, 1) := by rw [hb]; exact d3
  have d4' : decode c.code (pc + 4) = .ok (.ldc_w is, 3) := by rw [hb]; exact d4
  have hstr' : vk_R own is text sa s' := vk_R.warm hW0 hstr
  obtain ⟨U, hsteps, hrun, hend, hW, hsame, ce, hce, hO⟩ := X₁.ctorThrowS hexec htr (own := own) (cls := cls) (names := names) (ic := ic) hown' hcls hnames h (fun x hx => nomatch hx) hfX hkX hcellA (by rw [hhp, hT]; exact Nat.le_refl _) (msg := .ref sa) rfl
    (g := { method := m, pc := pc + 7, locals := ls, stack := .ref sa :: .ref T.heap.size :: .ref T.heap.size :: rest, locked := none }) rfl hsize rfl rfl (rest := rest) rfl
    (by rw [hb]; exact d7) (by rw [hb]; exact d10) hout hRframes (by simp only [List.map_cons, List.sum_cons, hcat]; omega) hlocks
  obtain ⟨f1, f2⟩ := vx_frame hsame
  rw [hhp] at f1 f2
  have hWs : s.WarmedH U.vm := State.WarmedH.trans hW0 hW
  have hcl : s.vm.findClass cls = some ce.cls := by
    have h9 := hO.cls
    rw [hvm] at h9
    exact h9
  have hall : s.sameButNew ({ U with vm := s.vm } : State) locs mc ms := by
    subst hA
    obtain ⟨e1, e2⟩ := hsame
    rw [State.setFrames_setFrames] at e1
    have h2 : (T.setVm s.vm).sameButNew ({ U with vm := s.vm } : State) [] (0 + 1) (0 + 6) := ⟨e1, e2⟩
    have h3 := X.same.trans h2
    rw [List.append_nil] at h3
    exact h3.mono hc hs
  refine ⟨U, ?_, .threw T.heap.size, hrun, hend, Or.inr ⟨T.heap.size, rfl, cls, ce, locs, hx U hWs.alike f1 (fun q hq => f2 q hq (fun z hz => nomatch hz)), hce, hO.vm, hcl, hWs, hall, hf⟩⟩
  refine st1 _ ?_
  show Steps p.tables e below (T1.setTop { method := m, pc := pc + 3, locals := ls, stack := .ref T.heap.size :: rest, locked := none }) _
  jvm_step X₁.here [X₁.here.top, hexec, d3', Value.category]
  exact X₁.ldcStringW hexec (own := own) (text := text) (index := is) (a := sa) hown' hstr'.1 hstr'.2
    (g := { method := m, pc := pc + 4, locals := ls, stack := .ref T.heap.size :: .ref T.heap.size :: rest, locked := none }) rfl d4' _ hsteps
end Ends
section Bodies
variable {l : Launch}
theorem vx_ofW {y : MethodName} {ws ws' : List Cond} {rm : Room} {Pc : Array Value → State → Prop} {Qc : Array Value → State → Outcome → State → Prop} {XC : String → State → State → Prop} {mc ms : Nat} {free : Addr → Prop} {cc : ByteArray} {maxL : Nat} {ret : Option FieldType}
    (hy : plainName y.cls = true) (hw : ws = Cond.code y cc maxL ret :: ws')
    (body : ∀ p e s m args below meth c s₁, BodyLoose p l y (headSpec ws rm) cc maxL ret e s m args below meth c s₁ → c.maxLocals = maxL → (∀ x ∈ c.exceptionTable.toList, False) → Pc args s →
      W p l e (headSpec ws rm).room s m args below meth c s.heap [] 0 0 (vx_MQ below Qc XC args s mc ms free) (entryFrame m args maxL)) : vx_Met l y ws rm Pc Qc XC mc ms free := by
  refine MetFree.of_bodyS (code := cc) (maxLocals := maxL) (ret := ret) hy ?_ ?_
  · intro args s m h hn
    obtain ⟨meth, c, h1, h2, h3, h4, h5, h6, -, -⟩ := Cond.code_spec hn (atoms_spec (ws := ws) h _ (by rw [hw]; exact List.mem_cons_self))
    exact ⟨meth, c, h1, h2, h3, h4, h5, h6⟩
  · intro p e s m args below meth c s₁ B hml hP _
    have hh0 : s₁.heap = s.heap := by rw [B.state]; rfl
    have ht : ∀ x ∈ c.exceptionTable.toList, False := by
      obtain ⟨meth9, c9, h1, h2, -, -, -, -, h7, -⟩ := Cond.code_spec B.named (atoms_spec (ws := ws) B.pre _ (by rw [hw]; exact List.mem_cons_self))
      cases Option.some.inj (h1.symm.trans B.method)
      cases Option.some.inj (h2.symm.trans (Stand.of_body B).code)
      intro x hx
      rw [Array.isEmpty_iff.mp h7] at hx
      cases hx
    obtain ⟨t, a1, o, b1, b2, b3⟩ := body p e s m args below meth c s₁ B hml ht hP s₁ hh0 (Stand.of_body B)
    exact ⟨t, o, a1, b1, b2, b3⟩
/-- the table of a body with handlers -/
theorem vx_table {p : Program} {x y : MethodName} {S : Spec} {cc bytes : ByteArray} {maxL maxL' : Nat} {ret ret' : Option FieldType} {e : Env} {s s₁ : State} {m : MethodId} {args : Array Value} {below : List Frame} {meth : Method} {c : Code} {hh : List (Nat × Nat × Nat × Nat)}
    (B : BodyLoose p l y S cc maxL ret e s m args below meth c s₁) (h : (Cond.codeWith y bytes maxL' ret' hh).before args s = true) : c.exceptionTable.toList = tableOf hh := by
  obtain ⟨m9, meth9, c9, hn9, h1, h2, -, -, h6, -⟩ := Cond.codeWith_spec h
  cases Option.some.inj (hn9.symm.trans B.named)
  cases Option.some.inj (h1.symm.trans B.method)
  cases Option.some.inj (h2.symm.trans (Stand.of_body B).code)
  rw [← h6, table_eq]
end Bodies
end VXA
/-! ===== END ===== -/
/-! ===== BEGIN a static call of a method with an exception table ===== -/
section VXS
variable {p : Program} {l : Launch} {e : Env} {R : Room} {s : State} {m : MethodId} {args : Array Value} {below : List Frame} {meth : Method} {c : Code} {T : State} {H : Heap} {locs : List Loc} {cells slots : Nat}
abbrev vx_CSW (R : Room) (s : State) (args : Array Value) (own : String) (index : Nat) (y : MethodName) (bytes : ByteArray) (maxL : Nat) (ret : Option FieldType) (hh : List (Nat × Nat × Nat × Nat)) (ws : List Cond) (rm : Room) (mc ms n : Nat) : Prop :=
  (rm.cells = mc ∧ rm.slots = ms ∧ rm.frames + 1 ≤ R.frames ∧ 8 + (maxL + 11) + rm.locals ≤ R.locals ∧ (∀ w ∈ ws, ∀ (a' : Array Value) (U : State), s.WarmedH U.vm → w.before a' U = true) ∧ Cond.codeWith y bytes maxL ret hh ∈ ws) ∧
  (Cond.codeWith y bytes maxL ret hh).before args s = true ∧ (Cond.initialized y.cls).before args s = true ∧ (y.cls ≠ "java/lang/invoke/MethodHandle" ∧ y.cls ≠ "java/lang/invoke/VarHandle") ∧
  (∀ sig, parseMethodDescriptor y.desc = some sig → n = sig.parameters.length) ∧ (Cond.methodLink own index y).before args s = true ∧ (Cond.static y).before args s = true
theorem vx_cwSW {own : String} {index maxL mc ms : Nat} {y : MethodName} {bytes : ByteArray} {ret : Option FieldType} {hh : List (Nat × Nat × Nat × Nat)} {Ts ws ws' : List Cond} {rm : Room} (n : Nat) (ht : ∀ w ∈ Ts, w.before args s = true) (hT : GoodIn Ts (va_wsS own index y ws)) (hw : ws = Cond.codeWith y bytes maxL ret hh :: ws') (hrc : rm.cells = mc) (hrs : rm.slots = ms)
    (hd : y.cls ≠ "java/lang/invoke/MethodHandle" ∧ y.cls ≠ "java/lang/invoke/VarHandle" ∧ (parseMethodDescriptor y.desc).map (fun d => d.parameters.length) = some n) (hR : rm.frames + 1 ≤ R.frames ∧ 8 + (maxL + 11) + rm.locals ≤ R.locals) :
    vx_CSW R s args own index y bytes maxL ret hh ws rm mc ms n := by
  have ok : ∀ w ∈ va_wsS own index y ws, w.before args s = true := fun w h => ht w (hT w h).1
  have hG : GoodIn Ts ws := fun w h => hT w (by unfold va_wsS; exact List.mem_append_right _ h)
  have hc : Cond.codeWith y bytes maxL ret hh ∈ ws := by rw [hw]; exact List.mem_cons_self
  refine ⟨⟨hrc, hrs, hR.1, hR.2, pay_in ht hG, hc⟩, ht _ (hG _ hc).1, ok _ (by simp [va_wsS]), ⟨hd.1, hd.2.1⟩, fun sig h => ?_, ok _ (by simp [va_wsS]), ok _ (by simp [va_wsS])⟩
  have h2 := hd.2.2
  rw [h] at h2
  exact (Option.some.inj h2).symm
theorem vx_callSW (X : Stand p l e R s m args below meth c T locs cells slots) (hexec : p.tables.exec = Jvm.exec) {own : String} {index : Nat} {y : MethodName} {bytes : ByteArray} {maxL : Nat} {ret : Option FieldType} {hh : List (Nat × Nat × Nat × Nat)}
    (hown : s.vm.findClass own = some m.cls) (hlink : (Cond.methodLink own index y).before args s = true) (hstat : (Cond.static y).before args s = true) (hinit : (Cond.initialized y.cls).before args s = true)
    (hcode : (Cond.codeWith y bytes maxL ret hh).before args s = true) (hy : y.cls ≠ "java/lang/invoke/MethodHandle" ∧ y.cls ≠ "java/lang/invoke/VarHandle")
    {W9 : Nat} {Pre : Pt → Array Value → Prop} {Post : Pt → Array Value → Option Value → Pt → Prop} (hK : Back l R p e below s args y 3 W9 Pre Post)
    {g : JFrame} (hg : g.method = m) (hsize : g.locals.size = c.maxLocals) {argsL rest : List Value} (hlen : ∀ sig, parseMethodDescriptor y.desc = some sig → argsL.length = sig.parameters.length)
    (hstack : g.stack = argsL.reverse ++ rest) (hW : 2 * g.monitorRoom + (rest.map fun v => v.category).sum ≤ W9) (hdg : decode c.code g.pc = .ok (.invokestatic index, 3))
    (hpre : ∀ vm₁, s.WarmedH vm₁ → Pre ⟨T.setVm vm₁, locs, cells, slots⟩ argsL.toArray) :
    ∃ (v : Option Value) (vm₁ : Vm) (B : Pt), s.WarmedH vm₁ ∧ Stand p l e R s m args below meth c B.U B.locs B.cells B.slots ∧ Post ⟨T.setVm vm₁, locs, cells, slots⟩ argsL.toArray v B ∧
      ∀ target, Steps p.tables e below (B.U.setTop { g with pc := g.pc + 3, stack := v.toList ++ rest }) target → Steps p.tables e below (T.setTop g) target := by
  obtain ⟨mk, methM, cM, hnamed, hmethM, -, -, -, -, -, -, hsigM⟩ := Cond.codeWith_spec hcode
  have hstatic : methM.isStatic = true := Cond.static_spec hnamed hmethM hstat
  obtain ⟨kP, hkP, -⟩ := className_of_methodNamed hnamed
  have hinitP : kP.init = .initialized := Cond.initialized_spec (findClass_of_methodNamed hnamed) hkP hinit
  obtain ⟨vm₁, X₁, hstep₁⟩ := X.invokestatic hexec hown hlink hnamed hmethM hstatic hkP hinitP hy (g := g) hg (argsL := argsL) (rest := rest) (hlen _ hsigM) hstack hdg
  obtain ⟨v, B, X', hpost, hsteps⟩ := hK m meth c ⟨T.setVm vm₁, locs, cells, slots⟩ { g with stack := rest } (.invokestatic index) mk argsL.toArray X₁ hg hsize hdg hW (X₁.named hnamed) (hpre vm₁ X₁.warmed)
  exact ⟨v, vm₁, B, X₁.warmed, X', hpost, fun target h => hstep₁ _ fun acts => by rw [doInvoke_state]; exact hsteps.trans h⟩
theorem vx_runSW {y : MethodName} {bytes cc : ByteArray} {maxL nL mc ms n index : Nat} {ret : Option FieldType} {hh : List (Nat × Nat × Nat × Nat)} {ws : List Cond} {rm : Room} {Pc : Array Value → State → Prop} {Qc : Array Value → State → Outcome → State → Prop} {free : Addr → Prop} {Ts : List Cond} {own : String} {As rest : List Value} {g : JFrame}
    (S : CallFix p m c cc nL s args Ts own) (hM : Met l y ws rm Pc Qc mc ms free) (cw : vx_CSW R s args own index y bytes maxL ret hh ws rm mc ms n) (hp : PreS s H Pc As)
    (hg : g.method = m) (hn : As.length = n) (hsize : g.locals.size = nL) (hstack : g.stack = As.reverse ++ rest) (hW : 2 * g.monitorRoom + (rest.map fun v => v.category).sum ≤ 8) (hdg : decode cc g.pc = .ok (.invokestatic index, 3)) (hf : cells + mc ≤ R.cells ∧ slots + ms ≤ R.slots) :
    va_Run p l e R s m args below meth c H locs cells slots mc ms g rest (Qc As.toArray) (free) := by
  obtain ⟨⟨hrc, hrs, hfr, hlo, hws, hcw⟩, hcode, hini, hy, hlen, hl, hstt⟩ := cw
  have hK : Back l R p e below s args y 3 8 (PreOf R mc ms Pc) (PostOf Qc mc ms free) := va_backW (hh := hh) (bytes := bytes) (maxL := maxL) (ret := ret) hM hp.1 hrc hrs hfr hlo hws hcw (fun a' U hW => word_at hW (Or.inl (by first | rfl | simp [Cond.onTables, Cond.keeps, Cond.steady])) hini)
  obtain ⟨hx, hb, hml, ho, -⟩ := S
  intro T hT X
  obtain ⟨v, vm₁, ⟨U', l2, c2, s2⟩, hW₁, X', ⟨g', mk, t, L, e1, e2, hq, h1, hL, h2, h3⟩, st⟩ := vx_callSW X hx (hh := hh) (bytes := bytes) (maxL := maxL) (ret := ret) ho hl hstt hini hcode hy hK hg (hsize.trans hml.symm) (argsL := As) (rest := rest) (fun sig h => hn.trans (hlen sig h)) hstack hW (by rw [hb]; exact hdg)
    (fun vm₁ hW₁ => ⟨hf.1, hf.2, hp.2 (T.setVm vm₁) hT hW₁⟩)
  dsimp only [Pt.U, Pt.locs, Pt.cells, Pt.slots] at X' e1 e2 h1 h2 h3 st
  subst h1; subst h2; subst h3
  exact ⟨v, (T.setVm vm₁).calling g' mk As.toArray, t, U', L, hT, X', hL, e1, e2, hq, st⟩
/-- not caught here, past rows that name other classes: it goes on to the caller -/
theorem vx_outP {p : Program} {l : Launch} {e : Env} {R : Room} {s : State} {m : MethodId} {args : Array Value} {below : List Frame} {meth : Method} {c : Code} {H : Heap} {locs : List Loc} {cells slots : Nat} {free : Addr → Prop} {ls : Array Slot} {rest : List Value} {Qc : Array Value → State → Outcome → State → Prop} {XC : String → State → State → Prop}
    {pc : Nat} {own E : String} {ce : Cell} {q : Addr} {mc ms : Nat} (hown : s.vm.findClass own = some m.cls) (hlocks : meth.locks = false)
    (hpass : ∀ z ∈ c.exceptionTable.toList, covers z pc = false ∨ (z.catchType ≠ 0 ∧ ∃ nm : String, (Cond.classLink own z.catchType nm).before args s = true ∧ va_Nc E nm s)) (hcell : H[q]? = some ce) (hv : ce.vm = .none) (hcl : s.vm.findClass E = some ce.cls)
    (hx : ∀ t : State, t.heap = H → s.vm.Alike t.vm → XC E s t) (hf : ∀ z ∈ locs, free z.base) (hc : cells ≤ mc) (hs : slots ≤ ms) :
    vx_W p l e R s m args below meth c H locs cells slots (vx_MQ below Qc XC args s mc ms free) (F0 m pc ls rest) q := by
  intro T hT X
  have hpl : e.platform.magicAccessors = ({} : Platform).magicAccessors := by rw [X.admits.platform]
  obtain ⟨vm', hW', X', st⟩ := X.outThrough hlocks q (g := F0 m pc ls rest) rfl rfl rfl (cell := ce) (by rw [hT]; exact hcell) (by rw [hv]; rfl)
    (by obtain ⟨k9, h9, -⟩ := Vm.findClass_spec hcl; exact ⟨k9, h9⟩) (fun z hz => by
      rcases hpass z hz with h | ⟨hz0, nm, hl1, hn1⟩
      · exact Or.inl h
      · obtain ⟨c6, hc6, hcl6⟩ := Cond.classLink_spec hown hl1 e.platform hpl
        obtain ⟨a8, b8, h1, h2, h3⟩ := hn1
        cases Option.some.inj (h1.symm.trans hcl)
        cases Option.some.inj (h2.symm.trans hc6)
        exact Or.inr ⟨hz0, _, hcl6, h3⟩)
  obtain ⟨g₀, hfr⟩ := X'.frames_eq
  have hcell9 : ((T.setVm vm').setFrames (.throwing q :: below)).heap[q]? = some ce := by
    show T.heap[q]? = some ce
    rw [hT]; exact hcell
  have hend : Ended ((T.setVm vm').setFrames (.throwing q :: below)) below (.threw q) := State.frames_setFrames _ (State.cur_lt_of_frames hfr)
  refine ⟨(T.setVm vm').setFrames (.throwing q :: below), ?_, .threw q, X'.here.running, hend, Or.inr ⟨q, rfl, E, ce, locs, hx _ hT (X'.ends _).1.alike, hcell9, hv, hcl, (X'.ends _).1, (X'.ends _).2.mono hc hs, hf⟩⟩
  rw [X.pushThrowing_eq]
  exact st
/-- a thing of a world lies in the heap -/
theorem vx_lt {D : va_G} {cl : List vw_C} {ws : va_W} {H1 : Heap} (h : va_P D cl ws H1) {k : Nat} {q : Nat × va_E} (hk : ws[k]? = some q) : q.1 < H1.size := (h k q hk).lt
end VXS
/-! ===== END ===== -/
/-! ===== BEGIN methods with a table of their own: called by a name, returning or throwing ===== -/
section VXH
/-! vx_backW, vx_callVX, vx_callSX, vx_callVW, vx_runVW, vx_runVX, vx_runSX, vx_ofWH follow the same proofs as their sisters above (Free/Laws.lean, Shelf42/LK1.lean); vx_outP calls Shelf42/NT130.lean (outThrough). -/
section
variable {l : Launch} {R : Room} {p : Program} {e : Env} {below : List Frame} {s : State} {sargs : Array Value} {y : MethodName} {len W9 : Nat}
theorem vx_backW {ws : List Cond} {rm : Room} {Pc : Array Value → State → Prop} {Qc : Array Value → State → Outcome → State → Prop} {XC : String → State → State → Prop} {mc ms : Nat} {free : Addr → Prop} {bytes : ByteArray} {maxL : Nat} {ret : Option FieldType} {hh : List (Nat × Nat × Nat × Nat)}
    (hM : vx_Met l y ws rm Pc Qc XC mc ms free) (hblind : FrameBlind Pc) (hrc : rm.cells = mc) (hrs : rm.slots = ms)
    (hframes : rm.frames + 1 ≤ R.frames) (hlocals : W9 + (maxL + 11) + rm.locals ≤ R.locals)
    (hws : ∀ w ∈ ws, ∀ a' U, s.WarmedH U.vm → w.before a' U = true) (hcode : Cond.codeWith y bytes maxL ret hh ∈ ws) (hinit : ∀ a' U, s.WarmedH U.vm → (Cond.initialized y.cls).before a' U = true) :
    vx_Back l R p e below s sargs y len W9 (PreOf R mc ms Pc) (PostOf Qc mc ms free) (vx_Post XC mc ms free) := by
  intro m meth c A g ig mk a X hg hsize hdg hW hn hp
  have h1 : (headSpec ws rm).pre.before a A.U = true := atoms_intro fun w hw => hws w hw _ _ X.warmed
  have h2 : (Cond.codeWith y bytes maxL ret hh).before a A.U = true := hws _ hcode _ _ X.warmed
  have h3 : (Cond.initialized y.cls).before a A.U = true := hinit _ _ X.warmed
  have h4 : A.cells + (headSpec ws rm).room.cells ≤ R.cells := by rw [show (headSpec ws rm).room.cells = mc from hrc]; exact hp.1
  have h5 : A.slots + (headSpec ws rm).room.slots ≤ R.slots := by rw [show (headSpec ws rm).room.slots = ms from hrs]; exact hp.2.1
  have hPc : Pc a (A.U.calling g mk a) := hblind _ _ _ _ hp.2.2
  obtain ⟨U, Ls, c0, s0⟩ := A
  dsimp only [Pt.U, Pt.locs, Pt.cells, Pt.slots] at h1 h2 h3 h4 h5 X hn hPc ⊢
  obtain ⟨m9, methY, cY, hn9, hmY, hcY, -, hlY, -⟩ := Cond.codeWith_spec h2
  cases Option.some.inj (hn9.symm.trans hn)
  obtain ⟨kY, hkY, -⟩ := className_of_methodNamed hn
  have hinitY : kY.init = .initialized := Cond.initialized_spec (findClass_of_methodNamed hn) hkY h3
  have h : At U g.method c below := by rw [hg]; exact X.here
  have hlocals9 : W9 + (maxL + 11) + (headSpec ws rm).room.locals ≤ R.locals := hlocals
  have happ : (headSpec ws rm).appliesLoose y e.platform (U.calling g mk a) = true :=
    Spec.appliesLoose_calling (g := g) h hdg hn hkY hinitY
      (X.room_calling (g := g) (R' := (headSpec ws rm).room) hsize hmY hcY hframes (by rw [hlY]; omega) h4 h5) h1
  obtain ⟨mid, hmid⟩ := h.above
  have hfr : (U.setTop g).frames = (.java g :: mid) ++ below := by rw [State.frames_setTop' g h.top, hmid]; rfl
  obtain ⟨o, s₂, hsteps, -, hend, hq⟩ := Steps.callFree hM p X.admits X.cas X.clock (acts := []) hfr happ hPc trivial
  have hq' : vx_Q Qc XC mc ms free a (U.calling g mk a) o s₂ := hq
  rw [State.frames_setTop' g h.top] at hend
  obtain ⟨g₀, hg0⟩ := Option.isSome_iff_exists.mp h.top
  obtain ⟨r, hr⟩ := State.topJava?_eq_some.mp hg0
  have hr' : (({ U with heap := s₂.heap, slotsUsed := s₂.slotsUsed } : State).setVm s₂.vm).frames = .java g₀ :: r := hr
  rcases hq' with ⟨hqc, L, hfe, hL⟩ | ⟨q, rfl, E, ce, L, hx, hce, hcv, hcl, hW₂, hsm, hL⟩
  · obtain ⟨⟨v, rfl⟩, hW₂, e2, q2, q3, q4, q5, q6⟩ := id hfe
    have e3 : s₂ = ({ (U.calling g mk a).setFrames s₂.frames with heap := s₂.heap, slotsUsed := s₂.slotsUsed } : State).setVm s₂.vm := by
      have : s₂ = ({ s₂ with vm := (U.calling g mk a).vm } : State).setVm s₂.vm := rfl
      rw [e2] at this
      exact this
    obtain ⟨c₂, i₂, len₂, hc₂, hd₂, hf₂⟩ := hend
    have hW' : U.WarmedH s₂.vm := hW₂
    have hcc : c₂ = c := by
      have h1 : s₂.code? g.method = U.code? g.method := by
        rw [State.code?_eq, State.code?_eq, hW'.alike.method?]
      exact Option.some.inj (hc₂.symm.trans (h1.trans h.code))
    subst hcc
    have hlen : len₂ = len := by rw [hdg] at hd₂; cases hd₂; rfl
    subst hlen
    have hs₂ : s₂ = (({ U with heap := s₂.heap, slotsUsed := s₂.slotsUsed } : State).setVm s₂.vm).setTop { g with pc := g.pc + len₂, stack := v.toList ++ g.stack } := by
      refine e3.trans ?_
      rw [hf₂, State.calling_eq h.top, State.setFrames_setFrames, State.setTop_of_frames _ hr', hr]
      rfl
    have hsame : U.sameButNew ({ U with heap := s₂.heap, slotsUsed := s₂.slotsUsed } : State) L mc ms := by
      refine ⟨?_, q2, q3, q4, q5, q6⟩
      obtain ⟨t, ht, -⟩ := State.frames_cons hr
      show ({ U with heap := s₂.heap, slotsUsed := s₂.slotsUsed } : State) = { U.setFrames U.frames with heap := s₂.heap, slotsUsed := s₂.slotsUsed }
      rw [State.setFrames_self ht]
    subst hg
    refine Or.inl ⟨v, ⟨(({ U with heap := s₂.heap, slotsUsed := s₂.slotsUsed } : State).setVm s₂.vm), Ls ++ L, c0 + mc, s0 + ms⟩,
      ⟨X.admits, X.cas, X.clock, X.frames, X.room, X.hears, X.method, X.code, (X.here.setHeapUsed s₂.heap s₂.slotsUsed).setVm hW'.alike, X.tail, State.WarmedH.trans X.warmed hW', X.limits, X.bytes, X.same.trans (hsame.setVm s.vm)⟩,
      ⟨g, mk, s₂, L, rfl, rfl, hqc, rfl, hL, rfl, rfl⟩, ?_⟩
    show Steps p.tables e below _ ((({ U with heap := s₂.heap, slotsUsed := s₂.slotsUsed } : State).setVm s₂.vm).setTop { g with pc := g.pc + len₂, stack := v.toList ++ g.stack })
    rw [← hs₂]
    exact hsteps
  · obtain ⟨e2, q2, q3, q4, q5, q6⟩ := id hsm
    have e3 : s₂ = ({ (U.calling g mk a).setFrames s₂.frames with heap := s₂.heap, slotsUsed := s₂.slotsUsed } : State).setVm s₂.vm := by
      have : s₂ = ({ s₂ with vm := (U.calling g mk a).vm } : State).setVm s₂.vm := rfl
      rw [e2] at this
      exact this
    have hf₂ : s₂.frames = .throwing q :: .java g :: U.frames.tail := hend
    have hW' : U.WarmedH s₂.vm := hW₂
    have hs₂ : s₂ = ((({ U with heap := s₂.heap, slotsUsed := s₂.slotsUsed } : State).setVm s₂.vm).setTop g).pushFrame (.throwing q) := by
      refine e3.trans ?_
      rw [hf₂, State.calling_eq h.top, State.setFrames_setFrames, State.pushFrame, State.frames_setTop _ hr', State.setTop_of_frames _ hr', State.setFrames_setFrames, hr]
      rfl
    have hsame : U.sameButNew ({ U with heap := s₂.heap, slotsUsed := s₂.slotsUsed } : State) L mc ms := by
      refine ⟨?_, q2, q3, q4, q5, q6⟩
      obtain ⟨t, ht, -⟩ := State.frames_cons hr
      show ({ U with heap := s₂.heap, slotsUsed := s₂.slotsUsed } : State) = { U.setFrames U.frames with heap := s₂.heap, slotsUsed := s₂.slotsUsed }
      rw [State.setFrames_self ht]
    subst hg
    refine Or.inr ⟨q, ⟨(({ U with heap := s₂.heap, slotsUsed := s₂.slotsUsed } : State).setVm s₂.vm), Ls ++ L, c0 + mc, s0 + ms⟩,
      ⟨X.admits, X.cas, X.clock, X.frames, X.room, X.hears, X.method, X.code, (X.here.setHeapUsed s₂.heap s₂.slotsUsed).setVm hW'.alike, X.tail, State.WarmedH.trans X.warmed hW', X.limits, X.bytes, X.same.trans (hsame.setVm s.vm)⟩,
      ⟨g, mk, s₂, L, E, ce, rfl, rfl, hx, hce, hcv, hcl, rfl, hL, rfl, rfl⟩, ?_⟩
    show Steps p.tables e below _ (((({ U with heap := s₂.heap, slotsUsed := s₂.slotsUsed } : State).setVm s₂.vm).setTop g).pushFrame (.throwing q))
    rw [← hs₂]
    exact hsteps
end
variable {p : Program} {l : Launch} {e : Env} {R : Room} {s : State} {m : MethodId} {args : Array Value} {below : List Frame} {meth : Method} {c : Code} {T : State} {H : Heap} {locs : List Loc} {cells slots : Nat}
theorem vx_callVX (X : Stand p l e R s m args below meth c T locs cells slots) (hexec : p.tables.exec = Jvm.exec) {own C : String} {index : Nat} {y : MethodName} {bytes : ByteArray} {maxL : Nat} {ret : Option FieldType} {hh : List (Nat × Nat × Nat × Nat)}
    (hown : s.vm.findClass own = some m.cls) (hlink : (Cond.methodLink own index y).before args s = true) (hinst : (Cond.instanceMethod y).before args s = true) (hsel : (Cond.selects C y y).before args s = true)
    (hcode : (Cond.codeWith y bytes maxL ret hh).before args s = true) (hy : y.cls ≠ "java/lang/invoke/MethodHandle" ∧ y.cls ≠ "java/lang/invoke/VarHandle")
    {W9 : Nat} {Pre : Pt → Array Value → Prop} {Post : Pt → Array Value → Option Value → Pt → Prop} {PostX : Pt → Array Value → Addr → Pt → Prop} (hK : vx_Back l R p e below s args y 3 W9 Pre Post PostX)
    {b : Addr} {cellB : Cell} (hcell : T.heap[b]? = some cellB) (hobj : cellB.vm.isStatics = false) (hcls : s.vm.findClass C = some cellB.cls)
    {g : JFrame} (hg : g.method = m) (hsize : g.locals.size = c.maxLocals) {argsL rest : List Value} (hlen : ∀ sig, parseMethodDescriptor y.desc = some sig → argsL.length = sig.parameters.length)
    (hstack : g.stack = argsL.reverse ++ .ref b :: rest) (hW : 2 * g.monitorRoom + (rest.map fun v => v.category).sum ≤ W9) (hdg : decode c.code g.pc = .ok (.invokevirtual index, 3))
    (hpre : ∀ vm₁, s.WarmedH vm₁ → Pre ⟨T.setVm vm₁, locs, cells, slots⟩ (Value.ref b :: argsL).toArray) :
    (∃ (v : Option Value) (vm₁ : Vm) (B : Pt), s.WarmedH vm₁ ∧ Stand p l e R s m args below meth c B.U B.locs B.cells B.slots ∧ Post ⟨T.setVm vm₁, locs, cells, slots⟩ (Value.ref b :: argsL).toArray v B ∧
      ∀ target, Steps p.tables e below (B.U.setTop { g with pc := g.pc + 3, stack := v.toList ++ rest }) target → Steps p.tables e below (T.setTop g) target) ∨
    (∃ (q : Addr) (vm₁ : Vm) (B : Pt), s.WarmedH vm₁ ∧ Stand p l e R s m args below meth c B.U B.locs B.cells B.slots ∧ PostX ⟨T.setVm vm₁, locs, cells, slots⟩ (Value.ref b :: argsL).toArray q B ∧
      Steps p.tables e below (T.setTop g) ((B.U.setTop { g with stack := rest }).pushFrame (.throwing q))) := by
  obtain ⟨mk, methM, hnamed, hmethM, hstM, habM⟩ := Cond.instanceMethod_spec hinst
  obtain ⟨m8, methM', cM, hn8, hmethM', -, -, -, -, -, -, hsigM⟩ := Cond.codeWith_spec hcode
  cases Option.some.inj (hn8.symm.trans hnamed)
  cases hmethM.symm.trans hmethM'
  obtain ⟨c2, r2, m2, q1, q2, q3, q4, kP, hkP, hkPi⟩ := Cond.selects_spec hsel
  cases hcls.symm.trans q1
  cases (State.methodFound?_of_named hnamed hy).symm.trans q2
  cases hnamed.symm.trans q3
  have hselP : selectMethod e.platform s.vm cellB.cls mk = .method mk := by rw [Launch.admits_selectMethod X.admits]; exact q4
  obtain ⟨vm₁, X₁, hstep₁⟩ := X.invokevirtual hexec hown hlink hnamed hmethM hstM hkP hkPi hy (a := b) (cell := cellB) hcell
    (fun z h => by rw [h] at hobj; cases hobj) hselP hmethM habM hkP hkPi (g := g) hg (argsL := argsL) (rest := rest) (hlen _ hsigM) hstack hdg
  rcases hK m meth c ⟨T.setVm vm₁, locs, cells, slots⟩ { g with stack := rest } (.invokevirtual index) mk (Value.ref b :: argsL).toArray X₁ hg hsize hdg hW (X₁.named hnamed) (hpre vm₁ X₁.warmed) with ⟨v, B, X', hpost, hsteps⟩ | ⟨q, B, X', hpost, hsteps⟩
  · exact Or.inl ⟨v, vm₁, B, X₁.warmed, X', hpost, fun target h => hstep₁ _ fun acts => by rw [doInvoke_state]; exact hsteps.trans h⟩
  · exact Or.inr ⟨q, vm₁, B, X₁.warmed, X', hpost, hstep₁ _ fun acts => by rw [doInvoke_state]; exact hsteps⟩
theorem vx_callSX (X : Stand p l e R s m args below meth c T locs cells slots) (hexec : p.tables.exec = Jvm.exec) {own : String} {index : Nat} {y : MethodName} {bytes : ByteArray} {maxL : Nat} {ret : Option FieldType} {hh : List (Nat × Nat × Nat × Nat)}
    (hown : s.vm.findClass own = some m.cls) (hlink : (Cond.methodLink own index y).before args s = true) (hstat : (Cond.static y).before args s = true) (hinit : (Cond.initialized y.cls).before args s = true)
    (hcode : (Cond.codeWith y bytes maxL ret hh).before args s = true) (hy : y.cls ≠ "java/lang/invoke/MethodHandle" ∧ y.cls ≠ "java/lang/invoke/VarHandle")
    {W9 : Nat} {Pre : Pt → Array Value → Prop} {Post : Pt → Array Value → Option Value → Pt → Prop} {PostX : Pt → Array Value → Addr → Pt → Prop} (hK : vx_Back l R p e below s args y 3 W9 Pre Post PostX)
    {g : JFrame} (hg : g.method = m) (hsize : g.locals.size = c.maxLocals) {argsL rest : List Value} (hlen : ∀ sig, parseMethodDescriptor y.desc = some sig → argsL.length = sig.parameters.length)
    (hstack : g.stack = argsL.reverse ++ rest) (hW : 2 * g.monitorRoom + (rest.map fun v => v.category).sum ≤ W9) (hdg : decode c.code g.pc = .ok (.invokestatic index, 3))
    (hpre : ∀ vm₁, s.WarmedH vm₁ → Pre ⟨T.setVm vm₁, locs, cells, slots⟩ argsL.toArray) :
    (∃ (v : Option Value) (vm₁ : Vm) (B : Pt), s.WarmedH vm₁ ∧ Stand p l e R s m args below meth c B.U B.locs B.cells B.slots ∧ Post ⟨T.setVm vm₁, locs, cells, slots⟩ argsL.toArray v B ∧
      ∀ target, Steps p.tables e below (B.U.setTop { g with pc := g.pc + 3, stack := v.toList ++ rest }) target → Steps p.tables e below (T.setTop g) target) ∨
    (∃ (q : Addr) (vm₁ : Vm) (B : Pt), s.WarmedH vm₁ ∧ Stand p l e R s m args below meth c B.U B.locs B.cells B.slots ∧ PostX ⟨T.setVm vm₁, locs, cells, slots⟩ argsL.toArray q B ∧
      Steps p.tables e below (T.setTop g) ((B.U.setTop { g with stack := rest }).pushFrame (.throwing q))) := by
  obtain ⟨mk, methM, cM, hnamed, hmethM, -, -, -, -, -, -, hsigM⟩ := Cond.codeWith_spec hcode
  have hstatic : methM.isStatic = true := Cond.static_spec hnamed hmethM hstat
  obtain ⟨kP, hkP, -⟩ := className_of_methodNamed hnamed
  have hinitP : kP.init = .initialized := Cond.initialized_spec (findClass_of_methodNamed hnamed) hkP hinit
  obtain ⟨vm₁, X₁, hstep₁⟩ := X.invokestatic hexec hown hlink hnamed hmethM hstatic hkP hinitP hy (g := g) hg (argsL := argsL) (rest := rest) (hlen _ hsigM) hstack hdg
  rcases hK m meth c ⟨T.setVm vm₁, locs, cells, slots⟩ { g with stack := rest } (.invokestatic index) mk argsL.toArray X₁ hg hsize hdg hW (X₁.named hnamed) (hpre vm₁ X₁.warmed) with ⟨v, B, X', hpost, hsteps⟩ | ⟨q, B, X', hpost, hsteps⟩
  · exact Or.inl ⟨v, vm₁, B, X₁.warmed, X', hpost, fun target h => hstep₁ _ fun acts => by rw [doInvoke_state]; exact hsteps.trans h⟩
  · exact Or.inr ⟨q, vm₁, B, X₁.warmed, X', hpost, hstep₁ _ fun acts => by rw [doInvoke_state]; exact hsteps⟩
theorem vx_callVW (X : Stand p l e R s m args below meth c T locs cells slots) (hexec : p.tables.exec = Jvm.exec) {own C : String} {index : Nat} {y : MethodName} {bytes : ByteArray} {maxL : Nat} {ret : Option FieldType} {hh : List (Nat × Nat × Nat × Nat)}
    (hown : s.vm.findClass own = some m.cls) (hlink : (Cond.methodLink own index y).before args s = true) (hinst : (Cond.instanceMethod y).before args s = true) (hsel : (Cond.selects C y y).before args s = true)
    (hcode : (Cond.codeWith y bytes maxL ret hh).before args s = true) (hy : y.cls ≠ "java/lang/invoke/MethodHandle" ∧ y.cls ≠ "java/lang/invoke/VarHandle")
    {W9 : Nat} {Pre : Pt → Array Value → Prop} {Post : Pt → Array Value → Option Value → Pt → Prop} (hK : Back l R p e below s args y 3 W9 Pre Post)
    {b : Addr} {cellB : Cell} (hcell : T.heap[b]? = some cellB) (hobj : cellB.vm.isStatics = false) (hcls : s.vm.findClass C = some cellB.cls)
    {g : JFrame} (hg : g.method = m) (hsize : g.locals.size = c.maxLocals) {argsL rest : List Value} (hlen : ∀ sig, parseMethodDescriptor y.desc = some sig → argsL.length = sig.parameters.length)
    (hstack : g.stack = argsL.reverse ++ .ref b :: rest) (hW : 2 * g.monitorRoom + (rest.map fun v => v.category).sum ≤ W9) (hdg : decode c.code g.pc = .ok (.invokevirtual index, 3))
    (hpre : ∀ vm₁, s.WarmedH vm₁ → Pre ⟨T.setVm vm₁, locs, cells, slots⟩ (Value.ref b :: argsL).toArray) :
    ∃ (v : Option Value) (vm₁ : Vm) (B : Pt), s.WarmedH vm₁ ∧ Stand p l e R s m args below meth c B.U B.locs B.cells B.slots ∧ Post ⟨T.setVm vm₁, locs, cells, slots⟩ (Value.ref b :: argsL).toArray v B ∧
      ∀ target, Steps p.tables e below (B.U.setTop { g with pc := g.pc + 3, stack := v.toList ++ rest }) target → Steps p.tables e below (T.setTop g) target := by
  obtain ⟨mk, methM, hnamed, hmethM, hstM, habM⟩ := Cond.instanceMethod_spec hinst
  obtain ⟨m8, methM', cM, hn8, hmethM', -, -, -, -, -, -, hsigM⟩ := Cond.codeWith_spec hcode
  cases Option.some.inj (hn8.symm.trans hnamed)
  cases hmethM.symm.trans hmethM'
  obtain ⟨c2, r2, m2, q1, q2, q3, q4, kP, hkP, hkPi⟩ := Cond.selects_spec hsel
  cases hcls.symm.trans q1
  cases (State.methodFound?_of_named hnamed hy).symm.trans q2
  cases hnamed.symm.trans q3
  have hselP : selectMethod e.platform s.vm cellB.cls mk = .method mk := by rw [Launch.admits_selectMethod X.admits]; exact q4
  obtain ⟨vm₁, X₁, hstep₁⟩ := X.invokevirtual hexec hown hlink hnamed hmethM hstM hkP hkPi hy (a := b) (cell := cellB) hcell
    (fun z h => by rw [h] at hobj; cases hobj) hselP hmethM habM hkP hkPi (g := g) hg (argsL := argsL) (rest := rest) (hlen _ hsigM) hstack hdg
  obtain ⟨v, B, X', hpost, hsteps⟩ := hK m meth c ⟨T.setVm vm₁, locs, cells, slots⟩ { g with stack := rest } (.invokevirtual index) mk (Value.ref b :: argsL).toArray X₁ hg hsize hdg hW (X₁.named hnamed) (hpre vm₁ X₁.warmed)
  exact ⟨v, vm₁, B, X₁.warmed, X', hpost, fun target h => hstep₁ _ fun acts => by rw [doInvoke_state]; exact hsteps.trans h⟩
abbrev vx_CVW (R : Room) (s : State) (args : Array Value) (own C : String) (index : Nat) (y : MethodName) (bytes : ByteArray) (maxL : Nat) (ret : Option FieldType) (hh : List (Nat × Nat × Nat × Nat)) (ws : List Cond) (rm : Room) (mc ms n : Nat) : Prop :=
  (rm.cells = mc ∧ rm.slots = ms ∧ rm.frames + 1 ≤ R.frames ∧ 8 + (maxL + 11) + rm.locals ≤ R.locals ∧ (∀ w ∈ ws, ∀ (a' : Array Value) (U : State), s.WarmedH U.vm → w.before a' U = true) ∧ Cond.codeWith y bytes maxL ret hh ∈ ws) ∧
  (Cond.codeWith y bytes maxL ret hh).before args s = true ∧ (Cond.initialized y.cls).before args s = true ∧ (y.cls ≠ "java/lang/invoke/MethodHandle" ∧ y.cls ≠ "java/lang/invoke/VarHandle") ∧
  (∀ sig, parseMethodDescriptor y.desc = some sig → n = sig.parameters.length) ∧ (Cond.methodLink own index y).before args s = true ∧ (Cond.instanceMethod y).before args s = true ∧ (Cond.selects C y y).before args s = true
theorem vx_cwVW {own C : String} {index maxL mc ms : Nat} {y : MethodName} {bytes : ByteArray} {ret : Option FieldType} {hh : List (Nat × Nat × Nat × Nat)} {Ts ws ws' : List Cond} {rm : Room} (n : Nat) (ht : ∀ w ∈ Ts, w.before args s = true) (hT : GoodIn Ts (wsV own index C y ws)) (hw : ws = Cond.codeWith y bytes maxL ret hh :: ws') (hrc : rm.cells = mc) (hrs : rm.slots = ms)
    (hd : y.cls = C ∧ y.cls ≠ "java/lang/invoke/MethodHandle" ∧ y.cls ≠ "java/lang/invoke/VarHandle" ∧ (parseMethodDescriptor y.desc).map (fun d => d.parameters.length) = some n) (hR : rm.frames + 1 ≤ R.frames ∧ 8 + (maxL + 11) + rm.locals ≤ R.locals) :
    vx_CVW R s args own C index y bytes maxL ret hh ws rm mc ms n := by
  obtain ⟨hC, hd⟩ := hd
  subst hC
  have ok : ∀ w ∈ wsV own index y.cls y ws, w.before args s = true := fun w h => ht w (hT w h).1
  have hG : GoodIn Ts ws := fun w h => hT w (by unfold wsV; exact List.mem_append_right _ h)
  have hc : Cond.codeWith y bytes maxL ret hh ∈ ws := by rw [hw]; exact List.mem_cons_self
  refine ⟨⟨hrc, hrs, hR.1, hR.2, pay_in ht hG, hc⟩, ht _ (hG _ hc).1, ok _ (by simp [wsV]), ⟨hd.1, hd.2.1⟩, fun sig h => ?_, ok _ (by simp [wsV]), ok _ (by simp [wsV]), ok _ (by simp [wsV])⟩
  have h2 := hd.2.2
  rw [h] at h2
  exact (Option.some.inj h2).symm
theorem vx_runVW {y : MethodName} {bytes cc : ByteArray} {maxL nL mc ms n index : Nat} {ret : Option FieldType} {hh : List (Nat × Nat × Nat × Nat)} {ws : List Cond} {rm : Room} {Pc : Array Value → State → Prop} {Qc : Array Value → State → Outcome → State → Prop} {free : Addr → Prop} {Ts : List Cond} {own C : String} {b : Addr} {As rest : List Value} {g : JFrame}
    (S : CallFix p m c cc nL s args Ts own) (hM : Met l y ws rm Pc Qc mc ms free) (cw : vx_CVW R s args own C index y bytes maxL ret hh ws rm mc ms n) (hp : PreV s H C b Pc As)
    (hg : g.method = m) (hn : As.length = n) (hsize : g.locals.size = nL) (hstack : g.stack = As.reverse ++ .ref b :: rest) (hW : 2 * g.monitorRoom + (rest.map fun v => v.category).sum ≤ 8) (hdg : decode cc g.pc = .ok (.invokevirtual index, 3)) (hf : cells + mc ≤ R.cells ∧ slots + ms ≤ R.slots) :
    va_Run p l e R s m args below meth c H locs cells slots mc ms g rest (Qc (Value.ref b :: As).toArray) free := by
  obtain ⟨⟨hrc, hrs, hfr, hlo, hws, hcw⟩, hcode, hini, hy, hlen, hl, hin, hse⟩ := cw
  have hK : Back l R p e below s args y 3 8 (PreOf R mc ms Pc) (PostOf Qc mc ms free) := va_backW (hh := hh) (bytes := bytes) (maxL := maxL) (ret := ret) hM hp.1 hrc hrs hfr hlo hws hcw (fun a' U hW => word_at hW (Or.inl (by first | rfl | simp [Cond.onTables, Cond.keeps, Cond.steady])) hini)
  obtain ⟨hx, hb, hml, ho, -⟩ := S
  obtain ⟨-, ⟨cellB, hcB, hoB, hclB⟩, hPc⟩ := hp
  intro T hT X
  obtain ⟨v, vm₁, ⟨U', l2, c2, s2⟩, hW₁, X', ⟨g', mk, t, L, e1, e2, hq, h1, hL, h2, h3⟩, st⟩ := vx_callVW X hx (C := C) (hh := hh) (bytes := bytes) (maxL := maxL) (ret := ret) ho hl hin hse hcode hy hK (by rw [hT]; exact hcB) hoB hclB hg (hsize.trans hml.symm) (argsL := As) (rest := rest) (fun sig h => hn.trans (hlen sig h)) hstack hW (by rw [hb]; exact hdg)
    (fun vm₁ hW₁ => ⟨hf.1, hf.2, hPc (T.setVm vm₁) hT hW₁⟩)
  dsimp only [Pt.U, Pt.locs, Pt.cells, Pt.slots] at X' e1 e2 h1 h2 h3 st
  subst h1; subst h2; subst h3
  exact ⟨v, (T.setVm vm₁).calling g' mk (Value.ref b :: As).toArray, t, U', L, hT, X', hL, e1, e2, hq, st⟩
section
variable {y : MethodName} {bytes cc : ByteArray} {maxL nL mc ms n index : Nat} {ret : Option FieldType} {ws : List Cond} {rm : Room} {Pc : Array Value → State → Prop} {Qc : Array Value → State → Outcome → State → Prop} {XC : String → State → State → Prop} {free : Addr → Prop} {Ts : List Cond} {own C : String} {b : Addr} {As rest : List Value} {g : JFrame}
theorem vx_runVX {hh : List (Nat × Nat × Nat × Nat)} (S : CallFix p m c cc nL s args Ts own) (hM : vx_Met l y ws rm Pc Qc XC mc ms free) (cw : vx_CVW R s args own C index y bytes maxL ret hh ws rm mc ms n) (hp : PreV s H C b Pc As)
    (hg : g.method = m) (hn : As.length = n) (hsize : g.locals.size = nL) (hstack : g.stack = As.reverse ++ .ref b :: rest) (hW : 2 * g.monitorRoom + (rest.map fun v => v.category).sum ≤ 8) (hdg : decode cc g.pc = .ok (.invokevirtual index, 3)) (hf : cells + mc ≤ R.cells ∧ slots + ms ≤ R.slots) :
    vx_Run p l e R s m args below meth c H locs cells slots mc ms g rest (Qc (Value.ref b :: As).toArray) XC free := by
  obtain ⟨⟨hrc, hrs, hfr, hlo, hws, hcw⟩, hcode, hini, hy, hlen, hl, hin, hse⟩ := cw
  have hK : vx_Back l R p e below s args y 3 8 (PreOf R mc ms Pc) (PostOf Qc mc ms free) (vx_Post XC mc ms free) := vx_backW (hh := hh) (bytes := bytes) (maxL := maxL) (ret := ret) hM hp.1 hrc hrs hfr hlo hws hcw (fun a' U hW => word_at hW (Or.inl (by first | rfl | simp [Cond.onTables, Cond.keeps, Cond.steady])) hini)
  obtain ⟨hx, hb, hml, ho, -⟩ := S
  obtain ⟨-, ⟨cellB, hcB, hoB, hclB⟩, hPc⟩ := hp
  intro T hT X
  rcases vx_callVX X hx (C := C) (hh := hh) (bytes := bytes) (maxL := maxL) (ret := ret) ho hl hin hse hcode hy hK (by rw [hT]; exact hcB) hoB hclB hg (hsize.trans hml.symm) (argsL := As) (rest := rest) (fun sig h => hn.trans (hlen sig h)) hstack hW (by rw [hb]; exact hdg)
    (fun vm₁ hW₁ => ⟨hf.1, hf.2, hPc (T.setVm vm₁) hT hW₁⟩) with ⟨v, vm₁, ⟨U', l2, c2, s2⟩, hW₁, X', ⟨g', mk, t, L, e1, e2, hq, h1, hL, h2, h3⟩, st⟩ | ⟨q, vm₁, ⟨U', l2, c2, s2⟩, hW₁, X', ⟨g', mk, t, L, E, ce, e1, e2, hq, hce, hcv, hcl, h1, hL, h2, h3⟩, st⟩
  · dsimp only [Pt.U, Pt.locs, Pt.cells, Pt.slots] at X' e1 e2 h1 h2 h3 st
    subst h1; subst h2; subst h3
    exact Or.inl ⟨v, (T.setVm vm₁).calling g' mk (Value.ref b :: As).toArray, t, U', L, hT, X', hL, e1, e2, hq, st⟩
  · dsimp only [Pt.U, Pt.locs, Pt.cells, Pt.slots] at X' e1 e2 h1 h2 h3 st hcl
    subst h1; subst h2; subst h3
    exact Or.inr ⟨q, (T.setVm vm₁).calling g' mk (Value.ref b :: As).toArray, t, U', L, E, ce, hT, X', hL, e1, e2, hq, hce, hcv, vx_cls hW₁ hcl, st⟩
theorem vx_runSX {hh : List (Nat × Nat × Nat × Nat)} (S : CallFix p m c cc nL s args Ts own) (hM : vx_Met l y ws rm Pc Qc XC mc ms free) (cw : vx_CSW R s args own index y bytes maxL ret hh ws rm mc ms n) (hp : PreS s H Pc As)
    (hg : g.method = m) (hn : As.length = n) (hsize : g.locals.size = nL) (hstack : g.stack = As.reverse ++ rest) (hW : 2 * g.monitorRoom + (rest.map fun v => v.category).sum ≤ 8) (hdg : decode cc g.pc = .ok (.invokestatic index, 3)) (hf : cells + mc ≤ R.cells ∧ slots + ms ≤ R.slots) :
    vx_Run p l e R s m args below meth c H locs cells slots mc ms g rest (Qc As.toArray) XC free := by
  obtain ⟨⟨hrc, hrs, hfr, hlo, hws, hcw⟩, hcode, hini, hy, hlen, hl, hstt⟩ := cw
  have hK : vx_Back l R p e below s args y 3 8 (PreOf R mc ms Pc) (PostOf Qc mc ms free) (vx_Post XC mc ms free) := vx_backW (hh := hh) (bytes := bytes) (maxL := maxL) (ret := ret) hM hp.1 hrc hrs hfr hlo hws hcw (fun a' U hW => word_at hW (Or.inl (by first | rfl | simp [Cond.onTables, Cond.keeps, Cond.steady])) hini)
  obtain ⟨hx, hb, hml, ho, -⟩ := S
  intro T hT X
  rcases vx_callSX X hx (hh := hh) (bytes := bytes) (maxL := maxL) (ret := ret) ho hl hstt hini hcode hy hK hg (hsize.trans hml.symm) (argsL := As) (rest := rest) (fun sig h => hn.trans (hlen sig h)) hstack hW (by rw [hb]; exact hdg)
    (fun vm₁ hW₁ => ⟨hf.1, hf.2, hp.2 (T.setVm vm₁) hT hW₁⟩) with ⟨v, vm₁, ⟨U', l2, c2, s2⟩, hW₁, X', ⟨g', mk, t, L, e1, e2, hq, h1, hL, h2, h3⟩, st⟩ | ⟨q, vm₁, ⟨U', l2, c2, s2⟩, hW₁, X', ⟨g', mk, t, L, E, ce, e1, e2, hq, hce, hcv, hcl, h1, hL, h2, h3⟩, st⟩
  · dsimp only [Pt.U, Pt.locs, Pt.cells, Pt.slots] at X' e1 e2 h1 h2 h3 st
    subst h1; subst h2; subst h3
    exact Or.inl ⟨v, (T.setVm vm₁).calling g' mk As.toArray, t, U', L, hT, X', hL, e1, e2, hq, st⟩
  · dsimp only [Pt.U, Pt.locs, Pt.cells, Pt.slots] at X' e1 e2 h1 h2 h3 st hcl
    subst h1; subst h2; subst h3
    exact Or.inr ⟨q, (T.setVm vm₁).calling g' mk As.toArray, t, U', L, E, ce, hT, X', hL, e1, e2, hq, hce, hcv, vx_cls hW₁ hcl, st⟩
end
end VXH
theorem vx_ofWH {l : Launch} {y : MethodName} {ws ws' : List Cond} {rm : Room} {Pc : Array Value → State → Prop} {Qc : Array Value → State → Outcome → State → Prop} {XC : String → State → State → Prop} {mc ms : Nat} {free : Addr → Prop} {cc : ByteArray} {maxL : Nat} {ret : Option FieldType} {hh : List (Nat × Nat × Nat × Nat)}
    (hy : plainName y.cls = true) (hw : ws = Cond.codeWith y cc maxL ret hh :: ws')
    (body : ∀ p e s m args below meth c s₁, BodyLoose p l y (headSpec ws rm) cc maxL ret e s m args below meth c s₁ → c.maxLocals = maxL → Pc args s →
      W p l e (headSpec ws rm).room s m args below meth c s.heap [] 0 0 (vx_MQ below Qc XC args s mc ms free) (entryFrame m args maxL)) : vx_Met l y ws rm Pc Qc XC mc ms free := by
  refine MetFree.of_bodyS (code := cc) (maxLocals := maxL) (ret := ret) hy ?_ ?_
  · intro args s m h hn
    obtain ⟨m9, meth, c, hn9, h1, h2, h3, h4, -, h5, h6, -⟩ := Cond.codeWith_spec (atoms_spec (ws := ws) h _ (by rw [hw]; exact List.mem_cons_self))
    cases hn.symm.trans hn9
    exact ⟨meth, c, h1, h2, h3, h4, h5, h6⟩
  · intro p e s m args below meth c s₁ B hml hP _
    have hh0 : s₁.heap = s.heap := by rw [B.state]; rfl
    obtain ⟨t, a1, o, b1, b2, b3⟩ := body p e s m args below meth c s₁ B hml hP s₁ hh0 (Stand.of_body B)
    exact ⟨t, o, a1, b1, b2, b3⟩
/-! ===== END ===== -/
end
section
def RX0 : String := "CoilPrices$Coil"
def TX0 : u_T := fun k => match k with
  | 0 => ("CoilPrices$Coil", "kind", "I", false)
  | 1 => ("CoilPrices$Coil", "goods", "I", false)
  | 2 => ("CoilPrices$Coil", "price", "I", false)
  | 3 => ("CoilPrices$Coil", "lowest", "I", false)
  | 4 => ("CoilPrices$Coil", "highest", "I", false)
  | 5 => ("CoilPrices$Coil", "banned", "I", false)
  | 6 => ("CoilPrices$Coil", "sales", "I", false)
  | 7 => ("CoilPrices$Coil", "takings", "I", false)
  | 8 => ("CoilPrices$Coil", "raises", "I", false)
  | 9 => ("CoilPrices$Coil", "commonRaises", "I", false)
  | 10 => ("CoilPrices$Coil", "wanted", "F", false)
  | _ => ("CoilPrices$Coil", "hasRaised", "Z", false)
def tyX0 : Nat → FieldType := fun k => match k with
  | 0 => .int
  | 1 => .int
  | 2 => .int
  | 3 => .int
  | 4 => .int
  | 5 => .int
  | 6 => .int
  | 7 => .int
  | 8 => .int
  | 9 => .int
  | 10 => .float
  | _ => .boolean
abbrev wsX00 : List Cond := u_ws RX0 TX0 12
theorem nmX0 : ∀ a, a < 12 → ∀ b, b < 12 → a ≠ b → (TX0 a).2.1 ≠ (TX0 b).2.1 := by decide +kernel
theorem tyX0_ok : ∀ k, k < 12 → parseFieldDescriptor (TX0 k).2.2.1 = some (tyX0 k) := by decide +kernel
abbrev cX0_init : ByteArray := prog_2_method_1_code
def yX0_init : MethodName := ⟨RX0, "<init>", "()V"⟩
abbrev cX0_begin : ByteArray := prog_2_method_2_code
def yX0_begin : MethodName := ⟨RX0, "begin", "(III)V"⟩
abbrev cX0_takeOver : ByteArray := prog_2_method_3_code
def yX0_takeOver : MethodName := ⟨RX0, "takeOver", "(LCoilPrices$Coil;)V"⟩
abbrev cX0_noteSale : ByteArray := prog_2_method_4_code
def yX0_noteSale : MethodName := ⟨RX0, "noteSale", "()V"⟩
abbrev cX0_setPrice : ByteArray := prog_2_method_5_code
def yX0_setPrice : MethodName := ⟨RX0, "setPrice", "(II)V"⟩
abbrev cX0_shortenBan : ByteArray := prog_2_method_6_code
def yX0_shortenBan : MethodName := ⟨RX0, "shortenBan", "()V"⟩
abbrev cX0_payFine : ByteArray := prog_2_method_7_code
def yX0_payFine : MethodName := ⟨RX0, "payFine", "(I)V"⟩
abbrev cX0_fade : ByteArray := prog_2_method_8_code
def yX0_fade : MethodName := ⟨RX0, "fade", "(I)V"⟩
abbrev cX0_fact : ByteArray := prog_2_method_9_code
def yX0_fact : MethodName := ⟨RX0, "fact", "(I)I"⟩
def RX1 : String := "CoilPrices$Machine"
def TX1 : u_T := fun k => match k with
  | 0 => ("CoilPrices$Machine", "coils", "[LCoilPrices$Coil;", true)
  | 1 => ("CoilPrices$Machine", "settings", "[I", true)
  | 2 => ("CoilPrices$Machine", "till", "LCoilPrices$Till;", true)
  | 3 => ("CoilPrices$Machine", "coilCount", "I", false)
  | 4 => ("CoilPrices$Machine", "hour", "I", false)
  | _ => ("CoilPrices$Machine", "fines", "I", false)
def tyX1 : Nat → FieldType := fun k => match k with
  | 0 => .array (.object "CoilPrices$Coil")
  | 1 => .array .int
  | 2 => .object "CoilPrices$Till"
  | 3 => .int
  | 4 => .int
  | _ => .int
abbrev wsX10 : List Cond := u_ws RX1 TX1 6
theorem nmX1 : ∀ a, a < 6 → ∀ b, b < 6 → a ≠ b → (TX1 a).2.1 ≠ (TX1 b).2.1 := by decide +kernel
theorem tyX1_ok : ∀ k, k < 6 → parseFieldDescriptor (TX1 k).2.2.1 = some (tyX1 k) := by decide +kernel
abbrev cX1_init : ByteArray := prog_3_method_1_code
def yX1_init : MethodName := ⟨RX1, "<init>", "()V"⟩
abbrev cX1_takeOver : ByteArray := prog_3_method_2_code
def yX1_takeOver : MethodName := ⟨RX1, "takeOver", "(LCoilPrices$Machine;)V"⟩
abbrev cX1_changeSetting : ByteArray := prog_3_method_3_code
def yX1_changeSetting : MethodName := ⟨RX1, "changeSetting", "(II)I"⟩
abbrev cX1_hasCoil : ByteArray := prog_3_method_4_code
def yX1_hasCoil : MethodName := ⟨RX1, "hasCoil", "(I)Z"⟩
abbrev cX1_hasRoomForCoil : ByteArray := prog_3_method_5_code
def yX1_hasRoomForCoil : MethodName := ⟨RX1, "hasRoomForCoil", "()Z"⟩
abbrev cX1_newCoil : ByteArray := prog_3_method_6_code
def yX1_newCoil : MethodName := ⟨RX1, "newCoil", "(III)I"⟩
abbrev cX1_hasRoomForGoods : ByteArray := prog_3_method_7_code
def yX1_hasRoomForGoods : MethodName := ⟨RX1, "hasRoomForGoods", "(II)Z"⟩
abbrev cX1_addGoods : ByteArray := prog_3_method_8_code
def yX1_addGoods : MethodName := ⟨RX1, "addGoods", "(II)I"⟩
abbrev cX1_lookAt : ByteArray := prog_3_method_9_code
def yX1_lookAt : MethodName := ⟨RX1, "lookAt", "(I)I"⟩
abbrev cX1_canSell : ByteArray := prog_3_method_10_code
def yX1_canSell : MethodName := ⟨RX1, "canSell", "(I[I)Z"⟩
abbrev cX1_sell : ByteArray := prog_3_method_11_code
def yX1_sell : MethodName := ⟨RX1, "sell", "(I[I)I"⟩
abbrev cX1_hasTimeFor : ByteArray := prog_3_method_12_code
def yX1_hasTimeFor : MethodName := ⟨RX1, "hasTimeFor", "(I)Z"⟩
abbrev cX1_passHours : ByteArray := prog_3_method_13_code
def yX1_passHours : MethodName := ⟨RX1, "passHours", "(I)I"⟩
abbrev cX1_passHour : ByteArray := prog_3_method_14_code
def yX1_passHour : MethodName := ⟨RX1, "passHour", "()V"⟩
abbrev cX1_watch : ByteArray := prog_3_method_15_code
def yX1_watch : MethodName := ⟨RX1, "watch", "(LCoilPrices$Coil;LCoilPrices$Coil;)V"⟩
abbrev cX1_number : ByteArray := prog_3_method_16_code
def yX1_number : MethodName := ⟨RX1, "number", "(I)I"⟩
abbrev cX1_sumOfFacts : ByteArray := prog_3_method_17_code
def yX1_sumOfFacts : MethodName := ⟨RX1, "sumOfFacts", "(I)I"⟩
def RX2 : String := "CoilPrices$OrderText"
def TX2 : u_T := fun k => match k with
  | 0 => ("CoilPrices$OrderText", "bytes", "[I", true)
  | 1 => ("CoilPrices$OrderText", "length", "I", false)
  | 2 => ("CoilPrices$OrderText", "letter", "I", false)
  | 3 => ("CoilPrices$OrderText", "place", "I", false)
  | 4 => ("CoilPrices$OrderText", "number", "I", false)
  | 5 => ("CoilPrices$OrderText", "coins", "[I", true)
  | 6 => ("CoilPrices$OrderText", "at", "I", false)
  | _ => ("CoilPrices$OrderText", "error", "I", false)
def tyX2 : Nat → FieldType := fun k => match k with
  | 0 => .array .int
  | 1 => .int
  | 2 => .int
  | 3 => .int
  | 4 => .int
  | 5 => .array .int
  | 6 => .int
  | _ => .int
abbrev wsX20 : List Cond := u_ws RX2 TX2 8
theorem nmX2 : ∀ a, a < 8 → ∀ b, b < 8 → a ≠ b → (TX2 a).2.1 ≠ (TX2 b).2.1 := by decide +kernel
theorem tyX2_ok : ∀ k, k < 8 → parseFieldDescriptor (TX2 k).2.2.1 = some (tyX2 k) := by decide +kernel
abbrev cX2_init : ByteArray := prog_4_method_1_code
def yX2_init : MethodName := ⟨RX2, "<init>", "()V"⟩
abbrev cX2_addByte : ByteArray := prog_4_method_2_code
def yX2_addByte : MethodName := ⟨RX2, "addByte", "(I)I"⟩
abbrev cX2_errorPosition : ByteArray := prog_4_method_3_code
def yX2_errorPosition : MethodName := ⟨RX2, "errorPosition", "()I"⟩
abbrev cX2_startReading : ByteArray := prog_4_method_4_code
def yX2_startReading : MethodName := ⟨RX2, "startReading", "()V"⟩
abbrev cX2_readOrder : ByteArray := prog_4_method_5_code
def yX2_readOrder : MethodName := ⟨RX2, "readOrder", "()Z"⟩
abbrev cX2_readCoins : ByteArray := prog_4_method_6_code
def yX2_readCoins : MethodName := ⟨RX2, "readCoins", "()V"⟩
abbrev cX2_readNumber : ByteArray := prog_4_method_7_code
def yX2_readNumber : MethodName := ⟨RX2, "readNumber", "(I)I"⟩
abbrev cX2_readDigit : ByteArray := prog_4_method_8_code
def yX2_readDigit : MethodName := ⟨RX2, "readDigit", "(I)I"⟩
abbrev cX2_readSign : ByteArray := prog_4_method_9_code
def yX2_readSign : MethodName := ⟨RX2, "readSign", "(I)V"⟩
abbrev cX2_stumble : ByteArray := prog_4_method_10_code
def yX2_stumble : MethodName := ⟨RX2, "stumble", "()V"⟩
abbrev cX2_byteAt : ByteArray := prog_4_method_11_code
def yX2_byteAt : MethodName := ⟨RX2, "byteAt", "(I)I"⟩
abbrev cX2_isDigit : ByteArray := prog_4_method_12_code
def yX2_isDigit : MethodName := ⟨RX2, "isDigit", "(I)Z"⟩
def RX3 : String := "CoilPrices$Payment"
def TX3 : u_T := fun k => match k with
  | 0 => ("CoilPrices$Payment", "held", "[I", true)
  | _ => ("CoilPrices$Payment", "taken", "[I", true)
def tyX3 : Nat → FieldType := fun k => match k with
  | 0 => .array .int
  | _ => .array .int
abbrev wsX30 : List Cond := u_ws RX3 TX3 2
theorem nmX3 : ∀ a, a < 2 → ∀ b, b < 2 → a ≠ b → (TX3 a).2.1 ≠ (TX3 b).2.1 := by decide +kernel
theorem tyX3_ok : ∀ k, k < 2 → parseFieldDescriptor (TX3 k).2.2.1 = some (tyX3 k) := by decide +kernel
abbrev cX3_init : ByteArray := prog_5_method_1_code
def yX3_init : MethodName := ⟨RX3, "<init>", "()V"⟩
abbrev cX3_find : ByteArray := prog_5_method_2_code
def yX3_find : MethodName := ⟨RX3, "find", "(I)Z"⟩
abbrev cX3_take : ByteArray := prog_5_method_3_code
def yX3_take : MethodName := ⟨RX3, "take", "(II)I"⟩
def RX4 : String := "CoilPrices$Till"
def TX4 : u_T := fun k => match k with
  | 0 => ("CoilPrices$Till", "tubes", "[I", true)
  | 1 => ("CoilPrices$Till", "promises", "[I", true)
  | 2 => ("CoilPrices$Till", "payment", "LCoilPrices$Payment;", true)
  | 3 => ("CoilPrices$Till", "box", "I", false)
  | 4 => ("CoilPrices$Till", "promiseCount", "I", false)
  | 5 => ("CoilPrices$Till", "promiseSum", "I", false)
  | _ => ("CoilPrices$Till", "promisesPaid", "I", false)
def tyX4 : Nat → FieldType := fun k => match k with
  | 0 => .array .int
  | 1 => .array .int
  | 2 => .object "CoilPrices$Payment"
  | 3 => .int
  | 4 => .int
  | 5 => .int
  | _ => .int
abbrev wsX40 : List Cond := u_ws RX4 TX4 7
theorem nmX4 : ∀ a, a < 7 → ∀ b, b < 7 → a ≠ b → (TX4 a).2.1 ≠ (TX4 b).2.1 := by decide +kernel
theorem tyX4_ok : ∀ k, k < 7 → parseFieldDescriptor (TX4 k).2.2.1 = some (tyX4 k) := by decide +kernel
abbrev cX4_init : ByteArray := prog_6_method_1_code
def yX4_init : MethodName := ⟨RX4, "<init>", "()V"⟩
abbrev cX4_takeOver : ByteArray := prog_6_method_2_code
def yX4_takeOver : MethodName := ⟨RX4, "takeOver", "(LCoilPrices$Till;)V"⟩
abbrev cX4_fillTube : ByteArray := prog_6_method_3_code
def yX4_fillTube : MethodName := ⟨RX4, "fillTube", "(II)I"⟩
abbrev cX4_takeIn : ByteArray := prog_6_method_4_code
def yX4_takeIn : MethodName := ⟨RX4, "takeIn", "([I)V"⟩
abbrev cX4_takeBox : ByteArray := prog_6_method_5_code
def yX4_takeBox : MethodName := ⟨RX4, "takeBox", "()I"⟩
abbrev cX4_canPay : ByteArray := prog_6_method_6_code
def yX4_canPay : MethodName := ⟨RX4, "canPay", "(I)Z"⟩
abbrev cX4_canPayWithCoin : ByteArray := prog_6_method_7_code
def yX4_canPayWithCoin : MethodName := ⟨RX4, "canPayWithCoin", "(II)Z"⟩
abbrev cX4_canPayAfter : ByteArray := prog_6_method_8_code
def yX4_canPayAfter : MethodName := ⟨RX4, "canPayAfter", "([II)Z"⟩
abbrev cX4_payOut : ByteArray := prog_6_method_9_code
def yX4_payOut : MethodName := ⟨RX4, "payOut", "()V"⟩
abbrev cX4_addPromise : ByteArray := prog_6_method_10_code
def yX4_addPromise : MethodName := ⟨RX4, "addPromise", "(I)V"⟩
abbrev cX4_payPromises : ByteArray := prog_6_method_11_code
def yX4_payPromises : MethodName := ⟨RX4, "payPromises", "()V"⟩
def RX5 : String := "CoilPrices"
def TX5 : u_T := fun k => match k with
  | 0 => ("CoilPrices", "machine", "LCoilPrices$Machine;", true)
  | 1 => ("CoilPrices", "trial", "LCoilPrices$Machine;", true)
  | 2 => ("CoilPrices", "saved", "[LCoilPrices$Machine;", true)
  | 3 => ("CoilPrices", "savedCount", "I", false)
  | 4 => ("CoilPrices", "text", "LCoilPrices$OrderText;", true)
  | _ => ("CoilPrices", "coinsIn", "[I", true)
def tyX5 : Nat → FieldType := fun k => match k with
  | 0 => .object "CoilPrices$Machine"
  | 1 => .object "CoilPrices$Machine"
  | 2 => .array (.object "CoilPrices$Machine")
  | 3 => .int
  | 4 => .object "CoilPrices$OrderText"
  | _ => .array .int
abbrev wsX50 : List Cond := u_ws RX5 TX5 6
theorem nmX5 : ∀ a, a < 6 → ∀ b, b < 6 → a ≠ b → (TX5 a).2.1 ≠ (TX5 b).2.1 := by decide +kernel
theorem tyX5_ok : ∀ k, k < 6 → parseFieldDescriptor (TX5 k).2.2.1 = some (tyX5 k) := by decide +kernel
abbrev cX5_init : ByteArray := prog_1_method_1_code
def yX5_init : MethodName := ⟨RX5, "<init>", "()V"⟩
abbrev cX5_set : ByteArray := prog_1_method_2_code
def yX5_set : MethodName := ⟨RX5, "set", "(II)I"⟩
abbrev cX5_addCoil : ByteArray := prog_1_method_3_code
def yX5_addCoil : MethodName := ⟨RX5, "addCoil", "(III)I"⟩
abbrev cX5_stock : ByteArray := prog_1_method_4_code
def yX5_stock : MethodName := ⟨RX5, "stock", "(II)I"⟩
abbrev cX5_fill : ByteArray := prog_1_method_5_code
def yX5_fill : MethodName := ⟨RX5, "fill", "(II)I"⟩
abbrev cX5_buy : ByteArray := prog_1_method_6_code
def yX5_buy : MethodName := ⟨RX5, "buy", "(IIIII)I"⟩
abbrev cX5_look : ByteArray := prog_1_method_7_code
def yX5_look : MethodName := ⟨RX5, "look", "(I)I"⟩
abbrev cX5_pass : ByteArray := prog_1_method_8_code
def yX5_pass : MethodName := ⟨RX5, "pass", "(I)I"⟩
abbrev cX5_emptyBox : ByteArray := prog_1_method_9_code
def yX5_emptyBox : MethodName := ⟨RX5, "emptyBox", "()I"⟩
abbrev cX5_coil : ByteArray := prog_1_method_10_code
def yX5_coil : MethodName := ⟨RX5, "coil", "(II)I"⟩
abbrev cX5_demand : ByteArray := prog_1_method_11_code
def yX5_demand : MethodName := ⟨RX5, "demand", "(I)F"⟩
abbrev cX5_tube : ByteArray := prog_1_method_12_code
def yX5_tube : MethodName := ⟨RX5, "tube", "(I)I"⟩
abbrev cX5_value : ByteArray := prog_1_method_13_code
def yX5_value : MethodName := ⟨RX5, "value", "(I)I"⟩
abbrev cX5_setting : ByteArray := prog_1_method_14_code
def yX5_setting : MethodName := ⟨RX5, "setting", "(I)I"⟩
abbrev cX5_promise : ByteArray := prog_1_method_15_code
def yX5_promise : MethodName := ⟨RX5, "promise", "(I)I"⟩
abbrev cX5_change : ByteArray := prog_1_method_16_code
def yX5_change : MethodName := ⟨RX5, "change", "(II)I"⟩
abbrev cX5_mostPayable : ByteArray := prog_1_method_17_code
def yX5_mostPayable : MethodName := ⟨RX5, "mostPayable", "(I)I"⟩
abbrev cX5_coinFor : ByteArray := prog_1_method_18_code
def yX5_coinFor : MethodName := ⟨RX5, "coinFor", "(I)I"⟩
abbrev cX5_priceIn : ByteArray := prog_1_method_19_code
def yX5_priceIn : MethodName := ⟨RX5, "priceIn", "(II)I"⟩
abbrev cX5_salesInARow : ByteArray := prog_1_method_20_code
def yX5_salesInARow : MethodName := ⟨RX5, "salesInARow", "(III)I"⟩
abbrev cX5_favorite : ByteArray := prog_1_method_21_code
def yX5_favorite : MethodName := ⟨RX5, "favorite", "()I"⟩
abbrev cX5_append : ByteArray := prog_1_method_22_code
def yX5_append : MethodName := ⟨RX5, "append", "(I)I"⟩
abbrev cX5_clearText : ByteArray := prog_1_method_23_code
def yX5_clearText : MethodName := ⟨RX5, "clearText", "()I"⟩
abbrev cX5_carryOut : ByteArray := prog_1_method_24_code
def yX5_carryOut : MethodName := ⟨RX5, "carryOut", "()I"⟩
abbrev cX5_undo : ByteArray := prog_1_method_25_code
def yX5_undo : MethodName := ⟨RX5, "undo", "()I"⟩
abbrev cX5_digest : ByteArray := prog_1_method_26_code
def yX5_digest : MethodName := ⟨RX5, "digest", "()J"⟩
abbrev cX5_isBetween : ByteArray := prog_1_method_27_code
def yX5_isBetween : MethodName := ⟨RX5, "isBetween", "(III)Z"⟩
abbrev cX5_isStepBetween : ByteArray := prog_1_method_28_code
def yX5_isStepBetween : MethodName := ⟨RX5, "isStepBetween", "(IIII)Z"⟩
abbrev cX5_holdOut : ByteArray := prog_1_method_29_code
def yX5_holdOut : MethodName := ⟨RX5, "holdOut", "(IIII)Z"⟩
abbrev cX5_save : ByteArray := prog_1_method_30_code
def yX5_save : MethodName := ⟨RX5, "save", "()V"⟩
abbrev cX5_dropOldest : ByteArray := prog_1_method_31_code
def yX5_dropOldest : MethodName := ⟨RX5, "dropOldest", "()V"⟩
abbrev cX5_obey : ByteArray := prog_1_method_32_code
def yX5_obey : MethodName := ⟨RX5, "obey", "()Z"⟩
abbrev cX5_bitsOf : ByteArray := prog_1_method_33_code
def yX5_bitsOf : MethodName := ⟨RX5, "bitsOf", "(F)I"⟩
abbrev cX5_worth : ByteArray := prog_1_method_34_code
def yX5_worth : MethodName := ⟨RX5, "worth", "([I)I"⟩
def RX6 : String := "CoilPricesModel"
def TX6 : u_T := fun k => match k with
  | 0 => ("CoilPricesModel", "p", "[I", true)
  | 1 => ("CoilPricesModel", "aside", "[I", true)
  | 2 => ("CoilPricesModel", "trial", "[I", true)
  | 3 => ("CoilPricesModel", "saved", "[I", true)
  | 4 => ("CoilPricesModel", "states", "I", false)
  | 5 => ("CoilPricesModel", "text", "[I", true)
  | 6 => ("CoilPricesModel", "length", "I", false)
  | 7 => ("CoilPricesModel", "thrown", "I", false)
  | 8 => ("CoilPricesModel", "code", "I", false)
  | 9 => ("CoilPricesModel", "coins", "[I", true)
  | 10 => ("CoilPricesModel", "put", "[I", true)
  | 11 => ("CoilPricesModel", "reached", "[Z", true)
  | 12 => ("CoilPricesModel", "before", "[I", true)
  | 13 => ("CoilPricesModel", "at", "I", false)
  | 14 => ("CoilPricesModel", "letter", "I", false)
  | 15 => ("CoilPricesModel", "number", "I", false)
  | 16 => ("CoilPricesModel", "digit", "I", false)
  | 17 => ("CoilPricesModel", "which", "I", false)
  | _ => ("CoilPricesModel", "hash", "J", false)
def tyX6 : Nat → FieldType := fun k => match k with
  | 0 => .array .int
  | 1 => .array .int
  | 2 => .array .int
  | 3 => .array .int
  | 4 => .int
  | 5 => .array .int
  | 6 => .int
  | 7 => .int
  | 8 => .int
  | 9 => .array .int
  | 10 => .array .int
  | 11 => .array .boolean
  | 12 => .array .int
  | 13 => .int
  | 14 => .int
  | 15 => .int
  | 16 => .int
  | 17 => .int
  | _ => .long
abbrev wsX60 : List Cond := u_ws RX6 TX6 19
theorem nmX6 : ∀ a, a < 19 → ∀ b, b < 19 → a ≠ b → (TX6 a).2.1 ≠ (TX6 b).2.1 := by decide +kernel
theorem tyX6_ok : ∀ k, k < 19 → parseFieldDescriptor (TX6 k).2.2.1 = some (tyX6 k) := by decide +kernel
abbrev cX6_init : ByteArray := prog_8_method_1_code
def yX6_init : MethodName := ⟨RX6, "<init>", "()V"⟩
abbrev cX6_thrown : ByteArray := prog_8_method_2_code
def yX6_thrown : MethodName := ⟨RX6, "thrown", "()I"⟩
abbrev cX6_in : ByteArray := prog_8_method_3_code
def yX6_in : MethodName := ⟨RX6, "in", "(III)Z"⟩
abbrev cX6_real : ByteArray := prog_8_method_4_code
def yX6_real : MethodName := ⟨RX6, "real", "(I)F"⟩
abbrev cX6_bits : ByteArray := prog_8_method_5_code
def yX6_bits : MethodName := ⟨RX6, "bits", "(F)I"⟩
abbrev cX6_bring : ByteArray := prog_8_method_6_code
def yX6_bring : MethodName := ⟨RX6, "bring", "([II[II)V"⟩
abbrev cX6_hold : ByteArray := prog_8_method_7_code
def yX6_hold : MethodName := ⟨RX6, "hold", "()V"⟩
abbrev cX6_ends : ByteArray := prog_8_method_8_code
def yX6_ends : MethodName := ⟨RX6, "ends", "(I)I"⟩
abbrev cX6_refuse : ByteArray := prog_8_method_9_code
def yX6_refuse : MethodName := ⟨RX6, "refuse", "(I)I"⟩
abbrev cX6_fails : ByteArray := prog_8_method_10_code
def yX6_fails : MethodName := ⟨RX6, "fails", "(I)I"⟩
abbrev cX6_isCoil : ByteArray := prog_8_method_11_code
def yX6_isCoil : MethodName := ⟨RX6, "isCoil", "(I)Z"⟩
abbrev cX6_of : ByteArray := prog_8_method_12_code
def yX6_of : MethodName := ⟨RX6, "of", "(II)I"⟩
abbrev cX6_lay : ByteArray := prog_8_method_13_code
def yX6_lay : MethodName := ⟨RX6, "lay", "(III)V"⟩
abbrev cX6_worth : ByteArray := prog_8_method_14_code
def yX6_worth : MethodName := ⟨RX6, "worth", "(I)I"⟩
abbrev cX6_pays : ByteArray := prog_8_method_15_code
def yX6_pays : MethodName := ⟨RX6, "pays", "(III)Z"⟩
abbrev cX6_takes : ByteArray := prog_8_method_16_code
def yX6_takes : MethodName := ⟨RX6, "takes", "()V"⟩
abbrev cX6_owed : ByteArray := prog_8_method_17_code
def yX6_owed : MethodName := ⟨RX6, "owed", "()I"⟩
abbrev cX6_keepsPromises : ByteArray := prog_8_method_18_code
def yX6_keepsPromises : MethodName := ⟨RX6, "keepsPromises", "()V"⟩
abbrev cX6_puts : ByteArray := prog_8_method_19_code
def yX6_puts : MethodName := ⟨RX6, "puts", "(II)V"⟩
abbrev cX6_highest : ByteArray := prog_8_method_20_code
def yX6_highest : MethodName := ⟨RX6, "highest", "(I)I"⟩
abbrev cX6_set : ByteArray := prog_8_method_21_code
def yX6_set : MethodName := ⟨RX6, "set", "(II)I"⟩
abbrev cX6_isPrice : ByteArray := prog_8_method_22_code
def yX6_isPrice : MethodName := ⟨RX6, "isPrice", "(II)Z"⟩
abbrev cX6_addCoil : ByteArray := prog_8_method_23_code
def yX6_addCoil : MethodName := ⟨RX6, "addCoil", "(III)I"⟩
abbrev cX6_doStock : ByteArray := prog_8_method_24_code
def yX6_doStock : MethodName := ⟨RX6, "doStock", "(II)I"⟩
abbrev cX6_stock : ByteArray := prog_8_method_25_code
def yX6_stock : MethodName := ⟨RX6, "stock", "(II)I"⟩
abbrev cX6_doFill : ByteArray := prog_8_method_26_code
def yX6_doFill : MethodName := ⟨RX6, "doFill", "(II)I"⟩
abbrev cX6_fill : ByteArray := prog_8_method_27_code
def yX6_fill : MethodName := ⟨RX6, "fill", "(II)I"⟩
abbrev cX6_doBuy : ByteArray := prog_8_method_28_code
def yX6_doBuy : MethodName := ⟨RX6, "doBuy", "(I)I"⟩
abbrev cX6_isFew : ByteArray := prog_8_method_29_code
def yX6_isFew : MethodName := ⟨RX6, "isFew", "(I)Z"⟩
abbrev cX6_lays : ByteArray := prog_8_method_30_code
def yX6_lays : MethodName := ⟨RX6, "lays", "(IIII)V"⟩
abbrev cX6_buy : ByteArray := prog_8_method_31_code
def yX6_buy : MethodName := ⟨RX6, "buy", "(IIIII)I"⟩
abbrev cX6_look : ByteArray := prog_8_method_32_code
def yX6_look : MethodName := ⟨RX6, "look", "(I)I"⟩
abbrev cX6_setsPrice : ByteArray := prog_8_method_33_code
def yX6_setsPrice : MethodName := ⟨RX6, "setsPrice", "(I)V"⟩
abbrev cX6_isFined : ByteArray := prog_8_method_34_code
def yX6_isFined : MethodName := ⟨RX6, "isFined", "(I)V"⟩
abbrev cX6_hour : ByteArray := prog_8_method_35_code
def yX6_hour : MethodName := ⟨RX6, "hour", "()I"⟩
abbrev cX6_doPass : ByteArray := prog_8_method_36_code
def yX6_doPass : MethodName := ⟨RX6, "doPass", "(I)I"⟩
abbrev cX6_pass : ByteArray := prog_8_method_37_code
def yX6_pass : MethodName := ⟨RX6, "pass", "(I)I"⟩
abbrev cX6_emptyBox : ByteArray := prog_8_method_38_code
def yX6_emptyBox : MethodName := ⟨RX6, "emptyBox", "()I"⟩
abbrev cX6_coil : ByteArray := prog_8_method_39_code
def yX6_coil : MethodName := ⟨RX6, "coil", "(II)I"⟩
abbrev cX6_demand : ByteArray := prog_8_method_40_code
def yX6_demand : MethodName := ⟨RX6, "demand", "(I)F"⟩
abbrev cX6_tube : ByteArray := prog_8_method_41_code
def yX6_tube : MethodName := ⟨RX6, "tube", "(I)I"⟩
abbrev cX6_money : ByteArray := prog_8_method_42_code
def yX6_money : MethodName := ⟨RX6, "money", "()I"⟩
abbrev cX6_inCoils : ByteArray := prog_8_method_43_code
def yX6_inCoils : MethodName := ⟨RX6, "inCoils", "(I)I"⟩
abbrev cX6_tell : ByteArray := prog_8_method_44_code
def yX6_tell : MethodName := ⟨RX6, "tell", "(I)I"⟩
abbrev cX6_value : ByteArray := prog_8_method_45_code
def yX6_value : MethodName := ⟨RX6, "value", "(I)I"⟩
abbrev cX6_setting : ByteArray := prog_8_method_46_code
def yX6_setting : MethodName := ⟨RX6, "setting", "(I)I"⟩
abbrev cX6_promise : ByteArray := prog_8_method_47_code
def yX6_promise : MethodName := ⟨RX6, "promise", "(I)I"⟩
abbrev cX6_change : ByteArray := prog_8_method_48_code
def yX6_change : MethodName := ⟨RX6, "change", "(II)I"⟩
abbrev cX6_mostPayable : ByteArray := prog_8_method_49_code
def yX6_mostPayable : MethodName := ⟨RX6, "mostPayable", "(I)I"⟩
abbrev cX6_coinFor : ByteArray := prog_8_method_50_code
def yX6_coinFor : MethodName := ⟨RX6, "coinFor", "(I)I"⟩
abbrev cX6_priceIn : ByteArray := prog_8_method_51_code
def yX6_priceIn : MethodName := ⟨RX6, "priceIn", "(II)I"⟩
abbrev cX6_salesInARow : ByteArray := prog_8_method_52_code
def yX6_salesInARow : MethodName := ⟨RX6, "salesInARow", "(III)I"⟩
abbrev cX6_favorite : ByteArray := prog_8_method_53_code
def yX6_favorite : MethodName := ⟨RX6, "favorite", "()I"⟩
abbrev cX6_append : ByteArray := prog_8_method_54_code
def yX6_append : MethodName := ⟨RX6, "append", "(I)I"⟩
abbrev cX6_clearText : ByteArray := prog_8_method_55_code
def yX6_clearText : MethodName := ⟨RX6, "clearText", "()I"⟩
abbrev cX6_here : ByteArray := prog_8_method_56_code
def yX6_here : MethodName := ⟨RX6, "here", "()I"⟩
abbrev cX6_isFigure : ByteArray := prog_8_method_57_code
def yX6_isFigure : MethodName := ⟨RX6, "isFigure", "(I)Z"⟩
abbrev cX6_passes : ByteArray := prog_8_method_58_code
def yX6_passes : MethodName := ⟨RX6, "passes", "(I)Z"⟩
abbrev cX6_readDigit : ByteArray := prog_8_method_59_code
def yX6_readDigit : MethodName := ⟨RX6, "readDigit", "(I)Z"⟩
abbrev cX6_readNumber : ByteArray := prog_8_method_60_code
def yX6_readNumber : MethodName := ⟨RX6, "readNumber", "(I)Z"⟩
abbrev cX6_readCoins : ByteArray := prog_8_method_61_code
def yX6_readCoins : MethodName := ⟨RX6, "readCoins", "()Z"⟩
abbrev cX6_readOrder : ByteArray := prog_8_method_62_code
def yX6_readOrder : MethodName := ⟨RX6, "readOrder", "()Z"⟩
abbrev cX6_does : ByteArray := prog_8_method_63_code
def yX6_does : MethodName := ⟨RX6, "does", "()I"⟩
abbrev cX6_carryOut : ByteArray := prog_8_method_64_code
def yX6_carryOut : MethodName := ⟨RX6, "carryOut", "()I"⟩
abbrev cX6_undo : ByteArray := prog_8_method_65_code
def yX6_undo : MethodName := ⟨RX6, "undo", "()I"⟩
abbrev cX6_mix : ByteArray := prog_8_method_66_code
def yX6_mix : MethodName := ⟨RX6, "mix", "(I)V"⟩
abbrev cX6_digest : ByteArray := prog_8_method_67_code
def yX6_digest : MethodName := ⟨RX6, "digest", "()J"⟩
def RJxf58ca : String := "java/lang/Float"
def TJxf58ca : u_T := fun k => match k with
  | _ => ("", "", "", false)
def tyJxf58ca : Nat → FieldType := fun k => match k with
  | _ => .int
theorem nmJxf58ca : ∀ a, a < 0 → ∀ b, b < 0 → a ≠ b → (TJxf58ca a).2.1 ≠ (TJxf58ca b).2.1 := by decide +kernel
theorem tyJxf58ca_ok : ∀ k, k < 0 → parseFieldDescriptor (TJxf58ca k).2.2.1 = some (tyJxf58ca k) := by decide +kernel
abbrev cJxf58ca_isNaN_12338 : ByteArray := prog_10_method_6_code
def yJxf58ca_isNaN_12338 : MethodName := ⟨RJxf58ca, "isNaN", "(F)Z"⟩
abbrev cJxf58ca_floatToIntBits_5c35a : ByteArray := prog_10_method_24_code
def yJxf58ca_floatToIntBits_5c35a : MethodName := ⟨RJxf58ca, "floatToIntBits", "(F)I"⟩
def RJ9 : String := "java/lang/Math"
def TJ9 : u_T := fun k => match k with
  | _ => ("", "", "", false)
def tyJ9 : Nat → FieldType := fun k => match k with
  | _ => .int
theorem nmJ9 : ∀ a, a < 0 → ∀ b, b < 0 → a ≠ b → (TJ9 a).2.1 ≠ (TJ9 b).2.1 := by decide +kernel
theorem tyJ9_ok : ∀ k, k < 0 → parseFieldDescriptor (TJ9 k).2.2.1 = some (tyJ9 k) := by decide +kernel
abbrev cJ9_max_7cf53 : ByteArray := prog_14_method_65_code
def yJ9_max_7cf53 : MethodName := ⟨RJ9, "max", "(II)I"⟩
abbrev cJ9_min_7cf53 : ByteArray := prog_14_method_69_code
def yJ9_min_7cf53 : MethodName := ⟨RJ9, "min", "(II)I"⟩
def RJ0 : String := "java/lang/String"
def TJ0 : u_T := fun k => match k with
  | _ => ("", "", "", false)
def tyJ0 : Nat → FieldType := fun k => match k with
  | _ => .int
theorem nmJ0 : ∀ a, a < 0 → ∀ b, b < 0 → a ≠ b → (TJ0 a).2.1 ≠ (TJ0 b).2.1 := by decide +kernel
theorem tyJ0_ok : ∀ k, k < 0 → parseFieldDescriptor (TJ0 k).2.2.1 = some (tyJ0 k) := by decide +kernel
def RJ10 : String := "java/lang/System"
def TJ10 : u_T := fun k => match k with
  | _ => ("", "", "", false)
def tyJ10 : Nat → FieldType := fun k => match k with
  | _ => .int
theorem nmJ10 : ∀ a, a < 0 → ∀ b, b < 0 → a ≠ b → (TJ10 a).2.1 ≠ (TJ10 b).2.1 := by decide +kernel
theorem tyJ10_ok : ∀ k, k < 0 → parseFieldDescriptor (TJ10 k).2.2.1 = some (tyJ10 k) := by decide +kernel
def RL : String := "CoilPricesLaw"
abbrev cL_set : ByteArray := method_3_code
def yL_set : MethodName := ⟨RL, "set", "(LCoilPrices;II[J)I"⟩
abbrev cL_addCoil : ByteArray := method_4_code
def yL_addCoil : MethodName := ⟨RL, "addCoil", "(LCoilPrices;III[J)I"⟩
abbrev cL_stock : ByteArray := method_5_code
def yL_stock : MethodName := ⟨RL, "stock", "(LCoilPrices;II[J)I"⟩
abbrev cL_fill : ByteArray := method_6_code
def yL_fill : MethodName := ⟨RL, "fill", "(LCoilPrices;II[J)I"⟩
abbrev cL_buy : ByteArray := method_7_code
def yL_buy : MethodName := ⟨RL, "buy", "(LCoilPrices;IIIII[J)I"⟩
abbrev cL_look : ByteArray := method_8_code
def yL_look : MethodName := ⟨RL, "look", "(LCoilPrices;I[J)I"⟩
abbrev cL_pass : ByteArray := method_9_code
def yL_pass : MethodName := ⟨RL, "pass", "(LCoilPrices;I[J)I"⟩
abbrev cL_coil : ByteArray := method_10_code
def yL_coil : MethodName := ⟨RL, "coil", "(LCoilPrices;II[J)I"⟩
abbrev cL_demand : ByteArray := method_11_code
def yL_demand : MethodName := ⟨RL, "demand", "(LCoilPrices;I[D)I"⟩
abbrev cL_tube : ByteArray := method_12_code
def yL_tube : MethodName := ⟨RL, "tube", "(LCoilPrices;I[J)I"⟩
abbrev cL_value : ByteArray := method_13_code
def yL_value : MethodName := ⟨RL, "value", "(LCoilPrices;I[J)I"⟩
abbrev cL_setting : ByteArray := method_14_code
def yL_setting : MethodName := ⟨RL, "setting", "(LCoilPrices;I[J)I"⟩
abbrev cL_promise : ByteArray := method_15_code
def yL_promise : MethodName := ⟨RL, "promise", "(LCoilPrices;I[J)I"⟩
abbrev cL_change : ByteArray := method_16_code
def yL_change : MethodName := ⟨RL, "change", "(LCoilPrices;II[J)I"⟩
abbrev cL_mostPayable : ByteArray := method_17_code
def yL_mostPayable : MethodName := ⟨RL, "mostPayable", "(LCoilPrices;I[J)I"⟩
abbrev cL_coinFor : ByteArray := method_18_code
def yL_coinFor : MethodName := ⟨RL, "coinFor", "(LCoilPrices;I[J)I"⟩
abbrev cL_priceIn : ByteArray := method_19_code
def yL_priceIn : MethodName := ⟨RL, "priceIn", "(LCoilPrices;II[J)I"⟩
abbrev cL_salesInARow : ByteArray := method_20_code
def yL_salesInARow : MethodName := ⟨RL, "salesInARow", "(LCoilPrices;III[J)I"⟩
abbrev cL_append : ByteArray := method_21_code
def yL_append : MethodName := ⟨RL, "append", "(LCoilPrices;I[J)I"⟩
abbrev cL_undo : ByteArray := method_22_code
def yL_undo : MethodName := ⟨RL, "undo", "(LCoilPrices;[J)I"⟩
abbrev cL_law : ByteArray := code
def yL_law : MethodName := ⟨RL, "law", "([I)Z"⟩
abbrev vwCl : List vw_C := [(RX0, TX0, 12), (RX1, TX1, 6), (RX2, TX2, 8), (RX3, TX3, 2), (RX4, TX4, 7), (RX5, TX5, 6), (RX6, TX6, 19)]
theorem inX0 : ∀ w ∈ wsX00, w ∈ lw_tbl := by decide +kernel
theorem inX1 : ∀ w ∈ wsX10, w ∈ lw_tbl := by decide +kernel
theorem inX2 : ∀ w ∈ wsX20, w ∈ lw_tbl := by decide +kernel
theorem inX3 : ∀ w ∈ wsX30, w ∈ lw_tbl := by decide +kernel
theorem inX4 : ∀ w ∈ wsX40, w ∈ lw_tbl := by decide +kernel
theorem inX5 : ∀ w ∈ wsX50, w ∈ lw_tbl := by decide +kernel
theorem inX6 : ∀ w ∈ wsX60, w ∈ lw_tbl := by decide +kernel
def gt : List Cond := lw_tbl.filter goodWord
theorem gtLen : gt.length + (lw_tbl.filter (fun w => !goodWord w)).length = lw_tbl.length := by decide +kernel
end
section
theorem dX0_init_0 : decode cX0_init 0 = .ok (.aload_n 0, 1) := by decide +kernel
theorem dX0_init_1 : decode cX0_init 1 = .ok (.invokespecial 3, 3) := by decide +kernel
theorem dX0_init_4 : decode cX0_init 4 = .ok (.aload_n 0, 1) := by decide +kernel
theorem dX0_init_5 : decode cX0_init 5 = .ok (.iconst 0, 1) := by decide +kernel
theorem dX0_init_6 : decode cX0_init 6 = .ok (.putfield 9, 3) := by decide +kernel
theorem dX0_init_9 : decode cX0_init 9 = .ok (.aload_n 0, 1) := by decide +kernel
theorem dX0_init_10 : decode cX0_init 10 = .ok (.iconst 0, 1) := by decide +kernel
theorem dX0_init_11 : decode cX0_init 11 = .ok (.putfield 15, 3) := by decide +kernel
theorem dX0_init_14 : decode cX0_init 14 = .ok (.aload_n 0, 1) := by decide +kernel
theorem dX0_init_15 : decode cX0_init 15 = .ok (.iconst 0, 1) := by decide +kernel
theorem dX0_init_16 : decode cX0_init 16 = .ok (.putfield 18, 3) := by decide +kernel
theorem dX0_init_19 : decode cX0_init 19 = .ok (.aload_n 0, 1) := by decide +kernel
theorem dX0_init_20 : decode cX0_init 20 = .ok (.iconst 0, 1) := by decide +kernel
theorem dX0_init_21 : decode cX0_init 21 = .ok (.putfield 21, 3) := by decide +kernel
theorem dX0_init_24 : decode cX0_init 24 = .ok (.aload_n 0, 1) := by decide +kernel
theorem dX0_init_25 : decode cX0_init 25 = .ok (.iconst 0, 1) := by decide +kernel
theorem dX0_init_26 : decode cX0_init 26 = .ok (.putfield 24, 3) := by decide +kernel
theorem dX0_init_29 : decode cX0_init 29 = .ok (.aload_n 0, 1) := by decide +kernel
theorem dX0_init_30 : decode cX0_init 30 = .ok (.iconst 0, 1) := by decide +kernel
theorem dX0_init_31 : decode cX0_init 31 = .ok (.putfield 27, 3) := by decide +kernel
theorem dX0_init_34 : decode cX0_init 34 = .ok (.aload_n 0, 1) := by decide +kernel
theorem dX0_init_35 : decode cX0_init 35 = .ok (.iconst 0, 1) := by decide +kernel
theorem dX0_init_36 : decode cX0_init 36 = .ok (.putfield 30, 3) := by decide +kernel
theorem dX0_init_39 : decode cX0_init 39 = .ok (.aload_n 0, 1) := by decide +kernel
theorem dX0_init_40 : decode cX0_init 40 = .ok (.iconst 0, 1) := by decide +kernel
theorem dX0_init_41 : decode cX0_init 41 = .ok (.putfield 33, 3) := by decide +kernel
theorem dX0_init_44 : decode cX0_init 44 = .ok (.aload_n 0, 1) := by decide +kernel
theorem dX0_init_45 : decode cX0_init 45 = .ok (.iconst 0, 1) := by decide +kernel
theorem dX0_init_46 : decode cX0_init 46 = .ok (.putfield 36, 3) := by decide +kernel
theorem dX0_init_49 : decode cX0_init 49 = .ok (.aload_n 0, 1) := by decide +kernel
theorem dX0_init_50 : decode cX0_init 50 = .ok (.iconst 0, 1) := by decide +kernel
theorem dX0_init_51 : decode cX0_init 51 = .ok (.putfield 39, 3) := by decide +kernel
theorem dX0_init_54 : decode cX0_init 54 = .ok (.aload_n 0, 1) := by decide +kernel
theorem dX0_init_55 : decode cX0_init 55 = .ok (.fconst 0, 1) := by decide +kernel
theorem dX0_init_56 : decode cX0_init 56 = .ok (.putfield 42, 3) := by decide +kernel
theorem dX0_init_59 : decode cX0_init 59 = .ok (.aload_n 0, 1) := by decide +kernel
theorem dX0_init_60 : decode cX0_init 60 = .ok (.iconst 0, 1) := by decide +kernel
theorem dX0_init_61 : decode cX0_init 61 = .ok (.putfield 46, 3) := by decide +kernel
theorem dX0_init_64 : decode cX0_init 64 = .ok (.return_, 1) := by decide +kernel
theorem dX0_begin_0 : decode cX0_begin 0 = .ok (.aload_n 0, 1) := by decide +kernel
theorem dX0_begin_1 : decode cX0_begin 1 = .ok (.iload_n 1, 1) := by decide +kernel
theorem dX0_begin_2 : decode cX0_begin 2 = .ok (.putfield 9, 3) := by decide +kernel
theorem dX0_begin_5 : decode cX0_begin 5 = .ok (.aload_n 0, 1) := by decide +kernel
theorem dX0_begin_6 : decode cX0_begin 6 = .ok (.iconst 0, 1) := by decide +kernel
theorem dX0_begin_7 : decode cX0_begin 7 = .ok (.putfield 15, 3) := by decide +kernel
theorem dX0_begin_10 : decode cX0_begin 10 = .ok (.aload_n 0, 1) := by decide +kernel
theorem dX0_begin_11 : decode cX0_begin 11 = .ok (.iload_n 2, 1) := by decide +kernel
theorem dX0_begin_12 : decode cX0_begin 12 = .ok (.putfield 18, 3) := by decide +kernel
theorem dX0_begin_15 : decode cX0_begin 15 = .ok (.aload_n 0, 1) := by decide +kernel
theorem dX0_begin_16 : decode cX0_begin 16 = .ok (.iload_n 2, 1) := by decide +kernel
theorem dX0_begin_17 : decode cX0_begin 17 = .ok (.putfield 21, 3) := by decide +kernel
theorem dX0_begin_20 : decode cX0_begin 20 = .ok (.aload_n 0, 1) := by decide +kernel
theorem dX0_begin_21 : decode cX0_begin 21 = .ok (.iload_n 3, 1) := by decide +kernel
theorem dX0_begin_22 : decode cX0_begin 22 = .ok (.putfield 24, 3) := by decide +kernel
theorem dX0_begin_25 : decode cX0_begin 25 = .ok (.aload_n 0, 1) := by decide +kernel
theorem dX0_begin_26 : decode cX0_begin 26 = .ok (.iconst 0, 1) := by decide +kernel
theorem dX0_begin_27 : decode cX0_begin 27 = .ok (.putfield 27, 3) := by decide +kernel
theorem dX0_begin_30 : decode cX0_begin 30 = .ok (.aload_n 0, 1) := by decide +kernel
theorem dX0_begin_31 : decode cX0_begin 31 = .ok (.iconst 0, 1) := by decide +kernel
theorem dX0_begin_32 : decode cX0_begin 32 = .ok (.putfield 30, 3) := by decide +kernel
theorem dX0_begin_35 : decode cX0_begin 35 = .ok (.aload_n 0, 1) := by decide +kernel
theorem dX0_begin_36 : decode cX0_begin 36 = .ok (.iconst 0, 1) := by decide +kernel
theorem dX0_begin_37 : decode cX0_begin 37 = .ok (.putfield 33, 3) := by decide +kernel
theorem dX0_begin_40 : decode cX0_begin 40 = .ok (.aload_n 0, 1) := by decide +kernel
theorem dX0_begin_41 : decode cX0_begin 41 = .ok (.iconst 0, 1) := by decide +kernel
theorem dX0_begin_42 : decode cX0_begin 42 = .ok (.putfield 36, 3) := by decide +kernel
theorem dX0_begin_45 : decode cX0_begin 45 = .ok (.aload_n 0, 1) := by decide +kernel
theorem dX0_begin_46 : decode cX0_begin 46 = .ok (.iconst 0, 1) := by decide +kernel
theorem dX0_begin_47 : decode cX0_begin 47 = .ok (.putfield 39, 3) := by decide +kernel
theorem dX0_begin_50 : decode cX0_begin 50 = .ok (.aload_n 0, 1) := by decide +kernel
theorem dX0_begin_51 : decode cX0_begin 51 = .ok (.fconst 0, 1) := by decide +kernel
theorem dX0_begin_52 : decode cX0_begin 52 = .ok (.putfield 42, 3) := by decide +kernel
theorem dX0_begin_55 : decode cX0_begin 55 = .ok (.aload_n 0, 1) := by decide +kernel
theorem dX0_begin_56 : decode cX0_begin 56 = .ok (.iconst 0, 1) := by decide +kernel
theorem dX0_begin_57 : decode cX0_begin 57 = .ok (.putfield 46, 3) := by decide +kernel
theorem dX0_begin_60 : decode cX0_begin 60 = .ok (.return_, 1) := by decide +kernel
theorem dX0_takeOver_0 : decode cX0_takeOver 0 = .ok (.aload_n 0, 1) := by decide +kernel
theorem dX0_takeOver_1 : decode cX0_takeOver 1 = .ok (.aload_n 1, 1) := by decide +kernel
theorem dX0_takeOver_2 : decode cX0_takeOver 2 = .ok (.getfield 9, 3) := by decide +kernel
theorem dX0_takeOver_5 : decode cX0_takeOver 5 = .ok (.putfield 9, 3) := by decide +kernel
theorem dX0_takeOver_8 : decode cX0_takeOver 8 = .ok (.aload_n 0, 1) := by decide +kernel
theorem dX0_takeOver_9 : decode cX0_takeOver 9 = .ok (.aload_n 1, 1) := by decide +kernel
theorem dX0_takeOver_10 : decode cX0_takeOver 10 = .ok (.getfield 15, 3) := by decide +kernel
theorem dX0_takeOver_13 : decode cX0_takeOver 13 = .ok (.putfield 15, 3) := by decide +kernel
theorem dX0_takeOver_16 : decode cX0_takeOver 16 = .ok (.aload_n 0, 1) := by decide +kernel
theorem dX0_takeOver_17 : decode cX0_takeOver 17 = .ok (.aload_n 1, 1) := by decide +kernel
theorem dX0_takeOver_18 : decode cX0_takeOver 18 = .ok (.getfield 18, 3) := by decide +kernel
theorem dX0_takeOver_21 : decode cX0_takeOver 21 = .ok (.putfield 18, 3) := by decide +kernel
theorem dX0_takeOver_24 : decode cX0_takeOver 24 = .ok (.aload_n 0, 1) := by decide +kernel
theorem dX0_takeOver_25 : decode cX0_takeOver 25 = .ok (.aload_n 1, 1) := by decide +kernel
theorem dX0_takeOver_26 : decode cX0_takeOver 26 = .ok (.getfield 21, 3) := by decide +kernel
theorem dX0_takeOver_29 : decode cX0_takeOver 29 = .ok (.putfield 21, 3) := by decide +kernel
theorem dX0_takeOver_32 : decode cX0_takeOver 32 = .ok (.aload_n 0, 1) := by decide +kernel
theorem dX0_takeOver_33 : decode cX0_takeOver 33 = .ok (.aload_n 1, 1) := by decide +kernel
theorem dX0_takeOver_34 : decode cX0_takeOver 34 = .ok (.getfield 24, 3) := by decide +kernel
theorem dX0_takeOver_37 : decode cX0_takeOver 37 = .ok (.putfield 24, 3) := by decide +kernel
theorem dX0_takeOver_40 : decode cX0_takeOver 40 = .ok (.aload_n 0, 1) := by decide +kernel
theorem dX0_takeOver_41 : decode cX0_takeOver 41 = .ok (.aload_n 1, 1) := by decide +kernel
theorem dX0_takeOver_42 : decode cX0_takeOver 42 = .ok (.getfield 27, 3) := by decide +kernel
theorem dX0_takeOver_45 : decode cX0_takeOver 45 = .ok (.putfield 27, 3) := by decide +kernel
theorem dX0_takeOver_48 : decode cX0_takeOver 48 = .ok (.aload_n 0, 1) := by decide +kernel
theorem dX0_takeOver_49 : decode cX0_takeOver 49 = .ok (.aload_n 1, 1) := by decide +kernel
theorem dX0_takeOver_50 : decode cX0_takeOver 50 = .ok (.getfield 30, 3) := by decide +kernel
theorem dX0_takeOver_53 : decode cX0_takeOver 53 = .ok (.putfield 30, 3) := by decide +kernel
theorem dX0_takeOver_56 : decode cX0_takeOver 56 = .ok (.aload_n 0, 1) := by decide +kernel
theorem dX0_takeOver_57 : decode cX0_takeOver 57 = .ok (.aload_n 1, 1) := by decide +kernel
theorem dX0_takeOver_58 : decode cX0_takeOver 58 = .ok (.getfield 33, 3) := by decide +kernel
theorem dX0_takeOver_61 : decode cX0_takeOver 61 = .ok (.putfield 33, 3) := by decide +kernel
theorem dX0_takeOver_64 : decode cX0_takeOver 64 = .ok (.aload_n 0, 1) := by decide +kernel
theorem dX0_takeOver_65 : decode cX0_takeOver 65 = .ok (.aload_n 1, 1) := by decide +kernel
theorem dX0_takeOver_66 : decode cX0_takeOver 66 = .ok (.getfield 36, 3) := by decide +kernel
theorem dX0_takeOver_69 : decode cX0_takeOver 69 = .ok (.putfield 36, 3) := by decide +kernel
theorem dX0_takeOver_72 : decode cX0_takeOver 72 = .ok (.aload_n 0, 1) := by decide +kernel
theorem dX0_takeOver_73 : decode cX0_takeOver 73 = .ok (.aload_n 1, 1) := by decide +kernel
theorem dX0_takeOver_74 : decode cX0_takeOver 74 = .ok (.getfield 39, 3) := by decide +kernel
theorem dX0_takeOver_77 : decode cX0_takeOver 77 = .ok (.putfield 39, 3) := by decide +kernel
theorem dX0_takeOver_80 : decode cX0_takeOver 80 = .ok (.aload_n 0, 1) := by decide +kernel
theorem dX0_takeOver_81 : decode cX0_takeOver 81 = .ok (.aload_n 1, 1) := by decide +kernel
theorem dX0_takeOver_82 : decode cX0_takeOver 82 = .ok (.getfield 42, 3) := by decide +kernel
theorem dX0_takeOver_85 : decode cX0_takeOver 85 = .ok (.putfield 42, 3) := by decide +kernel
theorem dX0_takeOver_88 : decode cX0_takeOver 88 = .ok (.aload_n 0, 1) := by decide +kernel
theorem dX0_takeOver_89 : decode cX0_takeOver 89 = .ok (.aload_n 1, 1) := by decide +kernel
theorem dX0_takeOver_90 : decode cX0_takeOver 90 = .ok (.getfield 46, 3) := by decide +kernel
theorem dX0_takeOver_93 : decode cX0_takeOver 93 = .ok (.putfield 46, 3) := by decide +kernel
theorem dX0_takeOver_96 : decode cX0_takeOver 96 = .ok (.return_, 1) := by decide +kernel
theorem dX0_noteSale_0 : decode cX0_noteSale 0 = .ok (.aload_n 0, 1) := by decide +kernel
theorem dX0_noteSale_1 : decode cX0_noteSale 1 = .ok (.dup, 1) := by decide +kernel
theorem dX0_noteSale_2 : decode cX0_noteSale 2 = .ok (.getfield 15, 3) := by decide +kernel
theorem dX0_noteSale_5 : decode cX0_noteSale 5 = .ok (.iconst 1, 1) := by decide +kernel
theorem dX0_noteSale_6 : decode cX0_noteSale 6 = .ok (.isub, 1) := by decide +kernel
theorem dX0_noteSale_7 : decode cX0_noteSale 7 = .ok (.putfield 15, 3) := by decide +kernel
theorem dX0_noteSale_10 : decode cX0_noteSale 10 = .ok (.aload_n 0, 1) := by decide +kernel
theorem dX0_noteSale_11 : decode cX0_noteSale 11 = .ok (.aload_n 0, 1) := by decide +kernel
theorem dX0_noteSale_12 : decode cX0_noteSale 12 = .ok (.getfield 42, 3) := by decide +kernel
theorem dX0_noteSale_15 : decode cX0_noteSale 15 = .ok (.fconst 1, 1) := by decide +kernel
theorem dX0_noteSale_16 : decode cX0_noteSale 16 = .ok (.fadd, 1) := by decide +kernel
theorem dX0_noteSale_17 : decode cX0_noteSale 17 = .ok (.putfield 42, 3) := by decide +kernel
theorem dX0_noteSale_20 : decode cX0_noteSale 20 = .ok (.aload_n 0, 1) := by decide +kernel
theorem dX0_noteSale_21 : decode cX0_noteSale 21 = .ok (.dup, 1) := by decide +kernel
theorem dX0_noteSale_22 : decode cX0_noteSale 22 = .ok (.getfield 30, 3) := by decide +kernel
theorem dX0_noteSale_25 : decode cX0_noteSale 25 = .ok (.iconst 1, 1) := by decide +kernel
theorem dX0_noteSale_26 : decode cX0_noteSale 26 = .ok (.iadd, 1) := by decide +kernel
theorem dX0_noteSale_27 : decode cX0_noteSale 27 = .ok (.putfield 30, 3) := by decide +kernel
theorem dX0_noteSale_30 : decode cX0_noteSale 30 = .ok (.aload_n 0, 1) := by decide +kernel
theorem dX0_noteSale_31 : decode cX0_noteSale 31 = .ok (.dup, 1) := by decide +kernel
theorem dX0_noteSale_32 : decode cX0_noteSale 32 = .ok (.getfield 33, 3) := by decide +kernel
theorem dX0_noteSale_35 : decode cX0_noteSale 35 = .ok (.aload_n 0, 1) := by decide +kernel
theorem dX0_noteSale_36 : decode cX0_noteSale 36 = .ok (.getfield 18, 3) := by decide +kernel
theorem dX0_noteSale_39 : decode cX0_noteSale 39 = .ok (.iadd, 1) := by decide +kernel
theorem dX0_noteSale_40 : decode cX0_noteSale 40 = .ok (.putfield 33, 3) := by decide +kernel
theorem dX0_noteSale_43 : decode cX0_noteSale 43 = .ok (.return_, 1) := by decide +kernel
theorem dX0_setPrice_0 : decode cX0_setPrice 0 = .ok (.ldc 50, 2) := by decide +kernel
theorem dX0_setPrice_2 : decode cX0_setPrice 2 = .ok (.aload_n 0, 1) := by decide +kernel
theorem dX0_setPrice_3 : decode cX0_setPrice 3 = .ok (.getfield 42, 3) := by decide +kernel
theorem dX0_setPrice_6 : decode cX0_setPrice 6 = .ok (.fmul, 1) := by decide +kernel
theorem dX0_setPrice_7 : decode cX0_setPrice 7 = .ok (.fstore_n 3, 1) := by decide +kernel
theorem dX0_setPrice_8 : decode cX0_setPrice 8 = .ok (.aload_n 0, 1) := by decide +kernel
theorem dX0_setPrice_9 : decode cX0_setPrice 9 = .ok (.fload_n 3, 1) := by decide +kernel
theorem dX0_setPrice_10 : decode cX0_setPrice 10 = .ok (.iload_n 1, 1) := by decide +kernel
theorem dX0_setPrice_11 : decode cX0_setPrice 11 = .ok (.i2f, 1) := by decide +kernel
theorem dX0_setPrice_12 : decode cX0_setPrice 12 = .ok (.fcmp .l, 1) := by decide +kernel
theorem dX0_setPrice_13 : decode cX0_setPrice 13 = .ok (.ifCond .lt 25, 3) := by decide +kernel
theorem dX0_setPrice_16 : decode cX0_setPrice 16 = .ok (.aload_n 0, 1) := by decide +kernel
theorem dX0_setPrice_17 : decode cX0_setPrice 17 = .ok (.getfield 27, 3) := by decide +kernel
theorem dX0_setPrice_20 : decode cX0_setPrice 20 = .ok (.ifCond .ne 18, 3) := by decide +kernel
theorem dX0_setPrice_23 : decode cX0_setPrice 23 = .ok (.aload_n 0, 1) := by decide +kernel
theorem dX0_setPrice_24 : decode cX0_setPrice 24 = .ok (.getfield 18, 3) := by decide +kernel
theorem dX0_setPrice_27 : decode cX0_setPrice 27 = .ok (.aload_n 0, 1) := by decide +kernel
theorem dX0_setPrice_28 : decode cX0_setPrice 28 = .ok (.getfield 24, 3) := by decide +kernel
theorem dX0_setPrice_31 : decode cX0_setPrice 31 = .ok (.if_icmp .ge 7, 3) := by decide +kernel
theorem dX0_setPrice_34 : decode cX0_setPrice 34 = .ok (.iconst 1, 1) := by decide +kernel
theorem dX0_setPrice_35 : decode cX0_setPrice 35 = .ok (.goto 4, 3) := by decide +kernel
theorem dX0_setPrice_38 : decode cX0_setPrice 38 = .ok (.iconst 0, 1) := by decide +kernel
theorem dX0_setPrice_39 : decode cX0_setPrice 39 = .ok (.putfield 46, 3) := by decide +kernel
theorem dX0_setPrice_42 : decode cX0_setPrice 42 = .ok (.aload_n 0, 1) := by decide +kernel
theorem dX0_setPrice_43 : decode cX0_setPrice 43 = .ok (.getfield 46, 3) := by decide +kernel
theorem dX0_setPrice_46 : decode cX0_setPrice 46 = .ok (.ifCond .eq 26, 3) := by decide +kernel
theorem dX0_setPrice_49 : decode cX0_setPrice 49 = .ok (.aload_n 0, 1) := by decide +kernel
theorem dX0_setPrice_50 : decode cX0_setPrice 50 = .ok (.dup, 1) := by decide +kernel
theorem dX0_setPrice_51 : decode cX0_setPrice 51 = .ok (.getfield 18, 3) := by decide +kernel
theorem dX0_setPrice_54 : decode cX0_setPrice 54 = .ok (.iconst 5, 1) := by decide +kernel
theorem dX0_setPrice_55 : decode cX0_setPrice 55 = .ok (.iadd, 1) := by decide +kernel
theorem dX0_setPrice_56 : decode cX0_setPrice 56 = .ok (.putfield 18, 3) := by decide +kernel
theorem dX0_setPrice_59 : decode cX0_setPrice 59 = .ok (.aload_n 0, 1) := by decide +kernel
theorem dX0_setPrice_60 : decode cX0_setPrice 60 = .ok (.dup, 1) := by decide +kernel
theorem dX0_setPrice_61 : decode cX0_setPrice 61 = .ok (.getfield 36, 3) := by decide +kernel
theorem dX0_setPrice_64 : decode cX0_setPrice 64 = .ok (.iconst 1, 1) := by decide +kernel
theorem dX0_setPrice_65 : decode cX0_setPrice 65 = .ok (.iadd, 1) := by decide +kernel
theorem dX0_setPrice_66 : decode cX0_setPrice 66 = .ok (.putfield 36, 3) := by decide +kernel
theorem dX0_setPrice_69 : decode cX0_setPrice 69 = .ok (.goto 31, 3) := by decide +kernel
theorem dX0_setPrice_72 : decode cX0_setPrice 72 = .ok (.fload_n 3, 1) := by decide +kernel
theorem dX0_setPrice_73 : decode cX0_setPrice 73 = .ok (.iload_n 2, 1) := by decide +kernel
theorem dX0_setPrice_74 : decode cX0_setPrice 74 = .ok (.i2f, 1) := by decide +kernel
theorem dX0_setPrice_75 : decode cX0_setPrice 75 = .ok (.fcmp .g, 1) := by decide +kernel
theorem dX0_setPrice_76 : decode cX0_setPrice 76 = .ok (.ifCond .ge 24, 3) := by decide +kernel
theorem dX0_setPrice_79 : decode cX0_setPrice 79 = .ok (.aload_n 0, 1) := by decide +kernel
theorem dX0_setPrice_80 : decode cX0_setPrice 80 = .ok (.getfield 18, 3) := by decide +kernel
theorem dX0_setPrice_83 : decode cX0_setPrice 83 = .ok (.aload_n 0, 1) := by decide +kernel
theorem dX0_setPrice_84 : decode cX0_setPrice 84 = .ok (.getfield 21, 3) := by decide +kernel
theorem dX0_setPrice_87 : decode cX0_setPrice 87 = .ok (.if_icmp .le 13, 3) := by decide +kernel
theorem dX0_setPrice_90 : decode cX0_setPrice 90 = .ok (.aload_n 0, 1) := by decide +kernel
theorem dX0_setPrice_91 : decode cX0_setPrice 91 = .ok (.dup, 1) := by decide +kernel
theorem dX0_setPrice_92 : decode cX0_setPrice 92 = .ok (.getfield 18, 3) := by decide +kernel
theorem dX0_setPrice_95 : decode cX0_setPrice 95 = .ok (.iconst 5, 1) := by decide +kernel
theorem dX0_setPrice_96 : decode cX0_setPrice 96 = .ok (.isub, 1) := by decide +kernel
theorem dX0_setPrice_97 : decode cX0_setPrice 97 = .ok (.putfield 18, 3) := by decide +kernel
theorem dX0_setPrice_100 : decode cX0_setPrice 100 = .ok (.return_, 1) := by decide +kernel
theorem dX0_shortenBan_0 : decode cX0_shortenBan 0 = .ok (.aload_n 0, 1) := by decide +kernel
theorem dX0_shortenBan_1 : decode cX0_shortenBan 1 = .ok (.getfield 27, 3) := by decide +kernel
theorem dX0_shortenBan_4 : decode cX0_shortenBan 4 = .ok (.ifCond .le 13, 3) := by decide +kernel
theorem dX0_shortenBan_7 : decode cX0_shortenBan 7 = .ok (.aload_n 0, 1) := by decide +kernel
theorem dX0_shortenBan_8 : decode cX0_shortenBan 8 = .ok (.dup, 1) := by decide +kernel
theorem dX0_shortenBan_9 : decode cX0_shortenBan 9 = .ok (.getfield 27, 3) := by decide +kernel
theorem dX0_shortenBan_12 : decode cX0_shortenBan 12 = .ok (.iconst 1, 1) := by decide +kernel
theorem dX0_shortenBan_13 : decode cX0_shortenBan 13 = .ok (.isub, 1) := by decide +kernel
theorem dX0_shortenBan_14 : decode cX0_shortenBan 14 = .ok (.putfield 27, 3) := by decide +kernel
theorem dX0_shortenBan_17 : decode cX0_shortenBan 17 = .ok (.return_, 1) := by decide +kernel
theorem dX0_payFine_0 : decode cX0_payFine 0 = .ok (.aload_n 0, 1) := by decide +kernel
theorem dX0_payFine_1 : decode cX0_payFine 1 = .ok (.aload_n 0, 1) := by decide +kernel
theorem dX0_payFine_2 : decode cX0_payFine 2 = .ok (.getfield 21, 3) := by decide +kernel
theorem dX0_payFine_5 : decode cX0_payFine 5 = .ok (.aload_n 0, 1) := by decide +kernel
theorem dX0_payFine_6 : decode cX0_payFine 6 = .ok (.getfield 18, 3) := by decide +kernel
theorem dX0_payFine_9 : decode cX0_payFine 9 = .ok (.iload_n 1, 1) := by decide +kernel
theorem dX0_payFine_10 : decode cX0_payFine 10 = .ok (.isub, 1) := by decide +kernel
theorem dX0_payFine_11 : decode cX0_payFine 11 = .ok (.invokestatic 51, 3) := by decide +kernel
theorem dX0_payFine_14 : decode cX0_payFine 14 = .ok (.putfield 18, 3) := by decide +kernel
theorem dX0_payFine_17 : decode cX0_payFine 17 = .ok (.aload_n 0, 1) := by decide +kernel
theorem dX0_payFine_18 : decode cX0_payFine 18 = .ok (.iconst 3, 1) := by decide +kernel
theorem dX0_payFine_19 : decode cX0_payFine 19 = .ok (.putfield 27, 3) := by decide +kernel
theorem dX0_payFine_22 : decode cX0_payFine 22 = .ok (.return_, 1) := by decide +kernel
theorem dX0_fade_0 : decode cX0_fade 0 = .ok (.aload_n 0, 1) := by decide +kernel
theorem dX0_fade_1 : decode cX0_fade 1 = .ok (.aload_n 0, 1) := by decide +kernel
theorem dX0_fade_2 : decode cX0_fade 2 = .ok (.getfield 42, 3) := by decide +kernel
theorem dX0_fade_5 : decode cX0_fade 5 = .ok (.iload_n 1, 1) := by decide +kernel
theorem dX0_fade_6 : decode cX0_fade 6 = .ok (.i2f, 1) := by decide +kernel
theorem dX0_fade_7 : decode cX0_fade 7 = .ok (.fmul, 1) := by decide +kernel
theorem dX0_fade_8 : decode cX0_fade 8 = .ok (.ldc 57, 2) := by decide +kernel
theorem dX0_fade_10 : decode cX0_fade 10 = .ok (.fdiv, 1) := by decide +kernel
theorem dX0_fade_11 : decode cX0_fade 11 = .ok (.putfield 42, 3) := by decide +kernel
theorem dX0_fade_14 : decode cX0_fade 14 = .ok (.return_, 1) := by decide +kernel
theorem dX0_fact_0 : decode cX0_fact 0 = .ok (.iload_n 1, 1) := by decide +kernel
theorem dX0_fact_1 : decode cX0_fact 1 = .ok (.tableswitch 96 0 8 #[51, 56, 61, 66, 71, 76, 81, 86, 91], 51) := by decide +kernel
theorem dX0_fact_52 : decode cX0_fact 52 = .ok (.aload_n 0, 1) := by decide +kernel
theorem dX0_fact_53 : decode cX0_fact 53 = .ok (.getfield 9, 3) := by decide +kernel
theorem dX0_fact_56 : decode cX0_fact 56 = .ok (.ireturn, 1) := by decide +kernel
theorem dX0_fact_57 : decode cX0_fact 57 = .ok (.aload_n 0, 1) := by decide +kernel
theorem dX0_fact_58 : decode cX0_fact 58 = .ok (.getfield 15, 3) := by decide +kernel
theorem dX0_fact_61 : decode cX0_fact 61 = .ok (.ireturn, 1) := by decide +kernel
theorem dX0_fact_62 : decode cX0_fact 62 = .ok (.aload_n 0, 1) := by decide +kernel
theorem dX0_fact_63 : decode cX0_fact 63 = .ok (.getfield 18, 3) := by decide +kernel
theorem dX0_fact_66 : decode cX0_fact 66 = .ok (.ireturn, 1) := by decide +kernel
theorem dX0_fact_67 : decode cX0_fact 67 = .ok (.aload_n 0, 1) := by decide +kernel
theorem dX0_fact_68 : decode cX0_fact 68 = .ok (.getfield 21, 3) := by decide +kernel
theorem dX0_fact_71 : decode cX0_fact 71 = .ok (.ireturn, 1) := by decide +kernel
theorem dX0_fact_72 : decode cX0_fact 72 = .ok (.aload_n 0, 1) := by decide +kernel
theorem dX0_fact_73 : decode cX0_fact 73 = .ok (.getfield 24, 3) := by decide +kernel
theorem dX0_fact_76 : decode cX0_fact 76 = .ok (.ireturn, 1) := by decide +kernel
theorem dX0_fact_77 : decode cX0_fact 77 = .ok (.aload_n 0, 1) := by decide +kernel
theorem dX0_fact_78 : decode cX0_fact 78 = .ok (.getfield 27, 3) := by decide +kernel
theorem dX0_fact_81 : decode cX0_fact 81 = .ok (.ireturn, 1) := by decide +kernel
theorem dX0_fact_82 : decode cX0_fact 82 = .ok (.aload_n 0, 1) := by decide +kernel
theorem dX0_fact_83 : decode cX0_fact 83 = .ok (.getfield 30, 3) := by decide +kernel
theorem dX0_fact_86 : decode cX0_fact 86 = .ok (.ireturn, 1) := by decide +kernel
theorem dX0_fact_87 : decode cX0_fact 87 = .ok (.aload_n 0, 1) := by decide +kernel
theorem dX0_fact_88 : decode cX0_fact 88 = .ok (.getfield 33, 3) := by decide +kernel
theorem dX0_fact_91 : decode cX0_fact 91 = .ok (.ireturn, 1) := by decide +kernel
theorem dX0_fact_92 : decode cX0_fact 92 = .ok (.aload_n 0, 1) := by decide +kernel
theorem dX0_fact_93 : decode cX0_fact 93 = .ok (.getfield 36, 3) := by decide +kernel
theorem dX0_fact_96 : decode cX0_fact 96 = .ok (.ireturn, 1) := by decide +kernel
theorem dX0_fact_97 : decode cX0_fact 97 = .ok (.aload_n 0, 1) := by decide +kernel
theorem dX0_fact_98 : decode cX0_fact 98 = .ok (.getfield 39, 3) := by decide +kernel
theorem dX0_fact_101 : decode cX0_fact 101 = .ok (.ireturn, 1) := by decide +kernel
theorem dX1_init_0 : decode cX1_init 0 = .ok (.aload_n 0, 1) := by decide +kernel
theorem dX1_init_1 : decode cX1_init 1 = .ok (.invokespecial 3, 3) := by decide +kernel
theorem dX1_init_4 : decode cX1_init 4 = .ok (.aload_n 0, 1) := by decide +kernel
theorem dX1_init_5 : decode cX1_init 5 = .ok (.bipush 8, 2) := by decide +kernel
theorem dX1_init_7 : decode cX1_init 7 = .ok (.anewarray 9, 3) := by decide +kernel
theorem dX1_init_10 : decode cX1_init 10 = .ok (.putfield 11, 3) := by decide +kernel
theorem dX1_init_13 : decode cX1_init 13 = .ok (.aload_n 0, 1) := by decide +kernel
theorem dX1_init_14 : decode cX1_init 14 = .ok (.iconst 5, 1) := by decide +kernel
theorem dX1_init_15 : decode cX1_init 15 = .ok (.newarray .int, 2) := by decide +kernel
theorem dX1_init_17 : decode cX1_init 17 = .ok (.putfield 17, 3) := by decide +kernel
theorem dX1_init_20 : decode cX1_init 20 = .ok (.aload_n 0, 1) := by decide +kernel
theorem dX1_init_21 : decode cX1_init 21 = .ok (.new 21, 3) := by decide +kernel
theorem dX1_init_24 : decode cX1_init 24 = .ok (.dup, 1) := by decide +kernel
theorem dX1_init_25 : decode cX1_init 25 = .ok (.invokespecial 23, 3) := by decide +kernel
theorem dX1_init_28 : decode cX1_init 28 = .ok (.putfield 24, 3) := by decide +kernel
theorem dX1_init_31 : decode cX1_init 31 = .ok (.aload_n 0, 1) := by decide +kernel
theorem dX1_init_32 : decode cX1_init 32 = .ok (.iconst 0, 1) := by decide +kernel
theorem dX1_init_33 : decode cX1_init 33 = .ok (.putfield 28, 3) := by decide +kernel
theorem dX1_init_36 : decode cX1_init 36 = .ok (.aload_n 0, 1) := by decide +kernel
theorem dX1_init_37 : decode cX1_init 37 = .ok (.iconst 0, 1) := by decide +kernel
theorem dX1_init_38 : decode cX1_init 38 = .ok (.putfield 32, 3) := by decide +kernel
theorem dX1_init_41 : decode cX1_init 41 = .ok (.aload_n 0, 1) := by decide +kernel
theorem dX1_init_42 : decode cX1_init 42 = .ok (.iconst 0, 1) := by decide +kernel
theorem dX1_init_43 : decode cX1_init 43 = .ok (.putfield 35, 3) := by decide +kernel
theorem dX1_init_46 : decode cX1_init 46 = .ok (.iconst 0, 1) := by decide +kernel
theorem dX1_init_47 : decode cX1_init 47 = .ok (.istore_n 1, 1) := by decide +kernel
theorem dX1_init_48 : decode cX1_init 48 = .ok (.iload_n 1, 1) := by decide +kernel
theorem dX1_init_49 : decode cX1_init 49 = .ok (.bipush 8, 2) := by decide +kernel
theorem dX1_init_51 : decode cX1_init 51 = .ok (.if_icmp .ge 22, 3) := by decide +kernel
theorem dX1_init_54 : decode cX1_init 54 = .ok (.aload_n 0, 1) := by decide +kernel
theorem dX1_init_55 : decode cX1_init 55 = .ok (.getfield 11, 3) := by decide +kernel
theorem dX1_init_58 : decode cX1_init 58 = .ok (.iload_n 1, 1) := by decide +kernel
theorem dX1_init_59 : decode cX1_init 59 = .ok (.new 9, 3) := by decide +kernel
theorem dX1_init_62 : decode cX1_init 62 = .ok (.dup, 1) := by decide +kernel
theorem dX1_init_63 : decode cX1_init 63 = .ok (.invokespecial 38, 3) := by decide +kernel
theorem dX1_init_66 : decode cX1_init 66 = .ok (.aastore, 1) := by decide +kernel
theorem dX1_init_67 : decode cX1_init 67 = .ok (.iinc 1 1, 3) := by decide +kernel
theorem dX1_init_70 : decode cX1_init 70 = .ok (.goto (-22), 3) := by decide +kernel
theorem dX1_init_73 : decode cX1_init 73 = .ok (.iconst 0, 1) := by decide +kernel
theorem dX1_init_74 : decode cX1_init 74 = .ok (.istore_n 1, 1) := by decide +kernel
theorem dX1_init_75 : decode cX1_init 75 = .ok (.iload_n 1, 1) := by decide +kernel
theorem dX1_init_76 : decode cX1_init 76 = .ok (.iconst 5, 1) := by decide +kernel
theorem dX1_init_77 : decode cX1_init 77 = .ok (.if_icmp .ge 20, 3) := by decide +kernel
theorem dX1_init_80 : decode cX1_init 80 = .ok (.aload_n 0, 1) := by decide +kernel
theorem dX1_init_81 : decode cX1_init 81 = .ok (.getfield 17, 3) := by decide +kernel
theorem dX1_init_84 : decode cX1_init 84 = .ok (.iload_n 1, 1) := by decide +kernel
theorem dX1_init_85 : decode cX1_init 85 = .ok (.getstatic 39, 3) := by decide +kernel
theorem dX1_init_88 : decode cX1_init 88 = .ok (.iload_n 1, 1) := by decide +kernel
theorem dX1_init_89 : decode cX1_init 89 = .ok (.iaload, 1) := by decide +kernel
theorem dX1_init_90 : decode cX1_init 90 = .ok (.iastore, 1) := by decide +kernel
theorem dX1_init_91 : decode cX1_init 91 = .ok (.iinc 1 1, 3) := by decide +kernel
theorem dX1_init_94 : decode cX1_init 94 = .ok (.goto (-19), 3) := by decide +kernel
theorem dX1_init_97 : decode cX1_init 97 = .ok (.return_, 1) := by decide +kernel
theorem dX1_takeOver_0 : decode cX1_takeOver 0 = .ok (.iconst 0, 1) := by decide +kernel
theorem dX1_takeOver_1 : decode cX1_takeOver 1 = .ok (.istore_n 2, 1) := by decide +kernel
theorem dX1_takeOver_2 : decode cX1_takeOver 2 = .ok (.iload_n 2, 1) := by decide +kernel
theorem dX1_takeOver_3 : decode cX1_takeOver 3 = .ok (.aload_n 1, 1) := by decide +kernel
theorem dX1_takeOver_4 : decode cX1_takeOver 4 = .ok (.getfield 28, 3) := by decide +kernel
theorem dX1_takeOver_7 : decode cX1_takeOver 7 = .ok (.if_icmp .ge 24, 3) := by decide +kernel
theorem dX1_takeOver_10 : decode cX1_takeOver 10 = .ok (.aload_n 0, 1) := by decide +kernel
theorem dX1_takeOver_11 : decode cX1_takeOver 11 = .ok (.getfield 11, 3) := by decide +kernel
theorem dX1_takeOver_14 : decode cX1_takeOver 14 = .ok (.iload_n 2, 1) := by decide +kernel
theorem dX1_takeOver_15 : decode cX1_takeOver 15 = .ok (.aaload, 1) := by decide +kernel
theorem dX1_takeOver_16 : decode cX1_takeOver 16 = .ok (.aload_n 1, 1) := by decide +kernel
theorem dX1_takeOver_17 : decode cX1_takeOver 17 = .ok (.getfield 11, 3) := by decide +kernel
theorem dX1_takeOver_20 : decode cX1_takeOver 20 = .ok (.iload_n 2, 1) := by decide +kernel
theorem dX1_takeOver_21 : decode cX1_takeOver 21 = .ok (.aaload, 1) := by decide +kernel
theorem dX1_takeOver_22 : decode cX1_takeOver 22 = .ok (.invokevirtual 42, 3) := by decide +kernel
theorem dX1_takeOver_25 : decode cX1_takeOver 25 = .ok (.iinc 2 1, 3) := by decide +kernel
theorem dX1_takeOver_28 : decode cX1_takeOver 28 = .ok (.goto (-26), 3) := by decide +kernel
theorem dX1_takeOver_31 : decode cX1_takeOver 31 = .ok (.aload_n 1, 1) := by decide +kernel
theorem dX1_takeOver_32 : decode cX1_takeOver 32 = .ok (.getfield 17, 3) := by decide +kernel
theorem dX1_takeOver_35 : decode cX1_takeOver 35 = .ok (.iconst 0, 1) := by decide +kernel
theorem dX1_takeOver_36 : decode cX1_takeOver 36 = .ok (.aload_n 0, 1) := by decide +kernel
theorem dX1_takeOver_37 : decode cX1_takeOver 37 = .ok (.getfield 17, 3) := by decide +kernel
theorem dX1_takeOver_40 : decode cX1_takeOver 40 = .ok (.iconst 0, 1) := by decide +kernel
theorem dX1_takeOver_41 : decode cX1_takeOver 41 = .ok (.iconst 5, 1) := by decide +kernel
theorem dX1_takeOver_42 : decode cX1_takeOver 42 = .ok (.invokestatic 46, 3) := by decide +kernel
theorem dX1_takeOver_45 : decode cX1_takeOver 45 = .ok (.aload_n 0, 1) := by decide +kernel
theorem dX1_takeOver_46 : decode cX1_takeOver 46 = .ok (.getfield 24, 3) := by decide +kernel
theorem dX1_takeOver_49 : decode cX1_takeOver 49 = .ok (.aload_n 1, 1) := by decide +kernel
theorem dX1_takeOver_50 : decode cX1_takeOver 50 = .ok (.getfield 24, 3) := by decide +kernel
theorem dX1_takeOver_53 : decode cX1_takeOver 53 = .ok (.invokevirtual 52, 3) := by decide +kernel
theorem dX1_takeOver_56 : decode cX1_takeOver 56 = .ok (.aload_n 0, 1) := by decide +kernel
theorem dX1_takeOver_57 : decode cX1_takeOver 57 = .ok (.aload_n 1, 1) := by decide +kernel
theorem dX1_takeOver_58 : decode cX1_takeOver 58 = .ok (.getfield 28, 3) := by decide +kernel
theorem dX1_takeOver_61 : decode cX1_takeOver 61 = .ok (.putfield 28, 3) := by decide +kernel
theorem dX1_takeOver_64 : decode cX1_takeOver 64 = .ok (.aload_n 0, 1) := by decide +kernel
theorem dX1_takeOver_65 : decode cX1_takeOver 65 = .ok (.aload_n 1, 1) := by decide +kernel
theorem dX1_takeOver_66 : decode cX1_takeOver 66 = .ok (.getfield 32, 3) := by decide +kernel
theorem dX1_takeOver_69 : decode cX1_takeOver 69 = .ok (.putfield 32, 3) := by decide +kernel
theorem dX1_takeOver_72 : decode cX1_takeOver 72 = .ok (.aload_n 0, 1) := by decide +kernel
theorem dX1_takeOver_73 : decode cX1_takeOver 73 = .ok (.aload_n 1, 1) := by decide +kernel
theorem dX1_takeOver_74 : decode cX1_takeOver 74 = .ok (.getfield 35, 3) := by decide +kernel
theorem dX1_takeOver_77 : decode cX1_takeOver 77 = .ok (.putfield 35, 3) := by decide +kernel
theorem dX1_takeOver_80 : decode cX1_takeOver 80 = .ok (.return_, 1) := by decide +kernel
theorem dX1_changeSetting_0 : decode cX1_changeSetting 0 = .ok (.aload_n 0, 1) := by decide +kernel
theorem dX1_changeSetting_1 : decode cX1_changeSetting 1 = .ok (.getfield 17, 3) := by decide +kernel
theorem dX1_changeSetting_4 : decode cX1_changeSetting 4 = .ok (.iload_n 1, 1) := by decide +kernel
theorem dX1_changeSetting_5 : decode cX1_changeSetting 5 = .ok (.iaload, 1) := by decide +kernel
theorem dX1_changeSetting_6 : decode cX1_changeSetting 6 = .ok (.istore_n 3, 1) := by decide +kernel
theorem dX1_changeSetting_7 : decode cX1_changeSetting 7 = .ok (.aload_n 0, 1) := by decide +kernel
theorem dX1_changeSetting_8 : decode cX1_changeSetting 8 = .ok (.getfield 17, 3) := by decide +kernel
theorem dX1_changeSetting_11 : decode cX1_changeSetting 11 = .ok (.iload_n 1, 1) := by decide +kernel
theorem dX1_changeSetting_12 : decode cX1_changeSetting 12 = .ok (.iload_n 2, 1) := by decide +kernel
theorem dX1_changeSetting_13 : decode cX1_changeSetting 13 = .ok (.iastore, 1) := by decide +kernel
theorem dX1_changeSetting_14 : decode cX1_changeSetting 14 = .ok (.iload_n 3, 1) := by decide +kernel
theorem dX1_changeSetting_15 : decode cX1_changeSetting 15 = .ok (.ireturn, 1) := by decide +kernel
theorem dX1_hasCoil_0 : decode cX1_hasCoil 0 = .ok (.iload_n 1, 1) := by decide +kernel
theorem dX1_hasCoil_1 : decode cX1_hasCoil 1 = .ok (.ifCond .lt 15, 3) := by decide +kernel
theorem dX1_hasCoil_4 : decode cX1_hasCoil 4 = .ok (.iload_n 1, 1) := by decide +kernel
theorem dX1_hasCoil_5 : decode cX1_hasCoil 5 = .ok (.aload_n 0, 1) := by decide +kernel
theorem dX1_hasCoil_6 : decode cX1_hasCoil 6 = .ok (.getfield 28, 3) := by decide +kernel
theorem dX1_hasCoil_9 : decode cX1_hasCoil 9 = .ok (.if_icmp .ge 7, 3) := by decide +kernel
theorem dX1_hasCoil_12 : decode cX1_hasCoil 12 = .ok (.iconst 1, 1) := by decide +kernel
theorem dX1_hasCoil_13 : decode cX1_hasCoil 13 = .ok (.goto 4, 3) := by decide +kernel
theorem dX1_hasCoil_16 : decode cX1_hasCoil 16 = .ok (.iconst 0, 1) := by decide +kernel
theorem dX1_hasCoil_17 : decode cX1_hasCoil 17 = .ok (.ireturn, 1) := by decide +kernel
theorem dX1_hasRoomForCoil_0 : decode cX1_hasRoomForCoil 0 = .ok (.aload_n 0, 1) := by decide +kernel
theorem dX1_hasRoomForCoil_1 : decode cX1_hasRoomForCoil 1 = .ok (.getfield 28, 3) := by decide +kernel
theorem dX1_hasRoomForCoil_4 : decode cX1_hasRoomForCoil 4 = .ok (.bipush 8, 2) := by decide +kernel
theorem dX1_hasRoomForCoil_6 : decode cX1_hasRoomForCoil 6 = .ok (.if_icmp .ge 7, 3) := by decide +kernel
theorem dX1_hasRoomForCoil_9 : decode cX1_hasRoomForCoil 9 = .ok (.iconst 1, 1) := by decide +kernel
theorem dX1_hasRoomForCoil_10 : decode cX1_hasRoomForCoil 10 = .ok (.goto 4, 3) := by decide +kernel
theorem dX1_hasRoomForCoil_13 : decode cX1_hasRoomForCoil 13 = .ok (.iconst 0, 1) := by decide +kernel
theorem dX1_hasRoomForCoil_14 : decode cX1_hasRoomForCoil 14 = .ok (.ireturn, 1) := by decide +kernel
theorem dX1_newCoil_0 : decode cX1_newCoil 0 = .ok (.aload_n 0, 1) := by decide +kernel
theorem dX1_newCoil_1 : decode cX1_newCoil 1 = .ok (.getfield 11, 3) := by decide +kernel
theorem dX1_newCoil_4 : decode cX1_newCoil 4 = .ok (.aload_n 0, 1) := by decide +kernel
theorem dX1_newCoil_5 : decode cX1_newCoil 5 = .ok (.getfield 28, 3) := by decide +kernel
theorem dX1_newCoil_8 : decode cX1_newCoil 8 = .ok (.aaload, 1) := by decide +kernel
theorem dX1_newCoil_9 : decode cX1_newCoil 9 = .ok (.iload_n 1, 1) := by decide +kernel
theorem dX1_newCoil_10 : decode cX1_newCoil 10 = .ok (.iload_n 2, 1) := by decide +kernel
theorem dX1_newCoil_11 : decode cX1_newCoil 11 = .ok (.iload_n 3, 1) := by decide +kernel
theorem dX1_newCoil_12 : decode cX1_newCoil 12 = .ok (.invokevirtual 55, 3) := by decide +kernel
theorem dX1_newCoil_15 : decode cX1_newCoil 15 = .ok (.aload_n 0, 1) := by decide +kernel
theorem dX1_newCoil_16 : decode cX1_newCoil 16 = .ok (.dup, 1) := by decide +kernel
theorem dX1_newCoil_17 : decode cX1_newCoil 17 = .ok (.getfield 28, 3) := by decide +kernel
theorem dX1_newCoil_20 : decode cX1_newCoil 20 = .ok (.iconst 1, 1) := by decide +kernel
theorem dX1_newCoil_21 : decode cX1_newCoil 21 = .ok (.iadd, 1) := by decide +kernel
theorem dX1_newCoil_22 : decode cX1_newCoil 22 = .ok (.putfield 28, 3) := by decide +kernel
theorem dX1_newCoil_25 : decode cX1_newCoil 25 = .ok (.aload_n 0, 1) := by decide +kernel
theorem dX1_newCoil_26 : decode cX1_newCoil 26 = .ok (.getfield 28, 3) := by decide +kernel
theorem dX1_newCoil_29 : decode cX1_newCoil 29 = .ok (.iconst 1, 1) := by decide +kernel
theorem dX1_newCoil_30 : decode cX1_newCoil 30 = .ok (.isub, 1) := by decide +kernel
theorem dX1_newCoil_31 : decode cX1_newCoil 31 = .ok (.ireturn, 1) := by decide +kernel
theorem dX1_hasRoomForGoods_0 : decode cX1_hasRoomForGoods 0 = .ok (.aload_n 0, 1) := by decide +kernel
theorem dX1_hasRoomForGoods_1 : decode cX1_hasRoomForGoods 1 = .ok (.getfield 11, 3) := by decide +kernel
theorem dX1_hasRoomForGoods_4 : decode cX1_hasRoomForGoods 4 = .ok (.iload_n 1, 1) := by decide +kernel
theorem dX1_hasRoomForGoods_5 : decode cX1_hasRoomForGoods 5 = .ok (.aaload, 1) := by decide +kernel
theorem dX1_hasRoomForGoods_6 : decode cX1_hasRoomForGoods 6 = .ok (.getfield 59, 3) := by decide +kernel
theorem dX1_hasRoomForGoods_9 : decode cX1_hasRoomForGoods 9 = .ok (.iload_n 2, 1) := by decide +kernel
theorem dX1_hasRoomForGoods_10 : decode cX1_hasRoomForGoods 10 = .ok (.iadd, 1) := by decide +kernel
theorem dX1_hasRoomForGoods_11 : decode cX1_hasRoomForGoods 11 = .ok (.bipush 20, 2) := by decide +kernel
theorem dX1_hasRoomForGoods_13 : decode cX1_hasRoomForGoods 13 = .ok (.if_icmp .gt 7, 3) := by decide +kernel
theorem dX1_hasRoomForGoods_16 : decode cX1_hasRoomForGoods 16 = .ok (.iconst 1, 1) := by decide +kernel
theorem dX1_hasRoomForGoods_17 : decode cX1_hasRoomForGoods 17 = .ok (.goto 4, 3) := by decide +kernel
theorem dX1_hasRoomForGoods_20 : decode cX1_hasRoomForGoods 20 = .ok (.iconst 0, 1) := by decide +kernel
theorem dX1_hasRoomForGoods_21 : decode cX1_hasRoomForGoods 21 = .ok (.ireturn, 1) := by decide +kernel
theorem dX1_addGoods_0 : decode cX1_addGoods 0 = .ok (.aload_n 0, 1) := by decide +kernel
theorem dX1_addGoods_1 : decode cX1_addGoods 1 = .ok (.getfield 11, 3) := by decide +kernel
theorem dX1_addGoods_4 : decode cX1_addGoods 4 = .ok (.iload_n 1, 1) := by decide +kernel
theorem dX1_addGoods_5 : decode cX1_addGoods 5 = .ok (.aaload, 1) := by decide +kernel
theorem dX1_addGoods_6 : decode cX1_addGoods 6 = .ok (.dup, 1) := by decide +kernel
theorem dX1_addGoods_7 : decode cX1_addGoods 7 = .ok (.getfield 59, 3) := by decide +kernel
theorem dX1_addGoods_10 : decode cX1_addGoods 10 = .ok (.iload_n 2, 1) := by decide +kernel
theorem dX1_addGoods_11 : decode cX1_addGoods 11 = .ok (.iadd, 1) := by decide +kernel
theorem dX1_addGoods_12 : decode cX1_addGoods 12 = .ok (.putfield 59, 3) := by decide +kernel
theorem dX1_addGoods_15 : decode cX1_addGoods 15 = .ok (.aload_n 0, 1) := by decide +kernel
theorem dX1_addGoods_16 : decode cX1_addGoods 16 = .ok (.getfield 11, 3) := by decide +kernel
theorem dX1_addGoods_19 : decode cX1_addGoods 19 = .ok (.iload_n 1, 1) := by decide +kernel
theorem dX1_addGoods_20 : decode cX1_addGoods 20 = .ok (.aaload, 1) := by decide +kernel
theorem dX1_addGoods_21 : decode cX1_addGoods 21 = .ok (.getfield 59, 3) := by decide +kernel
theorem dX1_addGoods_24 : decode cX1_addGoods 24 = .ok (.ireturn, 1) := by decide +kernel
theorem dX1_lookAt_0 : decode cX1_lookAt 0 = .ok (.aload_n 0, 1) := by decide +kernel
theorem dX1_lookAt_1 : decode cX1_lookAt 1 = .ok (.getfield 11, 3) := by decide +kernel
theorem dX1_lookAt_4 : decode cX1_lookAt 4 = .ok (.iload_n 1, 1) := by decide +kernel
theorem dX1_lookAt_5 : decode cX1_lookAt 5 = .ok (.aaload, 1) := by decide +kernel
theorem dX1_lookAt_6 : decode cX1_lookAt 6 = .ok (.aload_n 0, 1) := by decide +kernel
theorem dX1_lookAt_7 : decode cX1_lookAt 7 = .ok (.getfield 11, 3) := by decide +kernel
theorem dX1_lookAt_10 : decode cX1_lookAt 10 = .ok (.iload_n 1, 1) := by decide +kernel
theorem dX1_lookAt_11 : decode cX1_lookAt 11 = .ok (.aaload, 1) := by decide +kernel
theorem dX1_lookAt_12 : decode cX1_lookAt 12 = .ok (.getfield 62, 3) := by decide +kernel
theorem dX1_lookAt_15 : decode cX1_lookAt 15 = .ok (.ldc 66, 2) := by decide +kernel
theorem dX1_lookAt_17 : decode cX1_lookAt 17 = .ok (.fadd, 1) := by decide +kernel
theorem dX1_lookAt_18 : decode cX1_lookAt 18 = .ok (.putfield 62, 3) := by decide +kernel
theorem dX1_lookAt_21 : decode cX1_lookAt 21 = .ok (.aload_n 0, 1) := by decide +kernel
theorem dX1_lookAt_22 : decode cX1_lookAt 22 = .ok (.getfield 11, 3) := by decide +kernel
theorem dX1_lookAt_25 : decode cX1_lookAt 25 = .ok (.iload_n 1, 1) := by decide +kernel
theorem dX1_lookAt_26 : decode cX1_lookAt 26 = .ok (.aaload, 1) := by decide +kernel
theorem dX1_lookAt_27 : decode cX1_lookAt 27 = .ok (.getfield 67, 3) := by decide +kernel
theorem dX1_lookAt_30 : decode cX1_lookAt 30 = .ok (.ireturn, 1) := by decide +kernel
theorem dX1_canSell_0 : decode cX1_canSell 0 = .ok (.aload_n 2, 1) := by decide +kernel
theorem dX1_canSell_1 : decode cX1_canSell 1 = .ok (.invokestatic 70, 3) := by decide +kernel
theorem dX1_canSell_4 : decode cX1_canSell 4 = .ok (.aload_n 0, 1) := by decide +kernel
theorem dX1_canSell_5 : decode cX1_canSell 5 = .ok (.getfield 11, 3) := by decide +kernel
theorem dX1_canSell_8 : decode cX1_canSell 8 = .ok (.iload_n 1, 1) := by decide +kernel
theorem dX1_canSell_9 : decode cX1_canSell 9 = .ok (.aaload, 1) := by decide +kernel
theorem dX1_canSell_10 : decode cX1_canSell 10 = .ok (.getfield 67, 3) := by decide +kernel
theorem dX1_canSell_13 : decode cX1_canSell 13 = .ok (.isub, 1) := by decide +kernel
theorem dX1_canSell_14 : decode cX1_canSell 14 = .ok (.istore_n 3, 1) := by decide +kernel
theorem dX1_canSell_15 : decode cX1_canSell 15 = .ok (.aload_n 0, 1) := by decide +kernel
theorem dX1_canSell_16 : decode cX1_canSell 16 = .ok (.getfield 11, 3) := by decide +kernel
theorem dX1_canSell_19 : decode cX1_canSell 19 = .ok (.iload_n 1, 1) := by decide +kernel
theorem dX1_canSell_20 : decode cX1_canSell 20 = .ok (.aaload, 1) := by decide +kernel
theorem dX1_canSell_21 : decode cX1_canSell 21 = .ok (.getfield 59, 3) := by decide +kernel
theorem dX1_canSell_24 : decode cX1_canSell 24 = .ok (.iconst 1, 1) := by decide +kernel
theorem dX1_canSell_25 : decode cX1_canSell 25 = .ok (.if_icmp .lt 7, 3) := by decide +kernel
theorem dX1_canSell_28 : decode cX1_canSell 28 = .ok (.iload_n 3, 1) := by decide +kernel
theorem dX1_canSell_29 : decode cX1_canSell 29 = .ok (.ifCond .ge 5, 3) := by decide +kernel
theorem dX1_canSell_32 : decode cX1_canSell 32 = .ok (.iconst 0, 1) := by decide +kernel
theorem dX1_canSell_33 : decode cX1_canSell 33 = .ok (.ireturn, 1) := by decide +kernel
theorem dX1_canSell_34 : decode cX1_canSell 34 = .ok (.aload_n 0, 1) := by decide +kernel
theorem dX1_canSell_35 : decode cX1_canSell 35 = .ok (.getfield 24, 3) := by decide +kernel
theorem dX1_canSell_38 : decode cX1_canSell 38 = .ok (.aload_n 2, 1) := by decide +kernel
theorem dX1_canSell_39 : decode cX1_canSell 39 = .ok (.iload_n 3, 1) := by decide +kernel
theorem dX1_canSell_40 : decode cX1_canSell 40 = .ok (.invokevirtual 74, 3) := by decide +kernel
theorem dX1_canSell_43 : decode cX1_canSell 43 = .ok (.ifCond .ne 21, 3) := by decide +kernel
theorem dX1_canSell_46 : decode cX1_canSell 46 = .ok (.aload_n 0, 1) := by decide +kernel
theorem dX1_canSell_47 : decode cX1_canSell 47 = .ok (.getfield 24, 3) := by decide +kernel
theorem dX1_canSell_50 : decode cX1_canSell 50 = .ok (.getfield 78, 3) := by decide +kernel
theorem dX1_canSell_53 : decode cX1_canSell 53 = .ok (.iload_n 3, 1) := by decide +kernel
theorem dX1_canSell_54 : decode cX1_canSell 54 = .ok (.iadd, 1) := by decide +kernel
theorem dX1_canSell_55 : decode cX1_canSell 55 = .ok (.aload_n 0, 1) := by decide +kernel
theorem dX1_canSell_56 : decode cX1_canSell 56 = .ok (.getfield 17, 3) := by decide +kernel
theorem dX1_canSell_59 : decode cX1_canSell 59 = .ok (.iconst 3, 1) := by decide +kernel
theorem dX1_canSell_60 : decode cX1_canSell 60 = .ok (.iaload, 1) := by decide +kernel
theorem dX1_canSell_61 : decode cX1_canSell 61 = .ok (.if_icmp .gt 7, 3) := by decide +kernel
theorem dX1_canSell_64 : decode cX1_canSell 64 = .ok (.iconst 1, 1) := by decide +kernel
theorem dX1_canSell_65 : decode cX1_canSell 65 = .ok (.goto 4, 3) := by decide +kernel
theorem dX1_canSell_68 : decode cX1_canSell 68 = .ok (.iconst 0, 1) := by decide +kernel
theorem dX1_canSell_69 : decode cX1_canSell 69 = .ok (.ireturn, 1) := by decide +kernel
theorem dX1_sell_0 : decode cX1_sell 0 = .ok (.aload_n 2, 1) := by decide +kernel
theorem dX1_sell_1 : decode cX1_sell 1 = .ok (.invokestatic 70, 3) := by decide +kernel
theorem dX1_sell_4 : decode cX1_sell 4 = .ok (.aload_n 0, 1) := by decide +kernel
theorem dX1_sell_5 : decode cX1_sell 5 = .ok (.getfield 11, 3) := by decide +kernel
theorem dX1_sell_8 : decode cX1_sell 8 = .ok (.iload_n 1, 1) := by decide +kernel
theorem dX1_sell_9 : decode cX1_sell 9 = .ok (.aaload, 1) := by decide +kernel
theorem dX1_sell_10 : decode cX1_sell 10 = .ok (.getfield 67, 3) := by decide +kernel
theorem dX1_sell_13 : decode cX1_sell 13 = .ok (.isub, 1) := by decide +kernel
theorem dX1_sell_14 : decode cX1_sell 14 = .ok (.istore_n 3, 1) := by decide +kernel
theorem dX1_sell_15 : decode cX1_sell 15 = .ok (.aload_n 0, 1) := by decide +kernel
theorem dX1_sell_16 : decode cX1_sell 16 = .ok (.getfield 11, 3) := by decide +kernel
theorem dX1_sell_19 : decode cX1_sell 19 = .ok (.iload_n 1, 1) := by decide +kernel
theorem dX1_sell_20 : decode cX1_sell 20 = .ok (.aaload, 1) := by decide +kernel
theorem dX1_sell_21 : decode cX1_sell 21 = .ok (.invokevirtual 81, 3) := by decide +kernel
theorem dX1_sell_24 : decode cX1_sell 24 = .ok (.aload_n 0, 1) := by decide +kernel
theorem dX1_sell_25 : decode cX1_sell 25 = .ok (.getfield 24, 3) := by decide +kernel
theorem dX1_sell_28 : decode cX1_sell 28 = .ok (.aload_n 2, 1) := by decide +kernel
theorem dX1_sell_29 : decode cX1_sell 29 = .ok (.invokevirtual 84, 3) := by decide +kernel
theorem dX1_sell_32 : decode cX1_sell 32 = .ok (.aload_n 0, 1) := by decide +kernel
theorem dX1_sell_33 : decode cX1_sell 33 = .ok (.getfield 24, 3) := by decide +kernel
theorem dX1_sell_36 : decode cX1_sell 36 = .ok (.iload_n 3, 1) := by decide +kernel
theorem dX1_sell_37 : decode cX1_sell 37 = .ok (.invokevirtual 88, 3) := by decide +kernel
theorem dX1_sell_40 : decode cX1_sell 40 = .ok (.istore 4, 2) := by decide +kernel
theorem dX1_sell_42 : decode cX1_sell 42 = .ok (.iload 4, 2) := by decide +kernel
theorem dX1_sell_44 : decode cX1_sell 44 = .ok (.ifCond .eq 13, 3) := by decide +kernel
theorem dX1_sell_47 : decode cX1_sell 47 = .ok (.aload_n 0, 1) := by decide +kernel
theorem dX1_sell_48 : decode cX1_sell 48 = .ok (.getfield 24, 3) := by decide +kernel
theorem dX1_sell_51 : decode cX1_sell 51 = .ok (.invokevirtual 92, 3) := by decide +kernel
theorem dX1_sell_54 : decode cX1_sell 54 = .ok (.goto 11, 3) := by decide +kernel
theorem dX1_sell_57 : decode cX1_sell 57 = .ok (.aload_n 0, 1) := by decide +kernel
theorem dX1_sell_58 : decode cX1_sell 58 = .ok (.getfield 24, 3) := by decide +kernel
theorem dX1_sell_61 : decode cX1_sell 61 = .ok (.iload_n 3, 1) := by decide +kernel
theorem dX1_sell_62 : decode cX1_sell 62 = .ok (.invokevirtual 95, 3) := by decide +kernel
theorem dX1_sell_65 : decode cX1_sell 65 = .ok (.aload_n 0, 1) := by decide +kernel
theorem dX1_sell_66 : decode cX1_sell 66 = .ok (.getfield 24, 3) := by decide +kernel
theorem dX1_sell_69 : decode cX1_sell 69 = .ok (.invokevirtual 99, 3) := by decide +kernel
theorem dX1_sell_72 : decode cX1_sell 72 = .ok (.iload 4, 2) := by decide +kernel
theorem dX1_sell_74 : decode cX1_sell 74 = .ok (.ifCond .eq 7, 3) := by decide +kernel
theorem dX1_sell_77 : decode cX1_sell 77 = .ok (.iload_n 3, 1) := by decide +kernel
theorem dX1_sell_78 : decode cX1_sell 78 = .ok (.goto 7, 3) := by decide +kernel
theorem dX1_sell_81 : decode cX1_sell 81 = .ok (.bipush (-10), 2) := by decide +kernel
theorem dX1_sell_83 : decode cX1_sell 83 = .ok (.iload_n 3, 1) := by decide +kernel
theorem dX1_sell_84 : decode cX1_sell 84 = .ok (.isub, 1) := by decide +kernel
theorem dX1_sell_85 : decode cX1_sell 85 = .ok (.ireturn, 1) := by decide +kernel
theorem dX1_hasTimeFor_0 : decode cX1_hasTimeFor 0 = .ok (.aload_n 0, 1) := by decide +kernel
theorem dX1_hasTimeFor_1 : decode cX1_hasTimeFor 1 = .ok (.getfield 32, 3) := by decide +kernel
theorem dX1_hasTimeFor_4 : decode cX1_hasTimeFor 4 = .ok (.iload_n 1, 1) := by decide +kernel
theorem dX1_hasTimeFor_5 : decode cX1_hasTimeFor 5 = .ok (.iadd, 1) := by decide +kernel
theorem dX1_hasTimeFor_6 : decode cX1_hasTimeFor 6 = .ok (.ldc 102, 2) := by decide +kernel
theorem dX1_hasTimeFor_8 : decode cX1_hasTimeFor 8 = .ok (.if_icmp .gt 7, 3) := by decide +kernel
theorem dX1_hasTimeFor_11 : decode cX1_hasTimeFor 11 = .ok (.iconst 1, 1) := by decide +kernel
theorem dX1_hasTimeFor_12 : decode cX1_hasTimeFor 12 = .ok (.goto 4, 3) := by decide +kernel
theorem dX1_hasTimeFor_15 : decode cX1_hasTimeFor 15 = .ok (.iconst 0, 1) := by decide +kernel
theorem dX1_hasTimeFor_16 : decode cX1_hasTimeFor 16 = .ok (.ireturn, 1) := by decide +kernel
theorem dX1_passHours_0 : decode cX1_passHours 0 = .ok (.aload_n 0, 1) := by decide +kernel
theorem dX1_passHours_1 : decode cX1_passHours 1 = .ok (.getfield 35, 3) := by decide +kernel
theorem dX1_passHours_4 : decode cX1_passHours 4 = .ok (.istore_n 2, 1) := by decide +kernel
theorem dX1_passHours_5 : decode cX1_passHours 5 = .ok (.iconst 0, 1) := by decide +kernel
theorem dX1_passHours_6 : decode cX1_passHours 6 = .ok (.istore_n 3, 1) := by decide +kernel
theorem dX1_passHours_7 : decode cX1_passHours 7 = .ok (.iload_n 3, 1) := by decide +kernel
theorem dX1_passHours_8 : decode cX1_passHours 8 = .ok (.iload_n 1, 1) := by decide +kernel
theorem dX1_passHours_9 : decode cX1_passHours 9 = .ok (.if_icmp .ge 13, 3) := by decide +kernel
theorem dX1_passHours_12 : decode cX1_passHours 12 = .ok (.aload_n 0, 1) := by decide +kernel
theorem dX1_passHours_13 : decode cX1_passHours 13 = .ok (.invokevirtual 103, 3) := by decide +kernel
theorem dX1_passHours_16 : decode cX1_passHours 16 = .ok (.iinc 3 1, 3) := by decide +kernel
theorem dX1_passHours_19 : decode cX1_passHours 19 = .ok (.goto (-12), 3) := by decide +kernel
theorem dX1_passHours_22 : decode cX1_passHours 22 = .ok (.aload_n 0, 1) := by decide +kernel
theorem dX1_passHours_23 : decode cX1_passHours 23 = .ok (.getfield 35, 3) := by decide +kernel
theorem dX1_passHours_26 : decode cX1_passHours 26 = .ok (.iload_n 2, 1) := by decide +kernel
theorem dX1_passHours_27 : decode cX1_passHours 27 = .ok (.isub, 1) := by decide +kernel
theorem dX1_passHours_28 : decode cX1_passHours 28 = .ok (.ireturn, 1) := by decide +kernel
theorem dX1_passHour_0 : decode cX1_passHour 0 = .ok (.iconst 0, 1) := by decide +kernel
theorem dX1_passHour_1 : decode cX1_passHour 1 = .ok (.istore_n 1, 1) := by decide +kernel
theorem dX1_passHour_2 : decode cX1_passHour 2 = .ok (.iload_n 1, 1) := by decide +kernel
theorem dX1_passHour_3 : decode cX1_passHour 3 = .ok (.aload_n 0, 1) := by decide +kernel
theorem dX1_passHour_4 : decode cX1_passHour 4 = .ok (.getfield 28, 3) := by decide +kernel
theorem dX1_passHour_7 : decode cX1_passHour 7 = .ok (.if_icmp .ge 30, 3) := by decide +kernel
theorem dX1_passHour_10 : decode cX1_passHour 10 = .ok (.aload_n 0, 1) := by decide +kernel
theorem dX1_passHour_11 : decode cX1_passHour 11 = .ok (.getfield 11, 3) := by decide +kernel
theorem dX1_passHour_14 : decode cX1_passHour 14 = .ok (.iload_n 1, 1) := by decide +kernel
theorem dX1_passHour_15 : decode cX1_passHour 15 = .ok (.aaload, 1) := by decide +kernel
theorem dX1_passHour_16 : decode cX1_passHour 16 = .ok (.aload_n 0, 1) := by decide +kernel
theorem dX1_passHour_17 : decode cX1_passHour 17 = .ok (.getfield 17, 3) := by decide +kernel
theorem dX1_passHour_20 : decode cX1_passHour 20 = .ok (.iconst 0, 1) := by decide +kernel
theorem dX1_passHour_21 : decode cX1_passHour 21 = .ok (.iaload, 1) := by decide +kernel
theorem dX1_passHour_22 : decode cX1_passHour 22 = .ok (.aload_n 0, 1) := by decide +kernel
theorem dX1_passHour_23 : decode cX1_passHour 23 = .ok (.getfield 17, 3) := by decide +kernel
theorem dX1_passHour_26 : decode cX1_passHour 26 = .ok (.iconst 1, 1) := by decide +kernel
theorem dX1_passHour_27 : decode cX1_passHour 27 = .ok (.iaload, 1) := by decide +kernel
theorem dX1_passHour_28 : decode cX1_passHour 28 = .ok (.invokevirtual 106, 3) := by decide +kernel
theorem dX1_passHour_31 : decode cX1_passHour 31 = .ok (.iinc 1 1, 3) := by decide +kernel
theorem dX1_passHour_34 : decode cX1_passHour 34 = .ok (.goto (-32), 3) := by decide +kernel
theorem dX1_passHour_37 : decode cX1_passHour 37 = .ok (.iconst 0, 1) := by decide +kernel
theorem dX1_passHour_38 : decode cX1_passHour 38 = .ok (.istore_n 1, 1) := by decide +kernel
theorem dX1_passHour_39 : decode cX1_passHour 39 = .ok (.iload_n 1, 1) := by decide +kernel
theorem dX1_passHour_40 : decode cX1_passHour 40 = .ok (.aload_n 0, 1) := by decide +kernel
theorem dX1_passHour_41 : decode cX1_passHour 41 = .ok (.getfield 28, 3) := by decide +kernel
theorem dX1_passHour_44 : decode cX1_passHour 44 = .ok (.if_icmp .ge 18, 3) := by decide +kernel
theorem dX1_passHour_47 : decode cX1_passHour 47 = .ok (.aload_n 0, 1) := by decide +kernel
theorem dX1_passHour_48 : decode cX1_passHour 48 = .ok (.getfield 11, 3) := by decide +kernel
theorem dX1_passHour_51 : decode cX1_passHour 51 = .ok (.iload_n 1, 1) := by decide +kernel
theorem dX1_passHour_52 : decode cX1_passHour 52 = .ok (.aaload, 1) := by decide +kernel
theorem dX1_passHour_53 : decode cX1_passHour 53 = .ok (.invokevirtual 110, 3) := by decide +kernel
theorem dX1_passHour_56 : decode cX1_passHour 56 = .ok (.iinc 1 1, 3) := by decide +kernel
theorem dX1_passHour_59 : decode cX1_passHour 59 = .ok (.goto (-20), 3) := by decide +kernel
theorem dX1_passHour_62 : decode cX1_passHour 62 = .ok (.iconst 0, 1) := by decide +kernel
theorem dX1_passHour_63 : decode cX1_passHour 63 = .ok (.istore_n 1, 1) := by decide +kernel
theorem dX1_passHour_64 : decode cX1_passHour 64 = .ok (.iload_n 1, 1) := by decide +kernel
theorem dX1_passHour_65 : decode cX1_passHour 65 = .ok (.iconst 1, 1) := by decide +kernel
theorem dX1_passHour_66 : decode cX1_passHour 66 = .ok (.iadd, 1) := by decide +kernel
theorem dX1_passHour_67 : decode cX1_passHour 67 = .ok (.aload_n 0, 1) := by decide +kernel
theorem dX1_passHour_68 : decode cX1_passHour 68 = .ok (.getfield 28, 3) := by decide +kernel
theorem dX1_passHour_71 : decode cX1_passHour 71 = .ok (.if_icmp .ge 27, 3) := by decide +kernel
theorem dX1_passHour_74 : decode cX1_passHour 74 = .ok (.aload_n 0, 1) := by decide +kernel
theorem dX1_passHour_75 : decode cX1_passHour 75 = .ok (.aload_n 0, 1) := by decide +kernel
theorem dX1_passHour_76 : decode cX1_passHour 76 = .ok (.getfield 11, 3) := by decide +kernel
theorem dX1_passHour_79 : decode cX1_passHour 79 = .ok (.iload_n 1, 1) := by decide +kernel
theorem dX1_passHour_80 : decode cX1_passHour 80 = .ok (.aaload, 1) := by decide +kernel
theorem dX1_passHour_81 : decode cX1_passHour 81 = .ok (.aload_n 0, 1) := by decide +kernel
theorem dX1_passHour_82 : decode cX1_passHour 82 = .ok (.getfield 11, 3) := by decide +kernel
theorem dX1_passHour_85 : decode cX1_passHour 85 = .ok (.iload_n 1, 1) := by decide +kernel
theorem dX1_passHour_86 : decode cX1_passHour 86 = .ok (.iconst 1, 1) := by decide +kernel
theorem dX1_passHour_87 : decode cX1_passHour 87 = .ok (.iadd, 1) := by decide +kernel
theorem dX1_passHour_88 : decode cX1_passHour 88 = .ok (.aaload, 1) := by decide +kernel
theorem dX1_passHour_89 : decode cX1_passHour 89 = .ok (.invokevirtual 113, 3) := by decide +kernel
theorem dX1_passHour_92 : decode cX1_passHour 92 = .ok (.iinc 1 1, 3) := by decide +kernel
theorem dX1_passHour_95 : decode cX1_passHour 95 = .ok (.goto (-31), 3) := by decide +kernel
theorem dX1_passHour_98 : decode cX1_passHour 98 = .ok (.iconst 0, 1) := by decide +kernel
theorem dX1_passHour_99 : decode cX1_passHour 99 = .ok (.istore_n 1, 1) := by decide +kernel
theorem dX1_passHour_100 : decode cX1_passHour 100 = .ok (.iload_n 1, 1) := by decide +kernel
theorem dX1_passHour_101 : decode cX1_passHour 101 = .ok (.aload_n 0, 1) := by decide +kernel
theorem dX1_passHour_102 : decode cX1_passHour 102 = .ok (.getfield 28, 3) := by decide +kernel
theorem dX1_passHour_105 : decode cX1_passHour 105 = .ok (.if_icmp .ge 24, 3) := by decide +kernel
theorem dX1_passHour_108 : decode cX1_passHour 108 = .ok (.aload_n 0, 1) := by decide +kernel
theorem dX1_passHour_109 : decode cX1_passHour 109 = .ok (.getfield 11, 3) := by decide +kernel
theorem dX1_passHour_112 : decode cX1_passHour 112 = .ok (.iload_n 1, 1) := by decide +kernel
theorem dX1_passHour_113 : decode cX1_passHour 113 = .ok (.aaload, 1) := by decide +kernel
theorem dX1_passHour_114 : decode cX1_passHour 114 = .ok (.aload_n 0, 1) := by decide +kernel
theorem dX1_passHour_115 : decode cX1_passHour 115 = .ok (.getfield 17, 3) := by decide +kernel
theorem dX1_passHour_118 : decode cX1_passHour 118 = .ok (.iconst 2, 1) := by decide +kernel
theorem dX1_passHour_119 : decode cX1_passHour 119 = .ok (.iaload, 1) := by decide +kernel
theorem dX1_passHour_120 : decode cX1_passHour 120 = .ok (.invokevirtual 117, 3) := by decide +kernel
theorem dX1_passHour_123 : decode cX1_passHour 123 = .ok (.iinc 1 1, 3) := by decide +kernel
theorem dX1_passHour_126 : decode cX1_passHour 126 = .ok (.goto (-26), 3) := by decide +kernel
theorem dX1_passHour_129 : decode cX1_passHour 129 = .ok (.aload_n 0, 1) := by decide +kernel
theorem dX1_passHour_130 : decode cX1_passHour 130 = .ok (.dup, 1) := by decide +kernel
theorem dX1_passHour_131 : decode cX1_passHour 131 = .ok (.getfield 32, 3) := by decide +kernel
theorem dX1_passHour_134 : decode cX1_passHour 134 = .ok (.iconst 1, 1) := by decide +kernel
theorem dX1_passHour_135 : decode cX1_passHour 135 = .ok (.iadd, 1) := by decide +kernel
theorem dX1_passHour_136 : decode cX1_passHour 136 = .ok (.putfield 32, 3) := by decide +kernel
theorem dX1_passHour_139 : decode cX1_passHour 139 = .ok (.return_, 1) := by decide +kernel
theorem dX1_watch_0 : decode cX1_watch 0 = .ok (.aload_n 1, 1) := by decide +kernel
theorem dX1_watch_1 : decode cX1_watch 1 = .ok (.getfield 120, 3) := by decide +kernel
theorem dX1_watch_4 : decode cX1_watch 4 = .ok (.aload_n 2, 1) := by decide +kernel
theorem dX1_watch_5 : decode cX1_watch 5 = .ok (.getfield 120, 3) := by decide +kernel
theorem dX1_watch_8 : decode cX1_watch 8 = .ok (.if_icmp .eq 4, 3) := by decide +kernel
theorem dX1_watch_11 : decode cX1_watch 11 = .ok (.return_, 1) := by decide +kernel
theorem dX1_watch_12 : decode cX1_watch 12 = .ok (.aload_n 1, 1) := by decide +kernel
theorem dX1_watch_13 : decode cX1_watch 13 = .ok (.aload_n 1, 1) := by decide +kernel
theorem dX1_watch_14 : decode cX1_watch 14 = .ok (.getfield 123, 3) := by decide +kernel
theorem dX1_watch_17 : decode cX1_watch 17 = .ok (.ifCond .eq 19, 3) := by decide +kernel
theorem dX1_watch_20 : decode cX1_watch 20 = .ok (.aload_n 2, 1) := by decide +kernel
theorem dX1_watch_21 : decode cX1_watch 21 = .ok (.getfield 123, 3) := by decide +kernel
theorem dX1_watch_24 : decode cX1_watch 24 = .ok (.ifCond .eq 12, 3) := by decide +kernel
theorem dX1_watch_27 : decode cX1_watch 27 = .ok (.aload_n 1, 1) := by decide +kernel
theorem dX1_watch_28 : decode cX1_watch 28 = .ok (.getfield 127, 3) := by decide +kernel
theorem dX1_watch_31 : decode cX1_watch 31 = .ok (.iconst 1, 1) := by decide +kernel
theorem dX1_watch_32 : decode cX1_watch 32 = .ok (.iadd, 1) := by decide +kernel
theorem dX1_watch_33 : decode cX1_watch 33 = .ok (.goto 4, 3) := by decide +kernel
theorem dX1_watch_36 : decode cX1_watch 36 = .ok (.iconst 0, 1) := by decide +kernel
theorem dX1_watch_37 : decode cX1_watch 37 = .ok (.putfield 127, 3) := by decide +kernel
theorem dX1_watch_40 : decode cX1_watch 40 = .ok (.aload_n 1, 1) := by decide +kernel
theorem dX1_watch_41 : decode cX1_watch 41 = .ok (.getfield 127, 3) := by decide +kernel
theorem dX1_watch_44 : decode cX1_watch 44 = .ok (.iconst 2, 1) := by decide +kernel
theorem dX1_watch_45 : decode cX1_watch 45 = .ok (.if_icmp .ne 38, 3) := by decide +kernel
theorem dX1_watch_48 : decode cX1_watch 48 = .ok (.aload_n 1, 1) := by decide +kernel
theorem dX1_watch_49 : decode cX1_watch 49 = .ok (.aload_n 0, 1) := by decide +kernel
theorem dX1_watch_50 : decode cX1_watch 50 = .ok (.getfield 17, 3) := by decide +kernel
theorem dX1_watch_53 : decode cX1_watch 53 = .ok (.iconst 4, 1) := by decide +kernel
theorem dX1_watch_54 : decode cX1_watch 54 = .ok (.iaload, 1) := by decide +kernel
theorem dX1_watch_55 : decode cX1_watch 55 = .ok (.invokevirtual 130, 3) := by decide +kernel
theorem dX1_watch_58 : decode cX1_watch 58 = .ok (.aload_n 2, 1) := by decide +kernel
theorem dX1_watch_59 : decode cX1_watch 59 = .ok (.aload_n 0, 1) := by decide +kernel
theorem dX1_watch_60 : decode cX1_watch 60 = .ok (.getfield 17, 3) := by decide +kernel
theorem dX1_watch_63 : decode cX1_watch 63 = .ok (.iconst 4, 1) := by decide +kernel
theorem dX1_watch_64 : decode cX1_watch 64 = .ok (.iaload, 1) := by decide +kernel
theorem dX1_watch_65 : decode cX1_watch 65 = .ok (.invokevirtual 130, 3) := by decide +kernel
theorem dX1_watch_68 : decode cX1_watch 68 = .ok (.aload_n 1, 1) := by decide +kernel
theorem dX1_watch_69 : decode cX1_watch 69 = .ok (.iconst 0, 1) := by decide +kernel
theorem dX1_watch_70 : decode cX1_watch 70 = .ok (.putfield 127, 3) := by decide +kernel
theorem dX1_watch_73 : decode cX1_watch 73 = .ok (.aload_n 0, 1) := by decide +kernel
theorem dX1_watch_74 : decode cX1_watch 74 = .ok (.dup, 1) := by decide +kernel
theorem dX1_watch_75 : decode cX1_watch 75 = .ok (.getfield 35, 3) := by decide +kernel
theorem dX1_watch_78 : decode cX1_watch 78 = .ok (.iconst 1, 1) := by decide +kernel
theorem dX1_watch_79 : decode cX1_watch 79 = .ok (.iadd, 1) := by decide +kernel
theorem dX1_watch_80 : decode cX1_watch 80 = .ok (.putfield 35, 3) := by decide +kernel
theorem dX1_watch_83 : decode cX1_watch 83 = .ok (.return_, 1) := by decide +kernel
theorem dX1_number_0 : decode cX1_number 0 = .ok (.iload_n 1, 1) := by decide +kernel
theorem dX1_number_1 : decode cX1_number 1 = .ok (.tableswitch 127 0 9 #[55, 60, 65, 76, 84, 92, 100, 108, 115, 122], 55) := by decide +kernel
theorem dX1_number_56 : decode cX1_number 56 = .ok (.aload_n 0, 1) := by decide +kernel
theorem dX1_number_57 : decode cX1_number 57 = .ok (.getfield 28, 3) := by decide +kernel
theorem dX1_number_60 : decode cX1_number 60 = .ok (.ireturn, 1) := by decide +kernel
theorem dX1_number_61 : decode cX1_number 61 = .ok (.aload_n 0, 1) := by decide +kernel
theorem dX1_number_62 : decode cX1_number 62 = .ok (.getfield 32, 3) := by decide +kernel
theorem dX1_number_65 : decode cX1_number 65 = .ok (.ireturn, 1) := by decide +kernel
theorem dX1_number_66 : decode cX1_number 66 = .ok (.aload_n 0, 1) := by decide +kernel
theorem dX1_number_67 : decode cX1_number 67 = .ok (.getfield 24, 3) := by decide +kernel
theorem dX1_number_70 : decode cX1_number 70 = .ok (.getfield 133, 3) := by decide +kernel
theorem dX1_number_73 : decode cX1_number 73 = .ok (.invokestatic 70, 3) := by decide +kernel
theorem dX1_number_76 : decode cX1_number 76 = .ok (.ireturn, 1) := by decide +kernel
theorem dX1_number_77 : decode cX1_number 77 = .ok (.aload_n 0, 1) := by decide +kernel
theorem dX1_number_78 : decode cX1_number 78 = .ok (.getfield 24, 3) := by decide +kernel
theorem dX1_number_81 : decode cX1_number 81 = .ok (.getfield 136, 3) := by decide +kernel
theorem dX1_number_84 : decode cX1_number 84 = .ok (.ireturn, 1) := by decide +kernel
theorem dX1_number_85 : decode cX1_number 85 = .ok (.aload_n 0, 1) := by decide +kernel
theorem dX1_number_86 : decode cX1_number 86 = .ok (.getfield 24, 3) := by decide +kernel
theorem dX1_number_89 : decode cX1_number 89 = .ok (.getfield 139, 3) := by decide +kernel
theorem dX1_number_92 : decode cX1_number 92 = .ok (.ireturn, 1) := by decide +kernel
theorem dX1_number_93 : decode cX1_number 93 = .ok (.aload_n 0, 1) := by decide +kernel
theorem dX1_number_94 : decode cX1_number 94 = .ok (.getfield 24, 3) := by decide +kernel
theorem dX1_number_97 : decode cX1_number 97 = .ok (.getfield 78, 3) := by decide +kernel
theorem dX1_number_100 : decode cX1_number 100 = .ok (.ireturn, 1) := by decide +kernel
theorem dX1_number_101 : decode cX1_number 101 = .ok (.aload_n 0, 1) := by decide +kernel
theorem dX1_number_102 : decode cX1_number 102 = .ok (.getfield 24, 3) := by decide +kernel
theorem dX1_number_105 : decode cX1_number 105 = .ok (.getfield 142, 3) := by decide +kernel
theorem dX1_number_108 : decode cX1_number 108 = .ok (.ireturn, 1) := by decide +kernel
theorem dX1_number_109 : decode cX1_number 109 = .ok (.aload_n 0, 1) := by decide +kernel
theorem dX1_number_110 : decode cX1_number 110 = .ok (.bipush 6, 2) := by decide +kernel
theorem dX1_number_112 : decode cX1_number 112 = .ok (.invokevirtual 145, 3) := by decide +kernel
theorem dX1_number_115 : decode cX1_number 115 = .ok (.ireturn, 1) := by decide +kernel
theorem dX1_number_116 : decode cX1_number 116 = .ok (.aload_n 0, 1) := by decide +kernel
theorem dX1_number_117 : decode cX1_number 117 = .ok (.bipush 7, 2) := by decide +kernel
theorem dX1_number_119 : decode cX1_number 119 = .ok (.invokevirtual 145, 3) := by decide +kernel
theorem dX1_number_122 : decode cX1_number 122 = .ok (.ireturn, 1) := by decide +kernel
theorem dX1_number_123 : decode cX1_number 123 = .ok (.aload_n 0, 1) := by decide +kernel
theorem dX1_number_124 : decode cX1_number 124 = .ok (.getfield 35, 3) := by decide +kernel
theorem dX1_number_127 : decode cX1_number 127 = .ok (.ireturn, 1) := by decide +kernel
theorem dX1_number_128 : decode cX1_number 128 = .ok (.aload_n 0, 1) := by decide +kernel
theorem dX1_number_129 : decode cX1_number 129 = .ok (.iconst 1, 1) := by decide +kernel
theorem dX1_number_130 : decode cX1_number 130 = .ok (.invokevirtual 145, 3) := by decide +kernel
theorem dX1_number_133 : decode cX1_number 133 = .ok (.ireturn, 1) := by decide +kernel
theorem dX1_sumOfFacts_0 : decode cX1_sumOfFacts 0 = .ok (.iconst 0, 1) := by decide +kernel
theorem dX1_sumOfFacts_1 : decode cX1_sumOfFacts 1 = .ok (.istore_n 2, 1) := by decide +kernel
theorem dX1_sumOfFacts_2 : decode cX1_sumOfFacts 2 = .ok (.iconst 0, 1) := by decide +kernel
theorem dX1_sumOfFacts_3 : decode cX1_sumOfFacts 3 = .ok (.istore_n 3, 1) := by decide +kernel
theorem dX1_sumOfFacts_4 : decode cX1_sumOfFacts 4 = .ok (.iload_n 3, 1) := by decide +kernel
theorem dX1_sumOfFacts_5 : decode cX1_sumOfFacts 5 = .ok (.aload_n 0, 1) := by decide +kernel
theorem dX1_sumOfFacts_6 : decode cX1_sumOfFacts 6 = .ok (.getfield 28, 3) := by decide +kernel
theorem dX1_sumOfFacts_9 : decode cX1_sumOfFacts 9 = .ok (.if_icmp .ge 22, 3) := by decide +kernel
theorem dX1_sumOfFacts_12 : decode cX1_sumOfFacts 12 = .ok (.iload_n 2, 1) := by decide +kernel
theorem dX1_sumOfFacts_13 : decode cX1_sumOfFacts 13 = .ok (.aload_n 0, 1) := by decide +kernel
theorem dX1_sumOfFacts_14 : decode cX1_sumOfFacts 14 = .ok (.getfield 11, 3) := by decide +kernel
theorem dX1_sumOfFacts_17 : decode cX1_sumOfFacts 17 = .ok (.iload_n 3, 1) := by decide +kernel
theorem dX1_sumOfFacts_18 : decode cX1_sumOfFacts 18 = .ok (.aaload, 1) := by decide +kernel
theorem dX1_sumOfFacts_19 : decode cX1_sumOfFacts 19 = .ok (.iload_n 1, 1) := by decide +kernel
theorem dX1_sumOfFacts_20 : decode cX1_sumOfFacts 20 = .ok (.invokevirtual 149, 3) := by decide +kernel
theorem dX1_sumOfFacts_23 : decode cX1_sumOfFacts 23 = .ok (.iadd, 1) := by decide +kernel
theorem dX1_sumOfFacts_24 : decode cX1_sumOfFacts 24 = .ok (.istore_n 2, 1) := by decide +kernel
theorem dX1_sumOfFacts_25 : decode cX1_sumOfFacts 25 = .ok (.iinc 3 1, 3) := by decide +kernel
theorem dX1_sumOfFacts_28 : decode cX1_sumOfFacts 28 = .ok (.goto (-24), 3) := by decide +kernel
theorem dX1_sumOfFacts_31 : decode cX1_sumOfFacts 31 = .ok (.iload_n 2, 1) := by decide +kernel
theorem dX1_sumOfFacts_32 : decode cX1_sumOfFacts 32 = .ok (.ireturn, 1) := by decide +kernel
theorem dX2_init_0 : decode cX2_init 0 = .ok (.aload_n 0, 1) := by decide +kernel
theorem dX2_init_1 : decode cX2_init 1 = .ok (.invokespecial 3, 3) := by decide +kernel
theorem dX2_init_4 : decode cX2_init 4 = .ok (.aload_n 0, 1) := by decide +kernel
theorem dX2_init_5 : decode cX2_init 5 = .ok (.bipush 100, 2) := by decide +kernel
theorem dX2_init_7 : decode cX2_init 7 = .ok (.newarray .int, 2) := by decide +kernel
theorem dX2_init_9 : decode cX2_init 9 = .ok (.putfield 9, 3) := by decide +kernel
theorem dX2_init_12 : decode cX2_init 12 = .ok (.aload_n 0, 1) := by decide +kernel
theorem dX2_init_13 : decode cX2_init 13 = .ok (.iconst 0, 1) := by decide +kernel
theorem dX2_init_14 : decode cX2_init 14 = .ok (.putfield 15, 3) := by decide +kernel
theorem dX2_init_17 : decode cX2_init 17 = .ok (.aload_n 0, 1) := by decide +kernel
theorem dX2_init_18 : decode cX2_init 18 = .ok (.iconst 0, 1) := by decide +kernel
theorem dX2_init_19 : decode cX2_init 19 = .ok (.putfield 19, 3) := by decide +kernel
theorem dX2_init_22 : decode cX2_init 22 = .ok (.aload_n 0, 1) := by decide +kernel
theorem dX2_init_23 : decode cX2_init 23 = .ok (.iconst 0, 1) := by decide +kernel
theorem dX2_init_24 : decode cX2_init 24 = .ok (.putfield 22, 3) := by decide +kernel
theorem dX2_init_27 : decode cX2_init 27 = .ok (.aload_n 0, 1) := by decide +kernel
theorem dX2_init_28 : decode cX2_init 28 = .ok (.iconst 0, 1) := by decide +kernel
theorem dX2_init_29 : decode cX2_init 29 = .ok (.putfield 25, 3) := by decide +kernel
theorem dX2_init_32 : decode cX2_init 32 = .ok (.aload_n 0, 1) := by decide +kernel
theorem dX2_init_33 : decode cX2_init 33 = .ok (.iconst 4, 1) := by decide +kernel
theorem dX2_init_34 : decode cX2_init 34 = .ok (.newarray .int, 2) := by decide +kernel
theorem dX2_init_36 : decode cX2_init 36 = .ok (.putfield 28, 3) := by decide +kernel
theorem dX2_init_39 : decode cX2_init 39 = .ok (.aload_n 0, 1) := by decide +kernel
theorem dX2_init_40 : decode cX2_init 40 = .ok (.iconst 0, 1) := by decide +kernel
theorem dX2_init_41 : decode cX2_init 41 = .ok (.putfield 31, 3) := by decide +kernel
theorem dX2_init_44 : decode cX2_init 44 = .ok (.aload_n 0, 1) := by decide +kernel
theorem dX2_init_45 : decode cX2_init 45 = .ok (.iconst (-1), 1) := by decide +kernel
theorem dX2_init_46 : decode cX2_init 46 = .ok (.putfield 34, 3) := by decide +kernel
theorem dX2_init_49 : decode cX2_init 49 = .ok (.return_, 1) := by decide +kernel
theorem dX2_addByte_0 : decode cX2_addByte 0 = .ok (.aload_n 0, 1) := by decide +kernel
theorem dX2_addByte_1 : decode cX2_addByte 1 = .ok (.getfield 15, 3) := by decide +kernel
theorem dX2_addByte_4 : decode cX2_addByte 4 = .ok (.bipush 100, 2) := by decide +kernel
theorem dX2_addByte_6 : decode cX2_addByte 6 = .ok (.if_icmp .ge 23, 3) := by decide +kernel
theorem dX2_addByte_9 : decode cX2_addByte 9 = .ok (.aload_n 0, 1) := by decide +kernel
theorem dX2_addByte_10 : decode cX2_addByte 10 = .ok (.getfield 9, 3) := by decide +kernel
theorem dX2_addByte_13 : decode cX2_addByte 13 = .ok (.aload_n 0, 1) := by decide +kernel
theorem dX2_addByte_14 : decode cX2_addByte 14 = .ok (.getfield 15, 3) := by decide +kernel
theorem dX2_addByte_17 : decode cX2_addByte 17 = .ok (.iload_n 1, 1) := by decide +kernel
theorem dX2_addByte_18 : decode cX2_addByte 18 = .ok (.iastore, 1) := by decide +kernel
theorem dX2_addByte_19 : decode cX2_addByte 19 = .ok (.aload_n 0, 1) := by decide +kernel
theorem dX2_addByte_20 : decode cX2_addByte 20 = .ok (.dup, 1) := by decide +kernel
theorem dX2_addByte_21 : decode cX2_addByte 21 = .ok (.getfield 15, 3) := by decide +kernel
theorem dX2_addByte_24 : decode cX2_addByte 24 = .ok (.iconst 1, 1) := by decide +kernel
theorem dX2_addByte_25 : decode cX2_addByte 25 = .ok (.iadd, 1) := by decide +kernel
theorem dX2_addByte_26 : decode cX2_addByte 26 = .ok (.putfield 15, 3) := by decide +kernel
theorem dX2_addByte_29 : decode cX2_addByte 29 = .ok (.aload_n 0, 1) := by decide +kernel
theorem dX2_addByte_30 : decode cX2_addByte 30 = .ok (.getfield 15, 3) := by decide +kernel
theorem dX2_addByte_33 : decode cX2_addByte 33 = .ok (.ireturn, 1) := by decide +kernel
theorem dX2_errorPosition_0 : decode cX2_errorPosition 0 = .ok (.aload_n 0, 1) := by decide +kernel
theorem dX2_errorPosition_1 : decode cX2_errorPosition 1 = .ok (.invokevirtual 37, 3) := by decide +kernel
theorem dX2_errorPosition_4 : decode cX2_errorPosition 4 = .ok (.iconst 0, 1) := by decide +kernel
theorem dX2_errorPosition_5 : decode cX2_errorPosition 5 = .ok (.istore_n 1, 1) := by decide +kernel
theorem dX2_errorPosition_6 : decode cX2_errorPosition 6 = .ok (.iload_n 1, 1) := by decide +kernel
theorem dX2_errorPosition_7 : decode cX2_errorPosition 7 = .ok (.bipush 100, 2) := by decide +kernel
theorem dX2_errorPosition_9 : decode cX2_errorPosition 9 = .ok (.if_icmp .ge 16, 3) := by decide +kernel
theorem dX2_errorPosition_12 : decode cX2_errorPosition 12 = .ok (.aload_n 0, 1) := by decide +kernel
theorem dX2_errorPosition_13 : decode cX2_errorPosition 13 = .ok (.invokevirtual 40, 3) := by decide +kernel
theorem dX2_errorPosition_16 : decode cX2_errorPosition 16 = .ok (.ifCond .eq 9, 3) := by decide +kernel
theorem dX2_errorPosition_19 : decode cX2_errorPosition 19 = .ok (.iinc 1 1, 3) := by decide +kernel
theorem dX2_errorPosition_22 : decode cX2_errorPosition 22 = .ok (.goto (-16), 3) := by decide +kernel
theorem dX2_errorPosition_25 : decode cX2_errorPosition 25 = .ok (.aload_n 0, 1) := by decide +kernel
theorem dX2_errorPosition_26 : decode cX2_errorPosition 26 = .ok (.getfield 34, 3) := by decide +kernel
theorem dX2_errorPosition_29 : decode cX2_errorPosition 29 = .ok (.ireturn, 1) := by decide +kernel
theorem dX2_startReading_0 : decode cX2_startReading 0 = .ok (.aload_n 0, 1) := by decide +kernel
theorem dX2_startReading_1 : decode cX2_startReading 1 = .ok (.iconst 0, 1) := by decide +kernel
theorem dX2_startReading_2 : decode cX2_startReading 2 = .ok (.putfield 31, 3) := by decide +kernel
theorem dX2_startReading_5 : decode cX2_startReading 5 = .ok (.aload_n 0, 1) := by decide +kernel
theorem dX2_startReading_6 : decode cX2_startReading 6 = .ok (.iconst (-1), 1) := by decide +kernel
theorem dX2_startReading_7 : decode cX2_startReading 7 = .ok (.putfield 34, 3) := by decide +kernel
theorem dX2_startReading_10 : decode cX2_startReading 10 = .ok (.return_, 1) := by decide +kernel
theorem dX2_readOrder_0 : decode cX2_readOrder 0 = .ok (.aload_n 0, 1) := by decide +kernel
theorem dX2_readOrder_1 : decode cX2_readOrder 1 = .ok (.getfield 31, 3) := by decide +kernel
theorem dX2_readOrder_4 : decode cX2_readOrder 4 = .ok (.aload_n 0, 1) := by decide +kernel
theorem dX2_readOrder_5 : decode cX2_readOrder 5 = .ok (.getfield 15, 3) := by decide +kernel
theorem dX2_readOrder_8 : decode cX2_readOrder 8 = .ok (.if_icmp .ge 11, 3) := by decide +kernel
theorem dX2_readOrder_11 : decode cX2_readOrder 11 = .ok (.aload_n 0, 1) := by decide +kernel
theorem dX2_readOrder_12 : decode cX2_readOrder 12 = .ok (.getfield 34, 3) := by decide +kernel
theorem dX2_readOrder_15 : decode cX2_readOrder 15 = .ok (.iconst (-1), 1) := by decide +kernel
theorem dX2_readOrder_16 : decode cX2_readOrder 16 = .ok (.if_icmp .eq 5, 3) := by decide +kernel
theorem dX2_readOrder_19 : decode cX2_readOrder 19 = .ok (.iconst 0, 1) := by decide +kernel
theorem dX2_readOrder_20 : decode cX2_readOrder 20 = .ok (.ireturn, 1) := by decide +kernel
theorem dX2_readOrder_21 : decode cX2_readOrder 21 = .ok (.aload_n 0, 1) := by decide +kernel
theorem dX2_readOrder_22 : decode cX2_readOrder 22 = .ok (.aload_n 0, 1) := by decide +kernel
theorem dX2_readOrder_23 : decode cX2_readOrder 23 = .ok (.aload_n 0, 1) := by decide +kernel
theorem dX2_readOrder_24 : decode cX2_readOrder 24 = .ok (.getfield 31, 3) := by decide +kernel
theorem dX2_readOrder_27 : decode cX2_readOrder 27 = .ok (.invokevirtual 44, 3) := by decide +kernel
theorem dX2_readOrder_30 : decode cX2_readOrder 30 = .ok (.putfield 19, 3) := by decide +kernel
theorem dX2_readOrder_33 : decode cX2_readOrder 33 = .ok (.aload_n 0, 1) := by decide +kernel
theorem dX2_readOrder_34 : decode cX2_readOrder 34 = .ok (.getfield 19, 3) := by decide +kernel
theorem dX2_readOrder_37 : decode cX2_readOrder 37 = .ok (.lookupswitch 170 #[(98, 82), (102, 109), (104, 147), (115, 43)], 43) := by decide +kernel
theorem dX2_readOrder_80 : decode cX2_readOrder 80 = .ok (.aload_n 0, 1) := by decide +kernel
theorem dX2_readOrder_81 : decode cX2_readOrder 81 = .ok (.dup, 1) := by decide +kernel
theorem dX2_readOrder_82 : decode cX2_readOrder 82 = .ok (.getfield 31, 3) := by decide +kernel
theorem dX2_readOrder_85 : decode cX2_readOrder 85 = .ok (.iconst 1, 1) := by decide +kernel
theorem dX2_readOrder_86 : decode cX2_readOrder 86 = .ok (.iadd, 1) := by decide +kernel
theorem dX2_readOrder_87 : decode cX2_readOrder 87 = .ok (.putfield 31, 3) := by decide +kernel
theorem dX2_readOrder_90 : decode cX2_readOrder 90 = .ok (.aload_n 0, 1) := by decide +kernel
theorem dX2_readOrder_91 : decode cX2_readOrder 91 = .ok (.aload_n 0, 1) := by decide +kernel
theorem dX2_readOrder_92 : decode cX2_readOrder 92 = .ok (.bipush 7, 2) := by decide +kernel
theorem dX2_readOrder_94 : decode cX2_readOrder 94 = .ok (.invokevirtual 48, 3) := by decide +kernel
theorem dX2_readOrder_97 : decode cX2_readOrder 97 = .ok (.putfield 22, 3) := by decide +kernel
theorem dX2_readOrder_100 : decode cX2_readOrder 100 = .ok (.aload_n 0, 1) := by decide +kernel
theorem dX2_readOrder_101 : decode cX2_readOrder 101 = .ok (.bipush 120, 2) := by decide +kernel
theorem dX2_readOrder_103 : decode cX2_readOrder 103 = .ok (.invokevirtual 51, 3) := by decide +kernel
theorem dX2_readOrder_106 : decode cX2_readOrder 106 = .ok (.aload_n 0, 1) := by decide +kernel
theorem dX2_readOrder_107 : decode cX2_readOrder 107 = .ok (.aload_n 0, 1) := by decide +kernel
theorem dX2_readOrder_108 : decode cX2_readOrder 108 = .ok (.bipush 20, 2) := by decide +kernel
theorem dX2_readOrder_110 : decode cX2_readOrder 110 = .ok (.invokevirtual 55, 3) := by decide +kernel
theorem dX2_readOrder_113 : decode cX2_readOrder 113 = .ok (.putfield 25, 3) := by decide +kernel
theorem dX2_readOrder_116 : decode cX2_readOrder 116 = .ok (.goto 99, 3) := by decide +kernel
theorem dX2_readOrder_119 : decode cX2_readOrder 119 = .ok (.aload_n 0, 1) := by decide +kernel
theorem dX2_readOrder_120 : decode cX2_readOrder 120 = .ok (.dup, 1) := by decide +kernel
theorem dX2_readOrder_121 : decode cX2_readOrder 121 = .ok (.getfield 31, 3) := by decide +kernel
theorem dX2_readOrder_124 : decode cX2_readOrder 124 = .ok (.iconst 1, 1) := by decide +kernel
theorem dX2_readOrder_125 : decode cX2_readOrder 125 = .ok (.iadd, 1) := by decide +kernel
theorem dX2_readOrder_126 : decode cX2_readOrder 126 = .ok (.putfield 31, 3) := by decide +kernel
theorem dX2_readOrder_129 : decode cX2_readOrder 129 = .ok (.aload_n 0, 1) := by decide +kernel
theorem dX2_readOrder_130 : decode cX2_readOrder 130 = .ok (.aload_n 0, 1) := by decide +kernel
theorem dX2_readOrder_131 : decode cX2_readOrder 131 = .ok (.bipush 7, 2) := by decide +kernel
theorem dX2_readOrder_133 : decode cX2_readOrder 133 = .ok (.invokevirtual 48, 3) := by decide +kernel
theorem dX2_readOrder_136 : decode cX2_readOrder 136 = .ok (.putfield 22, 3) := by decide +kernel
theorem dX2_readOrder_139 : decode cX2_readOrder 139 = .ok (.aload_n 0, 1) := by decide +kernel
theorem dX2_readOrder_140 : decode cX2_readOrder 140 = .ok (.invokevirtual 58, 3) := by decide +kernel
theorem dX2_readOrder_143 : decode cX2_readOrder 143 = .ok (.goto 72, 3) := by decide +kernel
theorem dX2_readOrder_146 : decode cX2_readOrder 146 = .ok (.aload_n 0, 1) := by decide +kernel
theorem dX2_readOrder_147 : decode cX2_readOrder 147 = .ok (.dup, 1) := by decide +kernel
theorem dX2_readOrder_148 : decode cX2_readOrder 148 = .ok (.getfield 31, 3) := by decide +kernel
theorem dX2_readOrder_151 : decode cX2_readOrder 151 = .ok (.iconst 1, 1) := by decide +kernel
theorem dX2_readOrder_152 : decode cX2_readOrder 152 = .ok (.iadd, 1) := by decide +kernel
theorem dX2_readOrder_153 : decode cX2_readOrder 153 = .ok (.putfield 31, 3) := by decide +kernel
theorem dX2_readOrder_156 : decode cX2_readOrder 156 = .ok (.aload_n 0, 1) := by decide +kernel
theorem dX2_readOrder_157 : decode cX2_readOrder 157 = .ok (.aload_n 0, 1) := by decide +kernel
theorem dX2_readOrder_158 : decode cX2_readOrder 158 = .ok (.iconst 3, 1) := by decide +kernel
theorem dX2_readOrder_159 : decode cX2_readOrder 159 = .ok (.invokevirtual 48, 3) := by decide +kernel
theorem dX2_readOrder_162 : decode cX2_readOrder 162 = .ok (.putfield 22, 3) := by decide +kernel
theorem dX2_readOrder_165 : decode cX2_readOrder 165 = .ok (.aload_n 0, 1) := by decide +kernel
theorem dX2_readOrder_166 : decode cX2_readOrder 166 = .ok (.bipush 120, 2) := by decide +kernel
theorem dX2_readOrder_168 : decode cX2_readOrder 168 = .ok (.invokevirtual 51, 3) := by decide +kernel
theorem dX2_readOrder_171 : decode cX2_readOrder 171 = .ok (.aload_n 0, 1) := by decide +kernel
theorem dX2_readOrder_172 : decode cX2_readOrder 172 = .ok (.aload_n 0, 1) := by decide +kernel
theorem dX2_readOrder_173 : decode cX2_readOrder 173 = .ok (.bipush 30, 2) := by decide +kernel
theorem dX2_readOrder_175 : decode cX2_readOrder 175 = .ok (.invokevirtual 55, 3) := by decide +kernel
theorem dX2_readOrder_178 : decode cX2_readOrder 178 = .ok (.putfield 25, 3) := by decide +kernel
theorem dX2_readOrder_181 : decode cX2_readOrder 181 = .ok (.goto 34, 3) := by decide +kernel
theorem dX2_readOrder_184 : decode cX2_readOrder 184 = .ok (.aload_n 0, 1) := by decide +kernel
theorem dX2_readOrder_185 : decode cX2_readOrder 185 = .ok (.dup, 1) := by decide +kernel
theorem dX2_readOrder_186 : decode cX2_readOrder 186 = .ok (.getfield 31, 3) := by decide +kernel
theorem dX2_readOrder_189 : decode cX2_readOrder 189 = .ok (.iconst 1, 1) := by decide +kernel
theorem dX2_readOrder_190 : decode cX2_readOrder 190 = .ok (.iadd, 1) := by decide +kernel
theorem dX2_readOrder_191 : decode cX2_readOrder 191 = .ok (.putfield 31, 3) := by decide +kernel
theorem dX2_readOrder_194 : decode cX2_readOrder 194 = .ok (.aload_n 0, 1) := by decide +kernel
theorem dX2_readOrder_195 : decode cX2_readOrder 195 = .ok (.aload_n 0, 1) := by decide +kernel
theorem dX2_readOrder_196 : decode cX2_readOrder 196 = .ok (.bipush 48, 2) := by decide +kernel
theorem dX2_readOrder_198 : decode cX2_readOrder 198 = .ok (.invokevirtual 55, 3) := by decide +kernel
theorem dX2_readOrder_201 : decode cX2_readOrder 201 = .ok (.putfield 25, 3) := by decide +kernel
theorem dX2_readOrder_204 : decode cX2_readOrder 204 = .ok (.goto 11, 3) := by decide +kernel
theorem dX2_readOrder_207 : decode cX2_readOrder 207 = .ok (.aload_n 0, 1) := by decide +kernel
theorem dX2_readOrder_208 : decode cX2_readOrder 208 = .ok (.aload_n 0, 1) := by decide +kernel
theorem dX2_readOrder_209 : decode cX2_readOrder 209 = .ok (.getfield 31, 3) := by decide +kernel
theorem dX2_readOrder_212 : decode cX2_readOrder 212 = .ok (.putfield 34, 3) := by decide +kernel
theorem dX2_readOrder_215 : decode cX2_readOrder 215 = .ok (.aload_n 0, 1) := by decide +kernel
theorem dX2_readOrder_216 : decode cX2_readOrder 216 = .ok (.bipush 59, 2) := by decide +kernel
theorem dX2_readOrder_218 : decode cX2_readOrder 218 = .ok (.invokevirtual 51, 3) := by decide +kernel
theorem dX2_readOrder_221 : decode cX2_readOrder 221 = .ok (.aload_n 0, 1) := by decide +kernel
theorem dX2_readOrder_222 : decode cX2_readOrder 222 = .ok (.getfield 34, 3) := by decide +kernel
theorem dX2_readOrder_225 : decode cX2_readOrder 225 = .ok (.iconst (-1), 1) := by decide +kernel
theorem dX2_readOrder_226 : decode cX2_readOrder 226 = .ok (.if_icmp .ne 7, 3) := by decide +kernel
theorem dX2_readOrder_229 : decode cX2_readOrder 229 = .ok (.iconst 1, 1) := by decide +kernel
theorem dX2_readOrder_230 : decode cX2_readOrder 230 = .ok (.goto 4, 3) := by decide +kernel
theorem dX2_readOrder_233 : decode cX2_readOrder 233 = .ok (.iconst 0, 1) := by decide +kernel
theorem dX2_readOrder_234 : decode cX2_readOrder 234 = .ok (.ireturn, 1) := by decide +kernel
theorem dX2_readCoins_0 : decode cX2_readCoins 0 = .ok (.iconst 0, 1) := by decide +kernel
theorem dX2_readCoins_1 : decode cX2_readCoins 1 = .ok (.istore_n 1, 1) := by decide +kernel
theorem dX2_readCoins_2 : decode cX2_readCoins 2 = .ok (.iload_n 1, 1) := by decide +kernel
theorem dX2_readCoins_3 : decode cX2_readCoins 3 = .ok (.iconst 4, 1) := by decide +kernel
theorem dX2_readCoins_4 : decode cX2_readCoins 4 = .ok (.if_icmp .ge 27, 3) := by decide +kernel
theorem dX2_readCoins_7 : decode cX2_readCoins 7 = .ok (.aload_n 0, 1) := by decide +kernel
theorem dX2_readCoins_8 : decode cX2_readCoins 8 = .ok (.bipush 44, 2) := by decide +kernel
theorem dX2_readCoins_10 : decode cX2_readCoins 10 = .ok (.invokevirtual 51, 3) := by decide +kernel
theorem dX2_readCoins_13 : decode cX2_readCoins 13 = .ok (.aload_n 0, 1) := by decide +kernel
theorem dX2_readCoins_14 : decode cX2_readCoins 14 = .ok (.getfield 28, 3) := by decide +kernel
theorem dX2_readCoins_17 : decode cX2_readCoins 17 = .ok (.iload_n 1, 1) := by decide +kernel
theorem dX2_readCoins_18 : decode cX2_readCoins 18 = .ok (.aload_n 0, 1) := by decide +kernel
theorem dX2_readCoins_19 : decode cX2_readCoins 19 = .ok (.bipush 9, 2) := by decide +kernel
theorem dX2_readCoins_21 : decode cX2_readCoins 21 = .ok (.invokevirtual 48, 3) := by decide +kernel
theorem dX2_readCoins_24 : decode cX2_readCoins 24 = .ok (.iastore, 1) := by decide +kernel
theorem dX2_readCoins_25 : decode cX2_readCoins 25 = .ok (.iinc 1 1, 3) := by decide +kernel
theorem dX2_readCoins_28 : decode cX2_readCoins 28 = .ok (.goto (-26), 3) := by decide +kernel
theorem dX2_readCoins_31 : decode cX2_readCoins 31 = .ok (.return_, 1) := by decide +kernel
theorem dX2_readNumber_0 : decode cX2_readNumber 0 = .ok (.aload_n 0, 1) := by decide +kernel
theorem dX2_readNumber_1 : decode cX2_readNumber 1 = .ok (.getfield 31, 3) := by decide +kernel
theorem dX2_readNumber_4 : decode cX2_readNumber 4 = .ok (.istore_n 2, 1) := by decide +kernel
theorem dX2_readNumber_5 : decode cX2_readNumber 5 = .ok (.aload_n 0, 1) := by decide +kernel
theorem dX2_readNumber_6 : decode cX2_readNumber 6 = .ok (.bipush 9, 2) := by decide +kernel
theorem dX2_readNumber_8 : decode cX2_readNumber 8 = .ok (.invokevirtual 48, 3) := by decide +kernel
theorem dX2_readNumber_11 : decode cX2_readNumber 11 = .ok (.istore_n 3, 1) := by decide +kernel
theorem dX2_readNumber_12 : decode cX2_readNumber 12 = .ok (.aload_n 0, 1) := by decide +kernel
theorem dX2_readNumber_13 : decode cX2_readNumber 13 = .ok (.aload_n 0, 1) := by decide +kernel
theorem dX2_readNumber_14 : decode cX2_readNumber 14 = .ok (.getfield 31, 3) := by decide +kernel
theorem dX2_readNumber_17 : decode cX2_readNumber 17 = .ok (.invokevirtual 44, 3) := by decide +kernel
theorem dX2_readNumber_20 : decode cX2_readNumber 20 = .ok (.invokestatic 61, 3) := by decide +kernel
theorem dX2_readNumber_23 : decode cX2_readNumber 23 = .ok (.ifCond .eq 15, 3) := by decide +kernel
theorem dX2_readNumber_26 : decode cX2_readNumber 26 = .ok (.bipush 10, 2) := by decide +kernel
theorem dX2_readNumber_28 : decode cX2_readNumber 28 = .ok (.iload_n 3, 1) := by decide +kernel
theorem dX2_readNumber_29 : decode cX2_readNumber 29 = .ok (.imul, 1) := by decide +kernel
theorem dX2_readNumber_30 : decode cX2_readNumber 30 = .ok (.aload_n 0, 1) := by decide +kernel
theorem dX2_readNumber_31 : decode cX2_readNumber 31 = .ok (.bipush 9, 2) := by decide +kernel
theorem dX2_readNumber_33 : decode cX2_readNumber 33 = .ok (.invokevirtual 48, 3) := by decide +kernel
theorem dX2_readNumber_36 : decode cX2_readNumber 36 = .ok (.iadd, 1) := by decide +kernel
theorem dX2_readNumber_37 : decode cX2_readNumber 37 = .ok (.istore_n 3, 1) := by decide +kernel
theorem dX2_readNumber_38 : decode cX2_readNumber 38 = .ok (.aload_n 0, 1) := by decide +kernel
theorem dX2_readNumber_39 : decode cX2_readNumber 39 = .ok (.getfield 34, 3) := by decide +kernel
theorem dX2_readNumber_42 : decode cX2_readNumber 42 = .ok (.iconst (-1), 1) := by decide +kernel
theorem dX2_readNumber_43 : decode cX2_readNumber 43 = .ok (.if_icmp .ne 32, 3) := by decide +kernel
theorem dX2_readNumber_46 : decode cX2_readNumber 46 = .ok (.aload_n 0, 1) := by decide +kernel
theorem dX2_readNumber_47 : decode cX2_readNumber 47 = .ok (.aload_n 0, 1) := by decide +kernel
theorem dX2_readNumber_48 : decode cX2_readNumber 48 = .ok (.getfield 31, 3) := by decide +kernel
theorem dX2_readNumber_51 : decode cX2_readNumber 51 = .ok (.invokevirtual 44, 3) := by decide +kernel
theorem dX2_readNumber_54 : decode cX2_readNumber 54 = .ok (.invokestatic 61, 3) := by decide +kernel
theorem dX2_readNumber_57 : decode cX2_readNumber 57 = .ok (.ifCond .ne 18, 3) := by decide +kernel
theorem dX2_readNumber_60 : decode cX2_readNumber 60 = .ok (.iload_n 3, 1) := by decide +kernel
theorem dX2_readNumber_61 : decode cX2_readNumber 61 = .ok (.iconst 1, 1) := by decide +kernel
theorem dX2_readNumber_62 : decode cX2_readNumber 62 = .ok (.if_icmp .lt 8, 3) := by decide +kernel
theorem dX2_readNumber_65 : decode cX2_readNumber 65 = .ok (.iload_n 3, 1) := by decide +kernel
theorem dX2_readNumber_66 : decode cX2_readNumber 66 = .ok (.iload_n 1, 1) := by decide +kernel
theorem dX2_readNumber_67 : decode cX2_readNumber 67 = .ok (.if_icmp .le 8, 3) := by decide +kernel
theorem dX2_readNumber_70 : decode cX2_readNumber 70 = .ok (.aload_n 0, 1) := by decide +kernel
theorem dX2_readNumber_71 : decode cX2_readNumber 71 = .ok (.iload_n 2, 1) := by decide +kernel
theorem dX2_readNumber_72 : decode cX2_readNumber 72 = .ok (.putfield 34, 3) := by decide +kernel
theorem dX2_readNumber_75 : decode cX2_readNumber 75 = .ok (.iload_n 3, 1) := by decide +kernel
theorem dX2_readNumber_76 : decode cX2_readNumber 76 = .ok (.ireturn, 1) := by decide +kernel
theorem dX2_readDigit_0 : decode cX2_readDigit 0 = .ok (.aload_n 0, 1) := by decide +kernel
theorem dX2_readDigit_1 : decode cX2_readDigit 1 = .ok (.aload_n 0, 1) := by decide +kernel
theorem dX2_readDigit_2 : decode cX2_readDigit 2 = .ok (.getfield 31, 3) := by decide +kernel
theorem dX2_readDigit_5 : decode cX2_readDigit 5 = .ok (.invokevirtual 44, 3) := by decide +kernel
theorem dX2_readDigit_8 : decode cX2_readDigit 8 = .ok (.istore_n 2, 1) := by decide +kernel
theorem dX2_readDigit_9 : decode cX2_readDigit 9 = .ok (.aload_n 0, 1) := by decide +kernel
theorem dX2_readDigit_10 : decode cX2_readDigit 10 = .ok (.getfield 34, 3) := by decide +kernel
theorem dX2_readDigit_13 : decode cX2_readDigit 13 = .ok (.iconst (-1), 1) := by decide +kernel
theorem dX2_readDigit_14 : decode cX2_readDigit 14 = .ok (.if_icmp .ne 17, 3) := by decide +kernel
theorem dX2_readDigit_17 : decode cX2_readDigit 17 = .ok (.iload_n 2, 1) := by decide +kernel
theorem dX2_readDigit_18 : decode cX2_readDigit 18 = .ok (.bipush 48, 2) := by decide +kernel
theorem dX2_readDigit_20 : decode cX2_readDigit 20 = .ok (.if_icmp .lt 11, 3) := by decide +kernel
theorem dX2_readDigit_23 : decode cX2_readDigit 23 = .ok (.iload_n 2, 1) := by decide +kernel
theorem dX2_readDigit_24 : decode cX2_readDigit 24 = .ok (.bipush 48, 2) := by decide +kernel
theorem dX2_readDigit_26 : decode cX2_readDigit 26 = .ok (.iload_n 1, 1) := by decide +kernel
theorem dX2_readDigit_27 : decode cX2_readDigit 27 = .ok (.iadd, 1) := by decide +kernel
theorem dX2_readDigit_28 : decode cX2_readDigit 28 = .ok (.if_icmp .le 9, 3) := by decide +kernel
theorem dX2_readDigit_31 : decode cX2_readDigit 31 = .ok (.aload_n 0, 1) := by decide +kernel
theorem dX2_readDigit_32 : decode cX2_readDigit 32 = .ok (.invokevirtual 65, 3) := by decide +kernel
theorem dX2_readDigit_35 : decode cX2_readDigit 35 = .ok (.iconst 0, 1) := by decide +kernel
theorem dX2_readDigit_36 : decode cX2_readDigit 36 = .ok (.ireturn, 1) := by decide +kernel
theorem dX2_readDigit_37 : decode cX2_readDigit 37 = .ok (.aload_n 0, 1) := by decide +kernel
theorem dX2_readDigit_38 : decode cX2_readDigit 38 = .ok (.dup, 1) := by decide +kernel
theorem dX2_readDigit_39 : decode cX2_readDigit 39 = .ok (.getfield 31, 3) := by decide +kernel
theorem dX2_readDigit_42 : decode cX2_readDigit 42 = .ok (.iconst 1, 1) := by decide +kernel
theorem dX2_readDigit_43 : decode cX2_readDigit 43 = .ok (.iadd, 1) := by decide +kernel
theorem dX2_readDigit_44 : decode cX2_readDigit 44 = .ok (.putfield 31, 3) := by decide +kernel
theorem dX2_readDigit_47 : decode cX2_readDigit 47 = .ok (.iload_n 2, 1) := by decide +kernel
theorem dX2_readDigit_48 : decode cX2_readDigit 48 = .ok (.bipush 48, 2) := by decide +kernel
theorem dX2_readDigit_50 : decode cX2_readDigit 50 = .ok (.isub, 1) := by decide +kernel
theorem dX2_readDigit_51 : decode cX2_readDigit 51 = .ok (.ireturn, 1) := by decide +kernel
theorem dX2_readSign_0 : decode cX2_readSign 0 = .ok (.aload_n 0, 1) := by decide +kernel
theorem dX2_readSign_1 : decode cX2_readSign 1 = .ok (.getfield 34, 3) := by decide +kernel
theorem dX2_readSign_4 : decode cX2_readSign 4 = .ok (.iconst (-1), 1) := by decide +kernel
theorem dX2_readSign_5 : decode cX2_readSign 5 = .ok (.if_icmp .ne 15, 3) := by decide +kernel
theorem dX2_readSign_8 : decode cX2_readSign 8 = .ok (.aload_n 0, 1) := by decide +kernel
theorem dX2_readSign_9 : decode cX2_readSign 9 = .ok (.aload_n 0, 1) := by decide +kernel
theorem dX2_readSign_10 : decode cX2_readSign 10 = .ok (.getfield 31, 3) := by decide +kernel
theorem dX2_readSign_13 : decode cX2_readSign 13 = .ok (.invokevirtual 44, 3) := by decide +kernel
theorem dX2_readSign_16 : decode cX2_readSign 16 = .ok (.iload_n 1, 1) := by decide +kernel
theorem dX2_readSign_17 : decode cX2_readSign 17 = .ok (.if_icmp .eq 10, 3) := by decide +kernel
theorem dX2_readSign_20 : decode cX2_readSign 20 = .ok (.aload_n 0, 1) := by decide +kernel
theorem dX2_readSign_21 : decode cX2_readSign 21 = .ok (.invokevirtual 65, 3) := by decide +kernel
theorem dX2_readSign_24 : decode cX2_readSign 24 = .ok (.goto 13, 3) := by decide +kernel
theorem dX2_readSign_27 : decode cX2_readSign 27 = .ok (.aload_n 0, 1) := by decide +kernel
theorem dX2_readSign_28 : decode cX2_readSign 28 = .ok (.dup, 1) := by decide +kernel
theorem dX2_readSign_29 : decode cX2_readSign 29 = .ok (.getfield 31, 3) := by decide +kernel
theorem dX2_readSign_32 : decode cX2_readSign 32 = .ok (.iconst 1, 1) := by decide +kernel
theorem dX2_readSign_33 : decode cX2_readSign 33 = .ok (.iadd, 1) := by decide +kernel
theorem dX2_readSign_34 : decode cX2_readSign 34 = .ok (.putfield 31, 3) := by decide +kernel
theorem dX2_readSign_37 : decode cX2_readSign 37 = .ok (.return_, 1) := by decide +kernel
theorem dX2_stumble_0 : decode cX2_stumble 0 = .ok (.aload_n 0, 1) := by decide +kernel
theorem dX2_stumble_1 : decode cX2_stumble 1 = .ok (.getfield 34, 3) := by decide +kernel
theorem dX2_stumble_4 : decode cX2_stumble 4 = .ok (.iconst (-1), 1) := by decide +kernel
theorem dX2_stumble_5 : decode cX2_stumble 5 = .ok (.if_icmp .ne 11, 3) := by decide +kernel
theorem dX2_stumble_8 : decode cX2_stumble 8 = .ok (.aload_n 0, 1) := by decide +kernel
theorem dX2_stumble_9 : decode cX2_stumble 9 = .ok (.aload_n 0, 1) := by decide +kernel
theorem dX2_stumble_10 : decode cX2_stumble 10 = .ok (.getfield 31, 3) := by decide +kernel
theorem dX2_stumble_13 : decode cX2_stumble 13 = .ok (.putfield 34, 3) := by decide +kernel
theorem dX2_stumble_16 : decode cX2_stumble 16 = .ok (.return_, 1) := by decide +kernel
theorem dX2_byteAt_0 : decode cX2_byteAt 0 = .ok (.iload_n 1, 1) := by decide +kernel
theorem dX2_byteAt_1 : decode cX2_byteAt 1 = .ok (.ifCond .lt 26, 3) := by decide +kernel
theorem dX2_byteAt_4 : decode cX2_byteAt 4 = .ok (.iload_n 1, 1) := by decide +kernel
theorem dX2_byteAt_5 : decode cX2_byteAt 5 = .ok (.aload_n 0, 1) := by decide +kernel
theorem dX2_byteAt_6 : decode cX2_byteAt 6 = .ok (.getfield 15, 3) := by decide +kernel
theorem dX2_byteAt_9 : decode cX2_byteAt 9 = .ok (.if_icmp .ge 18, 3) := by decide +kernel
theorem dX2_byteAt_12 : decode cX2_byteAt 12 = .ok (.iload_n 1, 1) := by decide +kernel
theorem dX2_byteAt_13 : decode cX2_byteAt 13 = .ok (.bipush 100, 2) := by decide +kernel
theorem dX2_byteAt_15 : decode cX2_byteAt 15 = .ok (.if_icmp .ge 12, 3) := by decide +kernel
theorem dX2_byteAt_18 : decode cX2_byteAt 18 = .ok (.aload_n 0, 1) := by decide +kernel
theorem dX2_byteAt_19 : decode cX2_byteAt 19 = .ok (.getfield 9, 3) := by decide +kernel
theorem dX2_byteAt_22 : decode cX2_byteAt 22 = .ok (.iload_n 1, 1) := by decide +kernel
theorem dX2_byteAt_23 : decode cX2_byteAt 23 = .ok (.iaload, 1) := by decide +kernel
theorem dX2_byteAt_24 : decode cX2_byteAt 24 = .ok (.goto 4, 3) := by decide +kernel
theorem dX2_byteAt_27 : decode cX2_byteAt 27 = .ok (.iconst (-1), 1) := by decide +kernel
theorem dX2_byteAt_28 : decode cX2_byteAt 28 = .ok (.ireturn, 1) := by decide +kernel
theorem dX2_isDigit_0 : decode cX2_isDigit 0 = .ok (.iload_n 0, 1) := by decide +kernel
theorem dX2_isDigit_1 : decode cX2_isDigit 1 = .ok (.bipush 48, 2) := by decide +kernel
theorem dX2_isDigit_3 : decode cX2_isDigit 3 = .ok (.if_icmp .lt 13, 3) := by decide +kernel
theorem dX2_isDigit_6 : decode cX2_isDigit 6 = .ok (.iload_n 0, 1) := by decide +kernel
theorem dX2_isDigit_7 : decode cX2_isDigit 7 = .ok (.bipush 57, 2) := by decide +kernel
theorem dX2_isDigit_9 : decode cX2_isDigit 9 = .ok (.if_icmp .gt 7, 3) := by decide +kernel
theorem dX2_isDigit_12 : decode cX2_isDigit 12 = .ok (.iconst 1, 1) := by decide +kernel
theorem dX2_isDigit_13 : decode cX2_isDigit 13 = .ok (.goto 4, 3) := by decide +kernel
theorem dX2_isDigit_16 : decode cX2_isDigit 16 = .ok (.iconst 0, 1) := by decide +kernel
theorem dX2_isDigit_17 : decode cX2_isDigit 17 = .ok (.ireturn, 1) := by decide +kernel
theorem dX3_init_0 : decode cX3_init 0 = .ok (.aload_n 0, 1) := by decide +kernel
theorem dX3_init_1 : decode cX3_init 1 = .ok (.invokespecial 3, 3) := by decide +kernel
theorem dX3_init_4 : decode cX3_init 4 = .ok (.aload_n 0, 1) := by decide +kernel
theorem dX3_init_5 : decode cX3_init 5 = .ok (.iconst 4, 1) := by decide +kernel
theorem dX3_init_6 : decode cX3_init 6 = .ok (.newarray .int, 2) := by decide +kernel
theorem dX3_init_8 : decode cX3_init 8 = .ok (.putfield 9, 3) := by decide +kernel
theorem dX3_init_11 : decode cX3_init 11 = .ok (.aload_n 0, 1) := by decide +kernel
theorem dX3_init_12 : decode cX3_init 12 = .ok (.iconst 4, 1) := by decide +kernel
theorem dX3_init_13 : decode cX3_init 13 = .ok (.newarray .int, 2) := by decide +kernel
theorem dX3_init_15 : decode cX3_init 15 = .ok (.putfield 15, 3) := by decide +kernel
theorem dX3_init_18 : decode cX3_init 18 = .ok (.return_, 1) := by decide +kernel
theorem dX3_find_0 : decode cX3_find 0 = .ok (.aload_n 0, 1) := by decide +kernel
theorem dX3_find_1 : decode cX3_find 1 = .ok (.getfield 9, 3) := by decide +kernel
theorem dX3_find_4 : decode cX3_find 4 = .ok (.iconst 3, 1) := by decide +kernel
theorem dX3_find_5 : decode cX3_find 5 = .ok (.iaload, 1) := by decide +kernel
theorem dX3_find_6 : decode cX3_find 6 = .ok (.iload_n 1, 1) := by decide +kernel
theorem dX3_find_7 : decode cX3_find 7 = .ok (.getstatic 18, 3) := by decide +kernel
theorem dX3_find_10 : decode cX3_find 10 = .ok (.iconst 3, 1) := by decide +kernel
theorem dX3_find_11 : decode cX3_find 11 = .ok (.iaload, 1) := by decide +kernel
theorem dX3_find_12 : decode cX3_find 12 = .ok (.idiv, 1) := by decide +kernel
theorem dX3_find_13 : decode cX3_find 13 = .ok (.invokestatic 21, 3) := by decide +kernel
theorem dX3_find_16 : decode cX3_find 16 = .ok (.istore_n 2, 1) := by decide +kernel
theorem dX3_find_17 : decode cX3_find 17 = .ok (.aload_n 0, 1) := by decide +kernel
theorem dX3_find_18 : decode cX3_find 18 = .ok (.iload_n 1, 1) := by decide +kernel
theorem dX3_find_19 : decode cX3_find 19 = .ok (.iload_n 2, 1) := by decide +kernel
theorem dX3_find_20 : decode cX3_find 20 = .ok (.iconst 1, 1) := by decide +kernel
theorem dX3_find_21 : decode cX3_find 21 = .ok (.isub, 1) := by decide +kernel
theorem dX3_find_22 : decode cX3_find 22 = .ok (.invokevirtual 27, 3) := by decide +kernel
theorem dX3_find_25 : decode cX3_find 25 = .ok (.istore_n 3, 1) := by decide +kernel
theorem dX3_find_26 : decode cX3_find 26 = .ok (.aload_n 0, 1) := by decide +kernel
theorem dX3_find_27 : decode cX3_find 27 = .ok (.iload_n 1, 1) := by decide +kernel
theorem dX3_find_28 : decode cX3_find 28 = .ok (.iload_n 2, 1) := by decide +kernel
theorem dX3_find_29 : decode cX3_find 29 = .ok (.invokevirtual 27, 3) := by decide +kernel
theorem dX3_find_32 : decode cX3_find 32 = .ok (.istore 4, 2) := by decide +kernel
theorem dX3_find_34 : decode cX3_find 34 = .ok (.iload_n 3, 1) := by decide +kernel
theorem dX3_find_35 : decode cX3_find 35 = .ok (.iconst (-1), 1) := by decide +kernel
theorem dX3_find_36 : decode cX3_find 36 = .ok (.if_icmp .eq 26, 3) := by decide +kernel
theorem dX3_find_39 : decode cX3_find 39 = .ok (.iload 4, 2) := by decide +kernel
theorem dX3_find_41 : decode cX3_find 41 = .ok (.iconst (-1), 1) := by decide +kernel
theorem dX3_find_42 : decode cX3_find 42 = .ok (.if_icmp .eq 9, 3) := by decide +kernel
theorem dX3_find_45 : decode cX3_find 45 = .ok (.iload_n 3, 1) := by decide +kernel
theorem dX3_find_46 : decode cX3_find 46 = .ok (.iload 4, 2) := by decide +kernel
theorem dX3_find_48 : decode cX3_find 48 = .ok (.if_icmp .ge 14, 3) := by decide +kernel
theorem dX3_find_51 : decode cX3_find 51 = .ok (.aload_n 0, 1) := by decide +kernel
theorem dX3_find_52 : decode cX3_find 52 = .ok (.iload_n 1, 1) := by decide +kernel
theorem dX3_find_53 : decode cX3_find 53 = .ok (.iload_n 2, 1) := by decide +kernel
theorem dX3_find_54 : decode cX3_find 54 = .ok (.iconst 1, 1) := by decide +kernel
theorem dX3_find_55 : decode cX3_find 55 = .ok (.isub, 1) := by decide +kernel
theorem dX3_find_56 : decode cX3_find 56 = .ok (.invokevirtual 27, 3) := by decide +kernel
theorem dX3_find_59 : decode cX3_find 59 = .ok (.pop, 1) := by decide +kernel
theorem dX3_find_60 : decode cX3_find 60 = .ok (.iconst 1, 1) := by decide +kernel
theorem dX3_find_61 : decode cX3_find 61 = .ok (.ireturn, 1) := by decide +kernel
theorem dX3_find_62 : decode cX3_find 62 = .ok (.iload 4, 2) := by decide +kernel
theorem dX3_find_64 : decode cX3_find 64 = .ok (.iconst (-1), 1) := by decide +kernel
theorem dX3_find_65 : decode cX3_find 65 = .ok (.if_icmp .eq 7, 3) := by decide +kernel
theorem dX3_find_68 : decode cX3_find 68 = .ok (.iconst 1, 1) := by decide +kernel
theorem dX3_find_69 : decode cX3_find 69 = .ok (.goto 4, 3) := by decide +kernel
theorem dX3_find_72 : decode cX3_find 72 = .ok (.iconst 0, 1) := by decide +kernel
theorem dX3_find_73 : decode cX3_find 73 = .ok (.ireturn, 1) := by decide +kernel
theorem dX3_take_0 : decode cX3_take 0 = .ok (.iload_n 2, 1) := by decide +kernel
theorem dX3_take_1 : decode cX3_take 1 = .ok (.ifCond .ge 5, 3) := by decide +kernel
theorem dX3_take_4 : decode cX3_take 4 = .ok (.iconst (-1), 1) := by decide +kernel
theorem dX3_take_5 : decode cX3_take 5 = .ok (.ireturn, 1) := by decide +kernel
theorem dX3_take_6 : decode cX3_take 6 = .ok (.iload_n 1, 1) := by decide +kernel
theorem dX3_take_7 : decode cX3_take 7 = .ok (.iload_n 2, 1) := by decide +kernel
theorem dX3_take_8 : decode cX3_take 8 = .ok (.getstatic 18, 3) := by decide +kernel
theorem dX3_take_11 : decode cX3_take 11 = .ok (.iconst 3, 1) := by decide +kernel
theorem dX3_take_12 : decode cX3_take 12 = .ok (.iaload, 1) := by decide +kernel
theorem dX3_take_13 : decode cX3_take 13 = .ok (.imul, 1) := by decide +kernel
theorem dX3_take_14 : decode cX3_take 14 = .ok (.isub, 1) := by decide +kernel
theorem dX3_take_15 : decode cX3_take 15 = .ok (.istore_n 3, 1) := by decide +kernel
theorem dX3_take_16 : decode cX3_take 16 = .ok (.iload_n 2, 1) := by decide +kernel
theorem dX3_take_17 : decode cX3_take 17 = .ok (.istore 4, 2) := by decide +kernel
theorem dX3_take_19 : decode cX3_take 19 = .ok (.aload_n 0, 1) := by decide +kernel
theorem dX3_take_20 : decode cX3_take 20 = .ok (.getfield 15, 3) := by decide +kernel
theorem dX3_take_23 : decode cX3_take 23 = .ok (.iconst 3, 1) := by decide +kernel
theorem dX3_take_24 : decode cX3_take 24 = .ok (.iload_n 2, 1) := by decide +kernel
theorem dX3_take_25 : decode cX3_take 25 = .ok (.iastore, 1) := by decide +kernel
theorem dX3_take_26 : decode cX3_take 26 = .ok (.iconst 2, 1) := by decide +kernel
theorem dX3_take_27 : decode cX3_take 27 = .ok (.istore 5, 2) := by decide +kernel
theorem dX3_take_29 : decode cX3_take 29 = .ok (.iload 5, 2) := by decide +kernel
theorem dX3_take_31 : decode cX3_take 31 = .ok (.ifCond .lt 63, 3) := by decide +kernel
theorem dX3_take_34 : decode cX3_take 34 = .ok (.aload_n 0, 1) := by decide +kernel
theorem dX3_take_35 : decode cX3_take 35 = .ok (.getfield 15, 3) := by decide +kernel
theorem dX3_take_38 : decode cX3_take 38 = .ok (.iload 5, 2) := by decide +kernel
theorem dX3_take_40 : decode cX3_take 40 = .ok (.aload_n 0, 1) := by decide +kernel
theorem dX3_take_41 : decode cX3_take 41 = .ok (.getfield 9, 3) := by decide +kernel
theorem dX3_take_44 : decode cX3_take 44 = .ok (.iload 5, 2) := by decide +kernel
theorem dX3_take_46 : decode cX3_take 46 = .ok (.iaload, 1) := by decide +kernel
theorem dX3_take_47 : decode cX3_take 47 = .ok (.iload_n 3, 1) := by decide +kernel
theorem dX3_take_48 : decode cX3_take 48 = .ok (.getstatic 18, 3) := by decide +kernel
theorem dX3_take_51 : decode cX3_take 51 = .ok (.iload 5, 2) := by decide +kernel
theorem dX3_take_53 : decode cX3_take 53 = .ok (.iaload, 1) := by decide +kernel
theorem dX3_take_54 : decode cX3_take 54 = .ok (.idiv, 1) := by decide +kernel
theorem dX3_take_55 : decode cX3_take 55 = .ok (.invokestatic 21, 3) := by decide +kernel
theorem dX3_take_58 : decode cX3_take 58 = .ok (.iastore, 1) := by decide +kernel
theorem dX3_take_59 : decode cX3_take 59 = .ok (.iload_n 3, 1) := by decide +kernel
theorem dX3_take_60 : decode cX3_take 60 = .ok (.aload_n 0, 1) := by decide +kernel
theorem dX3_take_61 : decode cX3_take 61 = .ok (.getfield 15, 3) := by decide +kernel
theorem dX3_take_64 : decode cX3_take 64 = .ok (.iload 5, 2) := by decide +kernel
theorem dX3_take_66 : decode cX3_take 66 = .ok (.iaload, 1) := by decide +kernel
theorem dX3_take_67 : decode cX3_take 67 = .ok (.getstatic 18, 3) := by decide +kernel
theorem dX3_take_70 : decode cX3_take 70 = .ok (.iload 5, 2) := by decide +kernel
theorem dX3_take_72 : decode cX3_take 72 = .ok (.iaload, 1) := by decide +kernel
theorem dX3_take_73 : decode cX3_take 73 = .ok (.imul, 1) := by decide +kernel
theorem dX3_take_74 : decode cX3_take 74 = .ok (.isub, 1) := by decide +kernel
theorem dX3_take_75 : decode cX3_take 75 = .ok (.istore_n 3, 1) := by decide +kernel
theorem dX3_take_76 : decode cX3_take 76 = .ok (.iload 4, 2) := by decide +kernel
theorem dX3_take_78 : decode cX3_take 78 = .ok (.aload_n 0, 1) := by decide +kernel
theorem dX3_take_79 : decode cX3_take 79 = .ok (.getfield 15, 3) := by decide +kernel
theorem dX3_take_82 : decode cX3_take 82 = .ok (.iload 5, 2) := by decide +kernel
theorem dX3_take_84 : decode cX3_take 84 = .ok (.iaload, 1) := by decide +kernel
theorem dX3_take_85 : decode cX3_take 85 = .ok (.iadd, 1) := by decide +kernel
theorem dX3_take_86 : decode cX3_take 86 = .ok (.istore 4, 2) := by decide +kernel
theorem dX3_take_88 : decode cX3_take 88 = .ok (.iinc 5 (-1), 3) := by decide +kernel
theorem dX3_take_91 : decode cX3_take 91 = .ok (.goto (-62), 3) := by decide +kernel
theorem dX3_take_94 : decode cX3_take 94 = .ok (.iload_n 3, 1) := by decide +kernel
theorem dX3_take_95 : decode cX3_take 95 = .ok (.ifCond .ne 8, 3) := by decide +kernel
theorem dX3_take_98 : decode cX3_take 98 = .ok (.iload 4, 2) := by decide +kernel
theorem dX3_take_100 : decode cX3_take 100 = .ok (.goto 4, 3) := by decide +kernel
theorem dX3_take_103 : decode cX3_take 103 = .ok (.iconst (-1), 1) := by decide +kernel
theorem dX3_take_104 : decode cX3_take 104 = .ok (.ireturn, 1) := by decide +kernel
theorem dX4_init_0 : decode cX4_init 0 = .ok (.aload_n 0, 1) := by decide +kernel
theorem dX4_init_1 : decode cX4_init 1 = .ok (.invokespecial 3, 3) := by decide +kernel
theorem dX4_init_4 : decode cX4_init 4 = .ok (.aload_n 0, 1) := by decide +kernel
theorem dX4_init_5 : decode cX4_init 5 = .ok (.iconst 4, 1) := by decide +kernel
theorem dX4_init_6 : decode cX4_init 6 = .ok (.newarray .int, 2) := by decide +kernel
theorem dX4_init_8 : decode cX4_init 8 = .ok (.putfield 9, 3) := by decide +kernel
theorem dX4_init_11 : decode cX4_init 11 = .ok (.aload_n 0, 1) := by decide +kernel
theorem dX4_init_12 : decode cX4_init 12 = .ok (.sipush 200, 3) := by decide +kernel
theorem dX4_init_15 : decode cX4_init 15 = .ok (.newarray .int, 2) := by decide +kernel
theorem dX4_init_17 : decode cX4_init 17 = .ok (.putfield 15, 3) := by decide +kernel
theorem dX4_init_20 : decode cX4_init 20 = .ok (.aload_n 0, 1) := by decide +kernel
theorem dX4_init_21 : decode cX4_init 21 = .ok (.new 18, 3) := by decide +kernel
theorem dX4_init_24 : decode cX4_init 24 = .ok (.dup, 1) := by decide +kernel
theorem dX4_init_25 : decode cX4_init 25 = .ok (.invokespecial 20, 3) := by decide +kernel
theorem dX4_init_28 : decode cX4_init 28 = .ok (.putfield 21, 3) := by decide +kernel
theorem dX4_init_31 : decode cX4_init 31 = .ok (.aload_n 0, 1) := by decide +kernel
theorem dX4_init_32 : decode cX4_init 32 = .ok (.iconst 0, 1) := by decide +kernel
theorem dX4_init_33 : decode cX4_init 33 = .ok (.putfield 25, 3) := by decide +kernel
theorem dX4_init_36 : decode cX4_init 36 = .ok (.aload_n 0, 1) := by decide +kernel
theorem dX4_init_37 : decode cX4_init 37 = .ok (.iconst 0, 1) := by decide +kernel
theorem dX4_init_38 : decode cX4_init 38 = .ok (.putfield 29, 3) := by decide +kernel
theorem dX4_init_41 : decode cX4_init 41 = .ok (.aload_n 0, 1) := by decide +kernel
theorem dX4_init_42 : decode cX4_init 42 = .ok (.iconst 0, 1) := by decide +kernel
theorem dX4_init_43 : decode cX4_init 43 = .ok (.putfield 32, 3) := by decide +kernel
theorem dX4_init_46 : decode cX4_init 46 = .ok (.aload_n 0, 1) := by decide +kernel
theorem dX4_init_47 : decode cX4_init 47 = .ok (.iconst 0, 1) := by decide +kernel
theorem dX4_init_48 : decode cX4_init 48 = .ok (.putfield 35, 3) := by decide +kernel
theorem dX4_init_51 : decode cX4_init 51 = .ok (.iconst 0, 1) := by decide +kernel
theorem dX4_init_52 : decode cX4_init 52 = .ok (.istore_n 1, 1) := by decide +kernel
theorem dX4_init_53 : decode cX4_init 53 = .ok (.iload_n 1, 1) := by decide +kernel
theorem dX4_init_54 : decode cX4_init 54 = .ok (.iconst 4, 1) := by decide +kernel
theorem dX4_init_55 : decode cX4_init 55 = .ok (.if_icmp .ge 16, 3) := by decide +kernel
theorem dX4_init_58 : decode cX4_init 58 = .ok (.aload_n 0, 1) := by decide +kernel
theorem dX4_init_59 : decode cX4_init 59 = .ok (.getfield 9, 3) := by decide +kernel
theorem dX4_init_62 : decode cX4_init 62 = .ok (.iload_n 1, 1) := by decide +kernel
theorem dX4_init_63 : decode cX4_init 63 = .ok (.iconst 5, 1) := by decide +kernel
theorem dX4_init_64 : decode cX4_init 64 = .ok (.iastore, 1) := by decide +kernel
theorem dX4_init_65 : decode cX4_init 65 = .ok (.iinc 1 1, 3) := by decide +kernel
theorem dX4_init_68 : decode cX4_init 68 = .ok (.goto (-15), 3) := by decide +kernel
theorem dX4_init_71 : decode cX4_init 71 = .ok (.return_, 1) := by decide +kernel
theorem dX4_takeOver_0 : decode cX4_takeOver 0 = .ok (.aload_n 1, 1) := by decide +kernel
theorem dX4_takeOver_1 : decode cX4_takeOver 1 = .ok (.getfield 9, 3) := by decide +kernel
theorem dX4_takeOver_4 : decode cX4_takeOver 4 = .ok (.iconst 0, 1) := by decide +kernel
theorem dX4_takeOver_5 : decode cX4_takeOver 5 = .ok (.aload_n 0, 1) := by decide +kernel
theorem dX4_takeOver_6 : decode cX4_takeOver 6 = .ok (.getfield 9, 3) := by decide +kernel
theorem dX4_takeOver_9 : decode cX4_takeOver 9 = .ok (.iconst 0, 1) := by decide +kernel
theorem dX4_takeOver_10 : decode cX4_takeOver 10 = .ok (.iconst 4, 1) := by decide +kernel
theorem dX4_takeOver_11 : decode cX4_takeOver 11 = .ok (.invokestatic 38, 3) := by decide +kernel
theorem dX4_takeOver_14 : decode cX4_takeOver 14 = .ok (.aload_n 1, 1) := by decide +kernel
theorem dX4_takeOver_15 : decode cX4_takeOver 15 = .ok (.getfield 15, 3) := by decide +kernel
theorem dX4_takeOver_18 : decode cX4_takeOver 18 = .ok (.iconst 0, 1) := by decide +kernel
theorem dX4_takeOver_19 : decode cX4_takeOver 19 = .ok (.aload_n 0, 1) := by decide +kernel
theorem dX4_takeOver_20 : decode cX4_takeOver 20 = .ok (.getfield 15, 3) := by decide +kernel
theorem dX4_takeOver_23 : decode cX4_takeOver 23 = .ok (.iconst 0, 1) := by decide +kernel
theorem dX4_takeOver_24 : decode cX4_takeOver 24 = .ok (.sipush 200, 3) := by decide +kernel
theorem dX4_takeOver_27 : decode cX4_takeOver 27 = .ok (.invokestatic 38, 3) := by decide +kernel
theorem dX4_takeOver_30 : decode cX4_takeOver 30 = .ok (.aload_n 0, 1) := by decide +kernel
theorem dX4_takeOver_31 : decode cX4_takeOver 31 = .ok (.aload_n 1, 1) := by decide +kernel
theorem dX4_takeOver_32 : decode cX4_takeOver 32 = .ok (.getfield 25, 3) := by decide +kernel
theorem dX4_takeOver_35 : decode cX4_takeOver 35 = .ok (.putfield 25, 3) := by decide +kernel
theorem dX4_takeOver_38 : decode cX4_takeOver 38 = .ok (.aload_n 0, 1) := by decide +kernel
theorem dX4_takeOver_39 : decode cX4_takeOver 39 = .ok (.aload_n 1, 1) := by decide +kernel
theorem dX4_takeOver_40 : decode cX4_takeOver 40 = .ok (.getfield 29, 3) := by decide +kernel
theorem dX4_takeOver_43 : decode cX4_takeOver 43 = .ok (.putfield 29, 3) := by decide +kernel
theorem dX4_takeOver_46 : decode cX4_takeOver 46 = .ok (.aload_n 0, 1) := by decide +kernel
theorem dX4_takeOver_47 : decode cX4_takeOver 47 = .ok (.aload_n 1, 1) := by decide +kernel
theorem dX4_takeOver_48 : decode cX4_takeOver 48 = .ok (.getfield 32, 3) := by decide +kernel
theorem dX4_takeOver_51 : decode cX4_takeOver 51 = .ok (.putfield 32, 3) := by decide +kernel
theorem dX4_takeOver_54 : decode cX4_takeOver 54 = .ok (.aload_n 0, 1) := by decide +kernel
theorem dX4_takeOver_55 : decode cX4_takeOver 55 = .ok (.aload_n 1, 1) := by decide +kernel
theorem dX4_takeOver_56 : decode cX4_takeOver 56 = .ok (.getfield 35, 3) := by decide +kernel
theorem dX4_takeOver_59 : decode cX4_takeOver 59 = .ok (.putfield 35, 3) := by decide +kernel
theorem dX4_takeOver_62 : decode cX4_takeOver 62 = .ok (.return_, 1) := by decide +kernel
theorem dX4_fillTube_0 : decode cX4_fillTube 0 = .ok (.iload_n 2, 1) := by decide +kernel
theorem dX4_fillTube_1 : decode cX4_fillTube 1 = .ok (.bipush 30, 2) := by decide +kernel
theorem dX4_fillTube_3 : decode cX4_fillTube 3 = .ok (.aload_n 0, 1) := by decide +kernel
theorem dX4_fillTube_4 : decode cX4_fillTube 4 = .ok (.getfield 9, 3) := by decide +kernel
theorem dX4_fillTube_7 : decode cX4_fillTube 7 = .ok (.iload_n 1, 1) := by decide +kernel
theorem dX4_fillTube_8 : decode cX4_fillTube 8 = .ok (.iaload, 1) := by decide +kernel
theorem dX4_fillTube_9 : decode cX4_fillTube 9 = .ok (.isub, 1) := by decide +kernel
theorem dX4_fillTube_10 : decode cX4_fillTube 10 = .ok (.invokestatic 44, 3) := by decide +kernel
theorem dX4_fillTube_13 : decode cX4_fillTube 13 = .ok (.istore_n 3, 1) := by decide +kernel
theorem dX4_fillTube_14 : decode cX4_fillTube 14 = .ok (.aload_n 0, 1) := by decide +kernel
theorem dX4_fillTube_15 : decode cX4_fillTube 15 = .ok (.getfield 9, 3) := by decide +kernel
theorem dX4_fillTube_18 : decode cX4_fillTube 18 = .ok (.iload_n 1, 1) := by decide +kernel
theorem dX4_fillTube_19 : decode cX4_fillTube 19 = .ok (.dup2, 1) := by decide +kernel
theorem dX4_fillTube_20 : decode cX4_fillTube 20 = .ok (.iaload, 1) := by decide +kernel
theorem dX4_fillTube_21 : decode cX4_fillTube 21 = .ok (.iload_n 3, 1) := by decide +kernel
theorem dX4_fillTube_22 : decode cX4_fillTube 22 = .ok (.iadd, 1) := by decide +kernel
theorem dX4_fillTube_23 : decode cX4_fillTube 23 = .ok (.iastore, 1) := by decide +kernel
theorem dX4_fillTube_24 : decode cX4_fillTube 24 = .ok (.aload_n 0, 1) := by decide +kernel
theorem dX4_fillTube_25 : decode cX4_fillTube 25 = .ok (.invokevirtual 50, 3) := by decide +kernel
theorem dX4_fillTube_28 : decode cX4_fillTube 28 = .ok (.iload_n 3, 1) := by decide +kernel
theorem dX4_fillTube_29 : decode cX4_fillTube 29 = .ok (.ireturn, 1) := by decide +kernel
theorem dX4_takeIn_0 : decode cX4_takeIn 0 = .ok (.iconst 0, 1) := by decide +kernel
theorem dX4_takeIn_1 : decode cX4_takeIn 1 = .ok (.istore_n 2, 1) := by decide +kernel
theorem dX4_takeIn_2 : decode cX4_takeIn 2 = .ok (.iload_n 2, 1) := by decide +kernel
theorem dX4_takeIn_3 : decode cX4_takeIn 3 = .ok (.iconst 4, 1) := by decide +kernel
theorem dX4_takeIn_4 : decode cX4_takeIn 4 = .ok (.if_icmp .ge 61, 3) := by decide +kernel
theorem dX4_takeIn_7 : decode cX4_takeIn 7 = .ok (.iload_n 2, 1) := by decide +kernel
theorem dX4_takeIn_8 : decode cX4_takeIn 8 = .ok (.aload_n 1, 1) := by decide +kernel
theorem dX4_takeIn_9 : decode cX4_takeIn 9 = .ok (.arraylength, 1) := by decide +kernel
theorem dX4_takeIn_10 : decode cX4_takeIn 10 = .ok (.if_icmp .ge 55, 3) := by decide +kernel
theorem dX4_takeIn_13 : decode cX4_takeIn 13 = .ok (.aload_n 1, 1) := by decide +kernel
theorem dX4_takeIn_14 : decode cX4_takeIn 14 = .ok (.iload_n 2, 1) := by decide +kernel
theorem dX4_takeIn_15 : decode cX4_takeIn 15 = .ok (.iaload, 1) := by decide +kernel
theorem dX4_takeIn_16 : decode cX4_takeIn 16 = .ok (.bipush 30, 2) := by decide +kernel
theorem dX4_takeIn_18 : decode cX4_takeIn 18 = .ok (.aload_n 0, 1) := by decide +kernel
theorem dX4_takeIn_19 : decode cX4_takeIn 19 = .ok (.getfield 9, 3) := by decide +kernel
theorem dX4_takeIn_22 : decode cX4_takeIn 22 = .ok (.iload_n 2, 1) := by decide +kernel
theorem dX4_takeIn_23 : decode cX4_takeIn 23 = .ok (.iaload, 1) := by decide +kernel
theorem dX4_takeIn_24 : decode cX4_takeIn 24 = .ok (.isub, 1) := by decide +kernel
theorem dX4_takeIn_25 : decode cX4_takeIn 25 = .ok (.invokestatic 44, 3) := by decide +kernel
theorem dX4_takeIn_28 : decode cX4_takeIn 28 = .ok (.istore_n 3, 1) := by decide +kernel
theorem dX4_takeIn_29 : decode cX4_takeIn 29 = .ok (.aload_n 0, 1) := by decide +kernel
theorem dX4_takeIn_30 : decode cX4_takeIn 30 = .ok (.getfield 9, 3) := by decide +kernel
theorem dX4_takeIn_33 : decode cX4_takeIn 33 = .ok (.iload_n 2, 1) := by decide +kernel
theorem dX4_takeIn_34 : decode cX4_takeIn 34 = .ok (.dup2, 1) := by decide +kernel
theorem dX4_takeIn_35 : decode cX4_takeIn 35 = .ok (.iaload, 1) := by decide +kernel
theorem dX4_takeIn_36 : decode cX4_takeIn 36 = .ok (.iload_n 3, 1) := by decide +kernel
theorem dX4_takeIn_37 : decode cX4_takeIn 37 = .ok (.iadd, 1) := by decide +kernel
theorem dX4_takeIn_38 : decode cX4_takeIn 38 = .ok (.iastore, 1) := by decide +kernel
theorem dX4_takeIn_39 : decode cX4_takeIn 39 = .ok (.aload_n 0, 1) := by decide +kernel
theorem dX4_takeIn_40 : decode cX4_takeIn 40 = .ok (.dup, 1) := by decide +kernel
theorem dX4_takeIn_41 : decode cX4_takeIn 41 = .ok (.getfield 25, 3) := by decide +kernel
theorem dX4_takeIn_44 : decode cX4_takeIn 44 = .ok (.aload_n 1, 1) := by decide +kernel
theorem dX4_takeIn_45 : decode cX4_takeIn 45 = .ok (.iload_n 2, 1) := by decide +kernel
theorem dX4_takeIn_46 : decode cX4_takeIn 46 = .ok (.iaload, 1) := by decide +kernel
theorem dX4_takeIn_47 : decode cX4_takeIn 47 = .ok (.iload_n 3, 1) := by decide +kernel
theorem dX4_takeIn_48 : decode cX4_takeIn 48 = .ok (.isub, 1) := by decide +kernel
theorem dX4_takeIn_49 : decode cX4_takeIn 49 = .ok (.getstatic 53, 3) := by decide +kernel
theorem dX4_takeIn_52 : decode cX4_takeIn 52 = .ok (.iload_n 2, 1) := by decide +kernel
theorem dX4_takeIn_53 : decode cX4_takeIn 53 = .ok (.iaload, 1) := by decide +kernel
theorem dX4_takeIn_54 : decode cX4_takeIn 54 = .ok (.imul, 1) := by decide +kernel
theorem dX4_takeIn_55 : decode cX4_takeIn 55 = .ok (.iadd, 1) := by decide +kernel
theorem dX4_takeIn_56 : decode cX4_takeIn 56 = .ok (.putfield 25, 3) := by decide +kernel
theorem dX4_takeIn_59 : decode cX4_takeIn 59 = .ok (.iinc 2 1, 3) := by decide +kernel
theorem dX4_takeIn_62 : decode cX4_takeIn 62 = .ok (.goto (-60), 3) := by decide +kernel
theorem dX4_takeIn_65 : decode cX4_takeIn 65 = .ok (.return_, 1) := by decide +kernel
theorem dX4_takeBox_0 : decode cX4_takeBox 0 = .ok (.aload_n 0, 1) := by decide +kernel
theorem dX4_takeBox_1 : decode cX4_takeBox 1 = .ok (.getfield 25, 3) := by decide +kernel
theorem dX4_takeBox_4 : decode cX4_takeBox 4 = .ok (.istore_n 1, 1) := by decide +kernel
theorem dX4_takeBox_5 : decode cX4_takeBox 5 = .ok (.aload_n 0, 1) := by decide +kernel
theorem dX4_takeBox_6 : decode cX4_takeBox 6 = .ok (.iconst 0, 1) := by decide +kernel
theorem dX4_takeBox_7 : decode cX4_takeBox 7 = .ok (.putfield 25, 3) := by decide +kernel
theorem dX4_takeBox_10 : decode cX4_takeBox 10 = .ok (.iload_n 1, 1) := by decide +kernel
theorem dX4_takeBox_11 : decode cX4_takeBox 11 = .ok (.ireturn, 1) := by decide +kernel
theorem dX4_canPay_0 : decode cX4_canPay 0 = .ok (.aload_n 0, 1) := by decide +kernel
theorem dX4_canPay_1 : decode cX4_canPay 1 = .ok (.getfield 9, 3) := by decide +kernel
theorem dX4_canPay_4 : decode cX4_canPay 4 = .ok (.iconst 0, 1) := by decide +kernel
theorem dX4_canPay_5 : decode cX4_canPay 5 = .ok (.aload_n 0, 1) := by decide +kernel
theorem dX4_canPay_6 : decode cX4_canPay 6 = .ok (.getfield 21, 3) := by decide +kernel
theorem dX4_canPay_9 : decode cX4_canPay 9 = .ok (.getfield 56, 3) := by decide +kernel
theorem dX4_canPay_12 : decode cX4_canPay 12 = .ok (.iconst 0, 1) := by decide +kernel
theorem dX4_canPay_13 : decode cX4_canPay 13 = .ok (.iconst 4, 1) := by decide +kernel
theorem dX4_canPay_14 : decode cX4_canPay 14 = .ok (.invokestatic 38, 3) := by decide +kernel
theorem dX4_canPay_17 : decode cX4_canPay 17 = .ok (.aload_n 0, 1) := by decide +kernel
theorem dX4_canPay_18 : decode cX4_canPay 18 = .ok (.getfield 21, 3) := by decide +kernel
theorem dX4_canPay_21 : decode cX4_canPay 21 = .ok (.iload_n 1, 1) := by decide +kernel
theorem dX4_canPay_22 : decode cX4_canPay 22 = .ok (.invokevirtual 59, 3) := by decide +kernel
theorem dX4_canPay_25 : decode cX4_canPay 25 = .ok (.ireturn, 1) := by decide +kernel
theorem dX4_canPayWithCoin_0 : decode cX4_canPayWithCoin 0 = .ok (.aload_n 0, 1) := by decide +kernel
theorem dX4_canPayWithCoin_1 : decode cX4_canPayWithCoin 1 = .ok (.getfield 9, 3) := by decide +kernel
theorem dX4_canPayWithCoin_4 : decode cX4_canPayWithCoin 4 = .ok (.iconst 0, 1) := by decide +kernel
theorem dX4_canPayWithCoin_5 : decode cX4_canPayWithCoin 5 = .ok (.aload_n 0, 1) := by decide +kernel
theorem dX4_canPayWithCoin_6 : decode cX4_canPayWithCoin 6 = .ok (.getfield 21, 3) := by decide +kernel
theorem dX4_canPayWithCoin_9 : decode cX4_canPayWithCoin 9 = .ok (.getfield 56, 3) := by decide +kernel
theorem dX4_canPayWithCoin_12 : decode cX4_canPayWithCoin 12 = .ok (.iconst 0, 1) := by decide +kernel
theorem dX4_canPayWithCoin_13 : decode cX4_canPayWithCoin 13 = .ok (.iconst 4, 1) := by decide +kernel
theorem dX4_canPayWithCoin_14 : decode cX4_canPayWithCoin 14 = .ok (.invokestatic 38, 3) := by decide +kernel
theorem dX4_canPayWithCoin_17 : decode cX4_canPayWithCoin 17 = .ok (.aload_n 0, 1) := by decide +kernel
theorem dX4_canPayWithCoin_18 : decode cX4_canPayWithCoin 18 = .ok (.getfield 21, 3) := by decide +kernel
theorem dX4_canPayWithCoin_21 : decode cX4_canPayWithCoin 21 = .ok (.getfield 56, 3) := by decide +kernel
theorem dX4_canPayWithCoin_24 : decode cX4_canPayWithCoin 24 = .ok (.iload_n 2, 1) := by decide +kernel
theorem dX4_canPayWithCoin_25 : decode cX4_canPayWithCoin 25 = .ok (.dup2, 1) := by decide +kernel
theorem dX4_canPayWithCoin_26 : decode cX4_canPayWithCoin 26 = .ok (.iaload, 1) := by decide +kernel
theorem dX4_canPayWithCoin_27 : decode cX4_canPayWithCoin 27 = .ok (.iconst 1, 1) := by decide +kernel
theorem dX4_canPayWithCoin_28 : decode cX4_canPayWithCoin 28 = .ok (.iadd, 1) := by decide +kernel
theorem dX4_canPayWithCoin_29 : decode cX4_canPayWithCoin 29 = .ok (.iastore, 1) := by decide +kernel
theorem dX4_canPayWithCoin_30 : decode cX4_canPayWithCoin 30 = .ok (.aload_n 0, 1) := by decide +kernel
theorem dX4_canPayWithCoin_31 : decode cX4_canPayWithCoin 31 = .ok (.getfield 21, 3) := by decide +kernel
theorem dX4_canPayWithCoin_34 : decode cX4_canPayWithCoin 34 = .ok (.iload_n 1, 1) := by decide +kernel
theorem dX4_canPayWithCoin_35 : decode cX4_canPayWithCoin 35 = .ok (.invokevirtual 59, 3) := by decide +kernel
theorem dX4_canPayWithCoin_38 : decode cX4_canPayWithCoin 38 = .ok (.ireturn, 1) := by decide +kernel
theorem dX4_canPayAfter_0 : decode cX4_canPayAfter 0 = .ok (.iconst 0, 1) := by decide +kernel
theorem dX4_canPayAfter_1 : decode cX4_canPayAfter 1 = .ok (.istore_n 3, 1) := by decide +kernel
theorem dX4_canPayAfter_2 : decode cX4_canPayAfter 2 = .ok (.iload_n 3, 1) := by decide +kernel
theorem dX4_canPayAfter_3 : decode cX4_canPayAfter 3 = .ok (.iconst 4, 1) := by decide +kernel
theorem dX4_canPayAfter_4 : decode cX4_canPayAfter 4 = .ok (.if_icmp .ge 39, 3) := by decide +kernel
theorem dX4_canPayAfter_7 : decode cX4_canPayAfter 7 = .ok (.iload_n 3, 1) := by decide +kernel
theorem dX4_canPayAfter_8 : decode cX4_canPayAfter 8 = .ok (.aload_n 1, 1) := by decide +kernel
theorem dX4_canPayAfter_9 : decode cX4_canPayAfter 9 = .ok (.arraylength, 1) := by decide +kernel
theorem dX4_canPayAfter_10 : decode cX4_canPayAfter 10 = .ok (.if_icmp .ge 33, 3) := by decide +kernel
theorem dX4_canPayAfter_13 : decode cX4_canPayAfter 13 = .ok (.aload_n 0, 1) := by decide +kernel
theorem dX4_canPayAfter_14 : decode cX4_canPayAfter 14 = .ok (.getfield 21, 3) := by decide +kernel
theorem dX4_canPayAfter_17 : decode cX4_canPayAfter 17 = .ok (.getfield 56, 3) := by decide +kernel
theorem dX4_canPayAfter_20 : decode cX4_canPayAfter 20 = .ok (.iload_n 3, 1) := by decide +kernel
theorem dX4_canPayAfter_21 : decode cX4_canPayAfter 21 = .ok (.bipush 30, 2) := by decide +kernel
theorem dX4_canPayAfter_23 : decode cX4_canPayAfter 23 = .ok (.aload_n 0, 1) := by decide +kernel
theorem dX4_canPayAfter_24 : decode cX4_canPayAfter 24 = .ok (.getfield 9, 3) := by decide +kernel
theorem dX4_canPayAfter_27 : decode cX4_canPayAfter 27 = .ok (.iload_n 3, 1) := by decide +kernel
theorem dX4_canPayAfter_28 : decode cX4_canPayAfter 28 = .ok (.iaload, 1) := by decide +kernel
theorem dX4_canPayAfter_29 : decode cX4_canPayAfter 29 = .ok (.aload_n 1, 1) := by decide +kernel
theorem dX4_canPayAfter_30 : decode cX4_canPayAfter 30 = .ok (.iload_n 3, 1) := by decide +kernel
theorem dX4_canPayAfter_31 : decode cX4_canPayAfter 31 = .ok (.iaload, 1) := by decide +kernel
theorem dX4_canPayAfter_32 : decode cX4_canPayAfter 32 = .ok (.iadd, 1) := by decide +kernel
theorem dX4_canPayAfter_33 : decode cX4_canPayAfter 33 = .ok (.invokestatic 44, 3) := by decide +kernel
theorem dX4_canPayAfter_36 : decode cX4_canPayAfter 36 = .ok (.iastore, 1) := by decide +kernel
theorem dX4_canPayAfter_37 : decode cX4_canPayAfter 37 = .ok (.iinc 3 1, 3) := by decide +kernel
theorem dX4_canPayAfter_40 : decode cX4_canPayAfter 40 = .ok (.goto (-38), 3) := by decide +kernel
theorem dX4_canPayAfter_43 : decode cX4_canPayAfter 43 = .ok (.aload_n 0, 1) := by decide +kernel
theorem dX4_canPayAfter_44 : decode cX4_canPayAfter 44 = .ok (.getfield 21, 3) := by decide +kernel
theorem dX4_canPayAfter_47 : decode cX4_canPayAfter 47 = .ok (.iload_n 2, 1) := by decide +kernel
theorem dX4_canPayAfter_48 : decode cX4_canPayAfter 48 = .ok (.invokevirtual 59, 3) := by decide +kernel
theorem dX4_canPayAfter_51 : decode cX4_canPayAfter 51 = .ok (.ireturn, 1) := by decide +kernel
theorem dX4_payOut_0 : decode cX4_payOut 0 = .ok (.iconst 0, 1) := by decide +kernel
theorem dX4_payOut_1 : decode cX4_payOut 1 = .ok (.istore_n 1, 1) := by decide +kernel
theorem dX4_payOut_2 : decode cX4_payOut 2 = .ok (.iload_n 1, 1) := by decide +kernel
theorem dX4_payOut_3 : decode cX4_payOut 3 = .ok (.iconst 4, 1) := by decide +kernel
theorem dX4_payOut_4 : decode cX4_payOut 4 = .ok (.if_icmp .ge 27, 3) := by decide +kernel
theorem dX4_payOut_7 : decode cX4_payOut 7 = .ok (.aload_n 0, 1) := by decide +kernel
theorem dX4_payOut_8 : decode cX4_payOut 8 = .ok (.getfield 9, 3) := by decide +kernel
theorem dX4_payOut_11 : decode cX4_payOut 11 = .ok (.iload_n 1, 1) := by decide +kernel
theorem dX4_payOut_12 : decode cX4_payOut 12 = .ok (.dup2, 1) := by decide +kernel
theorem dX4_payOut_13 : decode cX4_payOut 13 = .ok (.iaload, 1) := by decide +kernel
theorem dX4_payOut_14 : decode cX4_payOut 14 = .ok (.aload_n 0, 1) := by decide +kernel
theorem dX4_payOut_15 : decode cX4_payOut 15 = .ok (.getfield 21, 3) := by decide +kernel
theorem dX4_payOut_18 : decode cX4_payOut 18 = .ok (.getfield 63, 3) := by decide +kernel
theorem dX4_payOut_21 : decode cX4_payOut 21 = .ok (.iload_n 1, 1) := by decide +kernel
theorem dX4_payOut_22 : decode cX4_payOut 22 = .ok (.iaload, 1) := by decide +kernel
theorem dX4_payOut_23 : decode cX4_payOut 23 = .ok (.isub, 1) := by decide +kernel
theorem dX4_payOut_24 : decode cX4_payOut 24 = .ok (.iastore, 1) := by decide +kernel
theorem dX4_payOut_25 : decode cX4_payOut 25 = .ok (.iinc 1 1, 3) := by decide +kernel
theorem dX4_payOut_28 : decode cX4_payOut 28 = .ok (.goto (-26), 3) := by decide +kernel
theorem dX4_payOut_31 : decode cX4_payOut 31 = .ok (.return_, 1) := by decide +kernel
theorem dX4_addPromise_0 : decode cX4_addPromise 0 = .ok (.aload_n 0, 1) := by decide +kernel
theorem dX4_addPromise_1 : decode cX4_addPromise 1 = .ok (.getfield 29, 3) := by decide +kernel
theorem dX4_addPromise_4 : decode cX4_addPromise 4 = .ok (.sipush 200, 3) := by decide +kernel
theorem dX4_addPromise_7 : decode cX4_addPromise 7 = .ok (.if_icmp .ge 33, 3) := by decide +kernel
theorem dX4_addPromise_10 : decode cX4_addPromise 10 = .ok (.aload_n 0, 1) := by decide +kernel
theorem dX4_addPromise_11 : decode cX4_addPromise 11 = .ok (.getfield 15, 3) := by decide +kernel
theorem dX4_addPromise_14 : decode cX4_addPromise 14 = .ok (.aload_n 0, 1) := by decide +kernel
theorem dX4_addPromise_15 : decode cX4_addPromise 15 = .ok (.getfield 29, 3) := by decide +kernel
theorem dX4_addPromise_18 : decode cX4_addPromise 18 = .ok (.iload_n 1, 1) := by decide +kernel
theorem dX4_addPromise_19 : decode cX4_addPromise 19 = .ok (.iastore, 1) := by decide +kernel
theorem dX4_addPromise_20 : decode cX4_addPromise 20 = .ok (.aload_n 0, 1) := by decide +kernel
theorem dX4_addPromise_21 : decode cX4_addPromise 21 = .ok (.dup, 1) := by decide +kernel
theorem dX4_addPromise_22 : decode cX4_addPromise 22 = .ok (.getfield 29, 3) := by decide +kernel
theorem dX4_addPromise_25 : decode cX4_addPromise 25 = .ok (.iconst 1, 1) := by decide +kernel
theorem dX4_addPromise_26 : decode cX4_addPromise 26 = .ok (.iadd, 1) := by decide +kernel
theorem dX4_addPromise_27 : decode cX4_addPromise 27 = .ok (.putfield 29, 3) := by decide +kernel
theorem dX4_addPromise_30 : decode cX4_addPromise 30 = .ok (.aload_n 0, 1) := by decide +kernel
theorem dX4_addPromise_31 : decode cX4_addPromise 31 = .ok (.dup, 1) := by decide +kernel
theorem dX4_addPromise_32 : decode cX4_addPromise 32 = .ok (.getfield 32, 3) := by decide +kernel
theorem dX4_addPromise_35 : decode cX4_addPromise 35 = .ok (.iload_n 1, 1) := by decide +kernel
theorem dX4_addPromise_36 : decode cX4_addPromise 36 = .ok (.iadd, 1) := by decide +kernel
theorem dX4_addPromise_37 : decode cX4_addPromise 37 = .ok (.putfield 32, 3) := by decide +kernel
theorem dX4_addPromise_40 : decode cX4_addPromise 40 = .ok (.return_, 1) := by decide +kernel
theorem dX4_payPromises_0 : decode cX4_payPromises 0 = .ok (.iconst 0, 1) := by decide +kernel
theorem dX4_payPromises_1 : decode cX4_payPromises 1 = .ok (.istore_n 1, 1) := by decide +kernel
theorem dX4_payPromises_2 : decode cX4_payPromises 2 = .ok (.iload_n 1, 1) := by decide +kernel
theorem dX4_payPromises_3 : decode cX4_payPromises 3 = .ok (.aload_n 0, 1) := by decide +kernel
theorem dX4_payPromises_4 : decode cX4_payPromises 4 = .ok (.getfield 29, 3) := by decide +kernel
theorem dX4_payPromises_7 : decode cX4_payPromises 7 = .ok (.if_icmp .ge 63, 3) := by decide +kernel
theorem dX4_payPromises_10 : decode cX4_payPromises 10 = .ok (.iload_n 1, 1) := by decide +kernel
theorem dX4_payPromises_11 : decode cX4_payPromises 11 = .ok (.sipush 200, 3) := by decide +kernel
theorem dX4_payPromises_14 : decode cX4_payPromises 14 = .ok (.if_icmp .ge 56, 3) := by decide +kernel
theorem dX4_payPromises_17 : decode cX4_payPromises 17 = .ok (.aload_n 0, 1) := by decide +kernel
theorem dX4_payPromises_18 : decode cX4_payPromises 18 = .ok (.aload_n 0, 1) := by decide +kernel
theorem dX4_payPromises_19 : decode cX4_payPromises 19 = .ok (.getfield 15, 3) := by decide +kernel
theorem dX4_payPromises_22 : decode cX4_payPromises 22 = .ok (.iload_n 1, 1) := by decide +kernel
theorem dX4_payPromises_23 : decode cX4_payPromises 23 = .ok (.iaload, 1) := by decide +kernel
theorem dX4_payPromises_24 : decode cX4_payPromises 24 = .ok (.invokevirtual 66, 3) := by decide +kernel
theorem dX4_payPromises_27 : decode cX4_payPromises 27 = .ok (.ifCond .eq 43, 3) := by decide +kernel
theorem dX4_payPromises_30 : decode cX4_payPromises 30 = .ok (.aload_n 0, 1) := by decide +kernel
theorem dX4_payPromises_31 : decode cX4_payPromises 31 = .ok (.invokevirtual 69, 3) := by decide +kernel
theorem dX4_payPromises_34 : decode cX4_payPromises 34 = .ok (.aload_n 0, 1) := by decide +kernel
theorem dX4_payPromises_35 : decode cX4_payPromises 35 = .ok (.dup, 1) := by decide +kernel
theorem dX4_payPromises_36 : decode cX4_payPromises 36 = .ok (.getfield 32, 3) := by decide +kernel
theorem dX4_payPromises_39 : decode cX4_payPromises 39 = .ok (.aload_n 0, 1) := by decide +kernel
theorem dX4_payPromises_40 : decode cX4_payPromises 40 = .ok (.getfield 15, 3) := by decide +kernel
theorem dX4_payPromises_43 : decode cX4_payPromises 43 = .ok (.iload_n 1, 1) := by decide +kernel
theorem dX4_payPromises_44 : decode cX4_payPromises 44 = .ok (.iaload, 1) := by decide +kernel
theorem dX4_payPromises_45 : decode cX4_payPromises 45 = .ok (.isub, 1) := by decide +kernel
theorem dX4_payPromises_46 : decode cX4_payPromises 46 = .ok (.putfield 32, 3) := by decide +kernel
theorem dX4_payPromises_49 : decode cX4_payPromises 49 = .ok (.aload_n 0, 1) := by decide +kernel
theorem dX4_payPromises_50 : decode cX4_payPromises 50 = .ok (.dup, 1) := by decide +kernel
theorem dX4_payPromises_51 : decode cX4_payPromises 51 = .ok (.getfield 35, 3) := by decide +kernel
theorem dX4_payPromises_54 : decode cX4_payPromises 54 = .ok (.aload_n 0, 1) := by decide +kernel
theorem dX4_payPromises_55 : decode cX4_payPromises 55 = .ok (.getfield 15, 3) := by decide +kernel
theorem dX4_payPromises_58 : decode cX4_payPromises 58 = .ok (.iload_n 1, 1) := by decide +kernel
theorem dX4_payPromises_59 : decode cX4_payPromises 59 = .ok (.iaload, 1) := by decide +kernel
theorem dX4_payPromises_60 : decode cX4_payPromises 60 = .ok (.iadd, 1) := by decide +kernel
theorem dX4_payPromises_61 : decode cX4_payPromises 61 = .ok (.putfield 35, 3) := by decide +kernel
theorem dX4_payPromises_64 : decode cX4_payPromises 64 = .ok (.iinc 1 1, 3) := by decide +kernel
theorem dX4_payPromises_67 : decode cX4_payPromises 67 = .ok (.goto (-65), 3) := by decide +kernel
theorem dX4_payPromises_70 : decode cX4_payPromises 70 = .ok (.iload_n 1, 1) := by decide +kernel
theorem dX4_payPromises_71 : decode cX4_payPromises 71 = .ok (.ifCond .le 32, 3) := by decide +kernel
theorem dX4_payPromises_74 : decode cX4_payPromises 74 = .ok (.aload_n 0, 1) := by decide +kernel
theorem dX4_payPromises_75 : decode cX4_payPromises 75 = .ok (.getfield 15, 3) := by decide +kernel
theorem dX4_payPromises_78 : decode cX4_payPromises 78 = .ok (.iload_n 1, 1) := by decide +kernel
theorem dX4_payPromises_79 : decode cX4_payPromises 79 = .ok (.aload_n 0, 1) := by decide +kernel
theorem dX4_payPromises_80 : decode cX4_payPromises 80 = .ok (.getfield 15, 3) := by decide +kernel
theorem dX4_payPromises_83 : decode cX4_payPromises 83 = .ok (.iconst 0, 1) := by decide +kernel
theorem dX4_payPromises_84 : decode cX4_payPromises 84 = .ok (.aload_n 0, 1) := by decide +kernel
theorem dX4_payPromises_85 : decode cX4_payPromises 85 = .ok (.getfield 29, 3) := by decide +kernel
theorem dX4_payPromises_88 : decode cX4_payPromises 88 = .ok (.iload_n 1, 1) := by decide +kernel
theorem dX4_payPromises_89 : decode cX4_payPromises 89 = .ok (.isub, 1) := by decide +kernel
theorem dX4_payPromises_90 : decode cX4_payPromises 90 = .ok (.invokestatic 38, 3) := by decide +kernel
theorem dX4_payPromises_93 : decode cX4_payPromises 93 = .ok (.aload_n 0, 1) := by decide +kernel
theorem dX4_payPromises_94 : decode cX4_payPromises 94 = .ok (.dup, 1) := by decide +kernel
theorem dX4_payPromises_95 : decode cX4_payPromises 95 = .ok (.getfield 29, 3) := by decide +kernel
theorem dX4_payPromises_98 : decode cX4_payPromises 98 = .ok (.iload_n 1, 1) := by decide +kernel
theorem dX4_payPromises_99 : decode cX4_payPromises 99 = .ok (.isub, 1) := by decide +kernel
theorem dX4_payPromises_100 : decode cX4_payPromises 100 = .ok (.putfield 29, 3) := by decide +kernel
theorem dX4_payPromises_103 : decode cX4_payPromises 103 = .ok (.return_, 1) := by decide +kernel
theorem dX5_init_0 : decode cX5_init 0 = .ok (.aload_n 0, 1) := by decide +kernel
theorem dX5_init_1 : decode cX5_init 1 = .ok (.invokespecial 1, 3) := by decide +kernel
theorem dX5_init_4 : decode cX5_init 4 = .ok (.aload_n 0, 1) := by decide +kernel
theorem dX5_init_5 : decode cX5_init 5 = .ok (.new 7, 3) := by decide +kernel
theorem dX5_init_8 : decode cX5_init 8 = .ok (.dup, 1) := by decide +kernel
theorem dX5_init_9 : decode cX5_init 9 = .ok (.invokespecial 9, 3) := by decide +kernel
theorem dX5_init_12 : decode cX5_init 12 = .ok (.putfield 10, 3) := by decide +kernel
theorem dX5_init_15 : decode cX5_init 15 = .ok (.aload_n 0, 1) := by decide +kernel
theorem dX5_init_16 : decode cX5_init 16 = .ok (.new 7, 3) := by decide +kernel
theorem dX5_init_19 : decode cX5_init 19 = .ok (.dup, 1) := by decide +kernel
theorem dX5_init_20 : decode cX5_init 20 = .ok (.invokespecial 9, 3) := by decide +kernel
theorem dX5_init_23 : decode cX5_init 23 = .ok (.putfield 16, 3) := by decide +kernel
theorem dX5_init_26 : decode cX5_init 26 = .ok (.aload_n 0, 1) := by decide +kernel
theorem dX5_init_27 : decode cX5_init 27 = .ok (.iconst 4, 1) := by decide +kernel
theorem dX5_init_28 : decode cX5_init 28 = .ok (.anewarray 7, 3) := by decide +kernel
theorem dX5_init_31 : decode cX5_init 31 = .ok (.putfield 19, 3) := by decide +kernel
theorem dX5_init_34 : decode cX5_init 34 = .ok (.aload_n 0, 1) := by decide +kernel
theorem dX5_init_35 : decode cX5_init 35 = .ok (.iconst 0, 1) := by decide +kernel
theorem dX5_init_36 : decode cX5_init 36 = .ok (.putfield 23, 3) := by decide +kernel
theorem dX5_init_39 : decode cX5_init 39 = .ok (.aload_n 0, 1) := by decide +kernel
theorem dX5_init_40 : decode cX5_init 40 = .ok (.new 27, 3) := by decide +kernel
theorem dX5_init_43 : decode cX5_init 43 = .ok (.dup, 1) := by decide +kernel
theorem dX5_init_44 : decode cX5_init 44 = .ok (.invokespecial 29, 3) := by decide +kernel
theorem dX5_init_47 : decode cX5_init 47 = .ok (.putfield 30, 3) := by decide +kernel
theorem dX5_init_50 : decode cX5_init 50 = .ok (.aload_n 0, 1) := by decide +kernel
theorem dX5_init_51 : decode cX5_init 51 = .ok (.iconst 4, 1) := by decide +kernel
theorem dX5_init_52 : decode cX5_init 52 = .ok (.newarray .int, 2) := by decide +kernel
theorem dX5_init_54 : decode cX5_init 54 = .ok (.putfield 34, 3) := by decide +kernel
theorem dX5_init_57 : decode cX5_init 57 = .ok (.iconst 0, 1) := by decide +kernel
theorem dX5_init_58 : decode cX5_init 58 = .ok (.istore_n 1, 1) := by decide +kernel
theorem dX5_init_59 : decode cX5_init 59 = .ok (.iload_n 1, 1) := by decide +kernel
theorem dX5_init_60 : decode cX5_init 60 = .ok (.iconst 4, 1) := by decide +kernel
theorem dX5_init_61 : decode cX5_init 61 = .ok (.if_icmp .ge 22, 3) := by decide +kernel
theorem dX5_init_64 : decode cX5_init 64 = .ok (.aload_n 0, 1) := by decide +kernel
theorem dX5_init_65 : decode cX5_init 65 = .ok (.getfield 19, 3) := by decide +kernel
theorem dX5_init_68 : decode cX5_init 68 = .ok (.iload_n 1, 1) := by decide +kernel
theorem dX5_init_69 : decode cX5_init 69 = .ok (.new 7, 3) := by decide +kernel
theorem dX5_init_72 : decode cX5_init 72 = .ok (.dup, 1) := by decide +kernel
theorem dX5_init_73 : decode cX5_init 73 = .ok (.invokespecial 9, 3) := by decide +kernel
theorem dX5_init_76 : decode cX5_init 76 = .ok (.aastore, 1) := by decide +kernel
theorem dX5_init_77 : decode cX5_init 77 = .ok (.iinc 1 1, 3) := by decide +kernel
theorem dX5_init_80 : decode cX5_init 80 = .ok (.goto (-21), 3) := by decide +kernel
theorem dX5_init_83 : decode cX5_init 83 = .ok (.return_, 1) := by decide +kernel
theorem dX5_set_0 : decode cX5_set 0 = .ok (.iload_n 1, 1) := by decide +kernel
theorem dX5_set_1 : decode cX5_set 1 = .ok (.iconst 0, 1) := by decide +kernel
theorem dX5_set_2 : decode cX5_set 2 = .ok (.iconst 4, 1) := by decide +kernel
theorem dX5_set_3 : decode cX5_set 3 = .ok (.invokestatic 38, 3) := by decide +kernel
theorem dX5_set_6 : decode cX5_set 6 = .ok (.ifCond .ne 13, 3) := by decide +kernel
theorem dX5_set_9 : decode cX5_set 9 = .ok (.new 42, 3) := by decide +kernel
theorem dX5_set_12 : decode cX5_set 12 = .ok (.dup, 1) := by decide +kernel
theorem dX5_set_13 : decode cX5_set 13 = .ok (.ldc 44, 2) := by decide +kernel
theorem dX5_set_15 : decode cX5_set 15 = .ok (.invokespecial 46, 3) := by decide +kernel
theorem dX5_set_18 : decode cX5_set 18 = .ok (.athrow, 1) := by decide +kernel
theorem dX5_set_19 : decode cX5_set 19 = .ok (.iload_n 2, 1) := by decide +kernel
theorem dX5_set_20 : decode cX5_set 20 = .ok (.getstatic 49, 3) := by decide +kernel
theorem dX5_set_23 : decode cX5_set 23 = .ok (.iload_n 1, 1) := by decide +kernel
theorem dX5_set_24 : decode cX5_set 24 = .ok (.iaload, 1) := by decide +kernel
theorem dX5_set_25 : decode cX5_set 25 = .ok (.getstatic 52, 3) := by decide +kernel
theorem dX5_set_28 : decode cX5_set 28 = .ok (.iload_n 1, 1) := by decide +kernel
theorem dX5_set_29 : decode cX5_set 29 = .ok (.iaload, 1) := by decide +kernel
theorem dX5_set_30 : decode cX5_set 30 = .ok (.getstatic 55, 3) := by decide +kernel
theorem dX5_set_33 : decode cX5_set 33 = .ok (.iload_n 1, 1) := by decide +kernel
theorem dX5_set_34 : decode cX5_set 34 = .ok (.iaload, 1) := by decide +kernel
theorem dX5_set_35 : decode cX5_set 35 = .ok (.invokestatic 58, 3) := by decide +kernel
theorem dX5_set_38 : decode cX5_set 38 = .ok (.ifCond .ne 13, 3) := by decide +kernel
theorem dX5_set_41 : decode cX5_set 41 = .ok (.new 42, 3) := by decide +kernel
theorem dX5_set_44 : decode cX5_set 44 = .ok (.dup, 1) := by decide +kernel
theorem dX5_set_45 : decode cX5_set 45 = .ok (.ldc 62, 2) := by decide +kernel
theorem dX5_set_47 : decode cX5_set 47 = .ok (.invokespecial 46, 3) := by decide +kernel
theorem dX5_set_50 : decode cX5_set 50 = .ok (.athrow, 1) := by decide +kernel
theorem dX5_set_51 : decode cX5_set 51 = .ok (.aload_n 0, 1) := by decide +kernel
theorem dX5_set_52 : decode cX5_set 52 = .ok (.invokevirtual 64, 3) := by decide +kernel
theorem dX5_set_55 : decode cX5_set 55 = .ok (.aload_n 0, 1) := by decide +kernel
theorem dX5_set_56 : decode cX5_set 56 = .ok (.getfield 10, 3) := by decide +kernel
theorem dX5_set_59 : decode cX5_set 59 = .ok (.iload_n 1, 1) := by decide +kernel
theorem dX5_set_60 : decode cX5_set 60 = .ok (.iload_n 2, 1) := by decide +kernel
theorem dX5_set_61 : decode cX5_set 61 = .ok (.invokevirtual 67, 3) := by decide +kernel
theorem dX5_set_64 : decode cX5_set 64 = .ok (.ireturn, 1) := by decide +kernel
theorem dX5_addCoil_0 : decode cX5_addCoil 0 = .ok (.iload_n 1, 1) := by decide +kernel
theorem dX5_addCoil_1 : decode cX5_addCoil 1 = .ok (.iconst 0, 1) := by decide +kernel
theorem dX5_addCoil_2 : decode cX5_addCoil 2 = .ok (.iconst 5, 1) := by decide +kernel
theorem dX5_addCoil_3 : decode cX5_addCoil 3 = .ok (.invokestatic 38, 3) := by decide +kernel
theorem dX5_addCoil_6 : decode cX5_addCoil 6 = .ok (.ifCond .ne 13, 3) := by decide +kernel
theorem dX5_addCoil_9 : decode cX5_addCoil 9 = .ok (.new 42, 3) := by decide +kernel
theorem dX5_addCoil_12 : decode cX5_addCoil 12 = .ok (.dup, 1) := by decide +kernel
theorem dX5_addCoil_13 : decode cX5_addCoil 13 = .ok (.ldc 71, 2) := by decide +kernel
theorem dX5_addCoil_15 : decode cX5_addCoil 15 = .ok (.invokespecial 46, 3) := by decide +kernel
theorem dX5_addCoil_18 : decode cX5_addCoil 18 = .ok (.athrow, 1) := by decide +kernel
theorem dX5_addCoil_19 : decode cX5_addCoil 19 = .ok (.iload_n 2, 1) := by decide +kernel
theorem dX5_addCoil_20 : decode cX5_addCoil 20 = .ok (.iconst 5, 1) := by decide +kernel
theorem dX5_addCoil_21 : decode cX5_addCoil 21 = .ok (.iconst 5, 1) := by decide +kernel
theorem dX5_addCoil_22 : decode cX5_addCoil 22 = .ok (.sipush 500, 3) := by decide +kernel
theorem dX5_addCoil_25 : decode cX5_addCoil 25 = .ok (.invokestatic 58, 3) := by decide +kernel
theorem dX5_addCoil_28 : decode cX5_addCoil 28 = .ok (.ifCond .ne 13, 3) := by decide +kernel
theorem dX5_addCoil_31 : decode cX5_addCoil 31 = .ok (.new 42, 3) := by decide +kernel
theorem dX5_addCoil_34 : decode cX5_addCoil 34 = .ok (.dup, 1) := by decide +kernel
theorem dX5_addCoil_35 : decode cX5_addCoil 35 = .ok (.ldc 73, 2) := by decide +kernel
theorem dX5_addCoil_37 : decode cX5_addCoil 37 = .ok (.invokespecial 46, 3) := by decide +kernel
theorem dX5_addCoil_40 : decode cX5_addCoil 40 = .ok (.athrow, 1) := by decide +kernel
theorem dX5_addCoil_41 : decode cX5_addCoil 41 = .ok (.iload_n 3, 1) := by decide +kernel
theorem dX5_addCoil_42 : decode cX5_addCoil 42 = .ok (.iconst 5, 1) := by decide +kernel
theorem dX5_addCoil_43 : decode cX5_addCoil 43 = .ok (.iload_n 2, 1) := by decide +kernel
theorem dX5_addCoil_44 : decode cX5_addCoil 44 = .ok (.sipush 500, 3) := by decide +kernel
theorem dX5_addCoil_47 : decode cX5_addCoil 47 = .ok (.invokestatic 58, 3) := by decide +kernel
theorem dX5_addCoil_50 : decode cX5_addCoil 50 = .ok (.ifCond .ne 13, 3) := by decide +kernel
theorem dX5_addCoil_53 : decode cX5_addCoil 53 = .ok (.new 42, 3) := by decide +kernel
theorem dX5_addCoil_56 : decode cX5_addCoil 56 = .ok (.dup, 1) := by decide +kernel
theorem dX5_addCoil_57 : decode cX5_addCoil 57 = .ok (.ldc 75, 2) := by decide +kernel
theorem dX5_addCoil_59 : decode cX5_addCoil 59 = .ok (.invokespecial 46, 3) := by decide +kernel
theorem dX5_addCoil_62 : decode cX5_addCoil 62 = .ok (.athrow, 1) := by decide +kernel
theorem dX5_addCoil_63 : decode cX5_addCoil 63 = .ok (.aload_n 0, 1) := by decide +kernel
theorem dX5_addCoil_64 : decode cX5_addCoil 64 = .ok (.getfield 10, 3) := by decide +kernel
theorem dX5_addCoil_67 : decode cX5_addCoil 67 = .ok (.invokevirtual 77, 3) := by decide +kernel
theorem dX5_addCoil_70 : decode cX5_addCoil 70 = .ok (.ifCond .ne 13, 3) := by decide +kernel
theorem dX5_addCoil_73 : decode cX5_addCoil 73 = .ok (.new 81, 3) := by decide +kernel
theorem dX5_addCoil_76 : decode cX5_addCoil 76 = .ok (.dup, 1) := by decide +kernel
theorem dX5_addCoil_77 : decode cX5_addCoil 77 = .ok (.ldc 83, 2) := by decide +kernel
theorem dX5_addCoil_79 : decode cX5_addCoil 79 = .ok (.invokespecial 85, 3) := by decide +kernel
theorem dX5_addCoil_82 : decode cX5_addCoil 82 = .ok (.athrow, 1) := by decide +kernel
theorem dX5_addCoil_83 : decode cX5_addCoil 83 = .ok (.aload_n 0, 1) := by decide +kernel
theorem dX5_addCoil_84 : decode cX5_addCoil 84 = .ok (.invokevirtual 64, 3) := by decide +kernel
theorem dX5_addCoil_87 : decode cX5_addCoil 87 = .ok (.aload_n 0, 1) := by decide +kernel
theorem dX5_addCoil_88 : decode cX5_addCoil 88 = .ok (.getfield 10, 3) := by decide +kernel
theorem dX5_addCoil_91 : decode cX5_addCoil 91 = .ok (.iload_n 1, 1) := by decide +kernel
theorem dX5_addCoil_92 : decode cX5_addCoil 92 = .ok (.iload_n 2, 1) := by decide +kernel
theorem dX5_addCoil_93 : decode cX5_addCoil 93 = .ok (.iload_n 3, 1) := by decide +kernel
theorem dX5_addCoil_94 : decode cX5_addCoil 94 = .ok (.invokevirtual 86, 3) := by decide +kernel
theorem dX5_addCoil_97 : decode cX5_addCoil 97 = .ok (.ireturn, 1) := by decide +kernel
theorem dX5_stock_0 : decode cX5_stock 0 = .ok (.aload_n 0, 1) := by decide +kernel
theorem dX5_stock_1 : decode cX5_stock 1 = .ok (.getfield 10, 3) := by decide +kernel
theorem dX5_stock_4 : decode cX5_stock 4 = .ok (.iload_n 1, 1) := by decide +kernel
theorem dX5_stock_5 : decode cX5_stock 5 = .ok (.invokevirtual 90, 3) := by decide +kernel
theorem dX5_stock_8 : decode cX5_stock 8 = .ok (.ifCond .ne 13, 3) := by decide +kernel
theorem dX5_stock_11 : decode cX5_stock 11 = .ok (.new 94, 3) := by decide +kernel
theorem dX5_stock_14 : decode cX5_stock 14 = .ok (.dup, 1) := by decide +kernel
theorem dX5_stock_15 : decode cX5_stock 15 = .ok (.ldc 96, 2) := by decide +kernel
theorem dX5_stock_17 : decode cX5_stock 17 = .ok (.invokespecial 98, 3) := by decide +kernel
theorem dX5_stock_20 : decode cX5_stock 20 = .ok (.athrow, 1) := by decide +kernel
theorem dX5_stock_21 : decode cX5_stock 21 = .ok (.iload_n 2, 1) := by decide +kernel
theorem dX5_stock_22 : decode cX5_stock 22 = .ok (.iconst 1, 1) := by decide +kernel
theorem dX5_stock_23 : decode cX5_stock 23 = .ok (.bipush 20, 2) := by decide +kernel
theorem dX5_stock_25 : decode cX5_stock 25 = .ok (.invokestatic 38, 3) := by decide +kernel
theorem dX5_stock_28 : decode cX5_stock 28 = .ok (.ifCond .ne 13, 3) := by decide +kernel
theorem dX5_stock_31 : decode cX5_stock 31 = .ok (.new 42, 3) := by decide +kernel
theorem dX5_stock_34 : decode cX5_stock 34 = .ok (.dup, 1) := by decide +kernel
theorem dX5_stock_35 : decode cX5_stock 35 = .ok (.ldc 99, 2) := by decide +kernel
theorem dX5_stock_37 : decode cX5_stock 37 = .ok (.invokespecial 46, 3) := by decide +kernel
theorem dX5_stock_40 : decode cX5_stock 40 = .ok (.athrow, 1) := by decide +kernel
theorem dX5_stock_41 : decode cX5_stock 41 = .ok (.aload_n 0, 1) := by decide +kernel
theorem dX5_stock_42 : decode cX5_stock 42 = .ok (.getfield 10, 3) := by decide +kernel
theorem dX5_stock_45 : decode cX5_stock 45 = .ok (.iload_n 1, 1) := by decide +kernel
theorem dX5_stock_46 : decode cX5_stock 46 = .ok (.iload_n 2, 1) := by decide +kernel
theorem dX5_stock_47 : decode cX5_stock 47 = .ok (.invokevirtual 101, 3) := by decide +kernel
theorem dX5_stock_50 : decode cX5_stock 50 = .ok (.ifCond .ne 13, 3) := by decide +kernel
theorem dX5_stock_53 : decode cX5_stock 53 = .ok (.new 81, 3) := by decide +kernel
theorem dX5_stock_56 : decode cX5_stock 56 = .ok (.dup, 1) := by decide +kernel
theorem dX5_stock_57 : decode cX5_stock 57 = .ok (.ldc 105, 2) := by decide +kernel
theorem dX5_stock_59 : decode cX5_stock 59 = .ok (.invokespecial 85, 3) := by decide +kernel
theorem dX5_stock_62 : decode cX5_stock 62 = .ok (.athrow, 1) := by decide +kernel
theorem dX5_stock_63 : decode cX5_stock 63 = .ok (.aload_n 0, 1) := by decide +kernel
theorem dX5_stock_64 : decode cX5_stock 64 = .ok (.invokevirtual 64, 3) := by decide +kernel
theorem dX5_stock_67 : decode cX5_stock 67 = .ok (.aload_n 0, 1) := by decide +kernel
theorem dX5_stock_68 : decode cX5_stock 68 = .ok (.getfield 10, 3) := by decide +kernel
theorem dX5_stock_71 : decode cX5_stock 71 = .ok (.iload_n 1, 1) := by decide +kernel
theorem dX5_stock_72 : decode cX5_stock 72 = .ok (.iload_n 2, 1) := by decide +kernel
theorem dX5_stock_73 : decode cX5_stock 73 = .ok (.invokevirtual 107, 3) := by decide +kernel
theorem dX5_stock_76 : decode cX5_stock 76 = .ok (.ireturn, 1) := by decide +kernel
theorem dX5_fill_0 : decode cX5_fill 0 = .ok (.iload_n 1, 1) := by decide +kernel
theorem dX5_fill_1 : decode cX5_fill 1 = .ok (.iconst 0, 1) := by decide +kernel
theorem dX5_fill_2 : decode cX5_fill 2 = .ok (.iconst 3, 1) := by decide +kernel
theorem dX5_fill_3 : decode cX5_fill 3 = .ok (.invokestatic 38, 3) := by decide +kernel
theorem dX5_fill_6 : decode cX5_fill 6 = .ok (.ifCond .ne 13, 3) := by decide +kernel
theorem dX5_fill_9 : decode cX5_fill 9 = .ok (.new 94, 3) := by decide +kernel
theorem dX5_fill_12 : decode cX5_fill 12 = .ok (.dup, 1) := by decide +kernel
theorem dX5_fill_13 : decode cX5_fill 13 = .ok (.ldc 110, 2) := by decide +kernel
theorem dX5_fill_15 : decode cX5_fill 15 = .ok (.invokespecial 98, 3) := by decide +kernel
theorem dX5_fill_18 : decode cX5_fill 18 = .ok (.athrow, 1) := by decide +kernel
theorem dX5_fill_19 : decode cX5_fill 19 = .ok (.iload_n 2, 1) := by decide +kernel
theorem dX5_fill_20 : decode cX5_fill 20 = .ok (.iconst 1, 1) := by decide +kernel
theorem dX5_fill_21 : decode cX5_fill 21 = .ok (.bipush 30, 2) := by decide +kernel
theorem dX5_fill_23 : decode cX5_fill 23 = .ok (.invokestatic 38, 3) := by decide +kernel
theorem dX5_fill_26 : decode cX5_fill 26 = .ok (.ifCond .ne 13, 3) := by decide +kernel
theorem dX5_fill_29 : decode cX5_fill 29 = .ok (.new 42, 3) := by decide +kernel
theorem dX5_fill_32 : decode cX5_fill 32 = .ok (.dup, 1) := by decide +kernel
theorem dX5_fill_33 : decode cX5_fill 33 = .ok (.ldc 112, 2) := by decide +kernel
theorem dX5_fill_35 : decode cX5_fill 35 = .ok (.invokespecial 46, 3) := by decide +kernel
theorem dX5_fill_38 : decode cX5_fill 38 = .ok (.athrow, 1) := by decide +kernel
theorem dX5_fill_39 : decode cX5_fill 39 = .ok (.aload_n 0, 1) := by decide +kernel
theorem dX5_fill_40 : decode cX5_fill 40 = .ok (.invokevirtual 64, 3) := by decide +kernel
theorem dX5_fill_43 : decode cX5_fill 43 = .ok (.aload_n 0, 1) := by decide +kernel
theorem dX5_fill_44 : decode cX5_fill 44 = .ok (.getfield 10, 3) := by decide +kernel
theorem dX5_fill_47 : decode cX5_fill 47 = .ok (.getfield 114, 3) := by decide +kernel
theorem dX5_fill_50 : decode cX5_fill 50 = .ok (.iload_n 1, 1) := by decide +kernel
theorem dX5_fill_51 : decode cX5_fill 51 = .ok (.iload_n 2, 1) := by decide +kernel
theorem dX5_fill_52 : decode cX5_fill 52 = .ok (.invokevirtual 118, 3) := by decide +kernel
theorem dX5_fill_55 : decode cX5_fill 55 = .ok (.ireturn, 1) := by decide +kernel
theorem dX5_buy_0 : decode cX5_buy 0 = .ok (.aload_n 0, 1) := by decide +kernel
theorem dX5_buy_1 : decode cX5_buy 1 = .ok (.getfield 10, 3) := by decide +kernel
theorem dX5_buy_4 : decode cX5_buy 4 = .ok (.iload_n 1, 1) := by decide +kernel
theorem dX5_buy_5 : decode cX5_buy 5 = .ok (.invokevirtual 90, 3) := by decide +kernel
theorem dX5_buy_8 : decode cX5_buy 8 = .ok (.ifCond .ne 13, 3) := by decide +kernel
theorem dX5_buy_11 : decode cX5_buy 11 = .ok (.new 94, 3) := by decide +kernel
theorem dX5_buy_14 : decode cX5_buy 14 = .ok (.dup, 1) := by decide +kernel
theorem dX5_buy_15 : decode cX5_buy 15 = .ok (.ldc 96, 2) := by decide +kernel
theorem dX5_buy_17 : decode cX5_buy 17 = .ok (.invokespecial 98, 3) := by decide +kernel
theorem dX5_buy_20 : decode cX5_buy 20 = .ok (.athrow, 1) := by decide +kernel
theorem dX5_buy_21 : decode cX5_buy 21 = .ok (.aload_n 0, 1) := by decide +kernel
theorem dX5_buy_22 : decode cX5_buy 22 = .ok (.iload_n 2, 1) := by decide +kernel
theorem dX5_buy_23 : decode cX5_buy 23 = .ok (.iload_n 3, 1) := by decide +kernel
theorem dX5_buy_24 : decode cX5_buy 24 = .ok (.iload 4, 2) := by decide +kernel
theorem dX5_buy_26 : decode cX5_buy 26 = .ok (.iload 5, 2) := by decide +kernel
theorem dX5_buy_28 : decode cX5_buy 28 = .ok (.invokevirtual 123, 3) := by decide +kernel
theorem dX5_buy_31 : decode cX5_buy 31 = .ok (.ifCond .ne 13, 3) := by decide +kernel
theorem dX5_buy_34 : decode cX5_buy 34 = .ok (.new 42, 3) := by decide +kernel
theorem dX5_buy_37 : decode cX5_buy 37 = .ok (.dup, 1) := by decide +kernel
theorem dX5_buy_38 : decode cX5_buy 38 = .ok (.ldc 112, 2) := by decide +kernel
theorem dX5_buy_40 : decode cX5_buy 40 = .ok (.invokespecial 46, 3) := by decide +kernel
theorem dX5_buy_43 : decode cX5_buy 43 = .ok (.athrow, 1) := by decide +kernel
theorem dX5_buy_44 : decode cX5_buy 44 = .ok (.aload_n 0, 1) := by decide +kernel
theorem dX5_buy_45 : decode cX5_buy 45 = .ok (.getfield 10, 3) := by decide +kernel
theorem dX5_buy_48 : decode cX5_buy 48 = .ok (.iload_n 1, 1) := by decide +kernel
theorem dX5_buy_49 : decode cX5_buy 49 = .ok (.aload_n 0, 1) := by decide +kernel
theorem dX5_buy_50 : decode cX5_buy 50 = .ok (.getfield 34, 3) := by decide +kernel
theorem dX5_buy_53 : decode cX5_buy 53 = .ok (.invokevirtual 126, 3) := by decide +kernel
theorem dX5_buy_56 : decode cX5_buy 56 = .ok (.ifCond .ne 13, 3) := by decide +kernel
theorem dX5_buy_59 : decode cX5_buy 59 = .ok (.new 81, 3) := by decide +kernel
theorem dX5_buy_62 : decode cX5_buy 62 = .ok (.dup, 1) := by decide +kernel
theorem dX5_buy_63 : decode cX5_buy 63 = .ok (.ldc 130, 2) := by decide +kernel
theorem dX5_buy_65 : decode cX5_buy 65 = .ok (.invokespecial 85, 3) := by decide +kernel
theorem dX5_buy_68 : decode cX5_buy 68 = .ok (.athrow, 1) := by decide +kernel
theorem dX5_buy_69 : decode cX5_buy 69 = .ok (.aload_n 0, 1) := by decide +kernel
theorem dX5_buy_70 : decode cX5_buy 70 = .ok (.invokevirtual 64, 3) := by decide +kernel
theorem dX5_buy_73 : decode cX5_buy 73 = .ok (.aload_n 0, 1) := by decide +kernel
theorem dX5_buy_74 : decode cX5_buy 74 = .ok (.getfield 10, 3) := by decide +kernel
theorem dX5_buy_77 : decode cX5_buy 77 = .ok (.iload_n 1, 1) := by decide +kernel
theorem dX5_buy_78 : decode cX5_buy 78 = .ok (.aload_n 0, 1) := by decide +kernel
theorem dX5_buy_79 : decode cX5_buy 79 = .ok (.getfield 34, 3) := by decide +kernel
theorem dX5_buy_82 : decode cX5_buy 82 = .ok (.invokevirtual 132, 3) := by decide +kernel
theorem dX5_buy_85 : decode cX5_buy 85 = .ok (.ireturn, 1) := by decide +kernel
theorem dX5_look_0 : decode cX5_look 0 = .ok (.aload_n 0, 1) := by decide +kernel
theorem dX5_look_1 : decode cX5_look 1 = .ok (.getfield 10, 3) := by decide +kernel
theorem dX5_look_4 : decode cX5_look 4 = .ok (.iload_n 1, 1) := by decide +kernel
theorem dX5_look_5 : decode cX5_look 5 = .ok (.invokevirtual 90, 3) := by decide +kernel
theorem dX5_look_8 : decode cX5_look 8 = .ok (.ifCond .ne 13, 3) := by decide +kernel
theorem dX5_look_11 : decode cX5_look 11 = .ok (.new 94, 3) := by decide +kernel
theorem dX5_look_14 : decode cX5_look 14 = .ok (.dup, 1) := by decide +kernel
theorem dX5_look_15 : decode cX5_look 15 = .ok (.ldc 96, 2) := by decide +kernel
theorem dX5_look_17 : decode cX5_look 17 = .ok (.invokespecial 98, 3) := by decide +kernel
theorem dX5_look_20 : decode cX5_look 20 = .ok (.athrow, 1) := by decide +kernel
theorem dX5_look_21 : decode cX5_look 21 = .ok (.aload_n 0, 1) := by decide +kernel
theorem dX5_look_22 : decode cX5_look 22 = .ok (.invokevirtual 64, 3) := by decide +kernel
theorem dX5_look_25 : decode cX5_look 25 = .ok (.aload_n 0, 1) := by decide +kernel
theorem dX5_look_26 : decode cX5_look 26 = .ok (.getfield 10, 3) := by decide +kernel
theorem dX5_look_29 : decode cX5_look 29 = .ok (.iload_n 1, 1) := by decide +kernel
theorem dX5_look_30 : decode cX5_look 30 = .ok (.invokevirtual 136, 3) := by decide +kernel
theorem dX5_look_33 : decode cX5_look 33 = .ok (.ireturn, 1) := by decide +kernel
theorem dX5_pass_0 : decode cX5_pass 0 = .ok (.iload_n 1, 1) := by decide +kernel
theorem dX5_pass_1 : decode cX5_pass 1 = .ok (.iconst 1, 1) := by decide +kernel
theorem dX5_pass_2 : decode cX5_pass 2 = .ok (.bipush 48, 2) := by decide +kernel
theorem dX5_pass_4 : decode cX5_pass 4 = .ok (.invokestatic 38, 3) := by decide +kernel
theorem dX5_pass_7 : decode cX5_pass 7 = .ok (.ifCond .ne 13, 3) := by decide +kernel
theorem dX5_pass_10 : decode cX5_pass 10 = .ok (.new 42, 3) := by decide +kernel
theorem dX5_pass_13 : decode cX5_pass 13 = .ok (.dup, 1) := by decide +kernel
theorem dX5_pass_14 : decode cX5_pass 14 = .ok (.ldc 140, 2) := by decide +kernel
theorem dX5_pass_16 : decode cX5_pass 16 = .ok (.invokespecial 46, 3) := by decide +kernel
theorem dX5_pass_19 : decode cX5_pass 19 = .ok (.athrow, 1) := by decide +kernel
theorem dX5_pass_20 : decode cX5_pass 20 = .ok (.aload_n 0, 1) := by decide +kernel
theorem dX5_pass_21 : decode cX5_pass 21 = .ok (.getfield 10, 3) := by decide +kernel
theorem dX5_pass_24 : decode cX5_pass 24 = .ok (.iload_n 1, 1) := by decide +kernel
theorem dX5_pass_25 : decode cX5_pass 25 = .ok (.invokevirtual 142, 3) := by decide +kernel
theorem dX5_pass_28 : decode cX5_pass 28 = .ok (.ifCond .ne 13, 3) := by decide +kernel
theorem dX5_pass_31 : decode cX5_pass 31 = .ok (.new 81, 3) := by decide +kernel
theorem dX5_pass_34 : decode cX5_pass 34 = .ok (.dup, 1) := by decide +kernel
theorem dX5_pass_35 : decode cX5_pass 35 = .ok (.ldc 145, 2) := by decide +kernel
theorem dX5_pass_37 : decode cX5_pass 37 = .ok (.invokespecial 85, 3) := by decide +kernel
theorem dX5_pass_40 : decode cX5_pass 40 = .ok (.athrow, 1) := by decide +kernel
theorem dX5_pass_41 : decode cX5_pass 41 = .ok (.aload_n 0, 1) := by decide +kernel
theorem dX5_pass_42 : decode cX5_pass 42 = .ok (.invokevirtual 64, 3) := by decide +kernel
theorem dX5_pass_45 : decode cX5_pass 45 = .ok (.aload_n 0, 1) := by decide +kernel
theorem dX5_pass_46 : decode cX5_pass 46 = .ok (.getfield 10, 3) := by decide +kernel
theorem dX5_pass_49 : decode cX5_pass 49 = .ok (.iload_n 1, 1) := by decide +kernel
theorem dX5_pass_50 : decode cX5_pass 50 = .ok (.invokevirtual 147, 3) := by decide +kernel
theorem dX5_pass_53 : decode cX5_pass 53 = .ok (.ireturn, 1) := by decide +kernel
theorem dX5_emptyBox_0 : decode cX5_emptyBox 0 = .ok (.aload_n 0, 1) := by decide +kernel
theorem dX5_emptyBox_1 : decode cX5_emptyBox 1 = .ok (.invokevirtual 64, 3) := by decide +kernel
theorem dX5_emptyBox_4 : decode cX5_emptyBox 4 = .ok (.aload_n 0, 1) := by decide +kernel
theorem dX5_emptyBox_5 : decode cX5_emptyBox 5 = .ok (.getfield 10, 3) := by decide +kernel
theorem dX5_emptyBox_8 : decode cX5_emptyBox 8 = .ok (.getfield 114, 3) := by decide +kernel
theorem dX5_emptyBox_11 : decode cX5_emptyBox 11 = .ok (.invokevirtual 150, 3) := by decide +kernel
theorem dX5_emptyBox_14 : decode cX5_emptyBox 14 = .ok (.ireturn, 1) := by decide +kernel
theorem dX5_coil_0 : decode cX5_coil 0 = .ok (.aload_n 0, 1) := by decide +kernel
theorem dX5_coil_1 : decode cX5_coil 1 = .ok (.getfield 10, 3) := by decide +kernel
theorem dX5_coil_4 : decode cX5_coil 4 = .ok (.iload_n 1, 1) := by decide +kernel
theorem dX5_coil_5 : decode cX5_coil 5 = .ok (.invokevirtual 90, 3) := by decide +kernel
theorem dX5_coil_8 : decode cX5_coil 8 = .ok (.ifCond .ne 13, 3) := by decide +kernel
theorem dX5_coil_11 : decode cX5_coil 11 = .ok (.new 94, 3) := by decide +kernel
theorem dX5_coil_14 : decode cX5_coil 14 = .ok (.dup, 1) := by decide +kernel
theorem dX5_coil_15 : decode cX5_coil 15 = .ok (.ldc 96, 2) := by decide +kernel
theorem dX5_coil_17 : decode cX5_coil 17 = .ok (.invokespecial 98, 3) := by decide +kernel
theorem dX5_coil_20 : decode cX5_coil 20 = .ok (.athrow, 1) := by decide +kernel
theorem dX5_coil_21 : decode cX5_coil 21 = .ok (.iload_n 2, 1) := by decide +kernel
theorem dX5_coil_22 : decode cX5_coil 22 = .ok (.iconst 0, 1) := by decide +kernel
theorem dX5_coil_23 : decode cX5_coil 23 = .ok (.bipush 9, 2) := by decide +kernel
theorem dX5_coil_25 : decode cX5_coil 25 = .ok (.invokestatic 38, 3) := by decide +kernel
theorem dX5_coil_28 : decode cX5_coil 28 = .ok (.ifCond .ne 13, 3) := by decide +kernel
theorem dX5_coil_31 : decode cX5_coil 31 = .ok (.new 42, 3) := by decide +kernel
theorem dX5_coil_34 : decode cX5_coil 34 = .ok (.dup, 1) := by decide +kernel
theorem dX5_coil_35 : decode cX5_coil 35 = .ok (.ldc 154, 2) := by decide +kernel
theorem dX5_coil_37 : decode cX5_coil 37 = .ok (.invokespecial 46, 3) := by decide +kernel
theorem dX5_coil_40 : decode cX5_coil 40 = .ok (.athrow, 1) := by decide +kernel
theorem dX5_coil_41 : decode cX5_coil 41 = .ok (.aload_n 0, 1) := by decide +kernel
theorem dX5_coil_42 : decode cX5_coil 42 = .ok (.getfield 10, 3) := by decide +kernel
theorem dX5_coil_45 : decode cX5_coil 45 = .ok (.getfield 156, 3) := by decide +kernel
theorem dX5_coil_48 : decode cX5_coil 48 = .ok (.iload_n 1, 1) := by decide +kernel
theorem dX5_coil_49 : decode cX5_coil 49 = .ok (.aaload, 1) := by decide +kernel
theorem dX5_coil_50 : decode cX5_coil 50 = .ok (.iload_n 2, 1) := by decide +kernel
theorem dX5_coil_51 : decode cX5_coil 51 = .ok (.invokevirtual 160, 3) := by decide +kernel
theorem dX5_coil_54 : decode cX5_coil 54 = .ok (.ireturn, 1) := by decide +kernel
theorem dX5_demand_0 : decode cX5_demand 0 = .ok (.aload_n 0, 1) := by decide +kernel
theorem dX5_demand_1 : decode cX5_demand 1 = .ok (.getfield 10, 3) := by decide +kernel
theorem dX5_demand_4 : decode cX5_demand 4 = .ok (.iload_n 1, 1) := by decide +kernel
theorem dX5_demand_5 : decode cX5_demand 5 = .ok (.invokevirtual 90, 3) := by decide +kernel
theorem dX5_demand_8 : decode cX5_demand 8 = .ok (.ifCond .ne 13, 3) := by decide +kernel
theorem dX5_demand_11 : decode cX5_demand 11 = .ok (.new 94, 3) := by decide +kernel
theorem dX5_demand_14 : decode cX5_demand 14 = .ok (.dup, 1) := by decide +kernel
theorem dX5_demand_15 : decode cX5_demand 15 = .ok (.ldc 96, 2) := by decide +kernel
theorem dX5_demand_17 : decode cX5_demand 17 = .ok (.invokespecial 98, 3) := by decide +kernel
theorem dX5_demand_20 : decode cX5_demand 20 = .ok (.athrow, 1) := by decide +kernel
theorem dX5_demand_21 : decode cX5_demand 21 = .ok (.aload_n 0, 1) := by decide +kernel
theorem dX5_demand_22 : decode cX5_demand 22 = .ok (.getfield 10, 3) := by decide +kernel
theorem dX5_demand_25 : decode cX5_demand 25 = .ok (.getfield 156, 3) := by decide +kernel
theorem dX5_demand_28 : decode cX5_demand 28 = .ok (.iload_n 1, 1) := by decide +kernel
theorem dX5_demand_29 : decode cX5_demand 29 = .ok (.aaload, 1) := by decide +kernel
theorem dX5_demand_30 : decode cX5_demand 30 = .ok (.getfield 165, 3) := by decide +kernel
theorem dX5_demand_33 : decode cX5_demand 33 = .ok (.freturn, 1) := by decide +kernel
theorem dX5_tube_0 : decode cX5_tube 0 = .ok (.iload_n 1, 1) := by decide +kernel
theorem dX5_tube_1 : decode cX5_tube 1 = .ok (.iconst 0, 1) := by decide +kernel
theorem dX5_tube_2 : decode cX5_tube 2 = .ok (.iconst 3, 1) := by decide +kernel
theorem dX5_tube_3 : decode cX5_tube 3 = .ok (.invokestatic 38, 3) := by decide +kernel
theorem dX5_tube_6 : decode cX5_tube 6 = .ok (.ifCond .ne 13, 3) := by decide +kernel
theorem dX5_tube_9 : decode cX5_tube 9 = .ok (.new 94, 3) := by decide +kernel
theorem dX5_tube_12 : decode cX5_tube 12 = .ok (.dup, 1) := by decide +kernel
theorem dX5_tube_13 : decode cX5_tube 13 = .ok (.ldc 110, 2) := by decide +kernel
theorem dX5_tube_15 : decode cX5_tube 15 = .ok (.invokespecial 98, 3) := by decide +kernel
theorem dX5_tube_18 : decode cX5_tube 18 = .ok (.athrow, 1) := by decide +kernel
theorem dX5_tube_19 : decode cX5_tube 19 = .ok (.aload_n 0, 1) := by decide +kernel
theorem dX5_tube_20 : decode cX5_tube 20 = .ok (.getfield 10, 3) := by decide +kernel
theorem dX5_tube_23 : decode cX5_tube 23 = .ok (.getfield 114, 3) := by decide +kernel
theorem dX5_tube_26 : decode cX5_tube 26 = .ok (.getfield 169, 3) := by decide +kernel
theorem dX5_tube_29 : decode cX5_tube 29 = .ok (.iload_n 1, 1) := by decide +kernel
theorem dX5_tube_30 : decode cX5_tube 30 = .ok (.iaload, 1) := by decide +kernel
theorem dX5_tube_31 : decode cX5_tube 31 = .ok (.ireturn, 1) := by decide +kernel
theorem dX5_value_0 : decode cX5_value 0 = .ok (.iload_n 1, 1) := by decide +kernel
theorem dX5_value_1 : decode cX5_value 1 = .ok (.iconst 0, 1) := by decide +kernel
theorem dX5_value_2 : decode cX5_value 2 = .ok (.bipush 10, 2) := by decide +kernel
theorem dX5_value_4 : decode cX5_value 4 = .ok (.invokestatic 38, 3) := by decide +kernel
theorem dX5_value_7 : decode cX5_value 7 = .ok (.ifCond .ne 13, 3) := by decide +kernel
theorem dX5_value_10 : decode cX5_value 10 = .ok (.new 42, 3) := by decide +kernel
theorem dX5_value_13 : decode cX5_value 13 = .ok (.dup, 1) := by decide +kernel
theorem dX5_value_14 : decode cX5_value 14 = .ok (.ldc 154, 2) := by decide +kernel
theorem dX5_value_16 : decode cX5_value 16 = .ok (.invokespecial 46, 3) := by decide +kernel
theorem dX5_value_19 : decode cX5_value 19 = .ok (.athrow, 1) := by decide +kernel
theorem dX5_value_20 : decode cX5_value 20 = .ok (.aload_n 0, 1) := by decide +kernel
theorem dX5_value_21 : decode cX5_value 21 = .ok (.getfield 10, 3) := by decide +kernel
theorem dX5_value_24 : decode cX5_value 24 = .ok (.iload_n 1, 1) := by decide +kernel
theorem dX5_value_25 : decode cX5_value 25 = .ok (.invokevirtual 172, 3) := by decide +kernel
theorem dX5_value_28 : decode cX5_value 28 = .ok (.ireturn, 1) := by decide +kernel
theorem dX5_setting_0 : decode cX5_setting 0 = .ok (.iload_n 1, 1) := by decide +kernel
theorem dX5_setting_1 : decode cX5_setting 1 = .ok (.iconst 0, 1) := by decide +kernel
theorem dX5_setting_2 : decode cX5_setting 2 = .ok (.iconst 4, 1) := by decide +kernel
theorem dX5_setting_3 : decode cX5_setting 3 = .ok (.invokestatic 38, 3) := by decide +kernel
theorem dX5_setting_6 : decode cX5_setting 6 = .ok (.ifCond .ne 13, 3) := by decide +kernel
theorem dX5_setting_9 : decode cX5_setting 9 = .ok (.new 42, 3) := by decide +kernel
theorem dX5_setting_12 : decode cX5_setting 12 = .ok (.dup, 1) := by decide +kernel
theorem dX5_setting_13 : decode cX5_setting 13 = .ok (.ldc 44, 2) := by decide +kernel
theorem dX5_setting_15 : decode cX5_setting 15 = .ok (.invokespecial 46, 3) := by decide +kernel
theorem dX5_setting_18 : decode cX5_setting 18 = .ok (.athrow, 1) := by decide +kernel
theorem dX5_setting_19 : decode cX5_setting 19 = .ok (.aload_n 0, 1) := by decide +kernel
theorem dX5_setting_20 : decode cX5_setting 20 = .ok (.getfield 10, 3) := by decide +kernel
theorem dX5_setting_23 : decode cX5_setting 23 = .ok (.getfield 175, 3) := by decide +kernel
theorem dX5_setting_26 : decode cX5_setting 26 = .ok (.iload_n 1, 1) := by decide +kernel
theorem dX5_setting_27 : decode cX5_setting 27 = .ok (.iaload, 1) := by decide +kernel
theorem dX5_setting_28 : decode cX5_setting 28 = .ok (.ireturn, 1) := by decide +kernel
theorem dX5_promise_0 : decode cX5_promise 0 = .ok (.iload_n 1, 1) := by decide +kernel
theorem dX5_promise_1 : decode cX5_promise 1 = .ok (.iconst 0, 1) := by decide +kernel
theorem dX5_promise_2 : decode cX5_promise 2 = .ok (.aload_n 0, 1) := by decide +kernel
theorem dX5_promise_3 : decode cX5_promise 3 = .ok (.getfield 10, 3) := by decide +kernel
theorem dX5_promise_6 : decode cX5_promise 6 = .ok (.getfield 114, 3) := by decide +kernel
theorem dX5_promise_9 : decode cX5_promise 9 = .ok (.getfield 178, 3) := by decide +kernel
theorem dX5_promise_12 : decode cX5_promise 12 = .ok (.iconst 1, 1) := by decide +kernel
theorem dX5_promise_13 : decode cX5_promise 13 = .ok (.isub, 1) := by decide +kernel
theorem dX5_promise_14 : decode cX5_promise 14 = .ok (.invokestatic 38, 3) := by decide +kernel
theorem dX5_promise_17 : decode cX5_promise 17 = .ok (.ifCond .ne 13, 3) := by decide +kernel
theorem dX5_promise_20 : decode cX5_promise 20 = .ok (.new 94, 3) := by decide +kernel
theorem dX5_promise_23 : decode cX5_promise 23 = .ok (.dup, 1) := by decide +kernel
theorem dX5_promise_24 : decode cX5_promise 24 = .ok (.ldc 181, 2) := by decide +kernel
theorem dX5_promise_26 : decode cX5_promise 26 = .ok (.invokespecial 98, 3) := by decide +kernel
theorem dX5_promise_29 : decode cX5_promise 29 = .ok (.athrow, 1) := by decide +kernel
theorem dX5_promise_30 : decode cX5_promise 30 = .ok (.aload_n 0, 1) := by decide +kernel
theorem dX5_promise_31 : decode cX5_promise 31 = .ok (.getfield 10, 3) := by decide +kernel
theorem dX5_promise_34 : decode cX5_promise 34 = .ok (.getfield 114, 3) := by decide +kernel
theorem dX5_promise_37 : decode cX5_promise 37 = .ok (.getfield 183, 3) := by decide +kernel
theorem dX5_promise_40 : decode cX5_promise 40 = .ok (.iload_n 1, 1) := by decide +kernel
theorem dX5_promise_41 : decode cX5_promise 41 = .ok (.iaload, 1) := by decide +kernel
theorem dX5_promise_42 : decode cX5_promise 42 = .ok (.ireturn, 1) := by decide +kernel
theorem dX5_change_0 : decode cX5_change 0 = .ok (.iload_n 1, 1) := by decide +kernel
theorem dX5_change_1 : decode cX5_change 1 = .ok (.iconst 0, 1) := by decide +kernel
theorem dX5_change_2 : decode cX5_change 2 = .ok (.sipush 2000, 3) := by decide +kernel
theorem dX5_change_5 : decode cX5_change 5 = .ok (.invokestatic 38, 3) := by decide +kernel
theorem dX5_change_8 : decode cX5_change 8 = .ok (.ifCond .ne 13, 3) := by decide +kernel
theorem dX5_change_11 : decode cX5_change 11 = .ok (.new 42, 3) := by decide +kernel
theorem dX5_change_14 : decode cX5_change 14 = .ok (.dup, 1) := by decide +kernel
theorem dX5_change_15 : decode cX5_change 15 = .ok (.ldc 186, 2) := by decide +kernel
theorem dX5_change_17 : decode cX5_change 17 = .ok (.invokespecial 46, 3) := by decide +kernel
theorem dX5_change_20 : decode cX5_change 20 = .ok (.athrow, 1) := by decide +kernel
theorem dX5_change_21 : decode cX5_change 21 = .ok (.iload_n 2, 1) := by decide +kernel
theorem dX5_change_22 : decode cX5_change 22 = .ok (.iconst 0, 1) := by decide +kernel
theorem dX5_change_23 : decode cX5_change 23 = .ok (.iconst 3, 1) := by decide +kernel
theorem dX5_change_24 : decode cX5_change 24 = .ok (.invokestatic 38, 3) := by decide +kernel
theorem dX5_change_27 : decode cX5_change 27 = .ok (.ifCond .ne 13, 3) := by decide +kernel
theorem dX5_change_30 : decode cX5_change 30 = .ok (.new 94, 3) := by decide +kernel
theorem dX5_change_33 : decode cX5_change 33 = .ok (.dup, 1) := by decide +kernel
theorem dX5_change_34 : decode cX5_change 34 = .ok (.ldc 110, 2) := by decide +kernel
theorem dX5_change_36 : decode cX5_change 36 = .ok (.invokespecial 98, 3) := by decide +kernel
theorem dX5_change_39 : decode cX5_change 39 = .ok (.athrow, 1) := by decide +kernel
theorem dX5_change_40 : decode cX5_change 40 = .ok (.aload_n 0, 1) := by decide +kernel
theorem dX5_change_41 : decode cX5_change 41 = .ok (.getfield 10, 3) := by decide +kernel
theorem dX5_change_44 : decode cX5_change 44 = .ok (.getfield 114, 3) := by decide +kernel
theorem dX5_change_47 : decode cX5_change 47 = .ok (.iload_n 1, 1) := by decide +kernel
theorem dX5_change_48 : decode cX5_change 48 = .ok (.invokevirtual 188, 3) := by decide +kernel
theorem dX5_change_51 : decode cX5_change 51 = .ok (.ifCond .eq 21, 3) := by decide +kernel
theorem dX5_change_54 : decode cX5_change 54 = .ok (.aload_n 0, 1) := by decide +kernel
theorem dX5_change_55 : decode cX5_change 55 = .ok (.getfield 10, 3) := by decide +kernel
theorem dX5_change_58 : decode cX5_change 58 = .ok (.getfield 114, 3) := by decide +kernel
theorem dX5_change_61 : decode cX5_change 61 = .ok (.getfield 191, 3) := by decide +kernel
theorem dX5_change_64 : decode cX5_change 64 = .ok (.getfield 195, 3) := by decide +kernel
theorem dX5_change_67 : decode cX5_change 67 = .ok (.iload_n 2, 1) := by decide +kernel
theorem dX5_change_68 : decode cX5_change 68 = .ok (.iaload, 1) := by decide +kernel
theorem dX5_change_69 : decode cX5_change 69 = .ok (.goto 4, 3) := by decide +kernel
theorem dX5_change_72 : decode cX5_change 72 = .ok (.iconst (-1), 1) := by decide +kernel
theorem dX5_change_73 : decode cX5_change 73 = .ok (.ireturn, 1) := by decide +kernel
theorem dX5_mostPayable_0 : decode cX5_mostPayable 0 = .ok (.iload_n 1, 1) := by decide +kernel
theorem dX5_mostPayable_1 : decode cX5_mostPayable 1 = .ok (.iconst 0, 1) := by decide +kernel
theorem dX5_mostPayable_2 : decode cX5_mostPayable 2 = .ok (.sipush 2000, 3) := by decide +kernel
theorem dX5_mostPayable_5 : decode cX5_mostPayable 5 = .ok (.invokestatic 38, 3) := by decide +kernel
theorem dX5_mostPayable_8 : decode cX5_mostPayable 8 = .ok (.ifCond .ne 13, 3) := by decide +kernel
theorem dX5_mostPayable_11 : decode cX5_mostPayable 11 = .ok (.new 42, 3) := by decide +kernel
theorem dX5_mostPayable_14 : decode cX5_mostPayable 14 = .ok (.dup, 1) := by decide +kernel
theorem dX5_mostPayable_15 : decode cX5_mostPayable 15 = .ok (.ldc 200, 2) := by decide +kernel
theorem dX5_mostPayable_17 : decode cX5_mostPayable 17 = .ok (.invokespecial 46, 3) := by decide +kernel
theorem dX5_mostPayable_20 : decode cX5_mostPayable 20 = .ok (.athrow, 1) := by decide +kernel
theorem dX5_mostPayable_21 : decode cX5_mostPayable 21 = .ok (.iload_n 1, 1) := by decide +kernel
theorem dX5_mostPayable_22 : decode cX5_mostPayable 22 = .ok (.iload_n 1, 1) := by decide +kernel
theorem dX5_mostPayable_23 : decode cX5_mostPayable 23 = .ok (.iconst 5, 1) := by decide +kernel
theorem dX5_mostPayable_24 : decode cX5_mostPayable 24 = .ok (.irem, 1) := by decide +kernel
theorem dX5_mostPayable_25 : decode cX5_mostPayable 25 = .ok (.isub, 1) := by decide +kernel
theorem dX5_mostPayable_26 : decode cX5_mostPayable 26 = .ok (.istore_n 2, 1) := by decide +kernel
theorem dX5_mostPayable_27 : decode cX5_mostPayable 27 = .ok (.iload_n 2, 1) := by decide +kernel
theorem dX5_mostPayable_28 : decode cX5_mostPayable 28 = .ok (.ifCond .le 23, 3) := by decide +kernel
theorem dX5_mostPayable_31 : decode cX5_mostPayable 31 = .ok (.aload_n 0, 1) := by decide +kernel
theorem dX5_mostPayable_32 : decode cX5_mostPayable 32 = .ok (.getfield 10, 3) := by decide +kernel
theorem dX5_mostPayable_35 : decode cX5_mostPayable 35 = .ok (.getfield 114, 3) := by decide +kernel
theorem dX5_mostPayable_38 : decode cX5_mostPayable 38 = .ok (.iload_n 2, 1) := by decide +kernel
theorem dX5_mostPayable_39 : decode cX5_mostPayable 39 = .ok (.invokevirtual 188, 3) := by decide +kernel
theorem dX5_mostPayable_42 : decode cX5_mostPayable 42 = .ok (.ifCond .ne 9, 3) := by decide +kernel
theorem dX5_mostPayable_45 : decode cX5_mostPayable 45 = .ok (.iinc 2 (-5), 3) := by decide +kernel
theorem dX5_mostPayable_48 : decode cX5_mostPayable 48 = .ok (.goto (-21), 3) := by decide +kernel
theorem dX5_mostPayable_51 : decode cX5_mostPayable 51 = .ok (.iload_n 2, 1) := by decide +kernel
theorem dX5_mostPayable_52 : decode cX5_mostPayable 52 = .ok (.ireturn, 1) := by decide +kernel
theorem dX5_coinFor_0 : decode cX5_coinFor 0 = .ok (.iload_n 1, 1) := by decide +kernel
theorem dX5_coinFor_1 : decode cX5_coinFor 1 = .ok (.iconst 0, 1) := by decide +kernel
theorem dX5_coinFor_2 : decode cX5_coinFor 2 = .ok (.sipush 2000, 3) := by decide +kernel
theorem dX5_coinFor_5 : decode cX5_coinFor 5 = .ok (.invokestatic 38, 3) := by decide +kernel
theorem dX5_coinFor_8 : decode cX5_coinFor 8 = .ok (.ifCond .ne 13, 3) := by decide +kernel
theorem dX5_coinFor_11 : decode cX5_coinFor 11 = .ok (.new 42, 3) := by decide +kernel
theorem dX5_coinFor_14 : decode cX5_coinFor 14 = .ok (.dup, 1) := by decide +kernel
theorem dX5_coinFor_15 : decode cX5_coinFor 15 = .ok (.ldc 186, 2) := by decide +kernel
theorem dX5_coinFor_17 : decode cX5_coinFor 17 = .ok (.invokespecial 46, 3) := by decide +kernel
theorem dX5_coinFor_20 : decode cX5_coinFor 20 = .ok (.athrow, 1) := by decide +kernel
theorem dX5_coinFor_21 : decode cX5_coinFor 21 = .ok (.aload_n 0, 1) := by decide +kernel
theorem dX5_coinFor_22 : decode cX5_coinFor 22 = .ok (.getfield 10, 3) := by decide +kernel
theorem dX5_coinFor_25 : decode cX5_coinFor 25 = .ok (.getfield 114, 3) := by decide +kernel
theorem dX5_coinFor_28 : decode cX5_coinFor 28 = .ok (.iload_n 1, 1) := by decide +kernel
theorem dX5_coinFor_29 : decode cX5_coinFor 29 = .ok (.invokevirtual 188, 3) := by decide +kernel
theorem dX5_coinFor_32 : decode cX5_coinFor 32 = .ok (.ifCond .eq 5, 3) := by decide +kernel
theorem dX5_coinFor_35 : decode cX5_coinFor 35 = .ok (.iconst 4, 1) := by decide +kernel
theorem dX5_coinFor_36 : decode cX5_coinFor 36 = .ok (.ireturn, 1) := by decide +kernel
theorem dX5_coinFor_37 : decode cX5_coinFor 37 = .ok (.iconst 0, 1) := by decide +kernel
theorem dX5_coinFor_38 : decode cX5_coinFor 38 = .ok (.istore_n 2, 1) := by decide +kernel
theorem dX5_coinFor_39 : decode cX5_coinFor 39 = .ok (.iload_n 2, 1) := by decide +kernel
theorem dX5_coinFor_40 : decode cX5_coinFor 40 = .ok (.iconst 4, 1) := by decide +kernel
theorem dX5_coinFor_41 : decode cX5_coinFor 41 = .ok (.if_icmp .ge 26, 3) := by decide +kernel
theorem dX5_coinFor_44 : decode cX5_coinFor 44 = .ok (.aload_n 0, 1) := by decide +kernel
theorem dX5_coinFor_45 : decode cX5_coinFor 45 = .ok (.getfield 10, 3) := by decide +kernel
theorem dX5_coinFor_48 : decode cX5_coinFor 48 = .ok (.getfield 114, 3) := by decide +kernel
theorem dX5_coinFor_51 : decode cX5_coinFor 51 = .ok (.iload_n 1, 1) := by decide +kernel
theorem dX5_coinFor_52 : decode cX5_coinFor 52 = .ok (.iload_n 2, 1) := by decide +kernel
theorem dX5_coinFor_53 : decode cX5_coinFor 53 = .ok (.invokevirtual 202, 3) := by decide +kernel
theorem dX5_coinFor_56 : decode cX5_coinFor 56 = .ok (.ifCond .eq 5, 3) := by decide +kernel
theorem dX5_coinFor_59 : decode cX5_coinFor 59 = .ok (.iload_n 2, 1) := by decide +kernel
theorem dX5_coinFor_60 : decode cX5_coinFor 60 = .ok (.ireturn, 1) := by decide +kernel
theorem dX5_coinFor_61 : decode cX5_coinFor 61 = .ok (.iinc 2 1, 3) := by decide +kernel
theorem dX5_coinFor_64 : decode cX5_coinFor 64 = .ok (.goto (-25), 3) := by decide +kernel
theorem dX5_coinFor_67 : decode cX5_coinFor 67 = .ok (.iconst (-1), 1) := by decide +kernel
theorem dX5_coinFor_68 : decode cX5_coinFor 68 = .ok (.ireturn, 1) := by decide +kernel
theorem dX5_priceIn_0 : decode cX5_priceIn 0 = .ok (.aload_n 0, 1) := by decide +kernel
theorem dX5_priceIn_1 : decode cX5_priceIn 1 = .ok (.getfield 10, 3) := by decide +kernel
theorem dX5_priceIn_4 : decode cX5_priceIn 4 = .ok (.iload_n 1, 1) := by decide +kernel
theorem dX5_priceIn_5 : decode cX5_priceIn 5 = .ok (.invokevirtual 90, 3) := by decide +kernel
theorem dX5_priceIn_8 : decode cX5_priceIn 8 = .ok (.ifCond .ne 13, 3) := by decide +kernel
theorem dX5_priceIn_11 : decode cX5_priceIn 11 = .ok (.new 94, 3) := by decide +kernel
theorem dX5_priceIn_14 : decode cX5_priceIn 14 = .ok (.dup, 1) := by decide +kernel
theorem dX5_priceIn_15 : decode cX5_priceIn 15 = .ok (.ldc 96, 2) := by decide +kernel
theorem dX5_priceIn_17 : decode cX5_priceIn 17 = .ok (.invokespecial 98, 3) := by decide +kernel
theorem dX5_priceIn_20 : decode cX5_priceIn 20 = .ok (.athrow, 1) := by decide +kernel
theorem dX5_priceIn_21 : decode cX5_priceIn 21 = .ok (.iload_n 2, 1) := by decide +kernel
theorem dX5_priceIn_22 : decode cX5_priceIn 22 = .ok (.iconst 0, 1) := by decide +kernel
theorem dX5_priceIn_23 : decode cX5_priceIn 23 = .ok (.bipush 48, 2) := by decide +kernel
theorem dX5_priceIn_25 : decode cX5_priceIn 25 = .ok (.invokestatic 38, 3) := by decide +kernel
theorem dX5_priceIn_28 : decode cX5_priceIn 28 = .ok (.ifCond .ne 13, 3) := by decide +kernel
theorem dX5_priceIn_31 : decode cX5_priceIn 31 = .ok (.new 42, 3) := by decide +kernel
theorem dX5_priceIn_34 : decode cX5_priceIn 34 = .ok (.dup, 1) := by decide +kernel
theorem dX5_priceIn_35 : decode cX5_priceIn 35 = .ok (.ldc 140, 2) := by decide +kernel
theorem dX5_priceIn_37 : decode cX5_priceIn 37 = .ok (.invokespecial 46, 3) := by decide +kernel
theorem dX5_priceIn_40 : decode cX5_priceIn 40 = .ok (.athrow, 1) := by decide +kernel
theorem dX5_priceIn_41 : decode cX5_priceIn 41 = .ok (.aload_n 0, 1) := by decide +kernel
theorem dX5_priceIn_42 : decode cX5_priceIn 42 = .ok (.getfield 16, 3) := by decide +kernel
theorem dX5_priceIn_45 : decode cX5_priceIn 45 = .ok (.aload_n 0, 1) := by decide +kernel
theorem dX5_priceIn_46 : decode cX5_priceIn 46 = .ok (.getfield 10, 3) := by decide +kernel
theorem dX5_priceIn_49 : decode cX5_priceIn 49 = .ok (.invokevirtual 205, 3) := by decide +kernel
theorem dX5_priceIn_52 : decode cX5_priceIn 52 = .ok (.aload_n 0, 1) := by decide +kernel
theorem dX5_priceIn_53 : decode cX5_priceIn 53 = .ok (.getfield 16, 3) := by decide +kernel
theorem dX5_priceIn_56 : decode cX5_priceIn 56 = .ok (.iload_n 2, 1) := by decide +kernel
theorem dX5_priceIn_57 : decode cX5_priceIn 57 = .ok (.invokevirtual 147, 3) := by decide +kernel
theorem dX5_priceIn_60 : decode cX5_priceIn 60 = .ok (.pop, 1) := by decide +kernel
theorem dX5_priceIn_61 : decode cX5_priceIn 61 = .ok (.aload_n 0, 1) := by decide +kernel
theorem dX5_priceIn_62 : decode cX5_priceIn 62 = .ok (.getfield 16, 3) := by decide +kernel
theorem dX5_priceIn_65 : decode cX5_priceIn 65 = .ok (.getfield 156, 3) := by decide +kernel
theorem dX5_priceIn_68 : decode cX5_priceIn 68 = .ok (.iload_n 1, 1) := by decide +kernel
theorem dX5_priceIn_69 : decode cX5_priceIn 69 = .ok (.aaload, 1) := by decide +kernel
theorem dX5_priceIn_70 : decode cX5_priceIn 70 = .ok (.getfield 209, 3) := by decide +kernel
theorem dX5_priceIn_73 : decode cX5_priceIn 73 = .ok (.ireturn, 1) := by decide +kernel
theorem dX5_salesInARow_0 : decode cX5_salesInARow 0 = .ok (.aload_n 0, 1) := by decide +kernel
theorem dX5_salesInARow_1 : decode cX5_salesInARow 1 = .ok (.getfield 10, 3) := by decide +kernel
theorem dX5_salesInARow_4 : decode cX5_salesInARow 4 = .ok (.iload_n 1, 1) := by decide +kernel
theorem dX5_salesInARow_5 : decode cX5_salesInARow 5 = .ok (.invokevirtual 90, 3) := by decide +kernel
theorem dX5_salesInARow_8 : decode cX5_salesInARow 8 = .ok (.ifCond .ne 13, 3) := by decide +kernel
theorem dX5_salesInARow_11 : decode cX5_salesInARow 11 = .ok (.new 94, 3) := by decide +kernel
theorem dX5_salesInARow_14 : decode cX5_salesInARow 14 = .ok (.dup, 1) := by decide +kernel
theorem dX5_salesInARow_15 : decode cX5_salesInARow 15 = .ok (.ldc 96, 2) := by decide +kernel
theorem dX5_salesInARow_17 : decode cX5_salesInARow 17 = .ok (.invokespecial 98, 3) := by decide +kernel
theorem dX5_salesInARow_20 : decode cX5_salesInARow 20 = .ok (.athrow, 1) := by decide +kernel
theorem dX5_salesInARow_21 : decode cX5_salesInARow 21 = .ok (.aload_n 0, 1) := by decide +kernel
theorem dX5_salesInARow_22 : decode cX5_salesInARow 22 = .ok (.iconst 0, 1) := by decide +kernel
theorem dX5_salesInARow_23 : decode cX5_salesInARow 23 = .ok (.iload_n 2, 1) := by decide +kernel
theorem dX5_salesInARow_24 : decode cX5_salesInARow 24 = .ok (.iconst 0, 1) := by decide +kernel
theorem dX5_salesInARow_25 : decode cX5_salesInARow 25 = .ok (.iload_n 3, 1) := by decide +kernel
theorem dX5_salesInARow_26 : decode cX5_salesInARow 26 = .ok (.invokevirtual 123, 3) := by decide +kernel
theorem dX5_salesInARow_29 : decode cX5_salesInARow 29 = .ok (.ifCond .ne 13, 3) := by decide +kernel
theorem dX5_salesInARow_32 : decode cX5_salesInARow 32 = .ok (.new 42, 3) := by decide +kernel
theorem dX5_salesInARow_35 : decode cX5_salesInARow 35 = .ok (.dup, 1) := by decide +kernel
theorem dX5_salesInARow_36 : decode cX5_salesInARow 36 = .ok (.ldc 112, 2) := by decide +kernel
theorem dX5_salesInARow_38 : decode cX5_salesInARow 38 = .ok (.invokespecial 46, 3) := by decide +kernel
theorem dX5_salesInARow_41 : decode cX5_salesInARow 41 = .ok (.athrow, 1) := by decide +kernel
theorem dX5_salesInARow_42 : decode cX5_salesInARow 42 = .ok (.aload_n 0, 1) := by decide +kernel
theorem dX5_salesInARow_43 : decode cX5_salesInARow 43 = .ok (.getfield 16, 3) := by decide +kernel
theorem dX5_salesInARow_46 : decode cX5_salesInARow 46 = .ok (.aload_n 0, 1) := by decide +kernel
theorem dX5_salesInARow_47 : decode cX5_salesInARow 47 = .ok (.getfield 10, 3) := by decide +kernel
theorem dX5_salesInARow_50 : decode cX5_salesInARow 50 = .ok (.invokevirtual 205, 3) := by decide +kernel
theorem dX5_salesInARow_53 : decode cX5_salesInARow 53 = .ok (.iconst 0, 1) := by decide +kernel
theorem dX5_salesInARow_54 : decode cX5_salesInARow 54 = .ok (.istore 4, 2) := by decide +kernel
theorem dX5_salesInARow_56 : decode cX5_salesInARow 56 = .ok (.iload 4, 2) := by decide +kernel
theorem dX5_salesInARow_58 : decode cX5_salesInARow 58 = .ok (.bipush 20, 2) := by decide +kernel
theorem dX5_salesInARow_60 : decode cX5_salesInARow 60 = .ok (.if_icmp .ge 37, 3) := by decide +kernel
theorem dX5_salesInARow_63 : decode cX5_salesInARow 63 = .ok (.aload_n 0, 1) := by decide +kernel
theorem dX5_salesInARow_64 : decode cX5_salesInARow 64 = .ok (.getfield 16, 3) := by decide +kernel
theorem dX5_salesInARow_67 : decode cX5_salesInARow 67 = .ok (.iload_n 1, 1) := by decide +kernel
theorem dX5_salesInARow_68 : decode cX5_salesInARow 68 = .ok (.aload_n 0, 1) := by decide +kernel
theorem dX5_salesInARow_69 : decode cX5_salesInARow 69 = .ok (.getfield 34, 3) := by decide +kernel
theorem dX5_salesInARow_72 : decode cX5_salesInARow 72 = .ok (.invokevirtual 126, 3) := by decide +kernel
theorem dX5_salesInARow_75 : decode cX5_salesInARow 75 = .ok (.ifCond .eq 22, 3) := by decide +kernel
theorem dX5_salesInARow_78 : decode cX5_salesInARow 78 = .ok (.aload_n 0, 1) := by decide +kernel
theorem dX5_salesInARow_79 : decode cX5_salesInARow 79 = .ok (.getfield 16, 3) := by decide +kernel
theorem dX5_salesInARow_82 : decode cX5_salesInARow 82 = .ok (.iload_n 1, 1) := by decide +kernel
theorem dX5_salesInARow_83 : decode cX5_salesInARow 83 = .ok (.aload_n 0, 1) := by decide +kernel
theorem dX5_salesInARow_84 : decode cX5_salesInARow 84 = .ok (.getfield 34, 3) := by decide +kernel
theorem dX5_salesInARow_87 : decode cX5_salesInARow 87 = .ok (.invokevirtual 132, 3) := by decide +kernel
theorem dX5_salesInARow_90 : decode cX5_salesInARow 90 = .ok (.pop, 1) := by decide +kernel
theorem dX5_salesInARow_91 : decode cX5_salesInARow 91 = .ok (.iinc 4 1, 3) := by decide +kernel
theorem dX5_salesInARow_94 : decode cX5_salesInARow 94 = .ok (.goto (-38), 3) := by decide +kernel
theorem dX5_salesInARow_97 : decode cX5_salesInARow 97 = .ok (.iload 4, 2) := by decide +kernel
theorem dX5_salesInARow_99 : decode cX5_salesInARow 99 = .ok (.ireturn, 1) := by decide +kernel
theorem dX5_favorite_0 : decode cX5_favorite 0 = .ok (.iconst (-1), 1) := by decide +kernel
theorem dX5_favorite_1 : decode cX5_favorite 1 = .ok (.istore_n 1, 1) := by decide +kernel
theorem dX5_favorite_2 : decode cX5_favorite 2 = .ok (.ldc 212, 2) := by decide +kernel
theorem dX5_favorite_4 : decode cX5_favorite 4 = .ok (.fstore_n 2, 1) := by decide +kernel
theorem dX5_favorite_5 : decode cX5_favorite 5 = .ok (.iconst 0, 1) := by decide +kernel
theorem dX5_favorite_6 : decode cX5_favorite 6 = .ok (.istore_n 3, 1) := by decide +kernel
theorem dX5_favorite_7 : decode cX5_favorite 7 = .ok (.iload_n 3, 1) := by decide +kernel
theorem dX5_favorite_8 : decode cX5_favorite 8 = .ok (.aload_n 0, 1) := by decide +kernel
theorem dX5_favorite_9 : decode cX5_favorite 9 = .ok (.getfield 10, 3) := by decide +kernel
theorem dX5_favorite_12 : decode cX5_favorite 12 = .ok (.getfield 213, 3) := by decide +kernel
theorem dX5_favorite_15 : decode cX5_favorite 15 = .ok (.if_icmp .ge 41, 3) := by decide +kernel
theorem dX5_favorite_18 : decode cX5_favorite 18 = .ok (.aload_n 0, 1) := by decide +kernel
theorem dX5_favorite_19 : decode cX5_favorite 19 = .ok (.getfield 10, 3) := by decide +kernel
theorem dX5_favorite_22 : decode cX5_favorite 22 = .ok (.getfield 156, 3) := by decide +kernel
theorem dX5_favorite_25 : decode cX5_favorite 25 = .ok (.iload_n 3, 1) := by decide +kernel
theorem dX5_favorite_26 : decode cX5_favorite 26 = .ok (.aaload, 1) := by decide +kernel
theorem dX5_favorite_27 : decode cX5_favorite 27 = .ok (.getfield 165, 3) := by decide +kernel
theorem dX5_favorite_30 : decode cX5_favorite 30 = .ok (.fload_n 2, 1) := by decide +kernel
theorem dX5_favorite_31 : decode cX5_favorite 31 = .ok (.fcmp .l, 1) := by decide +kernel
theorem dX5_favorite_32 : decode cX5_favorite 32 = .ok (.ifCond .le 18, 3) := by decide +kernel
theorem dX5_favorite_35 : decode cX5_favorite 35 = .ok (.aload_n 0, 1) := by decide +kernel
theorem dX5_favorite_36 : decode cX5_favorite 36 = .ok (.getfield 10, 3) := by decide +kernel
theorem dX5_favorite_39 : decode cX5_favorite 39 = .ok (.getfield 156, 3) := by decide +kernel
theorem dX5_favorite_42 : decode cX5_favorite 42 = .ok (.iload_n 3, 1) := by decide +kernel
theorem dX5_favorite_43 : decode cX5_favorite 43 = .ok (.aaload, 1) := by decide +kernel
theorem dX5_favorite_44 : decode cX5_favorite 44 = .ok (.getfield 165, 3) := by decide +kernel
theorem dX5_favorite_47 : decode cX5_favorite 47 = .ok (.fstore_n 2, 1) := by decide +kernel
theorem dX5_favorite_48 : decode cX5_favorite 48 = .ok (.iload_n 3, 1) := by decide +kernel
theorem dX5_favorite_49 : decode cX5_favorite 49 = .ok (.istore_n 1, 1) := by decide +kernel
theorem dX5_favorite_50 : decode cX5_favorite 50 = .ok (.iinc 3 1, 3) := by decide +kernel
theorem dX5_favorite_53 : decode cX5_favorite 53 = .ok (.goto (-46), 3) := by decide +kernel
theorem dX5_favorite_56 : decode cX5_favorite 56 = .ok (.iload_n 1, 1) := by decide +kernel
theorem dX5_favorite_57 : decode cX5_favorite 57 = .ok (.ireturn, 1) := by decide +kernel
theorem dX5_append_0 : decode cX5_append 0 = .ok (.iload_n 1, 1) := by decide +kernel
theorem dX5_append_1 : decode cX5_append 1 = .ok (.iconst 0, 1) := by decide +kernel
theorem dX5_append_2 : decode cX5_append 2 = .ok (.bipush 127, 2) := by decide +kernel
theorem dX5_append_4 : decode cX5_append 4 = .ok (.invokestatic 38, 3) := by decide +kernel
theorem dX5_append_7 : decode cX5_append 7 = .ok (.ifCond .ne 13, 3) := by decide +kernel
theorem dX5_append_10 : decode cX5_append 10 = .ok (.new 42, 3) := by decide +kernel
theorem dX5_append_13 : decode cX5_append 13 = .ok (.dup, 1) := by decide +kernel
theorem dX5_append_14 : decode cX5_append 14 = .ok (.ldc 216, 2) := by decide +kernel
theorem dX5_append_16 : decode cX5_append 16 = .ok (.invokespecial 46, 3) := by decide +kernel
theorem dX5_append_19 : decode cX5_append 19 = .ok (.athrow, 1) := by decide +kernel
theorem dX5_append_20 : decode cX5_append 20 = .ok (.aload_n 0, 1) := by decide +kernel
theorem dX5_append_21 : decode cX5_append 21 = .ok (.getfield 30, 3) := by decide +kernel
theorem dX5_append_24 : decode cX5_append 24 = .ok (.getfield 218, 3) := by decide +kernel
theorem dX5_append_27 : decode cX5_append 27 = .ok (.bipush 100, 2) := by decide +kernel
theorem dX5_append_29 : decode cX5_append 29 = .ok (.if_icmp .lt 13, 3) := by decide +kernel
theorem dX5_append_32 : decode cX5_append 32 = .ok (.new 81, 3) := by decide +kernel
theorem dX5_append_35 : decode cX5_append 35 = .ok (.dup, 1) := by decide +kernel
theorem dX5_append_36 : decode cX5_append 36 = .ok (.ldc 221, 2) := by decide +kernel
theorem dX5_append_38 : decode cX5_append 38 = .ok (.invokespecial 85, 3) := by decide +kernel
theorem dX5_append_41 : decode cX5_append 41 = .ok (.athrow, 1) := by decide +kernel
theorem dX5_append_42 : decode cX5_append 42 = .ok (.aload_n 0, 1) := by decide +kernel
theorem dX5_append_43 : decode cX5_append 43 = .ok (.getfield 30, 3) := by decide +kernel
theorem dX5_append_46 : decode cX5_append 46 = .ok (.iload_n 1, 1) := by decide +kernel
theorem dX5_append_47 : decode cX5_append 47 = .ok (.invokevirtual 223, 3) := by decide +kernel
theorem dX5_append_50 : decode cX5_append 50 = .ok (.ireturn, 1) := by decide +kernel
theorem dX5_clearText_0 : decode cX5_clearText 0 = .ok (.aload_n 0, 1) := by decide +kernel
theorem dX5_clearText_1 : decode cX5_clearText 1 = .ok (.getfield 30, 3) := by decide +kernel
theorem dX5_clearText_4 : decode cX5_clearText 4 = .ok (.getfield 218, 3) := by decide +kernel
theorem dX5_clearText_7 : decode cX5_clearText 7 = .ok (.istore_n 1, 1) := by decide +kernel
theorem dX5_clearText_8 : decode cX5_clearText 8 = .ok (.aload_n 0, 1) := by decide +kernel
theorem dX5_clearText_9 : decode cX5_clearText 9 = .ok (.getfield 30, 3) := by decide +kernel
theorem dX5_clearText_12 : decode cX5_clearText 12 = .ok (.iconst 0, 1) := by decide +kernel
theorem dX5_clearText_13 : decode cX5_clearText 13 = .ok (.putfield 218, 3) := by decide +kernel
theorem dX5_clearText_16 : decode cX5_clearText 16 = .ok (.iload_n 1, 1) := by decide +kernel
theorem dX5_clearText_17 : decode cX5_clearText 17 = .ok (.ireturn, 1) := by decide +kernel
theorem dX5_carryOut_0 : decode cX5_carryOut 0 = .ok (.aload_n 0, 1) := by decide +kernel
theorem dX5_carryOut_1 : decode cX5_carryOut 1 = .ok (.getfield 30, 3) := by decide +kernel
theorem dX5_carryOut_4 : decode cX5_carryOut 4 = .ok (.invokevirtual 226, 3) := by decide +kernel
theorem dX5_carryOut_7 : decode cX5_carryOut 7 = .ok (.istore_n 1, 1) := by decide +kernel
theorem dX5_carryOut_8 : decode cX5_carryOut 8 = .ok (.iload_n 1, 1) := by decide +kernel
theorem dX5_carryOut_9 : decode cX5_carryOut 9 = .ok (.iconst (-1), 1) := by decide +kernel
theorem dX5_carryOut_10 : decode cX5_carryOut 10 = .ok (.if_icmp .eq 8, 3) := by decide +kernel
theorem dX5_carryOut_13 : decode cX5_carryOut 13 = .ok (.bipush (-10), 2) := by decide +kernel
theorem dX5_carryOut_15 : decode cX5_carryOut 15 = .ok (.iload_n 1, 1) := by decide +kernel
theorem dX5_carryOut_16 : decode cX5_carryOut 16 = .ok (.isub, 1) := by decide +kernel
theorem dX5_carryOut_17 : decode cX5_carryOut 17 = .ok (.ireturn, 1) := by decide +kernel
theorem dX5_carryOut_18 : decode cX5_carryOut 18 = .ok (.aload_n 0, 1) := by decide +kernel
theorem dX5_carryOut_19 : decode cX5_carryOut 19 = .ok (.invokevirtual 64, 3) := by decide +kernel
theorem dX5_carryOut_22 : decode cX5_carryOut 22 = .ok (.aload_n 0, 1) := by decide +kernel
theorem dX5_carryOut_23 : decode cX5_carryOut 23 = .ok (.getfield 30, 3) := by decide +kernel
theorem dX5_carryOut_26 : decode cX5_carryOut 26 = .ok (.invokevirtual 229, 3) := by decide +kernel
theorem dX5_carryOut_29 : decode cX5_carryOut 29 = .ok (.iconst 0, 1) := by decide +kernel
theorem dX5_carryOut_30 : decode cX5_carryOut 30 = .ok (.istore_n 2, 1) := by decide +kernel
theorem dX5_carryOut_31 : decode cX5_carryOut 31 = .ok (.iload_n 2, 1) := by decide +kernel
theorem dX5_carryOut_32 : decode cX5_carryOut 32 = .ok (.bipush 100, 2) := by decide +kernel
theorem dX5_carryOut_34 : decode cX5_carryOut 34 = .ok (.if_icmp .ge 26, 3) := by decide +kernel
theorem dX5_carryOut_37 : decode cX5_carryOut 37 = .ok (.aload_n 0, 1) := by decide +kernel
theorem dX5_carryOut_38 : decode cX5_carryOut 38 = .ok (.getfield 30, 3) := by decide +kernel
theorem dX5_carryOut_41 : decode cX5_carryOut 41 = .ok (.invokevirtual 232, 3) := by decide +kernel
theorem dX5_carryOut_44 : decode cX5_carryOut 44 = .ok (.ifCond .eq 16, 3) := by decide +kernel
theorem dX5_carryOut_47 : decode cX5_carryOut 47 = .ok (.aload_n 0, 1) := by decide +kernel
theorem dX5_carryOut_48 : decode cX5_carryOut 48 = .ok (.invokevirtual 235, 3) := by decide +kernel
theorem dX5_carryOut_51 : decode cX5_carryOut 51 = .ok (.ifCond .eq 9, 3) := by decide +kernel
theorem dX5_carryOut_54 : decode cX5_carryOut 54 = .ok (.iinc 2 1, 3) := by decide +kernel
theorem dX5_carryOut_57 : decode cX5_carryOut 57 = .ok (.goto (-26), 3) := by decide +kernel
theorem dX5_carryOut_60 : decode cX5_carryOut 60 = .ok (.iload_n 2, 1) := by decide +kernel
theorem dX5_carryOut_61 : decode cX5_carryOut 61 = .ok (.ireturn, 1) := by decide +kernel
theorem dX5_undo_0 : decode cX5_undo 0 = .ok (.aload_n 0, 1) := by decide +kernel
theorem dX5_undo_1 : decode cX5_undo 1 = .ok (.getfield 23, 3) := by decide +kernel
theorem dX5_undo_4 : decode cX5_undo 4 = .ok (.iconst 1, 1) := by decide +kernel
theorem dX5_undo_5 : decode cX5_undo 5 = .ok (.if_icmp .ge 13, 3) := by decide +kernel
theorem dX5_undo_8 : decode cX5_undo 8 = .ok (.new 81, 3) := by decide +kernel
theorem dX5_undo_11 : decode cX5_undo 11 = .ok (.dup, 1) := by decide +kernel
theorem dX5_undo_12 : decode cX5_undo 12 = .ok (.ldc 238, 2) := by decide +kernel
theorem dX5_undo_14 : decode cX5_undo 14 = .ok (.invokespecial 85, 3) := by decide +kernel
theorem dX5_undo_17 : decode cX5_undo 17 = .ok (.athrow, 1) := by decide +kernel
theorem dX5_undo_18 : decode cX5_undo 18 = .ok (.aload_n 0, 1) := by decide +kernel
theorem dX5_undo_19 : decode cX5_undo 19 = .ok (.dup, 1) := by decide +kernel
theorem dX5_undo_20 : decode cX5_undo 20 = .ok (.getfield 23, 3) := by decide +kernel
theorem dX5_undo_23 : decode cX5_undo 23 = .ok (.iconst 1, 1) := by decide +kernel
theorem dX5_undo_24 : decode cX5_undo 24 = .ok (.isub, 1) := by decide +kernel
theorem dX5_undo_25 : decode cX5_undo 25 = .ok (.putfield 23, 3) := by decide +kernel
theorem dX5_undo_28 : decode cX5_undo 28 = .ok (.aload_n 0, 1) := by decide +kernel
theorem dX5_undo_29 : decode cX5_undo 29 = .ok (.getfield 10, 3) := by decide +kernel
theorem dX5_undo_32 : decode cX5_undo 32 = .ok (.aload_n 0, 1) := by decide +kernel
theorem dX5_undo_33 : decode cX5_undo 33 = .ok (.getfield 19, 3) := by decide +kernel
theorem dX5_undo_36 : decode cX5_undo 36 = .ok (.aload_n 0, 1) := by decide +kernel
theorem dX5_undo_37 : decode cX5_undo 37 = .ok (.getfield 23, 3) := by decide +kernel
theorem dX5_undo_40 : decode cX5_undo 40 = .ok (.aaload, 1) := by decide +kernel
theorem dX5_undo_41 : decode cX5_undo 41 = .ok (.invokevirtual 205, 3) := by decide +kernel
theorem dX5_undo_44 : decode cX5_undo 44 = .ok (.aload_n 0, 1) := by decide +kernel
theorem dX5_undo_45 : decode cX5_undo 45 = .ok (.getfield 23, 3) := by decide +kernel
theorem dX5_undo_48 : decode cX5_undo 48 = .ok (.ireturn, 1) := by decide +kernel
theorem dX5_digest_0 : decode cX5_digest 0 = .ok (.ldc2_w 240, 3) := by decide +kernel
theorem dX5_digest_3 : decode cX5_digest 3 = .ok (.aload_n 0, 1) := by decide +kernel
theorem dX5_digest_4 : decode cX5_digest 4 = .ok (.getfield 30, 3) := by decide +kernel
theorem dX5_digest_7 : decode cX5_digest 7 = .ok (.getfield 218, 3) := by decide +kernel
theorem dX5_digest_10 : decode cX5_digest 10 = .ok (.i2l, 1) := by decide +kernel
theorem dX5_digest_11 : decode cX5_digest 11 = .ok (.ladd, 1) := by decide +kernel
theorem dX5_digest_12 : decode cX5_digest 12 = .ok (.lstore_n 1, 1) := by decide +kernel
theorem dX5_digest_13 : decode cX5_digest 13 = .ok (.iconst 0, 1) := by decide +kernel
theorem dX5_digest_14 : decode cX5_digest 14 = .ok (.istore_n 3, 1) := by decide +kernel
theorem dX5_digest_15 : decode cX5_digest 15 = .ok (.iload_n 3, 1) := by decide +kernel
theorem dX5_digest_16 : decode cX5_digest 16 = .ok (.bipush 11, 2) := by decide +kernel
theorem dX5_digest_18 : decode cX5_digest 18 = .ok (.if_icmp .ge 25, 3) := by decide +kernel
theorem dX5_digest_21 : decode cX5_digest 21 = .ok (.ldc2_w 242, 3) := by decide +kernel
theorem dX5_digest_24 : decode cX5_digest 24 = .ok (.lload_n 1, 1) := by decide +kernel
theorem dX5_digest_25 : decode cX5_digest 25 = .ok (.lmul, 1) := by decide +kernel
theorem dX5_digest_26 : decode cX5_digest 26 = .ok (.aload_n 0, 1) := by decide +kernel
theorem dX5_digest_27 : decode cX5_digest 27 = .ok (.getfield 10, 3) := by decide +kernel
theorem dX5_digest_30 : decode cX5_digest 30 = .ok (.iload_n 3, 1) := by decide +kernel
theorem dX5_digest_31 : decode cX5_digest 31 = .ok (.invokevirtual 172, 3) := by decide +kernel
theorem dX5_digest_34 : decode cX5_digest 34 = .ok (.i2l, 1) := by decide +kernel
theorem dX5_digest_35 : decode cX5_digest 35 = .ok (.ladd, 1) := by decide +kernel
theorem dX5_digest_36 : decode cX5_digest 36 = .ok (.lstore_n 1, 1) := by decide +kernel
theorem dX5_digest_37 : decode cX5_digest 37 = .ok (.iinc 3 1, 3) := by decide +kernel
theorem dX5_digest_40 : decode cX5_digest 40 = .ok (.goto (-25), 3) := by decide +kernel
theorem dX5_digest_43 : decode cX5_digest 43 = .ok (.iconst 0, 1) := by decide +kernel
theorem dX5_digest_44 : decode cX5_digest 44 = .ok (.istore_n 3, 1) := by decide +kernel
theorem dX5_digest_45 : decode cX5_digest 45 = .ok (.iload_n 3, 1) := by decide +kernel
theorem dX5_digest_46 : decode cX5_digest 46 = .ok (.iconst 5, 1) := by decide +kernel
theorem dX5_digest_47 : decode cX5_digest 47 = .ok (.if_icmp .ge 26, 3) := by decide +kernel
theorem dX5_digest_50 : decode cX5_digest 50 = .ok (.ldc2_w 242, 3) := by decide +kernel
theorem dX5_digest_53 : decode cX5_digest 53 = .ok (.lload_n 1, 1) := by decide +kernel
theorem dX5_digest_54 : decode cX5_digest 54 = .ok (.lmul, 1) := by decide +kernel
theorem dX5_digest_55 : decode cX5_digest 55 = .ok (.aload_n 0, 1) := by decide +kernel
theorem dX5_digest_56 : decode cX5_digest 56 = .ok (.getfield 10, 3) := by decide +kernel
theorem dX5_digest_59 : decode cX5_digest 59 = .ok (.getfield 175, 3) := by decide +kernel
theorem dX5_digest_62 : decode cX5_digest 62 = .ok (.iload_n 3, 1) := by decide +kernel
theorem dX5_digest_63 : decode cX5_digest 63 = .ok (.iaload, 1) := by decide +kernel
theorem dX5_digest_64 : decode cX5_digest 64 = .ok (.i2l, 1) := by decide +kernel
theorem dX5_digest_65 : decode cX5_digest 65 = .ok (.ladd, 1) := by decide +kernel
theorem dX5_digest_66 : decode cX5_digest 66 = .ok (.lstore_n 1, 1) := by decide +kernel
theorem dX5_digest_67 : decode cX5_digest 67 = .ok (.iinc 3 1, 3) := by decide +kernel
theorem dX5_digest_70 : decode cX5_digest 70 = .ok (.goto (-25), 3) := by decide +kernel
theorem dX5_digest_73 : decode cX5_digest 73 = .ok (.iconst 0, 1) := by decide +kernel
theorem dX5_digest_74 : decode cX5_digest 74 = .ok (.istore_n 3, 1) := by decide +kernel
theorem dX5_digest_75 : decode cX5_digest 75 = .ok (.iload_n 3, 1) := by decide +kernel
theorem dX5_digest_76 : decode cX5_digest 76 = .ok (.iconst 4, 1) := by decide +kernel
theorem dX5_digest_77 : decode cX5_digest 77 = .ok (.if_icmp .ge 29, 3) := by decide +kernel
theorem dX5_digest_80 : decode cX5_digest 80 = .ok (.ldc2_w 242, 3) := by decide +kernel
theorem dX5_digest_83 : decode cX5_digest 83 = .ok (.lload_n 1, 1) := by decide +kernel
theorem dX5_digest_84 : decode cX5_digest 84 = .ok (.lmul, 1) := by decide +kernel
theorem dX5_digest_85 : decode cX5_digest 85 = .ok (.aload_n 0, 1) := by decide +kernel
theorem dX5_digest_86 : decode cX5_digest 86 = .ok (.getfield 10, 3) := by decide +kernel
theorem dX5_digest_89 : decode cX5_digest 89 = .ok (.getfield 114, 3) := by decide +kernel
theorem dX5_digest_92 : decode cX5_digest 92 = .ok (.getfield 169, 3) := by decide +kernel
theorem dX5_digest_95 : decode cX5_digest 95 = .ok (.iload_n 3, 1) := by decide +kernel
theorem dX5_digest_96 : decode cX5_digest 96 = .ok (.iaload, 1) := by decide +kernel
theorem dX5_digest_97 : decode cX5_digest 97 = .ok (.i2l, 1) := by decide +kernel
theorem dX5_digest_98 : decode cX5_digest 98 = .ok (.ladd, 1) := by decide +kernel
theorem dX5_digest_99 : decode cX5_digest 99 = .ok (.lstore_n 1, 1) := by decide +kernel
theorem dX5_digest_100 : decode cX5_digest 100 = .ok (.iinc 3 1, 3) := by decide +kernel
theorem dX5_digest_103 : decode cX5_digest 103 = .ok (.goto (-28), 3) := by decide +kernel
theorem dX5_digest_106 : decode cX5_digest 106 = .ok (.iconst 0, 1) := by decide +kernel
theorem dX5_digest_107 : decode cX5_digest 107 = .ok (.istore_n 3, 1) := by decide +kernel
theorem dX5_digest_108 : decode cX5_digest 108 = .ok (.iload_n 3, 1) := by decide +kernel
theorem dX5_digest_109 : decode cX5_digest 109 = .ok (.aload_n 0, 1) := by decide +kernel
theorem dX5_digest_110 : decode cX5_digest 110 = .ok (.getfield 10, 3) := by decide +kernel
theorem dX5_digest_113 : decode cX5_digest 113 = .ok (.getfield 213, 3) := by decide +kernel
theorem dX5_digest_116 : decode cX5_digest 116 = .ok (.if_icmp .ge 70, 3) := by decide +kernel
theorem dX5_digest_119 : decode cX5_digest 119 = .ok (.iconst 0, 1) := by decide +kernel
theorem dX5_digest_120 : decode cX5_digest 120 = .ok (.istore 4, 2) := by decide +kernel
theorem dX5_digest_122 : decode cX5_digest 122 = .ok (.iload 4, 2) := by decide +kernel
theorem dX5_digest_124 : decode cX5_digest 124 = .ok (.bipush 10, 2) := by decide +kernel
theorem dX5_digest_126 : decode cX5_digest 126 = .ok (.if_icmp .ge 31, 3) := by decide +kernel
theorem dX5_digest_129 : decode cX5_digest 129 = .ok (.ldc2_w 242, 3) := by decide +kernel
theorem dX5_digest_132 : decode cX5_digest 132 = .ok (.lload_n 1, 1) := by decide +kernel
theorem dX5_digest_133 : decode cX5_digest 133 = .ok (.lmul, 1) := by decide +kernel
theorem dX5_digest_134 : decode cX5_digest 134 = .ok (.aload_n 0, 1) := by decide +kernel
theorem dX5_digest_135 : decode cX5_digest 135 = .ok (.getfield 10, 3) := by decide +kernel
theorem dX5_digest_138 : decode cX5_digest 138 = .ok (.getfield 156, 3) := by decide +kernel
theorem dX5_digest_141 : decode cX5_digest 141 = .ok (.iload_n 3, 1) := by decide +kernel
theorem dX5_digest_142 : decode cX5_digest 142 = .ok (.aaload, 1) := by decide +kernel
theorem dX5_digest_143 : decode cX5_digest 143 = .ok (.iload 4, 2) := by decide +kernel
theorem dX5_digest_145 : decode cX5_digest 145 = .ok (.invokevirtual 160, 3) := by decide +kernel
theorem dX5_digest_148 : decode cX5_digest 148 = .ok (.i2l, 1) := by decide +kernel
theorem dX5_digest_149 : decode cX5_digest 149 = .ok (.ladd, 1) := by decide +kernel
theorem dX5_digest_150 : decode cX5_digest 150 = .ok (.lstore_n 1, 1) := by decide +kernel
theorem dX5_digest_151 : decode cX5_digest 151 = .ok (.iinc 4 1, 3) := by decide +kernel
theorem dX5_digest_154 : decode cX5_digest 154 = .ok (.goto (-32), 3) := by decide +kernel
theorem dX5_digest_157 : decode cX5_digest 157 = .ok (.ldc2_w 242, 3) := by decide +kernel
theorem dX5_digest_160 : decode cX5_digest 160 = .ok (.lload_n 1, 1) := by decide +kernel
theorem dX5_digest_161 : decode cX5_digest 161 = .ok (.lmul, 1) := by decide +kernel
theorem dX5_digest_162 : decode cX5_digest 162 = .ok (.aload_n 0, 1) := by decide +kernel
theorem dX5_digest_163 : decode cX5_digest 163 = .ok (.getfield 10, 3) := by decide +kernel
theorem dX5_digest_166 : decode cX5_digest 166 = .ok (.getfield 156, 3) := by decide +kernel
theorem dX5_digest_169 : decode cX5_digest 169 = .ok (.iload_n 3, 1) := by decide +kernel
theorem dX5_digest_170 : decode cX5_digest 170 = .ok (.aaload, 1) := by decide +kernel
theorem dX5_digest_171 : decode cX5_digest 171 = .ok (.getfield 165, 3) := by decide +kernel
theorem dX5_digest_174 : decode cX5_digest 174 = .ok (.invokestatic 244, 3) := by decide +kernel
theorem dX5_digest_177 : decode cX5_digest 177 = .ok (.i2l, 1) := by decide +kernel
theorem dX5_digest_178 : decode cX5_digest 178 = .ok (.ladd, 1) := by decide +kernel
theorem dX5_digest_179 : decode cX5_digest 179 = .ok (.lstore_n 1, 1) := by decide +kernel
theorem dX5_digest_180 : decode cX5_digest 180 = .ok (.iinc 3 1, 3) := by decide +kernel
theorem dX5_digest_183 : decode cX5_digest 183 = .ok (.goto (-75), 3) := by decide +kernel
theorem dX5_digest_186 : decode cX5_digest 186 = .ok (.iconst 0, 1) := by decide +kernel
theorem dX5_digest_187 : decode cX5_digest 187 = .ok (.istore_n 3, 1) := by decide +kernel
theorem dX5_digest_188 : decode cX5_digest 188 = .ok (.iload_n 3, 1) := by decide +kernel
theorem dX5_digest_189 : decode cX5_digest 189 = .ok (.aload_n 0, 1) := by decide +kernel
theorem dX5_digest_190 : decode cX5_digest 190 = .ok (.getfield 10, 3) := by decide +kernel
theorem dX5_digest_193 : decode cX5_digest 193 = .ok (.getfield 114, 3) := by decide +kernel
theorem dX5_digest_196 : decode cX5_digest 196 = .ok (.getfield 178, 3) := by decide +kernel
theorem dX5_digest_199 : decode cX5_digest 199 = .ok (.if_icmp .ge 29, 3) := by decide +kernel
theorem dX5_digest_202 : decode cX5_digest 202 = .ok (.ldc2_w 242, 3) := by decide +kernel
theorem dX5_digest_205 : decode cX5_digest 205 = .ok (.lload_n 1, 1) := by decide +kernel
theorem dX5_digest_206 : decode cX5_digest 206 = .ok (.lmul, 1) := by decide +kernel
theorem dX5_digest_207 : decode cX5_digest 207 = .ok (.aload_n 0, 1) := by decide +kernel
theorem dX5_digest_208 : decode cX5_digest 208 = .ok (.getfield 10, 3) := by decide +kernel
theorem dX5_digest_211 : decode cX5_digest 211 = .ok (.getfield 114, 3) := by decide +kernel
theorem dX5_digest_214 : decode cX5_digest 214 = .ok (.getfield 183, 3) := by decide +kernel
theorem dX5_digest_217 : decode cX5_digest 217 = .ok (.iload_n 3, 1) := by decide +kernel
theorem dX5_digest_218 : decode cX5_digest 218 = .ok (.iaload, 1) := by decide +kernel
theorem dX5_digest_219 : decode cX5_digest 219 = .ok (.i2l, 1) := by decide +kernel
theorem dX5_digest_220 : decode cX5_digest 220 = .ok (.ladd, 1) := by decide +kernel
theorem dX5_digest_221 : decode cX5_digest 221 = .ok (.lstore_n 1, 1) := by decide +kernel
theorem dX5_digest_222 : decode cX5_digest 222 = .ok (.iinc 3 1, 3) := by decide +kernel
theorem dX5_digest_225 : decode cX5_digest 225 = .ok (.goto (-37), 3) := by decide +kernel
theorem dX5_digest_228 : decode cX5_digest 228 = .ok (.ldc2_w 242, 3) := by decide +kernel
theorem dX5_digest_231 : decode cX5_digest 231 = .ok (.lload_n 1, 1) := by decide +kernel
theorem dX5_digest_232 : decode cX5_digest 232 = .ok (.lmul, 1) := by decide +kernel
theorem dX5_digest_233 : decode cX5_digest 233 = .ok (.aload_n 0, 1) := by decide +kernel
theorem dX5_digest_234 : decode cX5_digest 234 = .ok (.getfield 23, 3) := by decide +kernel
theorem dX5_digest_237 : decode cX5_digest 237 = .ok (.i2l, 1) := by decide +kernel
theorem dX5_digest_238 : decode cX5_digest 238 = .ok (.ladd, 1) := by decide +kernel
theorem dX5_digest_239 : decode cX5_digest 239 = .ok (.lreturn, 1) := by decide +kernel
theorem dX5_isBetween_0 : decode cX5_isBetween 0 = .ok (.iload_n 0, 1) := by decide +kernel
theorem dX5_isBetween_1 : decode cX5_isBetween 1 = .ok (.iload_n 1, 1) := by decide +kernel
theorem dX5_isBetween_2 : decode cX5_isBetween 2 = .ok (.if_icmp .lt 12, 3) := by decide +kernel
theorem dX5_isBetween_5 : decode cX5_isBetween 5 = .ok (.iload_n 0, 1) := by decide +kernel
theorem dX5_isBetween_6 : decode cX5_isBetween 6 = .ok (.iload_n 2, 1) := by decide +kernel
theorem dX5_isBetween_7 : decode cX5_isBetween 7 = .ok (.if_icmp .gt 7, 3) := by decide +kernel
theorem dX5_isBetween_10 : decode cX5_isBetween 10 = .ok (.iconst 1, 1) := by decide +kernel
theorem dX5_isBetween_11 : decode cX5_isBetween 11 = .ok (.goto 4, 3) := by decide +kernel
theorem dX5_isBetween_14 : decode cX5_isBetween 14 = .ok (.iconst 0, 1) := by decide +kernel
theorem dX5_isBetween_15 : decode cX5_isBetween 15 = .ok (.ireturn, 1) := by decide +kernel
theorem dX5_isStepBetween_0 : decode cX5_isStepBetween 0 = .ok (.iload_n 0, 1) := by decide +kernel
theorem dX5_isStepBetween_1 : decode cX5_isStepBetween 1 = .ok (.iload_n 2, 1) := by decide +kernel
theorem dX5_isStepBetween_2 : decode cX5_isStepBetween 2 = .ok (.iload_n 3, 1) := by decide +kernel
theorem dX5_isStepBetween_3 : decode cX5_isStepBetween 3 = .ok (.invokestatic 38, 3) := by decide +kernel
theorem dX5_isStepBetween_6 : decode cX5_isStepBetween 6 = .ok (.ifCond .eq 17, 3) := by decide +kernel
theorem dX5_isStepBetween_9 : decode cX5_isStepBetween 9 = .ok (.iload_n 1, 1) := by decide +kernel
theorem dX5_isStepBetween_10 : decode cX5_isStepBetween 10 = .ok (.ifCond .le 13, 3) := by decide +kernel
theorem dX5_isStepBetween_13 : decode cX5_isStepBetween 13 = .ok (.iload_n 0, 1) := by decide +kernel
theorem dX5_isStepBetween_14 : decode cX5_isStepBetween 14 = .ok (.iload_n 1, 1) := by decide +kernel
theorem dX5_isStepBetween_15 : decode cX5_isStepBetween 15 = .ok (.irem, 1) := by decide +kernel
theorem dX5_isStepBetween_16 : decode cX5_isStepBetween 16 = .ok (.ifCond .ne 7, 3) := by decide +kernel
theorem dX5_isStepBetween_19 : decode cX5_isStepBetween 19 = .ok (.iconst 1, 1) := by decide +kernel
theorem dX5_isStepBetween_20 : decode cX5_isStepBetween 20 = .ok (.goto 4, 3) := by decide +kernel
theorem dX5_isStepBetween_23 : decode cX5_isStepBetween 23 = .ok (.iconst 0, 1) := by decide +kernel
theorem dX5_isStepBetween_24 : decode cX5_isStepBetween 24 = .ok (.ireturn, 1) := by decide +kernel
theorem dX5_holdOut_0 : decode cX5_holdOut 0 = .ok (.aload_n 0, 1) := by decide +kernel
theorem dX5_holdOut_1 : decode cX5_holdOut 1 = .ok (.getfield 34, 3) := by decide +kernel
theorem dX5_holdOut_4 : decode cX5_holdOut 4 = .ok (.iconst 0, 1) := by decide +kernel
theorem dX5_holdOut_5 : decode cX5_holdOut 5 = .ok (.iload_n 1, 1) := by decide +kernel
theorem dX5_holdOut_6 : decode cX5_holdOut 6 = .ok (.iastore, 1) := by decide +kernel
theorem dX5_holdOut_7 : decode cX5_holdOut 7 = .ok (.aload_n 0, 1) := by decide +kernel
theorem dX5_holdOut_8 : decode cX5_holdOut 8 = .ok (.getfield 34, 3) := by decide +kernel
theorem dX5_holdOut_11 : decode cX5_holdOut 11 = .ok (.iconst 1, 1) := by decide +kernel
theorem dX5_holdOut_12 : decode cX5_holdOut 12 = .ok (.iload_n 2, 1) := by decide +kernel
theorem dX5_holdOut_13 : decode cX5_holdOut 13 = .ok (.iastore, 1) := by decide +kernel
theorem dX5_holdOut_14 : decode cX5_holdOut 14 = .ok (.aload_n 0, 1) := by decide +kernel
theorem dX5_holdOut_15 : decode cX5_holdOut 15 = .ok (.getfield 34, 3) := by decide +kernel
theorem dX5_holdOut_18 : decode cX5_holdOut 18 = .ok (.iconst 2, 1) := by decide +kernel
theorem dX5_holdOut_19 : decode cX5_holdOut 19 = .ok (.iload_n 3, 1) := by decide +kernel
theorem dX5_holdOut_20 : decode cX5_holdOut 20 = .ok (.iastore, 1) := by decide +kernel
theorem dX5_holdOut_21 : decode cX5_holdOut 21 = .ok (.aload_n 0, 1) := by decide +kernel
theorem dX5_holdOut_22 : decode cX5_holdOut 22 = .ok (.getfield 34, 3) := by decide +kernel
theorem dX5_holdOut_25 : decode cX5_holdOut 25 = .ok (.iconst 3, 1) := by decide +kernel
theorem dX5_holdOut_26 : decode cX5_holdOut 26 = .ok (.iload 4, 2) := by decide +kernel
theorem dX5_holdOut_28 : decode cX5_holdOut 28 = .ok (.iastore, 1) := by decide +kernel
theorem dX5_holdOut_29 : decode cX5_holdOut 29 = .ok (.iconst 0, 1) := by decide +kernel
theorem dX5_holdOut_30 : decode cX5_holdOut 30 = .ok (.istore 5, 2) := by decide +kernel
theorem dX5_holdOut_32 : decode cX5_holdOut 32 = .ok (.iload 5, 2) := by decide +kernel
theorem dX5_holdOut_34 : decode cX5_holdOut 34 = .ok (.iconst 4, 1) := by decide +kernel
theorem dX5_holdOut_35 : decode cX5_holdOut 35 = .ok (.if_icmp .ge 27, 3) := by decide +kernel
theorem dX5_holdOut_38 : decode cX5_holdOut 38 = .ok (.aload_n 0, 1) := by decide +kernel
theorem dX5_holdOut_39 : decode cX5_holdOut 39 = .ok (.getfield 34, 3) := by decide +kernel
theorem dX5_holdOut_42 : decode cX5_holdOut 42 = .ok (.iload 5, 2) := by decide +kernel
theorem dX5_holdOut_44 : decode cX5_holdOut 44 = .ok (.iaload, 1) := by decide +kernel
theorem dX5_holdOut_45 : decode cX5_holdOut 45 = .ok (.iconst 0, 1) := by decide +kernel
theorem dX5_holdOut_46 : decode cX5_holdOut 46 = .ok (.bipush 9, 2) := by decide +kernel
theorem dX5_holdOut_48 : decode cX5_holdOut 48 = .ok (.invokestatic 38, 3) := by decide +kernel
theorem dX5_holdOut_51 : decode cX5_holdOut 51 = .ok (.ifCond .ne 5, 3) := by decide +kernel
theorem dX5_holdOut_54 : decode cX5_holdOut 54 = .ok (.iconst 0, 1) := by decide +kernel
theorem dX5_holdOut_55 : decode cX5_holdOut 55 = .ok (.ireturn, 1) := by decide +kernel
theorem dX5_holdOut_56 : decode cX5_holdOut 56 = .ok (.iinc 5 1, 3) := by decide +kernel
theorem dX5_holdOut_59 : decode cX5_holdOut 59 = .ok (.goto (-27), 3) := by decide +kernel
theorem dX5_holdOut_62 : decode cX5_holdOut 62 = .ok (.iconst 1, 1) := by decide +kernel
theorem dX5_holdOut_63 : decode cX5_holdOut 63 = .ok (.ireturn, 1) := by decide +kernel
theorem dX5_save_0 : decode cX5_save 0 = .ok (.aload_n 0, 1) := by decide +kernel
theorem dX5_save_1 : decode cX5_save 1 = .ok (.getfield 23, 3) := by decide +kernel
theorem dX5_save_4 : decode cX5_save 4 = .ok (.iconst 4, 1) := by decide +kernel
theorem dX5_save_5 : decode cX5_save 5 = .ok (.if_icmp .lt 7, 3) := by decide +kernel
theorem dX5_save_8 : decode cX5_save 8 = .ok (.aload_n 0, 1) := by decide +kernel
theorem dX5_save_9 : decode cX5_save 9 = .ok (.invokevirtual 248, 3) := by decide +kernel
theorem dX5_save_12 : decode cX5_save 12 = .ok (.aload_n 0, 1) := by decide +kernel
theorem dX5_save_13 : decode cX5_save 13 = .ok (.getfield 19, 3) := by decide +kernel
theorem dX5_save_16 : decode cX5_save 16 = .ok (.aload_n 0, 1) := by decide +kernel
theorem dX5_save_17 : decode cX5_save 17 = .ok (.getfield 23, 3) := by decide +kernel
theorem dX5_save_20 : decode cX5_save 20 = .ok (.aaload, 1) := by decide +kernel
theorem dX5_save_21 : decode cX5_save 21 = .ok (.aload_n 0, 1) := by decide +kernel
theorem dX5_save_22 : decode cX5_save 22 = .ok (.getfield 10, 3) := by decide +kernel
theorem dX5_save_25 : decode cX5_save 25 = .ok (.invokevirtual 205, 3) := by decide +kernel
theorem dX5_save_28 : decode cX5_save 28 = .ok (.aload_n 0, 1) := by decide +kernel
theorem dX5_save_29 : decode cX5_save 29 = .ok (.dup, 1) := by decide +kernel
theorem dX5_save_30 : decode cX5_save 30 = .ok (.getfield 23, 3) := by decide +kernel
theorem dX5_save_33 : decode cX5_save 33 = .ok (.iconst 1, 1) := by decide +kernel
theorem dX5_save_34 : decode cX5_save 34 = .ok (.iadd, 1) := by decide +kernel
theorem dX5_save_35 : decode cX5_save 35 = .ok (.putfield 23, 3) := by decide +kernel
theorem dX5_save_38 : decode cX5_save 38 = .ok (.return_, 1) := by decide +kernel
theorem dX5_dropOldest_0 : decode cX5_dropOldest 0 = .ok (.aload_n 0, 1) := by decide +kernel
theorem dX5_dropOldest_1 : decode cX5_dropOldest 1 = .ok (.getfield 19, 3) := by decide +kernel
theorem dX5_dropOldest_4 : decode cX5_dropOldest 4 = .ok (.iconst 0, 1) := by decide +kernel
theorem dX5_dropOldest_5 : decode cX5_dropOldest 5 = .ok (.aaload, 1) := by decide +kernel
theorem dX5_dropOldest_6 : decode cX5_dropOldest 6 = .ok (.astore_n 1, 1) := by decide +kernel
theorem dX5_dropOldest_7 : decode cX5_dropOldest 7 = .ok (.iconst 1, 1) := by decide +kernel
theorem dX5_dropOldest_8 : decode cX5_dropOldest 8 = .ok (.istore_n 2, 1) := by decide +kernel
theorem dX5_dropOldest_9 : decode cX5_dropOldest 9 = .ok (.iload_n 2, 1) := by decide +kernel
theorem dX5_dropOldest_10 : decode cX5_dropOldest 10 = .ok (.iconst 4, 1) := by decide +kernel
theorem dX5_dropOldest_11 : decode cX5_dropOldest 11 = .ok (.if_icmp .ge 23, 3) := by decide +kernel
theorem dX5_dropOldest_14 : decode cX5_dropOldest 14 = .ok (.aload_n 0, 1) := by decide +kernel
theorem dX5_dropOldest_15 : decode cX5_dropOldest 15 = .ok (.getfield 19, 3) := by decide +kernel
theorem dX5_dropOldest_18 : decode cX5_dropOldest 18 = .ok (.iload_n 2, 1) := by decide +kernel
theorem dX5_dropOldest_19 : decode cX5_dropOldest 19 = .ok (.iconst 1, 1) := by decide +kernel
theorem dX5_dropOldest_20 : decode cX5_dropOldest 20 = .ok (.isub, 1) := by decide +kernel
theorem dX5_dropOldest_21 : decode cX5_dropOldest 21 = .ok (.aload_n 0, 1) := by decide +kernel
theorem dX5_dropOldest_22 : decode cX5_dropOldest 22 = .ok (.getfield 19, 3) := by decide +kernel
theorem dX5_dropOldest_25 : decode cX5_dropOldest 25 = .ok (.iload_n 2, 1) := by decide +kernel
theorem dX5_dropOldest_26 : decode cX5_dropOldest 26 = .ok (.aaload, 1) := by decide +kernel
theorem dX5_dropOldest_27 : decode cX5_dropOldest 27 = .ok (.aastore, 1) := by decide +kernel
theorem dX5_dropOldest_28 : decode cX5_dropOldest 28 = .ok (.iinc 2 1, 3) := by decide +kernel
theorem dX5_dropOldest_31 : decode cX5_dropOldest 31 = .ok (.goto (-22), 3) := by decide +kernel
theorem dX5_dropOldest_34 : decode cX5_dropOldest 34 = .ok (.aload_n 0, 1) := by decide +kernel
theorem dX5_dropOldest_35 : decode cX5_dropOldest 35 = .ok (.getfield 19, 3) := by decide +kernel
theorem dX5_dropOldest_38 : decode cX5_dropOldest 38 = .ok (.iconst 3, 1) := by decide +kernel
theorem dX5_dropOldest_39 : decode cX5_dropOldest 39 = .ok (.aload_n 1, 1) := by decide +kernel
theorem dX5_dropOldest_40 : decode cX5_dropOldest 40 = .ok (.aastore, 1) := by decide +kernel
theorem dX5_dropOldest_41 : decode cX5_dropOldest 41 = .ok (.aload_n 0, 1) := by decide +kernel
theorem dX5_dropOldest_42 : decode cX5_dropOldest 42 = .ok (.iconst 3, 1) := by decide +kernel
theorem dX5_dropOldest_43 : decode cX5_dropOldest 43 = .ok (.putfield 23, 3) := by decide +kernel
theorem dX5_dropOldest_46 : decode cX5_dropOldest 46 = .ok (.return_, 1) := by decide +kernel
theorem dX5_obey_0 : decode cX5_obey 0 = .ok (.aload_n 0, 1) := by decide +kernel
theorem dX5_obey_1 : decode cX5_obey 1 = .ok (.getfield 30, 3) := by decide +kernel
theorem dX5_obey_4 : decode cX5_obey 4 = .ok (.getfield 251, 3) := by decide +kernel
theorem dX5_obey_7 : decode cX5_obey 7 = .ok (.istore_n 1, 1) := by decide +kernel
theorem dX5_obey_8 : decode cX5_obey 8 = .ok (.aload_n 0, 1) := by decide +kernel
theorem dX5_obey_9 : decode cX5_obey 9 = .ok (.getfield 30, 3) := by decide +kernel
theorem dX5_obey_12 : decode cX5_obey 12 = .ok (.getfield 254, 3) := by decide +kernel
theorem dX5_obey_15 : decode cX5_obey 15 = .ok (.istore_n 2, 1) := by decide +kernel
theorem dX5_obey_16 : decode cX5_obey 16 = .ok (.aload_n 0, 1) := by decide +kernel
theorem dX5_obey_17 : decode cX5_obey 17 = .ok (.getfield 30, 3) := by decide +kernel
theorem dX5_obey_20 : decode cX5_obey 20 = .ok (.getfield 256, 3) := by decide +kernel
theorem dX5_obey_23 : decode cX5_obey 23 = .ok (.lookupswitch 166 #[(98, 78), (102, 127), (104, 142), (115, 41)], 41) := by decide +kernel
theorem dX5_obey_64 : decode cX5_obey 64 = .ok (.aload_n 0, 1) := by decide +kernel
theorem dX5_obey_65 : decode cX5_obey 65 = .ok (.getfield 10, 3) := by decide +kernel
theorem dX5_obey_68 : decode cX5_obey 68 = .ok (.iload_n 1, 1) := by decide +kernel
theorem dX5_obey_69 : decode cX5_obey 69 = .ok (.invokevirtual 90, 3) := by decide +kernel
theorem dX5_obey_72 : decode cX5_obey 72 = .ok (.ifCond .eq 15, 3) := by decide +kernel
theorem dX5_obey_75 : decode cX5_obey 75 = .ok (.aload_n 0, 1) := by decide +kernel
theorem dX5_obey_76 : decode cX5_obey 76 = .ok (.getfield 10, 3) := by decide +kernel
theorem dX5_obey_79 : decode cX5_obey 79 = .ok (.iload_n 1, 1) := by decide +kernel
theorem dX5_obey_80 : decode cX5_obey 80 = .ok (.iload_n 2, 1) := by decide +kernel
theorem dX5_obey_81 : decode cX5_obey 81 = .ok (.invokevirtual 101, 3) := by decide +kernel
theorem dX5_obey_84 : decode cX5_obey 84 = .ok (.ifCond .ne 5, 3) := by decide +kernel
theorem dX5_obey_87 : decode cX5_obey 87 = .ok (.iconst 0, 1) := by decide +kernel
theorem dX5_obey_88 : decode cX5_obey 88 = .ok (.ireturn, 1) := by decide +kernel
theorem dX5_obey_89 : decode cX5_obey 89 = .ok (.aload_n 0, 1) := by decide +kernel
theorem dX5_obey_90 : decode cX5_obey 90 = .ok (.getfield 10, 3) := by decide +kernel
theorem dX5_obey_93 : decode cX5_obey 93 = .ok (.iload_n 1, 1) := by decide +kernel
theorem dX5_obey_94 : decode cX5_obey 94 = .ok (.iload_n 2, 1) := by decide +kernel
theorem dX5_obey_95 : decode cX5_obey 95 = .ok (.invokevirtual 107, 3) := by decide +kernel
theorem dX5_obey_98 : decode cX5_obey 98 = .ok (.pop, 1) := by decide +kernel
theorem dX5_obey_99 : decode cX5_obey 99 = .ok (.iconst 1, 1) := by decide +kernel
theorem dX5_obey_100 : decode cX5_obey 100 = .ok (.ireturn, 1) := by decide +kernel
theorem dX5_obey_101 : decode cX5_obey 101 = .ok (.aload_n 0, 1) := by decide +kernel
theorem dX5_obey_102 : decode cX5_obey 102 = .ok (.getfield 10, 3) := by decide +kernel
theorem dX5_obey_105 : decode cX5_obey 105 = .ok (.iload_n 1, 1) := by decide +kernel
theorem dX5_obey_106 : decode cX5_obey 106 = .ok (.invokevirtual 90, 3) := by decide +kernel
theorem dX5_obey_109 : decode cX5_obey 109 = .ok (.ifCond .eq 21, 3) := by decide +kernel
theorem dX5_obey_112 : decode cX5_obey 112 = .ok (.aload_n 0, 1) := by decide +kernel
theorem dX5_obey_113 : decode cX5_obey 113 = .ok (.getfield 10, 3) := by decide +kernel
theorem dX5_obey_116 : decode cX5_obey 116 = .ok (.iload_n 1, 1) := by decide +kernel
theorem dX5_obey_117 : decode cX5_obey 117 = .ok (.aload_n 0, 1) := by decide +kernel
theorem dX5_obey_118 : decode cX5_obey 118 = .ok (.getfield 30, 3) := by decide +kernel
theorem dX5_obey_121 : decode cX5_obey 121 = .ok (.getfield 259, 3) := by decide +kernel
theorem dX5_obey_124 : decode cX5_obey 124 = .ok (.invokevirtual 126, 3) := by decide +kernel
theorem dX5_obey_127 : decode cX5_obey 127 = .ok (.ifCond .ne 5, 3) := by decide +kernel
theorem dX5_obey_130 : decode cX5_obey 130 = .ok (.iconst 0, 1) := by decide +kernel
theorem dX5_obey_131 : decode cX5_obey 131 = .ok (.ireturn, 1) := by decide +kernel
theorem dX5_obey_132 : decode cX5_obey 132 = .ok (.aload_n 0, 1) := by decide +kernel
theorem dX5_obey_133 : decode cX5_obey 133 = .ok (.getfield 10, 3) := by decide +kernel
theorem dX5_obey_136 : decode cX5_obey 136 = .ok (.iload_n 1, 1) := by decide +kernel
theorem dX5_obey_137 : decode cX5_obey 137 = .ok (.aload_n 0, 1) := by decide +kernel
theorem dX5_obey_138 : decode cX5_obey 138 = .ok (.getfield 30, 3) := by decide +kernel
theorem dX5_obey_141 : decode cX5_obey 141 = .ok (.getfield 259, 3) := by decide +kernel
theorem dX5_obey_144 : decode cX5_obey 144 = .ok (.invokevirtual 132, 3) := by decide +kernel
theorem dX5_obey_147 : decode cX5_obey 147 = .ok (.pop, 1) := by decide +kernel
theorem dX5_obey_148 : decode cX5_obey 148 = .ok (.iconst 1, 1) := by decide +kernel
theorem dX5_obey_149 : decode cX5_obey 149 = .ok (.ireturn, 1) := by decide +kernel
theorem dX5_obey_150 : decode cX5_obey 150 = .ok (.aload_n 0, 1) := by decide +kernel
theorem dX5_obey_151 : decode cX5_obey 151 = .ok (.getfield 10, 3) := by decide +kernel
theorem dX5_obey_154 : decode cX5_obey 154 = .ok (.getfield 114, 3) := by decide +kernel
theorem dX5_obey_157 : decode cX5_obey 157 = .ok (.iload_n 1, 1) := by decide +kernel
theorem dX5_obey_158 : decode cX5_obey 158 = .ok (.iload_n 2, 1) := by decide +kernel
theorem dX5_obey_159 : decode cX5_obey 159 = .ok (.invokevirtual 118, 3) := by decide +kernel
theorem dX5_obey_162 : decode cX5_obey 162 = .ok (.pop, 1) := by decide +kernel
theorem dX5_obey_163 : decode cX5_obey 163 = .ok (.iconst 1, 1) := by decide +kernel
theorem dX5_obey_164 : decode cX5_obey 164 = .ok (.ireturn, 1) := by decide +kernel
theorem dX5_obey_165 : decode cX5_obey 165 = .ok (.aload_n 0, 1) := by decide +kernel
theorem dX5_obey_166 : decode cX5_obey 166 = .ok (.getfield 10, 3) := by decide +kernel
theorem dX5_obey_169 : decode cX5_obey 169 = .ok (.iload_n 2, 1) := by decide +kernel
theorem dX5_obey_170 : decode cX5_obey 170 = .ok (.invokevirtual 142, 3) := by decide +kernel
theorem dX5_obey_173 : decode cX5_obey 173 = .ok (.ifCond .ne 5, 3) := by decide +kernel
theorem dX5_obey_176 : decode cX5_obey 176 = .ok (.iconst 0, 1) := by decide +kernel
theorem dX5_obey_177 : decode cX5_obey 177 = .ok (.ireturn, 1) := by decide +kernel
theorem dX5_obey_178 : decode cX5_obey 178 = .ok (.aload_n 0, 1) := by decide +kernel
theorem dX5_obey_179 : decode cX5_obey 179 = .ok (.getfield 10, 3) := by decide +kernel
theorem dX5_obey_182 : decode cX5_obey 182 = .ok (.iload_n 2, 1) := by decide +kernel
theorem dX5_obey_183 : decode cX5_obey 183 = .ok (.invokevirtual 147, 3) := by decide +kernel
theorem dX5_obey_186 : decode cX5_obey 186 = .ok (.pop, 1) := by decide +kernel
theorem dX5_obey_187 : decode cX5_obey 187 = .ok (.iconst 1, 1) := by decide +kernel
theorem dX5_obey_188 : decode cX5_obey 188 = .ok (.ireturn, 1) := by decide +kernel
theorem dX5_obey_189 : decode cX5_obey 189 = .ok (.iconst 0, 1) := by decide +kernel
theorem dX5_obey_190 : decode cX5_obey 190 = .ok (.ireturn, 1) := by decide +kernel
theorem dX5_bitsOf_0 : decode cX5_bitsOf 0 = .ok (.fload_n 0, 1) := by decide +kernel
theorem dX5_bitsOf_1 : decode cX5_bitsOf 1 = .ok (.fstore_n 1, 1) := by decide +kernel
theorem dX5_bitsOf_2 : decode cX5_bitsOf 2 = .ok (.iconst 0, 1) := by decide +kernel
theorem dX5_bitsOf_3 : decode cX5_bitsOf 3 = .ok (.istore_n 2, 1) := by decide +kernel
theorem dX5_bitsOf_4 : decode cX5_bitsOf 4 = .ok (.fload_n 1, 1) := by decide +kernel
theorem dX5_bitsOf_5 : decode cX5_bitsOf 5 = .ok (.fconst 2, 1) := by decide +kernel
theorem dX5_bitsOf_6 : decode cX5_bitsOf 6 = .ok (.fcmp .l, 1) := by decide +kernel
theorem dX5_bitsOf_7 : decode cX5_bitsOf 7 = .ok (.ifCond .lt 19, 3) := by decide +kernel
theorem dX5_bitsOf_10 : decode cX5_bitsOf 10 = .ok (.iload_n 2, 1) := by decide +kernel
theorem dX5_bitsOf_11 : decode cX5_bitsOf 11 = .ok (.bipush 127, 2) := by decide +kernel
theorem dX5_bitsOf_13 : decode cX5_bitsOf 13 = .ok (.if_icmp .ge 13, 3) := by decide +kernel
theorem dX5_bitsOf_16 : decode cX5_bitsOf 16 = .ok (.fload_n 1, 1) := by decide +kernel
theorem dX5_bitsOf_17 : decode cX5_bitsOf 17 = .ok (.fconst 2, 1) := by decide +kernel
theorem dX5_bitsOf_18 : decode cX5_bitsOf 18 = .ok (.fdiv, 1) := by decide +kernel
theorem dX5_bitsOf_19 : decode cX5_bitsOf 19 = .ok (.fstore_n 1, 1) := by decide +kernel
theorem dX5_bitsOf_20 : decode cX5_bitsOf 20 = .ok (.iinc 2 1, 3) := by decide +kernel
theorem dX5_bitsOf_23 : decode cX5_bitsOf 23 = .ok (.goto (-19), 3) := by decide +kernel
theorem dX5_bitsOf_26 : decode cX5_bitsOf 26 = .ok (.fload_n 1, 1) := by decide +kernel
theorem dX5_bitsOf_27 : decode cX5_bitsOf 27 = .ok (.fconst 1, 1) := by decide +kernel
theorem dX5_bitsOf_28 : decode cX5_bitsOf 28 = .ok (.fcmp .g, 1) := by decide +kernel
theorem dX5_bitsOf_29 : decode cX5_bitsOf 29 = .ok (.ifCond .ge 19, 3) := by decide +kernel
theorem dX5_bitsOf_32 : decode cX5_bitsOf 32 = .ok (.iload_n 2, 1) := by decide +kernel
theorem dX5_bitsOf_33 : decode cX5_bitsOf 33 = .ok (.bipush (-126), 2) := by decide +kernel
theorem dX5_bitsOf_35 : decode cX5_bitsOf 35 = .ok (.if_icmp .le 13, 3) := by decide +kernel
theorem dX5_bitsOf_38 : decode cX5_bitsOf 38 = .ok (.fload_n 1, 1) := by decide +kernel
theorem dX5_bitsOf_39 : decode cX5_bitsOf 39 = .ok (.fconst 2, 1) := by decide +kernel
theorem dX5_bitsOf_40 : decode cX5_bitsOf 40 = .ok (.fmul, 1) := by decide +kernel
theorem dX5_bitsOf_41 : decode cX5_bitsOf 41 = .ok (.fstore_n 1, 1) := by decide +kernel
theorem dX5_bitsOf_42 : decode cX5_bitsOf 42 = .ok (.iinc 2 (-1), 3) := by decide +kernel
theorem dX5_bitsOf_45 : decode cX5_bitsOf 45 = .ok (.goto (-19), 3) := by decide +kernel
theorem dX5_bitsOf_48 : decode cX5_bitsOf 48 = .ok (.iload_n 2, 1) := by decide +kernel
theorem dX5_bitsOf_49 : decode cX5_bitsOf 49 = .ok (.bipush 126, 2) := by decide +kernel
theorem dX5_bitsOf_51 : decode cX5_bitsOf 51 = .ok (.iadd, 1) := by decide +kernel
theorem dX5_bitsOf_52 : decode cX5_bitsOf 52 = .ok (.bipush 23, 2) := by decide +kernel
theorem dX5_bitsOf_54 : decode cX5_bitsOf 54 = .ok (.ishl, 1) := by decide +kernel
theorem dX5_bitsOf_55 : decode cX5_bitsOf 55 = .ok (.fload_n 1, 1) := by decide +kernel
theorem dX5_bitsOf_56 : decode cX5_bitsOf 56 = .ok (.ldc_w 262, 3) := by decide +kernel
theorem dX5_bitsOf_59 : decode cX5_bitsOf 59 = .ok (.fmul, 1) := by decide +kernel
theorem dX5_bitsOf_60 : decode cX5_bitsOf 60 = .ok (.f2i, 1) := by decide +kernel
theorem dX5_bitsOf_61 : decode cX5_bitsOf 61 = .ok (.iadd, 1) := by decide +kernel
theorem dX5_bitsOf_62 : decode cX5_bitsOf 62 = .ok (.ireturn, 1) := by decide +kernel
theorem dX5_worth_0 : decode cX5_worth 0 = .ok (.iconst 0, 1) := by decide +kernel
theorem dX5_worth_1 : decode cX5_worth 1 = .ok (.istore_n 1, 1) := by decide +kernel
theorem dX5_worth_2 : decode cX5_worth 2 = .ok (.iconst 0, 1) := by decide +kernel
theorem dX5_worth_3 : decode cX5_worth 3 = .ok (.istore_n 2, 1) := by decide +kernel
theorem dX5_worth_4 : decode cX5_worth 4 = .ok (.iload_n 2, 1) := by decide +kernel
theorem dX5_worth_5 : decode cX5_worth 5 = .ok (.iconst 4, 1) := by decide +kernel
theorem dX5_worth_6 : decode cX5_worth 6 = .ok (.if_icmp .ge 27, 3) := by decide +kernel
theorem dX5_worth_9 : decode cX5_worth 9 = .ok (.iload_n 2, 1) := by decide +kernel
theorem dX5_worth_10 : decode cX5_worth 10 = .ok (.aload_n 0, 1) := by decide +kernel
theorem dX5_worth_11 : decode cX5_worth 11 = .ok (.arraylength, 1) := by decide +kernel
theorem dX5_worth_12 : decode cX5_worth 12 = .ok (.if_icmp .ge 21, 3) := by decide +kernel
theorem dX5_worth_15 : decode cX5_worth 15 = .ok (.iload_n 1, 1) := by decide +kernel
theorem dX5_worth_16 : decode cX5_worth 16 = .ok (.aload_n 0, 1) := by decide +kernel
theorem dX5_worth_17 : decode cX5_worth 17 = .ok (.iload_n 2, 1) := by decide +kernel
theorem dX5_worth_18 : decode cX5_worth 18 = .ok (.iaload, 1) := by decide +kernel
theorem dX5_worth_19 : decode cX5_worth 19 = .ok (.getstatic 263, 3) := by decide +kernel
theorem dX5_worth_22 : decode cX5_worth 22 = .ok (.iload_n 2, 1) := by decide +kernel
theorem dX5_worth_23 : decode cX5_worth 23 = .ok (.iaload, 1) := by decide +kernel
theorem dX5_worth_24 : decode cX5_worth 24 = .ok (.imul, 1) := by decide +kernel
theorem dX5_worth_25 : decode cX5_worth 25 = .ok (.iadd, 1) := by decide +kernel
theorem dX5_worth_26 : decode cX5_worth 26 = .ok (.istore_n 1, 1) := by decide +kernel
theorem dX5_worth_27 : decode cX5_worth 27 = .ok (.iinc 2 1, 3) := by decide +kernel
theorem dX5_worth_30 : decode cX5_worth 30 = .ok (.goto (-26), 3) := by decide +kernel
theorem dX5_worth_33 : decode cX5_worth 33 = .ok (.iload_n 1, 1) := by decide +kernel
theorem dX5_worth_34 : decode cX5_worth 34 = .ok (.ireturn, 1) := by decide +kernel
theorem dJxf58ca_isNaN_12338_0 : decode cJxf58ca_isNaN_12338 0 = .ok (.fload_n 0, 1) := by decide +kernel
theorem dJxf58ca_isNaN_12338_1 : decode cJxf58ca_isNaN_12338 1 = .ok (.fload_n 0, 1) := by decide +kernel
theorem dJxf58ca_isNaN_12338_2 : decode cJxf58ca_isNaN_12338 2 = .ok (.fcmp .l, 1) := by decide +kernel
theorem dJxf58ca_isNaN_12338_3 : decode cJxf58ca_isNaN_12338 3 = .ok (.ifCond .eq 7, 3) := by decide +kernel
theorem dJxf58ca_isNaN_12338_6 : decode cJxf58ca_isNaN_12338 6 = .ok (.iconst 1, 1) := by decide +kernel
theorem dJxf58ca_isNaN_12338_7 : decode cJxf58ca_isNaN_12338 7 = .ok (.goto 4, 3) := by decide +kernel
theorem dJxf58ca_isNaN_12338_10 : decode cJxf58ca_isNaN_12338 10 = .ok (.iconst 0, 1) := by decide +kernel
theorem dJxf58ca_isNaN_12338_11 : decode cJxf58ca_isNaN_12338 11 = .ok (.ireturn, 1) := by decide +kernel
theorem dJxf58ca_floatToIntBits_5c35a_0 : decode cJxf58ca_floatToIntBits_5c35a 0 = .ok (.fload_n 0, 1) := by decide +kernel
theorem dJxf58ca_floatToIntBits_5c35a_1 : decode cJxf58ca_floatToIntBits_5c35a 1 = .ok (.invokestatic 59, 3) := by decide +kernel
theorem dJxf58ca_floatToIntBits_5c35a_4 : decode cJxf58ca_floatToIntBits_5c35a 4 = .ok (.ifCond .ne 8, 3) := by decide +kernel
theorem dJxf58ca_floatToIntBits_5c35a_7 : decode cJxf58ca_floatToIntBits_5c35a 7 = .ok (.fload_n 0, 1) := by decide +kernel
theorem dJxf58ca_floatToIntBits_5c35a_8 : decode cJxf58ca_floatToIntBits_5c35a 8 = .ok (.invokestatic 74, 3) := by decide +kernel
theorem dJxf58ca_floatToIntBits_5c35a_11 : decode cJxf58ca_floatToIntBits_5c35a 11 = .ok (.ireturn, 1) := by decide +kernel
theorem dJxf58ca_floatToIntBits_5c35a_12 : decode cJxf58ca_floatToIntBits_5c35a 12 = .ok (.ldc 77, 2) := by decide +kernel
theorem dJxf58ca_floatToIntBits_5c35a_14 : decode cJxf58ca_floatToIntBits_5c35a 14 = .ok (.ireturn, 1) := by decide +kernel
theorem dJ9_max_7cf53_0 : decode cJ9_max_7cf53 0 = .ok (.iload_n 0, 1) := by decide +kernel
theorem dJ9_max_7cf53_1 : decode cJ9_max_7cf53 1 = .ok (.iload_n 1, 1) := by decide +kernel
theorem dJ9_max_7cf53_2 : decode cJ9_max_7cf53 2 = .ok (.if_icmp .lt 7, 3) := by decide +kernel
theorem dJ9_max_7cf53_5 : decode cJ9_max_7cf53 5 = .ok (.iload_n 0, 1) := by decide +kernel
theorem dJ9_max_7cf53_6 : decode cJ9_max_7cf53 6 = .ok (.goto 4, 3) := by decide +kernel
theorem dJ9_max_7cf53_9 : decode cJ9_max_7cf53 9 = .ok (.iload_n 1, 1) := by decide +kernel
theorem dJ9_max_7cf53_10 : decode cJ9_max_7cf53 10 = .ok (.ireturn, 1) := by decide +kernel
theorem dJ9_min_7cf53_0 : decode cJ9_min_7cf53 0 = .ok (.iload_n 0, 1) := by decide +kernel
theorem dJ9_min_7cf53_1 : decode cJ9_min_7cf53 1 = .ok (.iload_n 1, 1) := by decide +kernel
theorem dJ9_min_7cf53_2 : decode cJ9_min_7cf53 2 = .ok (.if_icmp .gt 7, 3) := by decide +kernel
theorem dJ9_min_7cf53_5 : decode cJ9_min_7cf53 5 = .ok (.iload_n 0, 1) := by decide +kernel
theorem dJ9_min_7cf53_6 : decode cJ9_min_7cf53 6 = .ok (.goto 4, 3) := by decide +kernel
theorem dJ9_min_7cf53_9 : decode cJ9_min_7cf53 9 = .ok (.iload_n 1, 1) := by decide +kernel
theorem dJ9_min_7cf53_10 : decode cJ9_min_7cf53 10 = .ok (.ireturn, 1) := by decide +kernel
end
section
theorem dX6_init_0 : decode cX6_init 0 = .ok (.aload_n 0, 1) := by decide +kernel
theorem dX6_init_1 : decode cX6_init 1 = .ok (.invokespecial 1, 3) := by decide +kernel
theorem dX6_init_4 : decode cX6_init 4 = .ok (.aload_n 0, 1) := by decide +kernel
theorem dX6_init_5 : decode cX6_init 5 = .ok (.sipush 311, 3) := by decide +kernel
theorem dX6_init_8 : decode cX6_init 8 = .ok (.newarray .int, 2) := by decide +kernel
theorem dX6_init_10 : decode cX6_init 10 = .ok (.putfield 7, 3) := by decide +kernel
theorem dX6_init_13 : decode cX6_init 13 = .ok (.aload_n 0, 1) := by decide +kernel
theorem dX6_init_14 : decode cX6_init 14 = .ok (.sipush 311, 3) := by decide +kernel
theorem dX6_init_17 : decode cX6_init 17 = .ok (.newarray .int, 2) := by decide +kernel
theorem dX6_init_19 : decode cX6_init 19 = .ok (.putfield 13, 3) := by decide +kernel
theorem dX6_init_22 : decode cX6_init 22 = .ok (.aload_n 0, 1) := by decide +kernel
theorem dX6_init_23 : decode cX6_init 23 = .ok (.sipush 311, 3) := by decide +kernel
theorem dX6_init_26 : decode cX6_init 26 = .ok (.newarray .int, 2) := by decide +kernel
theorem dX6_init_28 : decode cX6_init 28 = .ok (.putfield 16, 3) := by decide +kernel
theorem dX6_init_31 : decode cX6_init 31 = .ok (.aload_n 0, 1) := by decide +kernel
theorem dX6_init_32 : decode cX6_init 32 = .ok (.sipush 1244, 3) := by decide +kernel
theorem dX6_init_35 : decode cX6_init 35 = .ok (.newarray .int, 2) := by decide +kernel
theorem dX6_init_37 : decode cX6_init 37 = .ok (.putfield 19, 3) := by decide +kernel
theorem dX6_init_40 : decode cX6_init 40 = .ok (.aload_n 0, 1) := by decide +kernel
theorem dX6_init_41 : decode cX6_init 41 = .ok (.bipush 100, 2) := by decide +kernel
theorem dX6_init_43 : decode cX6_init 43 = .ok (.newarray .int, 2) := by decide +kernel
theorem dX6_init_45 : decode cX6_init 45 = .ok (.putfield 22, 3) := by decide +kernel
theorem dX6_init_48 : decode cX6_init 48 = .ok (.aload_n 0, 1) := by decide +kernel
theorem dX6_init_49 : decode cX6_init 49 = .ok (.iconst 4, 1) := by decide +kernel
theorem dX6_init_50 : decode cX6_init 50 = .ok (.newarray .int, 2) := by decide +kernel
theorem dX6_init_52 : decode cX6_init 52 = .ok (.putfield 25, 3) := by decide +kernel
theorem dX6_init_55 : decode cX6_init 55 = .ok (.aload_n 0, 1) := by decide +kernel
theorem dX6_init_56 : decode cX6_init 56 = .ok (.iconst 4, 1) := by decide +kernel
theorem dX6_init_57 : decode cX6_init 57 = .ok (.newarray .int, 2) := by decide +kernel
theorem dX6_init_59 : decode cX6_init 59 = .ok (.putfield 28, 3) := by decide +kernel
theorem dX6_init_62 : decode cX6_init 62 = .ok (.aload_n 0, 1) := by decide +kernel
theorem dX6_init_63 : decode cX6_init 63 = .ok (.sipush 401, 3) := by decide +kernel
theorem dX6_init_66 : decode cX6_init 66 = .ok (.newarray .boolean, 2) := by decide +kernel
theorem dX6_init_68 : decode cX6_init 68 = .ok (.putfield 31, 3) := by decide +kernel
theorem dX6_init_71 : decode cX6_init 71 = .ok (.aload_n 0, 1) := by decide +kernel
theorem dX6_init_72 : decode cX6_init 72 = .ok (.sipush 311, 3) := by decide +kernel
theorem dX6_init_75 : decode cX6_init 75 = .ok (.newarray .int, 2) := by decide +kernel
theorem dX6_init_77 : decode cX6_init 77 = .ok (.putfield 35, 3) := by decide +kernel
theorem dX6_init_80 : decode cX6_init 80 = .ok (.aload_n 0, 1) := by decide +kernel
theorem dX6_init_81 : decode cX6_init 81 = .ok (.getfield 7, 3) := by decide +kernel
theorem dX6_init_84 : decode cX6_init 84 = .ok (.iconst 0, 1) := by decide +kernel
theorem dX6_init_85 : decode cX6_init 85 = .ok (.bipush 20, 2) := by decide +kernel
theorem dX6_init_87 : decode cX6_init 87 = .ok (.iastore, 1) := by decide +kernel
theorem dX6_init_88 : decode cX6_init 88 = .ok (.aload_n 0, 1) := by decide +kernel
theorem dX6_init_89 : decode cX6_init 89 = .ok (.getfield 7, 3) := by decide +kernel
theorem dX6_init_92 : decode cX6_init 92 = .ok (.iconst 1, 1) := by decide +kernel
theorem dX6_init_93 : decode cX6_init 93 = .ok (.iconst 5, 1) := by decide +kernel
theorem dX6_init_94 : decode cX6_init 94 = .ok (.iastore, 1) := by decide +kernel
theorem dX6_init_95 : decode cX6_init 95 = .ok (.aload_n 0, 1) := by decide +kernel
theorem dX6_init_96 : decode cX6_init 96 = .ok (.getfield 7, 3) := by decide +kernel
theorem dX6_init_99 : decode cX6_init 99 = .ok (.iconst 2, 1) := by decide +kernel
theorem dX6_init_100 : decode cX6_init 100 = .ok (.bipush 50, 2) := by decide +kernel
theorem dX6_init_102 : decode cX6_init 102 = .ok (.iastore, 1) := by decide +kernel
theorem dX6_init_103 : decode cX6_init 103 = .ok (.aload_n 0, 1) := by decide +kernel
theorem dX6_init_104 : decode cX6_init 104 = .ok (.getfield 7, 3) := by decide +kernel
theorem dX6_init_107 : decode cX6_init 107 = .ok (.iconst 3, 1) := by decide +kernel
theorem dX6_init_108 : decode cX6_init 108 = .ok (.bipush 100, 2) := by decide +kernel
theorem dX6_init_110 : decode cX6_init 110 = .ok (.iastore, 1) := by decide +kernel
theorem dX6_init_111 : decode cX6_init 111 = .ok (.aload_n 0, 1) := by decide +kernel
theorem dX6_init_112 : decode cX6_init 112 = .ok (.getfield 7, 3) := by decide +kernel
theorem dX6_init_115 : decode cX6_init 115 = .ok (.iconst 4, 1) := by decide +kernel
theorem dX6_init_116 : decode cX6_init 116 = .ok (.bipush 10, 2) := by decide +kernel
theorem dX6_init_118 : decode cX6_init 118 = .ok (.iastore, 1) := by decide +kernel
theorem dX6_init_119 : decode cX6_init 119 = .ok (.iconst 0, 1) := by decide +kernel
theorem dX6_init_120 : decode cX6_init 120 = .ok (.istore_n 1, 1) := by decide +kernel
theorem dX6_init_121 : decode cX6_init 121 = .ok (.iload_n 1, 1) := by decide +kernel
theorem dX6_init_122 : decode cX6_init 122 = .ok (.iconst 4, 1) := by decide +kernel
theorem dX6_init_123 : decode cX6_init 123 = .ok (.if_icmp .ge 18, 3) := by decide +kernel
theorem dX6_init_126 : decode cX6_init 126 = .ok (.aload_n 0, 1) := by decide +kernel
theorem dX6_init_127 : decode cX6_init 127 = .ok (.getfield 7, 3) := by decide +kernel
theorem dX6_init_130 : decode cX6_init 130 = .ok (.iconst 5, 1) := by decide +kernel
theorem dX6_init_131 : decode cX6_init 131 = .ok (.iload_n 1, 1) := by decide +kernel
theorem dX6_init_132 : decode cX6_init 132 = .ok (.iadd, 1) := by decide +kernel
theorem dX6_init_133 : decode cX6_init 133 = .ok (.iconst 5, 1) := by decide +kernel
theorem dX6_init_134 : decode cX6_init 134 = .ok (.iastore, 1) := by decide +kernel
theorem dX6_init_135 : decode cX6_init 135 = .ok (.iinc 1 1, 3) := by decide +kernel
theorem dX6_init_138 : decode cX6_init 138 = .ok (.goto (-17), 3) := by decide +kernel
theorem dX6_init_141 : decode cX6_init 141 = .ok (.return_, 1) := by decide +kernel
theorem dX6_thrown_0 : decode cX6_thrown 0 = .ok (.aload_n 0, 1) := by decide +kernel
theorem dX6_thrown_1 : decode cX6_thrown 1 = .ok (.getfield 38, 3) := by decide +kernel
theorem dX6_thrown_4 : decode cX6_thrown 4 = .ok (.ireturn, 1) := by decide +kernel
theorem dX6_in_0 : decode cX6_in 0 = .ok (.iload_n 0, 1) := by decide +kernel
theorem dX6_in_1 : decode cX6_in 1 = .ok (.iload_n 1, 1) := by decide +kernel
theorem dX6_in_2 : decode cX6_in 2 = .ok (.if_icmp .lt 12, 3) := by decide +kernel
theorem dX6_in_5 : decode cX6_in 5 = .ok (.iload_n 0, 1) := by decide +kernel
theorem dX6_in_6 : decode cX6_in 6 = .ok (.iload_n 2, 1) := by decide +kernel
theorem dX6_in_7 : decode cX6_in 7 = .ok (.if_icmp .gt 7, 3) := by decide +kernel
theorem dX6_in_10 : decode cX6_in 10 = .ok (.iconst 1, 1) := by decide +kernel
theorem dX6_in_11 : decode cX6_in 11 = .ok (.goto 4, 3) := by decide +kernel
theorem dX6_in_14 : decode cX6_in 14 = .ok (.iconst 0, 1) := by decide +kernel
theorem dX6_in_15 : decode cX6_in 15 = .ok (.ireturn, 1) := by decide +kernel
theorem dX6_real_0 : decode cX6_real 0 = .ok (.iload_n 0, 1) := by decide +kernel
theorem dX6_real_1 : decode cX6_real 1 = .ok (.invokestatic 42, 3) := by decide +kernel
theorem dX6_real_4 : decode cX6_real 4 = .ok (.freturn, 1) := by decide +kernel
theorem dX6_bits_0 : decode cX6_bits 0 = .ok (.fload_n 0, 1) := by decide +kernel
theorem dX6_bits_1 : decode cX6_bits 1 = .ok (.invokestatic 48, 3) := by decide +kernel
theorem dX6_bits_4 : decode cX6_bits 4 = .ok (.ireturn, 1) := by decide +kernel
theorem dX6_bring_0 : decode cX6_bring 0 = .ok (.iconst 0, 1) := by decide +kernel
theorem dX6_bring_1 : decode cX6_bring 1 = .ok (.istore 4, 2) := by decide +kernel
theorem dX6_bring_3 : decode cX6_bring 3 = .ok (.iload 4, 2) := by decide +kernel
theorem dX6_bring_5 : decode cX6_bring 5 = .ok (.sipush 311, 3) := by decide +kernel
theorem dX6_bring_8 : decode cX6_bring 8 = .ok (.if_icmp .ge 21, 3) := by decide +kernel
theorem dX6_bring_11 : decode cX6_bring 11 = .ok (.aload_n 2, 1) := by decide +kernel
theorem dX6_bring_12 : decode cX6_bring 12 = .ok (.iload_n 3, 1) := by decide +kernel
theorem dX6_bring_13 : decode cX6_bring 13 = .ok (.iload 4, 2) := by decide +kernel
theorem dX6_bring_15 : decode cX6_bring 15 = .ok (.iadd, 1) := by decide +kernel
theorem dX6_bring_16 : decode cX6_bring 16 = .ok (.aload_n 0, 1) := by decide +kernel
theorem dX6_bring_17 : decode cX6_bring 17 = .ok (.iload_n 1, 1) := by decide +kernel
theorem dX6_bring_18 : decode cX6_bring 18 = .ok (.iload 4, 2) := by decide +kernel
theorem dX6_bring_20 : decode cX6_bring 20 = .ok (.iadd, 1) := by decide +kernel
theorem dX6_bring_21 : decode cX6_bring 21 = .ok (.iaload, 1) := by decide +kernel
theorem dX6_bring_22 : decode cX6_bring 22 = .ok (.iastore, 1) := by decide +kernel
theorem dX6_bring_23 : decode cX6_bring 23 = .ok (.iinc 4 1, 3) := by decide +kernel
theorem dX6_bring_26 : decode cX6_bring 26 = .ok (.goto (-23), 3) := by decide +kernel
theorem dX6_bring_29 : decode cX6_bring 29 = .ok (.return_, 1) := by decide +kernel
theorem dX6_hold_0 : decode cX6_hold 0 = .ok (.aload_n 0, 1) := by decide +kernel
theorem dX6_hold_1 : decode cX6_hold 1 = .ok (.iconst 0, 1) := by decide +kernel
theorem dX6_hold_2 : decode cX6_hold 2 = .ok (.putfield 52, 3) := by decide +kernel
theorem dX6_hold_5 : decode cX6_hold 5 = .ok (.aload_n 0, 1) := by decide +kernel
theorem dX6_hold_6 : decode cX6_hold 6 = .ok (.getfield 7, 3) := by decide +kernel
theorem dX6_hold_9 : decode cX6_hold 9 = .ok (.iconst 0, 1) := by decide +kernel
theorem dX6_hold_10 : decode cX6_hold 10 = .ok (.aload_n 0, 1) := by decide +kernel
theorem dX6_hold_11 : decode cX6_hold 11 = .ok (.getfield 13, 3) := by decide +kernel
theorem dX6_hold_14 : decode cX6_hold 14 = .ok (.iconst 0, 1) := by decide +kernel
theorem dX6_hold_15 : decode cX6_hold 15 = .ok (.invokestatic 55, 3) := by decide +kernel
theorem dX6_hold_18 : decode cX6_hold 18 = .ok (.return_, 1) := by decide +kernel
theorem dX6_ends_0 : decode cX6_ends 0 = .ok (.aload_n 0, 1) := by decide +kernel
theorem dX6_ends_1 : decode cX6_ends 1 = .ok (.aload_n 0, 1) := by decide +kernel
theorem dX6_ends_2 : decode cX6_ends 2 = .ok (.getfield 52, 3) := by decide +kernel
theorem dX6_ends_5 : decode cX6_ends 5 = .ok (.putfield 38, 3) := by decide +kernel
theorem dX6_ends_8 : decode cX6_ends 8 = .ok (.aload_n 0, 1) := by decide +kernel
theorem dX6_ends_9 : decode cX6_ends 9 = .ok (.getfield 52, 3) := by decide +kernel
theorem dX6_ends_12 : decode cX6_ends 12 = .ok (.ifCond .eq 5, 3) := by decide +kernel
theorem dX6_ends_15 : decode cX6_ends 15 = .ok (.iconst 0, 1) := by decide +kernel
theorem dX6_ends_16 : decode cX6_ends 16 = .ok (.ireturn, 1) := by decide +kernel
theorem dX6_ends_17 : decode cX6_ends 17 = .ok (.aload_n 0, 1) := by decide +kernel
theorem dX6_ends_18 : decode cX6_ends 18 = .ok (.getfield 59, 3) := by decide +kernel
theorem dX6_ends_21 : decode cX6_ends 21 = .ok (.iconst 4, 1) := by decide +kernel
theorem dX6_ends_22 : decode cX6_ends 22 = .ok (.if_icmp .ne 44, 3) := by decide +kernel
theorem dX6_ends_25 : decode cX6_ends 25 = .ok (.iconst 0, 1) := by decide +kernel
theorem dX6_ends_26 : decode cX6_ends 26 = .ok (.istore_n 2, 1) := by decide +kernel
theorem dX6_ends_27 : decode cX6_ends 27 = .ok (.iload_n 2, 1) := by decide +kernel
theorem dX6_ends_28 : decode cX6_ends 28 = .ok (.sipush 933, 3) := by decide +kernel
theorem dX6_ends_31 : decode cX6_ends 31 = .ok (.if_icmp .ge 25, 3) := by decide +kernel
theorem dX6_ends_34 : decode cX6_ends 34 = .ok (.aload_n 0, 1) := by decide +kernel
theorem dX6_ends_35 : decode cX6_ends 35 = .ok (.getfield 19, 3) := by decide +kernel
theorem dX6_ends_38 : decode cX6_ends 38 = .ok (.iload_n 2, 1) := by decide +kernel
theorem dX6_ends_39 : decode cX6_ends 39 = .ok (.aload_n 0, 1) := by decide +kernel
theorem dX6_ends_40 : decode cX6_ends 40 = .ok (.getfield 19, 3) := by decide +kernel
theorem dX6_ends_43 : decode cX6_ends 43 = .ok (.iload_n 2, 1) := by decide +kernel
theorem dX6_ends_44 : decode cX6_ends 44 = .ok (.sipush 311, 3) := by decide +kernel
theorem dX6_ends_47 : decode cX6_ends 47 = .ok (.iadd, 1) := by decide +kernel
theorem dX6_ends_48 : decode cX6_ends 48 = .ok (.iaload, 1) := by decide +kernel
theorem dX6_ends_49 : decode cX6_ends 49 = .ok (.iastore, 1) := by decide +kernel
theorem dX6_ends_50 : decode cX6_ends 50 = .ok (.iinc 2 1, 3) := by decide +kernel
theorem dX6_ends_53 : decode cX6_ends 53 = .ok (.goto (-26), 3) := by decide +kernel
theorem dX6_ends_56 : decode cX6_ends 56 = .ok (.aload_n 0, 1) := by decide +kernel
theorem dX6_ends_57 : decode cX6_ends 57 = .ok (.dup, 1) := by decide +kernel
theorem dX6_ends_58 : decode cX6_ends 58 = .ok (.getfield 59, 3) := by decide +kernel
theorem dX6_ends_61 : decode cX6_ends 61 = .ok (.iconst 1, 1) := by decide +kernel
theorem dX6_ends_62 : decode cX6_ends 62 = .ok (.isub, 1) := by decide +kernel
theorem dX6_ends_63 : decode cX6_ends 63 = .ok (.putfield 59, 3) := by decide +kernel
theorem dX6_ends_66 : decode cX6_ends 66 = .ok (.aload_n 0, 1) := by decide +kernel
theorem dX6_ends_67 : decode cX6_ends 67 = .ok (.getfield 13, 3) := by decide +kernel
theorem dX6_ends_70 : decode cX6_ends 70 = .ok (.iconst 0, 1) := by decide +kernel
theorem dX6_ends_71 : decode cX6_ends 71 = .ok (.aload_n 0, 1) := by decide +kernel
theorem dX6_ends_72 : decode cX6_ends 72 = .ok (.getfield 19, 3) := by decide +kernel
theorem dX6_ends_75 : decode cX6_ends 75 = .ok (.sipush 311, 3) := by decide +kernel
theorem dX6_ends_78 : decode cX6_ends 78 = .ok (.aload_n 0, 1) := by decide +kernel
theorem dX6_ends_79 : decode cX6_ends 79 = .ok (.getfield 59, 3) := by decide +kernel
theorem dX6_ends_82 : decode cX6_ends 82 = .ok (.imul, 1) := by decide +kernel
theorem dX6_ends_83 : decode cX6_ends 83 = .ok (.invokestatic 55, 3) := by decide +kernel
theorem dX6_ends_86 : decode cX6_ends 86 = .ok (.aload_n 0, 1) := by decide +kernel
theorem dX6_ends_87 : decode cX6_ends 87 = .ok (.dup, 1) := by decide +kernel
theorem dX6_ends_88 : decode cX6_ends 88 = .ok (.getfield 59, 3) := by decide +kernel
theorem dX6_ends_91 : decode cX6_ends 91 = .ok (.iconst 1, 1) := by decide +kernel
theorem dX6_ends_92 : decode cX6_ends 92 = .ok (.iadd, 1) := by decide +kernel
theorem dX6_ends_93 : decode cX6_ends 93 = .ok (.putfield 59, 3) := by decide +kernel
theorem dX6_ends_96 : decode cX6_ends 96 = .ok (.iload_n 1, 1) := by decide +kernel
theorem dX6_ends_97 : decode cX6_ends 97 = .ok (.ireturn, 1) := by decide +kernel
theorem dX6_refuse_0 : decode cX6_refuse 0 = .ok (.aload_n 0, 1) := by decide +kernel
theorem dX6_refuse_1 : decode cX6_refuse 1 = .ok (.iload_n 1, 1) := by decide +kernel
theorem dX6_refuse_2 : decode cX6_refuse 2 = .ok (.putfield 52, 3) := by decide +kernel
theorem dX6_refuse_5 : decode cX6_refuse 5 = .ok (.iconst 0, 1) := by decide +kernel
theorem dX6_refuse_6 : decode cX6_refuse 6 = .ok (.ireturn, 1) := by decide +kernel
theorem dX6_fails_0 : decode cX6_fails 0 = .ok (.aload_n 0, 1) := by decide +kernel
theorem dX6_fails_1 : decode cX6_fails 1 = .ok (.iload_n 1, 1) := by decide +kernel
theorem dX6_fails_2 : decode cX6_fails 2 = .ok (.putfield 38, 3) := by decide +kernel
theorem dX6_fails_5 : decode cX6_fails 5 = .ok (.iconst 0, 1) := by decide +kernel
theorem dX6_fails_6 : decode cX6_fails 6 = .ok (.ireturn, 1) := by decide +kernel
theorem dX6_isCoil_0 : decode cX6_isCoil 0 = .ok (.iload_n 1, 1) := by decide +kernel
theorem dX6_isCoil_1 : decode cX6_isCoil 1 = .ok (.iconst 0, 1) := by decide +kernel
theorem dX6_isCoil_2 : decode cX6_isCoil 2 = .ok (.aload_n 0, 1) := by decide +kernel
theorem dX6_isCoil_3 : decode cX6_isCoil 3 = .ok (.getfield 7, 3) := by decide +kernel
theorem dX6_isCoil_6 : decode cX6_isCoil 6 = .ok (.bipush 13, 2) := by decide +kernel
theorem dX6_isCoil_8 : decode cX6_isCoil 8 = .ok (.iaload, 1) := by decide +kernel
theorem dX6_isCoil_9 : decode cX6_isCoil 9 = .ok (.iconst 1, 1) := by decide +kernel
theorem dX6_isCoil_10 : decode cX6_isCoil 10 = .ok (.isub, 1) := by decide +kernel
theorem dX6_isCoil_11 : decode cX6_isCoil 11 = .ok (.invokestatic 62, 3) := by decide +kernel
theorem dX6_isCoil_14 : decode cX6_isCoil 14 = .ok (.ireturn, 1) := by decide +kernel
theorem dX6_of_0 : decode cX6_of 0 = .ok (.aload_n 0, 1) := by decide +kernel
theorem dX6_of_1 : decode cX6_of 1 = .ok (.getfield 7, 3) := by decide +kernel
theorem dX6_of_4 : decode cX6_of 4 = .ok (.bipush 15, 2) := by decide +kernel
theorem dX6_of_6 : decode cX6_of 6 = .ok (.bipush 12, 2) := by decide +kernel
theorem dX6_of_8 : decode cX6_of 8 = .ok (.iload_n 1, 1) := by decide +kernel
theorem dX6_of_9 : decode cX6_of 9 = .ok (.imul, 1) := by decide +kernel
theorem dX6_of_10 : decode cX6_of 10 = .ok (.iadd, 1) := by decide +kernel
theorem dX6_of_11 : decode cX6_of 11 = .ok (.iload_n 2, 1) := by decide +kernel
theorem dX6_of_12 : decode cX6_of 12 = .ok (.iadd, 1) := by decide +kernel
theorem dX6_of_13 : decode cX6_of 13 = .ok (.iaload, 1) := by decide +kernel
theorem dX6_of_14 : decode cX6_of 14 = .ok (.ireturn, 1) := by decide +kernel
theorem dX6_lay_0 : decode cX6_lay 0 = .ok (.aload_n 0, 1) := by decide +kernel
theorem dX6_lay_1 : decode cX6_lay 1 = .ok (.getfield 7, 3) := by decide +kernel
theorem dX6_lay_4 : decode cX6_lay 4 = .ok (.bipush 15, 2) := by decide +kernel
theorem dX6_lay_6 : decode cX6_lay 6 = .ok (.bipush 12, 2) := by decide +kernel
theorem dX6_lay_8 : decode cX6_lay 8 = .ok (.iload_n 1, 1) := by decide +kernel
theorem dX6_lay_9 : decode cX6_lay 9 = .ok (.imul, 1) := by decide +kernel
theorem dX6_lay_10 : decode cX6_lay 10 = .ok (.iadd, 1) := by decide +kernel
theorem dX6_lay_11 : decode cX6_lay 11 = .ok (.iload_n 2, 1) := by decide +kernel
theorem dX6_lay_12 : decode cX6_lay 12 = .ok (.iadd, 1) := by decide +kernel
theorem dX6_lay_13 : decode cX6_lay 13 = .ok (.iload_n 3, 1) := by decide +kernel
theorem dX6_lay_14 : decode cX6_lay 14 = .ok (.iastore, 1) := by decide +kernel
theorem dX6_lay_15 : decode cX6_lay 15 = .ok (.return_, 1) := by decide +kernel
theorem dX6_worth_0 : decode cX6_worth 0 = .ok (.iload_n 0, 1) := by decide +kernel
theorem dX6_worth_1 : decode cX6_worth 1 = .ok (.ifCond .ne 7, 3) := by decide +kernel
theorem dX6_worth_4 : decode cX6_worth 4 = .ok (.iconst 5, 1) := by decide +kernel
theorem dX6_worth_5 : decode cX6_worth 5 = .ok (.goto 25, 3) := by decide +kernel
theorem dX6_worth_8 : decode cX6_worth 8 = .ok (.iload_n 0, 1) := by decide +kernel
theorem dX6_worth_9 : decode cX6_worth 9 = .ok (.iconst 1, 1) := by decide +kernel
theorem dX6_worth_10 : decode cX6_worth 10 = .ok (.if_icmp .ne 8, 3) := by decide +kernel
theorem dX6_worth_13 : decode cX6_worth 13 = .ok (.bipush 10, 2) := by decide +kernel
theorem dX6_worth_15 : decode cX6_worth 15 = .ok (.goto 15, 3) := by decide +kernel
theorem dX6_worth_18 : decode cX6_worth 18 = .ok (.iload_n 0, 1) := by decide +kernel
theorem dX6_worth_19 : decode cX6_worth 19 = .ok (.iconst 2, 1) := by decide +kernel
theorem dX6_worth_20 : decode cX6_worth 20 = .ok (.if_icmp .ne 8, 3) := by decide +kernel
theorem dX6_worth_23 : decode cX6_worth 23 = .ok (.bipush 20, 2) := by decide +kernel
theorem dX6_worth_25 : decode cX6_worth 25 = .ok (.goto 5, 3) := by decide +kernel
theorem dX6_worth_28 : decode cX6_worth 28 = .ok (.bipush 50, 2) := by decide +kernel
theorem dX6_worth_30 : decode cX6_worth 30 = .ok (.ireturn, 1) := by decide +kernel
theorem dX6_pays_0 : decode cX6_pays 0 = .ok (.iconst (-1), 1) := by decide +kernel
theorem dX6_pays_1 : decode cX6_pays 1 = .ok (.istore 4, 2) := by decide +kernel
theorem dX6_pays_3 : decode cX6_pays 3 = .ok (.aload_n 0, 1) := by decide +kernel
theorem dX6_pays_4 : decode cX6_pays 4 = .ok (.getfield 7, 3) := by decide +kernel
theorem dX6_pays_7 : decode cX6_pays 7 = .ok (.iconst 5, 1) := by decide +kernel
theorem dX6_pays_8 : decode cX6_pays 8 = .ok (.iaload, 1) := by decide +kernel
theorem dX6_pays_9 : decode cX6_pays 9 = .ok (.iload_n 2, 1) := by decide +kernel
theorem dX6_pays_10 : decode cX6_pays 10 = .ok (.ifCond .ne 7, 3) := by decide +kernel
theorem dX6_pays_13 : decode cX6_pays 13 = .ok (.iload_n 3, 1) := by decide +kernel
theorem dX6_pays_14 : decode cX6_pays 14 = .ok (.goto 4, 3) := by decide +kernel
theorem dX6_pays_17 : decode cX6_pays 17 = .ok (.iconst 0, 1) := by decide +kernel
theorem dX6_pays_18 : decode cX6_pays 18 = .ok (.iadd, 1) := by decide +kernel
theorem dX6_pays_19 : decode cX6_pays 19 = .ok (.istore 5, 2) := by decide +kernel
theorem dX6_pays_21 : decode cX6_pays 21 = .ok (.aload_n 0, 1) := by decide +kernel
theorem dX6_pays_22 : decode cX6_pays 22 = .ok (.getfield 7, 3) := by decide +kernel
theorem dX6_pays_25 : decode cX6_pays 25 = .ok (.bipush 6, 2) := by decide +kernel
theorem dX6_pays_27 : decode cX6_pays 27 = .ok (.iaload, 1) := by decide +kernel
theorem dX6_pays_28 : decode cX6_pays 28 = .ok (.iload_n 2, 1) := by decide +kernel
theorem dX6_pays_29 : decode cX6_pays 29 = .ok (.iconst 1, 1) := by decide +kernel
theorem dX6_pays_30 : decode cX6_pays 30 = .ok (.if_icmp .ne 7, 3) := by decide +kernel
theorem dX6_pays_33 : decode cX6_pays 33 = .ok (.iload_n 3, 1) := by decide +kernel
theorem dX6_pays_34 : decode cX6_pays 34 = .ok (.goto 4, 3) := by decide +kernel
theorem dX6_pays_37 : decode cX6_pays 37 = .ok (.iconst 0, 1) := by decide +kernel
theorem dX6_pays_38 : decode cX6_pays 38 = .ok (.iadd, 1) := by decide +kernel
theorem dX6_pays_39 : decode cX6_pays 39 = .ok (.istore 6, 2) := by decide +kernel
theorem dX6_pays_41 : decode cX6_pays 41 = .ok (.aload_n 0, 1) := by decide +kernel
theorem dX6_pays_42 : decode cX6_pays 42 = .ok (.getfield 7, 3) := by decide +kernel
theorem dX6_pays_45 : decode cX6_pays 45 = .ok (.bipush 7, 2) := by decide +kernel
theorem dX6_pays_47 : decode cX6_pays 47 = .ok (.iaload, 1) := by decide +kernel
theorem dX6_pays_48 : decode cX6_pays 48 = .ok (.iload_n 2, 1) := by decide +kernel
theorem dX6_pays_49 : decode cX6_pays 49 = .ok (.iconst 2, 1) := by decide +kernel
theorem dX6_pays_50 : decode cX6_pays 50 = .ok (.if_icmp .ne 7, 3) := by decide +kernel
theorem dX6_pays_53 : decode cX6_pays 53 = .ok (.iload_n 3, 1) := by decide +kernel
theorem dX6_pays_54 : decode cX6_pays 54 = .ok (.goto 4, 3) := by decide +kernel
theorem dX6_pays_57 : decode cX6_pays 57 = .ok (.iconst 0, 1) := by decide +kernel
theorem dX6_pays_58 : decode cX6_pays 58 = .ok (.iadd, 1) := by decide +kernel
theorem dX6_pays_59 : decode cX6_pays 59 = .ok (.istore 7, 2) := by decide +kernel
theorem dX6_pays_61 : decode cX6_pays 61 = .ok (.aload_n 0, 1) := by decide +kernel
theorem dX6_pays_62 : decode cX6_pays 62 = .ok (.getfield 7, 3) := by decide +kernel
theorem dX6_pays_65 : decode cX6_pays 65 = .ok (.bipush 8, 2) := by decide +kernel
theorem dX6_pays_67 : decode cX6_pays 67 = .ok (.iaload, 1) := by decide +kernel
theorem dX6_pays_68 : decode cX6_pays 68 = .ok (.iload_n 2, 1) := by decide +kernel
theorem dX6_pays_69 : decode cX6_pays 69 = .ok (.iconst 3, 1) := by decide +kernel
theorem dX6_pays_70 : decode cX6_pays 70 = .ok (.if_icmp .ne 7, 3) := by decide +kernel
theorem dX6_pays_73 : decode cX6_pays 73 = .ok (.iload_n 3, 1) := by decide +kernel
theorem dX6_pays_74 : decode cX6_pays 74 = .ok (.goto 4, 3) := by decide +kernel
theorem dX6_pays_77 : decode cX6_pays 77 = .ok (.iconst 0, 1) := by decide +kernel
theorem dX6_pays_78 : decode cX6_pays 78 = .ok (.iadd, 1) := by decide +kernel
theorem dX6_pays_79 : decode cX6_pays 79 = .ok (.istore 8, 2) := by decide +kernel
theorem dX6_pays_81 : decode cX6_pays 81 = .ok (.iload 8, 2) := by decide +kernel
theorem dX6_pays_83 : decode cX6_pays 83 = .ok (.istore 9, 2) := by decide +kernel
theorem dX6_pays_85 : decode cX6_pays 85 = .ok (.iload 9, 2) := by decide +kernel
theorem dX6_pays_87 : decode cX6_pays 87 = .ok (.ifCond .lt 166, 3) := by decide +kernel
theorem dX6_pays_90 : decode cX6_pays 90 = .ok (.iload 7, 2) := by decide +kernel
theorem dX6_pays_92 : decode cX6_pays 92 = .ok (.istore 10, 2) := by decide +kernel
theorem dX6_pays_94 : decode cX6_pays 94 = .ok (.iload 10, 2) := by decide +kernel
theorem dX6_pays_96 : decode cX6_pays 96 = .ok (.ifCond .lt 151, 3) := by decide +kernel
theorem dX6_pays_99 : decode cX6_pays 99 = .ok (.iload_n 1, 1) := by decide +kernel
theorem dX6_pays_100 : decode cX6_pays 100 = .ok (.bipush 50, 2) := by decide +kernel
theorem dX6_pays_102 : decode cX6_pays 102 = .ok (.iload 9, 2) := by decide +kernel
theorem dX6_pays_104 : decode cX6_pays 104 = .ok (.imul, 1) := by decide +kernel
theorem dX6_pays_105 : decode cX6_pays 105 = .ok (.isub, 1) := by decide +kernel
theorem dX6_pays_106 : decode cX6_pays 106 = .ok (.bipush 20, 2) := by decide +kernel
theorem dX6_pays_108 : decode cX6_pays 108 = .ok (.iload 10, 2) := by decide +kernel
theorem dX6_pays_110 : decode cX6_pays 110 = .ok (.imul, 1) := by decide +kernel
theorem dX6_pays_111 : decode cX6_pays 111 = .ok (.isub, 1) := by decide +kernel
theorem dX6_pays_112 : decode cX6_pays 112 = .ok (.istore 11, 2) := by decide +kernel
theorem dX6_pays_114 : decode cX6_pays 114 = .ok (.iload 11, 2) := by decide +kernel
theorem dX6_pays_116 : decode cX6_pays 116 = .ok (.ifCond .ge 7, 3) := by decide +kernel
theorem dX6_pays_119 : decode cX6_pays 119 = .ok (.iconst 0, 1) := by decide +kernel
theorem dX6_pays_120 : decode cX6_pays 120 = .ok (.goto 23, 3) := by decide +kernel
theorem dX6_pays_123 : decode cX6_pays 123 = .ok (.iload 11, 2) := by decide +kernel
theorem dX6_pays_125 : decode cX6_pays 125 = .ok (.bipush 10, 2) := by decide +kernel
theorem dX6_pays_127 : decode cX6_pays 127 = .ok (.idiv, 1) := by decide +kernel
theorem dX6_pays_128 : decode cX6_pays 128 = .ok (.iload 6, 2) := by decide +kernel
theorem dX6_pays_130 : decode cX6_pays 130 = .ok (.if_icmp .ge 11, 3) := by decide +kernel
theorem dX6_pays_133 : decode cX6_pays 133 = .ok (.iload 11, 2) := by decide +kernel
theorem dX6_pays_135 : decode cX6_pays 135 = .ok (.bipush 10, 2) := by decide +kernel
theorem dX6_pays_137 : decode cX6_pays 137 = .ok (.idiv, 1) := by decide +kernel
theorem dX6_pays_138 : decode cX6_pays 138 = .ok (.goto 5, 3) := by decide +kernel
theorem dX6_pays_141 : decode cX6_pays 141 = .ok (.iload 6, 2) := by decide +kernel
theorem dX6_pays_143 : decode cX6_pays 143 = .ok (.istore 12, 2) := by decide +kernel
theorem dX6_pays_145 : decode cX6_pays 145 = .ok (.iload 11, 2) := by decide +kernel
theorem dX6_pays_147 : decode cX6_pays 147 = .ok (.bipush 10, 2) := by decide +kernel
theorem dX6_pays_149 : decode cX6_pays 149 = .ok (.iload 12, 2) := by decide +kernel
theorem dX6_pays_151 : decode cX6_pays 151 = .ok (.imul, 1) := by decide +kernel
theorem dX6_pays_152 : decode cX6_pays 152 = .ok (.isub, 1) := by decide +kernel
theorem dX6_pays_153 : decode cX6_pays 153 = .ok (.istore 13, 2) := by decide +kernel
theorem dX6_pays_155 : decode cX6_pays 155 = .ok (.iload 9, 2) := by decide +kernel
theorem dX6_pays_157 : decode cX6_pays 157 = .ok (.iload 10, 2) := by decide +kernel
theorem dX6_pays_159 : decode cX6_pays 159 = .ok (.iadd, 1) := by decide +kernel
theorem dX6_pays_160 : decode cX6_pays 160 = .ok (.iload 12, 2) := by decide +kernel
theorem dX6_pays_162 : decode cX6_pays 162 = .ok (.iadd, 1) := by decide +kernel
theorem dX6_pays_163 : decode cX6_pays 163 = .ok (.iload 13, 2) := by decide +kernel
theorem dX6_pays_165 : decode cX6_pays 165 = .ok (.iconst 5, 1) := by decide +kernel
theorem dX6_pays_166 : decode cX6_pays 166 = .ok (.idiv, 1) := by decide +kernel
theorem dX6_pays_167 : decode cX6_pays 167 = .ok (.iadd, 1) := by decide +kernel
theorem dX6_pays_168 : decode cX6_pays 168 = .ok (.istore 14, 2) := by decide +kernel
theorem dX6_pays_170 : decode cX6_pays 170 = .ok (.iload 11, 2) := by decide +kernel
theorem dX6_pays_172 : decode cX6_pays 172 = .ok (.ifCond .lt 69, 3) := by decide +kernel
theorem dX6_pays_175 : decode cX6_pays 175 = .ok (.iload 13, 2) := by decide +kernel
theorem dX6_pays_177 : decode cX6_pays 177 = .ok (.iconst 5, 1) := by decide +kernel
theorem dX6_pays_178 : decode cX6_pays 178 = .ok (.irem, 1) := by decide +kernel
theorem dX6_pays_179 : decode cX6_pays 179 = .ok (.ifCond .ne 62, 3) := by decide +kernel
theorem dX6_pays_182 : decode cX6_pays 182 = .ok (.iload 13, 2) := by decide +kernel
theorem dX6_pays_184 : decode cX6_pays 184 = .ok (.iconst 5, 1) := by decide +kernel
theorem dX6_pays_185 : decode cX6_pays 185 = .ok (.idiv, 1) := by decide +kernel
theorem dX6_pays_186 : decode cX6_pays 186 = .ok (.iload 5, 2) := by decide +kernel
theorem dX6_pays_188 : decode cX6_pays 188 = .ok (.if_icmp .gt 53, 3) := by decide +kernel
theorem dX6_pays_191 : decode cX6_pays 191 = .ok (.iload 4, 2) := by decide +kernel
theorem dX6_pays_193 : decode cX6_pays 193 = .ok (.ifCond .lt 10, 3) := by decide +kernel
theorem dX6_pays_196 : decode cX6_pays 196 = .ok (.iload 14, 2) := by decide +kernel
theorem dX6_pays_198 : decode cX6_pays 198 = .ok (.iload 4, 2) := by decide +kernel
theorem dX6_pays_200 : decode cX6_pays 200 = .ok (.if_icmp .ge 41, 3) := by decide +kernel
theorem dX6_pays_203 : decode cX6_pays 203 = .ok (.iload 14, 2) := by decide +kernel
theorem dX6_pays_205 : decode cX6_pays 205 = .ok (.istore 4, 2) := by decide +kernel
theorem dX6_pays_207 : decode cX6_pays 207 = .ok (.aload_n 0, 1) := by decide +kernel
theorem dX6_pays_208 : decode cX6_pays 208 = .ok (.getfield 25, 3) := by decide +kernel
theorem dX6_pays_211 : decode cX6_pays 211 = .ok (.iconst 0, 1) := by decide +kernel
theorem dX6_pays_212 : decode cX6_pays 212 = .ok (.iload 13, 2) := by decide +kernel
theorem dX6_pays_214 : decode cX6_pays 214 = .ok (.iconst 5, 1) := by decide +kernel
theorem dX6_pays_215 : decode cX6_pays 215 = .ok (.idiv, 1) := by decide +kernel
theorem dX6_pays_216 : decode cX6_pays 216 = .ok (.iastore, 1) := by decide +kernel
theorem dX6_pays_217 : decode cX6_pays 217 = .ok (.aload_n 0, 1) := by decide +kernel
theorem dX6_pays_218 : decode cX6_pays 218 = .ok (.getfield 25, 3) := by decide +kernel
theorem dX6_pays_221 : decode cX6_pays 221 = .ok (.iconst 1, 1) := by decide +kernel
theorem dX6_pays_222 : decode cX6_pays 222 = .ok (.iload 12, 2) := by decide +kernel
theorem dX6_pays_224 : decode cX6_pays 224 = .ok (.iastore, 1) := by decide +kernel
theorem dX6_pays_225 : decode cX6_pays 225 = .ok (.aload_n 0, 1) := by decide +kernel
theorem dX6_pays_226 : decode cX6_pays 226 = .ok (.getfield 25, 3) := by decide +kernel
theorem dX6_pays_229 : decode cX6_pays 229 = .ok (.iconst 2, 1) := by decide +kernel
theorem dX6_pays_230 : decode cX6_pays 230 = .ok (.iload 10, 2) := by decide +kernel
theorem dX6_pays_232 : decode cX6_pays 232 = .ok (.iastore, 1) := by decide +kernel
theorem dX6_pays_233 : decode cX6_pays 233 = .ok (.aload_n 0, 1) := by decide +kernel
theorem dX6_pays_234 : decode cX6_pays 234 = .ok (.getfield 25, 3) := by decide +kernel
theorem dX6_pays_237 : decode cX6_pays 237 = .ok (.iconst 3, 1) := by decide +kernel
theorem dX6_pays_238 : decode cX6_pays 238 = .ok (.iload 9, 2) := by decide +kernel
theorem dX6_pays_240 : decode cX6_pays 240 = .ok (.iastore, 1) := by decide +kernel
theorem dX6_pays_241 : decode cX6_pays 241 = .ok (.iinc 10 (-1), 3) := by decide +kernel
theorem dX6_pays_244 : decode cX6_pays 244 = .ok (.goto (-150), 3) := by decide +kernel
theorem dX6_pays_247 : decode cX6_pays 247 = .ok (.iinc 9 (-1), 3) := by decide +kernel
theorem dX6_pays_250 : decode cX6_pays 250 = .ok (.goto (-165), 3) := by decide +kernel
theorem dX6_pays_253 : decode cX6_pays 253 = .ok (.iload 4, 2) := by decide +kernel
theorem dX6_pays_255 : decode cX6_pays 255 = .ok (.ifCond .lt 7, 3) := by decide +kernel
theorem dX6_pays_258 : decode cX6_pays 258 = .ok (.iconst 1, 1) := by decide +kernel
theorem dX6_pays_259 : decode cX6_pays 259 = .ok (.goto 4, 3) := by decide +kernel
theorem dX6_pays_262 : decode cX6_pays 262 = .ok (.iconst 0, 1) := by decide +kernel
theorem dX6_pays_263 : decode cX6_pays 263 = .ok (.ireturn, 1) := by decide +kernel
theorem dX6_takes_0 : decode cX6_takes 0 = .ok (.iconst 0, 1) := by decide +kernel
theorem dX6_takes_1 : decode cX6_takes 1 = .ok (.istore_n 1, 1) := by decide +kernel
theorem dX6_takes_2 : decode cX6_takes 2 = .ok (.iload_n 1, 1) := by decide +kernel
theorem dX6_takes_3 : decode cX6_takes 3 = .ok (.iconst 4, 1) := by decide +kernel
theorem dX6_takes_4 : decode cX6_takes 4 = .ok (.if_icmp .ge 26, 3) := by decide +kernel
theorem dX6_takes_7 : decode cX6_takes 7 = .ok (.aload_n 0, 1) := by decide +kernel
theorem dX6_takes_8 : decode cX6_takes 8 = .ok (.getfield 7, 3) := by decide +kernel
theorem dX6_takes_11 : decode cX6_takes 11 = .ok (.iconst 5, 1) := by decide +kernel
theorem dX6_takes_12 : decode cX6_takes 12 = .ok (.iload_n 1, 1) := by decide +kernel
theorem dX6_takes_13 : decode cX6_takes 13 = .ok (.iadd, 1) := by decide +kernel
theorem dX6_takes_14 : decode cX6_takes 14 = .ok (.dup2, 1) := by decide +kernel
theorem dX6_takes_15 : decode cX6_takes 15 = .ok (.iaload, 1) := by decide +kernel
theorem dX6_takes_16 : decode cX6_takes 16 = .ok (.aload_n 0, 1) := by decide +kernel
theorem dX6_takes_17 : decode cX6_takes 17 = .ok (.getfield 25, 3) := by decide +kernel
theorem dX6_takes_20 : decode cX6_takes 20 = .ok (.iload_n 1, 1) := by decide +kernel
theorem dX6_takes_21 : decode cX6_takes 21 = .ok (.iaload, 1) := by decide +kernel
theorem dX6_takes_22 : decode cX6_takes 22 = .ok (.isub, 1) := by decide +kernel
theorem dX6_takes_23 : decode cX6_takes 23 = .ok (.iastore, 1) := by decide +kernel
theorem dX6_takes_24 : decode cX6_takes 24 = .ok (.iinc 1 1, 3) := by decide +kernel
theorem dX6_takes_27 : decode cX6_takes 27 = .ok (.goto (-25), 3) := by decide +kernel
theorem dX6_takes_30 : decode cX6_takes 30 = .ok (.return_, 1) := by decide +kernel
theorem dX6_owed_0 : decode cX6_owed 0 = .ok (.iconst 0, 1) := by decide +kernel
theorem dX6_owed_1 : decode cX6_owed 1 = .ok (.istore_n 1, 1) := by decide +kernel
theorem dX6_owed_2 : decode cX6_owed 2 = .ok (.iconst 0, 1) := by decide +kernel
theorem dX6_owed_3 : decode cX6_owed 3 = .ok (.istore_n 2, 1) := by decide +kernel
theorem dX6_owed_4 : decode cX6_owed 4 = .ok (.iload_n 2, 1) := by decide +kernel
theorem dX6_owed_5 : decode cX6_owed 5 = .ok (.aload_n 0, 1) := by decide +kernel
theorem dX6_owed_6 : decode cX6_owed 6 = .ok (.getfield 7, 3) := by decide +kernel
theorem dX6_owed_9 : decode cX6_owed 9 = .ok (.bipush 14, 2) := by decide +kernel
theorem dX6_owed_11 : decode cX6_owed 11 = .ok (.iaload, 1) := by decide +kernel
theorem dX6_owed_12 : decode cX6_owed 12 = .ok (.if_icmp .ge 21, 3) := by decide +kernel
theorem dX6_owed_15 : decode cX6_owed 15 = .ok (.iload_n 1, 1) := by decide +kernel
theorem dX6_owed_16 : decode cX6_owed 16 = .ok (.aload_n 0, 1) := by decide +kernel
theorem dX6_owed_17 : decode cX6_owed 17 = .ok (.getfield 7, 3) := by decide +kernel
theorem dX6_owed_20 : decode cX6_owed 20 = .ok (.bipush 111, 2) := by decide +kernel
theorem dX6_owed_22 : decode cX6_owed 22 = .ok (.iload_n 2, 1) := by decide +kernel
theorem dX6_owed_23 : decode cX6_owed 23 = .ok (.iadd, 1) := by decide +kernel
theorem dX6_owed_24 : decode cX6_owed 24 = .ok (.iaload, 1) := by decide +kernel
theorem dX6_owed_25 : decode cX6_owed 25 = .ok (.iadd, 1) := by decide +kernel
theorem dX6_owed_26 : decode cX6_owed 26 = .ok (.istore_n 1, 1) := by decide +kernel
theorem dX6_owed_27 : decode cX6_owed 27 = .ok (.iinc 2 1, 3) := by decide +kernel
theorem dX6_owed_30 : decode cX6_owed 30 = .ok (.goto (-26), 3) := by decide +kernel
theorem dX6_owed_33 : decode cX6_owed 33 = .ok (.iload_n 1, 1) := by decide +kernel
theorem dX6_owed_34 : decode cX6_owed 34 = .ok (.ireturn, 1) := by decide +kernel
theorem dX6_keepsPromises_0 : decode cX6_keepsPromises 0 = .ok (.aload_n 0, 1) := by decide +kernel
theorem dX6_keepsPromises_1 : decode cX6_keepsPromises 1 = .ok (.getfield 7, 3) := by decide +kernel
theorem dX6_keepsPromises_4 : decode cX6_keepsPromises 4 = .ok (.bipush 14, 2) := by decide +kernel
theorem dX6_keepsPromises_6 : decode cX6_keepsPromises 6 = .ok (.iaload, 1) := by decide +kernel
theorem dX6_keepsPromises_7 : decode cX6_keepsPromises 7 = .ok (.ifCond .le 93, 3) := by decide +kernel
theorem dX6_keepsPromises_10 : decode cX6_keepsPromises 10 = .ok (.aload_n 0, 1) := by decide +kernel
theorem dX6_keepsPromises_11 : decode cX6_keepsPromises 11 = .ok (.aload_n 0, 1) := by decide +kernel
theorem dX6_keepsPromises_12 : decode cX6_keepsPromises 12 = .ok (.getfield 7, 3) := by decide +kernel
theorem dX6_keepsPromises_15 : decode cX6_keepsPromises 15 = .ok (.bipush 111, 2) := by decide +kernel
theorem dX6_keepsPromises_17 : decode cX6_keepsPromises 17 = .ok (.iaload, 1) := by decide +kernel
theorem dX6_keepsPromises_18 : decode cX6_keepsPromises 18 = .ok (.iconst (-1), 1) := by decide +kernel
theorem dX6_keepsPromises_19 : decode cX6_keepsPromises 19 = .ok (.iconst 0, 1) := by decide +kernel
theorem dX6_keepsPromises_20 : decode cX6_keepsPromises 20 = .ok (.invokevirtual 66, 3) := by decide +kernel
theorem dX6_keepsPromises_23 : decode cX6_keepsPromises 23 = .ok (.ifCond .eq 77, 3) := by decide +kernel
theorem dX6_keepsPromises_26 : decode cX6_keepsPromises 26 = .ok (.aload_n 0, 1) := by decide +kernel
theorem dX6_keepsPromises_27 : decode cX6_keepsPromises 27 = .ok (.invokevirtual 69, 3) := by decide +kernel
theorem dX6_keepsPromises_30 : decode cX6_keepsPromises 30 = .ok (.aload_n 0, 1) := by decide +kernel
theorem dX6_keepsPromises_31 : decode cX6_keepsPromises 31 = .ok (.getfield 7, 3) := by decide +kernel
theorem dX6_keepsPromises_34 : decode cX6_keepsPromises 34 = .ok (.bipush 11, 2) := by decide +kernel
theorem dX6_keepsPromises_36 : decode cX6_keepsPromises 36 = .ok (.dup2, 1) := by decide +kernel
theorem dX6_keepsPromises_37 : decode cX6_keepsPromises 37 = .ok (.iaload, 1) := by decide +kernel
theorem dX6_keepsPromises_38 : decode cX6_keepsPromises 38 = .ok (.aload_n 0, 1) := by decide +kernel
theorem dX6_keepsPromises_39 : decode cX6_keepsPromises 39 = .ok (.getfield 7, 3) := by decide +kernel
theorem dX6_keepsPromises_42 : decode cX6_keepsPromises 42 = .ok (.bipush 111, 2) := by decide +kernel
theorem dX6_keepsPromises_44 : decode cX6_keepsPromises 44 = .ok (.iaload, 1) := by decide +kernel
theorem dX6_keepsPromises_45 : decode cX6_keepsPromises 45 = .ok (.iadd, 1) := by decide +kernel
theorem dX6_keepsPromises_46 : decode cX6_keepsPromises 46 = .ok (.iastore, 1) := by decide +kernel
theorem dX6_keepsPromises_47 : decode cX6_keepsPromises 47 = .ok (.aload_n 0, 1) := by decide +kernel
theorem dX6_keepsPromises_48 : decode cX6_keepsPromises 48 = .ok (.getfield 7, 3) := by decide +kernel
theorem dX6_keepsPromises_51 : decode cX6_keepsPromises 51 = .ok (.bipush 14, 2) := by decide +kernel
theorem dX6_keepsPromises_53 : decode cX6_keepsPromises 53 = .ok (.dup2, 1) := by decide +kernel
theorem dX6_keepsPromises_54 : decode cX6_keepsPromises 54 = .ok (.iaload, 1) := by decide +kernel
theorem dX6_keepsPromises_55 : decode cX6_keepsPromises 55 = .ok (.iconst 1, 1) := by decide +kernel
theorem dX6_keepsPromises_56 : decode cX6_keepsPromises 56 = .ok (.isub, 1) := by decide +kernel
theorem dX6_keepsPromises_57 : decode cX6_keepsPromises 57 = .ok (.iastore, 1) := by decide +kernel
theorem dX6_keepsPromises_58 : decode cX6_keepsPromises 58 = .ok (.iconst 0, 1) := by decide +kernel
theorem dX6_keepsPromises_59 : decode cX6_keepsPromises 59 = .ok (.istore_n 1, 1) := by decide +kernel
theorem dX6_keepsPromises_60 : decode cX6_keepsPromises 60 = .ok (.iload_n 1, 1) := by decide +kernel
theorem dX6_keepsPromises_61 : decode cX6_keepsPromises 61 = .ok (.aload_n 0, 1) := by decide +kernel
theorem dX6_keepsPromises_62 : decode cX6_keepsPromises 62 = .ok (.getfield 7, 3) := by decide +kernel
theorem dX6_keepsPromises_65 : decode cX6_keepsPromises 65 = .ok (.bipush 14, 2) := by decide +kernel
theorem dX6_keepsPromises_67 : decode cX6_keepsPromises 67 = .ok (.iaload, 1) := by decide +kernel
theorem dX6_keepsPromises_68 : decode cX6_keepsPromises 68 = .ok (.if_icmp .ge 29, 3) := by decide +kernel
theorem dX6_keepsPromises_71 : decode cX6_keepsPromises 71 = .ok (.aload_n 0, 1) := by decide +kernel
theorem dX6_keepsPromises_72 : decode cX6_keepsPromises 72 = .ok (.getfield 7, 3) := by decide +kernel
theorem dX6_keepsPromises_75 : decode cX6_keepsPromises 75 = .ok (.bipush 111, 2) := by decide +kernel
theorem dX6_keepsPromises_77 : decode cX6_keepsPromises 77 = .ok (.iload_n 1, 1) := by decide +kernel
theorem dX6_keepsPromises_78 : decode cX6_keepsPromises 78 = .ok (.iadd, 1) := by decide +kernel
theorem dX6_keepsPromises_79 : decode cX6_keepsPromises 79 = .ok (.aload_n 0, 1) := by decide +kernel
theorem dX6_keepsPromises_80 : decode cX6_keepsPromises 80 = .ok (.getfield 7, 3) := by decide +kernel
theorem dX6_keepsPromises_83 : decode cX6_keepsPromises 83 = .ok (.bipush 111, 2) := by decide +kernel
theorem dX6_keepsPromises_85 : decode cX6_keepsPromises 85 = .ok (.iload_n 1, 1) := by decide +kernel
theorem dX6_keepsPromises_86 : decode cX6_keepsPromises 86 = .ok (.iadd, 1) := by decide +kernel
theorem dX6_keepsPromises_87 : decode cX6_keepsPromises 87 = .ok (.iconst 1, 1) := by decide +kernel
theorem dX6_keepsPromises_88 : decode cX6_keepsPromises 88 = .ok (.iadd, 1) := by decide +kernel
theorem dX6_keepsPromises_89 : decode cX6_keepsPromises 89 = .ok (.iaload, 1) := by decide +kernel
theorem dX6_keepsPromises_90 : decode cX6_keepsPromises 90 = .ok (.iastore, 1) := by decide +kernel
theorem dX6_keepsPromises_91 : decode cX6_keepsPromises 91 = .ok (.iinc 1 1, 3) := by decide +kernel
theorem dX6_keepsPromises_94 : decode cX6_keepsPromises 94 = .ok (.goto (-34), 3) := by decide +kernel
theorem dX6_keepsPromises_97 : decode cX6_keepsPromises 97 = .ok (.goto (-97), 3) := by decide +kernel
theorem dX6_keepsPromises_100 : decode cX6_keepsPromises 100 = .ok (.return_, 1) := by decide +kernel
theorem dX6_puts_0 : decode cX6_puts 0 = .ok (.bipush 30, 2) := by decide +kernel
theorem dX6_puts_2 : decode cX6_puts 2 = .ok (.aload_n 0, 1) := by decide +kernel
theorem dX6_puts_3 : decode cX6_puts 3 = .ok (.getfield 7, 3) := by decide +kernel
theorem dX6_puts_6 : decode cX6_puts 6 = .ok (.iconst 5, 1) := by decide +kernel
theorem dX6_puts_7 : decode cX6_puts 7 = .ok (.iload_n 1, 1) := by decide +kernel
theorem dX6_puts_8 : decode cX6_puts 8 = .ok (.iadd, 1) := by decide +kernel
theorem dX6_puts_9 : decode cX6_puts 9 = .ok (.iaload, 1) := by decide +kernel
theorem dX6_puts_10 : decode cX6_puts 10 = .ok (.isub, 1) := by decide +kernel
theorem dX6_puts_11 : decode cX6_puts 11 = .ok (.iload_n 2, 1) := by decide +kernel
theorem dX6_puts_12 : decode cX6_puts 12 = .ok (.if_icmp .ge 17, 3) := by decide +kernel
theorem dX6_puts_15 : decode cX6_puts 15 = .ok (.bipush 30, 2) := by decide +kernel
theorem dX6_puts_17 : decode cX6_puts 17 = .ok (.aload_n 0, 1) := by decide +kernel
theorem dX6_puts_18 : decode cX6_puts 18 = .ok (.getfield 7, 3) := by decide +kernel
theorem dX6_puts_21 : decode cX6_puts 21 = .ok (.iconst 5, 1) := by decide +kernel
theorem dX6_puts_22 : decode cX6_puts 22 = .ok (.iload_n 1, 1) := by decide +kernel
theorem dX6_puts_23 : decode cX6_puts 23 = .ok (.iadd, 1) := by decide +kernel
theorem dX6_puts_24 : decode cX6_puts 24 = .ok (.iaload, 1) := by decide +kernel
theorem dX6_puts_25 : decode cX6_puts 25 = .ok (.isub, 1) := by decide +kernel
theorem dX6_puts_26 : decode cX6_puts 26 = .ok (.goto 4, 3) := by decide +kernel
theorem dX6_puts_29 : decode cX6_puts 29 = .ok (.iload_n 2, 1) := by decide +kernel
theorem dX6_puts_30 : decode cX6_puts 30 = .ok (.istore_n 3, 1) := by decide +kernel
theorem dX6_puts_31 : decode cX6_puts 31 = .ok (.aload_n 0, 1) := by decide +kernel
theorem dX6_puts_32 : decode cX6_puts 32 = .ok (.getfield 7, 3) := by decide +kernel
theorem dX6_puts_35 : decode cX6_puts 35 = .ok (.iconst 5, 1) := by decide +kernel
theorem dX6_puts_36 : decode cX6_puts 36 = .ok (.iload_n 1, 1) := by decide +kernel
theorem dX6_puts_37 : decode cX6_puts 37 = .ok (.iadd, 1) := by decide +kernel
theorem dX6_puts_38 : decode cX6_puts 38 = .ok (.dup2, 1) := by decide +kernel
theorem dX6_puts_39 : decode cX6_puts 39 = .ok (.iaload, 1) := by decide +kernel
theorem dX6_puts_40 : decode cX6_puts 40 = .ok (.iload_n 3, 1) := by decide +kernel
theorem dX6_puts_41 : decode cX6_puts 41 = .ok (.iadd, 1) := by decide +kernel
theorem dX6_puts_42 : decode cX6_puts 42 = .ok (.iastore, 1) := by decide +kernel
theorem dX6_puts_43 : decode cX6_puts 43 = .ok (.aload_n 0, 1) := by decide +kernel
theorem dX6_puts_44 : decode cX6_puts 44 = .ok (.getfield 7, 3) := by decide +kernel
theorem dX6_puts_47 : decode cX6_puts 47 = .ok (.bipush 9, 2) := by decide +kernel
theorem dX6_puts_49 : decode cX6_puts 49 = .ok (.dup2, 1) := by decide +kernel
theorem dX6_puts_50 : decode cX6_puts 50 = .ok (.iaload, 1) := by decide +kernel
theorem dX6_puts_51 : decode cX6_puts 51 = .ok (.iload_n 2, 1) := by decide +kernel
theorem dX6_puts_52 : decode cX6_puts 52 = .ok (.iload_n 3, 1) := by decide +kernel
theorem dX6_puts_53 : decode cX6_puts 53 = .ok (.isub, 1) := by decide +kernel
theorem dX6_puts_54 : decode cX6_puts 54 = .ok (.iload_n 1, 1) := by decide +kernel
theorem dX6_puts_55 : decode cX6_puts 55 = .ok (.invokestatic 72, 3) := by decide +kernel
theorem dX6_puts_58 : decode cX6_puts 58 = .ok (.imul, 1) := by decide +kernel
theorem dX6_puts_59 : decode cX6_puts 59 = .ok (.iadd, 1) := by decide +kernel
theorem dX6_puts_60 : decode cX6_puts 60 = .ok (.iastore, 1) := by decide +kernel
theorem dX6_puts_61 : decode cX6_puts 61 = .ok (.return_, 1) := by decide +kernel
theorem dX6_highest_0 : decode cX6_highest 0 = .ok (.iload_n 0, 1) := by decide +kernel
theorem dX6_highest_1 : decode cX6_highest 1 = .ok (.iconst 3, 1) := by decide +kernel
theorem dX6_highest_2 : decode cX6_highest 2 = .ok (.if_icmp .ne 9, 3) := by decide +kernel
theorem dX6_highest_5 : decode cX6_highest 5 = .ok (.sipush 1000, 3) := by decide +kernel
theorem dX6_highest_8 : decode cX6_highest 8 = .ok (.goto 5, 3) := by decide +kernel
theorem dX6_highest_11 : decode cX6_highest 11 = .ok (.bipush 100, 2) := by decide +kernel
theorem dX6_highest_13 : decode cX6_highest 13 = .ok (.ireturn, 1) := by decide +kernel
theorem dX6_set_0 : decode cX6_set 0 = .ok (.aload_n 0, 1) := by decide +kernel
theorem dX6_set_1 : decode cX6_set 1 = .ok (.invokevirtual 76, 3) := by decide +kernel
theorem dX6_set_4 : decode cX6_set 4 = .ok (.iload_n 1, 1) := by decide +kernel
theorem dX6_set_5 : decode cX6_set 5 = .ok (.iconst 0, 1) := by decide +kernel
theorem dX6_set_6 : decode cX6_set 6 = .ok (.iconst 4, 1) := by decide +kernel
theorem dX6_set_7 : decode cX6_set 7 = .ok (.invokestatic 62, 3) := by decide +kernel
theorem dX6_set_10 : decode cX6_set 10 = .ok (.ifCond .eq 34, 3) := by decide +kernel
theorem dX6_set_13 : decode cX6_set 13 = .ok (.iload_n 2, 1) := by decide +kernel
theorem dX6_set_14 : decode cX6_set 14 = .ok (.iload_n 1, 1) := by decide +kernel
theorem dX6_set_15 : decode cX6_set 15 = .ok (.ifCond .ne 7, 3) := by decide +kernel
theorem dX6_set_18 : decode cX6_set 18 = .ok (.iconst 1, 1) := by decide +kernel
theorem dX6_set_19 : decode cX6_set 19 = .ok (.goto 4, 3) := by decide +kernel
theorem dX6_set_22 : decode cX6_set 22 = .ok (.iconst 0, 1) := by decide +kernel
theorem dX6_set_23 : decode cX6_set 23 = .ok (.iload_n 1, 1) := by decide +kernel
theorem dX6_set_24 : decode cX6_set 24 = .ok (.invokestatic 79, 3) := by decide +kernel
theorem dX6_set_27 : decode cX6_set 27 = .ok (.invokestatic 62, 3) := by decide +kernel
theorem dX6_set_30 : decode cX6_set 30 = .ok (.ifCond .eq 14, 3) := by decide +kernel
theorem dX6_set_33 : decode cX6_set 33 = .ok (.iload_n 1, 1) := by decide +kernel
theorem dX6_set_34 : decode cX6_set 34 = .ok (.iconst 4, 1) := by decide +kernel
theorem dX6_set_35 : decode cX6_set 35 = .ok (.if_icmp .ne 19, 3) := by decide +kernel
theorem dX6_set_38 : decode cX6_set 38 = .ok (.iload_n 2, 1) := by decide +kernel
theorem dX6_set_39 : decode cX6_set 39 = .ok (.iconst 5, 1) := by decide +kernel
theorem dX6_set_40 : decode cX6_set 40 = .ok (.irem, 1) := by decide +kernel
theorem dX6_set_41 : decode cX6_set 41 = .ok (.ifCond .eq 13, 3) := by decide +kernel
theorem dX6_set_44 : decode cX6_set 44 = .ok (.aload_n 0, 1) := by decide +kernel
theorem dX6_set_45 : decode cX6_set 45 = .ok (.aload_n 0, 1) := by decide +kernel
theorem dX6_set_46 : decode cX6_set 46 = .ok (.iconst 1, 1) := by decide +kernel
theorem dX6_set_47 : decode cX6_set 47 = .ok (.invokevirtual 82, 3) := by decide +kernel
theorem dX6_set_50 : decode cX6_set 50 = .ok (.invokevirtual 85, 3) := by decide +kernel
theorem dX6_set_53 : decode cX6_set 53 = .ok (.ireturn, 1) := by decide +kernel
theorem dX6_set_54 : decode cX6_set 54 = .ok (.aload_n 0, 1) := by decide +kernel
theorem dX6_set_55 : decode cX6_set 55 = .ok (.getfield 7, 3) := by decide +kernel
theorem dX6_set_58 : decode cX6_set 58 = .ok (.iconst 0, 1) := by decide +kernel
theorem dX6_set_59 : decode cX6_set 59 = .ok (.iload_n 1, 1) := by decide +kernel
theorem dX6_set_60 : decode cX6_set 60 = .ok (.iadd, 1) := by decide +kernel
theorem dX6_set_61 : decode cX6_set 61 = .ok (.iaload, 1) := by decide +kernel
theorem dX6_set_62 : decode cX6_set 62 = .ok (.istore_n 3, 1) := by decide +kernel
theorem dX6_set_63 : decode cX6_set 63 = .ok (.aload_n 0, 1) := by decide +kernel
theorem dX6_set_64 : decode cX6_set 64 = .ok (.getfield 7, 3) := by decide +kernel
theorem dX6_set_67 : decode cX6_set 67 = .ok (.iconst 0, 1) := by decide +kernel
theorem dX6_set_68 : decode cX6_set 68 = .ok (.iload_n 1, 1) := by decide +kernel
theorem dX6_set_69 : decode cX6_set 69 = .ok (.iadd, 1) := by decide +kernel
theorem dX6_set_70 : decode cX6_set 70 = .ok (.iload_n 2, 1) := by decide +kernel
theorem dX6_set_71 : decode cX6_set 71 = .ok (.iastore, 1) := by decide +kernel
theorem dX6_set_72 : decode cX6_set 72 = .ok (.aload_n 0, 1) := by decide +kernel
theorem dX6_set_73 : decode cX6_set 73 = .ok (.iload_n 3, 1) := by decide +kernel
theorem dX6_set_74 : decode cX6_set 74 = .ok (.invokevirtual 85, 3) := by decide +kernel
theorem dX6_set_77 : decode cX6_set 77 = .ok (.ireturn, 1) := by decide +kernel
theorem dX6_isPrice_0 : decode cX6_isPrice 0 = .ok (.iload_n 0, 1) := by decide +kernel
theorem dX6_isPrice_1 : decode cX6_isPrice 1 = .ok (.iload_n 1, 1) := by decide +kernel
theorem dX6_isPrice_2 : decode cX6_isPrice 2 = .ok (.sipush 500, 3) := by decide +kernel
theorem dX6_isPrice_5 : decode cX6_isPrice 5 = .ok (.invokestatic 62, 3) := by decide +kernel
theorem dX6_isPrice_8 : decode cX6_isPrice 8 = .ok (.ifCond .eq 13, 3) := by decide +kernel
theorem dX6_isPrice_11 : decode cX6_isPrice 11 = .ok (.iload_n 0, 1) := by decide +kernel
theorem dX6_isPrice_12 : decode cX6_isPrice 12 = .ok (.iconst 5, 1) := by decide +kernel
theorem dX6_isPrice_13 : decode cX6_isPrice 13 = .ok (.irem, 1) := by decide +kernel
theorem dX6_isPrice_14 : decode cX6_isPrice 14 = .ok (.ifCond .ne 7, 3) := by decide +kernel
theorem dX6_isPrice_17 : decode cX6_isPrice 17 = .ok (.iconst 1, 1) := by decide +kernel
theorem dX6_isPrice_18 : decode cX6_isPrice 18 = .ok (.goto 4, 3) := by decide +kernel
theorem dX6_isPrice_21 : decode cX6_isPrice 21 = .ok (.iconst 0, 1) := by decide +kernel
theorem dX6_isPrice_22 : decode cX6_isPrice 22 = .ok (.ireturn, 1) := by decide +kernel
theorem dX6_addCoil_0 : decode cX6_addCoil 0 = .ok (.aload_n 0, 1) := by decide +kernel
theorem dX6_addCoil_1 : decode cX6_addCoil 1 = .ok (.invokevirtual 76, 3) := by decide +kernel
theorem dX6_addCoil_4 : decode cX6_addCoil 4 = .ok (.iload_n 1, 1) := by decide +kernel
theorem dX6_addCoil_5 : decode cX6_addCoil 5 = .ok (.iconst 0, 1) := by decide +kernel
theorem dX6_addCoil_6 : decode cX6_addCoil 6 = .ok (.iconst 5, 1) := by decide +kernel
theorem dX6_addCoil_7 : decode cX6_addCoil 7 = .ok (.invokestatic 62, 3) := by decide +kernel
theorem dX6_addCoil_10 : decode cX6_addCoil 10 = .ok (.ifCond .eq 19, 3) := by decide +kernel
theorem dX6_addCoil_13 : decode cX6_addCoil 13 = .ok (.iload_n 2, 1) := by decide +kernel
theorem dX6_addCoil_14 : decode cX6_addCoil 14 = .ok (.iconst 5, 1) := by decide +kernel
theorem dX6_addCoil_15 : decode cX6_addCoil 15 = .ok (.invokestatic 88, 3) := by decide +kernel
theorem dX6_addCoil_18 : decode cX6_addCoil 18 = .ok (.ifCond .eq 11, 3) := by decide +kernel
theorem dX6_addCoil_21 : decode cX6_addCoil 21 = .ok (.iload_n 3, 1) := by decide +kernel
theorem dX6_addCoil_22 : decode cX6_addCoil 22 = .ok (.iload_n 2, 1) := by decide +kernel
theorem dX6_addCoil_23 : decode cX6_addCoil 23 = .ok (.invokestatic 88, 3) := by decide +kernel
theorem dX6_addCoil_26 : decode cX6_addCoil 26 = .ok (.ifCond .ne 13, 3) := by decide +kernel
theorem dX6_addCoil_29 : decode cX6_addCoil 29 = .ok (.aload_n 0, 1) := by decide +kernel
theorem dX6_addCoil_30 : decode cX6_addCoil 30 = .ok (.aload_n 0, 1) := by decide +kernel
theorem dX6_addCoil_31 : decode cX6_addCoil 31 = .ok (.iconst 1, 1) := by decide +kernel
theorem dX6_addCoil_32 : decode cX6_addCoil 32 = .ok (.invokevirtual 82, 3) := by decide +kernel
theorem dX6_addCoil_35 : decode cX6_addCoil 35 = .ok (.invokevirtual 85, 3) := by decide +kernel
theorem dX6_addCoil_38 : decode cX6_addCoil 38 = .ok (.ireturn, 1) := by decide +kernel
theorem dX6_addCoil_39 : decode cX6_addCoil 39 = .ok (.aload_n 0, 1) := by decide +kernel
theorem dX6_addCoil_40 : decode cX6_addCoil 40 = .ok (.getfield 7, 3) := by decide +kernel
theorem dX6_addCoil_43 : decode cX6_addCoil 43 = .ok (.bipush 13, 2) := by decide +kernel
theorem dX6_addCoil_45 : decode cX6_addCoil 45 = .ok (.iaload, 1) := by decide +kernel
theorem dX6_addCoil_46 : decode cX6_addCoil 46 = .ok (.bipush 8, 2) := by decide +kernel
theorem dX6_addCoil_48 : decode cX6_addCoil 48 = .ok (.if_icmp .ne 13, 3) := by decide +kernel
theorem dX6_addCoil_51 : decode cX6_addCoil 51 = .ok (.aload_n 0, 1) := by decide +kernel
theorem dX6_addCoil_52 : decode cX6_addCoil 52 = .ok (.aload_n 0, 1) := by decide +kernel
theorem dX6_addCoil_53 : decode cX6_addCoil 53 = .ok (.iconst 2, 1) := by decide +kernel
theorem dX6_addCoil_54 : decode cX6_addCoil 54 = .ok (.invokevirtual 82, 3) := by decide +kernel
theorem dX6_addCoil_57 : decode cX6_addCoil 57 = .ok (.invokevirtual 85, 3) := by decide +kernel
theorem dX6_addCoil_60 : decode cX6_addCoil 60 = .ok (.ireturn, 1) := by decide +kernel
theorem dX6_addCoil_61 : decode cX6_addCoil 61 = .ok (.aload_n 0, 1) := by decide +kernel
theorem dX6_addCoil_62 : decode cX6_addCoil 62 = .ok (.getfield 7, 3) := by decide +kernel
theorem dX6_addCoil_65 : decode cX6_addCoil 65 = .ok (.bipush 13, 2) := by decide +kernel
theorem dX6_addCoil_67 : decode cX6_addCoil 67 = .ok (.iaload, 1) := by decide +kernel
theorem dX6_addCoil_68 : decode cX6_addCoil 68 = .ok (.istore 4, 2) := by decide +kernel
theorem dX6_addCoil_70 : decode cX6_addCoil 70 = .ok (.aload_n 0, 1) := by decide +kernel
theorem dX6_addCoil_71 : decode cX6_addCoil 71 = .ok (.iload 4, 2) := by decide +kernel
theorem dX6_addCoil_73 : decode cX6_addCoil 73 = .ok (.iconst 0, 1) := by decide +kernel
theorem dX6_addCoil_74 : decode cX6_addCoil 74 = .ok (.iload_n 1, 1) := by decide +kernel
theorem dX6_addCoil_75 : decode cX6_addCoil 75 = .ok (.invokevirtual 92, 3) := by decide +kernel
theorem dX6_addCoil_78 : decode cX6_addCoil 78 = .ok (.aload_n 0, 1) := by decide +kernel
theorem dX6_addCoil_79 : decode cX6_addCoil 79 = .ok (.iload 4, 2) := by decide +kernel
theorem dX6_addCoil_81 : decode cX6_addCoil 81 = .ok (.iconst 3, 1) := by decide +kernel
theorem dX6_addCoil_82 : decode cX6_addCoil 82 = .ok (.iload_n 2, 1) := by decide +kernel
theorem dX6_addCoil_83 : decode cX6_addCoil 83 = .ok (.invokevirtual 92, 3) := by decide +kernel
theorem dX6_addCoil_86 : decode cX6_addCoil 86 = .ok (.aload_n 0, 1) := by decide +kernel
theorem dX6_addCoil_87 : decode cX6_addCoil 87 = .ok (.iload 4, 2) := by decide +kernel
theorem dX6_addCoil_89 : decode cX6_addCoil 89 = .ok (.iconst 4, 1) := by decide +kernel
theorem dX6_addCoil_90 : decode cX6_addCoil 90 = .ok (.iload_n 3, 1) := by decide +kernel
theorem dX6_addCoil_91 : decode cX6_addCoil 91 = .ok (.invokevirtual 92, 3) := by decide +kernel
theorem dX6_addCoil_94 : decode cX6_addCoil 94 = .ok (.aload_n 0, 1) := by decide +kernel
theorem dX6_addCoil_95 : decode cX6_addCoil 95 = .ok (.iload 4, 2) := by decide +kernel
theorem dX6_addCoil_97 : decode cX6_addCoil 97 = .ok (.iconst 2, 1) := by decide +kernel
theorem dX6_addCoil_98 : decode cX6_addCoil 98 = .ok (.iload_n 2, 1) := by decide +kernel
theorem dX6_addCoil_99 : decode cX6_addCoil 99 = .ok (.invokevirtual 92, 3) := by decide +kernel
theorem dX6_addCoil_102 : decode cX6_addCoil 102 = .ok (.aload_n 0, 1) := by decide +kernel
theorem dX6_addCoil_103 : decode cX6_addCoil 103 = .ok (.getfield 7, 3) := by decide +kernel
theorem dX6_addCoil_106 : decode cX6_addCoil 106 = .ok (.bipush 13, 2) := by decide +kernel
theorem dX6_addCoil_108 : decode cX6_addCoil 108 = .ok (.dup2, 1) := by decide +kernel
theorem dX6_addCoil_109 : decode cX6_addCoil 109 = .ok (.iaload, 1) := by decide +kernel
theorem dX6_addCoil_110 : decode cX6_addCoil 110 = .ok (.iconst 1, 1) := by decide +kernel
theorem dX6_addCoil_111 : decode cX6_addCoil 111 = .ok (.iadd, 1) := by decide +kernel
theorem dX6_addCoil_112 : decode cX6_addCoil 112 = .ok (.iastore, 1) := by decide +kernel
theorem dX6_addCoil_113 : decode cX6_addCoil 113 = .ok (.aload_n 0, 1) := by decide +kernel
theorem dX6_addCoil_114 : decode cX6_addCoil 114 = .ok (.iload 4, 2) := by decide +kernel
theorem dX6_addCoil_116 : decode cX6_addCoil 116 = .ok (.invokevirtual 85, 3) := by decide +kernel
theorem dX6_addCoil_119 : decode cX6_addCoil 119 = .ok (.ireturn, 1) := by decide +kernel
theorem dX6_doStock_0 : decode cX6_doStock 0 = .ok (.aload_n 0, 1) := by decide +kernel
theorem dX6_doStock_1 : decode cX6_doStock 1 = .ok (.iload_n 1, 1) := by decide +kernel
theorem dX6_doStock_2 : decode cX6_doStock 2 = .ok (.invokevirtual 96, 3) := by decide +kernel
theorem dX6_doStock_5 : decode cX6_doStock 5 = .ok (.ifCond .ne 9, 3) := by decide +kernel
theorem dX6_doStock_8 : decode cX6_doStock 8 = .ok (.aload_n 0, 1) := by decide +kernel
theorem dX6_doStock_9 : decode cX6_doStock 9 = .ok (.iconst 1, 1) := by decide +kernel
theorem dX6_doStock_10 : decode cX6_doStock 10 = .ok (.invokevirtual 82, 3) := by decide +kernel
theorem dX6_doStock_13 : decode cX6_doStock 13 = .ok (.ireturn, 1) := by decide +kernel
theorem dX6_doStock_14 : decode cX6_doStock 14 = .ok (.iload_n 2, 1) := by decide +kernel
theorem dX6_doStock_15 : decode cX6_doStock 15 = .ok (.iconst 1, 1) := by decide +kernel
theorem dX6_doStock_16 : decode cX6_doStock 16 = .ok (.bipush 20, 2) := by decide +kernel
theorem dX6_doStock_18 : decode cX6_doStock 18 = .ok (.invokestatic 62, 3) := by decide +kernel
theorem dX6_doStock_21 : decode cX6_doStock 21 = .ok (.ifCond .ne 9, 3) := by decide +kernel
theorem dX6_doStock_24 : decode cX6_doStock 24 = .ok (.aload_n 0, 1) := by decide +kernel
theorem dX6_doStock_25 : decode cX6_doStock 25 = .ok (.iconst 2, 1) := by decide +kernel
theorem dX6_doStock_26 : decode cX6_doStock 26 = .ok (.invokevirtual 82, 3) := by decide +kernel
theorem dX6_doStock_29 : decode cX6_doStock 29 = .ok (.ireturn, 1) := by decide +kernel
theorem dX6_doStock_30 : decode cX6_doStock 30 = .ok (.aload_n 0, 1) := by decide +kernel
theorem dX6_doStock_31 : decode cX6_doStock 31 = .ok (.iload_n 1, 1) := by decide +kernel
theorem dX6_doStock_32 : decode cX6_doStock 32 = .ok (.iconst 1, 1) := by decide +kernel
theorem dX6_doStock_33 : decode cX6_doStock 33 = .ok (.invokevirtual 100, 3) := by decide +kernel
theorem dX6_doStock_36 : decode cX6_doStock 36 = .ok (.iload_n 2, 1) := by decide +kernel
theorem dX6_doStock_37 : decode cX6_doStock 37 = .ok (.iadd, 1) := by decide +kernel
theorem dX6_doStock_38 : decode cX6_doStock 38 = .ok (.bipush 20, 2) := by decide +kernel
theorem dX6_doStock_40 : decode cX6_doStock 40 = .ok (.if_icmp .le 9, 3) := by decide +kernel
theorem dX6_doStock_43 : decode cX6_doStock 43 = .ok (.aload_n 0, 1) := by decide +kernel
theorem dX6_doStock_44 : decode cX6_doStock 44 = .ok (.iconst 3, 1) := by decide +kernel
theorem dX6_doStock_45 : decode cX6_doStock 45 = .ok (.invokevirtual 82, 3) := by decide +kernel
theorem dX6_doStock_48 : decode cX6_doStock 48 = .ok (.ireturn, 1) := by decide +kernel
theorem dX6_doStock_49 : decode cX6_doStock 49 = .ok (.aload_n 0, 1) := by decide +kernel
theorem dX6_doStock_50 : decode cX6_doStock 50 = .ok (.iload_n 1, 1) := by decide +kernel
theorem dX6_doStock_51 : decode cX6_doStock 51 = .ok (.iconst 1, 1) := by decide +kernel
theorem dX6_doStock_52 : decode cX6_doStock 52 = .ok (.aload_n 0, 1) := by decide +kernel
theorem dX6_doStock_53 : decode cX6_doStock 53 = .ok (.iload_n 1, 1) := by decide +kernel
theorem dX6_doStock_54 : decode cX6_doStock 54 = .ok (.iconst 1, 1) := by decide +kernel
theorem dX6_doStock_55 : decode cX6_doStock 55 = .ok (.invokevirtual 100, 3) := by decide +kernel
theorem dX6_doStock_58 : decode cX6_doStock 58 = .ok (.iload_n 2, 1) := by decide +kernel
theorem dX6_doStock_59 : decode cX6_doStock 59 = .ok (.iadd, 1) := by decide +kernel
theorem dX6_doStock_60 : decode cX6_doStock 60 = .ok (.invokevirtual 92, 3) := by decide +kernel
theorem dX6_doStock_63 : decode cX6_doStock 63 = .ok (.aload_n 0, 1) := by decide +kernel
theorem dX6_doStock_64 : decode cX6_doStock 64 = .ok (.iload_n 1, 1) := by decide +kernel
theorem dX6_doStock_65 : decode cX6_doStock 65 = .ok (.iconst 1, 1) := by decide +kernel
theorem dX6_doStock_66 : decode cX6_doStock 66 = .ok (.invokevirtual 100, 3) := by decide +kernel
theorem dX6_doStock_69 : decode cX6_doStock 69 = .ok (.ireturn, 1) := by decide +kernel
theorem dX6_stock_0 : decode cX6_stock 0 = .ok (.aload_n 0, 1) := by decide +kernel
theorem dX6_stock_1 : decode cX6_stock 1 = .ok (.invokevirtual 76, 3) := by decide +kernel
theorem dX6_stock_4 : decode cX6_stock 4 = .ok (.aload_n 0, 1) := by decide +kernel
theorem dX6_stock_5 : decode cX6_stock 5 = .ok (.aload_n 0, 1) := by decide +kernel
theorem dX6_stock_6 : decode cX6_stock 6 = .ok (.iload_n 1, 1) := by decide +kernel
theorem dX6_stock_7 : decode cX6_stock 7 = .ok (.iload_n 2, 1) := by decide +kernel
theorem dX6_stock_8 : decode cX6_stock 8 = .ok (.invokevirtual 104, 3) := by decide +kernel
theorem dX6_stock_11 : decode cX6_stock 11 = .ok (.invokevirtual 85, 3) := by decide +kernel
theorem dX6_stock_14 : decode cX6_stock 14 = .ok (.ireturn, 1) := by decide +kernel
theorem dX6_doFill_0 : decode cX6_doFill 0 = .ok (.iload_n 1, 1) := by decide +kernel
theorem dX6_doFill_1 : decode cX6_doFill 1 = .ok (.iconst 0, 1) := by decide +kernel
theorem dX6_doFill_2 : decode cX6_doFill 2 = .ok (.iconst 3, 1) := by decide +kernel
theorem dX6_doFill_3 : decode cX6_doFill 3 = .ok (.invokestatic 62, 3) := by decide +kernel
theorem dX6_doFill_6 : decode cX6_doFill 6 = .ok (.ifCond .ne 9, 3) := by decide +kernel
theorem dX6_doFill_9 : decode cX6_doFill 9 = .ok (.aload_n 0, 1) := by decide +kernel
theorem dX6_doFill_10 : decode cX6_doFill 10 = .ok (.iconst 1, 1) := by decide +kernel
theorem dX6_doFill_11 : decode cX6_doFill 11 = .ok (.invokevirtual 82, 3) := by decide +kernel
theorem dX6_doFill_14 : decode cX6_doFill 14 = .ok (.ireturn, 1) := by decide +kernel
theorem dX6_doFill_15 : decode cX6_doFill 15 = .ok (.iload_n 2, 1) := by decide +kernel
theorem dX6_doFill_16 : decode cX6_doFill 16 = .ok (.iconst 1, 1) := by decide +kernel
theorem dX6_doFill_17 : decode cX6_doFill 17 = .ok (.bipush 30, 2) := by decide +kernel
theorem dX6_doFill_19 : decode cX6_doFill 19 = .ok (.invokestatic 62, 3) := by decide +kernel
theorem dX6_doFill_22 : decode cX6_doFill 22 = .ok (.ifCond .ne 9, 3) := by decide +kernel
theorem dX6_doFill_25 : decode cX6_doFill 25 = .ok (.aload_n 0, 1) := by decide +kernel
theorem dX6_doFill_26 : decode cX6_doFill 26 = .ok (.iconst 2, 1) := by decide +kernel
theorem dX6_doFill_27 : decode cX6_doFill 27 = .ok (.invokevirtual 82, 3) := by decide +kernel
theorem dX6_doFill_30 : decode cX6_doFill 30 = .ok (.ireturn, 1) := by decide +kernel
theorem dX6_doFill_31 : decode cX6_doFill 31 = .ok (.bipush 30, 2) := by decide +kernel
theorem dX6_doFill_33 : decode cX6_doFill 33 = .ok (.aload_n 0, 1) := by decide +kernel
theorem dX6_doFill_34 : decode cX6_doFill 34 = .ok (.getfield 7, 3) := by decide +kernel
theorem dX6_doFill_37 : decode cX6_doFill 37 = .ok (.iconst 5, 1) := by decide +kernel
theorem dX6_doFill_38 : decode cX6_doFill 38 = .ok (.iload_n 1, 1) := by decide +kernel
theorem dX6_doFill_39 : decode cX6_doFill 39 = .ok (.iadd, 1) := by decide +kernel
theorem dX6_doFill_40 : decode cX6_doFill 40 = .ok (.iaload, 1) := by decide +kernel
theorem dX6_doFill_41 : decode cX6_doFill 41 = .ok (.isub, 1) := by decide +kernel
theorem dX6_doFill_42 : decode cX6_doFill 42 = .ok (.iload_n 2, 1) := by decide +kernel
theorem dX6_doFill_43 : decode cX6_doFill 43 = .ok (.if_icmp .ge 17, 3) := by decide +kernel
theorem dX6_doFill_46 : decode cX6_doFill 46 = .ok (.bipush 30, 2) := by decide +kernel
theorem dX6_doFill_48 : decode cX6_doFill 48 = .ok (.aload_n 0, 1) := by decide +kernel
theorem dX6_doFill_49 : decode cX6_doFill 49 = .ok (.getfield 7, 3) := by decide +kernel
theorem dX6_doFill_52 : decode cX6_doFill 52 = .ok (.iconst 5, 1) := by decide +kernel
theorem dX6_doFill_53 : decode cX6_doFill 53 = .ok (.iload_n 1, 1) := by decide +kernel
theorem dX6_doFill_54 : decode cX6_doFill 54 = .ok (.iadd, 1) := by decide +kernel
theorem dX6_doFill_55 : decode cX6_doFill 55 = .ok (.iaload, 1) := by decide +kernel
theorem dX6_doFill_56 : decode cX6_doFill 56 = .ok (.isub, 1) := by decide +kernel
theorem dX6_doFill_57 : decode cX6_doFill 57 = .ok (.goto 4, 3) := by decide +kernel
theorem dX6_doFill_60 : decode cX6_doFill 60 = .ok (.iload_n 2, 1) := by decide +kernel
theorem dX6_doFill_61 : decode cX6_doFill 61 = .ok (.istore_n 3, 1) := by decide +kernel
theorem dX6_doFill_62 : decode cX6_doFill 62 = .ok (.aload_n 0, 1) := by decide +kernel
theorem dX6_doFill_63 : decode cX6_doFill 63 = .ok (.getfield 7, 3) := by decide +kernel
theorem dX6_doFill_66 : decode cX6_doFill 66 = .ok (.iconst 5, 1) := by decide +kernel
theorem dX6_doFill_67 : decode cX6_doFill 67 = .ok (.iload_n 1, 1) := by decide +kernel
theorem dX6_doFill_68 : decode cX6_doFill 68 = .ok (.iadd, 1) := by decide +kernel
theorem dX6_doFill_69 : decode cX6_doFill 69 = .ok (.dup2, 1) := by decide +kernel
theorem dX6_doFill_70 : decode cX6_doFill 70 = .ok (.iaload, 1) := by decide +kernel
theorem dX6_doFill_71 : decode cX6_doFill 71 = .ok (.iload_n 3, 1) := by decide +kernel
theorem dX6_doFill_72 : decode cX6_doFill 72 = .ok (.iadd, 1) := by decide +kernel
theorem dX6_doFill_73 : decode cX6_doFill 73 = .ok (.iastore, 1) := by decide +kernel
theorem dX6_doFill_74 : decode cX6_doFill 74 = .ok (.aload_n 0, 1) := by decide +kernel
theorem dX6_doFill_75 : decode cX6_doFill 75 = .ok (.invokevirtual 107, 3) := by decide +kernel
theorem dX6_doFill_78 : decode cX6_doFill 78 = .ok (.iload_n 3, 1) := by decide +kernel
theorem dX6_doFill_79 : decode cX6_doFill 79 = .ok (.ireturn, 1) := by decide +kernel
theorem dX6_fill_0 : decode cX6_fill 0 = .ok (.aload_n 0, 1) := by decide +kernel
theorem dX6_fill_1 : decode cX6_fill 1 = .ok (.invokevirtual 76, 3) := by decide +kernel
theorem dX6_fill_4 : decode cX6_fill 4 = .ok (.aload_n 0, 1) := by decide +kernel
theorem dX6_fill_5 : decode cX6_fill 5 = .ok (.aload_n 0, 1) := by decide +kernel
theorem dX6_fill_6 : decode cX6_fill 6 = .ok (.iload_n 1, 1) := by decide +kernel
theorem dX6_fill_7 : decode cX6_fill 7 = .ok (.iload_n 2, 1) := by decide +kernel
theorem dX6_fill_8 : decode cX6_fill 8 = .ok (.invokevirtual 110, 3) := by decide +kernel
theorem dX6_fill_11 : decode cX6_fill 11 = .ok (.invokevirtual 85, 3) := by decide +kernel
theorem dX6_fill_14 : decode cX6_fill 14 = .ok (.ireturn, 1) := by decide +kernel
theorem dX6_doBuy_0 : decode cX6_doBuy 0 = .ok (.iconst 0, 1) := by decide +kernel
theorem dX6_doBuy_1 : decode cX6_doBuy 1 = .ok (.istore_n 2, 1) := by decide +kernel
theorem dX6_doBuy_2 : decode cX6_doBuy 2 = .ok (.iconst 0, 1) := by decide +kernel
theorem dX6_doBuy_3 : decode cX6_doBuy 3 = .ok (.istore_n 3, 1) := by decide +kernel
theorem dX6_doBuy_4 : decode cX6_doBuy 4 = .ok (.iload_n 3, 1) := by decide +kernel
theorem dX6_doBuy_5 : decode cX6_doBuy 5 = .ok (.iconst 4, 1) := by decide +kernel
theorem dX6_doBuy_6 : decode cX6_doBuy 6 = .ok (.if_icmp .ge 23, 3) := by decide +kernel
theorem dX6_doBuy_9 : decode cX6_doBuy 9 = .ok (.iload_n 2, 1) := by decide +kernel
theorem dX6_doBuy_10 : decode cX6_doBuy 10 = .ok (.aload_n 0, 1) := by decide +kernel
theorem dX6_doBuy_11 : decode cX6_doBuy 11 = .ok (.getfield 28, 3) := by decide +kernel
theorem dX6_doBuy_14 : decode cX6_doBuy 14 = .ok (.iload_n 3, 1) := by decide +kernel
theorem dX6_doBuy_15 : decode cX6_doBuy 15 = .ok (.iaload, 1) := by decide +kernel
theorem dX6_doBuy_16 : decode cX6_doBuy 16 = .ok (.iload_n 3, 1) := by decide +kernel
theorem dX6_doBuy_17 : decode cX6_doBuy 17 = .ok (.invokestatic 72, 3) := by decide +kernel
theorem dX6_doBuy_20 : decode cX6_doBuy 20 = .ok (.imul, 1) := by decide +kernel
theorem dX6_doBuy_21 : decode cX6_doBuy 21 = .ok (.iadd, 1) := by decide +kernel
theorem dX6_doBuy_22 : decode cX6_doBuy 22 = .ok (.istore_n 2, 1) := by decide +kernel
theorem dX6_doBuy_23 : decode cX6_doBuy 23 = .ok (.iinc 3 1, 3) := by decide +kernel
theorem dX6_doBuy_26 : decode cX6_doBuy 26 = .ok (.goto (-22), 3) := by decide +kernel
theorem dX6_doBuy_29 : decode cX6_doBuy 29 = .ok (.iload_n 2, 1) := by decide +kernel
theorem dX6_doBuy_30 : decode cX6_doBuy 30 = .ok (.aload_n 0, 1) := by decide +kernel
theorem dX6_doBuy_31 : decode cX6_doBuy 31 = .ok (.iload_n 1, 1) := by decide +kernel
theorem dX6_doBuy_32 : decode cX6_doBuy 32 = .ok (.iconst 2, 1) := by decide +kernel
theorem dX6_doBuy_33 : decode cX6_doBuy 33 = .ok (.invokevirtual 100, 3) := by decide +kernel
theorem dX6_doBuy_36 : decode cX6_doBuy 36 = .ok (.isub, 1) := by decide +kernel
theorem dX6_doBuy_37 : decode cX6_doBuy 37 = .ok (.istore_n 3, 1) := by decide +kernel
theorem dX6_doBuy_38 : decode cX6_doBuy 38 = .ok (.aload_n 0, 1) := by decide +kernel
theorem dX6_doBuy_39 : decode cX6_doBuy 39 = .ok (.iload_n 1, 1) := by decide +kernel
theorem dX6_doBuy_40 : decode cX6_doBuy 40 = .ok (.iconst 1, 1) := by decide +kernel
theorem dX6_doBuy_41 : decode cX6_doBuy 41 = .ok (.invokevirtual 100, 3) := by decide +kernel
theorem dX6_doBuy_44 : decode cX6_doBuy 44 = .ok (.ifCond .eq 7, 3) := by decide +kernel
theorem dX6_doBuy_47 : decode cX6_doBuy 47 = .ok (.iload_n 3, 1) := by decide +kernel
theorem dX6_doBuy_48 : decode cX6_doBuy 48 = .ok (.ifCond .ge 9, 3) := by decide +kernel
theorem dX6_doBuy_51 : decode cX6_doBuy 51 = .ok (.aload_n 0, 1) := by decide +kernel
theorem dX6_doBuy_52 : decode cX6_doBuy 52 = .ok (.iconst 3, 1) := by decide +kernel
theorem dX6_doBuy_53 : decode cX6_doBuy 53 = .ok (.invokevirtual 82, 3) := by decide +kernel
theorem dX6_doBuy_56 : decode cX6_doBuy 56 = .ok (.ireturn, 1) := by decide +kernel
theorem dX6_doBuy_57 : decode cX6_doBuy 57 = .ok (.aload_n 0, 1) := by decide +kernel
theorem dX6_doBuy_58 : decode cX6_doBuy 58 = .ok (.getfield 7, 3) := by decide +kernel
theorem dX6_doBuy_61 : decode cX6_doBuy 61 = .ok (.iconst 0, 1) := by decide +kernel
theorem dX6_doBuy_62 : decode cX6_doBuy 62 = .ok (.aload_n 0, 1) := by decide +kernel
theorem dX6_doBuy_63 : decode cX6_doBuy 63 = .ok (.getfield 16, 3) := by decide +kernel
theorem dX6_doBuy_66 : decode cX6_doBuy 66 = .ok (.iconst 0, 1) := by decide +kernel
theorem dX6_doBuy_67 : decode cX6_doBuy 67 = .ok (.invokestatic 55, 3) := by decide +kernel
theorem dX6_doBuy_70 : decode cX6_doBuy 70 = .ok (.iconst 0, 1) := by decide +kernel
theorem dX6_doBuy_71 : decode cX6_doBuy 71 = .ok (.istore 4, 2) := by decide +kernel
theorem dX6_doBuy_73 : decode cX6_doBuy 73 = .ok (.iload 4, 2) := by decide +kernel
theorem dX6_doBuy_75 : decode cX6_doBuy 75 = .ok (.iconst 4, 1) := by decide +kernel
theorem dX6_doBuy_76 : decode cX6_doBuy 76 = .ok (.if_icmp .ge 22, 3) := by decide +kernel
theorem dX6_doBuy_79 : decode cX6_doBuy 79 = .ok (.aload_n 0, 1) := by decide +kernel
theorem dX6_doBuy_80 : decode cX6_doBuy 80 = .ok (.iload 4, 2) := by decide +kernel
theorem dX6_doBuy_82 : decode cX6_doBuy 82 = .ok (.aload_n 0, 1) := by decide +kernel
theorem dX6_doBuy_83 : decode cX6_doBuy 83 = .ok (.getfield 28, 3) := by decide +kernel
theorem dX6_doBuy_86 : decode cX6_doBuy 86 = .ok (.iload 4, 2) := by decide +kernel
theorem dX6_doBuy_88 : decode cX6_doBuy 88 = .ok (.iaload, 1) := by decide +kernel
theorem dX6_doBuy_89 : decode cX6_doBuy 89 = .ok (.invokevirtual 113, 3) := by decide +kernel
theorem dX6_doBuy_92 : decode cX6_doBuy 92 = .ok (.iinc 4 1, 3) := by decide +kernel
theorem dX6_doBuy_95 : decode cX6_doBuy 95 = .ok (.goto (-22), 3) := by decide +kernel
theorem dX6_doBuy_98 : decode cX6_doBuy 98 = .ok (.aload_n 0, 1) := by decide +kernel
theorem dX6_doBuy_99 : decode cX6_doBuy 99 = .ok (.iload_n 3, 1) := by decide +kernel
theorem dX6_doBuy_100 : decode cX6_doBuy 100 = .ok (.iconst (-1), 1) := by decide +kernel
theorem dX6_doBuy_101 : decode cX6_doBuy 101 = .ok (.iconst 0, 1) := by decide +kernel
theorem dX6_doBuy_102 : decode cX6_doBuy 102 = .ok (.invokevirtual 66, 3) := by decide +kernel
theorem dX6_doBuy_105 : decode cX6_doBuy 105 = .ok (.istore 4, 2) := by decide +kernel
theorem dX6_doBuy_107 : decode cX6_doBuy 107 = .ok (.iload 4, 2) := by decide +kernel
theorem dX6_doBuy_109 : decode cX6_doBuy 109 = .ok (.ifCond .ne 37, 3) := by decide +kernel
theorem dX6_doBuy_112 : decode cX6_doBuy 112 = .ok (.aload_n 0, 1) := by decide +kernel
theorem dX6_doBuy_113 : decode cX6_doBuy 113 = .ok (.invokevirtual 117, 3) := by decide +kernel
theorem dX6_doBuy_116 : decode cX6_doBuy 116 = .ok (.iload_n 3, 1) := by decide +kernel
theorem dX6_doBuy_117 : decode cX6_doBuy 117 = .ok (.iadd, 1) := by decide +kernel
theorem dX6_doBuy_118 : decode cX6_doBuy 118 = .ok (.aload_n 0, 1) := by decide +kernel
theorem dX6_doBuy_119 : decode cX6_doBuy 119 = .ok (.getfield 7, 3) := by decide +kernel
theorem dX6_doBuy_122 : decode cX6_doBuy 122 = .ok (.iconst 3, 1) := by decide +kernel
theorem dX6_doBuy_123 : decode cX6_doBuy 123 = .ok (.iaload, 1) := by decide +kernel
theorem dX6_doBuy_124 : decode cX6_doBuy 124 = .ok (.if_icmp .le 22, 3) := by decide +kernel
theorem dX6_doBuy_127 : decode cX6_doBuy 127 = .ok (.aload_n 0, 1) := by decide +kernel
theorem dX6_doBuy_128 : decode cX6_doBuy 128 = .ok (.getfield 16, 3) := by decide +kernel
theorem dX6_doBuy_131 : decode cX6_doBuy 131 = .ok (.iconst 0, 1) := by decide +kernel
theorem dX6_doBuy_132 : decode cX6_doBuy 132 = .ok (.aload_n 0, 1) := by decide +kernel
theorem dX6_doBuy_133 : decode cX6_doBuy 133 = .ok (.getfield 7, 3) := by decide +kernel
theorem dX6_doBuy_136 : decode cX6_doBuy 136 = .ok (.iconst 0, 1) := by decide +kernel
theorem dX6_doBuy_137 : decode cX6_doBuy 137 = .ok (.invokestatic 55, 3) := by decide +kernel
theorem dX6_doBuy_140 : decode cX6_doBuy 140 = .ok (.aload_n 0, 1) := by decide +kernel
theorem dX6_doBuy_141 : decode cX6_doBuy 141 = .ok (.iconst 3, 1) := by decide +kernel
theorem dX6_doBuy_142 : decode cX6_doBuy 142 = .ok (.invokevirtual 82, 3) := by decide +kernel
theorem dX6_doBuy_145 : decode cX6_doBuy 145 = .ok (.ireturn, 1) := by decide +kernel
theorem dX6_doBuy_146 : decode cX6_doBuy 146 = .ok (.iload 4, 2) := by decide +kernel
theorem dX6_doBuy_148 : decode cX6_doBuy 148 = .ok (.ifCond .eq 10, 3) := by decide +kernel
theorem dX6_doBuy_151 : decode cX6_doBuy 151 = .ok (.aload_n 0, 1) := by decide +kernel
theorem dX6_doBuy_152 : decode cX6_doBuy 152 = .ok (.invokevirtual 69, 3) := by decide +kernel
theorem dX6_doBuy_155 : decode cX6_doBuy 155 = .ok (.goto 30, 3) := by decide +kernel
theorem dX6_doBuy_158 : decode cX6_doBuy 158 = .ok (.aload_n 0, 1) := by decide +kernel
theorem dX6_doBuy_159 : decode cX6_doBuy 159 = .ok (.getfield 7, 3) := by decide +kernel
theorem dX6_doBuy_162 : decode cX6_doBuy 162 = .ok (.bipush 111, 2) := by decide +kernel
theorem dX6_doBuy_164 : decode cX6_doBuy 164 = .ok (.aload_n 0, 1) := by decide +kernel
theorem dX6_doBuy_165 : decode cX6_doBuy 165 = .ok (.getfield 7, 3) := by decide +kernel
theorem dX6_doBuy_168 : decode cX6_doBuy 168 = .ok (.bipush 14, 2) := by decide +kernel
theorem dX6_doBuy_170 : decode cX6_doBuy 170 = .ok (.iaload, 1) := by decide +kernel
theorem dX6_doBuy_171 : decode cX6_doBuy 171 = .ok (.iadd, 1) := by decide +kernel
theorem dX6_doBuy_172 : decode cX6_doBuy 172 = .ok (.iload_n 3, 1) := by decide +kernel
theorem dX6_doBuy_173 : decode cX6_doBuy 173 = .ok (.iastore, 1) := by decide +kernel
theorem dX6_doBuy_174 : decode cX6_doBuy 174 = .ok (.aload_n 0, 1) := by decide +kernel
theorem dX6_doBuy_175 : decode cX6_doBuy 175 = .ok (.getfield 7, 3) := by decide +kernel
theorem dX6_doBuy_178 : decode cX6_doBuy 178 = .ok (.bipush 14, 2) := by decide +kernel
theorem dX6_doBuy_180 : decode cX6_doBuy 180 = .ok (.dup2, 1) := by decide +kernel
theorem dX6_doBuy_181 : decode cX6_doBuy 181 = .ok (.iaload, 1) := by decide +kernel
theorem dX6_doBuy_182 : decode cX6_doBuy 182 = .ok (.iconst 1, 1) := by decide +kernel
theorem dX6_doBuy_183 : decode cX6_doBuy 183 = .ok (.iadd, 1) := by decide +kernel
theorem dX6_doBuy_184 : decode cX6_doBuy 184 = .ok (.iastore, 1) := by decide +kernel
theorem dX6_doBuy_185 : decode cX6_doBuy 185 = .ok (.aload_n 0, 1) := by decide +kernel
theorem dX6_doBuy_186 : decode cX6_doBuy 186 = .ok (.iload_n 1, 1) := by decide +kernel
theorem dX6_doBuy_187 : decode cX6_doBuy 187 = .ok (.iconst 1, 1) := by decide +kernel
theorem dX6_doBuy_188 : decode cX6_doBuy 188 = .ok (.aload_n 0, 1) := by decide +kernel
theorem dX6_doBuy_189 : decode cX6_doBuy 189 = .ok (.iload_n 1, 1) := by decide +kernel
theorem dX6_doBuy_190 : decode cX6_doBuy 190 = .ok (.iconst 1, 1) := by decide +kernel
theorem dX6_doBuy_191 : decode cX6_doBuy 191 = .ok (.invokevirtual 100, 3) := by decide +kernel
theorem dX6_doBuy_194 : decode cX6_doBuy 194 = .ok (.iconst 1, 1) := by decide +kernel
theorem dX6_doBuy_195 : decode cX6_doBuy 195 = .ok (.isub, 1) := by decide +kernel
theorem dX6_doBuy_196 : decode cX6_doBuy 196 = .ok (.invokevirtual 92, 3) := by decide +kernel
theorem dX6_doBuy_199 : decode cX6_doBuy 199 = .ok (.aload_n 0, 1) := by decide +kernel
theorem dX6_doBuy_200 : decode cX6_doBuy 200 = .ok (.iload_n 1, 1) := by decide +kernel
theorem dX6_doBuy_201 : decode cX6_doBuy 201 = .ok (.bipush 6, 2) := by decide +kernel
theorem dX6_doBuy_203 : decode cX6_doBuy 203 = .ok (.aload_n 0, 1) := by decide +kernel
theorem dX6_doBuy_204 : decode cX6_doBuy 204 = .ok (.iload_n 1, 1) := by decide +kernel
theorem dX6_doBuy_205 : decode cX6_doBuy 205 = .ok (.bipush 6, 2) := by decide +kernel
theorem dX6_doBuy_207 : decode cX6_doBuy 207 = .ok (.invokevirtual 100, 3) := by decide +kernel
theorem dX6_doBuy_210 : decode cX6_doBuy 210 = .ok (.iconst 1, 1) := by decide +kernel
theorem dX6_doBuy_211 : decode cX6_doBuy 211 = .ok (.iadd, 1) := by decide +kernel
theorem dX6_doBuy_212 : decode cX6_doBuy 212 = .ok (.invokevirtual 92, 3) := by decide +kernel
theorem dX6_doBuy_215 : decode cX6_doBuy 215 = .ok (.aload_n 0, 1) := by decide +kernel
theorem dX6_doBuy_216 : decode cX6_doBuy 216 = .ok (.iload_n 1, 1) := by decide +kernel
theorem dX6_doBuy_217 : decode cX6_doBuy 217 = .ok (.bipush 7, 2) := by decide +kernel
theorem dX6_doBuy_219 : decode cX6_doBuy 219 = .ok (.aload_n 0, 1) := by decide +kernel
theorem dX6_doBuy_220 : decode cX6_doBuy 220 = .ok (.iload_n 1, 1) := by decide +kernel
theorem dX6_doBuy_221 : decode cX6_doBuy 221 = .ok (.bipush 7, 2) := by decide +kernel
theorem dX6_doBuy_223 : decode cX6_doBuy 223 = .ok (.invokevirtual 100, 3) := by decide +kernel
theorem dX6_doBuy_226 : decode cX6_doBuy 226 = .ok (.aload_n 0, 1) := by decide +kernel
theorem dX6_doBuy_227 : decode cX6_doBuy 227 = .ok (.iload_n 1, 1) := by decide +kernel
theorem dX6_doBuy_228 : decode cX6_doBuy 228 = .ok (.iconst 2, 1) := by decide +kernel
theorem dX6_doBuy_229 : decode cX6_doBuy 229 = .ok (.invokevirtual 100, 3) := by decide +kernel
theorem dX6_doBuy_232 : decode cX6_doBuy 232 = .ok (.iadd, 1) := by decide +kernel
theorem dX6_doBuy_233 : decode cX6_doBuy 233 = .ok (.invokevirtual 92, 3) := by decide +kernel
theorem dX6_doBuy_236 : decode cX6_doBuy 236 = .ok (.aload_n 0, 1) := by decide +kernel
theorem dX6_doBuy_237 : decode cX6_doBuy 237 = .ok (.iload_n 1, 1) := by decide +kernel
theorem dX6_doBuy_238 : decode cX6_doBuy 238 = .ok (.bipush 10, 2) := by decide +kernel
theorem dX6_doBuy_240 : decode cX6_doBuy 240 = .ok (.aload_n 0, 1) := by decide +kernel
theorem dX6_doBuy_241 : decode cX6_doBuy 241 = .ok (.iload_n 1, 1) := by decide +kernel
theorem dX6_doBuy_242 : decode cX6_doBuy 242 = .ok (.bipush 10, 2) := by decide +kernel
theorem dX6_doBuy_244 : decode cX6_doBuy 244 = .ok (.invokevirtual 100, 3) := by decide +kernel
theorem dX6_doBuy_247 : decode cX6_doBuy 247 = .ok (.invokestatic 121, 3) := by decide +kernel
theorem dX6_doBuy_250 : decode cX6_doBuy 250 = .ok (.fconst 1, 1) := by decide +kernel
theorem dX6_doBuy_251 : decode cX6_doBuy 251 = .ok (.fadd, 1) := by decide +kernel
theorem dX6_doBuy_252 : decode cX6_doBuy 252 = .ok (.invokestatic 124, 3) := by decide +kernel
theorem dX6_doBuy_255 : decode cX6_doBuy 255 = .ok (.invokevirtual 92, 3) := by decide +kernel
theorem dX6_doBuy_258 : decode cX6_doBuy 258 = .ok (.aload_n 0, 1) := by decide +kernel
theorem dX6_doBuy_259 : decode cX6_doBuy 259 = .ok (.invokevirtual 107, 3) := by decide +kernel
theorem dX6_doBuy_262 : decode cX6_doBuy 262 = .ok (.iload 4, 2) := by decide +kernel
theorem dX6_doBuy_264 : decode cX6_doBuy 264 = .ok (.ifCond .eq 7, 3) := by decide +kernel
theorem dX6_doBuy_267 : decode cX6_doBuy 267 = .ok (.iload_n 3, 1) := by decide +kernel
theorem dX6_doBuy_268 : decode cX6_doBuy 268 = .ok (.goto 7, 3) := by decide +kernel
theorem dX6_doBuy_271 : decode cX6_doBuy 271 = .ok (.bipush (-10), 2) := by decide +kernel
theorem dX6_doBuy_273 : decode cX6_doBuy 273 = .ok (.iload_n 3, 1) := by decide +kernel
theorem dX6_doBuy_274 : decode cX6_doBuy 274 = .ok (.isub, 1) := by decide +kernel
theorem dX6_doBuy_275 : decode cX6_doBuy 275 = .ok (.ireturn, 1) := by decide +kernel
theorem dX6_isFew_0 : decode cX6_isFew 0 = .ok (.iload_n 0, 1) := by decide +kernel
theorem dX6_isFew_1 : decode cX6_isFew 1 = .ok (.iconst 0, 1) := by decide +kernel
theorem dX6_isFew_2 : decode cX6_isFew 2 = .ok (.bipush 9, 2) := by decide +kernel
theorem dX6_isFew_4 : decode cX6_isFew 4 = .ok (.invokestatic 62, 3) := by decide +kernel
theorem dX6_isFew_7 : decode cX6_isFew 7 = .ok (.ireturn, 1) := by decide +kernel
theorem dX6_lays_0 : decode cX6_lays 0 = .ok (.aload_n 0, 1) := by decide +kernel
theorem dX6_lays_1 : decode cX6_lays 1 = .ok (.getfield 28, 3) := by decide +kernel
theorem dX6_lays_4 : decode cX6_lays 4 = .ok (.iconst 0, 1) := by decide +kernel
theorem dX6_lays_5 : decode cX6_lays 5 = .ok (.iload_n 1, 1) := by decide +kernel
theorem dX6_lays_6 : decode cX6_lays 6 = .ok (.iastore, 1) := by decide +kernel
theorem dX6_lays_7 : decode cX6_lays 7 = .ok (.aload_n 0, 1) := by decide +kernel
theorem dX6_lays_8 : decode cX6_lays 8 = .ok (.getfield 28, 3) := by decide +kernel
theorem dX6_lays_11 : decode cX6_lays 11 = .ok (.iconst 1, 1) := by decide +kernel
theorem dX6_lays_12 : decode cX6_lays 12 = .ok (.iload_n 2, 1) := by decide +kernel
theorem dX6_lays_13 : decode cX6_lays 13 = .ok (.iastore, 1) := by decide +kernel
theorem dX6_lays_14 : decode cX6_lays 14 = .ok (.aload_n 0, 1) := by decide +kernel
theorem dX6_lays_15 : decode cX6_lays 15 = .ok (.getfield 28, 3) := by decide +kernel
theorem dX6_lays_18 : decode cX6_lays 18 = .ok (.iconst 2, 1) := by decide +kernel
theorem dX6_lays_19 : decode cX6_lays 19 = .ok (.iload_n 3, 1) := by decide +kernel
theorem dX6_lays_20 : decode cX6_lays 20 = .ok (.iastore, 1) := by decide +kernel
theorem dX6_lays_21 : decode cX6_lays 21 = .ok (.aload_n 0, 1) := by decide +kernel
theorem dX6_lays_22 : decode cX6_lays 22 = .ok (.getfield 28, 3) := by decide +kernel
theorem dX6_lays_25 : decode cX6_lays 25 = .ok (.iconst 3, 1) := by decide +kernel
theorem dX6_lays_26 : decode cX6_lays 26 = .ok (.iload 4, 2) := by decide +kernel
theorem dX6_lays_28 : decode cX6_lays 28 = .ok (.iastore, 1) := by decide +kernel
theorem dX6_lays_29 : decode cX6_lays 29 = .ok (.return_, 1) := by decide +kernel
theorem dX6_buy_0 : decode cX6_buy 0 = .ok (.aload_n 0, 1) := by decide +kernel
theorem dX6_buy_1 : decode cX6_buy 1 = .ok (.invokevirtual 76, 3) := by decide +kernel
theorem dX6_buy_4 : decode cX6_buy 4 = .ok (.aload_n 0, 1) := by decide +kernel
theorem dX6_buy_5 : decode cX6_buy 5 = .ok (.iload_n 1, 1) := by decide +kernel
theorem dX6_buy_6 : decode cX6_buy 6 = .ok (.invokevirtual 96, 3) := by decide +kernel
theorem dX6_buy_9 : decode cX6_buy 9 = .ok (.ifCond .ne 13, 3) := by decide +kernel
theorem dX6_buy_12 : decode cX6_buy 12 = .ok (.aload_n 0, 1) := by decide +kernel
theorem dX6_buy_13 : decode cX6_buy 13 = .ok (.aload_n 0, 1) := by decide +kernel
theorem dX6_buy_14 : decode cX6_buy 14 = .ok (.iconst 1, 1) := by decide +kernel
theorem dX6_buy_15 : decode cX6_buy 15 = .ok (.invokevirtual 82, 3) := by decide +kernel
theorem dX6_buy_18 : decode cX6_buy 18 = .ok (.invokevirtual 85, 3) := by decide +kernel
theorem dX6_buy_21 : decode cX6_buy 21 = .ok (.ireturn, 1) := by decide +kernel
theorem dX6_buy_22 : decode cX6_buy 22 = .ok (.iload_n 2, 1) := by decide +kernel
theorem dX6_buy_23 : decode cX6_buy 23 = .ok (.invokestatic 127, 3) := by decide +kernel
theorem dX6_buy_26 : decode cX6_buy 26 = .ok (.ifCond .eq 26, 3) := by decide +kernel
theorem dX6_buy_29 : decode cX6_buy 29 = .ok (.iload_n 3, 1) := by decide +kernel
theorem dX6_buy_30 : decode cX6_buy 30 = .ok (.invokestatic 127, 3) := by decide +kernel
theorem dX6_buy_33 : decode cX6_buy 33 = .ok (.ifCond .eq 19, 3) := by decide +kernel
theorem dX6_buy_36 : decode cX6_buy 36 = .ok (.iload 4, 2) := by decide +kernel
theorem dX6_buy_38 : decode cX6_buy 38 = .ok (.invokestatic 127, 3) := by decide +kernel
theorem dX6_buy_41 : decode cX6_buy 41 = .ok (.ifCond .eq 11, 3) := by decide +kernel
theorem dX6_buy_44 : decode cX6_buy 44 = .ok (.iload 5, 2) := by decide +kernel
theorem dX6_buy_46 : decode cX6_buy 46 = .ok (.invokestatic 127, 3) := by decide +kernel
theorem dX6_buy_49 : decode cX6_buy 49 = .ok (.ifCond .ne 13, 3) := by decide +kernel
theorem dX6_buy_52 : decode cX6_buy 52 = .ok (.aload_n 0, 1) := by decide +kernel
theorem dX6_buy_53 : decode cX6_buy 53 = .ok (.aload_n 0, 1) := by decide +kernel
theorem dX6_buy_54 : decode cX6_buy 54 = .ok (.iconst 2, 1) := by decide +kernel
theorem dX6_buy_55 : decode cX6_buy 55 = .ok (.invokevirtual 82, 3) := by decide +kernel
theorem dX6_buy_58 : decode cX6_buy 58 = .ok (.invokevirtual 85, 3) := by decide +kernel
theorem dX6_buy_61 : decode cX6_buy 61 = .ok (.ireturn, 1) := by decide +kernel
theorem dX6_buy_62 : decode cX6_buy 62 = .ok (.aload_n 0, 1) := by decide +kernel
theorem dX6_buy_63 : decode cX6_buy 63 = .ok (.iload_n 2, 1) := by decide +kernel
theorem dX6_buy_64 : decode cX6_buy 64 = .ok (.iload_n 3, 1) := by decide +kernel
theorem dX6_buy_65 : decode cX6_buy 65 = .ok (.iload 4, 2) := by decide +kernel
theorem dX6_buy_67 : decode cX6_buy 67 = .ok (.iload 5, 2) := by decide +kernel
theorem dX6_buy_69 : decode cX6_buy 69 = .ok (.invokevirtual 130, 3) := by decide +kernel
theorem dX6_buy_72 : decode cX6_buy 72 = .ok (.aload_n 0, 1) := by decide +kernel
theorem dX6_buy_73 : decode cX6_buy 73 = .ok (.aload_n 0, 1) := by decide +kernel
theorem dX6_buy_74 : decode cX6_buy 74 = .ok (.iload_n 1, 1) := by decide +kernel
theorem dX6_buy_75 : decode cX6_buy 75 = .ok (.invokevirtual 134, 3) := by decide +kernel
theorem dX6_buy_78 : decode cX6_buy 78 = .ok (.invokevirtual 85, 3) := by decide +kernel
theorem dX6_buy_81 : decode cX6_buy 81 = .ok (.ireturn, 1) := by decide +kernel
theorem dX6_look_0 : decode cX6_look 0 = .ok (.aload_n 0, 1) := by decide +kernel
theorem dX6_look_1 : decode cX6_look 1 = .ok (.invokevirtual 76, 3) := by decide +kernel
theorem dX6_look_4 : decode cX6_look 4 = .ok (.aload_n 0, 1) := by decide +kernel
theorem dX6_look_5 : decode cX6_look 5 = .ok (.iload_n 1, 1) := by decide +kernel
theorem dX6_look_6 : decode cX6_look 6 = .ok (.invokevirtual 96, 3) := by decide +kernel
theorem dX6_look_9 : decode cX6_look 9 = .ok (.ifCond .ne 13, 3) := by decide +kernel
theorem dX6_look_12 : decode cX6_look 12 = .ok (.aload_n 0, 1) := by decide +kernel
theorem dX6_look_13 : decode cX6_look 13 = .ok (.aload_n 0, 1) := by decide +kernel
theorem dX6_look_14 : decode cX6_look 14 = .ok (.iconst 1, 1) := by decide +kernel
theorem dX6_look_15 : decode cX6_look 15 = .ok (.invokevirtual 82, 3) := by decide +kernel
theorem dX6_look_18 : decode cX6_look 18 = .ok (.invokevirtual 85, 3) := by decide +kernel
theorem dX6_look_21 : decode cX6_look 21 = .ok (.ireturn, 1) := by decide +kernel
theorem dX6_look_22 : decode cX6_look 22 = .ok (.aload_n 0, 1) := by decide +kernel
theorem dX6_look_23 : decode cX6_look 23 = .ok (.iload_n 1, 1) := by decide +kernel
theorem dX6_look_24 : decode cX6_look 24 = .ok (.bipush 10, 2) := by decide +kernel
theorem dX6_look_26 : decode cX6_look 26 = .ok (.aload_n 0, 1) := by decide +kernel
theorem dX6_look_27 : decode cX6_look 27 = .ok (.iload_n 1, 1) := by decide +kernel
theorem dX6_look_28 : decode cX6_look 28 = .ok (.bipush 10, 2) := by decide +kernel
theorem dX6_look_30 : decode cX6_look 30 = .ok (.invokevirtual 100, 3) := by decide +kernel
theorem dX6_look_33 : decode cX6_look 33 = .ok (.invokestatic 121, 3) := by decide +kernel
theorem dX6_look_36 : decode cX6_look 36 = .ok (.ldc 137, 2) := by decide +kernel
theorem dX6_look_38 : decode cX6_look 38 = .ok (.fadd, 1) := by decide +kernel
theorem dX6_look_39 : decode cX6_look 39 = .ok (.invokestatic 124, 3) := by decide +kernel
theorem dX6_look_42 : decode cX6_look 42 = .ok (.invokevirtual 92, 3) := by decide +kernel
theorem dX6_look_45 : decode cX6_look 45 = .ok (.aload_n 0, 1) := by decide +kernel
theorem dX6_look_46 : decode cX6_look 46 = .ok (.aload_n 0, 1) := by decide +kernel
theorem dX6_look_47 : decode cX6_look 47 = .ok (.iload_n 1, 1) := by decide +kernel
theorem dX6_look_48 : decode cX6_look 48 = .ok (.iconst 2, 1) := by decide +kernel
theorem dX6_look_49 : decode cX6_look 49 = .ok (.invokevirtual 100, 3) := by decide +kernel
theorem dX6_look_52 : decode cX6_look 52 = .ok (.invokevirtual 85, 3) := by decide +kernel
theorem dX6_look_55 : decode cX6_look 55 = .ok (.ireturn, 1) := by decide +kernel
theorem dX6_setsPrice_0 : decode cX6_setsPrice 0 = .ok (.ldc 138, 2) := by decide +kernel
theorem dX6_setsPrice_2 : decode cX6_setsPrice 2 = .ok (.aload_n 0, 1) := by decide +kernel
theorem dX6_setsPrice_3 : decode cX6_setsPrice 3 = .ok (.iload_n 1, 1) := by decide +kernel
theorem dX6_setsPrice_4 : decode cX6_setsPrice 4 = .ok (.bipush 10, 2) := by decide +kernel
theorem dX6_setsPrice_6 : decode cX6_setsPrice 6 = .ok (.invokevirtual 100, 3) := by decide +kernel
theorem dX6_setsPrice_9 : decode cX6_setsPrice 9 = .ok (.invokestatic 121, 3) := by decide +kernel
theorem dX6_setsPrice_12 : decode cX6_setsPrice 12 = .ok (.fmul, 1) := by decide +kernel
theorem dX6_setsPrice_13 : decode cX6_setsPrice 13 = .ok (.fstore_n 2, 1) := by decide +kernel
theorem dX6_setsPrice_14 : decode cX6_setsPrice 14 = .ok (.fload_n 2, 1) := by decide +kernel
theorem dX6_setsPrice_15 : decode cX6_setsPrice 15 = .ok (.aload_n 0, 1) := by decide +kernel
theorem dX6_setsPrice_16 : decode cX6_setsPrice 16 = .ok (.getfield 7, 3) := by decide +kernel
theorem dX6_setsPrice_19 : decode cX6_setsPrice 19 = .ok (.iconst 0, 1) := by decide +kernel
theorem dX6_setsPrice_20 : decode cX6_setsPrice 20 = .ok (.iaload, 1) := by decide +kernel
theorem dX6_setsPrice_21 : decode cX6_setsPrice 21 = .ok (.i2f, 1) := by decide +kernel
theorem dX6_setsPrice_22 : decode cX6_setsPrice 22 = .ok (.fcmp .l, 1) := by decide +kernel
theorem dX6_setsPrice_23 : decode cX6_setsPrice 23 = .ok (.ifCond .lt 31, 3) := by decide +kernel
theorem dX6_setsPrice_26 : decode cX6_setsPrice 26 = .ok (.aload_n 0, 1) := by decide +kernel
theorem dX6_setsPrice_27 : decode cX6_setsPrice 27 = .ok (.iload_n 1, 1) := by decide +kernel
theorem dX6_setsPrice_28 : decode cX6_setsPrice 28 = .ok (.iconst 5, 1) := by decide +kernel
theorem dX6_setsPrice_29 : decode cX6_setsPrice 29 = .ok (.invokevirtual 100, 3) := by decide +kernel
theorem dX6_setsPrice_32 : decode cX6_setsPrice 32 = .ok (.ifCond .ne 22, 3) := by decide +kernel
theorem dX6_setsPrice_35 : decode cX6_setsPrice 35 = .ok (.aload_n 0, 1) := by decide +kernel
theorem dX6_setsPrice_36 : decode cX6_setsPrice 36 = .ok (.iload_n 1, 1) := by decide +kernel
theorem dX6_setsPrice_37 : decode cX6_setsPrice 37 = .ok (.iconst 2, 1) := by decide +kernel
theorem dX6_setsPrice_38 : decode cX6_setsPrice 38 = .ok (.invokevirtual 100, 3) := by decide +kernel
theorem dX6_setsPrice_41 : decode cX6_setsPrice 41 = .ok (.aload_n 0, 1) := by decide +kernel
theorem dX6_setsPrice_42 : decode cX6_setsPrice 42 = .ok (.iload_n 1, 1) := by decide +kernel
theorem dX6_setsPrice_43 : decode cX6_setsPrice 43 = .ok (.iconst 4, 1) := by decide +kernel
theorem dX6_setsPrice_44 : decode cX6_setsPrice 44 = .ok (.invokevirtual 100, 3) := by decide +kernel
theorem dX6_setsPrice_47 : decode cX6_setsPrice 47 = .ok (.if_icmp .ge 7, 3) := by decide +kernel
theorem dX6_setsPrice_50 : decode cX6_setsPrice 50 = .ok (.iconst 1, 1) := by decide +kernel
theorem dX6_setsPrice_51 : decode cX6_setsPrice 51 = .ok (.goto 4, 3) := by decide +kernel
theorem dX6_setsPrice_54 : decode cX6_setsPrice 54 = .ok (.iconst 0, 1) := by decide +kernel
theorem dX6_setsPrice_55 : decode cX6_setsPrice 55 = .ok (.istore_n 3, 1) := by decide +kernel
theorem dX6_setsPrice_56 : decode cX6_setsPrice 56 = .ok (.iload_n 3, 1) := by decide +kernel
theorem dX6_setsPrice_57 : decode cX6_setsPrice 57 = .ok (.ifCond .ne 34, 3) := by decide +kernel
theorem dX6_setsPrice_60 : decode cX6_setsPrice 60 = .ok (.fload_n 2, 1) := by decide +kernel
theorem dX6_setsPrice_61 : decode cX6_setsPrice 61 = .ok (.aload_n 0, 1) := by decide +kernel
theorem dX6_setsPrice_62 : decode cX6_setsPrice 62 = .ok (.getfield 7, 3) := by decide +kernel
theorem dX6_setsPrice_65 : decode cX6_setsPrice 65 = .ok (.iconst 1, 1) := by decide +kernel
theorem dX6_setsPrice_66 : decode cX6_setsPrice 66 = .ok (.iaload, 1) := by decide +kernel
theorem dX6_setsPrice_67 : decode cX6_setsPrice 67 = .ok (.i2f, 1) := by decide +kernel
theorem dX6_setsPrice_68 : decode cX6_setsPrice 68 = .ok (.fcmp .g, 1) := by decide +kernel
theorem dX6_setsPrice_69 : decode cX6_setsPrice 69 = .ok (.ifCond .ge 22, 3) := by decide +kernel
theorem dX6_setsPrice_72 : decode cX6_setsPrice 72 = .ok (.aload_n 0, 1) := by decide +kernel
theorem dX6_setsPrice_73 : decode cX6_setsPrice 73 = .ok (.iload_n 1, 1) := by decide +kernel
theorem dX6_setsPrice_74 : decode cX6_setsPrice 74 = .ok (.iconst 2, 1) := by decide +kernel
theorem dX6_setsPrice_75 : decode cX6_setsPrice 75 = .ok (.invokevirtual 100, 3) := by decide +kernel
theorem dX6_setsPrice_78 : decode cX6_setsPrice 78 = .ok (.aload_n 0, 1) := by decide +kernel
theorem dX6_setsPrice_79 : decode cX6_setsPrice 79 = .ok (.iload_n 1, 1) := by decide +kernel
theorem dX6_setsPrice_80 : decode cX6_setsPrice 80 = .ok (.iconst 3, 1) := by decide +kernel
theorem dX6_setsPrice_81 : decode cX6_setsPrice 81 = .ok (.invokevirtual 100, 3) := by decide +kernel
theorem dX6_setsPrice_84 : decode cX6_setsPrice 84 = .ok (.if_icmp .le 7, 3) := by decide +kernel
theorem dX6_setsPrice_87 : decode cX6_setsPrice 87 = .ok (.iconst 1, 1) := by decide +kernel
theorem dX6_setsPrice_88 : decode cX6_setsPrice 88 = .ok (.goto 4, 3) := by decide +kernel
theorem dX6_setsPrice_91 : decode cX6_setsPrice 91 = .ok (.iconst 0, 1) := by decide +kernel
theorem dX6_setsPrice_92 : decode cX6_setsPrice 92 = .ok (.istore 4, 2) := by decide +kernel
theorem dX6_setsPrice_94 : decode cX6_setsPrice 94 = .ok (.aload_n 0, 1) := by decide +kernel
theorem dX6_setsPrice_95 : decode cX6_setsPrice 95 = .ok (.iload_n 1, 1) := by decide +kernel
theorem dX6_setsPrice_96 : decode cX6_setsPrice 96 = .ok (.bipush 11, 2) := by decide +kernel
theorem dX6_setsPrice_98 : decode cX6_setsPrice 98 = .ok (.iload_n 3, 1) := by decide +kernel
theorem dX6_setsPrice_99 : decode cX6_setsPrice 99 = .ok (.ifCond .eq 7, 3) := by decide +kernel
theorem dX6_setsPrice_102 : decode cX6_setsPrice 102 = .ok (.iconst 1, 1) := by decide +kernel
theorem dX6_setsPrice_103 : decode cX6_setsPrice 103 = .ok (.goto 4, 3) := by decide +kernel
theorem dX6_setsPrice_106 : decode cX6_setsPrice 106 = .ok (.iconst 0, 1) := by decide +kernel
theorem dX6_setsPrice_107 : decode cX6_setsPrice 107 = .ok (.invokevirtual 92, 3) := by decide +kernel
theorem dX6_setsPrice_110 : decode cX6_setsPrice 110 = .ok (.aload_n 0, 1) := by decide +kernel
theorem dX6_setsPrice_111 : decode cX6_setsPrice 111 = .ok (.iload_n 1, 1) := by decide +kernel
theorem dX6_setsPrice_112 : decode cX6_setsPrice 112 = .ok (.bipush 8, 2) := by decide +kernel
theorem dX6_setsPrice_114 : decode cX6_setsPrice 114 = .ok (.aload_n 0, 1) := by decide +kernel
theorem dX6_setsPrice_115 : decode cX6_setsPrice 115 = .ok (.iload_n 1, 1) := by decide +kernel
theorem dX6_setsPrice_116 : decode cX6_setsPrice 116 = .ok (.bipush 8, 2) := by decide +kernel
theorem dX6_setsPrice_118 : decode cX6_setsPrice 118 = .ok (.invokevirtual 100, 3) := by decide +kernel
theorem dX6_setsPrice_121 : decode cX6_setsPrice 121 = .ok (.aload_n 0, 1) := by decide +kernel
theorem dX6_setsPrice_122 : decode cX6_setsPrice 122 = .ok (.iload_n 1, 1) := by decide +kernel
theorem dX6_setsPrice_123 : decode cX6_setsPrice 123 = .ok (.bipush 11, 2) := by decide +kernel
theorem dX6_setsPrice_125 : decode cX6_setsPrice 125 = .ok (.invokevirtual 100, 3) := by decide +kernel
theorem dX6_setsPrice_128 : decode cX6_setsPrice 128 = .ok (.iadd, 1) := by decide +kernel
theorem dX6_setsPrice_129 : decode cX6_setsPrice 129 = .ok (.invokevirtual 92, 3) := by decide +kernel
theorem dX6_setsPrice_132 : decode cX6_setsPrice 132 = .ok (.aload_n 0, 1) := by decide +kernel
theorem dX6_setsPrice_133 : decode cX6_setsPrice 133 = .ok (.iload_n 1, 1) := by decide +kernel
theorem dX6_setsPrice_134 : decode cX6_setsPrice 134 = .ok (.iconst 2, 1) := by decide +kernel
theorem dX6_setsPrice_135 : decode cX6_setsPrice 135 = .ok (.aload_n 0, 1) := by decide +kernel
theorem dX6_setsPrice_136 : decode cX6_setsPrice 136 = .ok (.iload_n 1, 1) := by decide +kernel
theorem dX6_setsPrice_137 : decode cX6_setsPrice 137 = .ok (.iconst 2, 1) := by decide +kernel
theorem dX6_setsPrice_138 : decode cX6_setsPrice 138 = .ok (.invokevirtual 100, 3) := by decide +kernel
theorem dX6_setsPrice_141 : decode cX6_setsPrice 141 = .ok (.iload_n 3, 1) := by decide +kernel
theorem dX6_setsPrice_142 : decode cX6_setsPrice 142 = .ok (.ifCond .eq 7, 3) := by decide +kernel
theorem dX6_setsPrice_145 : decode cX6_setsPrice 145 = .ok (.iconst 5, 1) := by decide +kernel
theorem dX6_setsPrice_146 : decode cX6_setsPrice 146 = .ok (.goto 14, 3) := by decide +kernel
theorem dX6_setsPrice_149 : decode cX6_setsPrice 149 = .ok (.iload 4, 2) := by decide +kernel
theorem dX6_setsPrice_151 : decode cX6_setsPrice 151 = .ok (.ifCond .eq 8, 3) := by decide +kernel
theorem dX6_setsPrice_154 : decode cX6_setsPrice 154 = .ok (.bipush (-5), 2) := by decide +kernel
theorem dX6_setsPrice_156 : decode cX6_setsPrice 156 = .ok (.goto 4, 3) := by decide +kernel
theorem dX6_setsPrice_159 : decode cX6_setsPrice 159 = .ok (.iconst 0, 1) := by decide +kernel
theorem dX6_setsPrice_160 : decode cX6_setsPrice 160 = .ok (.iadd, 1) := by decide +kernel
theorem dX6_setsPrice_161 : decode cX6_setsPrice 161 = .ok (.invokevirtual 92, 3) := by decide +kernel
theorem dX6_setsPrice_164 : decode cX6_setsPrice 164 = .ok (.return_, 1) := by decide +kernel
theorem dX6_isFined_0 : decode cX6_isFined 0 = .ok (.aload_n 0, 1) := by decide +kernel
theorem dX6_isFined_1 : decode cX6_isFined 1 = .ok (.iload_n 1, 1) := by decide +kernel
theorem dX6_isFined_2 : decode cX6_isFined 2 = .ok (.iconst 2, 1) := by decide +kernel
theorem dX6_isFined_3 : decode cX6_isFined 3 = .ok (.invokevirtual 100, 3) := by decide +kernel
theorem dX6_isFined_6 : decode cX6_isFined 6 = .ok (.aload_n 0, 1) := by decide +kernel
theorem dX6_isFined_7 : decode cX6_isFined 7 = .ok (.getfield 7, 3) := by decide +kernel
theorem dX6_isFined_10 : decode cX6_isFined 10 = .ok (.iconst 4, 1) := by decide +kernel
theorem dX6_isFined_11 : decode cX6_isFined 11 = .ok (.iaload, 1) := by decide +kernel
theorem dX6_isFined_12 : decode cX6_isFined 12 = .ok (.isub, 1) := by decide +kernel
theorem dX6_isFined_13 : decode cX6_isFined 13 = .ok (.istore_n 2, 1) := by decide +kernel
theorem dX6_isFined_14 : decode cX6_isFined 14 = .ok (.aload_n 0, 1) := by decide +kernel
theorem dX6_isFined_15 : decode cX6_isFined 15 = .ok (.iload_n 1, 1) := by decide +kernel
theorem dX6_isFined_16 : decode cX6_isFined 16 = .ok (.iconst 2, 1) := by decide +kernel
theorem dX6_isFined_17 : decode cX6_isFined 17 = .ok (.iload_n 2, 1) := by decide +kernel
theorem dX6_isFined_18 : decode cX6_isFined 18 = .ok (.aload_n 0, 1) := by decide +kernel
theorem dX6_isFined_19 : decode cX6_isFined 19 = .ok (.iload_n 1, 1) := by decide +kernel
theorem dX6_isFined_20 : decode cX6_isFined 20 = .ok (.iconst 3, 1) := by decide +kernel
theorem dX6_isFined_21 : decode cX6_isFined 21 = .ok (.invokevirtual 100, 3) := by decide +kernel
theorem dX6_isFined_24 : decode cX6_isFined 24 = .ok (.if_icmp .ge 12, 3) := by decide +kernel
theorem dX6_isFined_27 : decode cX6_isFined 27 = .ok (.aload_n 0, 1) := by decide +kernel
theorem dX6_isFined_28 : decode cX6_isFined 28 = .ok (.iload_n 1, 1) := by decide +kernel
theorem dX6_isFined_29 : decode cX6_isFined 29 = .ok (.iconst 3, 1) := by decide +kernel
theorem dX6_isFined_30 : decode cX6_isFined 30 = .ok (.invokevirtual 100, 3) := by decide +kernel
theorem dX6_isFined_33 : decode cX6_isFined 33 = .ok (.goto 4, 3) := by decide +kernel
theorem dX6_isFined_36 : decode cX6_isFined 36 = .ok (.iload_n 2, 1) := by decide +kernel
theorem dX6_isFined_37 : decode cX6_isFined 37 = .ok (.invokevirtual 92, 3) := by decide +kernel
theorem dX6_isFined_40 : decode cX6_isFined 40 = .ok (.aload_n 0, 1) := by decide +kernel
theorem dX6_isFined_41 : decode cX6_isFined 41 = .ok (.iload_n 1, 1) := by decide +kernel
theorem dX6_isFined_42 : decode cX6_isFined 42 = .ok (.iconst 5, 1) := by decide +kernel
theorem dX6_isFined_43 : decode cX6_isFined 43 = .ok (.iconst 3, 1) := by decide +kernel
theorem dX6_isFined_44 : decode cX6_isFined 44 = .ok (.invokevirtual 92, 3) := by decide +kernel
theorem dX6_isFined_47 : decode cX6_isFined 47 = .ok (.return_, 1) := by decide +kernel
theorem dX6_hour_0 : decode cX6_hour 0 = .ok (.iconst 0, 1) := by decide +kernel
theorem dX6_hour_1 : decode cX6_hour 1 = .ok (.istore_n 1, 1) := by decide +kernel
theorem dX6_hour_2 : decode cX6_hour 2 = .ok (.iconst 0, 1) := by decide +kernel
theorem dX6_hour_3 : decode cX6_hour 3 = .ok (.istore_n 2, 1) := by decide +kernel
theorem dX6_hour_4 : decode cX6_hour 4 = .ok (.iload_n 2, 1) := by decide +kernel
theorem dX6_hour_5 : decode cX6_hour 5 = .ok (.aload_n 0, 1) := by decide +kernel
theorem dX6_hour_6 : decode cX6_hour 6 = .ok (.getfield 7, 3) := by decide +kernel
theorem dX6_hour_9 : decode cX6_hour 9 = .ok (.bipush 13, 2) := by decide +kernel
theorem dX6_hour_11 : decode cX6_hour 11 = .ok (.iaload, 1) := by decide +kernel
theorem dX6_hour_12 : decode cX6_hour 12 = .ok (.if_icmp .ge 14, 3) := by decide +kernel
theorem dX6_hour_15 : decode cX6_hour 15 = .ok (.aload_n 0, 1) := by decide +kernel
theorem dX6_hour_16 : decode cX6_hour 16 = .ok (.iload_n 2, 1) := by decide +kernel
theorem dX6_hour_17 : decode cX6_hour 17 = .ok (.invokevirtual 139, 3) := by decide +kernel
theorem dX6_hour_20 : decode cX6_hour 20 = .ok (.iinc 2 1, 3) := by decide +kernel
theorem dX6_hour_23 : decode cX6_hour 23 = .ok (.goto (-19), 3) := by decide +kernel
theorem dX6_hour_26 : decode cX6_hour 26 = .ok (.iconst 0, 1) := by decide +kernel
theorem dX6_hour_27 : decode cX6_hour 27 = .ok (.istore_n 2, 1) := by decide +kernel
theorem dX6_hour_28 : decode cX6_hour 28 = .ok (.iload_n 2, 1) := by decide +kernel
theorem dX6_hour_29 : decode cX6_hour 29 = .ok (.aload_n 0, 1) := by decide +kernel
theorem dX6_hour_30 : decode cX6_hour 30 = .ok (.getfield 7, 3) := by decide +kernel
theorem dX6_hour_33 : decode cX6_hour 33 = .ok (.bipush 13, 2) := by decide +kernel
theorem dX6_hour_35 : decode cX6_hour 35 = .ok (.iaload, 1) := by decide +kernel
theorem dX6_hour_36 : decode cX6_hour 36 = .ok (.if_icmp .ge 36, 3) := by decide +kernel
theorem dX6_hour_39 : decode cX6_hour 39 = .ok (.aload_n 0, 1) := by decide +kernel
theorem dX6_hour_40 : decode cX6_hour 40 = .ok (.iload_n 2, 1) := by decide +kernel
theorem dX6_hour_41 : decode cX6_hour 41 = .ok (.iconst 5, 1) := by decide +kernel
theorem dX6_hour_42 : decode cX6_hour 42 = .ok (.aload_n 0, 1) := by decide +kernel
theorem dX6_hour_43 : decode cX6_hour 43 = .ok (.iload_n 2, 1) := by decide +kernel
theorem dX6_hour_44 : decode cX6_hour 44 = .ok (.iconst 5, 1) := by decide +kernel
theorem dX6_hour_45 : decode cX6_hour 45 = .ok (.invokevirtual 100, 3) := by decide +kernel
theorem dX6_hour_48 : decode cX6_hour 48 = .ok (.ifCond .le 14, 3) := by decide +kernel
theorem dX6_hour_51 : decode cX6_hour 51 = .ok (.aload_n 0, 1) := by decide +kernel
theorem dX6_hour_52 : decode cX6_hour 52 = .ok (.iload_n 2, 1) := by decide +kernel
theorem dX6_hour_53 : decode cX6_hour 53 = .ok (.iconst 5, 1) := by decide +kernel
theorem dX6_hour_54 : decode cX6_hour 54 = .ok (.invokevirtual 100, 3) := by decide +kernel
theorem dX6_hour_57 : decode cX6_hour 57 = .ok (.iconst 1, 1) := by decide +kernel
theorem dX6_hour_58 : decode cX6_hour 58 = .ok (.isub, 1) := by decide +kernel
theorem dX6_hour_59 : decode cX6_hour 59 = .ok (.goto 4, 3) := by decide +kernel
theorem dX6_hour_62 : decode cX6_hour 62 = .ok (.iconst 0, 1) := by decide +kernel
theorem dX6_hour_63 : decode cX6_hour 63 = .ok (.invokevirtual 92, 3) := by decide +kernel
theorem dX6_hour_66 : decode cX6_hour 66 = .ok (.iinc 2 1, 3) := by decide +kernel
theorem dX6_hour_69 : decode cX6_hour 69 = .ok (.goto (-41), 3) := by decide +kernel
theorem dX6_hour_72 : decode cX6_hour 72 = .ok (.iconst 0, 1) := by decide +kernel
theorem dX6_hour_73 : decode cX6_hour 73 = .ok (.istore_n 2, 1) := by decide +kernel
theorem dX6_hour_74 : decode cX6_hour 74 = .ok (.iload_n 2, 1) := by decide +kernel
theorem dX6_hour_75 : decode cX6_hour 75 = .ok (.iconst 1, 1) := by decide +kernel
theorem dX6_hour_76 : decode cX6_hour 76 = .ok (.iadd, 1) := by decide +kernel
theorem dX6_hour_77 : decode cX6_hour 77 = .ok (.aload_n 0, 1) := by decide +kernel
theorem dX6_hour_78 : decode cX6_hour 78 = .ok (.getfield 7, 3) := by decide +kernel
theorem dX6_hour_81 : decode cX6_hour 81 = .ok (.bipush 13, 2) := by decide +kernel
theorem dX6_hour_83 : decode cX6_hour 83 = .ok (.iaload, 1) := by decide +kernel
theorem dX6_hour_84 : decode cX6_hour 84 = .ok (.if_icmp .ge 101, 3) := by decide +kernel
theorem dX6_hour_87 : decode cX6_hour 87 = .ok (.aload_n 0, 1) := by decide +kernel
theorem dX6_hour_88 : decode cX6_hour 88 = .ok (.iload_n 2, 1) := by decide +kernel
theorem dX6_hour_89 : decode cX6_hour 89 = .ok (.iconst 0, 1) := by decide +kernel
theorem dX6_hour_90 : decode cX6_hour 90 = .ok (.invokevirtual 100, 3) := by decide +kernel
theorem dX6_hour_93 : decode cX6_hour 93 = .ok (.aload_n 0, 1) := by decide +kernel
theorem dX6_hour_94 : decode cX6_hour 94 = .ok (.iload_n 2, 1) := by decide +kernel
theorem dX6_hour_95 : decode cX6_hour 95 = .ok (.iconst 1, 1) := by decide +kernel
theorem dX6_hour_96 : decode cX6_hour 96 = .ok (.iadd, 1) := by decide +kernel
theorem dX6_hour_97 : decode cX6_hour 97 = .ok (.iconst 0, 1) := by decide +kernel
theorem dX6_hour_98 : decode cX6_hour 98 = .ok (.invokevirtual 100, 3) := by decide +kernel
theorem dX6_hour_101 : decode cX6_hour 101 = .ok (.if_icmp .ne 78, 3) := by decide +kernel
theorem dX6_hour_104 : decode cX6_hour 104 = .ok (.aload_n 0, 1) := by decide +kernel
theorem dX6_hour_105 : decode cX6_hour 105 = .ok (.iload_n 2, 1) := by decide +kernel
theorem dX6_hour_106 : decode cX6_hour 106 = .ok (.bipush 11, 2) := by decide +kernel
theorem dX6_hour_108 : decode cX6_hour 108 = .ok (.invokevirtual 100, 3) := by decide +kernel
theorem dX6_hour_111 : decode cX6_hour 111 = .ok (.iconst 1, 1) := by decide +kernel
theorem dX6_hour_112 : decode cX6_hour 112 = .ok (.if_icmp .ne 28, 3) := by decide +kernel
theorem dX6_hour_115 : decode cX6_hour 115 = .ok (.aload_n 0, 1) := by decide +kernel
theorem dX6_hour_116 : decode cX6_hour 116 = .ok (.iload_n 2, 1) := by decide +kernel
theorem dX6_hour_117 : decode cX6_hour 117 = .ok (.iconst 1, 1) := by decide +kernel
theorem dX6_hour_118 : decode cX6_hour 118 = .ok (.iadd, 1) := by decide +kernel
theorem dX6_hour_119 : decode cX6_hour 119 = .ok (.bipush 11, 2) := by decide +kernel
theorem dX6_hour_121 : decode cX6_hour 121 = .ok (.invokevirtual 100, 3) := by decide +kernel
theorem dX6_hour_124 : decode cX6_hour 124 = .ok (.iconst 1, 1) := by decide +kernel
theorem dX6_hour_125 : decode cX6_hour 125 = .ok (.if_icmp .ne 15, 3) := by decide +kernel
theorem dX6_hour_128 : decode cX6_hour 128 = .ok (.aload_n 0, 1) := by decide +kernel
theorem dX6_hour_129 : decode cX6_hour 129 = .ok (.iload_n 2, 1) := by decide +kernel
theorem dX6_hour_130 : decode cX6_hour 130 = .ok (.bipush 9, 2) := by decide +kernel
theorem dX6_hour_132 : decode cX6_hour 132 = .ok (.invokevirtual 100, 3) := by decide +kernel
theorem dX6_hour_135 : decode cX6_hour 135 = .ok (.iconst 1, 1) := by decide +kernel
theorem dX6_hour_136 : decode cX6_hour 136 = .ok (.iadd, 1) := by decide +kernel
theorem dX6_hour_137 : decode cX6_hour 137 = .ok (.goto 4, 3) := by decide +kernel
theorem dX6_hour_140 : decode cX6_hour 140 = .ok (.iconst 0, 1) := by decide +kernel
theorem dX6_hour_141 : decode cX6_hour 141 = .ok (.istore_n 3, 1) := by decide +kernel
theorem dX6_hour_142 : decode cX6_hour 142 = .ok (.aload_n 0, 1) := by decide +kernel
theorem dX6_hour_143 : decode cX6_hour 143 = .ok (.iload_n 2, 1) := by decide +kernel
theorem dX6_hour_144 : decode cX6_hour 144 = .ok (.bipush 9, 2) := by decide +kernel
theorem dX6_hour_146 : decode cX6_hour 146 = .ok (.iload_n 3, 1) := by decide +kernel
theorem dX6_hour_147 : decode cX6_hour 147 = .ok (.iconst 2, 1) := by decide +kernel
theorem dX6_hour_148 : decode cX6_hour 148 = .ok (.if_icmp .ne 7, 3) := by decide +kernel
theorem dX6_hour_151 : decode cX6_hour 151 = .ok (.iconst 0, 1) := by decide +kernel
theorem dX6_hour_152 : decode cX6_hour 152 = .ok (.goto 4, 3) := by decide +kernel
theorem dX6_hour_155 : decode cX6_hour 155 = .ok (.iload_n 3, 1) := by decide +kernel
theorem dX6_hour_156 : decode cX6_hour 156 = .ok (.invokevirtual 92, 3) := by decide +kernel
theorem dX6_hour_159 : decode cX6_hour 159 = .ok (.iload_n 3, 1) := by decide +kernel
theorem dX6_hour_160 : decode cX6_hour 160 = .ok (.iconst 2, 1) := by decide +kernel
theorem dX6_hour_161 : decode cX6_hour 161 = .ok (.if_icmp .ne 18, 3) := by decide +kernel
theorem dX6_hour_164 : decode cX6_hour 164 = .ok (.aload_n 0, 1) := by decide +kernel
theorem dX6_hour_165 : decode cX6_hour 165 = .ok (.iload_n 2, 1) := by decide +kernel
theorem dX6_hour_166 : decode cX6_hour 166 = .ok (.invokevirtual 143, 3) := by decide +kernel
theorem dX6_hour_169 : decode cX6_hour 169 = .ok (.aload_n 0, 1) := by decide +kernel
theorem dX6_hour_170 : decode cX6_hour 170 = .ok (.iload_n 2, 1) := by decide +kernel
theorem dX6_hour_171 : decode cX6_hour 171 = .ok (.iconst 1, 1) := by decide +kernel
theorem dX6_hour_172 : decode cX6_hour 172 = .ok (.iadd, 1) := by decide +kernel
theorem dX6_hour_173 : decode cX6_hour 173 = .ok (.invokevirtual 143, 3) := by decide +kernel
theorem dX6_hour_176 : decode cX6_hour 176 = .ok (.iinc 1 1, 3) := by decide +kernel
theorem dX6_hour_179 : decode cX6_hour 179 = .ok (.iinc 2 1, 3) := by decide +kernel
theorem dX6_hour_182 : decode cX6_hour 182 = .ok (.goto (-108), 3) := by decide +kernel
theorem dX6_hour_185 : decode cX6_hour 185 = .ok (.iconst 0, 1) := by decide +kernel
theorem dX6_hour_186 : decode cX6_hour 186 = .ok (.istore_n 2, 1) := by decide +kernel
theorem dX6_hour_187 : decode cX6_hour 187 = .ok (.iload_n 2, 1) := by decide +kernel
theorem dX6_hour_188 : decode cX6_hour 188 = .ok (.aload_n 0, 1) := by decide +kernel
theorem dX6_hour_189 : decode cX6_hour 189 = .ok (.getfield 7, 3) := by decide +kernel
theorem dX6_hour_192 : decode cX6_hour 192 = .ok (.bipush 13, 2) := by decide +kernel
theorem dX6_hour_194 : decode cX6_hour 194 = .ok (.iaload, 1) := by decide +kernel
theorem dX6_hour_195 : decode cX6_hour 195 = .ok (.if_icmp .ge 40, 3) := by decide +kernel
theorem dX6_hour_198 : decode cX6_hour 198 = .ok (.aload_n 0, 1) := by decide +kernel
theorem dX6_hour_199 : decode cX6_hour 199 = .ok (.iload_n 2, 1) := by decide +kernel
theorem dX6_hour_200 : decode cX6_hour 200 = .ok (.bipush 10, 2) := by decide +kernel
theorem dX6_hour_202 : decode cX6_hour 202 = .ok (.aload_n 0, 1) := by decide +kernel
theorem dX6_hour_203 : decode cX6_hour 203 = .ok (.iload_n 2, 1) := by decide +kernel
theorem dX6_hour_204 : decode cX6_hour 204 = .ok (.bipush 10, 2) := by decide +kernel
theorem dX6_hour_206 : decode cX6_hour 206 = .ok (.invokevirtual 100, 3) := by decide +kernel
theorem dX6_hour_209 : decode cX6_hour 209 = .ok (.invokestatic 121, 3) := by decide +kernel
theorem dX6_hour_212 : decode cX6_hour 212 = .ok (.aload_n 0, 1) := by decide +kernel
theorem dX6_hour_213 : decode cX6_hour 213 = .ok (.getfield 7, 3) := by decide +kernel
theorem dX6_hour_216 : decode cX6_hour 216 = .ok (.iconst 2, 1) := by decide +kernel
theorem dX6_hour_217 : decode cX6_hour 217 = .ok (.iaload, 1) := by decide +kernel
theorem dX6_hour_218 : decode cX6_hour 218 = .ok (.i2f, 1) := by decide +kernel
theorem dX6_hour_219 : decode cX6_hour 219 = .ok (.fmul, 1) := by decide +kernel
theorem dX6_hour_220 : decode cX6_hour 220 = .ok (.ldc 146, 2) := by decide +kernel
theorem dX6_hour_222 : decode cX6_hour 222 = .ok (.fdiv, 1) := by decide +kernel
theorem dX6_hour_223 : decode cX6_hour 223 = .ok (.invokestatic 124, 3) := by decide +kernel
theorem dX6_hour_226 : decode cX6_hour 226 = .ok (.invokevirtual 92, 3) := by decide +kernel
theorem dX6_hour_229 : decode cX6_hour 229 = .ok (.iinc 2 1, 3) := by decide +kernel
theorem dX6_hour_232 : decode cX6_hour 232 = .ok (.goto (-45), 3) := by decide +kernel
theorem dX6_hour_235 : decode cX6_hour 235 = .ok (.aload_n 0, 1) := by decide +kernel
theorem dX6_hour_236 : decode cX6_hour 236 = .ok (.getfield 7, 3) := by decide +kernel
theorem dX6_hour_239 : decode cX6_hour 239 = .ok (.bipush 10, 2) := by decide +kernel
theorem dX6_hour_241 : decode cX6_hour 241 = .ok (.dup2, 1) := by decide +kernel
theorem dX6_hour_242 : decode cX6_hour 242 = .ok (.iaload, 1) := by decide +kernel
theorem dX6_hour_243 : decode cX6_hour 243 = .ok (.iconst 1, 1) := by decide +kernel
theorem dX6_hour_244 : decode cX6_hour 244 = .ok (.iadd, 1) := by decide +kernel
theorem dX6_hour_245 : decode cX6_hour 245 = .ok (.iastore, 1) := by decide +kernel
theorem dX6_hour_246 : decode cX6_hour 246 = .ok (.aload_n 0, 1) := by decide +kernel
theorem dX6_hour_247 : decode cX6_hour 247 = .ok (.getfield 7, 3) := by decide +kernel
theorem dX6_hour_250 : decode cX6_hour 250 = .ok (.bipush 12, 2) := by decide +kernel
theorem dX6_hour_252 : decode cX6_hour 252 = .ok (.dup2, 1) := by decide +kernel
theorem dX6_hour_253 : decode cX6_hour 253 = .ok (.iaload, 1) := by decide +kernel
theorem dX6_hour_254 : decode cX6_hour 254 = .ok (.iload_n 1, 1) := by decide +kernel
theorem dX6_hour_255 : decode cX6_hour 255 = .ok (.iadd, 1) := by decide +kernel
theorem dX6_hour_256 : decode cX6_hour 256 = .ok (.iastore, 1) := by decide +kernel
theorem dX6_hour_257 : decode cX6_hour 257 = .ok (.iload_n 1, 1) := by decide +kernel
theorem dX6_hour_258 : decode cX6_hour 258 = .ok (.ireturn, 1) := by decide +kernel
theorem dX6_doPass_0 : decode cX6_doPass 0 = .ok (.iload_n 1, 1) := by decide +kernel
theorem dX6_doPass_1 : decode cX6_doPass 1 = .ok (.iconst 1, 1) := by decide +kernel
theorem dX6_doPass_2 : decode cX6_doPass 2 = .ok (.bipush 48, 2) := by decide +kernel
theorem dX6_doPass_4 : decode cX6_doPass 4 = .ok (.invokestatic 62, 3) := by decide +kernel
theorem dX6_doPass_7 : decode cX6_doPass 7 = .ok (.ifCond .ne 9, 3) := by decide +kernel
theorem dX6_doPass_10 : decode cX6_doPass 10 = .ok (.aload_n 0, 1) := by decide +kernel
theorem dX6_doPass_11 : decode cX6_doPass 11 = .ok (.iconst 1, 1) := by decide +kernel
theorem dX6_doPass_12 : decode cX6_doPass 12 = .ok (.invokevirtual 82, 3) := by decide +kernel
theorem dX6_doPass_15 : decode cX6_doPass 15 = .ok (.ireturn, 1) := by decide +kernel
theorem dX6_doPass_16 : decode cX6_doPass 16 = .ok (.aload_n 0, 1) := by decide +kernel
theorem dX6_doPass_17 : decode cX6_doPass 17 = .ok (.getfield 7, 3) := by decide +kernel
theorem dX6_doPass_20 : decode cX6_doPass 20 = .ok (.bipush 10, 2) := by decide +kernel
theorem dX6_doPass_22 : decode cX6_doPass 22 = .ok (.iaload, 1) := by decide +kernel
theorem dX6_doPass_23 : decode cX6_doPass 23 = .ok (.iload_n 1, 1) := by decide +kernel
theorem dX6_doPass_24 : decode cX6_doPass 24 = .ok (.iadd, 1) := by decide +kernel
theorem dX6_doPass_25 : decode cX6_doPass 25 = .ok (.ldc 147, 2) := by decide +kernel
theorem dX6_doPass_27 : decode cX6_doPass 27 = .ok (.if_icmp .le 9, 3) := by decide +kernel
theorem dX6_doPass_30 : decode cX6_doPass 30 = .ok (.aload_n 0, 1) := by decide +kernel
theorem dX6_doPass_31 : decode cX6_doPass 31 = .ok (.iconst 2, 1) := by decide +kernel
theorem dX6_doPass_32 : decode cX6_doPass 32 = .ok (.invokevirtual 82, 3) := by decide +kernel
theorem dX6_doPass_35 : decode cX6_doPass 35 = .ok (.ireturn, 1) := by decide +kernel
theorem dX6_doPass_36 : decode cX6_doPass 36 = .ok (.iconst 0, 1) := by decide +kernel
theorem dX6_doPass_37 : decode cX6_doPass 37 = .ok (.istore_n 2, 1) := by decide +kernel
theorem dX6_doPass_38 : decode cX6_doPass 38 = .ok (.iconst 0, 1) := by decide +kernel
theorem dX6_doPass_39 : decode cX6_doPass 39 = .ok (.istore_n 3, 1) := by decide +kernel
theorem dX6_doPass_40 : decode cX6_doPass 40 = .ok (.iload_n 3, 1) := by decide +kernel
theorem dX6_doPass_41 : decode cX6_doPass 41 = .ok (.iload_n 1, 1) := by decide +kernel
theorem dX6_doPass_42 : decode cX6_doPass 42 = .ok (.if_icmp .ge 16, 3) := by decide +kernel
theorem dX6_doPass_45 : decode cX6_doPass 45 = .ok (.iload_n 2, 1) := by decide +kernel
theorem dX6_doPass_46 : decode cX6_doPass 46 = .ok (.aload_n 0, 1) := by decide +kernel
theorem dX6_doPass_47 : decode cX6_doPass 47 = .ok (.invokevirtual 148, 3) := by decide +kernel
theorem dX6_doPass_50 : decode cX6_doPass 50 = .ok (.iadd, 1) := by decide +kernel
theorem dX6_doPass_51 : decode cX6_doPass 51 = .ok (.istore_n 2, 1) := by decide +kernel
theorem dX6_doPass_52 : decode cX6_doPass 52 = .ok (.iinc 3 1, 3) := by decide +kernel
theorem dX6_doPass_55 : decode cX6_doPass 55 = .ok (.goto (-15), 3) := by decide +kernel
theorem dX6_doPass_58 : decode cX6_doPass 58 = .ok (.iload_n 2, 1) := by decide +kernel
theorem dX6_doPass_59 : decode cX6_doPass 59 = .ok (.ireturn, 1) := by decide +kernel
theorem dX6_pass_0 : decode cX6_pass 0 = .ok (.aload_n 0, 1) := by decide +kernel
theorem dX6_pass_1 : decode cX6_pass 1 = .ok (.invokevirtual 76, 3) := by decide +kernel
theorem dX6_pass_4 : decode cX6_pass 4 = .ok (.aload_n 0, 1) := by decide +kernel
theorem dX6_pass_5 : decode cX6_pass 5 = .ok (.aload_n 0, 1) := by decide +kernel
theorem dX6_pass_6 : decode cX6_pass 6 = .ok (.iload_n 1, 1) := by decide +kernel
theorem dX6_pass_7 : decode cX6_pass 7 = .ok (.invokevirtual 151, 3) := by decide +kernel
theorem dX6_pass_10 : decode cX6_pass 10 = .ok (.invokevirtual 85, 3) := by decide +kernel
theorem dX6_pass_13 : decode cX6_pass 13 = .ok (.ireturn, 1) := by decide +kernel
theorem dX6_emptyBox_0 : decode cX6_emptyBox 0 = .ok (.aload_n 0, 1) := by decide +kernel
theorem dX6_emptyBox_1 : decode cX6_emptyBox 1 = .ok (.invokevirtual 76, 3) := by decide +kernel
theorem dX6_emptyBox_4 : decode cX6_emptyBox 4 = .ok (.aload_n 0, 1) := by decide +kernel
theorem dX6_emptyBox_5 : decode cX6_emptyBox 5 = .ok (.getfield 7, 3) := by decide +kernel
theorem dX6_emptyBox_8 : decode cX6_emptyBox 8 = .ok (.bipush 9, 2) := by decide +kernel
theorem dX6_emptyBox_10 : decode cX6_emptyBox 10 = .ok (.iaload, 1) := by decide +kernel
theorem dX6_emptyBox_11 : decode cX6_emptyBox 11 = .ok (.istore_n 1, 1) := by decide +kernel
theorem dX6_emptyBox_12 : decode cX6_emptyBox 12 = .ok (.aload_n 0, 1) := by decide +kernel
theorem dX6_emptyBox_13 : decode cX6_emptyBox 13 = .ok (.getfield 7, 3) := by decide +kernel
theorem dX6_emptyBox_16 : decode cX6_emptyBox 16 = .ok (.bipush 9, 2) := by decide +kernel
theorem dX6_emptyBox_18 : decode cX6_emptyBox 18 = .ok (.iconst 0, 1) := by decide +kernel
theorem dX6_emptyBox_19 : decode cX6_emptyBox 19 = .ok (.iastore, 1) := by decide +kernel
theorem dX6_emptyBox_20 : decode cX6_emptyBox 20 = .ok (.aload_n 0, 1) := by decide +kernel
theorem dX6_emptyBox_21 : decode cX6_emptyBox 21 = .ok (.iload_n 1, 1) := by decide +kernel
theorem dX6_emptyBox_22 : decode cX6_emptyBox 22 = .ok (.invokevirtual 85, 3) := by decide +kernel
theorem dX6_emptyBox_25 : decode cX6_emptyBox 25 = .ok (.ireturn, 1) := by decide +kernel
theorem dX6_coil_0 : decode cX6_coil 0 = .ok (.aload_n 0, 1) := by decide +kernel
theorem dX6_coil_1 : decode cX6_coil 1 = .ok (.iconst 0, 1) := by decide +kernel
theorem dX6_coil_2 : decode cX6_coil 2 = .ok (.putfield 38, 3) := by decide +kernel
theorem dX6_coil_5 : decode cX6_coil 5 = .ok (.aload_n 0, 1) := by decide +kernel
theorem dX6_coil_6 : decode cX6_coil 6 = .ok (.iload_n 1, 1) := by decide +kernel
theorem dX6_coil_7 : decode cX6_coil 7 = .ok (.invokevirtual 96, 3) := by decide +kernel
theorem dX6_coil_10 : decode cX6_coil 10 = .ok (.ifCond .ne 9, 3) := by decide +kernel
theorem dX6_coil_13 : decode cX6_coil 13 = .ok (.aload_n 0, 1) := by decide +kernel
theorem dX6_coil_14 : decode cX6_coil 14 = .ok (.iconst 1, 1) := by decide +kernel
theorem dX6_coil_15 : decode cX6_coil 15 = .ok (.invokevirtual 154, 3) := by decide +kernel
theorem dX6_coil_18 : decode cX6_coil 18 = .ok (.ireturn, 1) := by decide +kernel
theorem dX6_coil_19 : decode cX6_coil 19 = .ok (.iload_n 2, 1) := by decide +kernel
theorem dX6_coil_20 : decode cX6_coil 20 = .ok (.iconst 0, 1) := by decide +kernel
theorem dX6_coil_21 : decode cX6_coil 21 = .ok (.bipush 9, 2) := by decide +kernel
theorem dX6_coil_23 : decode cX6_coil 23 = .ok (.invokestatic 62, 3) := by decide +kernel
theorem dX6_coil_26 : decode cX6_coil 26 = .ok (.ifCond .eq 12, 3) := by decide +kernel
theorem dX6_coil_29 : decode cX6_coil 29 = .ok (.aload_n 0, 1) := by decide +kernel
theorem dX6_coil_30 : decode cX6_coil 30 = .ok (.iload_n 1, 1) := by decide +kernel
theorem dX6_coil_31 : decode cX6_coil 31 = .ok (.iload_n 2, 1) := by decide +kernel
theorem dX6_coil_32 : decode cX6_coil 32 = .ok (.invokevirtual 100, 3) := by decide +kernel
theorem dX6_coil_35 : decode cX6_coil 35 = .ok (.goto 8, 3) := by decide +kernel
theorem dX6_coil_38 : decode cX6_coil 38 = .ok (.aload_n 0, 1) := by decide +kernel
theorem dX6_coil_39 : decode cX6_coil 39 = .ok (.iconst 2, 1) := by decide +kernel
theorem dX6_coil_40 : decode cX6_coil 40 = .ok (.invokevirtual 154, 3) := by decide +kernel
theorem dX6_coil_43 : decode cX6_coil 43 = .ok (.ireturn, 1) := by decide +kernel
theorem dX6_demand_0 : decode cX6_demand 0 = .ok (.aload_n 0, 1) := by decide +kernel
theorem dX6_demand_1 : decode cX6_demand 1 = .ok (.aload_n 0, 1) := by decide +kernel
theorem dX6_demand_2 : decode cX6_demand 2 = .ok (.iload_n 1, 1) := by decide +kernel
theorem dX6_demand_3 : decode cX6_demand 3 = .ok (.invokevirtual 96, 3) := by decide +kernel
theorem dX6_demand_6 : decode cX6_demand 6 = .ok (.ifCond .eq 7, 3) := by decide +kernel
theorem dX6_demand_9 : decode cX6_demand 9 = .ok (.iconst 0, 1) := by decide +kernel
theorem dX6_demand_10 : decode cX6_demand 10 = .ok (.goto 4, 3) := by decide +kernel
theorem dX6_demand_13 : decode cX6_demand 13 = .ok (.iconst 1, 1) := by decide +kernel
theorem dX6_demand_14 : decode cX6_demand 14 = .ok (.putfield 38, 3) := by decide +kernel
theorem dX6_demand_17 : decode cX6_demand 17 = .ok (.aload_n 0, 1) := by decide +kernel
theorem dX6_demand_18 : decode cX6_demand 18 = .ok (.iload_n 1, 1) := by decide +kernel
theorem dX6_demand_19 : decode cX6_demand 19 = .ok (.invokevirtual 96, 3) := by decide +kernel
theorem dX6_demand_22 : decode cX6_demand 22 = .ok (.ifCond .eq 16, 3) := by decide +kernel
theorem dX6_demand_25 : decode cX6_demand 25 = .ok (.aload_n 0, 1) := by decide +kernel
theorem dX6_demand_26 : decode cX6_demand 26 = .ok (.iload_n 1, 1) := by decide +kernel
theorem dX6_demand_27 : decode cX6_demand 27 = .ok (.bipush 10, 2) := by decide +kernel
theorem dX6_demand_29 : decode cX6_demand 29 = .ok (.invokevirtual 100, 3) := by decide +kernel
theorem dX6_demand_32 : decode cX6_demand 32 = .ok (.invokestatic 121, 3) := by decide +kernel
theorem dX6_demand_35 : decode cX6_demand 35 = .ok (.goto 4, 3) := by decide +kernel
theorem dX6_demand_38 : decode cX6_demand 38 = .ok (.fconst 0, 1) := by decide +kernel
theorem dX6_demand_39 : decode cX6_demand 39 = .ok (.freturn, 1) := by decide +kernel
theorem dX6_tube_0 : decode cX6_tube 0 = .ok (.aload_n 0, 1) := by decide +kernel
theorem dX6_tube_1 : decode cX6_tube 1 = .ok (.iconst 0, 1) := by decide +kernel
theorem dX6_tube_2 : decode cX6_tube 2 = .ok (.putfield 38, 3) := by decide +kernel
theorem dX6_tube_5 : decode cX6_tube 5 = .ok (.iload_n 1, 1) := by decide +kernel
theorem dX6_tube_6 : decode cX6_tube 6 = .ok (.iconst 0, 1) := by decide +kernel
theorem dX6_tube_7 : decode cX6_tube 7 = .ok (.iconst 3, 1) := by decide +kernel
theorem dX6_tube_8 : decode cX6_tube 8 = .ok (.invokestatic 62, 3) := by decide +kernel
theorem dX6_tube_11 : decode cX6_tube 11 = .ok (.ifCond .eq 14, 3) := by decide +kernel
theorem dX6_tube_14 : decode cX6_tube 14 = .ok (.aload_n 0, 1) := by decide +kernel
theorem dX6_tube_15 : decode cX6_tube 15 = .ok (.getfield 7, 3) := by decide +kernel
theorem dX6_tube_18 : decode cX6_tube 18 = .ok (.iconst 5, 1) := by decide +kernel
theorem dX6_tube_19 : decode cX6_tube 19 = .ok (.iload_n 1, 1) := by decide +kernel
theorem dX6_tube_20 : decode cX6_tube 20 = .ok (.iadd, 1) := by decide +kernel
theorem dX6_tube_21 : decode cX6_tube 21 = .ok (.iaload, 1) := by decide +kernel
theorem dX6_tube_22 : decode cX6_tube 22 = .ok (.goto 8, 3) := by decide +kernel
theorem dX6_tube_25 : decode cX6_tube 25 = .ok (.aload_n 0, 1) := by decide +kernel
theorem dX6_tube_26 : decode cX6_tube 26 = .ok (.iconst 1, 1) := by decide +kernel
theorem dX6_tube_27 : decode cX6_tube 27 = .ok (.invokevirtual 154, 3) := by decide +kernel
theorem dX6_tube_30 : decode cX6_tube 30 = .ok (.ireturn, 1) := by decide +kernel
theorem dX6_money_0 : decode cX6_money 0 = .ok (.iconst 0, 1) := by decide +kernel
theorem dX6_money_1 : decode cX6_money 1 = .ok (.istore_n 1, 1) := by decide +kernel
theorem dX6_money_2 : decode cX6_money 2 = .ok (.iconst 0, 1) := by decide +kernel
theorem dX6_money_3 : decode cX6_money 3 = .ok (.istore_n 2, 1) := by decide +kernel
theorem dX6_money_4 : decode cX6_money 4 = .ok (.iload_n 2, 1) := by decide +kernel
theorem dX6_money_5 : decode cX6_money 5 = .ok (.iconst 4, 1) := by decide +kernel
theorem dX6_money_6 : decode cX6_money 6 = .ok (.if_icmp .ge 25, 3) := by decide +kernel
theorem dX6_money_9 : decode cX6_money 9 = .ok (.iload_n 1, 1) := by decide +kernel
theorem dX6_money_10 : decode cX6_money 10 = .ok (.aload_n 0, 1) := by decide +kernel
theorem dX6_money_11 : decode cX6_money 11 = .ok (.getfield 7, 3) := by decide +kernel
theorem dX6_money_14 : decode cX6_money 14 = .ok (.iconst 5, 1) := by decide +kernel
theorem dX6_money_15 : decode cX6_money 15 = .ok (.iload_n 2, 1) := by decide +kernel
theorem dX6_money_16 : decode cX6_money 16 = .ok (.iadd, 1) := by decide +kernel
theorem dX6_money_17 : decode cX6_money 17 = .ok (.iaload, 1) := by decide +kernel
theorem dX6_money_18 : decode cX6_money 18 = .ok (.iload_n 2, 1) := by decide +kernel
theorem dX6_money_19 : decode cX6_money 19 = .ok (.invokestatic 72, 3) := by decide +kernel
theorem dX6_money_22 : decode cX6_money 22 = .ok (.imul, 1) := by decide +kernel
theorem dX6_money_23 : decode cX6_money 23 = .ok (.iadd, 1) := by decide +kernel
theorem dX6_money_24 : decode cX6_money 24 = .ok (.istore_n 1, 1) := by decide +kernel
theorem dX6_money_25 : decode cX6_money 25 = .ok (.iinc 2 1, 3) := by decide +kernel
theorem dX6_money_28 : decode cX6_money 28 = .ok (.goto (-24), 3) := by decide +kernel
theorem dX6_money_31 : decode cX6_money 31 = .ok (.iload_n 1, 1) := by decide +kernel
theorem dX6_money_32 : decode cX6_money 32 = .ok (.ireturn, 1) := by decide +kernel
theorem dX6_inCoils_0 : decode cX6_inCoils 0 = .ok (.iconst 0, 1) := by decide +kernel
theorem dX6_inCoils_1 : decode cX6_inCoils 1 = .ok (.istore_n 2, 1) := by decide +kernel
theorem dX6_inCoils_2 : decode cX6_inCoils 2 = .ok (.iconst 0, 1) := by decide +kernel
theorem dX6_inCoils_3 : decode cX6_inCoils 3 = .ok (.istore_n 3, 1) := by decide +kernel
theorem dX6_inCoils_4 : decode cX6_inCoils 4 = .ok (.iload_n 3, 1) := by decide +kernel
theorem dX6_inCoils_5 : decode cX6_inCoils 5 = .ok (.aload_n 0, 1) := by decide +kernel
theorem dX6_inCoils_6 : decode cX6_inCoils 6 = .ok (.getfield 7, 3) := by decide +kernel
theorem dX6_inCoils_9 : decode cX6_inCoils 9 = .ok (.bipush 13, 2) := by decide +kernel
theorem dX6_inCoils_11 : decode cX6_inCoils 11 = .ok (.iaload, 1) := by decide +kernel
theorem dX6_inCoils_12 : decode cX6_inCoils 12 = .ok (.if_icmp .ge 18, 3) := by decide +kernel
theorem dX6_inCoils_15 : decode cX6_inCoils 15 = .ok (.iload_n 2, 1) := by decide +kernel
theorem dX6_inCoils_16 : decode cX6_inCoils 16 = .ok (.aload_n 0, 1) := by decide +kernel
theorem dX6_inCoils_17 : decode cX6_inCoils 17 = .ok (.iload_n 3, 1) := by decide +kernel
theorem dX6_inCoils_18 : decode cX6_inCoils 18 = .ok (.iload_n 1, 1) := by decide +kernel
theorem dX6_inCoils_19 : decode cX6_inCoils 19 = .ok (.invokevirtual 100, 3) := by decide +kernel
theorem dX6_inCoils_22 : decode cX6_inCoils 22 = .ok (.iadd, 1) := by decide +kernel
theorem dX6_inCoils_23 : decode cX6_inCoils 23 = .ok (.istore_n 2, 1) := by decide +kernel
theorem dX6_inCoils_24 : decode cX6_inCoils 24 = .ok (.iinc 3 1, 3) := by decide +kernel
theorem dX6_inCoils_27 : decode cX6_inCoils 27 = .ok (.goto (-23), 3) := by decide +kernel
theorem dX6_inCoils_30 : decode cX6_inCoils 30 = .ok (.iload_n 2, 1) := by decide +kernel
theorem dX6_inCoils_31 : decode cX6_inCoils 31 = .ok (.ireturn, 1) := by decide +kernel
theorem dX6_tell_0 : decode cX6_tell 0 = .ok (.iload_n 1, 1) := by decide +kernel
theorem dX6_tell_1 : decode cX6_tell 1 = .ok (.tableswitch 127 0 9 #[55, 63, 71, 76, 84, 92, 97, 105, 112, 119], 55) := by decide +kernel
theorem dX6_tell_56 : decode cX6_tell 56 = .ok (.aload_n 0, 1) := by decide +kernel
theorem dX6_tell_57 : decode cX6_tell 57 = .ok (.getfield 7, 3) := by decide +kernel
theorem dX6_tell_60 : decode cX6_tell 60 = .ok (.bipush 13, 2) := by decide +kernel
theorem dX6_tell_62 : decode cX6_tell 62 = .ok (.iaload, 1) := by decide +kernel
theorem dX6_tell_63 : decode cX6_tell 63 = .ok (.ireturn, 1) := by decide +kernel
theorem dX6_tell_64 : decode cX6_tell 64 = .ok (.aload_n 0, 1) := by decide +kernel
theorem dX6_tell_65 : decode cX6_tell 65 = .ok (.getfield 7, 3) := by decide +kernel
theorem dX6_tell_68 : decode cX6_tell 68 = .ok (.bipush 10, 2) := by decide +kernel
theorem dX6_tell_70 : decode cX6_tell 70 = .ok (.iaload, 1) := by decide +kernel
theorem dX6_tell_71 : decode cX6_tell 71 = .ok (.ireturn, 1) := by decide +kernel
theorem dX6_tell_72 : decode cX6_tell 72 = .ok (.aload_n 0, 1) := by decide +kernel
theorem dX6_tell_73 : decode cX6_tell 73 = .ok (.invokevirtual 157, 3) := by decide +kernel
theorem dX6_tell_76 : decode cX6_tell 76 = .ok (.ireturn, 1) := by decide +kernel
theorem dX6_tell_77 : decode cX6_tell 77 = .ok (.aload_n 0, 1) := by decide +kernel
theorem dX6_tell_78 : decode cX6_tell 78 = .ok (.getfield 7, 3) := by decide +kernel
theorem dX6_tell_81 : decode cX6_tell 81 = .ok (.bipush 9, 2) := by decide +kernel
theorem dX6_tell_83 : decode cX6_tell 83 = .ok (.iaload, 1) := by decide +kernel
theorem dX6_tell_84 : decode cX6_tell 84 = .ok (.ireturn, 1) := by decide +kernel
theorem dX6_tell_85 : decode cX6_tell 85 = .ok (.aload_n 0, 1) := by decide +kernel
theorem dX6_tell_86 : decode cX6_tell 86 = .ok (.getfield 7, 3) := by decide +kernel
theorem dX6_tell_89 : decode cX6_tell 89 = .ok (.bipush 14, 2) := by decide +kernel
theorem dX6_tell_91 : decode cX6_tell 91 = .ok (.iaload, 1) := by decide +kernel
theorem dX6_tell_92 : decode cX6_tell 92 = .ok (.ireturn, 1) := by decide +kernel
theorem dX6_tell_93 : decode cX6_tell 93 = .ok (.aload_n 0, 1) := by decide +kernel
theorem dX6_tell_94 : decode cX6_tell 94 = .ok (.invokevirtual 117, 3) := by decide +kernel
theorem dX6_tell_97 : decode cX6_tell 97 = .ok (.ireturn, 1) := by decide +kernel
theorem dX6_tell_98 : decode cX6_tell 98 = .ok (.aload_n 0, 1) := by decide +kernel
theorem dX6_tell_99 : decode cX6_tell 99 = .ok (.getfield 7, 3) := by decide +kernel
theorem dX6_tell_102 : decode cX6_tell 102 = .ok (.bipush 11, 2) := by decide +kernel
theorem dX6_tell_104 : decode cX6_tell 104 = .ok (.iaload, 1) := by decide +kernel
theorem dX6_tell_105 : decode cX6_tell 105 = .ok (.ireturn, 1) := by decide +kernel
theorem dX6_tell_106 : decode cX6_tell 106 = .ok (.aload_n 0, 1) := by decide +kernel
theorem dX6_tell_107 : decode cX6_tell 107 = .ok (.bipush 6, 2) := by decide +kernel
theorem dX6_tell_109 : decode cX6_tell 109 = .ok (.invokevirtual 160, 3) := by decide +kernel
theorem dX6_tell_112 : decode cX6_tell 112 = .ok (.ireturn, 1) := by decide +kernel
theorem dX6_tell_113 : decode cX6_tell 113 = .ok (.aload_n 0, 1) := by decide +kernel
theorem dX6_tell_114 : decode cX6_tell 114 = .ok (.bipush 7, 2) := by decide +kernel
theorem dX6_tell_116 : decode cX6_tell 116 = .ok (.invokevirtual 160, 3) := by decide +kernel
theorem dX6_tell_119 : decode cX6_tell 119 = .ok (.ireturn, 1) := by decide +kernel
theorem dX6_tell_120 : decode cX6_tell 120 = .ok (.aload_n 0, 1) := by decide +kernel
theorem dX6_tell_121 : decode cX6_tell 121 = .ok (.getfield 7, 3) := by decide +kernel
theorem dX6_tell_124 : decode cX6_tell 124 = .ok (.bipush 12, 2) := by decide +kernel
theorem dX6_tell_126 : decode cX6_tell 126 = .ok (.iaload, 1) := by decide +kernel
theorem dX6_tell_127 : decode cX6_tell 127 = .ok (.ireturn, 1) := by decide +kernel
theorem dX6_tell_128 : decode cX6_tell 128 = .ok (.aload_n 0, 1) := by decide +kernel
theorem dX6_tell_129 : decode cX6_tell 129 = .ok (.iconst 1, 1) := by decide +kernel
theorem dX6_tell_130 : decode cX6_tell 130 = .ok (.invokevirtual 160, 3) := by decide +kernel
theorem dX6_tell_133 : decode cX6_tell 133 = .ok (.ireturn, 1) := by decide +kernel
theorem dX6_value_0 : decode cX6_value 0 = .ok (.aload_n 0, 1) := by decide +kernel
theorem dX6_value_1 : decode cX6_value 1 = .ok (.iconst 0, 1) := by decide +kernel
theorem dX6_value_2 : decode cX6_value 2 = .ok (.putfield 38, 3) := by decide +kernel
theorem dX6_value_5 : decode cX6_value 5 = .ok (.iload_n 1, 1) := by decide +kernel
theorem dX6_value_6 : decode cX6_value 6 = .ok (.iconst 0, 1) := by decide +kernel
theorem dX6_value_7 : decode cX6_value 7 = .ok (.bipush 10, 2) := by decide +kernel
theorem dX6_value_9 : decode cX6_value 9 = .ok (.invokestatic 62, 3) := by decide +kernel
theorem dX6_value_12 : decode cX6_value 12 = .ok (.ifCond .eq 11, 3) := by decide +kernel
theorem dX6_value_15 : decode cX6_value 15 = .ok (.aload_n 0, 1) := by decide +kernel
theorem dX6_value_16 : decode cX6_value 16 = .ok (.iload_n 1, 1) := by decide +kernel
theorem dX6_value_17 : decode cX6_value 17 = .ok (.invokevirtual 163, 3) := by decide +kernel
theorem dX6_value_20 : decode cX6_value 20 = .ok (.goto 8, 3) := by decide +kernel
theorem dX6_value_23 : decode cX6_value 23 = .ok (.aload_n 0, 1) := by decide +kernel
theorem dX6_value_24 : decode cX6_value 24 = .ok (.iconst 1, 1) := by decide +kernel
theorem dX6_value_25 : decode cX6_value 25 = .ok (.invokevirtual 154, 3) := by decide +kernel
theorem dX6_value_28 : decode cX6_value 28 = .ok (.ireturn, 1) := by decide +kernel
theorem dX6_setting_0 : decode cX6_setting 0 = .ok (.aload_n 0, 1) := by decide +kernel
theorem dX6_setting_1 : decode cX6_setting 1 = .ok (.iconst 0, 1) := by decide +kernel
theorem dX6_setting_2 : decode cX6_setting 2 = .ok (.putfield 38, 3) := by decide +kernel
theorem dX6_setting_5 : decode cX6_setting 5 = .ok (.iload_n 1, 1) := by decide +kernel
theorem dX6_setting_6 : decode cX6_setting 6 = .ok (.iconst 0, 1) := by decide +kernel
theorem dX6_setting_7 : decode cX6_setting 7 = .ok (.iconst 4, 1) := by decide +kernel
theorem dX6_setting_8 : decode cX6_setting 8 = .ok (.invokestatic 62, 3) := by decide +kernel
theorem dX6_setting_11 : decode cX6_setting 11 = .ok (.ifCond .eq 14, 3) := by decide +kernel
theorem dX6_setting_14 : decode cX6_setting 14 = .ok (.aload_n 0, 1) := by decide +kernel
theorem dX6_setting_15 : decode cX6_setting 15 = .ok (.getfield 7, 3) := by decide +kernel
theorem dX6_setting_18 : decode cX6_setting 18 = .ok (.iconst 0, 1) := by decide +kernel
theorem dX6_setting_19 : decode cX6_setting 19 = .ok (.iload_n 1, 1) := by decide +kernel
theorem dX6_setting_20 : decode cX6_setting 20 = .ok (.iadd, 1) := by decide +kernel
theorem dX6_setting_21 : decode cX6_setting 21 = .ok (.iaload, 1) := by decide +kernel
theorem dX6_setting_22 : decode cX6_setting 22 = .ok (.goto 8, 3) := by decide +kernel
theorem dX6_setting_25 : decode cX6_setting 25 = .ok (.aload_n 0, 1) := by decide +kernel
theorem dX6_setting_26 : decode cX6_setting 26 = .ok (.iconst 1, 1) := by decide +kernel
theorem dX6_setting_27 : decode cX6_setting 27 = .ok (.invokevirtual 154, 3) := by decide +kernel
theorem dX6_setting_30 : decode cX6_setting 30 = .ok (.ireturn, 1) := by decide +kernel
theorem dX6_promise_0 : decode cX6_promise 0 = .ok (.aload_n 0, 1) := by decide +kernel
theorem dX6_promise_1 : decode cX6_promise 1 = .ok (.iconst 0, 1) := by decide +kernel
theorem dX6_promise_2 : decode cX6_promise 2 = .ok (.putfield 38, 3) := by decide +kernel
theorem dX6_promise_5 : decode cX6_promise 5 = .ok (.iload_n 1, 1) := by decide +kernel
theorem dX6_promise_6 : decode cX6_promise 6 = .ok (.iconst 0, 1) := by decide +kernel
theorem dX6_promise_7 : decode cX6_promise 7 = .ok (.aload_n 0, 1) := by decide +kernel
theorem dX6_promise_8 : decode cX6_promise 8 = .ok (.getfield 7, 3) := by decide +kernel
theorem dX6_promise_11 : decode cX6_promise 11 = .ok (.bipush 14, 2) := by decide +kernel
theorem dX6_promise_13 : decode cX6_promise 13 = .ok (.iaload, 1) := by decide +kernel
theorem dX6_promise_14 : decode cX6_promise 14 = .ok (.iconst 1, 1) := by decide +kernel
theorem dX6_promise_15 : decode cX6_promise 15 = .ok (.isub, 1) := by decide +kernel
theorem dX6_promise_16 : decode cX6_promise 16 = .ok (.invokestatic 62, 3) := by decide +kernel
theorem dX6_promise_19 : decode cX6_promise 19 = .ok (.ifCond .eq 15, 3) := by decide +kernel
theorem dX6_promise_22 : decode cX6_promise 22 = .ok (.aload_n 0, 1) := by decide +kernel
theorem dX6_promise_23 : decode cX6_promise 23 = .ok (.getfield 7, 3) := by decide +kernel
theorem dX6_promise_26 : decode cX6_promise 26 = .ok (.bipush 111, 2) := by decide +kernel
theorem dX6_promise_28 : decode cX6_promise 28 = .ok (.iload_n 1, 1) := by decide +kernel
theorem dX6_promise_29 : decode cX6_promise 29 = .ok (.iadd, 1) := by decide +kernel
theorem dX6_promise_30 : decode cX6_promise 30 = .ok (.iaload, 1) := by decide +kernel
theorem dX6_promise_31 : decode cX6_promise 31 = .ok (.goto 8, 3) := by decide +kernel
theorem dX6_promise_34 : decode cX6_promise 34 = .ok (.aload_n 0, 1) := by decide +kernel
theorem dX6_promise_35 : decode cX6_promise 35 = .ok (.iconst 1, 1) := by decide +kernel
theorem dX6_promise_36 : decode cX6_promise 36 = .ok (.invokevirtual 154, 3) := by decide +kernel
theorem dX6_promise_39 : decode cX6_promise 39 = .ok (.ireturn, 1) := by decide +kernel
theorem dX6_change_0 : decode cX6_change 0 = .ok (.aload_n 0, 1) := by decide +kernel
theorem dX6_change_1 : decode cX6_change 1 = .ok (.iconst 0, 1) := by decide +kernel
theorem dX6_change_2 : decode cX6_change 2 = .ok (.putfield 38, 3) := by decide +kernel
theorem dX6_change_5 : decode cX6_change 5 = .ok (.iload_n 1, 1) := by decide +kernel
theorem dX6_change_6 : decode cX6_change 6 = .ok (.iconst 0, 1) := by decide +kernel
theorem dX6_change_7 : decode cX6_change 7 = .ok (.sipush 2000, 3) := by decide +kernel
theorem dX6_change_10 : decode cX6_change 10 = .ok (.invokestatic 62, 3) := by decide +kernel
theorem dX6_change_13 : decode cX6_change 13 = .ok (.ifCond .ne 9, 3) := by decide +kernel
theorem dX6_change_16 : decode cX6_change 16 = .ok (.aload_n 0, 1) := by decide +kernel
theorem dX6_change_17 : decode cX6_change 17 = .ok (.iconst 1, 1) := by decide +kernel
theorem dX6_change_18 : decode cX6_change 18 = .ok (.invokevirtual 154, 3) := by decide +kernel
theorem dX6_change_21 : decode cX6_change 21 = .ok (.ireturn, 1) := by decide +kernel
theorem dX6_change_22 : decode cX6_change 22 = .ok (.iload_n 2, 1) := by decide +kernel
theorem dX6_change_23 : decode cX6_change 23 = .ok (.iconst 0, 1) := by decide +kernel
theorem dX6_change_24 : decode cX6_change 24 = .ok (.iconst 3, 1) := by decide +kernel
theorem dX6_change_25 : decode cX6_change 25 = .ok (.invokestatic 62, 3) := by decide +kernel
theorem dX6_change_28 : decode cX6_change 28 = .ok (.ifCond .ne 9, 3) := by decide +kernel
theorem dX6_change_31 : decode cX6_change 31 = .ok (.aload_n 0, 1) := by decide +kernel
theorem dX6_change_32 : decode cX6_change 32 = .ok (.iconst 2, 1) := by decide +kernel
theorem dX6_change_33 : decode cX6_change 33 = .ok (.invokevirtual 154, 3) := by decide +kernel
theorem dX6_change_36 : decode cX6_change 36 = .ok (.ireturn, 1) := by decide +kernel
theorem dX6_change_37 : decode cX6_change 37 = .ok (.aload_n 0, 1) := by decide +kernel
theorem dX6_change_38 : decode cX6_change 38 = .ok (.iload_n 1, 1) := by decide +kernel
theorem dX6_change_39 : decode cX6_change 39 = .ok (.iconst (-1), 1) := by decide +kernel
theorem dX6_change_40 : decode cX6_change 40 = .ok (.iconst 0, 1) := by decide +kernel
theorem dX6_change_41 : decode cX6_change 41 = .ok (.invokevirtual 66, 3) := by decide +kernel
theorem dX6_change_44 : decode cX6_change 44 = .ok (.ifCond .eq 12, 3) := by decide +kernel
theorem dX6_change_47 : decode cX6_change 47 = .ok (.aload_n 0, 1) := by decide +kernel
theorem dX6_change_48 : decode cX6_change 48 = .ok (.getfield 25, 3) := by decide +kernel
theorem dX6_change_51 : decode cX6_change 51 = .ok (.iload_n 2, 1) := by decide +kernel
theorem dX6_change_52 : decode cX6_change 52 = .ok (.iaload, 1) := by decide +kernel
theorem dX6_change_53 : decode cX6_change 53 = .ok (.goto 4, 3) := by decide +kernel
theorem dX6_change_56 : decode cX6_change 56 = .ok (.iconst (-1), 1) := by decide +kernel
theorem dX6_change_57 : decode cX6_change 57 = .ok (.ireturn, 1) := by decide +kernel
theorem dX6_mostPayable_0 : decode cX6_mostPayable 0 = .ok (.aload_n 0, 1) := by decide +kernel
theorem dX6_mostPayable_1 : decode cX6_mostPayable 1 = .ok (.iconst 0, 1) := by decide +kernel
theorem dX6_mostPayable_2 : decode cX6_mostPayable 2 = .ok (.putfield 38, 3) := by decide +kernel
theorem dX6_mostPayable_5 : decode cX6_mostPayable 5 = .ok (.iload_n 1, 1) := by decide +kernel
theorem dX6_mostPayable_6 : decode cX6_mostPayable 6 = .ok (.iconst 0, 1) := by decide +kernel
theorem dX6_mostPayable_7 : decode cX6_mostPayable 7 = .ok (.sipush 2000, 3) := by decide +kernel
theorem dX6_mostPayable_10 : decode cX6_mostPayable 10 = .ok (.invokestatic 62, 3) := by decide +kernel
theorem dX6_mostPayable_13 : decode cX6_mostPayable 13 = .ok (.ifCond .ne 9, 3) := by decide +kernel
theorem dX6_mostPayable_16 : decode cX6_mostPayable 16 = .ok (.aload_n 0, 1) := by decide +kernel
theorem dX6_mostPayable_17 : decode cX6_mostPayable 17 = .ok (.iconst 1, 1) := by decide +kernel
theorem dX6_mostPayable_18 : decode cX6_mostPayable 18 = .ok (.invokevirtual 154, 3) := by decide +kernel
theorem dX6_mostPayable_21 : decode cX6_mostPayable 21 = .ok (.ireturn, 1) := by decide +kernel
theorem dX6_mostPayable_22 : decode cX6_mostPayable 22 = .ok (.iconst 0, 1) := by decide +kernel
theorem dX6_mostPayable_23 : decode cX6_mostPayable 23 = .ok (.istore_n 2, 1) := by decide +kernel
theorem dX6_mostPayable_24 : decode cX6_mostPayable 24 = .ok (.iload_n 2, 1) := by decide +kernel
theorem dX6_mostPayable_25 : decode cX6_mostPayable 25 = .ok (.sipush 400, 3) := by decide +kernel
theorem dX6_mostPayable_28 : decode cX6_mostPayable 28 = .ok (.if_icmp .gt 24, 3) := by decide +kernel
theorem dX6_mostPayable_31 : decode cX6_mostPayable 31 = .ok (.aload_n 0, 1) := by decide +kernel
theorem dX6_mostPayable_32 : decode cX6_mostPayable 32 = .ok (.getfield 31, 3) := by decide +kernel
theorem dX6_mostPayable_35 : decode cX6_mostPayable 35 = .ok (.iload_n 2, 1) := by decide +kernel
theorem dX6_mostPayable_36 : decode cX6_mostPayable 36 = .ok (.iload_n 2, 1) := by decide +kernel
theorem dX6_mostPayable_37 : decode cX6_mostPayable 37 = .ok (.ifCond .ne 7, 3) := by decide +kernel
theorem dX6_mostPayable_40 : decode cX6_mostPayable 40 = .ok (.iconst 1, 1) := by decide +kernel
theorem dX6_mostPayable_41 : decode cX6_mostPayable 41 = .ok (.goto 4, 3) := by decide +kernel
theorem dX6_mostPayable_44 : decode cX6_mostPayable 44 = .ok (.iconst 0, 1) := by decide +kernel
theorem dX6_mostPayable_45 : decode cX6_mostPayable 45 = .ok (.bastore, 1) := by decide +kernel
theorem dX6_mostPayable_46 : decode cX6_mostPayable 46 = .ok (.iinc 2 1, 3) := by decide +kernel
theorem dX6_mostPayable_49 : decode cX6_mostPayable 49 = .ok (.goto (-25), 3) := by decide +kernel
theorem dX6_mostPayable_52 : decode cX6_mostPayable 52 = .ok (.iconst 0, 1) := by decide +kernel
theorem dX6_mostPayable_53 : decode cX6_mostPayable 53 = .ok (.istore_n 2, 1) := by decide +kernel
theorem dX6_mostPayable_54 : decode cX6_mostPayable 54 = .ok (.iload_n 2, 1) := by decide +kernel
theorem dX6_mostPayable_55 : decode cX6_mostPayable 55 = .ok (.iconst 4, 1) := by decide +kernel
theorem dX6_mostPayable_56 : decode cX6_mostPayable 56 = .ok (.if_icmp .ge 89, 3) := by decide +kernel
theorem dX6_mostPayable_59 : decode cX6_mostPayable 59 = .ok (.iload_n 2, 1) := by decide +kernel
theorem dX6_mostPayable_60 : decode cX6_mostPayable 60 = .ok (.invokestatic 72, 3) := by decide +kernel
theorem dX6_mostPayable_63 : decode cX6_mostPayable 63 = .ok (.iconst 5, 1) := by decide +kernel
theorem dX6_mostPayable_64 : decode cX6_mostPayable 64 = .ok (.idiv, 1) := by decide +kernel
theorem dX6_mostPayable_65 : decode cX6_mostPayable 65 = .ok (.istore_n 3, 1) := by decide +kernel
theorem dX6_mostPayable_66 : decode cX6_mostPayable 66 = .ok (.iconst 0, 1) := by decide +kernel
theorem dX6_mostPayable_67 : decode cX6_mostPayable 67 = .ok (.istore 4, 2) := by decide +kernel
theorem dX6_mostPayable_69 : decode cX6_mostPayable 69 = .ok (.iload 4, 2) := by decide +kernel
theorem dX6_mostPayable_71 : decode cX6_mostPayable 71 = .ok (.aload_n 0, 1) := by decide +kernel
theorem dX6_mostPayable_72 : decode cX6_mostPayable 72 = .ok (.getfield 7, 3) := by decide +kernel
theorem dX6_mostPayable_75 : decode cX6_mostPayable 75 = .ok (.iconst 5, 1) := by decide +kernel
theorem dX6_mostPayable_76 : decode cX6_mostPayable 76 = .ok (.iload_n 2, 1) := by decide +kernel
theorem dX6_mostPayable_77 : decode cX6_mostPayable 77 = .ok (.iadd, 1) := by decide +kernel
theorem dX6_mostPayable_78 : decode cX6_mostPayable 78 = .ok (.iaload, 1) := by decide +kernel
theorem dX6_mostPayable_79 : decode cX6_mostPayable 79 = .ok (.if_icmp .ge 60, 3) := by decide +kernel
theorem dX6_mostPayable_82 : decode cX6_mostPayable 82 = .ok (.sipush 400, 3) := by decide +kernel
theorem dX6_mostPayable_85 : decode cX6_mostPayable 85 = .ok (.istore 5, 2) := by decide +kernel
theorem dX6_mostPayable_87 : decode cX6_mostPayable 87 = .ok (.iload 5, 2) := by decide +kernel
theorem dX6_mostPayable_89 : decode cX6_mostPayable 89 = .ok (.iload_n 3, 1) := by decide +kernel
theorem dX6_mostPayable_90 : decode cX6_mostPayable 90 = .ok (.if_icmp .lt 43, 3) := by decide +kernel
theorem dX6_mostPayable_93 : decode cX6_mostPayable 93 = .ok (.aload_n 0, 1) := by decide +kernel
theorem dX6_mostPayable_94 : decode cX6_mostPayable 94 = .ok (.getfield 31, 3) := by decide +kernel
theorem dX6_mostPayable_97 : decode cX6_mostPayable 97 = .ok (.iload 5, 2) := by decide +kernel
theorem dX6_mostPayable_99 : decode cX6_mostPayable 99 = .ok (.aload_n 0, 1) := by decide +kernel
theorem dX6_mostPayable_100 : decode cX6_mostPayable 100 = .ok (.getfield 31, 3) := by decide +kernel
theorem dX6_mostPayable_103 : decode cX6_mostPayable 103 = .ok (.iload 5, 2) := by decide +kernel
theorem dX6_mostPayable_105 : decode cX6_mostPayable 105 = .ok (.baload, 1) := by decide +kernel
theorem dX6_mostPayable_106 : decode cX6_mostPayable 106 = .ok (.ifCond .ne 15, 3) := by decide +kernel
theorem dX6_mostPayable_109 : decode cX6_mostPayable 109 = .ok (.aload_n 0, 1) := by decide +kernel
theorem dX6_mostPayable_110 : decode cX6_mostPayable 110 = .ok (.getfield 31, 3) := by decide +kernel
theorem dX6_mostPayable_113 : decode cX6_mostPayable 113 = .ok (.iload 5, 2) := by decide +kernel
theorem dX6_mostPayable_115 : decode cX6_mostPayable 115 = .ok (.iload_n 3, 1) := by decide +kernel
theorem dX6_mostPayable_116 : decode cX6_mostPayable 116 = .ok (.isub, 1) := by decide +kernel
theorem dX6_mostPayable_117 : decode cX6_mostPayable 117 = .ok (.baload, 1) := by decide +kernel
theorem dX6_mostPayable_118 : decode cX6_mostPayable 118 = .ok (.ifCond .eq 7, 3) := by decide +kernel
theorem dX6_mostPayable_121 : decode cX6_mostPayable 121 = .ok (.iconst 1, 1) := by decide +kernel
theorem dX6_mostPayable_122 : decode cX6_mostPayable 122 = .ok (.goto 4, 3) := by decide +kernel
theorem dX6_mostPayable_125 : decode cX6_mostPayable 125 = .ok (.iconst 0, 1) := by decide +kernel
theorem dX6_mostPayable_126 : decode cX6_mostPayable 126 = .ok (.bastore, 1) := by decide +kernel
theorem dX6_mostPayable_127 : decode cX6_mostPayable 127 = .ok (.iinc 5 (-1), 3) := by decide +kernel
theorem dX6_mostPayable_130 : decode cX6_mostPayable 130 = .ok (.goto (-43), 3) := by decide +kernel
theorem dX6_mostPayable_133 : decode cX6_mostPayable 133 = .ok (.iinc 4 1, 3) := by decide +kernel
theorem dX6_mostPayable_136 : decode cX6_mostPayable 136 = .ok (.goto (-67), 3) := by decide +kernel
theorem dX6_mostPayable_139 : decode cX6_mostPayable 139 = .ok (.iinc 2 1, 3) := by decide +kernel
theorem dX6_mostPayable_142 : decode cX6_mostPayable 142 = .ok (.goto (-88), 3) := by decide +kernel
theorem dX6_mostPayable_145 : decode cX6_mostPayable 145 = .ok (.iload_n 1, 1) := by decide +kernel
theorem dX6_mostPayable_146 : decode cX6_mostPayable 146 = .ok (.iconst 5, 1) := by decide +kernel
theorem dX6_mostPayable_147 : decode cX6_mostPayable 147 = .ok (.idiv, 1) := by decide +kernel
theorem dX6_mostPayable_148 : decode cX6_mostPayable 148 = .ok (.istore_n 2, 1) := by decide +kernel
theorem dX6_mostPayable_149 : decode cX6_mostPayable 149 = .ok (.aload_n 0, 1) := by decide +kernel
theorem dX6_mostPayable_150 : decode cX6_mostPayable 150 = .ok (.getfield 31, 3) := by decide +kernel
theorem dX6_mostPayable_153 : decode cX6_mostPayable 153 = .ok (.iload_n 2, 1) := by decide +kernel
theorem dX6_mostPayable_154 : decode cX6_mostPayable 154 = .ok (.baload, 1) := by decide +kernel
theorem dX6_mostPayable_155 : decode cX6_mostPayable 155 = .ok (.ifCond .ne 9, 3) := by decide +kernel
theorem dX6_mostPayable_158 : decode cX6_mostPayable 158 = .ok (.iinc 2 (-1), 3) := by decide +kernel
theorem dX6_mostPayable_161 : decode cX6_mostPayable 161 = .ok (.goto (-12), 3) := by decide +kernel
theorem dX6_mostPayable_164 : decode cX6_mostPayable 164 = .ok (.iconst 5, 1) := by decide +kernel
theorem dX6_mostPayable_165 : decode cX6_mostPayable 165 = .ok (.iload_n 2, 1) := by decide +kernel
theorem dX6_mostPayable_166 : decode cX6_mostPayable 166 = .ok (.imul, 1) := by decide +kernel
theorem dX6_mostPayable_167 : decode cX6_mostPayable 167 = .ok (.ireturn, 1) := by decide +kernel
theorem dX6_coinFor_0 : decode cX6_coinFor 0 = .ok (.aload_n 0, 1) := by decide +kernel
theorem dX6_coinFor_1 : decode cX6_coinFor 1 = .ok (.iconst 0, 1) := by decide +kernel
theorem dX6_coinFor_2 : decode cX6_coinFor 2 = .ok (.putfield 38, 3) := by decide +kernel
theorem dX6_coinFor_5 : decode cX6_coinFor 5 = .ok (.iload_n 1, 1) := by decide +kernel
theorem dX6_coinFor_6 : decode cX6_coinFor 6 = .ok (.iconst 0, 1) := by decide +kernel
theorem dX6_coinFor_7 : decode cX6_coinFor 7 = .ok (.sipush 2000, 3) := by decide +kernel
theorem dX6_coinFor_10 : decode cX6_coinFor 10 = .ok (.invokestatic 62, 3) := by decide +kernel
theorem dX6_coinFor_13 : decode cX6_coinFor 13 = .ok (.ifCond .ne 9, 3) := by decide +kernel
theorem dX6_coinFor_16 : decode cX6_coinFor 16 = .ok (.aload_n 0, 1) := by decide +kernel
theorem dX6_coinFor_17 : decode cX6_coinFor 17 = .ok (.iconst 1, 1) := by decide +kernel
theorem dX6_coinFor_18 : decode cX6_coinFor 18 = .ok (.invokevirtual 154, 3) := by decide +kernel
theorem dX6_coinFor_21 : decode cX6_coinFor 21 = .ok (.ireturn, 1) := by decide +kernel
theorem dX6_coinFor_22 : decode cX6_coinFor 22 = .ok (.aload_n 0, 1) := by decide +kernel
theorem dX6_coinFor_23 : decode cX6_coinFor 23 = .ok (.iload_n 1, 1) := by decide +kernel
theorem dX6_coinFor_24 : decode cX6_coinFor 24 = .ok (.iconst (-1), 1) := by decide +kernel
theorem dX6_coinFor_25 : decode cX6_coinFor 25 = .ok (.iconst 0, 1) := by decide +kernel
theorem dX6_coinFor_26 : decode cX6_coinFor 26 = .ok (.invokevirtual 66, 3) := by decide +kernel
theorem dX6_coinFor_29 : decode cX6_coinFor 29 = .ok (.ifCond .eq 5, 3) := by decide +kernel
theorem dX6_coinFor_32 : decode cX6_coinFor 32 = .ok (.iconst 4, 1) := by decide +kernel
theorem dX6_coinFor_33 : decode cX6_coinFor 33 = .ok (.ireturn, 1) := by decide +kernel
theorem dX6_coinFor_34 : decode cX6_coinFor 34 = .ok (.iconst 0, 1) := by decide +kernel
theorem dX6_coinFor_35 : decode cX6_coinFor 35 = .ok (.istore_n 2, 1) := by decide +kernel
theorem dX6_coinFor_36 : decode cX6_coinFor 36 = .ok (.iload_n 2, 1) := by decide +kernel
theorem dX6_coinFor_37 : decode cX6_coinFor 37 = .ok (.iconst 4, 1) := by decide +kernel
theorem dX6_coinFor_38 : decode cX6_coinFor 38 = .ok (.if_icmp .ge 21, 3) := by decide +kernel
theorem dX6_coinFor_41 : decode cX6_coinFor 41 = .ok (.aload_n 0, 1) := by decide +kernel
theorem dX6_coinFor_42 : decode cX6_coinFor 42 = .ok (.iload_n 1, 1) := by decide +kernel
theorem dX6_coinFor_43 : decode cX6_coinFor 43 = .ok (.iload_n 2, 1) := by decide +kernel
theorem dX6_coinFor_44 : decode cX6_coinFor 44 = .ok (.iconst 1, 1) := by decide +kernel
theorem dX6_coinFor_45 : decode cX6_coinFor 45 = .ok (.invokevirtual 66, 3) := by decide +kernel
theorem dX6_coinFor_48 : decode cX6_coinFor 48 = .ok (.ifCond .eq 5, 3) := by decide +kernel
theorem dX6_coinFor_51 : decode cX6_coinFor 51 = .ok (.iload_n 2, 1) := by decide +kernel
theorem dX6_coinFor_52 : decode cX6_coinFor 52 = .ok (.ireturn, 1) := by decide +kernel
theorem dX6_coinFor_53 : decode cX6_coinFor 53 = .ok (.iinc 2 1, 3) := by decide +kernel
theorem dX6_coinFor_56 : decode cX6_coinFor 56 = .ok (.goto (-20), 3) := by decide +kernel
theorem dX6_coinFor_59 : decode cX6_coinFor 59 = .ok (.iconst (-1), 1) := by decide +kernel
theorem dX6_coinFor_60 : decode cX6_coinFor 60 = .ok (.ireturn, 1) := by decide +kernel
theorem dX6_priceIn_0 : decode cX6_priceIn 0 = .ok (.aload_n 0, 1) := by decide +kernel
theorem dX6_priceIn_1 : decode cX6_priceIn 1 = .ok (.iconst 0, 1) := by decide +kernel
theorem dX6_priceIn_2 : decode cX6_priceIn 2 = .ok (.putfield 38, 3) := by decide +kernel
theorem dX6_priceIn_5 : decode cX6_priceIn 5 = .ok (.aload_n 0, 1) := by decide +kernel
theorem dX6_priceIn_6 : decode cX6_priceIn 6 = .ok (.iload_n 1, 1) := by decide +kernel
theorem dX6_priceIn_7 : decode cX6_priceIn 7 = .ok (.invokevirtual 96, 3) := by decide +kernel
theorem dX6_priceIn_10 : decode cX6_priceIn 10 = .ok (.ifCond .ne 9, 3) := by decide +kernel
theorem dX6_priceIn_13 : decode cX6_priceIn 13 = .ok (.aload_n 0, 1) := by decide +kernel
theorem dX6_priceIn_14 : decode cX6_priceIn 14 = .ok (.iconst 1, 1) := by decide +kernel
theorem dX6_priceIn_15 : decode cX6_priceIn 15 = .ok (.invokevirtual 154, 3) := by decide +kernel
theorem dX6_priceIn_18 : decode cX6_priceIn 18 = .ok (.ireturn, 1) := by decide +kernel
theorem dX6_priceIn_19 : decode cX6_priceIn 19 = .ok (.iload_n 2, 1) := by decide +kernel
theorem dX6_priceIn_20 : decode cX6_priceIn 20 = .ok (.iconst 0, 1) := by decide +kernel
theorem dX6_priceIn_21 : decode cX6_priceIn 21 = .ok (.bipush 48, 2) := by decide +kernel
theorem dX6_priceIn_23 : decode cX6_priceIn 23 = .ok (.invokestatic 62, 3) := by decide +kernel
theorem dX6_priceIn_26 : decode cX6_priceIn 26 = .ok (.ifCond .ne 9, 3) := by decide +kernel
theorem dX6_priceIn_29 : decode cX6_priceIn 29 = .ok (.aload_n 0, 1) := by decide +kernel
theorem dX6_priceIn_30 : decode cX6_priceIn 30 = .ok (.iconst 2, 1) := by decide +kernel
theorem dX6_priceIn_31 : decode cX6_priceIn 31 = .ok (.invokevirtual 154, 3) := by decide +kernel
theorem dX6_priceIn_34 : decode cX6_priceIn 34 = .ok (.ireturn, 1) := by decide +kernel
theorem dX6_priceIn_35 : decode cX6_priceIn 35 = .ok (.aload_n 0, 1) := by decide +kernel
theorem dX6_priceIn_36 : decode cX6_priceIn 36 = .ok (.getfield 7, 3) := by decide +kernel
theorem dX6_priceIn_39 : decode cX6_priceIn 39 = .ok (.iconst 0, 1) := by decide +kernel
theorem dX6_priceIn_40 : decode cX6_priceIn 40 = .ok (.aload_n 0, 1) := by decide +kernel
theorem dX6_priceIn_41 : decode cX6_priceIn 41 = .ok (.getfield 35, 3) := by decide +kernel
theorem dX6_priceIn_44 : decode cX6_priceIn 44 = .ok (.iconst 0, 1) := by decide +kernel
theorem dX6_priceIn_45 : decode cX6_priceIn 45 = .ok (.invokestatic 55, 3) := by decide +kernel
theorem dX6_priceIn_48 : decode cX6_priceIn 48 = .ok (.iconst 0, 1) := by decide +kernel
theorem dX6_priceIn_49 : decode cX6_priceIn 49 = .ok (.istore_n 3, 1) := by decide +kernel
theorem dX6_priceIn_50 : decode cX6_priceIn 50 = .ok (.iload_n 3, 1) := by decide +kernel
theorem dX6_priceIn_51 : decode cX6_priceIn 51 = .ok (.iload_n 2, 1) := by decide +kernel
theorem dX6_priceIn_52 : decode cX6_priceIn 52 = .ok (.if_icmp .ge 15, 3) := by decide +kernel
theorem dX6_priceIn_55 : decode cX6_priceIn 55 = .ok (.aload_n 0, 1) := by decide +kernel
theorem dX6_priceIn_56 : decode cX6_priceIn 56 = .ok (.invokevirtual 148, 3) := by decide +kernel
theorem dX6_priceIn_59 : decode cX6_priceIn 59 = .ok (.istore 4, 2) := by decide +kernel
theorem dX6_priceIn_61 : decode cX6_priceIn 61 = .ok (.iinc 3 1, 3) := by decide +kernel
theorem dX6_priceIn_64 : decode cX6_priceIn 64 = .ok (.goto (-14), 3) := by decide +kernel
theorem dX6_priceIn_67 : decode cX6_priceIn 67 = .ok (.aload_n 0, 1) := by decide +kernel
theorem dX6_priceIn_68 : decode cX6_priceIn 68 = .ok (.iload_n 1, 1) := by decide +kernel
theorem dX6_priceIn_69 : decode cX6_priceIn 69 = .ok (.iconst 2, 1) := by decide +kernel
theorem dX6_priceIn_70 : decode cX6_priceIn 70 = .ok (.invokevirtual 100, 3) := by decide +kernel
theorem dX6_priceIn_73 : decode cX6_priceIn 73 = .ok (.istore_n 3, 1) := by decide +kernel
theorem dX6_priceIn_74 : decode cX6_priceIn 74 = .ok (.aload_n 0, 1) := by decide +kernel
theorem dX6_priceIn_75 : decode cX6_priceIn 75 = .ok (.getfield 35, 3) := by decide +kernel
theorem dX6_priceIn_78 : decode cX6_priceIn 78 = .ok (.iconst 0, 1) := by decide +kernel
theorem dX6_priceIn_79 : decode cX6_priceIn 79 = .ok (.aload_n 0, 1) := by decide +kernel
theorem dX6_priceIn_80 : decode cX6_priceIn 80 = .ok (.getfield 7, 3) := by decide +kernel
theorem dX6_priceIn_83 : decode cX6_priceIn 83 = .ok (.iconst 0, 1) := by decide +kernel
theorem dX6_priceIn_84 : decode cX6_priceIn 84 = .ok (.invokestatic 55, 3) := by decide +kernel
theorem dX6_priceIn_87 : decode cX6_priceIn 87 = .ok (.iload_n 3, 1) := by decide +kernel
theorem dX6_priceIn_88 : decode cX6_priceIn 88 = .ok (.ireturn, 1) := by decide +kernel
theorem dX6_salesInARow_0 : decode cX6_salesInARow 0 = .ok (.aload_n 0, 1) := by decide +kernel
theorem dX6_salesInARow_1 : decode cX6_salesInARow 1 = .ok (.iconst 0, 1) := by decide +kernel
theorem dX6_salesInARow_2 : decode cX6_salesInARow 2 = .ok (.putfield 38, 3) := by decide +kernel
theorem dX6_salesInARow_5 : decode cX6_salesInARow 5 = .ok (.aload_n 0, 1) := by decide +kernel
theorem dX6_salesInARow_6 : decode cX6_salesInARow 6 = .ok (.iload_n 1, 1) := by decide +kernel
theorem dX6_salesInARow_7 : decode cX6_salesInARow 7 = .ok (.invokevirtual 96, 3) := by decide +kernel
theorem dX6_salesInARow_10 : decode cX6_salesInARow 10 = .ok (.ifCond .ne 9, 3) := by decide +kernel
theorem dX6_salesInARow_13 : decode cX6_salesInARow 13 = .ok (.aload_n 0, 1) := by decide +kernel
theorem dX6_salesInARow_14 : decode cX6_salesInARow 14 = .ok (.iconst 1, 1) := by decide +kernel
theorem dX6_salesInARow_15 : decode cX6_salesInARow 15 = .ok (.invokevirtual 154, 3) := by decide +kernel
theorem dX6_salesInARow_18 : decode cX6_salesInARow 18 = .ok (.ireturn, 1) := by decide +kernel
theorem dX6_salesInARow_19 : decode cX6_salesInARow 19 = .ok (.iload_n 2, 1) := by decide +kernel
theorem dX6_salesInARow_20 : decode cX6_salesInARow 20 = .ok (.invokestatic 127, 3) := by decide +kernel
theorem dX6_salesInARow_23 : decode cX6_salesInARow 23 = .ok (.ifCond .eq 10, 3) := by decide +kernel
theorem dX6_salesInARow_26 : decode cX6_salesInARow 26 = .ok (.iload_n 3, 1) := by decide +kernel
theorem dX6_salesInARow_27 : decode cX6_salesInARow 27 = .ok (.invokestatic 127, 3) := by decide +kernel
theorem dX6_salesInARow_30 : decode cX6_salesInARow 30 = .ok (.ifCond .ne 9, 3) := by decide +kernel
theorem dX6_salesInARow_33 : decode cX6_salesInARow 33 = .ok (.aload_n 0, 1) := by decide +kernel
theorem dX6_salesInARow_34 : decode cX6_salesInARow 34 = .ok (.iconst 2, 1) := by decide +kernel
theorem dX6_salesInARow_35 : decode cX6_salesInARow 35 = .ok (.invokevirtual 154, 3) := by decide +kernel
theorem dX6_salesInARow_38 : decode cX6_salesInARow 38 = .ok (.ireturn, 1) := by decide +kernel
theorem dX6_salesInARow_39 : decode cX6_salesInARow 39 = .ok (.aload_n 0, 1) := by decide +kernel
theorem dX6_salesInARow_40 : decode cX6_salesInARow 40 = .ok (.getfield 7, 3) := by decide +kernel
theorem dX6_salesInARow_43 : decode cX6_salesInARow 43 = .ok (.iconst 0, 1) := by decide +kernel
theorem dX6_salesInARow_44 : decode cX6_salesInARow 44 = .ok (.aload_n 0, 1) := by decide +kernel
theorem dX6_salesInARow_45 : decode cX6_salesInARow 45 = .ok (.getfield 35, 3) := by decide +kernel
theorem dX6_salesInARow_48 : decode cX6_salesInARow 48 = .ok (.iconst 0, 1) := by decide +kernel
theorem dX6_salesInARow_49 : decode cX6_salesInARow 49 = .ok (.invokestatic 55, 3) := by decide +kernel
theorem dX6_salesInARow_52 : decode cX6_salesInARow 52 = .ok (.aload_n 0, 1) := by decide +kernel
theorem dX6_salesInARow_53 : decode cX6_salesInARow 53 = .ok (.iconst 0, 1) := by decide +kernel
theorem dX6_salesInARow_54 : decode cX6_salesInARow 54 = .ok (.iload_n 2, 1) := by decide +kernel
theorem dX6_salesInARow_55 : decode cX6_salesInARow 55 = .ok (.iconst 0, 1) := by decide +kernel
theorem dX6_salesInARow_56 : decode cX6_salesInARow 56 = .ok (.iload_n 3, 1) := by decide +kernel
theorem dX6_salesInARow_57 : decode cX6_salesInARow 57 = .ok (.invokevirtual 130, 3) := by decide +kernel
theorem dX6_salesInARow_60 : decode cX6_salesInARow 60 = .ok (.iconst (-1), 1) := by decide +kernel
theorem dX6_salesInARow_61 : decode cX6_salesInARow 61 = .ok (.istore 4, 2) := by decide +kernel
theorem dX6_salesInARow_63 : decode cX6_salesInARow 63 = .ok (.aload_n 0, 1) := by decide +kernel
theorem dX6_salesInARow_64 : decode cX6_salesInARow 64 = .ok (.iconst 0, 1) := by decide +kernel
theorem dX6_salesInARow_65 : decode cX6_salesInARow 65 = .ok (.putfield 52, 3) := by decide +kernel
theorem dX6_salesInARow_68 : decode cX6_salesInARow 68 = .ok (.aload_n 0, 1) := by decide +kernel
theorem dX6_salesInARow_69 : decode cX6_salesInARow 69 = .ok (.getfield 52, 3) := by decide +kernel
theorem dX6_salesInARow_72 : decode cX6_salesInARow 72 = .ok (.ifCond .ne 16, 3) := by decide +kernel
theorem dX6_salesInARow_75 : decode cX6_salesInARow 75 = .ok (.aload_n 0, 1) := by decide +kernel
theorem dX6_salesInARow_76 : decode cX6_salesInARow 76 = .ok (.iload_n 1, 1) := by decide +kernel
theorem dX6_salesInARow_77 : decode cX6_salesInARow 77 = .ok (.invokevirtual 134, 3) := by decide +kernel
theorem dX6_salesInARow_80 : decode cX6_salesInARow 80 = .ok (.istore 5, 2) := by decide +kernel
theorem dX6_salesInARow_82 : decode cX6_salesInARow 82 = .ok (.iinc 4 1, 3) := by decide +kernel
theorem dX6_salesInARow_85 : decode cX6_salesInARow 85 = .ok (.goto (-17), 3) := by decide +kernel
theorem dX6_salesInARow_88 : decode cX6_salesInARow 88 = .ok (.aload_n 0, 1) := by decide +kernel
theorem dX6_salesInARow_89 : decode cX6_salesInARow 89 = .ok (.getfield 35, 3) := by decide +kernel
theorem dX6_salesInARow_92 : decode cX6_salesInARow 92 = .ok (.iconst 0, 1) := by decide +kernel
theorem dX6_salesInARow_93 : decode cX6_salesInARow 93 = .ok (.aload_n 0, 1) := by decide +kernel
theorem dX6_salesInARow_94 : decode cX6_salesInARow 94 = .ok (.getfield 7, 3) := by decide +kernel
theorem dX6_salesInARow_97 : decode cX6_salesInARow 97 = .ok (.iconst 0, 1) := by decide +kernel
theorem dX6_salesInARow_98 : decode cX6_salesInARow 98 = .ok (.invokestatic 55, 3) := by decide +kernel
theorem dX6_salesInARow_101 : decode cX6_salesInARow 101 = .ok (.iload 4, 2) := by decide +kernel
theorem dX6_salesInARow_103 : decode cX6_salesInARow 103 = .ok (.ireturn, 1) := by decide +kernel
theorem dX6_favorite_0 : decode cX6_favorite 0 = .ok (.aload_n 0, 1) := by decide +kernel
theorem dX6_favorite_1 : decode cX6_favorite 1 = .ok (.iconst 0, 1) := by decide +kernel
theorem dX6_favorite_2 : decode cX6_favorite 2 = .ok (.putfield 38, 3) := by decide +kernel
theorem dX6_favorite_5 : decode cX6_favorite 5 = .ok (.iconst (-1), 1) := by decide +kernel
theorem dX6_favorite_6 : decode cX6_favorite 6 = .ok (.istore_n 1, 1) := by decide +kernel
theorem dX6_favorite_7 : decode cX6_favorite 7 = .ok (.iconst 0, 1) := by decide +kernel
theorem dX6_favorite_8 : decode cX6_favorite 8 = .ok (.istore_n 2, 1) := by decide +kernel
theorem dX6_favorite_9 : decode cX6_favorite 9 = .ok (.iload_n 2, 1) := by decide +kernel
theorem dX6_favorite_10 : decode cX6_favorite 10 = .ok (.aload_n 0, 1) := by decide +kernel
theorem dX6_favorite_11 : decode cX6_favorite 11 = .ok (.getfield 7, 3) := by decide +kernel
theorem dX6_favorite_14 : decode cX6_favorite 14 = .ok (.bipush 13, 2) := by decide +kernel
theorem dX6_favorite_16 : decode cX6_favorite 16 = .ok (.iaload, 1) := by decide +kernel
theorem dX6_favorite_17 : decode cX6_favorite 17 = .ok (.if_icmp .ge 43, 3) := by decide +kernel
theorem dX6_favorite_20 : decode cX6_favorite 20 = .ok (.iload_n 1, 1) := by decide +kernel
theorem dX6_favorite_21 : decode cX6_favorite 21 = .ok (.ifCond .lt 27, 3) := by decide +kernel
theorem dX6_favorite_24 : decode cX6_favorite 24 = .ok (.aload_n 0, 1) := by decide +kernel
theorem dX6_favorite_25 : decode cX6_favorite 25 = .ok (.iload_n 2, 1) := by decide +kernel
theorem dX6_favorite_26 : decode cX6_favorite 26 = .ok (.bipush 10, 2) := by decide +kernel
theorem dX6_favorite_28 : decode cX6_favorite 28 = .ok (.invokevirtual 100, 3) := by decide +kernel
theorem dX6_favorite_31 : decode cX6_favorite 31 = .ok (.invokestatic 121, 3) := by decide +kernel
theorem dX6_favorite_34 : decode cX6_favorite 34 = .ok (.aload_n 0, 1) := by decide +kernel
theorem dX6_favorite_35 : decode cX6_favorite 35 = .ok (.iload_n 1, 1) := by decide +kernel
theorem dX6_favorite_36 : decode cX6_favorite 36 = .ok (.bipush 10, 2) := by decide +kernel
theorem dX6_favorite_38 : decode cX6_favorite 38 = .ok (.invokevirtual 100, 3) := by decide +kernel
theorem dX6_favorite_41 : decode cX6_favorite 41 = .ok (.invokestatic 121, 3) := by decide +kernel
theorem dX6_favorite_44 : decode cX6_favorite 44 = .ok (.fcmp .l, 1) := by decide +kernel
theorem dX6_favorite_45 : decode cX6_favorite 45 = .ok (.ifCond .le 7, 3) := by decide +kernel
theorem dX6_favorite_48 : decode cX6_favorite 48 = .ok (.iload_n 2, 1) := by decide +kernel
theorem dX6_favorite_49 : decode cX6_favorite 49 = .ok (.goto 4, 3) := by decide +kernel
theorem dX6_favorite_52 : decode cX6_favorite 52 = .ok (.iload_n 1, 1) := by decide +kernel
theorem dX6_favorite_53 : decode cX6_favorite 53 = .ok (.istore_n 1, 1) := by decide +kernel
theorem dX6_favorite_54 : decode cX6_favorite 54 = .ok (.iinc 2 1, 3) := by decide +kernel
theorem dX6_favorite_57 : decode cX6_favorite 57 = .ok (.goto (-48), 3) := by decide +kernel
theorem dX6_favorite_60 : decode cX6_favorite 60 = .ok (.iload_n 1, 1) := by decide +kernel
theorem dX6_favorite_61 : decode cX6_favorite 61 = .ok (.ireturn, 1) := by decide +kernel
theorem dX6_append_0 : decode cX6_append 0 = .ok (.aload_n 0, 1) := by decide +kernel
theorem dX6_append_1 : decode cX6_append 1 = .ok (.iconst 0, 1) := by decide +kernel
theorem dX6_append_2 : decode cX6_append 2 = .ok (.putfield 38, 3) := by decide +kernel
theorem dX6_append_5 : decode cX6_append 5 = .ok (.iload_n 1, 1) := by decide +kernel
theorem dX6_append_6 : decode cX6_append 6 = .ok (.iconst 0, 1) := by decide +kernel
theorem dX6_append_7 : decode cX6_append 7 = .ok (.bipush 127, 2) := by decide +kernel
theorem dX6_append_9 : decode cX6_append 9 = .ok (.invokestatic 62, 3) := by decide +kernel
theorem dX6_append_12 : decode cX6_append 12 = .ok (.ifCond .ne 9, 3) := by decide +kernel
theorem dX6_append_15 : decode cX6_append 15 = .ok (.aload_n 0, 1) := by decide +kernel
theorem dX6_append_16 : decode cX6_append 16 = .ok (.iconst 1, 1) := by decide +kernel
theorem dX6_append_17 : decode cX6_append 17 = .ok (.invokevirtual 154, 3) := by decide +kernel
theorem dX6_append_20 : decode cX6_append 20 = .ok (.ireturn, 1) := by decide +kernel
theorem dX6_append_21 : decode cX6_append 21 = .ok (.aload_n 0, 1) := by decide +kernel
theorem dX6_append_22 : decode cX6_append 22 = .ok (.getfield 166, 3) := by decide +kernel
theorem dX6_append_25 : decode cX6_append 25 = .ok (.bipush 100, 2) := by decide +kernel
theorem dX6_append_27 : decode cX6_append 27 = .ok (.if_icmp .ne 9, 3) := by decide +kernel
theorem dX6_append_30 : decode cX6_append 30 = .ok (.aload_n 0, 1) := by decide +kernel
theorem dX6_append_31 : decode cX6_append 31 = .ok (.iconst 2, 1) := by decide +kernel
theorem dX6_append_32 : decode cX6_append 32 = .ok (.invokevirtual 154, 3) := by decide +kernel
theorem dX6_append_35 : decode cX6_append 35 = .ok (.ireturn, 1) := by decide +kernel
theorem dX6_append_36 : decode cX6_append 36 = .ok (.aload_n 0, 1) := by decide +kernel
theorem dX6_append_37 : decode cX6_append 37 = .ok (.getfield 22, 3) := by decide +kernel
theorem dX6_append_40 : decode cX6_append 40 = .ok (.aload_n 0, 1) := by decide +kernel
theorem dX6_append_41 : decode cX6_append 41 = .ok (.getfield 166, 3) := by decide +kernel
theorem dX6_append_44 : decode cX6_append 44 = .ok (.iload_n 1, 1) := by decide +kernel
theorem dX6_append_45 : decode cX6_append 45 = .ok (.iastore, 1) := by decide +kernel
theorem dX6_append_46 : decode cX6_append 46 = .ok (.aload_n 0, 1) := by decide +kernel
theorem dX6_append_47 : decode cX6_append 47 = .ok (.dup, 1) := by decide +kernel
theorem dX6_append_48 : decode cX6_append 48 = .ok (.getfield 166, 3) := by decide +kernel
theorem dX6_append_51 : decode cX6_append 51 = .ok (.iconst 1, 1) := by decide +kernel
theorem dX6_append_52 : decode cX6_append 52 = .ok (.iadd, 1) := by decide +kernel
theorem dX6_append_53 : decode cX6_append 53 = .ok (.putfield 166, 3) := by decide +kernel
theorem dX6_append_56 : decode cX6_append 56 = .ok (.aload_n 0, 1) := by decide +kernel
theorem dX6_append_57 : decode cX6_append 57 = .ok (.getfield 166, 3) := by decide +kernel
theorem dX6_append_60 : decode cX6_append 60 = .ok (.ireturn, 1) := by decide +kernel
theorem dX6_clearText_0 : decode cX6_clearText 0 = .ok (.aload_n 0, 1) := by decide +kernel
theorem dX6_clearText_1 : decode cX6_clearText 1 = .ok (.iconst 0, 1) := by decide +kernel
theorem dX6_clearText_2 : decode cX6_clearText 2 = .ok (.putfield 38, 3) := by decide +kernel
theorem dX6_clearText_5 : decode cX6_clearText 5 = .ok (.aload_n 0, 1) := by decide +kernel
theorem dX6_clearText_6 : decode cX6_clearText 6 = .ok (.getfield 166, 3) := by decide +kernel
theorem dX6_clearText_9 : decode cX6_clearText 9 = .ok (.istore_n 1, 1) := by decide +kernel
theorem dX6_clearText_10 : decode cX6_clearText 10 = .ok (.aload_n 0, 1) := by decide +kernel
theorem dX6_clearText_11 : decode cX6_clearText 11 = .ok (.iconst 0, 1) := by decide +kernel
theorem dX6_clearText_12 : decode cX6_clearText 12 = .ok (.putfield 166, 3) := by decide +kernel
theorem dX6_clearText_15 : decode cX6_clearText 15 = .ok (.iload_n 1, 1) := by decide +kernel
theorem dX6_clearText_16 : decode cX6_clearText 16 = .ok (.ireturn, 1) := by decide +kernel
theorem dX6_here_0 : decode cX6_here 0 = .ok (.aload_n 0, 1) := by decide +kernel
theorem dX6_here_1 : decode cX6_here 1 = .ok (.getfield 169, 3) := by decide +kernel
theorem dX6_here_4 : decode cX6_here 4 = .ok (.aload_n 0, 1) := by decide +kernel
theorem dX6_here_5 : decode cX6_here 5 = .ok (.getfield 166, 3) := by decide +kernel
theorem dX6_here_8 : decode cX6_here 8 = .ok (.if_icmp .ge 15, 3) := by decide +kernel
theorem dX6_here_11 : decode cX6_here 11 = .ok (.aload_n 0, 1) := by decide +kernel
theorem dX6_here_12 : decode cX6_here 12 = .ok (.getfield 22, 3) := by decide +kernel
theorem dX6_here_15 : decode cX6_here 15 = .ok (.aload_n 0, 1) := by decide +kernel
theorem dX6_here_16 : decode cX6_here 16 = .ok (.getfield 169, 3) := by decide +kernel
theorem dX6_here_19 : decode cX6_here 19 = .ok (.iaload, 1) := by decide +kernel
theorem dX6_here_20 : decode cX6_here 20 = .ok (.goto 4, 3) := by decide +kernel
theorem dX6_here_23 : decode cX6_here 23 = .ok (.iconst (-1), 1) := by decide +kernel
theorem dX6_here_24 : decode cX6_here 24 = .ok (.ireturn, 1) := by decide +kernel
theorem dX6_isFigure_0 : decode cX6_isFigure 0 = .ok (.iload_n 0, 1) := by decide +kernel
theorem dX6_isFigure_1 : decode cX6_isFigure 1 = .ok (.bipush 48, 2) := by decide +kernel
theorem dX6_isFigure_3 : decode cX6_isFigure 3 = .ok (.bipush 57, 2) := by decide +kernel
theorem dX6_isFigure_5 : decode cX6_isFigure 5 = .ok (.invokestatic 62, 3) := by decide +kernel
theorem dX6_isFigure_8 : decode cX6_isFigure 8 = .ok (.ireturn, 1) := by decide +kernel
theorem dX6_passes_0 : decode cX6_passes 0 = .ok (.aload_n 0, 1) := by decide +kernel
theorem dX6_passes_1 : decode cX6_passes 1 = .ok (.invokevirtual 172, 3) := by decide +kernel
theorem dX6_passes_4 : decode cX6_passes 4 = .ok (.iload_n 1, 1) := by decide +kernel
theorem dX6_passes_5 : decode cX6_passes 5 = .ok (.if_icmp .ne 7, 3) := by decide +kernel
theorem dX6_passes_8 : decode cX6_passes 8 = .ok (.iconst 1, 1) := by decide +kernel
theorem dX6_passes_9 : decode cX6_passes 9 = .ok (.goto 4, 3) := by decide +kernel
theorem dX6_passes_12 : decode cX6_passes 12 = .ok (.iconst 0, 1) := by decide +kernel
theorem dX6_passes_13 : decode cX6_passes 13 = .ok (.istore_n 2, 1) := by decide +kernel
theorem dX6_passes_14 : decode cX6_passes 14 = .ok (.aload_n 0, 1) := by decide +kernel
theorem dX6_passes_15 : decode cX6_passes 15 = .ok (.dup, 1) := by decide +kernel
theorem dX6_passes_16 : decode cX6_passes 16 = .ok (.getfield 169, 3) := by decide +kernel
theorem dX6_passes_19 : decode cX6_passes 19 = .ok (.iload_n 2, 1) := by decide +kernel
theorem dX6_passes_20 : decode cX6_passes 20 = .ok (.ifCond .eq 7, 3) := by decide +kernel
theorem dX6_passes_23 : decode cX6_passes 23 = .ok (.iconst 1, 1) := by decide +kernel
theorem dX6_passes_24 : decode cX6_passes 24 = .ok (.goto 4, 3) := by decide +kernel
theorem dX6_passes_27 : decode cX6_passes 27 = .ok (.iconst 0, 1) := by decide +kernel
theorem dX6_passes_28 : decode cX6_passes 28 = .ok (.iadd, 1) := by decide +kernel
theorem dX6_passes_29 : decode cX6_passes 29 = .ok (.putfield 169, 3) := by decide +kernel
theorem dX6_passes_32 : decode cX6_passes 32 = .ok (.iload_n 2, 1) := by decide +kernel
theorem dX6_passes_33 : decode cX6_passes 33 = .ok (.ireturn, 1) := by decide +kernel
theorem dX6_readDigit_0 : decode cX6_readDigit 0 = .ok (.aload_n 0, 1) := by decide +kernel
theorem dX6_readDigit_1 : decode cX6_readDigit 1 = .ok (.invokevirtual 172, 3) := by decide +kernel
theorem dX6_readDigit_4 : decode cX6_readDigit 4 = .ok (.bipush 48, 2) := by decide +kernel
theorem dX6_readDigit_6 : decode cX6_readDigit 6 = .ok (.iload_n 1, 1) := by decide +kernel
theorem dX6_readDigit_7 : decode cX6_readDigit 7 = .ok (.invokestatic 62, 3) := by decide +kernel
theorem dX6_readDigit_10 : decode cX6_readDigit 10 = .ok (.istore_n 2, 1) := by decide +kernel
theorem dX6_readDigit_11 : decode cX6_readDigit 11 = .ok (.aload_n 0, 1) := by decide +kernel
theorem dX6_readDigit_12 : decode cX6_readDigit 12 = .ok (.aload_n 0, 1) := by decide +kernel
theorem dX6_readDigit_13 : decode cX6_readDigit 13 = .ok (.invokevirtual 172, 3) := by decide +kernel
theorem dX6_readDigit_16 : decode cX6_readDigit 16 = .ok (.bipush 48, 2) := by decide +kernel
theorem dX6_readDigit_18 : decode cX6_readDigit 18 = .ok (.isub, 1) := by decide +kernel
theorem dX6_readDigit_19 : decode cX6_readDigit 19 = .ok (.putfield 175, 3) := by decide +kernel
theorem dX6_readDigit_22 : decode cX6_readDigit 22 = .ok (.aload_n 0, 1) := by decide +kernel
theorem dX6_readDigit_23 : decode cX6_readDigit 23 = .ok (.dup, 1) := by decide +kernel
theorem dX6_readDigit_24 : decode cX6_readDigit 24 = .ok (.getfield 169, 3) := by decide +kernel
theorem dX6_readDigit_27 : decode cX6_readDigit 27 = .ok (.iload_n 2, 1) := by decide +kernel
theorem dX6_readDigit_28 : decode cX6_readDigit 28 = .ok (.ifCond .eq 7, 3) := by decide +kernel
theorem dX6_readDigit_31 : decode cX6_readDigit 31 = .ok (.iconst 1, 1) := by decide +kernel
theorem dX6_readDigit_32 : decode cX6_readDigit 32 = .ok (.goto 4, 3) := by decide +kernel
theorem dX6_readDigit_35 : decode cX6_readDigit 35 = .ok (.iconst 0, 1) := by decide +kernel
theorem dX6_readDigit_36 : decode cX6_readDigit 36 = .ok (.iadd, 1) := by decide +kernel
theorem dX6_readDigit_37 : decode cX6_readDigit 37 = .ok (.putfield 169, 3) := by decide +kernel
theorem dX6_readDigit_40 : decode cX6_readDigit 40 = .ok (.iload_n 2, 1) := by decide +kernel
theorem dX6_readDigit_41 : decode cX6_readDigit 41 = .ok (.ireturn, 1) := by decide +kernel
theorem dX6_readNumber_0 : decode cX6_readNumber 0 = .ok (.aload_n 0, 1) := by decide +kernel
theorem dX6_readNumber_1 : decode cX6_readNumber 1 = .ok (.getfield 169, 3) := by decide +kernel
theorem dX6_readNumber_4 : decode cX6_readNumber 4 = .ok (.istore_n 2, 1) := by decide +kernel
theorem dX6_readNumber_5 : decode cX6_readNumber 5 = .ok (.aload_n 0, 1) := by decide +kernel
theorem dX6_readNumber_6 : decode cX6_readNumber 6 = .ok (.iconst 0, 1) := by decide +kernel
theorem dX6_readNumber_7 : decode cX6_readNumber 7 = .ok (.putfield 178, 3) := by decide +kernel
theorem dX6_readNumber_10 : decode cX6_readNumber 10 = .ok (.aload_n 0, 1) := by decide +kernel
theorem dX6_readNumber_11 : decode cX6_readNumber 11 = .ok (.invokevirtual 172, 3) := by decide +kernel
theorem dX6_readNumber_14 : decode cX6_readNumber 14 = .ok (.invokestatic 181, 3) := by decide +kernel
theorem dX6_readNumber_17 : decode cX6_readNumber 17 = .ok (.ifCond .eq 45, 3) := by decide +kernel
theorem dX6_readNumber_20 : decode cX6_readNumber 20 = .ok (.aload_n 0, 1) := by decide +kernel
theorem dX6_readNumber_21 : decode cX6_readNumber 21 = .ok (.getfield 169, 3) := by decide +kernel
theorem dX6_readNumber_24 : decode cX6_readNumber 24 = .ok (.iload_n 2, 1) := by decide +kernel
theorem dX6_readNumber_25 : decode cX6_readNumber 25 = .ok (.iconst 2, 1) := by decide +kernel
theorem dX6_readNumber_26 : decode cX6_readNumber 26 = .ok (.iadd, 1) := by decide +kernel
theorem dX6_readNumber_27 : decode cX6_readNumber 27 = .ok (.if_icmp .ge 35, 3) := by decide +kernel
theorem dX6_readNumber_30 : decode cX6_readNumber 30 = .ok (.aload_n 0, 1) := by decide +kernel
theorem dX6_readNumber_31 : decode cX6_readNumber 31 = .ok (.bipush 10, 2) := by decide +kernel
theorem dX6_readNumber_33 : decode cX6_readNumber 33 = .ok (.aload_n 0, 1) := by decide +kernel
theorem dX6_readNumber_34 : decode cX6_readNumber 34 = .ok (.getfield 178, 3) := by decide +kernel
theorem dX6_readNumber_37 : decode cX6_readNumber 37 = .ok (.imul, 1) := by decide +kernel
theorem dX6_readNumber_38 : decode cX6_readNumber 38 = .ok (.aload_n 0, 1) := by decide +kernel
theorem dX6_readNumber_39 : decode cX6_readNumber 39 = .ok (.invokevirtual 172, 3) := by decide +kernel
theorem dX6_readNumber_42 : decode cX6_readNumber 42 = .ok (.iadd, 1) := by decide +kernel
theorem dX6_readNumber_43 : decode cX6_readNumber 43 = .ok (.bipush 48, 2) := by decide +kernel
theorem dX6_readNumber_45 : decode cX6_readNumber 45 = .ok (.isub, 1) := by decide +kernel
theorem dX6_readNumber_46 : decode cX6_readNumber 46 = .ok (.putfield 178, 3) := by decide +kernel
theorem dX6_readNumber_49 : decode cX6_readNumber 49 = .ok (.aload_n 0, 1) := by decide +kernel
theorem dX6_readNumber_50 : decode cX6_readNumber 50 = .ok (.dup, 1) := by decide +kernel
theorem dX6_readNumber_51 : decode cX6_readNumber 51 = .ok (.getfield 169, 3) := by decide +kernel
theorem dX6_readNumber_54 : decode cX6_readNumber 54 = .ok (.iconst 1, 1) := by decide +kernel
theorem dX6_readNumber_55 : decode cX6_readNumber 55 = .ok (.iadd, 1) := by decide +kernel
theorem dX6_readNumber_56 : decode cX6_readNumber 56 = .ok (.putfield 169, 3) := by decide +kernel
theorem dX6_readNumber_59 : decode cX6_readNumber 59 = .ok (.goto (-49), 3) := by decide +kernel
theorem dX6_readNumber_62 : decode cX6_readNumber 62 = .ok (.aload_n 0, 1) := by decide +kernel
theorem dX6_readNumber_63 : decode cX6_readNumber 63 = .ok (.getfield 169, 3) := by decide +kernel
theorem dX6_readNumber_66 : decode cX6_readNumber 66 = .ok (.iload_n 2, 1) := by decide +kernel
theorem dX6_readNumber_67 : decode cX6_readNumber 67 = .ok (.if_icmp .eq 13, 3) := by decide +kernel
theorem dX6_readNumber_70 : decode cX6_readNumber 70 = .ok (.aload_n 0, 1) := by decide +kernel
theorem dX6_readNumber_71 : decode cX6_readNumber 71 = .ok (.invokevirtual 172, 3) := by decide +kernel
theorem dX6_readNumber_74 : decode cX6_readNumber 74 = .ok (.invokestatic 181, 3) := by decide +kernel
theorem dX6_readNumber_77 : decode cX6_readNumber 77 = .ok (.ifCond .eq 5, 3) := by decide +kernel
theorem dX6_readNumber_80 : decode cX6_readNumber 80 = .ok (.iconst 0, 1) := by decide +kernel
theorem dX6_readNumber_81 : decode cX6_readNumber 81 = .ok (.ireturn, 1) := by decide +kernel
theorem dX6_readNumber_82 : decode cX6_readNumber 82 = .ok (.aload_n 0, 1) := by decide +kernel
theorem dX6_readNumber_83 : decode cX6_readNumber 83 = .ok (.getfield 178, 3) := by decide +kernel
theorem dX6_readNumber_86 : decode cX6_readNumber 86 = .ok (.iconst 1, 1) := by decide +kernel
theorem dX6_readNumber_87 : decode cX6_readNumber 87 = .ok (.iload_n 1, 1) := by decide +kernel
theorem dX6_readNumber_88 : decode cX6_readNumber 88 = .ok (.invokestatic 62, 3) := by decide +kernel
theorem dX6_readNumber_91 : decode cX6_readNumber 91 = .ok (.istore_n 3, 1) := by decide +kernel
theorem dX6_readNumber_92 : decode cX6_readNumber 92 = .ok (.aload_n 0, 1) := by decide +kernel
theorem dX6_readNumber_93 : decode cX6_readNumber 93 = .ok (.iload_n 3, 1) := by decide +kernel
theorem dX6_readNumber_94 : decode cX6_readNumber 94 = .ok (.ifCond .eq 10, 3) := by decide +kernel
theorem dX6_readNumber_97 : decode cX6_readNumber 97 = .ok (.aload_n 0, 1) := by decide +kernel
theorem dX6_readNumber_98 : decode cX6_readNumber 98 = .ok (.getfield 169, 3) := by decide +kernel
theorem dX6_readNumber_101 : decode cX6_readNumber 101 = .ok (.goto 4, 3) := by decide +kernel
theorem dX6_readNumber_104 : decode cX6_readNumber 104 = .ok (.iload_n 2, 1) := by decide +kernel
theorem dX6_readNumber_105 : decode cX6_readNumber 105 = .ok (.putfield 169, 3) := by decide +kernel
theorem dX6_readNumber_108 : decode cX6_readNumber 108 = .ok (.iload_n 3, 1) := by decide +kernel
theorem dX6_readNumber_109 : decode cX6_readNumber 109 = .ok (.ireturn, 1) := by decide +kernel
theorem dX6_readCoins_0 : decode cX6_readCoins 0 = .ok (.iconst 0, 1) := by decide +kernel
theorem dX6_readCoins_1 : decode cX6_readCoins 1 = .ok (.istore_n 1, 1) := by decide +kernel
theorem dX6_readCoins_2 : decode cX6_readCoins 2 = .ok (.iload_n 1, 1) := by decide +kernel
theorem dX6_readCoins_3 : decode cX6_readCoins 3 = .ok (.iconst 4, 1) := by decide +kernel
theorem dX6_readCoins_4 : decode cX6_readCoins 4 = .ok (.if_icmp .ge 39, 3) := by decide +kernel
theorem dX6_readCoins_7 : decode cX6_readCoins 7 = .ok (.aload_n 0, 1) := by decide +kernel
theorem dX6_readCoins_8 : decode cX6_readCoins 8 = .ok (.bipush 44, 2) := by decide +kernel
theorem dX6_readCoins_10 : decode cX6_readCoins 10 = .ok (.invokevirtual 184, 3) := by decide +kernel
theorem dX6_readCoins_13 : decode cX6_readCoins 13 = .ok (.ifCond .eq 12, 3) := by decide +kernel
theorem dX6_readCoins_16 : decode cX6_readCoins 16 = .ok (.aload_n 0, 1) := by decide +kernel
theorem dX6_readCoins_17 : decode cX6_readCoins 17 = .ok (.bipush 57, 2) := by decide +kernel
theorem dX6_readCoins_19 : decode cX6_readCoins 19 = .ok (.invokevirtual 187, 3) := by decide +kernel
theorem dX6_readCoins_22 : decode cX6_readCoins 22 = .ok (.ifCond .ne 5, 3) := by decide +kernel
theorem dX6_readCoins_25 : decode cX6_readCoins 25 = .ok (.iconst 0, 1) := by decide +kernel
theorem dX6_readCoins_26 : decode cX6_readCoins 26 = .ok (.ireturn, 1) := by decide +kernel
theorem dX6_readCoins_27 : decode cX6_readCoins 27 = .ok (.aload_n 0, 1) := by decide +kernel
theorem dX6_readCoins_28 : decode cX6_readCoins 28 = .ok (.getfield 28, 3) := by decide +kernel
theorem dX6_readCoins_31 : decode cX6_readCoins 31 = .ok (.iload_n 1, 1) := by decide +kernel
theorem dX6_readCoins_32 : decode cX6_readCoins 32 = .ok (.aload_n 0, 1) := by decide +kernel
theorem dX6_readCoins_33 : decode cX6_readCoins 33 = .ok (.getfield 175, 3) := by decide +kernel
theorem dX6_readCoins_36 : decode cX6_readCoins 36 = .ok (.iastore, 1) := by decide +kernel
theorem dX6_readCoins_37 : decode cX6_readCoins 37 = .ok (.iinc 1 1, 3) := by decide +kernel
theorem dX6_readCoins_40 : decode cX6_readCoins 40 = .ok (.goto (-38), 3) := by decide +kernel
theorem dX6_readCoins_43 : decode cX6_readCoins 43 = .ok (.iconst 1, 1) := by decide +kernel
theorem dX6_readCoins_44 : decode cX6_readCoins 44 = .ok (.ireturn, 1) := by decide +kernel
theorem dX6_readOrder_0 : decode cX6_readOrder 0 = .ok (.aload_n 0, 1) := by decide +kernel
theorem dX6_readOrder_1 : decode cX6_readOrder 1 = .ok (.aload_n 0, 1) := by decide +kernel
theorem dX6_readOrder_2 : decode cX6_readOrder 2 = .ok (.invokevirtual 172, 3) := by decide +kernel
theorem dX6_readOrder_5 : decode cX6_readOrder 5 = .ok (.putfield 190, 3) := by decide +kernel
theorem dX6_readOrder_8 : decode cX6_readOrder 8 = .ok (.aload_n 0, 1) := by decide +kernel
theorem dX6_readOrder_9 : decode cX6_readOrder 9 = .ok (.getfield 190, 3) := by decide +kernel
theorem dX6_readOrder_12 : decode cX6_readOrder 12 = .ok (.bipush 115, 2) := by decide +kernel
theorem dX6_readOrder_14 : decode cX6_readOrder 14 = .ok (.if_icmp .eq 32, 3) := by decide +kernel
theorem dX6_readOrder_17 : decode cX6_readOrder 17 = .ok (.aload_n 0, 1) := by decide +kernel
theorem dX6_readOrder_18 : decode cX6_readOrder 18 = .ok (.getfield 190, 3) := by decide +kernel
theorem dX6_readOrder_21 : decode cX6_readOrder 21 = .ok (.bipush 98, 2) := by decide +kernel
theorem dX6_readOrder_23 : decode cX6_readOrder 23 = .ok (.if_icmp .eq 23, 3) := by decide +kernel
theorem dX6_readOrder_26 : decode cX6_readOrder 26 = .ok (.aload_n 0, 1) := by decide +kernel
theorem dX6_readOrder_27 : decode cX6_readOrder 27 = .ok (.getfield 190, 3) := by decide +kernel
theorem dX6_readOrder_30 : decode cX6_readOrder 30 = .ok (.bipush 102, 2) := by decide +kernel
theorem dX6_readOrder_32 : decode cX6_readOrder 32 = .ok (.if_icmp .eq 14, 3) := by decide +kernel
theorem dX6_readOrder_35 : decode cX6_readOrder 35 = .ok (.aload_n 0, 1) := by decide +kernel
theorem dX6_readOrder_36 : decode cX6_readOrder 36 = .ok (.getfield 190, 3) := by decide +kernel
theorem dX6_readOrder_39 : decode cX6_readOrder 39 = .ok (.bipush 104, 2) := by decide +kernel
theorem dX6_readOrder_41 : decode cX6_readOrder 41 = .ok (.if_icmp .eq 5, 3) := by decide +kernel
theorem dX6_readOrder_44 : decode cX6_readOrder 44 = .ok (.iconst 0, 1) := by decide +kernel
theorem dX6_readOrder_45 : decode cX6_readOrder 45 = .ok (.ireturn, 1) := by decide +kernel
theorem dX6_readOrder_46 : decode cX6_readOrder 46 = .ok (.aload_n 0, 1) := by decide +kernel
theorem dX6_readOrder_47 : decode cX6_readOrder 47 = .ok (.dup, 1) := by decide +kernel
theorem dX6_readOrder_48 : decode cX6_readOrder 48 = .ok (.getfield 169, 3) := by decide +kernel
theorem dX6_readOrder_51 : decode cX6_readOrder 51 = .ok (.iconst 1, 1) := by decide +kernel
theorem dX6_readOrder_52 : decode cX6_readOrder 52 = .ok (.iadd, 1) := by decide +kernel
theorem dX6_readOrder_53 : decode cX6_readOrder 53 = .ok (.putfield 169, 3) := by decide +kernel
theorem dX6_readOrder_56 : decode cX6_readOrder 56 = .ok (.aload_n 0, 1) := by decide +kernel
theorem dX6_readOrder_57 : decode cX6_readOrder 57 = .ok (.getfield 190, 3) := by decide +kernel
theorem dX6_readOrder_60 : decode cX6_readOrder 60 = .ok (.bipush 104, 2) := by decide +kernel
theorem dX6_readOrder_62 : decode cX6_readOrder 62 = .ok (.if_icmp .eq 36, 3) := by decide +kernel
theorem dX6_readOrder_65 : decode cX6_readOrder 65 = .ok (.aload_n 0, 1) := by decide +kernel
theorem dX6_readOrder_66 : decode cX6_readOrder 66 = .ok (.aload_n 0, 1) := by decide +kernel
theorem dX6_readOrder_67 : decode cX6_readOrder 67 = .ok (.getfield 190, 3) := by decide +kernel
theorem dX6_readOrder_70 : decode cX6_readOrder 70 = .ok (.bipush 102, 2) := by decide +kernel
theorem dX6_readOrder_72 : decode cX6_readOrder 72 = .ok (.if_icmp .ne 8, 3) := by decide +kernel
theorem dX6_readOrder_75 : decode cX6_readOrder 75 = .ok (.bipush 51, 2) := by decide +kernel
theorem dX6_readOrder_77 : decode cX6_readOrder 77 = .ok (.goto 5, 3) := by decide +kernel
theorem dX6_readOrder_80 : decode cX6_readOrder 80 = .ok (.bipush 55, 2) := by decide +kernel
theorem dX6_readOrder_82 : decode cX6_readOrder 82 = .ok (.invokevirtual 187, 3) := by decide +kernel
theorem dX6_readOrder_85 : decode cX6_readOrder 85 = .ok (.ifCond .ne 5, 3) := by decide +kernel
theorem dX6_readOrder_88 : decode cX6_readOrder 88 = .ok (.iconst 0, 1) := by decide +kernel
theorem dX6_readOrder_89 : decode cX6_readOrder 89 = .ok (.ireturn, 1) := by decide +kernel
theorem dX6_readOrder_90 : decode cX6_readOrder 90 = .ok (.aload_n 0, 1) := by decide +kernel
theorem dX6_readOrder_91 : decode cX6_readOrder 91 = .ok (.aload_n 0, 1) := by decide +kernel
theorem dX6_readOrder_92 : decode cX6_readOrder 92 = .ok (.getfield 175, 3) := by decide +kernel
theorem dX6_readOrder_95 : decode cX6_readOrder 95 = .ok (.putfield 193, 3) := by decide +kernel
theorem dX6_readOrder_98 : decode cX6_readOrder 98 = .ok (.aload_n 0, 1) := by decide +kernel
theorem dX6_readOrder_99 : decode cX6_readOrder 99 = .ok (.getfield 190, 3) := by decide +kernel
theorem dX6_readOrder_102 : decode cX6_readOrder 102 = .ok (.bipush 98, 2) := by decide +kernel
theorem dX6_readOrder_104 : decode cX6_readOrder 104 = .ok (.if_icmp .ne 10, 3) := by decide +kernel
theorem dX6_readOrder_107 : decode cX6_readOrder 107 = .ok (.aload_n 0, 1) := by decide +kernel
theorem dX6_readOrder_108 : decode cX6_readOrder 108 = .ok (.invokevirtual 196, 3) := by decide +kernel
theorem dX6_readOrder_111 : decode cX6_readOrder 111 = .ok (.goto 63, 3) := by decide +kernel
theorem dX6_readOrder_114 : decode cX6_readOrder 114 = .ok (.aload_n 0, 1) := by decide +kernel
theorem dX6_readOrder_115 : decode cX6_readOrder 115 = .ok (.getfield 190, 3) := by decide +kernel
theorem dX6_readOrder_118 : decode cX6_readOrder 118 = .ok (.bipush 104, 2) := by decide +kernel
theorem dX6_readOrder_120 : decode cX6_readOrder 120 = .ok (.if_icmp .eq 12, 3) := by decide +kernel
theorem dX6_readOrder_123 : decode cX6_readOrder 123 = .ok (.aload_n 0, 1) := by decide +kernel
theorem dX6_readOrder_124 : decode cX6_readOrder 124 = .ok (.bipush 120, 2) := by decide +kernel
theorem dX6_readOrder_126 : decode cX6_readOrder 126 = .ok (.invokevirtual 184, 3) := by decide +kernel
theorem dX6_readOrder_129 : decode cX6_readOrder 129 = .ok (.ifCond .eq 44, 3) := by decide +kernel
theorem dX6_readOrder_132 : decode cX6_readOrder 132 = .ok (.aload_n 0, 1) := by decide +kernel
theorem dX6_readOrder_133 : decode cX6_readOrder 133 = .ok (.aload_n 0, 1) := by decide +kernel
theorem dX6_readOrder_134 : decode cX6_readOrder 134 = .ok (.getfield 190, 3) := by decide +kernel
theorem dX6_readOrder_137 : decode cX6_readOrder 137 = .ok (.bipush 115, 2) := by decide +kernel
theorem dX6_readOrder_139 : decode cX6_readOrder 139 = .ok (.if_icmp .ne 8, 3) := by decide +kernel
theorem dX6_readOrder_142 : decode cX6_readOrder 142 = .ok (.bipush 20, 2) := by decide +kernel
theorem dX6_readOrder_144 : decode cX6_readOrder 144 = .ok (.goto 19, 3) := by decide +kernel
theorem dX6_readOrder_147 : decode cX6_readOrder 147 = .ok (.aload_n 0, 1) := by decide +kernel
theorem dX6_readOrder_148 : decode cX6_readOrder 148 = .ok (.getfield 190, 3) := by decide +kernel
theorem dX6_readOrder_151 : decode cX6_readOrder 151 = .ok (.bipush 102, 2) := by decide +kernel
theorem dX6_readOrder_153 : decode cX6_readOrder 153 = .ok (.if_icmp .ne 8, 3) := by decide +kernel
theorem dX6_readOrder_156 : decode cX6_readOrder 156 = .ok (.bipush 30, 2) := by decide +kernel
theorem dX6_readOrder_158 : decode cX6_readOrder 158 = .ok (.goto 5, 3) := by decide +kernel
theorem dX6_readOrder_161 : decode cX6_readOrder 161 = .ok (.bipush 48, 2) := by decide +kernel
theorem dX6_readOrder_163 : decode cX6_readOrder 163 = .ok (.invokevirtual 200, 3) := by decide +kernel
theorem dX6_readOrder_166 : decode cX6_readOrder 166 = .ok (.ifCond .eq 7, 3) := by decide +kernel
theorem dX6_readOrder_169 : decode cX6_readOrder 169 = .ok (.iconst 1, 1) := by decide +kernel
theorem dX6_readOrder_170 : decode cX6_readOrder 170 = .ok (.goto 4, 3) := by decide +kernel
theorem dX6_readOrder_173 : decode cX6_readOrder 173 = .ok (.iconst 0, 1) := by decide +kernel
theorem dX6_readOrder_174 : decode cX6_readOrder 174 = .ok (.istore_n 1, 1) := by decide +kernel
theorem dX6_readOrder_175 : decode cX6_readOrder 175 = .ok (.iload_n 1, 1) := by decide +kernel
theorem dX6_readOrder_176 : decode cX6_readOrder 176 = .ok (.ifCond .eq 16, 3) := by decide +kernel
theorem dX6_readOrder_179 : decode cX6_readOrder 179 = .ok (.aload_n 0, 1) := by decide +kernel
theorem dX6_readOrder_180 : decode cX6_readOrder 180 = .ok (.bipush 59, 2) := by decide +kernel
theorem dX6_readOrder_182 : decode cX6_readOrder 182 = .ok (.invokevirtual 184, 3) := by decide +kernel
theorem dX6_readOrder_185 : decode cX6_readOrder 185 = .ok (.ifCond .eq 7, 3) := by decide +kernel
theorem dX6_readOrder_188 : decode cX6_readOrder 188 = .ok (.iconst 1, 1) := by decide +kernel
theorem dX6_readOrder_189 : decode cX6_readOrder 189 = .ok (.goto 4, 3) := by decide +kernel
theorem dX6_readOrder_192 : decode cX6_readOrder 192 = .ok (.iconst 0, 1) := by decide +kernel
theorem dX6_readOrder_193 : decode cX6_readOrder 193 = .ok (.ireturn, 1) := by decide +kernel
theorem dX6_does_0 : decode cX6_does 0 = .ok (.aload_n 0, 1) := by decide +kernel
theorem dX6_does_1 : decode cX6_does 1 = .ok (.getfield 190, 3) := by decide +kernel
theorem dX6_does_4 : decode cX6_does 4 = .ok (.lookupswitch 71 #[(102, 49), (104, 62), (115, 36)], 36) := by decide +kernel
theorem dX6_does_40 : decode cX6_does 40 = .ok (.aload_n 0, 1) := by decide +kernel
theorem dX6_does_41 : decode cX6_does 41 = .ok (.aload_n 0, 1) := by decide +kernel
theorem dX6_does_42 : decode cX6_does 42 = .ok (.getfield 193, 3) := by decide +kernel
theorem dX6_does_45 : decode cX6_does 45 = .ok (.aload_n 0, 1) := by decide +kernel
theorem dX6_does_46 : decode cX6_does 46 = .ok (.getfield 178, 3) := by decide +kernel
theorem dX6_does_49 : decode cX6_does 49 = .ok (.invokevirtual 104, 3) := by decide +kernel
theorem dX6_does_52 : decode cX6_does 52 = .ok (.ireturn, 1) := by decide +kernel
theorem dX6_does_53 : decode cX6_does 53 = .ok (.aload_n 0, 1) := by decide +kernel
theorem dX6_does_54 : decode cX6_does 54 = .ok (.aload_n 0, 1) := by decide +kernel
theorem dX6_does_55 : decode cX6_does 55 = .ok (.getfield 193, 3) := by decide +kernel
theorem dX6_does_58 : decode cX6_does 58 = .ok (.aload_n 0, 1) := by decide +kernel
theorem dX6_does_59 : decode cX6_does 59 = .ok (.getfield 178, 3) := by decide +kernel
theorem dX6_does_62 : decode cX6_does 62 = .ok (.invokevirtual 110, 3) := by decide +kernel
theorem dX6_does_65 : decode cX6_does 65 = .ok (.ireturn, 1) := by decide +kernel
theorem dX6_does_66 : decode cX6_does 66 = .ok (.aload_n 0, 1) := by decide +kernel
theorem dX6_does_67 : decode cX6_does 67 = .ok (.aload_n 0, 1) := by decide +kernel
theorem dX6_does_68 : decode cX6_does 68 = .ok (.getfield 178, 3) := by decide +kernel
theorem dX6_does_71 : decode cX6_does 71 = .ok (.invokevirtual 151, 3) := by decide +kernel
theorem dX6_does_74 : decode cX6_does 74 = .ok (.ireturn, 1) := by decide +kernel
theorem dX6_does_75 : decode cX6_does 75 = .ok (.aload_n 0, 1) := by decide +kernel
theorem dX6_does_76 : decode cX6_does 76 = .ok (.aload_n 0, 1) := by decide +kernel
theorem dX6_does_77 : decode cX6_does 77 = .ok (.getfield 193, 3) := by decide +kernel
theorem dX6_does_80 : decode cX6_does 80 = .ok (.invokevirtual 96, 3) := by decide +kernel
theorem dX6_does_83 : decode cX6_does 83 = .ok (.ifCond .eq 14, 3) := by decide +kernel
theorem dX6_does_86 : decode cX6_does 86 = .ok (.aload_n 0, 1) := by decide +kernel
theorem dX6_does_87 : decode cX6_does 87 = .ok (.aload_n 0, 1) := by decide +kernel
theorem dX6_does_88 : decode cX6_does 88 = .ok (.getfield 193, 3) := by decide +kernel
theorem dX6_does_91 : decode cX6_does 91 = .ok (.invokevirtual 134, 3) := by decide +kernel
theorem dX6_does_94 : decode cX6_does 94 = .ok (.goto 8, 3) := by decide +kernel
theorem dX6_does_97 : decode cX6_does 97 = .ok (.aload_n 0, 1) := by decide +kernel
theorem dX6_does_98 : decode cX6_does 98 = .ok (.iconst 1, 1) := by decide +kernel
theorem dX6_does_99 : decode cX6_does 99 = .ok (.invokevirtual 82, 3) := by decide +kernel
theorem dX6_does_102 : decode cX6_does 102 = .ok (.ireturn, 1) := by decide +kernel
theorem dX6_carryOut_0 : decode cX6_carryOut 0 = .ok (.aload_n 0, 1) := by decide +kernel
theorem dX6_carryOut_1 : decode cX6_carryOut 1 = .ok (.iconst 0, 1) := by decide +kernel
theorem dX6_carryOut_2 : decode cX6_carryOut 2 = .ok (.putfield 38, 3) := by decide +kernel
theorem dX6_carryOut_5 : decode cX6_carryOut 5 = .ok (.aload_n 0, 1) := by decide +kernel
theorem dX6_carryOut_6 : decode cX6_carryOut 6 = .ok (.iconst 0, 1) := by decide +kernel
theorem dX6_carryOut_7 : decode cX6_carryOut 7 = .ok (.putfield 169, 3) := by decide +kernel
theorem dX6_carryOut_10 : decode cX6_carryOut 10 = .ok (.aload_n 0, 1) := by decide +kernel
theorem dX6_carryOut_11 : decode cX6_carryOut 11 = .ok (.getfield 169, 3) := by decide +kernel
theorem dX6_carryOut_14 : decode cX6_carryOut 14 = .ok (.aload_n 0, 1) := by decide +kernel
theorem dX6_carryOut_15 : decode cX6_carryOut 15 = .ok (.getfield 166, 3) := by decide +kernel
theorem dX6_carryOut_18 : decode cX6_carryOut 18 = .ok (.if_icmp .ge 18, 3) := by decide +kernel
theorem dX6_carryOut_21 : decode cX6_carryOut 21 = .ok (.aload_n 0, 1) := by decide +kernel
theorem dX6_carryOut_22 : decode cX6_carryOut 22 = .ok (.invokevirtual 203, 3) := by decide +kernel
theorem dX6_carryOut_25 : decode cX6_carryOut 25 = .ok (.ifCond .ne (-15), 3) := by decide +kernel
theorem dX6_carryOut_28 : decode cX6_carryOut 28 = .ok (.bipush (-10), 2) := by decide +kernel
theorem dX6_carryOut_30 : decode cX6_carryOut 30 = .ok (.aload_n 0, 1) := by decide +kernel
theorem dX6_carryOut_31 : decode cX6_carryOut 31 = .ok (.getfield 169, 3) := by decide +kernel
theorem dX6_carryOut_34 : decode cX6_carryOut 34 = .ok (.isub, 1) := by decide +kernel
theorem dX6_carryOut_35 : decode cX6_carryOut 35 = .ok (.ireturn, 1) := by decide +kernel
theorem dX6_carryOut_36 : decode cX6_carryOut 36 = .ok (.aload_n 0, 1) := by decide +kernel
theorem dX6_carryOut_37 : decode cX6_carryOut 37 = .ok (.invokevirtual 76, 3) := by decide +kernel
theorem dX6_carryOut_40 : decode cX6_carryOut 40 = .ok (.aload_n 0, 1) := by decide +kernel
theorem dX6_carryOut_41 : decode cX6_carryOut 41 = .ok (.iconst 0, 1) := by decide +kernel
theorem dX6_carryOut_42 : decode cX6_carryOut 42 = .ok (.putfield 169, 3) := by decide +kernel
theorem dX6_carryOut_45 : decode cX6_carryOut 45 = .ok (.iconst 0, 1) := by decide +kernel
theorem dX6_carryOut_46 : decode cX6_carryOut 46 = .ok (.istore_n 1, 1) := by decide +kernel
theorem dX6_carryOut_47 : decode cX6_carryOut 47 = .ok (.aload_n 0, 1) := by decide +kernel
theorem dX6_carryOut_48 : decode cX6_carryOut 48 = .ok (.getfield 169, 3) := by decide +kernel
theorem dX6_carryOut_51 : decode cX6_carryOut 51 = .ok (.aload_n 0, 1) := by decide +kernel
theorem dX6_carryOut_52 : decode cX6_carryOut 52 = .ok (.getfield 166, 3) := by decide +kernel
theorem dX6_carryOut_55 : decode cX6_carryOut 55 = .ok (.if_icmp .ge 42, 3) := by decide +kernel
theorem dX6_carryOut_58 : decode cX6_carryOut 58 = .ok (.aload_n 0, 1) := by decide +kernel
theorem dX6_carryOut_59 : decode cX6_carryOut 59 = .ok (.getfield 52, 3) := by decide +kernel
theorem dX6_carryOut_62 : decode cX6_carryOut 62 = .ok (.ifCond .ne 35, 3) := by decide +kernel
theorem dX6_carryOut_65 : decode cX6_carryOut 65 = .ok (.aload_n 0, 1) := by decide +kernel
theorem dX6_carryOut_66 : decode cX6_carryOut 66 = .ok (.invokevirtual 203, 3) := by decide +kernel
theorem dX6_carryOut_69 : decode cX6_carryOut 69 = .ok (.istore_n 2, 1) := by decide +kernel
theorem dX6_carryOut_70 : decode cX6_carryOut 70 = .ok (.aload_n 0, 1) := by decide +kernel
theorem dX6_carryOut_71 : decode cX6_carryOut 71 = .ok (.invokevirtual 206, 3) := by decide +kernel
theorem dX6_carryOut_74 : decode cX6_carryOut 74 = .ok (.istore_n 3, 1) := by decide +kernel
theorem dX6_carryOut_75 : decode cX6_carryOut 75 = .ok (.iload_n 1, 1) := by decide +kernel
theorem dX6_carryOut_76 : decode cX6_carryOut 76 = .ok (.iload_n 2, 1) := by decide +kernel
theorem dX6_carryOut_77 : decode cX6_carryOut 77 = .ok (.ifCond .eq 14, 3) := by decide +kernel
theorem dX6_carryOut_80 : decode cX6_carryOut 80 = .ok (.aload_n 0, 1) := by decide +kernel
theorem dX6_carryOut_81 : decode cX6_carryOut 81 = .ok (.getfield 52, 3) := by decide +kernel
theorem dX6_carryOut_84 : decode cX6_carryOut 84 = .ok (.ifCond .ne 7, 3) := by decide +kernel
theorem dX6_carryOut_87 : decode cX6_carryOut 87 = .ok (.iconst 1, 1) := by decide +kernel
theorem dX6_carryOut_88 : decode cX6_carryOut 88 = .ok (.goto 4, 3) := by decide +kernel
theorem dX6_carryOut_91 : decode cX6_carryOut 91 = .ok (.iconst 0, 1) := by decide +kernel
theorem dX6_carryOut_92 : decode cX6_carryOut 92 = .ok (.iadd, 1) := by decide +kernel
theorem dX6_carryOut_93 : decode cX6_carryOut 93 = .ok (.istore_n 1, 1) := by decide +kernel
theorem dX6_carryOut_94 : decode cX6_carryOut 94 = .ok (.goto (-47), 3) := by decide +kernel
theorem dX6_carryOut_97 : decode cX6_carryOut 97 = .ok (.aload_n 0, 1) := by decide +kernel
theorem dX6_carryOut_98 : decode cX6_carryOut 98 = .ok (.iconst 0, 1) := by decide +kernel
theorem dX6_carryOut_99 : decode cX6_carryOut 99 = .ok (.putfield 52, 3) := by decide +kernel
theorem dX6_carryOut_102 : decode cX6_carryOut 102 = .ok (.aload_n 0, 1) := by decide +kernel
theorem dX6_carryOut_103 : decode cX6_carryOut 103 = .ok (.iload_n 1, 1) := by decide +kernel
theorem dX6_carryOut_104 : decode cX6_carryOut 104 = .ok (.invokevirtual 85, 3) := by decide +kernel
theorem dX6_carryOut_107 : decode cX6_carryOut 107 = .ok (.ireturn, 1) := by decide +kernel
theorem dX6_undo_0 : decode cX6_undo 0 = .ok (.aload_n 0, 1) := by decide +kernel
theorem dX6_undo_1 : decode cX6_undo 1 = .ok (.iconst 0, 1) := by decide +kernel
theorem dX6_undo_2 : decode cX6_undo 2 = .ok (.putfield 38, 3) := by decide +kernel
theorem dX6_undo_5 : decode cX6_undo 5 = .ok (.aload_n 0, 1) := by decide +kernel
theorem dX6_undo_6 : decode cX6_undo 6 = .ok (.getfield 59, 3) := by decide +kernel
theorem dX6_undo_9 : decode cX6_undo 9 = .ok (.ifCond .ne 9, 3) := by decide +kernel
theorem dX6_undo_12 : decode cX6_undo 12 = .ok (.aload_n 0, 1) := by decide +kernel
theorem dX6_undo_13 : decode cX6_undo 13 = .ok (.iconst 1, 1) := by decide +kernel
theorem dX6_undo_14 : decode cX6_undo 14 = .ok (.invokevirtual 154, 3) := by decide +kernel
theorem dX6_undo_17 : decode cX6_undo 17 = .ok (.ireturn, 1) := by decide +kernel
theorem dX6_undo_18 : decode cX6_undo 18 = .ok (.aload_n 0, 1) := by decide +kernel
theorem dX6_undo_19 : decode cX6_undo 19 = .ok (.dup, 1) := by decide +kernel
theorem dX6_undo_20 : decode cX6_undo 20 = .ok (.getfield 59, 3) := by decide +kernel
theorem dX6_undo_23 : decode cX6_undo 23 = .ok (.iconst 1, 1) := by decide +kernel
theorem dX6_undo_24 : decode cX6_undo 24 = .ok (.isub, 1) := by decide +kernel
theorem dX6_undo_25 : decode cX6_undo 25 = .ok (.putfield 59, 3) := by decide +kernel
theorem dX6_undo_28 : decode cX6_undo 28 = .ok (.aload_n 0, 1) := by decide +kernel
theorem dX6_undo_29 : decode cX6_undo 29 = .ok (.getfield 19, 3) := by decide +kernel
theorem dX6_undo_32 : decode cX6_undo 32 = .ok (.sipush 311, 3) := by decide +kernel
theorem dX6_undo_35 : decode cX6_undo 35 = .ok (.aload_n 0, 1) := by decide +kernel
theorem dX6_undo_36 : decode cX6_undo 36 = .ok (.getfield 59, 3) := by decide +kernel
theorem dX6_undo_39 : decode cX6_undo 39 = .ok (.imul, 1) := by decide +kernel
theorem dX6_undo_40 : decode cX6_undo 40 = .ok (.aload_n 0, 1) := by decide +kernel
theorem dX6_undo_41 : decode cX6_undo 41 = .ok (.getfield 7, 3) := by decide +kernel
theorem dX6_undo_44 : decode cX6_undo 44 = .ok (.iconst 0, 1) := by decide +kernel
theorem dX6_undo_45 : decode cX6_undo 45 = .ok (.invokestatic 55, 3) := by decide +kernel
theorem dX6_undo_48 : decode cX6_undo 48 = .ok (.aload_n 0, 1) := by decide +kernel
theorem dX6_undo_49 : decode cX6_undo 49 = .ok (.getfield 59, 3) := by decide +kernel
theorem dX6_undo_52 : decode cX6_undo 52 = .ok (.ireturn, 1) := by decide +kernel
theorem dX6_mix_0 : decode cX6_mix 0 = .ok (.aload_n 0, 1) := by decide +kernel
theorem dX6_mix_1 : decode cX6_mix 1 = .ok (.ldc2_w 209, 3) := by decide +kernel
theorem dX6_mix_4 : decode cX6_mix 4 = .ok (.aload_n 0, 1) := by decide +kernel
theorem dX6_mix_5 : decode cX6_mix 5 = .ok (.getfield 211, 3) := by decide +kernel
theorem dX6_mix_8 : decode cX6_mix 8 = .ok (.lmul, 1) := by decide +kernel
theorem dX6_mix_9 : decode cX6_mix 9 = .ok (.iload_n 1, 1) := by decide +kernel
theorem dX6_mix_10 : decode cX6_mix 10 = .ok (.i2l, 1) := by decide +kernel
theorem dX6_mix_11 : decode cX6_mix 11 = .ok (.ladd, 1) := by decide +kernel
theorem dX6_mix_12 : decode cX6_mix 12 = .ok (.putfield 211, 3) := by decide +kernel
theorem dX6_mix_15 : decode cX6_mix 15 = .ok (.return_, 1) := by decide +kernel
theorem dX6_digest_0 : decode cX6_digest 0 = .ok (.aload_n 0, 1) := by decide +kernel
theorem dX6_digest_1 : decode cX6_digest 1 = .ok (.iconst 0, 1) := by decide +kernel
theorem dX6_digest_2 : decode cX6_digest 2 = .ok (.putfield 38, 3) := by decide +kernel
theorem dX6_digest_5 : decode cX6_digest 5 = .ok (.aload_n 0, 1) := by decide +kernel
theorem dX6_digest_6 : decode cX6_digest 6 = .ok (.ldc2_w 215, 3) := by decide +kernel
theorem dX6_digest_9 : decode cX6_digest 9 = .ok (.putfield 211, 3) := by decide +kernel
theorem dX6_digest_12 : decode cX6_digest 12 = .ok (.aload_n 0, 1) := by decide +kernel
theorem dX6_digest_13 : decode cX6_digest 13 = .ok (.aload_n 0, 1) := by decide +kernel
theorem dX6_digest_14 : decode cX6_digest 14 = .ok (.getfield 166, 3) := by decide +kernel
theorem dX6_digest_17 : decode cX6_digest 17 = .ok (.invokevirtual 217, 3) := by decide +kernel
theorem dX6_digest_20 : decode cX6_digest 20 = .ok (.iconst 0, 1) := by decide +kernel
theorem dX6_digest_21 : decode cX6_digest 21 = .ok (.istore_n 1, 1) := by decide +kernel
theorem dX6_digest_22 : decode cX6_digest 22 = .ok (.iload_n 1, 1) := by decide +kernel
theorem dX6_digest_23 : decode cX6_digest 23 = .ok (.bipush 11, 2) := by decide +kernel
theorem dX6_digest_25 : decode cX6_digest 25 = .ok (.if_icmp .ge 18, 3) := by decide +kernel
theorem dX6_digest_28 : decode cX6_digest 28 = .ok (.aload_n 0, 1) := by decide +kernel
theorem dX6_digest_29 : decode cX6_digest 29 = .ok (.aload_n 0, 1) := by decide +kernel
theorem dX6_digest_30 : decode cX6_digest 30 = .ok (.iload_n 1, 1) := by decide +kernel
theorem dX6_digest_31 : decode cX6_digest 31 = .ok (.invokevirtual 163, 3) := by decide +kernel
theorem dX6_digest_34 : decode cX6_digest 34 = .ok (.invokevirtual 217, 3) := by decide +kernel
theorem dX6_digest_37 : decode cX6_digest 37 = .ok (.iinc 1 1, 3) := by decide +kernel
theorem dX6_digest_40 : decode cX6_digest 40 = .ok (.goto (-18), 3) := by decide +kernel
theorem dX6_digest_43 : decode cX6_digest 43 = .ok (.iconst 0, 1) := by decide +kernel
theorem dX6_digest_44 : decode cX6_digest 44 = .ok (.istore_n 1, 1) := by decide +kernel
theorem dX6_digest_45 : decode cX6_digest 45 = .ok (.iload_n 1, 1) := by decide +kernel
theorem dX6_digest_46 : decode cX6_digest 46 = .ok (.bipush 9, 2) := by decide +kernel
theorem dX6_digest_48 : decode cX6_digest 48 = .ok (.if_icmp .ge 21, 3) := by decide +kernel
theorem dX6_digest_51 : decode cX6_digest 51 = .ok (.aload_n 0, 1) := by decide +kernel
theorem dX6_digest_52 : decode cX6_digest 52 = .ok (.aload_n 0, 1) := by decide +kernel
theorem dX6_digest_53 : decode cX6_digest 53 = .ok (.getfield 7, 3) := by decide +kernel
theorem dX6_digest_56 : decode cX6_digest 56 = .ok (.iconst 0, 1) := by decide +kernel
theorem dX6_digest_57 : decode cX6_digest 57 = .ok (.iload_n 1, 1) := by decide +kernel
theorem dX6_digest_58 : decode cX6_digest 58 = .ok (.iadd, 1) := by decide +kernel
theorem dX6_digest_59 : decode cX6_digest 59 = .ok (.iaload, 1) := by decide +kernel
theorem dX6_digest_60 : decode cX6_digest 60 = .ok (.invokevirtual 217, 3) := by decide +kernel
theorem dX6_digest_63 : decode cX6_digest 63 = .ok (.iinc 1 1, 3) := by decide +kernel
theorem dX6_digest_66 : decode cX6_digest 66 = .ok (.goto (-21), 3) := by decide +kernel
theorem dX6_digest_69 : decode cX6_digest 69 = .ok (.iconst 0, 1) := by decide +kernel
theorem dX6_digest_70 : decode cX6_digest 70 = .ok (.istore_n 1, 1) := by decide +kernel
theorem dX6_digest_71 : decode cX6_digest 71 = .ok (.iload_n 1, 1) := by decide +kernel
theorem dX6_digest_72 : decode cX6_digest 72 = .ok (.aload_n 0, 1) := by decide +kernel
theorem dX6_digest_73 : decode cX6_digest 73 = .ok (.getfield 7, 3) := by decide +kernel
theorem dX6_digest_76 : decode cX6_digest 76 = .ok (.bipush 13, 2) := by decide +kernel
theorem dX6_digest_78 : decode cX6_digest 78 = .ok (.iaload, 1) := by decide +kernel
theorem dX6_digest_79 : decode cX6_digest 79 = .ok (.if_icmp .ge 33, 3) := by decide +kernel
theorem dX6_digest_82 : decode cX6_digest 82 = .ok (.iconst 0, 1) := by decide +kernel
theorem dX6_digest_83 : decode cX6_digest 83 = .ok (.istore_n 2, 1) := by decide +kernel
theorem dX6_digest_84 : decode cX6_digest 84 = .ok (.iload_n 2, 1) := by decide +kernel
theorem dX6_digest_85 : decode cX6_digest 85 = .ok (.bipush 11, 2) := by decide +kernel
theorem dX6_digest_87 : decode cX6_digest 87 = .ok (.if_icmp .ge 19, 3) := by decide +kernel
theorem dX6_digest_90 : decode cX6_digest 90 = .ok (.aload_n 0, 1) := by decide +kernel
theorem dX6_digest_91 : decode cX6_digest 91 = .ok (.aload_n 0, 1) := by decide +kernel
theorem dX6_digest_92 : decode cX6_digest 92 = .ok (.iload_n 1, 1) := by decide +kernel
theorem dX6_digest_93 : decode cX6_digest 93 = .ok (.iload_n 2, 1) := by decide +kernel
theorem dX6_digest_94 : decode cX6_digest 94 = .ok (.invokevirtual 100, 3) := by decide +kernel
theorem dX6_digest_97 : decode cX6_digest 97 = .ok (.invokevirtual 217, 3) := by decide +kernel
theorem dX6_digest_100 : decode cX6_digest 100 = .ok (.iinc 2 1, 3) := by decide +kernel
theorem dX6_digest_103 : decode cX6_digest 103 = .ok (.goto (-19), 3) := by decide +kernel
theorem dX6_digest_106 : decode cX6_digest 106 = .ok (.iinc 1 1, 3) := by decide +kernel
theorem dX6_digest_109 : decode cX6_digest 109 = .ok (.goto (-38), 3) := by decide +kernel
theorem dX6_digest_112 : decode cX6_digest 112 = .ok (.iconst 0, 1) := by decide +kernel
theorem dX6_digest_113 : decode cX6_digest 113 = .ok (.istore_n 1, 1) := by decide +kernel
theorem dX6_digest_114 : decode cX6_digest 114 = .ok (.iload_n 1, 1) := by decide +kernel
theorem dX6_digest_115 : decode cX6_digest 115 = .ok (.aload_n 0, 1) := by decide +kernel
theorem dX6_digest_116 : decode cX6_digest 116 = .ok (.getfield 7, 3) := by decide +kernel
theorem dX6_digest_119 : decode cX6_digest 119 = .ok (.bipush 14, 2) := by decide +kernel
theorem dX6_digest_121 : decode cX6_digest 121 = .ok (.iaload, 1) := by decide +kernel
theorem dX6_digest_122 : decode cX6_digest 122 = .ok (.if_icmp .ge 22, 3) := by decide +kernel
theorem dX6_digest_125 : decode cX6_digest 125 = .ok (.aload_n 0, 1) := by decide +kernel
theorem dX6_digest_126 : decode cX6_digest 126 = .ok (.aload_n 0, 1) := by decide +kernel
theorem dX6_digest_127 : decode cX6_digest 127 = .ok (.getfield 7, 3) := by decide +kernel
theorem dX6_digest_130 : decode cX6_digest 130 = .ok (.bipush 111, 2) := by decide +kernel
theorem dX6_digest_132 : decode cX6_digest 132 = .ok (.iload_n 1, 1) := by decide +kernel
theorem dX6_digest_133 : decode cX6_digest 133 = .ok (.iadd, 1) := by decide +kernel
theorem dX6_digest_134 : decode cX6_digest 134 = .ok (.iaload, 1) := by decide +kernel
theorem dX6_digest_135 : decode cX6_digest 135 = .ok (.invokevirtual 217, 3) := by decide +kernel
theorem dX6_digest_138 : decode cX6_digest 138 = .ok (.iinc 1 1, 3) := by decide +kernel
theorem dX6_digest_141 : decode cX6_digest 141 = .ok (.goto (-27), 3) := by decide +kernel
theorem dX6_digest_144 : decode cX6_digest 144 = .ok (.aload_n 0, 1) := by decide +kernel
theorem dX6_digest_145 : decode cX6_digest 145 = .ok (.aload_n 0, 1) := by decide +kernel
theorem dX6_digest_146 : decode cX6_digest 146 = .ok (.getfield 59, 3) := by decide +kernel
theorem dX6_digest_149 : decode cX6_digest 149 = .ok (.invokevirtual 217, 3) := by decide +kernel
theorem dX6_digest_152 : decode cX6_digest 152 = .ok (.aload_n 0, 1) := by decide +kernel
theorem dX6_digest_153 : decode cX6_digest 153 = .ok (.getfield 211, 3) := by decide +kernel
theorem dX6_digest_156 : decode cX6_digest 156 = .ok (.lreturn, 1) := by decide +kernel
end
section
theorem dL_set_0 : decode cL_set 0 = .ok (.aload_n 3, 1) := by decide +kernel
theorem dL_set_1 : decode cL_set 1 = .ok (.iconst 0, 1) := by decide +kernel
theorem dL_set_2 : decode cL_set 2 = .ok (.aload_n 0, 1) := by decide +kernel
theorem dL_set_3 : decode cL_set 3 = .ok (.iload_n 1, 1) := by decide +kernel
theorem dL_set_4 : decode cL_set 4 = .ok (.iload_n 2, 1) := by decide +kernel
theorem dL_set_5 : decode cL_set 5 = .ok (.invokevirtual 7, 3) := by decide +kernel
theorem dL_set_8 : decode cL_set 8 = .ok (.i2l, 1) := by decide +kernel
theorem dL_set_9 : decode cL_set 9 = .ok (.lastore, 1) := by decide +kernel
theorem dL_set_10 : decode cL_set 10 = .ok (.goto 7, 3) := by decide +kernel
theorem dL_set_13 : decode cL_set 13 = .ok (.astore 4, 2) := by decide +kernel
theorem dL_set_15 : decode cL_set 15 = .ok (.iconst 1, 1) := by decide +kernel
theorem dL_set_16 : decode cL_set 16 = .ok (.ireturn, 1) := by decide +kernel
theorem dL_set_17 : decode cL_set 17 = .ok (.iconst 0, 1) := by decide +kernel
theorem dL_set_18 : decode cL_set 18 = .ok (.ireturn, 1) := by decide +kernel
theorem dL_addCoil_0 : decode cL_addCoil 0 = .ok (.aload 4, 2) := by decide +kernel
theorem dL_addCoil_2 : decode cL_addCoil 2 = .ok (.iconst 0, 1) := by decide +kernel
theorem dL_addCoil_3 : decode cL_addCoil 3 = .ok (.aload_n 0, 1) := by decide +kernel
theorem dL_addCoil_4 : decode cL_addCoil 4 = .ok (.iload_n 1, 1) := by decide +kernel
theorem dL_addCoil_5 : decode cL_addCoil 5 = .ok (.iload_n 2, 1) := by decide +kernel
theorem dL_addCoil_6 : decode cL_addCoil 6 = .ok (.iload_n 3, 1) := by decide +kernel
theorem dL_addCoil_7 : decode cL_addCoil 7 = .ok (.invokevirtual 15, 3) := by decide +kernel
theorem dL_addCoil_10 : decode cL_addCoil 10 = .ok (.i2l, 1) := by decide +kernel
theorem dL_addCoil_11 : decode cL_addCoil 11 = .ok (.lastore, 1) := by decide +kernel
theorem dL_addCoil_12 : decode cL_addCoil 12 = .ok (.goto 11, 3) := by decide +kernel
theorem dL_addCoil_15 : decode cL_addCoil 15 = .ok (.astore 5, 2) := by decide +kernel
theorem dL_addCoil_17 : decode cL_addCoil 17 = .ok (.iconst 1, 1) := by decide +kernel
theorem dL_addCoil_18 : decode cL_addCoil 18 = .ok (.ireturn, 1) := by decide +kernel
theorem dL_addCoil_19 : decode cL_addCoil 19 = .ok (.astore 5, 2) := by decide +kernel
theorem dL_addCoil_21 : decode cL_addCoil 21 = .ok (.iconst 2, 1) := by decide +kernel
theorem dL_addCoil_22 : decode cL_addCoil 22 = .ok (.ireturn, 1) := by decide +kernel
theorem dL_addCoil_23 : decode cL_addCoil 23 = .ok (.iconst 0, 1) := by decide +kernel
theorem dL_addCoil_24 : decode cL_addCoil 24 = .ok (.ireturn, 1) := by decide +kernel
theorem dL_stock_0 : decode cL_stock 0 = .ok (.aload_n 3, 1) := by decide +kernel
theorem dL_stock_1 : decode cL_stock 1 = .ok (.iconst 0, 1) := by decide +kernel
theorem dL_stock_2 : decode cL_stock 2 = .ok (.aload_n 0, 1) := by decide +kernel
theorem dL_stock_3 : decode cL_stock 3 = .ok (.iload_n 1, 1) := by decide +kernel
theorem dL_stock_4 : decode cL_stock 4 = .ok (.iload_n 2, 1) := by decide +kernel
theorem dL_stock_5 : decode cL_stock 5 = .ok (.invokevirtual 21, 3) := by decide +kernel
theorem dL_stock_8 : decode cL_stock 8 = .ok (.i2l, 1) := by decide +kernel
theorem dL_stock_9 : decode cL_stock 9 = .ok (.lastore, 1) := by decide +kernel
theorem dL_stock_10 : decode cL_stock 10 = .ok (.goto 15, 3) := by decide +kernel
theorem dL_stock_13 : decode cL_stock 13 = .ok (.astore 4, 2) := by decide +kernel
theorem dL_stock_15 : decode cL_stock 15 = .ok (.iconst 1, 1) := by decide +kernel
theorem dL_stock_16 : decode cL_stock 16 = .ok (.ireturn, 1) := by decide +kernel
theorem dL_stock_17 : decode cL_stock 17 = .ok (.astore 4, 2) := by decide +kernel
theorem dL_stock_19 : decode cL_stock 19 = .ok (.iconst 2, 1) := by decide +kernel
theorem dL_stock_20 : decode cL_stock 20 = .ok (.ireturn, 1) := by decide +kernel
theorem dL_stock_21 : decode cL_stock 21 = .ok (.astore 4, 2) := by decide +kernel
theorem dL_stock_23 : decode cL_stock 23 = .ok (.iconst 3, 1) := by decide +kernel
theorem dL_stock_24 : decode cL_stock 24 = .ok (.ireturn, 1) := by decide +kernel
theorem dL_stock_25 : decode cL_stock 25 = .ok (.iconst 0, 1) := by decide +kernel
theorem dL_stock_26 : decode cL_stock 26 = .ok (.ireturn, 1) := by decide +kernel
theorem dL_fill_0 : decode cL_fill 0 = .ok (.aload_n 3, 1) := by decide +kernel
theorem dL_fill_1 : decode cL_fill 1 = .ok (.iconst 0, 1) := by decide +kernel
theorem dL_fill_2 : decode cL_fill 2 = .ok (.aload_n 0, 1) := by decide +kernel
theorem dL_fill_3 : decode cL_fill 3 = .ok (.iload_n 1, 1) := by decide +kernel
theorem dL_fill_4 : decode cL_fill 4 = .ok (.iload_n 2, 1) := by decide +kernel
theorem dL_fill_5 : decode cL_fill 5 = .ok (.invokevirtual 26, 3) := by decide +kernel
theorem dL_fill_8 : decode cL_fill 8 = .ok (.i2l, 1) := by decide +kernel
theorem dL_fill_9 : decode cL_fill 9 = .ok (.lastore, 1) := by decide +kernel
theorem dL_fill_10 : decode cL_fill 10 = .ok (.goto 11, 3) := by decide +kernel
theorem dL_fill_13 : decode cL_fill 13 = .ok (.astore 4, 2) := by decide +kernel
theorem dL_fill_15 : decode cL_fill 15 = .ok (.iconst 1, 1) := by decide +kernel
theorem dL_fill_16 : decode cL_fill 16 = .ok (.ireturn, 1) := by decide +kernel
theorem dL_fill_17 : decode cL_fill 17 = .ok (.astore 4, 2) := by decide +kernel
theorem dL_fill_19 : decode cL_fill 19 = .ok (.iconst 2, 1) := by decide +kernel
theorem dL_fill_20 : decode cL_fill 20 = .ok (.ireturn, 1) := by decide +kernel
theorem dL_fill_21 : decode cL_fill 21 = .ok (.iconst 0, 1) := by decide +kernel
theorem dL_fill_22 : decode cL_fill 22 = .ok (.ireturn, 1) := by decide +kernel
theorem dL_buy_0 : decode cL_buy 0 = .ok (.aload 6, 2) := by decide +kernel
theorem dL_buy_2 : decode cL_buy 2 = .ok (.iconst 0, 1) := by decide +kernel
theorem dL_buy_3 : decode cL_buy 3 = .ok (.aload_n 0, 1) := by decide +kernel
theorem dL_buy_4 : decode cL_buy 4 = .ok (.iload_n 1, 1) := by decide +kernel
theorem dL_buy_5 : decode cL_buy 5 = .ok (.iload_n 2, 1) := by decide +kernel
theorem dL_buy_6 : decode cL_buy 6 = .ok (.iload_n 3, 1) := by decide +kernel
theorem dL_buy_7 : decode cL_buy 7 = .ok (.iload 4, 2) := by decide +kernel
theorem dL_buy_9 : decode cL_buy 9 = .ok (.iload 5, 2) := by decide +kernel
theorem dL_buy_11 : decode cL_buy 11 = .ok (.invokevirtual 29, 3) := by decide +kernel
theorem dL_buy_14 : decode cL_buy 14 = .ok (.i2l, 1) := by decide +kernel
theorem dL_buy_15 : decode cL_buy 15 = .ok (.lastore, 1) := by decide +kernel
theorem dL_buy_16 : decode cL_buy 16 = .ok (.goto 15, 3) := by decide +kernel
theorem dL_buy_19 : decode cL_buy 19 = .ok (.astore 7, 2) := by decide +kernel
theorem dL_buy_21 : decode cL_buy 21 = .ok (.iconst 1, 1) := by decide +kernel
theorem dL_buy_22 : decode cL_buy 22 = .ok (.ireturn, 1) := by decide +kernel
theorem dL_buy_23 : decode cL_buy 23 = .ok (.astore 7, 2) := by decide +kernel
theorem dL_buy_25 : decode cL_buy 25 = .ok (.iconst 2, 1) := by decide +kernel
theorem dL_buy_26 : decode cL_buy 26 = .ok (.ireturn, 1) := by decide +kernel
theorem dL_buy_27 : decode cL_buy 27 = .ok (.astore 7, 2) := by decide +kernel
theorem dL_buy_29 : decode cL_buy 29 = .ok (.iconst 3, 1) := by decide +kernel
theorem dL_buy_30 : decode cL_buy 30 = .ok (.ireturn, 1) := by decide +kernel
theorem dL_buy_31 : decode cL_buy 31 = .ok (.iconst 0, 1) := by decide +kernel
theorem dL_buy_32 : decode cL_buy 32 = .ok (.ireturn, 1) := by decide +kernel
theorem dL_look_0 : decode cL_look 0 = .ok (.aload_n 2, 1) := by decide +kernel
theorem dL_look_1 : decode cL_look 1 = .ok (.iconst 0, 1) := by decide +kernel
theorem dL_look_2 : decode cL_look 2 = .ok (.aload_n 0, 1) := by decide +kernel
theorem dL_look_3 : decode cL_look 3 = .ok (.iload_n 1, 1) := by decide +kernel
theorem dL_look_4 : decode cL_look 4 = .ok (.invokevirtual 33, 3) := by decide +kernel
theorem dL_look_7 : decode cL_look 7 = .ok (.i2l, 1) := by decide +kernel
theorem dL_look_8 : decode cL_look 8 = .ok (.lastore, 1) := by decide +kernel
theorem dL_look_9 : decode cL_look 9 = .ok (.goto 6, 3) := by decide +kernel
theorem dL_look_12 : decode cL_look 12 = .ok (.astore_n 3, 1) := by decide +kernel
theorem dL_look_13 : decode cL_look 13 = .ok (.iconst 1, 1) := by decide +kernel
theorem dL_look_14 : decode cL_look 14 = .ok (.ireturn, 1) := by decide +kernel
theorem dL_look_15 : decode cL_look 15 = .ok (.iconst 0, 1) := by decide +kernel
theorem dL_look_16 : decode cL_look 16 = .ok (.ireturn, 1) := by decide +kernel
theorem dL_pass_0 : decode cL_pass 0 = .ok (.aload_n 2, 1) := by decide +kernel
theorem dL_pass_1 : decode cL_pass 1 = .ok (.iconst 0, 1) := by decide +kernel
theorem dL_pass_2 : decode cL_pass 2 = .ok (.aload_n 0, 1) := by decide +kernel
theorem dL_pass_3 : decode cL_pass 3 = .ok (.iload_n 1, 1) := by decide +kernel
theorem dL_pass_4 : decode cL_pass 4 = .ok (.invokevirtual 37, 3) := by decide +kernel
theorem dL_pass_7 : decode cL_pass 7 = .ok (.i2l, 1) := by decide +kernel
theorem dL_pass_8 : decode cL_pass 8 = .ok (.lastore, 1) := by decide +kernel
theorem dL_pass_9 : decode cL_pass 9 = .ok (.goto 9, 3) := by decide +kernel
theorem dL_pass_12 : decode cL_pass 12 = .ok (.astore_n 3, 1) := by decide +kernel
theorem dL_pass_13 : decode cL_pass 13 = .ok (.iconst 1, 1) := by decide +kernel
theorem dL_pass_14 : decode cL_pass 14 = .ok (.ireturn, 1) := by decide +kernel
theorem dL_pass_15 : decode cL_pass 15 = .ok (.astore_n 3, 1) := by decide +kernel
theorem dL_pass_16 : decode cL_pass 16 = .ok (.iconst 2, 1) := by decide +kernel
theorem dL_pass_17 : decode cL_pass 17 = .ok (.ireturn, 1) := by decide +kernel
theorem dL_pass_18 : decode cL_pass 18 = .ok (.iconst 0, 1) := by decide +kernel
theorem dL_pass_19 : decode cL_pass 19 = .ok (.ireturn, 1) := by decide +kernel
theorem dL_coil_0 : decode cL_coil 0 = .ok (.aload_n 3, 1) := by decide +kernel
theorem dL_coil_1 : decode cL_coil 1 = .ok (.iconst 0, 1) := by decide +kernel
theorem dL_coil_2 : decode cL_coil 2 = .ok (.aload_n 0, 1) := by decide +kernel
theorem dL_coil_3 : decode cL_coil 3 = .ok (.iload_n 1, 1) := by decide +kernel
theorem dL_coil_4 : decode cL_coil 4 = .ok (.iload_n 2, 1) := by decide +kernel
theorem dL_coil_5 : decode cL_coil 5 = .ok (.invokevirtual 40, 3) := by decide +kernel
theorem dL_coil_8 : decode cL_coil 8 = .ok (.i2l, 1) := by decide +kernel
theorem dL_coil_9 : decode cL_coil 9 = .ok (.lastore, 1) := by decide +kernel
theorem dL_coil_10 : decode cL_coil 10 = .ok (.goto 11, 3) := by decide +kernel
theorem dL_coil_13 : decode cL_coil 13 = .ok (.astore 4, 2) := by decide +kernel
theorem dL_coil_15 : decode cL_coil 15 = .ok (.iconst 1, 1) := by decide +kernel
theorem dL_coil_16 : decode cL_coil 16 = .ok (.ireturn, 1) := by decide +kernel
theorem dL_coil_17 : decode cL_coil 17 = .ok (.astore 4, 2) := by decide +kernel
theorem dL_coil_19 : decode cL_coil 19 = .ok (.iconst 2, 1) := by decide +kernel
theorem dL_coil_20 : decode cL_coil 20 = .ok (.ireturn, 1) := by decide +kernel
theorem dL_coil_21 : decode cL_coil 21 = .ok (.iconst 0, 1) := by decide +kernel
theorem dL_coil_22 : decode cL_coil 22 = .ok (.ireturn, 1) := by decide +kernel
theorem dL_demand_0 : decode cL_demand 0 = .ok (.aload_n 2, 1) := by decide +kernel
theorem dL_demand_1 : decode cL_demand 1 = .ok (.iconst 0, 1) := by decide +kernel
theorem dL_demand_2 : decode cL_demand 2 = .ok (.aload_n 0, 1) := by decide +kernel
theorem dL_demand_3 : decode cL_demand 3 = .ok (.iload_n 1, 1) := by decide +kernel
theorem dL_demand_4 : decode cL_demand 4 = .ok (.invokevirtual 43, 3) := by decide +kernel
theorem dL_demand_7 : decode cL_demand 7 = .ok (.f2d, 1) := by decide +kernel
theorem dL_demand_8 : decode cL_demand 8 = .ok (.dastore, 1) := by decide +kernel
theorem dL_demand_9 : decode cL_demand 9 = .ok (.goto 6, 3) := by decide +kernel
theorem dL_demand_12 : decode cL_demand 12 = .ok (.astore_n 3, 1) := by decide +kernel
theorem dL_demand_13 : decode cL_demand 13 = .ok (.iconst 1, 1) := by decide +kernel
theorem dL_demand_14 : decode cL_demand 14 = .ok (.ireturn, 1) := by decide +kernel
theorem dL_demand_15 : decode cL_demand 15 = .ok (.iconst 0, 1) := by decide +kernel
theorem dL_demand_16 : decode cL_demand 16 = .ok (.ireturn, 1) := by decide +kernel
theorem dL_tube_0 : decode cL_tube 0 = .ok (.aload_n 2, 1) := by decide +kernel
theorem dL_tube_1 : decode cL_tube 1 = .ok (.iconst 0, 1) := by decide +kernel
theorem dL_tube_2 : decode cL_tube 2 = .ok (.aload_n 0, 1) := by decide +kernel
theorem dL_tube_3 : decode cL_tube 3 = .ok (.iload_n 1, 1) := by decide +kernel
theorem dL_tube_4 : decode cL_tube 4 = .ok (.invokevirtual 47, 3) := by decide +kernel
theorem dL_tube_7 : decode cL_tube 7 = .ok (.i2l, 1) := by decide +kernel
theorem dL_tube_8 : decode cL_tube 8 = .ok (.lastore, 1) := by decide +kernel
theorem dL_tube_9 : decode cL_tube 9 = .ok (.goto 6, 3) := by decide +kernel
theorem dL_tube_12 : decode cL_tube 12 = .ok (.astore_n 3, 1) := by decide +kernel
theorem dL_tube_13 : decode cL_tube 13 = .ok (.iconst 1, 1) := by decide +kernel
theorem dL_tube_14 : decode cL_tube 14 = .ok (.ireturn, 1) := by decide +kernel
theorem dL_tube_15 : decode cL_tube 15 = .ok (.iconst 0, 1) := by decide +kernel
theorem dL_tube_16 : decode cL_tube 16 = .ok (.ireturn, 1) := by decide +kernel
theorem dL_value_0 : decode cL_value 0 = .ok (.aload_n 2, 1) := by decide +kernel
theorem dL_value_1 : decode cL_value 1 = .ok (.iconst 0, 1) := by decide +kernel
theorem dL_value_2 : decode cL_value 2 = .ok (.aload_n 0, 1) := by decide +kernel
theorem dL_value_3 : decode cL_value 3 = .ok (.iload_n 1, 1) := by decide +kernel
theorem dL_value_4 : decode cL_value 4 = .ok (.invokevirtual 50, 3) := by decide +kernel
theorem dL_value_7 : decode cL_value 7 = .ok (.i2l, 1) := by decide +kernel
theorem dL_value_8 : decode cL_value 8 = .ok (.lastore, 1) := by decide +kernel
theorem dL_value_9 : decode cL_value 9 = .ok (.goto 6, 3) := by decide +kernel
theorem dL_value_12 : decode cL_value 12 = .ok (.astore_n 3, 1) := by decide +kernel
theorem dL_value_13 : decode cL_value 13 = .ok (.iconst 1, 1) := by decide +kernel
theorem dL_value_14 : decode cL_value 14 = .ok (.ireturn, 1) := by decide +kernel
theorem dL_value_15 : decode cL_value 15 = .ok (.iconst 0, 1) := by decide +kernel
theorem dL_value_16 : decode cL_value 16 = .ok (.ireturn, 1) := by decide +kernel
theorem dL_setting_0 : decode cL_setting 0 = .ok (.aload_n 2, 1) := by decide +kernel
theorem dL_setting_1 : decode cL_setting 1 = .ok (.iconst 0, 1) := by decide +kernel
theorem dL_setting_2 : decode cL_setting 2 = .ok (.aload_n 0, 1) := by decide +kernel
theorem dL_setting_3 : decode cL_setting 3 = .ok (.iload_n 1, 1) := by decide +kernel
theorem dL_setting_4 : decode cL_setting 4 = .ok (.invokevirtual 53, 3) := by decide +kernel
theorem dL_setting_7 : decode cL_setting 7 = .ok (.i2l, 1) := by decide +kernel
theorem dL_setting_8 : decode cL_setting 8 = .ok (.lastore, 1) := by decide +kernel
theorem dL_setting_9 : decode cL_setting 9 = .ok (.goto 6, 3) := by decide +kernel
theorem dL_setting_12 : decode cL_setting 12 = .ok (.astore_n 3, 1) := by decide +kernel
theorem dL_setting_13 : decode cL_setting 13 = .ok (.iconst 1, 1) := by decide +kernel
theorem dL_setting_14 : decode cL_setting 14 = .ok (.ireturn, 1) := by decide +kernel
theorem dL_setting_15 : decode cL_setting 15 = .ok (.iconst 0, 1) := by decide +kernel
theorem dL_setting_16 : decode cL_setting 16 = .ok (.ireturn, 1) := by decide +kernel
theorem dL_promise_0 : decode cL_promise 0 = .ok (.aload_n 2, 1) := by decide +kernel
theorem dL_promise_1 : decode cL_promise 1 = .ok (.iconst 0, 1) := by decide +kernel
theorem dL_promise_2 : decode cL_promise 2 = .ok (.aload_n 0, 1) := by decide +kernel
theorem dL_promise_3 : decode cL_promise 3 = .ok (.iload_n 1, 1) := by decide +kernel
theorem dL_promise_4 : decode cL_promise 4 = .ok (.invokevirtual 56, 3) := by decide +kernel
theorem dL_promise_7 : decode cL_promise 7 = .ok (.i2l, 1) := by decide +kernel
theorem dL_promise_8 : decode cL_promise 8 = .ok (.lastore, 1) := by decide +kernel
theorem dL_promise_9 : decode cL_promise 9 = .ok (.goto 6, 3) := by decide +kernel
theorem dL_promise_12 : decode cL_promise 12 = .ok (.astore_n 3, 1) := by decide +kernel
theorem dL_promise_13 : decode cL_promise 13 = .ok (.iconst 1, 1) := by decide +kernel
theorem dL_promise_14 : decode cL_promise 14 = .ok (.ireturn, 1) := by decide +kernel
theorem dL_promise_15 : decode cL_promise 15 = .ok (.iconst 0, 1) := by decide +kernel
theorem dL_promise_16 : decode cL_promise 16 = .ok (.ireturn, 1) := by decide +kernel
theorem dL_change_0 : decode cL_change 0 = .ok (.aload_n 3, 1) := by decide +kernel
theorem dL_change_1 : decode cL_change 1 = .ok (.iconst 0, 1) := by decide +kernel
theorem dL_change_2 : decode cL_change 2 = .ok (.aload_n 0, 1) := by decide +kernel
theorem dL_change_3 : decode cL_change 3 = .ok (.iload_n 1, 1) := by decide +kernel
theorem dL_change_4 : decode cL_change 4 = .ok (.iload_n 2, 1) := by decide +kernel
theorem dL_change_5 : decode cL_change 5 = .ok (.invokevirtual 59, 3) := by decide +kernel
theorem dL_change_8 : decode cL_change 8 = .ok (.i2l, 1) := by decide +kernel
theorem dL_change_9 : decode cL_change 9 = .ok (.lastore, 1) := by decide +kernel
theorem dL_change_10 : decode cL_change 10 = .ok (.goto 11, 3) := by decide +kernel
theorem dL_change_13 : decode cL_change 13 = .ok (.astore 4, 2) := by decide +kernel
theorem dL_change_15 : decode cL_change 15 = .ok (.iconst 1, 1) := by decide +kernel
theorem dL_change_16 : decode cL_change 16 = .ok (.ireturn, 1) := by decide +kernel
theorem dL_change_17 : decode cL_change 17 = .ok (.astore 4, 2) := by decide +kernel
theorem dL_change_19 : decode cL_change 19 = .ok (.iconst 2, 1) := by decide +kernel
theorem dL_change_20 : decode cL_change 20 = .ok (.ireturn, 1) := by decide +kernel
theorem dL_change_21 : decode cL_change 21 = .ok (.iconst 0, 1) := by decide +kernel
theorem dL_change_22 : decode cL_change 22 = .ok (.ireturn, 1) := by decide +kernel
theorem dL_mostPayable_0 : decode cL_mostPayable 0 = .ok (.aload_n 2, 1) := by decide +kernel
theorem dL_mostPayable_1 : decode cL_mostPayable 1 = .ok (.iconst 0, 1) := by decide +kernel
theorem dL_mostPayable_2 : decode cL_mostPayable 2 = .ok (.aload_n 0, 1) := by decide +kernel
theorem dL_mostPayable_3 : decode cL_mostPayable 3 = .ok (.iload_n 1, 1) := by decide +kernel
theorem dL_mostPayable_4 : decode cL_mostPayable 4 = .ok (.invokevirtual 62, 3) := by decide +kernel
theorem dL_mostPayable_7 : decode cL_mostPayable 7 = .ok (.i2l, 1) := by decide +kernel
theorem dL_mostPayable_8 : decode cL_mostPayable 8 = .ok (.lastore, 1) := by decide +kernel
theorem dL_mostPayable_9 : decode cL_mostPayable 9 = .ok (.goto 6, 3) := by decide +kernel
theorem dL_mostPayable_12 : decode cL_mostPayable 12 = .ok (.astore_n 3, 1) := by decide +kernel
theorem dL_mostPayable_13 : decode cL_mostPayable 13 = .ok (.iconst 1, 1) := by decide +kernel
theorem dL_mostPayable_14 : decode cL_mostPayable 14 = .ok (.ireturn, 1) := by decide +kernel
theorem dL_mostPayable_15 : decode cL_mostPayable 15 = .ok (.iconst 0, 1) := by decide +kernel
theorem dL_mostPayable_16 : decode cL_mostPayable 16 = .ok (.ireturn, 1) := by decide +kernel
theorem dL_coinFor_0 : decode cL_coinFor 0 = .ok (.aload_n 2, 1) := by decide +kernel
theorem dL_coinFor_1 : decode cL_coinFor 1 = .ok (.iconst 0, 1) := by decide +kernel
theorem dL_coinFor_2 : decode cL_coinFor 2 = .ok (.aload_n 0, 1) := by decide +kernel
theorem dL_coinFor_3 : decode cL_coinFor 3 = .ok (.iload_n 1, 1) := by decide +kernel
theorem dL_coinFor_4 : decode cL_coinFor 4 = .ok (.invokevirtual 65, 3) := by decide +kernel
theorem dL_coinFor_7 : decode cL_coinFor 7 = .ok (.i2l, 1) := by decide +kernel
theorem dL_coinFor_8 : decode cL_coinFor 8 = .ok (.lastore, 1) := by decide +kernel
theorem dL_coinFor_9 : decode cL_coinFor 9 = .ok (.goto 6, 3) := by decide +kernel
theorem dL_coinFor_12 : decode cL_coinFor 12 = .ok (.astore_n 3, 1) := by decide +kernel
theorem dL_coinFor_13 : decode cL_coinFor 13 = .ok (.iconst 1, 1) := by decide +kernel
theorem dL_coinFor_14 : decode cL_coinFor 14 = .ok (.ireturn, 1) := by decide +kernel
theorem dL_coinFor_15 : decode cL_coinFor 15 = .ok (.iconst 0, 1) := by decide +kernel
theorem dL_coinFor_16 : decode cL_coinFor 16 = .ok (.ireturn, 1) := by decide +kernel
theorem dL_priceIn_0 : decode cL_priceIn 0 = .ok (.aload_n 3, 1) := by decide +kernel
theorem dL_priceIn_1 : decode cL_priceIn 1 = .ok (.iconst 0, 1) := by decide +kernel
theorem dL_priceIn_2 : decode cL_priceIn 2 = .ok (.aload_n 0, 1) := by decide +kernel
theorem dL_priceIn_3 : decode cL_priceIn 3 = .ok (.iload_n 1, 1) := by decide +kernel
theorem dL_priceIn_4 : decode cL_priceIn 4 = .ok (.iload_n 2, 1) := by decide +kernel
theorem dL_priceIn_5 : decode cL_priceIn 5 = .ok (.invokevirtual 68, 3) := by decide +kernel
theorem dL_priceIn_8 : decode cL_priceIn 8 = .ok (.i2l, 1) := by decide +kernel
theorem dL_priceIn_9 : decode cL_priceIn 9 = .ok (.lastore, 1) := by decide +kernel
theorem dL_priceIn_10 : decode cL_priceIn 10 = .ok (.goto 11, 3) := by decide +kernel
theorem dL_priceIn_13 : decode cL_priceIn 13 = .ok (.astore 4, 2) := by decide +kernel
theorem dL_priceIn_15 : decode cL_priceIn 15 = .ok (.iconst 1, 1) := by decide +kernel
theorem dL_priceIn_16 : decode cL_priceIn 16 = .ok (.ireturn, 1) := by decide +kernel
theorem dL_priceIn_17 : decode cL_priceIn 17 = .ok (.astore 4, 2) := by decide +kernel
theorem dL_priceIn_19 : decode cL_priceIn 19 = .ok (.iconst 2, 1) := by decide +kernel
theorem dL_priceIn_20 : decode cL_priceIn 20 = .ok (.ireturn, 1) := by decide +kernel
theorem dL_priceIn_21 : decode cL_priceIn 21 = .ok (.iconst 0, 1) := by decide +kernel
theorem dL_priceIn_22 : decode cL_priceIn 22 = .ok (.ireturn, 1) := by decide +kernel
theorem dL_salesInARow_0 : decode cL_salesInARow 0 = .ok (.aload 4, 2) := by decide +kernel
theorem dL_salesInARow_2 : decode cL_salesInARow 2 = .ok (.iconst 0, 1) := by decide +kernel
theorem dL_salesInARow_3 : decode cL_salesInARow 3 = .ok (.aload_n 0, 1) := by decide +kernel
theorem dL_salesInARow_4 : decode cL_salesInARow 4 = .ok (.iload_n 1, 1) := by decide +kernel
theorem dL_salesInARow_5 : decode cL_salesInARow 5 = .ok (.iload_n 2, 1) := by decide +kernel
theorem dL_salesInARow_6 : decode cL_salesInARow 6 = .ok (.iload_n 3, 1) := by decide +kernel
theorem dL_salesInARow_7 : decode cL_salesInARow 7 = .ok (.invokevirtual 71, 3) := by decide +kernel
theorem dL_salesInARow_10 : decode cL_salesInARow 10 = .ok (.i2l, 1) := by decide +kernel
theorem dL_salesInARow_11 : decode cL_salesInARow 11 = .ok (.lastore, 1) := by decide +kernel
theorem dL_salesInARow_12 : decode cL_salesInARow 12 = .ok (.goto 11, 3) := by decide +kernel
theorem dL_salesInARow_15 : decode cL_salesInARow 15 = .ok (.astore 5, 2) := by decide +kernel
theorem dL_salesInARow_17 : decode cL_salesInARow 17 = .ok (.iconst 1, 1) := by decide +kernel
theorem dL_salesInARow_18 : decode cL_salesInARow 18 = .ok (.ireturn, 1) := by decide +kernel
theorem dL_salesInARow_19 : decode cL_salesInARow 19 = .ok (.astore 5, 2) := by decide +kernel
theorem dL_salesInARow_21 : decode cL_salesInARow 21 = .ok (.iconst 2, 1) := by decide +kernel
theorem dL_salesInARow_22 : decode cL_salesInARow 22 = .ok (.ireturn, 1) := by decide +kernel
theorem dL_salesInARow_23 : decode cL_salesInARow 23 = .ok (.iconst 0, 1) := by decide +kernel
theorem dL_salesInARow_24 : decode cL_salesInARow 24 = .ok (.ireturn, 1) := by decide +kernel
theorem dL_append_0 : decode cL_append 0 = .ok (.aload_n 2, 1) := by decide +kernel
theorem dL_append_1 : decode cL_append 1 = .ok (.iconst 0, 1) := by decide +kernel
theorem dL_append_2 : decode cL_append 2 = .ok (.aload_n 0, 1) := by decide +kernel
theorem dL_append_3 : decode cL_append 3 = .ok (.iload_n 1, 1) := by decide +kernel
theorem dL_append_4 : decode cL_append 4 = .ok (.invokevirtual 74, 3) := by decide +kernel
theorem dL_append_7 : decode cL_append 7 = .ok (.i2l, 1) := by decide +kernel
theorem dL_append_8 : decode cL_append 8 = .ok (.lastore, 1) := by decide +kernel
theorem dL_append_9 : decode cL_append 9 = .ok (.goto 9, 3) := by decide +kernel
theorem dL_append_12 : decode cL_append 12 = .ok (.astore_n 3, 1) := by decide +kernel
theorem dL_append_13 : decode cL_append 13 = .ok (.iconst 1, 1) := by decide +kernel
theorem dL_append_14 : decode cL_append 14 = .ok (.ireturn, 1) := by decide +kernel
theorem dL_append_15 : decode cL_append 15 = .ok (.astore_n 3, 1) := by decide +kernel
theorem dL_append_16 : decode cL_append 16 = .ok (.iconst 2, 1) := by decide +kernel
theorem dL_append_17 : decode cL_append 17 = .ok (.ireturn, 1) := by decide +kernel
theorem dL_append_18 : decode cL_append 18 = .ok (.iconst 0, 1) := by decide +kernel
theorem dL_append_19 : decode cL_append 19 = .ok (.ireturn, 1) := by decide +kernel
theorem dL_undo_0 : decode cL_undo 0 = .ok (.aload_n 1, 1) := by decide +kernel
theorem dL_undo_1 : decode cL_undo 1 = .ok (.iconst 0, 1) := by decide +kernel
theorem dL_undo_2 : decode cL_undo 2 = .ok (.aload_n 0, 1) := by decide +kernel
theorem dL_undo_3 : decode cL_undo 3 = .ok (.invokevirtual 77, 3) := by decide +kernel
theorem dL_undo_6 : decode cL_undo 6 = .ok (.i2l, 1) := by decide +kernel
theorem dL_undo_7 : decode cL_undo 7 = .ok (.lastore, 1) := by decide +kernel
theorem dL_undo_8 : decode cL_undo 8 = .ok (.goto 6, 3) := by decide +kernel
theorem dL_undo_11 : decode cL_undo 11 = .ok (.astore_n 2, 1) := by decide +kernel
theorem dL_undo_12 : decode cL_undo 12 = .ok (.iconst 1, 1) := by decide +kernel
theorem dL_undo_13 : decode cL_undo 13 = .ok (.ireturn, 1) := by decide +kernel
theorem dL_undo_14 : decode cL_undo 14 = .ok (.iconst 0, 1) := by decide +kernel
theorem dL_undo_15 : decode cL_undo 15 = .ok (.ireturn, 1) := by decide +kernel
theorem dL_law_0 : decode cL_law 0 = .ok (.new 8, 3) := by decide +kernel
theorem dL_law_3 : decode cL_law 3 = .ok (.dup, 1) := by decide +kernel
theorem dL_law_4 : decode cL_law 4 = .ok (.invokespecial 81, 3) := by decide +kernel
theorem dL_law_7 : decode cL_law 7 = .ok (.astore_n 1, 1) := by decide +kernel
theorem dL_law_8 : decode cL_law 8 = .ok (.new 82, 3) := by decide +kernel
theorem dL_law_11 : decode cL_law 11 = .ok (.dup, 1) := by decide +kernel
theorem dL_law_12 : decode cL_law 12 = .ok (.invokespecial 84, 3) := by decide +kernel
theorem dL_law_15 : decode cL_law 15 = .ok (.astore_n 2, 1) := by decide +kernel
theorem dL_law_16 : decode cL_law 16 = .ok (.iconst 1, 1) := by decide +kernel
theorem dL_law_17 : decode cL_law 17 = .ok (.newarray .long, 2) := by decide +kernel
theorem dL_law_19 : decode cL_law 19 = .ok (.astore_n 3, 1) := by decide +kernel
theorem dL_law_20 : decode cL_law 20 = .ok (.iconst 1, 1) := by decide +kernel
theorem dL_law_21 : decode cL_law 21 = .ok (.newarray .double, 2) := by decide +kernel
theorem dL_law_23 : decode cL_law 23 = .ok (.astore 4, 2) := by decide +kernel
theorem dL_law_25 : decode cL_law 25 = .ok (.iconst 0, 1) := by decide +kernel
theorem dL_law_26 : decode cL_law 26 = .ok (.istore 5, 2) := by decide +kernel
theorem dL_law_28 : decode cL_law 28 = .ok (.iload 5, 2) := by decide +kernel
theorem dL_law_30 : decode cL_law 30 = .ok (.aload_n 0, 1) := by decide +kernel
theorem dL_law_31 : decode cL_law 31 = .ok (.arraylength, 1) := by decide +kernel
theorem dL_law_32 : decode cL_law 32 = .ok (.bipush 6, 2) := by decide +kernel
theorem dL_law_34 : decode cL_law 34 = .ok (.isub, 1) := by decide +kernel
theorem dL_law_35 : decode cL_law 35 = .ok (.if_icmp .gt 1495, 3) := by decide +kernel
theorem dL_law_38 : decode cL_law 38 = .ok (.aload_n 0, 1) := by decide +kernel
theorem dL_law_39 : decode cL_law 39 = .ok (.iload 5, 2) := by decide +kernel
theorem dL_law_41 : decode cL_law 41 = .ok (.iaload, 1) := by decide +kernel
theorem dL_law_42 : decode cL_law 42 = .ok (.bipush 31, 2) := by decide +kernel
theorem dL_law_44 : decode cL_law 44 = .ok (.iand, 1) := by decide +kernel
theorem dL_law_45 : decode cL_law 45 = .ok (.tableswitch 1479 0 24 #[115, 183, 263, 331, 399, 503, 559, 615, 628, 696, 774, 830, 886, 942, 998, 1066, 1122, 1178, 1246, 1326, 1339, 1395, 1408, 1421, 1465], 115) := by decide +kernel
theorem dL_law_160 : decode cL_law 160 = .ok (.aload_n 1, 1) := by decide +kernel
theorem dL_law_161 : decode cL_law 161 = .ok (.aload_n 0, 1) := by decide +kernel
theorem dL_law_162 : decode cL_law 162 = .ok (.iload 5, 2) := by decide +kernel
theorem dL_law_164 : decode cL_law 164 = .ok (.iconst 1, 1) := by decide +kernel
theorem dL_law_165 : decode cL_law 165 = .ok (.iadd, 1) := by decide +kernel
theorem dL_law_166 : decode cL_law 166 = .ok (.iaload, 1) := by decide +kernel
theorem dL_law_167 : decode cL_law 167 = .ok (.aload_n 0, 1) := by decide +kernel
theorem dL_law_168 : decode cL_law 168 = .ok (.iload 5, 2) := by decide +kernel
theorem dL_law_170 : decode cL_law 170 = .ok (.iconst 2, 1) := by decide +kernel
theorem dL_law_171 : decode cL_law 171 = .ok (.iadd, 1) := by decide +kernel
theorem dL_law_172 : decode cL_law 172 = .ok (.iaload, 1) := by decide +kernel
theorem dL_law_173 : decode cL_law 173 = .ok (.aload_n 3, 1) := by decide +kernel
theorem dL_law_174 : decode cL_law 174 = .ok (.invokestatic 85, 3) := by decide +kernel
theorem dL_law_177 : decode cL_law 177 = .ok (.istore 6, 2) := by decide +kernel
theorem dL_law_179 : decode cL_law 179 = .ok (.aload_n 2, 1) := by decide +kernel
theorem dL_law_180 : decode cL_law 180 = .ok (.aload_n 0, 1) := by decide +kernel
theorem dL_law_181 : decode cL_law 181 = .ok (.iload 5, 2) := by decide +kernel
theorem dL_law_183 : decode cL_law 183 = .ok (.iconst 1, 1) := by decide +kernel
theorem dL_law_184 : decode cL_law 184 = .ok (.iadd, 1) := by decide +kernel
theorem dL_law_185 : decode cL_law 185 = .ok (.iaload, 1) := by decide +kernel
theorem dL_law_186 : decode cL_law 186 = .ok (.aload_n 0, 1) := by decide +kernel
theorem dL_law_187 : decode cL_law 187 = .ok (.iload 5, 2) := by decide +kernel
theorem dL_law_189 : decode cL_law 189 = .ok (.iconst 2, 1) := by decide +kernel
theorem dL_law_190 : decode cL_law 190 = .ok (.iadd, 1) := by decide +kernel
theorem dL_law_191 : decode cL_law 191 = .ok (.iaload, 1) := by decide +kernel
theorem dL_law_192 : decode cL_law 192 = .ok (.invokevirtual 90, 3) := by decide +kernel
theorem dL_law_195 : decode cL_law 195 = .ok (.istore 7, 2) := by decide +kernel
theorem dL_law_197 : decode cL_law 197 = .ok (.aload_n 2, 1) := by decide +kernel
theorem dL_law_198 : decode cL_law 198 = .ok (.invokevirtual 91, 3) := by decide +kernel
theorem dL_law_201 : decode cL_law 201 = .ok (.iload 6, 2) := by decide +kernel
theorem dL_law_203 : decode cL_law 203 = .ok (.if_icmp .eq 5, 3) := by decide +kernel
theorem dL_law_206 : decode cL_law 206 = .ok (.iconst 0, 1) := by decide +kernel
theorem dL_law_207 : decode cL_law 207 = .ok (.ireturn, 1) := by decide +kernel
theorem dL_law_208 : decode cL_law 208 = .ok (.iload 6, 2) := by decide +kernel
theorem dL_law_210 : decode cL_law 210 = .ok (.ifCond .ne 15, 3) := by decide +kernel
theorem dL_law_213 : decode cL_law 213 = .ok (.aload_n 3, 1) := by decide +kernel
theorem dL_law_214 : decode cL_law 214 = .ok (.iconst 0, 1) := by decide +kernel
theorem dL_law_215 : decode cL_law 215 = .ok (.laload, 1) := by decide +kernel
theorem dL_law_216 : decode cL_law 216 = .ok (.iload 7, 2) := by decide +kernel
theorem dL_law_218 : decode cL_law 218 = .ok (.i2l, 1) := by decide +kernel
theorem dL_law_219 : decode cL_law 219 = .ok (.lcmp, 1) := by decide +kernel
theorem dL_law_220 : decode cL_law 220 = .ok (.ifCond .eq 5, 3) := by decide +kernel
theorem dL_law_223 : decode cL_law 223 = .ok (.iconst 0, 1) := by decide +kernel
theorem dL_law_224 : decode cL_law 224 = .ok (.ireturn, 1) := by decide +kernel
theorem dL_law_225 : decode cL_law 225 = .ok (.goto 1299, 3) := by decide +kernel
theorem dL_law_228 : decode cL_law 228 = .ok (.aload_n 1, 1) := by decide +kernel
theorem dL_law_229 : decode cL_law 229 = .ok (.aload_n 0, 1) := by decide +kernel
theorem dL_law_230 : decode cL_law 230 = .ok (.iload 5, 2) := by decide +kernel
theorem dL_law_232 : decode cL_law 232 = .ok (.iconst 1, 1) := by decide +kernel
theorem dL_law_233 : decode cL_law 233 = .ok (.iadd, 1) := by decide +kernel
theorem dL_law_234 : decode cL_law 234 = .ok (.iaload, 1) := by decide +kernel
theorem dL_law_235 : decode cL_law 235 = .ok (.aload_n 0, 1) := by decide +kernel
theorem dL_law_236 : decode cL_law 236 = .ok (.iload 5, 2) := by decide +kernel
theorem dL_law_238 : decode cL_law 238 = .ok (.iconst 2, 1) := by decide +kernel
theorem dL_law_239 : decode cL_law 239 = .ok (.iadd, 1) := by decide +kernel
theorem dL_law_240 : decode cL_law 240 = .ok (.iaload, 1) := by decide +kernel
theorem dL_law_241 : decode cL_law 241 = .ok (.aload_n 0, 1) := by decide +kernel
theorem dL_law_242 : decode cL_law 242 = .ok (.iload 5, 2) := by decide +kernel
theorem dL_law_244 : decode cL_law 244 = .ok (.iconst 3, 1) := by decide +kernel
theorem dL_law_245 : decode cL_law 245 = .ok (.iadd, 1) := by decide +kernel
theorem dL_law_246 : decode cL_law 246 = .ok (.iaload, 1) := by decide +kernel
theorem dL_law_247 : decode cL_law 247 = .ok (.aload_n 3, 1) := by decide +kernel
theorem dL_law_248 : decode cL_law 248 = .ok (.invokestatic 94, 3) := by decide +kernel
theorem dL_law_251 : decode cL_law 251 = .ok (.istore 6, 2) := by decide +kernel
theorem dL_law_253 : decode cL_law 253 = .ok (.aload_n 2, 1) := by decide +kernel
theorem dL_law_254 : decode cL_law 254 = .ok (.aload_n 0, 1) := by decide +kernel
theorem dL_law_255 : decode cL_law 255 = .ok (.iload 5, 2) := by decide +kernel
theorem dL_law_257 : decode cL_law 257 = .ok (.iconst 1, 1) := by decide +kernel
theorem dL_law_258 : decode cL_law 258 = .ok (.iadd, 1) := by decide +kernel
theorem dL_law_259 : decode cL_law 259 = .ok (.iaload, 1) := by decide +kernel
theorem dL_law_260 : decode cL_law 260 = .ok (.aload_n 0, 1) := by decide +kernel
theorem dL_law_261 : decode cL_law 261 = .ok (.iload 5, 2) := by decide +kernel
theorem dL_law_263 : decode cL_law 263 = .ok (.iconst 2, 1) := by decide +kernel
theorem dL_law_264 : decode cL_law 264 = .ok (.iadd, 1) := by decide +kernel
theorem dL_law_265 : decode cL_law 265 = .ok (.iaload, 1) := by decide +kernel
theorem dL_law_266 : decode cL_law 266 = .ok (.aload_n 0, 1) := by decide +kernel
theorem dL_law_267 : decode cL_law 267 = .ok (.iload 5, 2) := by decide +kernel
theorem dL_law_269 : decode cL_law 269 = .ok (.iconst 3, 1) := by decide +kernel
theorem dL_law_270 : decode cL_law 270 = .ok (.iadd, 1) := by decide +kernel
theorem dL_law_271 : decode cL_law 271 = .ok (.iaload, 1) := by decide +kernel
theorem dL_law_272 : decode cL_law 272 = .ok (.invokevirtual 97, 3) := by decide +kernel
theorem dL_law_275 : decode cL_law 275 = .ok (.istore 7, 2) := by decide +kernel
theorem dL_law_277 : decode cL_law 277 = .ok (.aload_n 2, 1) := by decide +kernel
theorem dL_law_278 : decode cL_law 278 = .ok (.invokevirtual 91, 3) := by decide +kernel
theorem dL_law_281 : decode cL_law 281 = .ok (.iload 6, 2) := by decide +kernel
theorem dL_law_283 : decode cL_law 283 = .ok (.if_icmp .eq 5, 3) := by decide +kernel
theorem dL_law_286 : decode cL_law 286 = .ok (.iconst 0, 1) := by decide +kernel
theorem dL_law_287 : decode cL_law 287 = .ok (.ireturn, 1) := by decide +kernel
theorem dL_law_288 : decode cL_law 288 = .ok (.iload 6, 2) := by decide +kernel
theorem dL_law_290 : decode cL_law 290 = .ok (.ifCond .ne 15, 3) := by decide +kernel
theorem dL_law_293 : decode cL_law 293 = .ok (.aload_n 3, 1) := by decide +kernel
theorem dL_law_294 : decode cL_law 294 = .ok (.iconst 0, 1) := by decide +kernel
theorem dL_law_295 : decode cL_law 295 = .ok (.laload, 1) := by decide +kernel
theorem dL_law_296 : decode cL_law 296 = .ok (.iload 7, 2) := by decide +kernel
theorem dL_law_298 : decode cL_law 298 = .ok (.i2l, 1) := by decide +kernel
theorem dL_law_299 : decode cL_law 299 = .ok (.lcmp, 1) := by decide +kernel
theorem dL_law_300 : decode cL_law 300 = .ok (.ifCond .eq 5, 3) := by decide +kernel
theorem dL_law_303 : decode cL_law 303 = .ok (.iconst 0, 1) := by decide +kernel
theorem dL_law_304 : decode cL_law 304 = .ok (.ireturn, 1) := by decide +kernel
theorem dL_law_305 : decode cL_law 305 = .ok (.goto 1219, 3) := by decide +kernel
theorem dL_law_308 : decode cL_law 308 = .ok (.aload_n 1, 1) := by decide +kernel
theorem dL_law_309 : decode cL_law 309 = .ok (.aload_n 0, 1) := by decide +kernel
theorem dL_law_310 : decode cL_law 310 = .ok (.iload 5, 2) := by decide +kernel
theorem dL_law_312 : decode cL_law 312 = .ok (.iconst 1, 1) := by decide +kernel
theorem dL_law_313 : decode cL_law 313 = .ok (.iadd, 1) := by decide +kernel
theorem dL_law_314 : decode cL_law 314 = .ok (.iaload, 1) := by decide +kernel
theorem dL_law_315 : decode cL_law 315 = .ok (.aload_n 0, 1) := by decide +kernel
theorem dL_law_316 : decode cL_law 316 = .ok (.iload 5, 2) := by decide +kernel
theorem dL_law_318 : decode cL_law 318 = .ok (.iconst 2, 1) := by decide +kernel
theorem dL_law_319 : decode cL_law 319 = .ok (.iadd, 1) := by decide +kernel
theorem dL_law_320 : decode cL_law 320 = .ok (.iaload, 1) := by decide +kernel
theorem dL_law_321 : decode cL_law 321 = .ok (.aload_n 3, 1) := by decide +kernel
theorem dL_law_322 : decode cL_law 322 = .ok (.invokestatic 98, 3) := by decide +kernel
theorem dL_law_325 : decode cL_law 325 = .ok (.istore 6, 2) := by decide +kernel
theorem dL_law_327 : decode cL_law 327 = .ok (.aload_n 2, 1) := by decide +kernel
theorem dL_law_328 : decode cL_law 328 = .ok (.aload_n 0, 1) := by decide +kernel
theorem dL_law_329 : decode cL_law 329 = .ok (.iload 5, 2) := by decide +kernel
theorem dL_law_331 : decode cL_law 331 = .ok (.iconst 1, 1) := by decide +kernel
theorem dL_law_332 : decode cL_law 332 = .ok (.iadd, 1) := by decide +kernel
theorem dL_law_333 : decode cL_law 333 = .ok (.iaload, 1) := by decide +kernel
theorem dL_law_334 : decode cL_law 334 = .ok (.aload_n 0, 1) := by decide +kernel
theorem dL_law_335 : decode cL_law 335 = .ok (.iload 5, 2) := by decide +kernel
theorem dL_law_337 : decode cL_law 337 = .ok (.iconst 2, 1) := by decide +kernel
theorem dL_law_338 : decode cL_law 338 = .ok (.iadd, 1) := by decide +kernel
theorem dL_law_339 : decode cL_law 339 = .ok (.iaload, 1) := by decide +kernel
theorem dL_law_340 : decode cL_law 340 = .ok (.invokevirtual 100, 3) := by decide +kernel
theorem dL_law_343 : decode cL_law 343 = .ok (.istore 7, 2) := by decide +kernel
theorem dL_law_345 : decode cL_law 345 = .ok (.aload_n 2, 1) := by decide +kernel
theorem dL_law_346 : decode cL_law 346 = .ok (.invokevirtual 91, 3) := by decide +kernel
theorem dL_law_349 : decode cL_law 349 = .ok (.iload 6, 2) := by decide +kernel
theorem dL_law_351 : decode cL_law 351 = .ok (.if_icmp .eq 5, 3) := by decide +kernel
theorem dL_law_354 : decode cL_law 354 = .ok (.iconst 0, 1) := by decide +kernel
theorem dL_law_355 : decode cL_law 355 = .ok (.ireturn, 1) := by decide +kernel
theorem dL_law_356 : decode cL_law 356 = .ok (.iload 6, 2) := by decide +kernel
theorem dL_law_358 : decode cL_law 358 = .ok (.ifCond .ne 15, 3) := by decide +kernel
theorem dL_law_361 : decode cL_law 361 = .ok (.aload_n 3, 1) := by decide +kernel
theorem dL_law_362 : decode cL_law 362 = .ok (.iconst 0, 1) := by decide +kernel
theorem dL_law_363 : decode cL_law 363 = .ok (.laload, 1) := by decide +kernel
theorem dL_law_364 : decode cL_law 364 = .ok (.iload 7, 2) := by decide +kernel
theorem dL_law_366 : decode cL_law 366 = .ok (.i2l, 1) := by decide +kernel
theorem dL_law_367 : decode cL_law 367 = .ok (.lcmp, 1) := by decide +kernel
theorem dL_law_368 : decode cL_law 368 = .ok (.ifCond .eq 5, 3) := by decide +kernel
theorem dL_law_371 : decode cL_law 371 = .ok (.iconst 0, 1) := by decide +kernel
theorem dL_law_372 : decode cL_law 372 = .ok (.ireturn, 1) := by decide +kernel
theorem dL_law_373 : decode cL_law 373 = .ok (.goto 1151, 3) := by decide +kernel
theorem dL_law_376 : decode cL_law 376 = .ok (.aload_n 1, 1) := by decide +kernel
theorem dL_law_377 : decode cL_law 377 = .ok (.aload_n 0, 1) := by decide +kernel
theorem dL_law_378 : decode cL_law 378 = .ok (.iload 5, 2) := by decide +kernel
theorem dL_law_380 : decode cL_law 380 = .ok (.iconst 1, 1) := by decide +kernel
theorem dL_law_381 : decode cL_law 381 = .ok (.iadd, 1) := by decide +kernel
theorem dL_law_382 : decode cL_law 382 = .ok (.iaload, 1) := by decide +kernel
theorem dL_law_383 : decode cL_law 383 = .ok (.aload_n 0, 1) := by decide +kernel
theorem dL_law_384 : decode cL_law 384 = .ok (.iload 5, 2) := by decide +kernel
theorem dL_law_386 : decode cL_law 386 = .ok (.iconst 2, 1) := by decide +kernel
theorem dL_law_387 : decode cL_law 387 = .ok (.iadd, 1) := by decide +kernel
theorem dL_law_388 : decode cL_law 388 = .ok (.iaload, 1) := by decide +kernel
theorem dL_law_389 : decode cL_law 389 = .ok (.aload_n 3, 1) := by decide +kernel
theorem dL_law_390 : decode cL_law 390 = .ok (.invokestatic 101, 3) := by decide +kernel
theorem dL_law_393 : decode cL_law 393 = .ok (.istore 6, 2) := by decide +kernel
theorem dL_law_395 : decode cL_law 395 = .ok (.aload_n 2, 1) := by decide +kernel
theorem dL_law_396 : decode cL_law 396 = .ok (.aload_n 0, 1) := by decide +kernel
theorem dL_law_397 : decode cL_law 397 = .ok (.iload 5, 2) := by decide +kernel
theorem dL_law_399 : decode cL_law 399 = .ok (.iconst 1, 1) := by decide +kernel
theorem dL_law_400 : decode cL_law 400 = .ok (.iadd, 1) := by decide +kernel
theorem dL_law_401 : decode cL_law 401 = .ok (.iaload, 1) := by decide +kernel
theorem dL_law_402 : decode cL_law 402 = .ok (.aload_n 0, 1) := by decide +kernel
theorem dL_law_403 : decode cL_law 403 = .ok (.iload 5, 2) := by decide +kernel
theorem dL_law_405 : decode cL_law 405 = .ok (.iconst 2, 1) := by decide +kernel
theorem dL_law_406 : decode cL_law 406 = .ok (.iadd, 1) := by decide +kernel
theorem dL_law_407 : decode cL_law 407 = .ok (.iaload, 1) := by decide +kernel
theorem dL_law_408 : decode cL_law 408 = .ok (.invokevirtual 103, 3) := by decide +kernel
theorem dL_law_411 : decode cL_law 411 = .ok (.istore 7, 2) := by decide +kernel
theorem dL_law_413 : decode cL_law 413 = .ok (.aload_n 2, 1) := by decide +kernel
theorem dL_law_414 : decode cL_law 414 = .ok (.invokevirtual 91, 3) := by decide +kernel
theorem dL_law_417 : decode cL_law 417 = .ok (.iload 6, 2) := by decide +kernel
theorem dL_law_419 : decode cL_law 419 = .ok (.if_icmp .eq 5, 3) := by decide +kernel
theorem dL_law_422 : decode cL_law 422 = .ok (.iconst 0, 1) := by decide +kernel
theorem dL_law_423 : decode cL_law 423 = .ok (.ireturn, 1) := by decide +kernel
theorem dL_law_424 : decode cL_law 424 = .ok (.iload 6, 2) := by decide +kernel
theorem dL_law_426 : decode cL_law 426 = .ok (.ifCond .ne 15, 3) := by decide +kernel
theorem dL_law_429 : decode cL_law 429 = .ok (.aload_n 3, 1) := by decide +kernel
theorem dL_law_430 : decode cL_law 430 = .ok (.iconst 0, 1) := by decide +kernel
theorem dL_law_431 : decode cL_law 431 = .ok (.laload, 1) := by decide +kernel
theorem dL_law_432 : decode cL_law 432 = .ok (.iload 7, 2) := by decide +kernel
theorem dL_law_434 : decode cL_law 434 = .ok (.i2l, 1) := by decide +kernel
theorem dL_law_435 : decode cL_law 435 = .ok (.lcmp, 1) := by decide +kernel
theorem dL_law_436 : decode cL_law 436 = .ok (.ifCond .eq 5, 3) := by decide +kernel
theorem dL_law_439 : decode cL_law 439 = .ok (.iconst 0, 1) := by decide +kernel
theorem dL_law_440 : decode cL_law 440 = .ok (.ireturn, 1) := by decide +kernel
theorem dL_law_441 : decode cL_law 441 = .ok (.goto 1083, 3) := by decide +kernel
theorem dL_law_444 : decode cL_law 444 = .ok (.aload_n 1, 1) := by decide +kernel
theorem dL_law_445 : decode cL_law 445 = .ok (.aload_n 0, 1) := by decide +kernel
theorem dL_law_446 : decode cL_law 446 = .ok (.iload 5, 2) := by decide +kernel
theorem dL_law_448 : decode cL_law 448 = .ok (.iconst 1, 1) := by decide +kernel
theorem dL_law_449 : decode cL_law 449 = .ok (.iadd, 1) := by decide +kernel
theorem dL_law_450 : decode cL_law 450 = .ok (.iaload, 1) := by decide +kernel
theorem dL_law_451 : decode cL_law 451 = .ok (.aload_n 0, 1) := by decide +kernel
theorem dL_law_452 : decode cL_law 452 = .ok (.iload 5, 2) := by decide +kernel
theorem dL_law_454 : decode cL_law 454 = .ok (.iconst 2, 1) := by decide +kernel
theorem dL_law_455 : decode cL_law 455 = .ok (.iadd, 1) := by decide +kernel
theorem dL_law_456 : decode cL_law 456 = .ok (.iaload, 1) := by decide +kernel
theorem dL_law_457 : decode cL_law 457 = .ok (.aload_n 0, 1) := by decide +kernel
theorem dL_law_458 : decode cL_law 458 = .ok (.iload 5, 2) := by decide +kernel
theorem dL_law_460 : decode cL_law 460 = .ok (.iconst 3, 1) := by decide +kernel
theorem dL_law_461 : decode cL_law 461 = .ok (.iadd, 1) := by decide +kernel
theorem dL_law_462 : decode cL_law 462 = .ok (.iaload, 1) := by decide +kernel
theorem dL_law_463 : decode cL_law 463 = .ok (.aload_n 0, 1) := by decide +kernel
theorem dL_law_464 : decode cL_law 464 = .ok (.iload 5, 2) := by decide +kernel
theorem dL_law_466 : decode cL_law 466 = .ok (.iconst 4, 1) := by decide +kernel
theorem dL_law_467 : decode cL_law 467 = .ok (.iadd, 1) := by decide +kernel
theorem dL_law_468 : decode cL_law 468 = .ok (.iaload, 1) := by decide +kernel
theorem dL_law_469 : decode cL_law 469 = .ok (.aload_n 0, 1) := by decide +kernel
theorem dL_law_470 : decode cL_law 470 = .ok (.iload 5, 2) := by decide +kernel
theorem dL_law_472 : decode cL_law 472 = .ok (.iconst 5, 1) := by decide +kernel
theorem dL_law_473 : decode cL_law 473 = .ok (.iadd, 1) := by decide +kernel
theorem dL_law_474 : decode cL_law 474 = .ok (.iaload, 1) := by decide +kernel
theorem dL_law_475 : decode cL_law 475 = .ok (.aload_n 3, 1) := by decide +kernel
theorem dL_law_476 : decode cL_law 476 = .ok (.invokestatic 104, 3) := by decide +kernel
theorem dL_law_479 : decode cL_law 479 = .ok (.istore 6, 2) := by decide +kernel
theorem dL_law_481 : decode cL_law 481 = .ok (.aload_n 2, 1) := by decide +kernel
theorem dL_law_482 : decode cL_law 482 = .ok (.aload_n 0, 1) := by decide +kernel
theorem dL_law_483 : decode cL_law 483 = .ok (.iload 5, 2) := by decide +kernel
theorem dL_law_485 : decode cL_law 485 = .ok (.iconst 1, 1) := by decide +kernel
theorem dL_law_486 : decode cL_law 486 = .ok (.iadd, 1) := by decide +kernel
theorem dL_law_487 : decode cL_law 487 = .ok (.iaload, 1) := by decide +kernel
theorem dL_law_488 : decode cL_law 488 = .ok (.aload_n 0, 1) := by decide +kernel
theorem dL_law_489 : decode cL_law 489 = .ok (.iload 5, 2) := by decide +kernel
theorem dL_law_491 : decode cL_law 491 = .ok (.iconst 2, 1) := by decide +kernel
theorem dL_law_492 : decode cL_law 492 = .ok (.iadd, 1) := by decide +kernel
theorem dL_law_493 : decode cL_law 493 = .ok (.iaload, 1) := by decide +kernel
theorem dL_law_494 : decode cL_law 494 = .ok (.aload_n 0, 1) := by decide +kernel
theorem dL_law_495 : decode cL_law 495 = .ok (.iload 5, 2) := by decide +kernel
theorem dL_law_497 : decode cL_law 497 = .ok (.iconst 3, 1) := by decide +kernel
theorem dL_law_498 : decode cL_law 498 = .ok (.iadd, 1) := by decide +kernel
theorem dL_law_499 : decode cL_law 499 = .ok (.iaload, 1) := by decide +kernel
theorem dL_law_500 : decode cL_law 500 = .ok (.aload_n 0, 1) := by decide +kernel
theorem dL_law_501 : decode cL_law 501 = .ok (.iload 5, 2) := by decide +kernel
theorem dL_law_503 : decode cL_law 503 = .ok (.iconst 4, 1) := by decide +kernel
theorem dL_law_504 : decode cL_law 504 = .ok (.iadd, 1) := by decide +kernel
theorem dL_law_505 : decode cL_law 505 = .ok (.iaload, 1) := by decide +kernel
theorem dL_law_506 : decode cL_law 506 = .ok (.aload_n 0, 1) := by decide +kernel
theorem dL_law_507 : decode cL_law 507 = .ok (.iload 5, 2) := by decide +kernel
theorem dL_law_509 : decode cL_law 509 = .ok (.iconst 5, 1) := by decide +kernel
theorem dL_law_510 : decode cL_law 510 = .ok (.iadd, 1) := by decide +kernel
theorem dL_law_511 : decode cL_law 511 = .ok (.iaload, 1) := by decide +kernel
theorem dL_law_512 : decode cL_law 512 = .ok (.invokevirtual 107, 3) := by decide +kernel
theorem dL_law_515 : decode cL_law 515 = .ok (.istore 7, 2) := by decide +kernel
theorem dL_law_517 : decode cL_law 517 = .ok (.aload_n 2, 1) := by decide +kernel
theorem dL_law_518 : decode cL_law 518 = .ok (.invokevirtual 91, 3) := by decide +kernel
theorem dL_law_521 : decode cL_law 521 = .ok (.iload 6, 2) := by decide +kernel
theorem dL_law_523 : decode cL_law 523 = .ok (.if_icmp .eq 5, 3) := by decide +kernel
theorem dL_law_526 : decode cL_law 526 = .ok (.iconst 0, 1) := by decide +kernel
theorem dL_law_527 : decode cL_law 527 = .ok (.ireturn, 1) := by decide +kernel
theorem dL_law_528 : decode cL_law 528 = .ok (.iload 6, 2) := by decide +kernel
theorem dL_law_530 : decode cL_law 530 = .ok (.ifCond .ne 15, 3) := by decide +kernel
theorem dL_law_533 : decode cL_law 533 = .ok (.aload_n 3, 1) := by decide +kernel
theorem dL_law_534 : decode cL_law 534 = .ok (.iconst 0, 1) := by decide +kernel
theorem dL_law_535 : decode cL_law 535 = .ok (.laload, 1) := by decide +kernel
theorem dL_law_536 : decode cL_law 536 = .ok (.iload 7, 2) := by decide +kernel
theorem dL_law_538 : decode cL_law 538 = .ok (.i2l, 1) := by decide +kernel
theorem dL_law_539 : decode cL_law 539 = .ok (.lcmp, 1) := by decide +kernel
theorem dL_law_540 : decode cL_law 540 = .ok (.ifCond .eq 5, 3) := by decide +kernel
theorem dL_law_543 : decode cL_law 543 = .ok (.iconst 0, 1) := by decide +kernel
theorem dL_law_544 : decode cL_law 544 = .ok (.ireturn, 1) := by decide +kernel
theorem dL_law_545 : decode cL_law 545 = .ok (.goto 979, 3) := by decide +kernel
theorem dL_law_548 : decode cL_law 548 = .ok (.aload_n 1, 1) := by decide +kernel
theorem dL_law_549 : decode cL_law 549 = .ok (.aload_n 0, 1) := by decide +kernel
theorem dL_law_550 : decode cL_law 550 = .ok (.iload 5, 2) := by decide +kernel
theorem dL_law_552 : decode cL_law 552 = .ok (.iconst 1, 1) := by decide +kernel
theorem dL_law_553 : decode cL_law 553 = .ok (.iadd, 1) := by decide +kernel
theorem dL_law_554 : decode cL_law 554 = .ok (.iaload, 1) := by decide +kernel
theorem dL_law_555 : decode cL_law 555 = .ok (.aload_n 3, 1) := by decide +kernel
theorem dL_law_556 : decode cL_law 556 = .ok (.invokestatic 108, 3) := by decide +kernel
theorem dL_law_559 : decode cL_law 559 = .ok (.istore 6, 2) := by decide +kernel
theorem dL_law_561 : decode cL_law 561 = .ok (.aload_n 2, 1) := by decide +kernel
theorem dL_law_562 : decode cL_law 562 = .ok (.aload_n 0, 1) := by decide +kernel
theorem dL_law_563 : decode cL_law 563 = .ok (.iload 5, 2) := by decide +kernel
theorem dL_law_565 : decode cL_law 565 = .ok (.iconst 1, 1) := by decide +kernel
theorem dL_law_566 : decode cL_law 566 = .ok (.iadd, 1) := by decide +kernel
theorem dL_law_567 : decode cL_law 567 = .ok (.iaload, 1) := by decide +kernel
theorem dL_law_568 : decode cL_law 568 = .ok (.invokevirtual 111, 3) := by decide +kernel
theorem dL_law_571 : decode cL_law 571 = .ok (.istore 7, 2) := by decide +kernel
theorem dL_law_573 : decode cL_law 573 = .ok (.aload_n 2, 1) := by decide +kernel
theorem dL_law_574 : decode cL_law 574 = .ok (.invokevirtual 91, 3) := by decide +kernel
theorem dL_law_577 : decode cL_law 577 = .ok (.iload 6, 2) := by decide +kernel
theorem dL_law_579 : decode cL_law 579 = .ok (.if_icmp .eq 5, 3) := by decide +kernel
theorem dL_law_582 : decode cL_law 582 = .ok (.iconst 0, 1) := by decide +kernel
theorem dL_law_583 : decode cL_law 583 = .ok (.ireturn, 1) := by decide +kernel
theorem dL_law_584 : decode cL_law 584 = .ok (.iload 6, 2) := by decide +kernel
theorem dL_law_586 : decode cL_law 586 = .ok (.ifCond .ne 15, 3) := by decide +kernel
theorem dL_law_589 : decode cL_law 589 = .ok (.aload_n 3, 1) := by decide +kernel
theorem dL_law_590 : decode cL_law 590 = .ok (.iconst 0, 1) := by decide +kernel
theorem dL_law_591 : decode cL_law 591 = .ok (.laload, 1) := by decide +kernel
theorem dL_law_592 : decode cL_law 592 = .ok (.iload 7, 2) := by decide +kernel
theorem dL_law_594 : decode cL_law 594 = .ok (.i2l, 1) := by decide +kernel
theorem dL_law_595 : decode cL_law 595 = .ok (.lcmp, 1) := by decide +kernel
theorem dL_law_596 : decode cL_law 596 = .ok (.ifCond .eq 5, 3) := by decide +kernel
theorem dL_law_599 : decode cL_law 599 = .ok (.iconst 0, 1) := by decide +kernel
theorem dL_law_600 : decode cL_law 600 = .ok (.ireturn, 1) := by decide +kernel
theorem dL_law_601 : decode cL_law 601 = .ok (.goto 923, 3) := by decide +kernel
theorem dL_law_604 : decode cL_law 604 = .ok (.aload_n 1, 1) := by decide +kernel
theorem dL_law_605 : decode cL_law 605 = .ok (.aload_n 0, 1) := by decide +kernel
theorem dL_law_606 : decode cL_law 606 = .ok (.iload 5, 2) := by decide +kernel
theorem dL_law_608 : decode cL_law 608 = .ok (.iconst 1, 1) := by decide +kernel
theorem dL_law_609 : decode cL_law 609 = .ok (.iadd, 1) := by decide +kernel
theorem dL_law_610 : decode cL_law 610 = .ok (.iaload, 1) := by decide +kernel
theorem dL_law_611 : decode cL_law 611 = .ok (.aload_n 3, 1) := by decide +kernel
theorem dL_law_612 : decode cL_law 612 = .ok (.invokestatic 112, 3) := by decide +kernel
theorem dL_law_615 : decode cL_law 615 = .ok (.istore 6, 2) := by decide +kernel
theorem dL_law_617 : decode cL_law 617 = .ok (.aload_n 2, 1) := by decide +kernel
theorem dL_law_618 : decode cL_law 618 = .ok (.aload_n 0, 1) := by decide +kernel
theorem dL_law_619 : decode cL_law 619 = .ok (.iload 5, 2) := by decide +kernel
theorem dL_law_621 : decode cL_law 621 = .ok (.iconst 1, 1) := by decide +kernel
theorem dL_law_622 : decode cL_law 622 = .ok (.iadd, 1) := by decide +kernel
theorem dL_law_623 : decode cL_law 623 = .ok (.iaload, 1) := by decide +kernel
theorem dL_law_624 : decode cL_law 624 = .ok (.invokevirtual 114, 3) := by decide +kernel
theorem dL_law_627 : decode cL_law 627 = .ok (.istore 7, 2) := by decide +kernel
theorem dL_law_629 : decode cL_law 629 = .ok (.aload_n 2, 1) := by decide +kernel
theorem dL_law_630 : decode cL_law 630 = .ok (.invokevirtual 91, 3) := by decide +kernel
theorem dL_law_633 : decode cL_law 633 = .ok (.iload 6, 2) := by decide +kernel
theorem dL_law_635 : decode cL_law 635 = .ok (.if_icmp .eq 5, 3) := by decide +kernel
theorem dL_law_638 : decode cL_law 638 = .ok (.iconst 0, 1) := by decide +kernel
theorem dL_law_639 : decode cL_law 639 = .ok (.ireturn, 1) := by decide +kernel
theorem dL_law_640 : decode cL_law 640 = .ok (.iload 6, 2) := by decide +kernel
theorem dL_law_642 : decode cL_law 642 = .ok (.ifCond .ne 15, 3) := by decide +kernel
theorem dL_law_645 : decode cL_law 645 = .ok (.aload_n 3, 1) := by decide +kernel
theorem dL_law_646 : decode cL_law 646 = .ok (.iconst 0, 1) := by decide +kernel
theorem dL_law_647 : decode cL_law 647 = .ok (.laload, 1) := by decide +kernel
theorem dL_law_648 : decode cL_law 648 = .ok (.iload 7, 2) := by decide +kernel
theorem dL_law_650 : decode cL_law 650 = .ok (.i2l, 1) := by decide +kernel
theorem dL_law_651 : decode cL_law 651 = .ok (.lcmp, 1) := by decide +kernel
theorem dL_law_652 : decode cL_law 652 = .ok (.ifCond .eq 5, 3) := by decide +kernel
theorem dL_law_655 : decode cL_law 655 = .ok (.iconst 0, 1) := by decide +kernel
theorem dL_law_656 : decode cL_law 656 = .ok (.ireturn, 1) := by decide +kernel
theorem dL_law_657 : decode cL_law 657 = .ok (.goto 867, 3) := by decide +kernel
theorem dL_law_660 : decode cL_law 660 = .ok (.aload_n 1, 1) := by decide +kernel
theorem dL_law_661 : decode cL_law 661 = .ok (.invokevirtual 115, 3) := by decide +kernel
theorem dL_law_664 : decode cL_law 664 = .ok (.aload_n 2, 1) := by decide +kernel
theorem dL_law_665 : decode cL_law 665 = .ok (.invokevirtual 118, 3) := by decide +kernel
theorem dL_law_668 : decode cL_law 668 = .ok (.if_icmp .eq 856, 3) := by decide +kernel
theorem dL_law_671 : decode cL_law 671 = .ok (.iconst 0, 1) := by decide +kernel
theorem dL_law_672 : decode cL_law 672 = .ok (.ireturn, 1) := by decide +kernel
theorem dL_law_673 : decode cL_law 673 = .ok (.aload_n 1, 1) := by decide +kernel
theorem dL_law_674 : decode cL_law 674 = .ok (.aload_n 0, 1) := by decide +kernel
theorem dL_law_675 : decode cL_law 675 = .ok (.iload 5, 2) := by decide +kernel
theorem dL_law_677 : decode cL_law 677 = .ok (.iconst 1, 1) := by decide +kernel
theorem dL_law_678 : decode cL_law 678 = .ok (.iadd, 1) := by decide +kernel
theorem dL_law_679 : decode cL_law 679 = .ok (.iaload, 1) := by decide +kernel
theorem dL_law_680 : decode cL_law 680 = .ok (.aload_n 0, 1) := by decide +kernel
theorem dL_law_681 : decode cL_law 681 = .ok (.iload 5, 2) := by decide +kernel
theorem dL_law_683 : decode cL_law 683 = .ok (.iconst 2, 1) := by decide +kernel
theorem dL_law_684 : decode cL_law 684 = .ok (.iadd, 1) := by decide +kernel
theorem dL_law_685 : decode cL_law 685 = .ok (.iaload, 1) := by decide +kernel
theorem dL_law_686 : decode cL_law 686 = .ok (.aload_n 3, 1) := by decide +kernel
theorem dL_law_687 : decode cL_law 687 = .ok (.invokestatic 119, 3) := by decide +kernel
theorem dL_law_690 : decode cL_law 690 = .ok (.istore 6, 2) := by decide +kernel
theorem dL_law_692 : decode cL_law 692 = .ok (.aload_n 2, 1) := by decide +kernel
theorem dL_law_693 : decode cL_law 693 = .ok (.aload_n 0, 1) := by decide +kernel
theorem dL_law_694 : decode cL_law 694 = .ok (.iload 5, 2) := by decide +kernel
theorem dL_law_696 : decode cL_law 696 = .ok (.iconst 1, 1) := by decide +kernel
theorem dL_law_697 : decode cL_law 697 = .ok (.iadd, 1) := by decide +kernel
theorem dL_law_698 : decode cL_law 698 = .ok (.iaload, 1) := by decide +kernel
theorem dL_law_699 : decode cL_law 699 = .ok (.aload_n 0, 1) := by decide +kernel
theorem dL_law_700 : decode cL_law 700 = .ok (.iload 5, 2) := by decide +kernel
theorem dL_law_702 : decode cL_law 702 = .ok (.iconst 2, 1) := by decide +kernel
theorem dL_law_703 : decode cL_law 703 = .ok (.iadd, 1) := by decide +kernel
theorem dL_law_704 : decode cL_law 704 = .ok (.iaload, 1) := by decide +kernel
theorem dL_law_705 : decode cL_law 705 = .ok (.invokevirtual 121, 3) := by decide +kernel
theorem dL_law_708 : decode cL_law 708 = .ok (.istore 7, 2) := by decide +kernel
theorem dL_law_710 : decode cL_law 710 = .ok (.aload_n 2, 1) := by decide +kernel
theorem dL_law_711 : decode cL_law 711 = .ok (.invokevirtual 91, 3) := by decide +kernel
theorem dL_law_714 : decode cL_law 714 = .ok (.iload 6, 2) := by decide +kernel
theorem dL_law_716 : decode cL_law 716 = .ok (.if_icmp .eq 5, 3) := by decide +kernel
theorem dL_law_719 : decode cL_law 719 = .ok (.iconst 0, 1) := by decide +kernel
theorem dL_law_720 : decode cL_law 720 = .ok (.ireturn, 1) := by decide +kernel
theorem dL_law_721 : decode cL_law 721 = .ok (.iload 6, 2) := by decide +kernel
theorem dL_law_723 : decode cL_law 723 = .ok (.ifCond .ne 15, 3) := by decide +kernel
theorem dL_law_726 : decode cL_law 726 = .ok (.aload_n 3, 1) := by decide +kernel
theorem dL_law_727 : decode cL_law 727 = .ok (.iconst 0, 1) := by decide +kernel
theorem dL_law_728 : decode cL_law 728 = .ok (.laload, 1) := by decide +kernel
theorem dL_law_729 : decode cL_law 729 = .ok (.iload 7, 2) := by decide +kernel
theorem dL_law_731 : decode cL_law 731 = .ok (.i2l, 1) := by decide +kernel
theorem dL_law_732 : decode cL_law 732 = .ok (.lcmp, 1) := by decide +kernel
theorem dL_law_733 : decode cL_law 733 = .ok (.ifCond .eq 5, 3) := by decide +kernel
theorem dL_law_736 : decode cL_law 736 = .ok (.iconst 0, 1) := by decide +kernel
theorem dL_law_737 : decode cL_law 737 = .ok (.ireturn, 1) := by decide +kernel
theorem dL_law_738 : decode cL_law 738 = .ok (.goto 786, 3) := by decide +kernel
theorem dL_law_741 : decode cL_law 741 = .ok (.aload_n 1, 1) := by decide +kernel
theorem dL_law_742 : decode cL_law 742 = .ok (.aload_n 0, 1) := by decide +kernel
theorem dL_law_743 : decode cL_law 743 = .ok (.iload 5, 2) := by decide +kernel
theorem dL_law_745 : decode cL_law 745 = .ok (.iconst 1, 1) := by decide +kernel
theorem dL_law_746 : decode cL_law 746 = .ok (.iadd, 1) := by decide +kernel
theorem dL_law_747 : decode cL_law 747 = .ok (.iaload, 1) := by decide +kernel
theorem dL_law_748 : decode cL_law 748 = .ok (.aload 4, 2) := by decide +kernel
theorem dL_law_750 : decode cL_law 750 = .ok (.invokestatic 122, 3) := by decide +kernel
theorem dL_law_753 : decode cL_law 753 = .ok (.istore 6, 2) := by decide +kernel
theorem dL_law_755 : decode cL_law 755 = .ok (.aload_n 2, 1) := by decide +kernel
theorem dL_law_756 : decode cL_law 756 = .ok (.aload_n 0, 1) := by decide +kernel
theorem dL_law_757 : decode cL_law 757 = .ok (.iload 5, 2) := by decide +kernel
theorem dL_law_759 : decode cL_law 759 = .ok (.iconst 1, 1) := by decide +kernel
theorem dL_law_760 : decode cL_law 760 = .ok (.iadd, 1) := by decide +kernel
theorem dL_law_761 : decode cL_law 761 = .ok (.iaload, 1) := by decide +kernel
theorem dL_law_762 : decode cL_law 762 = .ok (.invokevirtual 125, 3) := by decide +kernel
theorem dL_law_765 : decode cL_law 765 = .ok (.fstore 7, 2) := by decide +kernel
theorem dL_law_767 : decode cL_law 767 = .ok (.aload_n 2, 1) := by decide +kernel
theorem dL_law_768 : decode cL_law 768 = .ok (.invokevirtual 91, 3) := by decide +kernel
theorem dL_law_771 : decode cL_law 771 = .ok (.iload 6, 2) := by decide +kernel
theorem dL_law_773 : decode cL_law 773 = .ok (.if_icmp .eq 5, 3) := by decide +kernel
theorem dL_law_776 : decode cL_law 776 = .ok (.iconst 0, 1) := by decide +kernel
theorem dL_law_777 : decode cL_law 777 = .ok (.ireturn, 1) := by decide +kernel
theorem dL_law_778 : decode cL_law 778 = .ok (.iload 6, 2) := by decide +kernel
theorem dL_law_780 : decode cL_law 780 = .ok (.ifCond .ne 36, 3) := by decide +kernel
theorem dL_law_783 : decode cL_law 783 = .ok (.aload 4, 2) := by decide +kernel
theorem dL_law_785 : decode cL_law 785 = .ok (.iconst 0, 1) := by decide +kernel
theorem dL_law_786 : decode cL_law 786 = .ok (.daload, 1) := by decide +kernel
theorem dL_law_787 : decode cL_law 787 = .ok (.fload 7, 2) := by decide +kernel
theorem dL_law_789 : decode cL_law 789 = .ok (.f2d, 1) := by decide +kernel
theorem dL_law_790 : decode cL_law 790 = .ok (.dcmp .l, 1) := by decide +kernel
theorem dL_law_791 : decode cL_law 791 = .ok (.ifCond .eq 25, 3) := by decide +kernel
theorem dL_law_794 : decode cL_law 794 = .ok (.aload 4, 2) := by decide +kernel
theorem dL_law_796 : decode cL_law 796 = .ok (.iconst 0, 1) := by decide +kernel
theorem dL_law_797 : decode cL_law 797 = .ok (.daload, 1) := by decide +kernel
theorem dL_law_798 : decode cL_law 798 = .ok (.aload 4, 2) := by decide +kernel
theorem dL_law_800 : decode cL_law 800 = .ok (.iconst 0, 1) := by decide +kernel
theorem dL_law_801 : decode cL_law 801 = .ok (.daload, 1) := by decide +kernel
theorem dL_law_802 : decode cL_law 802 = .ok (.dcmp .l, 1) := by decide +kernel
theorem dL_law_803 : decode cL_law 803 = .ok (.ifCond .eq 11, 3) := by decide +kernel
theorem dL_law_806 : decode cL_law 806 = .ok (.fload 7, 2) := by decide +kernel
theorem dL_law_808 : decode cL_law 808 = .ok (.fload 7, 2) := by decide +kernel
theorem dL_law_810 : decode cL_law 810 = .ok (.fcmp .l, 1) := by decide +kernel
theorem dL_law_811 : decode cL_law 811 = .ok (.ifCond .ne 5, 3) := by decide +kernel
theorem dL_law_814 : decode cL_law 814 = .ok (.iconst 0, 1) := by decide +kernel
theorem dL_law_815 : decode cL_law 815 = .ok (.ireturn, 1) := by decide +kernel
theorem dL_law_816 : decode cL_law 816 = .ok (.goto 708, 3) := by decide +kernel
theorem dL_law_819 : decode cL_law 819 = .ok (.aload_n 1, 1) := by decide +kernel
theorem dL_law_820 : decode cL_law 820 = .ok (.aload_n 0, 1) := by decide +kernel
theorem dL_law_821 : decode cL_law 821 = .ok (.iload 5, 2) := by decide +kernel
theorem dL_law_823 : decode cL_law 823 = .ok (.iconst 1, 1) := by decide +kernel
theorem dL_law_824 : decode cL_law 824 = .ok (.iadd, 1) := by decide +kernel
theorem dL_law_825 : decode cL_law 825 = .ok (.iaload, 1) := by decide +kernel
theorem dL_law_826 : decode cL_law 826 = .ok (.aload_n 3, 1) := by decide +kernel
theorem dL_law_827 : decode cL_law 827 = .ok (.invokestatic 126, 3) := by decide +kernel
theorem dL_law_830 : decode cL_law 830 = .ok (.istore 6, 2) := by decide +kernel
theorem dL_law_832 : decode cL_law 832 = .ok (.aload_n 2, 1) := by decide +kernel
theorem dL_law_833 : decode cL_law 833 = .ok (.aload_n 0, 1) := by decide +kernel
theorem dL_law_834 : decode cL_law 834 = .ok (.iload 5, 2) := by decide +kernel
theorem dL_law_836 : decode cL_law 836 = .ok (.iconst 1, 1) := by decide +kernel
theorem dL_law_837 : decode cL_law 837 = .ok (.iadd, 1) := by decide +kernel
theorem dL_law_838 : decode cL_law 838 = .ok (.iaload, 1) := by decide +kernel
theorem dL_law_839 : decode cL_law 839 = .ok (.invokevirtual 128, 3) := by decide +kernel
theorem dL_law_842 : decode cL_law 842 = .ok (.istore 7, 2) := by decide +kernel
theorem dL_law_844 : decode cL_law 844 = .ok (.aload_n 2, 1) := by decide +kernel
theorem dL_law_845 : decode cL_law 845 = .ok (.invokevirtual 91, 3) := by decide +kernel
theorem dL_law_848 : decode cL_law 848 = .ok (.iload 6, 2) := by decide +kernel
theorem dL_law_850 : decode cL_law 850 = .ok (.if_icmp .eq 5, 3) := by decide +kernel
theorem dL_law_853 : decode cL_law 853 = .ok (.iconst 0, 1) := by decide +kernel
theorem dL_law_854 : decode cL_law 854 = .ok (.ireturn, 1) := by decide +kernel
theorem dL_law_855 : decode cL_law 855 = .ok (.iload 6, 2) := by decide +kernel
theorem dL_law_857 : decode cL_law 857 = .ok (.ifCond .ne 15, 3) := by decide +kernel
theorem dL_law_860 : decode cL_law 860 = .ok (.aload_n 3, 1) := by decide +kernel
theorem dL_law_861 : decode cL_law 861 = .ok (.iconst 0, 1) := by decide +kernel
theorem dL_law_862 : decode cL_law 862 = .ok (.laload, 1) := by decide +kernel
theorem dL_law_863 : decode cL_law 863 = .ok (.iload 7, 2) := by decide +kernel
theorem dL_law_865 : decode cL_law 865 = .ok (.i2l, 1) := by decide +kernel
theorem dL_law_866 : decode cL_law 866 = .ok (.lcmp, 1) := by decide +kernel
theorem dL_law_867 : decode cL_law 867 = .ok (.ifCond .eq 5, 3) := by decide +kernel
theorem dL_law_870 : decode cL_law 870 = .ok (.iconst 0, 1) := by decide +kernel
theorem dL_law_871 : decode cL_law 871 = .ok (.ireturn, 1) := by decide +kernel
theorem dL_law_872 : decode cL_law 872 = .ok (.goto 652, 3) := by decide +kernel
theorem dL_law_875 : decode cL_law 875 = .ok (.aload_n 1, 1) := by decide +kernel
theorem dL_law_876 : decode cL_law 876 = .ok (.aload_n 0, 1) := by decide +kernel
theorem dL_law_877 : decode cL_law 877 = .ok (.iload 5, 2) := by decide +kernel
theorem dL_law_879 : decode cL_law 879 = .ok (.iconst 1, 1) := by decide +kernel
theorem dL_law_880 : decode cL_law 880 = .ok (.iadd, 1) := by decide +kernel
theorem dL_law_881 : decode cL_law 881 = .ok (.iaload, 1) := by decide +kernel
theorem dL_law_882 : decode cL_law 882 = .ok (.aload_n 3, 1) := by decide +kernel
theorem dL_law_883 : decode cL_law 883 = .ok (.invokestatic 129, 3) := by decide +kernel
theorem dL_law_886 : decode cL_law 886 = .ok (.istore 6, 2) := by decide +kernel
theorem dL_law_888 : decode cL_law 888 = .ok (.aload_n 2, 1) := by decide +kernel
theorem dL_law_889 : decode cL_law 889 = .ok (.aload_n 0, 1) := by decide +kernel
theorem dL_law_890 : decode cL_law 890 = .ok (.iload 5, 2) := by decide +kernel
theorem dL_law_892 : decode cL_law 892 = .ok (.iconst 1, 1) := by decide +kernel
theorem dL_law_893 : decode cL_law 893 = .ok (.iadd, 1) := by decide +kernel
theorem dL_law_894 : decode cL_law 894 = .ok (.iaload, 1) := by decide +kernel
theorem dL_law_895 : decode cL_law 895 = .ok (.invokevirtual 131, 3) := by decide +kernel
theorem dL_law_898 : decode cL_law 898 = .ok (.istore 7, 2) := by decide +kernel
theorem dL_law_900 : decode cL_law 900 = .ok (.aload_n 2, 1) := by decide +kernel
theorem dL_law_901 : decode cL_law 901 = .ok (.invokevirtual 91, 3) := by decide +kernel
theorem dL_law_904 : decode cL_law 904 = .ok (.iload 6, 2) := by decide +kernel
theorem dL_law_906 : decode cL_law 906 = .ok (.if_icmp .eq 5, 3) := by decide +kernel
theorem dL_law_909 : decode cL_law 909 = .ok (.iconst 0, 1) := by decide +kernel
theorem dL_law_910 : decode cL_law 910 = .ok (.ireturn, 1) := by decide +kernel
theorem dL_law_911 : decode cL_law 911 = .ok (.iload 6, 2) := by decide +kernel
theorem dL_law_913 : decode cL_law 913 = .ok (.ifCond .ne 15, 3) := by decide +kernel
theorem dL_law_916 : decode cL_law 916 = .ok (.aload_n 3, 1) := by decide +kernel
theorem dL_law_917 : decode cL_law 917 = .ok (.iconst 0, 1) := by decide +kernel
theorem dL_law_918 : decode cL_law 918 = .ok (.laload, 1) := by decide +kernel
theorem dL_law_919 : decode cL_law 919 = .ok (.iload 7, 2) := by decide +kernel
theorem dL_law_921 : decode cL_law 921 = .ok (.i2l, 1) := by decide +kernel
theorem dL_law_922 : decode cL_law 922 = .ok (.lcmp, 1) := by decide +kernel
theorem dL_law_923 : decode cL_law 923 = .ok (.ifCond .eq 5, 3) := by decide +kernel
theorem dL_law_926 : decode cL_law 926 = .ok (.iconst 0, 1) := by decide +kernel
theorem dL_law_927 : decode cL_law 927 = .ok (.ireturn, 1) := by decide +kernel
theorem dL_law_928 : decode cL_law 928 = .ok (.goto 596, 3) := by decide +kernel
theorem dL_law_931 : decode cL_law 931 = .ok (.aload_n 1, 1) := by decide +kernel
theorem dL_law_932 : decode cL_law 932 = .ok (.aload_n 0, 1) := by decide +kernel
theorem dL_law_933 : decode cL_law 933 = .ok (.iload 5, 2) := by decide +kernel
theorem dL_law_935 : decode cL_law 935 = .ok (.iconst 1, 1) := by decide +kernel
theorem dL_law_936 : decode cL_law 936 = .ok (.iadd, 1) := by decide +kernel
theorem dL_law_937 : decode cL_law 937 = .ok (.iaload, 1) := by decide +kernel
theorem dL_law_938 : decode cL_law 938 = .ok (.aload_n 3, 1) := by decide +kernel
theorem dL_law_939 : decode cL_law 939 = .ok (.invokestatic 132, 3) := by decide +kernel
theorem dL_law_942 : decode cL_law 942 = .ok (.istore 6, 2) := by decide +kernel
theorem dL_law_944 : decode cL_law 944 = .ok (.aload_n 2, 1) := by decide +kernel
theorem dL_law_945 : decode cL_law 945 = .ok (.aload_n 0, 1) := by decide +kernel
theorem dL_law_946 : decode cL_law 946 = .ok (.iload 5, 2) := by decide +kernel
theorem dL_law_948 : decode cL_law 948 = .ok (.iconst 1, 1) := by decide +kernel
theorem dL_law_949 : decode cL_law 949 = .ok (.iadd, 1) := by decide +kernel
theorem dL_law_950 : decode cL_law 950 = .ok (.iaload, 1) := by decide +kernel
theorem dL_law_951 : decode cL_law 951 = .ok (.invokevirtual 134, 3) := by decide +kernel
theorem dL_law_954 : decode cL_law 954 = .ok (.istore 7, 2) := by decide +kernel
theorem dL_law_956 : decode cL_law 956 = .ok (.aload_n 2, 1) := by decide +kernel
theorem dL_law_957 : decode cL_law 957 = .ok (.invokevirtual 91, 3) := by decide +kernel
theorem dL_law_960 : decode cL_law 960 = .ok (.iload 6, 2) := by decide +kernel
theorem dL_law_962 : decode cL_law 962 = .ok (.if_icmp .eq 5, 3) := by decide +kernel
theorem dL_law_965 : decode cL_law 965 = .ok (.iconst 0, 1) := by decide +kernel
theorem dL_law_966 : decode cL_law 966 = .ok (.ireturn, 1) := by decide +kernel
theorem dL_law_967 : decode cL_law 967 = .ok (.iload 6, 2) := by decide +kernel
theorem dL_law_969 : decode cL_law 969 = .ok (.ifCond .ne 15, 3) := by decide +kernel
theorem dL_law_972 : decode cL_law 972 = .ok (.aload_n 3, 1) := by decide +kernel
theorem dL_law_973 : decode cL_law 973 = .ok (.iconst 0, 1) := by decide +kernel
theorem dL_law_974 : decode cL_law 974 = .ok (.laload, 1) := by decide +kernel
theorem dL_law_975 : decode cL_law 975 = .ok (.iload 7, 2) := by decide +kernel
theorem dL_law_977 : decode cL_law 977 = .ok (.i2l, 1) := by decide +kernel
theorem dL_law_978 : decode cL_law 978 = .ok (.lcmp, 1) := by decide +kernel
theorem dL_law_979 : decode cL_law 979 = .ok (.ifCond .eq 5, 3) := by decide +kernel
theorem dL_law_982 : decode cL_law 982 = .ok (.iconst 0, 1) := by decide +kernel
theorem dL_law_983 : decode cL_law 983 = .ok (.ireturn, 1) := by decide +kernel
theorem dL_law_984 : decode cL_law 984 = .ok (.goto 540, 3) := by decide +kernel
theorem dL_law_987 : decode cL_law 987 = .ok (.aload_n 1, 1) := by decide +kernel
theorem dL_law_988 : decode cL_law 988 = .ok (.aload_n 0, 1) := by decide +kernel
theorem dL_law_989 : decode cL_law 989 = .ok (.iload 5, 2) := by decide +kernel
theorem dL_law_991 : decode cL_law 991 = .ok (.iconst 1, 1) := by decide +kernel
theorem dL_law_992 : decode cL_law 992 = .ok (.iadd, 1) := by decide +kernel
theorem dL_law_993 : decode cL_law 993 = .ok (.iaload, 1) := by decide +kernel
theorem dL_law_994 : decode cL_law 994 = .ok (.aload_n 3, 1) := by decide +kernel
theorem dL_law_995 : decode cL_law 995 = .ok (.invokestatic 135, 3) := by decide +kernel
theorem dL_law_998 : decode cL_law 998 = .ok (.istore 6, 2) := by decide +kernel
theorem dL_law_1000 : decode cL_law 1000 = .ok (.aload_n 2, 1) := by decide +kernel
theorem dL_law_1001 : decode cL_law 1001 = .ok (.aload_n 0, 1) := by decide +kernel
theorem dL_law_1002 : decode cL_law 1002 = .ok (.iload 5, 2) := by decide +kernel
theorem dL_law_1004 : decode cL_law 1004 = .ok (.iconst 1, 1) := by decide +kernel
theorem dL_law_1005 : decode cL_law 1005 = .ok (.iadd, 1) := by decide +kernel
theorem dL_law_1006 : decode cL_law 1006 = .ok (.iaload, 1) := by decide +kernel
theorem dL_law_1007 : decode cL_law 1007 = .ok (.invokevirtual 137, 3) := by decide +kernel
theorem dL_law_1010 : decode cL_law 1010 = .ok (.istore 7, 2) := by decide +kernel
theorem dL_law_1012 : decode cL_law 1012 = .ok (.aload_n 2, 1) := by decide +kernel
theorem dL_law_1013 : decode cL_law 1013 = .ok (.invokevirtual 91, 3) := by decide +kernel
theorem dL_law_1016 : decode cL_law 1016 = .ok (.iload 6, 2) := by decide +kernel
theorem dL_law_1018 : decode cL_law 1018 = .ok (.if_icmp .eq 5, 3) := by decide +kernel
theorem dL_law_1021 : decode cL_law 1021 = .ok (.iconst 0, 1) := by decide +kernel
theorem dL_law_1022 : decode cL_law 1022 = .ok (.ireturn, 1) := by decide +kernel
theorem dL_law_1023 : decode cL_law 1023 = .ok (.iload 6, 2) := by decide +kernel
theorem dL_law_1025 : decode cL_law 1025 = .ok (.ifCond .ne 15, 3) := by decide +kernel
theorem dL_law_1028 : decode cL_law 1028 = .ok (.aload_n 3, 1) := by decide +kernel
theorem dL_law_1029 : decode cL_law 1029 = .ok (.iconst 0, 1) := by decide +kernel
theorem dL_law_1030 : decode cL_law 1030 = .ok (.laload, 1) := by decide +kernel
theorem dL_law_1031 : decode cL_law 1031 = .ok (.iload 7, 2) := by decide +kernel
theorem dL_law_1033 : decode cL_law 1033 = .ok (.i2l, 1) := by decide +kernel
theorem dL_law_1034 : decode cL_law 1034 = .ok (.lcmp, 1) := by decide +kernel
theorem dL_law_1035 : decode cL_law 1035 = .ok (.ifCond .eq 5, 3) := by decide +kernel
theorem dL_law_1038 : decode cL_law 1038 = .ok (.iconst 0, 1) := by decide +kernel
theorem dL_law_1039 : decode cL_law 1039 = .ok (.ireturn, 1) := by decide +kernel
theorem dL_law_1040 : decode cL_law 1040 = .ok (.goto 484, 3) := by decide +kernel
theorem dL_law_1043 : decode cL_law 1043 = .ok (.aload_n 1, 1) := by decide +kernel
theorem dL_law_1044 : decode cL_law 1044 = .ok (.aload_n 0, 1) := by decide +kernel
theorem dL_law_1045 : decode cL_law 1045 = .ok (.iload 5, 2) := by decide +kernel
theorem dL_law_1047 : decode cL_law 1047 = .ok (.iconst 1, 1) := by decide +kernel
theorem dL_law_1048 : decode cL_law 1048 = .ok (.iadd, 1) := by decide +kernel
theorem dL_law_1049 : decode cL_law 1049 = .ok (.iaload, 1) := by decide +kernel
theorem dL_law_1050 : decode cL_law 1050 = .ok (.aload_n 0, 1) := by decide +kernel
theorem dL_law_1051 : decode cL_law 1051 = .ok (.iload 5, 2) := by decide +kernel
theorem dL_law_1053 : decode cL_law 1053 = .ok (.iconst 2, 1) := by decide +kernel
theorem dL_law_1054 : decode cL_law 1054 = .ok (.iadd, 1) := by decide +kernel
theorem dL_law_1055 : decode cL_law 1055 = .ok (.iaload, 1) := by decide +kernel
theorem dL_law_1056 : decode cL_law 1056 = .ok (.aload_n 3, 1) := by decide +kernel
theorem dL_law_1057 : decode cL_law 1057 = .ok (.invokestatic 138, 3) := by decide +kernel
theorem dL_law_1060 : decode cL_law 1060 = .ok (.istore 6, 2) := by decide +kernel
theorem dL_law_1062 : decode cL_law 1062 = .ok (.aload_n 2, 1) := by decide +kernel
theorem dL_law_1063 : decode cL_law 1063 = .ok (.aload_n 0, 1) := by decide +kernel
theorem dL_law_1064 : decode cL_law 1064 = .ok (.iload 5, 2) := by decide +kernel
theorem dL_law_1066 : decode cL_law 1066 = .ok (.iconst 1, 1) := by decide +kernel
theorem dL_law_1067 : decode cL_law 1067 = .ok (.iadd, 1) := by decide +kernel
theorem dL_law_1068 : decode cL_law 1068 = .ok (.iaload, 1) := by decide +kernel
theorem dL_law_1069 : decode cL_law 1069 = .ok (.aload_n 0, 1) := by decide +kernel
theorem dL_law_1070 : decode cL_law 1070 = .ok (.iload 5, 2) := by decide +kernel
theorem dL_law_1072 : decode cL_law 1072 = .ok (.iconst 2, 1) := by decide +kernel
theorem dL_law_1073 : decode cL_law 1073 = .ok (.iadd, 1) := by decide +kernel
theorem dL_law_1074 : decode cL_law 1074 = .ok (.iaload, 1) := by decide +kernel
theorem dL_law_1075 : decode cL_law 1075 = .ok (.invokevirtual 140, 3) := by decide +kernel
theorem dL_law_1078 : decode cL_law 1078 = .ok (.istore 7, 2) := by decide +kernel
theorem dL_law_1080 : decode cL_law 1080 = .ok (.aload_n 2, 1) := by decide +kernel
theorem dL_law_1081 : decode cL_law 1081 = .ok (.invokevirtual 91, 3) := by decide +kernel
theorem dL_law_1084 : decode cL_law 1084 = .ok (.iload 6, 2) := by decide +kernel
theorem dL_law_1086 : decode cL_law 1086 = .ok (.if_icmp .eq 5, 3) := by decide +kernel
theorem dL_law_1089 : decode cL_law 1089 = .ok (.iconst 0, 1) := by decide +kernel
theorem dL_law_1090 : decode cL_law 1090 = .ok (.ireturn, 1) := by decide +kernel
theorem dL_law_1091 : decode cL_law 1091 = .ok (.iload 6, 2) := by decide +kernel
theorem dL_law_1093 : decode cL_law 1093 = .ok (.ifCond .ne 15, 3) := by decide +kernel
theorem dL_law_1096 : decode cL_law 1096 = .ok (.aload_n 3, 1) := by decide +kernel
theorem dL_law_1097 : decode cL_law 1097 = .ok (.iconst 0, 1) := by decide +kernel
theorem dL_law_1098 : decode cL_law 1098 = .ok (.laload, 1) := by decide +kernel
theorem dL_law_1099 : decode cL_law 1099 = .ok (.iload 7, 2) := by decide +kernel
theorem dL_law_1101 : decode cL_law 1101 = .ok (.i2l, 1) := by decide +kernel
theorem dL_law_1102 : decode cL_law 1102 = .ok (.lcmp, 1) := by decide +kernel
theorem dL_law_1103 : decode cL_law 1103 = .ok (.ifCond .eq 5, 3) := by decide +kernel
theorem dL_law_1106 : decode cL_law 1106 = .ok (.iconst 0, 1) := by decide +kernel
theorem dL_law_1107 : decode cL_law 1107 = .ok (.ireturn, 1) := by decide +kernel
theorem dL_law_1108 : decode cL_law 1108 = .ok (.goto 416, 3) := by decide +kernel
theorem dL_law_1111 : decode cL_law 1111 = .ok (.aload_n 1, 1) := by decide +kernel
theorem dL_law_1112 : decode cL_law 1112 = .ok (.aload_n 0, 1) := by decide +kernel
theorem dL_law_1113 : decode cL_law 1113 = .ok (.iload 5, 2) := by decide +kernel
theorem dL_law_1115 : decode cL_law 1115 = .ok (.iconst 1, 1) := by decide +kernel
theorem dL_law_1116 : decode cL_law 1116 = .ok (.iadd, 1) := by decide +kernel
theorem dL_law_1117 : decode cL_law 1117 = .ok (.iaload, 1) := by decide +kernel
theorem dL_law_1118 : decode cL_law 1118 = .ok (.aload_n 3, 1) := by decide +kernel
theorem dL_law_1119 : decode cL_law 1119 = .ok (.invokestatic 141, 3) := by decide +kernel
theorem dL_law_1122 : decode cL_law 1122 = .ok (.istore 6, 2) := by decide +kernel
theorem dL_law_1124 : decode cL_law 1124 = .ok (.aload_n 2, 1) := by decide +kernel
theorem dL_law_1125 : decode cL_law 1125 = .ok (.aload_n 0, 1) := by decide +kernel
theorem dL_law_1126 : decode cL_law 1126 = .ok (.iload 5, 2) := by decide +kernel
theorem dL_law_1128 : decode cL_law 1128 = .ok (.iconst 1, 1) := by decide +kernel
theorem dL_law_1129 : decode cL_law 1129 = .ok (.iadd, 1) := by decide +kernel
theorem dL_law_1130 : decode cL_law 1130 = .ok (.iaload, 1) := by decide +kernel
theorem dL_law_1131 : decode cL_law 1131 = .ok (.invokevirtual 143, 3) := by decide +kernel
theorem dL_law_1134 : decode cL_law 1134 = .ok (.istore 7, 2) := by decide +kernel
theorem dL_law_1136 : decode cL_law 1136 = .ok (.aload_n 2, 1) := by decide +kernel
theorem dL_law_1137 : decode cL_law 1137 = .ok (.invokevirtual 91, 3) := by decide +kernel
theorem dL_law_1140 : decode cL_law 1140 = .ok (.iload 6, 2) := by decide +kernel
theorem dL_law_1142 : decode cL_law 1142 = .ok (.if_icmp .eq 5, 3) := by decide +kernel
theorem dL_law_1145 : decode cL_law 1145 = .ok (.iconst 0, 1) := by decide +kernel
theorem dL_law_1146 : decode cL_law 1146 = .ok (.ireturn, 1) := by decide +kernel
theorem dL_law_1147 : decode cL_law 1147 = .ok (.iload 6, 2) := by decide +kernel
theorem dL_law_1149 : decode cL_law 1149 = .ok (.ifCond .ne 15, 3) := by decide +kernel
theorem dL_law_1152 : decode cL_law 1152 = .ok (.aload_n 3, 1) := by decide +kernel
theorem dL_law_1153 : decode cL_law 1153 = .ok (.iconst 0, 1) := by decide +kernel
theorem dL_law_1154 : decode cL_law 1154 = .ok (.laload, 1) := by decide +kernel
theorem dL_law_1155 : decode cL_law 1155 = .ok (.iload 7, 2) := by decide +kernel
theorem dL_law_1157 : decode cL_law 1157 = .ok (.i2l, 1) := by decide +kernel
theorem dL_law_1158 : decode cL_law 1158 = .ok (.lcmp, 1) := by decide +kernel
theorem dL_law_1159 : decode cL_law 1159 = .ok (.ifCond .eq 5, 3) := by decide +kernel
theorem dL_law_1162 : decode cL_law 1162 = .ok (.iconst 0, 1) := by decide +kernel
theorem dL_law_1163 : decode cL_law 1163 = .ok (.ireturn, 1) := by decide +kernel
theorem dL_law_1164 : decode cL_law 1164 = .ok (.goto 360, 3) := by decide +kernel
theorem dL_law_1167 : decode cL_law 1167 = .ok (.aload_n 1, 1) := by decide +kernel
theorem dL_law_1168 : decode cL_law 1168 = .ok (.aload_n 0, 1) := by decide +kernel
theorem dL_law_1169 : decode cL_law 1169 = .ok (.iload 5, 2) := by decide +kernel
theorem dL_law_1171 : decode cL_law 1171 = .ok (.iconst 1, 1) := by decide +kernel
theorem dL_law_1172 : decode cL_law 1172 = .ok (.iadd, 1) := by decide +kernel
theorem dL_law_1173 : decode cL_law 1173 = .ok (.iaload, 1) := by decide +kernel
theorem dL_law_1174 : decode cL_law 1174 = .ok (.aload_n 3, 1) := by decide +kernel
theorem dL_law_1175 : decode cL_law 1175 = .ok (.invokestatic 144, 3) := by decide +kernel
theorem dL_law_1178 : decode cL_law 1178 = .ok (.istore 6, 2) := by decide +kernel
theorem dL_law_1180 : decode cL_law 1180 = .ok (.aload_n 2, 1) := by decide +kernel
theorem dL_law_1181 : decode cL_law 1181 = .ok (.aload_n 0, 1) := by decide +kernel
theorem dL_law_1182 : decode cL_law 1182 = .ok (.iload 5, 2) := by decide +kernel
theorem dL_law_1184 : decode cL_law 1184 = .ok (.iconst 1, 1) := by decide +kernel
theorem dL_law_1185 : decode cL_law 1185 = .ok (.iadd, 1) := by decide +kernel
theorem dL_law_1186 : decode cL_law 1186 = .ok (.iaload, 1) := by decide +kernel
theorem dL_law_1187 : decode cL_law 1187 = .ok (.invokevirtual 146, 3) := by decide +kernel
theorem dL_law_1190 : decode cL_law 1190 = .ok (.istore 7, 2) := by decide +kernel
theorem dL_law_1192 : decode cL_law 1192 = .ok (.aload_n 2, 1) := by decide +kernel
theorem dL_law_1193 : decode cL_law 1193 = .ok (.invokevirtual 91, 3) := by decide +kernel
theorem dL_law_1196 : decode cL_law 1196 = .ok (.iload 6, 2) := by decide +kernel
theorem dL_law_1198 : decode cL_law 1198 = .ok (.if_icmp .eq 5, 3) := by decide +kernel
theorem dL_law_1201 : decode cL_law 1201 = .ok (.iconst 0, 1) := by decide +kernel
theorem dL_law_1202 : decode cL_law 1202 = .ok (.ireturn, 1) := by decide +kernel
theorem dL_law_1203 : decode cL_law 1203 = .ok (.iload 6, 2) := by decide +kernel
theorem dL_law_1205 : decode cL_law 1205 = .ok (.ifCond .ne 15, 3) := by decide +kernel
theorem dL_law_1208 : decode cL_law 1208 = .ok (.aload_n 3, 1) := by decide +kernel
theorem dL_law_1209 : decode cL_law 1209 = .ok (.iconst 0, 1) := by decide +kernel
theorem dL_law_1210 : decode cL_law 1210 = .ok (.laload, 1) := by decide +kernel
theorem dL_law_1211 : decode cL_law 1211 = .ok (.iload 7, 2) := by decide +kernel
theorem dL_law_1213 : decode cL_law 1213 = .ok (.i2l, 1) := by decide +kernel
theorem dL_law_1214 : decode cL_law 1214 = .ok (.lcmp, 1) := by decide +kernel
theorem dL_law_1215 : decode cL_law 1215 = .ok (.ifCond .eq 5, 3) := by decide +kernel
theorem dL_law_1218 : decode cL_law 1218 = .ok (.iconst 0, 1) := by decide +kernel
theorem dL_law_1219 : decode cL_law 1219 = .ok (.ireturn, 1) := by decide +kernel
theorem dL_law_1220 : decode cL_law 1220 = .ok (.goto 304, 3) := by decide +kernel
theorem dL_law_1223 : decode cL_law 1223 = .ok (.aload_n 1, 1) := by decide +kernel
theorem dL_law_1224 : decode cL_law 1224 = .ok (.aload_n 0, 1) := by decide +kernel
theorem dL_law_1225 : decode cL_law 1225 = .ok (.iload 5, 2) := by decide +kernel
theorem dL_law_1227 : decode cL_law 1227 = .ok (.iconst 1, 1) := by decide +kernel
theorem dL_law_1228 : decode cL_law 1228 = .ok (.iadd, 1) := by decide +kernel
theorem dL_law_1229 : decode cL_law 1229 = .ok (.iaload, 1) := by decide +kernel
theorem dL_law_1230 : decode cL_law 1230 = .ok (.aload_n 0, 1) := by decide +kernel
theorem dL_law_1231 : decode cL_law 1231 = .ok (.iload 5, 2) := by decide +kernel
theorem dL_law_1233 : decode cL_law 1233 = .ok (.iconst 2, 1) := by decide +kernel
theorem dL_law_1234 : decode cL_law 1234 = .ok (.iadd, 1) := by decide +kernel
theorem dL_law_1235 : decode cL_law 1235 = .ok (.iaload, 1) := by decide +kernel
theorem dL_law_1236 : decode cL_law 1236 = .ok (.aload_n 3, 1) := by decide +kernel
theorem dL_law_1237 : decode cL_law 1237 = .ok (.invokestatic 147, 3) := by decide +kernel
theorem dL_law_1240 : decode cL_law 1240 = .ok (.istore 6, 2) := by decide +kernel
theorem dL_law_1242 : decode cL_law 1242 = .ok (.aload_n 2, 1) := by decide +kernel
theorem dL_law_1243 : decode cL_law 1243 = .ok (.aload_n 0, 1) := by decide +kernel
theorem dL_law_1244 : decode cL_law 1244 = .ok (.iload 5, 2) := by decide +kernel
theorem dL_law_1246 : decode cL_law 1246 = .ok (.iconst 1, 1) := by decide +kernel
theorem dL_law_1247 : decode cL_law 1247 = .ok (.iadd, 1) := by decide +kernel
theorem dL_law_1248 : decode cL_law 1248 = .ok (.iaload, 1) := by decide +kernel
theorem dL_law_1249 : decode cL_law 1249 = .ok (.aload_n 0, 1) := by decide +kernel
theorem dL_law_1250 : decode cL_law 1250 = .ok (.iload 5, 2) := by decide +kernel
theorem dL_law_1252 : decode cL_law 1252 = .ok (.iconst 2, 1) := by decide +kernel
theorem dL_law_1253 : decode cL_law 1253 = .ok (.iadd, 1) := by decide +kernel
theorem dL_law_1254 : decode cL_law 1254 = .ok (.iaload, 1) := by decide +kernel
theorem dL_law_1255 : decode cL_law 1255 = .ok (.invokevirtual 149, 3) := by decide +kernel
theorem dL_law_1258 : decode cL_law 1258 = .ok (.istore 7, 2) := by decide +kernel
theorem dL_law_1260 : decode cL_law 1260 = .ok (.aload_n 2, 1) := by decide +kernel
theorem dL_law_1261 : decode cL_law 1261 = .ok (.invokevirtual 91, 3) := by decide +kernel
theorem dL_law_1264 : decode cL_law 1264 = .ok (.iload 6, 2) := by decide +kernel
theorem dL_law_1266 : decode cL_law 1266 = .ok (.if_icmp .eq 5, 3) := by decide +kernel
theorem dL_law_1269 : decode cL_law 1269 = .ok (.iconst 0, 1) := by decide +kernel
theorem dL_law_1270 : decode cL_law 1270 = .ok (.ireturn, 1) := by decide +kernel
theorem dL_law_1271 : decode cL_law 1271 = .ok (.iload 6, 2) := by decide +kernel
theorem dL_law_1273 : decode cL_law 1273 = .ok (.ifCond .ne 15, 3) := by decide +kernel
theorem dL_law_1276 : decode cL_law 1276 = .ok (.aload_n 3, 1) := by decide +kernel
theorem dL_law_1277 : decode cL_law 1277 = .ok (.iconst 0, 1) := by decide +kernel
theorem dL_law_1278 : decode cL_law 1278 = .ok (.laload, 1) := by decide +kernel
theorem dL_law_1279 : decode cL_law 1279 = .ok (.iload 7, 2) := by decide +kernel
theorem dL_law_1281 : decode cL_law 1281 = .ok (.i2l, 1) := by decide +kernel
theorem dL_law_1282 : decode cL_law 1282 = .ok (.lcmp, 1) := by decide +kernel
theorem dL_law_1283 : decode cL_law 1283 = .ok (.ifCond .eq 5, 3) := by decide +kernel
theorem dL_law_1286 : decode cL_law 1286 = .ok (.iconst 0, 1) := by decide +kernel
theorem dL_law_1287 : decode cL_law 1287 = .ok (.ireturn, 1) := by decide +kernel
theorem dL_law_1288 : decode cL_law 1288 = .ok (.goto 236, 3) := by decide +kernel
theorem dL_law_1291 : decode cL_law 1291 = .ok (.aload_n 1, 1) := by decide +kernel
theorem dL_law_1292 : decode cL_law 1292 = .ok (.aload_n 0, 1) := by decide +kernel
theorem dL_law_1293 : decode cL_law 1293 = .ok (.iload 5, 2) := by decide +kernel
theorem dL_law_1295 : decode cL_law 1295 = .ok (.iconst 1, 1) := by decide +kernel
theorem dL_law_1296 : decode cL_law 1296 = .ok (.iadd, 1) := by decide +kernel
theorem dL_law_1297 : decode cL_law 1297 = .ok (.iaload, 1) := by decide +kernel
theorem dL_law_1298 : decode cL_law 1298 = .ok (.aload_n 0, 1) := by decide +kernel
theorem dL_law_1299 : decode cL_law 1299 = .ok (.iload 5, 2) := by decide +kernel
theorem dL_law_1301 : decode cL_law 1301 = .ok (.iconst 2, 1) := by decide +kernel
theorem dL_law_1302 : decode cL_law 1302 = .ok (.iadd, 1) := by decide +kernel
theorem dL_law_1303 : decode cL_law 1303 = .ok (.iaload, 1) := by decide +kernel
theorem dL_law_1304 : decode cL_law 1304 = .ok (.aload_n 0, 1) := by decide +kernel
theorem dL_law_1305 : decode cL_law 1305 = .ok (.iload 5, 2) := by decide +kernel
theorem dL_law_1307 : decode cL_law 1307 = .ok (.iconst 3, 1) := by decide +kernel
theorem dL_law_1308 : decode cL_law 1308 = .ok (.iadd, 1) := by decide +kernel
theorem dL_law_1309 : decode cL_law 1309 = .ok (.iaload, 1) := by decide +kernel
theorem dL_law_1310 : decode cL_law 1310 = .ok (.aload_n 3, 1) := by decide +kernel
theorem dL_law_1311 : decode cL_law 1311 = .ok (.invokestatic 150, 3) := by decide +kernel
theorem dL_law_1314 : decode cL_law 1314 = .ok (.istore 6, 2) := by decide +kernel
theorem dL_law_1316 : decode cL_law 1316 = .ok (.aload_n 2, 1) := by decide +kernel
theorem dL_law_1317 : decode cL_law 1317 = .ok (.aload_n 0, 1) := by decide +kernel
theorem dL_law_1318 : decode cL_law 1318 = .ok (.iload 5, 2) := by decide +kernel
theorem dL_law_1320 : decode cL_law 1320 = .ok (.iconst 1, 1) := by decide +kernel
theorem dL_law_1321 : decode cL_law 1321 = .ok (.iadd, 1) := by decide +kernel
theorem dL_law_1322 : decode cL_law 1322 = .ok (.iaload, 1) := by decide +kernel
theorem dL_law_1323 : decode cL_law 1323 = .ok (.aload_n 0, 1) := by decide +kernel
theorem dL_law_1324 : decode cL_law 1324 = .ok (.iload 5, 2) := by decide +kernel
theorem dL_law_1326 : decode cL_law 1326 = .ok (.iconst 2, 1) := by decide +kernel
theorem dL_law_1327 : decode cL_law 1327 = .ok (.iadd, 1) := by decide +kernel
theorem dL_law_1328 : decode cL_law 1328 = .ok (.iaload, 1) := by decide +kernel
theorem dL_law_1329 : decode cL_law 1329 = .ok (.aload_n 0, 1) := by decide +kernel
theorem dL_law_1330 : decode cL_law 1330 = .ok (.iload 5, 2) := by decide +kernel
theorem dL_law_1332 : decode cL_law 1332 = .ok (.iconst 3, 1) := by decide +kernel
theorem dL_law_1333 : decode cL_law 1333 = .ok (.iadd, 1) := by decide +kernel
theorem dL_law_1334 : decode cL_law 1334 = .ok (.iaload, 1) := by decide +kernel
theorem dL_law_1335 : decode cL_law 1335 = .ok (.invokevirtual 152, 3) := by decide +kernel
theorem dL_law_1338 : decode cL_law 1338 = .ok (.istore 7, 2) := by decide +kernel
theorem dL_law_1340 : decode cL_law 1340 = .ok (.aload_n 2, 1) := by decide +kernel
theorem dL_law_1341 : decode cL_law 1341 = .ok (.invokevirtual 91, 3) := by decide +kernel
theorem dL_law_1344 : decode cL_law 1344 = .ok (.iload 6, 2) := by decide +kernel
theorem dL_law_1346 : decode cL_law 1346 = .ok (.if_icmp .eq 5, 3) := by decide +kernel
theorem dL_law_1349 : decode cL_law 1349 = .ok (.iconst 0, 1) := by decide +kernel
theorem dL_law_1350 : decode cL_law 1350 = .ok (.ireturn, 1) := by decide +kernel
theorem dL_law_1351 : decode cL_law 1351 = .ok (.iload 6, 2) := by decide +kernel
theorem dL_law_1353 : decode cL_law 1353 = .ok (.ifCond .ne 15, 3) := by decide +kernel
theorem dL_law_1356 : decode cL_law 1356 = .ok (.aload_n 3, 1) := by decide +kernel
theorem dL_law_1357 : decode cL_law 1357 = .ok (.iconst 0, 1) := by decide +kernel
theorem dL_law_1358 : decode cL_law 1358 = .ok (.laload, 1) := by decide +kernel
theorem dL_law_1359 : decode cL_law 1359 = .ok (.iload 7, 2) := by decide +kernel
theorem dL_law_1361 : decode cL_law 1361 = .ok (.i2l, 1) := by decide +kernel
theorem dL_law_1362 : decode cL_law 1362 = .ok (.lcmp, 1) := by decide +kernel
theorem dL_law_1363 : decode cL_law 1363 = .ok (.ifCond .eq 5, 3) := by decide +kernel
theorem dL_law_1366 : decode cL_law 1366 = .ok (.iconst 0, 1) := by decide +kernel
theorem dL_law_1367 : decode cL_law 1367 = .ok (.ireturn, 1) := by decide +kernel
theorem dL_law_1368 : decode cL_law 1368 = .ok (.goto 156, 3) := by decide +kernel
theorem dL_law_1371 : decode cL_law 1371 = .ok (.aload_n 1, 1) := by decide +kernel
theorem dL_law_1372 : decode cL_law 1372 = .ok (.invokevirtual 153, 3) := by decide +kernel
theorem dL_law_1375 : decode cL_law 1375 = .ok (.aload_n 2, 1) := by decide +kernel
theorem dL_law_1376 : decode cL_law 1376 = .ok (.invokevirtual 156, 3) := by decide +kernel
theorem dL_law_1379 : decode cL_law 1379 = .ok (.if_icmp .eq 145, 3) := by decide +kernel
theorem dL_law_1382 : decode cL_law 1382 = .ok (.iconst 0, 1) := by decide +kernel
theorem dL_law_1383 : decode cL_law 1383 = .ok (.ireturn, 1) := by decide +kernel
theorem dL_law_1384 : decode cL_law 1384 = .ok (.aload_n 1, 1) := by decide +kernel
theorem dL_law_1385 : decode cL_law 1385 = .ok (.aload_n 0, 1) := by decide +kernel
theorem dL_law_1386 : decode cL_law 1386 = .ok (.iload 5, 2) := by decide +kernel
theorem dL_law_1388 : decode cL_law 1388 = .ok (.iconst 1, 1) := by decide +kernel
theorem dL_law_1389 : decode cL_law 1389 = .ok (.iadd, 1) := by decide +kernel
theorem dL_law_1390 : decode cL_law 1390 = .ok (.iaload, 1) := by decide +kernel
theorem dL_law_1391 : decode cL_law 1391 = .ok (.aload_n 3, 1) := by decide +kernel
theorem dL_law_1392 : decode cL_law 1392 = .ok (.invokestatic 157, 3) := by decide +kernel
theorem dL_law_1395 : decode cL_law 1395 = .ok (.istore 6, 2) := by decide +kernel
theorem dL_law_1397 : decode cL_law 1397 = .ok (.aload_n 2, 1) := by decide +kernel
theorem dL_law_1398 : decode cL_law 1398 = .ok (.aload_n 0, 1) := by decide +kernel
theorem dL_law_1399 : decode cL_law 1399 = .ok (.iload 5, 2) := by decide +kernel
theorem dL_law_1401 : decode cL_law 1401 = .ok (.iconst 1, 1) := by decide +kernel
theorem dL_law_1402 : decode cL_law 1402 = .ok (.iadd, 1) := by decide +kernel
theorem dL_law_1403 : decode cL_law 1403 = .ok (.iaload, 1) := by decide +kernel
theorem dL_law_1404 : decode cL_law 1404 = .ok (.invokevirtual 159, 3) := by decide +kernel
theorem dL_law_1407 : decode cL_law 1407 = .ok (.istore 7, 2) := by decide +kernel
theorem dL_law_1409 : decode cL_law 1409 = .ok (.aload_n 2, 1) := by decide +kernel
theorem dL_law_1410 : decode cL_law 1410 = .ok (.invokevirtual 91, 3) := by decide +kernel
theorem dL_law_1413 : decode cL_law 1413 = .ok (.iload 6, 2) := by decide +kernel
theorem dL_law_1415 : decode cL_law 1415 = .ok (.if_icmp .eq 5, 3) := by decide +kernel
theorem dL_law_1418 : decode cL_law 1418 = .ok (.iconst 0, 1) := by decide +kernel
theorem dL_law_1419 : decode cL_law 1419 = .ok (.ireturn, 1) := by decide +kernel
theorem dL_law_1420 : decode cL_law 1420 = .ok (.iload 6, 2) := by decide +kernel
theorem dL_law_1422 : decode cL_law 1422 = .ok (.ifCond .ne 15, 3) := by decide +kernel
theorem dL_law_1425 : decode cL_law 1425 = .ok (.aload_n 3, 1) := by decide +kernel
theorem dL_law_1426 : decode cL_law 1426 = .ok (.iconst 0, 1) := by decide +kernel
theorem dL_law_1427 : decode cL_law 1427 = .ok (.laload, 1) := by decide +kernel
theorem dL_law_1428 : decode cL_law 1428 = .ok (.iload 7, 2) := by decide +kernel
theorem dL_law_1430 : decode cL_law 1430 = .ok (.i2l, 1) := by decide +kernel
theorem dL_law_1431 : decode cL_law 1431 = .ok (.lcmp, 1) := by decide +kernel
theorem dL_law_1432 : decode cL_law 1432 = .ok (.ifCond .eq 5, 3) := by decide +kernel
theorem dL_law_1435 : decode cL_law 1435 = .ok (.iconst 0, 1) := by decide +kernel
theorem dL_law_1436 : decode cL_law 1436 = .ok (.ireturn, 1) := by decide +kernel
theorem dL_law_1437 : decode cL_law 1437 = .ok (.goto 87, 3) := by decide +kernel
theorem dL_law_1440 : decode cL_law 1440 = .ok (.aload_n 1, 1) := by decide +kernel
theorem dL_law_1441 : decode cL_law 1441 = .ok (.invokevirtual 160, 3) := by decide +kernel
theorem dL_law_1444 : decode cL_law 1444 = .ok (.aload_n 2, 1) := by decide +kernel
theorem dL_law_1445 : decode cL_law 1445 = .ok (.invokevirtual 163, 3) := by decide +kernel
theorem dL_law_1448 : decode cL_law 1448 = .ok (.if_icmp .eq 76, 3) := by decide +kernel
theorem dL_law_1451 : decode cL_law 1451 = .ok (.iconst 0, 1) := by decide +kernel
theorem dL_law_1452 : decode cL_law 1452 = .ok (.ireturn, 1) := by decide +kernel
theorem dL_law_1453 : decode cL_law 1453 = .ok (.aload_n 1, 1) := by decide +kernel
theorem dL_law_1454 : decode cL_law 1454 = .ok (.invokevirtual 164, 3) := by decide +kernel
theorem dL_law_1457 : decode cL_law 1457 = .ok (.aload_n 2, 1) := by decide +kernel
theorem dL_law_1458 : decode cL_law 1458 = .ok (.invokevirtual 167, 3) := by decide +kernel
theorem dL_law_1461 : decode cL_law 1461 = .ok (.if_icmp .eq 63, 3) := by decide +kernel
theorem dL_law_1464 : decode cL_law 1464 = .ok (.iconst 0, 1) := by decide +kernel
theorem dL_law_1465 : decode cL_law 1465 = .ok (.ireturn, 1) := by decide +kernel
theorem dL_law_1466 : decode cL_law 1466 = .ok (.aload_n 1, 1) := by decide +kernel
theorem dL_law_1467 : decode cL_law 1467 = .ok (.aload_n 3, 1) := by decide +kernel
theorem dL_law_1468 : decode cL_law 1468 = .ok (.invokestatic 168, 3) := by decide +kernel
theorem dL_law_1471 : decode cL_law 1471 = .ok (.istore 6, 2) := by decide +kernel
theorem dL_law_1473 : decode cL_law 1473 = .ok (.aload_n 2, 1) := by decide +kernel
theorem dL_law_1474 : decode cL_law 1474 = .ok (.invokevirtual 171, 3) := by decide +kernel
theorem dL_law_1477 : decode cL_law 1477 = .ok (.istore 7, 2) := by decide +kernel
theorem dL_law_1479 : decode cL_law 1479 = .ok (.aload_n 2, 1) := by decide +kernel
theorem dL_law_1480 : decode cL_law 1480 = .ok (.invokevirtual 91, 3) := by decide +kernel
theorem dL_law_1483 : decode cL_law 1483 = .ok (.iload 6, 2) := by decide +kernel
theorem dL_law_1485 : decode cL_law 1485 = .ok (.if_icmp .eq 5, 3) := by decide +kernel
theorem dL_law_1488 : decode cL_law 1488 = .ok (.iconst 0, 1) := by decide +kernel
theorem dL_law_1489 : decode cL_law 1489 = .ok (.ireturn, 1) := by decide +kernel
theorem dL_law_1490 : decode cL_law 1490 = .ok (.iload 6, 2) := by decide +kernel
theorem dL_law_1492 : decode cL_law 1492 = .ok (.ifCond .ne 15, 3) := by decide +kernel
theorem dL_law_1495 : decode cL_law 1495 = .ok (.aload_n 3, 1) := by decide +kernel
theorem dL_law_1496 : decode cL_law 1496 = .ok (.iconst 0, 1) := by decide +kernel
theorem dL_law_1497 : decode cL_law 1497 = .ok (.laload, 1) := by decide +kernel
theorem dL_law_1498 : decode cL_law 1498 = .ok (.iload 7, 2) := by decide +kernel
theorem dL_law_1500 : decode cL_law 1500 = .ok (.i2l, 1) := by decide +kernel
theorem dL_law_1501 : decode cL_law 1501 = .ok (.lcmp, 1) := by decide +kernel
theorem dL_law_1502 : decode cL_law 1502 = .ok (.ifCond .eq 5, 3) := by decide +kernel
theorem dL_law_1505 : decode cL_law 1505 = .ok (.iconst 0, 1) := by decide +kernel
theorem dL_law_1506 : decode cL_law 1506 = .ok (.ireturn, 1) := by decide +kernel
theorem dL_law_1507 : decode cL_law 1507 = .ok (.goto 17, 3) := by decide +kernel
theorem dL_law_1510 : decode cL_law 1510 = .ok (.aload_n 1, 1) := by decide +kernel
theorem dL_law_1511 : decode cL_law 1511 = .ok (.invokevirtual 172, 3) := by decide +kernel
theorem dL_law_1514 : decode cL_law 1514 = .ok (.aload_n 2, 1) := by decide +kernel
theorem dL_law_1515 : decode cL_law 1515 = .ok (.invokevirtual 176, 3) := by decide +kernel
theorem dL_law_1518 : decode cL_law 1518 = .ok (.lcmp, 1) := by decide +kernel
theorem dL_law_1519 : decode cL_law 1519 = .ok (.ifCond .eq 5, 3) := by decide +kernel
theorem dL_law_1522 : decode cL_law 1522 = .ok (.iconst 0, 1) := by decide +kernel
theorem dL_law_1523 : decode cL_law 1523 = .ok (.ireturn, 1) := by decide +kernel
theorem dL_law_1524 : decode cL_law 1524 = .ok (.iinc 5 6, 3) := by decide +kernel
theorem dL_law_1527 : decode cL_law 1527 = .ok (.goto (-1499), 3) := by decide +kernel
theorem dL_law_1530 : decode cL_law 1530 = .ok (.iconst 1, 1) := by decide +kernel
theorem dL_law_1531 : decode cL_law 1531 = .ok (.ireturn, 1) := by decide +kernel
end
section
/-! the core: a walk over a world (AW), and a method's contract over worlds (MC) -/
def iI (x : Int) : Int32 := Int32.ofInt x
def iL (x : Int) : Int64 := Int64.ofInt x
theorem iI_add (x y : Int) : iI x + iI y = iI (x + y) := by unfold iI; rw [Int32.ofInt_add]
theorem iI_sub (x y : Int) : iI x - iI y = iI (x - y) := by unfold iI; rw [Int32.ofInt_sub]
theorem iI_mul (x y : Int) : iI x * iI y = iI (x * y) := by unfold iI; rw [Int32.ofInt_mul]
theorem iI_toInt {x : Int} (h : -2147483648 ≤ x ∧ x ≤ 2147483647) : (iI x).toInt = x := by
  unfold iI
  exact Int32.toInt_ofInt_of_le (by omega) (by omega)
theorem iI_of (x : Int32) : x = iI x.toInt := by unfold iI; rw [Int32.ofInt_toInt]
theorem iI_rng (x : Int32) : -2147483648 ≤ x.toInt ∧ x.toInt ≤ 2147483647 := by
  have h1 := Int32.le_toInt x
  have h2 := Int32.toInt_lt x
  omega
theorem iI_inj {x y : Int} (hx : -2147483648 ≤ x ∧ x ≤ 2147483647) (hy : -2147483648 ≤ y ∧ y ≤ 2147483647) : iI x = iI y ↔ x = y :=
  ⟨fun h => by rw [← iI_toInt hx, ← iI_toInt hy, h], fun h => by rw [h]⟩
theorem iI_lt {x y : Int} (hx : -2147483648 ≤ x ∧ x ≤ 2147483647) (hy : -2147483648 ≤ y ∧ y ≤ 2147483647) : iI x < iI y ↔ x < y := by
  rw [Int32.lt_iff_toInt_lt, iI_toInt hx, iI_toInt hy]
theorem iI_le {x y : Int} (hx : -2147483648 ≤ x ∧ x ≤ 2147483647) (hy : -2147483648 ≤ y ∧ y ≤ 2147483647) : iI x ≤ iI y ↔ x ≤ y := by
  rw [Int32.le_iff_toInt_le, iI_toInt hx, iI_toInt hy]
theorem iI_nat {x : Int} (h : 0 ≤ x ∧ x ≤ 2147483647) : (iI x).toNatClampNeg = x.toNat := by
  show (iI x).toInt.toNat = x.toNat
  rw [iI_toInt (by omega)]
theorem iI_in {x : Int} {n : Nat} (h : 0 ≤ x ∧ x < n) (hn : n ≤ 2147483647) : vp_in (iI x) n := by
  rintro (h1 | h1)
  · rw [show (0 : Int32) = iI 0 from by decide, iI_lt (by omega) (by omega)] at h1
    omega
  · rw [iI_nat (by omega)] at h1
    omega
def hC (p : Program) (own nm : String) (cc : ByteArray) (nL : Nat) (ret : Option FieldType) (X : Code → Prop) (s : State) (m : MethodId) (args : Array Value) (meth : Method) (c : Code) : Prop :=
  p.tables.exec = Jvm.exec ∧ c.code = cc ∧ c.maxLocals = nL ∧ s.vm.findClass own = some m.cls ∧ (∀ w ∈ gt, w.before args s = true) ∧ meth.sig.returnType = ret ∧ meth.locks = false ∧ meth.name = nm ∧ X c
def AW (l : Launch) (own nm : String) (cc : ByteArray) (nL : Nat) (ret : Option FieldType) (X : Code → Prop) (R : Room) (E : List Frame → Array Value → State → State → Prop) (D : va_G) (ty : List (ClassId × FieldType)) (Z : State → Prop) (w0 : va_W) (pc : Nat) (lv : List (Nat × Value)) (st : List Value) (ws : va_W) (k n : Nat) : Prop :=
  ∀ (p : Program) (e : Env) (s : State) (m : MethodId) (args : Array Value) (below : List Frame) (meth : Method) (c : Code), hC p own nm cc nL ret X s m args meth c → va_K D vwCl ty s → Z s →
  ∀ (H : Heap) (locs : List Loc) (ls : Array Slot), va_P D vwCl ws H → va_D (va_A w0 s.heap.size) ws → va_S (va_A w0 s.heap.size) s.heap H locs → lv_has ls nL lv →
  W p l e R s m args below meth c H locs k n (E below args s) (F0 m pc ls st)
/-- tables of the class: COIN, FIRST_SETTING, LEAST_SETTING, MOST_SETTING, SETTING_STEP -/
def tbV (t j : Nat) : Int := (([[5, 10, 20, 50], [20, 5, 50, 100, 10], [1, 0, 0, 0, 0], [100, 100, 100, 1000, 100], [1, 1, 1, 1, 5]] : List (List Int)).getD t []).getD j 0
def tbL (t : Nat) : Nat := (([4, 5, 5, 5, 5] : List Nat)).getD t 0
def tbN (t : Nat) : String := (["COIN", "FIRST_SETTING", "LEAST_SETTING", "MOST_SETTING", "SETTING_STEP"] : List String).getD t ""
def strs : List (Nat × String) := [(44, "no such setting"), (62, "value out of range"), (71, "kind out of range"), (73, "lowest price out of range"), (75, "highest price out of range"), (83, "no room for a coil"), (96, "no such coil"), (99, "goods out of range"), (105, "too many goods"), (110, "no such tube"), (112, "coins out of range"), (130, "the sale is not possible"), (140, "hours out of range"), (145, "the hour would be too great"), (154, "no such value"), (181, "no such promise"), (186, "amount out of range"), (200, "bound out of range"), (216, "no such byte"), (221, "the text is full"), (238, "no saved state")]
def nestM : List (String × Nat × MethodName × String) := [("CoilPrices$Till", 20, yX3_init, "CoilPrices"), ("CoilPrices$Machine", 38, yX0_init, "CoilPrices"), ("CoilPrices", 29, yX2_init, "CoilPrices"), ("CoilPrices$Machine", 70, yX5_worth, "CoilPrices")]
def nestF : List (String × Nat × Nat) := [("CoilPrices$Machine", 39, 1), ("CoilPrices$Payment", 18, 0), ("CoilPrices$Till", 53, 0)]
def hvN (s : State) : Prop := (∀ q ∈ nestM, va_Nw (.methodLinkNest q.1 q.2.1 q.2.2.1 q.2.2.2) s) ∧ ∀ q ∈ nestF, va_Nw (.fieldLinkNest q.1 q.2.1 RX5 (tbN q.2.2) "[I" RX5) s
def hvSt (T : Nat → Nat) (A : Nat → Prop) (U : State) (H : Heap) : Prop :=
  (∀ t, t < 5 → va_Z RX5 (tbN t) "[I" (.ref (T t)) A U H ∧ va_T .int (T t) (tbL t) (fun j => .int (iI (tbV t j))) A U H) ∧ vx_Zq Bundle.tN "UNASSIGNED_STACK" Bundle.steD A U H ∧ vx_Zq Bundle.tN "SUPPRESSED_SENTINEL" Bundle.listD A U H
def hvStr (T : Nat → Nat) (U : State) : Prop := ∀ q ∈ strs, vk_R RX5 q.1 q.2 (T (10 + q.1)) U
def hvZ (T : Nat → Nat) (w0 : va_W) (s : State) : Prop := hvSt T (va_A w0 s.heap.size) s s.heap ∧ hvStr T s ∧ va_AO "CoilPrices$Coil" s ∧ va_AO "CoilPrices$Machine" s ∧ hvN s
theorem hvSt.to {T : Nat → Nat} {A B : Nat → Prop} {s U : State} {H0 H : Heap} (h : hvSt T A s H0) (hvm : s.vm.Alike U.vm) (hk : ∀ a : Nat, a < H0.size → ¬ A a → H[a]? = H0[a]?) (hAB : ∀ q, B q → A q) : hvSt T B U H :=
  ⟨fun t ht => ⟨(((h.1 t ht).1.kept hk).moved hvm).narrow hAB, (((h.1 t ht).2.kept hk).moved hvm).narrow hAB⟩, ((h.2.1.kept hk).moved hvm).narrow hAB, ((h.2.2.kept hk).moved hvm).narrow hAB⟩
/-- what a method is given -/
def hvB (D : va_G) (ty : List (ClassId × FieldType)) (T : Nat → Nat) (ws : va_W) (sz : Nat) (U : State) : Prop :=
  U.heap.size = sz ∧ va_P D vwCl ws U.heap ∧ va_K D vwCl ty U ∧ va_D (fun _ => True) ws ∧ hvZ T ws U
/-- what it answers -/
def hvQ (D : va_G) (Q : Option Value → va_W → Prop) (w0 : va_W) (sz : Nat) : Array Value → State → Outcome → State → Prop := fun _ st oc t =>
  (∃ (v : Option Value) (ws' : va_W), oc = .returned v ∧ Q v ws' ∧ va_P D vwCl ws' t.heap ∧ va_D (va_A w0 sz) ws') ∧ va_F (va_A w0 sz) st t
def hvE (D : va_G) (Q : Option Value → va_W → Prop) (w0 : va_W) (mc ms : Nat) (below : List Frame) (args : Array Value) (s : State) : State → Prop :=
  MQ below (hvQ D Q w0 s.heap.size) args s mc ms (va_A w0 s.heap.size)
def MC (l : Launch) (y : MethodName) (cc : ByteArray) (nL : Nat) (ret : Option FieldType) (fr lo mc ms : Nat) (D : va_G) (ty : List (ClassId × FieldType)) (T : Nat → Nat) (As : List Value) (ws : va_W) (Q : Option Value → va_W → Prop) : Prop :=
  ∀ sz : Nat, Met l y (.code y cc nL ret :: gt) { frames := fr, cells := mc, slots := ms, locals := lo } (va_Pc As (hvB D ty T ws sz)) (hvQ D Q ws sz) mc ms (va_A ws sz)
theorem hvB_blind {D : va_G} {ty : List (ClassId × FieldType)} {T : Nat → Nat} {As : List Value} {ws : va_W} {sz : Nat} : FrameBlind (va_Pc As (hvB D ty T ws sz)) := by
  intro a U g mk h
  obtain ⟨h0, h1, h2, h3, h4, h5, h6, h7, h8, h9⟩ := h
  have hv : U.vm.Alike (U.calling g mk a).vm := Vm.Alike.refl U.vm
  exact ⟨h0, h1, h2, va_K.moved hv h3, h4, h5.to hv (fun _ _ _ => rfl) (fun _ h => h), fun q hq => vk_R.same rfl (h6 q hq), va_AO.moved hv h7, va_AO.moved hv h8, ⟨fun q hq => va_Nw.same rfl (u := U) rfl (h9.1 q hq), fun q hq => va_Nw.same rfl (u := U) rfl (h9.2 q hq)⟩⟩
/-- a contract out of a walk -/
theorem mc_of {l : Launch} {y : MethodName} {cc : ByteArray} {nL : Nat} {ret : Option FieldType} {fr lo mc ms : Nat} {D : va_G} {ty : List (ClassId × FieldType)} {T : Nat → Nat} {As : List Value} {ws : va_W} {Q : Option Value → va_W → Prop} {lv : List (Nat × Value)}
    (hy : plainName y.cls = true) (hn : (lg_sl As).length ≤ nL) (hlv : lv_args 0 As = lv)
    (body : AW l y.cls y.name cc nL ret (fun _ => True) { frames := fr, cells := mc, slots := ms, locals := lo } (hvE D Q ws mc ms) D ty (hvZ T ws) ws 0 lv [] ws 0 0) : MC l y cc nL ret fr lo mc ms D ty T As ws Q := by
  intro sz
  refine Met.ofW (cc := cc) (maxL := nL) (ret := ret) hy rfl ?_
  intro p e s m args below meth c s₁ B hml hv
  obtain ⟨rfl, hsz, hP, hK, hD0, hZ⟩ := hv
  have hx := B.exec
  have hb := B.bytes
  have hr := B.returns
  have hts := atoms_spec (ws := .code y cc nL ret :: gt) B.pre
  have hown : s.vm.findClass y.cls = some m.cls := findClass_of_methodNamed B.named
  have hlocks := B.notSynchronized
  have hin : meth.name = y.name := (name_of_methodNamed B.named B.method).1
  subst hsz
  rw [lg_entry_eq]
  exact body p e s m _ below meth c ⟨hx, hb, hml, hown, fun w hw => hts w (List.mem_cons_of_mem _ hw), hr, hlocks, hin, trivial⟩ hK hZ s.heap [] _ hP (hD0.self (sz := s.heap.size)) va_S.rf (hlv ▸ lv_entry As hn)
theorem MC.mono {l : Launch} {y : MethodName} {cc : ByteArray} {nL : Nat} {ret : Option FieldType} {fr lo mc ms : Nat} {D : va_G} {ty : List (ClassId × FieldType)} {T : Nat → Nat} {As : List Value} {ws : va_W} {Q Q' : Option Value → va_W → Prop}
    (h : MC l y cc nL ret fr lo mc ms D ty T As ws Q) (hq : ∀ v w, Q v w → Q' v w) : MC l y cc nL ret fr lo mc ms D ty T As ws Q' := by
  intro sz
  intro p e ha hc hk s m args below hf hfit hheap happ
  obtain ⟨k, o, h1, h2, h3, ⟨⟨v, ws', e1, e2, e3⟩, hF⟩, hL⟩ := h sz p e ha hc hk s m args below hf hfit hheap happ
  exact ⟨k, o, h1, h2, h3, ⟨⟨v, ws', e1, hq _ _ e2, e3⟩, hF⟩, hL⟩
theorem iL_add (x y : Int) : iL x + iL y = iL (x + y) := by unfold iL; rw [Int64.ofInt_add]
theorem iL_mul (x y : Int) : iL x * iL y = iL (x * y) := by unfold iL; rw [Int64.ofInt_mul]
theorem iI_l {x : Int} (h : -2147483648 ≤ x ∧ x ≤ 2147483647) : (iI x).toInt64 = iL x := by
  apply Int64.toInt_inj.mp
  rw [Int32.toInt_toInt64, iI_toInt h]
  unfold iL
  exact (Int64.toInt_ofInt_of_le (by omega) (by omega)).symm
end
section
section RWS
variable {l : Launch} {own nm : String} {cc : ByteArray} {nL : Nat} {ret : Option FieldType} {X : Code → Prop} {R : Room} {E : List Frame → Array Value → State → State → Prop} {D : va_G} {ty : List (ClassId × FieldType)} {Z : State → Prop} {w0 : va_W} {pc q : Nat} {lv : List (Nat × Value)} {st : List Value} {ws : va_W} {k n : Nat}
theorem aw_iconst {i : Int} (d : decode cc pc = .ok (.iconst i, 1)) (hq : pc + 1 = q) 
    (kk : AW l own nm cc nL ret X R E D ty Z w0 q lv (.int (iI i) :: st) ws k n) : AW l own nm cc nL ret X R E D ty Z w0 pc lv (st) ws k n := by
  subst hq
  intro p e s m args below meth c hC hK hZ H locs ls hP hD hS hl
  obtain ⟨hx, hb, hml, hown, hts, hr, hlk, hnm, hX⟩ := id hC
  exact lv_iconst hx hb d rfl (kk p e s m args below meth c hC hK hZ H locs ls hP hD hS hl)
theorem aw_bipush {i : Int} (d : decode cc pc = .ok (.bipush i, 2)) (hq : pc + 2 = q) (hv : (Int8.ofInt i).toInt32 = iI i)
    (kk : AW l own nm cc nL ret X R E D ty Z w0 q lv (.int (iI i) :: st) ws k n) : AW l own nm cc nL ret X R E D ty Z w0 pc lv (st) ws k n := by
  subst hq
  intro p e s m args below meth c hC hK hZ H locs ls hP hD hS hl
  obtain ⟨hx, hb, hml, hown, hts, hr, hlk, hnm, hX⟩ := id hC
  exact lv_bipush hx hb d hv (kk p e s m args below meth c hC hK hZ H locs ls hP hD hS hl)
theorem aw_sipush {i : Int} (d : decode cc pc = .ok (.sipush i, 3)) (hq : pc + 3 = q) (hv : (Int16.ofInt i).toInt32 = iI i)
    (kk : AW l own nm cc nL ret X R E D ty Z w0 q lv (.int (iI i) :: st) ws k n) : AW l own nm cc nL ret X R E D ty Z w0 pc lv (st) ws k n := by
  subst hq
  intro p e s m args below meth c hC hK hZ H locs ls hP hD hS hl
  obtain ⟨hx, hb, hml, hown, hts, hr, hlk, hnm, hX⟩ := id hC
  exact lv_sipush hx hb d hv (kk p e s m args below meth c hC hK hZ H locs ls hP hD hS hl)
theorem aw_ldc {i : Nat} {v : Int32} {x : Int} (d : decode cc pc = .ok (.ldc i, 2)) (hq : pc + 2 = q) (hw : Cond.constant own i v ∈ gt) (hv : iI x = v)
    (kk : AW l own nm cc nL ret X R E D ty Z w0 q lv (.int (iI x) :: st) ws k n) : AW l own nm cc nL ret X R E D ty Z w0 pc lv (st) ws k n := by
  subst hq
  intro p e s m args below meth c hC hK hZ H locs ls hP hD hS hl
  obtain ⟨hx, hb, hml, hown, hts, hr, hlk, hnm, hX⟩ := id hC
  exact lv_ldc hx hb hown (hts _ hw) d (hv ▸ (kk p e s m args below meth c hC hK hZ H locs ls hP hD hS hl))
theorem aw_ldcw {i : Nat} {v : Int32} {x : Int} (d : decode cc pc = .ok (.ldc_w i, 3)) (hq : pc + 3 = q) (hw : Cond.constant own i v ∈ gt) (hv : iI x = v)
    (kk : AW l own nm cc nL ret X R E D ty Z w0 q lv (.int (iI x) :: st) ws k n) : AW l own nm cc nL ret X R E D ty Z w0 pc lv (st) ws k n := by
  subst hq
  intro p e s m args below meth c hC hK hZ H locs ls hP hD hS hl
  obtain ⟨hx, hb, hml, hown, hts, hr, hlk, hnm, hX⟩ := id hC
  exact lv_ldcw hx hb hown (hts _ hw) d (hv ▸ (kk p e s m args below meth c hC hK hZ H locs ls hP hD hS hl))
theorem aw_ldcf {i : Nat} {v : UInt32} (d : decode cc pc = .ok (.ldc i, 2)) (hq : pc + 2 = q) (hw : Cond.constantFloat own i v ∈ gt)
    (kk : AW l own nm cc nL ret X R E D ty Z w0 q lv (.float v :: st) ws k n) : AW l own nm cc nL ret X R E D ty Z w0 pc lv (st) ws k n := by
  subst hq
  intro p e s m args below meth c hC hK hZ H locs ls hP hD hS hl
  obtain ⟨hx, hb, hml, hown, hts, hr, hlk, hnm, hX⟩ := id hC
  exact lv_ldcf hx hb hown (hts _ hw) d (kk p e s m args below meth c hC hK hZ H locs ls hP hD hS hl)
theorem aw_ldc2 {i : Nat} {v : Int64} {x : Int} (d : decode cc pc = .ok (.ldc2_w i, 3)) (hq : pc + 3 = q) (hw : Cond.constantLong own i v ∈ gt) (hv : iL x = v)
    (kk : AW l own nm cc nL ret X R E D ty Z w0 q lv (.long (iL x) :: st) ws k n) : AW l own nm cc nL ret X R E D ty Z w0 pc lv (st) ws k n := by
  subst hq
  intro p e s m args below meth c hC hK hZ H locs ls hP hD hS hl
  obtain ⟨hx, hb, hml, hown, hts, hr, hlk, hnm, hX⟩ := id hC
  exact lv_ldc2 hx hb hown (hts _ hw) d (hv ▸ (kk p e s m args below meth c hC hK hZ H locs ls hP hD hS hl))
theorem aw_iload_n {j : Fin 4} {i : Nat} {x : Int32} (f : Nat) (d : decode cc pc = .ok (.iload_n j, 1)) (hq : pc + 1 = q) (hi : (j : Nat) = i) (hf : lv[f]? = some (i, .int x))
    (kk : AW l own nm cc nL ret X R E D ty Z w0 q lv (.int x :: st) ws k n) : AW l own nm cc nL ret X R E D ty Z w0 pc lv (st) ws k n := by
  subst hq
  intro p e s m args below meth c hC hK hZ H locs ls hP hD hS hl
  obtain ⟨hx, hb, hml, hown, hts, hr, hlk, hnm, hX⟩ := id hC
  exact lv_iload_n hx hb d hi (lv_at hl f hf) (kk p e s m args below meth c hC hK hZ H locs ls hP hD hS hl)
theorem aw_iload {i : Nat} {x : Int32} (f : Nat) (d : decode cc pc = .ok (.iload i, 2)) (hq : pc + 2 = q) (hf : lv[f]? = some (i, .int x))
    (kk : AW l own nm cc nL ret X R E D ty Z w0 q lv (.int x :: st) ws k n) : AW l own nm cc nL ret X R E D ty Z w0 pc lv (st) ws k n := by
  subst hq
  intro p e s m args below meth c hC hK hZ H locs ls hP hD hS hl
  obtain ⟨hx, hb, hml, hown, hts, hr, hlk, hnm, hX⟩ := id hC
  exact lv_iload hx hb d (lv_at hl f hf) (kk p e s m args below meth c hC hK hZ H locs ls hP hD hS hl)
theorem aw_aload_n {j : Fin 4} {i : Nat} {x : Nat} (f : Nat) (d : decode cc pc = .ok (.aload_n j, 1)) (hq : pc + 1 = q) (hi : (j : Nat) = i) (hf : lv[f]? = some (i, .ref x))
    (kk : AW l own nm cc nL ret X R E D ty Z w0 q lv (.ref x :: st) ws k n) : AW l own nm cc nL ret X R E D ty Z w0 pc lv (st) ws k n := by
  subst hq
  intro p e s m args below meth c hC hK hZ H locs ls hP hD hS hl
  obtain ⟨hx, hb, hml, hown, hts, hr, hlk, hnm, hX⟩ := id hC
  exact lv_aload_n hx hb d hi (lv_at hl f hf) (kk p e s m args below meth c hC hK hZ H locs ls hP hD hS hl)
theorem aw_aload {i : Nat} {x : Nat} (f : Nat) (d : decode cc pc = .ok (.aload i, 2)) (hq : pc + 2 = q) (hf : lv[f]? = some (i, .ref x))
    (kk : AW l own nm cc nL ret X R E D ty Z w0 q lv (.ref x :: st) ws k n) : AW l own nm cc nL ret X R E D ty Z w0 pc lv (st) ws k n := by
  subst hq
  intro p e s m args below meth c hC hK hZ H locs ls hP hD hS hl
  obtain ⟨hx, hb, hml, hown, hts, hr, hlk, hnm, hX⟩ := id hC
  exact lv_aload hx hb d (lv_at hl f hf) (kk p e s m args below meth c hC hK hZ H locs ls hP hD hS hl)
theorem aw_lload_n {j : Fin 4} {i : Nat} {x : Int64} (f : Nat) (d : decode cc pc = .ok (.lload_n j, 1)) (hq : pc + 1 = q) (hi : (j : Nat) = i) (hf : lv[f]? = some (i, .long x))
    (kk : AW l own nm cc nL ret X R E D ty Z w0 q lv (.long x :: st) ws k n) : AW l own nm cc nL ret X R E D ty Z w0 pc lv (st) ws k n := by
  subst hq
  intro p e s m args below meth c hC hK hZ H locs ls hP hD hS hl
  obtain ⟨hx, hb, hml, hown, hts, hr, hlk, hnm, hX⟩ := id hC
  exact lv_lload_n hx hb d hi (lv_at hl f hf) (kk p e s m args below meth c hC hK hZ H locs ls hP hD hS hl)
theorem aw_fload_n {j : Fin 4} {i : Nat} {x : UInt32} (f : Nat) (d : decode cc pc = .ok (.fload_n j, 1)) (hq : pc + 1 = q) (hi : (j : Nat) = i) (hf : lv[f]? = some (i, .float x))
    (kk : AW l own nm cc nL ret X R E D ty Z w0 q lv (.float x :: st) ws k n) : AW l own nm cc nL ret X R E D ty Z w0 pc lv (st) ws k n := by
  subst hq
  intro p e s m args below meth c hC hK hZ H locs ls hP hD hS hl
  obtain ⟨hx, hb, hml, hown, hts, hr, hlk, hnm, hX⟩ := id hC
  exact lv_fload_n hx hb d hi (lv_at hl f hf) (kk p e s m args below meth c hC hK hZ H locs ls hP hD hS hl)
theorem aw_fload {i : Nat} {x : UInt32} (f : Nat) (d : decode cc pc = .ok (.fload i, 2)) (hq : pc + 2 = q) (hf : lv[f]? = some (i, .float x))
    (kk : AW l own nm cc nL ret X R E D ty Z w0 q lv (.float x :: st) ws k n) : AW l own nm cc nL ret X R E D ty Z w0 pc lv (st) ws k n := by
  subst hq
  intro p e s m args below meth c hC hK hZ H locs ls hP hD hS hl
  obtain ⟨hx, hb, hml, hown, hts, hr, hlk, hnm, hX⟩ := id hC
  exact lv_fload hx hb d (lv_at hl f hf) (kk p e s m args below meth c hC hK hZ H locs ls hP hD hS hl)
theorem aw_istore_n {j : Fin 4} {i : Nat} {x : Int32} {lv1 lv2 : List (Nat × Value)} (ks : List Nat) (d : decode cc pc = .ok (.istore_n j, 1)) (hq : pc + 1 = q) (hi : (j : Nat) = i) (hn : i < nL) (h1 : (i, Value.int x) :: lv.filter (fun q => !(q.1 == i) && !(q.1 + 1 == i && q.2.category == 2)) = lv1) (h2 : lv_pick lv1 ks = lv2)
    (kk : AW l own nm cc nL ret X R E D ty Z w0 q lv2 st ws k n) : AW l own nm cc nL ret X R E D ty Z w0 pc lv (.int x :: st) ws k n := by
  subst hq
  intro p e s m args below meth c hC hK hZ H locs ls hP hD hS hl
  obtain ⟨hx, hb, hml, hown, hts, hr, hlk, hnm, hX⟩ := id hC
  exact lv_istore_n hx hb d hi hl hn h1 (fun ls1 hl1 => kk p e s m args below meth c hC hK hZ H locs ls1 hP hD hS (lv_sub hl1 ks h2))
theorem aw_istore {i : Nat} {x : Int32} {lv1 lv2 : List (Nat × Value)} (ks : List Nat) (d : decode cc pc = .ok (.istore i, 2)) (hq : pc + 2 = q) (hn : i < nL) (h1 : (i, Value.int x) :: lv.filter (fun q => !(q.1 == i) && !(q.1 + 1 == i && q.2.category == 2)) = lv1) (h2 : lv_pick lv1 ks = lv2)
    (kk : AW l own nm cc nL ret X R E D ty Z w0 q lv2 st ws k n) : AW l own nm cc nL ret X R E D ty Z w0 pc lv (.int x :: st) ws k n := by
  subst hq
  intro p e s m args below meth c hC hK hZ H locs ls hP hD hS hl
  obtain ⟨hx, hb, hml, hown, hts, hr, hlk, hnm, hX⟩ := id hC
  exact lv_istore hx hb d hl hn h1 (fun ls1 hl1 => kk p e s m args below meth c hC hK hZ H locs ls1 hP hD hS (lv_sub hl1 ks h2))
theorem aw_astore_n {j : Fin 4} {i : Nat} {x : Nat} {lv1 lv2 : List (Nat × Value)} (ks : List Nat) (d : decode cc pc = .ok (.astore_n j, 1)) (hq : pc + 1 = q) (hi : (j : Nat) = i) (hn : i < nL) (h1 : (i, Value.ref x) :: lv.filter (fun q => !(q.1 == i) && !(q.1 + 1 == i && q.2.category == 2)) = lv1) (h2 : lv_pick lv1 ks = lv2)
    (kk : AW l own nm cc nL ret X R E D ty Z w0 q lv2 st ws k n) : AW l own nm cc nL ret X R E D ty Z w0 pc lv (.ref x :: st) ws k n := by
  subst hq
  intro p e s m args below meth c hC hK hZ H locs ls hP hD hS hl
  obtain ⟨hx, hb, hml, hown, hts, hr, hlk, hnm, hX⟩ := id hC
  exact lv_astore_n hx hb d hi hl hn h1 (fun ls1 hl1 => kk p e s m args below meth c hC hK hZ H locs ls1 hP hD hS (lv_sub hl1 ks h2))
theorem aw_astore {i : Nat} {x : Nat} {lv1 lv2 : List (Nat × Value)} (ks : List Nat) (d : decode cc pc = .ok (.astore i, 2)) (hq : pc + 2 = q) (hn : i < nL) (h1 : (i, Value.ref x) :: lv.filter (fun q => !(q.1 == i) && !(q.1 + 1 == i && q.2.category == 2)) = lv1) (h2 : lv_pick lv1 ks = lv2)
    (kk : AW l own nm cc nL ret X R E D ty Z w0 q lv2 st ws k n) : AW l own nm cc nL ret X R E D ty Z w0 pc lv (.ref x :: st) ws k n := by
  subst hq
  intro p e s m args below meth c hC hK hZ H locs ls hP hD hS hl
  obtain ⟨hx, hb, hml, hown, hts, hr, hlk, hnm, hX⟩ := id hC
  exact lv_astore hx hb d hl hn h1 (fun ls1 hl1 => kk p e s m args below meth c hC hK hZ H locs ls1 hP hD hS (lv_sub hl1 ks h2))
theorem aw_fstore_n {j : Fin 4} {i : Nat} {x : UInt32} {lv1 lv2 : List (Nat × Value)} (ks : List Nat) (d : decode cc pc = .ok (.fstore_n j, 1)) (hq : pc + 1 = q) (hi : (j : Nat) = i) (hn : i < nL) (h1 : (i, Value.float x) :: lv.filter (fun q => !(q.1 == i) && !(q.1 + 1 == i && q.2.category == 2)) = lv1) (h2 : lv_pick lv1 ks = lv2)
    (kk : AW l own nm cc nL ret X R E D ty Z w0 q lv2 st ws k n) : AW l own nm cc nL ret X R E D ty Z w0 pc lv (.float x :: st) ws k n := by
  subst hq
  intro p e s m args below meth c hC hK hZ H locs ls hP hD hS hl
  obtain ⟨hx, hb, hml, hown, hts, hr, hlk, hnm, hX⟩ := id hC
  exact lv_fstore_n hx hb d hi hl hn h1 (fun ls1 hl1 => kk p e s m args below meth c hC hK hZ H locs ls1 hP hD hS (lv_sub hl1 ks h2))
theorem aw_fstore {i : Nat} {x : UInt32} {lv1 lv2 : List (Nat × Value)} (ks : List Nat) (d : decode cc pc = .ok (.fstore i, 2)) (hq : pc + 2 = q) (hn : i < nL) (h1 : (i, Value.float x) :: lv.filter (fun q => !(q.1 == i) && !(q.1 + 1 == i && q.2.category == 2)) = lv1) (h2 : lv_pick lv1 ks = lv2)
    (kk : AW l own nm cc nL ret X R E D ty Z w0 q lv2 st ws k n) : AW l own nm cc nL ret X R E D ty Z w0 pc lv (.float x :: st) ws k n := by
  subst hq
  intro p e s m args below meth c hC hK hZ H locs ls hP hD hS hl
  obtain ⟨hx, hb, hml, hown, hts, hr, hlk, hnm, hX⟩ := id hC
  exact lv_fstore hx hb d hl hn h1 (fun ls1 hl1 => kk p e s m args below meth c hC hK hZ H locs ls1 hP hD hS (lv_sub hl1 ks h2))
theorem aw_lstore_n {j : Fin 4} {i : Nat} {x : Int64} {lv1 lv2 : List (Nat × Value)} (ks : List Nat) (d : decode cc pc = .ok (.lstore_n j, 1)) (hq : pc + 1 = q) (hi : (j : Nat) = i) (hn : i + 1 < nL) (h1 : (i, Value.long x) :: lv.filter (fun q => !(q.1 == i) && (!(q.1 == i + 1) && !(q.1 + 1 == i && q.2.category == 2))) = lv1) (h2 : lv_pick lv1 ks = lv2)
    (kk : AW l own nm cc nL ret X R E D ty Z w0 q lv2 st ws k n) : AW l own nm cc nL ret X R E D ty Z w0 pc lv (.long x :: st) ws k n := by
  subst hq
  intro p e s m args below meth c hC hK hZ H locs ls hP hD hS hl
  obtain ⟨hx, hb, hml, hown, hts, hr, hlk, hnm, hX⟩ := id hC
  exact lv_lstore_n hx hb d hi hl hn h1 (fun ls1 hl1 => kk p e s m args below meth c hC hK hZ H locs ls1 hP hD hS (lv_sub hl1 ks h2))
theorem aw_iinc {i : Nat} {z : Int} {x : Int} {lv1 lv2 : List (Nat × Value)} (f : Nat) (ks : List Nat) (d : decode cc pc = .ok (.iinc i z, 3)) (hq : pc + 3 = q) (hf : lv[f]? = some (i, .int (iI x))) (hn : i < nL) (h1 : (i, Value.int (iI (x + z))) :: lv.filter (fun q => !(q.1 == i) && !(q.1 + 1 == i && q.2.category == 2)) = lv1) (h2 : lv_pick lv1 ks = lv2)
    (kk : AW l own nm cc nL ret X R E D ty Z w0 q lv2 st ws k n) : AW l own nm cc nL ret X R E D ty Z w0 pc lv st ws k n := by
  subst hq
  intro p e s m args below meth c hC hK hZ H locs ls hP hD hS hl
  obtain ⟨hx, hb, hml, hown, hts, hr, hlk, hnm, hX⟩ := id hC
  exact lv_iinc hx hb d hl hf (iI_add x z) hn h1 (fun ls1 hl1 => kk p e s m args below meth c hC hK hZ H locs ls1 hP hD hS (lv_sub hl1 ks h2))
theorem aw_sub {lv2 : List (Nat × Value)} (ks : List Nat) (h2 : lv_pick lv ks = lv2) (kk : AW l own nm cc nL ret X R E D ty Z w0 pc lv2 st ws k n) : AW l own nm cc nL ret X R E D ty Z w0 pc lv st ws k n := by
  intro p e s m args below meth c hC hK hZ H locs ls hP hD hS hl
  obtain ⟨hx, hb, hml, hown, hts, hr, hlk, hnm, hX⟩ := id hC
  exact kk p e s m args below meth c hC hK hZ H locs ls hP hD hS (lv_sub hl ks h2)
theorem aw_eqW {ws2 : va_W} (h : ws = ws2) (kk : AW l own nm cc nL ret X R E D ty Z w0 pc lv st ws2 k n) : AW l own nm cc nL ret X R E D ty Z w0 pc lv st ws k n := h ▸ kk
theorem aw_eqS {st2 : List Value} (h : st = st2) (kk : AW l own nm cc nL ret X R E D ty Z w0 pc lv st2 ws k n) : AW l own nm cc nL ret X R E D ty Z w0 pc lv st ws k n := h ▸ kk
theorem aw_eqL {lv2 : List (Nat × Value)} (h : lv = lv2) (kk : AW l own nm cc nL ret X R E D ty Z w0 pc lv2 st ws k n) : AW l own nm cc nL ret X R E D ty Z w0 pc lv st ws k n := h ▸ kk
theorem aw_widen {k1 n1 : Nat} (h1 : k ≤ k1) (h2 : n ≤ n1) (kk : AW l own nm cc nL ret X R E D ty Z w0 pc lv st ws k1 n1) : AW l own nm cc nL ret X R E D ty Z w0 pc lv st ws k n := by
  intro p e s m args below meth c hC hK hZ H locs ls hP hD hS hl
  obtain ⟨hx, hb, hml, hown, hts, hr, hlk, hnm, hX⟩ := id hC
  exact W.widen h1 h2 (kk p e s m args below meth c hC hK hZ H locs ls hP hD hS hl)
theorem aw_iadd {x y : Int} (d : decode cc pc = .ok (.iadd, 1)) (hq : pc + 1 = q) 
    (kk : AW l own nm cc nL ret X R E D ty Z w0 q lv (.int (iI (x + y)) :: st) ws k n) : AW l own nm cc nL ret X R E D ty Z w0 pc lv (.int (iI y) :: .int (iI x) :: st) ws k n := by
  subst hq
  intro p e s m args below meth c hC hK hZ H locs ls hP hD hS hl
  obtain ⟨hx, hb, hml, hown, hts, hr, hlk, hnm, hX⟩ := id hC
  exact lv_iadd hx hb d (iI_add x y ▸ (kk p e s m args below meth c hC hK hZ H locs ls hP hD hS hl))
theorem aw_isub {x y : Int} (d : decode cc pc = .ok (.isub, 1)) (hq : pc + 1 = q) 
    (kk : AW l own nm cc nL ret X R E D ty Z w0 q lv (.int (iI (x - y)) :: st) ws k n) : AW l own nm cc nL ret X R E D ty Z w0 pc lv (.int (iI y) :: .int (iI x) :: st) ws k n := by
  subst hq
  intro p e s m args below meth c hC hK hZ H locs ls hP hD hS hl
  obtain ⟨hx, hb, hml, hown, hts, hr, hlk, hnm, hX⟩ := id hC
  exact lv_isub hx hb d (iI_sub x y ▸ (kk p e s m args below meth c hC hK hZ H locs ls hP hD hS hl))
theorem aw_imul {x y : Int} (d : decode cc pc = .ok (.imul, 1)) (hq : pc + 1 = q) 
    (kk : AW l own nm cc nL ret X R E D ty Z w0 q lv (.int (iI (x * y)) :: st) ws k n) : AW l own nm cc nL ret X R E D ty Z w0 pc lv (.int (iI y) :: .int (iI x) :: st) ws k n := by
  subst hq
  intro p e s m args below meth c hC hK hZ H locs ls hP hD hS hl
  obtain ⟨hx, hb, hml, hown, hts, hr, hlk, hnm, hX⟩ := id hC
  exact lv_imul hx hb d (iI_mul x y ▸ (kk p e s m args below meth c hC hK hZ H locs ls hP hD hS hl))
theorem aw_idivR {x y : Int32} (d : decode cc pc = .ok (.idiv, 1)) (hq : pc + 1 = q) (hne : ¬ y = 0)
    (kk : AW l own nm cc nL ret X R E D ty Z w0 q lv (.int (x / y) :: st) ws k n) : AW l own nm cc nL ret X R E D ty Z w0 pc lv (.int y :: .int x :: st) ws k n := by
  subst hq
  intro p e s m args below meth c hC hK hZ H locs ls hP hD hS hl
  obtain ⟨hx, hb, hml, hown, hts, hr, hlk, hnm, hX⟩ := id hC
  exact lv_idiv hx hb d hne (kk p e s m args below meth c hC hK hZ H locs ls hP hD hS hl)
theorem aw_iremR {x y : Int32} (d : decode cc pc = .ok (.irem, 1)) (hq : pc + 1 = q) (hne : ¬ y = 0)
    (kk : AW l own nm cc nL ret X R E D ty Z w0 q lv (.int (x - x / y * y) :: st) ws k n) : AW l own nm cc nL ret X R E D ty Z w0 pc lv (.int y :: .int x :: st) ws k n := by
  subst hq
  intro p e s m args below meth c hC hK hZ H locs ls hP hD hS hl
  obtain ⟨hx, hb, hml, hown, hts, hr, hlk, hnm, hX⟩ := id hC
  exact lv_irem hx hb d hne (kk p e s m args below meth c hC hK hZ H locs ls hP hD hS hl)
theorem aw_ishlR {x y : Int32} (d : decode cc pc = .ok (.ishl, 1)) (hq : pc + 1 = q) 
    (kk : AW l own nm cc nL ret X R E D ty Z w0 q lv (.int (x <<< (y &&& 31)) :: st) ws k n) : AW l own nm cc nL ret X R E D ty Z w0 pc lv (.int y :: .int x :: st) ws k n := by
  subst hq
  intro p e s m args below meth c hC hK hZ H locs ls hP hD hS hl
  obtain ⟨hx, hb, hml, hown, hts, hr, hlk, hnm, hX⟩ := id hC
  exact lv_ishl hx hb d (kk p e s m args below meth c hC hK hZ H locs ls hP hD hS hl)
theorem aw_iandR {x y : Int32} (d : decode cc pc = .ok (.iand, 1)) (hq : pc + 1 = q) 
    (kk : AW l own nm cc nL ret X R E D ty Z w0 q lv (.int (x &&& y) :: st) ws k n) : AW l own nm cc nL ret X R E D ty Z w0 pc lv (.int y :: .int x :: st) ws k n := by
  subst hq
  intro p e s m args below meth c hC hK hZ H locs ls hP hD hS hl
  obtain ⟨hx, hb, hml, hown, hts, hr, hlk, hnm, hX⟩ := id hC
  exact lv_iand hx hb d (kk p e s m args below meth c hC hK hZ H locs ls hP hD hS hl)
theorem aw_dup {v : Value} (d : decode cc pc = .ok (.dup, 1)) (hq : pc + 1 = q) (hv : v.category = 1)
    (kk : AW l own nm cc nL ret X R E D ty Z w0 q lv (v :: v :: st) ws k n) : AW l own nm cc nL ret X R E D ty Z w0 pc lv (v :: st) ws k n := by
  subst hq
  intro p e s m args below meth c hC hK hZ H locs ls hP hD hS hl
  obtain ⟨hx, hb, hml, hown, hts, hr, hlk, hnm, hX⟩ := id hC
  exact lv_dup hx hb d hv (kk p e s m args below meth c hC hK hZ H locs ls hP hD hS hl)
theorem aw_dup2 {v u : Value} (d : decode cc pc = .ok (.dup2, 1)) (hq : pc + 1 = q) (hv : v.category = 1) (hu : u.category = 1)
    (kk : AW l own nm cc nL ret X R E D ty Z w0 q lv (v :: u :: v :: u :: st) ws k n) : AW l own nm cc nL ret X R E D ty Z w0 pc lv (v :: u :: st) ws k n := by
  subst hq
  intro p e s m args below meth c hC hK hZ H locs ls hP hD hS hl
  obtain ⟨hx, hb, hml, hown, hts, hr, hlk, hnm, hX⟩ := id hC
  exact lv_dup2_11 hx hb d hv hu (kk p e s m args below meth c hC hK hZ H locs ls hP hD hS hl)
theorem aw_pop {v : Value} (d : decode cc pc = .ok (.pop, 1)) (hq : pc + 1 = q) (hv : v.category = 1)
    (kk : AW l own nm cc nL ret X R E D ty Z w0 q lv (st) ws k n) : AW l own nm cc nL ret X R E D ty Z w0 pc lv (v :: st) ws k n := by
  subst hq
  intro p e s m args below meth c hC hK hZ H locs ls hP hD hS hl
  obtain ⟨hx, hb, hml, hown, hts, hr, hlk, hnm, hX⟩ := id hC
  exact lv_pop hx hb d hv (kk p e s m args below meth c hC hK hZ H locs ls hP hD hS hl)
theorem aw_ladd {x y : Int} (d : decode cc pc = .ok (.ladd, 1)) (hq : pc + 1 = q) 
    (kk : AW l own nm cc nL ret X R E D ty Z w0 q lv (.long (iL (x + y)) :: st) ws k n) : AW l own nm cc nL ret X R E D ty Z w0 pc lv (.long (iL y) :: .long (iL x) :: st) ws k n := by
  subst hq
  intro p e s m args below meth c hC hK hZ H locs ls hP hD hS hl
  obtain ⟨hx, hb, hml, hown, hts, hr, hlk, hnm, hX⟩ := id hC
  exact lv_ladd hx hb d (iL_add x y ▸ (kk p e s m args below meth c hC hK hZ H locs ls hP hD hS hl))
theorem aw_lmul {x y : Int} (d : decode cc pc = .ok (.lmul, 1)) (hq : pc + 1 = q) 
    (kk : AW l own nm cc nL ret X R E D ty Z w0 q lv (.long (iL (x * y)) :: st) ws k n) : AW l own nm cc nL ret X R E D ty Z w0 pc lv (.long (iL y) :: .long (iL x) :: st) ws k n := by
  subst hq
  intro p e s m args below meth c hC hK hZ H locs ls hP hD hS hl
  obtain ⟨hx, hb, hml, hown, hts, hr, hlk, hnm, hX⟩ := id hC
  exact lv_lmul hx hb d (iL_mul x y ▸ (kk p e s m args below meth c hC hK hZ H locs ls hP hD hS hl))
theorem aw_lcmpR {x y : Int64} (d : decode cc pc = .ok (.lcmp, 1)) (hq : pc + 1 = q) 
    (kk : AW l own nm cc nL ret X R E D ty Z w0 q lv (.int (lg_cmp x y) :: st) ws k n) : AW l own nm cc nL ret X R E D ty Z w0 pc lv (.long y :: .long x :: st) ws k n := by
  subst hq
  intro p e s m args below meth c hC hK hZ H locs ls hP hD hS hl
  obtain ⟨hx, hb, hml, hown, hts, hr, hlk, hnm, hX⟩ := id hC
  exact W.lcmp hx hb d (kk p e s m args below meth c hC hK hZ H locs ls hP hD hS hl)
theorem aw_i2l {x : Int} (d : decode cc pc = .ok (.i2l, 1)) (hq : pc + 1 = q) (h : -2147483648 ≤ x ∧ x ≤ 2147483647)
    (kk : AW l own nm cc nL ret X R E D ty Z w0 q lv (.long (iL x) :: st) ws k n) : AW l own nm cc nL ret X R E D ty Z w0 pc lv (.int (iI x) :: st) ws k n := by
  subst hq
  intro p e s m args below meth c hC hK hZ H locs ls hP hD hS hl
  obtain ⟨hx, hb, hml, hown, hts, hr, hlk, hnm, hX⟩ := id hC
  exact lv_i2l hx hb d (iI_l h) (kk p e s m args below meth c hC hK hZ H locs ls hP hD hS hl)
theorem aw_i2f {x : Int32} (d : decode cc pc = .ok (.i2f, 1)) (hq : pc + 1 = q) 
    (kk : AW l own nm cc nL ret X R E D ty Z w0 q lv (.float (FP.i2f x) :: st) ws k n) : AW l own nm cc nL ret X R E D ty Z w0 pc lv (.int x :: st) ws k n := by
  subst hq
  intro p e s m args below meth c hC hK hZ H locs ls hP hD hS hl
  obtain ⟨hx, hb, hml, hown, hts, hr, hlk, hnm, hX⟩ := id hC
  exact lv_i2f hx hb d (kk p e s m args below meth c hC hK hZ H locs ls hP hD hS hl)
theorem aw_fadd {x y : UInt32} (d : decode cc pc = .ok (.fadd, 1)) (hq : pc + 1 = q) (hne : vf_n32 (FP.fadd x y))
    (kk : AW l own nm cc nL ret X R E D ty Z w0 q lv (.float (FP.fadd x y) :: st) ws k n) : AW l own nm cc nL ret X R E D ty Z w0 pc lv (.float y :: .float x :: st) ws k n := by
  subst hq
  intro p e s m args below meth c hC hK hZ H locs ls hP hD hS hl
  obtain ⟨hx, hb, hml, hown, hts, hr, hlk, hnm, hX⟩ := id hC
  exact lv_fadd hx hb d hne (kk p e s m args below meth c hC hK hZ H locs ls hP hD hS hl)
theorem aw_fmul {x y : UInt32} (d : decode cc pc = .ok (.fmul, 1)) (hq : pc + 1 = q) (hne : vf_n32 (FP.fmul x y))
    (kk : AW l own nm cc nL ret X R E D ty Z w0 q lv (.float (FP.fmul x y) :: st) ws k n) : AW l own nm cc nL ret X R E D ty Z w0 pc lv (.float y :: .float x :: st) ws k n := by
  subst hq
  intro p e s m args below meth c hC hK hZ H locs ls hP hD hS hl
  obtain ⟨hx, hb, hml, hown, hts, hr, hlk, hnm, hX⟩ := id hC
  exact lv_fmul hx hb d hne (kk p e s m args below meth c hC hK hZ H locs ls hP hD hS hl)
theorem aw_fdiv {x y : UInt32} (d : decode cc pc = .ok (.fdiv, 1)) (hq : pc + 1 = q) (hne : vf_n32 (FP.fdiv x y))
    (kk : AW l own nm cc nL ret X R E D ty Z w0 q lv (.float (FP.fdiv x y) :: st) ws k n) : AW l own nm cc nL ret X R E D ty Z w0 pc lv (.float y :: .float x :: st) ws k n := by
  subst hq
  intro p e s m args below meth c hC hK hZ H locs ls hP hD hS hl
  obtain ⟨hx, hb, hml, hown, hts, hr, hlk, hnm, hX⟩ := id hC
  exact lv_fdiv hx hb d hne (kk p e s m args below meth c hC hK hZ H locs ls hP hD hS hl)
theorem aw_fcmp {x y : UInt32} {op : CmpOp} (d : decode cc pc = .ok (.fcmp op, 1)) (hq : pc + 1 = q) 
    (kk : AW l own nm cc nL ret X R E D ty Z w0 q lv (.int (Op.cmpValue (FP.fcmp x y) op) :: st) ws k n) : AW l own nm cc nL ret X R E D ty Z w0 pc lv (.float y :: .float x :: st) ws k n := by
  subst hq
  intro p e s m args below meth c hC hK hZ H locs ls hP hD hS hl
  obtain ⟨hx, hb, hml, hown, hts, hr, hlk, hnm, hX⟩ := id hC
  exact lv_fcmp hx hb d (kk p e s m args below meth c hC hK hZ H locs ls hP hD hS hl)
theorem aw_dcmp {x y : UInt64} {op : CmpOp} (d : decode cc pc = .ok (.dcmp op, 1)) (hq : pc + 1 = q) 
    (kk : AW l own nm cc nL ret X R E D ty Z w0 q lv (.int (Op.cmpValue (FP.dcmp x y) op) :: st) ws k n) : AW l own nm cc nL ret X R E D ty Z w0 pc lv (.double y :: .double x :: st) ws k n := by
  subst hq
  intro p e s m args below meth c hC hK hZ H locs ls hP hD hS hl
  obtain ⟨hx, hb, hml, hown, hts, hr, hlk, hnm, hX⟩ := id hC
  exact lv_dcmp hx hb d (kk p e s m args below meth c hC hK hZ H locs ls hP hD hS hl)
theorem aw_f2i {x : UInt32} (d : decode cc pc = .ok (.f2i, 1)) (hq : pc + 1 = q) 
    (kk : AW l own nm cc nL ret X R E D ty Z w0 q lv (.int (FP.f2i x) :: st) ws k n) : AW l own nm cc nL ret X R E D ty Z w0 pc lv (.float x :: st) ws k n := by
  subst hq
  intro p e s m args below meth c hC hK hZ H locs ls hP hD hS hl
  obtain ⟨hx, hb, hml, hown, hts, hr, hlk, hnm, hX⟩ := id hC
  exact lv_f2i hx hb d (kk p e s m args below meth c hC hK hZ H locs ls hP hD hS hl)
theorem aw_f2d {x : UInt32} (d : decode cc pc = .ok (.f2d, 1)) (hq : pc + 1 = q) (hne : vf_n64 (FP.f2d x))
    (kk : AW l own nm cc nL ret X R E D ty Z w0 q lv (.double (FP.f2d x) :: st) ws k n) : AW l own nm cc nL ret X R E D ty Z w0 pc lv (.float x :: st) ws k n := by
  subst hq
  intro p e s m args below meth c hC hK hZ H locs ls hP hD hS hl
  obtain ⟨hx, hb, hml, hown, hts, hr, hlk, hnm, hX⟩ := id hC
  exact lv_f2d hx hb d hne (kk p e s m args below meth c hC hK hZ H locs ls hP hD hS hl)
theorem aw_fconst0  (d : decode cc pc = .ok (.fconst 0, 1)) (hq : pc + 1 = q) 
    (kk : AW l own nm cc nL ret X R E D ty Z w0 q lv (.float FP.fconst0 :: st) ws k n) : AW l own nm cc nL ret X R E D ty Z w0 pc lv (st) ws k n := by
  subst hq
  intro p e s m args below meth c hC hK hZ H locs ls hP hD hS hl
  obtain ⟨hx, hb, hml, hown, hts, hr, hlk, hnm, hX⟩ := id hC
  exact lv_fconst0 hx hb d (kk p e s m args below meth c hC hK hZ H locs ls hP hD hS hl)
theorem aw_fconst1  (d : decode cc pc = .ok (.fconst 1, 1)) (hq : pc + 1 = q) 
    (kk : AW l own nm cc nL ret X R E D ty Z w0 q lv (.float FP.fconst1 :: st) ws k n) : AW l own nm cc nL ret X R E D ty Z w0 pc lv (st) ws k n := by
  subst hq
  intro p e s m args below meth c hC hK hZ H locs ls hP hD hS hl
  obtain ⟨hx, hb, hml, hown, hts, hr, hlk, hnm, hX⟩ := id hC
  exact lv_fconst1 hx hb d (kk p e s m args below meth c hC hK hZ H locs ls hP hD hS hl)
theorem aw_fconst2  (d : decode cc pc = .ok (.fconst 2, 1)) (hq : pc + 1 = q) 
    (kk : AW l own nm cc nL ret X R E D ty Z w0 q lv (.float FP.fconst2 :: st) ws k n) : AW l own nm cc nL ret X R E D ty Z w0 pc lv (st) ws k n := by
  subst hq
  intro p e s m args below meth c hC hK hZ H locs ls hP hD hS hl
  obtain ⟨hx, hb, hml, hown, hts, hr, hlk, hnm, hX⟩ := id hC
  exact lv_fconst2 hx hb d (kk p e s m args below meth c hC hK hZ H locs ls hP hD hS hl)
theorem aw_goto {off : Int} (d : decode cc pc = .ok (.goto off, 3)) (ht : (pc : Int) + off = (q : Int))
    (kk : AW l own nm cc nL ret X R E D ty Z w0 q lv st ws k n) : AW l own nm cc nL ret X R E D ty Z w0 pc lv st ws k n := by
  intro p e s m args below meth c hC hK hZ H locs ls hP hD hS hl
  obtain ⟨hx, hb, hml, hown, hts, hr, hlk, hnm, hX⟩ := id hC
  exact lv_goto hx hb d ht (kk p e s m args below meth c hC hK hZ H locs ls hP hD hS hl)
theorem aw_if_eq {x : Int} {off : Int} {t : Nat} (d : decode cc pc = .ok (.ifCond .eq off, 3)) (hq : pc + 3 = q) (ht : (pc : Int) + off = (t : Int)) (hr0 : -2147483648 ≤ x ∧ x ≤ 2147483647)
    (kt : x = 0 → AW l own nm cc nL ret X R E D ty Z w0 t lv st ws k n) (kf : ¬ x = 0 → AW l own nm cc nL ret X R E D ty Z w0 q lv st ws k n) : AW l own nm cc nL ret X R E D ty Z w0 pc lv (.int (iI x) :: st) ws k n := by
  subst hq
  intro p e s m args below meth c hC hK hZ H locs ls hP hD hS hl
  obtain ⟨hx, hb, hml, hown, hts, hr, hlk, hnm, hX⟩ := id hC
  have z0 : iI x = 0 ↔ x = 0 := (iI_inj (x := x) (y := 0) hr0 (by omega))
  refine lv_if_eq hx hb d ht (fun h => ?_) (fun h => ?_)
  · exact kt (by first | exact z0.mp h | exact fun e9 => h (z0.mpr e9)) p e s m args below meth c hC hK hZ H locs ls hP hD hS hl
  · exact kf (by first | exact z0.mp h | exact Classical.not_not.mp (fun e9 => h (fun e8 => e9 (z0.mp e8))) | exact mt z0.mpr h | (have e7 := mt z0.mpr h; omega)) p e s m args below meth c hC hK hZ H locs ls hP hD hS hl
theorem aw_if_ne {x : Int} {off : Int} {t : Nat} (d : decode cc pc = .ok (.ifCond .ne off, 3)) (hq : pc + 3 = q) (ht : (pc : Int) + off = (t : Int)) (hr0 : -2147483648 ≤ x ∧ x ≤ 2147483647)
    (kt : ¬ x = 0 → AW l own nm cc nL ret X R E D ty Z w0 t lv st ws k n) (kf : x = 0 → AW l own nm cc nL ret X R E D ty Z w0 q lv st ws k n) : AW l own nm cc nL ret X R E D ty Z w0 pc lv (.int (iI x) :: st) ws k n := by
  subst hq
  intro p e s m args below meth c hC hK hZ H locs ls hP hD hS hl
  obtain ⟨hx, hb, hml, hown, hts, hr, hlk, hnm, hX⟩ := id hC
  have z0 : iI x = 0 ↔ x = 0 := (iI_inj (x := x) (y := 0) hr0 (by omega))
  refine lv_if_ne hx hb d ht (fun h => ?_) (fun h => ?_)
  · exact kt (by first | exact z0.mp h | exact fun e9 => h (z0.mpr e9)) p e s m args below meth c hC hK hZ H locs ls hP hD hS hl
  · exact kf (by first | exact z0.mp h | exact Classical.not_not.mp (fun e9 => h (fun e8 => e9 (z0.mp e8))) | exact mt z0.mpr h | (have e7 := mt z0.mpr h; omega)) p e s m args below meth c hC hK hZ H locs ls hP hD hS hl
theorem aw_if_lt {x : Int} {off : Int} {t : Nat} (d : decode cc pc = .ok (.ifCond .lt off, 3)) (hq : pc + 3 = q) (ht : (pc : Int) + off = (t : Int)) (hr0 : -2147483648 ≤ x ∧ x ≤ 2147483647)
    (kt : x < 0 → AW l own nm cc nL ret X R E D ty Z w0 t lv st ws k n) (kf : 0 ≤ x → AW l own nm cc nL ret X R E D ty Z w0 q lv st ws k n) : AW l own nm cc nL ret X R E D ty Z w0 pc lv (.int (iI x) :: st) ws k n := by
  subst hq
  intro p e s m args below meth c hC hK hZ H locs ls hP hD hS hl
  obtain ⟨hx, hb, hml, hown, hts, hr, hlk, hnm, hX⟩ := id hC
  have z0 : iI x < 0 ↔ x < 0 := (iI_lt (x := x) (y := 0) hr0 (by omega))
  refine lv_if_lt hx hb d ht (fun h => ?_) (fun h => ?_)
  · exact kt (by first | exact z0.mp h | exact fun e9 => h (z0.mpr e9)) p e s m args below meth c hC hK hZ H locs ls hP hD hS hl
  · exact kf (by first | exact z0.mp h | exact Classical.not_not.mp (fun e9 => h (fun e8 => e9 (z0.mp e8))) | exact mt z0.mpr h | (have e7 := mt z0.mpr h; omega)) p e s m args below meth c hC hK hZ H locs ls hP hD hS hl
theorem aw_if_le {x : Int} {off : Int} {t : Nat} (d : decode cc pc = .ok (.ifCond .le off, 3)) (hq : pc + 3 = q) (ht : (pc : Int) + off = (t : Int)) (hr0 : -2147483648 ≤ x ∧ x ≤ 2147483647)
    (kt : x ≤ 0 → AW l own nm cc nL ret X R E D ty Z w0 t lv st ws k n) (kf : 0 < x → AW l own nm cc nL ret X R E D ty Z w0 q lv st ws k n) : AW l own nm cc nL ret X R E D ty Z w0 pc lv (.int (iI x) :: st) ws k n := by
  subst hq
  intro p e s m args below meth c hC hK hZ H locs ls hP hD hS hl
  obtain ⟨hx, hb, hml, hown, hts, hr, hlk, hnm, hX⟩ := id hC
  have z0 : iI x ≤ 0 ↔ x ≤ 0 := (iI_le (x := x) (y := 0) hr0 (by omega))
  refine lv_if_le hx hb d ht (fun h => ?_) (fun h => ?_)
  · exact kt (by first | exact z0.mp h | exact fun e9 => h (z0.mpr e9)) p e s m args below meth c hC hK hZ H locs ls hP hD hS hl
  · exact kf (by first | exact z0.mp h | exact Classical.not_not.mp (fun e9 => h (fun e8 => e9 (z0.mp e8))) | exact mt z0.mpr h | (have e7 := mt z0.mpr h; omega)) p e s m args below meth c hC hK hZ H locs ls hP hD hS hl
theorem aw_if_ge {x : Int} {off : Int} {t : Nat} (d : decode cc pc = .ok (.ifCond .ge off, 3)) (hq : pc + 3 = q) (ht : (pc : Int) + off = (t : Int)) (hr0 : -2147483648 ≤ x ∧ x ≤ 2147483647)
    (kt : 0 ≤ x → AW l own nm cc nL ret X R E D ty Z w0 t lv st ws k n) (kf : x < 0 → AW l own nm cc nL ret X R E D ty Z w0 q lv st ws k n) : AW l own nm cc nL ret X R E D ty Z w0 pc lv (.int (iI x) :: st) ws k n := by
  subst hq
  intro p e s m args below meth c hC hK hZ H locs ls hP hD hS hl
  obtain ⟨hx, hb, hml, hown, hts, hr, hlk, hnm, hX⟩ := id hC
  have z0 : 0 ≤ iI x ↔ 0 ≤ x := (iI_le (x := 0) (y := x) (by omega) hr0)
  refine lv_if_ge hx hb d ht (fun h => ?_) (fun h => ?_)
  · exact kt (by first | exact z0.mp h | exact fun e9 => h (z0.mpr e9)) p e s m args below meth c hC hK hZ H locs ls hP hD hS hl
  · exact kf (by first | exact z0.mp h | exact Classical.not_not.mp (fun e9 => h (fun e8 => e9 (z0.mp e8))) | exact mt z0.mpr h | (have e7 := mt z0.mpr h; omega)) p e s m args below meth c hC hK hZ H locs ls hP hD hS hl
theorem aw_if_gt {x : Int} {off : Int} {t : Nat} (d : decode cc pc = .ok (.ifCond .gt off, 3)) (hq : pc + 3 = q) (ht : (pc : Int) + off = (t : Int)) (hr0 : -2147483648 ≤ x ∧ x ≤ 2147483647)
    (kt : 0 < x → AW l own nm cc nL ret X R E D ty Z w0 t lv st ws k n) (kf : x ≤ 0 → AW l own nm cc nL ret X R E D ty Z w0 q lv st ws k n) : AW l own nm cc nL ret X R E D ty Z w0 pc lv (.int (iI x) :: st) ws k n := by
  subst hq
  intro p e s m args below meth c hC hK hZ H locs ls hP hD hS hl
  obtain ⟨hx, hb, hml, hown, hts, hr, hlk, hnm, hX⟩ := id hC
  have z0 : 0 < iI x ↔ 0 < x := (iI_lt (x := 0) (y := x) (by omega) hr0)
  refine lv_if_gt hx hb d ht (fun h => ?_) (fun h => ?_)
  · exact kt (by first | exact z0.mp h | exact fun e9 => h (z0.mpr e9)) p e s m args below meth c hC hK hZ H locs ls hP hD hS hl
  · exact kf (by first | exact z0.mp h | exact Classical.not_not.mp (fun e9 => h (fun e8 => e9 (z0.mp e8))) | exact mt z0.mpr h | (have e7 := mt z0.mpr h; omega)) p e s m args below meth c hC hK hZ H locs ls hP hD hS hl
theorem aw_icmp_eq {x y : Int} {off : Int} {t : Nat} (d : decode cc pc = .ok (.if_icmp .eq off, 3)) (hq : pc + 3 = q) (ht : (pc : Int) + off = (t : Int)) (hr0 : -2147483648 ≤ x ∧ x ≤ 2147483647) (hr1 : -2147483648 ≤ y ∧ y ≤ 2147483647)
    (kt : x = y → AW l own nm cc nL ret X R E D ty Z w0 t lv st ws k n) (kf : ¬ x = y → AW l own nm cc nL ret X R E D ty Z w0 q lv st ws k n) : AW l own nm cc nL ret X R E D ty Z w0 pc lv (.int (iI y) :: .int (iI x) :: st) ws k n := by
  subst hq
  intro p e s m args below meth c hC hK hZ H locs ls hP hD hS hl
  obtain ⟨hx, hb, hml, hown, hts, hr, hlk, hnm, hX⟩ := id hC
  have z0 : iI x = iI y ↔ x = y := iI_inj hr0 hr1
  refine lv_icmp_eq hx hb d ht (fun h => ?_) (fun h => ?_)
  · exact kt (by first | exact z0.mp h | exact fun e9 => h (z0.mpr e9)) p e s m args below meth c hC hK hZ H locs ls hP hD hS hl
  · exact kf (by first | exact z0.mp h | exact Classical.not_not.mp (fun e9 => h (fun e8 => e9 (z0.mp e8))) | exact mt z0.mpr h | (have e7 := mt z0.mpr h; omega)) p e s m args below meth c hC hK hZ H locs ls hP hD hS hl
theorem aw_icmp_ne {x y : Int} {off : Int} {t : Nat} (d : decode cc pc = .ok (.if_icmp .ne off, 3)) (hq : pc + 3 = q) (ht : (pc : Int) + off = (t : Int)) (hr0 : -2147483648 ≤ x ∧ x ≤ 2147483647) (hr1 : -2147483648 ≤ y ∧ y ≤ 2147483647)
    (kt : ¬ x = y → AW l own nm cc nL ret X R E D ty Z w0 t lv st ws k n) (kf : x = y → AW l own nm cc nL ret X R E D ty Z w0 q lv st ws k n) : AW l own nm cc nL ret X R E D ty Z w0 pc lv (.int (iI y) :: .int (iI x) :: st) ws k n := by
  subst hq
  intro p e s m args below meth c hC hK hZ H locs ls hP hD hS hl
  obtain ⟨hx, hb, hml, hown, hts, hr, hlk, hnm, hX⟩ := id hC
  have z0 : iI x = iI y ↔ x = y := iI_inj hr0 hr1
  refine lv_icmp_ne hx hb d ht (fun h => ?_) (fun h => ?_)
  · exact kt (by first | exact z0.mp h | exact fun e9 => h (z0.mpr e9)) p e s m args below meth c hC hK hZ H locs ls hP hD hS hl
  · exact kf (by first | exact z0.mp h | exact Classical.not_not.mp (fun e9 => h (fun e8 => e9 (z0.mp e8))) | exact mt z0.mpr h | (have e7 := mt z0.mpr h; omega)) p e s m args below meth c hC hK hZ H locs ls hP hD hS hl
theorem aw_icmp_lt {x y : Int} {off : Int} {t : Nat} (d : decode cc pc = .ok (.if_icmp .lt off, 3)) (hq : pc + 3 = q) (ht : (pc : Int) + off = (t : Int)) (hr0 : -2147483648 ≤ x ∧ x ≤ 2147483647) (hr1 : -2147483648 ≤ y ∧ y ≤ 2147483647)
    (kt : x < y → AW l own nm cc nL ret X R E D ty Z w0 t lv st ws k n) (kf : y ≤ x → AW l own nm cc nL ret X R E D ty Z w0 q lv st ws k n) : AW l own nm cc nL ret X R E D ty Z w0 pc lv (.int (iI y) :: .int (iI x) :: st) ws k n := by
  subst hq
  intro p e s m args below meth c hC hK hZ H locs ls hP hD hS hl
  obtain ⟨hx, hb, hml, hown, hts, hr, hlk, hnm, hX⟩ := id hC
  have z0 : iI x < iI y ↔ x < y := iI_lt hr0 hr1
  refine lv_icmp_lt hx hb d ht (fun h => ?_) (fun h => ?_)
  · exact kt (by first | exact z0.mp h | exact fun e9 => h (z0.mpr e9)) p e s m args below meth c hC hK hZ H locs ls hP hD hS hl
  · exact kf (by first | exact z0.mp h | exact Classical.not_not.mp (fun e9 => h (fun e8 => e9 (z0.mp e8))) | exact mt z0.mpr h | (have e7 := mt z0.mpr h; omega)) p e s m args below meth c hC hK hZ H locs ls hP hD hS hl
theorem aw_icmp_le {x y : Int} {off : Int} {t : Nat} (d : decode cc pc = .ok (.if_icmp .le off, 3)) (hq : pc + 3 = q) (ht : (pc : Int) + off = (t : Int)) (hr0 : -2147483648 ≤ x ∧ x ≤ 2147483647) (hr1 : -2147483648 ≤ y ∧ y ≤ 2147483647)
    (kt : x ≤ y → AW l own nm cc nL ret X R E D ty Z w0 t lv st ws k n) (kf : y < x → AW l own nm cc nL ret X R E D ty Z w0 q lv st ws k n) : AW l own nm cc nL ret X R E D ty Z w0 pc lv (.int (iI y) :: .int (iI x) :: st) ws k n := by
  subst hq
  intro p e s m args below meth c hC hK hZ H locs ls hP hD hS hl
  obtain ⟨hx, hb, hml, hown, hts, hr, hlk, hnm, hX⟩ := id hC
  have z0 : iI x ≤ iI y ↔ x ≤ y := iI_le hr0 hr1
  refine lv_icmp_le hx hb d ht (fun h => ?_) (fun h => ?_)
  · exact kt (by first | exact z0.mp h | exact fun e9 => h (z0.mpr e9)) p e s m args below meth c hC hK hZ H locs ls hP hD hS hl
  · exact kf (by first | exact z0.mp h | exact Classical.not_not.mp (fun e9 => h (fun e8 => e9 (z0.mp e8))) | exact mt z0.mpr h | (have e7 := mt z0.mpr h; omega)) p e s m args below meth c hC hK hZ H locs ls hP hD hS hl
theorem aw_icmp_ge {x y : Int} {off : Int} {t : Nat} (d : decode cc pc = .ok (.if_icmp .ge off, 3)) (hq : pc + 3 = q) (ht : (pc : Int) + off = (t : Int)) (hr0 : -2147483648 ≤ x ∧ x ≤ 2147483647) (hr1 : -2147483648 ≤ y ∧ y ≤ 2147483647)
    (kt : y ≤ x → AW l own nm cc nL ret X R E D ty Z w0 t lv st ws k n) (kf : x < y → AW l own nm cc nL ret X R E D ty Z w0 q lv st ws k n) : AW l own nm cc nL ret X R E D ty Z w0 pc lv (.int (iI y) :: .int (iI x) :: st) ws k n := by
  subst hq
  intro p e s m args below meth c hC hK hZ H locs ls hP hD hS hl
  obtain ⟨hx, hb, hml, hown, hts, hr, hlk, hnm, hX⟩ := id hC
  have z0 : iI y ≤ iI x ↔ y ≤ x := iI_le hr1 hr0
  refine lv_icmp_ge hx hb d ht (fun h => ?_) (fun h => ?_)
  · exact kt (by first | exact z0.mp h | exact fun e9 => h (z0.mpr e9)) p e s m args below meth c hC hK hZ H locs ls hP hD hS hl
  · exact kf (by first | exact z0.mp h | exact Classical.not_not.mp (fun e9 => h (fun e8 => e9 (z0.mp e8))) | exact mt z0.mpr h | (have e7 := mt z0.mpr h; omega)) p e s m args below meth c hC hK hZ H locs ls hP hD hS hl
theorem aw_icmp_gt {x y : Int} {off : Int} {t : Nat} (d : decode cc pc = .ok (.if_icmp .gt off, 3)) (hq : pc + 3 = q) (ht : (pc : Int) + off = (t : Int)) (hr0 : -2147483648 ≤ x ∧ x ≤ 2147483647) (hr1 : -2147483648 ≤ y ∧ y ≤ 2147483647)
    (kt : y < x → AW l own nm cc nL ret X R E D ty Z w0 t lv st ws k n) (kf : x ≤ y → AW l own nm cc nL ret X R E D ty Z w0 q lv st ws k n) : AW l own nm cc nL ret X R E D ty Z w0 pc lv (.int (iI y) :: .int (iI x) :: st) ws k n := by
  subst hq
  intro p e s m args below meth c hC hK hZ H locs ls hP hD hS hl
  obtain ⟨hx, hb, hml, hown, hts, hr, hlk, hnm, hX⟩ := id hC
  have z0 : iI y < iI x ↔ y < x := iI_lt hr1 hr0
  refine lv_icmp_gt hx hb d ht (fun h => ?_) (fun h => ?_)
  · exact kt (by first | exact z0.mp h | exact fun e9 => h (z0.mpr e9)) p e s m args below meth c hC hK hZ H locs ls hP hD hS hl
  · exact kf (by first | exact z0.mp h | exact Classical.not_not.mp (fun e9 => h (fun e8 => e9 (z0.mp e8))) | exact mt z0.mpr h | (have e7 := mt z0.mpr h; omega)) p e s m args below meth c hC hK hZ H locs ls hP hD hS hl
end RWS
end
section
section RWH
variable {l : Launch} {own nm : String} {cc : ByteArray} {nL : Nat} {ret : Option FieldType} {X : Code → Prop} {R : Room} {E : List Frame → Array Value → State → State → Prop} {D : va_G} {ty : List (ClassId × FieldType)} {Z : State → Prop} {w0 : va_W} {pc q : Nat} {lv : List (Nat × Value)} {st : List Value} {ws : va_W} {k n : Nat}
theorem aw_get {C : String} {TT : u_T} {N ci j idx : Nat} {fs : List Value} {a : Nat} {v : Value} (q0 : Nat) (hc : vwCl[ci]? = some (C, TT, N)) (hj : j < N) (hin : ∀ w ∈ u_ws C TT N, w ∈ gt) (ho : (TT j).1 = C) (he : ws[q0]? = some (a, .inr (ci, fs))) (hw : Cond.fieldLink own idx C (TT j).2.1 (TT j).2.2.1 ∈ gt) (hv : fs[j]? = some v) (d : decode cc pc = .ok (.getfield idx, 3)) (hq : pc + 3 = q)
    (kk : AW l own nm cc nL ret X R E D ty Z w0 q lv (v :: st) ws k n) : AW l own nm cc nL ret X R E D ty Z w0 pc lv (.ref a :: st) ws k n := by
  subst hq
  intro p e s m args below meth c hC hK hZ H locs ls hP hD hS hl
  obtain ⟨hx, hb, hml, hown, hts, hr, hlk, hnm, hX⟩ := id hC
  exact va_get hx hb hts hin hown hK hP q0 he hc j hj (hts _ hw) (fun x hx => by rw [ho] at hx; exact hx) hv d (kk p e s m args below meth c hC hK hZ H locs ls hP hD hS hl)
theorem aw_put {C : String} {TT : u_T} {N ci j idx : Nat} {fs : List Value} {a : Nat} {v : Value} (q0 : Nat) (hc : vwCl[ci]? = some (C, TT, N)) (hj : j < N) (hin : ∀ w ∈ u_ws C TT N, w ∈ gt) (ho : (TT j).1 = C) (he : ws[q0]? = some (a, .inr (ci, fs))) (tt : Nat → FieldType) (htt : ∀ k, k < N → parseFieldDescriptor (TT k).2.2.1 = some (tt k)) (hnn : ∀ a, a < N → ∀ b, b < N → a ≠ b → (TT a).2.1 ≠ (TT b).2.1) (hfin : (TT j).2.2.2 = false ∨ (nm = "<init>" ∧ C = own)) (hn : narrow (tt j) v = v) (hfit : fits (tt j) v = true) (hl9 : j < fs.length)
    (hw : Cond.fieldLink own idx C (TT j).2.1 (TT j).2.2.1 ∈ gt) (d : decode cc pc = .ok (.putfield idx, 3)) (hq : pc + 3 = q)
    (kk : AW l own nm cc nL ret X R E D ty Z w0 q lv st (ws.set q0 (a, .inr (ci, fs.set j v))) k n) : AW l own nm cc nL ret X R E D ty Z w0 pc lv (v :: .ref a :: st) ws k n := by
  subst hq
  intro p e s m args below meth c hC hK hZ H locs ls hP hD hS hl
  obtain ⟨hx, hb, hml, hown, hts, hr, hlk, hnm, hX⟩ := id hC
  by_cases hf : (TT j).2.2.2 = false
  · exact va_put hx hb hts hin tt htt hnn hown hK hP hD hS q0 he hc j hj (hts _ hw) (fun x hx => by rw [ho] at hx; exact hx) hf (htt j hj) hn hfit hl9 d (fun H locs hP hD hS => (kk p e s m args below meth c hC hK hZ H locs ls hP hD hS hl))
  · obtain ⟨h1, h2⟩ := hfin.resolve_left hf
    exact va_putF hx hb hts hin tt htt hnn hown hK hP hD hS q0 he hc j hj (hts _ hw) (fun x hx => by rw [ho] at hx; exact hx) (by simpa using hf) (hnm.trans h1) (ho.trans h2) (htt j hj) hn hfit hl9 d (fun H locs hP hD hS => (kk p e s m args below meth c hC hK hZ H locs ls hP hD hS hl))
theorem aw_iald {a : Nat} {cA : ClassId} {N : Nat} {f : Nat → Int32} {i : Int32} (q0 t0 : Nat) (he : ws[q0]? = some (a, .inl (cA, N, .inl f))) (ht : ty[t0]? = some (cA, .int)) (hin : vp_in i N) (d : decode cc pc = .ok (.iaload, 1)) (hq : pc + 1 = q)
    (kk : AW l own nm cc nL ret X R E D ty Z w0 q lv (.int (f i.toNatClampNeg) :: st) ws k n) : AW l own nm cc nL ret X R E D ty Z w0 pc lv (.int i :: .ref a :: st) ws k n := by
  subst hq
  intro p e s m args below meth c hC hK hZ H locs ls hP hD hS hl
  obtain ⟨hx, hb, hml, hown, hts, hr, hlk, hnm, hX⟩ := id hC
  exact va_iald hx hb hK hP q0 t0 he ht hin d (kk p e s m args below meth c hC hK hZ H locs ls hP hD hS hl)
theorem aw_zald {a : Nat} {cA : ClassId} {N : Nat} {f : Nat → Int32} {i : Int32} (q0 t0 : Nat) (he : ws[q0]? = some (a, .inl (cA, N, .inl f))) (ht : ty[t0]? = some (cA, .boolean)) (hin : vp_in i N) (d : decode cc pc = .ok (.baload, 1)) (hq : pc + 1 = q)
    (kk : AW l own nm cc nL ret X R E D ty Z w0 q lv (.int (f i.toNatClampNeg) :: st) ws k n) : AW l own nm cc nL ret X R E D ty Z w0 pc lv (.int i :: .ref a :: st) ws k n := by
  subst hq
  intro p e s m args below meth c hC hK hZ H locs ls hP hD hS hl
  obtain ⟨hx, hb, hml, hown, hts, hr, hlk, hnm, hX⟩ := id hC
  exact va_zald hx hb hK hP q0 t0 he ht hin d (kk p e s m args below meth c hC hK hZ H locs ls hP hD hS hl)
theorem aw_lald {a : Nat} {cA : ClassId} {N : Nat} {f : Nat → Int64} {i : Int32} (q0 t0 : Nat) (he : ws[q0]? = some (a, .inl (cA, N, .inr (.inl f)))) (ht : ty[t0]? = some (cA, .long)) (hin : vp_in i N) (d : decode cc pc = .ok (.laload, 1)) (hq : pc + 1 = q)
    (kk : AW l own nm cc nL ret X R E D ty Z w0 q lv (.long (f i.toNatClampNeg) :: st) ws k n) : AW l own nm cc nL ret X R E D ty Z w0 pc lv (.int i :: .ref a :: st) ws k n := by
  subst hq
  intro p e s m args below meth c hC hK hZ H locs ls hP hD hS hl
  obtain ⟨hx, hb, hml, hown, hts, hr, hlk, hnm, hX⟩ := id hC
  exact va_lald hx hb hK hP q0 t0 he ht hin d (kk p e s m args below meth c hC hK hZ H locs ls hP hD hS hl)
theorem aw_dald {a : Nat} {cA : ClassId} {N : Nat} {f : Nat → UInt64} {i : Int32} (q0 t0 : Nat) (he : ws[q0]? = some (a, .inl (cA, N, .inr (.inr (.inr (.inl f)))))) (ht : ty[t0]? = some (cA, .double)) (hin : vp_in i N) (d : decode cc pc = .ok (.daload, 1)) (hq : pc + 1 = q)
    (kk : AW l own nm cc nL ret X R E D ty Z w0 q lv (.double (f i.toNatClampNeg) :: st) ws k n) : AW l own nm cc nL ret X R E D ty Z w0 pc lv (.int i :: .ref a :: st) ws k n := by
  subst hq
  intro p e s m args below meth c hC hK hZ H locs ls hP hD hS hl
  obtain ⟨hx, hb, hml, hown, hts, hr, hlk, hnm, hX⟩ := id hC
  exact va_dald hx hb hK hP q0 t0 he ht hin d (kk p e s m args below meth c hC hK hZ H locs ls hP hD hS hl)
theorem aw_iast {a : Nat} {cA : ClassId} {N : Nat} {f : Nat → Int32} {i : Int32} {x : Int32} (q0 t0 : Nat) (he : ws[q0]? = some (a, .inl (cA, N, .inl f))) (ht : ty[t0]? = some (cA, .int)) (hin : vp_in i N) (d : decode cc pc = .ok (.iastore, 1)) (hq : pc + 1 = q)
    (kk : AW l own nm cc nL ret X R E D ty Z w0 q lv st (ws.set q0 (a, .inl (cA, N, .inl (upd f i.toNatClampNeg x)))) k n) : AW l own nm cc nL ret X R E D ty Z w0 pc lv (.int x :: .int i :: .ref a :: st) ws k n := by
  subst hq
  intro p e s m args below meth c hC hK hZ H locs ls hP hD hS hl
  obtain ⟨hx, hb, hml, hown, hts, hr, hlk, hnm, hX⟩ := id hC
  exact va_iast hx hb hK hP hD hS q0 t0 he ht hin d (fun H locs hP hD hS => (kk p e s m args below meth c hC hK hZ H locs ls hP hD hS hl))
theorem aw_zast {a : Nat} {cA : ClassId} {N : Nat} {f : Nat → Int32} {i : Int32} {x : Int32} (q0 t0 : Nat) (he : ws[q0]? = some (a, .inl (cA, N, .inl f))) (ht : ty[t0]? = some (cA, .boolean)) (hin : vp_in i N) (d : decode cc pc = .ok (.bastore, 1)) (hq : pc + 1 = q)
    (kk : AW l own nm cc nL ret X R E D ty Z w0 q lv st (ws.set q0 (a, .inl (cA, N, .inl (upd f i.toNatClampNeg (vp_nar .boolean x))))) k n) : AW l own nm cc nL ret X R E D ty Z w0 pc lv (.int x :: .int i :: .ref a :: st) ws k n := by
  subst hq
  intro p e s m args below meth c hC hK hZ H locs ls hP hD hS hl
  obtain ⟨hx, hb, hml, hown, hts, hr, hlk, hnm, hX⟩ := id hC
  exact va_zast hx hb hK hP hD hS q0 t0 he ht hin d (fun H locs hP hD hS => (kk p e s m args below meth c hC hK hZ H locs ls hP hD hS hl))
theorem aw_last {a : Nat} {cA : ClassId} {N : Nat} {f : Nat → Int64} {i : Int32} {x : Int64} (q0 t0 : Nat) (he : ws[q0]? = some (a, .inl (cA, N, .inr (.inl f)))) (ht : ty[t0]? = some (cA, .long)) (hin : vp_in i N) (d : decode cc pc = .ok (.lastore, 1)) (hq : pc + 1 = q)
    (kk : AW l own nm cc nL ret X R E D ty Z w0 q lv st (ws.set q0 (a, .inl (cA, N, .inr (.inl (vp_updL f i.toNatClampNeg x))))) k n) : AW l own nm cc nL ret X R E D ty Z w0 pc lv (.long x :: .int i :: .ref a :: st) ws k n := by
  subst hq
  intro p e s m args below meth c hC hK hZ H locs ls hP hD hS hl
  obtain ⟨hx, hb, hml, hown, hts, hr, hlk, hnm, hX⟩ := id hC
  exact va_last hx hb hK hP hD hS q0 t0 he ht hin d (fun H locs hP hD hS => (kk p e s m args below meth c hC hK hZ H locs ls hP hD hS hl))
theorem aw_dast {a : Nat} {cA : ClassId} {N : Nat} {f : Nat → UInt64} {i : Int32} {x : UInt64} (q0 t0 : Nat) (he : ws[q0]? = some (a, .inl (cA, N, .inr (.inr (.inr (.inl f)))))) (ht : ty[t0]? = some (cA, .double)) (hin : vp_in i N) (d : decode cc pc = .ok (.dastore, 1)) (hq : pc + 1 = q)
    (kk : AW l own nm cc nL ret X R E D ty Z w0 q lv st (ws.set q0 (a, .inl (cA, N, .inr (.inr (.inr (.inl (vf_upd f i.toNatClampNeg x))))))) k n) : AW l own nm cc nL ret X R E D ty Z w0 pc lv (.double x :: .int i :: .ref a :: st) ws k n := by
  subst hq
  intro p e s m args below meth c hC hK hZ H locs ls hP hD hS hl
  obtain ⟨hx, hb, hml, hown, hts, hr, hlk, hnm, hX⟩ := id hC
  exact va_dast hx hb hK hP hD hS q0 t0 he ht hin d (fun H locs hP hD hS => (kk p e s m args below meth c hC hK hZ H locs ls hP hD hS hl))
theorem aw_ald {a b : Nat} {cA : ClassId} {C : String} {N : Nat} {f : Nat → Option Nat} {i : Int32} (q0 t0 : Nat) (he : ws[q0]? = some (a, .inl (cA, N, .inr (.inr (.inr (.inr f)))))) (ht : ty[t0]? = some (cA, .object C)) (hin : vp_in i N) (hv : f i.toNatClampNeg = some b) (d : decode cc pc = .ok (.aaload, 1)) (hq : pc + 1 = q)
    (kk : AW l own nm cc nL ret X R E D ty Z w0 q lv (.ref b :: st) ws k n) : AW l own nm cc nL ret X R E D ty Z w0 pc lv (.int i :: .ref a :: st) ws k n := by
  subst hq
  intro p e s m args below meth c hC hK hZ H locs ls hP hD hS hl
  obtain ⟨hx, hb, hml, hown, hts, hr, hlk, hnm, hX⟩ := id hC
  exact va_aldq hx hb hK hP q0 t0 he ht hin d (by rw [hv]; exact (kk p e s m args below meth c hC hK hZ H locs ls hP hD hS hl))
theorem aw_ast {a b : Nat} {cA : ClassId} {r : vw_C} {N : Nat} {f : Nat → Option Nat} {i : Int32} {vs : List Value} {ci : Nat} (q0 t0 qk : Nat) (he : ws[q0]? = some (a, .inl (cA, N, .inr (.inr (.inr (.inr f)))))) (ht : ty[t0]? = some (cA, .object r.1)) (hv : ws[qk]? = some (b, .inr (ci, vs))) (hc : vwCl[ci]? = some r) (hin : vp_in i N) (d : decode cc pc = .ok (.aastore, 1)) (hq : pc + 1 = q)
    (kk : AW l own nm cc nL ret X R E D ty Z w0 q lv st (ws.set q0 (a, .inl (cA, N, .inr (.inr (.inr (.inr (va_up f i.toNatClampNeg (some b)))))))) k n) : AW l own nm cc nL ret X R E D ty Z w0 pc lv (.ref b :: .int i :: .ref a :: st) ws k n := by
  subst hq
  intro p e s m args below meth c hC hK hZ H locs ls hP hD hS hl
  obtain ⟨hx, hb, hml, hown, hts, hr, hlk, hnm, hX⟩ := id hC
  exact va_astq hx hb hK hP hD hS q0 t0 qk ci he ht hv hc hin d (fun H locs hP hD hS => (kk p e s m args below meth c hC hK hZ H locs ls hP hD hS hl))
theorem aw_alen {a : Nat} {cA : ClassId} {x : vp_A} {t : FieldType} {z : Int} (q0 t0 : Nat) (he : ws[q0]? = some (a, .inl (cA, x))) (ht : ty[t0]? = some (cA, t)) (hz : Int32.ofNat x.1 = iI z) (d : decode cc pc = .ok (.arraylength, 1)) (hq : pc + 1 = q)
    (kk : AW l own nm cc nL ret X R E D ty Z w0 q lv (.int (iI z) :: st) ws k n) : AW l own nm cc nL ret X R E D ty Z w0 pc lv (.ref a :: st) ws k n := by
  subst hq
  intro p e s m args below meth c hC hK hZ H locs ls hP hD hS hl
  obtain ⟨hx, hb, hml, hown, hts, hr, hlk, hnm, hX⟩ := id hC
  exact va_alen hx hb hK hP q0 t0 he ht hz d (kk p e s m args below meth c hC hK hZ H locs ls hP hD hS hl)
theorem aw_new {C : String} {TT : u_T} {N ci idx : Nat} {fs : List Value} (tt : Nat → FieldType) (htt : ∀ k, k < N → parseFieldDescriptor (TT k).2.2.1 = some (tt k)) (hc : vwCl[ci]? = some (C, TT, N)) (hin : ∀ w ∈ u_ws C TT N, w ∈ gt) (hw : Cond.classLink own idx C ∈ gt) (hw2 : Cond.instantiable C N ∈ gt) (hw3 : Cond.initialized C ∈ gt) (hfs : ∀ j, j < N → defaultValue (tt j) = vp_V fs j) (hc1 : k + 1 ≤ R.cells) (hs1 : n + N ≤ R.slots) (d : decode cc pc = .ok (.new idx, 3)) (hq : pc + 3 = q)
    (kk : ∀ a : Nat, AW l own nm cc nL ret X R E D ty Z w0 q lv (.ref a :: st) (ws ++ [(a, .inr (ci, fs))]) (k + 1) (n + N)) : AW l own nm cc nL ret X R E D ty Z w0 pc lv st ws k n := by
  subst hq
  intro p e s m args below meth c hC hK hZ H locs ls hP hD hS hl
  obtain ⟨hx, hb, hml, hown, hts, hr, hlk, hnm, hX⟩ := id hC
  exact va_new hx hb hts hin tt htt hown (hts _ hw) (hts _ hw2) (hts _ hw3) hK hP hD hS (fun _ h => Or.inr h) hc hfs hc1 hs1 d (fun a H1 hP hD hS => kk a p e s m args below meth c hC hK hZ H1 locs ls hP hD hS hl)
theorem va_sameA {D : va_G} {ty : List (ClassId × FieldType)} {s : State} {c1 cA : ClassId} {t : FieldType} {t0 : Nat} (h : va_K D vwCl (ty ++ [(cA, t)]) s) (ht : ty[t0]? = some (c1, t)) : cA = c1 := by
  have h1 := (h.2 ty.length (cA, t) (by simp)).2
  have h2 := (h.2 t0 (c1, t) (by rw [List.getElem?_append_left (List.getElem?_eq_some_iff.mp ht).1]; exact ht)).2
  cases t with
  | object C =>
    obtain ⟨_, _, _, _, _, e1⟩ := h1
    obtain ⟨_, _, _, _, _, e2⟩ := h2
    exact Option.some.inj (e1.symm.trans e2)
  | _ => exact Option.some.inj (h1.symm.trans h2)
theorem aw_newa {at0 : ArrayType} {t : FieldType} {cA : ClassId} {i : Int32} {N : Nat} {a0 : vp_A} (t0 : Nat) (hty : newarray.typeOf at0 = t) (ht : ty[t0]? = some (cA, t)) (hw : Cond.arrayClass t ∈ gt) (ha : ∀ cA : ClassId, vp_cell cA a0 = arrV cA N (fun _ => defaultValue t)) (hn : ¬ i < 0) (hN : i.toNatClampNeg = N) (hb9 : N * componentBytes t ≤ 536870912) (hc1 : k + 1 ≤ R.cells) (hs1 : n + N ≤ R.slots) (d : decode cc pc = .ok (.newarray at0, 2)) (hq : pc + 2 = q)
    (kk : ∀ a : Nat, AW l own nm cc nL ret X R E D ty Z w0 q lv (.ref a :: st) (ws ++ [(a, .inl (cA, a0))]) (k + 1) (n + N)) : AW l own nm cc nL ret X R E D ty Z w0 pc lv (.int i :: st) ws k n := by
  subst hq
  intro p e s m args below meth c hC hK hZ H locs ls hP hD hS hl
  obtain ⟨hx, hb, hml, hown, hts, hr, hlk, hnm, hX⟩ := id hC
  refine va_newa hx hb (by rw [hty]; exact hts _ hw) hty hK hP hD hS (fun _ h => Or.inr h) ha hn hN hb9 hc1 hs1 d (fun a cB H1 hK1 hP1 hD1 hS1 => ?_)
  have e9 := va_sameA hK1 ht
  subst e9
  exact kk a p e s m args below meth c hC hK hZ H1 locs ls hP1 hD1 hS1 hl
theorem aw_newq {C : String} {idx : Nat} {cA : ClassId} {i : Int32} {N : Nat} (t0 : Nat) (ht : ty[t0]? = some (cA, .object C)) (hw : Cond.classLink own idx C ∈ gt) (hAO : ∀ s, Z s → va_AO C s) (hn : ¬ i < 0) (hN : i.toNatClampNeg = N) (hb9 : N * 4 ≤ 536870912) (hc1 : k + 1 ≤ R.cells) (hs1 : n + N ≤ R.slots) (d : decode cc pc = .ok (.anewarray idx, 3)) (hq : pc + 3 = q)
    (kk : ∀ a : Nat, AW l own nm cc nL ret X R E D ty Z w0 q lv (.ref a :: st) (ws ++ [(a, .inl (cA, N, .inr (.inr (.inr (.inr (fun _ => none))))))]) (k + 1) (n + N)) : AW l own nm cc nL ret X R E D ty Z w0 pc lv (.int i :: st) ws k n := by
  subst hq
  intro p e s m args below meth c hC hK hZ H locs ls hP hD hS hl
  obtain ⟨hx, hb, hml, hown, hts, hr, hlk, hnm, hX⟩ := id hC
  refine va_newq hx hb hown (hts _ hw) (hAO s hZ) hK hP hD hS (fun _ h => Or.inr h) hn hN hb9 hc1 hs1 d (fun a cB H1 hK1 hP1 hD1 hS1 => ?_)
  have e9 := va_sameA hK1 ht
  subst e9
  exact kk a p e s m args below meth c hC hK hZ H1 locs ls hP1 hD1 hS1 hl
theorem aw_objInit {idx a : Nat} (hw : Cond.methodLink own idx objectInit ∈ gt) (hw2 : Cond.instanceMethod objectInit ∈ gt) (hw3 : Cond.code objectInit ⟨#[0xb1]⟩ 1 none ∈ gt) (hf : 1 ≤ R.frames) (hlo : (st.map fun v => v.category).sum + 12 ≤ R.locals) (d : decode cc pc = .ok (.invokespecial idx, 3)) (hq : pc + 3 = q)
    (kk : AW l own nm cc nL ret X R E D ty Z w0 q lv st ws k n) : AW l own nm cc nL ret X R E D ty Z w0 pc lv (.ref a :: st) ws k n := by
  subst hq
  intro p e s m args below meth c hC hK hZ H locs ls hP hD hS hl
  obtain ⟨hx, hb, hml, hown, hts, hr, hlk, hnm, hX⟩ := id hC
  exact W.objInit (g := F0 m pc ls (.ref a :: st)) hx hb hown (hts _ hw) (hts _ hw2) (hts _ hw3) rfl (hl.1.trans hml.symm) rfl d hf (by show 2 * 0 + _ + 12 ≤ _; omega) (kk p e s m args below meth c hC hK hZ H locs ls hP hD hS hl)
theorem aw_gets {T : Nat → Nat} {idx : Nat} (t : Nat) (ht : t < 5) (hZT : ∀ s, Z s → hvSt T (va_A w0 s.heap.size) s s.heap) (hw : Cond.fieldLink own idx RX5 (tbN t) "[I" ∈ gt) (d : decode cc pc = .ok (.getstatic idx, 3)) (hq : pc + 3 = q)
    (kk : AW l own nm cc nL ret X R E D ty Z w0 q lv (.ref (T t) :: st) ws k n) : AW l own nm cc nL ret X R E D ty Z w0 pc lv st ws k n := by
  subst hq
  intro p e s m args below meth c hC hK hZ H locs ls hP hD hS hl
  obtain ⟨hx, hb, hml, hown, hts, hr, hlk, hnm, hX⟩ := id hC
  exact va_gets hx hb ((hZT s hZ).1 t ht).1 hS hown (hts _ hw) (fun _ h => h) d (kk p e s m args below meth c hC hK hZ H locs ls hP hD hS hl)
theorem aw_ti {T : Nat → Nat} {i : Int} (t : Nat) (ht : t < 5) (hZT : ∀ s, Z s → hvSt T (va_A w0 s.heap.size) s s.heap) (hi : 0 ≤ i ∧ i < tbL t) (d : decode cc pc = .ok (.iaload, 1)) (hq : pc + 1 = q)
    (kk : AW l own nm cc nL ret X R E D ty Z w0 q lv (.int (iI (tbV t i.toNat)) :: st) ws k n) : AW l own nm cc nL ret X R E D ty Z w0 pc lv (.int (iI i) :: .ref (T t) :: st) ws k n := by
  subst hq
  intro p e s m args below meth c hC hK hZ H locs ls hP hD hS hl
  obtain ⟨hx, hb, hml, hown, hts, hr, hlk, hnm, hX⟩ := id hC
  have h5 : tbL t ≤ 5 := by
    have : t = 0 ∨ t = 1 ∨ t = 2 ∨ t = 3 ∨ t = 4 := by omega
    rcases this with rfl | rfl | rfl | rfl | rfl <;> decide
  exact va_ti hx hb ((hZT s hZ).1 t ht).2 hS (iI_in hi (by omega)) (by rw [iI_nat (by omega)]) d (kk p e s m args below meth c hC hK hZ H locs ls hP hD hS hl)
theorem aw_min {idx : Nat} {x y : Int} (hw : Cond.methodLink own idx Lib.Math.min.name ∈ gt) (hw2 : Cond.static Lib.Math.min.name ∈ gt) (hw3 : Cond.initialized "java/lang/Math" ∈ gt) (hw4 : Cond.code Lib.Math.min.name Lib.Math.min.code 2 (some .int) ∈ gt) (hf : 1 ≤ R.frames) (hlo : (st.map fun v => v.category).sum + 13 ≤ R.locals) (hkc : k ≤ R.cells) (hnc : n ≤ R.slots) (hr0 : -2147483648 ≤ x ∧ x ≤ 2147483647) (hr1 : -2147483648 ≤ y ∧ y ≤ 2147483647) (d : decode cc pc = .ok (.invokestatic idx, 3)) (hq : pc + 3 = q)
    (kk : AW l own nm cc nL ret X R E D ty Z w0 q lv (.int (iI (min x y)) :: st) ws k n) : AW l own nm cc nL ret X R E D ty Z w0 pc lv (.int (iI y) :: .int (iI x) :: st) ws k n := by
  subst hq
  intro p e s m args below meth c hC hK hZ H locs ls hP hD hS hl
  obtain ⟨hx, hb, hml, hown, hts, hr, hlk, hnm, hX⟩ := id hC
  refine va_mmin hx hb (hml.trans hl.1.symm) hown (hts _ hw) (hts _ hw2) (hts _ hw3) (hts _ hw4) hf hlo hkc hnc d ?_
  have e9 : (if iI y < iI x then iI y else iI x) = iI (min x y) := by
    by_cases h : y < x
    · rw [if_pos ((iI_lt hr1 hr0).mpr h), show min x y = y by omega]
    · rw [if_neg (mt (iI_lt hr1 hr0).mp h), show min x y = x by omega]
  rw [e9]
  exact (kk p e s m args below meth c hC hK hZ H locs ls hP hD hS hl)
theorem aw_max {idx : Nat} {x y : Int} (hw : Cond.methodLink own idx Lib.Math.max.name ∈ gt) (hw2 : Cond.static Lib.Math.max.name ∈ gt) (hw3 : Cond.initialized "java/lang/Math" ∈ gt) (hw4 : Cond.code Lib.Math.max.name Lib.Math.max.code 2 (some .int) ∈ gt) (hf : 1 ≤ R.frames) (hlo : (st.map fun v => v.category).sum + 13 ≤ R.locals) (hkc : k ≤ R.cells) (hnc : n ≤ R.slots) (hr0 : -2147483648 ≤ x ∧ x ≤ 2147483647) (hr1 : -2147483648 ≤ y ∧ y ≤ 2147483647) (d : decode cc pc = .ok (.invokestatic idx, 3)) (hq : pc + 3 = q)
    (kk : AW l own nm cc nL ret X R E D ty Z w0 q lv (.int (iI (max x y)) :: st) ws k n) : AW l own nm cc nL ret X R E D ty Z w0 pc lv (.int (iI y) :: .int (iI x) :: st) ws k n := by
  subst hq
  intro p e s m args below meth c hC hK hZ H locs ls hP hD hS hl
  obtain ⟨hx, hb, hml, hown, hts, hr, hlk, hnm, hX⟩ := id hC
  refine va_mmax hx hb (hml.trans hl.1.symm) hown (hts _ hw) (hts _ hw2) (hts _ hw3) (hts _ hw4) hf hlo hkc hnc d ?_
  have e9 : (if iI x < iI y then iI y else iI x) = iI (max x y) := by
    by_cases h : x < y
    · rw [if_pos ((iI_lt hr0 hr1).mpr h), show max x y = y by omega]
    · rw [if_neg (mt (iI_lt hr0 hr1).mp h), show max x y = x by omega]
  rw [e9]
  exact (kk p e s m args below meth c hC hK hZ H locs ls hP hD hS hl)
theorem aw_copy {idx : Nat} {a a0 : Nat} {c0 : ClassId} {n0 n1 : Nat} {f g : Nat → Int32} {sp dp z : Int} (q0 q1 t0 : Nat) (hw : Cond.methodLink own idx arraycopyName ∈ gt) (hw2 : Cond.native arraycopyName ∈ gt) (hw3 : Cond.static arraycopyName ∈ gt) (hw4 : Cond.initialized "java/lang/System" ∈ gt) (ha0 : ws[q0]? = some (a0, .inl (c0, n0, .inl f))) (ha1 : ws[q1]? = some (a, .inl (c0, n1, .inl g))) (ht0 : ty[t0]? = some (c0, .int)) (h1 : 0 ≤ sp ∧ 0 ≤ dp ∧ 0 ≤ z ∧ sp + z ≤ n0 ∧ dp + z ≤ n1) (hn0 : n0 ≤ 100000) (hn1 : n1 ≤ 100000) (hf : 1 ≤ R.frames) (hlo : (st.map fun v => v.category).sum + (nativeFrameWords "java/lang/System" "arraycopy" 5 + 11) ≤ R.locals) (d : decode cc pc = .ok (.invokestatic idx, 3)) (hq : pc + 3 = q)
    (kk : AW l own nm cc nL ret X R E D ty Z w0 q lv st (ws.set q1 (a, .inl (c0, n1, .inl (va_cpy f g sp.toNat dp.toNat z.toNat)))) k n) : AW l own nm cc nL ret X R E D ty Z w0 pc lv (.int (iI z) :: .int (iI dp) :: .ref a :: .int (iI sp) :: .ref a0 :: st) ws k n := by
  subst hq
  intro p e s m args below meth c hC hK hZ H locs ls hP hD hS hl
  obtain ⟨hx, hb, hml, hown, hts, hr, hlk, hnm, hX⟩ := id hC
  have z0 : (0 : Int32) = iI 0 := by decide
  have e1 : (iI sp).toNatClampNeg = sp.toNat := iI_nat (by omega)
  have e2 : (iI dp).toNatClampNeg = dp.toNat := iI_nat (by omega)
  have e3 : (iI z).toNatClampNeg = z.toNat := iI_nat (by omega)
  refine va_copyi hx hb (hml.trans hl.1.symm) hown (hts _ hw) (hts _ hw2) (hts _ hw3) (hts _ hw4) hK hP hD hS q0 q1 t0 t0 ha0 ha1 ht0 ht0 rfl ?_ ?_ ?_ (by omega) (by omega) (fun _ _ => rfl) hf hlo d (fun H1 locs1 hP hD hS => ?_)
  · rw [z0, iI_lt (by omega) (by omega)]; omega
  · rw [z0, iI_lt (by omega) (by omega)]; omega
  · rw [z0, iI_lt (by omega) (by omega)]; omega
  · rw [e1, e2, e3] at hP hD
    exact kk p e s m args below meth c hC hK hZ H1 locs1 ls hP hD hS hl
theorem aw_f2raw {idx : Nat} {b : UInt32} (hw : Cond.methodLink own idx ⟨"java/lang/Float", "floatToRawIntBits", "(F)I"⟩ ∈ gt) (hw2 : Cond.native ⟨"java/lang/Float", "floatToRawIntBits", "(F)I"⟩ ∈ gt) (hw3 : Cond.static ⟨"java/lang/Float", "floatToRawIntBits", "(F)I"⟩ ∈ gt) (hw4 : Cond.initialized "java/lang/Float" ∈ gt) (hf : 1 ≤ R.frames) (hlo : (st.map fun v => v.category).sum + 15 ≤ R.locals) (d : decode cc pc = .ok (.invokestatic idx, 3)) (hq : pc + 3 = q)
    (kk : AW l own nm cc nL ret X R E D ty Z w0 q lv (.int b.toInt32 :: st) ws k n) : AW l own nm cc nL ret X R E D ty Z w0 pc lv (.float b :: st) ws k n := by
  subst hq
  intro p e s m args below meth c hC hK hZ H locs ls hP hD hS hl
  obtain ⟨hx, hb, hml, hown, hts, hr, hlk, hnm, hX⟩ := id hC
  exact vn_f2i hx hb (hml.trans hl.1.symm) hown (hts _ hw) (hts _ hw2) (hts _ hw3) (hts _ hw4) hf hlo d (kk p e s m args below meth c hC hK hZ H locs ls hP hD hS hl)
theorem aw_raw2f {idx : Nat} {b : Int32} (hv : vn_sni2f b = false) (hw : Cond.methodLink own idx ⟨"java/lang/Float", "intBitsToFloat", "(I)F"⟩ ∈ gt) (hw2 : Cond.native ⟨"java/lang/Float", "intBitsToFloat", "(I)F"⟩ ∈ gt) (hw3 : Cond.static ⟨"java/lang/Float", "intBitsToFloat", "(I)F"⟩ ∈ gt) (hw4 : Cond.initialized "java/lang/Float" ∈ gt) (hf : 1 ≤ R.frames) (hlo : (st.map fun v => v.category).sum + 15 ≤ R.locals) (d : decode cc pc = .ok (.invokestatic idx, 3)) (hq : pc + 3 = q)
    (kk : AW l own nm cc nL ret X R E D ty Z w0 q lv (.float b.toUInt32 :: st) ws k n) : AW l own nm cc nL ret X R E D ty Z w0 pc lv (.int b :: st) ws k n := by
  subst hq
  intro p e s m args below meth c hC hK hZ H locs ls hP hD hS hl
  obtain ⟨hx, hb, hml, hown, hts, hr, hlk, hnm, hX⟩ := id hC
  exact vn_i2f hx hb (hml.trans hl.1.symm) hown (hts _ hw) (hts _ hw2) (hts _ hw3) (hts _ hw4) hv hf hlo d (kk p e s m args below meth c hC hK hZ H locs ls hP hD hS hl)
end RWH
end
section
section RWC
variable {l : Launch} {own nm : String} {cc : ByteArray} {nL : Nat} {ret : Option FieldType} {X : Code → Prop} {R : Room} {E : List Frame → Array Value → State → State → Prop} {D : va_G} {ty : List (ClassId × FieldType)} {Z : State → Prop} {w0 : va_W} {pc q : Nat} {lv : List (Nat × Value)} {st : List Value} {ws : va_W} {k n : Nat}
variable {Q : Option Value → va_W → Prop} {mc ms : Nat}
theorem aw_iret {t : FieldType} {x : Int32} (hr9 : ret = some t) (hn9 : narrow t (.int x) = .int x) (hk : k ≤ mc) (hn : n ≤ ms) (hQ : Q (some (.int x)) ws) (d : decode cc pc = .ok (.ireturn, 1)) : AW l own nm cc nL ret X R (hvE D Q w0 mc ms) D ty Z w0 pc lv [.int x] ws k n := by
  intro p e s m args below meth c hC hK hZ H locs ls hP hD hS hl
  obtain ⟨hx, hb, hml, hown, hts, hr, hlk, hnm, hX⟩ := id hC
  refine W.widen hk hn ?_
  exact W.zret hx hb (hr.trans hr9) hn9 (fun t ht hW => ⟨⟨_, ws, rfl, hQ, by rw [ht]; exact hP, hD⟩, hS.F ht⟩) hS.2.2 d hlk
theorem aw_lret {x : Int64} (hr9 : ret = some .long) (hk : k ≤ mc) (hn : n ≤ ms) (hQ : Q (some (.long x)) ws) (d : decode cc pc = .ok (.lreturn, 1)) : AW l own nm cc nL ret X R (hvE D Q w0 mc ms) D ty Z w0 pc lv [.long x] ws k n := by
  intro p e s m args below meth c hC hK hZ H locs ls hP hD hS hl
  obtain ⟨hx, hb, hml, hown, hts, hr, hlk, hnm, hX⟩ := id hC
  refine W.widen hk hn ?_
  exact W.lret hx hb (hr.trans hr9) (fun t ht hW => ⟨⟨_, ws, rfl, hQ, by rw [ht]; exact hP, hD⟩, hS.F ht⟩) hS.2.2 d hlk
theorem aw_fret {x : UInt32} (hr9 : ret = some .float) (hk : k ≤ mc) (hn : n ≤ ms) (hQ : Q (some (.float x)) ws) (d : decode cc pc = .ok (.freturn, 1)) : AW l own nm cc nL ret X R (hvE D Q w0 mc ms) D ty Z w0 pc lv [.float x] ws k n := by
  intro p e s m args below meth c hC hK hZ H locs ls hP hD hS hl
  obtain ⟨hx, hb, hml, hown, hts, hr, hlk, hnm, hX⟩ := id hC
  refine W.widen hk hn ?_
  exact W.fret hx hb (hr.trans hr9) (fun t ht hW => ⟨⟨_, ws, rfl, hQ, by rw [ht]; exact hP, hD⟩, hS.F ht⟩) hS.2.2 d hlk
theorem aw_vret (hr9 : ret = none) (hk : k ≤ mc) (hn : n ≤ ms) (hQ : Q none ws) (d : decode cc pc = .ok (.return_, 1)) : AW l own nm cc nL ret X R (hvE D Q w0 mc ms) D ty Z w0 pc lv [] ws k n := by
  intro p e s m args below meth c hC hK hZ H locs ls hP hD hS hl
  obtain ⟨hx, hb, hml, hown, hts, hr, hlk, hnm, hX⟩ := id hC
  refine W.widen hk hn ?_
  exact W.vret hx hb (hr.trans hr9) (fun t ht hW => ⟨⟨_, ws, rfl, hQ, by rw [ht]; exact hP, hD⟩, hS.F ht⟩) hS.2.2 d hlk
variable {T : Nat → Nat} {y : MethodName} {bytes : ByteArray} {maxL : Nat} {rt : Option FieldType} {fr lo mc1 ms1 idx : Nat} {As : List Value} {b : Nat} {Q1 : Option Value → va_W → Prop}
theorem hvZ.call {T : Nat → Nat} {w0 ws : va_W} {s U : State} {H : Heap} {locs : List Loc} (h : hvZ T w0 s) (hD : va_D (va_A w0 s.heap.size) ws) (hS : va_S (va_A w0 s.heap.size) s.heap H locs) (hU : U.heap = H) (hW : s.WarmedH U.vm) : hvZ T ws U := by
  obtain ⟨h5, h6, h7, h8, h9⟩ := h
  have hv := hW.alike
  refine ⟨?_, fun q hq => vk_R.warm hW (h6 q hq), va_AO.moved hv h7, va_AO.moved hv h8, fun q hq => va_Nw.warmM hW (h9.1 q hq), fun q hq => va_Nw.warmF hW (h9.2 q hq)⟩
  rw [hU]
  refine h5.to hv (fun a h1 h2 => hS.2.1 a h1 h2) (fun a ha => ?_)
  rcases ha with ⟨k, e, ha⟩ | ha
  · exact hD.2 k _ ha
  · exact Or.inr (Nat.le_trans hS.1 ha)
theorem hvB.call {T : Nat → Nat} {w0 ws : va_W} {s U : State} {H : Heap} {locs : List Loc} (h : hvZ T w0 s) (hP : va_P D vwCl ws H) (hK : va_K D vwCl ty s) (hD : va_D (va_A w0 s.heap.size) ws) (hS : va_S (va_A w0 s.heap.size) s.heap H locs) (hU : U.heap = H) (hW : s.WarmedH U.vm) : hvB D ty T ws H.size U :=
  ⟨by rw [hU], by rw [hU]; exact hP, va_K.moved hW.alike hK, hD.weaken (fun _ _ _ _ => trivial), h.call hD hS hU hW⟩
theorem hvF {w0 ws : va_W} {s : State} {H : Heap} {locs : List Loc} (hD : va_D (va_A w0 s.heap.size) ws) (hS : va_S (va_A w0 s.heap.size) s.heap H locs) : ∀ q, va_A ws H.size q → va_A w0 s.heap.size q := by
  rintro q (⟨k, e, ha⟩ | ha)
  · exact hD.2 k _ ha
  · exact Or.inr (Nat.le_trans hS.1 ha)
/-- behind a call -/
theorem aw_back {g : List Value} (hr : ∀ (p : Program) (e : Env) (s : State) (m : MethodId) (args : Array Value) (below : List Frame) (meth : Method) (c : Code), hC p own nm cc nL ret X s m args meth c → va_K D vwCl ty s → Z s →
  ∀ (H : Heap) (locs : List Loc) (ls : Array Slot), va_P D vwCl ws H → va_D (va_A w0 s.heap.size) ws → va_S (va_A w0 s.heap.size) s.heap H locs → lv_has ls nL lv → ∃ a : Array Value, va_Run p l e R s m args below meth c H locs k n mc1 ms1 (F0 m pc ls g) st (hvQ D Q1 ws H.size a) (va_A ws H.size))
    (hq : pc + 3 = q) (kk : ∀ (v : Option Value) (ws1 : va_W), Q1 v ws1 → AW l own nm cc nL ret X R E D ty Z w0 q lv (v.toList ++ st) ws1 (k + mc1) (n + ms1)) : AW l own nm cc nL ret X R E D ty Z w0 pc lv g ws k n := by
  subst hq
  intro p e s m args below meth c hC hK hZ H locs ls hP hD hS hl
  obtain ⟨a, hr⟩ := hr p e s m args below meth c hC hK hZ H locs ls hP hD hS hl
  intro T hT X
  obtain ⟨v, st₀, t, T', L, h0, X', hL, e1, e2, ⟨⟨v1, ws1, hv, hq1, hP1, hD1⟩, hz, hk⟩, st⟩ := hr T hT X
  cases hv
  rw [h0] at hz hk
  have hF := hvF hD hS
  obtain ⟨t2, a1, b1⟩ := kk v ws1 hq1 p e s m args below meth c hC hK hZ T'.heap (locs ++ L) ls (by rw [e1]; exact hP1) (hD1.weaken (fun _ _ _ h => hF _ h))
    ⟨Nat.le_trans hS.1 (by rw [e1]; exact hz), fun q h1 h2 => by rw [e1, hk q (Nat.lt_of_lt_of_le h1 hS.1) (fun z => h2 (hF q z))]; exact hS.2.1 q h1 h2, fun q hq => by
      rcases List.mem_append.mp hq with h | h
      · exact hS.2.2 q h
      · exact hF _ (hL q h)⟩ hl T' rfl X'
  exact ⟨t2, st t2 a1, b1⟩
theorem gtIn {y : MethodName} (hw : Cond.code y bytes maxL rt ∈ gt) : GoodIn gt (.code y bytes maxL rt :: gt) := by
  intro w hw1
  have hg : w ∈ gt := by
    rcases List.mem_cons.mp hw1 with h | h
    · rw [h]; exact hw
    · exact h
  exact ⟨hg, good_of_word (List.mem_filter.mp hg).2⟩
theorem aw_callV {C : String} {TT : u_T} {N ci : Nat} {fs : List Value} (q0 nA : Nat) (hm : MC l y bytes maxL rt fr lo mc1 ms1 D ty T (.ref b :: As) ws Q1) (hZT : ∀ s, Z s → hvZ T w0 s) (he : ws[q0]? = some (b, .inr (ci, fs))) (hc : vwCl[ci]? = some (y.cls, TT, N))
    (hw1 : Cond.code y bytes maxL rt ∈ gt) (hw2 : Cond.methodLink own idx y ∈ gt) (hw3 : Cond.instanceMethod y ∈ gt) (hw4 : Cond.selects y.cls y y ∈ gt) (hw5 : Cond.initialized y.cls ∈ gt)
    (hd : y.cls ≠ "java/lang/invoke/MethodHandle" ∧ y.cls ≠ "java/lang/invoke/VarHandle" ∧ (parseMethodDescriptor y.desc).map (fun d => d.parameters.length) = some nA) (hn : As.length = nA) (hR : fr + 1 ≤ R.frames ∧ 8 + (maxL + 11) + lo ≤ R.locals) (hR2 : k + mc1 ≤ R.cells ∧ n + ms1 ≤ R.slots) (hst : (st.map fun v => v.category).sum ≤ 8)
    (d : decode cc pc = .ok (.invokevirtual idx, 3)) (hq : pc + 3 = q)
    (kk : ∀ (v : Option Value) (ws1 : va_W), Q1 v ws1 → AW l own nm cc nL ret X R E D ty Z w0 q lv (v.toList ++ st) ws1 (k + mc1) (n + ms1)) : AW l own nm cc nL ret X R E D ty Z w0 pc lv (As.reverse ++ .ref b :: st) ws k n := by
  refine aw_back (mc1 := mc1) (ms1 := ms1) (st := st) (Q1 := Q1) (fun p e s m args below meth c hC hK hZ H locs ls hP hD hS hl => ⟨(.ref b :: As).toArray, ?_⟩) hq kk
  obtain ⟨hx, hb, hml, hown, hts, hr, hlk, hnm, hX⟩ := id hC
  exact va_runV (As := As) (rest := st) (C := y.cls) (n := nA) ⟨hx, hb, hml, hown, hts⟩ (hm H.size) ⟨callB_of nA hts (gtIn hw1) rfl rfl rfl (hts _ hw5) (hts _ hw2) hd hR, hts _ hw3, hts _ hw4⟩
    ⟨hvB_blind, va_recv hK hP hc he, fun U hU hW => ⟨rfl, hvB.call (hZT s hZ) hP hK hD hS hU hW⟩⟩ rfl hn hl.1 rfl (by show 2 * 0 + _ ≤ 8; omega) d hR2
theorem aw_callS (nA : Nat) (hm : MC l y bytes maxL rt fr lo mc1 ms1 D ty T As ws Q1) (hZT : ∀ s, Z s → hvZ T w0 s)
    (hw1 : Cond.code y bytes maxL rt ∈ gt) (hw2 : Cond.methodLink own idx y ∈ gt) (hw3 : Cond.static y ∈ gt) (hw5 : Cond.initialized y.cls ∈ gt)
    (hd : y.cls ≠ "java/lang/invoke/MethodHandle" ∧ y.cls ≠ "java/lang/invoke/VarHandle" ∧ (parseMethodDescriptor y.desc).map (fun d => d.parameters.length) = some nA) (hn : As.length = nA) (hR : fr + 1 ≤ R.frames ∧ 8 + (maxL + 11) + lo ≤ R.locals) (hR2 : k + mc1 ≤ R.cells ∧ n + ms1 ≤ R.slots) (hst : (st.map fun v => v.category).sum ≤ 8)
    (d : decode cc pc = .ok (.invokestatic idx, 3)) (hq : pc + 3 = q)
    (kk : ∀ (v : Option Value) (ws1 : va_W), Q1 v ws1 → AW l own nm cc nL ret X R E D ty Z w0 q lv (v.toList ++ st) ws1 (k + mc1) (n + ms1)) : AW l own nm cc nL ret X R E D ty Z w0 pc lv (As.reverse ++ st) ws k n := by
  refine aw_back (mc1 := mc1) (ms1 := ms1) (st := st) (Q1 := Q1) (fun p e s m args below meth c hC hK hZ H locs ls hP hD hS hl => ⟨As.toArray, ?_⟩) hq kk
  obtain ⟨hx, hb, hml, hown, hts, hr, hlk, hnm, hX⟩ := id hC
  exact va_runS (As := As) (rest := st) (n := nA) ⟨hx, hb, hml, hown, hts⟩ (hm H.size) ⟨callB_of nA hts (gtIn hw1) rfl rfl rfl (hts _ hw5) (hts _ hw2) hd hR, hts _ hw3⟩
    ⟨hvB_blind, fun U hU hW => ⟨rfl, hvB.call (hZT s hZ) hP hK hD hS hU hW⟩⟩ rfl hn hl.1 rfl (by show 2 * 0 + _ ≤ 8; omega) d hR2
theorem aw_callI (nA : Nat) (hm : MC l y bytes maxL none fr lo mc1 ms1 D ty T (.ref b :: As) ws Q1) (hZT : ∀ s, Z s → hvZ T w0 s)
    (hw1 : Cond.code y bytes maxL none ∈ gt) (hw2 : Cond.methodLink own idx y ∈ gt) (hw3 : Cond.instanceMethod y ∈ gt) (hy : y.name = "<init>") (hw5 : Cond.initialized y.cls ∈ gt)
    (hd : y.cls ≠ "java/lang/invoke/MethodHandle" ∧ y.cls ≠ "java/lang/invoke/VarHandle" ∧ (parseMethodDescriptor y.desc).map (fun d => d.parameters.length) = some nA) (hn : As.length = nA) (hR : fr + 1 ≤ R.frames ∧ 8 + (maxL + 11) + lo ≤ R.locals) (hR2 : k + mc1 ≤ R.cells ∧ n + ms1 ≤ R.slots) (hst : (st.map fun v => v.category).sum ≤ 8)
    (d : decode cc pc = .ok (.invokespecial idx, 3)) (hq : pc + 3 = q)
    (kk : ∀ (v : Option Value) (ws1 : va_W), Q1 v ws1 → AW l own nm cc nL ret X R E D ty Z w0 q lv (v.toList ++ st) ws1 (k + mc1) (n + ms1)) : AW l own nm cc nL ret X R E D ty Z w0 pc lv (As.reverse ++ .ref b :: st) ws k n := by
  refine aw_back (mc1 := mc1) (ms1 := ms1) (st := st) (Q1 := Q1) (fun p e s m args below meth c hC hK hZ H locs ls hP hD hS hl => ⟨(.ref b :: As).toArray, ?_⟩) hq kk
  obtain ⟨hx, hb, hml, hown, hts, hr, hlk, hnm, hX⟩ := id hC
  exact va_runI (As := As) (rest := st) (n := nA) ⟨hx, hb, hml, hown, hts⟩ (hm H.size) ⟨callB_of nA hts (gtIn hw1) rfl rfl rfl (hts _ hw5) (hts _ hw2) hd hR, hy, hts _ hw3⟩
    ⟨hvB_blind, fun U hU hW => ⟨rfl, hvB.call (hZT s hZ) hP hK hD hS hU hW⟩⟩ rfl hn hl.1 rfl (by show 2 * 0 + _ ≤ 8; omega) d hR2
theorem aw_callIN (nA : Nat) (host : String) (hm : MC l y bytes maxL none fr lo mc1 ms1 D ty T (.ref b :: As) ws Q1) (hZT : ∀ s, Z s → hvZ T w0 s)
    (hw1 : Cond.code y bytes maxL none ∈ gt) (hw2 : (own, idx, y, host) ∈ nestM) (hw3 : Cond.instanceMethod y ∈ gt) (hy : y.name = "<init>") (hw5 : Cond.initialized y.cls ∈ gt)
    (hd : y.cls ≠ "java/lang/invoke/MethodHandle" ∧ y.cls ≠ "java/lang/invoke/VarHandle" ∧ (parseMethodDescriptor y.desc).map (fun d => d.parameters.length) = some nA) (hn : As.length = nA) (hR : fr + 1 ≤ R.frames ∧ 8 + (maxL + 11) + lo ≤ R.locals) (hR2 : k + mc1 ≤ R.cells ∧ n + ms1 ≤ R.slots) (hst : (st.map fun v => v.category).sum ≤ 8)
    (d : decode cc pc = .ok (.invokespecial idx, 3)) (hq : pc + 3 = q)
    (kk : ∀ (v : Option Value) (ws1 : va_W), Q1 v ws1 → AW l own nm cc nL ret X R E D ty Z w0 q lv (v.toList ++ st) ws1 (k + mc1) (n + ms1)) : AW l own nm cc nL ret X R E D ty Z w0 pc lv (As.reverse ++ .ref b :: st) ws k n := by
  refine aw_back (mc1 := mc1) (ms1 := ms1) (st := st) (Q1 := Q1) (fun p e s m args below meth c hC hK hZ H locs ls hP hD hS hl => ⟨(.ref b :: As).toArray, ?_⟩) hq kk
  obtain ⟨hx, hb, hml, hown, hts, hr, hlk, hnm, hX⟩ := id hC
  exact va_runIN (As := As) (rest := st) (n := nA) (host := host) ⟨hx, hb, hml, hown, hts⟩ (hm H.size) ⟨va_cnB nA hts (gtIn hw1) rfl rfl rfl ((hZT s hZ).2.2.2.2.1 _ hw2) (hts _ hw5) hd hR, hy, hts _ hw3⟩
    ⟨hvB_blind, fun U hU hW => ⟨rfl, hvB.call (hZT s hZ) hP hK hD hS hU hW⟩⟩ rfl hn hl.1 rfl (by show 2 * 0 + _ ≤ 8; omega) d hR2
theorem aw_callSN (nA : Nat) (host : String) (hm : MC l y bytes maxL rt fr lo mc1 ms1 D ty T As ws Q1) (hZT : ∀ s, Z s → hvZ T w0 s)
    (hw1 : Cond.code y bytes maxL rt ∈ gt) (hw2 : (own, idx, y, host) ∈ nestM) (hw3 : Cond.static y ∈ gt) (hw5 : Cond.initialized y.cls ∈ gt)
    (hd : y.cls ≠ "java/lang/invoke/MethodHandle" ∧ y.cls ≠ "java/lang/invoke/VarHandle" ∧ (parseMethodDescriptor y.desc).map (fun d => d.parameters.length) = some nA) (hn : As.length = nA) (hR : fr + 1 ≤ R.frames ∧ 8 + (maxL + 11) + lo ≤ R.locals) (hR2 : k + mc1 ≤ R.cells ∧ n + ms1 ≤ R.slots) (hst : (st.map fun v => v.category).sum ≤ 8)
    (d : decode cc pc = .ok (.invokestatic idx, 3)) (hq : pc + 3 = q)
    (kk : ∀ (v : Option Value) (ws1 : va_W), Q1 v ws1 → AW l own nm cc nL ret X R E D ty Z w0 q lv (v.toList ++ st) ws1 (k + mc1) (n + ms1)) : AW l own nm cc nL ret X R E D ty Z w0 pc lv (As.reverse ++ st) ws k n := by
  refine aw_back (mc1 := mc1) (ms1 := ms1) (st := st) (Q1 := Q1) (fun p e s m args below meth c hC hK hZ H locs ls hP hD hS hl => ⟨As.toArray, ?_⟩) hq kk
  obtain ⟨hx, hb, hml, hown, hts, hr, hlk, hnm, hX⟩ := id hC
  exact va_runSN (As := As) (rest := st) (n := nA) (host := host) ⟨hx, hb, hml, hown, hts⟩ (hm H.size) ⟨va_cnB nA hts (gtIn hw1) rfl rfl rfl ((hZT s hZ).2.2.2.2.1 _ hw2) (hts _ hw5) hd hR, hts _ hw3, trivial⟩
    ⟨hvB_blind, fun U hU hW => ⟨rfl, hvB.call (hZT s hZ) hP hK hD hS hU hW⟩⟩ rfl hn hl.1 rfl (by show 2 * 0 + _ ≤ 8; omega) d hR2
theorem aw_getsN (t : Nat) (ht : t < 5) (hZT : ∀ s, Z s → hvZ T w0 s) (hw : (own, idx, t) ∈ nestF) (d : decode cc pc = .ok (.getstatic idx, 3)) (hq : pc + 3 = q)
    (kk : AW l own nm cc nL ret X R E D ty Z w0 q lv (.ref (T t) :: st) ws k n) : AW l own nm cc nL ret X R E D ty Z w0 pc lv st ws k n := by
  subst hq
  intro p e s m args below meth c hC hK hZ H locs ls hP hD hS hl
  obtain ⟨hx, hb, hml, hown, hts, hr, hlk, hnm, hX⟩ := id hC
  exact va_getsN (host := RX5) hx hb ((hZT s hZ).1.1 t ht).1 hS hown (va_Nw.use rfl ((hZT s hZ).2.2.2.2.2 _ hw)) (fun _ h => h) d (kk p e s m args below meth c hC hK hZ H locs ls hP hD hS hl)
end RWC
end
section
/-! the canonical world: 120 cells, what they hold is read off a number G page index -/
def setG (G : Int → Int → Int) (a b v : Int) : Int → Int → Int := fun x y => if x = a ∧ y = b then v else G x y
theorem setG_same (G : Int → Int → Int) (a b v : Int) : setG G a b v a b = v := by simp [setG]
theorem setG_ne {G : Int → Int → Int} {a b v x y : Int} (h : ¬ (x = a ∧ y = b)) : setG G a b v x y = G x y := by simp [setG, h]
def rowI (G : Int → Int → Int) (pg b : Int) (n : Nat) : Nat → Int32 := fun j => if j < n then iI (G pg (b + (j : Int))) else 0
def rowL (G : Int → Int → Int) (pg b : Int) (n : Nat) : Nat → Int64 := fun j => if j < n then iL (G pg (b + (j : Int))) else 0
def dB (x : Int) : UInt64 := UInt64.ofNat x.toNat
def fB (x : Int) : UInt32 := UInt32.ofNat x.toNat
def rowD (G : Int → Int → Int) (pg b : Int) (n : Nat) : Nat → UInt64 := fun j => if j < n then dB (G pg (b + (j : Int))) else 0
def rowR (ad : Int → Nat) (f : Int → Int) (n : Nat) : Nat → Option Nat := fun j => if j < n then some (ad (f (j : Int))) else none
def inI (C : Nat → ClassId) (G : Int → Int → Int) (pg b : Int) (n : Nat) : va_E := .inl (C 0, n, .inl (rowI G pg b n))
def coilCell (G : Int → Int → Int) (i b : Int) : va_E := .inr (0, [.int (iI (G i b)), .int (iI (G i (b + 1))), .int (iI (G i (b + 2))), .int (iI (G i (b + 3))), .int (iI (G i (b + 4))), .int (iI (G i (b + 5))), .int (iI (G i (b + 6))), .int (iI (G i (b + 7))), .int (iI (G i (b + 8))), .int (iI (G i (b + 9))), .float (fB (G i (b + 10))), .int (iI (G i (b + 11)))])
def machCell (ad : Int → Nat) (C : Nat → ClassId) (G : Int → Int → Int) (i r : Int) : va_E :=
  if r = 0 then .inr (1, [.ref (ad (17 * i + 1)), .ref (ad (17 * i + 2)), .ref (ad (17 * i + 3)), .int (iI (G i 13)), .int (iI (G i 10)), .int (iI (G i 12))])
  else if r = 1 then .inl (C 2, 8, .inr (.inr (.inr (.inr (rowR ad (fun j => 17 * i + 9 + j) 8)))))
  else if r = 2 then inI C G i 0 5
  else if r = 3 then .inr (4, [.ref (ad (17 * i + 4)), .ref (ad (17 * i + 5)), .ref (ad (17 * i + 6)), .int (iI (G i 9)), .int (iI (G i 14)), .int (iI (G i 311)), .int (iI (G i 11))])
  else if r = 4 then inI C G i 5 4
  else if r = 5 then inI C G i 111 200
  else if r = 6 then .inr (3, [.ref (ad (17 * i + 7)), .ref (ad (17 * i + 8))])
  else if r = 7 then inI C G i 312 4
  else if r = 8 then inI C G i 316 4
  else coilCell G i (15 + 12 * (r - 9))
def restCell (ad : Int → Nat) (C : Nat → ClassId) (G : Int → Int → Int) (k : Int) : va_E :=
  if k = 102 then .inr (5, [.ref (ad 0), .ref (ad 17), .ref (ad 103), .int (iI (G 6 0)), .ref (ad 104), .ref (ad 107)])
  else if k = 103 then .inl (C 3, 4, .inr (.inr (.inr (.inr (rowR ad (fun j => 17 * G 6 (10 + j)) 4)))))
  else if k = 104 then .inr (2, [.ref (ad 105), .int (iI (G 7 1)), .int (iI (G 7 2)), .int (iI (G 7 3)), .int (iI (G 7 4)), .ref (ad 106), .int (iI (G 7 6)), .int (iI (G 7 7))])
  else if k = 105 then inI C G 8 0 100
  else if k = 106 then inI C G 9 0 4
  else if k = 107 then inI C G 10 0 4
  else if k = 108 then .inr (6, [.ref (ad 109), .ref (ad 110), .ref (ad 111), .ref (ad 112), .int (iI (G 11 4)), .ref (ad 113), .int (iI (G 11 6)), .int (iI (G 11 7)), .int (iI (G 11 8)), .ref (ad 114), .ref (ad 115), .ref (ad 116), .ref (ad 117), .int (iI (G 11 13)), .int (iI (G 11 14)), .int (iI (G 11 15)), .int (iI (G 11 16)), .int (iI (G 11 17)), .long (iL (G 11 18))])
  else if k = 109 then inI C G 12 0 311
  else if k = 110 then inI C G 13 0 311
  else if k = 111 then inI C G 14 0 311
  else if k = 112 then inI C G 15 0 1244
  else if k = 113 then inI C G 16 0 100
  else if k = 114 then inI C G 17 0 4
  else if k = 115 then inI C G 18 0 4
  else if k = 116 then .inl (C 1, 401, .inl (rowI G 19 0 401))
  else if k = 117 then inI C G 20 0 311
  else if k = 118 then .inl (C 4, 1, .inr (.inl (rowL G 21 0 1)))
  else .inl (C 5, 1, .inr (.inr (.inr (.inl (rowD G 22 0 1)))))
def cellOf (ad : Int → Nat) (C : Nat → ClassId) (G : Int → Int → Int) (k : Int) : va_E := if k < 102 then machCell ad C G (k / 17) (k % 17) else restCell ad C G k
def cw (ad : Int → Nat) (C : Nat → ClassId) (G : Int → Int → Int) : va_W := (List.range 120).map (fun j : Nat => (ad (j : Int), cellOf ad C G (j : Int)))
def ownM (i y : Int) : Int :=
  if y < 0 then 999 else if y < 5 then 17 * i + 2 else if y < 9 then 17 * i + 4 else if y = 9 then 17 * i + 3 else if y = 10 then 17 * i else if y = 11 then 17 * i + 3 else if y < 14 then 17 * i else if y = 14 then 17 * i + 3 else if y < 111 then 17 * i + 9 + (y - 15) / 12 else if y < 311 then 17 * i + 5 else if y = 311 then 17 * i + 3 else if y < 316 then 17 * i + 7 else if y < 320 then 17 * i + 8 else 999
def ownr (x y : Int) : Int :=
  if x < 6 then ownM x y else if x = 6 then (if y = 0 then 102 else 103) else if x < 11 then 97 + x else if x = 11 then 108 else 97 + x
theorem cw_get {ad : Int → Nat} {C : Nat → ClassId} {G : Int → Int → Int} {k : Int} (h : 0 ≤ k ∧ k < 120) : (cw ad C G)[k.toNat]? = some (ad k, cellOf ad C G k) := by
  have h1 : k.toNat < 120 := by omega
  have h2 : ((k.toNat : Nat) : Int) = k := by omega
  simp [cw, h1, h2]
theorem rowI_congr {G G1 : Int → Int → Int} {pg b : Int} {n : Nat} (h : ∀ j : Int, 0 ≤ j → j < n → G1 pg (b + j) = G pg (b + j)) : rowI G1 pg b n = rowI G pg b n := by
  funext j
  by_cases hj : j < n
  · simp only [rowI, hj, if_true, h j (by omega) (by omega)]
  · simp only [rowI, hj, if_false]
theorem inI_congr {C : Nat → ClassId} {G G1 : Int → Int → Int} {pg b : Int} {n : Nat} (h : ∀ j : Int, 0 ≤ j → j < n → G1 pg (b + j) = G pg (b + j)) : inI C G1 pg b n = inI C G pg b n := by
  unfold inI; rw [rowI_congr h]
theorem mc_0 (ad : Int → Nat) (C : Nat → ClassId) (G : Int → Int → Int) (i : Int) : machCell ad C G i 0 = .inr (1, [.ref (ad (17 * i + 1)), .ref (ad (17 * i + 2)), .ref (ad (17 * i + 3)), .int (iI (G i 13)), .int (iI (G i 10)), .int (iI (G i 12))]) := rfl
theorem mc_1 (ad : Int → Nat) (C : Nat → ClassId) (G : Int → Int → Int) (i : Int) : machCell ad C G i 1 = .inl (C 2, 8, .inr (.inr (.inr (.inr (rowR ad (fun j => 17 * i + 9 + j) 8))))) := rfl
theorem mc_2 (ad : Int → Nat) (C : Nat → ClassId) (G : Int → Int → Int) (i : Int) : machCell ad C G i 2 = inI C G i 0 5 := rfl
theorem mc_3 (ad : Int → Nat) (C : Nat → ClassId) (G : Int → Int → Int) (i : Int) : machCell ad C G i 3 = .inr (4, [.ref (ad (17 * i + 4)), .ref (ad (17 * i + 5)), .ref (ad (17 * i + 6)), .int (iI (G i 9)), .int (iI (G i 14)), .int (iI (G i 311)), .int (iI (G i 11))]) := rfl
theorem mc_4 (ad : Int → Nat) (C : Nat → ClassId) (G : Int → Int → Int) (i : Int) : machCell ad C G i 4 = inI C G i 5 4 := rfl
theorem mc_5 (ad : Int → Nat) (C : Nat → ClassId) (G : Int → Int → Int) (i : Int) : machCell ad C G i 5 = inI C G i 111 200 := rfl
theorem mc_6 (ad : Int → Nat) (C : Nat → ClassId) (G : Int → Int → Int) (i : Int) : machCell ad C G i 6 = .inr (3, [.ref (ad (17 * i + 7)), .ref (ad (17 * i + 8))]) := rfl
theorem mc_7 (ad : Int → Nat) (C : Nat → ClassId) (G : Int → Int → Int) (i : Int) : machCell ad C G i 7 = inI C G i 312 4 := rfl
theorem mc_8 (ad : Int → Nat) (C : Nat → ClassId) (G : Int → Int → Int) (i : Int) : machCell ad C G i 8 = inI C G i 316 4 := rfl
theorem mc_9 (ad : Int → Nat) (C : Nat → ClassId) (G : Int → Int → Int) (i : Int) {r : Int} (h : 9 ≤ r) : machCell ad C G i r = coilCell G i (15 + 12 * (r - 9)) := by
  unfold machCell
  rw [if_neg (by omega), if_neg (by omega), if_neg (by omega), if_neg (by omega), if_neg (by omega), if_neg (by omega), if_neg (by omega), if_neg (by omega), if_neg (by omega)]
theorem machCell_congr {ad : Int → Nat} {C : Nat → ClassId} {G G1 : Int → Int → Int} {i r : Int} (hr : 0 ≤ r ∧ r < 17) (h : ∀ y, ownM i y = 17 * i + r → G1 i y = G i y) : machCell ad C G1 i r = machCell ad C G i r := by
  have hc : r = 0 ∨ r = 1 ∨ r = 2 ∨ r = 3 ∨ r = 4 ∨ r = 5 ∨ r = 6 ∨ r = 7 ∨ r = 8 ∨ 9 ≤ r := by omega
  rcases hc with rfl | rfl | rfl | rfl | rfl | rfl | rfl | rfl | rfl | hc
  · rw [mc_0, mc_0, h 13 (by unfold ownM; (repeat' split) <;> omega), h 10 (by unfold ownM; (repeat' split) <;> omega), h 12 (by unfold ownM; (repeat' split) <;> omega)]
  · rfl
  · exact inI_congr (fun j h0 h1 => h _ (by unfold ownM; (repeat' split) <;> omega))
  · rw [mc_3, mc_3, h 9 (by unfold ownM; (repeat' split) <;> omega), h 14 (by unfold ownM; (repeat' split) <;> omega), h 311 (by unfold ownM; (repeat' split) <;> omega), h 11 (by unfold ownM; (repeat' split) <;> omega)]
  · exact inI_congr (fun j h0 h1 => h _ (by unfold ownM; (repeat' split) <;> omega))
  · exact inI_congr (fun j h0 h1 => h _ (by unfold ownM; (repeat' split) <;> omega))
  · rfl
  · exact inI_congr (fun j h0 h1 => h _ (by unfold ownM; (repeat' split) <;> omega))
  · exact inI_congr (fun j h0 h1 => h _ (by unfold ownM; (repeat' split) <;> omega))
  · rw [mc_9 _ _ _ _ hc, mc_9 _ _ _ _ hc]
    have e : ∀ f : Int, 0 ≤ f → f < 12 → G1 i (15 + 12 * (r - 9) + f) = G i (15 + 12 * (r - 9) + f) := fun f h0 h1 => h _ (by unfold ownM; (repeat' split) <;> omega)
    have e0 := e 0 (by omega) (by omega)
    rw [Int.add_zero] at e0
    simp only [coilCell, e0, e 1 (by omega) (by omega), e 2 (by omega) (by omega), e 3 (by omega) (by omega), e 4 (by omega) (by omega), e 5 (by omega) (by omega), e 6 (by omega) (by omega), e 7 (by omega) (by omega), e 8 (by omega) (by omega), e 9 (by omega) (by omega), e 10 (by omega) (by omega), e 11 (by omega) (by omega)]
theorem cell_102 (ad : Int → Nat) (C : Nat → ClassId) (G : Int → Int → Int) : cellOf ad C G 102 = .inr (5, [.ref (ad 0), .ref (ad 17), .ref (ad 103), .int (iI (G 6 0)), .ref (ad 104), .ref (ad 107)]) := rfl
theorem cell_103 (ad : Int → Nat) (C : Nat → ClassId) (G : Int → Int → Int) : cellOf ad C G 103 = .inl (C 3, 4, .inr (.inr (.inr (.inr (rowR ad (fun j => 17 * G 6 (10 + j)) 4))))) := rfl
theorem cell_104 (ad : Int → Nat) (C : Nat → ClassId) (G : Int → Int → Int) : cellOf ad C G 104 = .inr (2, [.ref (ad 105), .int (iI (G 7 1)), .int (iI (G 7 2)), .int (iI (G 7 3)), .int (iI (G 7 4)), .ref (ad 106), .int (iI (G 7 6)), .int (iI (G 7 7))]) := rfl
theorem cell_105 (ad : Int → Nat) (C : Nat → ClassId) (G : Int → Int → Int) : cellOf ad C G 105 = inI C G 8 0 100 := rfl
theorem cell_106 (ad : Int → Nat) (C : Nat → ClassId) (G : Int → Int → Int) : cellOf ad C G 106 = inI C G 9 0 4 := rfl
theorem cell_107 (ad : Int → Nat) (C : Nat → ClassId) (G : Int → Int → Int) : cellOf ad C G 107 = inI C G 10 0 4 := rfl
theorem cell_108 (ad : Int → Nat) (C : Nat → ClassId) (G : Int → Int → Int) : cellOf ad C G 108 = .inr (6, [.ref (ad 109), .ref (ad 110), .ref (ad 111), .ref (ad 112), .int (iI (G 11 4)), .ref (ad 113), .int (iI (G 11 6)), .int (iI (G 11 7)), .int (iI (G 11 8)), .ref (ad 114), .ref (ad 115), .ref (ad 116), .ref (ad 117), .int (iI (G 11 13)), .int (iI (G 11 14)), .int (iI (G 11 15)), .int (iI (G 11 16)), .int (iI (G 11 17)), .long (iL (G 11 18))]) := rfl
theorem cell_109 (ad : Int → Nat) (C : Nat → ClassId) (G : Int → Int → Int) : cellOf ad C G 109 = inI C G 12 0 311 := rfl
theorem cell_110 (ad : Int → Nat) (C : Nat → ClassId) (G : Int → Int → Int) : cellOf ad C G 110 = inI C G 13 0 311 := rfl
theorem cell_111 (ad : Int → Nat) (C : Nat → ClassId) (G : Int → Int → Int) : cellOf ad C G 111 = inI C G 14 0 311 := rfl
theorem cell_112 (ad : Int → Nat) (C : Nat → ClassId) (G : Int → Int → Int) : cellOf ad C G 112 = inI C G 15 0 1244 := rfl
theorem cell_113 (ad : Int → Nat) (C : Nat → ClassId) (G : Int → Int → Int) : cellOf ad C G 113 = inI C G 16 0 100 := rfl
theorem cell_114 (ad : Int → Nat) (C : Nat → ClassId) (G : Int → Int → Int) : cellOf ad C G 114 = inI C G 17 0 4 := rfl
theorem cell_115 (ad : Int → Nat) (C : Nat → ClassId) (G : Int → Int → Int) : cellOf ad C G 115 = inI C G 18 0 4 := rfl
theorem cell_116 (ad : Int → Nat) (C : Nat → ClassId) (G : Int → Int → Int) : cellOf ad C G 116 = .inl (C 1, 401, .inl (rowI G 19 0 401)) := rfl
theorem cell_117 (ad : Int → Nat) (C : Nat → ClassId) (G : Int → Int → Int) : cellOf ad C G 117 = inI C G 20 0 311 := rfl
theorem cell_118 (ad : Int → Nat) (C : Nat → ClassId) (G : Int → Int → Int) : cellOf ad C G 118 = .inl (C 4, 1, .inr (.inl (rowL G 21 0 1))) := rfl
theorem cell_119 (ad : Int → Nat) (C : Nat → ClassId) (G : Int → Int → Int) : cellOf ad C G 119 = .inl (C 5, 1, .inr (.inr (.inr (.inl (rowD G 22 0 1))))) := rfl
theorem cell_mach (ad : Int → Nat) (C : Nat → ClassId) (G : Int → Int → Int) {i : Int} (h : 0 ≤ i ∧ i < 6) : cellOf ad C G (17 * i) = .inr (1, [.ref (ad (17 * i + 1)), .ref (ad (17 * i + 2)), .ref (ad (17 * i + 3)), .int (iI (G i 13)), .int (iI (G i 10)), .int (iI (G i 12))]) := by
  have e1 : (17 * i) / 17 = i := by omega
  have e2 : (17 * i) % 17 = 0 := by omega
  unfold cellOf
  rw [if_pos (by omega), e1, e2]
  rfl
theorem cell_coils (ad : Int → Nat) (C : Nat → ClassId) (G : Int → Int → Int) {i : Int} (h : 0 ≤ i ∧ i < 6) : cellOf ad C G (17 * i + 1) = .inl (C 2, 8, .inr (.inr (.inr (.inr (rowR ad (fun j => 17 * i + 9 + j) 8))))) := by
  have e1 : (17 * i + 1) / 17 = i := by omega
  have e2 : (17 * i + 1) % 17 = 1 := by omega
  unfold cellOf
  rw [if_pos (by omega), e1, e2]
  rfl
theorem cell_sets (ad : Int → Nat) (C : Nat → ClassId) (G : Int → Int → Int) {i : Int} (h : 0 ≤ i ∧ i < 6) : cellOf ad C G (17 * i + 2) = inI C G i 0 5 := by
  have e1 : (17 * i + 2) / 17 = i := by omega
  have e2 : (17 * i + 2) % 17 = 2 := by omega
  unfold cellOf
  rw [if_pos (by omega), e1, e2]
  rfl
theorem cell_till (ad : Int → Nat) (C : Nat → ClassId) (G : Int → Int → Int) {i : Int} (h : 0 ≤ i ∧ i < 6) : cellOf ad C G (17 * i + 3) = .inr (4, [.ref (ad (17 * i + 4)), .ref (ad (17 * i + 5)), .ref (ad (17 * i + 6)), .int (iI (G i 9)), .int (iI (G i 14)), .int (iI (G i 311)), .int (iI (G i 11))]) := by
  have e1 : (17 * i + 3) / 17 = i := by omega
  have e2 : (17 * i + 3) % 17 = 3 := by omega
  unfold cellOf
  rw [if_pos (by omega), e1, e2]
  rfl
theorem cell_tubes (ad : Int → Nat) (C : Nat → ClassId) (G : Int → Int → Int) {i : Int} (h : 0 ≤ i ∧ i < 6) : cellOf ad C G (17 * i + 4) = inI C G i 5 4 := by
  have e1 : (17 * i + 4) / 17 = i := by omega
  have e2 : (17 * i + 4) % 17 = 4 := by omega
  unfold cellOf
  rw [if_pos (by omega), e1, e2]
  rfl
theorem cell_prom (ad : Int → Nat) (C : Nat → ClassId) (G : Int → Int → Int) {i : Int} (h : 0 ≤ i ∧ i < 6) : cellOf ad C G (17 * i + 5) = inI C G i 111 200 := by
  have e1 : (17 * i + 5) / 17 = i := by omega
  have e2 : (17 * i + 5) % 17 = 5 := by omega
  unfold cellOf
  rw [if_pos (by omega), e1, e2]
  rfl
theorem cell_pay (ad : Int → Nat) (C : Nat → ClassId) (G : Int → Int → Int) {i : Int} (h : 0 ≤ i ∧ i < 6) : cellOf ad C G (17 * i + 6) = .inr (3, [.ref (ad (17 * i + 7)), .ref (ad (17 * i + 8))]) := by
  have e1 : (17 * i + 6) / 17 = i := by omega
  have e2 : (17 * i + 6) % 17 = 6 := by omega
  unfold cellOf
  rw [if_pos (by omega), e1, e2]
  rfl
theorem cell_held (ad : Int → Nat) (C : Nat → ClassId) (G : Int → Int → Int) {i : Int} (h : 0 ≤ i ∧ i < 6) : cellOf ad C G (17 * i + 7) = inI C G i 312 4 := by
  have e1 : (17 * i + 7) / 17 = i := by omega
  have e2 : (17 * i + 7) % 17 = 7 := by omega
  unfold cellOf
  rw [if_pos (by omega), e1, e2]
  rfl
theorem cell_taken (ad : Int → Nat) (C : Nat → ClassId) (G : Int → Int → Int) {i : Int} (h : 0 ≤ i ∧ i < 6) : cellOf ad C G (17 * i + 8) = inI C G i 316 4 := by
  have e1 : (17 * i + 8) / 17 = i := by omega
  have e2 : (17 * i + 8) % 17 = 8 := by omega
  unfold cellOf
  rw [if_pos (by omega), e1, e2]
  rfl
theorem cell_coil (ad : Int → Nat) (C : Nat → ClassId) (G : Int → Int → Int) {i c : Int} (h : 0 ≤ i ∧ i < 6) (hc : 0 ≤ c ∧ c < 8) : cellOf ad C G (17 * i + 9 + c) = coilCell G i (15 + 12 * c) := by
  have e1 : (17 * i + 9 + c) / 17 = i := by omega
  have e2 : (17 * i + 9 + c) % 17 = 9 + c := by omega
  unfold cellOf
  rw [if_pos (by omega), e1, e2, mc_9 _ _ _ _ (by omega), show (9 : Int) + c - 9 = c by omega]
theorem cellOf_congr {ad : Int → Nat} {C : Nat → ClassId} {G G1 : Int → Int → Int} {k : Int} (hk : 0 ≤ k ∧ k < 120) (h : ∀ x y, ownr x y = k → G1 x y = G x y) : cellOf ad C G1 k = cellOf ad C G k := by
  by_cases h1 : k < 102
  · unfold cellOf
    rw [if_pos h1, if_pos h1]
    refine machCell_congr (by omega) (fun y hy => h _ _ ?_)
    unfold ownr
    rw [if_pos (by omega), hy]
    omega
  · have hc : k = 102 ∨ k = 103 ∨ k = 104 ∨ k = 105 ∨ k = 106 ∨ k = 107 ∨ k = 108 ∨ k = 109 ∨ k = 110 ∨ k = 111 ∨ k = 112 ∨ k = 113 ∨ k = 114 ∨ k = 115 ∨ k = 116 ∨ k = 117 ∨ k = 118 ∨ k = 119 := by omega
    rcases hc with rfl | rfl | rfl | rfl | rfl | rfl | rfl | rfl | rfl | rfl | rfl | rfl | rfl | rfl | rfl | rfl | rfl | rfl
    · rw [cell_102, cell_102, h 6 0 rfl]
    · rw [cell_103, cell_103]
      have e : rowR ad (fun j => 17 * G1 6 (10 + j)) 4 = rowR ad (fun j => 17 * G 6 (10 + j)) 4 := by
        funext j
        by_cases hj : j < 4
        · simp only [rowR, hj, if_true]
          rw [h 6 (10 + (j : Int)) (by unfold ownr; rw [if_neg (by omega), if_pos rfl, if_neg (by omega)])]
        · simp only [rowR, hj, if_false]
      rw [e]
    · rw [cell_104, cell_104, h 7 1 rfl, h 7 2 rfl, h 7 3 rfl, h 7 4 rfl, h 7 6 rfl, h 7 7 rfl]
    · exact inI_congr (fun j h0 h1 => h _ _ rfl)
    · exact inI_congr (fun j h0 h1 => h _ _ rfl)
    · exact inI_congr (fun j h0 h1 => h _ _ rfl)
    · rw [cell_108, cell_108, h 11 4 rfl, h 11 6 rfl, h 11 7 rfl, h 11 8 rfl, h 11 13 rfl, h 11 14 rfl, h 11 15 rfl, h 11 16 rfl, h 11 17 rfl, h 11 18 rfl]
    · exact inI_congr (fun j h0 h1 => h _ _ rfl)
    · exact inI_congr (fun j h0 h1 => h _ _ rfl)
    · exact inI_congr (fun j h0 h1 => h _ _ rfl)
    · exact inI_congr (fun j h0 h1 => h _ _ rfl)
    · exact inI_congr (fun j h0 h1 => h _ _ rfl)
    · exact inI_congr (fun j h0 h1 => h _ _ rfl)
    · exact inI_congr (fun j h0 h1 => h _ _ rfl)
    · rw [cell_116, cell_116, rowI_congr (fun j h0 h1 => h _ _ rfl)]
    · exact inI_congr (fun j h0 h1 => h _ _ rfl)
    · rw [cell_118, cell_118]
      have e : rowL G1 21 0 1 = rowL G 21 0 1 := by
        funext j
        simp only [rowL]
        rw [h 21 (0 + (j : Int)) rfl]
      rw [e]
    · rw [cell_119, cell_119]
      have e : rowD G1 22 0 1 = rowD G 22 0 1 := by
        funext j
        simp only [rowD]
        rw [h 22 (0 + (j : Int)) rfl]
      rw [e]
/-- a cell is written: what G says elsewhere stays -/
theorem cw_set {ad : Int → Nat} {C : Nat → ClassId} {G G1 : Int → Int → Int} {k : Int} {x : va_E} (hk : 0 ≤ k ∧ k < 120) (hx : cellOf ad C G1 k = x) (h : ∀ a b, ownr a b ≠ k → G1 a b = G a b) : (cw ad C G).set k.toNat (ad k, x) = cw ad C G1 := by
  apply List.ext_getElem?
  intro j
  by_cases hj : j = k.toNat
  · subst hj
    rw [List.getElem?_set_self (by simp [cw]; omega), cw_get hk, hx]
  · rw [List.getElem?_set_ne (fun e => hj e.symm)]
    by_cases h2 : j < 120
    · have e1 := cw_get (ad := ad) (C := C) (G := G) (k := (j : Int)) (by omega)
      have e2 := cw_get (ad := ad) (C := C) (G := G1) (k := (j : Int)) (by omega)
      rw [show ((j : Int)).toNat = j by omega] at e1 e2
      rw [e1, e2, cellOf_congr (by omega) (fun a b hab => h a b (fun e => hj (by omega)))]
    · have z1 : (cw ad C G)[j]? = none := by simp [cw]; omega
      have z2 : (cw ad C G1)[j]? = none := by simp [cw]; omega
      rw [z1, z2]
theorem rowI_get {G : Int → Int → Int} {pg b : Int} {n : Nat} {e : Int} (h : 0 ≤ e ∧ e < n) : rowI G pg b n e.toNat = iI (G pg (b + e)) := by
  have h1 : e.toNat < n := by omega
  have h2 : ((e.toNat : Nat) : Int) = e := by omega
  simp [rowI, h1, h2]
theorem rowI_upd {G : Int → Int → Int} {pg b : Int} {n : Nat} {e x : Int} (h : 0 ≤ e ∧ e < n) : upd (rowI G pg b n) e.toNat (iI x) = rowI (setG G pg (b + e) x) pg b n := by
  funext j
  by_cases hj : j = e.toNat
  · subst hj
    rw [rowI_get h, setG_same]
    simp [upd]
  · have h3 : ¬ (b + (j : Int) = b + e) := by omega
    simp only [upd, if_neg hj, rowI, setG]
    by_cases h4 : j < n
    · simp only [h4, if_true]
      rw [if_neg (fun q => h3 q.2)]
    · simp only [h4, if_false]
theorem rowL_upd {G : Int → Int → Int} {pg b : Int} {n : Nat} {e x : Int} (h : 0 ≤ e ∧ e < n) : vp_updL (rowL G pg b n) e.toNat (iL x) = rowL (setG G pg (b + e) x) pg b n := by
  funext j
  by_cases hj : j = e.toNat
  · subst hj
    have h1 : e.toNat < n := by omega
    have h2 : ((e.toNat : Nat) : Int) = e := by omega
    simp [rowL, vp_updL, h1, h2, setG]
  · have h3 : ¬ (b + (j : Int) = b + e) := by omega
    simp only [vp_updL, if_neg hj, rowL, setG]
    by_cases h4 : j < n
    · simp only [h4, if_true]
      rw [if_neg (fun q => h3 q.2)]
    · simp only [h4, if_false]
theorem rowD_upd {G : Int → Int → Int} {pg b : Int} {n : Nat} {e x : Int} (h : 0 ≤ e ∧ e < n) : vf_upd (rowD G pg b n) e.toNat (dB x) = rowD (setG G pg (b + e) x) pg b n := by
  funext j
  by_cases hj : j = e.toNat
  · subst hj
    have h1 : e.toNat < n := by omega
    have h2 : ((e.toNat : Nat) : Int) = e := by omega
    simp [rowD, vf_upd, h1, h2, setG]
  · have h3 : ¬ (b + (j : Int) = b + e) := by omega
    simp only [vf_upd, if_neg hj, rowD, setG]
    by_cases h4 : j < n
    · simp only [h4, if_true]
      rw [if_neg (fun q => h3 q.2)]
    · simp only [h4, if_false]
/-- a part of a page is copied -/
def cpG (G : Int → Int → Int) (p1 d1 n p0 d0 : Int) : Int → Int → Int := fun x y => if x = p1 ∧ d1 ≤ y ∧ y < d1 + n then G p0 (d0 + (y - d1)) else G x y
theorem rowI_cpy {G : Int → Int → Int} {p0 b0 p1 b1 sp dp n : Int} {n0 n1 : Nat} (h : 0 ≤ sp ∧ 0 ≤ dp ∧ 0 ≤ n ∧ sp + n ≤ n0 ∧ dp + n ≤ n1) : va_cpy (rowI G p0 b0 n0) (rowI G p1 b1 n1) sp.toNat dp.toNat n.toNat = rowI (cpG G p1 (b1 + dp) n p0 (b0 + sp)) p1 b1 n1 := by
  funext j
  by_cases hj : dp.toNat ≤ j ∧ j < dp.toNat + n.toNat
  · have e1 : j < n1 := by omega
    have e2 : sp.toNat + (j - dp.toNat) < n0 := by omega
    have e3 : b1 + dp ≤ b1 + (j : Int) ∧ b1 + (j : Int) < b1 + dp + n := by omega
    have e4 : b0 + ((sp.toNat + (j - dp.toNat) : Nat) : Int) = b0 + sp + (b1 + (j : Int) - (b1 + dp)) := by omega
    rw [va_cpy, if_pos hj]
    simp only [rowI, e1, e2, if_true, cpG]
    rw [if_pos ⟨trivial, e3⟩, e4]
  · rw [va_cpy, if_neg hj]
    simp only [rowI, cpG]
    by_cases h4 : j < n1
    · simp only [h4, if_true]
      rw [if_neg (fun q => hj ⟨by omega, by omega⟩)]
    · simp only [h4, if_false]
end
section
abbrev tyC (C : Nat → ClassId) : List (ClassId × FieldType) := [(C 0, .int), (C 1, .boolean), (C 2, .object "CoilPrices$Coil"), (C 3, .object "CoilPrices$Machine"), (C 4, .long), (C 5, .double)]
theorem gX0 : ∀ w ∈ u_ws RX0 TX0 12, w ∈ gt := by decide +kernel
theorem gX1 : ∀ w ∈ u_ws RX1 TX1 6, w ∈ gt := by decide +kernel
theorem gX2 : ∀ w ∈ u_ws RX2 TX2 8, w ∈ gt := by decide +kernel
theorem gX3 : ∀ w ∈ u_ws RX3 TX3 2, w ∈ gt := by decide +kernel
theorem gX4 : ∀ w ∈ u_ws RX4 TX4 7, w ∈ gt := by decide +kernel
theorem gX5 : ∀ w ∈ u_ws RX5 TX5 6, w ∈ gt := by decide +kernel
theorem gX6 : ∀ w ∈ u_ws RX6 TX6 19, w ∈ gt := by decide +kernel
def isArr (ad : Int → Nat) (C : Nat → ClassId) (id pg b : Int) (N : Nat) : Prop := (∀ G, cellOf ad C G id = inI C G pg b N) ∧ (∀ e : Int, 0 ≤ e → e < N → ownr pg (b + e) = id) ∧ 0 ≤ id ∧ id < 120
theorem ar_sets (ad : Int → Nat) (C : Nat → ClassId) {i : Int} (h : 0 ≤ i ∧ i < 6) : isArr ad C (17 * i + 2) i 0 5 := ⟨fun G => cell_sets ad C G h, fun e h0 h1 => (by unfold ownr; rw [if_pos (by omega)]; unfold ownM; (repeat' split) <;> omega), by omega, by omega⟩
theorem ar_tubes (ad : Int → Nat) (C : Nat → ClassId) {i : Int} (h : 0 ≤ i ∧ i < 6) : isArr ad C (17 * i + 4) i 5 4 := ⟨fun G => cell_tubes ad C G h, fun e h0 h1 => (by unfold ownr; rw [if_pos (by omega)]; unfold ownM; (repeat' split) <;> omega), by omega, by omega⟩
theorem ar_prom (ad : Int → Nat) (C : Nat → ClassId) {i : Int} (h : 0 ≤ i ∧ i < 6) : isArr ad C (17 * i + 5) i 111 200 := ⟨fun G => cell_prom ad C G h, fun e h0 h1 => (by unfold ownr; rw [if_pos (by omega)]; unfold ownM; (repeat' split) <;> omega), by omega, by omega⟩
theorem ar_held (ad : Int → Nat) (C : Nat → ClassId) {i : Int} (h : 0 ≤ i ∧ i < 6) : isArr ad C (17 * i + 7) i 312 4 := ⟨fun G => cell_held ad C G h, fun e h0 h1 => (by unfold ownr; rw [if_pos (by omega)]; unfold ownM; (repeat' split) <;> omega), by omega, by omega⟩
theorem ar_taken (ad : Int → Nat) (C : Nat → ClassId) {i : Int} (h : 0 ≤ i ∧ i < 6) : isArr ad C (17 * i + 8) i 316 4 := ⟨fun G => cell_taken ad C G h, fun e h0 h1 => (by unfold ownr; rw [if_pos (by omega)]; unfold ownM; (repeat' split) <;> omega), by omega, by omega⟩
theorem ar_105 (ad : Int → Nat) (C : Nat → ClassId) : isArr ad C 105 8 0 100 := ⟨fun G => cell_105 ad C G, fun e h0 h1 => rfl, by omega, by omega⟩
theorem ar_106 (ad : Int → Nat) (C : Nat → ClassId) : isArr ad C 106 9 0 4 := ⟨fun G => cell_106 ad C G, fun e h0 h1 => rfl, by omega, by omega⟩
theorem ar_107 (ad : Int → Nat) (C : Nat → ClassId) : isArr ad C 107 10 0 4 := ⟨fun G => cell_107 ad C G, fun e h0 h1 => rfl, by omega, by omega⟩
theorem ar_109 (ad : Int → Nat) (C : Nat → ClassId) : isArr ad C 109 12 0 311 := ⟨fun G => cell_109 ad C G, fun e h0 h1 => rfl, by omega, by omega⟩
theorem ar_110 (ad : Int → Nat) (C : Nat → ClassId) : isArr ad C 110 13 0 311 := ⟨fun G => cell_110 ad C G, fun e h0 h1 => rfl, by omega, by omega⟩
theorem ar_111 (ad : Int → Nat) (C : Nat → ClassId) : isArr ad C 111 14 0 311 := ⟨fun G => cell_111 ad C G, fun e h0 h1 => rfl, by omega, by omega⟩
theorem ar_112 (ad : Int → Nat) (C : Nat → ClassId) : isArr ad C 112 15 0 1244 := ⟨fun G => cell_112 ad C G, fun e h0 h1 => rfl, by omega, by omega⟩
theorem ar_113 (ad : Int → Nat) (C : Nat → ClassId) : isArr ad C 113 16 0 100 := ⟨fun G => cell_113 ad C G, fun e h0 h1 => rfl, by omega, by omega⟩
theorem ar_114 (ad : Int → Nat) (C : Nat → ClassId) : isArr ad C 114 17 0 4 := ⟨fun G => cell_114 ad C G, fun e h0 h1 => rfl, by omega, by omega⟩
theorem ar_115 (ad : Int → Nat) (C : Nat → ClassId) : isArr ad C 115 18 0 4 := ⟨fun G => cell_115 ad C G, fun e h0 h1 => rfl, by omega, by omega⟩
theorem ar_117 (ad : Int → Nat) (C : Nat → ClassId) : isArr ad C 117 20 0 311 := ⟨fun G => cell_117 ad C G, fun e h0 h1 => rfl, by omega, by omega⟩
section RWK
variable {l : Launch} {own nm : String} {cc : ByteArray} {nL : Nat} {ret : Option FieldType} {X : Code → Prop} {R : Room} {E : List Frame → Array Value → State → State → Prop} {D : va_G} {C : Nat → ClassId} {Z : State → Prop} {w0 : va_W} {pc q : Nat} {lv : List (Nat × Value)} {st : List Value} {k n : Nat} {ad : Int → Nat} {G : Int → Int → Int}
theorem aw_cial {id pg b e v : Int} {N : Nat} (x : Int) (h : isArr ad C id pg b N) (he : 0 ≤ e ∧ e < N ∧ N ≤ 2000) (hx : b + e = x) (hv : G pg x = v) (d : decode cc pc = .ok (.iaload, 1)) (hq : pc + 1 = q)
    (kk : AW l own nm cc nL ret X R E D (tyC C) Z w0 q lv (.int (iI v) :: st) (cw ad C G) k n) : AW l own nm cc nL ret X R E D (tyC C) Z w0 pc lv (.int (iI e) :: .ref (ad id) :: st) (cw ad C G) k n := by
  refine aw_iald id.toNat 0 (by rw [cw_get h.2.2, h.1]; rfl) rfl (iI_in ⟨he.1, he.2.1⟩ (by omega)) d hq ?_
  rw [iI_nat (by omega), rowI_get ⟨he.1, he.2.1⟩, hx, hv]
  exact kk
theorem aw_cias {id pg b e v : Int} {N : Nat} (x : Int) (h : isArr ad C id pg b N) (he : 0 ≤ e ∧ e < N ∧ N ≤ 2000) (hx : b + e = x) (d : decode cc pc = .ok (.iastore, 1)) (hq : pc + 1 = q)
    (kk : AW l own nm cc nL ret X R E D (tyC C) Z w0 q lv st (cw ad C (setG G pg x v)) k n) : AW l own nm cc nL ret X R E D (tyC C) Z w0 pc lv (.int (iI v) :: .int (iI e) :: .ref (ad id) :: st) (cw ad C G) k n := by
  subst hx
  refine aw_iast id.toNat 0 (by rw [cw_get h.2.2, h.1]; rfl) rfl (iI_in ⟨he.1, he.2.1⟩ (by omega)) d hq ?_
  rw [iI_nat (by omega), rowI_upd ⟨he.1, he.2.1⟩]
  exact aw_eqW (cw_set (G1 := setG G pg (b + e) v) h.2.2 (h.1 _) (fun a c hac => setG_ne (fun z => hac (by rw [z.1, z.2]; exact h.2.1 e he.1 he.2.1)))) kk
theorem aw_calen {id pg b : Int} {N : Nat} (h : isArr ad C id pg b N) (d : decode cc pc = .ok (.arraylength, 1)) (hq : pc + 1 = q)
    (kk : AW l own nm cc nL ret X R E D (tyC C) Z w0 q lv (.int (iI N) :: st) (cw ad C G) k n) : AW l own nm cc nL ret X R E D (tyC C) Z w0 pc lv (.ref (ad id) :: st) (cw ad C G) k n := by
  refine aw_alen id.toNat 0 (by rw [cw_get h.2.2, h.1]; rfl) rfl ?_ d hq kk
  exact (Int32.ofInt_eq_ofNat (n := N)).symm
theorem aw_ccopy {id0 pg0 b0 id pg b sp dp z : Int} {N0 N : Nat} {idx : Nat} (h0 : isArr ad C id0 pg0 b0 N0) (h : isArr ad C id pg b N) (hw : Cond.methodLink own idx arraycopyName ∈ gt) (hw2 : Cond.native arraycopyName ∈ gt) (hw3 : Cond.static arraycopyName ∈ gt) (hw4 : Cond.initialized "java/lang/System" ∈ gt) (h1 : 0 ≤ sp ∧ 0 ≤ dp ∧ 0 ≤ z ∧ sp + z ≤ N0 ∧ dp + z ≤ N) (hn : N0 ≤ 2000 ∧ N ≤ 2000) (hf : 1 ≤ R.frames) (hlo : (st.map fun v => v.category).sum + (nativeFrameWords "java/lang/System" "arraycopy" 5 + 11) ≤ R.locals) (d : decode cc pc = .ok (.invokestatic idx, 3)) (hq : pc + 3 = q)
    (kk : AW l own nm cc nL ret X R E D (tyC C) Z w0 q lv st (cw ad C (cpG G pg (b + dp) z pg0 (b0 + sp))) k n) : AW l own nm cc nL ret X R E D (tyC C) Z w0 pc lv (.int (iI z) :: .int (iI dp) :: .ref (ad id) :: .int (iI sp) :: .ref (ad id0) :: st) (cw ad C G) k n := by
  refine aw_copy id0.toNat id.toNat 0 hw hw2 hw3 hw4 (by rw [cw_get h0.2.2, h0.1]; rfl) (by rw [cw_get h.2.2, h.1]; rfl) rfl h1 (by omega) (by omega) hf hlo d hq ?_
  rw [rowI_cpy h1]
  refine aw_eqW (cw_set (G1 := cpG G pg (b + dp) z pg0 (b0 + sp)) h.2.2 (h.1 _) (fun a c hac => ?_)) kk
  · unfold cpG
    rw [if_neg (fun y => hac ?_)]
    have e1 := h.2.1 (c - b) (by omega) (by omega)
    rw [show b + (c - b) = c by omega] at e1
    rw [y.1]
    exact e1
theorem aw_cget {id : Int} {CC : String} {TT : u_T} {N ci j idx : Nat} {fs : List Value} {v : Value} (hid : 0 ≤ id ∧ id < 120) (hcell : cellOf ad C G id = .inr (ci, fs)) (hc : vwCl[ci]? = some (CC, TT, N)) (hj : j < N) (hin : ∀ w ∈ u_ws CC TT N, w ∈ gt) (ho : (TT j).1 = CC) (hw : Cond.fieldLink own idx CC (TT j).2.1 (TT j).2.2.1 ∈ gt) (hv : fs[j]? = some v) (d : decode cc pc = .ok (.getfield idx, 3)) (hq : pc + 3 = q)
    (kk : AW l own nm cc nL ret X R E D (tyC C) Z w0 q lv (v :: st) (cw ad C G) k n) : AW l own nm cc nL ret X R E D (tyC C) Z w0 pc lv (.ref (ad id) :: st) (cw ad C G) k n :=
  aw_get id.toNat hc hj hin ho (by rw [cw_get hid, hcell]) hw hv d hq kk
theorem aw_cput {id : Int} {CC : String} {TT : u_T} {N ci j idx : Nat} {fs : List Value} {v : Value} {G1 : Int → Int → Int} (hid : 0 ≤ id ∧ id < 120) (hcell : cellOf ad C G id = .inr (ci, fs)) (hc : vwCl[ci]? = some (CC, TT, N)) (hj : j < N) (hin : ∀ w ∈ u_ws CC TT N, w ∈ gt) (ho : (TT j).1 = CC) (tt : Nat → FieldType) (htt : ∀ k, k < N → parseFieldDescriptor (TT k).2.2.1 = some (tt k)) (hnn : ∀ a, a < N → ∀ b, b < N → a ≠ b → (TT a).2.1 ≠ (TT b).2.1) (hfin : (TT j).2.2.2 = false) (hn : narrow (tt j) v = v) (hfit : fits (tt j) v = true) (hl9 : j < fs.length)
    (hnew : cellOf ad C G1 id = .inr (ci, fs.set j v)) (hG : ∀ a b, ownr a b ≠ id → G1 a b = G a b) (hw : Cond.fieldLink own idx CC (TT j).2.1 (TT j).2.2.1 ∈ gt) (d : decode cc pc = .ok (.putfield idx, 3)) (hq : pc + 3 = q)
    (kk : AW l own nm cc nL ret X R E D (tyC C) Z w0 q lv st (cw ad C G1) k n) : AW l own nm cc nL ret X R E D (tyC C) Z w0 pc lv (v :: .ref (ad id) :: st) (cw ad C G) k n := by
  refine aw_put id.toNat hc hj hin ho (by rw [cw_get hid, hcell]) tt htt hnn (Or.inl hfin) hn hfit hl9 hw d hq ?_
  rw [cw_set hid hnew hG]
  exact kk
theorem setG_own {a b x id : Int} (ho : ownr a b = id) : ∀ c d, ownr c d ≠ id → setG G a b x c d = G c d := fun c d h => setG_ne (fun z => h (by rw [z.1, z.2]; exact ho))
theorem g_coil_kind {i c : Int} (hi : 0 ≤ i ∧ i < 6) (hc : 0 ≤ c ∧ c < 8) {idx : Nat} {v : Int} (hv : G i (15 + 12 * c) = v) (hw : Cond.fieldLink own idx RX0 (TX0 0).2.1 (TX0 0).2.2.1 ∈ gt) (d : decode cc pc = .ok (.getfield idx, 3)) (hq : pc + 3 = q)
    (kk : AW l own nm cc nL ret X R E D (tyC C) Z w0 q lv (.int (iI v) :: st) (cw ad C G) k n) : AW l own nm cc nL ret X R E D (tyC C) Z w0 pc lv (.ref (ad (17 * i + 9 + c)) :: st) (cw ad C G) k n := by
  subst hv
  exact aw_cget (id := 17 * i + 9 + c) (ci := 0) (TT := TX0) (j := 0) (by omega) (cell_coil ad C _ hi hc) rfl (by decide) gX0 rfl hw rfl d hq kk
theorem p_coil_kind {i c : Int} (hi : 0 ≤ i ∧ i < 6) (hc : 0 ≤ c ∧ c < 8) {idx : Nat} {v : Int} (hw : Cond.fieldLink own idx RX0 (TX0 0).2.1 (TX0 0).2.2.1 ∈ gt) (d : decode cc pc = .ok (.putfield idx, 3)) (hq : pc + 3 = q)
    (kk : AW l own nm cc nL ret X R E D (tyC C) Z w0 q lv st (cw ad C (setG G i (15 + 12 * c) v)) k n) : AW l own nm cc nL ret X R E D (tyC C) Z w0 pc lv (.int (iI v) :: .ref (ad (17 * i + 9 + c)) :: st) (cw ad C G) k n := by
  exact aw_cput (id := 17 * i + 9 + c) (ci := 0) (TT := TX0) (j := 0) (by omega) (cell_coil ad C _ hi hc) rfl (by decide) gX0 rfl tyX0 tyX0_ok nmX0 rfl rfl rfl (Nat.le_of_ble_eq_true rfl) (by rw [cell_coil ad C _ hi hc]; unfold coilCell; simp only [setG_same]; rw [setG_ne (by omega), setG_ne (by omega), setG_ne (by omega), setG_ne (by omega), setG_ne (by omega), setG_ne (by omega), setG_ne (by omega), setG_ne (by omega), setG_ne (by omega), setG_ne (by omega), setG_ne (by omega)]; rfl) (setG_own (by unfold ownr; rw [if_pos (by omega)]; unfold ownM; (repeat' split) <;> omega)) hw d hq kk
theorem g_coil_goods {i c : Int} (hi : 0 ≤ i ∧ i < 6) (hc : 0 ≤ c ∧ c < 8) {idx : Nat} {v : Int} (hv : G i (15 + 12 * c + 1) = v) (hw : Cond.fieldLink own idx RX0 (TX0 1).2.1 (TX0 1).2.2.1 ∈ gt) (d : decode cc pc = .ok (.getfield idx, 3)) (hq : pc + 3 = q)
    (kk : AW l own nm cc nL ret X R E D (tyC C) Z w0 q lv (.int (iI v) :: st) (cw ad C G) k n) : AW l own nm cc nL ret X R E D (tyC C) Z w0 pc lv (.ref (ad (17 * i + 9 + c)) :: st) (cw ad C G) k n := by
  subst hv
  exact aw_cget (id := 17 * i + 9 + c) (ci := 0) (TT := TX0) (j := 1) (by omega) (cell_coil ad C _ hi hc) rfl (by decide) gX0 rfl hw rfl d hq kk
theorem p_coil_goods {i c : Int} (hi : 0 ≤ i ∧ i < 6) (hc : 0 ≤ c ∧ c < 8) {idx : Nat} {v : Int} (hw : Cond.fieldLink own idx RX0 (TX0 1).2.1 (TX0 1).2.2.1 ∈ gt) (d : decode cc pc = .ok (.putfield idx, 3)) (hq : pc + 3 = q)
    (kk : AW l own nm cc nL ret X R E D (tyC C) Z w0 q lv st (cw ad C (setG G i (15 + 12 * c + 1) v)) k n) : AW l own nm cc nL ret X R E D (tyC C) Z w0 pc lv (.int (iI v) :: .ref (ad (17 * i + 9 + c)) :: st) (cw ad C G) k n := by
  exact aw_cput (id := 17 * i + 9 + c) (ci := 0) (TT := TX0) (j := 1) (by omega) (cell_coil ad C _ hi hc) rfl (by decide) gX0 rfl tyX0 tyX0_ok nmX0 rfl rfl rfl (Nat.le_of_ble_eq_true rfl) (by rw [cell_coil ad C _ hi hc]; unfold coilCell; simp only [setG_same]; rw [setG_ne (by omega), setG_ne (by omega), setG_ne (by omega), setG_ne (by omega), setG_ne (by omega), setG_ne (by omega), setG_ne (by omega), setG_ne (by omega), setG_ne (by omega), setG_ne (by omega), setG_ne (by omega)]; rfl) (setG_own (by unfold ownr; rw [if_pos (by omega)]; unfold ownM; (repeat' split) <;> omega)) hw d hq kk
theorem g_coil_price {i c : Int} (hi : 0 ≤ i ∧ i < 6) (hc : 0 ≤ c ∧ c < 8) {idx : Nat} {v : Int} (hv : G i (15 + 12 * c + 2) = v) (hw : Cond.fieldLink own idx RX0 (TX0 2).2.1 (TX0 2).2.2.1 ∈ gt) (d : decode cc pc = .ok (.getfield idx, 3)) (hq : pc + 3 = q)
    (kk : AW l own nm cc nL ret X R E D (tyC C) Z w0 q lv (.int (iI v) :: st) (cw ad C G) k n) : AW l own nm cc nL ret X R E D (tyC C) Z w0 pc lv (.ref (ad (17 * i + 9 + c)) :: st) (cw ad C G) k n := by
  subst hv
  exact aw_cget (id := 17 * i + 9 + c) (ci := 0) (TT := TX0) (j := 2) (by omega) (cell_coil ad C _ hi hc) rfl (by decide) gX0 rfl hw rfl d hq kk
theorem p_coil_price {i c : Int} (hi : 0 ≤ i ∧ i < 6) (hc : 0 ≤ c ∧ c < 8) {idx : Nat} {v : Int} (hw : Cond.fieldLink own idx RX0 (TX0 2).2.1 (TX0 2).2.2.1 ∈ gt) (d : decode cc pc = .ok (.putfield idx, 3)) (hq : pc + 3 = q)
    (kk : AW l own nm cc nL ret X R E D (tyC C) Z w0 q lv st (cw ad C (setG G i (15 + 12 * c + 2) v)) k n) : AW l own nm cc nL ret X R E D (tyC C) Z w0 pc lv (.int (iI v) :: .ref (ad (17 * i + 9 + c)) :: st) (cw ad C G) k n := by
  exact aw_cput (id := 17 * i + 9 + c) (ci := 0) (TT := TX0) (j := 2) (by omega) (cell_coil ad C _ hi hc) rfl (by decide) gX0 rfl tyX0 tyX0_ok nmX0 rfl rfl rfl (Nat.le_of_ble_eq_true rfl) (by rw [cell_coil ad C _ hi hc]; unfold coilCell; simp only [setG_same]; rw [setG_ne (by omega), setG_ne (by omega), setG_ne (by omega), setG_ne (by omega), setG_ne (by omega), setG_ne (by omega), setG_ne (by omega), setG_ne (by omega), setG_ne (by omega), setG_ne (by omega), setG_ne (by omega)]; rfl) (setG_own (by unfold ownr; rw [if_pos (by omega)]; unfold ownM; (repeat' split) <;> omega)) hw d hq kk
theorem g_coil_lowest {i c : Int} (hi : 0 ≤ i ∧ i < 6) (hc : 0 ≤ c ∧ c < 8) {idx : Nat} {v : Int} (hv : G i (15 + 12 * c + 3) = v) (hw : Cond.fieldLink own idx RX0 (TX0 3).2.1 (TX0 3).2.2.1 ∈ gt) (d : decode cc pc = .ok (.getfield idx, 3)) (hq : pc + 3 = q)
    (kk : AW l own nm cc nL ret X R E D (tyC C) Z w0 q lv (.int (iI v) :: st) (cw ad C G) k n) : AW l own nm cc nL ret X R E D (tyC C) Z w0 pc lv (.ref (ad (17 * i + 9 + c)) :: st) (cw ad C G) k n := by
  subst hv
  exact aw_cget (id := 17 * i + 9 + c) (ci := 0) (TT := TX0) (j := 3) (by omega) (cell_coil ad C _ hi hc) rfl (by decide) gX0 rfl hw rfl d hq kk
theorem p_coil_lowest {i c : Int} (hi : 0 ≤ i ∧ i < 6) (hc : 0 ≤ c ∧ c < 8) {idx : Nat} {v : Int} (hw : Cond.fieldLink own idx RX0 (TX0 3).2.1 (TX0 3).2.2.1 ∈ gt) (d : decode cc pc = .ok (.putfield idx, 3)) (hq : pc + 3 = q)
    (kk : AW l own nm cc nL ret X R E D (tyC C) Z w0 q lv st (cw ad C (setG G i (15 + 12 * c + 3) v)) k n) : AW l own nm cc nL ret X R E D (tyC C) Z w0 pc lv (.int (iI v) :: .ref (ad (17 * i + 9 + c)) :: st) (cw ad C G) k n := by
  exact aw_cput (id := 17 * i + 9 + c) (ci := 0) (TT := TX0) (j := 3) (by omega) (cell_coil ad C _ hi hc) rfl (by decide) gX0 rfl tyX0 tyX0_ok nmX0 rfl rfl rfl (Nat.le_of_ble_eq_true rfl) (by rw [cell_coil ad C _ hi hc]; unfold coilCell; simp only [setG_same]; rw [setG_ne (by omega), setG_ne (by omega), setG_ne (by omega), setG_ne (by omega), setG_ne (by omega), setG_ne (by omega), setG_ne (by omega), setG_ne (by omega), setG_ne (by omega), setG_ne (by omega), setG_ne (by omega)]; rfl) (setG_own (by unfold ownr; rw [if_pos (by omega)]; unfold ownM; (repeat' split) <;> omega)) hw d hq kk
theorem g_coil_highest {i c : Int} (hi : 0 ≤ i ∧ i < 6) (hc : 0 ≤ c ∧ c < 8) {idx : Nat} {v : Int} (hv : G i (15 + 12 * c + 4) = v) (hw : Cond.fieldLink own idx RX0 (TX0 4).2.1 (TX0 4).2.2.1 ∈ gt) (d : decode cc pc = .ok (.getfield idx, 3)) (hq : pc + 3 = q)
    (kk : AW l own nm cc nL ret X R E D (tyC C) Z w0 q lv (.int (iI v) :: st) (cw ad C G) k n) : AW l own nm cc nL ret X R E D (tyC C) Z w0 pc lv (.ref (ad (17 * i + 9 + c)) :: st) (cw ad C G) k n := by
  subst hv
  exact aw_cget (id := 17 * i + 9 + c) (ci := 0) (TT := TX0) (j := 4) (by omega) (cell_coil ad C _ hi hc) rfl (by decide) gX0 rfl hw rfl d hq kk
theorem p_coil_highest {i c : Int} (hi : 0 ≤ i ∧ i < 6) (hc : 0 ≤ c ∧ c < 8) {idx : Nat} {v : Int} (hw : Cond.fieldLink own idx RX0 (TX0 4).2.1 (TX0 4).2.2.1 ∈ gt) (d : decode cc pc = .ok (.putfield idx, 3)) (hq : pc + 3 = q)
    (kk : AW l own nm cc nL ret X R E D (tyC C) Z w0 q lv st (cw ad C (setG G i (15 + 12 * c + 4) v)) k n) : AW l own nm cc nL ret X R E D (tyC C) Z w0 pc lv (.int (iI v) :: .ref (ad (17 * i + 9 + c)) :: st) (cw ad C G) k n := by
  exact aw_cput (id := 17 * i + 9 + c) (ci := 0) (TT := TX0) (j := 4) (by omega) (cell_coil ad C _ hi hc) rfl (by decide) gX0 rfl tyX0 tyX0_ok nmX0 rfl rfl rfl (Nat.le_of_ble_eq_true rfl) (by rw [cell_coil ad C _ hi hc]; unfold coilCell; simp only [setG_same]; rw [setG_ne (by omega), setG_ne (by omega), setG_ne (by omega), setG_ne (by omega), setG_ne (by omega), setG_ne (by omega), setG_ne (by omega), setG_ne (by omega), setG_ne (by omega), setG_ne (by omega), setG_ne (by omega)]; rfl) (setG_own (by unfold ownr; rw [if_pos (by omega)]; unfold ownM; (repeat' split) <;> omega)) hw d hq kk
theorem g_coil_banned {i c : Int} (hi : 0 ≤ i ∧ i < 6) (hc : 0 ≤ c ∧ c < 8) {idx : Nat} {v : Int} (hv : G i (15 + 12 * c + 5) = v) (hw : Cond.fieldLink own idx RX0 (TX0 5).2.1 (TX0 5).2.2.1 ∈ gt) (d : decode cc pc = .ok (.getfield idx, 3)) (hq : pc + 3 = q)
    (kk : AW l own nm cc nL ret X R E D (tyC C) Z w0 q lv (.int (iI v) :: st) (cw ad C G) k n) : AW l own nm cc nL ret X R E D (tyC C) Z w0 pc lv (.ref (ad (17 * i + 9 + c)) :: st) (cw ad C G) k n := by
  subst hv
  exact aw_cget (id := 17 * i + 9 + c) (ci := 0) (TT := TX0) (j := 5) (by omega) (cell_coil ad C _ hi hc) rfl (by decide) gX0 rfl hw rfl d hq kk
theorem p_coil_banned {i c : Int} (hi : 0 ≤ i ∧ i < 6) (hc : 0 ≤ c ∧ c < 8) {idx : Nat} {v : Int} (hw : Cond.fieldLink own idx RX0 (TX0 5).2.1 (TX0 5).2.2.1 ∈ gt) (d : decode cc pc = .ok (.putfield idx, 3)) (hq : pc + 3 = q)
    (kk : AW l own nm cc nL ret X R E D (tyC C) Z w0 q lv st (cw ad C (setG G i (15 + 12 * c + 5) v)) k n) : AW l own nm cc nL ret X R E D (tyC C) Z w0 pc lv (.int (iI v) :: .ref (ad (17 * i + 9 + c)) :: st) (cw ad C G) k n := by
  exact aw_cput (id := 17 * i + 9 + c) (ci := 0) (TT := TX0) (j := 5) (by omega) (cell_coil ad C _ hi hc) rfl (by decide) gX0 rfl tyX0 tyX0_ok nmX0 rfl rfl rfl (Nat.le_of_ble_eq_true rfl) (by rw [cell_coil ad C _ hi hc]; unfold coilCell; simp only [setG_same]; rw [setG_ne (by omega), setG_ne (by omega), setG_ne (by omega), setG_ne (by omega), setG_ne (by omega), setG_ne (by omega), setG_ne (by omega), setG_ne (by omega), setG_ne (by omega), setG_ne (by omega), setG_ne (by omega)]; rfl) (setG_own (by unfold ownr; rw [if_pos (by omega)]; unfold ownM; (repeat' split) <;> omega)) hw d hq kk
theorem g_coil_sales {i c : Int} (hi : 0 ≤ i ∧ i < 6) (hc : 0 ≤ c ∧ c < 8) {idx : Nat} {v : Int} (hv : G i (15 + 12 * c + 6) = v) (hw : Cond.fieldLink own idx RX0 (TX0 6).2.1 (TX0 6).2.2.1 ∈ gt) (d : decode cc pc = .ok (.getfield idx, 3)) (hq : pc + 3 = q)
    (kk : AW l own nm cc nL ret X R E D (tyC C) Z w0 q lv (.int (iI v) :: st) (cw ad C G) k n) : AW l own nm cc nL ret X R E D (tyC C) Z w0 pc lv (.ref (ad (17 * i + 9 + c)) :: st) (cw ad C G) k n := by
  subst hv
  exact aw_cget (id := 17 * i + 9 + c) (ci := 0) (TT := TX0) (j := 6) (by omega) (cell_coil ad C _ hi hc) rfl (by decide) gX0 rfl hw rfl d hq kk
theorem p_coil_sales {i c : Int} (hi : 0 ≤ i ∧ i < 6) (hc : 0 ≤ c ∧ c < 8) {idx : Nat} {v : Int} (hw : Cond.fieldLink own idx RX0 (TX0 6).2.1 (TX0 6).2.2.1 ∈ gt) (d : decode cc pc = .ok (.putfield idx, 3)) (hq : pc + 3 = q)
    (kk : AW l own nm cc nL ret X R E D (tyC C) Z w0 q lv st (cw ad C (setG G i (15 + 12 * c + 6) v)) k n) : AW l own nm cc nL ret X R E D (tyC C) Z w0 pc lv (.int (iI v) :: .ref (ad (17 * i + 9 + c)) :: st) (cw ad C G) k n := by
  exact aw_cput (id := 17 * i + 9 + c) (ci := 0) (TT := TX0) (j := 6) (by omega) (cell_coil ad C _ hi hc) rfl (by decide) gX0 rfl tyX0 tyX0_ok nmX0 rfl rfl rfl (Nat.le_of_ble_eq_true rfl) (by rw [cell_coil ad C _ hi hc]; unfold coilCell; simp only [setG_same]; rw [setG_ne (by omega), setG_ne (by omega), setG_ne (by omega), setG_ne (by omega), setG_ne (by omega), setG_ne (by omega), setG_ne (by omega), setG_ne (by omega), setG_ne (by omega), setG_ne (by omega), setG_ne (by omega)]; rfl) (setG_own (by unfold ownr; rw [if_pos (by omega)]; unfold ownM; (repeat' split) <;> omega)) hw d hq kk
theorem g_coil_takings {i c : Int} (hi : 0 ≤ i ∧ i < 6) (hc : 0 ≤ c ∧ c < 8) {idx : Nat} {v : Int} (hv : G i (15 + 12 * c + 7) = v) (hw : Cond.fieldLink own idx RX0 (TX0 7).2.1 (TX0 7).2.2.1 ∈ gt) (d : decode cc pc = .ok (.getfield idx, 3)) (hq : pc + 3 = q)
    (kk : AW l own nm cc nL ret X R E D (tyC C) Z w0 q lv (.int (iI v) :: st) (cw ad C G) k n) : AW l own nm cc nL ret X R E D (tyC C) Z w0 pc lv (.ref (ad (17 * i + 9 + c)) :: st) (cw ad C G) k n := by
  subst hv
  exact aw_cget (id := 17 * i + 9 + c) (ci := 0) (TT := TX0) (j := 7) (by omega) (cell_coil ad C _ hi hc) rfl (by decide) gX0 rfl hw rfl d hq kk
theorem p_coil_takings {i c : Int} (hi : 0 ≤ i ∧ i < 6) (hc : 0 ≤ c ∧ c < 8) {idx : Nat} {v : Int} (hw : Cond.fieldLink own idx RX0 (TX0 7).2.1 (TX0 7).2.2.1 ∈ gt) (d : decode cc pc = .ok (.putfield idx, 3)) (hq : pc + 3 = q)
    (kk : AW l own nm cc nL ret X R E D (tyC C) Z w0 q lv st (cw ad C (setG G i (15 + 12 * c + 7) v)) k n) : AW l own nm cc nL ret X R E D (tyC C) Z w0 pc lv (.int (iI v) :: .ref (ad (17 * i + 9 + c)) :: st) (cw ad C G) k n := by
  exact aw_cput (id := 17 * i + 9 + c) (ci := 0) (TT := TX0) (j := 7) (by omega) (cell_coil ad C _ hi hc) rfl (by decide) gX0 rfl tyX0 tyX0_ok nmX0 rfl rfl rfl (Nat.le_of_ble_eq_true rfl) (by rw [cell_coil ad C _ hi hc]; unfold coilCell; simp only [setG_same]; rw [setG_ne (by omega), setG_ne (by omega), setG_ne (by omega), setG_ne (by omega), setG_ne (by omega), setG_ne (by omega), setG_ne (by omega), setG_ne (by omega), setG_ne (by omega), setG_ne (by omega), setG_ne (by omega)]; rfl) (setG_own (by unfold ownr; rw [if_pos (by omega)]; unfold ownM; (repeat' split) <;> omega)) hw d hq kk
theorem g_coil_raises {i c : Int} (hi : 0 ≤ i ∧ i < 6) (hc : 0 ≤ c ∧ c < 8) {idx : Nat} {v : Int} (hv : G i (15 + 12 * c + 8) = v) (hw : Cond.fieldLink own idx RX0 (TX0 8).2.1 (TX0 8).2.2.1 ∈ gt) (d : decode cc pc = .ok (.getfield idx, 3)) (hq : pc + 3 = q)
    (kk : AW l own nm cc nL ret X R E D (tyC C) Z w0 q lv (.int (iI v) :: st) (cw ad C G) k n) : AW l own nm cc nL ret X R E D (tyC C) Z w0 pc lv (.ref (ad (17 * i + 9 + c)) :: st) (cw ad C G) k n := by
  subst hv
  exact aw_cget (id := 17 * i + 9 + c) (ci := 0) (TT := TX0) (j := 8) (by omega) (cell_coil ad C _ hi hc) rfl (by decide) gX0 rfl hw rfl d hq kk
theorem p_coil_raises {i c : Int} (hi : 0 ≤ i ∧ i < 6) (hc : 0 ≤ c ∧ c < 8) {idx : Nat} {v : Int} (hw : Cond.fieldLink own idx RX0 (TX0 8).2.1 (TX0 8).2.2.1 ∈ gt) (d : decode cc pc = .ok (.putfield idx, 3)) (hq : pc + 3 = q)
    (kk : AW l own nm cc nL ret X R E D (tyC C) Z w0 q lv st (cw ad C (setG G i (15 + 12 * c + 8) v)) k n) : AW l own nm cc nL ret X R E D (tyC C) Z w0 pc lv (.int (iI v) :: .ref (ad (17 * i + 9 + c)) :: st) (cw ad C G) k n := by
  exact aw_cput (id := 17 * i + 9 + c) (ci := 0) (TT := TX0) (j := 8) (by omega) (cell_coil ad C _ hi hc) rfl (by decide) gX0 rfl tyX0 tyX0_ok nmX0 rfl rfl rfl (Nat.le_of_ble_eq_true rfl) (by rw [cell_coil ad C _ hi hc]; unfold coilCell; simp only [setG_same]; rw [setG_ne (by omega), setG_ne (by omega), setG_ne (by omega), setG_ne (by omega), setG_ne (by omega), setG_ne (by omega), setG_ne (by omega), setG_ne (by omega), setG_ne (by omega), setG_ne (by omega), setG_ne (by omega)]; rfl) (setG_own (by unfold ownr; rw [if_pos (by omega)]; unfold ownM; (repeat' split) <;> omega)) hw d hq kk
theorem g_coil_commonRaises {i c : Int} (hi : 0 ≤ i ∧ i < 6) (hc : 0 ≤ c ∧ c < 8) {idx : Nat} {v : Int} (hv : G i (15 + 12 * c + 9) = v) (hw : Cond.fieldLink own idx RX0 (TX0 9).2.1 (TX0 9).2.2.1 ∈ gt) (d : decode cc pc = .ok (.getfield idx, 3)) (hq : pc + 3 = q)
    (kk : AW l own nm cc nL ret X R E D (tyC C) Z w0 q lv (.int (iI v) :: st) (cw ad C G) k n) : AW l own nm cc nL ret X R E D (tyC C) Z w0 pc lv (.ref (ad (17 * i + 9 + c)) :: st) (cw ad C G) k n := by
  subst hv
  exact aw_cget (id := 17 * i + 9 + c) (ci := 0) (TT := TX0) (j := 9) (by omega) (cell_coil ad C _ hi hc) rfl (by decide) gX0 rfl hw rfl d hq kk
theorem p_coil_commonRaises {i c : Int} (hi : 0 ≤ i ∧ i < 6) (hc : 0 ≤ c ∧ c < 8) {idx : Nat} {v : Int} (hw : Cond.fieldLink own idx RX0 (TX0 9).2.1 (TX0 9).2.2.1 ∈ gt) (d : decode cc pc = .ok (.putfield idx, 3)) (hq : pc + 3 = q)
    (kk : AW l own nm cc nL ret X R E D (tyC C) Z w0 q lv st (cw ad C (setG G i (15 + 12 * c + 9) v)) k n) : AW l own nm cc nL ret X R E D (tyC C) Z w0 pc lv (.int (iI v) :: .ref (ad (17 * i + 9 + c)) :: st) (cw ad C G) k n := by
  exact aw_cput (id := 17 * i + 9 + c) (ci := 0) (TT := TX0) (j := 9) (by omega) (cell_coil ad C _ hi hc) rfl (by decide) gX0 rfl tyX0 tyX0_ok nmX0 rfl rfl rfl (Nat.le_of_ble_eq_true rfl) (by rw [cell_coil ad C _ hi hc]; unfold coilCell; simp only [setG_same]; rw [setG_ne (by omega), setG_ne (by omega), setG_ne (by omega), setG_ne (by omega), setG_ne (by omega), setG_ne (by omega), setG_ne (by omega), setG_ne (by omega), setG_ne (by omega), setG_ne (by omega), setG_ne (by omega)]; rfl) (setG_own (by unfold ownr; rw [if_pos (by omega)]; unfold ownM; (repeat' split) <;> omega)) hw d hq kk
theorem g_coil_wanted {i c : Int} (hi : 0 ≤ i ∧ i < 6) (hc : 0 ≤ c ∧ c < 8) {idx : Nat} {v : Int} (hv : G i (15 + 12 * c + 10) = v) (hw : Cond.fieldLink own idx RX0 (TX0 10).2.1 (TX0 10).2.2.1 ∈ gt) (d : decode cc pc = .ok (.getfield idx, 3)) (hq : pc + 3 = q)
    (kk : AW l own nm cc nL ret X R E D (tyC C) Z w0 q lv (.float (fB v) :: st) (cw ad C G) k n) : AW l own nm cc nL ret X R E D (tyC C) Z w0 pc lv (.ref (ad (17 * i + 9 + c)) :: st) (cw ad C G) k n := by
  subst hv
  exact aw_cget (id := 17 * i + 9 + c) (ci := 0) (TT := TX0) (j := 10) (by omega) (cell_coil ad C _ hi hc) rfl (by decide) gX0 rfl hw rfl d hq kk
theorem p_coil_wanted {i c : Int} (hi : 0 ≤ i ∧ i < 6) (hc : 0 ≤ c ∧ c < 8) {idx : Nat} {v : Int} {x : UInt32} (hx : fB v = x) (hw : Cond.fieldLink own idx RX0 (TX0 10).2.1 (TX0 10).2.2.1 ∈ gt) (d : decode cc pc = .ok (.putfield idx, 3)) (hq : pc + 3 = q)
    (kk : AW l own nm cc nL ret X R E D (tyC C) Z w0 q lv st (cw ad C (setG G i (15 + 12 * c + 10) v)) k n) : AW l own nm cc nL ret X R E D (tyC C) Z w0 pc lv (.float x :: .ref (ad (17 * i + 9 + c)) :: st) (cw ad C G) k n := by
  subst hx
  exact aw_cput (id := 17 * i + 9 + c) (ci := 0) (TT := TX0) (j := 10) (by omega) (cell_coil ad C _ hi hc) rfl (by decide) gX0 rfl tyX0 tyX0_ok nmX0 rfl rfl rfl (Nat.le_of_ble_eq_true rfl) (by rw [cell_coil ad C _ hi hc]; unfold coilCell; simp only [setG_same]; rw [setG_ne (by omega), setG_ne (by omega), setG_ne (by omega), setG_ne (by omega), setG_ne (by omega), setG_ne (by omega), setG_ne (by omega), setG_ne (by omega), setG_ne (by omega), setG_ne (by omega), setG_ne (by omega)]; rfl) (setG_own (by unfold ownr; rw [if_pos (by omega)]; unfold ownM; (repeat' split) <;> omega)) hw d hq kk
theorem g_coil_hasRaised {i c : Int} (hi : 0 ≤ i ∧ i < 6) (hc : 0 ≤ c ∧ c < 8) {idx : Nat} {v : Int} (hv : G i (15 + 12 * c + 11) = v) (hw : Cond.fieldLink own idx RX0 (TX0 11).2.1 (TX0 11).2.2.1 ∈ gt) (d : decode cc pc = .ok (.getfield idx, 3)) (hq : pc + 3 = q)
    (kk : AW l own nm cc nL ret X R E D (tyC C) Z w0 q lv (.int (iI v) :: st) (cw ad C G) k n) : AW l own nm cc nL ret X R E D (tyC C) Z w0 pc lv (.ref (ad (17 * i + 9 + c)) :: st) (cw ad C G) k n := by
  subst hv
  exact aw_cget (id := 17 * i + 9 + c) (ci := 0) (TT := TX0) (j := 11) (by omega) (cell_coil ad C _ hi hc) rfl (by decide) gX0 rfl hw rfl d hq kk
theorem p_coil_hasRaised {i c : Int} (hi : 0 ≤ i ∧ i < 6) (hc : 0 ≤ c ∧ c < 8) {idx : Nat} {v : Int} (hz : v = 0 ∨ v = 1) (hw : Cond.fieldLink own idx RX0 (TX0 11).2.1 (TX0 11).2.2.1 ∈ gt) (d : decode cc pc = .ok (.putfield idx, 3)) (hq : pc + 3 = q)
    (kk : AW l own nm cc nL ret X R E D (tyC C) Z w0 q lv st (cw ad C (setG G i (15 + 12 * c + 11) v)) k n) : AW l own nm cc nL ret X R E D (tyC C) Z w0 pc lv (.int (iI v) :: .ref (ad (17 * i + 9 + c)) :: st) (cw ad C G) k n := by
  exact aw_cput (id := 17 * i + 9 + c) (ci := 0) (TT := TX0) (j := 11) (by omega) (cell_coil ad C _ hi hc) rfl (by decide) gX0 rfl tyX0 tyX0_ok nmX0 rfl (by rcases hz with rfl | rfl <;> decide) (by rcases hz with rfl | rfl <;> decide) (Nat.le_of_ble_eq_true rfl) (by rw [cell_coil ad C _ hi hc]; unfold coilCell; simp only [setG_same]; rw [setG_ne (by omega), setG_ne (by omega), setG_ne (by omega), setG_ne (by omega), setG_ne (by omega), setG_ne (by omega), setG_ne (by omega), setG_ne (by omega), setG_ne (by omega), setG_ne (by omega), setG_ne (by omega)]; rfl) (setG_own (by unfold ownr; rw [if_pos (by omega)]; unfold ownM; (repeat' split) <;> omega)) hw d hq kk
theorem g_mach_coils {i : Int} (hi : 0 ≤ i ∧ i < 6) {idx : Nat} (hw : Cond.fieldLink own idx RX1 (TX1 0).2.1 (TX1 0).2.2.1 ∈ gt) (d : decode cc pc = .ok (.getfield idx, 3)) (hq : pc + 3 = q)
    (kk : AW l own nm cc nL ret X R E D (tyC C) Z w0 q lv (.ref (ad (17 * i + 1)) :: st) (cw ad C G) k n) : AW l own nm cc nL ret X R E D (tyC C) Z w0 pc lv (.ref (ad (17 * i)) :: st) (cw ad C G) k n :=
  aw_cget (id := 17 * i) (ci := 1) (TT := TX1) (j := 0) (by omega) (cell_mach ad C _ hi) rfl (by decide) gX1 rfl hw rfl d hq kk
theorem g_mach_settings {i : Int} (hi : 0 ≤ i ∧ i < 6) {idx : Nat} (hw : Cond.fieldLink own idx RX1 (TX1 1).2.1 (TX1 1).2.2.1 ∈ gt) (d : decode cc pc = .ok (.getfield idx, 3)) (hq : pc + 3 = q)
    (kk : AW l own nm cc nL ret X R E D (tyC C) Z w0 q lv (.ref (ad (17 * i + 2)) :: st) (cw ad C G) k n) : AW l own nm cc nL ret X R E D (tyC C) Z w0 pc lv (.ref (ad (17 * i)) :: st) (cw ad C G) k n :=
  aw_cget (id := 17 * i) (ci := 1) (TT := TX1) (j := 1) (by omega) (cell_mach ad C _ hi) rfl (by decide) gX1 rfl hw rfl d hq kk
theorem g_mach_till {i : Int} (hi : 0 ≤ i ∧ i < 6) {idx : Nat} (hw : Cond.fieldLink own idx RX1 (TX1 2).2.1 (TX1 2).2.2.1 ∈ gt) (d : decode cc pc = .ok (.getfield idx, 3)) (hq : pc + 3 = q)
    (kk : AW l own nm cc nL ret X R E D (tyC C) Z w0 q lv (.ref (ad (17 * i + 3)) :: st) (cw ad C G) k n) : AW l own nm cc nL ret X R E D (tyC C) Z w0 pc lv (.ref (ad (17 * i)) :: st) (cw ad C G) k n :=
  aw_cget (id := 17 * i) (ci := 1) (TT := TX1) (j := 2) (by omega) (cell_mach ad C _ hi) rfl (by decide) gX1 rfl hw rfl d hq kk
theorem g_mach_coilCount {i : Int} (hi : 0 ≤ i ∧ i < 6) {idx : Nat} {v : Int} (hv : G i (13) = v) (hw : Cond.fieldLink own idx RX1 (TX1 3).2.1 (TX1 3).2.2.1 ∈ gt) (d : decode cc pc = .ok (.getfield idx, 3)) (hq : pc + 3 = q)
    (kk : AW l own nm cc nL ret X R E D (tyC C) Z w0 q lv (.int (iI v) :: st) (cw ad C G) k n) : AW l own nm cc nL ret X R E D (tyC C) Z w0 pc lv (.ref (ad (17 * i)) :: st) (cw ad C G) k n := by
  subst hv
  exact aw_cget (id := 17 * i) (ci := 1) (TT := TX1) (j := 3) (by omega) (cell_mach ad C _ hi) rfl (by decide) gX1 rfl hw rfl d hq kk
theorem p_mach_coilCount {i : Int} (hi : 0 ≤ i ∧ i < 6) {idx : Nat} {v : Int} (hw : Cond.fieldLink own idx RX1 (TX1 3).2.1 (TX1 3).2.2.1 ∈ gt) (d : decode cc pc = .ok (.putfield idx, 3)) (hq : pc + 3 = q)
    (kk : AW l own nm cc nL ret X R E D (tyC C) Z w0 q lv st (cw ad C (setG G i (13) v)) k n) : AW l own nm cc nL ret X R E D (tyC C) Z w0 pc lv (.int (iI v) :: .ref (ad (17 * i)) :: st) (cw ad C G) k n := by
  exact aw_cput (id := 17 * i) (ci := 1) (TT := TX1) (j := 3) (by omega) (cell_mach ad C _ hi) rfl (by decide) gX1 rfl tyX1 tyX1_ok nmX1 rfl rfl rfl (Nat.le_of_ble_eq_true rfl) (by rw [cell_mach ad C _ hi]; simp [setG]) (setG_own (by unfold ownr; rw [if_pos (by omega)]; unfold ownM; (repeat' split) <;> omega)) hw d hq kk
theorem g_mach_hour {i : Int} (hi : 0 ≤ i ∧ i < 6) {idx : Nat} {v : Int} (hv : G i (10) = v) (hw : Cond.fieldLink own idx RX1 (TX1 4).2.1 (TX1 4).2.2.1 ∈ gt) (d : decode cc pc = .ok (.getfield idx, 3)) (hq : pc + 3 = q)
    (kk : AW l own nm cc nL ret X R E D (tyC C) Z w0 q lv (.int (iI v) :: st) (cw ad C G) k n) : AW l own nm cc nL ret X R E D (tyC C) Z w0 pc lv (.ref (ad (17 * i)) :: st) (cw ad C G) k n := by
  subst hv
  exact aw_cget (id := 17 * i) (ci := 1) (TT := TX1) (j := 4) (by omega) (cell_mach ad C _ hi) rfl (by decide) gX1 rfl hw rfl d hq kk
theorem p_mach_hour {i : Int} (hi : 0 ≤ i ∧ i < 6) {idx : Nat} {v : Int} (hw : Cond.fieldLink own idx RX1 (TX1 4).2.1 (TX1 4).2.2.1 ∈ gt) (d : decode cc pc = .ok (.putfield idx, 3)) (hq : pc + 3 = q)
    (kk : AW l own nm cc nL ret X R E D (tyC C) Z w0 q lv st (cw ad C (setG G i (10) v)) k n) : AW l own nm cc nL ret X R E D (tyC C) Z w0 pc lv (.int (iI v) :: .ref (ad (17 * i)) :: st) (cw ad C G) k n := by
  exact aw_cput (id := 17 * i) (ci := 1) (TT := TX1) (j := 4) (by omega) (cell_mach ad C _ hi) rfl (by decide) gX1 rfl tyX1 tyX1_ok nmX1 rfl rfl rfl (Nat.le_of_ble_eq_true rfl) (by rw [cell_mach ad C _ hi]; simp [setG]) (setG_own (by unfold ownr; rw [if_pos (by omega)]; unfold ownM; (repeat' split) <;> omega)) hw d hq kk
theorem g_mach_fines {i : Int} (hi : 0 ≤ i ∧ i < 6) {idx : Nat} {v : Int} (hv : G i (12) = v) (hw : Cond.fieldLink own idx RX1 (TX1 5).2.1 (TX1 5).2.2.1 ∈ gt) (d : decode cc pc = .ok (.getfield idx, 3)) (hq : pc + 3 = q)
    (kk : AW l own nm cc nL ret X R E D (tyC C) Z w0 q lv (.int (iI v) :: st) (cw ad C G) k n) : AW l own nm cc nL ret X R E D (tyC C) Z w0 pc lv (.ref (ad (17 * i)) :: st) (cw ad C G) k n := by
  subst hv
  exact aw_cget (id := 17 * i) (ci := 1) (TT := TX1) (j := 5) (by omega) (cell_mach ad C _ hi) rfl (by decide) gX1 rfl hw rfl d hq kk
theorem p_mach_fines {i : Int} (hi : 0 ≤ i ∧ i < 6) {idx : Nat} {v : Int} (hw : Cond.fieldLink own idx RX1 (TX1 5).2.1 (TX1 5).2.2.1 ∈ gt) (d : decode cc pc = .ok (.putfield idx, 3)) (hq : pc + 3 = q)
    (kk : AW l own nm cc nL ret X R E D (tyC C) Z w0 q lv st (cw ad C (setG G i (12) v)) k n) : AW l own nm cc nL ret X R E D (tyC C) Z w0 pc lv (.int (iI v) :: .ref (ad (17 * i)) :: st) (cw ad C G) k n := by
  exact aw_cput (id := 17 * i) (ci := 1) (TT := TX1) (j := 5) (by omega) (cell_mach ad C _ hi) rfl (by decide) gX1 rfl tyX1 tyX1_ok nmX1 rfl rfl rfl (Nat.le_of_ble_eq_true rfl) (by rw [cell_mach ad C _ hi]; simp [setG]) (setG_own (by unfold ownr; rw [if_pos (by omega)]; unfold ownM; (repeat' split) <;> omega)) hw d hq kk
theorem g_till_tubes {i : Int} (hi : 0 ≤ i ∧ i < 6) {idx : Nat} (hw : Cond.fieldLink own idx RX4 (TX4 0).2.1 (TX4 0).2.2.1 ∈ gt) (d : decode cc pc = .ok (.getfield idx, 3)) (hq : pc + 3 = q)
    (kk : AW l own nm cc nL ret X R E D (tyC C) Z w0 q lv (.ref (ad (17 * i + 4)) :: st) (cw ad C G) k n) : AW l own nm cc nL ret X R E D (tyC C) Z w0 pc lv (.ref (ad (17 * i + 3)) :: st) (cw ad C G) k n :=
  aw_cget (id := 17 * i + 3) (ci := 4) (TT := TX4) (j := 0) (by omega) (cell_till ad C _ hi) rfl (by decide) gX4 rfl hw rfl d hq kk
theorem g_till_promises {i : Int} (hi : 0 ≤ i ∧ i < 6) {idx : Nat} (hw : Cond.fieldLink own idx RX4 (TX4 1).2.1 (TX4 1).2.2.1 ∈ gt) (d : decode cc pc = .ok (.getfield idx, 3)) (hq : pc + 3 = q)
    (kk : AW l own nm cc nL ret X R E D (tyC C) Z w0 q lv (.ref (ad (17 * i + 5)) :: st) (cw ad C G) k n) : AW l own nm cc nL ret X R E D (tyC C) Z w0 pc lv (.ref (ad (17 * i + 3)) :: st) (cw ad C G) k n :=
  aw_cget (id := 17 * i + 3) (ci := 4) (TT := TX4) (j := 1) (by omega) (cell_till ad C _ hi) rfl (by decide) gX4 rfl hw rfl d hq kk
theorem g_till_payment {i : Int} (hi : 0 ≤ i ∧ i < 6) {idx : Nat} (hw : Cond.fieldLink own idx RX4 (TX4 2).2.1 (TX4 2).2.2.1 ∈ gt) (d : decode cc pc = .ok (.getfield idx, 3)) (hq : pc + 3 = q)
    (kk : AW l own nm cc nL ret X R E D (tyC C) Z w0 q lv (.ref (ad (17 * i + 6)) :: st) (cw ad C G) k n) : AW l own nm cc nL ret X R E D (tyC C) Z w0 pc lv (.ref (ad (17 * i + 3)) :: st) (cw ad C G) k n :=
  aw_cget (id := 17 * i + 3) (ci := 4) (TT := TX4) (j := 2) (by omega) (cell_till ad C _ hi) rfl (by decide) gX4 rfl hw rfl d hq kk
theorem g_till_box {i : Int} (hi : 0 ≤ i ∧ i < 6) {idx : Nat} {v : Int} (hv : G i (9) = v) (hw : Cond.fieldLink own idx RX4 (TX4 3).2.1 (TX4 3).2.2.1 ∈ gt) (d : decode cc pc = .ok (.getfield idx, 3)) (hq : pc + 3 = q)
    (kk : AW l own nm cc nL ret X R E D (tyC C) Z w0 q lv (.int (iI v) :: st) (cw ad C G) k n) : AW l own nm cc nL ret X R E D (tyC C) Z w0 pc lv (.ref (ad (17 * i + 3)) :: st) (cw ad C G) k n := by
  subst hv
  exact aw_cget (id := 17 * i + 3) (ci := 4) (TT := TX4) (j := 3) (by omega) (cell_till ad C _ hi) rfl (by decide) gX4 rfl hw rfl d hq kk
theorem p_till_box {i : Int} (hi : 0 ≤ i ∧ i < 6) {idx : Nat} {v : Int} (hw : Cond.fieldLink own idx RX4 (TX4 3).2.1 (TX4 3).2.2.1 ∈ gt) (d : decode cc pc = .ok (.putfield idx, 3)) (hq : pc + 3 = q)
    (kk : AW l own nm cc nL ret X R E D (tyC C) Z w0 q lv st (cw ad C (setG G i (9) v)) k n) : AW l own nm cc nL ret X R E D (tyC C) Z w0 pc lv (.int (iI v) :: .ref (ad (17 * i + 3)) :: st) (cw ad C G) k n := by
  exact aw_cput (id := 17 * i + 3) (ci := 4) (TT := TX4) (j := 3) (by omega) (cell_till ad C _ hi) rfl (by decide) gX4 rfl tyX4 tyX4_ok nmX4 rfl rfl rfl (Nat.le_of_ble_eq_true rfl) (by rw [cell_till ad C _ hi]; simp [setG]) (setG_own (by unfold ownr; rw [if_pos (by omega)]; unfold ownM; (repeat' split) <;> omega)) hw d hq kk
theorem g_till_promiseCount {i : Int} (hi : 0 ≤ i ∧ i < 6) {idx : Nat} {v : Int} (hv : G i (14) = v) (hw : Cond.fieldLink own idx RX4 (TX4 4).2.1 (TX4 4).2.2.1 ∈ gt) (d : decode cc pc = .ok (.getfield idx, 3)) (hq : pc + 3 = q)
    (kk : AW l own nm cc nL ret X R E D (tyC C) Z w0 q lv (.int (iI v) :: st) (cw ad C G) k n) : AW l own nm cc nL ret X R E D (tyC C) Z w0 pc lv (.ref (ad (17 * i + 3)) :: st) (cw ad C G) k n := by
  subst hv
  exact aw_cget (id := 17 * i + 3) (ci := 4) (TT := TX4) (j := 4) (by omega) (cell_till ad C _ hi) rfl (by decide) gX4 rfl hw rfl d hq kk
theorem p_till_promiseCount {i : Int} (hi : 0 ≤ i ∧ i < 6) {idx : Nat} {v : Int} (hw : Cond.fieldLink own idx RX4 (TX4 4).2.1 (TX4 4).2.2.1 ∈ gt) (d : decode cc pc = .ok (.putfield idx, 3)) (hq : pc + 3 = q)
    (kk : AW l own nm cc nL ret X R E D (tyC C) Z w0 q lv st (cw ad C (setG G i (14) v)) k n) : AW l own nm cc nL ret X R E D (tyC C) Z w0 pc lv (.int (iI v) :: .ref (ad (17 * i + 3)) :: st) (cw ad C G) k n := by
  exact aw_cput (id := 17 * i + 3) (ci := 4) (TT := TX4) (j := 4) (by omega) (cell_till ad C _ hi) rfl (by decide) gX4 rfl tyX4 tyX4_ok nmX4 rfl rfl rfl (Nat.le_of_ble_eq_true rfl) (by rw [cell_till ad C _ hi]; simp [setG]) (setG_own (by unfold ownr; rw [if_pos (by omega)]; unfold ownM; (repeat' split) <;> omega)) hw d hq kk
theorem g_till_promiseSum {i : Int} (hi : 0 ≤ i ∧ i < 6) {idx : Nat} {v : Int} (hv : G i (311) = v) (hw : Cond.fieldLink own idx RX4 (TX4 5).2.1 (TX4 5).2.2.1 ∈ gt) (d : decode cc pc = .ok (.getfield idx, 3)) (hq : pc + 3 = q)
    (kk : AW l own nm cc nL ret X R E D (tyC C) Z w0 q lv (.int (iI v) :: st) (cw ad C G) k n) : AW l own nm cc nL ret X R E D (tyC C) Z w0 pc lv (.ref (ad (17 * i + 3)) :: st) (cw ad C G) k n := by
  subst hv
  exact aw_cget (id := 17 * i + 3) (ci := 4) (TT := TX4) (j := 5) (by omega) (cell_till ad C _ hi) rfl (by decide) gX4 rfl hw rfl d hq kk
theorem p_till_promiseSum {i : Int} (hi : 0 ≤ i ∧ i < 6) {idx : Nat} {v : Int} (hw : Cond.fieldLink own idx RX4 (TX4 5).2.1 (TX4 5).2.2.1 ∈ gt) (d : decode cc pc = .ok (.putfield idx, 3)) (hq : pc + 3 = q)
    (kk : AW l own nm cc nL ret X R E D (tyC C) Z w0 q lv st (cw ad C (setG G i (311) v)) k n) : AW l own nm cc nL ret X R E D (tyC C) Z w0 pc lv (.int (iI v) :: .ref (ad (17 * i + 3)) :: st) (cw ad C G) k n := by
  exact aw_cput (id := 17 * i + 3) (ci := 4) (TT := TX4) (j := 5) (by omega) (cell_till ad C _ hi) rfl (by decide) gX4 rfl tyX4 tyX4_ok nmX4 rfl rfl rfl (Nat.le_of_ble_eq_true rfl) (by rw [cell_till ad C _ hi]; simp [setG]) (setG_own (by unfold ownr; rw [if_pos (by omega)]; unfold ownM; (repeat' split) <;> omega)) hw d hq kk
theorem g_till_promisesPaid {i : Int} (hi : 0 ≤ i ∧ i < 6) {idx : Nat} {v : Int} (hv : G i (11) = v) (hw : Cond.fieldLink own idx RX4 (TX4 6).2.1 (TX4 6).2.2.1 ∈ gt) (d : decode cc pc = .ok (.getfield idx, 3)) (hq : pc + 3 = q)
    (kk : AW l own nm cc nL ret X R E D (tyC C) Z w0 q lv (.int (iI v) :: st) (cw ad C G) k n) : AW l own nm cc nL ret X R E D (tyC C) Z w0 pc lv (.ref (ad (17 * i + 3)) :: st) (cw ad C G) k n := by
  subst hv
  exact aw_cget (id := 17 * i + 3) (ci := 4) (TT := TX4) (j := 6) (by omega) (cell_till ad C _ hi) rfl (by decide) gX4 rfl hw rfl d hq kk
theorem p_till_promisesPaid {i : Int} (hi : 0 ≤ i ∧ i < 6) {idx : Nat} {v : Int} (hw : Cond.fieldLink own idx RX4 (TX4 6).2.1 (TX4 6).2.2.1 ∈ gt) (d : decode cc pc = .ok (.putfield idx, 3)) (hq : pc + 3 = q)
    (kk : AW l own nm cc nL ret X R E D (tyC C) Z w0 q lv st (cw ad C (setG G i (11) v)) k n) : AW l own nm cc nL ret X R E D (tyC C) Z w0 pc lv (.int (iI v) :: .ref (ad (17 * i + 3)) :: st) (cw ad C G) k n := by
  exact aw_cput (id := 17 * i + 3) (ci := 4) (TT := TX4) (j := 6) (by omega) (cell_till ad C _ hi) rfl (by decide) gX4 rfl tyX4 tyX4_ok nmX4 rfl rfl rfl (Nat.le_of_ble_eq_true rfl) (by rw [cell_till ad C _ hi]; simp [setG]) (setG_own (by unfold ownr; rw [if_pos (by omega)]; unfold ownM; (repeat' split) <;> omega)) hw d hq kk
theorem g_pay_held {i : Int} (hi : 0 ≤ i ∧ i < 6) {idx : Nat} (hw : Cond.fieldLink own idx RX3 (TX3 0).2.1 (TX3 0).2.2.1 ∈ gt) (d : decode cc pc = .ok (.getfield idx, 3)) (hq : pc + 3 = q)
    (kk : AW l own nm cc nL ret X R E D (tyC C) Z w0 q lv (.ref (ad (17 * i + 7)) :: st) (cw ad C G) k n) : AW l own nm cc nL ret X R E D (tyC C) Z w0 pc lv (.ref (ad (17 * i + 6)) :: st) (cw ad C G) k n :=
  aw_cget (id := 17 * i + 6) (ci := 3) (TT := TX3) (j := 0) (by omega) (cell_pay ad C _ hi) rfl (by decide) gX3 rfl hw rfl d hq kk
theorem g_pay_taken {i : Int} (hi : 0 ≤ i ∧ i < 6) {idx : Nat} (hw : Cond.fieldLink own idx RX3 (TX3 1).2.1 (TX3 1).2.2.1 ∈ gt) (d : decode cc pc = .ok (.getfield idx, 3)) (hq : pc + 3 = q)
    (kk : AW l own nm cc nL ret X R E D (tyC C) Z w0 q lv (.ref (ad (17 * i + 8)) :: st) (cw ad C G) k n) : AW l own nm cc nL ret X R E D (tyC C) Z w0 pc lv (.ref (ad (17 * i + 6)) :: st) (cw ad C G) k n :=
  aw_cget (id := 17 * i + 6) (ci := 3) (TT := TX3) (j := 1) (by omega) (cell_pay ad C _ hi) rfl (by decide) gX3 rfl hw rfl d hq kk
theorem g_cp_machine  {idx : Nat} (hw : Cond.fieldLink own idx RX5 (TX5 0).2.1 (TX5 0).2.2.1 ∈ gt) (d : decode cc pc = .ok (.getfield idx, 3)) (hq : pc + 3 = q)
    (kk : AW l own nm cc nL ret X R E D (tyC C) Z w0 q lv (.ref (ad (0)) :: st) (cw ad C G) k n) : AW l own nm cc nL ret X R E D (tyC C) Z w0 pc lv (.ref (ad (102)) :: st) (cw ad C G) k n :=
  aw_cget (id := 102) (ci := 5) (TT := TX5) (j := 0) (by omega) (cell_102 ad C _) rfl (by decide) gX5 rfl hw rfl d hq kk
theorem g_cp_trial  {idx : Nat} (hw : Cond.fieldLink own idx RX5 (TX5 1).2.1 (TX5 1).2.2.1 ∈ gt) (d : decode cc pc = .ok (.getfield idx, 3)) (hq : pc + 3 = q)
    (kk : AW l own nm cc nL ret X R E D (tyC C) Z w0 q lv (.ref (ad (17)) :: st) (cw ad C G) k n) : AW l own nm cc nL ret X R E D (tyC C) Z w0 pc lv (.ref (ad (102)) :: st) (cw ad C G) k n :=
  aw_cget (id := 102) (ci := 5) (TT := TX5) (j := 1) (by omega) (cell_102 ad C _) rfl (by decide) gX5 rfl hw rfl d hq kk
theorem g_cp_saved  {idx : Nat} (hw : Cond.fieldLink own idx RX5 (TX5 2).2.1 (TX5 2).2.2.1 ∈ gt) (d : decode cc pc = .ok (.getfield idx, 3)) (hq : pc + 3 = q)
    (kk : AW l own nm cc nL ret X R E D (tyC C) Z w0 q lv (.ref (ad (103)) :: st) (cw ad C G) k n) : AW l own nm cc nL ret X R E D (tyC C) Z w0 pc lv (.ref (ad (102)) :: st) (cw ad C G) k n :=
  aw_cget (id := 102) (ci := 5) (TT := TX5) (j := 2) (by omega) (cell_102 ad C _) rfl (by decide) gX5 rfl hw rfl d hq kk
theorem g_cp_savedCount  {idx : Nat} {v : Int} (hv : G 6 (0) = v) (hw : Cond.fieldLink own idx RX5 (TX5 3).2.1 (TX5 3).2.2.1 ∈ gt) (d : decode cc pc = .ok (.getfield idx, 3)) (hq : pc + 3 = q)
    (kk : AW l own nm cc nL ret X R E D (tyC C) Z w0 q lv (.int (iI v) :: st) (cw ad C G) k n) : AW l own nm cc nL ret X R E D (tyC C) Z w0 pc lv (.ref (ad (102)) :: st) (cw ad C G) k n := by
  subst hv
  exact aw_cget (id := 102) (ci := 5) (TT := TX5) (j := 3) (by omega) (cell_102 ad C _) rfl (by decide) gX5 rfl hw rfl d hq kk
theorem p_cp_savedCount  {idx : Nat} {v : Int} (hw : Cond.fieldLink own idx RX5 (TX5 3).2.1 (TX5 3).2.2.1 ∈ gt) (d : decode cc pc = .ok (.putfield idx, 3)) (hq : pc + 3 = q)
    (kk : AW l own nm cc nL ret X R E D (tyC C) Z w0 q lv st (cw ad C (setG G 6 (0) v)) k n) : AW l own nm cc nL ret X R E D (tyC C) Z w0 pc lv (.int (iI v) :: .ref (ad (102)) :: st) (cw ad C G) k n := by
  exact aw_cput (id := 102) (ci := 5) (TT := TX5) (j := 3) (by omega) (cell_102 ad C _) rfl (by decide) gX5 rfl tyX5 tyX5_ok nmX5 rfl rfl rfl (Nat.le_of_ble_eq_true rfl) (by rw [cell_102 ad C _]; simp [setG]) (setG_own rfl) hw d hq kk
theorem g_cp_text  {idx : Nat} (hw : Cond.fieldLink own idx RX5 (TX5 4).2.1 (TX5 4).2.2.1 ∈ gt) (d : decode cc pc = .ok (.getfield idx, 3)) (hq : pc + 3 = q)
    (kk : AW l own nm cc nL ret X R E D (tyC C) Z w0 q lv (.ref (ad (104)) :: st) (cw ad C G) k n) : AW l own nm cc nL ret X R E D (tyC C) Z w0 pc lv (.ref (ad (102)) :: st) (cw ad C G) k n :=
  aw_cget (id := 102) (ci := 5) (TT := TX5) (j := 4) (by omega) (cell_102 ad C _) rfl (by decide) gX5 rfl hw rfl d hq kk
theorem g_cp_coinsIn  {idx : Nat} (hw : Cond.fieldLink own idx RX5 (TX5 5).2.1 (TX5 5).2.2.1 ∈ gt) (d : decode cc pc = .ok (.getfield idx, 3)) (hq : pc + 3 = q)
    (kk : AW l own nm cc nL ret X R E D (tyC C) Z w0 q lv (.ref (ad (107)) :: st) (cw ad C G) k n) : AW l own nm cc nL ret X R E D (tyC C) Z w0 pc lv (.ref (ad (102)) :: st) (cw ad C G) k n :=
  aw_cget (id := 102) (ci := 5) (TT := TX5) (j := 5) (by omega) (cell_102 ad C _) rfl (by decide) gX5 rfl hw rfl d hq kk
theorem g_text_bytes  {idx : Nat} (hw : Cond.fieldLink own idx RX2 (TX2 0).2.1 (TX2 0).2.2.1 ∈ gt) (d : decode cc pc = .ok (.getfield idx, 3)) (hq : pc + 3 = q)
    (kk : AW l own nm cc nL ret X R E D (tyC C) Z w0 q lv (.ref (ad (105)) :: st) (cw ad C G) k n) : AW l own nm cc nL ret X R E D (tyC C) Z w0 pc lv (.ref (ad (104)) :: st) (cw ad C G) k n :=
  aw_cget (id := 104) (ci := 2) (TT := TX2) (j := 0) (by omega) (cell_104 ad C _) rfl (by decide) gX2 rfl hw rfl d hq kk
theorem g_text_length  {idx : Nat} {v : Int} (hv : G 7 (1) = v) (hw : Cond.fieldLink own idx RX2 (TX2 1).2.1 (TX2 1).2.2.1 ∈ gt) (d : decode cc pc = .ok (.getfield idx, 3)) (hq : pc + 3 = q)
    (kk : AW l own nm cc nL ret X R E D (tyC C) Z w0 q lv (.int (iI v) :: st) (cw ad C G) k n) : AW l own nm cc nL ret X R E D (tyC C) Z w0 pc lv (.ref (ad (104)) :: st) (cw ad C G) k n := by
  subst hv
  exact aw_cget (id := 104) (ci := 2) (TT := TX2) (j := 1) (by omega) (cell_104 ad C _) rfl (by decide) gX2 rfl hw rfl d hq kk
theorem p_text_length  {idx : Nat} {v : Int} (hw : Cond.fieldLink own idx RX2 (TX2 1).2.1 (TX2 1).2.2.1 ∈ gt) (d : decode cc pc = .ok (.putfield idx, 3)) (hq : pc + 3 = q)
    (kk : AW l own nm cc nL ret X R E D (tyC C) Z w0 q lv st (cw ad C (setG G 7 (1) v)) k n) : AW l own nm cc nL ret X R E D (tyC C) Z w0 pc lv (.int (iI v) :: .ref (ad (104)) :: st) (cw ad C G) k n := by
  exact aw_cput (id := 104) (ci := 2) (TT := TX2) (j := 1) (by omega) (cell_104 ad C _) rfl (by decide) gX2 rfl tyX2 tyX2_ok nmX2 rfl rfl rfl (Nat.le_of_ble_eq_true rfl) (by rw [cell_104 ad C _]; simp [setG]) (setG_own rfl) hw d hq kk
theorem g_text_letter  {idx : Nat} {v : Int} (hv : G 7 (2) = v) (hw : Cond.fieldLink own idx RX2 (TX2 2).2.1 (TX2 2).2.2.1 ∈ gt) (d : decode cc pc = .ok (.getfield idx, 3)) (hq : pc + 3 = q)
    (kk : AW l own nm cc nL ret X R E D (tyC C) Z w0 q lv (.int (iI v) :: st) (cw ad C G) k n) : AW l own nm cc nL ret X R E D (tyC C) Z w0 pc lv (.ref (ad (104)) :: st) (cw ad C G) k n := by
  subst hv
  exact aw_cget (id := 104) (ci := 2) (TT := TX2) (j := 2) (by omega) (cell_104 ad C _) rfl (by decide) gX2 rfl hw rfl d hq kk
theorem p_text_letter  {idx : Nat} {v : Int} (hw : Cond.fieldLink own idx RX2 (TX2 2).2.1 (TX2 2).2.2.1 ∈ gt) (d : decode cc pc = .ok (.putfield idx, 3)) (hq : pc + 3 = q)
    (kk : AW l own nm cc nL ret X R E D (tyC C) Z w0 q lv st (cw ad C (setG G 7 (2) v)) k n) : AW l own nm cc nL ret X R E D (tyC C) Z w0 pc lv (.int (iI v) :: .ref (ad (104)) :: st) (cw ad C G) k n := by
  exact aw_cput (id := 104) (ci := 2) (TT := TX2) (j := 2) (by omega) (cell_104 ad C _) rfl (by decide) gX2 rfl tyX2 tyX2_ok nmX2 rfl rfl rfl (Nat.le_of_ble_eq_true rfl) (by rw [cell_104 ad C _]; simp [setG]) (setG_own rfl) hw d hq kk
theorem g_text_place  {idx : Nat} {v : Int} (hv : G 7 (3) = v) (hw : Cond.fieldLink own idx RX2 (TX2 3).2.1 (TX2 3).2.2.1 ∈ gt) (d : decode cc pc = .ok (.getfield idx, 3)) (hq : pc + 3 = q)
    (kk : AW l own nm cc nL ret X R E D (tyC C) Z w0 q lv (.int (iI v) :: st) (cw ad C G) k n) : AW l own nm cc nL ret X R E D (tyC C) Z w0 pc lv (.ref (ad (104)) :: st) (cw ad C G) k n := by
  subst hv
  exact aw_cget (id := 104) (ci := 2) (TT := TX2) (j := 3) (by omega) (cell_104 ad C _) rfl (by decide) gX2 rfl hw rfl d hq kk
theorem p_text_place  {idx : Nat} {v : Int} (hw : Cond.fieldLink own idx RX2 (TX2 3).2.1 (TX2 3).2.2.1 ∈ gt) (d : decode cc pc = .ok (.putfield idx, 3)) (hq : pc + 3 = q)
    (kk : AW l own nm cc nL ret X R E D (tyC C) Z w0 q lv st (cw ad C (setG G 7 (3) v)) k n) : AW l own nm cc nL ret X R E D (tyC C) Z w0 pc lv (.int (iI v) :: .ref (ad (104)) :: st) (cw ad C G) k n := by
  exact aw_cput (id := 104) (ci := 2) (TT := TX2) (j := 3) (by omega) (cell_104 ad C _) rfl (by decide) gX2 rfl tyX2 tyX2_ok nmX2 rfl rfl rfl (Nat.le_of_ble_eq_true rfl) (by rw [cell_104 ad C _]; simp [setG]) (setG_own rfl) hw d hq kk
theorem g_text_number  {idx : Nat} {v : Int} (hv : G 7 (4) = v) (hw : Cond.fieldLink own idx RX2 (TX2 4).2.1 (TX2 4).2.2.1 ∈ gt) (d : decode cc pc = .ok (.getfield idx, 3)) (hq : pc + 3 = q)
    (kk : AW l own nm cc nL ret X R E D (tyC C) Z w0 q lv (.int (iI v) :: st) (cw ad C G) k n) : AW l own nm cc nL ret X R E D (tyC C) Z w0 pc lv (.ref (ad (104)) :: st) (cw ad C G) k n := by
  subst hv
  exact aw_cget (id := 104) (ci := 2) (TT := TX2) (j := 4) (by omega) (cell_104 ad C _) rfl (by decide) gX2 rfl hw rfl d hq kk
theorem p_text_number  {idx : Nat} {v : Int} (hw : Cond.fieldLink own idx RX2 (TX2 4).2.1 (TX2 4).2.2.1 ∈ gt) (d : decode cc pc = .ok (.putfield idx, 3)) (hq : pc + 3 = q)
    (kk : AW l own nm cc nL ret X R E D (tyC C) Z w0 q lv st (cw ad C (setG G 7 (4) v)) k n) : AW l own nm cc nL ret X R E D (tyC C) Z w0 pc lv (.int (iI v) :: .ref (ad (104)) :: st) (cw ad C G) k n := by
  exact aw_cput (id := 104) (ci := 2) (TT := TX2) (j := 4) (by omega) (cell_104 ad C _) rfl (by decide) gX2 rfl tyX2 tyX2_ok nmX2 rfl rfl rfl (Nat.le_of_ble_eq_true rfl) (by rw [cell_104 ad C _]; simp [setG]) (setG_own rfl) hw d hq kk
theorem g_text_coins  {idx : Nat} (hw : Cond.fieldLink own idx RX2 (TX2 5).2.1 (TX2 5).2.2.1 ∈ gt) (d : decode cc pc = .ok (.getfield idx, 3)) (hq : pc + 3 = q)
    (kk : AW l own nm cc nL ret X R E D (tyC C) Z w0 q lv (.ref (ad (106)) :: st) (cw ad C G) k n) : AW l own nm cc nL ret X R E D (tyC C) Z w0 pc lv (.ref (ad (104)) :: st) (cw ad C G) k n :=
  aw_cget (id := 104) (ci := 2) (TT := TX2) (j := 5) (by omega) (cell_104 ad C _) rfl (by decide) gX2 rfl hw rfl d hq kk
theorem g_text_at  {idx : Nat} {v : Int} (hv : G 7 (6) = v) (hw : Cond.fieldLink own idx RX2 (TX2 6).2.1 (TX2 6).2.2.1 ∈ gt) (d : decode cc pc = .ok (.getfield idx, 3)) (hq : pc + 3 = q)
    (kk : AW l own nm cc nL ret X R E D (tyC C) Z w0 q lv (.int (iI v) :: st) (cw ad C G) k n) : AW l own nm cc nL ret X R E D (tyC C) Z w0 pc lv (.ref (ad (104)) :: st) (cw ad C G) k n := by
  subst hv
  exact aw_cget (id := 104) (ci := 2) (TT := TX2) (j := 6) (by omega) (cell_104 ad C _) rfl (by decide) gX2 rfl hw rfl d hq kk
theorem p_text_at  {idx : Nat} {v : Int} (hw : Cond.fieldLink own idx RX2 (TX2 6).2.1 (TX2 6).2.2.1 ∈ gt) (d : decode cc pc = .ok (.putfield idx, 3)) (hq : pc + 3 = q)
    (kk : AW l own nm cc nL ret X R E D (tyC C) Z w0 q lv st (cw ad C (setG G 7 (6) v)) k n) : AW l own nm cc nL ret X R E D (tyC C) Z w0 pc lv (.int (iI v) :: .ref (ad (104)) :: st) (cw ad C G) k n := by
  exact aw_cput (id := 104) (ci := 2) (TT := TX2) (j := 6) (by omega) (cell_104 ad C _) rfl (by decide) gX2 rfl tyX2 tyX2_ok nmX2 rfl rfl rfl (Nat.le_of_ble_eq_true rfl) (by rw [cell_104 ad C _]; simp [setG]) (setG_own rfl) hw d hq kk
theorem g_text_error  {idx : Nat} {v : Int} (hv : G 7 (7) = v) (hw : Cond.fieldLink own idx RX2 (TX2 7).2.1 (TX2 7).2.2.1 ∈ gt) (d : decode cc pc = .ok (.getfield idx, 3)) (hq : pc + 3 = q)
    (kk : AW l own nm cc nL ret X R E D (tyC C) Z w0 q lv (.int (iI v) :: st) (cw ad C G) k n) : AW l own nm cc nL ret X R E D (tyC C) Z w0 pc lv (.ref (ad (104)) :: st) (cw ad C G) k n := by
  subst hv
  exact aw_cget (id := 104) (ci := 2) (TT := TX2) (j := 7) (by omega) (cell_104 ad C _) rfl (by decide) gX2 rfl hw rfl d hq kk
theorem p_text_error  {idx : Nat} {v : Int} (hw : Cond.fieldLink own idx RX2 (TX2 7).2.1 (TX2 7).2.2.1 ∈ gt) (d : decode cc pc = .ok (.putfield idx, 3)) (hq : pc + 3 = q)
    (kk : AW l own nm cc nL ret X R E D (tyC C) Z w0 q lv st (cw ad C (setG G 7 (7) v)) k n) : AW l own nm cc nL ret X R E D (tyC C) Z w0 pc lv (.int (iI v) :: .ref (ad (104)) :: st) (cw ad C G) k n := by
  exact aw_cput (id := 104) (ci := 2) (TT := TX2) (j := 7) (by omega) (cell_104 ad C _) rfl (by decide) gX2 rfl tyX2 tyX2_ok nmX2 rfl rfl rfl (Nat.le_of_ble_eq_true rfl) (by rw [cell_104 ad C _]; simp [setG]) (setG_own rfl) hw d hq kk
theorem g_mod_p  {idx : Nat} (hw : Cond.fieldLink own idx RX6 (TX6 0).2.1 (TX6 0).2.2.1 ∈ gt) (d : decode cc pc = .ok (.getfield idx, 3)) (hq : pc + 3 = q)
    (kk : AW l own nm cc nL ret X R E D (tyC C) Z w0 q lv (.ref (ad (109)) :: st) (cw ad C G) k n) : AW l own nm cc nL ret X R E D (tyC C) Z w0 pc lv (.ref (ad (108)) :: st) (cw ad C G) k n :=
  aw_cget (id := 108) (ci := 6) (TT := TX6) (j := 0) (by omega) (cell_108 ad C _) rfl (by decide) gX6 rfl hw rfl d hq kk
theorem g_mod_aside  {idx : Nat} (hw : Cond.fieldLink own idx RX6 (TX6 1).2.1 (TX6 1).2.2.1 ∈ gt) (d : decode cc pc = .ok (.getfield idx, 3)) (hq : pc + 3 = q)
    (kk : AW l own nm cc nL ret X R E D (tyC C) Z w0 q lv (.ref (ad (110)) :: st) (cw ad C G) k n) : AW l own nm cc nL ret X R E D (tyC C) Z w0 pc lv (.ref (ad (108)) :: st) (cw ad C G) k n :=
  aw_cget (id := 108) (ci := 6) (TT := TX6) (j := 1) (by omega) (cell_108 ad C _) rfl (by decide) gX6 rfl hw rfl d hq kk
theorem g_mod_trial  {idx : Nat} (hw : Cond.fieldLink own idx RX6 (TX6 2).2.1 (TX6 2).2.2.1 ∈ gt) (d : decode cc pc = .ok (.getfield idx, 3)) (hq : pc + 3 = q)
    (kk : AW l own nm cc nL ret X R E D (tyC C) Z w0 q lv (.ref (ad (111)) :: st) (cw ad C G) k n) : AW l own nm cc nL ret X R E D (tyC C) Z w0 pc lv (.ref (ad (108)) :: st) (cw ad C G) k n :=
  aw_cget (id := 108) (ci := 6) (TT := TX6) (j := 2) (by omega) (cell_108 ad C _) rfl (by decide) gX6 rfl hw rfl d hq kk
theorem g_mod_saved  {idx : Nat} (hw : Cond.fieldLink own idx RX6 (TX6 3).2.1 (TX6 3).2.2.1 ∈ gt) (d : decode cc pc = .ok (.getfield idx, 3)) (hq : pc + 3 = q)
    (kk : AW l own nm cc nL ret X R E D (tyC C) Z w0 q lv (.ref (ad (112)) :: st) (cw ad C G) k n) : AW l own nm cc nL ret X R E D (tyC C) Z w0 pc lv (.ref (ad (108)) :: st) (cw ad C G) k n :=
  aw_cget (id := 108) (ci := 6) (TT := TX6) (j := 3) (by omega) (cell_108 ad C _) rfl (by decide) gX6 rfl hw rfl d hq kk
theorem g_mod_states  {idx : Nat} {v : Int} (hv : G 11 (4) = v) (hw : Cond.fieldLink own idx RX6 (TX6 4).2.1 (TX6 4).2.2.1 ∈ gt) (d : decode cc pc = .ok (.getfield idx, 3)) (hq : pc + 3 = q)
    (kk : AW l own nm cc nL ret X R E D (tyC C) Z w0 q lv (.int (iI v) :: st) (cw ad C G) k n) : AW l own nm cc nL ret X R E D (tyC C) Z w0 pc lv (.ref (ad (108)) :: st) (cw ad C G) k n := by
  subst hv
  exact aw_cget (id := 108) (ci := 6) (TT := TX6) (j := 4) (by omega) (cell_108 ad C _) rfl (by decide) gX6 rfl hw rfl d hq kk
theorem p_mod_states  {idx : Nat} {v : Int} (hw : Cond.fieldLink own idx RX6 (TX6 4).2.1 (TX6 4).2.2.1 ∈ gt) (d : decode cc pc = .ok (.putfield idx, 3)) (hq : pc + 3 = q)
    (kk : AW l own nm cc nL ret X R E D (tyC C) Z w0 q lv st (cw ad C (setG G 11 (4) v)) k n) : AW l own nm cc nL ret X R E D (tyC C) Z w0 pc lv (.int (iI v) :: .ref (ad (108)) :: st) (cw ad C G) k n := by
  exact aw_cput (id := 108) (ci := 6) (TT := TX6) (j := 4) (by omega) (cell_108 ad C _) rfl (by decide) gX6 rfl tyX6 tyX6_ok nmX6 rfl rfl rfl (Nat.le_of_ble_eq_true rfl) (by rw [cell_108 ad C _]; simp [setG]) (setG_own rfl) hw d hq kk
theorem g_mod_text  {idx : Nat} (hw : Cond.fieldLink own idx RX6 (TX6 5).2.1 (TX6 5).2.2.1 ∈ gt) (d : decode cc pc = .ok (.getfield idx, 3)) (hq : pc + 3 = q)
    (kk : AW l own nm cc nL ret X R E D (tyC C) Z w0 q lv (.ref (ad (113)) :: st) (cw ad C G) k n) : AW l own nm cc nL ret X R E D (tyC C) Z w0 pc lv (.ref (ad (108)) :: st) (cw ad C G) k n :=
  aw_cget (id := 108) (ci := 6) (TT := TX6) (j := 5) (by omega) (cell_108 ad C _) rfl (by decide) gX6 rfl hw rfl d hq kk
theorem g_mod_length  {idx : Nat} {v : Int} (hv : G 11 (6) = v) (hw : Cond.fieldLink own idx RX6 (TX6 6).2.1 (TX6 6).2.2.1 ∈ gt) (d : decode cc pc = .ok (.getfield idx, 3)) (hq : pc + 3 = q)
    (kk : AW l own nm cc nL ret X R E D (tyC C) Z w0 q lv (.int (iI v) :: st) (cw ad C G) k n) : AW l own nm cc nL ret X R E D (tyC C) Z w0 pc lv (.ref (ad (108)) :: st) (cw ad C G) k n := by
  subst hv
  exact aw_cget (id := 108) (ci := 6) (TT := TX6) (j := 6) (by omega) (cell_108 ad C _) rfl (by decide) gX6 rfl hw rfl d hq kk
theorem p_mod_length  {idx : Nat} {v : Int} (hw : Cond.fieldLink own idx RX6 (TX6 6).2.1 (TX6 6).2.2.1 ∈ gt) (d : decode cc pc = .ok (.putfield idx, 3)) (hq : pc + 3 = q)
    (kk : AW l own nm cc nL ret X R E D (tyC C) Z w0 q lv st (cw ad C (setG G 11 (6) v)) k n) : AW l own nm cc nL ret X R E D (tyC C) Z w0 pc lv (.int (iI v) :: .ref (ad (108)) :: st) (cw ad C G) k n := by
  exact aw_cput (id := 108) (ci := 6) (TT := TX6) (j := 6) (by omega) (cell_108 ad C _) rfl (by decide) gX6 rfl tyX6 tyX6_ok nmX6 rfl rfl rfl (Nat.le_of_ble_eq_true rfl) (by rw [cell_108 ad C _]; simp [setG]) (setG_own rfl) hw d hq kk
theorem g_mod_thrown  {idx : Nat} {v : Int} (hv : G 11 (7) = v) (hw : Cond.fieldLink own idx RX6 (TX6 7).2.1 (TX6 7).2.2.1 ∈ gt) (d : decode cc pc = .ok (.getfield idx, 3)) (hq : pc + 3 = q)
    (kk : AW l own nm cc nL ret X R E D (tyC C) Z w0 q lv (.int (iI v) :: st) (cw ad C G) k n) : AW l own nm cc nL ret X R E D (tyC C) Z w0 pc lv (.ref (ad (108)) :: st) (cw ad C G) k n := by
  subst hv
  exact aw_cget (id := 108) (ci := 6) (TT := TX6) (j := 7) (by omega) (cell_108 ad C _) rfl (by decide) gX6 rfl hw rfl d hq kk
theorem p_mod_thrown  {idx : Nat} {v : Int} (hw : Cond.fieldLink own idx RX6 (TX6 7).2.1 (TX6 7).2.2.1 ∈ gt) (d : decode cc pc = .ok (.putfield idx, 3)) (hq : pc + 3 = q)
    (kk : AW l own nm cc nL ret X R E D (tyC C) Z w0 q lv st (cw ad C (setG G 11 (7) v)) k n) : AW l own nm cc nL ret X R E D (tyC C) Z w0 pc lv (.int (iI v) :: .ref (ad (108)) :: st) (cw ad C G) k n := by
  exact aw_cput (id := 108) (ci := 6) (TT := TX6) (j := 7) (by omega) (cell_108 ad C _) rfl (by decide) gX6 rfl tyX6 tyX6_ok nmX6 rfl rfl rfl (Nat.le_of_ble_eq_true rfl) (by rw [cell_108 ad C _]; simp [setG]) (setG_own rfl) hw d hq kk
theorem g_mod_code  {idx : Nat} {v : Int} (hv : G 11 (8) = v) (hw : Cond.fieldLink own idx RX6 (TX6 8).2.1 (TX6 8).2.2.1 ∈ gt) (d : decode cc pc = .ok (.getfield idx, 3)) (hq : pc + 3 = q)
    (kk : AW l own nm cc nL ret X R E D (tyC C) Z w0 q lv (.int (iI v) :: st) (cw ad C G) k n) : AW l own nm cc nL ret X R E D (tyC C) Z w0 pc lv (.ref (ad (108)) :: st) (cw ad C G) k n := by
  subst hv
  exact aw_cget (id := 108) (ci := 6) (TT := TX6) (j := 8) (by omega) (cell_108 ad C _) rfl (by decide) gX6 rfl hw rfl d hq kk
theorem p_mod_code  {idx : Nat} {v : Int} (hw : Cond.fieldLink own idx RX6 (TX6 8).2.1 (TX6 8).2.2.1 ∈ gt) (d : decode cc pc = .ok (.putfield idx, 3)) (hq : pc + 3 = q)
    (kk : AW l own nm cc nL ret X R E D (tyC C) Z w0 q lv st (cw ad C (setG G 11 (8) v)) k n) : AW l own nm cc nL ret X R E D (tyC C) Z w0 pc lv (.int (iI v) :: .ref (ad (108)) :: st) (cw ad C G) k n := by
  exact aw_cput (id := 108) (ci := 6) (TT := TX6) (j := 8) (by omega) (cell_108 ad C _) rfl (by decide) gX6 rfl tyX6 tyX6_ok nmX6 rfl rfl rfl (Nat.le_of_ble_eq_true rfl) (by rw [cell_108 ad C _]; simp [setG]) (setG_own rfl) hw d hq kk
theorem g_mod_coins  {idx : Nat} (hw : Cond.fieldLink own idx RX6 (TX6 9).2.1 (TX6 9).2.2.1 ∈ gt) (d : decode cc pc = .ok (.getfield idx, 3)) (hq : pc + 3 = q)
    (kk : AW l own nm cc nL ret X R E D (tyC C) Z w0 q lv (.ref (ad (114)) :: st) (cw ad C G) k n) : AW l own nm cc nL ret X R E D (tyC C) Z w0 pc lv (.ref (ad (108)) :: st) (cw ad C G) k n :=
  aw_cget (id := 108) (ci := 6) (TT := TX6) (j := 9) (by omega) (cell_108 ad C _) rfl (by decide) gX6 rfl hw rfl d hq kk
theorem g_mod_put  {idx : Nat} (hw : Cond.fieldLink own idx RX6 (TX6 10).2.1 (TX6 10).2.2.1 ∈ gt) (d : decode cc pc = .ok (.getfield idx, 3)) (hq : pc + 3 = q)
    (kk : AW l own nm cc nL ret X R E D (tyC C) Z w0 q lv (.ref (ad (115)) :: st) (cw ad C G) k n) : AW l own nm cc nL ret X R E D (tyC C) Z w0 pc lv (.ref (ad (108)) :: st) (cw ad C G) k n :=
  aw_cget (id := 108) (ci := 6) (TT := TX6) (j := 10) (by omega) (cell_108 ad C _) rfl (by decide) gX6 rfl hw rfl d hq kk
theorem g_mod_reached  {idx : Nat} (hw : Cond.fieldLink own idx RX6 (TX6 11).2.1 (TX6 11).2.2.1 ∈ gt) (d : decode cc pc = .ok (.getfield idx, 3)) (hq : pc + 3 = q)
    (kk : AW l own nm cc nL ret X R E D (tyC C) Z w0 q lv (.ref (ad (116)) :: st) (cw ad C G) k n) : AW l own nm cc nL ret X R E D (tyC C) Z w0 pc lv (.ref (ad (108)) :: st) (cw ad C G) k n :=
  aw_cget (id := 108) (ci := 6) (TT := TX6) (j := 11) (by omega) (cell_108 ad C _) rfl (by decide) gX6 rfl hw rfl d hq kk
theorem g_mod_before  {idx : Nat} (hw : Cond.fieldLink own idx RX6 (TX6 12).2.1 (TX6 12).2.2.1 ∈ gt) (d : decode cc pc = .ok (.getfield idx, 3)) (hq : pc + 3 = q)
    (kk : AW l own nm cc nL ret X R E D (tyC C) Z w0 q lv (.ref (ad (117)) :: st) (cw ad C G) k n) : AW l own nm cc nL ret X R E D (tyC C) Z w0 pc lv (.ref (ad (108)) :: st) (cw ad C G) k n :=
  aw_cget (id := 108) (ci := 6) (TT := TX6) (j := 12) (by omega) (cell_108 ad C _) rfl (by decide) gX6 rfl hw rfl d hq kk
theorem g_mod_at  {idx : Nat} {v : Int} (hv : G 11 (13) = v) (hw : Cond.fieldLink own idx RX6 (TX6 13).2.1 (TX6 13).2.2.1 ∈ gt) (d : decode cc pc = .ok (.getfield idx, 3)) (hq : pc + 3 = q)
    (kk : AW l own nm cc nL ret X R E D (tyC C) Z w0 q lv (.int (iI v) :: st) (cw ad C G) k n) : AW l own nm cc nL ret X R E D (tyC C) Z w0 pc lv (.ref (ad (108)) :: st) (cw ad C G) k n := by
  subst hv
  exact aw_cget (id := 108) (ci := 6) (TT := TX6) (j := 13) (by omega) (cell_108 ad C _) rfl (by decide) gX6 rfl hw rfl d hq kk
theorem p_mod_at  {idx : Nat} {v : Int} (hw : Cond.fieldLink own idx RX6 (TX6 13).2.1 (TX6 13).2.2.1 ∈ gt) (d : decode cc pc = .ok (.putfield idx, 3)) (hq : pc + 3 = q)
    (kk : AW l own nm cc nL ret X R E D (tyC C) Z w0 q lv st (cw ad C (setG G 11 (13) v)) k n) : AW l own nm cc nL ret X R E D (tyC C) Z w0 pc lv (.int (iI v) :: .ref (ad (108)) :: st) (cw ad C G) k n := by
  exact aw_cput (id := 108) (ci := 6) (TT := TX6) (j := 13) (by omega) (cell_108 ad C _) rfl (by decide) gX6 rfl tyX6 tyX6_ok nmX6 rfl rfl rfl (Nat.le_of_ble_eq_true rfl) (by rw [cell_108 ad C _]; simp [setG]) (setG_own rfl) hw d hq kk
theorem g_mod_letter  {idx : Nat} {v : Int} (hv : G 11 (14) = v) (hw : Cond.fieldLink own idx RX6 (TX6 14).2.1 (TX6 14).2.2.1 ∈ gt) (d : decode cc pc = .ok (.getfield idx, 3)) (hq : pc + 3 = q)
    (kk : AW l own nm cc nL ret X R E D (tyC C) Z w0 q lv (.int (iI v) :: st) (cw ad C G) k n) : AW l own nm cc nL ret X R E D (tyC C) Z w0 pc lv (.ref (ad (108)) :: st) (cw ad C G) k n := by
  subst hv
  exact aw_cget (id := 108) (ci := 6) (TT := TX6) (j := 14) (by omega) (cell_108 ad C _) rfl (by decide) gX6 rfl hw rfl d hq kk
theorem p_mod_letter  {idx : Nat} {v : Int} (hw : Cond.fieldLink own idx RX6 (TX6 14).2.1 (TX6 14).2.2.1 ∈ gt) (d : decode cc pc = .ok (.putfield idx, 3)) (hq : pc + 3 = q)
    (kk : AW l own nm cc nL ret X R E D (tyC C) Z w0 q lv st (cw ad C (setG G 11 (14) v)) k n) : AW l own nm cc nL ret X R E D (tyC C) Z w0 pc lv (.int (iI v) :: .ref (ad (108)) :: st) (cw ad C G) k n := by
  exact aw_cput (id := 108) (ci := 6) (TT := TX6) (j := 14) (by omega) (cell_108 ad C _) rfl (by decide) gX6 rfl tyX6 tyX6_ok nmX6 rfl rfl rfl (Nat.le_of_ble_eq_true rfl) (by rw [cell_108 ad C _]; simp [setG]) (setG_own rfl) hw d hq kk
theorem g_mod_number  {idx : Nat} {v : Int} (hv : G 11 (15) = v) (hw : Cond.fieldLink own idx RX6 (TX6 15).2.1 (TX6 15).2.2.1 ∈ gt) (d : decode cc pc = .ok (.getfield idx, 3)) (hq : pc + 3 = q)
    (kk : AW l own nm cc nL ret X R E D (tyC C) Z w0 q lv (.int (iI v) :: st) (cw ad C G) k n) : AW l own nm cc nL ret X R E D (tyC C) Z w0 pc lv (.ref (ad (108)) :: st) (cw ad C G) k n := by
  subst hv
  exact aw_cget (id := 108) (ci := 6) (TT := TX6) (j := 15) (by omega) (cell_108 ad C _) rfl (by decide) gX6 rfl hw rfl d hq kk
theorem p_mod_number  {idx : Nat} {v : Int} (hw : Cond.fieldLink own idx RX6 (TX6 15).2.1 (TX6 15).2.2.1 ∈ gt) (d : decode cc pc = .ok (.putfield idx, 3)) (hq : pc + 3 = q)
    (kk : AW l own nm cc nL ret X R E D (tyC C) Z w0 q lv st (cw ad C (setG G 11 (15) v)) k n) : AW l own nm cc nL ret X R E D (tyC C) Z w0 pc lv (.int (iI v) :: .ref (ad (108)) :: st) (cw ad C G) k n := by
  exact aw_cput (id := 108) (ci := 6) (TT := TX6) (j := 15) (by omega) (cell_108 ad C _) rfl (by decide) gX6 rfl tyX6 tyX6_ok nmX6 rfl rfl rfl (Nat.le_of_ble_eq_true rfl) (by rw [cell_108 ad C _]; simp [setG]) (setG_own rfl) hw d hq kk
theorem g_mod_digit  {idx : Nat} {v : Int} (hv : G 11 (16) = v) (hw : Cond.fieldLink own idx RX6 (TX6 16).2.1 (TX6 16).2.2.1 ∈ gt) (d : decode cc pc = .ok (.getfield idx, 3)) (hq : pc + 3 = q)
    (kk : AW l own nm cc nL ret X R E D (tyC C) Z w0 q lv (.int (iI v) :: st) (cw ad C G) k n) : AW l own nm cc nL ret X R E D (tyC C) Z w0 pc lv (.ref (ad (108)) :: st) (cw ad C G) k n := by
  subst hv
  exact aw_cget (id := 108) (ci := 6) (TT := TX6) (j := 16) (by omega) (cell_108 ad C _) rfl (by decide) gX6 rfl hw rfl d hq kk
theorem p_mod_digit  {idx : Nat} {v : Int} (hw : Cond.fieldLink own idx RX6 (TX6 16).2.1 (TX6 16).2.2.1 ∈ gt) (d : decode cc pc = .ok (.putfield idx, 3)) (hq : pc + 3 = q)
    (kk : AW l own nm cc nL ret X R E D (tyC C) Z w0 q lv st (cw ad C (setG G 11 (16) v)) k n) : AW l own nm cc nL ret X R E D (tyC C) Z w0 pc lv (.int (iI v) :: .ref (ad (108)) :: st) (cw ad C G) k n := by
  exact aw_cput (id := 108) (ci := 6) (TT := TX6) (j := 16) (by omega) (cell_108 ad C _) rfl (by decide) gX6 rfl tyX6 tyX6_ok nmX6 rfl rfl rfl (Nat.le_of_ble_eq_true rfl) (by rw [cell_108 ad C _]; simp [setG]) (setG_own rfl) hw d hq kk
theorem g_mod_which  {idx : Nat} {v : Int} (hv : G 11 (17) = v) (hw : Cond.fieldLink own idx RX6 (TX6 17).2.1 (TX6 17).2.2.1 ∈ gt) (d : decode cc pc = .ok (.getfield idx, 3)) (hq : pc + 3 = q)
    (kk : AW l own nm cc nL ret X R E D (tyC C) Z w0 q lv (.int (iI v) :: st) (cw ad C G) k n) : AW l own nm cc nL ret X R E D (tyC C) Z w0 pc lv (.ref (ad (108)) :: st) (cw ad C G) k n := by
  subst hv
  exact aw_cget (id := 108) (ci := 6) (TT := TX6) (j := 17) (by omega) (cell_108 ad C _) rfl (by decide) gX6 rfl hw rfl d hq kk
theorem p_mod_which  {idx : Nat} {v : Int} (hw : Cond.fieldLink own idx RX6 (TX6 17).2.1 (TX6 17).2.2.1 ∈ gt) (d : decode cc pc = .ok (.putfield idx, 3)) (hq : pc + 3 = q)
    (kk : AW l own nm cc nL ret X R E D (tyC C) Z w0 q lv st (cw ad C (setG G 11 (17) v)) k n) : AW l own nm cc nL ret X R E D (tyC C) Z w0 pc lv (.int (iI v) :: .ref (ad (108)) :: st) (cw ad C G) k n := by
  exact aw_cput (id := 108) (ci := 6) (TT := TX6) (j := 17) (by omega) (cell_108 ad C _) rfl (by decide) gX6 rfl tyX6 tyX6_ok nmX6 rfl rfl rfl (Nat.le_of_ble_eq_true rfl) (by rw [cell_108 ad C _]; simp [setG]) (setG_own rfl) hw d hq kk
theorem g_mod_hash  {idx : Nat} {v : Int} (hv : G 11 (18) = v) (hw : Cond.fieldLink own idx RX6 (TX6 18).2.1 (TX6 18).2.2.1 ∈ gt) (d : decode cc pc = .ok (.getfield idx, 3)) (hq : pc + 3 = q)
    (kk : AW l own nm cc nL ret X R E D (tyC C) Z w0 q lv (.long (iL v) :: st) (cw ad C G) k n) : AW l own nm cc nL ret X R E D (tyC C) Z w0 pc lv (.ref (ad (108)) :: st) (cw ad C G) k n := by
  subst hv
  exact aw_cget (id := 108) (ci := 6) (TT := TX6) (j := 18) (by omega) (cell_108 ad C _) rfl (by decide) gX6 rfl hw rfl d hq kk
theorem p_mod_hash  {idx : Nat} {v : Int} (hw : Cond.fieldLink own idx RX6 (TX6 18).2.1 (TX6 18).2.2.1 ∈ gt) (d : decode cc pc = .ok (.putfield idx, 3)) (hq : pc + 3 = q)
    (kk : AW l own nm cc nL ret X R E D (tyC C) Z w0 q lv st (cw ad C (setG G 11 (18) v)) k n) : AW l own nm cc nL ret X R E D (tyC C) Z w0 pc lv (.long (iL v) :: .ref (ad (108)) :: st) (cw ad C G) k n := by
  exact aw_cput (id := 108) (ci := 6) (TT := TX6) (j := 18) (by omega) (cell_108 ad C _) rfl (by decide) gX6 rfl tyX6 tyX6_ok nmX6 rfl rfl rfl (Nat.le_of_ble_eq_true rfl) (by rw [cell_108 ad C _]; simp [setG]) (setG_own rfl) hw d hq kk
theorem aw_coil {i e : Int} (hi : 0 ≤ i ∧ i < 6) (he : 0 ≤ e ∧ e < 8) (d : decode cc pc = .ok (.aaload, 1)) (hq : pc + 1 = q)
    (kk : AW l own nm cc nL ret X R E D (tyC C) Z w0 q lv (.ref (ad (17 * i + 9 + e)) :: st) (cw ad C G) k n) : AW l own nm cc nL ret X R E D (tyC C) Z w0 pc lv (.int (iI e) :: .ref (ad (17 * i + 1)) :: st) (cw ad C G) k n := by
  refine aw_ald (17 * i + 1).toNat 2 (by rw [cw_get (by omega), cell_coils ad C G hi]) rfl (iI_in (n := 8) he (by omega)) ?_ d hq kk
  rw [iI_nat (by omega)]
  have h1 : e.toNat < 8 := by omega
  have h2 : ((e.toNat : Nat) : Int) = e := by omega
  simp only [rowR, h1, if_true, h2]
theorem aw_saved {e m : Int} (he : 0 ≤ e ∧ e < 4) (hm : G 6 (10 + e) = m) (d : decode cc pc = .ok (.aaload, 1)) (hq : pc + 1 = q)
    (kk : AW l own nm cc nL ret X R E D (tyC C) Z w0 q lv (.ref (ad (17 * m)) :: st) (cw ad C G) k n) : AW l own nm cc nL ret X R E D (tyC C) Z w0 pc lv (.int (iI e) :: .ref (ad 103) :: st) (cw ad C G) k n := by
  refine aw_ald 103 3 (by rw [show (103 : Nat) = (103 : Int).toNat from rfl, cw_get (by omega), cell_103]) rfl (iI_in (n := 4) he (by omega)) ?_ d hq kk
  rw [iI_nat (by omega)]
  have h1 : e.toNat < 4 := by omega
  have h2 : ((e.toNat : Nat) : Int) = e := by omega
  simp only [rowR, h1, if_true, h2, hm]
theorem aw_savedPut {e m : Int} (he : 0 ≤ e ∧ e < 4) (hm : 0 ≤ m ∧ m < 6) (d : decode cc pc = .ok (.aastore, 1)) (hq : pc + 1 = q)
    (kk : AW l own nm cc nL ret X R E D (tyC C) Z w0 q lv st (cw ad C (setG G 6 (10 + e) m)) k n) : AW l own nm cc nL ret X R E D (tyC C) Z w0 pc lv (.ref (ad (17 * m)) :: .int (iI e) :: .ref (ad 103) :: st) (cw ad C G) k n := by
  refine aw_ast (r := (RX1, TX1, 6)) (ci := 1) 103 3 (17 * m).toNat (by rw [show (103 : Nat) = (103 : Int).toNat from rfl, cw_get (by omega), cell_103]) rfl (by rw [cw_get (by omega), cell_mach ad C G hm]) rfl (iI_in (n := 4) he (by omega)) d hq ?_
  rw [iI_nat (by omega), show (103 : Nat) = (103 : Int).toNat from rfl, cw_set (G1 := setG G 6 (10 + e) m) (by omega) ?_ (setG_own (by unfold ownr; rw [if_neg (by omega), if_pos rfl, if_neg (by omega)]))]
  · exact kk
  · rw [cell_103]
    have e9 : rowR ad (fun j => 17 * setG G 6 (10 + e) m 6 (10 + j)) 4 = va_up (rowR ad (fun j => 17 * G 6 (10 + j)) 4) e.toNat (some (ad (17 * m))) := by
      funext j
      by_cases hj : j = e.toNat
      · subst hj
        have h1 : e.toNat < 4 := by omega
        have h2 : ((e.toNat : Nat) : Int) = e := by omega
        simp only [rowR, va_up, h1, if_true, h2, setG_same]
      · have h3 : ¬ ((6 : Int) = 6 ∧ 10 + (j : Int) = 10 + e) := by omega
        simp only [rowR, va_up, if_neg hj, setG_ne h3]
    rw [e9]
theorem aw_czal {e v : Int} (he : 0 ≤ e ∧ e < 401) (hv : G 19 e = v) (d : decode cc pc = .ok (.baload, 1)) (hq : pc + 1 = q)
    (kk : AW l own nm cc nL ret X R E D (tyC C) Z w0 q lv (.int (iI v) :: st) (cw ad C G) k n) : AW l own nm cc nL ret X R E D (tyC C) Z w0 pc lv (.int (iI e) :: .ref (ad 116) :: st) (cw ad C G) k n := by
  refine aw_zald 116 1 (by rw [show (116 : Nat) = (116 : Int).toNat from rfl, cw_get (by omega), cell_116]) rfl (iI_in (n := 401) he (by omega)) d hq ?_
  rw [iI_nat (by omega), rowI_get he, Int.zero_add, hv]
  exact kk
theorem aw_czas {e v : Int} (he : 0 ≤ e ∧ e < 401) (hv : v = 0 ∨ v = 1) (d : decode cc pc = .ok (.bastore, 1)) (hq : pc + 1 = q)
    (kk : AW l own nm cc nL ret X R E D (tyC C) Z w0 q lv st (cw ad C (setG G 19 e v)) k n) : AW l own nm cc nL ret X R E D (tyC C) Z w0 pc lv (.int (iI v) :: .int (iI e) :: .ref (ad 116) :: st) (cw ad C G) k n := by
  refine aw_zast 116 1 (by rw [show (116 : Nat) = (116 : Int).toNat from rfl, cw_get (by omega), cell_116]) rfl (iI_in (n := 401) he (by omega)) d hq ?_
  rw [iI_nat (by omega), show vp_nar .boolean (iI v) = iI v by rcases hv with rfl | rfl <;> decide, rowI_upd he, Int.zero_add, show (116 : Nat) = (116 : Int).toNat from rfl, cw_set (G1 := setG G 19 e v) (by omega) (cell_116 ad C _) (setG_own rfl)]
  exact kk
theorem aw_out {e v : Int} (he : e = 0) (hv : G 21 0 = v) (d : decode cc pc = .ok (.laload, 1)) (hq : pc + 1 = q)
    (kk : AW l own nm cc nL ret X R E D (tyC C) Z w0 q lv (.long (iL v) :: st) (cw ad C G) k n) : AW l own nm cc nL ret X R E D (tyC C) Z w0 pc lv (.int (iI e) :: .ref (ad 118) :: st) (cw ad C G) k n := by
  subst he
  refine aw_lald 118 4 (by rw [show (118 : Nat) = (118 : Int).toNat from rfl, cw_get (by omega), cell_118]) rfl (iI_in (n := 1) (by omega) (by omega)) d hq ?_
  subst hv
  exact kk
theorem aw_outPut {e v : Int} (he : e = 0) (d : decode cc pc = .ok (.lastore, 1)) (hq : pc + 1 = q)
    (kk : AW l own nm cc nL ret X R E D (tyC C) Z w0 q lv st (cw ad C (setG G 21 0 v)) k n) : AW l own nm cc nL ret X R E D (tyC C) Z w0 pc lv (.long (iL v) :: .int (iI e) :: .ref (ad 118) :: st) (cw ad C G) k n := by
  subst he
  refine aw_last 118 4 (by rw [show (118 : Nat) = (118 : Int).toNat from rfl, cw_get (by omega), cell_118]) rfl (iI_in (n := 1) (by omega) (by omega)) d hq ?_
  rw [iI_nat (by omega), rowL_upd (n := 1) (by omega), Int.zero_add, show (118 : Nat) = (118 : Int).toNat from rfl, cw_set (G1 := setG G 21 0 v) (by omega) (cell_118 ad C _) (setG_own rfl)]
  exact kk
theorem aw_outD {e v : Int} (he : e = 0) (hv : G 22 0 = v) (d : decode cc pc = .ok (.daload, 1)) (hq : pc + 1 = q)
    (kk : AW l own nm cc nL ret X R E D (tyC C) Z w0 q lv (.double (dB v) :: st) (cw ad C G) k n) : AW l own nm cc nL ret X R E D (tyC C) Z w0 pc lv (.int (iI e) :: .ref (ad 119) :: st) (cw ad C G) k n := by
  subst he
  refine aw_dald 119 5 (by rw [show (119 : Nat) = (119 : Int).toNat from rfl, cw_get (by omega), cell_119]) rfl (iI_in (n := 1) (by omega) (by omega)) d hq ?_
  subst hv
  exact kk
theorem aw_outDPut {e v : Int} {x : UInt64} (hx : dB v = x) (he : e = 0) (d : decode cc pc = .ok (.dastore, 1)) (hq : pc + 1 = q)
    (kk : AW l own nm cc nL ret X R E D (tyC C) Z w0 q lv st (cw ad C (setG G 22 0 v)) k n) : AW l own nm cc nL ret X R E D (tyC C) Z w0 pc lv (.double x :: .int (iI e) :: .ref (ad 119) :: st) (cw ad C G) k n := by
  subst he hx
  refine aw_dast 119 5 (by rw [show (119 : Nat) = (119 : Int).toNat from rfl, cw_get (by omega), cell_119]) rfl (iI_in (n := 1) (by omega) (by omega)) d hq ?_
  rw [iI_nat (by omega), rowD_upd (n := 1) (by omega), Int.zero_add, show (119 : Nat) = (119 : Int).toNat from rfl, cw_set (G1 := setG G 22 0 v) (by omega) (cell_119 ad C _) (setG_own rfl)]
  exact kk
end RWK
end
section
def b2i (p : Prop) [Decidable p] : Int := if p then 1 else 0
theorem b2i_t {p : Prop} [Decidable p] (h : p) : b2i p = 1 := if_pos h
theorem b2i_f {p : Prop} [Decidable p] (h : ¬ p) : b2i p = 0 := if_neg h
theorem b2i_r (p : Prop) [Decidable p] : b2i p = 0 ∨ b2i p = 1 := by by_cases h : p <;> simp [b2i, h]
theorem b2i_b (p : Prop) [Decidable p] : 0 ≤ b2i p ∧ b2i p ≤ 1 := by rcases b2i_r p with h | h <;> omega
theorem b2i_0 {p : Prop} [Decidable p] : b2i p = 0 ↔ ¬ p := by by_cases h : p <;> simp [b2i, h]
theorem b2i_1 {p : Prop} [Decidable p] : b2i p = 1 ↔ p := by by_cases h : p <;> simp [b2i, h]
theorem b2i_c {p q : Prop} [Decidable p] [Decidable q] (h : p ↔ q) : b2i p = b2i q := by by_cases h2 : p <;> simp [b2i, h2, ← h]
theorem iI_div {x y : Int} (hx : 0 ≤ x ∧ x ≤ 2147483647) (hy : 0 < y ∧ y ≤ 2147483647) : iI x / iI y = iI (x / y) := by
  have h1 : 0 ≤ x / y := Int.ediv_nonneg hx.1 (by omega)
  have h2 : x / y ≤ x := Int.ediv_le_self y hx.1
  apply Int32.toInt_inj.mp
  rw [Int32.toInt_div, iI_toInt (x := x) (by omega), iI_toInt (x := y) (by omega), iI_toInt (x := x / y) (by omega), Int.tdiv_eq_ediv_of_nonneg hx.1]
  rw [Int.bmod_eq_of_le (by omega) (by omega)]
abbrev GG : Type := Int → Int → Int
def RI (ad : Int → Nat) (C : Nat → ClassId) (P : Int → GG → Prop) : Option Value → va_W → Prop := fun v w => ∃ (r : Int) (G1 : GG), v = some (.int (iI r)) ∧ w = cw ad C G1 ∧ P r G1
def RL' (ad : Int → Nat) (C : Nat → ClassId) (P : Int → GG → Prop) : Option Value → va_W → Prop := fun v w => ∃ (r : Int) (G1 : GG), v = some (.long (iL r)) ∧ w = cw ad C G1 ∧ P r G1
def RF (ad : Int → Nat) (C : Nat → ClassId) (P : UInt32 → GG → Prop) : Option Value → va_W → Prop := fun v w => ∃ (r : UInt32) (G1 : GG), v = some (.float r) ∧ w = cw ad C G1 ∧ P r G1
def RV (ad : Int → Nat) (C : Nat → ClassId) (P : GG → Prop) : Option Value → va_W → Prop := fun v w => ∃ G1 : GG, v = none ∧ w = cw ad C G1 ∧ P G1
section RWQ
variable {l : Launch} {own nm : String} {cc : ByteArray} {nL : Nat} {ret : Option FieldType} {X : Code → Prop} {R : Room} {E : List Frame → Array Value → State → State → Prop} {D : va_G} {C : Nat → ClassId} {Z : State → Prop} {w0 : va_W} {pc q : Nat} {lv : List (Nat × Value)} {st : List Value} {k n : Nat} {ad : Int → Nat} {G : GG} {mc ms : Nat}
theorem rt_i {P : Int → GG → Prop} {x : Int} (hr9 : ret = some .int) (hk : k ≤ mc) (hn : n ≤ ms) (hP : P x G) (d : decode cc pc = .ok (.ireturn, 1)) : AW l own nm cc nL ret X R (hvE D (RI ad C P) w0 mc ms) D (tyC C) Z w0 pc lv [.int (iI x)] (cw ad C G) k n :=
  aw_iret hr9 rfl hk hn ⟨x, G, rfl, rfl, hP⟩ d
theorem rt_z {P : Int → GG → Prop} {x : Int} (hr9 : ret = some .boolean) (hx : x = 0 ∨ x = 1) (hk : k ≤ mc) (hn : n ≤ ms) (hP : P x G) (d : decode cc pc = .ok (.ireturn, 1)) : AW l own nm cc nL ret X R (hvE D (RI ad C P) w0 mc ms) D (tyC C) Z w0 pc lv [.int (iI x)] (cw ad C G) k n :=
  aw_iret hr9 (by rcases hx with rfl | rfl <;> decide) hk hn ⟨x, G, rfl, rfl, hP⟩ d
theorem rt_l {P : Int → GG → Prop} {x : Int} (hr9 : ret = some .long) (hk : k ≤ mc) (hn : n ≤ ms) (hP : P x G) (d : decode cc pc = .ok (.lreturn, 1)) : AW l own nm cc nL ret X R (hvE D (RL' ad C P) w0 mc ms) D (tyC C) Z w0 pc lv [.long (iL x)] (cw ad C G) k n :=
  aw_lret hr9 hk hn ⟨x, G, rfl, rfl, hP⟩ d
theorem rt_f {P : UInt32 → GG → Prop} {x : UInt32} (hr9 : ret = some .float) (hk : k ≤ mc) (hn : n ≤ ms) (hP : P x G) (d : decode cc pc = .ok (.freturn, 1)) : AW l own nm cc nL ret X R (hvE D (RF ad C P) w0 mc ms) D (tyC C) Z w0 pc lv [.float x] (cw ad C G) k n :=
  aw_fret hr9 hk hn ⟨x, G, rfl, rfl, hP⟩ d
theorem rt_v {P : GG → Prop} (hr9 : ret = none) (hk : k ≤ mc) (hn : n ≤ ms) (hP : P G) (d : decode cc pc = .ok (.return_, 1)) : AW l own nm cc nL ret X R (hvE D (RV ad C P) w0 mc ms) D (tyC C) Z w0 pc lv [] (cw ad C G) k n :=
  aw_vret hr9 hk hn ⟨G, rfl, rfl, hP⟩ d
theorem aw_ifb_eq {p : Prop} [Decidable p] {off : Int} {t : Nat} (d : decode cc pc = .ok (.ifCond .eq off, 3)) (hq : pc + 3 = q) (ht : (pc : Int) + off = (t : Int))
    (kt : ¬ p → AW l own nm cc nL ret X R E D (tyC C) Z w0 t lv st (cw ad C G) k n) (kf : p → AW l own nm cc nL ret X R E D (tyC C) Z w0 q lv st (cw ad C G) k n) : AW l own nm cc nL ret X R E D (tyC C) Z w0 pc lv (.int (iI (b2i p)) :: st) (cw ad C G) k n :=
  aw_if_eq d hq ht (by have := b2i_b p; omega) (fun h => kt (b2i_0.mp h)) (fun h => kf (Classical.not_not.mp (fun z => h (b2i_f z))))
theorem aw_ifb_ne {p : Prop} [Decidable p] {off : Int} {t : Nat} (d : decode cc pc = .ok (.ifCond .ne off, 3)) (hq : pc + 3 = q) (ht : (pc : Int) + off = (t : Int))
    (kt : p → AW l own nm cc nL ret X R E D (tyC C) Z w0 t lv st (cw ad C G) k n) (kf : ¬ p → AW l own nm cc nL ret X R E D (tyC C) Z w0 q lv st (cw ad C G) k n) : AW l own nm cc nL ret X R E D (tyC C) Z w0 pc lv (.int (iI (b2i p)) :: st) (cw ad C G) k n :=
  aw_if_ne d hq ht (by have := b2i_b p; omega) (fun h => kt (Classical.not_not.mp (fun z => h (b2i_f z)))) (fun h => kf (b2i_0.mp h))
theorem aw_gen {x : Int} {P : Int → Prop} (h : P x) (kk : ∀ y, P y → AW l own nm cc nL ret X R E D (tyC C) Z w0 pc lv (.int (iI y) :: st) (cw ad C G) k n) : AW l own nm cc nL ret X R E D (tyC C) Z w0 pc lv (.int (iI x) :: st) (cw ad C G) k n := kk x h
theorem aw_div5 {x y z : Int} (hx : 0 ≤ x ∧ x ≤ 2147483647) (hy : 0 < y ∧ y ≤ 2147483647) (hz : x / y = z) (d : decode cc pc = .ok (.idiv, 1)) (hq : pc + 1 = q)
    (kk : AW l own nm cc nL ret X R E D (tyC C) Z w0 q lv (.int (iI z) :: st) (cw ad C G) k n) : AW l own nm cc nL ret X R E D (tyC C) Z w0 pc lv (.int (iI y) :: .int (iI x) :: st) (cw ad C G) k n := by
  refine aw_idivR d hq (fun h => ?_) ?_
  · rw [show (0 : Int32) = iI 0 from by decide, iI_inj (by omega) (by omega)] at h; omega
  · rw [iI_div hx hy, hz]; exact kk
theorem aw_rem5 {x y z : Int} (hx : 0 ≤ x ∧ x ≤ 2147483647) (hy : 0 < y ∧ y ≤ 2147483647) (hz : x % y = z) (d : decode cc pc = .ok (.irem, 1)) (hq : pc + 1 = q)
    (kk : AW l own nm cc nL ret X R E D (tyC C) Z w0 q lv (.int (iI z) :: st) (cw ad C G) k n) : AW l own nm cc nL ret X R E D (tyC C) Z w0 pc lv (.int (iI y) :: .int (iI x) :: st) (cw ad C G) k n := by
  refine aw_iremR d hq (fun h => ?_) ?_
  · rw [show (0 : Int32) = iI 0 from by decide, iI_inj (by omega) (by omega)] at h; omega
  · rw [iI_div hx hy, iI_mul, iI_sub, show x - x / y * y = z from by rw [← hz]; have := Int.mul_ediv_add_emod x y; rw [Int.mul_comm] at this; omega]; exact kk
variable {T : Nat → Nat} {y : MethodName} {bytes : ByteArray} {maxL : Nat} {rt : Option FieldType} {fr lo idx : Nat} {As : List Value} {b : Nat} {id : Int}
theorem cv_I {P : Int → GG → Prop} {CC : String} {TT : u_T} {N ci : Nat} {fs : List Value} (nA : Nat) (hm : MC l y bytes maxL rt fr lo 0 0 D (tyC C) T (.ref (ad id) :: As) (cw ad C G) (RI ad C P)) (hZT : ∀ s, Z s → hvZ T w0 s) (hid : 0 ≤ id ∧ id < 120) (hcell : cellOf ad C G id = .inr (ci, fs)) (hc : vwCl[ci]? = some (y.cls, TT, N)) (hw1 : Cond.code y bytes maxL rt ∈ gt) (hw2 : Cond.methodLink own idx y ∈ gt) (hw3 : Cond.instanceMethod y ∈ gt) (hw4 : Cond.selects y.cls y y ∈ gt) (hw5 : Cond.initialized y.cls ∈ gt) (hd : y.cls ≠ "java/lang/invoke/MethodHandle" ∧ y.cls ≠ "java/lang/invoke/VarHandle" ∧ (parseMethodDescriptor y.desc).map (fun d => d.parameters.length) = some nA) (hn : As.length = nA) (hR : fr + 1 ≤ R.frames ∧ 8 + (maxL + 11) + lo ≤ R.locals) (hR2 : k ≤ R.cells ∧ n ≤ R.slots) (hst : (st.map fun v => v.category).sum ≤ 8) (d : decode cc pc = .ok (.invokevirtual idx, 3)) (hq : pc + 3 = q)
    (kk : ∀ (r : Int) (G1 : GG), P r G1 → AW l own nm cc nL ret X R E D (tyC C) Z w0 q lv (.int (iI r) :: st) (cw ad C G1) k n) : AW l own nm cc nL ret X R E D (tyC C) Z w0 pc lv (As.reverse ++ .ref (ad id) :: st) (cw ad C G) k n := by
  refine aw_callV (C := "") id.toNat nA hm hZT (by rw [cw_get hid, hcell]) hc hw1 hw2 hw3 hw4 hw5 hd hn hR hR2 hst d hq (fun v w e => ?_)
  obtain ⟨r, G1, rfl, rfl, h⟩ := e; exact kk r G1 h
theorem cs_I {P : Int → GG → Prop} (nA : Nat) (hm : MC l y bytes maxL rt fr lo 0 0 D (tyC C) T As (cw ad C G) (RI ad C P)) (hZT : ∀ s, Z s → hvZ T w0 s) (hw1 : Cond.code y bytes maxL rt ∈ gt) (hw2 : Cond.methodLink own idx y ∈ gt) (hw3 : Cond.static y ∈ gt) (hw5 : Cond.initialized y.cls ∈ gt) (hd : y.cls ≠ "java/lang/invoke/MethodHandle" ∧ y.cls ≠ "java/lang/invoke/VarHandle" ∧ (parseMethodDescriptor y.desc).map (fun d => d.parameters.length) = some nA) (hn : As.length = nA) (hR : fr + 1 ≤ R.frames ∧ 8 + (maxL + 11) + lo ≤ R.locals) (hR2 : k ≤ R.cells ∧ n ≤ R.slots) (hst : (st.map fun v => v.category).sum ≤ 8) (d : decode cc pc = .ok (.invokestatic idx, 3)) (hq : pc + 3 = q)
    (kk : ∀ (r : Int) (G1 : GG), P r G1 → AW l own nm cc nL ret X R E D (tyC C) Z w0 q lv (.int (iI r) :: st) (cw ad C G1) k n) : AW l own nm cc nL ret X R E D (tyC C) Z w0 pc lv (As.reverse ++ st) (cw ad C G) k n := by
  refine aw_callS nA hm hZT hw1 hw2 hw3 hw5 hd hn hR hR2 hst d hq (fun v w e => ?_)
  obtain ⟨r, G1, rfl, rfl, h⟩ := e; exact kk r G1 h
theorem cv_L {P : Int → GG → Prop} {CC : String} {TT : u_T} {N ci : Nat} {fs : List Value} (nA : Nat) (hm : MC l y bytes maxL rt fr lo 0 0 D (tyC C) T (.ref (ad id) :: As) (cw ad C G) (RL' ad C P)) (hZT : ∀ s, Z s → hvZ T w0 s) (hid : 0 ≤ id ∧ id < 120) (hcell : cellOf ad C G id = .inr (ci, fs)) (hc : vwCl[ci]? = some (y.cls, TT, N)) (hw1 : Cond.code y bytes maxL rt ∈ gt) (hw2 : Cond.methodLink own idx y ∈ gt) (hw3 : Cond.instanceMethod y ∈ gt) (hw4 : Cond.selects y.cls y y ∈ gt) (hw5 : Cond.initialized y.cls ∈ gt) (hd : y.cls ≠ "java/lang/invoke/MethodHandle" ∧ y.cls ≠ "java/lang/invoke/VarHandle" ∧ (parseMethodDescriptor y.desc).map (fun d => d.parameters.length) = some nA) (hn : As.length = nA) (hR : fr + 1 ≤ R.frames ∧ 8 + (maxL + 11) + lo ≤ R.locals) (hR2 : k ≤ R.cells ∧ n ≤ R.slots) (hst : (st.map fun v => v.category).sum ≤ 8) (d : decode cc pc = .ok (.invokevirtual idx, 3)) (hq : pc + 3 = q)
    (kk : ∀ (r : Int) (G1 : GG), P r G1 → AW l own nm cc nL ret X R E D (tyC C) Z w0 q lv (.long (iL r) :: st) (cw ad C G1) k n) : AW l own nm cc nL ret X R E D (tyC C) Z w0 pc lv (As.reverse ++ .ref (ad id) :: st) (cw ad C G) k n := by
  refine aw_callV (C := "") id.toNat nA hm hZT (by rw [cw_get hid, hcell]) hc hw1 hw2 hw3 hw4 hw5 hd hn hR hR2 hst d hq (fun v w e => ?_)
  obtain ⟨r, G1, rfl, rfl, h⟩ := e; exact kk r G1 h
theorem cs_L {P : Int → GG → Prop} (nA : Nat) (hm : MC l y bytes maxL rt fr lo 0 0 D (tyC C) T As (cw ad C G) (RL' ad C P)) (hZT : ∀ s, Z s → hvZ T w0 s) (hw1 : Cond.code y bytes maxL rt ∈ gt) (hw2 : Cond.methodLink own idx y ∈ gt) (hw3 : Cond.static y ∈ gt) (hw5 : Cond.initialized y.cls ∈ gt) (hd : y.cls ≠ "java/lang/invoke/MethodHandle" ∧ y.cls ≠ "java/lang/invoke/VarHandle" ∧ (parseMethodDescriptor y.desc).map (fun d => d.parameters.length) = some nA) (hn : As.length = nA) (hR : fr + 1 ≤ R.frames ∧ 8 + (maxL + 11) + lo ≤ R.locals) (hR2 : k ≤ R.cells ∧ n ≤ R.slots) (hst : (st.map fun v => v.category).sum ≤ 8) (d : decode cc pc = .ok (.invokestatic idx, 3)) (hq : pc + 3 = q)
    (kk : ∀ (r : Int) (G1 : GG), P r G1 → AW l own nm cc nL ret X R E D (tyC C) Z w0 q lv (.long (iL r) :: st) (cw ad C G1) k n) : AW l own nm cc nL ret X R E D (tyC C) Z w0 pc lv (As.reverse ++ st) (cw ad C G) k n := by
  refine aw_callS nA hm hZT hw1 hw2 hw3 hw5 hd hn hR hR2 hst d hq (fun v w e => ?_)
  obtain ⟨r, G1, rfl, rfl, h⟩ := e; exact kk r G1 h
theorem cv_F {P : UInt32 → GG → Prop} {CC : String} {TT : u_T} {N ci : Nat} {fs : List Value} (nA : Nat) (hm : MC l y bytes maxL rt fr lo 0 0 D (tyC C) T (.ref (ad id) :: As) (cw ad C G) (RF ad C P)) (hZT : ∀ s, Z s → hvZ T w0 s) (hid : 0 ≤ id ∧ id < 120) (hcell : cellOf ad C G id = .inr (ci, fs)) (hc : vwCl[ci]? = some (y.cls, TT, N)) (hw1 : Cond.code y bytes maxL rt ∈ gt) (hw2 : Cond.methodLink own idx y ∈ gt) (hw3 : Cond.instanceMethod y ∈ gt) (hw4 : Cond.selects y.cls y y ∈ gt) (hw5 : Cond.initialized y.cls ∈ gt) (hd : y.cls ≠ "java/lang/invoke/MethodHandle" ∧ y.cls ≠ "java/lang/invoke/VarHandle" ∧ (parseMethodDescriptor y.desc).map (fun d => d.parameters.length) = some nA) (hn : As.length = nA) (hR : fr + 1 ≤ R.frames ∧ 8 + (maxL + 11) + lo ≤ R.locals) (hR2 : k ≤ R.cells ∧ n ≤ R.slots) (hst : (st.map fun v => v.category).sum ≤ 8) (d : decode cc pc = .ok (.invokevirtual idx, 3)) (hq : pc + 3 = q)
    (kk : ∀ (r : UInt32) (G1 : GG), P r G1 → AW l own nm cc nL ret X R E D (tyC C) Z w0 q lv (.float r :: st) (cw ad C G1) k n) : AW l own nm cc nL ret X R E D (tyC C) Z w0 pc lv (As.reverse ++ .ref (ad id) :: st) (cw ad C G) k n := by
  refine aw_callV (C := "") id.toNat nA hm hZT (by rw [cw_get hid, hcell]) hc hw1 hw2 hw3 hw4 hw5 hd hn hR hR2 hst d hq (fun v w e => ?_)
  obtain ⟨r, G1, rfl, rfl, h⟩ := e; exact kk r G1 h
theorem cs_F {P : UInt32 → GG → Prop} (nA : Nat) (hm : MC l y bytes maxL rt fr lo 0 0 D (tyC C) T As (cw ad C G) (RF ad C P)) (hZT : ∀ s, Z s → hvZ T w0 s) (hw1 : Cond.code y bytes maxL rt ∈ gt) (hw2 : Cond.methodLink own idx y ∈ gt) (hw3 : Cond.static y ∈ gt) (hw5 : Cond.initialized y.cls ∈ gt) (hd : y.cls ≠ "java/lang/invoke/MethodHandle" ∧ y.cls ≠ "java/lang/invoke/VarHandle" ∧ (parseMethodDescriptor y.desc).map (fun d => d.parameters.length) = some nA) (hn : As.length = nA) (hR : fr + 1 ≤ R.frames ∧ 8 + (maxL + 11) + lo ≤ R.locals) (hR2 : k ≤ R.cells ∧ n ≤ R.slots) (hst : (st.map fun v => v.category).sum ≤ 8) (d : decode cc pc = .ok (.invokestatic idx, 3)) (hq : pc + 3 = q)
    (kk : ∀ (r : UInt32) (G1 : GG), P r G1 → AW l own nm cc nL ret X R E D (tyC C) Z w0 q lv (.float r :: st) (cw ad C G1) k n) : AW l own nm cc nL ret X R E D (tyC C) Z w0 pc lv (As.reverse ++ st) (cw ad C G) k n := by
  refine aw_callS nA hm hZT hw1 hw2 hw3 hw5 hd hn hR hR2 hst d hq (fun v w e => ?_)
  obtain ⟨r, G1, rfl, rfl, h⟩ := e; exact kk r G1 h
theorem cv_V {P : GG → Prop} {CC : String} {TT : u_T} {N ci : Nat} {fs : List Value} (nA : Nat) (hm : MC l y bytes maxL rt fr lo 0 0 D (tyC C) T (.ref (ad id) :: As) (cw ad C G) (RV ad C P)) (hZT : ∀ s, Z s → hvZ T w0 s) (hid : 0 ≤ id ∧ id < 120) (hcell : cellOf ad C G id = .inr (ci, fs)) (hc : vwCl[ci]? = some (y.cls, TT, N)) (hw1 : Cond.code y bytes maxL rt ∈ gt) (hw2 : Cond.methodLink own idx y ∈ gt) (hw3 : Cond.instanceMethod y ∈ gt) (hw4 : Cond.selects y.cls y y ∈ gt) (hw5 : Cond.initialized y.cls ∈ gt) (hd : y.cls ≠ "java/lang/invoke/MethodHandle" ∧ y.cls ≠ "java/lang/invoke/VarHandle" ∧ (parseMethodDescriptor y.desc).map (fun d => d.parameters.length) = some nA) (hn : As.length = nA) (hR : fr + 1 ≤ R.frames ∧ 8 + (maxL + 11) + lo ≤ R.locals) (hR2 : k ≤ R.cells ∧ n ≤ R.slots) (hst : (st.map fun v => v.category).sum ≤ 8) (d : decode cc pc = .ok (.invokevirtual idx, 3)) (hq : pc + 3 = q)
    (kk : ∀ G1 : GG, P G1 → AW l own nm cc nL ret X R E D (tyC C) Z w0 q lv st (cw ad C G1) k n) : AW l own nm cc nL ret X R E D (tyC C) Z w0 pc lv (As.reverse ++ .ref (ad id) :: st) (cw ad C G) k n := by
  refine aw_callV (C := "") id.toNat nA hm hZT (by rw [cw_get hid, hcell]) hc hw1 hw2 hw3 hw4 hw5 hd hn hR hR2 hst d hq (fun v w e => ?_)
  obtain ⟨G1, rfl, rfl, h⟩ := e; exact kk G1 h
theorem cs_V {P : GG → Prop} (nA : Nat) (hm : MC l y bytes maxL rt fr lo 0 0 D (tyC C) T As (cw ad C G) (RV ad C P)) (hZT : ∀ s, Z s → hvZ T w0 s) (hw1 : Cond.code y bytes maxL rt ∈ gt) (hw2 : Cond.methodLink own idx y ∈ gt) (hw3 : Cond.static y ∈ gt) (hw5 : Cond.initialized y.cls ∈ gt) (hd : y.cls ≠ "java/lang/invoke/MethodHandle" ∧ y.cls ≠ "java/lang/invoke/VarHandle" ∧ (parseMethodDescriptor y.desc).map (fun d => d.parameters.length) = some nA) (hn : As.length = nA) (hR : fr + 1 ≤ R.frames ∧ 8 + (maxL + 11) + lo ≤ R.locals) (hR2 : k ≤ R.cells ∧ n ≤ R.slots) (hst : (st.map fun v => v.category).sum ≤ 8) (d : decode cc pc = .ok (.invokestatic idx, 3)) (hq : pc + 3 = q)
    (kk : ∀ G1 : GG, P G1 → AW l own nm cc nL ret X R E D (tyC C) Z w0 q lv st (cw ad C G1) k n) : AW l own nm cc nL ret X R E D (tyC C) Z w0 pc lv (As.reverse ++ st) (cw ad C G) k n := by
  refine aw_callS nA hm hZT hw1 hw2 hw3 hw5 hd hn hR hR2 hst d hq (fun v w e => ?_)
  obtain ⟨G1, rfl, rfl, h⟩ := e; exact kk G1 h
theorem csN_I {P : Int → GG → Prop} (nA : Nat) (host : String) (hm : MC l y bytes maxL rt fr lo 0 0 D (tyC C) T As (cw ad C G) (RI ad C P)) (hZT : ∀ s, Z s → hvZ T w0 s) (hw1 : Cond.code y bytes maxL rt ∈ gt) (hw2 : (own, idx, y, host) ∈ nestM) (hw3 : Cond.static y ∈ gt) (hw5 : Cond.initialized y.cls ∈ gt) (hd : y.cls ≠ "java/lang/invoke/MethodHandle" ∧ y.cls ≠ "java/lang/invoke/VarHandle" ∧ (parseMethodDescriptor y.desc).map (fun d => d.parameters.length) = some nA) (hn : As.length = nA) (hR : fr + 1 ≤ R.frames ∧ 8 + (maxL + 11) + lo ≤ R.locals) (hR2 : k ≤ R.cells ∧ n ≤ R.slots) (hst : (st.map fun v => v.category).sum ≤ 8) (d : decode cc pc = .ok (.invokestatic idx, 3)) (hq : pc + 3 = q)
    (kk : ∀ (r : Int) (G1 : GG), P r G1 → AW l own nm cc nL ret X R E D (tyC C) Z w0 q lv (.int (iI r) :: st) (cw ad C G1) k n) : AW l own nm cc nL ret X R E D (tyC C) Z w0 pc lv (As.reverse ++ st) (cw ad C G) k n := by
  refine aw_callSN nA host hm hZT hw1 hw2 hw3 hw5 hd hn hR hR2 hst d hq (fun v w e => ?_)
  obtain ⟨r, G1, rfl, rfl, h⟩ := e; exact kk r G1 h
end RWQ
end
