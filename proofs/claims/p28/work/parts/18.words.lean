theorem wd_at {w : Cond} (i : Nat) (h : lw_tbl[i]? = some w) (hg : goodWord w = true) : w ∈ gt := List.mem_filter.mpr ⟨List.mem_of_getElem? h, hg⟩
theorem wMath_i : Cond.initialized "java/lang/Math" ∈ gt := wd_at 28 (by decide +kernel) rfl
theorem wMmax_c : Cond.code Lib.Math.max.name Lib.Math.max.code 2 (some .int) ∈ gt := wd_at 409 (by decide +kernel) rfl
theorem wMmax_s : Cond.static Lib.Math.max.name ∈ gt := wd_at 408 (by decide +kernel) rfl
theorem wMmin_c : Cond.code Lib.Math.min.name Lib.Math.min.code 2 (some .int) ∈ gt := wd_at 330 (by decide +kernel) rfl
theorem wMmin_s : Cond.static Lib.Math.min.name ∈ gt := wd_at 329 (by decide +kernel) rfl
theorem wSys_i : Cond.initialized "java/lang/System" ∈ gt := wd_at 27 (by decide +kernel) rfl
theorem wa_int : Cond.arrayClass .int ∈ gt := wd_at 68 (by decide +kernel) rfl
set_option maxRecDepth 100000 in
theorem wc_L_acts : Cond.code yL_acts cL_acts 11 (some .boolean) ∈ gt := wd_at 621 rfl rfl
set_option maxRecDepth 100000 in
theorem wc_L_holds : Cond.code yL_holds cL_holds 7 (some .boolean) ∈ gt := wd_at 546 rfl rfl
set_option maxRecDepth 100000 in
theorem wc_L_hours : Cond.code yL_hours cL_hours 16 (some .boolean) ∈ gt := wd_at 721 rfl rfl
set_option maxRecDepth 100000 in
theorem wc_L_lot : Cond.code yL_lot cL_lot 2 (some .int) ∈ gt := wd_at 417 rfl rfl
set_option maxRecDepth 100000 in
theorem wc_L_low : Cond.code yL_low cL_low 2 (some .int) ∈ gt := wd_at 421 rfl rfl
set_option maxRecDepth 100000 in
theorem wc_L_pays : Cond.code yL_pays cL_pays 9 (some .boolean) ∈ gt := wd_at 599 rfl rfl
set_option maxRecDepth 100000 in
theorem wc_L_sells : Cond.code yL_sells cL_sells 19 (some .boolean) ∈ gt := wd_at 647 rfl rfl
set_option maxRecDepth 100000 in
theorem wc_L_worth : Cond.code yL_worth cL_worth 1 (some .int) ∈ gt := wd_at 585 rfl rfl
set_option maxRecDepth 100000 in
theorem wc_X0_begin : Cond.code yX0_begin cX0_begin 4 none ∈ gt := wd_at 644 rfl rfl
set_option maxRecDepth 100000 in
theorem wc_X0_fact : Cond.code yX0_fact cX0_fact 2 (some .int) ∈ gt := wd_at 563 rfl rfl
set_option maxRecDepth 100000 in
theorem wc_X0_fade : Cond.code yX0_fade cX0_fade 2 none ∈ gt := wd_at 413 rfl rfl
set_option maxRecDepth 100000 in
theorem wc_X0_init : Cond.code yX0_init cX0_init 1 none ∈ gt := wd_at 103 rfl rfl
set_option maxRecDepth 100000 in
theorem wc_X0_noteSale : Cond.code yX0_noteSale cX0_noteSale 1 none ∈ gt := wd_at 348 rfl rfl
set_option maxRecDepth 100000 in
theorem wc_X0_payFine : Cond.code yX0_payFine cX0_payFine 2 none ∈ gt := wd_at 406 rfl rfl
set_option maxRecDepth 100000 in
theorem wc_X0_setPrice : Cond.code yX0_setPrice cX0_setPrice 4 none ∈ gt := wd_at 393 rfl rfl
set_option maxRecDepth 100000 in
theorem wc_X0_shortenBan : Cond.code yX0_shortenBan cX0_shortenBan 1 none ∈ gt := wd_at 398 rfl rfl
set_option maxRecDepth 100000 in
theorem wc_X0_takeOver : Cond.code yX0_takeOver cX0_takeOver 2 none ∈ gt := wd_at 288 rfl rfl
set_option maxRecDepth 100000 in
theorem wc_X1_addGoods : Cond.code yX1_addGoods cX1_addGoods 3 (some .int) ∈ gt := wd_at 314 rfl rfl
set_option maxRecDepth 100000 in
theorem wc_X1_canSell : Cond.code yX1_canSell cX1_canSell 4 (some .boolean) ∈ gt := wd_at 318 rfl rfl
set_option maxRecDepth 100000 in
theorem wc_X1_changeSetting : Cond.code yX1_changeSetting cX1_changeSetting 4 (some .int) ∈ gt := wd_at 701 rfl rfl
set_option maxRecDepth 100000 in
theorem wc_X1_hasCoil : Cond.code yX1_hasCoil cX1_hasCoil 2 (some .boolean) ∈ gt := wd_at 306 rfl rfl
set_option maxRecDepth 100000 in
theorem wc_X1_hasRoomForCoil : Cond.code yX1_hasRoomForCoil cX1_hasRoomForCoil 1 (some .boolean) ∈ gt := wd_at 635 rfl rfl
set_option maxRecDepth 100000 in
theorem wc_X1_hasRoomForGoods : Cond.code yX1_hasRoomForGoods cX1_hasRoomForGoods 3 (some .boolean) ∈ gt := wd_at 310 rfl rfl
set_option maxRecDepth 100000 in
theorem wc_X1_hasTimeFor : Cond.code yX1_hasTimeFor cX1_hasTimeFor 2 (some .boolean) ∈ gt := wd_at 380 rfl rfl
set_option maxRecDepth 100000 in
theorem wc_X1_init : Cond.code yX1_init cX1_init 2 none ∈ gt := wd_at 42 rfl rfl
set_option maxRecDepth 100000 in
theorem wc_X1_lookAt : Cond.code yX1_lookAt cX1_lookAt 2 (some .int) ∈ gt := wd_at 684 rfl rfl
set_option maxRecDepth 100000 in
theorem wc_X1_newCoil : Cond.code yX1_newCoil cX1_newCoil 4 (some .int) ∈ gt := wd_at 640 rfl rfl
set_option maxRecDepth 100000 in
theorem wc_X1_number : Cond.code yX1_number cX1_number 2 (some .int) ∈ gt := wd_at 555 rfl rfl
set_option maxRecDepth 100000 in
theorem wc_X1_passHour : Cond.code yX1_passHour cX1_passHour 2 none ∈ gt := wd_at 389 rfl rfl
set_option maxRecDepth 100000 in
theorem wc_X1_passHours : Cond.code yX1_passHours cX1_passHours 4 (some .int) ∈ gt := wd_at 385 rfl rfl
set_option maxRecDepth 100000 in
theorem wc_X1_sell : Cond.code yX1_sell cX1_sell 5 (some .int) ∈ gt := wd_at 344 rfl rfl
set_option maxRecDepth 100000 in
theorem wc_X1_sumOfFacts : Cond.code yX1_sumOfFacts cX1_sumOfFacts 4 (some .int) ∈ gt := wd_at 559 rfl rfl
set_option maxRecDepth 100000 in
theorem wc_X1_takeOver : Cond.code yX1_takeOver cX1_takeOver 3 none ∈ gt := wd_at 284 rfl rfl
set_option maxRecDepth 100000 in
theorem wc_X1_watch : Cond.code yX1_watch cX1_watch 3 none ∈ gt := wd_at 402 rfl rfl
set_option maxRecDepth 100000 in
theorem wc_X2_byteAt : Cond.code yX2_byteAt cX2_byteAt 2 (some .int) ∈ gt := wd_at 249 rfl rfl
set_option maxRecDepth 100000 in
theorem wc_X2_errorPosition : Cond.code yX2_errorPosition cX2_errorPosition 2 (some .int) ∈ gt := wd_at 237 rfl rfl
set_option maxRecDepth 100000 in
theorem wc_X2_init : Cond.code yX2_init cX2_init 1 none ∈ gt := wd_at 180 rfl rfl
set_option maxRecDepth 100000 in
theorem wc_X2_isDigit : Cond.code yX2_isDigit cX2_isDigit 1 (some .boolean) ∈ gt := wd_at 268 rfl rfl
set_option maxRecDepth 100000 in
theorem wc_X2_readCoins : Cond.code yX2_readCoins cX2_readCoins 2 none ∈ gt := wd_at 272 rfl rfl
set_option maxRecDepth 100000 in
theorem wc_X2_readDigit : Cond.code yX2_readDigit cX2_readDigit 3 (some .int) ∈ gt := wd_at 253 rfl rfl
set_option maxRecDepth 100000 in
theorem wc_X2_readNumber : Cond.code yX2_readNumber cX2_readNumber 4 (some .int) ∈ gt := wd_at 265 rfl rfl
set_option maxRecDepth 100000 in
theorem wc_X2_readOrder : Cond.code yX2_readOrder cX2_readOrder 1 (some .boolean) ∈ gt := wd_at 245 rfl rfl
set_option maxRecDepth 100000 in
theorem wc_X2_readSign : Cond.code yX2_readSign cX2_readSign 2 none ∈ gt := wd_at 261 rfl rfl
set_option maxRecDepth 100000 in
theorem wc_X2_startReading : Cond.code yX2_startReading cX2_startReading 1 none ∈ gt := wd_at 241 rfl rfl
set_option maxRecDepth 100000 in
theorem wc_X2_stumble : Cond.code yX2_stumble cX2_stumble 1 none ∈ gt := wd_at 257 rfl rfl
set_option maxRecDepth 100000 in
theorem wc_X3_find : Cond.code yX3_find cX3_find 5 (some .boolean) ∈ gt := wd_at 334 rfl rfl
set_option maxRecDepth 100000 in
theorem wc_X3_init : Cond.code yX3_init cX3_init 1 none ∈ gt := wd_at 56 rfl rfl
set_option maxRecDepth 100000 in
theorem wc_X3_take : Cond.code yX3_take cX3_take 6 (some .int) ∈ gt := wd_at 340 rfl rfl
set_option maxRecDepth 100000 in
theorem wc_X4_addPromise : Cond.code yX4_addPromise cX4_addPromise 2 none ∈ gt := wd_at 365 rfl rfl
set_option maxRecDepth 100000 in
theorem wc_X4_canPay : Cond.code yX4_canPay cX4_canPay 2 (some .boolean) ∈ gt := wd_at 357 rfl rfl
set_option maxRecDepth 100000 in
theorem wc_X4_canPayAfter : Cond.code yX4_canPayAfter cX4_canPayAfter 4 (some .boolean) ∈ gt := wd_at 327 rfl rfl
set_option maxRecDepth 100000 in
theorem wc_X4_canPayWithCoin : Cond.code yX4_canPayWithCoin cX4_canPayWithCoin 3 (some .boolean) ∈ gt := wd_at 613 rfl rfl
set_option maxRecDepth 100000 in
theorem wc_X4_fillTube : Cond.code yX4_fillTube cX4_fillTube 4 (some .int) ∈ gt := wd_at 375 rfl rfl
set_option maxRecDepth 100000 in
theorem wc_X4_init : Cond.code yX4_init cX4_init 2 none ∈ gt := wd_at 50 rfl rfl
set_option maxRecDepth 100000 in
theorem wc_X4_payOut : Cond.code yX4_payOut cX4_payOut 2 none ∈ gt := wd_at 361 rfl rfl
set_option maxRecDepth 100000 in
theorem wc_X4_payPromises : Cond.code yX4_payPromises cX4_payPromises 2 none ∈ gt := wd_at 369 rfl rfl
set_option maxRecDepth 100000 in
theorem wc_X4_takeBox : Cond.code yX4_takeBox cX4_takeBox 2 (some .int) ∈ gt := wd_at 709 rfl rfl
set_option maxRecDepth 100000 in
theorem wc_X4_takeIn : Cond.code yX4_takeIn cX4_takeIn 4 none ∈ gt := wd_at 352 rfl rfl
set_option maxRecDepth 100000 in
theorem wc_X4_takeOver : Cond.code yX4_takeOver cX4_takeOver 2 none ∈ gt := wd_at 295 rfl rfl
set_option maxRecDepth 100000 in
theorem wc_X5_addCoil : Cond.code yX5_addCoil cX5_addCoil 4 (some .int) ∈ gt := wd_at 625 rfl rfl
set_option maxRecDepth 100000 in
theorem wc_X5_buy : Cond.code yX5_buy cX5_buy 6 (some .int) ∈ gt := wd_at 663 rfl rfl
set_option maxRecDepth 100000 in
theorem wc_X5_carryOut : Cond.code yX5_carryOut cX5_carryOut 3 (some .int) ∈ gt := wd_at 233 rfl rfl
set_option maxRecDepth 100000 in
theorem wc_X5_change : Cond.code yX5_change cX5_change 3 (some .int) ∈ gt := wd_at 603 rfl rfl
set_option maxRecDepth 100000 in
theorem wc_X5_coil : Cond.code yX5_coil cX5_coil 3 (some .int) ∈ gt := wd_at 567 rfl rfl
set_option maxRecDepth 100000 in
theorem wc_X5_coinFor : Cond.code yX5_coinFor cX5_coinFor 3 (some .int) ∈ gt := wd_at 609 rfl rfl
set_option maxRecDepth 100000 in
theorem wc_X5_demand : Cond.code yX5_demand cX5_demand 2 (some .float) ∈ gt := wd_at 572 rfl rfl
set_option maxRecDepth 100000 in
theorem wc_X5_dropOldest : Cond.code yX5_dropOldest cX5_dropOldest 3 none ∈ gt := wd_at 280 rfl rfl
set_option maxRecDepth 100000 in
theorem wc_X5_emptyBox : Cond.code yX5_emptyBox cX5_emptyBox 1 (some .int) ∈ gt := wd_at 705 rfl rfl
set_option maxRecDepth 100000 in
theorem wc_X5_favorite : Cond.code yX5_favorite cX5_favorite 4 (some .int) ∈ gt := wd_at 576 rfl rfl
set_option maxRecDepth 100000 in
theorem wc_X5_fill : Cond.code yX5_fill cX5_fill 3 (some .int) ∈ gt := wd_at 676 rfl rfl
set_option maxRecDepth 100000 in
theorem wc_X5_holdOut : Cond.code yX5_holdOut cX5_holdOut 6 (some .boolean) ∈ gt := wd_at 655 rfl rfl
set_option maxRecDepth 100000 in
theorem wc_X5_init : Cond.code yX5_init cX5_init 2 none ∈ gt := wd_at 34 rfl rfl
set_option maxRecDepth 100000 in
theorem wc_X5_isBetween : Cond.code yX5_isBetween cX5_isBetween 3 (some .boolean) ∈ gt := wd_at 503 rfl rfl
set_option maxRecDepth 100000 in
theorem wc_X5_isStepBetween : Cond.code yX5_isStepBetween cX5_isStepBetween 4 (some .boolean) ∈ gt := wd_at 629 rfl rfl
set_option maxRecDepth 100000 in
theorem wc_X5_look : Cond.code yX5_look cX5_look 2 (some .int) ∈ gt := wd_at 680 rfl rfl
set_option maxRecDepth 100000 in
theorem wc_X5_mostPayable : Cond.code yX5_mostPayable cX5_mostPayable 3 (some .int) ∈ gt := wd_at 617 rfl rfl
set_option maxRecDepth 100000 in
theorem wc_X5_obey : Cond.code yX5_obey cX5_obey 3 (some .boolean) ∈ gt := wd_at 302 rfl rfl
set_option maxRecDepth 100000 in
theorem wc_X5_pass : Cond.code yX5_pass cX5_pass 2 (some .int) ∈ gt := wd_at 716 rfl rfl
set_option maxRecDepth 100000 in
theorem wc_X5_priceIn : Cond.code yX5_priceIn cX5_priceIn 3 (some .int) ∈ gt := wd_at 725 rfl rfl
set_option maxRecDepth 100000 in
theorem wc_X5_promise : Cond.code yX5_promise cX5_promise 2 (some .int) ∈ gt := wd_at 589 rfl rfl
set_option maxRecDepth 100000 in
theorem wc_X5_salesInARow : Cond.code yX5_salesInARow cX5_salesInARow 5 (some .int) ∈ gt := wd_at 651 rfl rfl
set_option maxRecDepth 100000 in
theorem wc_X5_save : Cond.code yX5_save cX5_save 1 none ∈ gt := wd_at 276 rfl rfl
set_option maxRecDepth 100000 in
theorem wc_X5_set : Cond.code yX5_set cX5_set 3 (some .int) ∈ gt := wd_at 690 rfl rfl
set_option maxRecDepth 100000 in
theorem wc_X5_setting : Cond.code yX5_setting cX5_setting 2 (some .int) ∈ gt := wd_at 668 rfl rfl
set_option maxRecDepth 100000 in
theorem wc_X5_stock : Cond.code yX5_stock cX5_stock 3 (some .int) ∈ gt := wd_at 432 rfl rfl
set_option maxRecDepth 100000 in
theorem wc_X5_tube : Cond.code yX5_tube cX5_tube 2 (some .int) ∈ gt := wd_at 581 rfl rfl
set_option maxRecDepth 100000 in
theorem wc_X5_undo : Cond.code yX5_undo cX5_undo 1 (some .int) ∈ gt := wd_at 542 rfl rfl
set_option maxRecDepth 100000 in
theorem wc_X5_value : Cond.code yX5_value cX5_value 2 (some .int) ∈ gt := wd_at 550 rfl rfl
set_option maxRecDepth 100000 in
theorem wc_X5_worth : Cond.code yX5_worth cX5_worth 3 (some .int) ∈ gt := wd_at 321 rfl rfl
theorem wcopy_n : Cond.native arraycopyName ∈ gt := wd_at 291 (by decide +kernel) rfl
theorem wcopy_s : Cond.static arraycopyName ∈ gt := wd_at 290 (by decide +kernel) rfl
theorem wf_RX0_15 : Cond.fieldLink RX0 15 RX0 "goods" "I" ∈ gt := wd_at 107 (by decide +kernel) rfl
theorem wf_RX0_18 : Cond.fieldLink RX0 18 RX0 "price" "I" ∈ gt := wd_at 109 (by decide +kernel) rfl
theorem wf_RX0_21 : Cond.fieldLink RX0 21 RX0 "lowest" "I" ∈ gt := wd_at 112 (by decide +kernel) rfl
theorem wf_RX0_24 : Cond.fieldLink RX0 24 RX0 "highest" "I" ∈ gt := wd_at 113 (by decide +kernel) rfl
theorem wf_RX0_27 : Cond.fieldLink RX0 27 RX0 "banned" "I" ∈ gt := wd_at 114 (by decide +kernel) rfl
theorem wf_RX0_30 : Cond.fieldLink RX0 30 RX0 "sales" "I" ∈ gt := wd_at 115 (by decide +kernel) rfl
theorem wf_RX0_33 : Cond.fieldLink RX0 33 RX0 "takings" "I" ∈ gt := wd_at 116 (by decide +kernel) rfl
theorem wf_RX0_36 : Cond.fieldLink RX0 36 RX0 "raises" "I" ∈ gt := wd_at 117 (by decide +kernel) rfl
theorem wf_RX0_39 : Cond.fieldLink RX0 39 RX0 "commonRaises" "I" ∈ gt := wd_at 118 (by decide +kernel) rfl
theorem wf_RX0_42 : Cond.fieldLink RX0 42 RX0 "wanted" "F" ∈ gt := wd_at 120 (by decide +kernel) rfl
theorem wf_RX0_46 : Cond.fieldLink RX0 46 RX0 "hasRaised" "Z" ∈ gt := wd_at 123 (by decide +kernel) rfl
theorem wf_RX0_9 : Cond.fieldLink RX0 9 RX0 "kind" "I" ∈ gt := wd_at 105 (by decide +kernel) rfl
theorem wf_RX1_11 : Cond.fieldLink RX1 11 RX1 "coils" "[LCoilPrices$Coil;" ∈ gt := wd_at 152 (by decide +kernel) rfl
theorem wf_RX1_120 : Cond.fieldLink RX1 120 RX0 "kind" "I" ∈ gt := wd_at 106 (by decide +kernel) rfl
theorem wf_RX1_123 : Cond.fieldLink RX1 123 RX0 "hasRaised" "Z" ∈ gt := wd_at 124 (by decide +kernel) rfl
theorem wf_RX1_127 : Cond.fieldLink RX1 127 RX0 "commonRaises" "I" ∈ gt := wd_at 119 (by decide +kernel) rfl
theorem wf_RX1_133 : Cond.fieldLink RX1 133 RX4 "tubes" "[I" ∈ gt := wd_at 71 (by decide +kernel) rfl
theorem wf_RX1_136 : Cond.fieldLink RX1 136 RX4 "box" "I" ∈ gt := wd_at 77 (by decide +kernel) rfl
theorem wf_RX1_139 : Cond.fieldLink RX1 139 RX4 "promiseCount" "I" ∈ gt := wd_at 80 (by decide +kernel) rfl
theorem wf_RX1_142 : Cond.fieldLink RX1 142 RX4 "promisesPaid" "I" ∈ gt := wd_at 84 (by decide +kernel) rfl
theorem wf_RX1_17 : Cond.fieldLink RX1 17 RX1 "settings" "[I" ∈ gt := wd_at 154 (by decide +kernel) rfl
theorem wf_RX1_24 : Cond.fieldLink RX1 24 RX1 "till" "LCoilPrices$Till;" ∈ gt := wd_at 156 (by decide +kernel) rfl
theorem wf_RX1_28 : Cond.fieldLink RX1 28 RX1 "coilCount" "I" ∈ gt := wd_at 158 (by decide +kernel) rfl
theorem wf_RX1_32 : Cond.fieldLink RX1 32 RX1 "hour" "I" ∈ gt := wd_at 160 (by decide +kernel) rfl
theorem wf_RX1_35 : Cond.fieldLink RX1 35 RX1 "fines" "I" ∈ gt := wd_at 161 (by decide +kernel) rfl
theorem wf_RX1_59 : Cond.fieldLink RX1 59 RX0 "goods" "I" ∈ gt := wd_at 108 (by decide +kernel) rfl
theorem wf_RX1_62 : Cond.fieldLink RX1 62 RX0 "wanted" "F" ∈ gt := wd_at 121 (by decide +kernel) rfl
theorem wf_RX1_67 : Cond.fieldLink RX1 67 RX0 "price" "I" ∈ gt := wd_at 110 (by decide +kernel) rfl
theorem wf_RX1_78 : Cond.fieldLink RX1 78 RX4 "promiseSum" "I" ∈ gt := wd_at 82 (by decide +kernel) rfl
theorem wf_RX2_15 : Cond.fieldLink RX2 15 RX2 "length" "I" ∈ gt := wd_at 183 (by decide +kernel) rfl
theorem wf_RX2_19 : Cond.fieldLink RX2 19 RX2 "letter" "I" ∈ gt := wd_at 184 (by decide +kernel) rfl
theorem wf_RX2_22 : Cond.fieldLink RX2 22 RX2 "place" "I" ∈ gt := wd_at 186 (by decide +kernel) rfl
theorem wf_RX2_25 : Cond.fieldLink RX2 25 RX2 "number" "I" ∈ gt := wd_at 188 (by decide +kernel) rfl
theorem wf_RX2_28 : Cond.fieldLink RX2 28 RX2 "coins" "[I" ∈ gt := wd_at 190 (by decide +kernel) rfl
theorem wf_RX2_31 : Cond.fieldLink RX2 31 RX2 "at" "I" ∈ gt := wd_at 192 (by decide +kernel) rfl
theorem wf_RX2_34 : Cond.fieldLink RX2 34 RX2 "error" "I" ∈ gt := wd_at 193 (by decide +kernel) rfl
theorem wf_RX2_9 : Cond.fieldLink RX2 9 RX2 "bytes" "[I" ∈ gt := wd_at 182 (by decide +kernel) rfl
theorem wf_RX3_15 : Cond.fieldLink RX3 15 RX3 "taken" "[I" ∈ gt := wd_at 60 (by decide +kernel) rfl
theorem wf_RX3_9 : Cond.fieldLink RX3 9 RX3 "held" "[I" ∈ gt := wd_at 58 (by decide +kernel) rfl
theorem wf_RX4_15 : Cond.fieldLink RX4 15 RX4 "promises" "[I" ∈ gt := wd_at 72 (by decide +kernel) rfl
theorem wf_RX4_21 : Cond.fieldLink RX4 21 RX4 "payment" "LCoilPrices$Payment;" ∈ gt := wd_at 74 (by decide +kernel) rfl
theorem wf_RX4_25 : Cond.fieldLink RX4 25 RX4 "box" "I" ∈ gt := wd_at 76 (by decide +kernel) rfl
theorem wf_RX4_29 : Cond.fieldLink RX4 29 RX4 "promiseCount" "I" ∈ gt := wd_at 78 (by decide +kernel) rfl
theorem wf_RX4_32 : Cond.fieldLink RX4 32 RX4 "promiseSum" "I" ∈ gt := wd_at 81 (by decide +kernel) rfl
theorem wf_RX4_35 : Cond.fieldLink RX4 35 RX4 "promisesPaid" "I" ∈ gt := wd_at 83 (by decide +kernel) rfl
theorem wf_RX4_56 : Cond.fieldLink RX4 56 RX3 "held" "[I" ∈ gt := wd_at 59 (by decide +kernel) rfl
theorem wf_RX4_63 : Cond.fieldLink RX4 63 RX3 "taken" "[I" ∈ gt := wd_at 61 (by decide +kernel) rfl
theorem wf_RX4_9 : Cond.fieldLink RX4 9 RX4 "tubes" "[I" ∈ gt := wd_at 69 (by decide +kernel) rfl
theorem wf_RX5_10 : Cond.fieldLink RX5 10 RX5 "machine" "LCoilPrices$Machine;" ∈ gt := wd_at 211 (by decide +kernel) rfl
theorem wf_RX5_114 : Cond.fieldLink RX5 114 RX1 "till" "LCoilPrices$Till;" ∈ gt := wd_at 157 (by decide +kernel) rfl
theorem wf_RX5_156 : Cond.fieldLink RX5 156 RX1 "coils" "[LCoilPrices$Coil;" ∈ gt := wd_at 153 (by decide +kernel) rfl
theorem wf_RX5_16 : Cond.fieldLink RX5 16 RX5 "trial" "LCoilPrices$Machine;" ∈ gt := wd_at 212 (by decide +kernel) rfl
theorem wf_RX5_165 : Cond.fieldLink RX5 165 RX0 "wanted" "F" ∈ gt := wd_at 122 (by decide +kernel) rfl
theorem wf_RX5_169 : Cond.fieldLink RX5 169 RX4 "tubes" "[I" ∈ gt := wd_at 70 (by decide +kernel) rfl
theorem wf_RX5_175 : Cond.fieldLink RX5 175 RX1 "settings" "[I" ∈ gt := wd_at 155 (by decide +kernel) rfl
theorem wf_RX5_178 : Cond.fieldLink RX5 178 RX4 "promiseCount" "I" ∈ gt := wd_at 79 (by decide +kernel) rfl
theorem wf_RX5_183 : Cond.fieldLink RX5 183 RX4 "promises" "[I" ∈ gt := wd_at 73 (by decide +kernel) rfl
theorem wf_RX5_19 : Cond.fieldLink RX5 19 RX5 "saved" "[LCoilPrices$Machine;" ∈ gt := wd_at 213 (by decide +kernel) rfl
theorem wf_RX5_191 : Cond.fieldLink RX5 191 RX4 "payment" "LCoilPrices$Payment;" ∈ gt := wd_at 75 (by decide +kernel) rfl
theorem wf_RX5_195 : Cond.fieldLink RX5 195 RX3 "taken" "[I" ∈ gt := wd_at 62 (by decide +kernel) rfl
theorem wf_RX5_209 : Cond.fieldLink RX5 209 RX0 "price" "I" ∈ gt := wd_at 111 (by decide +kernel) rfl
theorem wf_RX5_213 : Cond.fieldLink RX5 213 RX1 "coilCount" "I" ∈ gt := wd_at 159 (by decide +kernel) rfl
theorem wf_RX5_23 : Cond.fieldLink RX5 23 RX5 "savedCount" "I" ∈ gt := wd_at 214 (by decide +kernel) rfl
theorem wf_RX5_251 : Cond.fieldLink RX5 251 RX2 "place" "I" ∈ gt := wd_at 187 (by decide +kernel) rfl
theorem wf_RX5_254 : Cond.fieldLink RX5 254 RX2 "number" "I" ∈ gt := wd_at 189 (by decide +kernel) rfl
theorem wf_RX5_256 : Cond.fieldLink RX5 256 RX2 "letter" "I" ∈ gt := wd_at 185 (by decide +kernel) rfl
theorem wf_RX5_259 : Cond.fieldLink RX5 259 RX2 "coins" "[I" ∈ gt := wd_at 191 (by decide +kernel) rfl
theorem wf_RX5_263 : Cond.fieldLink RX5 263 RX5 "COIN" "[I" ∈ gt := wd_at 322 (by decide +kernel) rfl
theorem wf_RX5_30 : Cond.fieldLink RX5 30 RX5 "text" "LCoilPrices$OrderText;" ∈ gt := wd_at 215 (by decide +kernel) rfl
theorem wf_RX5_34 : Cond.fieldLink RX5 34 RX5 "coinsIn" "[I" ∈ gt := wd_at 216 (by decide +kernel) rfl
theorem wf_RX5_49 : Cond.fieldLink RX5 49 RX5 "SETTING_STEP" "[I" ∈ gt := wd_at 691 (by decide +kernel) rfl
theorem wf_RX5_52 : Cond.fieldLink RX5 52 RX5 "LEAST_SETTING" "[I" ∈ gt := wd_at 693 (by decide +kernel) rfl
theorem wf_RX5_55 : Cond.fieldLink RX5 55 RX5 "MOST_SETTING" "[I" ∈ gt := wd_at 695 (by decide +kernel) rfl
theorem wi_X0_begin : Cond.instanceMethod yX0_begin ∈ gt := wd_at 642 (by decide +kernel) rfl
theorem wi_X0_fact : Cond.instanceMethod yX0_fact ∈ gt := wd_at 561 (by decide +kernel) rfl
theorem wi_X0_fade : Cond.instanceMethod yX0_fade ∈ gt := wd_at 411 (by decide +kernel) rfl
theorem wi_X0_init : Cond.instanceMethod yX0_init ∈ gt := wd_at 102 (by decide +kernel) rfl
theorem wi_X0_noteSale : Cond.instanceMethod yX0_noteSale ∈ gt := wd_at 346 (by decide +kernel) rfl
theorem wi_X0_payFine : Cond.instanceMethod yX0_payFine ∈ gt := wd_at 404 (by decide +kernel) rfl
theorem wi_X0_setPrice : Cond.instanceMethod yX0_setPrice ∈ gt := wd_at 391 (by decide +kernel) rfl
theorem wi_X0_shortenBan : Cond.instanceMethod yX0_shortenBan ∈ gt := wd_at 396 (by decide +kernel) rfl
theorem wi_X0_takeOver : Cond.instanceMethod yX0_takeOver ∈ gt := wd_at 286 (by decide +kernel) rfl
theorem wi_X1_addGoods : Cond.instanceMethod yX1_addGoods ∈ gt := wd_at 312 (by decide +kernel) rfl
theorem wi_X1_canSell : Cond.instanceMethod yX1_canSell ∈ gt := wd_at 316 (by decide +kernel) rfl
theorem wi_X1_changeSetting : Cond.instanceMethod yX1_changeSetting ∈ gt := wd_at 699 (by decide +kernel) rfl
theorem wi_X1_hasCoil : Cond.instanceMethod yX1_hasCoil ∈ gt := wd_at 304 (by decide +kernel) rfl
theorem wi_X1_hasRoomForCoil : Cond.instanceMethod yX1_hasRoomForCoil ∈ gt := wd_at 633 (by decide +kernel) rfl
theorem wi_X1_hasRoomForGoods : Cond.instanceMethod yX1_hasRoomForGoods ∈ gt := wd_at 308 (by decide +kernel) rfl
theorem wi_X1_hasTimeFor : Cond.instanceMethod yX1_hasTimeFor ∈ gt := wd_at 378 (by decide +kernel) rfl
theorem wi_X1_init : Cond.instanceMethod yX1_init ∈ gt := wd_at 41 (by decide +kernel) rfl
theorem wi_X1_lookAt : Cond.instanceMethod yX1_lookAt ∈ gt := wd_at 682 (by decide +kernel) rfl
theorem wi_X1_newCoil : Cond.instanceMethod yX1_newCoil ∈ gt := wd_at 638 (by decide +kernel) rfl
theorem wi_X1_number : Cond.instanceMethod yX1_number ∈ gt := wd_at 553 (by decide +kernel) rfl
theorem wi_X1_passHour : Cond.instanceMethod yX1_passHour ∈ gt := wd_at 388 (by decide +kernel) rfl
theorem wi_X1_passHours : Cond.instanceMethod yX1_passHours ∈ gt := wd_at 383 (by decide +kernel) rfl
theorem wi_X1_sell : Cond.instanceMethod yX1_sell ∈ gt := wd_at 342 (by decide +kernel) rfl
theorem wi_X1_sumOfFacts : Cond.instanceMethod yX1_sumOfFacts ∈ gt := wd_at 558 (by decide +kernel) rfl
theorem wi_X1_takeOver : Cond.instanceMethod yX1_takeOver ∈ gt := wd_at 282 (by decide +kernel) rfl
theorem wi_X1_watch : Cond.instanceMethod yX1_watch ∈ gt := wd_at 401 (by decide +kernel) rfl
theorem wi_X2_byteAt : Cond.instanceMethod yX2_byteAt ∈ gt := wd_at 248 (by decide +kernel) rfl
theorem wi_X2_errorPosition : Cond.instanceMethod yX2_errorPosition ∈ gt := wd_at 235 (by decide +kernel) rfl
theorem wi_X2_init : Cond.instanceMethod yX2_init ∈ gt := wd_at 179 (by decide +kernel) rfl
theorem wi_X2_readCoins : Cond.instanceMethod yX2_readCoins ∈ gt := wd_at 271 (by decide +kernel) rfl
theorem wi_X2_readDigit : Cond.instanceMethod yX2_readDigit ∈ gt := wd_at 252 (by decide +kernel) rfl
theorem wi_X2_readNumber : Cond.instanceMethod yX2_readNumber ∈ gt := wd_at 264 (by decide +kernel) rfl
theorem wi_X2_readOrder : Cond.instanceMethod yX2_readOrder ∈ gt := wd_at 243 (by decide +kernel) rfl
theorem wi_X2_readSign : Cond.instanceMethod yX2_readSign ∈ gt := wd_at 260 (by decide +kernel) rfl
theorem wi_X2_startReading : Cond.instanceMethod yX2_startReading ∈ gt := wd_at 239 (by decide +kernel) rfl
theorem wi_X2_stumble : Cond.instanceMethod yX2_stumble ∈ gt := wd_at 256 (by decide +kernel) rfl
theorem wi_X3_find : Cond.instanceMethod yX3_find ∈ gt := wd_at 332 (by decide +kernel) rfl
theorem wi_X3_init : Cond.instanceMethod yX3_init ∈ gt := wd_at 55 (by decide +kernel) rfl
theorem wi_X3_take : Cond.instanceMethod yX3_take ∈ gt := wd_at 339 (by decide +kernel) rfl
theorem wi_X4_addPromise : Cond.instanceMethod yX4_addPromise ∈ gt := wd_at 363 (by decide +kernel) rfl
theorem wi_X4_canPay : Cond.instanceMethod yX4_canPay ∈ gt := wd_at 355 (by decide +kernel) rfl
theorem wi_X4_canPayAfter : Cond.instanceMethod yX4_canPayAfter ∈ gt := wd_at 325 (by decide +kernel) rfl
theorem wi_X4_canPayWithCoin : Cond.instanceMethod yX4_canPayWithCoin ∈ gt := wd_at 611 (by decide +kernel) rfl
theorem wi_X4_fillTube : Cond.instanceMethod yX4_fillTube ∈ gt := wd_at 373 (by decide +kernel) rfl
theorem wi_X4_init : Cond.instanceMethod yX4_init ∈ gt := wd_at 49 (by decide +kernel) rfl
theorem wi_X4_payOut : Cond.instanceMethod yX4_payOut ∈ gt := wd_at 359 (by decide +kernel) rfl
theorem wi_X4_payPromises : Cond.instanceMethod yX4_payPromises ∈ gt := wd_at 367 (by decide +kernel) rfl
theorem wi_X4_takeBox : Cond.instanceMethod yX4_takeBox ∈ gt := wd_at 707 (by decide +kernel) rfl
theorem wi_X4_takeIn : Cond.instanceMethod yX4_takeIn ∈ gt := wd_at 350 (by decide +kernel) rfl
theorem wi_X4_takeOver : Cond.instanceMethod yX4_takeOver ∈ gt := wd_at 293 (by decide +kernel) rfl
theorem wi_X5_addCoil : Cond.instanceMethod yX5_addCoil ∈ gt := wd_at 623 (by decide +kernel) rfl
theorem wi_X5_buy : Cond.instanceMethod yX5_buy ∈ gt := wd_at 661 (by decide +kernel) rfl
theorem wi_X5_carryOut : Cond.instanceMethod yX5_carryOut ∈ gt := wd_at 231 (by decide +kernel) rfl
theorem wi_X5_change : Cond.instanceMethod yX5_change ∈ gt := wd_at 601 (by decide +kernel) rfl
theorem wi_X5_coil : Cond.instanceMethod yX5_coil ∈ gt := wd_at 565 (by decide +kernel) rfl
theorem wi_X5_coinFor : Cond.instanceMethod yX5_coinFor ∈ gt := wd_at 607 (by decide +kernel) rfl
theorem wi_X5_demand : Cond.instanceMethod yX5_demand ∈ gt := wd_at 570 (by decide +kernel) rfl
theorem wi_X5_dropOldest : Cond.instanceMethod yX5_dropOldest ∈ gt := wd_at 279 (by decide +kernel) rfl
theorem wi_X5_emptyBox : Cond.instanceMethod yX5_emptyBox ∈ gt := wd_at 703 (by decide +kernel) rfl
theorem wi_X5_favorite : Cond.instanceMethod yX5_favorite ∈ gt := wd_at 574 (by decide +kernel) rfl
theorem wi_X5_fill : Cond.instanceMethod yX5_fill ∈ gt := wd_at 674 (by decide +kernel) rfl
theorem wi_X5_holdOut : Cond.instanceMethod yX5_holdOut ∈ gt := wd_at 654 (by decide +kernel) rfl
theorem wi_X5_init : Cond.instanceMethod yX5_init ∈ gt := wd_at 33 (by decide +kernel) rfl
theorem wi_X5_look : Cond.instanceMethod yX5_look ∈ gt := wd_at 678 (by decide +kernel) rfl
theorem wi_X5_mostPayable : Cond.instanceMethod yX5_mostPayable ∈ gt := wd_at 615 (by decide +kernel) rfl
theorem wi_X5_obey : Cond.instanceMethod yX5_obey ∈ gt := wd_at 301 (by decide +kernel) rfl
theorem wi_X5_pass : Cond.instanceMethod yX5_pass ∈ gt := wd_at 714 (by decide +kernel) rfl
theorem wi_X5_priceIn : Cond.instanceMethod yX5_priceIn ∈ gt := wd_at 723 (by decide +kernel) rfl
theorem wi_X5_promise : Cond.instanceMethod yX5_promise ∈ gt := wd_at 587 (by decide +kernel) rfl
theorem wi_X5_salesInARow : Cond.instanceMethod yX5_salesInARow ∈ gt := wd_at 649 (by decide +kernel) rfl
theorem wi_X5_save : Cond.instanceMethod yX5_save ∈ gt := wd_at 275 (by decide +kernel) rfl
theorem wi_X5_set : Cond.instanceMethod yX5_set ∈ gt := wd_at 688 (by decide +kernel) rfl
theorem wi_X5_setting : Cond.instanceMethod yX5_setting ∈ gt := wd_at 666 (by decide +kernel) rfl
theorem wi_X5_stock : Cond.instanceMethod yX5_stock ∈ gt := wd_at 430 (by decide +kernel) rfl
theorem wi_X5_tube : Cond.instanceMethod yX5_tube ∈ gt := wd_at 579 (by decide +kernel) rfl
theorem wi_X5_undo : Cond.instanceMethod yX5_undo ∈ gt := wd_at 540 (by decide +kernel) rfl
theorem wi_X5_value : Cond.instanceMethod yX5_value ∈ gt := wd_at 548 (by decide +kernel) rfl
theorem wk_RL_106 : Cond.constantFloat RL 106 (1056964608) ∈ gt := wd_at 686 (by decide +kernel) rfl
theorem wk_RL_137 : Cond.constant RL 137 (2147483632) ∈ gt := wd_at 727 (by decide +kernel) rfl
theorem wk_RL_7 : Cond.constant RL 7 (2073021773) ∈ gt := wd_at 418 (by decide +kernel) rfl
theorem wk_RL_8 : Cond.constant RL 8 (2147483647) ∈ gt := wd_at 422 (by decide +kernel) rfl
theorem wk_RL_91 : Cond.constantFloat RL 91 (1120403456) ∈ gt := wd_at 726 (by decide +kernel) rfl
theorem wk_RX0_50 : Cond.constantFloat RX0 50 (1092616192) ∈ gt := wd_at 394 (by decide +kernel) rfl
theorem wk_RX0_57 : Cond.constantFloat RX0 57 (1120403456) ∈ gt := wd_at 414 (by decide +kernel) rfl
theorem wk_RX1_102 : Cond.constant RX1 102 (100000) ∈ gt := wd_at 381 (by decide +kernel) rfl
theorem wk_RX1_66 : Cond.constantFloat RX1 66 (1056964608) ∈ gt := wd_at 685 (by decide +kernel) rfl
theorem wk_RX5_212 : Cond.constantFloat RX5 212 (3212836864) ∈ gt := wd_at 577 (by decide +kernel) rfl
theorem wl_RL_10 : Cond.classLink RL 10 RX5 ∈ gt := wd_at 30 (by decide +kernel) rfl
theorem wl_RX1_21 : Cond.classLink RX1 21 RX4 ∈ gt := wd_at 46 (by decide +kernel) rfl
theorem wl_RX1_9 : Cond.classLink RX1 9 RX0 ∈ gt := wd_at 44 (by decide +kernel) rfl
theorem wl_RX4_18 : Cond.classLink RX4 18 RX3 ∈ gt := wd_at 52 (by decide +kernel) rfl
theorem wl_RX5_27 : Cond.classLink RX5 27 RX2 ∈ gt := wd_at 176 (by decide +kernel) rfl
theorem wl_RX5_7 : Cond.classLink RX5 7 RX1 ∈ gt := wd_at 38 (by decide +kernel) rfl
theorem wm_RL_101 : Cond.methodLink RL 101 yL_fill ∈ gt := wd_at 670 (by decide +kernel) rfl
theorem wm_RL_103 : Cond.methodLink RL 103 yX5_look ∈ gt := wd_at 677 (by decide +kernel) rfl
theorem wm_RL_107 : Cond.methodLink RL 107 yX5_set ∈ gt := wd_at 687 (by decide +kernel) rfl
theorem wm_RL_110 : Cond.methodLink RL 110 yX5_emptyBox ∈ gt := wd_at 702 (by decide +kernel) rfl
theorem wm_RL_113 : Cond.methodLink RL 113 yL_pays ∈ gt := wd_at 597 (by decide +kernel) rfl
theorem wm_RL_117 : Cond.methodLink RL 117 yL_pass ∈ gt := wd_at 710 (by decide +kernel) rfl
theorem wm_RL_119 : Cond.methodLink RL 119 yL_undo ∈ gt := wd_at 536 (by decide +kernel) rfl
theorem wm_RL_122 : Cond.methodLink RL 122 yL_hours ∈ gt := wd_at 719 (by decide +kernel) rfl
theorem wm_RL_125 : Cond.methodLink RL 125 yX5_init ∈ gt := wd_at 32 (by decide +kernel) rfl
theorem wm_RL_126 : Cond.methodLink RL 126 yL_holds ∈ gt := wd_at 544 (by decide +kernel) rfl
theorem wm_RL_130 : Cond.methodLink RL 130 yL_lot ∈ gt := wd_at 415 (by decide +kernel) rfl
theorem wm_RL_134 : Cond.methodLink RL 134 yX5_carryOut ∈ gt := wd_at 230 (by decide +kernel) rfl
theorem wm_RL_138 : Cond.methodLink RL 138 yL_acts ∈ gt := wd_at 619 (by decide +kernel) rfl
theorem wm_RL_21 : Cond.methodLink RL 21 yX5_fill ∈ gt := wd_at 673 (by decide +kernel) rfl
theorem wm_RL_24 : Cond.methodLink RL 24 yX5_buy ∈ gt := wd_at 660 (by decide +kernel) rfl
theorem wm_RL_28 : Cond.methodLink RL 28 yX5_pass ∈ gt := wd_at 713 (by decide +kernel) rfl
theorem wm_RL_32 : Cond.methodLink RL 32 yX5_undo ∈ gt := wd_at 539 (by decide +kernel) rfl
theorem wm_RL_36 : Cond.methodLink RL 36 yX5_promise ∈ gt := wd_at 586 (by decide +kernel) rfl
theorem wm_RL_39 : Cond.methodLink RL 39 yX5_coil ∈ gt := wd_at 564 (by decide +kernel) rfl
theorem wm_RL_42 : Cond.methodLink RL 42 yX5_value ∈ gt := wd_at 547 (by decide +kernel) rfl
theorem wm_RL_45 : Cond.methodLink RL 45 yX5_demand ∈ gt := wd_at 569 (by decide +kernel) rfl
theorem wm_RL_49 : Cond.methodLink RL 49 yX5_favorite ∈ gt := wd_at 573 (by decide +kernel) rfl
theorem wm_RL_52 : Cond.methodLink RL 52 yX5_tube ∈ gt := wd_at 578 (by decide +kernel) rfl
theorem wm_RL_55 : Cond.methodLink RL 55 yL_worth ∈ gt := wd_at 583 (by decide +kernel) rfl
theorem wm_RL_60 : Cond.methodLink RL 60 yL_promise ∈ gt := wd_at 591 (by decide +kernel) rfl
theorem wm_RL_63 : Cond.methodLink RL 63 yL_coil ∈ gt := wd_at 594 (by decide +kernel) rfl
theorem wm_RL_66 : Cond.methodLink RL 66 yX5_change ∈ gt := wd_at 600 (by decide +kernel) rfl
theorem wm_RL_69 : Cond.methodLink RL 69 yX5_coinFor ∈ gt := wd_at 606 (by decide +kernel) rfl
theorem wm_RL_72 : Cond.methodLink RL 72 yX5_mostPayable ∈ gt := wd_at 614 (by decide +kernel) rfl
theorem wm_RL_75 : Cond.methodLink RL 75 yL_low ∈ gt := wd_at 419 (by decide +kernel) rfl
theorem wm_RL_78 : Cond.methodLink RL 78 yX5_salesInARow ∈ gt := wd_at 648 (by decide +kernel) rfl
theorem wm_RL_82 : Cond.methodLink RL 82 yL_buy ∈ gt := wd_at 657 (by decide +kernel) rfl
theorem wm_RL_85 : Cond.methodLink RL 85 yX5_setting ∈ gt := wd_at 665 (by decide +kernel) rfl
theorem wm_RL_88 : Cond.methodLink RL 88 yX5_priceIn ∈ gt := wd_at 722 (by decide +kernel) rfl
theorem wm_RL_9 : Cond.methodLink RL 9 yX5_stock ∈ gt := wd_at 429 (by decide +kernel) rfl
theorem wm_RL_92 : Cond.methodLink RL 92 yX5_addCoil ∈ gt := wd_at 622 (by decide +kernel) rfl
theorem wm_RL_95 : Cond.methodLink RL 95 yL_stock ∈ gt := wd_at 423 (by decide +kernel) rfl
theorem wm_RL_97 : Cond.methodLink RL 97 yL_sells ∈ gt := wd_at 645 (by decide +kernel) rfl
theorem wm_RX0_3 : Cond.methodLink RX0 3 objectInit ∈ gt := wd_at 104 (by decide +kernel) rfl
theorem wm_RX0_51 : Cond.methodLink RX0 51 Lib.Math.max.name ∈ gt := wd_at 407 (by decide +kernel) rfl
theorem wm_RX1_103 : Cond.methodLink RX1 103 yX1_passHour ∈ gt := wd_at 386 (by decide +kernel) rfl
theorem wm_RX1_106 : Cond.methodLink RX1 106 yX0_setPrice ∈ gt := wd_at 390 (by decide +kernel) rfl
theorem wm_RX1_110 : Cond.methodLink RX1 110 yX0_shortenBan ∈ gt := wd_at 395 (by decide +kernel) rfl
theorem wm_RX1_113 : Cond.methodLink RX1 113 yX1_watch ∈ gt := wd_at 399 (by decide +kernel) rfl
theorem wm_RX1_117 : Cond.methodLink RX1 117 yX0_fade ∈ gt := wd_at 410 (by decide +kernel) rfl
theorem wm_RX1_130 : Cond.methodLink RX1 130 yX0_payFine ∈ gt := wd_at 403 (by decide +kernel) rfl
theorem wm_RX1_145 : Cond.methodLink RX1 145 yX1_sumOfFacts ∈ gt := wd_at 556 (by decide +kernel) rfl
theorem wm_RX1_149 : Cond.methodLink RX1 149 yX0_fact ∈ gt := wd_at 560 (by decide +kernel) rfl
theorem wm_RX1_23 : Cond.methodLink RX1 23 yX4_init ∈ gt := wd_at 48 (by decide +kernel) rfl
theorem wm_RX1_3 : Cond.methodLink RX1 3 objectInit ∈ gt := wd_at 43 (by decide +kernel) rfl
theorem wm_RX1_42 : Cond.methodLink RX1 42 yX0_takeOver ∈ gt := wd_at 285 (by decide +kernel) rfl
theorem wm_RX1_46 : Cond.methodLink RX1 46 arraycopyName ∈ gt := wd_at 289 (by decide +kernel) rfl
theorem wm_RX1_52 : Cond.methodLink RX1 52 yX4_takeOver ∈ gt := wd_at 292 (by decide +kernel) rfl
theorem wm_RX1_55 : Cond.methodLink RX1 55 yX0_begin ∈ gt := wd_at 641 (by decide +kernel) rfl
theorem wm_RX1_74 : Cond.methodLink RX1 74 yX4_canPayAfter ∈ gt := wd_at 324 (by decide +kernel) rfl
theorem wm_RX1_81 : Cond.methodLink RX1 81 yX0_noteSale ∈ gt := wd_at 345 (by decide +kernel) rfl
theorem wm_RX1_84 : Cond.methodLink RX1 84 yX4_takeIn ∈ gt := wd_at 349 (by decide +kernel) rfl
theorem wm_RX1_88 : Cond.methodLink RX1 88 yX4_canPay ∈ gt := wd_at 354 (by decide +kernel) rfl
theorem wm_RX1_92 : Cond.methodLink RX1 92 yX4_payOut ∈ gt := wd_at 358 (by decide +kernel) rfl
theorem wm_RX1_95 : Cond.methodLink RX1 95 yX4_addPromise ∈ gt := wd_at 362 (by decide +kernel) rfl
theorem wm_RX1_99 : Cond.methodLink RX1 99 yX4_payPromises ∈ gt := wd_at 366 (by decide +kernel) rfl
theorem wm_RX2_3 : Cond.methodLink RX2 3 objectInit ∈ gt := wd_at 181 (by decide +kernel) rfl
theorem wm_RX2_37 : Cond.methodLink RX2 37 yX2_startReading ∈ gt := wd_at 238 (by decide +kernel) rfl
theorem wm_RX2_40 : Cond.methodLink RX2 40 yX2_readOrder ∈ gt := wd_at 242 (by decide +kernel) rfl
theorem wm_RX2_44 : Cond.methodLink RX2 44 yX2_byteAt ∈ gt := wd_at 246 (by decide +kernel) rfl
theorem wm_RX2_48 : Cond.methodLink RX2 48 yX2_readDigit ∈ gt := wd_at 250 (by decide +kernel) rfl
theorem wm_RX2_51 : Cond.methodLink RX2 51 yX2_readSign ∈ gt := wd_at 258 (by decide +kernel) rfl
theorem wm_RX2_55 : Cond.methodLink RX2 55 yX2_readNumber ∈ gt := wd_at 262 (by decide +kernel) rfl
theorem wm_RX2_58 : Cond.methodLink RX2 58 yX2_readCoins ∈ gt := wd_at 269 (by decide +kernel) rfl
theorem wm_RX2_61 : Cond.methodLink RX2 61 yX2_isDigit ∈ gt := wd_at 266 (by decide +kernel) rfl
theorem wm_RX2_65 : Cond.methodLink RX2 65 yX2_stumble ∈ gt := wd_at 254 (by decide +kernel) rfl
theorem wm_RX3_21 : Cond.methodLink RX3 21 Lib.Math.min.name ∈ gt := wd_at 336 (by decide +kernel) rfl
theorem wm_RX3_27 : Cond.methodLink RX3 27 yX3_take ∈ gt := wd_at 337 (by decide +kernel) rfl
theorem wm_RX3_3 : Cond.methodLink RX3 3 objectInit ∈ gt := wd_at 57 (by decide +kernel) rfl
theorem wm_RX4_3 : Cond.methodLink RX4 3 objectInit ∈ gt := wd_at 51 (by decide +kernel) rfl
theorem wm_RX4_38 : Cond.methodLink RX4 38 arraycopyName ∈ gt := wd_at 296 (by decide +kernel) rfl
theorem wm_RX4_44 : Cond.methodLink RX4 44 Lib.Math.min.name ∈ gt := wd_at 328 (by decide +kernel) rfl
theorem wm_RX4_50 : Cond.methodLink RX4 50 yX4_payPromises ∈ gt := wd_at 376 (by decide +kernel) rfl
theorem wm_RX4_59 : Cond.methodLink RX4 59 yX3_find ∈ gt := wd_at 331 (by decide +kernel) rfl
theorem wm_RX4_66 : Cond.methodLink RX4 66 yX4_canPay ∈ gt := wd_at 370 (by decide +kernel) rfl
theorem wm_RX4_69 : Cond.methodLink RX4 69 yX4_payOut ∈ gt := wd_at 371 (by decide +kernel) rfl
theorem wm_RX5_1 : Cond.methodLink RX5 1 objectInit ∈ gt := wd_at 35 (by decide +kernel) rfl
theorem wm_RX5_101 : Cond.methodLink RX5 101 yX1_hasRoomForGoods ∈ gt := wd_at 307 (by decide +kernel) rfl
theorem wm_RX5_107 : Cond.methodLink RX5 107 yX1_addGoods ∈ gt := wd_at 311 (by decide +kernel) rfl
theorem wm_RX5_118 : Cond.methodLink RX5 118 yX4_fillTube ∈ gt := wd_at 372 (by decide +kernel) rfl
theorem wm_RX5_123 : Cond.methodLink RX5 123 yX5_holdOut ∈ gt := wd_at 652 (by decide +kernel) rfl
theorem wm_RX5_126 : Cond.methodLink RX5 126 yX1_canSell ∈ gt := wd_at 315 (by decide +kernel) rfl
theorem wm_RX5_132 : Cond.methodLink RX5 132 yX1_sell ∈ gt := wd_at 341 (by decide +kernel) rfl
theorem wm_RX5_136 : Cond.methodLink RX5 136 yX1_lookAt ∈ gt := wd_at 681 (by decide +kernel) rfl
theorem wm_RX5_142 : Cond.methodLink RX5 142 yX1_hasTimeFor ∈ gt := wd_at 377 (by decide +kernel) rfl
theorem wm_RX5_147 : Cond.methodLink RX5 147 yX1_passHours ∈ gt := wd_at 382 (by decide +kernel) rfl
theorem wm_RX5_150 : Cond.methodLink RX5 150 yX4_takeBox ∈ gt := wd_at 706 (by decide +kernel) rfl
theorem wm_RX5_160 : Cond.methodLink RX5 160 yX0_fact ∈ gt := wd_at 568 (by decide +kernel) rfl
theorem wm_RX5_172 : Cond.methodLink RX5 172 yX1_number ∈ gt := wd_at 552 (by decide +kernel) rfl
theorem wm_RX5_188 : Cond.methodLink RX5 188 yX4_canPay ∈ gt := wd_at 605 (by decide +kernel) rfl
theorem wm_RX5_202 : Cond.methodLink RX5 202 yX4_canPayWithCoin ∈ gt := wd_at 610 (by decide +kernel) rfl
theorem wm_RX5_205 : Cond.methodLink RX5 205 yX1_takeOver ∈ gt := wd_at 281 (by decide +kernel) rfl
theorem wm_RX5_226 : Cond.methodLink RX5 226 yX2_errorPosition ∈ gt := wd_at 234 (by decide +kernel) rfl
theorem wm_RX5_229 : Cond.methodLink RX5 229 yX2_startReading ∈ gt := wd_at 297 (by decide +kernel) rfl
theorem wm_RX5_232 : Cond.methodLink RX5 232 yX2_readOrder ∈ gt := wd_at 298 (by decide +kernel) rfl
theorem wm_RX5_235 : Cond.methodLink RX5 235 yX5_obey ∈ gt := wd_at 299 (by decide +kernel) rfl
theorem wm_RX5_248 : Cond.methodLink RX5 248 yX5_dropOldest ∈ gt := wd_at 277 (by decide +kernel) rfl
theorem wm_RX5_38 : Cond.methodLink RX5 38 yX5_isBetween ∈ gt := wd_at 501 (by decide +kernel) rfl
theorem wm_RX5_58 : Cond.methodLink RX5 58 yX5_isStepBetween ∈ gt := wd_at 627 (by decide +kernel) rfl
theorem wm_RX5_64 : Cond.methodLink RX5 64 yX5_save ∈ gt := wd_at 273 (by decide +kernel) rfl
theorem wm_RX5_67 : Cond.methodLink RX5 67 yX1_changeSetting ∈ gt := wd_at 698 (by decide +kernel) rfl
theorem wm_RX5_77 : Cond.methodLink RX5 77 yX1_hasRoomForCoil ∈ gt := wd_at 632 (by decide +kernel) rfl
theorem wm_RX5_86 : Cond.methodLink RX5 86 yX1_newCoil ∈ gt := wd_at 637 (by decide +kernel) rfl
theorem wm_RX5_9 : Cond.methodLink RX5 9 yX1_init ∈ gt := wd_at 40 (by decide +kernel) rfl
theorem wm_RX5_90 : Cond.methodLink RX5 90 yX1_hasCoil ∈ gt := wd_at 303 (by decide +kernel) rfl
theorem wn_L : Cond.initialized RL ∈ gt := wd_at 15 (by decide +kernel) rfl
theorem wn_X0 : Cond.initialized RX0 ∈ gt := wd_at 20 (by decide +kernel) rfl
theorem wn_X1 : Cond.initialized RX1 ∈ gt := wd_at 17 (by decide +kernel) rfl
theorem wn_X2 : Cond.initialized RX2 ∈ gt := wd_at 21 (by decide +kernel) rfl
theorem wn_X3 : Cond.initialized RX3 ∈ gt := wd_at 19 (by decide +kernel) rfl
theorem wn_X4 : Cond.initialized RX4 ∈ gt := wd_at 18 (by decide +kernel) rfl
theorem wn_X5 : Cond.initialized RX5 ∈ gt := wd_at 16 (by decide +kernel) rfl
theorem wobj_c : Cond.code objectInit ⟨#[0xb1]⟩ 1 none ∈ gt := wd_at 37 (by decide +kernel) rfl
theorem wobj_i : Cond.instanceMethod objectInit ∈ gt := wd_at 36 (by decide +kernel) rfl
theorem ws_X0_begin : Cond.selects RX0 yX0_begin yX0_begin ∈ gt := wd_at 643 (by decide +kernel) rfl
theorem ws_X0_fact : Cond.selects RX0 yX0_fact yX0_fact ∈ gt := wd_at 562 (by decide +kernel) rfl
theorem ws_X0_fade : Cond.selects RX0 yX0_fade yX0_fade ∈ gt := wd_at 412 (by decide +kernel) rfl
theorem ws_X0_noteSale : Cond.selects RX0 yX0_noteSale yX0_noteSale ∈ gt := wd_at 347 (by decide +kernel) rfl
theorem ws_X0_payFine : Cond.selects RX0 yX0_payFine yX0_payFine ∈ gt := wd_at 405 (by decide +kernel) rfl
theorem ws_X0_setPrice : Cond.selects RX0 yX0_setPrice yX0_setPrice ∈ gt := wd_at 392 (by decide +kernel) rfl
theorem ws_X0_shortenBan : Cond.selects RX0 yX0_shortenBan yX0_shortenBan ∈ gt := wd_at 397 (by decide +kernel) rfl
theorem ws_X0_takeOver : Cond.selects RX0 yX0_takeOver yX0_takeOver ∈ gt := wd_at 287 (by decide +kernel) rfl
theorem ws_X1_addGoods : Cond.selects RX1 yX1_addGoods yX1_addGoods ∈ gt := wd_at 313 (by decide +kernel) rfl
theorem ws_X1_canSell : Cond.selects RX1 yX1_canSell yX1_canSell ∈ gt := wd_at 317 (by decide +kernel) rfl
theorem ws_X1_changeSetting : Cond.selects RX1 yX1_changeSetting yX1_changeSetting ∈ gt := wd_at 700 (by decide +kernel) rfl
theorem ws_X1_hasCoil : Cond.selects RX1 yX1_hasCoil yX1_hasCoil ∈ gt := wd_at 305 (by decide +kernel) rfl
theorem ws_X1_hasRoomForCoil : Cond.selects RX1 yX1_hasRoomForCoil yX1_hasRoomForCoil ∈ gt := wd_at 634 (by decide +kernel) rfl
theorem ws_X1_hasRoomForGoods : Cond.selects RX1 yX1_hasRoomForGoods yX1_hasRoomForGoods ∈ gt := wd_at 309 (by decide +kernel) rfl
theorem ws_X1_hasTimeFor : Cond.selects RX1 yX1_hasTimeFor yX1_hasTimeFor ∈ gt := wd_at 379 (by decide +kernel) rfl
theorem ws_X1_lookAt : Cond.selects RX1 yX1_lookAt yX1_lookAt ∈ gt := wd_at 683 (by decide +kernel) rfl
theorem ws_X1_newCoil : Cond.selects RX1 yX1_newCoil yX1_newCoil ∈ gt := wd_at 639 (by decide +kernel) rfl
theorem ws_X1_number : Cond.selects RX1 yX1_number yX1_number ∈ gt := wd_at 554 (by decide +kernel) rfl
theorem ws_X1_passHour : Cond.selects RX1 yX1_passHour yX1_passHour ∈ gt := wd_at 10 (by decide +kernel) rfl
theorem ws_X1_passHours : Cond.selects RX1 yX1_passHours yX1_passHours ∈ gt := wd_at 384 (by decide +kernel) rfl
theorem ws_X1_sell : Cond.selects RX1 yX1_sell yX1_sell ∈ gt := wd_at 343 (by decide +kernel) rfl
theorem ws_X1_sumOfFacts : Cond.selects RX1 yX1_sumOfFacts yX1_sumOfFacts ∈ gt := wd_at 13 (by decide +kernel) rfl
theorem ws_X1_takeOver : Cond.selects RX1 yX1_takeOver yX1_takeOver ∈ gt := wd_at 283 (by decide +kernel) rfl
theorem ws_X1_watch : Cond.selects RX1 yX1_watch yX1_watch ∈ gt := wd_at 11 (by decide +kernel) rfl
theorem ws_X2_byteAt : Cond.selects RX2 yX2_byteAt yX2_byteAt ∈ gt := wd_at 0 (by decide +kernel) rfl
theorem ws_X2_errorPosition : Cond.selects RX2 yX2_errorPosition yX2_errorPosition ∈ gt := wd_at 236 (by decide +kernel) rfl
theorem ws_X2_readCoins : Cond.selects RX2 yX2_readCoins yX2_readCoins ∈ gt := wd_at 5 (by decide +kernel) rfl
theorem ws_X2_readDigit : Cond.selects RX2 yX2_readDigit yX2_readDigit ∈ gt := wd_at 1 (by decide +kernel) rfl
theorem ws_X2_readNumber : Cond.selects RX2 yX2_readNumber yX2_readNumber ∈ gt := wd_at 4 (by decide +kernel) rfl
theorem ws_X2_readOrder : Cond.selects RX2 yX2_readOrder yX2_readOrder ∈ gt := wd_at 244 (by decide +kernel) rfl
theorem ws_X2_readSign : Cond.selects RX2 yX2_readSign yX2_readSign ∈ gt := wd_at 3 (by decide +kernel) rfl
theorem ws_X2_startReading : Cond.selects RX2 yX2_startReading yX2_startReading ∈ gt := wd_at 240 (by decide +kernel) rfl
theorem ws_X2_stumble : Cond.selects RX2 yX2_stumble yX2_stumble ∈ gt := wd_at 2 (by decide +kernel) rfl
theorem ws_X3_find : Cond.selects RX3 yX3_find yX3_find ∈ gt := wd_at 333 (by decide +kernel) rfl
theorem ws_X3_take : Cond.selects RX3 yX3_take yX3_take ∈ gt := wd_at 9 (by decide +kernel) rfl
theorem ws_X4_addPromise : Cond.selects RX4 yX4_addPromise yX4_addPromise ∈ gt := wd_at 364 (by decide +kernel) rfl
theorem ws_X4_canPay : Cond.selects RX4 yX4_canPay yX4_canPay ∈ gt := wd_at 356 (by decide +kernel) rfl
theorem ws_X4_canPayAfter : Cond.selects RX4 yX4_canPayAfter yX4_canPayAfter ∈ gt := wd_at 326 (by decide +kernel) rfl
theorem ws_X4_canPayWithCoin : Cond.selects RX4 yX4_canPayWithCoin yX4_canPayWithCoin ∈ gt := wd_at 612 (by decide +kernel) rfl
theorem ws_X4_fillTube : Cond.selects RX4 yX4_fillTube yX4_fillTube ∈ gt := wd_at 374 (by decide +kernel) rfl
theorem ws_X4_payOut : Cond.selects RX4 yX4_payOut yX4_payOut ∈ gt := wd_at 360 (by decide +kernel) rfl
theorem ws_X4_payPromises : Cond.selects RX4 yX4_payPromises yX4_payPromises ∈ gt := wd_at 368 (by decide +kernel) rfl
theorem ws_X4_takeBox : Cond.selects RX4 yX4_takeBox yX4_takeBox ∈ gt := wd_at 708 (by decide +kernel) rfl
theorem ws_X4_takeIn : Cond.selects RX4 yX4_takeIn yX4_takeIn ∈ gt := wd_at 351 (by decide +kernel) rfl
theorem ws_X4_takeOver : Cond.selects RX4 yX4_takeOver yX4_takeOver ∈ gt := wd_at 294 (by decide +kernel) rfl
theorem ws_X5_addCoil : Cond.selects RX5 yX5_addCoil yX5_addCoil ∈ gt := wd_at 624 (by decide +kernel) rfl
theorem ws_X5_buy : Cond.selects RX5 yX5_buy yX5_buy ∈ gt := wd_at 662 (by decide +kernel) rfl
theorem ws_X5_carryOut : Cond.selects RX5 yX5_carryOut yX5_carryOut ∈ gt := wd_at 232 (by decide +kernel) rfl
theorem ws_X5_change : Cond.selects RX5 yX5_change yX5_change ∈ gt := wd_at 602 (by decide +kernel) rfl
theorem ws_X5_coil : Cond.selects RX5 yX5_coil yX5_coil ∈ gt := wd_at 566 (by decide +kernel) rfl
theorem ws_X5_coinFor : Cond.selects RX5 yX5_coinFor yX5_coinFor ∈ gt := wd_at 608 (by decide +kernel) rfl
theorem ws_X5_demand : Cond.selects RX5 yX5_demand yX5_demand ∈ gt := wd_at 571 (by decide +kernel) rfl
theorem ws_X5_dropOldest : Cond.selects RX5 yX5_dropOldest yX5_dropOldest ∈ gt := wd_at 7 (by decide +kernel) rfl
theorem ws_X5_emptyBox : Cond.selects RX5 yX5_emptyBox yX5_emptyBox ∈ gt := wd_at 704 (by decide +kernel) rfl
theorem ws_X5_favorite : Cond.selects RX5 yX5_favorite yX5_favorite ∈ gt := wd_at 575 (by decide +kernel) rfl
theorem ws_X5_fill : Cond.selects RX5 yX5_fill yX5_fill ∈ gt := wd_at 675 (by decide +kernel) rfl
theorem ws_X5_holdOut : Cond.selects RX5 yX5_holdOut yX5_holdOut ∈ gt := wd_at 14 (by decide +kernel) rfl
theorem ws_X5_look : Cond.selects RX5 yX5_look yX5_look ∈ gt := wd_at 679 (by decide +kernel) rfl
theorem ws_X5_mostPayable : Cond.selects RX5 yX5_mostPayable yX5_mostPayable ∈ gt := wd_at 616 (by decide +kernel) rfl
theorem ws_X5_obey : Cond.selects RX5 yX5_obey yX5_obey ∈ gt := wd_at 8 (by decide +kernel) rfl
theorem ws_X5_pass : Cond.selects RX5 yX5_pass yX5_pass ∈ gt := wd_at 715 (by decide +kernel) rfl
theorem ws_X5_priceIn : Cond.selects RX5 yX5_priceIn yX5_priceIn ∈ gt := wd_at 724 (by decide +kernel) rfl
theorem ws_X5_promise : Cond.selects RX5 yX5_promise yX5_promise ∈ gt := wd_at 588 (by decide +kernel) rfl
theorem ws_X5_salesInARow : Cond.selects RX5 yX5_salesInARow yX5_salesInARow ∈ gt := wd_at 650 (by decide +kernel) rfl
theorem ws_X5_save : Cond.selects RX5 yX5_save yX5_save ∈ gt := wd_at 6 (by decide +kernel) rfl
theorem ws_X5_set : Cond.selects RX5 yX5_set yX5_set ∈ gt := wd_at 689 (by decide +kernel) rfl
theorem ws_X5_setting : Cond.selects RX5 yX5_setting yX5_setting ∈ gt := wd_at 667 (by decide +kernel) rfl
theorem ws_X5_stock : Cond.selects RX5 yX5_stock yX5_stock ∈ gt := wd_at 431 (by decide +kernel) rfl
theorem ws_X5_tube : Cond.selects RX5 yX5_tube yX5_tube ∈ gt := wd_at 580 (by decide +kernel) rfl
theorem ws_X5_undo : Cond.selects RX5 yX5_undo yX5_undo ∈ gt := wd_at 541 (by decide +kernel) rfl
theorem ws_X5_value : Cond.selects RX5 yX5_value yX5_value ∈ gt := wd_at 549 (by decide +kernel) rfl
theorem wt_L_acts : Cond.static yL_acts ∈ gt := wd_at 620 (by decide +kernel) rfl
theorem wt_L_buy : Cond.static yL_buy ∈ gt := wd_at 658 (by decide +kernel) rfl
theorem wt_L_coil : Cond.static yL_coil ∈ gt := wd_at 595 (by decide +kernel) rfl
theorem wt_L_fill : Cond.static yL_fill ∈ gt := wd_at 671 (by decide +kernel) rfl
theorem wt_L_holds : Cond.static yL_holds ∈ gt := wd_at 545 (by decide +kernel) rfl
theorem wt_L_hours : Cond.static yL_hours ∈ gt := wd_at 720 (by decide +kernel) rfl
theorem wt_L_lot : Cond.static yL_lot ∈ gt := wd_at 416 (by decide +kernel) rfl
theorem wt_L_low : Cond.static yL_low ∈ gt := wd_at 420 (by decide +kernel) rfl
theorem wt_L_pass : Cond.static yL_pass ∈ gt := wd_at 711 (by decide +kernel) rfl
theorem wt_L_pays : Cond.static yL_pays ∈ gt := wd_at 598 (by decide +kernel) rfl
theorem wt_L_promise : Cond.static yL_promise ∈ gt := wd_at 592 (by decide +kernel) rfl
theorem wt_L_sells : Cond.static yL_sells ∈ gt := wd_at 646 (by decide +kernel) rfl
theorem wt_L_stock : Cond.static yL_stock ∈ gt := wd_at 424 (by decide +kernel) rfl
theorem wt_L_undo : Cond.static yL_undo ∈ gt := wd_at 537 (by decide +kernel) rfl
theorem wt_L_worth : Cond.static yL_worth ∈ gt := wd_at 584 (by decide +kernel) rfl
theorem wt_X2_isDigit : Cond.static yX2_isDigit ∈ gt := wd_at 267 (by decide +kernel) rfl
theorem wt_X5_isBetween : Cond.static yX5_isBetween ∈ gt := wd_at 502 (by decide +kernel) rfl
theorem wt_X5_isStepBetween : Cond.static yX5_isStepBetween ∈ gt := wd_at 628 (by decide +kernel) rfl
theorem wt_X5_worth : Cond.static yX5_worth ∈ gt := wd_at 320 (by decide +kernel) rfl
theorem wz_X0 : Cond.instantiable RX0 12 ∈ gt := wd_at 100 (by decide +kernel) rfl
theorem wz_X1 : Cond.instantiable RX1 6 ∈ gt := wd_at 39 (by decide +kernel) rfl
theorem wz_X2 : Cond.instantiable RX2 8 ∈ gt := wd_at 177 (by decide +kernel) rfl
theorem wz_X3 : Cond.instantiable RX3 2 ∈ gt := wd_at 53 (by decide +kernel) rfl
theorem wz_X4 : Cond.instantiable RX4 7 ∈ gt := wd_at 47 (by decide +kernel) rfl
theorem wz_X5 : Cond.instantiable RX5 6 ∈ gt := wd_at 31 (by decide +kernel) rfl
