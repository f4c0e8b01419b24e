/-! cases of the law -/
set_option maxHeartbeats 4000000 in
set_option maxRecDepth 100000 in
/-- buy -/
theorem case_4 {l : Launch} {D : va_G} {C : Nat → ClassId} {T : Nat → Nat} {ad : Int → Nat} {b L : Nat} {xs : Nat → Int32} {nm : String} (hst : l.stackTraces = false) (hL : L ≤ 3072) : lawStep l D C T ad b L xs nm relR 4 := by
  intro G i k n hG h0 h6 hk hn kk
  show AW _ _ _ _ _ _ _ _ _ _ _ _ _ 444 _ _ _ _ _
  refine aw_aload_n (q := 445) 1 dL_law_444 rfl rfl rfl ?_
  refine aw_aload_n (q := 446) 0 dL_law_445 rfl rfl rfl ?_
  refine aw_iload (q := 448) 5 dL_law_446 rfl rfl ?_
  refine aw_iconst (q := 449) dL_law_448 rfl ?_
  refine ae_iadd (q := 450) (i + 1) rfl dL_law_449 rfl ?_
  refine aw_sld (q := 451) ⟨by omega, by omega⟩ hL (fun s h => h.2) dL_law_450 rfl ?_
  refine aw_aload_n (q := 452) 0 dL_law_451 rfl rfl rfl ?_
  refine aw_iload (q := 454) 5 dL_law_452 rfl rfl ?_
  refine aw_iconst (q := 455) dL_law_454 rfl ?_
  refine ae_iadd (q := 456) (i + 2) rfl dL_law_455 rfl ?_
  refine aw_sld (q := 457) ⟨by omega, by omega⟩ hL (fun s h => h.2) dL_law_456 rfl ?_
  refine aw_aload_n (q := 458) 0 dL_law_457 rfl rfl rfl ?_
  refine aw_iload (q := 460) 5 dL_law_458 rfl rfl ?_
  refine aw_iconst (q := 461) dL_law_460 rfl ?_
  refine ae_iadd (q := 462) (i + 3) rfl dL_law_461 rfl ?_
  refine aw_sld (q := 463) ⟨by omega, by omega⟩ hL (fun s h => h.2) dL_law_462 rfl ?_
  refine aw_aload_n (q := 464) 0 dL_law_463 rfl rfl rfl ?_
  refine aw_iload (q := 466) 5 dL_law_464 rfl rfl ?_
  refine aw_iconst (q := 467) dL_law_466 rfl ?_
  refine ae_iadd (q := 468) (i + 4) rfl dL_law_467 rfl ?_
  refine aw_sld (q := 469) ⟨by omega, by omega⟩ hL (fun s h => h.2) dL_law_468 rfl ?_
  refine aw_aload_n (q := 470) 0 dL_law_469 rfl rfl rfl ?_
  refine aw_iload (q := 472) 5 dL_law_470 rfl rfl ?_
  refine aw_iconst (q := 473) dL_law_472 rfl ?_
  refine ae_iadd (q := 474) (i + 5) rfl dL_law_473 rfl ?_
  refine aw_sld (q := 475) ⟨by omega, by omega⟩ hL (fun s h => h.2) dL_law_474 rfl ?_
  refine aw_aload_n (q := 476) 3 dL_law_475 rfl rfl rfl ?_
  refine aw_callSW (q := 479) (As := [.ref (ad 102), .int (iI (xs (i + 1).toNat).toInt), .int (iI (xs (i + 2).toNat).toInt), .int (iI (xs (i + 3).toNat).toInt), .int (iI (xs (i + 4).toNat).toInt), .int (iI (xs (i + 5).toNat).toInt), .ref (ad 118)]) (st := []) 7 (cL_h_buy (T := T) (D := D) (ad := ad) G (c_buy hst G (relR_M hG) (iI_rng (xs (i + 1).toNat)) (iI_rng (xs (i + 2).toNat)) (iI_rng (xs (i + 3).toNat)) (iI_rng (xs (i + 4).toNat)) (iI_rng (xs (i + 5).toNat))) (by
    intro E G1 h
    rcases h with ⟨rfl, -⟩ | ⟨rfl, -⟩ | ⟨rfl, -⟩ <;> simp) (by decide) (by decide) (by decide) (by decide)) (fun _ h => h.1) wcw_L_buy wm_RL_104 wt_L_buy wn_L (by decide) rfl ⟨Nat.le_of_ble_eq_true rfl, Nat.le_of_ble_eq_true rfl⟩ ⟨by show k + 1 ≤ 601024; omega, by show n + 6 ≤ 7293034; omega⟩ (Nat.le_of_ble_eq_true rfl) dL_law_476 rfl ?_
  rintro v9 w9 ⟨kc, A, rfl, rfl, h9⟩
  refine aw_istore (q := 481) (lv2 := (6, .int (iI kc)) :: lawLv b ad i) [0, 1, 2, 3, 4, 5, 6] dL_law_479 rfl (by decide) rfl rfl ?_
  have hkc : 0 ≤ kc ∧ kc ≤ 3 := by
    rcases h9 with ⟨h, -⟩ | ⟨h, -⟩ | ⟨h, -⟩ | ⟨h, -⟩ <;> omega
  have h2 : (kc = 0 ∧ ∃ a G2, (((0 ≤ (xs (i + 1).toNat).toInt ∧ (xs (i + 1).toNat).toInt < G 0 13) ∧ ((0 ≤ (xs (i + 2).toNat).toInt ∧ (xs (i + 2).toNat).toInt ≤ 9) ∧ (0 ≤ (xs (i + 3).toNat).toInt ∧ (xs (i + 3).toNat).toInt ≤ 9) ∧ (0 ≤ (xs (i + 4).toNat).toInt ∧ (xs (i + 4).toNat).toInt ≤ 9) ∧ (0 ≤ (xs (i + 5).toNat).toInt ∧ (xs (i + 5).toNat).toInt ≤ 9)) ∧ canSellP (cinG G (xs (i + 2).toNat).toInt (xs (i + 3).toNat).toInt (xs (i + 4).toNat).toInt (xs (i + 5).toNat).toInt) 0 (xs (i + 1).toNat).toInt 10) ∧ ∃ K1 H, sameB (scr 0) (cinG G (xs (i + 2).toNat).toInt (xs (i + 3).toNat).toInt (xs (i + 4).toNat).toInt (xs (i + 5).toNat).toInt) K1 ∧ saveP K1 H ∧ sellP H 0 (xs (i + 1).toNat).toInt 10 a G2) ∧ A = setG G2 21 0 (wI a)) ∨ (kc = 1 ∧ A = G ∧ ¬ (0 ≤ (xs (i + 1).toNat).toInt ∧ (xs (i + 1).toNat).toInt < G 0 13)) ∨ (kc = 2 ∧ A = cinG G (xs (i + 2).toNat).toInt (xs (i + 3).toNat).toInt (xs (i + 4).toNat).toInt (xs (i + 5).toNat).toInt ∧ (0 ≤ (xs (i + 1).toNat).toInt ∧ (xs (i + 1).toNat).toInt < G 0 13) ∧ ¬ ((0 ≤ (xs (i + 2).toNat).toInt ∧ (xs (i + 2).toNat).toInt ≤ 9) ∧ (0 ≤ (xs (i + 3).toNat).toInt ∧ (xs (i + 3).toNat).toInt ≤ 9) ∧ (0 ≤ (xs (i + 4).toNat).toInt ∧ (xs (i + 4).toNat).toInt ≤ 9) ∧ (0 ≤ (xs (i + 5).toNat).toInt ∧ (xs (i + 5).toNat).toInt ≤ 9))) ∨ (kc = 3 ∧ (0 ≤ (xs (i + 1).toNat).toInt ∧ (xs (i + 1).toNat).toInt < G 0 13) ∧ ((0 ≤ (xs (i + 2).toNat).toInt ∧ (xs (i + 2).toNat).toInt ≤ 9) ∧ (0 ≤ (xs (i + 3).toNat).toInt ∧ (xs (i + 3).toNat).toInt ≤ 9) ∧ (0 ≤ (xs (i + 4).toNat).toInt ∧ (xs (i + 4).toNat).toInt ≤ 9) ∧ (0 ≤ (xs (i + 5).toNat).toInt ∧ (xs (i + 5).toNat).toInt ≤ 9)) ∧ ¬ canSellP (cinG G (xs (i + 2).toNat).toInt (xs (i + 3).toNat).toInt (xs (i + 4).toNat).toInt (xs (i + 5).toNat).toInt) 0 (xs (i + 1).toNat).toInt 10 ∧ sameB (scr 0) (cinG G (xs (i + 2).toNat).toInt (xs (i + 3).toNat).toInt (xs (i + 4).toNat).toInt (xs (i + 5).toNat).toInt) A) := by
    rcases h9 with h | ⟨hk, hx⟩ | ⟨hk, hx⟩ | ⟨hk, hx⟩
    · exact Or.inl h
    · rcases hx with ⟨q, z⟩ | ⟨q, z⟩ | ⟨q, z⟩ <;> first | exact Or.inr (Or.inl (⟨hk, z⟩)) | exact absurd q (by decide)
    · rcases hx with ⟨q, z⟩ | ⟨q, z⟩ | ⟨q, z⟩ <;> first | exact Or.inr (Or.inr (Or.inl (⟨hk, z⟩))) | exact absurd q (by decide)
    · rcases hx with ⟨q, z⟩ | ⟨q, z⟩ | ⟨q, z⟩ <;> first | exact Or.inr (Or.inr (Or.inr (⟨hk, z⟩))) | exact absurd q (by decide)
  obtain ⟨oN, oH, oP, oR, oX, h4, o10, htu, h13, h14, h6x⟩ := aOk hG (k_buy hG h2)
  refine aw_aload_n (q := 482) 3 dL_law_481 rfl rfl rfl ?_
  refine aw_aload_n (q := 483) 1 dL_law_482 rfl rfl rfl ?_
  refine aw_iload (q := 485) 6 dL_law_483 rfl rfl ?_
  refine aw_iconst (q := 486) dL_law_485 rfl ?_
  refine ae_iadd (q := 487) (i + 1) rfl dL_law_486 rfl ?_
  refine aw_sld (q := 488) ⟨by omega, by omega⟩ hL (fun s h => h.2) dL_law_487 rfl ?_
  refine aw_aload_n (q := 489) 1 dL_law_488 rfl rfl rfl ?_
  refine aw_iload (q := 491) 6 dL_law_489 rfl rfl ?_
  refine aw_iconst (q := 492) dL_law_491 rfl ?_
  refine ae_iadd (q := 493) (i + 2) rfl dL_law_492 rfl ?_
  refine aw_sld (q := 494) ⟨by omega, by omega⟩ hL (fun s h => h.2) dL_law_493 rfl ?_
  refine aw_aload_n (q := 495) 1 dL_law_494 rfl rfl rfl ?_
  refine aw_iload (q := 497) 6 dL_law_495 rfl rfl ?_
  refine aw_iconst (q := 498) dL_law_497 rfl ?_
  refine ae_iadd (q := 499) (i + 3) rfl dL_law_498 rfl ?_
  refine aw_sld (q := 500) ⟨by omega, by omega⟩ hL (fun s h => h.2) dL_law_499 rfl ?_
  refine aw_aload_n (q := 501) 1 dL_law_500 rfl rfl rfl ?_
  refine aw_iload (q := 503) 6 dL_law_501 rfl rfl ?_
  refine aw_iconst (q := 504) dL_law_503 rfl ?_
  refine ae_iadd (q := 505) (i + 4) rfl dL_law_504 rfl ?_
  refine aw_sld (q := 506) ⟨by omega, by omega⟩ hL (fun s h => h.2) dL_law_505 rfl ?_
  refine aw_aload_n (q := 507) 1 dL_law_506 rfl rfl rfl ?_
  refine aw_iload (q := 509) 6 dL_law_507 rfl rfl ?_
  refine aw_iconst (q := 510) dL_law_509 rfl ?_
  refine ae_iadd (q := 511) (i + 5) rfl dL_law_510 rfl ?_
  refine aw_sld (q := 512) ⟨by omega, by omega⟩ hL (fun s h => h.2) dL_law_511 rfl ?_
  refine cv_I (q := 515) (CC := "") (id := 108) (As := [.int (iI (xs (i + 1).toNat).toInt), .int (iI (xs (i + 2).toNat).toInt), .int (iI (xs (i + 3).toNat).toInt), .int (iI (xs (i + 4).toNat).toInt), .int (iI (xs (i + 5).toNat).toInt)]) 5 (c_buyM A h4 oH oP oR (iI_rng (xs (i + 1).toNat)) (iI_rng (xs (i + 2).toNat)) (iI_rng (xs (i + 3).toNat)) (iI_rng (xs (i + 4).toNat)) (iI_rng (xs (i + 5).toNat))) (fun _ h => h.1) (by omega) (cell_108 ad C _) rfl wc_X6_buy wm_RL_107 wi_X6_buy ws_X6_buy wn_X6 (by decide) rfl ⟨Nat.le_of_ble_eq_true rfl, Nat.le_of_ble_eq_true rfl⟩ ⟨by show k + 1 ≤ 601024; omega, by show n + 6 ≤ 7293034; omega⟩ (Nat.le_of_ble_eq_true rfl) dL_law_512 rfl (fun r2 B h8 => ?_)
  refine aw_istore (q := 517) (lv2 := (7, .int (iI r2)) :: (6, .int (iI kc)) :: lawLv b ad i) [0, 1, 2, 3, 4, 5, 6, 7] dL_law_515 rfl (by decide) rfl rfl ?_
  exact law_tail (p := 517) (by omega) (by omega) dL_law_517 dL_law_518 dL_law_521 dL_law_523 dL_law_528 dL_law_530 dL_law_533 dL_law_534 dL_law_535 dL_law_536 dL_law_538 dL_law_539 dL_law_540 dL_law_545 (by decide) hkc (f_buy hG h2 h8) (fun rB => kk B rB)
set_option maxHeartbeats 4000000 in
set_option maxRecDepth 100000 in
/-- look -/
theorem case_5 {l : Launch} {D : va_G} {C : Nat → ClassId} {T : Nat → Nat} {ad : Int → Nat} {b L : Nat} {xs : Nat → Int32} {nm : String} (hst : l.stackTraces = false) (hL : L ≤ 3072) : lawStep l D C T ad b L xs nm relR 5 := by
  intro G i k n hG h0 h6 hk hn kk
  show AW _ _ _ _ _ _ _ _ _ _ _ _ _ 548 _ _ _ _ _
  refine aw_aload_n (q := 549) 1 dL_law_548 rfl rfl rfl ?_
  refine aw_aload_n (q := 550) 0 dL_law_549 rfl rfl rfl ?_
  refine aw_iload (q := 552) 5 dL_law_550 rfl rfl ?_
  refine aw_iconst (q := 553) dL_law_552 rfl ?_
  refine ae_iadd (q := 554) (i + 1) rfl dL_law_553 rfl ?_
  refine aw_sld (q := 555) ⟨by omega, by omega⟩ hL (fun s h => h.2) dL_law_554 rfl ?_
  refine aw_aload_n (q := 556) 3 dL_law_555 rfl rfl rfl ?_
  refine aw_callSW (q := 559) (As := [.ref (ad 102), .int (iI (xs (i + 1).toNat).toInt), .ref (ad 118)]) (st := []) 3 (cL_h_look (T := T) (D := D) (ad := ad) G (c_look hst G (relR_M hG) (iI_rng (xs (i + 1).toNat))) (by
    intro E G1 h
    rcases h with ⟨-, rfl, -⟩ <;> simp) (by decide) (by decide) (by decide) (by decide)) (fun _ h => h.1) wcw_L_look wm_RL_108 wt_L_look wn_L (by decide) rfl ⟨Nat.le_of_ble_eq_true rfl, Nat.le_of_ble_eq_true rfl⟩ ⟨by show k + 1 ≤ 601024; omega, by show n + 6 ≤ 7293034; omega⟩ (Nat.le_of_ble_eq_true rfl) dL_law_556 rfl ?_
  rintro v9 w9 ⟨kc, A, rfl, rfl, h9⟩
  refine aw_istore (q := 561) (lv2 := (6, .int (iI kc)) :: lawLv b ad i) [0, 1, 2, 3, 4, 5, 6] dL_law_559 rfl (by decide) rfl rfl ?_
  have hkc : 0 ≤ kc ∧ kc ≤ 3 := by
    rcases h9 with ⟨h, -⟩ | ⟨h, -⟩ <;> omega
  have h2 : (kc = 0 ∧ ∃ a G2, ((0 ≤ (xs (i + 1).toNat).toInt ∧ (xs (i + 1).toNat).toInt < G 0 13) ∧ ∃ H, saveP G H ∧ a = G 0 (15 + 12 * (xs (i + 1).toNat).toInt + 2) ∧ G2 = setG H 0 (15 + 12 * (xs (i + 1).toNat).toInt + 10) (faddH (G 0 (15 + 12 * (xs (i + 1).toNat).toInt + 10)))) ∧ A = setG G2 21 0 (wI a)) ∨ (kc = 1 ∧ A = G ∧ ¬ (0 ≤ (xs (i + 1).toNat).toInt ∧ (xs (i + 1).toNat).toInt < G 0 13)) := by
    rcases h9 with h | ⟨hk, hx⟩
    · exact Or.inl h
    · exact Or.inr (⟨hk, hx.1, hx.2.2⟩)
  obtain ⟨oN, oH, oP, oR, oX, h4, o10, htu, h13, h14, h6x⟩ := aOk hG (k_look hG h2)
  refine aw_aload_n (q := 562) 3 dL_law_561 rfl rfl rfl ?_
  refine aw_aload_n (q := 563) 1 dL_law_562 rfl rfl rfl ?_
  refine aw_iload (q := 565) 6 dL_law_563 rfl rfl ?_
  refine aw_iconst (q := 566) dL_law_565 rfl ?_
  refine ae_iadd (q := 567) (i + 1) rfl dL_law_566 rfl ?_
  refine aw_sld (q := 568) ⟨by omega, by omega⟩ hL (fun s h => h.2) dL_law_567 rfl ?_
  refine cv_I (q := 571) (CC := "") (id := 108) (As := [.int (iI (xs (i + 1).toNat).toInt)]) 1 (c_lookM A h4 oH (iI_rng (xs (i + 1).toNat))) (fun _ h => h.1) (by omega) (cell_108 ad C _) rfl wc_X6_look wm_RL_111 wi_X6_look ws_X6_look wn_X6 (by decide) rfl ⟨Nat.le_of_ble_eq_true rfl, Nat.le_of_ble_eq_true rfl⟩ ⟨by show k + 1 ≤ 601024; omega, by show n + 6 ≤ 7293034; omega⟩ (Nat.le_of_ble_eq_true rfl) dL_law_568 rfl (fun r2 B h8 => ?_)
  refine aw_istore (q := 573) (lv2 := (7, .int (iI r2)) :: (6, .int (iI kc)) :: lawLv b ad i) [0, 1, 2, 3, 4, 5, 6, 7] dL_law_571 rfl (by decide) rfl rfl ?_
  exact law_tail (p := 573) (by omega) (by omega) dL_law_573 dL_law_574 dL_law_577 dL_law_579 dL_law_584 dL_law_586 dL_law_589 dL_law_590 dL_law_591 dL_law_592 dL_law_594 dL_law_595 dL_law_596 dL_law_601 (by decide) hkc (f_look hG h2 h8) (fun rB => kk B rB)
set_option maxHeartbeats 4000000 in
set_option maxRecDepth 100000 in
/-- pass -/
theorem case_6 {l : Launch} {D : va_G} {C : Nat → ClassId} {T : Nat → Nat} {ad : Int → Nat} {b L : Nat} {xs : Nat → Int32} {nm : String} (hst : l.stackTraces = false) (hL : L ≤ 3072) : lawStep l D C T ad b L xs nm relR 6 := by
  intro G i k n hG h0 h6 hk hn kk
  show AW _ _ _ _ _ _ _ _ _ _ _ _ _ 604 _ _ _ _ _
  refine aw_aload_n (q := 605) 1 dL_law_604 rfl rfl rfl ?_
  refine aw_aload_n (q := 606) 0 dL_law_605 rfl rfl rfl ?_
  refine aw_iload (q := 608) 5 dL_law_606 rfl rfl ?_
  refine aw_iconst (q := 609) dL_law_608 rfl ?_
  refine ae_iadd (q := 610) (i + 1) rfl dL_law_609 rfl ?_
  refine aw_sld (q := 611) ⟨by omega, by omega⟩ hL (fun s h => h.2) dL_law_610 rfl ?_
  refine aw_aload_n (q := 612) 3 dL_law_611 rfl rfl rfl ?_
  refine aw_callSW (q := 615) (As := [.ref (ad 102), .int (iI (xs (i + 1).toNat).toInt), .ref (ad 118)]) (st := []) 3 (cL_h_pass (T := T) (D := D) (ad := ad) G (c_pass hst G (relR_M hG) (iI_rng (xs (i + 1).toNat))) (by
    intro E G1 h
    rcases h with ⟨-, ⟨rfl, -⟩ | ⟨rfl, -⟩⟩ <;> simp) (by decide) (by decide) (by decide) (by decide)) (fun _ h => h.1) wcw_L_pass wm_RL_112 wt_L_pass wn_L (by decide) rfl ⟨Nat.le_of_ble_eq_true rfl, Nat.le_of_ble_eq_true rfl⟩ ⟨by show k + 1 ≤ 601024; omega, by show n + 6 ≤ 7293034; omega⟩ (Nat.le_of_ble_eq_true rfl) dL_law_612 rfl ?_
  rintro v9 w9 ⟨kc, A, rfl, rfl, h9⟩
  refine aw_istore (q := 617) (lv2 := (6, .int (iI kc)) :: lawLv b ad i) [0, 1, 2, 3, 4, 5, 6] dL_law_615 rfl (by decide) rfl rfl ?_
  have hkc : 0 ≤ kc ∧ kc ≤ 3 := by
    rcases h9 with ⟨h, -⟩ | ⟨h, -⟩ | ⟨h, -⟩ <;> omega
  have h2 : (kc = 0 ∧ ∃ a G2, (((1 ≤ (xs (i + 1).toNat).toInt ∧ (xs (i + 1).toNat).toInt ≤ 48) ∧ (G 0 10 + (xs (i + 1).toNat).toInt ≤ 100000)) ∧ ∃ H, saveP G H ∧ a = hoursR (G 0) (xs (i + 1).toNat).toInt.toNat 12 - G 0 12 ∧ G2 = onR H 0 (hoursR (G 0) (xs (i + 1).toNat).toInt.toNat)) ∧ A = setG G2 21 0 (wI a)) ∨ (kc = 1 ∧ A = G ∧ ¬ (1 ≤ (xs (i + 1).toNat).toInt ∧ (xs (i + 1).toNat).toInt ≤ 48)) ∨ (kc = 2 ∧ A = G ∧ (1 ≤ (xs (i + 1).toNat).toInt ∧ (xs (i + 1).toNat).toInt ≤ 48) ∧ ¬ (G 0 10 + (xs (i + 1).toNat).toInt ≤ 100000)) := by
    rcases h9 with h | ⟨hk, hx⟩ | ⟨hk, hx⟩
    · exact Or.inl h
    · obtain ⟨hA, hx⟩ := hx
      rcases hx with ⟨q, z⟩ | ⟨q, z⟩ <;> first | exact Or.inr (Or.inl (⟨hk, hA, z⟩)) | exact absurd q (by decide)
    · obtain ⟨hA, hx⟩ := hx
      rcases hx with ⟨q, z⟩ | ⟨q, z⟩ <;> first | exact Or.inr (Or.inr (⟨hk, hA, z⟩)) | exact absurd q (by decide)
  obtain ⟨oN, oH, oP, oR, oX, h4, o10, htu, h13, h14, h6x⟩ := aOk hG (k_pass hG h2)
  refine aw_aload_n (q := 618) 3 dL_law_617 rfl rfl rfl ?_
  refine aw_aload_n (q := 619) 1 dL_law_618 rfl rfl rfl ?_
  refine aw_iload (q := 621) 6 dL_law_619 rfl rfl ?_
  refine aw_iconst (q := 622) dL_law_621 rfl ?_
  refine ae_iadd (q := 623) (i + 1) rfl dL_law_622 rfl ?_
  refine aw_sld (q := 624) ⟨by omega, by omega⟩ hL (fun s h => h.2) dL_law_623 rfl ?_
  refine cv_I (q := 627) (CC := "") (id := 108) (As := [.int (iI (xs (i + 1).toNat).toInt)]) 1 (c_passM A h4 oH o10 (iI_rng (xs (i + 1).toNat))) (fun _ h => h.1) (by omega) (cell_108 ad C _) rfl wc_X6_pass wm_RL_114 wi_X6_pass ws_X6_pass wn_X6 (by decide) rfl ⟨Nat.le_of_ble_eq_true rfl, Nat.le_of_ble_eq_true rfl⟩ ⟨by show k + 1 ≤ 601024; omega, by show n + 6 ≤ 7293034; omega⟩ (Nat.le_of_ble_eq_true rfl) dL_law_624 rfl (fun r2 B h8 => ?_)
  refine aw_istore (q := 629) (lv2 := (7, .int (iI r2)) :: (6, .int (iI kc)) :: lawLv b ad i) [0, 1, 2, 3, 4, 5, 6, 7] dL_law_627 rfl (by decide) rfl rfl ?_
  exact law_tail (p := 629) (by omega) (by omega) dL_law_629 dL_law_630 dL_law_633 dL_law_635 dL_law_640 dL_law_642 dL_law_645 dL_law_646 dL_law_647 dL_law_648 dL_law_650 dL_law_651 dL_law_652 dL_law_657 (by decide) hkc (f_pass hG h2 h8) (fun rB => kk B rB)
set_option maxHeartbeats 4000000 in
set_option maxRecDepth 100000 in
/-- coil -/
theorem case_8 {l : Launch} {D : va_G} {C : Nat → ClassId} {T : Nat → Nat} {ad : Int → Nat} {b L : Nat} {xs : Nat → Int32} {nm : String} (hst : l.stackTraces = false) (hL : L ≤ 3072) : lawStep l D C T ad b L xs nm relR 8 := by
  intro G i k n hG h0 h6 hk hn kk
  show AW _ _ _ _ _ _ _ _ _ _ _ _ _ 673 _ _ _ _ _
  refine aw_aload_n (q := 674) 1 dL_law_673 rfl rfl rfl ?_
  refine aw_aload_n (q := 675) 0 dL_law_674 rfl rfl rfl ?_
  refine aw_iload (q := 677) 5 dL_law_675 rfl rfl ?_
  refine aw_iconst (q := 678) dL_law_677 rfl ?_
  refine ae_iadd (q := 679) (i + 1) rfl dL_law_678 rfl ?_
  refine aw_sld (q := 680) ⟨by omega, by omega⟩ hL (fun s h => h.2) dL_law_679 rfl ?_
  refine aw_aload_n (q := 681) 0 dL_law_680 rfl rfl rfl ?_
  refine aw_iload (q := 683) 5 dL_law_681 rfl rfl ?_
  refine aw_iconst (q := 684) dL_law_683 rfl ?_
  refine ae_iadd (q := 685) (i + 2) rfl dL_law_684 rfl ?_
  refine aw_sld (q := 686) ⟨by omega, by omega⟩ hL (fun s h => h.2) dL_law_685 rfl ?_
  refine aw_aload_n (q := 687) 3 dL_law_686 rfl rfl rfl ?_
  refine aw_callSW (q := 690) (As := [.ref (ad 102), .int (iI (xs (i + 1).toNat).toInt), .int (iI (xs (i + 2).toNat).toInt), .ref (ad 118)]) (st := []) 4 (cL_h_coil (T := T) (D := D) (ad := ad) G (c_coilV hst G (relR_M hG) (iI_rng (xs (i + 1).toNat)) (iI_rng (xs (i + 2).toNat))) (by
    intro E G1 h
    rcases h with ⟨-, ⟨rfl, -⟩ | ⟨rfl, -⟩⟩ <;> simp) (by decide) (by decide) (by decide) (by decide)) (fun _ h => h.1) wcw_L_coil wm_RL_119 wt_L_coil wn_L (by decide) rfl ⟨Nat.le_of_ble_eq_true rfl, Nat.le_of_ble_eq_true rfl⟩ ⟨by show k + 1 ≤ 601024; omega, by show n + 6 ≤ 7293034; omega⟩ (Nat.le_of_ble_eq_true rfl) dL_law_687 rfl ?_
  rintro v9 w9 ⟨kc, A, rfl, rfl, h9⟩
  refine aw_istore (q := 692) (lv2 := (6, .int (iI kc)) :: lawLv b ad i) [0, 1, 2, 3, 4, 5, 6] dL_law_690 rfl (by decide) rfl rfl ?_
  have hkc : 0 ≤ kc ∧ kc ≤ 3 := by
    rcases h9 with ⟨h, -⟩ | ⟨h, -⟩ | ⟨h, -⟩ <;> omega
  have h2 : (kc = 0 ∧ ∃ a G2, (((0 ≤ (xs (i + 1).toNat).toInt ∧ (xs (i + 1).toNat).toInt < G 0 13) ∧ (0 ≤ (xs (i + 2).toNat).toInt ∧ (xs (i + 2).toNat).toInt ≤ 9)) ∧ a = G 0 (15 + 12 * (xs (i + 1).toNat).toInt + (xs (i + 2).toNat).toInt) ∧ G2 = G) ∧ A = setG G2 21 0 (wI a)) ∨ (kc = 1 ∧ A = G ∧ ¬ (0 ≤ (xs (i + 1).toNat).toInt ∧ (xs (i + 1).toNat).toInt < G 0 13)) ∨ (kc = 2 ∧ A = G ∧ (0 ≤ (xs (i + 1).toNat).toInt ∧ (xs (i + 1).toNat).toInt < G 0 13) ∧ ¬ (0 ≤ (xs (i + 2).toNat).toInt ∧ (xs (i + 2).toNat).toInt ≤ 9)) := by
    rcases h9 with h | ⟨hk, hx⟩ | ⟨hk, hx⟩
    · exact Or.inl h
    · obtain ⟨hA, hx⟩ := hx
      rcases hx with ⟨q, z⟩ | ⟨q, z⟩ <;> first | exact Or.inr (Or.inl (⟨hk, hA, z⟩)) | exact absurd q (by decide)
    · obtain ⟨hA, hx⟩ := hx
      rcases hx with ⟨q, z⟩ | ⟨q, z⟩ <;> first | exact Or.inr (Or.inr (⟨hk, hA, z⟩)) | exact absurd q (by decide)
  obtain ⟨oN, oH, oP, oR, oX, h4, o10, htu, h13, h14, h6x⟩ := aOk hG (k_coil hG h2)
  refine aw_aload_n (q := 693) 3 dL_law_692 rfl rfl rfl ?_
  refine aw_aload_n (q := 694) 1 dL_law_693 rfl rfl rfl ?_
  refine aw_iload (q := 696) 6 dL_law_694 rfl rfl ?_
  refine aw_iconst (q := 697) dL_law_696 rfl ?_
  refine ae_iadd (q := 698) (i + 1) rfl dL_law_697 rfl ?_
  refine aw_sld (q := 699) ⟨by omega, by omega⟩ hL (fun s h => h.2) dL_law_698 rfl ?_
  refine aw_aload_n (q := 700) 1 dL_law_699 rfl rfl rfl ?_
  refine aw_iload (q := 702) 6 dL_law_700 rfl rfl ?_
  refine aw_iconst (q := 703) dL_law_702 rfl ?_
  refine ae_iadd (q := 704) (i + 2) rfl dL_law_703 rfl ?_
  refine aw_sld (q := 705) ⟨by omega, by omega⟩ hL (fun s h => h.2) dL_law_704 rfl ?_
  refine cv_I (q := 708) (CC := "") (id := 108) (As := [.int (iI (xs (i + 1).toNat).toInt), .int (iI (xs (i + 2).toNat).toInt)]) 2 (c_coilM A h13 (iI_rng (xs (i + 1).toNat)) (iI_rng (xs (i + 2).toNat))) (fun _ h => h.1) (by omega) (cell_108 ad C _) rfl wc_X6_coil wm_RL_121 wi_X6_coil ws_X6_coil wn_X6 (by decide) rfl ⟨Nat.le_of_ble_eq_true rfl, Nat.le_of_ble_eq_true rfl⟩ ⟨by show k + 1 ≤ 601024; omega, by show n + 6 ≤ 7293034; omega⟩ (Nat.le_of_ble_eq_true rfl) dL_law_705 rfl (fun r2 B h8 => ?_)
  refine aw_istore (q := 710) (lv2 := (7, .int (iI r2)) :: (6, .int (iI kc)) :: lawLv b ad i) [0, 1, 2, 3, 4, 5, 6, 7] dL_law_708 rfl (by decide) rfl rfl ?_
  exact law_tail (p := 710) (by omega) (by omega) dL_law_710 dL_law_711 dL_law_714 dL_law_716 dL_law_721 dL_law_723 dL_law_726 dL_law_727 dL_law_728 dL_law_729 dL_law_731 dL_law_732 dL_law_733 dL_law_738 (by decide) hkc (f_coil hG h2 h8) (fun rB => kk B rB)
