/-! demand; the cases without a helper -/
theorem aw_dcmpE {l : Launch} {own nm : String} {cc : ByteArray} {nL : Nat} {ret : Option FieldType} {X : Code → Prop} {R : Room} {E : List Frame → Array Value → State → State → Prop} {D : va_G} {ty : List (ClassId × FieldType)} {Z : State → Prop} {w0 ws : va_W} {pc q : Nat} {lv : List (Nat × Value)} {st : List Value} {k n : Nat} {x : UInt64} (h : Op.cmpValue (FP.dcmp x x) .l = 0) (d : decode cc pc = .ok (.dcmp .l, 1)) (hq : pc + 1 = q) (kk : AW l own nm cc nL ret X R E D ty Z w0 q lv (.int (iI 0) :: st) ws k n) : AW l own nm cc nL ret X R E D ty Z w0 pc lv (.double x :: .double x :: st) ws k n := by
  refine aw_dcmp d hq ?_
  rw [h]
  exact kk
set_option maxHeartbeats 4000000 in
set_option maxRecDepth 100000 in
theorem law_tailD {l : Launch} {D : va_G} {C : Nat → ClassId} {T : Nat → Nat} {ad : Int → Nat} {b L : Nat} {xs : Nat → Int32} {nm : String} {i : Int} {k n : Nat} {kc : Int} {r2 : UInt32} {B : GG} (hk : k ≤ 601024) (hn : n ≤ 7293034)
    (hkc : 0 ≤ kc ∧ kc ≤ 3) (f : B 11 7 = kc ∧ (kc = 0 → (∃ w, okW w ∧ r2 = fB w) ∧ B 22 0 = ((FP.f2d r2).toNat : Int)) ∧ relR B)
    (kk : relR B → AW l RL nm code 8 ret (fun _ => True) room_1 (lawE b) D (tyC C) (lawZ b L xs T) [] 1524 (lawLv b ad i) [] (cw ad C B) k n) :
    AW l RL nm code 8 ret (fun _ => True) room_1 (lawE b) D (tyC C) (lawZ b L xs T) [] 767 ((7, .float r2) :: (6, .int (iI kc)) :: lawLv b ad i) [] (cw ad C B) k n := by
  have kend : AW l RL nm code 8 ret (fun _ => True) room_1 (lawE b) D (tyC C) (lawZ b L xs T) [] 816 ((7, .float r2) :: (6, .int (iI kc)) :: lawLv b ad i) [] (cw ad C B) k n :=
    aw_goto (q := 1524) dL_law_816 (by decide) (aw_less (fun q hq => List.mem_cons_of_mem _ (List.mem_cons_of_mem _ hq)) (kk f.2.2))
  refine aw_aload_n (q := 768) 4 dL_law_767 rfl rfl rfl ?_
  refine cv_I (q := 771) (CC := "") (id := 108) (As := []) 0 (c_thrown (T := T) (D := D) (ad := ad) B) (fun _ h => h.1) (by omega) (cell_108 ad C _) rfl wc_X6_thrown wm_RL_91 wi_X6_thrown ws_X6_thrown wn_X6 (by decide) rfl ⟨Nat.le_of_ble_eq_true rfl, Nat.le_of_ble_eq_true rfl⟩ ⟨by show k ≤ 601024; omega, by show n ≤ 7293034; omega⟩ (Nat.le_of_ble_eq_true rfl) dL_law_768 rfl (fun r9 G9 h9 => ?_)
  rw [h9.1, h9.2, f.1]
  refine aw_iload (q := 773) 1 dL_law_771 rfl rfl ?_
  refine aw_icmp_eq (q := 776) dL_law_773 rfl (t := 778) (by decide) (by omega) (by omega) (fun _ => ?_) (fun h => absurd rfl h)
  refine aw_iload (q := 780) 1 dL_law_778 rfl rfl ?_
  refine aw_ifW_ne (q := 783) dL_law_780 rfl (t := 816) (by decide) (fun _ => kend) (fun h0 => ?_)
  have hk0 : kc = 0 := (iI_inj (by omega) (by omega)).mp (h0.trans (show (0 : Int32) = iI 0 from rfl))
  obtain ⟨⟨w, ow, rfl⟩, h22⟩ := f.2.1 hk0
  refine aw_aload (q := 785) 6 dL_law_783 rfl rfl ?_
  refine aw_iconst (q := 786) dL_law_785 rfl ?_
  refine aw_outD (q := 787) rfl h22 dL_law_786 rfl ?_
  rw [dB_nat]
  refine aw_fload (q := 789) 0 dL_law_787 rfl rfl ?_
  refine aw_f2d (q := 790) dL_law_789 rfl (fw_d ow) ?_
  refine aw_dcmpE (q := 791) (fw_dd ow) dL_law_790 rfl ?_
  exact aw_ifW_eq (q := 794) dL_law_791 rfl (t := 816) (by decide) (fun _ => kend) (fun h => absurd rfl h)
set_option maxHeartbeats 4000000 in
set_option maxRecDepth 100000 in
/-- demand -/
theorem case_9 {l : Launch} {D : va_G} {C : Nat → ClassId} {T : Nat → Nat} {ad : Int → Nat} {b L : Nat} {xs : Nat → Int32} {nm : String} (hst : l.stackTraces = false) (hL : L ≤ 3072) : lawStep l D C T ad b L xs nm relR 9 := by
  intro G i k n hG h0 h6 hk hn kk
  show AW _ _ _ _ _ _ _ _ _ _ _ _ _ 741 _ _ _ _ _
  refine aw_aload_n (q := 742) 1 dL_law_741 rfl rfl rfl ?_
  refine aw_aload_n (q := 743) 0 dL_law_742 rfl rfl rfl ?_
  refine aw_iload (q := 745) 5 dL_law_743 rfl rfl ?_
  refine aw_iconst (q := 746) dL_law_745 rfl ?_
  refine ae_iadd (q := 747) (i + 1) rfl dL_law_746 rfl ?_
  refine aw_sld (q := 748) ⟨by omega, by omega⟩ hL (fun s h => h.2) dL_law_747 rfl ?_
  refine aw_aload (q := 750) 4 dL_law_748 rfl rfl ?_
  refine aw_callSW (q := 753) (As := [.ref (ad 102), .int (iI (xs (i + 1).toNat).toInt), .ref (ad 119)]) (st := []) 3 (cL_h_demand (T := T) (D := D) (ad := ad) G (c_demand hst G (relR_M hG) (iI_rng (xs (i + 1).toNat))) (by
    intro E G1 h
    rcases h with ⟨-, rfl, -⟩ <;> simp) (fun v G2 h => ?hne) (by decide) (by decide) (by decide) (by decide)) (fun _ h => h.1) wcw_L_demand wm_RL_122 wt_L_demand wn_L (by decide) rfl ⟨Nat.le_of_ble_eq_true rfl, Nat.le_of_ble_eq_true rfl⟩ ⟨by show k + 1 ≤ 601024; omega, by show n + 6 ≤ 7293034; omega⟩ (Nat.le_of_ble_eq_true rfl) dL_law_750 rfl ?_
  case hne =>
    obtain ⟨z1, rfl, -⟩ := h
    exact fw_d (hG.1.1.2.2 _ z1.1 z1.2).2.2.2.2.2.2.2.1
  rintro v9 w9 ⟨kc, A, rfl, rfl, h9⟩
  refine aw_istore (q := 755) (lv2 := (6, .int (iI kc)) :: lawLv b ad i) [0, 1, 2, 3, 4, 5, 6] dL_law_753 rfl (by decide) rfl rfl ?_
  have hkc : 0 ≤ kc ∧ kc ≤ 3 := by
    rcases h9 with ⟨h, -⟩ | ⟨h, -⟩ <;> omega
  have h2 : (kc = 0 ∧ ∃ (a : UInt32) (G2 : GG), ((0 ≤ (xs (i + 1).toNat).toInt ∧ (xs (i + 1).toNat).toInt < G 0 13) ∧ a = fB (G 0 (15 + 12 * (xs (i + 1).toNat).toInt + 10)) ∧ G2 = G) ∧ A = setG G2 22 0 ((FP.f2d a).toNat : Int)) ∨ (kc = 1 ∧ A = G ∧ ¬ (0 ≤ (xs (i + 1).toNat).toInt ∧ (xs (i + 1).toNat).toInt < G 0 13)) := by
    rcases h9 with h | ⟨hk, hx⟩
    · exact Or.inl h
    · exact Or.inr (⟨hk, hx.1, hx.2.2⟩)
  obtain ⟨oN, oH, oP, oR, oX, h4, o10, htu, h13, h14, h6x⟩ := aOk hG (k_demand hG h2)
  refine aw_aload_n (q := 756) 3 dL_law_755 rfl rfl rfl ?_
  refine aw_aload_n (q := 757) 1 dL_law_756 rfl rfl rfl ?_
  refine aw_iload (q := 759) 6 dL_law_757 rfl rfl ?_
  refine aw_iconst (q := 760) dL_law_759 rfl ?_
  refine ae_iadd (q := 761) (i + 1) rfl dL_law_760 rfl ?_
  refine aw_sld (q := 762) ⟨by omega, by omega⟩ hL (fun s h => h.2) dL_law_761 rfl ?_
  refine cv_F (q := 765) (CC := "") (id := 108) (As := [.int (iI (xs (i + 1).toNat).toInt)]) 1 (c_demandM A oH (iI_rng (xs (i + 1).toNat))) (fun _ h => h.1) (by omega) (cell_108 ad C _) rfl wc_X6_demand wm_RL_125 wi_X6_demand ws_X6_demand wn_X6 (by decide) rfl ⟨Nat.le_of_ble_eq_true rfl, Nat.le_of_ble_eq_true rfl⟩ ⟨by show k + 1 ≤ 601024; omega, by show n + 6 ≤ 7293034; omega⟩ (Nat.le_of_ble_eq_true rfl) dL_law_762 rfl (fun r2 B h8 => ?_)
  refine aw_fstore (q := 767) (lv2 := (7, .float r2) :: (6, .int (iI kc)) :: lawLv b ad i) [0, 1, 2, 3, 4, 5, 6, 7] dL_law_765 rfl (by decide) rfl rfl ?_
  exact law_tailD (by omega) (by omega) hkc (f_demand hG h2 h8) (fun rB => kk B rB)
/-- an int against itself, whatever its range -/
theorem aw_icmp_eqW {l : Launch} {own nm : String} {cc : ByteArray} {nL : Nat} {ret : Option FieldType} {X : Code → Prop} {R : Room} {E : List Frame → Array Value → State → State → Prop} {D : va_G} {ty : List (ClassId × FieldType)} {Z : State → Prop} {w0 ws : va_W} {pc q t : Nat} {off : Int} {lv : List (Nat × Value)} {st : List Value} {k n : Nat} {x : Int} (d : decode cc pc = .ok (.if_icmp .eq off, 3)) (hq : pc + 3 = q) (ht : (pc : Int) + off = (t : Int)) (kk : AW l own nm cc nL ret X R E D ty Z w0 t lv st ws k n) : AW l own nm cc nL ret X R E D ty Z w0 pc lv (.int (iI x) :: .int (iI x) :: st) ws k n := by
  have e : iI x = iI (iI x).toInt := iI_of (iI x)
  rw [e]
  exact aw_icmp_eq d hq ht (iI_rng _) (iI_rng _) (fun _ => kk) (fun h => absurd rfl h)
set_option maxHeartbeats 4000000 in
set_option maxRecDepth 100000 in
/-- emptyBox -/
theorem case_7 {l : Launch} {D : va_G} {C : Nat → ClassId} {T : Nat → Nat} {ad : Int → Nat} {b L : Nat} {xs : Nat → Int32} {nm : String} : lawStep l D C T ad b L xs nm relR 7 := by
  intro G i k n hG h0 h6 hk hn kk
  show AW _ _ _ _ _ _ _ _ _ _ _ _ _ 660 _ _ _ _ _
  refine aw_aload_n (q := 661) 1 dL_law_660 rfl rfl rfl ?_
  refine cv_I (q := 664) (CC := "") (id := 102) (As := []) 0 (c_emptyBox (T := T) (D := D) (ad := ad) G (relR_M hG)) (fun _ h => h.1) (by omega) (cell_102 ad C _) rfl wc_X5_emptyBox wm_RL_115 wi_X5_emptyBox ws_X5_emptyBox wn_X5 (by decide) rfl ⟨Nat.le_of_ble_eq_true rfl, Nat.le_of_ble_eq_true rfl⟩ ⟨by show k ≤ 601024; omega, by show n ≤ 7293034; omega⟩ (Nat.le_of_ble_eq_true rfl) dL_law_661 rfl (fun r1 A h2 => ?_)
  obtain ⟨oN, oH, oP, oR, oX, h4, o10, htu, h13, h14, h6x⟩ := aOk hG (k_box hG h2)
  refine aw_aload_n (q := 665) 2 dL_law_664 rfl rfl rfl ?_
  refine cv_I (q := 668) (CC := "") (id := 108) (As := []) 0 (c_emptyBoxM (T := T) (D := D) (ad := ad) A h4) (fun _ h => h.1) (by omega) (cell_108 ad C _) rfl wc_X6_emptyBox wm_RL_118 wi_X6_emptyBox ws_X6_emptyBox wn_X6 (by decide) rfl ⟨Nat.le_of_ble_eq_true rfl, Nat.le_of_ble_eq_true rfl⟩ ⟨by show k ≤ 601024; omega, by show n ≤ 7293034; omega⟩ (Nat.le_of_ble_eq_true rfl) dL_law_665 rfl (fun r2 B h8 => ?_)
  obtain ⟨e, rB⟩ := f_box hG h2 h8
  rw [e]
  refine aw_icmp_eqW (q := 671) dL_law_668 rfl (t := 1524) (by decide) ?_
  exact aw_wide2 (Nat.le_add_right k 1) (Nat.le_add_right n 6) (kk B rB)
set_option maxHeartbeats 4000000 in
set_option maxRecDepth 100000 in
/-- favorite -/
theorem case_19 {l : Launch} {D : va_G} {C : Nat → ClassId} {T : Nat → Nat} {ad : Int → Nat} {b L : Nat} {xs : Nat → Int32} {nm : String} : lawStep l D C T ad b L xs nm relR 19 := by
  intro G i k n hG h0 h6 hk hn kk
  show AW _ _ _ _ _ _ _ _ _ _ _ _ _ 1371 _ _ _ _ _
  refine aw_aload_n (q := 1372) 1 dL_law_1371 rfl rfl rfl ?_
  refine cv_I (q := 1375) (CC := "") (id := 102) (As := []) 0 (c_favorite (T := T) (D := D) (ad := ad) G (relR_M hG).1.2.1) (fun _ h => h.1) (by omega) (cell_102 ad C _) rfl wc_X5_favorite wm_RL_153 wi_X5_favorite ws_X5_favorite wn_X5 (by decide) rfl ⟨Nat.le_of_ble_eq_true rfl, Nat.le_of_ble_eq_true rfl⟩ ⟨by show k ≤ 601024; omega, by show n ≤ 7293034; omega⟩ (Nat.le_of_ble_eq_true rfl) dL_law_1372 rfl (fun r1 A h2 => ?_)
  obtain ⟨rfl, rfl⟩ := h2
  obtain ⟨oN, oH, oP, oR, oX, h4, o10, htu, h13, h14, h6x⟩ := aOk hG (fun _ _ _ _ => rfl)
  refine aw_aload_n (q := 1376) 2 dL_law_1375 rfl rfl rfl ?_
  refine cv_I (q := 1379) (CC := "") (id := 108) (As := []) 0 (c_favoriteM (T := T) (D := D) (ad := ad) A oH) (fun _ h => h.1) (by omega) (cell_108 ad C _) rfl wc_X6_favorite wm_RL_156 wi_X6_favorite ws_X6_favorite wn_X6 (by decide) rfl ⟨Nat.le_of_ble_eq_true rfl, Nat.le_of_ble_eq_true rfl⟩ ⟨by show k ≤ 601024; omega, by show n ≤ 7293034; omega⟩ (Nat.le_of_ble_eq_true rfl) dL_law_1376 rfl (fun r2 B h8 => ?_)
  obtain ⟨e, rB⟩ := f_favorite hG fw_neg h8
  rw [e]
  refine aw_icmp_eqW (q := 1382) dL_law_1379 rfl (t := 1524) (by decide) ?_
  exact aw_wide2 (Nat.le_add_right k 1) (Nat.le_add_right n 6) (kk B rB)
set_option maxHeartbeats 4000000 in
set_option maxRecDepth 100000 in
/-- clearText -/
theorem case_21r {l : Launch} {D : va_G} {C : Nat → ClassId} {T : Nat → Nat} {ad : Int → Nat} {b L : Nat} {xs : Nat → Int32} {nm : String} : lawStep l D C T ad b L xs nm relR 21 := by
  intro G i k n hG h0 h6 hk hn kk
  show AW _ _ _ _ _ _ _ _ _ _ _ _ _ 1440 _ _ _ _ _
  refine aw_aload_n (q := 1441) 1 dL_law_1440 rfl rfl rfl ?_
  refine cv_I (q := 1444) (CC := "") (id := 102) (As := []) 0 (c_clearText (T := T) (D := D) (ad := ad) G) (fun _ h => h.1) (by omega) (cell_102 ad C _) rfl wc_X5_clearText wm_RL_160 wi_X5_clearText ws_X5_clearText wn_X5 (by decide) rfl ⟨Nat.le_of_ble_eq_true rfl, Nat.le_of_ble_eq_true rfl⟩ ⟨by show k ≤ 601024; omega, by show n ≤ 7293034; omega⟩ (Nat.le_of_ble_eq_true rfl) dL_law_1441 rfl (fun r1 A h2 => ?_)

  refine aw_aload_n (q := 1445) 2 dL_law_1444 rfl rfl rfl ?_
  refine cv_I (q := 1448) (CC := "") (id := 108) (As := []) 0 (c_clearTextM (T := T) (D := D) (ad := ad) A) (fun _ h => h.1) (by omega) (cell_108 ad C _) rfl wc_X6_clearText wm_RL_163 wi_X6_clearText ws_X6_clearText wn_X6 (by decide) rfl ⟨Nat.le_of_ble_eq_true rfl, Nat.le_of_ble_eq_true rfl⟩ ⟨by show k ≤ 601024; omega, by show n ≤ 7293034; omega⟩ (Nat.le_of_ble_eq_true rfl) dL_law_1445 rfl (fun r2 B h8 => ?_)
  obtain ⟨e, rB⟩ := f_clear hG h2 h8
  rw [e]
  refine aw_icmp_eqW (q := 1451) dL_law_1448 rfl (t := 1524) (by decide) ?_
  exact aw_wide2 (Nat.le_add_right k 1) (Nat.le_add_right n 6) (kk B rB)
set_option maxHeartbeats 4000000 in
set_option maxRecDepth 100000 in
/-- carryOut -/
theorem case_22 {l : Launch} {D : va_G} {C : Nat → ClassId} {T : Nat → Nat} {ad : Int → Nat} {b L : Nat} {xs : Nat → Int32} {nm : String} : lawStep l D C T ad b L xs nm relR 22 := by
  intro G i k n hG h0 h6 hk hn kk
  show AW _ _ _ _ _ _ _ _ _ _ _ _ _ 1453 _ _ _ _ _
  refine aw_aload_n (q := 1454) 1 dL_law_1453 rfl rfl rfl ?_
  refine cv_I (q := 1457) (CC := "") (id := 102) (As := []) 0 (c_carryOut (T := T) (D := D) (ad := ad) G (relR_M hG) hG.1 hG.2.2.2.1) (fun _ h => h.1) (by omega) (cell_102 ad C _) rfl wc_X5_carryOut wm_RL_164 wi_X5_carryOut ws_X5_carryOut wn_X5 (by decide) rfl ⟨Nat.le_of_ble_eq_true rfl, Nat.le_of_ble_eq_true rfl⟩ ⟨by show k ≤ 601024; omega, by show n ≤ 7293034; omega⟩ (Nat.le_of_ble_eq_true rfl) dL_law_1454 rfl (fun r1 A h2 => ?_)
  obtain ⟨oN, oH, oP, oR, oX, h4, o10, htu, h13, h14, h6x⟩ := aOk hG (k_carry hG h2)
  refine aw_aload_n (q := 1458) 2 dL_law_1457 rfl rfl rfl ?_
  refine cv_I (q := 1461) (CC := "") (id := 108) (As := []) 0 (c_carryOutM (T := T) (D := D) (ad := ad) A oX oN o10 h4) (fun _ h => h.1) (by omega) (cell_108 ad C _) rfl wc_X6_carryOut wm_RL_167 wi_X6_carryOut ws_X6_carryOut wn_X6 (by decide) rfl ⟨Nat.le_of_ble_eq_true rfl, Nat.le_of_ble_eq_true rfl⟩ ⟨by show k ≤ 601024; omega, by show n ≤ 7293034; omega⟩ (Nat.le_of_ble_eq_true rfl) dL_law_1458 rfl (fun r2 B h8 => ?_)
  obtain ⟨e, rB⟩ := f_carry hG h2 h8
  rw [e]
  refine aw_icmp_eqW (q := 1464) dL_law_1461 rfl (t := 1524) (by decide) ?_
  exact aw_wide2 (Nat.le_add_right k 1) (Nat.le_add_right n 6) (kk B rB)
set_option maxHeartbeats 4000000 in
set_option maxRecDepth 100000 in
/-- digest -/
theorem case_24 {l : Launch} {D : va_G} {C : Nat → ClassId} {T : Nat → Nat} {ad : Int → Nat} {b L : Nat} {xs : Nat → Int32} {nm : String} : lawStep l D C T ad b L xs nm relR 24 := by
  intro G i k n hG h0 h6 hk hn kk
  show AW _ _ _ _ _ _ _ _ _ _ _ _ _ 1510 _ _ _ _ _
  refine aw_aload_n (q := 1511) 1 dL_law_1510 rfl rfl rfl ?_
  refine cv_L (q := 1514) (CC := "") (id := 102) (As := []) 0 (c_digest (T := T) (D := D) (ad := ad) G (relR_M hG)) (fun _ h => h.1) (by omega) (cell_102 ad C _) rfl wc_X5_digest wm_RL_172 wi_X5_digest ws_X5_digest wn_X5 (by decide) rfl ⟨Nat.le_of_ble_eq_true rfl, Nat.le_of_ble_eq_true rfl⟩ ⟨by show k ≤ 601024; omega, by show n ≤ 7293034; omega⟩ (Nat.le_of_ble_eq_true rfl) dL_law_1511 rfl (fun r1 A h2 => ?_)
  obtain ⟨h2, rfl⟩ := h2
  obtain ⟨oN, oH, oP, oR, oX, h4, o10, htu, h13, h14, h6x⟩ := aOk hG (fun _ _ _ _ => rfl)
  refine aw_aload_n (q := 1515) 2 dL_law_1514 rfl rfl rfl ?_
  refine cv_L (q := 1518) (CC := "") (id := 108) (As := []) 0 (c_digestM (T := T) (D := D) (ad := ad) A oN) (fun _ h => h.1) (by omega) (cell_108 ad C _) rfl wc_X6_digest wm_RL_176 wi_X6_digest ws_X6_digest wn_X6 (by decide) rfl ⟨Nat.le_of_ble_eq_true rfl, Nat.le_of_ble_eq_true rfl⟩ ⟨by show k ≤ 601024; omega, by show n ≤ 7293034; omega⟩ (Nat.le_of_ble_eq_true rfl) dL_law_1515 rfl (fun r2 B h8 => ?_)
  obtain ⟨e, rB⟩ := f_digest hG h2 h8
  refine aw_lcmpE (q := 1519) e dL_law_1518 rfl ?_
  refine aw_ifW_eq (q := 1522) dL_law_1519 rfl (t := 1524) (by decide) (fun _ => ?_) (fun h => absurd rfl h)
  exact aw_wide2 (Nat.le_add_right k 1) (Nat.le_add_right n 6) (kk B rB)
