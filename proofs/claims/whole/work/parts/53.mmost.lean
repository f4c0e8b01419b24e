/-! class CoilPricesModel: sales in a row, the most that is payable -/
def rowM (c : Int) : Nat → GG → Int → Prop
  | 0, _, _ => False
  | n + 1, K, r => (¬ canSellM K c ∧ r = 0) ∨ (canSellM K c ∧ ∃ S H, saleM K c S ∧ keepM S (kpG S 12) H ∧ (∀ y, H 18 y = K 18 y) ∧ rowM c n H (r - 1))
/-- what a sale leaves as it is -/
theorem sellM_ne {K S H : GG} {c x y : Int} (hs : saleM K c S) (hk : keepM S (kpG S 12) H) (h1 : ¬ saleMS c x y) (h2 : ¬ kmS x y) : H x y = K x y := (hk.2.2.2.2.2.2.2 x y h2).trans (hs.2.2.2.2.2.2.1 x y h1)
set_option maxHeartbeats 4000000 in
set_option maxRecDepth 100000 in
theorem L_rowM {l : Launch} {D : va_G} {C : Nat → ClassId} {T : Nat → Nat} {ad : Int → Nat} (G : GG) {c b d : Int} (hA : (0 ≤ c ∧ c < G 12 13) ∧ ((0 ≤ b ∧ b ≤ 9) ∧ (0 ≤ d ∧ d ≤ 9))) : ∀ (f : Nat) (n : Int) (K : GG), okN12 K → K 11 8 = 0 → (0 ≤ c ∧ c < K 12 13) → (∀ k : Int, 0 ≤ k → k < 4 → 0 ≤ K 18 k ∧ K 18 k ≤ 9) → K 12 (15 + 12 * c + 1) < f → (∀ y : Int, 0 ≤ y → y < 311 → K 20 y = G 12 y) → sameB (fun x y => x = 12 ∨ x = 14 ∨ x = 17 ∨ x = 18 ∨ x = 20 ∨ (x = 11 ∧ (y = 7 ∨ y = 8))) G K → K 11 7 = 0 → (∀ r, rowM c f K r → (fun r : Int => ∃ K0, (∀ y, K0 12 y = G 12 y) ∧ (K0 18 0 = 0 ∧ K0 18 1 = b ∧ K0 18 2 = 0 ∧ K0 18 3 = d) ∧ rowM c 21 K0 r) (n + 1 + r)) → AW l RX6 "salesInARow" cX6_salesInARow 6 (some .int) (fun _ => True) { frames := 4, cells := 0, slots := 0, locals := 100 } (hvE D (RI ad C (fun r G1 => quiet G G1 ∧ ((¬ (0 ≤ c ∧ c < G 12 13) ∧ G1 11 7 = 1) ∨ ((0 ≤ c ∧ c < G 12 13) ∧ ¬ ((0 ≤ b ∧ b ≤ 9) ∧ (0 ≤ d ∧ d ≤ 9)) ∧ G1 11 7 = 2) ∨ (((0 ≤ c ∧ c < G 12 13) ∧ ((0 ≤ b ∧ b ≤ 9) ∧ (0 ≤ d ∧ d ≤ 9))) ∧ G1 11 7 = 0 ∧ ∃ K0, (∀ y, K0 12 y = G 12 y) ∧ (K0 18 0 = 0 ∧ K0 18 1 = b ∧ K0 18 2 = 0 ∧ K0 18 3 = d) ∧ rowM c 21 K0 r)))) (cw ad C G) 0 0) D (tyC C) (hvZ T (cw ad C G)) (cw ad C G) 68 [(0, .ref (ad 108)), (1, .int (iI c)), (2, .int (iI b)), (3, .int (iI d)), (4, .int (iI n))] [] (cw ad C K) 0 0 := by
  intro f
  induction f with
  | zero => intro n K oN h8 hc hco hn; exact absurd hn (by have := ((okN12_H oN).2.2 c hc.1 hc.2).1; omega)
  | succ f ih =>
    intro n K oN h8 hc hco hn z20 zs z7 hP
    have o13 := (okN12_H oN).2.1
    refine aw_aload_n (q := 69) 0 dX6_salesInARow_68 rfl rfl rfl ?_
    refine g_mod_code (q := 72) (v := 0) (h8) wf_RX6_52 dX6_salesInARow_69 rfl ?_
    refine aw_if_ne (q := 75) dX6_salesInARow_72 rfl (t := 88) (by decide) (by omega) (fun h => absurd h (by omega)) (fun _ => ?_)
    refine aw_aload_n (q := 76) 0 dX6_salesInARow_75 rfl rfl rfl ?_
    refine aw_iload_n (q := 77) 1 dX6_salesInARow_76 rfl rfl rfl ?_
    refine cv_I (q := 80) (CC := "") (id := 108) (As := [.int (iI c)]) 1 (c_doBuy (T := T) (D := D) (ad := ad) K hc (okN12_H oN) (okN12_P oN) (okN12_R oN) hco) (fun _ h => h) (by omega) (cell_108 ad C _) rfl wc_X6_doBuy wm_RX6_134 wi_X6_doBuy ws_X6_doBuy wn_X6 (by decide) rfl ⟨Nat.le_of_ble_eq_true rfl, Nat.le_of_ble_eq_true rfl⟩ ⟨Nat.le_of_ble_eq_true rfl, Nat.le_of_ble_eq_true rfl⟩ (Nat.le_of_ble_eq_true rfl) dX6_salesInARow_77 rfl (fun r9 H h9 => ?_)
    have hf : sameB bdT K H := h9.1
    have hf2 : sameB (fun x y => x = 12 ∨ x = 14 ∨ x = 17 ∨ x = 18 ∨ x = 20 ∨ (x = 11 ∧ (y = 7 ∨ y = 8))) G H := fun x y z => (hf x y (by omega)).trans (zs x y z)
    rcases h9.2 with ⟨q1, q2, q3, q4⟩ | ⟨q1, q2, q3, S, q5, q6⟩
    · skip
      refine aw_istore (q := 82) (lv2 := [(0, .ref (ad 108)), (1, .int (iI c)), (2, .int (iI b)), (3, .int (iI d)), (4, .int (iI n)), (5, .int (iI r9))]) [1, 2, 3, 4, 5, 0] dX6_salesInARow_80 rfl (by decide) rfl rfl ?_
      refine ae_iinc (q := 85) (lv2 := [(0, .ref (ad 108)), (1, .int (iI c)), (2, .int (iI b)), (3, .int (iI d)), (4, .int (iI (n + 1))), (5, .int (iI r9))]) 4 [1, 2, 3, 4, 0, 5] (n + 1) (by omega) dX6_salesInARow_82 rfl rfl (by decide) rfl ?_
      refine aw_goto (q := 68) dX6_salesInARow_85 (by decide) ?_
      refine aw_aload_n (q := 69) 0 dX6_salesInARow_68 rfl rfl rfl ?_
      refine g_mod_code (q := 72) (v := 3) (q3) wf_RX6_52 dX6_salesInARow_69 rfl ?_
      refine aw_if_ne (q := 75) dX6_salesInARow_72 rfl (t := 88) (by decide) (by omega) (fun _ => ?_) (fun h => absurd h (by omega))
      refine aw_aload_n (q := 89) 0 dX6_salesInARow_88 rfl rfl rfl ?_
      refine g_mod_before (q := 92) wf_RX6_35 dX6_salesInARow_89 rfl ?_
      refine aw_iconst (q := 93) dX6_salesInARow_92 rfl ?_
      refine aw_aload_n (q := 94) 0 dX6_salesInARow_93 rfl rfl rfl ?_
      refine g_mod_p (q := 97) wf_RX6_7 dX6_salesInARow_94 rfl ?_
      refine aw_iconst (q := 98) dX6_salesInARow_97 rfl ?_
      refine cs_V (q := 101) (As := [.ref (ad 117), .int (iI 0), .ref (ad 109), .int (iI 0)]) 4 (c_bring (T := T) (D := D) H (ar_117 ad C) (ar_109 ad C) (by omega) (by omega) (by omega) (by omega)) (fun _ h => h) wc_X6_bring wm_RX6_55 wt_X6_bring wn_X6 (by decide) rfl ⟨Nat.le_of_ble_eq_true rfl, Nat.le_of_ble_eq_true rfl⟩ ⟨Nat.le_of_ble_eq_true rfl, Nat.le_of_ble_eq_true rfl⟩ (Nat.le_of_ble_eq_true rfl) dX6_salesInARow_98 rfl (fun G9 h9 => ?_)
      rw [h9]
      clear h9
      refine aw_iload (q := 103) 4 dX6_salesInARow_101 rfl rfl ?_
      exact rt_i rfl (Nat.le_refl _) (Nat.le_refl _) (⟨⟨fun y z0 z1 => (cpG_in (by omega)).trans ((hf 20 _ (by omega)).trans ((z20 _ (by omega) (by omega)).trans (congrArg (G 12) (by omega)))), fun x y z => (cpG_ne (by omega)).trans (hf2 x y (by omega))⟩, Or.inr (Or.inr ⟨hA, (cpG_ne (by omega)).trans ((hf 11 7 (by omega)).trans z7), (by have e9 := hP 0 (Or.inl ⟨q1, rfl⟩); rw [Int.add_zero] at e9; exact e9)⟩)⟩) dX6_salesInARow_103
    · have hf20 : ∀ y, H 20 y = K 20 y := fun y => sellM_ne q5 q6 (by omega) (by omega)
      refine aw_istore (q := 82) (lv2 := [(0, .ref (ad 108)), (1, .int (iI c)), (2, .int (iI b)), (3, .int (iI d)), (4, .int (iI n)), (5, .int (iI r9))]) [1, 2, 3, 4, 5, 0] dX6_salesInARow_80 rfl (by decide) rfl rfl ?_
      refine ae_iinc (q := 85) (lv2 := [(0, .ref (ad 108)), (1, .int (iI c)), (2, .int (iI b)), (3, .int (iI d)), (4, .int (iI (n + 1))), (5, .int (iI r9))]) 4 [1, 2, 3, 4, 0, 5] (n + 1) (by omega) dX6_salesInARow_82 rfl rfl (by decide) rfl ?_
      refine aw_goto (q := 68) dX6_salesInARow_85 (by decide) ?_
      refine aw_sub [0, 1, 2, 3, 4] rfl ?_
      have e18 : ∀ y, H 18 y = K 18 y := fun y => sellM_ne q5 q6 (by omega) (by omega)
      have e1 : H 12 (15 + 12 * c + 1) = K 12 (15 + 12 * c + 1) - 1 := (q6.2.2.2.2.2.2.2 _ _ (by omega)).trans q5.1
      refine ih (n + 1) H (okN12_sell hc oN hco q1 q5 q6) (q2.trans h8) (by rw [show H 12 13 = K 12 13 from sellM_ne q5 q6 (by omega) (by omega)]; exact hc) (fun k z0 z1 => by rw [e18]; exact hco k z0 z1) (by omega) (fun y z0 z1 => (hf20 y).trans (z20 y z0 z1)) hf2 ((hf 11 7 (by omega)).trans z7) (fun r hr => ?_)
      have e9 := hP (r + 1) (Or.inr ⟨q1, S, H, q5, q6, e18, by rw [show r + 1 - 1 = r by omega]; exact hr⟩)
      rw [show n + 1 + (r + 1) = n + 1 + 1 + r by omega] at e9
      exact e9
set_option maxHeartbeats 4000000 in
set_option maxRecDepth 100000 in
theorem c_salesM {l : Launch} {D : va_G} {C : Nat → ClassId} {T : Nat → Nat} {ad : Int → Nat} (G : GG) {c b d : Int} (oN : okN12 G) (hc : -2147483648 ≤ c ∧ c ≤ 2147483647) (hb : -2147483648 ≤ b ∧ b ≤ 2147483647) (hd : -2147483648 ≤ d ∧ d ≤ 2147483647) : MC l yX6_salesInARow cX6_salesInARow 6 (some .int) 4 100 0 0 D (tyC C) T [.ref (ad 108), .int (iI c), .int (iI b), .int (iI d)] (cw ad C G) (RI ad C (fun r G1 => quiet G G1 ∧ ((¬ (0 ≤ c ∧ c < G 12 13) ∧ G1 11 7 = 1) ∨ ((0 ≤ c ∧ c < G 12 13) ∧ ¬ ((0 ≤ b ∧ b ≤ 9) ∧ (0 ≤ d ∧ d ≤ 9)) ∧ G1 11 7 = 2) ∨ (((0 ≤ c ∧ c < G 12 13) ∧ ((0 ≤ b ∧ b ≤ 9) ∧ (0 ≤ d ∧ d ≤ 9))) ∧ G1 11 7 = 0 ∧ ∃ K0, (∀ y, K0 12 y = G 12 y) ∧ (K0 18 0 = 0 ∧ K0 18 1 = b ∧ K0 18 2 = 0 ∧ K0 18 3 = d) ∧ rowM c 21 K0 r)))) := by
  refine mc_of (by decide +kernel) (Nat.le_of_ble_eq_true rfl) rfl ?_
  have oH := okN12_H oN
  have o13 := oH.2.1
  refine aw_aload_n (q := 1) 0 dX6_salesInARow_0 rfl rfl rfl ?_
  refine aw_iconst (q := 2) dX6_salesInARow_1 rfl ?_
  refine p_mod_thrown (q := 5) wf_RX6_38 dX6_salesInARow_2 rfl ?_
  refine aw_aload_n (q := 6) 0 dX6_salesInARow_5 rfl rfl rfl ?_
  refine aw_iload_n (q := 7) 1 dX6_salesInARow_6 rfl rfl rfl ?_
  refine cv_I (q := 10) (CC := "") (id := 108) (As := [.int (iI c)]) 1 (c_isCoil (T := T) (D := D) (ad := ad) (setG G 11 7 0) (by rw [show (setG G 11 7 0) 12 13 = (G 12 13) from (setG_ne (by omega))]; omega) (by omega)) (fun _ h => h) (by omega) (cell_108 ad C _) rfl wc_X6_isCoil wm_RX6_96 wi_X6_isCoil ws_X6_isCoil wn_X6 (by decide) rfl ⟨Nat.le_of_ble_eq_true rfl, Nat.le_of_ble_eq_true rfl⟩ ⟨Nat.le_of_ble_eq_true rfl, Nat.le_of_ble_eq_true rfl⟩ (Nat.le_of_ble_eq_true rfl) dX6_salesInARow_7 rfl (fun r9 G9 h9 => ?_)
  obtain ⟨e9, g9⟩ := h9
  rw [e9.trans (b2i_c (by rw [show (setG G 11 7 0) 12 13 = (G 12 13) from (setG_ne (by omega))])), g9]
  clear e9 g9
  refine aw_ifb_ne (q := 13) dX6_salesInARow_10 rfl (t := 19) (by decide) (fun y1 => ?_) (fun y2 => ?_)
  · refine aw_iload_n (q := 20) 2 dX6_salesInARow_19 rfl rfl rfl ?_
    refine cs_I (q := 23) (As := [.int (iI b)]) 1 (c_isFew (T := T) (D := D) (ad := ad) (setG G 11 7 0) (by omega)) (fun _ h => h) wc_X6_isFew wm_RX6_127 wt_X6_isFew wn_X6 (by decide) rfl ⟨Nat.le_of_ble_eq_true rfl, Nat.le_of_ble_eq_true rfl⟩ ⟨Nat.le_of_ble_eq_true rfl, Nat.le_of_ble_eq_true rfl⟩ (Nat.le_of_ble_eq_true rfl) dX6_salesInARow_20 rfl (fun r9 G9 h9 => ?_)
    rw [h9.1, h9.2]
    clear h9
    refine aw_ifb_eq (q := 26) dX6_salesInARow_23 rfl (t := 33) (by decide) (fun y3 => ?_) (fun y4 => ?_)
    · refine aw_aload_n (q := 34) 0 dX6_salesInARow_33 rfl rfl rfl ?_
      refine aw_iconst (q := 35) dX6_salesInARow_34 rfl ?_
      refine cv_I (q := 38) (CC := "") (id := 108) (As := [.int (iI 2)]) 1 (c_fails (T := T) (D := D) (ad := ad) (setG G 11 7 0)) (fun _ h => h) (by omega) (cell_108 ad C _) rfl wc_X6_fails wm_RX6_154 wi_X6_fails ws_X6_fails wn_X6 (by decide) rfl ⟨Nat.le_of_ble_eq_true rfl, Nat.le_of_ble_eq_true rfl⟩ ⟨Nat.le_of_ble_eq_true rfl, Nat.le_of_ble_eq_true rfl⟩ (Nat.le_of_ble_eq_true rfl) dX6_salesInARow_35 rfl (fun r9 G9 h9 => ?_)
      rw [h9.1, h9.2]
      clear h9
      exact rt_i rfl (Nat.le_refl _) (Nat.le_refl _) (⟨⟨fun y _ _ => ((setG_ne (by omega)).trans (setG_ne (by omega))), fun x y z => ((setG_ne (by omega)).trans (setG_ne (by omega)))⟩, by first | (exact Or.inl ⟨by omega, (setG_same _ _ _ _)⟩) | (exact Or.inr (Or.inl ⟨by omega, by omega, (setG_same _ _ _ _)⟩))⟩) dX6_salesInARow_38
    · refine aw_iload_n (q := 27) 3 dX6_salesInARow_26 rfl rfl rfl ?_
      refine cs_I (q := 30) (As := [.int (iI d)]) 1 (c_isFew (T := T) (D := D) (ad := ad) (setG G 11 7 0) (by omega)) (fun _ h => h) wc_X6_isFew wm_RX6_127 wt_X6_isFew wn_X6 (by decide) rfl ⟨Nat.le_of_ble_eq_true rfl, Nat.le_of_ble_eq_true rfl⟩ ⟨Nat.le_of_ble_eq_true rfl, Nat.le_of_ble_eq_true rfl⟩ (Nat.le_of_ble_eq_true rfl) dX6_salesInARow_27 rfl (fun r9 G9 h9 => ?_)
      rw [h9.1, h9.2]
      clear h9
      refine aw_ifb_ne (q := 33) dX6_salesInARow_30 rfl (t := 39) (by decide) (fun y5 => ?_) (fun y6 => ?_)
      · refine aw_aload_n (q := 40) 0 dX6_salesInARow_39 rfl rfl rfl ?_
        refine g_mod_p (q := 43) wf_RX6_7 dX6_salesInARow_40 rfl ?_
        refine aw_iconst (q := 44) dX6_salesInARow_43 rfl ?_
        refine aw_aload_n (q := 45) 0 dX6_salesInARow_44 rfl rfl rfl ?_
        refine g_mod_before (q := 48) wf_RX6_35 dX6_salesInARow_45 rfl ?_
        refine aw_iconst (q := 49) dX6_salesInARow_48 rfl ?_
        refine cs_V (q := 52) (As := [.ref (ad 109), .int (iI 0), .ref (ad 117), .int (iI 0)]) 4 (c_bring (T := T) (D := D) (setG G 11 7 0) (ar_109 ad C) (ar_117 ad C) (by omega) (by omega) (by omega) (by omega)) (fun _ h => h) wc_X6_bring wm_RX6_55 wt_X6_bring wn_X6 (by decide) rfl ⟨Nat.le_of_ble_eq_true rfl, Nat.le_of_ble_eq_true rfl⟩ ⟨Nat.le_of_ble_eq_true rfl, Nat.le_of_ble_eq_true rfl⟩ (Nat.le_of_ble_eq_true rfl) dX6_salesInARow_49 rfl (fun G9 h9 => ?_)
        rw [h9]
        clear h9
        refine aw_aload_n (q := 53) 0 dX6_salesInARow_52 rfl rfl rfl ?_
        refine aw_iconst (q := 54) dX6_salesInARow_53 rfl ?_
        refine aw_iload_n (q := 55) 2 dX6_salesInARow_54 rfl rfl rfl ?_
        refine aw_iconst (q := 56) dX6_salesInARow_55 rfl ?_
        refine aw_iload_n (q := 57) 3 dX6_salesInARow_56 rfl rfl rfl ?_
        refine cv_V (q := 60) (CC := "") (id := 108) (As := [.int (iI 0), .int (iI b), .int (iI 0), .int (iI d)]) 4 (c_lays (T := T) (D := D) (ad := ad) (cpG (setG G 11 7 0) 20 0 311 12 0)) (fun _ h => h) (by omega) (cell_108 ad C _) rfl wc_X6_lays wm_RX6_130 wi_X6_lays ws_X6_lays wn_X6 (by decide) rfl ⟨Nat.le_of_ble_eq_true rfl, Nat.le_of_ble_eq_true rfl⟩ ⟨Nat.le_of_ble_eq_true rfl, Nat.le_of_ble_eq_true rfl⟩ (Nat.le_of_ble_eq_true rfl) dX6_salesInARow_57 rfl (fun G9 h9 => ?_)
        rw [h9]
        clear h9
        refine aw_iconst (q := 61) dX6_salesInARow_60 rfl ?_
        refine aw_istore (q := 63) (lv2 := [(0, .ref (ad 108)), (1, .int (iI c)), (2, .int (iI b)), (3, .int (iI d)), (4, .int (iI (-1)))]) [1, 2, 3, 4, 0] dX6_salesInARow_61 rfl (by decide) rfl rfl ?_
        refine aw_aload_n (q := 64) 0 dX6_salesInARow_63 rfl rfl rfl ?_
        refine aw_iconst (q := 65) dX6_salesInARow_64 rfl ?_
        refine p_mod_code (q := 68) wf_RX6_52 dX6_salesInARow_65 rfl ?_
        obtain ⟨K, hK, z12, z20, zs, z7, z8, p0, p1, p2, p3⟩ : ∃ K : GG, (setG ((putG (cpG (setG G 11 7 0) 20 0 311 12 0) 0 b 0 d)) 11 8 0) = K ∧ (∀ y : Int, K 12 y = G 12 y) ∧ (∀ y : Int, 0 ≤ y → y < 311 → K 20 y = G 12 y) ∧ sameB (fun x y => x = 12 ∨ x = 14 ∨ x = 17 ∨ x = 18 ∨ x = 20 ∨ (x = 11 ∧ (y = 7 ∨ y = 8))) G K ∧ K 11 7 = 0 ∧ K 11 8 = 0 ∧ K 18 0 = 0 ∧ K 18 1 = b ∧ K 18 2 = 0 ∧ K 18 3 = d := ⟨_, rfl, fun y => (setG_ne (by omega)).trans ((putG_ne (by omega)).trans ((cpG_ne (by omega)).trans (setG_ne (by omega)))), fun y z0 z1 => (setG_ne (by omega)).trans ((putG_ne (by omega)).trans ((cpG_in (by omega)).trans ((setG_ne (by omega)).trans (congrArg (G 12) (by omega))))), fun x y z => (setG_ne (by omega)).trans ((putG_ne (by omega)).trans ((cpG_ne (by omega)).trans (setG_ne (by omega)))), (setG_ne (by omega)).trans ((putG_ne (by omega)).trans ((cpG_ne (by omega)).trans (setG_same _ _ _ _))), setG_same _ _ _ _, (setG_ne (by omega)).trans (putG_0 _ _ _ _ _), (setG_ne (by omega)).trans (putG_1 _ _ _ _ _), (setG_ne (by omega)).trans (putG_2 _ _ _ _ _), (setG_ne (by omega)).trans (putG_3 _ _ _ _ _)⟩
        rw [hK]
        have oK : okN12 K := okN12_of (G := K) (H := sh G) (i := 12) oN (fun y hy => (z12 y).trans (sh_ne (by omega)).symm)
        refine L_rowM (l := l) (T := T) (D := D) (C := C) (ad := ad) G (c := c) (b := b) (d := d) ⟨⟨by omega, by omega⟩, ⟨by omega, by omega⟩⟩ 21 (-1) K oK z8 (by rw [z12]; omega) (fun k y0 y1 => ?_) (by rw [z12]; have := (oH.2.2 c (by omega) (by omega)).1; omega) z20 zs z7 (fun r hr => ?_)
        · rcases (by omega : k = 0 ∨ k = 1 ∨ k = 2 ∨ k = 3) with rfl | rfl | rfl | rfl <;> omega
        · exact ⟨K, z12, ⟨p0, p1, p2, p3⟩, by rw [show -1 + 1 + r = r by omega]; exact hr⟩
      · refine aw_aload_n (q := 34) 0 dX6_salesInARow_33 rfl rfl rfl ?_
        refine aw_iconst (q := 35) dX6_salesInARow_34 rfl ?_
        refine cv_I (q := 38) (CC := "") (id := 108) (As := [.int (iI 2)]) 1 (c_fails (T := T) (D := D) (ad := ad) (setG G 11 7 0)) (fun _ h => h) (by omega) (cell_108 ad C _) rfl wc_X6_fails wm_RX6_154 wi_X6_fails ws_X6_fails wn_X6 (by decide) rfl ⟨Nat.le_of_ble_eq_true rfl, Nat.le_of_ble_eq_true rfl⟩ ⟨Nat.le_of_ble_eq_true rfl, Nat.le_of_ble_eq_true rfl⟩ (Nat.le_of_ble_eq_true rfl) dX6_salesInARow_35 rfl (fun r9 G9 h9 => ?_)
        rw [h9.1, h9.2]
        clear h9
        exact rt_i rfl (Nat.le_refl _) (Nat.le_refl _) (⟨⟨fun y _ _ => ((setG_ne (by omega)).trans (setG_ne (by omega))), fun x y z => ((setG_ne (by omega)).trans (setG_ne (by omega)))⟩, by first | (exact Or.inl ⟨by omega, (setG_same _ _ _ _)⟩) | (exact Or.inr (Or.inl ⟨by omega, by omega, (setG_same _ _ _ _)⟩))⟩) dX6_salesInARow_38
  · refine aw_aload_n (q := 14) 0 dX6_salesInARow_13 rfl rfl rfl ?_
    refine aw_iconst (q := 15) dX6_salesInARow_14 rfl ?_
    refine cv_I (q := 18) (CC := "") (id := 108) (As := [.int (iI 1)]) 1 (c_fails (T := T) (D := D) (ad := ad) (setG G 11 7 0)) (fun _ h => h) (by omega) (cell_108 ad C _) rfl wc_X6_fails wm_RX6_154 wi_X6_fails ws_X6_fails wn_X6 (by decide) rfl ⟨Nat.le_of_ble_eq_true rfl, Nat.le_of_ble_eq_true rfl⟩ ⟨Nat.le_of_ble_eq_true rfl, Nat.le_of_ble_eq_true rfl⟩ (Nat.le_of_ble_eq_true rfl) dX6_salesInARow_15 rfl (fun r9 G9 h9 => ?_)
    rw [h9.1, h9.2]
    clear h9
    exact rt_i rfl (Nat.le_refl _) (Nat.le_refl _) (⟨⟨fun y _ _ => ((setG_ne (by omega)).trans (setG_ne (by omega))), fun x y z => ((setG_ne (by omega)).trans (setG_ne (by omega)))⟩, by first | (exact Or.inl ⟨by omega, (setG_same _ _ _ _)⟩) | (exact Or.inr (Or.inl ⟨by omega, by omega, (setG_same _ _ _ _)⟩))⟩) dX6_salesInARow_18
