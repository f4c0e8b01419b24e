/-! class CoilPricesModel: buy, and what is asked -/
def buyA (c f t w d : Int) (G : GG) (a : Int) (H : GG) : Prop := (¬ (0 ≤ c ∧ c < G 12 13) ∧ a = 0 ∧ H = setG G 11 8 1) ∨ ((0 ≤ c ∧ c < G 12 13) ∧ ¬ ((0 ≤ f ∧ f ≤ 9) ∧ (0 ≤ t ∧ t ≤ 9) ∧ (0 ≤ w ∧ w ≤ 9) ∧ (0 ≤ d ∧ d ≤ 9)) ∧ a = 0 ∧ H = setG G 11 8 2) ∨ ((0 ≤ c ∧ c < G 12 13) ∧ ((0 ≤ f ∧ f ≤ 9) ∧ (0 ≤ t ∧ t ≤ 9) ∧ (0 ≤ w ∧ w ≤ 9) ∧ (0 ≤ d ∧ d ≤ 9)) ∧ buyB c (putG G f t w d) a H)
theorem putG_ne {G : GG} {a b c d x y : Int} (h : x ≠ 18) : putG G a b c d x y = G x y := (setG_ne (by omega)).trans ((setG_ne (by omega)).trans ((setG_ne (by omega)).trans (setG_ne (by omega))))
theorem putG_0 (G : GG) (a b c d : Int) : putG G a b c d 18 0 = a := (setG_ne (by omega)).trans ((setG_ne (by omega)).trans ((setG_ne (by omega)).trans (setG_same _ _ _ _)))
theorem putG_1 (G : GG) (a b c d : Int) : putG G a b c d 18 1 = b := (setG_ne (by omega)).trans ((setG_ne (by omega)).trans (setG_same _ _ _ _))
theorem putG_2 (G : GG) (a b c d : Int) : putG G a b c d 18 2 = c := (setG_ne (by omega)).trans (setG_same _ _ _ _)
theorem putG_3 (G : GG) (a b c d : Int) : putG G a b c d 18 3 = d := setG_same _ _ _ _
theorem putG_b {G : GG} {a b c d : Int} (h : (0 ≤ a ∧ a ≤ 9) ∧ (0 ≤ b ∧ b ≤ 9) ∧ (0 ≤ c ∧ c ≤ 9) ∧ (0 ≤ d ∧ d ≤ 9)) : ∀ k : Int, 0 ≤ k → k < 4 → 0 ≤ putG G a b c d 18 k ∧ putG G a b c d 18 k ≤ 9 := fun k z0 z1 => by
  rcases (by omega : k = 0 ∨ k = 1 ∨ k = 2 ∨ k = 3) with rfl | rfl | rfl | rfl
  · rw [putG_0]; omega
  · rw [putG_1]; omega
  · rw [putG_2]; omega
  · rw [putG_3]; omega
theorem row12 {G H : GG} (h : ∀ y, H 12 y = G 12 y) : H 12 = G 12 := funext h
theorem okMR_row {G H : GG} (h : H 12 = G 12) (o : okMR G) : okMR H := by
  unfold okMR sumM prm at *
  rw [h]
  exact o
abbrev quS : Int → Int → Prop := fun x y => x = 12 ∨ x = 13 ∨ x = 14 ∨ x = 17 ∨ x = 18 ∨ x = 19 ∨ x = 20 ∨ (x = 11 ∧ y ≠ 4 ∧ y ≠ 6)
/-- nothing that stays is changed -/
def quiet (G G1 : GG) : Prop := (∀ y : Int, 0 ≤ y → y < 311 → G1 12 y = G 12 y) ∧ sameB quS G G1
theorem quiet_7 {G : GG} {v : Int} : quiet G (setG G 11 7 v) := ⟨fun y _ _ => setG_ne (by omega), fun x y z => setG_ne (by omega)⟩
def numM (G : GG) (k : Int) : Int := if k = 5 then sumM G else numF (G 12) k
set_option maxHeartbeats 4000000 in
set_option maxRecDepth 100000 in
theorem c_buyM {l : Launch} {D : va_G} {C : Nat → ClassId} {T : Nat → Nat} {ad : Int → Nat} (G : GG) {c f t w d : Int} (h4 : 0 ≤ G 11 4 ∧ G 11 4 ≤ 4) (oH : okH (G 12)) (oP : okP G 12) (hR : okMR G) (hc : -2147483648 ≤ c ∧ c ≤ 2147483647) (hf : -2147483648 ≤ f ∧ f ≤ 2147483647) (ht : -2147483648 ≤ t ∧ t ≤ 2147483647) (hw : -2147483648 ≤ w ∧ w ≤ 2147483647) (hd : -2147483648 ≤ d ∧ d ≤ 2147483647) : MC l yX6_buy cX6_buy 6 (some .int) 4 100 0 0 D (tyC C) T [.ref (ad 108), .int (iI c), .int (iI f), .int (iI t), .int (iI w), .int (iI d)] (cw ad C G) (RI ad C (fun r G1 => faceM G (buyA c f t w d) r G1)) := by
  refine mc_of (by decide +kernel) (Nat.le_of_ble_eq_true rfl) rfl ?_
  have o13 := oH.2.1
  refine aw_aload_n (q := 1) 0 dX6_buy_0 rfl rfl rfl ?_
  refine cv_V (q := 4) (CC := "") (id := 108) (As := []) 0 (c_holdM (T := T) (D := D) (ad := ad) G) (fun _ h => h) (by omega) (cell_108 ad C _) rfl wc_X6_hold wm_RX6_76 wi_X6_hold ws_X6_hold wn_X6 (by decide) rfl ⟨Nat.le_of_ble_eq_true rfl, Nat.le_of_ble_eq_true rfl⟩ ⟨Nat.le_of_ble_eq_true rfl, Nat.le_of_ble_eq_true rfl⟩ (Nat.le_of_ble_eq_true rfl) dX6_buy_1 rfl (fun H8 s8 => ?_)
  refine aw_aload_n (q := 5) 0 dX6_buy_4 rfl rfl rfl ?_
  refine aw_iload_n (q := 6) 1 dX6_buy_5 rfl rfl rfl ?_
  refine cv_I (q := 9) (CC := "") (id := 108) (As := [.int (iI c)]) 1 (c_isCoil (T := T) (D := D) (ad := ad) H8 (by rw [show H8 12 13 = (G 12 13) from ((s8.2.2 _ _ (by omega)))]; omega) (by omega)) (fun _ h => h) (by omega) (cell_108 ad C _) rfl wc_X6_isCoil wm_RX6_96 wi_X6_isCoil ws_X6_isCoil wn_X6 (by decide) rfl ⟨Nat.le_of_ble_eq_true rfl, Nat.le_of_ble_eq_true rfl⟩ ⟨Nat.le_of_ble_eq_true rfl, Nat.le_of_ble_eq_true rfl⟩ (Nat.le_of_ble_eq_true rfl) dX6_buy_6 rfl (fun r9 G9 h9 => ?_)
  obtain ⟨e9, g9⟩ := h9
  rw [e9.trans (b2i_c (by rw [show H8 12 13 = (G 12 13) from ((s8.2.2 _ _ (by omega)))])), g9]
  clear e9 g9
  refine aw_ifb_ne (q := 12) dX6_buy_9 rfl (t := 22) (by decide) (fun y1 => ?_) (fun y2 => ?_)
  · refine aw_iload_n (q := 23) 2 dX6_buy_22 rfl rfl rfl ?_
    refine cs_I (q := 26) (As := [.int (iI f)]) 1 (c_isFew (T := T) (D := D) (ad := ad) H8 (by omega)) (fun _ h => h) wc_X6_isFew wm_RX6_127 wt_X6_isFew wn_X6 (by decide) rfl ⟨Nat.le_of_ble_eq_true rfl, Nat.le_of_ble_eq_true rfl⟩ ⟨Nat.le_of_ble_eq_true rfl, Nat.le_of_ble_eq_true rfl⟩ (Nat.le_of_ble_eq_true rfl) dX6_buy_23 rfl (fun r9 G9 h9 => ?_)
    rw [h9.1, h9.2]
    clear h9
    refine aw_ifb_eq (q := 29) dX6_buy_26 rfl (t := 52) (by decide) (fun y3 => ?_) (fun y4 => ?_)
    · refine aw_aload_n (q := 53) 0 dX6_buy_52 rfl rfl rfl ?_
      refine aw_aload_n (q := 54) 0 dX6_buy_53 rfl rfl rfl ?_
      refine aw_iconst (q := 55) dX6_buy_54 rfl ?_
      refine cv_I (q := 58) (CC := "") (id := 108) (As := [.int (iI 2)]) 1 (c_refuse (T := T) (D := D) (ad := ad) H8) (fun _ h => h) (by omega) (cell_108 ad C _) rfl wc_X6_refuse wm_RX6_82 wi_X6_refuse ws_X6_refuse wn_X6 (by decide) rfl ⟨Nat.le_of_ble_eq_true rfl, Nat.le_of_ble_eq_true rfl⟩ ⟨Nat.le_of_ble_eq_true rfl, Nat.le_of_ble_eq_true rfl⟩ (Nat.le_of_ble_eq_true rfl) dX6_buy_55 rfl (fun r9 G9 h9 => ?_)
      rw [h9.1, h9.2]
      clear h9
      refine cv_I (q := 61) (CC := "") (id := 108) (As := [.int (iI 0)]) 1 (c_ends (T := T) (D := D) (ad := ad) (setG H8 11 8 2) (a := 0) (by rw [show (setG H8 11 8 2) 11 4 = G 11 4 from ((setG_ne (by omega)).trans ((s8.2.2 _ _ (by omega))))]; omega) (by rw [show (setG H8 11 8 2) 11 8 = 2 from (setG_same _ _ _ _)]; omega)) (fun _ h => h) (by omega) (cell_108 ad C _) rfl wc_X6_ends wm_RX6_85 wi_X6_ends ws_X6_ends wn_X6 (by decide) rfl ⟨Nat.le_of_ble_eq_true rfl, Nat.le_of_ble_eq_true rfl⟩ ⟨Nat.le_of_ble_eq_true rfl, Nat.le_of_ble_eq_true rfl⟩ (Nat.le_of_ble_eq_true rfl) dX6_buy_58 rfl (fun rA HA hA => ?_)
      exact rt_i rfl (Nat.le_refl _) (Nat.le_refl _) (fin_to s8 (by
          have e13 : H8 12 13 = G 12 13 := s8.2.2 12 13 (by omega)
          unfold buyA; rw [e13]
          first | (refine Or.inl ⟨by omega, ?_, ?_⟩ <;> rfl) | (refine Or.inr (Or.inl ⟨by omega, by omega, ?_, ?_⟩) <;> rfl)) (fun x y z => (setG_ne (by omega))) hA) dX6_buy_61
    · refine aw_iload_n (q := 30) 3 dX6_buy_29 rfl rfl rfl ?_
      refine cs_I (q := 33) (As := [.int (iI t)]) 1 (c_isFew (T := T) (D := D) (ad := ad) H8 (by omega)) (fun _ h => h) wc_X6_isFew wm_RX6_127 wt_X6_isFew wn_X6 (by decide) rfl ⟨Nat.le_of_ble_eq_true rfl, Nat.le_of_ble_eq_true rfl⟩ ⟨Nat.le_of_ble_eq_true rfl, Nat.le_of_ble_eq_true rfl⟩ (Nat.le_of_ble_eq_true rfl) dX6_buy_30 rfl (fun r9 G9 h9 => ?_)
      rw [h9.1, h9.2]
      clear h9
      refine aw_ifb_eq (q := 36) dX6_buy_33 rfl (t := 52) (by decide) (fun y5 => ?_) (fun y6 => ?_)
      · refine aw_aload_n (q := 53) 0 dX6_buy_52 rfl rfl rfl ?_
        refine aw_aload_n (q := 54) 0 dX6_buy_53 rfl rfl rfl ?_
        refine aw_iconst (q := 55) dX6_buy_54 rfl ?_
        refine cv_I (q := 58) (CC := "") (id := 108) (As := [.int (iI 2)]) 1 (c_refuse (T := T) (D := D) (ad := ad) H8) (fun _ h => h) (by omega) (cell_108 ad C _) rfl wc_X6_refuse wm_RX6_82 wi_X6_refuse ws_X6_refuse wn_X6 (by decide) rfl ⟨Nat.le_of_ble_eq_true rfl, Nat.le_of_ble_eq_true rfl⟩ ⟨Nat.le_of_ble_eq_true rfl, Nat.le_of_ble_eq_true rfl⟩ (Nat.le_of_ble_eq_true rfl) dX6_buy_55 rfl (fun r9 G9 h9 => ?_)
        rw [h9.1, h9.2]
        clear h9
        refine cv_I (q := 61) (CC := "") (id := 108) (As := [.int (iI 0)]) 1 (c_ends (T := T) (D := D) (ad := ad) (setG H8 11 8 2) (a := 0) (by rw [show (setG H8 11 8 2) 11 4 = G 11 4 from ((setG_ne (by omega)).trans ((s8.2.2 _ _ (by omega))))]; omega) (by rw [show (setG H8 11 8 2) 11 8 = 2 from (setG_same _ _ _ _)]; omega)) (fun _ h => h) (by omega) (cell_108 ad C _) rfl wc_X6_ends wm_RX6_85 wi_X6_ends ws_X6_ends wn_X6 (by decide) rfl ⟨Nat.le_of_ble_eq_true rfl, Nat.le_of_ble_eq_true rfl⟩ ⟨Nat.le_of_ble_eq_true rfl, Nat.le_of_ble_eq_true rfl⟩ (Nat.le_of_ble_eq_true rfl) dX6_buy_58 rfl (fun rA HA hA => ?_)
        exact rt_i rfl (Nat.le_refl _) (Nat.le_refl _) (fin_to s8 (by
            have e13 : H8 12 13 = G 12 13 := s8.2.2 12 13 (by omega)
            unfold buyA; rw [e13]
            first | (refine Or.inl ⟨by omega, ?_, ?_⟩ <;> rfl) | (refine Or.inr (Or.inl ⟨by omega, by omega, ?_, ?_⟩) <;> rfl)) (fun x y z => (setG_ne (by omega))) hA) dX6_buy_61
      · refine aw_iload (q := 38) 4 dX6_buy_36 rfl rfl ?_
        refine cs_I (q := 41) (As := [.int (iI w)]) 1 (c_isFew (T := T) (D := D) (ad := ad) H8 (by omega)) (fun _ h => h) wc_X6_isFew wm_RX6_127 wt_X6_isFew wn_X6 (by decide) rfl ⟨Nat.le_of_ble_eq_true rfl, Nat.le_of_ble_eq_true rfl⟩ ⟨Nat.le_of_ble_eq_true rfl, Nat.le_of_ble_eq_true rfl⟩ (Nat.le_of_ble_eq_true rfl) dX6_buy_38 rfl (fun r9 G9 h9 => ?_)
        rw [h9.1, h9.2]
        clear h9
        refine aw_ifb_eq (q := 44) dX6_buy_41 rfl (t := 52) (by decide) (fun y7 => ?_) (fun y8 => ?_)
        · refine aw_aload_n (q := 53) 0 dX6_buy_52 rfl rfl rfl ?_
          refine aw_aload_n (q := 54) 0 dX6_buy_53 rfl rfl rfl ?_
          refine aw_iconst (q := 55) dX6_buy_54 rfl ?_
          refine cv_I (q := 58) (CC := "") (id := 108) (As := [.int (iI 2)]) 1 (c_refuse (T := T) (D := D) (ad := ad) H8) (fun _ h => h) (by omega) (cell_108 ad C _) rfl wc_X6_refuse wm_RX6_82 wi_X6_refuse ws_X6_refuse wn_X6 (by decide) rfl ⟨Nat.le_of_ble_eq_true rfl, Nat.le_of_ble_eq_true rfl⟩ ⟨Nat.le_of_ble_eq_true rfl, Nat.le_of_ble_eq_true rfl⟩ (Nat.le_of_ble_eq_true rfl) dX6_buy_55 rfl (fun r9 G9 h9 => ?_)
          rw [h9.1, h9.2]
          clear h9
          refine cv_I (q := 61) (CC := "") (id := 108) (As := [.int (iI 0)]) 1 (c_ends (T := T) (D := D) (ad := ad) (setG H8 11 8 2) (a := 0) (by rw [show (setG H8 11 8 2) 11 4 = G 11 4 from ((setG_ne (by omega)).trans ((s8.2.2 _ _ (by omega))))]; omega) (by rw [show (setG H8 11 8 2) 11 8 = 2 from (setG_same _ _ _ _)]; omega)) (fun _ h => h) (by omega) (cell_108 ad C _) rfl wc_X6_ends wm_RX6_85 wi_X6_ends ws_X6_ends wn_X6 (by decide) rfl ⟨Nat.le_of_ble_eq_true rfl, Nat.le_of_ble_eq_true rfl⟩ ⟨Nat.le_of_ble_eq_true rfl, Nat.le_of_ble_eq_true rfl⟩ (Nat.le_of_ble_eq_true rfl) dX6_buy_58 rfl (fun rA HA hA => ?_)
          exact rt_i rfl (Nat.le_refl _) (Nat.le_refl _) (fin_to s8 (by
              have e13 : H8 12 13 = G 12 13 := s8.2.2 12 13 (by omega)
              unfold buyA; rw [e13]
              first | (refine Or.inl ⟨by omega, ?_, ?_⟩ <;> rfl) | (refine Or.inr (Or.inl ⟨by omega, by omega, ?_, ?_⟩) <;> rfl)) (fun x y z => (setG_ne (by omega))) hA) dX6_buy_61
        · refine aw_iload (q := 46) 5 dX6_buy_44 rfl rfl ?_
          refine cs_I (q := 49) (As := [.int (iI d)]) 1 (c_isFew (T := T) (D := D) (ad := ad) H8 (by omega)) (fun _ h => h) wc_X6_isFew wm_RX6_127 wt_X6_isFew wn_X6 (by decide) rfl ⟨Nat.le_of_ble_eq_true rfl, Nat.le_of_ble_eq_true rfl⟩ ⟨Nat.le_of_ble_eq_true rfl, Nat.le_of_ble_eq_true rfl⟩ (Nat.le_of_ble_eq_true rfl) dX6_buy_46 rfl (fun r9 G9 h9 => ?_)
          rw [h9.1, h9.2]
          clear h9
          refine aw_ifb_ne (q := 52) dX6_buy_49 rfl (t := 62) (by decide) (fun y9 => ?_) (fun y10 => ?_)
          · refine aw_aload_n (q := 63) 0 dX6_buy_62 rfl rfl rfl ?_
            refine aw_iload_n (q := 64) 2 dX6_buy_63 rfl rfl rfl ?_
            refine aw_iload_n (q := 65) 3 dX6_buy_64 rfl rfl rfl ?_
            refine aw_iload (q := 67) 4 dX6_buy_65 rfl rfl ?_
            refine aw_iload (q := 69) 5 dX6_buy_67 rfl rfl ?_
            refine cv_V (q := 72) (CC := "") (id := 108) (As := [.int (iI f), .int (iI t), .int (iI w), .int (iI d)]) 4 (c_lays (T := T) (D := D) (ad := ad) H8) (fun _ h => h) (by omega) (cell_108 ad C _) rfl wc_X6_lays wm_RX6_130 wi_X6_lays ws_X6_lays wn_X6 (by decide) rfl ⟨Nat.le_of_ble_eq_true rfl, Nat.le_of_ble_eq_true rfl⟩ ⟨Nat.le_of_ble_eq_true rfl, Nat.le_of_ble_eq_true rfl⟩ (Nat.le_of_ble_eq_true rfl) dX6_buy_69 rfl (fun G9 h9 => ?_)
            rw [h9]
            clear h9
            refine aw_aload_n (q := 73) 0 dX6_buy_72 rfl rfl rfl ?_
            refine aw_aload_n (q := 74) 0 dX6_buy_73 rfl rfl rfl ?_
            refine aw_iload_n (q := 75) 1 dX6_buy_74 rfl rfl rfl ?_
            refine cv_I (q := 78) (CC := "") (id := 108) (As := [.int (iI c)]) 1 (c_doBuy (T := T) (D := D) (ad := ad) (putG H8 f t w d) (c := c) (by rw [show putG H8 f t w d 12 13 = G 12 13 from (putG_ne (by omega)).trans (s8.2.2 _ _ (by omega))]; omega) (by rw [(row12 (fun y => (putG_ne (by omega)).trans (s8.2.2 12 y (by omega))))]; exact oH) (okP_row12 (row12 (fun y => (putG_ne (by omega)).trans (s8.2.2 12 y (by omega)))) oP) (okMR_row (row12 (fun y => (putG_ne (by omega)).trans (s8.2.2 12 y (by omega)))) hR) (putG_b ⟨by omega, by omega, by omega, by omega⟩)) (fun _ h => h) (by omega) (cell_108 ad C _) rfl wc_X6_doBuy wm_RX6_134 wi_X6_doBuy ws_X6_doBuy wn_X6 (by decide) rfl ⟨Nat.le_of_ble_eq_true rfl, Nat.le_of_ble_eq_true rfl⟩ ⟨Nat.le_of_ble_eq_true rfl, Nat.le_of_ble_eq_true rfl⟩ (Nat.le_of_ble_eq_true rfl) dX6_buy_75 rfl (fun r2 H h2 => ?_)
            have c8 := buyB_8 ((putG_ne (by omega)).trans s8.1) h2
            refine cv_I (q := 81) (CC := "") (id := 108) (As := [.int (iI r2)]) 1 (c_ends (T := T) (D := D) (ad := ad) H (a := r2) (by rw [show H 11 4 = G 11 4 from (((h2.1 _ _ (by omega)).trans ((putG_ne (by omega)).trans (s8.2.2 _ _ (by omega)))))]; omega) (by omega)) (fun _ h => h) (by omega) (cell_108 ad C _) rfl wc_X6_ends wm_RX6_85 wi_X6_ends ws_X6_ends wn_X6 (by decide) rfl ⟨Nat.le_of_ble_eq_true rfl, Nat.le_of_ble_eq_true rfl⟩ ⟨Nat.le_of_ble_eq_true rfl, Nat.le_of_ble_eq_true rfl⟩ (Nat.le_of_ble_eq_true rfl) dX6_buy_78 rfl (fun rA HA hA => ?_)
            exact rt_i rfl (Nat.le_refl _) (Nat.le_refl _) (fin_to s8 (Or.inr (Or.inr ⟨by rw [show H8 12 13 = G 12 13 from s8.2.2 _ _ (by omega)]; omega, ⟨by omega, by omega, by omega, by omega⟩, h2⟩)) (fun x y z => (h2.1 x y (by omega)).trans (putG_ne (by omega))) hA) dX6_buy_81
          · refine aw_aload_n (q := 53) 0 dX6_buy_52 rfl rfl rfl ?_
            refine aw_aload_n (q := 54) 0 dX6_buy_53 rfl rfl rfl ?_
            refine aw_iconst (q := 55) dX6_buy_54 rfl ?_
            refine cv_I (q := 58) (CC := "") (id := 108) (As := [.int (iI 2)]) 1 (c_refuse (T := T) (D := D) (ad := ad) H8) (fun _ h => h) (by omega) (cell_108 ad C _) rfl wc_X6_refuse wm_RX6_82 wi_X6_refuse ws_X6_refuse wn_X6 (by decide) rfl ⟨Nat.le_of_ble_eq_true rfl, Nat.le_of_ble_eq_true rfl⟩ ⟨Nat.le_of_ble_eq_true rfl, Nat.le_of_ble_eq_true rfl⟩ (Nat.le_of_ble_eq_true rfl) dX6_buy_55 rfl (fun r9 G9 h9 => ?_)
            rw [h9.1, h9.2]
            clear h9
            refine cv_I (q := 61) (CC := "") (id := 108) (As := [.int (iI 0)]) 1 (c_ends (T := T) (D := D) (ad := ad) (setG H8 11 8 2) (a := 0) (by rw [show (setG H8 11 8 2) 11 4 = G 11 4 from ((setG_ne (by omega)).trans ((s8.2.2 _ _ (by omega))))]; omega) (by rw [show (setG H8 11 8 2) 11 8 = 2 from (setG_same _ _ _ _)]; omega)) (fun _ h => h) (by omega) (cell_108 ad C _) rfl wc_X6_ends wm_RX6_85 wi_X6_ends ws_X6_ends wn_X6 (by decide) rfl ⟨Nat.le_of_ble_eq_true rfl, Nat.le_of_ble_eq_true rfl⟩ ⟨Nat.le_of_ble_eq_true rfl, Nat.le_of_ble_eq_true rfl⟩ (Nat.le_of_ble_eq_true rfl) dX6_buy_58 rfl (fun rA HA hA => ?_)
            exact rt_i rfl (Nat.le_refl _) (Nat.le_refl _) (fin_to s8 (by
                have e13 : H8 12 13 = G 12 13 := s8.2.2 12 13 (by omega)
                unfold buyA; rw [e13]
                first | (refine Or.inl ⟨by omega, ?_, ?_⟩ <;> rfl) | (refine Or.inr (Or.inl ⟨by omega, by omega, ?_, ?_⟩) <;> rfl)) (fun x y z => (setG_ne (by omega))) hA) dX6_buy_61
  · refine aw_aload_n (q := 13) 0 dX6_buy_12 rfl rfl rfl ?_
    refine aw_aload_n (q := 14) 0 dX6_buy_13 rfl rfl rfl ?_
    refine aw_iconst (q := 15) dX6_buy_14 rfl ?_
    refine cv_I (q := 18) (CC := "") (id := 108) (As := [.int (iI 1)]) 1 (c_refuse (T := T) (D := D) (ad := ad) H8) (fun _ h => h) (by omega) (cell_108 ad C _) rfl wc_X6_refuse wm_RX6_82 wi_X6_refuse ws_X6_refuse wn_X6 (by decide) rfl ⟨Nat.le_of_ble_eq_true rfl, Nat.le_of_ble_eq_true rfl⟩ ⟨Nat.le_of_ble_eq_true rfl, Nat.le_of_ble_eq_true rfl⟩ (Nat.le_of_ble_eq_true rfl) dX6_buy_15 rfl (fun r9 G9 h9 => ?_)
    rw [h9.1, h9.2]
    clear h9
    refine cv_I (q := 21) (CC := "") (id := 108) (As := [.int (iI 0)]) 1 (c_ends (T := T) (D := D) (ad := ad) (setG H8 11 8 1) (a := 0) (by rw [show (setG H8 11 8 1) 11 4 = G 11 4 from ((setG_ne (by omega)).trans ((s8.2.2 _ _ (by omega))))]; omega) (by rw [show (setG H8 11 8 1) 11 8 = 1 from (setG_same _ _ _ _)]; omega)) (fun _ h => h) (by omega) (cell_108 ad C _) rfl wc_X6_ends wm_RX6_85 wi_X6_ends ws_X6_ends wn_X6 (by decide) rfl ⟨Nat.le_of_ble_eq_true rfl, Nat.le_of_ble_eq_true rfl⟩ ⟨Nat.le_of_ble_eq_true rfl, Nat.le_of_ble_eq_true rfl⟩ (Nat.le_of_ble_eq_true rfl) dX6_buy_18 rfl (fun rA HA hA => ?_)
    exact rt_i rfl (Nat.le_refl _) (Nat.le_refl _) (fin_to s8 (by
        have e13 : H8 12 13 = G 12 13 := s8.2.2 12 13 (by omega)
        unfold buyA; rw [e13]
        first | (refine Or.inl ⟨by omega, ?_, ?_⟩ <;> rfl) | (refine Or.inr (Or.inl ⟨by omega, by omega, ?_, ?_⟩) <;> rfl)) (fun x y z => (setG_ne (by omega))) hA) dX6_buy_21
set_option maxHeartbeats 4000000 in
set_option maxRecDepth 100000 in
theorem c_money {l : Launch} {D : va_G} {C : Nat → ClassId} {T : Nat → Nat} {ad : Int → Nat} (G : GG)  : MC l yX6_money cX6_money 3 (some .int) 1 20 0 0 D (tyC C) T [.ref (ad 108)] (cw ad C G) (RI ad C (fun r G1 => r = worthF (G 12) 5 ∧ G1 = G)) := by
  refine mc_of (by decide +kernel) (Nat.le_of_ble_eq_true rfl) rfl ?_
  refine aw_iconst (q := 1) dX6_money_0 rfl ?_
  refine aw_istore_n (q := 2) (lv2 := [(0, .ref (ad 108)), (1, .int (iI 0))]) [1, 0] dX6_money_1 rfl rfl (by decide) rfl rfl ?_
  refine aw_iconst (q := 3) dX6_money_2 rfl ?_
  refine aw_istore_n (q := 4) (lv2 := [(0, .ref (ad 108)), (1, .int (iI 0)), (2, .int (iI 0))]) [1, 2, 0] dX6_money_3 rfl rfl (by decide) rfl rfl ?_
  refine aw_iload_n (q := 5) 2 dX6_money_4 rfl rfl rfl ?_
  refine aw_iconst (q := 6) dX6_money_5 rfl ?_
  refine aw_icmp_ge (q := 9) dX6_money_6 rfl (t := 31) (by decide) (by omega) (by omega) (fun h => absurd h (by omega)) (fun _ => ?_)
  refine aw_iload_n (q := 10) 1 dX6_money_9 rfl rfl rfl ?_
  refine aw_aload_n (q := 11) 0 dX6_money_10 rfl rfl rfl ?_
  refine g_mod_p (q := 14) wf_RX6_7 dX6_money_11 rfl ?_
  refine aw_iconst (q := 15) dX6_money_14 rfl ?_
  refine aw_iload_n (q := 16) 2 dX6_money_15 rfl rfl rfl ?_
  refine ae_iadd (q := 17) 5 (by omega) dX6_money_16 rfl ?_
  refine aw_cial (q := 18) (v := (G 12 5)) 5 (ar_109 ad C) (by omega) (by omega) rfl dX6_money_17 rfl ?_
  refine aw_iload_n (q := 19) 2 dX6_money_18 rfl rfl rfl ?_
  refine cs_I (q := 22) (As := [.int (iI 0)]) 1 (c_worthM0 (T := T) (D := D) (ad := ad) G) (fun _ h => h) wc_X6_worth wm_RX6_72 wt_X6_worth wn_X6 (by decide) rfl ⟨Nat.le_of_ble_eq_true rfl, Nat.le_of_ble_eq_true rfl⟩ ⟨Nat.le_of_ble_eq_true rfl, Nat.le_of_ble_eq_true rfl⟩ (Nat.le_of_ble_eq_true rfl) dX6_money_19 rfl (fun r9 G9 h9 => ?_)
  rw [h9.1, h9.2]
  clear h9
  refine ae_imul (q := 23) (5 * (G 12 5)) (by omega) dX6_money_22 rfl ?_
  refine ae_iadd (q := 24) (5 * (G 12 5)) (by omega) dX6_money_23 rfl ?_
  refine aw_istore_n (q := 25) (lv2 := [(0, .ref (ad 108)), (1, .int (iI (5 * (G 12 5)))), (2, .int (iI 0))]) [1, 0, 2] dX6_money_24 rfl rfl (by decide) rfl rfl ?_
  refine ae_iinc (q := 28) (lv2 := [(0, .ref (ad 108)), (1, .int (iI (5 * (G 12 5)))), (2, .int (iI 1))]) 2 [1, 2, 0] 1 (by omega) dX6_money_25 rfl rfl (by decide) rfl ?_
  refine aw_goto (q := 4) dX6_money_28 (by decide) ?_
  refine aw_iload_n (q := 5) 2 dX6_money_4 rfl rfl rfl ?_
  refine aw_iconst (q := 6) dX6_money_5 rfl ?_
  refine aw_icmp_ge (q := 9) dX6_money_6 rfl (t := 31) (by decide) (by omega) (by omega) (fun h => absurd h (by omega)) (fun _ => ?_)
  refine aw_iload_n (q := 10) 1 dX6_money_9 rfl rfl rfl ?_
  refine aw_aload_n (q := 11) 0 dX6_money_10 rfl rfl rfl ?_
  refine g_mod_p (q := 14) wf_RX6_7 dX6_money_11 rfl ?_
  refine aw_iconst (q := 15) dX6_money_14 rfl ?_
  refine aw_iload_n (q := 16) 2 dX6_money_15 rfl rfl rfl ?_
  refine ae_iadd (q := 17) 6 (by omega) dX6_money_16 rfl ?_
  refine aw_cial (q := 18) (v := (G 12 6)) 6 (ar_109 ad C) (by omega) (by omega) rfl dX6_money_17 rfl ?_
  refine aw_iload_n (q := 19) 2 dX6_money_18 rfl rfl rfl ?_
  refine cs_I (q := 22) (As := [.int (iI 1)]) 1 (c_worthM1 (T := T) (D := D) (ad := ad) G) (fun _ h => h) wc_X6_worth wm_RX6_72 wt_X6_worth wn_X6 (by decide) rfl ⟨Nat.le_of_ble_eq_true rfl, Nat.le_of_ble_eq_true rfl⟩ ⟨Nat.le_of_ble_eq_true rfl, Nat.le_of_ble_eq_true rfl⟩ (Nat.le_of_ble_eq_true rfl) dX6_money_19 rfl (fun r9 G9 h9 => ?_)
  rw [h9.1, h9.2]
  clear h9
  refine ae_imul (q := 23) (10 * (G 12 6)) (by omega) dX6_money_22 rfl ?_
  refine ae_iadd (q := 24) (5 * (G 12 5) + 10 * (G 12 6)) (by omega) dX6_money_23 rfl ?_
  refine aw_istore_n (q := 25) (lv2 := [(0, .ref (ad 108)), (1, .int (iI (5 * (G 12 5) + 10 * (G 12 6)))), (2, .int (iI 1))]) [1, 0, 2] dX6_money_24 rfl rfl (by decide) rfl rfl ?_
  refine ae_iinc (q := 28) (lv2 := [(0, .ref (ad 108)), (1, .int (iI (5 * (G 12 5) + 10 * (G 12 6)))), (2, .int (iI 2))]) 2 [1, 2, 0] 2 (by omega) dX6_money_25 rfl rfl (by decide) rfl ?_
  refine aw_goto (q := 4) dX6_money_28 (by decide) ?_
  refine aw_iload_n (q := 5) 2 dX6_money_4 rfl rfl rfl ?_
  refine aw_iconst (q := 6) dX6_money_5 rfl ?_
  refine aw_icmp_ge (q := 9) dX6_money_6 rfl (t := 31) (by decide) (by omega) (by omega) (fun h => absurd h (by omega)) (fun _ => ?_)
  refine aw_iload_n (q := 10) 1 dX6_money_9 rfl rfl rfl ?_
  refine aw_aload_n (q := 11) 0 dX6_money_10 rfl rfl rfl ?_
  refine g_mod_p (q := 14) wf_RX6_7 dX6_money_11 rfl ?_
  refine aw_iconst (q := 15) dX6_money_14 rfl ?_
  refine aw_iload_n (q := 16) 2 dX6_money_15 rfl rfl rfl ?_
  refine ae_iadd (q := 17) 7 (by omega) dX6_money_16 rfl ?_
  refine aw_cial (q := 18) (v := (G 12 7)) 7 (ar_109 ad C) (by omega) (by omega) rfl dX6_money_17 rfl ?_
  refine aw_iload_n (q := 19) 2 dX6_money_18 rfl rfl rfl ?_
  refine cs_I (q := 22) (As := [.int (iI 2)]) 1 (c_worthM2 (T := T) (D := D) (ad := ad) G) (fun _ h => h) wc_X6_worth wm_RX6_72 wt_X6_worth wn_X6 (by decide) rfl ⟨Nat.le_of_ble_eq_true rfl, Nat.le_of_ble_eq_true rfl⟩ ⟨Nat.le_of_ble_eq_true rfl, Nat.le_of_ble_eq_true rfl⟩ (Nat.le_of_ble_eq_true rfl) dX6_money_19 rfl (fun r9 G9 h9 => ?_)
  rw [h9.1, h9.2]
  clear h9
  refine ae_imul (q := 23) (20 * (G 12 7)) (by omega) dX6_money_22 rfl ?_
  refine ae_iadd (q := 24) (5 * (G 12 5) + 10 * (G 12 6) + 20 * (G 12 7)) (by omega) dX6_money_23 rfl ?_
  refine aw_istore_n (q := 25) (lv2 := [(0, .ref (ad 108)), (1, .int (iI (5 * (G 12 5) + 10 * (G 12 6) + 20 * (G 12 7)))), (2, .int (iI 2))]) [1, 0, 2] dX6_money_24 rfl rfl (by decide) rfl rfl ?_
  refine ae_iinc (q := 28) (lv2 := [(0, .ref (ad 108)), (1, .int (iI (5 * (G 12 5) + 10 * (G 12 6) + 20 * (G 12 7)))), (2, .int (iI 3))]) 2 [1, 2, 0] 3 (by omega) dX6_money_25 rfl rfl (by decide) rfl ?_
  refine aw_goto (q := 4) dX6_money_28 (by decide) ?_
  refine aw_iload_n (q := 5) 2 dX6_money_4 rfl rfl rfl ?_
  refine aw_iconst (q := 6) dX6_money_5 rfl ?_
  refine aw_icmp_ge (q := 9) dX6_money_6 rfl (t := 31) (by decide) (by omega) (by omega) (fun h => absurd h (by omega)) (fun _ => ?_)
  refine aw_iload_n (q := 10) 1 dX6_money_9 rfl rfl rfl ?_
  refine aw_aload_n (q := 11) 0 dX6_money_10 rfl rfl rfl ?_
  refine g_mod_p (q := 14) wf_RX6_7 dX6_money_11 rfl ?_
  refine aw_iconst (q := 15) dX6_money_14 rfl ?_
  refine aw_iload_n (q := 16) 2 dX6_money_15 rfl rfl rfl ?_
  refine ae_iadd (q := 17) 8 (by omega) dX6_money_16 rfl ?_
  refine aw_cial (q := 18) (v := (G 12 8)) 8 (ar_109 ad C) (by omega) (by omega) rfl dX6_money_17 rfl ?_
  refine aw_iload_n (q := 19) 2 dX6_money_18 rfl rfl rfl ?_
  refine cs_I (q := 22) (As := [.int (iI 3)]) 1 (c_worthM3 (T := T) (D := D) (ad := ad) G) (fun _ h => h) wc_X6_worth wm_RX6_72 wt_X6_worth wn_X6 (by decide) rfl ⟨Nat.le_of_ble_eq_true rfl, Nat.le_of_ble_eq_true rfl⟩ ⟨Nat.le_of_ble_eq_true rfl, Nat.le_of_ble_eq_true rfl⟩ (Nat.le_of_ble_eq_true rfl) dX6_money_19 rfl (fun r9 G9 h9 => ?_)
  rw [h9.1, h9.2]
  clear h9
  refine ae_imul (q := 23) (50 * (G 12 8)) (by omega) dX6_money_22 rfl ?_
  refine ae_iadd (q := 24) (5 * (G 12 5) + 10 * (G 12 6) + 20 * (G 12 7) + 50 * (G 12 8)) (by omega) dX6_money_23 rfl ?_
  refine aw_istore_n (q := 25) (lv2 := [(0, .ref (ad 108)), (1, .int (iI (5 * (G 12 5) + 10 * (G 12 6) + 20 * (G 12 7) + 50 * (G 12 8)))), (2, .int (iI 3))]) [1, 0, 2] dX6_money_24 rfl rfl (by decide) rfl rfl ?_
  refine ae_iinc (q := 28) (lv2 := [(0, .ref (ad 108)), (1, .int (iI (5 * (G 12 5) + 10 * (G 12 6) + 20 * (G 12 7) + 50 * (G 12 8)))), (2, .int (iI 4))]) 2 [1, 2, 0] 4 (by omega) dX6_money_25 rfl rfl (by decide) rfl ?_
  refine aw_goto (q := 4) dX6_money_28 (by decide) ?_
  refine aw_iload_n (q := 5) 2 dX6_money_4 rfl rfl rfl ?_
  refine aw_iconst (q := 6) dX6_money_5 rfl ?_
  refine aw_icmp_ge (q := 9) dX6_money_6 rfl (t := 31) (by decide) (by omega) (by omega) (fun _ => ?_) (fun h => absurd h (by omega))
  refine aw_iload_n (q := 32) 1 dX6_money_31 rfl rfl rfl ?_
  exact rt_i rfl (Nat.le_refl _) (Nat.le_refl _) (⟨by show _ = 5 * G 12 5 + 10 * G 12 6 + 20 * G 12 7 + 50 * G 12 8; omega, rfl⟩) dX6_money_32
set_option maxHeartbeats 4000000 in
set_option maxRecDepth 100000 in
theorem L_inCoils {l : Launch} {D : va_G} {C : Nat → ClassId} {T : Nat → Nat} {ad : Int → Nat} (G : GG) (h13 : 0 ≤ G 12 13 ∧ G 12 13 ≤ 8) {k : Int} (hk : 0 ≤ k ∧ k < 12) : ∀ (n : Nat) (c : Int), (0 ≤ c ∧ c ≤ G 12 13) → G 12 13 - c < n → AW l RX6 "inCoils" cX6_inCoils 4 (some .int) (fun _ => True) { frames := 1, cells := 0, slots := 0, locals := 22 } (hvE D (RI ad C (fun r G1 => r = sumF (G 12) k (G 12 13).toNat ∧ G1 = G)) (cw ad C G) 0 0) D (tyC C) (hvZ T (cw ad C G)) (cw ad C G) 4 [(0, .ref (ad 108)), (1, .int (iI k)), (2, .int (iI ((sumF (G 12) k c.toNat)))), (3, .int (iI c))] [] (cw ad C G) 0 0 := by
  intro n
  induction n with
  | zero => intro c hc hn; exact absurd hn (by omega)
  | succ n ih =>
    intro c hc hn
    refine aw_iload_n (q := 5) 3 dX6_inCoils_4 rfl rfl rfl ?_
    refine aw_aload_n (q := 6) 0 dX6_inCoils_5 rfl rfl rfl ?_
    refine g_mod_p (q := 9) wf_RX6_7 dX6_inCoils_6 rfl ?_
    refine aw_bipush (q := 11) dX6_inCoils_9 rfl (by decide) ?_
    refine aw_cial (q := 12) (v := (G 12 13)) 13 (ar_109 ad C) (by omega) (by omega) rfl dX6_inCoils_11 rfl ?_
    refine aw_icmp_ge (q := 15) dX6_inCoils_12 rfl (t := 30) (by decide) (by omega) (by omega) (fun y1 => ?_) (fun y2 => ?_)
    · refine aw_iload_n (q := 31) 2 dX6_inCoils_30 rfl rfl rfl ?_
      exact rt_i rfl (Nat.le_refl _) (Nat.le_refl _) (⟨by rw [show c = G 12 13 by omega], rfl⟩) dX6_inCoils_31
    · refine aw_iload_n (q := 16) 2 dX6_inCoils_15 rfl rfl rfl ?_
      refine aw_aload_n (q := 17) 0 dX6_inCoils_16 rfl rfl rfl ?_
      refine aw_iload_n (q := 18) 3 dX6_inCoils_17 rfl rfl rfl ?_
      refine aw_iload_n (q := 19) 1 dX6_inCoils_18 rfl rfl rfl ?_
      refine cv_I (q := 22) (CC := "") (id := 108) (As := [.int (iI c), .int (iI k)]) 2 (c_of (T := T) (D := D) (ad := ad) G (by omega) (by omega)) (fun _ h => h) (by omega) (cell_108 ad C _) rfl wc_X6_of wm_RX6_100 wi_X6_of ws_X6_of wn_X6 (by decide) rfl ⟨Nat.le_of_ble_eq_true rfl, Nat.le_of_ble_eq_true rfl⟩ ⟨Nat.le_of_ble_eq_true rfl, Nat.le_of_ble_eq_true rfl⟩ (Nat.le_of_ble_eq_true rfl) dX6_inCoils_19 rfl (fun r9 G9 h9 => ?_)
      obtain ⟨e9, g9⟩ := h9
      rw [e9.trans (rfl), g9]
      clear e9 g9
      refine ae_iadd (q := 23) ((sumF (G 12) k c.toNat) + (G 12 (15 + 12 * c + k))) (by omega) dX6_inCoils_22 rfl ?_
      refine aw_istore_n (q := 24) (lv2 := [(0, .ref (ad 108)), (1, .int (iI k)), (2, .int (iI ((sumF (G 12) k c.toNat) + (G 12 (15 + 12 * c + k))))), (3, .int (iI c))]) [1, 2, 0, 3] dX6_inCoils_23 rfl rfl (by decide) rfl rfl ?_
      refine ae_iinc (q := 27) (lv2 := [(0, .ref (ad 108)), (1, .int (iI k)), (2, .int (iI ((sumF (G 12) k c.toNat) + (G 12 (15 + 12 * c + k))))), (3, .int (iI (c + 1)))]) 3 [1, 2, 3, 0] (c + 1) (by omega) dX6_inCoils_24 rfl rfl (by decide) rfl ?_
      refine aw_goto (q := 4) dX6_inCoils_27 (by decide) ?_
      have h9 := ih (c + 1) (by omega) (by omega)
      rw [sumF_succ _ _ hc.1] at h9
      exact h9
set_option maxHeartbeats 4000000 in
set_option maxRecDepth 100000 in
theorem c_inCoils {l : Launch} {D : va_G} {C : Nat → ClassId} {T : Nat → Nat} {ad : Int → Nat} (G : GG) (h13 : 0 ≤ G 12 13 ∧ G 12 13 ≤ 8) {k : Int} (hk : 0 ≤ k ∧ k < 12) : MC l yX6_inCoils cX6_inCoils 4 (some .int) 1 22 0 0 D (tyC C) T [.ref (ad 108), .int (iI k)] (cw ad C G) (RI ad C (fun r G1 => r = sumF (G 12) k (G 12 13).toNat ∧ G1 = G)) := by
  refine mc_of (by decide +kernel) (Nat.le_of_ble_eq_true rfl) rfl ?_
  refine aw_iconst (q := 1) dX6_inCoils_0 rfl ?_
  refine aw_istore_n (q := 2) (lv2 := [(0, .ref (ad 108)), (1, .int (iI k)), (2, .int (iI 0))]) [1, 2, 0] dX6_inCoils_1 rfl rfl (by decide) rfl rfl ?_
  refine aw_iconst (q := 3) dX6_inCoils_2 rfl ?_
  refine aw_istore_n (q := 4) (lv2 := [(0, .ref (ad 108)), (1, .int (iI k)), (2, .int (iI 0)), (3, .int (iI 0))]) [1, 2, 3, 0] dX6_inCoils_3 rfl rfl (by decide) rfl rfl ?_
  exact L_inCoils (l := l) (D := D) (T := T) (C := C) (ad := ad) G h13 hk 9 0 (by omega) (by omega)
set_option maxHeartbeats 4000000 in
set_option maxRecDepth 100000 in
theorem c_tell0 {l : Launch} {D : va_G} {C : Nat → ClassId} {T : Nat → Nat} {ad : Int → Nat} (G : GG) (h13 : 0 ≤ G 12 13 ∧ G 12 13 ≤ 8) (h14 : 0 ≤ G 12 14 ∧ G 12 14 ≤ 200) : MC l yX6_tell cX6_tell 2 (some .int) 2 45 0 0 D (tyC C) T [.ref (ad 108), .int (iI 0)] (cw ad C G) (RI ad C (fun r G1 => r = numM G 0 ∧ G1 = G)) := by
  refine mc_of (by decide +kernel) (Nat.le_of_ble_eq_true rfl) rfl ?_
  refine aw_iload_n (q := 1) 1 dX6_tell_0 rfl rfl rfl ?_
  refine ae_tab 55 (t := 56) (by omega) dX6_tell_1 (by decide) (by decide) rfl (by decide) ?_
  refine aw_aload_n (q := 57) 0 dX6_tell_56 rfl rfl rfl ?_
  refine g_mod_p (q := 60) wf_RX6_7 dX6_tell_57 rfl ?_
  refine aw_bipush (q := 62) dX6_tell_60 rfl (by decide) ?_
  refine aw_cial (q := 63) (v := (G 12 13)) 13 (ar_109 ad C) (by omega) (by omega) rfl dX6_tell_62 rfl ?_
  exact rt_i rfl (Nat.le_refl _) (Nat.le_refl _) (⟨rfl, rfl⟩) dX6_tell_63
set_option maxHeartbeats 4000000 in
set_option maxRecDepth 100000 in
theorem c_tell1 {l : Launch} {D : va_G} {C : Nat → ClassId} {T : Nat → Nat} {ad : Int → Nat} (G : GG) (h13 : 0 ≤ G 12 13 ∧ G 12 13 ≤ 8) (h14 : 0 ≤ G 12 14 ∧ G 12 14 ≤ 200) : MC l yX6_tell cX6_tell 2 (some .int) 2 45 0 0 D (tyC C) T [.ref (ad 108), .int (iI 1)] (cw ad C G) (RI ad C (fun r G1 => r = numM G 1 ∧ G1 = G)) := by
  refine mc_of (by decide +kernel) (Nat.le_of_ble_eq_true rfl) rfl ?_
  refine aw_iload_n (q := 1) 1 dX6_tell_0 rfl rfl rfl ?_
  refine ae_tab 63 (t := 64) (by omega) dX6_tell_1 (by decide) (by decide) rfl (by decide) ?_
  refine aw_aload_n (q := 65) 0 dX6_tell_64 rfl rfl rfl ?_
  refine g_mod_p (q := 68) wf_RX6_7 dX6_tell_65 rfl ?_
  refine aw_bipush (q := 70) dX6_tell_68 rfl (by decide) ?_
  refine aw_cial (q := 71) (v := (G 12 10)) 10 (ar_109 ad C) (by omega) (by omega) rfl dX6_tell_70 rfl ?_
  exact rt_i rfl (Nat.le_refl _) (Nat.le_refl _) (⟨rfl, rfl⟩) dX6_tell_71
set_option maxHeartbeats 4000000 in
set_option maxRecDepth 100000 in
theorem c_tell2 {l : Launch} {D : va_G} {C : Nat → ClassId} {T : Nat → Nat} {ad : Int → Nat} (G : GG) (h13 : 0 ≤ G 12 13 ∧ G 12 13 ≤ 8) (h14 : 0 ≤ G 12 14 ∧ G 12 14 ≤ 200) : MC l yX6_tell cX6_tell 2 (some .int) 2 45 0 0 D (tyC C) T [.ref (ad 108), .int (iI 2)] (cw ad C G) (RI ad C (fun r G1 => r = numM G 2 ∧ G1 = G)) := by
  refine mc_of (by decide +kernel) (Nat.le_of_ble_eq_true rfl) rfl ?_
  refine aw_iload_n (q := 1) 1 dX6_tell_0 rfl rfl rfl ?_
  refine ae_tab 71 (t := 72) (by omega) dX6_tell_1 (by decide) (by decide) rfl (by decide) ?_
  refine aw_aload_n (q := 73) 0 dX6_tell_72 rfl rfl rfl ?_
  refine cv_I (q := 76) (CC := "") (id := 108) (As := []) 0 (c_money (T := T) (D := D) (ad := ad) G) (fun _ h => h) (by omega) (cell_108 ad C _) rfl wc_X6_money wm_RX6_157 wi_X6_money ws_X6_money wn_X6 (by decide) rfl ⟨Nat.le_of_ble_eq_true rfl, Nat.le_of_ble_eq_true rfl⟩ ⟨Nat.le_of_ble_eq_true rfl, Nat.le_of_ble_eq_true rfl⟩ (Nat.le_of_ble_eq_true rfl) dX6_tell_73 rfl (fun r9 G9 h9 => ?_)
  rw [h9.1, h9.2]
  clear h9
  exact rt_i rfl (Nat.le_refl _) (Nat.le_refl _) (⟨rfl, rfl⟩) dX6_tell_76
set_option maxHeartbeats 4000000 in
set_option maxRecDepth 100000 in
theorem c_tell3 {l : Launch} {D : va_G} {C : Nat → ClassId} {T : Nat → Nat} {ad : Int → Nat} (G : GG) (h13 : 0 ≤ G 12 13 ∧ G 12 13 ≤ 8) (h14 : 0 ≤ G 12 14 ∧ G 12 14 ≤ 200) : MC l yX6_tell cX6_tell 2 (some .int) 2 45 0 0 D (tyC C) T [.ref (ad 108), .int (iI 3)] (cw ad C G) (RI ad C (fun r G1 => r = numM G 3 ∧ G1 = G)) := by
  refine mc_of (by decide +kernel) (Nat.le_of_ble_eq_true rfl) rfl ?_
  refine aw_iload_n (q := 1) 1 dX6_tell_0 rfl rfl rfl ?_
  refine ae_tab 76 (t := 77) (by omega) dX6_tell_1 (by decide) (by decide) rfl (by decide) ?_
  refine aw_aload_n (q := 78) 0 dX6_tell_77 rfl rfl rfl ?_
  refine g_mod_p (q := 81) wf_RX6_7 dX6_tell_78 rfl ?_
  refine aw_bipush (q := 83) dX6_tell_81 rfl (by decide) ?_
  refine aw_cial (q := 84) (v := (G 12 9)) 9 (ar_109 ad C) (by omega) (by omega) rfl dX6_tell_83 rfl ?_
  exact rt_i rfl (Nat.le_refl _) (Nat.le_refl _) (⟨rfl, rfl⟩) dX6_tell_84
set_option maxHeartbeats 4000000 in
set_option maxRecDepth 100000 in
theorem c_tell4 {l : Launch} {D : va_G} {C : Nat → ClassId} {T : Nat → Nat} {ad : Int → Nat} (G : GG) (h13 : 0 ≤ G 12 13 ∧ G 12 13 ≤ 8) (h14 : 0 ≤ G 12 14 ∧ G 12 14 ≤ 200) : MC l yX6_tell cX6_tell 2 (some .int) 2 45 0 0 D (tyC C) T [.ref (ad 108), .int (iI 4)] (cw ad C G) (RI ad C (fun r G1 => r = numM G 4 ∧ G1 = G)) := by
  refine mc_of (by decide +kernel) (Nat.le_of_ble_eq_true rfl) rfl ?_
  refine aw_iload_n (q := 1) 1 dX6_tell_0 rfl rfl rfl ?_
  refine ae_tab 84 (t := 85) (by omega) dX6_tell_1 (by decide) (by decide) rfl (by decide) ?_
  refine aw_aload_n (q := 86) 0 dX6_tell_85 rfl rfl rfl ?_
  refine g_mod_p (q := 89) wf_RX6_7 dX6_tell_86 rfl ?_
  refine aw_bipush (q := 91) dX6_tell_89 rfl (by decide) ?_
  refine aw_cial (q := 92) (v := (G 12 14)) 14 (ar_109 ad C) (by omega) (by omega) rfl dX6_tell_91 rfl ?_
  exact rt_i rfl (Nat.le_refl _) (Nat.le_refl _) (⟨rfl, rfl⟩) dX6_tell_92
set_option maxHeartbeats 4000000 in
set_option maxRecDepth 100000 in
theorem c_tell5 {l : Launch} {D : va_G} {C : Nat → ClassId} {T : Nat → Nat} {ad : Int → Nat} (G : GG) (h13 : 0 ≤ G 12 13 ∧ G 12 13 ≤ 8) (h14 : 0 ≤ G 12 14 ∧ G 12 14 ≤ 200) : MC l yX6_tell cX6_tell 2 (some .int) 2 45 0 0 D (tyC C) T [.ref (ad 108), .int (iI 5)] (cw ad C G) (RI ad C (fun r G1 => r = numM G 5 ∧ G1 = G)) := by
  refine mc_of (by decide +kernel) (Nat.le_of_ble_eq_true rfl) rfl ?_
  refine aw_iload_n (q := 1) 1 dX6_tell_0 rfl rfl rfl ?_
  refine ae_tab 92 (t := 93) (by omega) dX6_tell_1 (by decide) (by decide) rfl (by decide) ?_
  refine aw_aload_n (q := 94) 0 dX6_tell_93 rfl rfl rfl ?_
  refine cv_I (q := 97) (CC := "") (id := 108) (As := []) 0 (c_owed (T := T) (D := D) (ad := ad) G h14) (fun _ h => h) (by omega) (cell_108 ad C _) rfl wc_X6_owed wm_RX6_117 wi_X6_owed ws_X6_owed wn_X6 (by decide) rfl ⟨Nat.le_of_ble_eq_true rfl, Nat.le_of_ble_eq_true rfl⟩ ⟨Nat.le_of_ble_eq_true rfl, Nat.le_of_ble_eq_true rfl⟩ (Nat.le_of_ble_eq_true rfl) dX6_tell_94 rfl (fun r9 G9 h9 => ?_)
  rw [h9.1, h9.2]
  clear h9
  exact rt_i rfl (Nat.le_refl _) (Nat.le_refl _) (⟨rfl, rfl⟩) dX6_tell_97
set_option maxHeartbeats 4000000 in
set_option maxRecDepth 100000 in
theorem c_tell6 {l : Launch} {D : va_G} {C : Nat → ClassId} {T : Nat → Nat} {ad : Int → Nat} (G : GG) (h13 : 0 ≤ G 12 13 ∧ G 12 13 ≤ 8) (h14 : 0 ≤ G 12 14 ∧ G 12 14 ≤ 200) : MC l yX6_tell cX6_tell 2 (some .int) 2 45 0 0 D (tyC C) T [.ref (ad 108), .int (iI 6)] (cw ad C G) (RI ad C (fun r G1 => r = numM G 6 ∧ G1 = G)) := by
  refine mc_of (by decide +kernel) (Nat.le_of_ble_eq_true rfl) rfl ?_
  refine aw_iload_n (q := 1) 1 dX6_tell_0 rfl rfl rfl ?_
  refine ae_tab 97 (t := 98) (by omega) dX6_tell_1 (by decide) (by decide) rfl (by decide) ?_
  refine aw_aload_n (q := 99) 0 dX6_tell_98 rfl rfl rfl ?_
  refine g_mod_p (q := 102) wf_RX6_7 dX6_tell_99 rfl ?_
  refine aw_bipush (q := 104) dX6_tell_102 rfl (by decide) ?_
  refine aw_cial (q := 105) (v := (G 12 11)) 11 (ar_109 ad C) (by omega) (by omega) rfl dX6_tell_104 rfl ?_
  exact rt_i rfl (Nat.le_refl _) (Nat.le_refl _) (⟨rfl, rfl⟩) dX6_tell_105
set_option maxHeartbeats 4000000 in
set_option maxRecDepth 100000 in
theorem c_tell7 {l : Launch} {D : va_G} {C : Nat → ClassId} {T : Nat → Nat} {ad : Int → Nat} (G : GG) (h13 : 0 ≤ G 12 13 ∧ G 12 13 ≤ 8) (h14 : 0 ≤ G 12 14 ∧ G 12 14 ≤ 200) : MC l yX6_tell cX6_tell 2 (some .int) 2 45 0 0 D (tyC C) T [.ref (ad 108), .int (iI 7)] (cw ad C G) (RI ad C (fun r G1 => r = numM G 7 ∧ G1 = G)) := by
  refine mc_of (by decide +kernel) (Nat.le_of_ble_eq_true rfl) rfl ?_
  refine aw_iload_n (q := 1) 1 dX6_tell_0 rfl rfl rfl ?_
  refine ae_tab 105 (t := 106) (by omega) dX6_tell_1 (by decide) (by decide) rfl (by decide) ?_
  refine aw_aload_n (q := 107) 0 dX6_tell_106 rfl rfl rfl ?_
  refine aw_bipush (q := 109) dX6_tell_107 rfl (by decide) ?_
  refine cv_I (q := 112) (CC := "") (id := 108) (As := [.int (iI 6)]) 1 (c_inCoils (T := T) (D := D) (ad := ad) G h13 (k := 6) (by omega)) (fun _ h => h) (by omega) (cell_108 ad C _) rfl wc_X6_inCoils wm_RX6_160 wi_X6_inCoils ws_X6_inCoils wn_X6 (by decide) rfl ⟨Nat.le_of_ble_eq_true rfl, Nat.le_of_ble_eq_true rfl⟩ ⟨Nat.le_of_ble_eq_true rfl, Nat.le_of_ble_eq_true rfl⟩ (Nat.le_of_ble_eq_true rfl) dX6_tell_109 rfl (fun r9 G9 h9 => ?_)
  rw [h9.1, h9.2]
  clear h9
  exact rt_i rfl (Nat.le_refl _) (Nat.le_refl _) (⟨rfl, rfl⟩) dX6_tell_112
set_option maxHeartbeats 4000000 in
set_option maxRecDepth 100000 in
theorem c_tell8 {l : Launch} {D : va_G} {C : Nat → ClassId} {T : Nat → Nat} {ad : Int → Nat} (G : GG) (h13 : 0 ≤ G 12 13 ∧ G 12 13 ≤ 8) (h14 : 0 ≤ G 12 14 ∧ G 12 14 ≤ 200) : MC l yX6_tell cX6_tell 2 (some .int) 2 45 0 0 D (tyC C) T [.ref (ad 108), .int (iI 8)] (cw ad C G) (RI ad C (fun r G1 => r = numM G 8 ∧ G1 = G)) := by
  refine mc_of (by decide +kernel) (Nat.le_of_ble_eq_true rfl) rfl ?_
  refine aw_iload_n (q := 1) 1 dX6_tell_0 rfl rfl rfl ?_
  refine ae_tab 112 (t := 113) (by omega) dX6_tell_1 (by decide) (by decide) rfl (by decide) ?_
  refine aw_aload_n (q := 114) 0 dX6_tell_113 rfl rfl rfl ?_
  refine aw_bipush (q := 116) dX6_tell_114 rfl (by decide) ?_
  refine cv_I (q := 119) (CC := "") (id := 108) (As := [.int (iI 7)]) 1 (c_inCoils (T := T) (D := D) (ad := ad) G h13 (k := 7) (by omega)) (fun _ h => h) (by omega) (cell_108 ad C _) rfl wc_X6_inCoils wm_RX6_160 wi_X6_inCoils ws_X6_inCoils wn_X6 (by decide) rfl ⟨Nat.le_of_ble_eq_true rfl, Nat.le_of_ble_eq_true rfl⟩ ⟨Nat.le_of_ble_eq_true rfl, Nat.le_of_ble_eq_true rfl⟩ (Nat.le_of_ble_eq_true rfl) dX6_tell_116 rfl (fun r9 G9 h9 => ?_)
  rw [h9.1, h9.2]
  clear h9
  exact rt_i rfl (Nat.le_refl _) (Nat.le_refl _) (⟨rfl, rfl⟩) dX6_tell_119
set_option maxHeartbeats 4000000 in
set_option maxRecDepth 100000 in
theorem c_tell9 {l : Launch} {D : va_G} {C : Nat → ClassId} {T : Nat → Nat} {ad : Int → Nat} (G : GG) (h13 : 0 ≤ G 12 13 ∧ G 12 13 ≤ 8) (h14 : 0 ≤ G 12 14 ∧ G 12 14 ≤ 200) : MC l yX6_tell cX6_tell 2 (some .int) 2 45 0 0 D (tyC C) T [.ref (ad 108), .int (iI 9)] (cw ad C G) (RI ad C (fun r G1 => r = numM G 9 ∧ G1 = G)) := by
  refine mc_of (by decide +kernel) (Nat.le_of_ble_eq_true rfl) rfl ?_
  refine aw_iload_n (q := 1) 1 dX6_tell_0 rfl rfl rfl ?_
  refine ae_tab 119 (t := 120) (by omega) dX6_tell_1 (by decide) (by decide) rfl (by decide) ?_
  refine aw_aload_n (q := 121) 0 dX6_tell_120 rfl rfl rfl ?_
  refine g_mod_p (q := 124) wf_RX6_7 dX6_tell_121 rfl ?_
  refine aw_bipush (q := 126) dX6_tell_124 rfl (by decide) ?_
  refine aw_cial (q := 127) (v := (G 12 12)) 12 (ar_109 ad C) (by omega) (by omega) rfl dX6_tell_126 rfl ?_
  exact rt_i rfl (Nat.le_refl _) (Nat.le_refl _) (⟨rfl, rfl⟩) dX6_tell_127
set_option maxHeartbeats 4000000 in
set_option maxRecDepth 100000 in
theorem c_tell10 {l : Launch} {D : va_G} {C : Nat → ClassId} {T : Nat → Nat} {ad : Int → Nat} (G : GG) (h13 : 0 ≤ G 12 13 ∧ G 12 13 ≤ 8) (h14 : 0 ≤ G 12 14 ∧ G 12 14 ≤ 200) : MC l yX6_tell cX6_tell 2 (some .int) 2 45 0 0 D (tyC C) T [.ref (ad 108), .int (iI 10)] (cw ad C G) (RI ad C (fun r G1 => r = numM G 10 ∧ G1 = G)) := by
  refine mc_of (by decide +kernel) (Nat.le_of_ble_eq_true rfl) rfl ?_
  refine aw_iload_n (q := 1) 1 dX6_tell_0 rfl rfl rfl ?_
  refine ae_tabD (t := 128) (by omega) dX6_tell_1 (by decide) (by decide) ?_
  refine aw_aload_n (q := 129) 0 dX6_tell_128 rfl rfl rfl ?_
  refine aw_iconst (q := 130) dX6_tell_129 rfl ?_
  refine cv_I (q := 133) (CC := "") (id := 108) (As := [.int (iI 1)]) 1 (c_inCoils (T := T) (D := D) (ad := ad) G h13 (k := 1) (by omega)) (fun _ h => h) (by omega) (cell_108 ad C _) rfl wc_X6_inCoils wm_RX6_160 wi_X6_inCoils ws_X6_inCoils wn_X6 (by decide) rfl ⟨Nat.le_of_ble_eq_true rfl, Nat.le_of_ble_eq_true rfl⟩ ⟨Nat.le_of_ble_eq_true rfl, Nat.le_of_ble_eq_true rfl⟩ (Nat.le_of_ble_eq_true rfl) dX6_tell_130 rfl (fun r9 G9 h9 => ?_)
  rw [h9.1, h9.2]
  clear h9
  exact rt_i rfl (Nat.le_refl _) (Nat.le_refl _) (⟨rfl, rfl⟩) dX6_tell_133
theorem c_tell {l : Launch} {D : va_G} {C : Nat → ClassId} {T : Nat → Nat} {ad : Int → Nat} (G : GG) (h13 : 0 ≤ G 12 13 ∧ G 12 13 ≤ 8) (h14 : 0 ≤ G 12 14 ∧ G 12 14 ≤ 200) {k : Int} (hk : 0 ≤ k ∧ k ≤ 10) : MC l yX6_tell cX6_tell 2 (some .int) 2 45 0 0 D (tyC C) T [.ref (ad 108), .int (iI k)] (cw ad C G) (RI ad C (fun r G1 => r = numM G k ∧ G1 = G)) := by
  have h : k = 0 ∨ k = 1 ∨ k = 2 ∨ k = 3 ∨ k = 4 ∨ k = 5 ∨ k = 6 ∨ k = 7 ∨ k = 8 ∨ k = 9 ∨ k = 10 := by omega
  rcases h with rfl | rfl | rfl | rfl | rfl | rfl | rfl | rfl | rfl | rfl | rfl
  · exact c_tell0 G h13 h14
  · exact c_tell1 G h13 h14
  · exact c_tell2 G h13 h14
  · exact c_tell3 G h13 h14
  · exact c_tell4 G h13 h14
  · exact c_tell5 G h13 h14
  · exact c_tell6 G h13 h14
  · exact c_tell7 G h13 h14
  · exact c_tell8 G h13 h14
  · exact c_tell9 G h13 h14
  · exact c_tell10 G h13 h14
theorem numM_row {G H : GG} (h : H 12 = G 12) (k : Int) : numM H k = numM G k := by
  unfold numM sumM prm
  rw [h]
theorem numM_7 {G : GG} {v : Int} (k : Int) : numM (setG G 11 7 v) k = numM G k := numM_row (funext fun y => setG_ne (by omega)) k
set_option maxHeartbeats 4000000 in
set_option maxRecDepth 100000 in
theorem c_coilM {l : Launch} {D : va_G} {C : Nat → ClassId} {T : Nat → Nat} {ad : Int → Nat} (G : GG) {c k : Int} (h13 : 0 ≤ G 12 13 ∧ G 12 13 ≤ 8) (hc : -2147483648 ≤ c ∧ c ≤ 2147483647) (hk : -2147483648 ≤ k ∧ k ≤ 2147483647) : MC l yX6_coil cX6_coil 3 (some .int) 2 43 0 0 D (tyC C) T [.ref (ad 108), .int (iI c), .int (iI k)] (cw ad C G) (RI ad C (fun r G1 => quiet G G1 ∧ ((¬ (0 ≤ c ∧ c < G 12 13) ∧ G1 11 7 = 1) ∨ (((0 ≤ c ∧ c < G 12 13) ∧ ¬ (0 ≤ k ∧ k ≤ 9)) ∧ G1 11 7 = 2) ∨ (((0 ≤ c ∧ c < G 12 13) ∧ (0 ≤ k ∧ k ≤ 9)) ∧ G1 11 7 = 0 ∧ r = G 12 (15 + 12 * c + k))))) := by
  refine mc_of (by decide +kernel) (Nat.le_of_ble_eq_true rfl) rfl ?_
  refine aw_aload_n (q := 1) 0 dX6_coil_0 rfl rfl rfl ?_
  refine aw_iconst (q := 2) dX6_coil_1 rfl ?_
  refine p_mod_thrown (q := 5) wf_RX6_38 dX6_coil_2 rfl ?_
  refine aw_aload_n (q := 6) 0 dX6_coil_5 rfl rfl rfl ?_
  refine aw_iload_n (q := 7) 1 dX6_coil_6 rfl rfl rfl ?_
  refine cv_I (q := 10) (CC := "") (id := 108) (As := [.int (iI c)]) 1 (c_isCoil (T := T) (D := D) (ad := ad) (setG G 11 7 0) (by rw [show (setG G 11 7 0) 12 13 = (G 12 13) from (setG_ne (by omega))]; omega) (by omega)) (fun _ h => h) (by omega) (cell_108 ad C _) rfl wc_X6_isCoil wm_RX6_96 wi_X6_isCoil ws_X6_isCoil wn_X6 (by decide) rfl ⟨Nat.le_of_ble_eq_true rfl, Nat.le_of_ble_eq_true rfl⟩ ⟨Nat.le_of_ble_eq_true rfl, Nat.le_of_ble_eq_true rfl⟩ (Nat.le_of_ble_eq_true rfl) dX6_coil_7 rfl (fun r9 G9 h9 => ?_)
  obtain ⟨e9, g9⟩ := h9
  rw [e9.trans (b2i_c (by rw [show (setG G 11 7 0) 12 13 = (G 12 13) from (setG_ne (by omega))])), g9]
  clear e9 g9
  refine aw_ifb_ne (q := 13) dX6_coil_10 rfl (t := 19) (by decide) (fun y1 => ?_) (fun y2 => ?_)
  · refine aw_iload_n (q := 20) 2 dX6_coil_19 rfl rfl rfl ?_
    refine aw_iconst (q := 21) dX6_coil_20 rfl ?_
    refine aw_bipush (q := 23) dX6_coil_21 rfl (by decide) ?_
    refine cs_I (q := 26) (As := [.int (iI k), .int (iI 0), .int (iI 9)]) 3 (c_in (T := T) (D := D) (ad := ad) (setG G 11 7 0) (by omega) (by omega) (by omega)) (fun _ h => h) wc_X6_in wm_RX6_62 wt_X6_in wn_X6 (by decide) rfl ⟨Nat.le_of_ble_eq_true rfl, Nat.le_of_ble_eq_true rfl⟩ ⟨Nat.le_of_ble_eq_true rfl, Nat.le_of_ble_eq_true rfl⟩ (Nat.le_of_ble_eq_true rfl) dX6_coil_23 rfl (fun r9 G9 h9 => ?_)
    rw [h9.1, h9.2]
    clear h9
    refine aw_ifb_eq (q := 29) dX6_coil_26 rfl (t := 38) (by decide) (fun y3 => ?_) (fun y4 => ?_)
    · refine aw_aload_n (q := 39) 0 dX6_coil_38 rfl rfl rfl ?_
      refine aw_iconst (q := 40) dX6_coil_39 rfl ?_
      refine cv_I (q := 43) (CC := "") (id := 108) (As := [.int (iI 2)]) 1 (c_fails (T := T) (D := D) (ad := ad) (setG G 11 7 0)) (fun _ h => h) (by omega) (cell_108 ad C _) rfl wc_X6_fails wm_RX6_154 wi_X6_fails ws_X6_fails wn_X6 (by decide) rfl ⟨Nat.le_of_ble_eq_true rfl, Nat.le_of_ble_eq_true rfl⟩ ⟨Nat.le_of_ble_eq_true rfl, Nat.le_of_ble_eq_true rfl⟩ (Nat.le_of_ble_eq_true rfl) dX6_coil_40 rfl (fun r9 G9 h9 => ?_)
      rw [h9.1, h9.2]
      clear h9
      exact rt_i rfl (Nat.le_refl _) (Nat.le_refl _) (⟨⟨fun y _ _ => ((setG_ne (by omega)).trans (setG_ne (by omega))), fun x y z => ((setG_ne (by omega)).trans (setG_ne (by omega)))⟩, by first | (exact Or.inl ⟨by omega, (setG_same _ _ _ _)⟩) | (exact Or.inr (Or.inl ⟨by omega, (setG_same _ _ _ _)⟩)) | (exact Or.inr (Or.inr (⟨by omega, (setG_same _ _ _ _), rfl⟩))) | (exfalso; omega)⟩) dX6_coil_43
    · refine aw_aload_n (q := 30) 0 dX6_coil_29 rfl rfl rfl ?_
      refine aw_iload_n (q := 31) 1 dX6_coil_30 rfl rfl rfl ?_
      refine aw_iload_n (q := 32) 2 dX6_coil_31 rfl rfl rfl ?_
      refine cv_I (q := 35) (CC := "") (id := 108) (As := [.int (iI c), .int (iI k)]) 2 (c_of (T := T) (D := D) (ad := ad) (setG G 11 7 0) (by omega) (by omega)) (fun _ h => h) (by omega) (cell_108 ad C _) rfl wc_X6_of wm_RX6_100 wi_X6_of ws_X6_of wn_X6 (by decide) rfl ⟨Nat.le_of_ble_eq_true rfl, Nat.le_of_ble_eq_true rfl⟩ ⟨Nat.le_of_ble_eq_true rfl, Nat.le_of_ble_eq_true rfl⟩ (Nat.le_of_ble_eq_true rfl) dX6_coil_32 rfl (fun r9 G9 h9 => ?_)
      obtain ⟨e9, g9⟩ := h9
      rw [e9.trans ((setG_ne (by omega))), g9]
      clear e9 g9
      refine aw_goto (q := 43) dX6_coil_35 (by decide) ?_
      exact rt_i rfl (Nat.le_refl _) (Nat.le_refl _) (⟨quiet_7, by first | (exact Or.inl ⟨by omega, (setG_same _ _ _ _)⟩) | (exact Or.inr (Or.inl ⟨by omega, (setG_same _ _ _ _)⟩)) | (exact Or.inr (Or.inr (⟨by omega, (setG_same _ _ _ _), rfl⟩))) | (exfalso; omega)⟩) dX6_coil_43
  · refine aw_aload_n (q := 14) 0 dX6_coil_13 rfl rfl rfl ?_
    refine aw_iconst (q := 15) dX6_coil_14 rfl ?_
    refine cv_I (q := 18) (CC := "") (id := 108) (As := [.int (iI 1)]) 1 (c_fails (T := T) (D := D) (ad := ad) (setG G 11 7 0)) (fun _ h => h) (by omega) (cell_108 ad C _) rfl wc_X6_fails wm_RX6_154 wi_X6_fails ws_X6_fails wn_X6 (by decide) rfl ⟨Nat.le_of_ble_eq_true rfl, Nat.le_of_ble_eq_true rfl⟩ ⟨Nat.le_of_ble_eq_true rfl, Nat.le_of_ble_eq_true rfl⟩ (Nat.le_of_ble_eq_true rfl) dX6_coil_15 rfl (fun r9 G9 h9 => ?_)
    rw [h9.1, h9.2]
    clear h9
    exact rt_i rfl (Nat.le_refl _) (Nat.le_refl _) (⟨⟨fun y _ _ => ((setG_ne (by omega)).trans (setG_ne (by omega))), fun x y z => ((setG_ne (by omega)).trans (setG_ne (by omega)))⟩, by first | (exact Or.inl ⟨by omega, (setG_same _ _ _ _)⟩) | (exact Or.inr (Or.inl ⟨by omega, (setG_same _ _ _ _)⟩)) | (exact Or.inr (Or.inr (⟨by omega, (setG_same _ _ _ _), rfl⟩))) | (exfalso; omega)⟩) dX6_coil_18
set_option maxHeartbeats 4000000 in
set_option maxRecDepth 100000 in
theorem c_tubeM {l : Launch} {D : va_G} {C : Nat → ClassId} {T : Nat → Nat} {ad : Int → Nat} (G : GG) {t : Int} (ht : -2147483648 ≤ t ∧ t ≤ 2147483647) : MC l yX6_tube cX6_tube 2 (some .int) 1 22 0 0 D (tyC C) T [.ref (ad 108), .int (iI t)] (cw ad C G) (RI ad C (fun r G1 => quiet G G1 ∧ ((¬ (0 ≤ t ∧ t ≤ 3) ∧ G1 11 7 = 1) ∨ ((0 ≤ t ∧ t ≤ 3) ∧ G1 11 7 = 0 ∧ r = G 12 (5 + t))))) := by
  refine mc_of (by decide +kernel) (Nat.le_of_ble_eq_true rfl) rfl ?_
  refine aw_aload_n (q := 1) 0 dX6_tube_0 rfl rfl rfl ?_
  refine aw_iconst (q := 2) dX6_tube_1 rfl ?_
  refine p_mod_thrown (q := 5) wf_RX6_38 dX6_tube_2 rfl ?_
  refine aw_iload_n (q := 6) 1 dX6_tube_5 rfl rfl rfl ?_
  refine aw_iconst (q := 7) dX6_tube_6 rfl ?_
  refine aw_iconst (q := 8) dX6_tube_7 rfl ?_
  refine cs_I (q := 11) (As := [.int (iI t), .int (iI 0), .int (iI 3)]) 3 (c_in (T := T) (D := D) (ad := ad) (setG G 11 7 0) (by omega) (by omega) (by omega)) (fun _ h => h) wc_X6_in wm_RX6_62 wt_X6_in wn_X6 (by decide) rfl ⟨Nat.le_of_ble_eq_true rfl, Nat.le_of_ble_eq_true rfl⟩ ⟨Nat.le_of_ble_eq_true rfl, Nat.le_of_ble_eq_true rfl⟩ (Nat.le_of_ble_eq_true rfl) dX6_tube_8 rfl (fun r9 G9 h9 => ?_)
  rw [h9.1, h9.2]
  clear h9
  refine aw_ifb_eq (q := 14) dX6_tube_11 rfl (t := 25) (by decide) (fun y1 => ?_) (fun y2 => ?_)
  · refine aw_aload_n (q := 26) 0 dX6_tube_25 rfl rfl rfl ?_
    refine aw_iconst (q := 27) dX6_tube_26 rfl ?_
    refine cv_I (q := 30) (CC := "") (id := 108) (As := [.int (iI 1)]) 1 (c_fails (T := T) (D := D) (ad := ad) (setG G 11 7 0)) (fun _ h => h) (by omega) (cell_108 ad C _) rfl wc_X6_fails wm_RX6_154 wi_X6_fails ws_X6_fails wn_X6 (by decide) rfl ⟨Nat.le_of_ble_eq_true rfl, Nat.le_of_ble_eq_true rfl⟩ ⟨Nat.le_of_ble_eq_true rfl, Nat.le_of_ble_eq_true rfl⟩ (Nat.le_of_ble_eq_true rfl) dX6_tube_27 rfl (fun r9 G9 h9 => ?_)
    rw [h9.1, h9.2]
    clear h9
    exact rt_i rfl (Nat.le_refl _) (Nat.le_refl _) (⟨⟨fun y _ _ => ((setG_ne (by omega)).trans (setG_ne (by omega))), fun x y z => ((setG_ne (by omega)).trans (setG_ne (by omega)))⟩, by first | (exact Or.inl ⟨by omega, (setG_same _ _ _ _)⟩) | (exact Or.inr (⟨by omega, (setG_same _ _ _ _), rfl⟩)) | (exfalso; omega)⟩) dX6_tube_30
  · refine aw_aload_n (q := 15) 0 dX6_tube_14 rfl rfl rfl ?_
    refine g_mod_p (q := 18) wf_RX6_7 dX6_tube_15 rfl ?_
    refine aw_iconst (q := 19) dX6_tube_18 rfl ?_
    refine aw_iload_n (q := 20) 1 dX6_tube_19 rfl rfl rfl ?_
    refine ae_iadd (q := 21) (5 + t) (by omega) dX6_tube_20 rfl ?_
    refine aw_cial (q := 22) (v := (G 12 (5 + t))) (5 + t) (ar_109 ad C) (by omega) (by omega) (setG_ne (by omega)) dX6_tube_21 rfl ?_
    refine aw_goto (q := 30) dX6_tube_22 (by decide) ?_
    exact rt_i rfl (Nat.le_refl _) (Nat.le_refl _) (⟨quiet_7, by first | (exact Or.inl ⟨by omega, (setG_same _ _ _ _)⟩) | (exact Or.inr (⟨by omega, (setG_same _ _ _ _), rfl⟩)) | (exfalso; omega)⟩) dX6_tube_30
set_option maxHeartbeats 4000000 in
set_option maxRecDepth 100000 in
theorem c_valueM {l : Launch} {D : va_G} {C : Nat → ClassId} {T : Nat → Nat} {ad : Int → Nat} (G : GG) {k : Int} (h13 : 0 ≤ G 12 13 ∧ G 12 13 ≤ 8) (h14 : 0 ≤ G 12 14 ∧ G 12 14 ≤ 200) (hk : -2147483648 ≤ k ∧ k ≤ 2147483647) : MC l yX6_value cX6_value 2 (some .int) 3 66 0 0 D (tyC C) T [.ref (ad 108), .int (iI k)] (cw ad C G) (RI ad C (fun r G1 => quiet G G1 ∧ ((¬ (0 ≤ k ∧ k ≤ 10) ∧ G1 11 7 = 1) ∨ ((0 ≤ k ∧ k ≤ 10) ∧ G1 11 7 = 0 ∧ r = numM G k)))) := by
  refine mc_of (by decide +kernel) (Nat.le_of_ble_eq_true rfl) rfl ?_
  refine aw_aload_n (q := 1) 0 dX6_value_0 rfl rfl rfl ?_
  refine aw_iconst (q := 2) dX6_value_1 rfl ?_
  refine p_mod_thrown (q := 5) wf_RX6_38 dX6_value_2 rfl ?_
  refine aw_iload_n (q := 6) 1 dX6_value_5 rfl rfl rfl ?_
  refine aw_iconst (q := 7) dX6_value_6 rfl ?_
  refine aw_bipush (q := 9) dX6_value_7 rfl (by decide) ?_
  refine cs_I (q := 12) (As := [.int (iI k), .int (iI 0), .int (iI 10)]) 3 (c_in (T := T) (D := D) (ad := ad) (setG G 11 7 0) (by omega) (by omega) (by omega)) (fun _ h => h) wc_X6_in wm_RX6_62 wt_X6_in wn_X6 (by decide) rfl ⟨Nat.le_of_ble_eq_true rfl, Nat.le_of_ble_eq_true rfl⟩ ⟨Nat.le_of_ble_eq_true rfl, Nat.le_of_ble_eq_true rfl⟩ (Nat.le_of_ble_eq_true rfl) dX6_value_9 rfl (fun r9 G9 h9 => ?_)
  rw [h9.1, h9.2]
  clear h9
  refine aw_ifb_eq (q := 15) dX6_value_12 rfl (t := 23) (by decide) (fun y1 => ?_) (fun y2 => ?_)
  · refine aw_aload_n (q := 24) 0 dX6_value_23 rfl rfl rfl ?_
    refine aw_iconst (q := 25) dX6_value_24 rfl ?_
    refine cv_I (q := 28) (CC := "") (id := 108) (As := [.int (iI 1)]) 1 (c_fails (T := T) (D := D) (ad := ad) (setG G 11 7 0)) (fun _ h => h) (by omega) (cell_108 ad C _) rfl wc_X6_fails wm_RX6_154 wi_X6_fails ws_X6_fails wn_X6 (by decide) rfl ⟨Nat.le_of_ble_eq_true rfl, Nat.le_of_ble_eq_true rfl⟩ ⟨Nat.le_of_ble_eq_true rfl, Nat.le_of_ble_eq_true rfl⟩ (Nat.le_of_ble_eq_true rfl) dX6_value_25 rfl (fun r9 G9 h9 => ?_)
    rw [h9.1, h9.2]
    clear h9
    exact rt_i rfl (Nat.le_refl _) (Nat.le_refl _) (⟨⟨fun y _ _ => ((setG_ne (by omega)).trans (setG_ne (by omega))), fun x y z => ((setG_ne (by omega)).trans (setG_ne (by omega)))⟩, by first | (exact Or.inl ⟨by omega, (setG_same _ _ _ _)⟩) | (exact Or.inr (⟨by omega, (setG_same _ _ _ _), rfl⟩)) | (exfalso; omega)⟩) dX6_value_28
  · refine aw_aload_n (q := 16) 0 dX6_value_15 rfl rfl rfl ?_
    refine aw_iload_n (q := 17) 1 dX6_value_16 rfl rfl rfl ?_
    refine cv_I (q := 20) (CC := "") (id := 108) (As := [.int (iI k)]) 1 (c_tell (T := T) (D := D) (ad := ad) (setG G 11 7 0) (k := k) (by rw [setG_ne (by omega)]; exact h13) (by rw [setG_ne (by omega)]; exact h14) (by omega)) (fun _ h => h) (by omega) (cell_108 ad C _) rfl wc_X6_tell wm_RX6_163 wi_X6_tell ws_X6_tell wn_X6 (by decide) rfl ⟨Nat.le_of_ble_eq_true rfl, Nat.le_of_ble_eq_true rfl⟩ ⟨Nat.le_of_ble_eq_true rfl, Nat.le_of_ble_eq_true rfl⟩ (Nat.le_of_ble_eq_true rfl) dX6_value_17 rfl (fun r9 G9 h9 => ?_)
    obtain ⟨e9, g9⟩ := h9
    rw [e9.trans (numM_7 k), g9]
    clear e9 g9
    refine aw_goto (q := 28) dX6_value_20 (by decide) ?_
    exact rt_i rfl (Nat.le_refl _) (Nat.le_refl _) (⟨quiet_7, by first | (exact Or.inl ⟨by omega, (setG_same _ _ _ _)⟩) | (exact Or.inr (⟨by omega, (setG_same _ _ _ _), rfl⟩)) | (exfalso; omega)⟩) dX6_value_28
set_option maxHeartbeats 4000000 in
set_option maxRecDepth 100000 in
theorem c_settingM {l : Launch} {D : va_G} {C : Nat → ClassId} {T : Nat → Nat} {ad : Int → Nat} (G : GG) {w : Int} (hw : -2147483648 ≤ w ∧ w ≤ 2147483647) : MC l yX6_setting cX6_setting 2 (some .int) 1 22 0 0 D (tyC C) T [.ref (ad 108), .int (iI w)] (cw ad C G) (RI ad C (fun r G1 => quiet G G1 ∧ ((¬ (0 ≤ w ∧ w ≤ 4) ∧ G1 11 7 = 1) ∨ ((0 ≤ w ∧ w ≤ 4) ∧ G1 11 7 = 0 ∧ r = G 12 w)))) := by
  refine mc_of (by decide +kernel) (Nat.le_of_ble_eq_true rfl) rfl ?_
  refine aw_aload_n (q := 1) 0 dX6_setting_0 rfl rfl rfl ?_
  refine aw_iconst (q := 2) dX6_setting_1 rfl ?_
  refine p_mod_thrown (q := 5) wf_RX6_38 dX6_setting_2 rfl ?_
  refine aw_iload_n (q := 6) 1 dX6_setting_5 rfl rfl rfl ?_
  refine aw_iconst (q := 7) dX6_setting_6 rfl ?_
  refine aw_iconst (q := 8) dX6_setting_7 rfl ?_
  refine cs_I (q := 11) (As := [.int (iI w), .int (iI 0), .int (iI 4)]) 3 (c_in (T := T) (D := D) (ad := ad) (setG G 11 7 0) (by omega) (by omega) (by omega)) (fun _ h => h) wc_X6_in wm_RX6_62 wt_X6_in wn_X6 (by decide) rfl ⟨Nat.le_of_ble_eq_true rfl, Nat.le_of_ble_eq_true rfl⟩ ⟨Nat.le_of_ble_eq_true rfl, Nat.le_of_ble_eq_true rfl⟩ (Nat.le_of_ble_eq_true rfl) dX6_setting_8 rfl (fun r9 G9 h9 => ?_)
  rw [h9.1, h9.2]
  clear h9
  refine aw_ifb_eq (q := 14) dX6_setting_11 rfl (t := 25) (by decide) (fun y1 => ?_) (fun y2 => ?_)
  · refine aw_aload_n (q := 26) 0 dX6_setting_25 rfl rfl rfl ?_
    refine aw_iconst (q := 27) dX6_setting_26 rfl ?_
    refine cv_I (q := 30) (CC := "") (id := 108) (As := [.int (iI 1)]) 1 (c_fails (T := T) (D := D) (ad := ad) (setG G 11 7 0)) (fun _ h => h) (by omega) (cell_108 ad C _) rfl wc_X6_fails wm_RX6_154 wi_X6_fails ws_X6_fails wn_X6 (by decide) rfl ⟨Nat.le_of_ble_eq_true rfl, Nat.le_of_ble_eq_true rfl⟩ ⟨Nat.le_of_ble_eq_true rfl, Nat.le_of_ble_eq_true rfl⟩ (Nat.le_of_ble_eq_true rfl) dX6_setting_27 rfl (fun r9 G9 h9 => ?_)
    rw [h9.1, h9.2]
    clear h9
    exact rt_i rfl (Nat.le_refl _) (Nat.le_refl _) (⟨⟨fun y _ _ => ((setG_ne (by omega)).trans (setG_ne (by omega))), fun x y z => ((setG_ne (by omega)).trans (setG_ne (by omega)))⟩, by first | (exact Or.inl ⟨by omega, (setG_same _ _ _ _)⟩) | (exact Or.inr (⟨by omega, (setG_same _ _ _ _), rfl⟩)) | (exfalso; omega)⟩) dX6_setting_30
  · refine aw_aload_n (q := 15) 0 dX6_setting_14 rfl rfl rfl ?_
    refine g_mod_p (q := 18) wf_RX6_7 dX6_setting_15 rfl ?_
    refine aw_iconst (q := 19) dX6_setting_18 rfl ?_
    refine aw_iload_n (q := 20) 1 dX6_setting_19 rfl rfl rfl ?_
    refine ae_iadd (q := 21) w (by omega) dX6_setting_20 rfl ?_
    refine aw_cial (q := 22) (v := (G 12 w)) w (ar_109 ad C) (by omega) (by omega) (setG_ne (by omega)) dX6_setting_21 rfl ?_
    refine aw_goto (q := 30) dX6_setting_22 (by decide) ?_
    exact rt_i rfl (Nat.le_refl _) (Nat.le_refl _) (⟨quiet_7, by first | (exact Or.inl ⟨by omega, (setG_same _ _ _ _)⟩) | (exact Or.inr (⟨by omega, (setG_same _ _ _ _), rfl⟩)) | (exfalso; omega)⟩) dX6_setting_30
set_option maxHeartbeats 4000000 in
set_option maxRecDepth 100000 in
theorem c_promiseM {l : Launch} {D : va_G} {C : Nat → ClassId} {T : Nat → Nat} {ad : Int → Nat} (G : GG) {p : Int} (h14 : 0 ≤ G 12 14 ∧ G 12 14 ≤ 200) (hp : -2147483648 ≤ p ∧ p ≤ 2147483647) : MC l yX6_promise cX6_promise 2 (some .int) 1 22 0 0 D (tyC C) T [.ref (ad 108), .int (iI p)] (cw ad C G) (RI ad C (fun r G1 => quiet G G1 ∧ ((¬ (0 ≤ p ∧ p ≤ G 12 14 - 1) ∧ G1 11 7 = 1) ∨ ((0 ≤ p ∧ p ≤ G 12 14 - 1) ∧ G1 11 7 = 0 ∧ r = G 12 (111 + p))))) := by
  refine mc_of (by decide +kernel) (Nat.le_of_ble_eq_true rfl) rfl ?_
  refine aw_aload_n (q := 1) 0 dX6_promise_0 rfl rfl rfl ?_
  refine aw_iconst (q := 2) dX6_promise_1 rfl ?_
  refine p_mod_thrown (q := 5) wf_RX6_38 dX6_promise_2 rfl ?_
  refine aw_iload_n (q := 6) 1 dX6_promise_5 rfl rfl rfl ?_
  refine aw_iconst (q := 7) dX6_promise_6 rfl ?_
  refine aw_aload_n (q := 8) 0 dX6_promise_7 rfl rfl rfl ?_
  refine g_mod_p (q := 11) wf_RX6_7 dX6_promise_8 rfl ?_
  refine aw_bipush (q := 13) dX6_promise_11 rfl (by decide) ?_
  refine aw_cial (q := 14) (v := (G 12 14)) 14 (ar_109 ad C) (by omega) (by omega) (setG_ne (by omega)) dX6_promise_13 rfl ?_
  refine aw_iconst (q := 15) dX6_promise_14 rfl ?_
  refine ae_isub (q := 16) ((G 12 14) - 1) (by omega) dX6_promise_15 rfl ?_
  refine cs_I (q := 19) (As := [.int (iI p), .int (iI 0), .int (iI ((G 12 14) - 1))]) 3 (c_in (T := T) (D := D) (ad := ad) (setG G 11 7 0) (by omega) (by omega) (by omega)) (fun _ h => h) wc_X6_in wm_RX6_62 wt_X6_in wn_X6 (by decide) rfl ⟨Nat.le_of_ble_eq_true rfl, Nat.le_of_ble_eq_true rfl⟩ ⟨Nat.le_of_ble_eq_true rfl, Nat.le_of_ble_eq_true rfl⟩ (Nat.le_of_ble_eq_true rfl) dX6_promise_16 rfl (fun r9 G9 h9 => ?_)
  rw [h9.1, h9.2]
  clear h9
  refine aw_ifb_eq (q := 22) dX6_promise_19 rfl (t := 34) (by decide) (fun y1 => ?_) (fun y2 => ?_)
  · refine aw_aload_n (q := 35) 0 dX6_promise_34 rfl rfl rfl ?_
    refine aw_iconst (q := 36) dX6_promise_35 rfl ?_
    refine cv_I (q := 39) (CC := "") (id := 108) (As := [.int (iI 1)]) 1 (c_fails (T := T) (D := D) (ad := ad) (setG G 11 7 0)) (fun _ h => h) (by omega) (cell_108 ad C _) rfl wc_X6_fails wm_RX6_154 wi_X6_fails ws_X6_fails wn_X6 (by decide) rfl ⟨Nat.le_of_ble_eq_true rfl, Nat.le_of_ble_eq_true rfl⟩ ⟨Nat.le_of_ble_eq_true rfl, Nat.le_of_ble_eq_true rfl⟩ (Nat.le_of_ble_eq_true rfl) dX6_promise_36 rfl (fun r9 G9 h9 => ?_)
    rw [h9.1, h9.2]
    clear h9
    exact rt_i rfl (Nat.le_refl _) (Nat.le_refl _) (⟨⟨fun y _ _ => ((setG_ne (by omega)).trans (setG_ne (by omega))), fun x y z => ((setG_ne (by omega)).trans (setG_ne (by omega)))⟩, by first | (exact Or.inl ⟨by omega, (setG_same _ _ _ _)⟩) | (exact Or.inr (⟨by omega, (setG_same _ _ _ _), rfl⟩)) | (exfalso; omega)⟩) dX6_promise_39
  · refine aw_aload_n (q := 23) 0 dX6_promise_22 rfl rfl rfl ?_
    refine g_mod_p (q := 26) wf_RX6_7 dX6_promise_23 rfl ?_
    refine aw_bipush (q := 28) dX6_promise_26 rfl (by decide) ?_
    refine aw_iload_n (q := 29) 1 dX6_promise_28 rfl rfl rfl ?_
    refine ae_iadd (q := 30) (111 + p) (by omega) dX6_promise_29 rfl ?_
    refine aw_cial (q := 31) (v := (G 12 (111 + p))) (111 + p) (ar_109 ad C) (by omega) (by omega) (setG_ne (by omega)) dX6_promise_30 rfl ?_
    refine aw_goto (q := 39) dX6_promise_31 (by decide) ?_
    exact rt_i rfl (Nat.le_refl _) (Nat.le_refl _) (⟨quiet_7, by first | (exact Or.inl ⟨by omega, (setG_same _ _ _ _)⟩) | (exact Or.inr (⟨by omega, (setG_same _ _ _ _), rfl⟩)) | (exfalso; omega)⟩) dX6_promise_39
set_option maxHeartbeats 4000000 in
set_option maxRecDepth 100000 in
theorem c_demandM {l : Launch} {D : va_G} {C : Nat → ClassId} {T : Nat → Nat} {ad : Int → Nat} (G : GG) {c : Int} (oH : okH (G 12)) (hc : -2147483648 ≤ c ∧ c ≤ 2147483647) : MC l yX6_demand cX6_demand 2 (some .float) 2 56 0 0 D (tyC C) T [.ref (ad 108), .int (iI c)] (cw ad C G) (RF ad C (fun r G1 => quiet G G1 ∧ ((¬ (0 ≤ c ∧ c < G 12 13) ∧ G1 11 7 = 1) ∨ ((0 ≤ c ∧ c < G 12 13) ∧ G1 11 7 = 0 ∧ r = fB (G 12 (15 + 12 * c + 10)))))) := by
  refine mc_of (by decide +kernel) (Nat.le_of_ble_eq_true rfl) rfl ?_
  have o13 := oH.2.1
  refine aw_aload_n (q := 1) 0 dX6_demand_0 rfl rfl rfl ?_
  refine aw_aload_n (q := 2) 0 dX6_demand_1 rfl rfl rfl ?_
  refine aw_iload_n (q := 3) 1 dX6_demand_2 rfl rfl rfl ?_
  refine cv_I (q := 6) (CC := "") (id := 108) (As := [.int (iI c)]) 1 (c_isCoil (T := T) (D := D) (ad := ad) G (by rw [show G 12 13 = (G 12 13) from rfl]; omega) (by omega)) (fun _ h => h) (by omega) (cell_108 ad C _) rfl wc_X6_isCoil wm_RX6_96 wi_X6_isCoil ws_X6_isCoil wn_X6 (by decide) rfl ⟨Nat.le_of_ble_eq_true rfl, Nat.le_of_ble_eq_true rfl⟩ ⟨Nat.le_of_ble_eq_true rfl, Nat.le_of_ble_eq_true rfl⟩ (Nat.le_of_ble_eq_true rfl) dX6_demand_3 rfl (fun r9 G9 h9 => ?_)
  obtain ⟨e9, g9⟩ := h9
  rw [e9.trans (b2i_c (by rw [show G 12 13 = (G 12 13) from rfl])), g9]
  clear e9 g9
  refine aw_ifb_eq (q := 9) dX6_demand_6 rfl (t := 13) (by decide) (fun y1 => ?_) (fun y2 => ?_)
  · refine aw_iconst (q := 14) dX6_demand_13 rfl ?_
    refine p_mod_thrown (q := 17) wf_RX6_38 dX6_demand_14 rfl ?_
    refine aw_aload_n (q := 18) 0 dX6_demand_17 rfl rfl rfl ?_
    refine aw_iload_n (q := 19) 1 dX6_demand_18 rfl rfl rfl ?_
    refine cv_I (q := 22) (CC := "") (id := 108) (As := [.int (iI c)]) 1 (c_isCoil (T := T) (D := D) (ad := ad) (setG G 11 7 1) (by rw [show (setG G 11 7 1) 12 13 = (G 12 13) from (setG_ne (by omega))]; omega) (by omega)) (fun _ h => h) (by omega) (cell_108 ad C _) rfl wc_X6_isCoil wm_RX6_96 wi_X6_isCoil ws_X6_isCoil wn_X6 (by decide) rfl ⟨Nat.le_of_ble_eq_true rfl, Nat.le_of_ble_eq_true rfl⟩ ⟨Nat.le_of_ble_eq_true rfl, Nat.le_of_ble_eq_true rfl⟩ (Nat.le_of_ble_eq_true rfl) dX6_demand_19 rfl (fun r9 G9 h9 => ?_)
    obtain ⟨e9, g9⟩ := h9
    rw [e9.trans (b2i_c (by rw [show (setG G 11 7 1) 12 13 = (G 12 13) from (setG_ne (by omega))])), g9]
    clear e9 g9
    refine aw_ifb_eq (q := 25) dX6_demand_22 rfl (t := 38) (by decide) (fun y3 => ?_) (fun y4 => ?_)
    · refine aw_fconst0 (q := 39) dX6_demand_38 rfl ?_
      exact rt_f rfl (Nat.le_refl _) (Nat.le_refl _) (⟨quiet_7, by first | (exact Or.inl ⟨by omega, (setG_same _ _ _ _)⟩) | (exact Or.inr ⟨by omega, (setG_same _ _ _ _), rfl⟩) | (exfalso; omega)⟩) dX6_demand_39
    · refine aw_aload_n (q := 26) 0 dX6_demand_25 rfl rfl rfl ?_
      refine aw_iload_n (q := 27) 1 dX6_demand_26 rfl rfl rfl ?_
      refine aw_bipush (q := 29) dX6_demand_27 rfl (by decide) ?_
      refine cv_I (q := 32) (CC := "") (id := 108) (As := [.int (iI c), .int (iI 10)]) 2 (c_of (T := T) (D := D) (ad := ad) (setG G 11 7 1) (by omega) (by omega)) (fun _ h => h) (by omega) (cell_108 ad C _) rfl wc_X6_of wm_RX6_100 wi_X6_of ws_X6_of wn_X6 (by decide) rfl ⟨Nat.le_of_ble_eq_true rfl, Nat.le_of_ble_eq_true rfl⟩ ⟨Nat.le_of_ble_eq_true rfl, Nat.le_of_ble_eq_true rfl⟩ (Nat.le_of_ble_eq_true rfl) dX6_demand_29 rfl (fun r9 G9 h9 => ?_)
      obtain ⟨e9, g9⟩ := h9
      rw [e9.trans ((setG_ne (by omega))), g9]
      clear e9 g9
      refine cs_F (q := 35) (As := [.int (iI ((G 12 (15 + 12 * c + 10))))]) 1 (c_real (T := T) (D := D) (ad := ad) (setG G 11 7 1) (x := (G 12 (15 + 12 * c + 10))) ((oH.2.2 c (by omega) (by omega)).2.2.2.2.2.2.2.1)) (fun _ h => h) wc_X6_real wm_RX6_121 wt_X6_real wn_X6 (by decide) rfl ⟨Nat.le_of_ble_eq_true rfl, Nat.le_of_ble_eq_true rfl⟩ ⟨Nat.le_of_ble_eq_true rfl, Nat.le_of_ble_eq_true rfl⟩ (Nat.le_of_ble_eq_true rfl) dX6_demand_32 rfl (fun r9 G9 h9 => ?_)
      rw [h9.1, h9.2]
      clear h9
      refine aw_goto (q := 39) dX6_demand_35 (by decide) ?_
      exact rt_f rfl (Nat.le_refl _) (Nat.le_refl _) (⟨quiet_7, by first | (exact Or.inl ⟨by omega, (setG_same _ _ _ _)⟩) | (exact Or.inr ⟨by omega, (setG_same _ _ _ _), rfl⟩) | (exfalso; omega)⟩) dX6_demand_39
  · refine aw_iconst (q := 10) dX6_demand_9 rfl ?_
    refine aw_goto (q := 14) dX6_demand_10 (by decide) ?_
    refine p_mod_thrown (q := 17) wf_RX6_38 dX6_demand_14 rfl ?_
    refine aw_aload_n (q := 18) 0 dX6_demand_17 rfl rfl rfl ?_
    refine aw_iload_n (q := 19) 1 dX6_demand_18 rfl rfl rfl ?_
    refine cv_I (q := 22) (CC := "") (id := 108) (As := [.int (iI c)]) 1 (c_isCoil (T := T) (D := D) (ad := ad) (setG G 11 7 0) (by rw [show (setG G 11 7 0) 12 13 = (G 12 13) from (setG_ne (by omega))]; omega) (by omega)) (fun _ h => h) (by omega) (cell_108 ad C _) rfl wc_X6_isCoil wm_RX6_96 wi_X6_isCoil ws_X6_isCoil wn_X6 (by decide) rfl ⟨Nat.le_of_ble_eq_true rfl, Nat.le_of_ble_eq_true rfl⟩ ⟨Nat.le_of_ble_eq_true rfl, Nat.le_of_ble_eq_true rfl⟩ (Nat.le_of_ble_eq_true rfl) dX6_demand_19 rfl (fun r9 G9 h9 => ?_)
    obtain ⟨e9, g9⟩ := h9
    rw [e9.trans (b2i_c (by rw [show (setG G 11 7 0) 12 13 = (G 12 13) from (setG_ne (by omega))])), g9]
    clear e9 g9
    refine aw_ifb_eq (q := 25) dX6_demand_22 rfl (t := 38) (by decide) (fun y5 => ?_) (fun y6 => ?_)
    · refine aw_fconst0 (q := 39) dX6_demand_38 rfl ?_
      exact rt_f rfl (Nat.le_refl _) (Nat.le_refl _) (⟨quiet_7, by first | (exact Or.inl ⟨by omega, (setG_same _ _ _ _)⟩) | (exact Or.inr ⟨by omega, (setG_same _ _ _ _), rfl⟩) | (exfalso; omega)⟩) dX6_demand_39
    · refine aw_aload_n (q := 26) 0 dX6_demand_25 rfl rfl rfl ?_
      refine aw_iload_n (q := 27) 1 dX6_demand_26 rfl rfl rfl ?_
      refine aw_bipush (q := 29) dX6_demand_27 rfl (by decide) ?_
      refine cv_I (q := 32) (CC := "") (id := 108) (As := [.int (iI c), .int (iI 10)]) 2 (c_of (T := T) (D := D) (ad := ad) (setG G 11 7 0) (by omega) (by omega)) (fun _ h => h) (by omega) (cell_108 ad C _) rfl wc_X6_of wm_RX6_100 wi_X6_of ws_X6_of wn_X6 (by decide) rfl ⟨Nat.le_of_ble_eq_true rfl, Nat.le_of_ble_eq_true rfl⟩ ⟨Nat.le_of_ble_eq_true rfl, Nat.le_of_ble_eq_true rfl⟩ (Nat.le_of_ble_eq_true rfl) dX6_demand_29 rfl (fun r9 G9 h9 => ?_)
      obtain ⟨e9, g9⟩ := h9
      rw [e9.trans ((setG_ne (by omega))), g9]
      clear e9 g9
      refine cs_F (q := 35) (As := [.int (iI ((G 12 (15 + 12 * c + 10))))]) 1 (c_real (T := T) (D := D) (ad := ad) (setG G 11 7 0) (x := (G 12 (15 + 12 * c + 10))) ((oH.2.2 c (by omega) (by omega)).2.2.2.2.2.2.2.1)) (fun _ h => h) wc_X6_real wm_RX6_121 wt_X6_real wn_X6 (by decide) rfl ⟨Nat.le_of_ble_eq_true rfl, Nat.le_of_ble_eq_true rfl⟩ ⟨Nat.le_of_ble_eq_true rfl, Nat.le_of_ble_eq_true rfl⟩ (Nat.le_of_ble_eq_true rfl) dX6_demand_32 rfl (fun r9 G9 h9 => ?_)
      rw [h9.1, h9.2]
      clear h9
      refine aw_goto (q := 39) dX6_demand_35 (by decide) ?_
      exact rt_f rfl (Nat.le_refl _) (Nat.le_refl _) (⟨quiet_7, by first | (exact Or.inl ⟨by omega, (setG_same _ _ _ _)⟩) | (exact Or.inr ⟨by omega, (setG_same _ _ _ _), rfl⟩) | (exfalso; omega)⟩) dX6_demand_39
theorem ct_of {K : GG} {h0 h1 h2 h3 a t : Int} (ht : 0 ≤ t ∧ t ≤ 3) (hc : K 17 0 = c0F h0 h1 h2 h3 a ∧ K 17 1 = c1F h0 h1 h2 h3 a ∧ K 17 2 = c2F h0 h1 h2 h3 a ∧ K 17 3 = c3F h0 h1 h2 h3 a) : K 17 t = ctF h0 h1 h2 h3 a t := by
  obtain ⟨e0, e1, e2, e3⟩ := hc
  rcases (by omega : t = 0 ∨ t = 1 ∨ t = 2 ∨ t = 3) with rfl | rfl | rfl | rfl
  · exact e0
  · exact e1
  · exact e2
  · exact e3
set_option maxHeartbeats 4000000 in
set_option maxRecDepth 100000 in
theorem c_changeM {l : Launch} {D : va_G} {C : Nat → ClassId} {T : Nat → Nat} {ad : Int → Nat} (G : GG) {a t : Int} (htu : ∀ k : Int, 0 ≤ k → k < 4 → 0 ≤ G 12 (5 + k) ∧ G 12 (5 + k) ≤ 30) (ha : -2147483648 ≤ a ∧ a ≤ 2147483647) (ht : -2147483648 ≤ t ∧ t ≤ 2147483647) : MC l yX6_change cX6_change 3 (some .int) 1 34 0 0 D (tyC C) T [.ref (ad 108), .int (iI a), .int (iI t)] (cw ad C G) (RI ad C (fun r G1 => quiet G G1 ∧ ((¬ (0 ≤ a ∧ a ≤ 2000) ∧ G1 11 7 = 1) ∨ ((0 ≤ a ∧ a ≤ 2000) ∧ ¬ (0 ≤ t ∧ t ≤ 3) ∧ G1 11 7 = 2) ∨ (((0 ≤ a ∧ a ≤ 2000) ∧ (0 ≤ t ∧ t ≤ 3)) ∧ G1 11 7 = 0 ∧ r = chF (G 12 5) (G 12 6) (G 12 7) (G 12 8) a t)))) := by
  refine mc_of (by decide +kernel) (Nat.le_of_ble_eq_true rfl) rfl ?_
  refine aw_aload_n (q := 1) 0 dX6_change_0 rfl rfl rfl ?_
  refine aw_iconst (q := 2) dX6_change_1 rfl ?_
  refine p_mod_thrown (q := 5) wf_RX6_38 dX6_change_2 rfl ?_
  refine aw_iload_n (q := 6) 1 dX6_change_5 rfl rfl rfl ?_
  refine aw_iconst (q := 7) dX6_change_6 rfl ?_
  refine aw_sipush (q := 10) dX6_change_7 rfl (by decide) ?_
  refine cs_I (q := 13) (As := [.int (iI a), .int (iI 0), .int (iI 2000)]) 3 (c_in (T := T) (D := D) (ad := ad) (setG G 11 7 0) (by omega) (by omega) (by omega)) (fun _ h => h) wc_X6_in wm_RX6_62 wt_X6_in wn_X6 (by decide) rfl ⟨Nat.le_of_ble_eq_true rfl, Nat.le_of_ble_eq_true rfl⟩ ⟨Nat.le_of_ble_eq_true rfl, Nat.le_of_ble_eq_true rfl⟩ (Nat.le_of_ble_eq_true rfl) dX6_change_10 rfl (fun r9 G9 h9 => ?_)
  rw [h9.1, h9.2]
  clear h9
  refine aw_ifb_ne (q := 16) dX6_change_13 rfl (t := 22) (by decide) (fun y1 => ?_) (fun y2 => ?_)
  · refine aw_iload_n (q := 23) 2 dX6_change_22 rfl rfl rfl ?_
    refine aw_iconst (q := 24) dX6_change_23 rfl ?_
    refine aw_iconst (q := 25) dX6_change_24 rfl ?_
    refine cs_I (q := 28) (As := [.int (iI t), .int (iI 0), .int (iI 3)]) 3 (c_in (T := T) (D := D) (ad := ad) (setG G 11 7 0) (by omega) (by omega) (by omega)) (fun _ h => h) wc_X6_in wm_RX6_62 wt_X6_in wn_X6 (by decide) rfl ⟨Nat.le_of_ble_eq_true rfl, Nat.le_of_ble_eq_true rfl⟩ ⟨Nat.le_of_ble_eq_true rfl, Nat.le_of_ble_eq_true rfl⟩ (Nat.le_of_ble_eq_true rfl) dX6_change_25 rfl (fun r9 G9 h9 => ?_)
    rw [h9.1, h9.2]
    clear h9
    refine aw_ifb_ne (q := 31) dX6_change_28 rfl (t := 37) (by decide) (fun y3 => ?_) (fun y4 => ?_)
    · refine aw_aload_n (q := 38) 0 dX6_change_37 rfl rfl rfl ?_
      refine aw_iload_n (q := 39) 1 dX6_change_38 rfl rfl rfl ?_
      refine aw_iconst (q := 40) dX6_change_39 rfl ?_
      refine aw_iconst (q := 41) dX6_change_40 rfl ?_
      refine cv_I (q := 44) (CC := "") (id := 108) (As := [.int (iI a), .int (iI (-1)), .int (iI 0)]) 3 (c_py0 (T := T) (D := D) (ad := ad) (setG G 11 7 0) (by omega) (fun k z0 z1 => by rw [show (setG G 11 7 0) 12 (5 + k) = G 12 (5 + k) from (setG_ne (by omega))]; exact htu k z0 z1)) (fun _ h => h) (by omega) (cell_108 ad C _) rfl wc_X6_pays wm_RX6_66 wi_X6_pays ws_X6_pays wn_X6 (by decide) rfl ⟨Nat.le_of_ble_eq_true rfl, Nat.le_of_ble_eq_true rfl⟩ ⟨Nat.le_of_ble_eq_true rfl, Nat.le_of_ble_eq_true rfl⟩ (Nat.le_of_ble_eq_true rfl) dX6_change_41 rfl (fun r9 K1 h9 => ?_)
      obtain ⟨hr1, hc1, hs1⟩ := h9
      rw [show (setG G 11 7 0) 12 5 = G 12 5 from (setG_ne (by omega)), show (setG G 11 7 0) 12 6 = G 12 6 from (setG_ne (by omega)), show (setG G 11 7 0) 12 7 = G 12 7 from (setG_ne (by omega)), show (setG G 11 7 0) 12 8 = G 12 8 from (setG_ne (by omega))] at hr1 hc1
      subst hr1
      have qK1 : quiet G K1 := ⟨fun y z0 z1 => (hs1 _ _ (by omega)).trans (setG_ne (by omega)), fun x y z => (hs1 x y (by omega)).trans (setG_ne (by omega))⟩
      have xK1 : K1 11 7 = 0 := (hs1 _ _ (by omega)).trans (setG_same _ _ _ _)
      refine aw_ifb_eq (q := 47) dX6_change_44 rfl (t := 56) (by decide) (fun y5 => ?_) (fun y6 => ?_)
      · refine aw_iconst (q := 57) dX6_change_56 rfl ?_
        exact rt_i rfl (Nat.le_refl _) (Nat.le_refl _) (⟨qK1, Or.inr (Or.inr ⟨by omega, xK1, by unfold chF; first | (rw [if_pos (by assumption)]; exact ct_of (by omega) (hc1 (by assumption))) | exact (if_neg (by assumption)).symm⟩)⟩) dX6_change_57
      · refine aw_aload_n (q := 48) 0 dX6_change_47 rfl rfl rfl ?_
        refine g_mod_coins (q := 51) wf_RX6_25 dX6_change_48 rfl ?_
        refine aw_iload_n (q := 52) 2 dX6_change_51 rfl rfl rfl ?_
        refine aw_cial (q := 53) (v := (K1 17 t)) t (ar_114 ad C) (by omega) (by omega) rfl dX6_change_52 rfl ?_
        refine aw_goto (q := 57) dX6_change_53 (by decide) ?_
        exact rt_i rfl (Nat.le_refl _) (Nat.le_refl _) (⟨qK1, Or.inr (Or.inr ⟨by omega, xK1, by unfold chF; first | (rw [if_pos (by assumption)]; exact ct_of (by omega) (hc1 (by assumption))) | exact (if_neg (by assumption)).symm⟩)⟩) dX6_change_57
    · refine aw_aload_n (q := 32) 0 dX6_change_31 rfl rfl rfl ?_
      refine aw_iconst (q := 33) dX6_change_32 rfl ?_
      refine cv_I (q := 36) (CC := "") (id := 108) (As := [.int (iI 2)]) 1 (c_fails (T := T) (D := D) (ad := ad) (setG G 11 7 0)) (fun _ h => h) (by omega) (cell_108 ad C _) rfl wc_X6_fails wm_RX6_154 wi_X6_fails ws_X6_fails wn_X6 (by decide) rfl ⟨Nat.le_of_ble_eq_true rfl, Nat.le_of_ble_eq_true rfl⟩ ⟨Nat.le_of_ble_eq_true rfl, Nat.le_of_ble_eq_true rfl⟩ (Nat.le_of_ble_eq_true rfl) dX6_change_33 rfl (fun r9 G9 h9 => ?_)
      rw [h9.1, h9.2]
      clear h9
      exact rt_i rfl (Nat.le_refl _) (Nat.le_refl _) (⟨⟨fun y _ _ => ((setG_ne (by omega)).trans (setG_ne (by omega))), fun x y z => ((setG_ne (by omega)).trans (setG_ne (by omega)))⟩, by first | (exact Or.inl ⟨by omega, (setG_same _ _ _ _)⟩) | (exact Or.inr (Or.inl ⟨by omega, by omega, (setG_same _ _ _ _)⟩))⟩) dX6_change_36
  · refine aw_aload_n (q := 17) 0 dX6_change_16 rfl rfl rfl ?_
    refine aw_iconst (q := 18) dX6_change_17 rfl ?_
    refine cv_I (q := 21) (CC := "") (id := 108) (As := [.int (iI 1)]) 1 (c_fails (T := T) (D := D) (ad := ad) (setG G 11 7 0)) (fun _ h => h) (by omega) (cell_108 ad C _) rfl wc_X6_fails wm_RX6_154 wi_X6_fails ws_X6_fails wn_X6 (by decide) rfl ⟨Nat.le_of_ble_eq_true rfl, Nat.le_of_ble_eq_true rfl⟩ ⟨Nat.le_of_ble_eq_true rfl, Nat.le_of_ble_eq_true rfl⟩ (Nat.le_of_ble_eq_true rfl) dX6_change_18 rfl (fun r9 G9 h9 => ?_)
    rw [h9.1, h9.2]
    clear h9
    exact rt_i rfl (Nat.le_refl _) (Nat.le_refl _) (⟨⟨fun y _ _ => ((setG_ne (by omega)).trans (setG_ne (by omega))), fun x y z => ((setG_ne (by omega)).trans (setG_ne (by omega)))⟩, by first | (exact Or.inl ⟨by omega, (setG_same _ _ _ _)⟩) | (exact Or.inr (Or.inl ⟨by omega, by omega, (setG_same _ _ _ _)⟩))⟩) dX6_change_21
set_option maxHeartbeats 4000000 in
set_option maxRecDepth 100000 in
theorem c_coinForM {l : Launch} {D : va_G} {C : Nat → ClassId} {T : Nat → Nat} {ad : Int → Nat} (G : GG) {a : Int} (htu : ∀ k : Int, 0 ≤ k → k < 4 → 0 ≤ G 12 (5 + k) ∧ G 12 (5 + k) ≤ 30) (ha : -2147483648 ≤ a ∧ a ≤ 2147483647) : MC l yX6_coinFor cX6_coinFor 3 (some .int) 1 34 0 0 D (tyC C) T [.ref (ad 108), .int (iI a)] (cw ad C G) (RI ad C (fun r G1 => quiet G G1 ∧ ((¬ (0 ≤ a ∧ a ≤ 2000) ∧ G1 11 7 = 1) ∨ ((0 ≤ a ∧ a ≤ 2000) ∧ G1 11 7 = 0 ∧ r = cfF (G 12 5) (G 12 6) (G 12 7) (G 12 8) a)))) := by
  refine mc_of (by decide +kernel) (Nat.le_of_ble_eq_true rfl) rfl ?_
  refine aw_aload_n (q := 1) 0 dX6_coinFor_0 rfl rfl rfl ?_
  refine aw_iconst (q := 2) dX6_coinFor_1 rfl ?_
  refine p_mod_thrown (q := 5) wf_RX6_38 dX6_coinFor_2 rfl ?_
  refine aw_iload_n (q := 6) 1 dX6_coinFor_5 rfl rfl rfl ?_
  refine aw_iconst (q := 7) dX6_coinFor_6 rfl ?_
  refine aw_sipush (q := 10) dX6_coinFor_7 rfl (by decide) ?_
  refine cs_I (q := 13) (As := [.int (iI a), .int (iI 0), .int (iI 2000)]) 3 (c_in (T := T) (D := D) (ad := ad) (setG G 11 7 0) (by omega) (by omega) (by omega)) (fun _ h => h) wc_X6_in wm_RX6_62 wt_X6_in wn_X6 (by decide) rfl ⟨Nat.le_of_ble_eq_true rfl, Nat.le_of_ble_eq_true rfl⟩ ⟨Nat.le_of_ble_eq_true rfl, Nat.le_of_ble_eq_true rfl⟩ (Nat.le_of_ble_eq_true rfl) dX6_coinFor_10 rfl (fun r9 G9 h9 => ?_)
  rw [h9.1, h9.2]
  clear h9
  refine aw_ifb_ne (q := 16) dX6_coinFor_13 rfl (t := 22) (by decide) (fun y1 => ?_) (fun y2 => ?_)
  · refine aw_aload_n (q := 23) 0 dX6_coinFor_22 rfl rfl rfl ?_
    refine aw_iload_n (q := 24) 1 dX6_coinFor_23 rfl rfl rfl ?_
    refine aw_iconst (q := 25) dX6_coinFor_24 rfl ?_
    refine aw_iconst (q := 26) dX6_coinFor_25 rfl ?_
    refine cv_I (q := 29) (CC := "") (id := 108) (As := [.int (iI a), .int (iI (-1)), .int (iI 0)]) 3 (c_py0 (T := T) (D := D) (ad := ad) (setG G 11 7 0) (by omega) (fun k z0 z1 => by rw [show (setG G 11 7 0) 12 (5 + k) = G 12 (5 + k) from (setG_ne (by omega))]; exact htu k z0 z1)) (fun _ h => h) (by omega) (cell_108 ad C _) rfl wc_X6_pays wm_RX6_66 wi_X6_pays ws_X6_pays wn_X6 (by decide) rfl ⟨Nat.le_of_ble_eq_true rfl, Nat.le_of_ble_eq_true rfl⟩ ⟨Nat.le_of_ble_eq_true rfl, Nat.le_of_ble_eq_true rfl⟩ (Nat.le_of_ble_eq_true rfl) dX6_coinFor_26 rfl (fun r9 K1 h9 => ?_)
    obtain ⟨hr1, hc1, hs1⟩ := h9
    rw [show (setG G 11 7 0) 12 5 = G 12 5 from (setG_ne (by omega)), show (setG G 11 7 0) 12 6 = G 12 6 from (setG_ne (by omega)), show (setG G 11 7 0) 12 7 = G 12 7 from (setG_ne (by omega)), show (setG G 11 7 0) 12 8 = G 12 8 from (setG_ne (by omega))] at hr1 hc1
    subst hr1
    have qK1 : quiet G K1 := ⟨fun y z0 z1 => (hs1 _ _ (by omega)).trans (setG_ne (by omega)), fun x y z => (hs1 x y (by omega)).trans (setG_ne (by omega))⟩
    have xK1 : K1 11 7 = 0 := (hs1 _ _ (by omega)).trans (setG_same _ _ _ _)
    refine aw_ifb_eq (q := 32) dX6_coinFor_29 rfl (t := 34) (by decide) (fun y3 => ?_) (fun y4 => ?_)
    · refine aw_iconst (q := 35) dX6_coinFor_34 rfl ?_
      refine aw_istore_n (q := 36) (lv2 := [(0, .ref (ad 108)), (1, .int (iI a)), (2, .int (iI 0))]) [1, 2, 0] dX6_coinFor_35 rfl rfl (by decide) rfl rfl ?_
      refine aw_iload_n (q := 37) 2 dX6_coinFor_36 rfl rfl rfl ?_
      refine aw_iconst (q := 38) dX6_coinFor_37 rfl ?_
      refine aw_icmp_ge (q := 41) dX6_coinFor_38 rfl (t := 59) (by decide) (by omega) (by omega) (fun h => absurd h (by omega)) (fun _ => ?_)
      refine aw_aload_n (q := 42) 0 dX6_coinFor_41 rfl rfl rfl ?_
      refine aw_iload_n (q := 43) 1 dX6_coinFor_42 rfl rfl rfl ?_
      refine aw_iload_n (q := 44) 2 dX6_coinFor_43 rfl rfl rfl ?_
      refine aw_iconst (q := 45) dX6_coinFor_44 rfl ?_
      refine cv_I (q := 48) (CC := "") (id := 108) (As := [.int (iI a), .int (iI 0), .int (iI 1)]) 3 (c_pyC0 (T := T) (D := D) (ad := ad) K1 (by omega) (fun k z0 z1 => by rw [show K1 12 (5 + k) = G 12 (5 + k) from (qK1.1 _ (by omega) (by omega))]; exact htu k z0 z1)) (fun _ h => h) (by omega) (cell_108 ad C _) rfl wc_X6_pays wm_RX6_66 wi_X6_pays ws_X6_pays wn_X6 (by decide) rfl ⟨Nat.le_of_ble_eq_true rfl, Nat.le_of_ble_eq_true rfl⟩ ⟨Nat.le_of_ble_eq_true rfl, Nat.le_of_ble_eq_true rfl⟩ (Nat.le_of_ble_eq_true rfl) dX6_coinFor_45 rfl (fun r9 K2 h9 => ?_)
      obtain ⟨hr2, hc2, hs2⟩ := h9
      rw [show K1 12 5 = G 12 5 from (qK1.1 5 (by omega) (by omega)), show K1 12 6 = G 12 6 from (qK1.1 6 (by omega) (by omega)), show K1 12 7 = G 12 7 from (qK1.1 7 (by omega) (by omega)), show K1 12 8 = G 12 8 from (qK1.1 8 (by omega) (by omega))] at hr2 hc2
      subst hr2
      have qK2 : quiet G K2 := ⟨fun y z0 z1 => (hs2 _ _ (by omega)).trans (qK1.1 y z0 z1), fun x y z => (hs2 x y (by omega)).trans (qK1.2 x y z)⟩
      have xK2 : K2 11 7 = 0 := (hs2 _ _ (by omega)).trans xK1
      refine aw_ifb_eq (q := 51) dX6_coinFor_48 rfl (t := 53) (by decide) (fun y5 => ?_) (fun y6 => ?_)
      · refine ae_iinc (q := 56) (lv2 := [(0, .ref (ad 108)), (1, .int (iI a)), (2, .int (iI 1))]) 2 [1, 2, 0] 1 (by omega) dX6_coinFor_53 rfl rfl (by decide) rfl ?_
        refine aw_goto (q := 36) dX6_coinFor_56 (by decide) ?_
        refine aw_iload_n (q := 37) 2 dX6_coinFor_36 rfl rfl rfl ?_
        refine aw_iconst (q := 38) dX6_coinFor_37 rfl ?_
        refine aw_icmp_ge (q := 41) dX6_coinFor_38 rfl (t := 59) (by decide) (by omega) (by omega) (fun h => absurd h (by omega)) (fun _ => ?_)
        refine aw_aload_n (q := 42) 0 dX6_coinFor_41 rfl rfl rfl ?_
        refine aw_iload_n (q := 43) 1 dX6_coinFor_42 rfl rfl rfl ?_
        refine aw_iload_n (q := 44) 2 dX6_coinFor_43 rfl rfl rfl ?_
        refine aw_iconst (q := 45) dX6_coinFor_44 rfl ?_
        refine cv_I (q := 48) (CC := "") (id := 108) (As := [.int (iI a), .int (iI 1), .int (iI 1)]) 3 (c_pyC1 (T := T) (D := D) (ad := ad) K2 (by omega) (fun k z0 z1 => by rw [show K2 12 (5 + k) = G 12 (5 + k) from (qK2.1 _ (by omega) (by omega))]; exact htu k z0 z1)) (fun _ h => h) (by omega) (cell_108 ad C _) rfl wc_X6_pays wm_RX6_66 wi_X6_pays ws_X6_pays wn_X6 (by decide) rfl ⟨Nat.le_of_ble_eq_true rfl, Nat.le_of_ble_eq_true rfl⟩ ⟨Nat.le_of_ble_eq_true rfl, Nat.le_of_ble_eq_true rfl⟩ (Nat.le_of_ble_eq_true rfl) dX6_coinFor_45 rfl (fun r9 K3 h9 => ?_)
        obtain ⟨hr3, hc3, hs3⟩ := h9
        rw [show K2 12 5 = G 12 5 from (qK2.1 5 (by omega) (by omega)), show K2 12 6 = G 12 6 from (qK2.1 6 (by omega) (by omega)), show K2 12 7 = G 12 7 from (qK2.1 7 (by omega) (by omega)), show K2 12 8 = G 12 8 from (qK2.1 8 (by omega) (by omega))] at hr3 hc3
        subst hr3
        have qK3 : quiet G K3 := ⟨fun y z0 z1 => (hs3 _ _ (by omega)).trans (qK2.1 y z0 z1), fun x y z => (hs3 x y (by omega)).trans (qK2.2 x y z)⟩
        have xK3 : K3 11 7 = 0 := (hs3 _ _ (by omega)).trans xK2
        refine aw_ifb_eq (q := 51) dX6_coinFor_48 rfl (t := 53) (by decide) (fun y7 => ?_) (fun y8 => ?_)
        · refine ae_iinc (q := 56) (lv2 := [(0, .ref (ad 108)), (1, .int (iI a)), (2, .int (iI 2))]) 2 [1, 2, 0] 2 (by omega) dX6_coinFor_53 rfl rfl (by decide) rfl ?_
          refine aw_goto (q := 36) dX6_coinFor_56 (by decide) ?_
          refine aw_iload_n (q := 37) 2 dX6_coinFor_36 rfl rfl rfl ?_
          refine aw_iconst (q := 38) dX6_coinFor_37 rfl ?_
          refine aw_icmp_ge (q := 41) dX6_coinFor_38 rfl (t := 59) (by decide) (by omega) (by omega) (fun h => absurd h (by omega)) (fun _ => ?_)
          refine aw_aload_n (q := 42) 0 dX6_coinFor_41 rfl rfl rfl ?_
          refine aw_iload_n (q := 43) 1 dX6_coinFor_42 rfl rfl rfl ?_
          refine aw_iload_n (q := 44) 2 dX6_coinFor_43 rfl rfl rfl ?_
          refine aw_iconst (q := 45) dX6_coinFor_44 rfl ?_
          refine cv_I (q := 48) (CC := "") (id := 108) (As := [.int (iI a), .int (iI 2), .int (iI 1)]) 3 (c_pyC2 (T := T) (D := D) (ad := ad) K3 (by omega) (fun k z0 z1 => by rw [show K3 12 (5 + k) = G 12 (5 + k) from (qK3.1 _ (by omega) (by omega))]; exact htu k z0 z1)) (fun _ h => h) (by omega) (cell_108 ad C _) rfl wc_X6_pays wm_RX6_66 wi_X6_pays ws_X6_pays wn_X6 (by decide) rfl ⟨Nat.le_of_ble_eq_true rfl, Nat.le_of_ble_eq_true rfl⟩ ⟨Nat.le_of_ble_eq_true rfl, Nat.le_of_ble_eq_true rfl⟩ (Nat.le_of_ble_eq_true rfl) dX6_coinFor_45 rfl (fun r9 K4 h9 => ?_)
          obtain ⟨hr4, hc4, hs4⟩ := h9
          rw [show K3 12 5 = G 12 5 from (qK3.1 5 (by omega) (by omega)), show K3 12 6 = G 12 6 from (qK3.1 6 (by omega) (by omega)), show K3 12 7 = G 12 7 from (qK3.1 7 (by omega) (by omega)), show K3 12 8 = G 12 8 from (qK3.1 8 (by omega) (by omega))] at hr4 hc4
          subst hr4
          have qK4 : quiet G K4 := ⟨fun y z0 z1 => (hs4 _ _ (by omega)).trans (qK3.1 y z0 z1), fun x y z => (hs4 x y (by omega)).trans (qK3.2 x y z)⟩
          have xK4 : K4 11 7 = 0 := (hs4 _ _ (by omega)).trans xK3
          refine aw_ifb_eq (q := 51) dX6_coinFor_48 rfl (t := 53) (by decide) (fun y9 => ?_) (fun y10 => ?_)
          · refine ae_iinc (q := 56) (lv2 := [(0, .ref (ad 108)), (1, .int (iI a)), (2, .int (iI 3))]) 2 [1, 2, 0] 3 (by omega) dX6_coinFor_53 rfl rfl (by decide) rfl ?_
            refine aw_goto (q := 36) dX6_coinFor_56 (by decide) ?_
            refine aw_iload_n (q := 37) 2 dX6_coinFor_36 rfl rfl rfl ?_
            refine aw_iconst (q := 38) dX6_coinFor_37 rfl ?_
            refine aw_icmp_ge (q := 41) dX6_coinFor_38 rfl (t := 59) (by decide) (by omega) (by omega) (fun h => absurd h (by omega)) (fun _ => ?_)
            refine aw_aload_n (q := 42) 0 dX6_coinFor_41 rfl rfl rfl ?_
            refine aw_iload_n (q := 43) 1 dX6_coinFor_42 rfl rfl rfl ?_
            refine aw_iload_n (q := 44) 2 dX6_coinFor_43 rfl rfl rfl ?_
            refine aw_iconst (q := 45) dX6_coinFor_44 rfl ?_
            refine cv_I (q := 48) (CC := "") (id := 108) (As := [.int (iI a), .int (iI 3), .int (iI 1)]) 3 (c_pyC3 (T := T) (D := D) (ad := ad) K4 (by omega) (fun k z0 z1 => by rw [show K4 12 (5 + k) = G 12 (5 + k) from (qK4.1 _ (by omega) (by omega))]; exact htu k z0 z1)) (fun _ h => h) (by omega) (cell_108 ad C _) rfl wc_X6_pays wm_RX6_66 wi_X6_pays ws_X6_pays wn_X6 (by decide) rfl ⟨Nat.le_of_ble_eq_true rfl, Nat.le_of_ble_eq_true rfl⟩ ⟨Nat.le_of_ble_eq_true rfl, Nat.le_of_ble_eq_true rfl⟩ (Nat.le_of_ble_eq_true rfl) dX6_coinFor_45 rfl (fun r9 K5 h9 => ?_)
            obtain ⟨hr5, hc5, hs5⟩ := h9
            rw [show K4 12 5 = G 12 5 from (qK4.1 5 (by omega) (by omega)), show K4 12 6 = G 12 6 from (qK4.1 6 (by omega) (by omega)), show K4 12 7 = G 12 7 from (qK4.1 7 (by omega) (by omega)), show K4 12 8 = G 12 8 from (qK4.1 8 (by omega) (by omega))] at hr5 hc5
            subst hr5
            have qK5 : quiet G K5 := ⟨fun y z0 z1 => (hs5 _ _ (by omega)).trans (qK4.1 y z0 z1), fun x y z => (hs5 x y (by omega)).trans (qK4.2 x y z)⟩
            have xK5 : K5 11 7 = 0 := (hs5 _ _ (by omega)).trans xK4
            refine aw_ifb_eq (q := 51) dX6_coinFor_48 rfl (t := 53) (by decide) (fun y11 => ?_) (fun y12 => ?_)
            · refine ae_iinc (q := 56) (lv2 := [(0, .ref (ad 108)), (1, .int (iI a)), (2, .int (iI 4))]) 2 [1, 2, 0] 4 (by omega) dX6_coinFor_53 rfl rfl (by decide) rfl ?_
              refine aw_goto (q := 36) dX6_coinFor_56 (by decide) ?_
              refine aw_iload_n (q := 37) 2 dX6_coinFor_36 rfl rfl rfl ?_
              refine aw_iconst (q := 38) dX6_coinFor_37 rfl ?_
              refine aw_icmp_ge (q := 41) dX6_coinFor_38 rfl (t := 59) (by decide) (by omega) (by omega) (fun _ => ?_) (fun h => absurd h (by omega))
              refine aw_iconst (q := 60) dX6_coinFor_59 rfl ?_
              exact rt_i rfl (Nat.le_refl _) (Nat.le_refl _) (⟨qK5, Or.inr ⟨by omega, xK5, by unfold cfF; repeat (first | exact (if_pos (by assumption)).symm | exact (if_neg (by assumption)).symm | rw [if_neg (by assumption)])⟩⟩) dX6_coinFor_60
            · refine aw_iload_n (q := 52) 2 dX6_coinFor_51 rfl rfl rfl ?_
              exact rt_i rfl (Nat.le_refl _) (Nat.le_refl _) (⟨qK5, Or.inr ⟨by omega, xK5, by unfold cfF; repeat (first | exact (if_pos (by assumption)).symm | exact (if_neg (by assumption)).symm | rw [if_neg (by assumption)])⟩⟩) dX6_coinFor_52
          · refine aw_iload_n (q := 52) 2 dX6_coinFor_51 rfl rfl rfl ?_
            exact rt_i rfl (Nat.le_refl _) (Nat.le_refl _) (⟨qK4, Or.inr ⟨by omega, xK4, by unfold cfF; repeat (first | exact (if_pos (by assumption)).symm | exact (if_neg (by assumption)).symm | rw [if_neg (by assumption)])⟩⟩) dX6_coinFor_52
        · refine aw_iload_n (q := 52) 2 dX6_coinFor_51 rfl rfl rfl ?_
          exact rt_i rfl (Nat.le_refl _) (Nat.le_refl _) (⟨qK3, Or.inr ⟨by omega, xK3, by unfold cfF; repeat (first | exact (if_pos (by assumption)).symm | exact (if_neg (by assumption)).symm | rw [if_neg (by assumption)])⟩⟩) dX6_coinFor_52
      · refine aw_iload_n (q := 52) 2 dX6_coinFor_51 rfl rfl rfl ?_
        exact rt_i rfl (Nat.le_refl _) (Nat.le_refl _) (⟨qK2, Or.inr ⟨by omega, xK2, by unfold cfF; repeat (first | exact (if_pos (by assumption)).symm | exact (if_neg (by assumption)).symm | rw [if_neg (by assumption)])⟩⟩) dX6_coinFor_52
    · refine aw_iconst (q := 33) dX6_coinFor_32 rfl ?_
      exact rt_i rfl (Nat.le_refl _) (Nat.le_refl _) (⟨qK1, Or.inr ⟨by omega, xK1, by unfold cfF; repeat (first | exact (if_pos (by assumption)).symm | exact (if_neg (by assumption)).symm | rw [if_neg (by assumption)])⟩⟩) dX6_coinFor_33
  · refine aw_aload_n (q := 17) 0 dX6_coinFor_16 rfl rfl rfl ?_
    refine aw_iconst (q := 18) dX6_coinFor_17 rfl ?_
    refine cv_I (q := 21) (CC := "") (id := 108) (As := [.int (iI 1)]) 1 (c_fails (T := T) (D := D) (ad := ad) (setG G 11 7 0)) (fun _ h => h) (by omega) (cell_108 ad C _) rfl wc_X6_fails wm_RX6_154 wi_X6_fails ws_X6_fails wn_X6 (by decide) rfl ⟨Nat.le_of_ble_eq_true rfl, Nat.le_of_ble_eq_true rfl⟩ ⟨Nat.le_of_ble_eq_true rfl, Nat.le_of_ble_eq_true rfl⟩ (Nat.le_of_ble_eq_true rfl) dX6_coinFor_18 rfl (fun r9 G9 h9 => ?_)
    rw [h9.1, h9.2]
    clear h9
    exact rt_i rfl (Nat.le_refl _) (Nat.le_refl _) (⟨⟨fun y _ _ => ((setG_ne (by omega)).trans (setG_ne (by omega))), fun x y z => ((setG_ne (by omega)).trans (setG_ne (by omega)))⟩, Or.inl ⟨by omega, (setG_same _ _ _ _)⟩⟩) dX6_coinFor_21
