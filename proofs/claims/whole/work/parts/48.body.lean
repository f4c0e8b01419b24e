/-! class CoilPricesModel: bodies of the calls that change the page -/
def setB (w v : Int) (ok : Prop) (G : GG) (a : Int) (H : GG) : Prop := (¬ ok ∧ a = 0 ∧ H = setG G 11 8 1) ∨ (ok ∧ a = G 12 w ∧ H = setG G 12 w v)
def addB (k b d : Int) (G : GG) (a : Int) (H : GG) : Prop := (¬ ((0 ≤ k ∧ k ≤ 5) ∧ (5 ≤ b ∧ b ≤ 500 ∧ b % 5 = 0) ∧ (b ≤ d ∧ d ≤ 500 ∧ d % 5 = 0)) ∧ a = 0 ∧ H = setG G 11 8 1) ∨ (((0 ≤ k ∧ k ≤ 5) ∧ (5 ≤ b ∧ b ≤ 500 ∧ b % 5 = 0) ∧ (b ≤ d ∧ d ≤ 500 ∧ d % 5 = 0)) ∧ G 12 13 = 8 ∧ a = 0 ∧ H = setG G 11 8 2) ∨ (((0 ≤ k ∧ k ≤ 5) ∧ (5 ≤ b ∧ b ≤ 500 ∧ b % 5 = 0) ∧ (b ≤ d ∧ d ≤ 500 ∧ d % 5 = 0)) ∧ ¬ G 12 13 = 8 ∧ a = G 12 13 ∧ H = setG (setG (setG (setG (setG G 12 (15 + 12 * G 12 13) k) 12 (15 + 12 * G 12 13 + 3) b) 12 (15 + 12 * G 12 13 + 4) d) 12 (15 + 12 * G 12 13 + 2) b) 12 13 (G 12 13 + 1))
def stockB (c n : Int) (G : GG) (r : Int) (H : GG) : Prop := (¬ (0 ≤ c ∧ c < G 12 13) ∧ r = 0 ∧ H = setG G 11 8 1) ∨ ((0 ≤ c ∧ c < G 12 13) ∧ ¬ (1 ≤ n ∧ n ≤ 20) ∧ r = 0 ∧ H = setG G 11 8 2) ∨ ((0 ≤ c ∧ c < G 12 13) ∧ (1 ≤ n ∧ n ≤ 20) ∧ ¬ G 12 (15 + 12 * c + 1) + n ≤ 20 ∧ r = 0 ∧ H = setG G 11 8 3) ∨ ((0 ≤ c ∧ c < G 12 13) ∧ (1 ≤ n ∧ n ≤ 20) ∧ G 12 (15 + 12 * c + 1) + n ≤ 20 ∧ r = G 12 (15 + 12 * c + 1) + n ∧ H = setG G 12 (15 + 12 * c + 1) (G 12 (15 + 12 * c + 1) + n))
def fillB (t n : Int) (G : GG) (r : Int) (H : GG) : Prop := (¬ (0 ≤ t ∧ t ≤ 3) ∧ r = 0 ∧ H = setG G 11 8 1) ∨ ((0 ≤ t ∧ t ≤ 3) ∧ ¬ (1 ≤ n ∧ n ≤ 30) ∧ r = 0 ∧ H = setG G 11 8 2) ∨ ((0 ≤ t ∧ t ≤ 3) ∧ (1 ≤ n ∧ n ≤ 30) ∧ r = min n (30 - G 12 (5 + t)) ∧ keepM (fillG G 12 t n) (kpG (fillG G 12 t n) 12) H)
def lookB (c : Int) (G : GG) (r : Int) (H : GG) : Prop := (¬ (0 ≤ c ∧ c < G 12 13) ∧ r = 0 ∧ H = setG G 11 8 1) ∨ ((0 ≤ c ∧ c < G 12 13) ∧ r = G 12 (15 + 12 * c + 2) ∧ H = setG G 12 (15 + 12 * c + 10) (faddH (G 12 (15 + 12 * c + 10))))
theorem stockB_fr {c n r : Int} {G H : GG} (h : stockB c n G r H) : sameB bdS G H := by
  intro x y z
  rcases h with ⟨-, -, rfl⟩ | ⟨-, -, -, rfl⟩ | ⟨-, -, -, -, rfl⟩ | ⟨-, -, -, -, rfl⟩ <;> exact setG_ne (by omega)
theorem stockB_8 {c n r : Int} {G H : GG} (h8 : G 11 8 = 0) (h : stockB c n G r H) : 0 ≤ H 11 8 ∧ H 11 8 ≤ 3 := by
  rcases h with ⟨-, -, rfl⟩ | ⟨-, -, -, rfl⟩ | ⟨-, -, -, -, rfl⟩ | ⟨-, -, -, -, rfl⟩
  · rw [setG_same]; omega
  · rw [setG_same]; omega
  · rw [setG_same]; omega
  · rw [setG_ne (by omega)]; omega
theorem fillB_fr {t n r : Int} {G H : GG} (h : fillB t n G r H) : sameB bdS G H := by
  intro x y z
  rcases h with ⟨-, -, rfl⟩ | ⟨-, -, -, rfl⟩ | ⟨-, -, -, k⟩
  · exact setG_ne (by omega)
  · exact setG_ne (by omega)
  · exact (k.2.2.2.2.2.2.2 x y (by omega)).trans (setG_ne (by omega))
theorem fillB_8 {t n r : Int} {G H : GG} (h8 : G 11 8 = 0) (h : fillB t n G r H) : 0 ≤ H 11 8 ∧ H 11 8 ≤ 3 := by
  rcases h with ⟨-, -, rfl⟩ | ⟨-, -, -, rfl⟩ | ⟨-, -, -, k⟩
  · rw [setG_same]; omega
  · rw [setG_same]; omega
  · rw [k.2.2.2.2.2.2.2 11 8 (by omega), show fillG G 12 t n 11 8 = G 11 8 from setG_ne (by omega)]; omega
set_option maxHeartbeats 4000000 in
set_option maxRecDepth 100000 in
theorem c_setM0 {l : Launch} {D : va_G} {C : Nat → ClassId} {T : Nat → Nat} {ad : Int → Nat} (G : GG) {v : Int} (h4 : 0 ≤ G 11 4 ∧ G 11 4 ≤ 4) (hv : -2147483648 ≤ v ∧ v ≤ 2147483647) : MC l yX6_set cX6_set 4 (some .int) 2 46 0 0 D (tyC C) T [.ref (ad 108), .int (iI 0), .int (iI v)] (cw ad C G) (RI ad C (fun r G1 => faceM G (setB 0 v (1 ≤ v ∧ v ≤ 100 ∧ v % 1 = 0)) r G1)) := by
  refine mc_of (by decide +kernel) (Nat.le_of_ble_eq_true rfl) rfl ?_
  refine aw_aload_n (q := 1) 0 dX6_set_0 rfl rfl rfl ?_
  refine cv_V (q := 4) (CC := "") (id := 108) (As := []) 0 (c_holdM (T := T) (D := D) (ad := ad) G) (fun _ h => h) (by omega) (cell_108 ad C _) rfl wc_X6_hold wm_RX6_76 wi_X6_hold ws_X6_hold wn_X6 (by decide) rfl ⟨Nat.le_of_ble_eq_true rfl, Nat.le_of_ble_eq_true rfl⟩ ⟨Nat.le_of_ble_eq_true rfl, Nat.le_of_ble_eq_true rfl⟩ (Nat.le_of_ble_eq_true rfl) dX6_set_1 rfl (fun H8 s8 => ?_)
  refine aw_iload_n (q := 5) 1 dX6_set_4 rfl rfl rfl ?_
  refine aw_iconst (q := 6) dX6_set_5 rfl ?_
  refine aw_iconst (q := 7) dX6_set_6 rfl ?_
  refine cs_I (q := 10) (As := [.int (iI 0), .int (iI 0), .int (iI 4)]) 3 (c_in (T := T) (D := D) (ad := ad) H8 (by omega) (by omega) (by omega)) (fun _ h => h) wc_X6_in wm_RX6_62 wt_X6_in wn_X6 (by decide) rfl ⟨Nat.le_of_ble_eq_true rfl, Nat.le_of_ble_eq_true rfl⟩ ⟨Nat.le_of_ble_eq_true rfl, Nat.le_of_ble_eq_true rfl⟩ (Nat.le_of_ble_eq_true rfl) dX6_set_7 rfl (fun r9 G9 h9 => ?_)
  rw [h9.1, h9.2]
  clear h9
  refine aw_ifb_eq (q := 13) dX6_set_10 rfl (t := 44) (by decide) (fun y1 => ?_) (fun y2 => ?_)
  · refine aw_aload_n (q := 45) 0 dX6_set_44 rfl rfl rfl ?_
    refine aw_aload_n (q := 46) 0 dX6_set_45 rfl rfl rfl ?_
    refine aw_iconst (q := 47) dX6_set_46 rfl ?_
    refine cv_I (q := 50) (CC := "") (id := 108) (As := [.int (iI 1)]) 1 (c_refuse (T := T) (D := D) (ad := ad) H8) (fun _ h => h) (by omega) (cell_108 ad C _) rfl wc_X6_refuse wm_RX6_82 wi_X6_refuse ws_X6_refuse wn_X6 (by decide) rfl ⟨Nat.le_of_ble_eq_true rfl, Nat.le_of_ble_eq_true rfl⟩ ⟨Nat.le_of_ble_eq_true rfl, Nat.le_of_ble_eq_true rfl⟩ (Nat.le_of_ble_eq_true rfl) dX6_set_47 rfl (fun r9 G9 h9 => ?_)
    rw [h9.1, h9.2]
    clear h9
    refine cv_I (q := 53) (CC := "") (id := 108) (As := [.int (iI 0)]) 1 (c_ends (T := T) (D := D) (ad := ad) (setG H8 11 8 1) (a := 0) (by rw [show (setG H8 11 8 1) 11 4 = G 11 4 from ((setG_ne (by omega)).trans ((s8.2.2 _ _ (by omega))))]; omega) (by rw [show (setG H8 11 8 1) 11 8 = 1 from (setG_same _ _ _ _)]; omega)) (fun _ h => h) (by omega) (cell_108 ad C _) rfl wc_X6_ends wm_RX6_85 wi_X6_ends ws_X6_ends wn_X6 (by decide) rfl ⟨Nat.le_of_ble_eq_true rfl, Nat.le_of_ble_eq_true rfl⟩ ⟨Nat.le_of_ble_eq_true rfl, Nat.le_of_ble_eq_true rfl⟩ (Nat.le_of_ble_eq_true rfl) dX6_set_50 rfl (fun rA HA hA => ?_)
    exact rt_i rfl (Nat.le_refl _) (Nat.le_refl _) (fin_to s8 (by first | (refine Or.inl ⟨by omega, ?_, ?_⟩ <;> rfl) | (exact Or.inr ⟨by omega, (s8.2.2 _ _ (by omega)).symm, rfl⟩)) (fun x y z => (setG_ne (by omega))) hA) dX6_set_53
  · refine aw_iload_n (q := 14) 2 dX6_set_13 rfl rfl rfl ?_
    refine aw_iload_n (q := 15) 1 dX6_set_14 rfl rfl rfl ?_
    refine aw_if_ne (q := 18) dX6_set_15 rfl (t := 22) (by decide) (by omega) (fun h => absurd h (by omega)) (fun _ => ?_)
    refine aw_iconst (q := 19) dX6_set_18 rfl ?_
    refine aw_goto (q := 23) dX6_set_19 (by decide) ?_
    refine aw_iload_n (q := 24) 1 dX6_set_23 rfl rfl rfl ?_
    refine cs_I (q := 27) (As := [.int (iI 0)]) 1 (c_highest (T := T) (D := D) (ad := ad) H8 (t := 0) (by omega)) (fun _ h => h) wc_X6_highest wm_RX6_79 wt_X6_highest wn_X6 (by decide) rfl ⟨Nat.le_of_ble_eq_true rfl, Nat.le_of_ble_eq_true rfl⟩ ⟨Nat.le_of_ble_eq_true rfl, Nat.le_of_ble_eq_true rfl⟩ (Nat.le_of_ble_eq_true rfl) dX6_set_24 rfl (fun r9 G9 h9 => ?_)
    obtain ⟨e9, g9⟩ := h9
    rw [e9.trans (by decide : (if (0 : Int) = 3 then (1000 : Int) else 100) = 100), g9]
    clear e9 g9
    refine cs_I (q := 30) (As := [.int (iI v), .int (iI 1), .int (iI 100)]) 3 (c_in (T := T) (D := D) (ad := ad) H8 (by omega) (by omega) (by omega)) (fun _ h => h) wc_X6_in wm_RX6_62 wt_X6_in wn_X6 (by decide) rfl ⟨Nat.le_of_ble_eq_true rfl, Nat.le_of_ble_eq_true rfl⟩ ⟨Nat.le_of_ble_eq_true rfl, Nat.le_of_ble_eq_true rfl⟩ (Nat.le_of_ble_eq_true rfl) dX6_set_27 rfl (fun r9 G9 h9 => ?_)
    rw [h9.1, h9.2]
    clear h9
    refine aw_ifb_eq (q := 33) dX6_set_30 rfl (t := 44) (by decide) (fun y3 => ?_) (fun y4 => ?_)
    · refine aw_aload_n (q := 45) 0 dX6_set_44 rfl rfl rfl ?_
      refine aw_aload_n (q := 46) 0 dX6_set_45 rfl rfl rfl ?_
      refine aw_iconst (q := 47) dX6_set_46 rfl ?_
      refine cv_I (q := 50) (CC := "") (id := 108) (As := [.int (iI 1)]) 1 (c_refuse (T := T) (D := D) (ad := ad) H8) (fun _ h => h) (by omega) (cell_108 ad C _) rfl wc_X6_refuse wm_RX6_82 wi_X6_refuse ws_X6_refuse wn_X6 (by decide) rfl ⟨Nat.le_of_ble_eq_true rfl, Nat.le_of_ble_eq_true rfl⟩ ⟨Nat.le_of_ble_eq_true rfl, Nat.le_of_ble_eq_true rfl⟩ (Nat.le_of_ble_eq_true rfl) dX6_set_47 rfl (fun r9 G9 h9 => ?_)
      rw [h9.1, h9.2]
      clear h9
      refine cv_I (q := 53) (CC := "") (id := 108) (As := [.int (iI 0)]) 1 (c_ends (T := T) (D := D) (ad := ad) (setG H8 11 8 1) (a := 0) (by rw [show (setG H8 11 8 1) 11 4 = G 11 4 from ((setG_ne (by omega)).trans ((s8.2.2 _ _ (by omega))))]; omega) (by rw [show (setG H8 11 8 1) 11 8 = 1 from (setG_same _ _ _ _)]; omega)) (fun _ h => h) (by omega) (cell_108 ad C _) rfl wc_X6_ends wm_RX6_85 wi_X6_ends ws_X6_ends wn_X6 (by decide) rfl ⟨Nat.le_of_ble_eq_true rfl, Nat.le_of_ble_eq_true rfl⟩ ⟨Nat.le_of_ble_eq_true rfl, Nat.le_of_ble_eq_true rfl⟩ (Nat.le_of_ble_eq_true rfl) dX6_set_50 rfl (fun rA HA hA => ?_)
      exact rt_i rfl (Nat.le_refl _) (Nat.le_refl _) (fin_to s8 (by first | (refine Or.inl ⟨by omega, ?_, ?_⟩ <;> rfl) | (exact Or.inr ⟨by omega, (s8.2.2 _ _ (by omega)).symm, rfl⟩)) (fun x y z => (setG_ne (by omega))) hA) dX6_set_53
    · refine aw_iload_n (q := 34) 1 dX6_set_33 rfl rfl rfl ?_
      refine aw_iconst (q := 35) dX6_set_34 rfl ?_
      refine aw_icmp_ne (q := 38) dX6_set_35 rfl (t := 54) (by decide) (by omega) (by omega) (fun _ => ?_) (fun h => absurd h (by omega))
      refine aw_aload_n (q := 55) 0 dX6_set_54 rfl rfl rfl ?_
      refine g_mod_p (q := 58) wf_RX6_7 dX6_set_55 rfl ?_
      refine aw_iconst (q := 59) dX6_set_58 rfl ?_
      refine aw_iload_n (q := 60) 1 dX6_set_59 rfl rfl rfl ?_
      refine ae_iadd (q := 61) 0 (by omega) dX6_set_60 rfl ?_
      refine aw_cial (q := 62) (v := (G 12 0)) 0 (ar_109 ad C) (by omega) (by omega) ((s8.2.2 _ _ (by omega))) dX6_set_61 rfl ?_
      refine aw_istore_n (q := 63) (lv2 := [(0, .ref (ad 108)), (1, .int (iI 0)), (2, .int (iI v)), (3, .int (iI (G 12 0)))]) [1, 2, 3, 0] dX6_set_62 rfl rfl (by decide) rfl rfl ?_
      refine aw_aload_n (q := 64) 0 dX6_set_63 rfl rfl rfl ?_
      refine g_mod_p (q := 67) wf_RX6_7 dX6_set_64 rfl ?_
      refine aw_iconst (q := 68) dX6_set_67 rfl ?_
      refine aw_iload_n (q := 69) 1 dX6_set_68 rfl rfl rfl ?_
      refine ae_iadd (q := 70) 0 (by omega) dX6_set_69 rfl ?_
      refine aw_iload_n (q := 71) 2 dX6_set_70 rfl rfl rfl ?_
      refine aw_cias (q := 72) 0 (ar_109 ad C) (by omega) (by omega) dX6_set_71 rfl ?_
      refine aw_aload_n (q := 73) 0 dX6_set_72 rfl rfl rfl ?_
      refine aw_iload_n (q := 74) 3 dX6_set_73 rfl rfl rfl ?_
      refine cv_I (q := 77) (CC := "") (id := 108) (As := [.int (iI (G 12 0))]) 1 (c_ends (T := T) (D := D) (ad := ad) (setG H8 12 0 v) (a := (G 12 0)) (by rw [show (setG H8 12 0 v) 11 4 = G 11 4 from ((setG_ne (by omega)).trans ((s8.2.2 _ _ (by omega))))]; omega) (by rw [show (setG H8 12 0 v) 11 8 = 0 from ((setG_ne (by omega)).trans (s8.1))]; omega)) (fun _ h => h) (by omega) (cell_108 ad C _) rfl wc_X6_ends wm_RX6_85 wi_X6_ends ws_X6_ends wn_X6 (by decide) rfl ⟨Nat.le_of_ble_eq_true rfl, Nat.le_of_ble_eq_true rfl⟩ ⟨Nat.le_of_ble_eq_true rfl, Nat.le_of_ble_eq_true rfl⟩ (Nat.le_of_ble_eq_true rfl) dX6_set_74 rfl (fun rA HA hA => ?_)
      exact rt_i rfl (Nat.le_refl _) (Nat.le_refl _) (fin_to s8 (by first | (refine Or.inl ⟨by omega, ?_, ?_⟩ <;> rfl) | (exact Or.inr ⟨by omega, (s8.2.2 _ _ (by omega)).symm, rfl⟩)) (fun x y z => (setG_ne (by omega))) hA) dX6_set_77
set_option maxHeartbeats 4000000 in
set_option maxRecDepth 100000 in
theorem c_setM1 {l : Launch} {D : va_G} {C : Nat → ClassId} {T : Nat → Nat} {ad : Int → Nat} (G : GG) {v : Int} (h4 : 0 ≤ G 11 4 ∧ G 11 4 ≤ 4) (hv : -2147483648 ≤ v ∧ v ≤ 2147483647) : MC l yX6_set cX6_set 4 (some .int) 2 46 0 0 D (tyC C) T [.ref (ad 108), .int (iI 1), .int (iI v)] (cw ad C G) (RI ad C (fun r G1 => faceM G (setB 1 v (0 ≤ v ∧ v ≤ 100 ∧ v % 1 = 0)) r G1)) := by
  refine mc_of (by decide +kernel) (Nat.le_of_ble_eq_true rfl) rfl ?_
  refine aw_aload_n (q := 1) 0 dX6_set_0 rfl rfl rfl ?_
  refine cv_V (q := 4) (CC := "") (id := 108) (As := []) 0 (c_holdM (T := T) (D := D) (ad := ad) G) (fun _ h => h) (by omega) (cell_108 ad C _) rfl wc_X6_hold wm_RX6_76 wi_X6_hold ws_X6_hold wn_X6 (by decide) rfl ⟨Nat.le_of_ble_eq_true rfl, Nat.le_of_ble_eq_true rfl⟩ ⟨Nat.le_of_ble_eq_true rfl, Nat.le_of_ble_eq_true rfl⟩ (Nat.le_of_ble_eq_true rfl) dX6_set_1 rfl (fun H8 s8 => ?_)
  refine aw_iload_n (q := 5) 1 dX6_set_4 rfl rfl rfl ?_
  refine aw_iconst (q := 6) dX6_set_5 rfl ?_
  refine aw_iconst (q := 7) dX6_set_6 rfl ?_
  refine cs_I (q := 10) (As := [.int (iI 1), .int (iI 0), .int (iI 4)]) 3 (c_in (T := T) (D := D) (ad := ad) H8 (by omega) (by omega) (by omega)) (fun _ h => h) wc_X6_in wm_RX6_62 wt_X6_in wn_X6 (by decide) rfl ⟨Nat.le_of_ble_eq_true rfl, Nat.le_of_ble_eq_true rfl⟩ ⟨Nat.le_of_ble_eq_true rfl, Nat.le_of_ble_eq_true rfl⟩ (Nat.le_of_ble_eq_true rfl) dX6_set_7 rfl (fun r9 G9 h9 => ?_)
  rw [h9.1, h9.2]
  clear h9
  refine aw_ifb_eq (q := 13) dX6_set_10 rfl (t := 44) (by decide) (fun y1 => ?_) (fun y2 => ?_)
  · refine aw_aload_n (q := 45) 0 dX6_set_44 rfl rfl rfl ?_
    refine aw_aload_n (q := 46) 0 dX6_set_45 rfl rfl rfl ?_
    refine aw_iconst (q := 47) dX6_set_46 rfl ?_
    refine cv_I (q := 50) (CC := "") (id := 108) (As := [.int (iI 1)]) 1 (c_refuse (T := T) (D := D) (ad := ad) H8) (fun _ h => h) (by omega) (cell_108 ad C _) rfl wc_X6_refuse wm_RX6_82 wi_X6_refuse ws_X6_refuse wn_X6 (by decide) rfl ⟨Nat.le_of_ble_eq_true rfl, Nat.le_of_ble_eq_true rfl⟩ ⟨Nat.le_of_ble_eq_true rfl, Nat.le_of_ble_eq_true rfl⟩ (Nat.le_of_ble_eq_true rfl) dX6_set_47 rfl (fun r9 G9 h9 => ?_)
    rw [h9.1, h9.2]
    clear h9
    refine cv_I (q := 53) (CC := "") (id := 108) (As := [.int (iI 0)]) 1 (c_ends (T := T) (D := D) (ad := ad) (setG H8 11 8 1) (a := 0) (by rw [show (setG H8 11 8 1) 11 4 = G 11 4 from ((setG_ne (by omega)).trans ((s8.2.2 _ _ (by omega))))]; omega) (by rw [show (setG H8 11 8 1) 11 8 = 1 from (setG_same _ _ _ _)]; omega)) (fun _ h => h) (by omega) (cell_108 ad C _) rfl wc_X6_ends wm_RX6_85 wi_X6_ends ws_X6_ends wn_X6 (by decide) rfl ⟨Nat.le_of_ble_eq_true rfl, Nat.le_of_ble_eq_true rfl⟩ ⟨Nat.le_of_ble_eq_true rfl, Nat.le_of_ble_eq_true rfl⟩ (Nat.le_of_ble_eq_true rfl) dX6_set_50 rfl (fun rA HA hA => ?_)
    exact rt_i rfl (Nat.le_refl _) (Nat.le_refl _) (fin_to s8 (by first | (refine Or.inl ⟨by omega, ?_, ?_⟩ <;> rfl) | (exact Or.inr ⟨by omega, (s8.2.2 _ _ (by omega)).symm, rfl⟩)) (fun x y z => (setG_ne (by omega))) hA) dX6_set_53
  · refine aw_iload_n (q := 14) 2 dX6_set_13 rfl rfl rfl ?_
    refine aw_iload_n (q := 15) 1 dX6_set_14 rfl rfl rfl ?_
    refine aw_if_ne (q := 18) dX6_set_15 rfl (t := 22) (by decide) (by omega) (fun _ => ?_) (fun h => absurd h (by omega))
    refine aw_iconst (q := 23) dX6_set_22 rfl ?_
    refine aw_iload_n (q := 24) 1 dX6_set_23 rfl rfl rfl ?_
    refine cs_I (q := 27) (As := [.int (iI 1)]) 1 (c_highest (T := T) (D := D) (ad := ad) H8 (t := 1) (by omega)) (fun _ h => h) wc_X6_highest wm_RX6_79 wt_X6_highest wn_X6 (by decide) rfl ⟨Nat.le_of_ble_eq_true rfl, Nat.le_of_ble_eq_true rfl⟩ ⟨Nat.le_of_ble_eq_true rfl, Nat.le_of_ble_eq_true rfl⟩ (Nat.le_of_ble_eq_true rfl) dX6_set_24 rfl (fun r9 G9 h9 => ?_)
    obtain ⟨e9, g9⟩ := h9
    rw [e9.trans (by decide : (if (1 : Int) = 3 then (1000 : Int) else 100) = 100), g9]
    clear e9 g9
    refine cs_I (q := 30) (As := [.int (iI v), .int (iI 0), .int (iI 100)]) 3 (c_in (T := T) (D := D) (ad := ad) H8 (by omega) (by omega) (by omega)) (fun _ h => h) wc_X6_in wm_RX6_62 wt_X6_in wn_X6 (by decide) rfl ⟨Nat.le_of_ble_eq_true rfl, Nat.le_of_ble_eq_true rfl⟩ ⟨Nat.le_of_ble_eq_true rfl, Nat.le_of_ble_eq_true rfl⟩ (Nat.le_of_ble_eq_true rfl) dX6_set_27 rfl (fun r9 G9 h9 => ?_)
    rw [h9.1, h9.2]
    clear h9
    refine aw_ifb_eq (q := 33) dX6_set_30 rfl (t := 44) (by decide) (fun y3 => ?_) (fun y4 => ?_)
    · refine aw_aload_n (q := 45) 0 dX6_set_44 rfl rfl rfl ?_
      refine aw_aload_n (q := 46) 0 dX6_set_45 rfl rfl rfl ?_
      refine aw_iconst (q := 47) dX6_set_46 rfl ?_
      refine cv_I (q := 50) (CC := "") (id := 108) (As := [.int (iI 1)]) 1 (c_refuse (T := T) (D := D) (ad := ad) H8) (fun _ h => h) (by omega) (cell_108 ad C _) rfl wc_X6_refuse wm_RX6_82 wi_X6_refuse ws_X6_refuse wn_X6 (by decide) rfl ⟨Nat.le_of_ble_eq_true rfl, Nat.le_of_ble_eq_true rfl⟩ ⟨Nat.le_of_ble_eq_true rfl, Nat.le_of_ble_eq_true rfl⟩ (Nat.le_of_ble_eq_true rfl) dX6_set_47 rfl (fun r9 G9 h9 => ?_)
      rw [h9.1, h9.2]
      clear h9
      refine cv_I (q := 53) (CC := "") (id := 108) (As := [.int (iI 0)]) 1 (c_ends (T := T) (D := D) (ad := ad) (setG H8 11 8 1) (a := 0) (by rw [show (setG H8 11 8 1) 11 4 = G 11 4 from ((setG_ne (by omega)).trans ((s8.2.2 _ _ (by omega))))]; omega) (by rw [show (setG H8 11 8 1) 11 8 = 1 from (setG_same _ _ _ _)]; omega)) (fun _ h => h) (by omega) (cell_108 ad C _) rfl wc_X6_ends wm_RX6_85 wi_X6_ends ws_X6_ends wn_X6 (by decide) rfl ⟨Nat.le_of_ble_eq_true rfl, Nat.le_of_ble_eq_true rfl⟩ ⟨Nat.le_of_ble_eq_true rfl, Nat.le_of_ble_eq_true rfl⟩ (Nat.le_of_ble_eq_true rfl) dX6_set_50 rfl (fun rA HA hA => ?_)
      exact rt_i rfl (Nat.le_refl _) (Nat.le_refl _) (fin_to s8 (by first | (refine Or.inl ⟨by omega, ?_, ?_⟩ <;> rfl) | (exact Or.inr ⟨by omega, (s8.2.2 _ _ (by omega)).symm, rfl⟩)) (fun x y z => (setG_ne (by omega))) hA) dX6_set_53
    · refine aw_iload_n (q := 34) 1 dX6_set_33 rfl rfl rfl ?_
      refine aw_iconst (q := 35) dX6_set_34 rfl ?_
      refine aw_icmp_ne (q := 38) dX6_set_35 rfl (t := 54) (by decide) (by omega) (by omega) (fun _ => ?_) (fun h => absurd h (by omega))
      refine aw_aload_n (q := 55) 0 dX6_set_54 rfl rfl rfl ?_
      refine g_mod_p (q := 58) wf_RX6_7 dX6_set_55 rfl ?_
      refine aw_iconst (q := 59) dX6_set_58 rfl ?_
      refine aw_iload_n (q := 60) 1 dX6_set_59 rfl rfl rfl ?_
      refine ae_iadd (q := 61) 1 (by omega) dX6_set_60 rfl ?_
      refine aw_cial (q := 62) (v := (G 12 1)) 1 (ar_109 ad C) (by omega) (by omega) ((s8.2.2 _ _ (by omega))) dX6_set_61 rfl ?_
      refine aw_istore_n (q := 63) (lv2 := [(0, .ref (ad 108)), (1, .int (iI 1)), (2, .int (iI v)), (3, .int (iI (G 12 1)))]) [1, 2, 3, 0] dX6_set_62 rfl rfl (by decide) rfl rfl ?_
      refine aw_aload_n (q := 64) 0 dX6_set_63 rfl rfl rfl ?_
      refine g_mod_p (q := 67) wf_RX6_7 dX6_set_64 rfl ?_
      refine aw_iconst (q := 68) dX6_set_67 rfl ?_
      refine aw_iload_n (q := 69) 1 dX6_set_68 rfl rfl rfl ?_
      refine ae_iadd (q := 70) 1 (by omega) dX6_set_69 rfl ?_
      refine aw_iload_n (q := 71) 2 dX6_set_70 rfl rfl rfl ?_
      refine aw_cias (q := 72) 1 (ar_109 ad C) (by omega) (by omega) dX6_set_71 rfl ?_
      refine aw_aload_n (q := 73) 0 dX6_set_72 rfl rfl rfl ?_
      refine aw_iload_n (q := 74) 3 dX6_set_73 rfl rfl rfl ?_
      refine cv_I (q := 77) (CC := "") (id := 108) (As := [.int (iI (G 12 1))]) 1 (c_ends (T := T) (D := D) (ad := ad) (setG H8 12 1 v) (a := (G 12 1)) (by rw [show (setG H8 12 1 v) 11 4 = G 11 4 from ((setG_ne (by omega)).trans ((s8.2.2 _ _ (by omega))))]; omega) (by rw [show (setG H8 12 1 v) 11 8 = 0 from ((setG_ne (by omega)).trans (s8.1))]; omega)) (fun _ h => h) (by omega) (cell_108 ad C _) rfl wc_X6_ends wm_RX6_85 wi_X6_ends ws_X6_ends wn_X6 (by decide) rfl ⟨Nat.le_of_ble_eq_true rfl, Nat.le_of_ble_eq_true rfl⟩ ⟨Nat.le_of_ble_eq_true rfl, Nat.le_of_ble_eq_true rfl⟩ (Nat.le_of_ble_eq_true rfl) dX6_set_74 rfl (fun rA HA hA => ?_)
      exact rt_i rfl (Nat.le_refl _) (Nat.le_refl _) (fin_to s8 (by first | (refine Or.inl ⟨by omega, ?_, ?_⟩ <;> rfl) | (exact Or.inr ⟨by omega, (s8.2.2 _ _ (by omega)).symm, rfl⟩)) (fun x y z => (setG_ne (by omega))) hA) dX6_set_77
set_option maxHeartbeats 4000000 in
set_option maxRecDepth 100000 in
theorem c_setM2 {l : Launch} {D : va_G} {C : Nat → ClassId} {T : Nat → Nat} {ad : Int → Nat} (G : GG) {v : Int} (h4 : 0 ≤ G 11 4 ∧ G 11 4 ≤ 4) (hv : -2147483648 ≤ v ∧ v ≤ 2147483647) : MC l yX6_set cX6_set 4 (some .int) 2 46 0 0 D (tyC C) T [.ref (ad 108), .int (iI 2), .int (iI v)] (cw ad C G) (RI ad C (fun r G1 => faceM G (setB 2 v (0 ≤ v ∧ v ≤ 100 ∧ v % 1 = 0)) r G1)) := by
  refine mc_of (by decide +kernel) (Nat.le_of_ble_eq_true rfl) rfl ?_
  refine aw_aload_n (q := 1) 0 dX6_set_0 rfl rfl rfl ?_
  refine cv_V (q := 4) (CC := "") (id := 108) (As := []) 0 (c_holdM (T := T) (D := D) (ad := ad) G) (fun _ h => h) (by omega) (cell_108 ad C _) rfl wc_X6_hold wm_RX6_76 wi_X6_hold ws_X6_hold wn_X6 (by decide) rfl ⟨Nat.le_of_ble_eq_true rfl, Nat.le_of_ble_eq_true rfl⟩ ⟨Nat.le_of_ble_eq_true rfl, Nat.le_of_ble_eq_true rfl⟩ (Nat.le_of_ble_eq_true rfl) dX6_set_1 rfl (fun H8 s8 => ?_)
  refine aw_iload_n (q := 5) 1 dX6_set_4 rfl rfl rfl ?_
  refine aw_iconst (q := 6) dX6_set_5 rfl ?_
  refine aw_iconst (q := 7) dX6_set_6 rfl ?_
  refine cs_I (q := 10) (As := [.int (iI 2), .int (iI 0), .int (iI 4)]) 3 (c_in (T := T) (D := D) (ad := ad) H8 (by omega) (by omega) (by omega)) (fun _ h => h) wc_X6_in wm_RX6_62 wt_X6_in wn_X6 (by decide) rfl ⟨Nat.le_of_ble_eq_true rfl, Nat.le_of_ble_eq_true rfl⟩ ⟨Nat.le_of_ble_eq_true rfl, Nat.le_of_ble_eq_true rfl⟩ (Nat.le_of_ble_eq_true rfl) dX6_set_7 rfl (fun r9 G9 h9 => ?_)
  rw [h9.1, h9.2]
  clear h9
  refine aw_ifb_eq (q := 13) dX6_set_10 rfl (t := 44) (by decide) (fun y1 => ?_) (fun y2 => ?_)
  · refine aw_aload_n (q := 45) 0 dX6_set_44 rfl rfl rfl ?_
    refine aw_aload_n (q := 46) 0 dX6_set_45 rfl rfl rfl ?_
    refine aw_iconst (q := 47) dX6_set_46 rfl ?_
    refine cv_I (q := 50) (CC := "") (id := 108) (As := [.int (iI 1)]) 1 (c_refuse (T := T) (D := D) (ad := ad) H8) (fun _ h => h) (by omega) (cell_108 ad C _) rfl wc_X6_refuse wm_RX6_82 wi_X6_refuse ws_X6_refuse wn_X6 (by decide) rfl ⟨Nat.le_of_ble_eq_true rfl, Nat.le_of_ble_eq_true rfl⟩ ⟨Nat.le_of_ble_eq_true rfl, Nat.le_of_ble_eq_true rfl⟩ (Nat.le_of_ble_eq_true rfl) dX6_set_47 rfl (fun r9 G9 h9 => ?_)
    rw [h9.1, h9.2]
    clear h9
    refine cv_I (q := 53) (CC := "") (id := 108) (As := [.int (iI 0)]) 1 (c_ends (T := T) (D := D) (ad := ad) (setG H8 11 8 1) (a := 0) (by rw [show (setG H8 11 8 1) 11 4 = G 11 4 from ((setG_ne (by omega)).trans ((s8.2.2 _ _ (by omega))))]; omega) (by rw [show (setG H8 11 8 1) 11 8 = 1 from (setG_same _ _ _ _)]; omega)) (fun _ h => h) (by omega) (cell_108 ad C _) rfl wc_X6_ends wm_RX6_85 wi_X6_ends ws_X6_ends wn_X6 (by decide) rfl ⟨Nat.le_of_ble_eq_true rfl, Nat.le_of_ble_eq_true rfl⟩ ⟨Nat.le_of_ble_eq_true rfl, Nat.le_of_ble_eq_true rfl⟩ (Nat.le_of_ble_eq_true rfl) dX6_set_50 rfl (fun rA HA hA => ?_)
    exact rt_i rfl (Nat.le_refl _) (Nat.le_refl _) (fin_to s8 (by first | (refine Or.inl ⟨by omega, ?_, ?_⟩ <;> rfl) | (exact Or.inr ⟨by omega, (s8.2.2 _ _ (by omega)).symm, rfl⟩)) (fun x y z => (setG_ne (by omega))) hA) dX6_set_53
  · refine aw_iload_n (q := 14) 2 dX6_set_13 rfl rfl rfl ?_
    refine aw_iload_n (q := 15) 1 dX6_set_14 rfl rfl rfl ?_
    refine aw_if_ne (q := 18) dX6_set_15 rfl (t := 22) (by decide) (by omega) (fun _ => ?_) (fun h => absurd h (by omega))
    refine aw_iconst (q := 23) dX6_set_22 rfl ?_
    refine aw_iload_n (q := 24) 1 dX6_set_23 rfl rfl rfl ?_
    refine cs_I (q := 27) (As := [.int (iI 2)]) 1 (c_highest (T := T) (D := D) (ad := ad) H8 (t := 2) (by omega)) (fun _ h => h) wc_X6_highest wm_RX6_79 wt_X6_highest wn_X6 (by decide) rfl ⟨Nat.le_of_ble_eq_true rfl, Nat.le_of_ble_eq_true rfl⟩ ⟨Nat.le_of_ble_eq_true rfl, Nat.le_of_ble_eq_true rfl⟩ (Nat.le_of_ble_eq_true rfl) dX6_set_24 rfl (fun r9 G9 h9 => ?_)
    obtain ⟨e9, g9⟩ := h9
    rw [e9.trans (by decide : (if (2 : Int) = 3 then (1000 : Int) else 100) = 100), g9]
    clear e9 g9
    refine cs_I (q := 30) (As := [.int (iI v), .int (iI 0), .int (iI 100)]) 3 (c_in (T := T) (D := D) (ad := ad) H8 (by omega) (by omega) (by omega)) (fun _ h => h) wc_X6_in wm_RX6_62 wt_X6_in wn_X6 (by decide) rfl ⟨Nat.le_of_ble_eq_true rfl, Nat.le_of_ble_eq_true rfl⟩ ⟨Nat.le_of_ble_eq_true rfl, Nat.le_of_ble_eq_true rfl⟩ (Nat.le_of_ble_eq_true rfl) dX6_set_27 rfl (fun r9 G9 h9 => ?_)
    rw [h9.1, h9.2]
    clear h9
    refine aw_ifb_eq (q := 33) dX6_set_30 rfl (t := 44) (by decide) (fun y3 => ?_) (fun y4 => ?_)
    · refine aw_aload_n (q := 45) 0 dX6_set_44 rfl rfl rfl ?_
      refine aw_aload_n (q := 46) 0 dX6_set_45 rfl rfl rfl ?_
      refine aw_iconst (q := 47) dX6_set_46 rfl ?_
      refine cv_I (q := 50) (CC := "") (id := 108) (As := [.int (iI 1)]) 1 (c_refuse (T := T) (D := D) (ad := ad) H8) (fun _ h => h) (by omega) (cell_108 ad C _) rfl wc_X6_refuse wm_RX6_82 wi_X6_refuse ws_X6_refuse wn_X6 (by decide) rfl ⟨Nat.le_of_ble_eq_true rfl, Nat.le_of_ble_eq_true rfl⟩ ⟨Nat.le_of_ble_eq_true rfl, Nat.le_of_ble_eq_true rfl⟩ (Nat.le_of_ble_eq_true rfl) dX6_set_47 rfl (fun r9 G9 h9 => ?_)
      rw [h9.1, h9.2]
      clear h9
      refine cv_I (q := 53) (CC := "") (id := 108) (As := [.int (iI 0)]) 1 (c_ends (T := T) (D := D) (ad := ad) (setG H8 11 8 1) (a := 0) (by rw [show (setG H8 11 8 1) 11 4 = G 11 4 from ((setG_ne (by omega)).trans ((s8.2.2 _ _ (by omega))))]; omega) (by rw [show (setG H8 11 8 1) 11 8 = 1 from (setG_same _ _ _ _)]; omega)) (fun _ h => h) (by omega) (cell_108 ad C _) rfl wc_X6_ends wm_RX6_85 wi_X6_ends ws_X6_ends wn_X6 (by decide) rfl ⟨Nat.le_of_ble_eq_true rfl, Nat.le_of_ble_eq_true rfl⟩ ⟨Nat.le_of_ble_eq_true rfl, Nat.le_of_ble_eq_true rfl⟩ (Nat.le_of_ble_eq_true rfl) dX6_set_50 rfl (fun rA HA hA => ?_)
      exact rt_i rfl (Nat.le_refl _) (Nat.le_refl _) (fin_to s8 (by first | (refine Or.inl ⟨by omega, ?_, ?_⟩ <;> rfl) | (exact Or.inr ⟨by omega, (s8.2.2 _ _ (by omega)).symm, rfl⟩)) (fun x y z => (setG_ne (by omega))) hA) dX6_set_53
    · refine aw_iload_n (q := 34) 1 dX6_set_33 rfl rfl rfl ?_
      refine aw_iconst (q := 35) dX6_set_34 rfl ?_
      refine aw_icmp_ne (q := 38) dX6_set_35 rfl (t := 54) (by decide) (by omega) (by omega) (fun _ => ?_) (fun h => absurd h (by omega))
      refine aw_aload_n (q := 55) 0 dX6_set_54 rfl rfl rfl ?_
      refine g_mod_p (q := 58) wf_RX6_7 dX6_set_55 rfl ?_
      refine aw_iconst (q := 59) dX6_set_58 rfl ?_
      refine aw_iload_n (q := 60) 1 dX6_set_59 rfl rfl rfl ?_
      refine ae_iadd (q := 61) 2 (by omega) dX6_set_60 rfl ?_
      refine aw_cial (q := 62) (v := (G 12 2)) 2 (ar_109 ad C) (by omega) (by omega) ((s8.2.2 _ _ (by omega))) dX6_set_61 rfl ?_
      refine aw_istore_n (q := 63) (lv2 := [(0, .ref (ad 108)), (1, .int (iI 2)), (2, .int (iI v)), (3, .int (iI (G 12 2)))]) [1, 2, 3, 0] dX6_set_62 rfl rfl (by decide) rfl rfl ?_
      refine aw_aload_n (q := 64) 0 dX6_set_63 rfl rfl rfl ?_
      refine g_mod_p (q := 67) wf_RX6_7 dX6_set_64 rfl ?_
      refine aw_iconst (q := 68) dX6_set_67 rfl ?_
      refine aw_iload_n (q := 69) 1 dX6_set_68 rfl rfl rfl ?_
      refine ae_iadd (q := 70) 2 (by omega) dX6_set_69 rfl ?_
      refine aw_iload_n (q := 71) 2 dX6_set_70 rfl rfl rfl ?_
      refine aw_cias (q := 72) 2 (ar_109 ad C) (by omega) (by omega) dX6_set_71 rfl ?_
      refine aw_aload_n (q := 73) 0 dX6_set_72 rfl rfl rfl ?_
      refine aw_iload_n (q := 74) 3 dX6_set_73 rfl rfl rfl ?_
      refine cv_I (q := 77) (CC := "") (id := 108) (As := [.int (iI (G 12 2))]) 1 (c_ends (T := T) (D := D) (ad := ad) (setG H8 12 2 v) (a := (G 12 2)) (by rw [show (setG H8 12 2 v) 11 4 = G 11 4 from ((setG_ne (by omega)).trans ((s8.2.2 _ _ (by omega))))]; omega) (by rw [show (setG H8 12 2 v) 11 8 = 0 from ((setG_ne (by omega)).trans (s8.1))]; omega)) (fun _ h => h) (by omega) (cell_108 ad C _) rfl wc_X6_ends wm_RX6_85 wi_X6_ends ws_X6_ends wn_X6 (by decide) rfl ⟨Nat.le_of_ble_eq_true rfl, Nat.le_of_ble_eq_true rfl⟩ ⟨Nat.le_of_ble_eq_true rfl, Nat.le_of_ble_eq_true rfl⟩ (Nat.le_of_ble_eq_true rfl) dX6_set_74 rfl (fun rA HA hA => ?_)
      exact rt_i rfl (Nat.le_refl _) (Nat.le_refl _) (fin_to s8 (by first | (refine Or.inl ⟨by omega, ?_, ?_⟩ <;> rfl) | (exact Or.inr ⟨by omega, (s8.2.2 _ _ (by omega)).symm, rfl⟩)) (fun x y z => (setG_ne (by omega))) hA) dX6_set_77
set_option maxHeartbeats 4000000 in
set_option maxRecDepth 100000 in
theorem c_setM3 {l : Launch} {D : va_G} {C : Nat → ClassId} {T : Nat → Nat} {ad : Int → Nat} (G : GG) {v : Int} (h4 : 0 ≤ G 11 4 ∧ G 11 4 ≤ 4) (hv : -2147483648 ≤ v ∧ v ≤ 2147483647) : MC l yX6_set cX6_set 4 (some .int) 2 46 0 0 D (tyC C) T [.ref (ad 108), .int (iI 3), .int (iI v)] (cw ad C G) (RI ad C (fun r G1 => faceM G (setB 3 v (0 ≤ v ∧ v ≤ 1000 ∧ v % 1 = 0)) r G1)) := by
  refine mc_of (by decide +kernel) (Nat.le_of_ble_eq_true rfl) rfl ?_
  refine aw_aload_n (q := 1) 0 dX6_set_0 rfl rfl rfl ?_
  refine cv_V (q := 4) (CC := "") (id := 108) (As := []) 0 (c_holdM (T := T) (D := D) (ad := ad) G) (fun _ h => h) (by omega) (cell_108 ad C _) rfl wc_X6_hold wm_RX6_76 wi_X6_hold ws_X6_hold wn_X6 (by decide) rfl ⟨Nat.le_of_ble_eq_true rfl, Nat.le_of_ble_eq_true rfl⟩ ⟨Nat.le_of_ble_eq_true rfl, Nat.le_of_ble_eq_true rfl⟩ (Nat.le_of_ble_eq_true rfl) dX6_set_1 rfl (fun H8 s8 => ?_)
  refine aw_iload_n (q := 5) 1 dX6_set_4 rfl rfl rfl ?_
  refine aw_iconst (q := 6) dX6_set_5 rfl ?_
  refine aw_iconst (q := 7) dX6_set_6 rfl ?_
  refine cs_I (q := 10) (As := [.int (iI 3), .int (iI 0), .int (iI 4)]) 3 (c_in (T := T) (D := D) (ad := ad) H8 (by omega) (by omega) (by omega)) (fun _ h => h) wc_X6_in wm_RX6_62 wt_X6_in wn_X6 (by decide) rfl ⟨Nat.le_of_ble_eq_true rfl, Nat.le_of_ble_eq_true rfl⟩ ⟨Nat.le_of_ble_eq_true rfl, Nat.le_of_ble_eq_true rfl⟩ (Nat.le_of_ble_eq_true rfl) dX6_set_7 rfl (fun r9 G9 h9 => ?_)
  rw [h9.1, h9.2]
  clear h9
  refine aw_ifb_eq (q := 13) dX6_set_10 rfl (t := 44) (by decide) (fun y1 => ?_) (fun y2 => ?_)
  · refine aw_aload_n (q := 45) 0 dX6_set_44 rfl rfl rfl ?_
    refine aw_aload_n (q := 46) 0 dX6_set_45 rfl rfl rfl ?_
    refine aw_iconst (q := 47) dX6_set_46 rfl ?_
    refine cv_I (q := 50) (CC := "") (id := 108) (As := [.int (iI 1)]) 1 (c_refuse (T := T) (D := D) (ad := ad) H8) (fun _ h => h) (by omega) (cell_108 ad C _) rfl wc_X6_refuse wm_RX6_82 wi_X6_refuse ws_X6_refuse wn_X6 (by decide) rfl ⟨Nat.le_of_ble_eq_true rfl, Nat.le_of_ble_eq_true rfl⟩ ⟨Nat.le_of_ble_eq_true rfl, Nat.le_of_ble_eq_true rfl⟩ (Nat.le_of_ble_eq_true rfl) dX6_set_47 rfl (fun r9 G9 h9 => ?_)
    rw [h9.1, h9.2]
    clear h9
    refine cv_I (q := 53) (CC := "") (id := 108) (As := [.int (iI 0)]) 1 (c_ends (T := T) (D := D) (ad := ad) (setG H8 11 8 1) (a := 0) (by rw [show (setG H8 11 8 1) 11 4 = G 11 4 from ((setG_ne (by omega)).trans ((s8.2.2 _ _ (by omega))))]; omega) (by rw [show (setG H8 11 8 1) 11 8 = 1 from (setG_same _ _ _ _)]; omega)) (fun _ h => h) (by omega) (cell_108 ad C _) rfl wc_X6_ends wm_RX6_85 wi_X6_ends ws_X6_ends wn_X6 (by decide) rfl ⟨Nat.le_of_ble_eq_true rfl, Nat.le_of_ble_eq_true rfl⟩ ⟨Nat.le_of_ble_eq_true rfl, Nat.le_of_ble_eq_true rfl⟩ (Nat.le_of_ble_eq_true rfl) dX6_set_50 rfl (fun rA HA hA => ?_)
    exact rt_i rfl (Nat.le_refl _) (Nat.le_refl _) (fin_to s8 (by first | (refine Or.inl ⟨by omega, ?_, ?_⟩ <;> rfl) | (exact Or.inr ⟨by omega, (s8.2.2 _ _ (by omega)).symm, rfl⟩)) (fun x y z => (setG_ne (by omega))) hA) dX6_set_53
  · refine aw_iload_n (q := 14) 2 dX6_set_13 rfl rfl rfl ?_
    refine aw_iload_n (q := 15) 1 dX6_set_14 rfl rfl rfl ?_
    refine aw_if_ne (q := 18) dX6_set_15 rfl (t := 22) (by decide) (by omega) (fun _ => ?_) (fun h => absurd h (by omega))
    refine aw_iconst (q := 23) dX6_set_22 rfl ?_
    refine aw_iload_n (q := 24) 1 dX6_set_23 rfl rfl rfl ?_
    refine cs_I (q := 27) (As := [.int (iI 3)]) 1 (c_highest (T := T) (D := D) (ad := ad) H8 (t := 3) (by omega)) (fun _ h => h) wc_X6_highest wm_RX6_79 wt_X6_highest wn_X6 (by decide) rfl ⟨Nat.le_of_ble_eq_true rfl, Nat.le_of_ble_eq_true rfl⟩ ⟨Nat.le_of_ble_eq_true rfl, Nat.le_of_ble_eq_true rfl⟩ (Nat.le_of_ble_eq_true rfl) dX6_set_24 rfl (fun r9 G9 h9 => ?_)
    obtain ⟨e9, g9⟩ := h9
    rw [e9.trans (by decide : (if (3 : Int) = 3 then (1000 : Int) else 100) = 1000), g9]
    clear e9 g9
    refine cs_I (q := 30) (As := [.int (iI v), .int (iI 0), .int (iI 1000)]) 3 (c_in (T := T) (D := D) (ad := ad) H8 (by omega) (by omega) (by omega)) (fun _ h => h) wc_X6_in wm_RX6_62 wt_X6_in wn_X6 (by decide) rfl ⟨Nat.le_of_ble_eq_true rfl, Nat.le_of_ble_eq_true rfl⟩ ⟨Nat.le_of_ble_eq_true rfl, Nat.le_of_ble_eq_true rfl⟩ (Nat.le_of_ble_eq_true rfl) dX6_set_27 rfl (fun r9 G9 h9 => ?_)
    rw [h9.1, h9.2]
    clear h9
    refine aw_ifb_eq (q := 33) dX6_set_30 rfl (t := 44) (by decide) (fun y3 => ?_) (fun y4 => ?_)
    · refine aw_aload_n (q := 45) 0 dX6_set_44 rfl rfl rfl ?_
      refine aw_aload_n (q := 46) 0 dX6_set_45 rfl rfl rfl ?_
      refine aw_iconst (q := 47) dX6_set_46 rfl ?_
      refine cv_I (q := 50) (CC := "") (id := 108) (As := [.int (iI 1)]) 1 (c_refuse (T := T) (D := D) (ad := ad) H8) (fun _ h => h) (by omega) (cell_108 ad C _) rfl wc_X6_refuse wm_RX6_82 wi_X6_refuse ws_X6_refuse wn_X6 (by decide) rfl ⟨Nat.le_of_ble_eq_true rfl, Nat.le_of_ble_eq_true rfl⟩ ⟨Nat.le_of_ble_eq_true rfl, Nat.le_of_ble_eq_true rfl⟩ (Nat.le_of_ble_eq_true rfl) dX6_set_47 rfl (fun r9 G9 h9 => ?_)
      rw [h9.1, h9.2]
      clear h9
      refine cv_I (q := 53) (CC := "") (id := 108) (As := [.int (iI 0)]) 1 (c_ends (T := T) (D := D) (ad := ad) (setG H8 11 8 1) (a := 0) (by rw [show (setG H8 11 8 1) 11 4 = G 11 4 from ((setG_ne (by omega)).trans ((s8.2.2 _ _ (by omega))))]; omega) (by rw [show (setG H8 11 8 1) 11 8 = 1 from (setG_same _ _ _ _)]; omega)) (fun _ h => h) (by omega) (cell_108 ad C _) rfl wc_X6_ends wm_RX6_85 wi_X6_ends ws_X6_ends wn_X6 (by decide) rfl ⟨Nat.le_of_ble_eq_true rfl, Nat.le_of_ble_eq_true rfl⟩ ⟨Nat.le_of_ble_eq_true rfl, Nat.le_of_ble_eq_true rfl⟩ (Nat.le_of_ble_eq_true rfl) dX6_set_50 rfl (fun rA HA hA => ?_)
      exact rt_i rfl (Nat.le_refl _) (Nat.le_refl _) (fin_to s8 (by first | (refine Or.inl ⟨by omega, ?_, ?_⟩ <;> rfl) | (exact Or.inr ⟨by omega, (s8.2.2 _ _ (by omega)).symm, rfl⟩)) (fun x y z => (setG_ne (by omega))) hA) dX6_set_53
    · refine aw_iload_n (q := 34) 1 dX6_set_33 rfl rfl rfl ?_
      refine aw_iconst (q := 35) dX6_set_34 rfl ?_
      refine aw_icmp_ne (q := 38) dX6_set_35 rfl (t := 54) (by decide) (by omega) (by omega) (fun _ => ?_) (fun h => absurd h (by omega))
      refine aw_aload_n (q := 55) 0 dX6_set_54 rfl rfl rfl ?_
      refine g_mod_p (q := 58) wf_RX6_7 dX6_set_55 rfl ?_
      refine aw_iconst (q := 59) dX6_set_58 rfl ?_
      refine aw_iload_n (q := 60) 1 dX6_set_59 rfl rfl rfl ?_
      refine ae_iadd (q := 61) 3 (by omega) dX6_set_60 rfl ?_
      refine aw_cial (q := 62) (v := (G 12 3)) 3 (ar_109 ad C) (by omega) (by omega) ((s8.2.2 _ _ (by omega))) dX6_set_61 rfl ?_
      refine aw_istore_n (q := 63) (lv2 := [(0, .ref (ad 108)), (1, .int (iI 3)), (2, .int (iI v)), (3, .int (iI (G 12 3)))]) [1, 2, 3, 0] dX6_set_62 rfl rfl (by decide) rfl rfl ?_
      refine aw_aload_n (q := 64) 0 dX6_set_63 rfl rfl rfl ?_
      refine g_mod_p (q := 67) wf_RX6_7 dX6_set_64 rfl ?_
      refine aw_iconst (q := 68) dX6_set_67 rfl ?_
      refine aw_iload_n (q := 69) 1 dX6_set_68 rfl rfl rfl ?_
      refine ae_iadd (q := 70) 3 (by omega) dX6_set_69 rfl ?_
      refine aw_iload_n (q := 71) 2 dX6_set_70 rfl rfl rfl ?_
      refine aw_cias (q := 72) 3 (ar_109 ad C) (by omega) (by omega) dX6_set_71 rfl ?_
      refine aw_aload_n (q := 73) 0 dX6_set_72 rfl rfl rfl ?_
      refine aw_iload_n (q := 74) 3 dX6_set_73 rfl rfl rfl ?_
      refine cv_I (q := 77) (CC := "") (id := 108) (As := [.int (iI (G 12 3))]) 1 (c_ends (T := T) (D := D) (ad := ad) (setG H8 12 3 v) (a := (G 12 3)) (by rw [show (setG H8 12 3 v) 11 4 = G 11 4 from ((setG_ne (by omega)).trans ((s8.2.2 _ _ (by omega))))]; omega) (by rw [show (setG H8 12 3 v) 11 8 = 0 from ((setG_ne (by omega)).trans (s8.1))]; omega)) (fun _ h => h) (by omega) (cell_108 ad C _) rfl wc_X6_ends wm_RX6_85 wi_X6_ends ws_X6_ends wn_X6 (by decide) rfl ⟨Nat.le_of_ble_eq_true rfl, Nat.le_of_ble_eq_true rfl⟩ ⟨Nat.le_of_ble_eq_true rfl, Nat.le_of_ble_eq_true rfl⟩ (Nat.le_of_ble_eq_true rfl) dX6_set_74 rfl (fun rA HA hA => ?_)
      exact rt_i rfl (Nat.le_refl _) (Nat.le_refl _) (fin_to s8 (by first | (refine Or.inl ⟨by omega, ?_, ?_⟩ <;> rfl) | (exact Or.inr ⟨by omega, (s8.2.2 _ _ (by omega)).symm, rfl⟩)) (fun x y z => (setG_ne (by omega))) hA) dX6_set_77
set_option maxHeartbeats 4000000 in
set_option maxRecDepth 100000 in
theorem c_setM4 {l : Launch} {D : va_G} {C : Nat → ClassId} {T : Nat → Nat} {ad : Int → Nat} (G : GG) {v : Int} (h4 : 0 ≤ G 11 4 ∧ G 11 4 ≤ 4) (hv : -2147483648 ≤ v ∧ v ≤ 2147483647) : MC l yX6_set cX6_set 4 (some .int) 2 46 0 0 D (tyC C) T [.ref (ad 108), .int (iI 4), .int (iI v)] (cw ad C G) (RI ad C (fun r G1 => faceM G (setB 4 v (0 ≤ v ∧ v ≤ 100 ∧ v % 5 = 0)) r G1)) := by
  refine mc_of (by decide +kernel) (Nat.le_of_ble_eq_true rfl) rfl ?_
  refine aw_aload_n (q := 1) 0 dX6_set_0 rfl rfl rfl ?_
  refine cv_V (q := 4) (CC := "") (id := 108) (As := []) 0 (c_holdM (T := T) (D := D) (ad := ad) G) (fun _ h => h) (by omega) (cell_108 ad C _) rfl wc_X6_hold wm_RX6_76 wi_X6_hold ws_X6_hold wn_X6 (by decide) rfl ⟨Nat.le_of_ble_eq_true rfl, Nat.le_of_ble_eq_true rfl⟩ ⟨Nat.le_of_ble_eq_true rfl, Nat.le_of_ble_eq_true rfl⟩ (Nat.le_of_ble_eq_true rfl) dX6_set_1 rfl (fun H8 s8 => ?_)
  refine aw_iload_n (q := 5) 1 dX6_set_4 rfl rfl rfl ?_
  refine aw_iconst (q := 6) dX6_set_5 rfl ?_
  refine aw_iconst (q := 7) dX6_set_6 rfl ?_
  refine cs_I (q := 10) (As := [.int (iI 4), .int (iI 0), .int (iI 4)]) 3 (c_in (T := T) (D := D) (ad := ad) H8 (by omega) (by omega) (by omega)) (fun _ h => h) wc_X6_in wm_RX6_62 wt_X6_in wn_X6 (by decide) rfl ⟨Nat.le_of_ble_eq_true rfl, Nat.le_of_ble_eq_true rfl⟩ ⟨Nat.le_of_ble_eq_true rfl, Nat.le_of_ble_eq_true rfl⟩ (Nat.le_of_ble_eq_true rfl) dX6_set_7 rfl (fun r9 G9 h9 => ?_)
  rw [h9.1, h9.2]
  clear h9
  refine aw_ifb_eq (q := 13) dX6_set_10 rfl (t := 44) (by decide) (fun y1 => ?_) (fun y2 => ?_)
  · refine aw_aload_n (q := 45) 0 dX6_set_44 rfl rfl rfl ?_
    refine aw_aload_n (q := 46) 0 dX6_set_45 rfl rfl rfl ?_
    refine aw_iconst (q := 47) dX6_set_46 rfl ?_
    refine cv_I (q := 50) (CC := "") (id := 108) (As := [.int (iI 1)]) 1 (c_refuse (T := T) (D := D) (ad := ad) H8) (fun _ h => h) (by omega) (cell_108 ad C _) rfl wc_X6_refuse wm_RX6_82 wi_X6_refuse ws_X6_refuse wn_X6 (by decide) rfl ⟨Nat.le_of_ble_eq_true rfl, Nat.le_of_ble_eq_true rfl⟩ ⟨Nat.le_of_ble_eq_true rfl, Nat.le_of_ble_eq_true rfl⟩ (Nat.le_of_ble_eq_true rfl) dX6_set_47 rfl (fun r9 G9 h9 => ?_)
    rw [h9.1, h9.2]
    clear h9
    refine cv_I (q := 53) (CC := "") (id := 108) (As := [.int (iI 0)]) 1 (c_ends (T := T) (D := D) (ad := ad) (setG H8 11 8 1) (a := 0) (by rw [show (setG H8 11 8 1) 11 4 = G 11 4 from ((setG_ne (by omega)).trans ((s8.2.2 _ _ (by omega))))]; omega) (by rw [show (setG H8 11 8 1) 11 8 = 1 from (setG_same _ _ _ _)]; omega)) (fun _ h => h) (by omega) (cell_108 ad C _) rfl wc_X6_ends wm_RX6_85 wi_X6_ends ws_X6_ends wn_X6 (by decide) rfl ⟨Nat.le_of_ble_eq_true rfl, Nat.le_of_ble_eq_true rfl⟩ ⟨Nat.le_of_ble_eq_true rfl, Nat.le_of_ble_eq_true rfl⟩ (Nat.le_of_ble_eq_true rfl) dX6_set_50 rfl (fun rA HA hA => ?_)
    exact rt_i rfl (Nat.le_refl _) (Nat.le_refl _) (fin_to s8 (by first | (refine Or.inl ⟨by omega, ?_, ?_⟩ <;> rfl) | (exact Or.inr ⟨by omega, (s8.2.2 _ _ (by omega)).symm, rfl⟩)) (fun x y z => (setG_ne (by omega))) hA) dX6_set_53
  · refine aw_iload_n (q := 14) 2 dX6_set_13 rfl rfl rfl ?_
    refine aw_iload_n (q := 15) 1 dX6_set_14 rfl rfl rfl ?_
    refine aw_if_ne (q := 18) dX6_set_15 rfl (t := 22) (by decide) (by omega) (fun _ => ?_) (fun h => absurd h (by omega))
    refine aw_iconst (q := 23) dX6_set_22 rfl ?_
    refine aw_iload_n (q := 24) 1 dX6_set_23 rfl rfl rfl ?_
    refine cs_I (q := 27) (As := [.int (iI 4)]) 1 (c_highest (T := T) (D := D) (ad := ad) H8 (t := 4) (by omega)) (fun _ h => h) wc_X6_highest wm_RX6_79 wt_X6_highest wn_X6 (by decide) rfl ⟨Nat.le_of_ble_eq_true rfl, Nat.le_of_ble_eq_true rfl⟩ ⟨Nat.le_of_ble_eq_true rfl, Nat.le_of_ble_eq_true rfl⟩ (Nat.le_of_ble_eq_true rfl) dX6_set_24 rfl (fun r9 G9 h9 => ?_)
    obtain ⟨e9, g9⟩ := h9
    rw [e9.trans (by decide : (if (4 : Int) = 3 then (1000 : Int) else 100) = 100), g9]
    clear e9 g9
    refine cs_I (q := 30) (As := [.int (iI v), .int (iI 0), .int (iI 100)]) 3 (c_in (T := T) (D := D) (ad := ad) H8 (by omega) (by omega) (by omega)) (fun _ h => h) wc_X6_in wm_RX6_62 wt_X6_in wn_X6 (by decide) rfl ⟨Nat.le_of_ble_eq_true rfl, Nat.le_of_ble_eq_true rfl⟩ ⟨Nat.le_of_ble_eq_true rfl, Nat.le_of_ble_eq_true rfl⟩ (Nat.le_of_ble_eq_true rfl) dX6_set_27 rfl (fun r9 G9 h9 => ?_)
    rw [h9.1, h9.2]
    clear h9
    refine aw_ifb_eq (q := 33) dX6_set_30 rfl (t := 44) (by decide) (fun y3 => ?_) (fun y4 => ?_)
    · refine aw_aload_n (q := 45) 0 dX6_set_44 rfl rfl rfl ?_
      refine aw_aload_n (q := 46) 0 dX6_set_45 rfl rfl rfl ?_
      refine aw_iconst (q := 47) dX6_set_46 rfl ?_
      refine cv_I (q := 50) (CC := "") (id := 108) (As := [.int (iI 1)]) 1 (c_refuse (T := T) (D := D) (ad := ad) H8) (fun _ h => h) (by omega) (cell_108 ad C _) rfl wc_X6_refuse wm_RX6_82 wi_X6_refuse ws_X6_refuse wn_X6 (by decide) rfl ⟨Nat.le_of_ble_eq_true rfl, Nat.le_of_ble_eq_true rfl⟩ ⟨Nat.le_of_ble_eq_true rfl, Nat.le_of_ble_eq_true rfl⟩ (Nat.le_of_ble_eq_true rfl) dX6_set_47 rfl (fun r9 G9 h9 => ?_)
      rw [h9.1, h9.2]
      clear h9
      refine cv_I (q := 53) (CC := "") (id := 108) (As := [.int (iI 0)]) 1 (c_ends (T := T) (D := D) (ad := ad) (setG H8 11 8 1) (a := 0) (by rw [show (setG H8 11 8 1) 11 4 = G 11 4 from ((setG_ne (by omega)).trans ((s8.2.2 _ _ (by omega))))]; omega) (by rw [show (setG H8 11 8 1) 11 8 = 1 from (setG_same _ _ _ _)]; omega)) (fun _ h => h) (by omega) (cell_108 ad C _) rfl wc_X6_ends wm_RX6_85 wi_X6_ends ws_X6_ends wn_X6 (by decide) rfl ⟨Nat.le_of_ble_eq_true rfl, Nat.le_of_ble_eq_true rfl⟩ ⟨Nat.le_of_ble_eq_true rfl, Nat.le_of_ble_eq_true rfl⟩ (Nat.le_of_ble_eq_true rfl) dX6_set_50 rfl (fun rA HA hA => ?_)
      exact rt_i rfl (Nat.le_refl _) (Nat.le_refl _) (fin_to s8 (by first | (refine Or.inl ⟨by omega, ?_, ?_⟩ <;> rfl) | (exact Or.inr ⟨by omega, (s8.2.2 _ _ (by omega)).symm, rfl⟩)) (fun x y z => (setG_ne (by omega))) hA) dX6_set_53
    · refine aw_iload_n (q := 34) 1 dX6_set_33 rfl rfl rfl ?_
      refine aw_iconst (q := 35) dX6_set_34 rfl ?_
      refine aw_icmp_ne (q := 38) dX6_set_35 rfl (t := 54) (by decide) (by omega) (by omega) (fun h => absurd h (by omega)) (fun _ => ?_)
      refine aw_iload_n (q := 39) 2 dX6_set_38 rfl rfl rfl ?_
      refine aw_iconst (q := 40) dX6_set_39 rfl ?_
      obtain ⟨d1, hd1⟩ : ∃ z, (v % 5) = z := ⟨_, rfl⟩
      refine aw_rem5 (q := 41) (z := d1) (by omega) (by omega) hd1 dX6_set_40 rfl ?_
      refine aw_if_eq (q := 44) dX6_set_41 rfl (t := 54) (by decide) (by omega) (fun y5 => ?_) (fun y6 => ?_)
      · refine aw_aload_n (q := 55) 0 dX6_set_54 rfl rfl rfl ?_
        refine g_mod_p (q := 58) wf_RX6_7 dX6_set_55 rfl ?_
        refine aw_iconst (q := 59) dX6_set_58 rfl ?_
        refine aw_iload_n (q := 60) 1 dX6_set_59 rfl rfl rfl ?_
        refine ae_iadd (q := 61) 4 (by omega) dX6_set_60 rfl ?_
        refine aw_cial (q := 62) (v := (G 12 4)) 4 (ar_109 ad C) (by omega) (by omega) ((s8.2.2 _ _ (by omega))) dX6_set_61 rfl ?_
        refine aw_istore_n (q := 63) (lv2 := [(0, .ref (ad 108)), (1, .int (iI 4)), (2, .int (iI v)), (3, .int (iI (G 12 4)))]) [1, 2, 3, 0] dX6_set_62 rfl rfl (by decide) rfl rfl ?_
        refine aw_aload_n (q := 64) 0 dX6_set_63 rfl rfl rfl ?_
        refine g_mod_p (q := 67) wf_RX6_7 dX6_set_64 rfl ?_
        refine aw_iconst (q := 68) dX6_set_67 rfl ?_
        refine aw_iload_n (q := 69) 1 dX6_set_68 rfl rfl rfl ?_
        refine ae_iadd (q := 70) 4 (by omega) dX6_set_69 rfl ?_
        refine aw_iload_n (q := 71) 2 dX6_set_70 rfl rfl rfl ?_
        refine aw_cias (q := 72) 4 (ar_109 ad C) (by omega) (by omega) dX6_set_71 rfl ?_
        refine aw_aload_n (q := 73) 0 dX6_set_72 rfl rfl rfl ?_
        refine aw_iload_n (q := 74) 3 dX6_set_73 rfl rfl rfl ?_
        refine cv_I (q := 77) (CC := "") (id := 108) (As := [.int (iI (G 12 4))]) 1 (c_ends (T := T) (D := D) (ad := ad) (setG H8 12 4 v) (a := (G 12 4)) (by rw [show (setG H8 12 4 v) 11 4 = G 11 4 from ((setG_ne (by omega)).trans ((s8.2.2 _ _ (by omega))))]; omega) (by rw [show (setG H8 12 4 v) 11 8 = 0 from ((setG_ne (by omega)).trans (s8.1))]; omega)) (fun _ h => h) (by omega) (cell_108 ad C _) rfl wc_X6_ends wm_RX6_85 wi_X6_ends ws_X6_ends wn_X6 (by decide) rfl ⟨Nat.le_of_ble_eq_true rfl, Nat.le_of_ble_eq_true rfl⟩ ⟨Nat.le_of_ble_eq_true rfl, Nat.le_of_ble_eq_true rfl⟩ (Nat.le_of_ble_eq_true rfl) dX6_set_74 rfl (fun rA HA hA => ?_)
        exact rt_i rfl (Nat.le_refl _) (Nat.le_refl _) (fin_to s8 (by first | (refine Or.inl ⟨by omega, ?_, ?_⟩ <;> rfl) | (exact Or.inr ⟨by omega, (s8.2.2 _ _ (by omega)).symm, rfl⟩)) (fun x y z => (setG_ne (by omega))) hA) dX6_set_77
      · refine aw_aload_n (q := 45) 0 dX6_set_44 rfl rfl rfl ?_
        refine aw_aload_n (q := 46) 0 dX6_set_45 rfl rfl rfl ?_
        refine aw_iconst (q := 47) dX6_set_46 rfl ?_
        refine cv_I (q := 50) (CC := "") (id := 108) (As := [.int (iI 1)]) 1 (c_refuse (T := T) (D := D) (ad := ad) H8) (fun _ h => h) (by omega) (cell_108 ad C _) rfl wc_X6_refuse wm_RX6_82 wi_X6_refuse ws_X6_refuse wn_X6 (by decide) rfl ⟨Nat.le_of_ble_eq_true rfl, Nat.le_of_ble_eq_true rfl⟩ ⟨Nat.le_of_ble_eq_true rfl, Nat.le_of_ble_eq_true rfl⟩ (Nat.le_of_ble_eq_true rfl) dX6_set_47 rfl (fun r9 G9 h9 => ?_)
        rw [h9.1, h9.2]
        clear h9
        refine cv_I (q := 53) (CC := "") (id := 108) (As := [.int (iI 0)]) 1 (c_ends (T := T) (D := D) (ad := ad) (setG H8 11 8 1) (a := 0) (by rw [show (setG H8 11 8 1) 11 4 = G 11 4 from ((setG_ne (by omega)).trans ((s8.2.2 _ _ (by omega))))]; omega) (by rw [show (setG H8 11 8 1) 11 8 = 1 from (setG_same _ _ _ _)]; omega)) (fun _ h => h) (by omega) (cell_108 ad C _) rfl wc_X6_ends wm_RX6_85 wi_X6_ends ws_X6_ends wn_X6 (by decide) rfl ⟨Nat.le_of_ble_eq_true rfl, Nat.le_of_ble_eq_true rfl⟩ ⟨Nat.le_of_ble_eq_true rfl, Nat.le_of_ble_eq_true rfl⟩ (Nat.le_of_ble_eq_true rfl) dX6_set_50 rfl (fun rA HA hA => ?_)
        exact rt_i rfl (Nat.le_refl _) (Nat.le_refl _) (fin_to s8 (by first | (refine Or.inl ⟨by omega, ?_, ?_⟩ <;> rfl) | (exact Or.inr ⟨by omega, (s8.2.2 _ _ (by omega)).symm, rfl⟩)) (fun x y z => (setG_ne (by omega))) hA) dX6_set_53
set_option maxHeartbeats 4000000 in
set_option maxRecDepth 100000 in
theorem c_setMN {l : Launch} {D : va_G} {C : Nat → ClassId} {T : Nat → Nat} {ad : Int → Nat} (G : GG) {w v : Int} (h4 : 0 ≤ G 11 4 ∧ G 11 4 ≤ 4) (hw : -2147483648 ≤ w ∧ w ≤ 2147483647) (hv : -2147483648 ≤ v ∧ v ≤ 2147483647) (hn : ¬ (0 ≤ w ∧ w ≤ 4)) : MC l yX6_set cX6_set 4 (some .int) 2 46 0 0 D (tyC C) T [.ref (ad 108), .int (iI w), .int (iI v)] (cw ad C G) (RI ad C (fun r G1 => faceM G (setB w v False) r G1)) := by
  refine mc_of (by decide +kernel) (Nat.le_of_ble_eq_true rfl) rfl ?_
  refine aw_aload_n (q := 1) 0 dX6_set_0 rfl rfl rfl ?_
  refine cv_V (q := 4) (CC := "") (id := 108) (As := []) 0 (c_holdM (T := T) (D := D) (ad := ad) G) (fun _ h => h) (by omega) (cell_108 ad C _) rfl wc_X6_hold wm_RX6_76 wi_X6_hold ws_X6_hold wn_X6 (by decide) rfl ⟨Nat.le_of_ble_eq_true rfl, Nat.le_of_ble_eq_true rfl⟩ ⟨Nat.le_of_ble_eq_true rfl, Nat.le_of_ble_eq_true rfl⟩ (Nat.le_of_ble_eq_true rfl) dX6_set_1 rfl (fun H8 s8 => ?_)
  refine aw_iload_n (q := 5) 1 dX6_set_4 rfl rfl rfl ?_
  refine aw_iconst (q := 6) dX6_set_5 rfl ?_
  refine aw_iconst (q := 7) dX6_set_6 rfl ?_
  refine cs_I (q := 10) (As := [.int (iI w), .int (iI 0), .int (iI 4)]) 3 (c_in (T := T) (D := D) (ad := ad) H8 (by omega) (by omega) (by omega)) (fun _ h => h) wc_X6_in wm_RX6_62 wt_X6_in wn_X6 (by decide) rfl ⟨Nat.le_of_ble_eq_true rfl, Nat.le_of_ble_eq_true rfl⟩ ⟨Nat.le_of_ble_eq_true rfl, Nat.le_of_ble_eq_true rfl⟩ (Nat.le_of_ble_eq_true rfl) dX6_set_7 rfl (fun r9 G9 h9 => ?_)
  rw [h9.1, h9.2]
  clear h9
  refine aw_ifb_eq (q := 13) dX6_set_10 rfl (t := 44) (by decide) (fun y1 => ?_) (fun y2 => ?_)
  · refine aw_aload_n (q := 45) 0 dX6_set_44 rfl rfl rfl ?_
    refine aw_aload_n (q := 46) 0 dX6_set_45 rfl rfl rfl ?_
    refine aw_iconst (q := 47) dX6_set_46 rfl ?_
    refine cv_I (q := 50) (CC := "") (id := 108) (As := [.int (iI 1)]) 1 (c_refuse (T := T) (D := D) (ad := ad) H8) (fun _ h => h) (by omega) (cell_108 ad C _) rfl wc_X6_refuse wm_RX6_82 wi_X6_refuse ws_X6_refuse wn_X6 (by decide) rfl ⟨Nat.le_of_ble_eq_true rfl, Nat.le_of_ble_eq_true rfl⟩ ⟨Nat.le_of_ble_eq_true rfl, Nat.le_of_ble_eq_true rfl⟩ (Nat.le_of_ble_eq_true rfl) dX6_set_47 rfl (fun r9 G9 h9 => ?_)
    rw [h9.1, h9.2]
    clear h9
    refine cv_I (q := 53) (CC := "") (id := 108) (As := [.int (iI 0)]) 1 (c_ends (T := T) (D := D) (ad := ad) (setG H8 11 8 1) (a := 0) (by rw [show (setG H8 11 8 1) 11 4 = G 11 4 from ((setG_ne (by omega)).trans ((s8.2.2 _ _ (by omega))))]; omega) (by rw [show (setG H8 11 8 1) 11 8 = 1 from (setG_same _ _ _ _)]; omega)) (fun _ h => h) (by omega) (cell_108 ad C _) rfl wc_X6_ends wm_RX6_85 wi_X6_ends ws_X6_ends wn_X6 (by decide) rfl ⟨Nat.le_of_ble_eq_true rfl, Nat.le_of_ble_eq_true rfl⟩ ⟨Nat.le_of_ble_eq_true rfl, Nat.le_of_ble_eq_true rfl⟩ (Nat.le_of_ble_eq_true rfl) dX6_set_50 rfl (fun rA HA hA => ?_)
    exact rt_i rfl (Nat.le_refl _) (Nat.le_refl _) (fin_to s8 (by first | (refine Or.inl ⟨id, ?_, ?_⟩ <;> rfl)) (fun x y z => (setG_ne (by omega))) hA) dX6_set_53
  · refine aw_iload_n (q := 14) 2 dX6_set_13 rfl rfl rfl ?_
    refine aw_iload_n (q := 15) 1 dX6_set_14 rfl rfl rfl ?_
    exact (by omega : False).elim
set_option maxHeartbeats 4000000 in
set_option maxRecDepth 100000 in
theorem c_addCoilM {l : Launch} {D : va_G} {C : Nat → ClassId} {T : Nat → Nat} {ad : Int → Nat} (G : GG) {k b d : Int} (h4 : 0 ≤ G 11 4 ∧ G 11 4 ≤ 4) (oH : okH (G 12)) (hk : -2147483648 ≤ k ∧ k ≤ 2147483647) (hb : -2147483648 ≤ b ∧ b ≤ 2147483647) (hd : -2147483648 ≤ d ∧ d ≤ 2147483647) : MC l yX6_addCoil cX6_addCoil 5 (some .int) 2 46 0 0 D (tyC C) T [.ref (ad 108), .int (iI k), .int (iI b), .int (iI d)] (cw ad C G) (RI ad C (fun r G1 => faceM G (addB k b d) r G1)) := by
  refine mc_of (by decide +kernel) (Nat.le_of_ble_eq_true rfl) rfl ?_
  have o13 := oH.2.1
  refine aw_aload_n (q := 1) 0 dX6_addCoil_0 rfl rfl rfl ?_
  refine cv_V (q := 4) (CC := "") (id := 108) (As := []) 0 (c_holdM (T := T) (D := D) (ad := ad) G) (fun _ h => h) (by omega) (cell_108 ad C _) rfl wc_X6_hold wm_RX6_76 wi_X6_hold ws_X6_hold wn_X6 (by decide) rfl ⟨Nat.le_of_ble_eq_true rfl, Nat.le_of_ble_eq_true rfl⟩ ⟨Nat.le_of_ble_eq_true rfl, Nat.le_of_ble_eq_true rfl⟩ (Nat.le_of_ble_eq_true rfl) dX6_addCoil_1 rfl (fun H8 s8 => ?_)
  refine aw_iload_n (q := 5) 1 dX6_addCoil_4 rfl rfl rfl ?_
  refine aw_iconst (q := 6) dX6_addCoil_5 rfl ?_
  refine aw_iconst (q := 7) dX6_addCoil_6 rfl ?_
  refine cs_I (q := 10) (As := [.int (iI k), .int (iI 0), .int (iI 5)]) 3 (c_in (T := T) (D := D) (ad := ad) H8 (by omega) (by omega) (by omega)) (fun _ h => h) wc_X6_in wm_RX6_62 wt_X6_in wn_X6 (by decide) rfl ⟨Nat.le_of_ble_eq_true rfl, Nat.le_of_ble_eq_true rfl⟩ ⟨Nat.le_of_ble_eq_true rfl, Nat.le_of_ble_eq_true rfl⟩ (Nat.le_of_ble_eq_true rfl) dX6_addCoil_7 rfl (fun r9 G9 h9 => ?_)
  rw [h9.1, h9.2]
  clear h9
  refine aw_ifb_eq (q := 13) dX6_addCoil_10 rfl (t := 29) (by decide) (fun y1 => ?_) (fun y2 => ?_)
  · refine aw_aload_n (q := 30) 0 dX6_addCoil_29 rfl rfl rfl ?_
    refine aw_aload_n (q := 31) 0 dX6_addCoil_30 rfl rfl rfl ?_
    refine aw_iconst (q := 32) dX6_addCoil_31 rfl ?_
    refine cv_I (q := 35) (CC := "") (id := 108) (As := [.int (iI 1)]) 1 (c_refuse (T := T) (D := D) (ad := ad) H8) (fun _ h => h) (by omega) (cell_108 ad C _) rfl wc_X6_refuse wm_RX6_82 wi_X6_refuse ws_X6_refuse wn_X6 (by decide) rfl ⟨Nat.le_of_ble_eq_true rfl, Nat.le_of_ble_eq_true rfl⟩ ⟨Nat.le_of_ble_eq_true rfl, Nat.le_of_ble_eq_true rfl⟩ (Nat.le_of_ble_eq_true rfl) dX6_addCoil_32 rfl (fun r9 G9 h9 => ?_)
    rw [h9.1, h9.2]
    clear h9
    refine cv_I (q := 38) (CC := "") (id := 108) (As := [.int (iI 0)]) 1 (c_ends (T := T) (D := D) (ad := ad) (setG H8 11 8 1) (a := 0) (by rw [show (setG H8 11 8 1) 11 4 = G 11 4 from ((setG_ne (by omega)).trans ((s8.2.2 _ _ (by omega))))]; omega) (by rw [show (setG H8 11 8 1) 11 8 = 1 from (setG_same _ _ _ _)]; omega)) (fun _ h => h) (by omega) (cell_108 ad C _) rfl wc_X6_ends wm_RX6_85 wi_X6_ends ws_X6_ends wn_X6 (by decide) rfl ⟨Nat.le_of_ble_eq_true rfl, Nat.le_of_ble_eq_true rfl⟩ ⟨Nat.le_of_ble_eq_true rfl, Nat.le_of_ble_eq_true rfl⟩ (Nat.le_of_ble_eq_true rfl) dX6_addCoil_35 rfl (fun rA HA hA => ?_)
    exact rt_i rfl (Nat.le_refl _) (Nat.le_refl _) (fin_to s8 (by
        have e13 : H8 12 13 = G 12 13 := s8.2.2 12 13 (by omega)
        unfold addB; rw [e13]
        first | (refine Or.inl ⟨by omega, ?_, ?_⟩ <;> rfl) | (refine Or.inr (Or.inl ⟨⟨by omega, by omega, by omega⟩, by omega, ?_, ?_⟩) <;> rfl) | (refine Or.inr (Or.inr ⟨⟨by omega, by omega, by omega⟩, by omega, ?_, ?_⟩) <;> rfl)) (fun x y z => (setG_ne (by omega))) hA) dX6_addCoil_38
  · refine aw_iload_n (q := 14) 2 dX6_addCoil_13 rfl rfl rfl ?_
    refine aw_iconst (q := 15) dX6_addCoil_14 rfl ?_
    refine cs_I (q := 18) (As := [.int (iI b), .int (iI 5)]) 2 (c_isPrice (T := T) (D := D) (ad := ad) H8 (by omega) (by omega)) (fun _ h => h) wc_X6_isPrice wm_RX6_88 wt_X6_isPrice wn_X6 (by decide) rfl ⟨Nat.le_of_ble_eq_true rfl, Nat.le_of_ble_eq_true rfl⟩ ⟨Nat.le_of_ble_eq_true rfl, Nat.le_of_ble_eq_true rfl⟩ (Nat.le_of_ble_eq_true rfl) dX6_addCoil_15 rfl (fun r9 G9 h9 => ?_)
    rw [h9.1, h9.2]
    clear h9
    refine aw_ifb_eq (q := 21) dX6_addCoil_18 rfl (t := 29) (by decide) (fun y3 => ?_) (fun y4 => ?_)
    · refine aw_aload_n (q := 30) 0 dX6_addCoil_29 rfl rfl rfl ?_
      refine aw_aload_n (q := 31) 0 dX6_addCoil_30 rfl rfl rfl ?_
      refine aw_iconst (q := 32) dX6_addCoil_31 rfl ?_
      refine cv_I (q := 35) (CC := "") (id := 108) (As := [.int (iI 1)]) 1 (c_refuse (T := T) (D := D) (ad := ad) H8) (fun _ h => h) (by omega) (cell_108 ad C _) rfl wc_X6_refuse wm_RX6_82 wi_X6_refuse ws_X6_refuse wn_X6 (by decide) rfl ⟨Nat.le_of_ble_eq_true rfl, Nat.le_of_ble_eq_true rfl⟩ ⟨Nat.le_of_ble_eq_true rfl, Nat.le_of_ble_eq_true rfl⟩ (Nat.le_of_ble_eq_true rfl) dX6_addCoil_32 rfl (fun r9 G9 h9 => ?_)
      rw [h9.1, h9.2]
      clear h9
      refine cv_I (q := 38) (CC := "") (id := 108) (As := [.int (iI 0)]) 1 (c_ends (T := T) (D := D) (ad := ad) (setG H8 11 8 1) (a := 0) (by rw [show (setG H8 11 8 1) 11 4 = G 11 4 from ((setG_ne (by omega)).trans ((s8.2.2 _ _ (by omega))))]; omega) (by rw [show (setG H8 11 8 1) 11 8 = 1 from (setG_same _ _ _ _)]; omega)) (fun _ h => h) (by omega) (cell_108 ad C _) rfl wc_X6_ends wm_RX6_85 wi_X6_ends ws_X6_ends wn_X6 (by decide) rfl ⟨Nat.le_of_ble_eq_true rfl, Nat.le_of_ble_eq_true rfl⟩ ⟨Nat.le_of_ble_eq_true rfl, Nat.le_of_ble_eq_true rfl⟩ (Nat.le_of_ble_eq_true rfl) dX6_addCoil_35 rfl (fun rA HA hA => ?_)
      exact rt_i rfl (Nat.le_refl _) (Nat.le_refl _) (fin_to s8 (by
          have e13 : H8 12 13 = G 12 13 := s8.2.2 12 13 (by omega)
          unfold addB; rw [e13]
          first | (refine Or.inl ⟨by omega, ?_, ?_⟩ <;> rfl) | (refine Or.inr (Or.inl ⟨⟨by omega, by omega, by omega⟩, by omega, ?_, ?_⟩) <;> rfl) | (refine Or.inr (Or.inr ⟨⟨by omega, by omega, by omega⟩, by omega, ?_, ?_⟩) <;> rfl)) (fun x y z => (setG_ne (by omega))) hA) dX6_addCoil_38
    · refine aw_iload_n (q := 22) 3 dX6_addCoil_21 rfl rfl rfl ?_
      refine aw_iload_n (q := 23) 2 dX6_addCoil_22 rfl rfl rfl ?_
      refine cs_I (q := 26) (As := [.int (iI d), .int (iI b)]) 2 (c_isPrice (T := T) (D := D) (ad := ad) H8 (by omega) (by omega)) (fun _ h => h) wc_X6_isPrice wm_RX6_88 wt_X6_isPrice wn_X6 (by decide) rfl ⟨Nat.le_of_ble_eq_true rfl, Nat.le_of_ble_eq_true rfl⟩ ⟨Nat.le_of_ble_eq_true rfl, Nat.le_of_ble_eq_true rfl⟩ (Nat.le_of_ble_eq_true rfl) dX6_addCoil_23 rfl (fun r9 G9 h9 => ?_)
      rw [h9.1, h9.2]
      clear h9
      refine aw_ifb_ne (q := 29) dX6_addCoil_26 rfl (t := 39) (by decide) (fun y5 => ?_) (fun y6 => ?_)
      · refine aw_aload_n (q := 40) 0 dX6_addCoil_39 rfl rfl rfl ?_
        refine g_mod_p (q := 43) wf_RX6_7 dX6_addCoil_40 rfl ?_
        refine aw_bipush (q := 45) dX6_addCoil_43 rfl (by decide) ?_
        refine aw_cial (q := 46) (v := (G 12 13)) 13 (ar_109 ad C) (by omega) (by omega) ((s8.2.2 _ _ (by omega))) dX6_addCoil_45 rfl ?_
        refine aw_bipush (q := 48) dX6_addCoil_46 rfl (by decide) ?_
        refine aw_icmp_ne (q := 51) dX6_addCoil_48 rfl (t := 61) (by decide) (by omega) (by omega) (fun y7 => ?_) (fun y8 => ?_)
        · refine aw_aload_n (q := 62) 0 dX6_addCoil_61 rfl rfl rfl ?_
          refine g_mod_p (q := 65) wf_RX6_7 dX6_addCoil_62 rfl ?_
          refine aw_bipush (q := 67) dX6_addCoil_65 rfl (by decide) ?_
          refine aw_cial (q := 68) (v := (G 12 13)) 13 (ar_109 ad C) (by omega) (by omega) ((s8.2.2 _ _ (by omega))) dX6_addCoil_67 rfl ?_
          refine aw_istore (q := 70) (lv2 := [(0, .ref (ad 108)), (1, .int (iI k)), (2, .int (iI b)), (3, .int (iI d)), (4, .int (iI (G 12 13)))]) [1, 2, 3, 4, 0] dX6_addCoil_68 rfl (by decide) rfl rfl ?_
          refine aw_aload_n (q := 71) 0 dX6_addCoil_70 rfl rfl rfl ?_
          refine aw_iload (q := 73) 4 dX6_addCoil_71 rfl rfl ?_
          refine aw_iconst (q := 74) dX6_addCoil_73 rfl ?_
          refine aw_iload_n (q := 75) 1 dX6_addCoil_74 rfl rfl rfl ?_
          refine cv_V (q := 78) (CC := "") (id := 108) (As := [.int (iI (G 12 13)), .int (iI 0), .int (iI k)]) 3 (c_lay (T := T) (D := D) (ad := ad) H8 (by omega) (by omega)) (fun _ h => h) (by omega) (cell_108 ad C _) rfl wc_X6_lay wm_RX6_92 wi_X6_lay ws_X6_lay wn_X6 (by decide) rfl ⟨Nat.le_of_ble_eq_true rfl, Nat.le_of_ble_eq_true rfl⟩ ⟨Nat.le_of_ble_eq_true rfl, Nat.le_of_ble_eq_true rfl⟩ (Nat.le_of_ble_eq_true rfl) dX6_addCoil_75 rfl (fun G9 h9 => ?_)
          rw [h9, show (15 + 12 * (G 12 13) + 0 : Int) = 15 + 12 * (G 12 13) from Int.add_zero _]
          clear h9
          refine aw_aload_n (q := 79) 0 dX6_addCoil_78 rfl rfl rfl ?_
          refine aw_iload (q := 81) 4 dX6_addCoil_79 rfl rfl ?_
          refine aw_iconst (q := 82) dX6_addCoil_81 rfl ?_
          refine aw_iload_n (q := 83) 2 dX6_addCoil_82 rfl rfl rfl ?_
          refine cv_V (q := 86) (CC := "") (id := 108) (As := [.int (iI (G 12 13)), .int (iI 3), .int (iI b)]) 3 (c_lay (T := T) (D := D) (ad := ad) (setG H8 12 (15 + 12 * (G 12 13)) k) (by omega) (by omega)) (fun _ h => h) (by omega) (cell_108 ad C _) rfl wc_X6_lay wm_RX6_92 wi_X6_lay ws_X6_lay wn_X6 (by decide) rfl ⟨Nat.le_of_ble_eq_true rfl, Nat.le_of_ble_eq_true rfl⟩ ⟨Nat.le_of_ble_eq_true rfl, Nat.le_of_ble_eq_true rfl⟩ (Nat.le_of_ble_eq_true rfl) dX6_addCoil_83 rfl (fun G9 h9 => ?_)
          rw [h9]
          clear h9
          refine aw_aload_n (q := 87) 0 dX6_addCoil_86 rfl rfl rfl ?_
          refine aw_iload (q := 89) 4 dX6_addCoil_87 rfl rfl ?_
          refine aw_iconst (q := 90) dX6_addCoil_89 rfl ?_
          refine aw_iload_n (q := 91) 3 dX6_addCoil_90 rfl rfl rfl ?_
          refine cv_V (q := 94) (CC := "") (id := 108) (As := [.int (iI (G 12 13)), .int (iI 4), .int (iI d)]) 3 (c_lay (T := T) (D := D) (ad := ad) (setG (setG H8 12 (15 + 12 * (G 12 13)) k) 12 (15 + 12 * (G 12 13) + 3) b) (by omega) (by omega)) (fun _ h => h) (by omega) (cell_108 ad C _) rfl wc_X6_lay wm_RX6_92 wi_X6_lay ws_X6_lay wn_X6 (by decide) rfl ⟨Nat.le_of_ble_eq_true rfl, Nat.le_of_ble_eq_true rfl⟩ ⟨Nat.le_of_ble_eq_true rfl, Nat.le_of_ble_eq_true rfl⟩ (Nat.le_of_ble_eq_true rfl) dX6_addCoil_91 rfl (fun G9 h9 => ?_)
          rw [h9]
          clear h9
          refine aw_aload_n (q := 95) 0 dX6_addCoil_94 rfl rfl rfl ?_
          refine aw_iload (q := 97) 4 dX6_addCoil_95 rfl rfl ?_
          refine aw_iconst (q := 98) dX6_addCoil_97 rfl ?_
          refine aw_iload_n (q := 99) 2 dX6_addCoil_98 rfl rfl rfl ?_
          refine cv_V (q := 102) (CC := "") (id := 108) (As := [.int (iI (G 12 13)), .int (iI 2), .int (iI b)]) 3 (c_lay (T := T) (D := D) (ad := ad) (setG (setG (setG H8 12 (15 + 12 * (G 12 13)) k) 12 (15 + 12 * (G 12 13) + 3) b) 12 (15 + 12 * (G 12 13) + 4) d) (by omega) (by omega)) (fun _ h => h) (by omega) (cell_108 ad C _) rfl wc_X6_lay wm_RX6_92 wi_X6_lay ws_X6_lay wn_X6 (by decide) rfl ⟨Nat.le_of_ble_eq_true rfl, Nat.le_of_ble_eq_true rfl⟩ ⟨Nat.le_of_ble_eq_true rfl, Nat.le_of_ble_eq_true rfl⟩ (Nat.le_of_ble_eq_true rfl) dX6_addCoil_99 rfl (fun G9 h9 => ?_)
          rw [h9]
          clear h9
          refine aw_aload_n (q := 103) 0 dX6_addCoil_102 rfl rfl rfl ?_
          refine g_mod_p (q := 106) wf_RX6_7 dX6_addCoil_103 rfl ?_
          refine aw_bipush (q := 108) dX6_addCoil_106 rfl (by decide) ?_
          refine aw_dup2 (q := 109) dX6_addCoil_108 rfl rfl rfl ?_
          refine aw_cial (q := 110) (v := (G 12 13)) 13 (ar_109 ad C) (by omega) (by omega) ((setG_ne (by omega)).trans ((setG_ne (by omega)).trans ((setG_ne (by omega)).trans ((setG_ne (by omega)).trans ((s8.2.2 _ _ (by omega))))))) dX6_addCoil_109 rfl ?_
          refine aw_iconst (q := 111) dX6_addCoil_110 rfl ?_
          refine ae_iadd (q := 112) ((G 12 13) + 1) (by omega) dX6_addCoil_111 rfl ?_
          refine aw_cias (q := 113) 13 (ar_109 ad C) (by omega) (by omega) dX6_addCoil_112 rfl ?_
          refine aw_aload_n (q := 114) 0 dX6_addCoil_113 rfl rfl rfl ?_
          refine aw_iload (q := 116) 4 dX6_addCoil_114 rfl rfl ?_
          refine cv_I (q := 119) (CC := "") (id := 108) (As := [.int (iI (G 12 13))]) 1 (c_ends (T := T) (D := D) (ad := ad) (setG (setG (setG (setG (setG H8 12 (15 + 12 * (G 12 13)) k) 12 (15 + 12 * (G 12 13) + 3) b) 12 (15 + 12 * (G 12 13) + 4) d) 12 (15 + 12 * (G 12 13) + 2) b) 12 13 ((G 12 13) + 1)) (a := (G 12 13)) (by rw [show (setG (setG (setG (setG (setG H8 12 (15 + 12 * (G 12 13)) k) 12 (15 + 12 * (G 12 13) + 3) b) 12 (15 + 12 * (G 12 13) + 4) d) 12 (15 + 12 * (G 12 13) + 2) b) 12 13 ((G 12 13) + 1)) 11 4 = G 11 4 from ((setG_ne (by omega)).trans ((setG_ne (by omega)).trans ((setG_ne (by omega)).trans ((setG_ne (by omega)).trans ((setG_ne (by omega)).trans ((s8.2.2 _ _ (by omega))))))))]; omega) (by rw [show (setG (setG (setG (setG (setG H8 12 (15 + 12 * (G 12 13)) k) 12 (15 + 12 * (G 12 13) + 3) b) 12 (15 + 12 * (G 12 13) + 4) d) 12 (15 + 12 * (G 12 13) + 2) b) 12 13 ((G 12 13) + 1)) 11 8 = 0 from ((setG_ne (by omega)).trans ((setG_ne (by omega)).trans ((setG_ne (by omega)).trans ((setG_ne (by omega)).trans ((setG_ne (by omega)).trans (s8.1))))))]; omega)) (fun _ h => h) (by omega) (cell_108 ad C _) rfl wc_X6_ends wm_RX6_85 wi_X6_ends ws_X6_ends wn_X6 (by decide) rfl ⟨Nat.le_of_ble_eq_true rfl, Nat.le_of_ble_eq_true rfl⟩ ⟨Nat.le_of_ble_eq_true rfl, Nat.le_of_ble_eq_true rfl⟩ (Nat.le_of_ble_eq_true rfl) dX6_addCoil_116 rfl (fun rA HA hA => ?_)
          exact rt_i rfl (Nat.le_refl _) (Nat.le_refl _) (fin_to s8 (by
              have e13 : H8 12 13 = G 12 13 := s8.2.2 12 13 (by omega)
              unfold addB; rw [e13]
              first | (refine Or.inl ⟨by omega, ?_, ?_⟩ <;> rfl) | (refine Or.inr (Or.inl ⟨⟨by omega, by omega, by omega⟩, by omega, ?_, ?_⟩) <;> rfl) | (refine Or.inr (Or.inr ⟨⟨by omega, by omega, by omega⟩, by omega, ?_, ?_⟩) <;> rfl)) (fun x y z => ((setG_ne (by omega)).trans ((setG_ne (by omega)).trans ((setG_ne (by omega)).trans ((setG_ne (by omega)).trans (setG_ne (by omega))))))) hA) dX6_addCoil_119
        · refine aw_aload_n (q := 52) 0 dX6_addCoil_51 rfl rfl rfl ?_
          refine aw_aload_n (q := 53) 0 dX6_addCoil_52 rfl rfl rfl ?_
          refine aw_iconst (q := 54) dX6_addCoil_53 rfl ?_
          refine cv_I (q := 57) (CC := "") (id := 108) (As := [.int (iI 2)]) 1 (c_refuse (T := T) (D := D) (ad := ad) H8) (fun _ h => h) (by omega) (cell_108 ad C _) rfl wc_X6_refuse wm_RX6_82 wi_X6_refuse ws_X6_refuse wn_X6 (by decide) rfl ⟨Nat.le_of_ble_eq_true rfl, Nat.le_of_ble_eq_true rfl⟩ ⟨Nat.le_of_ble_eq_true rfl, Nat.le_of_ble_eq_true rfl⟩ (Nat.le_of_ble_eq_true rfl) dX6_addCoil_54 rfl (fun r9 G9 h9 => ?_)
          rw [h9.1, h9.2]
          clear h9
          refine cv_I (q := 60) (CC := "") (id := 108) (As := [.int (iI 0)]) 1 (c_ends (T := T) (D := D) (ad := ad) (setG H8 11 8 2) (a := 0) (by rw [show (setG H8 11 8 2) 11 4 = G 11 4 from ((setG_ne (by omega)).trans ((s8.2.2 _ _ (by omega))))]; omega) (by rw [show (setG H8 11 8 2) 11 8 = 2 from (setG_same _ _ _ _)]; omega)) (fun _ h => h) (by omega) (cell_108 ad C _) rfl wc_X6_ends wm_RX6_85 wi_X6_ends ws_X6_ends wn_X6 (by decide) rfl ⟨Nat.le_of_ble_eq_true rfl, Nat.le_of_ble_eq_true rfl⟩ ⟨Nat.le_of_ble_eq_true rfl, Nat.le_of_ble_eq_true rfl⟩ (Nat.le_of_ble_eq_true rfl) dX6_addCoil_57 rfl (fun rA HA hA => ?_)
          exact rt_i rfl (Nat.le_refl _) (Nat.le_refl _) (fin_to s8 (by
              have e13 : H8 12 13 = G 12 13 := s8.2.2 12 13 (by omega)
              unfold addB; rw [e13]
              first | (refine Or.inl ⟨by omega, ?_, ?_⟩ <;> rfl) | (refine Or.inr (Or.inl ⟨⟨by omega, by omega, by omega⟩, by omega, ?_, ?_⟩) <;> rfl) | (refine Or.inr (Or.inr ⟨⟨by omega, by omega, by omega⟩, by omega, ?_, ?_⟩) <;> rfl)) (fun x y z => (setG_ne (by omega))) hA) dX6_addCoil_60
      · refine aw_aload_n (q := 30) 0 dX6_addCoil_29 rfl rfl rfl ?_
        refine aw_aload_n (q := 31) 0 dX6_addCoil_30 rfl rfl rfl ?_
        refine aw_iconst (q := 32) dX6_addCoil_31 rfl ?_
        refine cv_I (q := 35) (CC := "") (id := 108) (As := [.int (iI 1)]) 1 (c_refuse (T := T) (D := D) (ad := ad) H8) (fun _ h => h) (by omega) (cell_108 ad C _) rfl wc_X6_refuse wm_RX6_82 wi_X6_refuse ws_X6_refuse wn_X6 (by decide) rfl ⟨Nat.le_of_ble_eq_true rfl, Nat.le_of_ble_eq_true rfl⟩ ⟨Nat.le_of_ble_eq_true rfl, Nat.le_of_ble_eq_true rfl⟩ (Nat.le_of_ble_eq_true rfl) dX6_addCoil_32 rfl (fun r9 G9 h9 => ?_)
        rw [h9.1, h9.2]
        clear h9
        refine cv_I (q := 38) (CC := "") (id := 108) (As := [.int (iI 0)]) 1 (c_ends (T := T) (D := D) (ad := ad) (setG H8 11 8 1) (a := 0) (by rw [show (setG H8 11 8 1) 11 4 = G 11 4 from ((setG_ne (by omega)).trans ((s8.2.2 _ _ (by omega))))]; omega) (by rw [show (setG H8 11 8 1) 11 8 = 1 from (setG_same _ _ _ _)]; omega)) (fun _ h => h) (by omega) (cell_108 ad C _) rfl wc_X6_ends wm_RX6_85 wi_X6_ends ws_X6_ends wn_X6 (by decide) rfl ⟨Nat.le_of_ble_eq_true rfl, Nat.le_of_ble_eq_true rfl⟩ ⟨Nat.le_of_ble_eq_true rfl, Nat.le_of_ble_eq_true rfl⟩ (Nat.le_of_ble_eq_true rfl) dX6_addCoil_35 rfl (fun rA HA hA => ?_)
        exact rt_i rfl (Nat.le_refl _) (Nat.le_refl _) (fin_to s8 (by
            have e13 : H8 12 13 = G 12 13 := s8.2.2 12 13 (by omega)
            unfold addB; rw [e13]
            first | (refine Or.inl ⟨by omega, ?_, ?_⟩ <;> rfl) | (refine Or.inr (Or.inl ⟨⟨by omega, by omega, by omega⟩, by omega, ?_, ?_⟩) <;> rfl) | (refine Or.inr (Or.inr ⟨⟨by omega, by omega, by omega⟩, by omega, ?_, ?_⟩) <;> rfl)) (fun x y z => (setG_ne (by omega))) hA) dX6_addCoil_38
set_option maxHeartbeats 4000000 in
set_option maxRecDepth 100000 in
theorem c_doStock {l : Launch} {D : va_G} {C : Nat → ClassId} {T : Nat → Nat} {ad : Int → Nat} (G : GG) {c n : Int} (oH : okH (G 12)) (hc : -2147483648 ≤ c ∧ c ≤ 2147483647) (hn : -2147483648 ≤ n ∧ n ≤ 2147483647) : MC l yX6_doStock cX6_doStock 3 (some .int) 2 43 0 0 D (tyC C) T [.ref (ad 108), .int (iI c), .int (iI n)] (cw ad C G) (RI ad C (stockB c n G)) := by
  refine mc_of (by decide +kernel) (Nat.le_of_ble_eq_true rfl) rfl ?_
  have o13 := oH.2.1
  refine aw_aload_n (q := 1) 0 dX6_doStock_0 rfl rfl rfl ?_
  refine aw_iload_n (q := 2) 1 dX6_doStock_1 rfl rfl rfl ?_
  refine cv_I (q := 5) (CC := "") (id := 108) (As := [.int (iI c)]) 1 (c_isCoil (T := T) (D := D) (ad := ad) G (by rw [show G 12 13 = (G 12 13) from rfl]; omega) (by omega)) (fun _ h => h) (by omega) (cell_108 ad C _) rfl wc_X6_isCoil wm_RX6_96 wi_X6_isCoil ws_X6_isCoil wn_X6 (by decide) rfl ⟨Nat.le_of_ble_eq_true rfl, Nat.le_of_ble_eq_true rfl⟩ ⟨Nat.le_of_ble_eq_true rfl, Nat.le_of_ble_eq_true rfl⟩ (Nat.le_of_ble_eq_true rfl) dX6_doStock_2 rfl (fun r9 G9 h9 => ?_)
  obtain ⟨e9, g9⟩ := h9
  rw [e9.trans (b2i_c (by rw [show G 12 13 = (G 12 13) from rfl])), g9]
  clear e9 g9
  refine aw_ifb_ne (q := 8) dX6_doStock_5 rfl (t := 14) (by decide) (fun y1 => ?_) (fun y2 => ?_)
  · refine aw_iload_n (q := 15) 2 dX6_doStock_14 rfl rfl rfl ?_
    refine aw_iconst (q := 16) dX6_doStock_15 rfl ?_
    refine aw_bipush (q := 18) dX6_doStock_16 rfl (by decide) ?_
    refine cs_I (q := 21) (As := [.int (iI n), .int (iI 1), .int (iI 20)]) 3 (c_in (T := T) (D := D) (ad := ad) G (by omega) (by omega) (by omega)) (fun _ h => h) wc_X6_in wm_RX6_62 wt_X6_in wn_X6 (by decide) rfl ⟨Nat.le_of_ble_eq_true rfl, Nat.le_of_ble_eq_true rfl⟩ ⟨Nat.le_of_ble_eq_true rfl, Nat.le_of_ble_eq_true rfl⟩ (Nat.le_of_ble_eq_true rfl) dX6_doStock_18 rfl (fun r9 G9 h9 => ?_)
    rw [h9.1, h9.2]
    clear h9
    refine aw_ifb_ne (q := 24) dX6_doStock_21 rfl (t := 30) (by decide) (fun y3 => ?_) (fun y4 => ?_)
    · have oc := (oH.2.2 c (by omega) (by omega)).1
      refine aw_aload_n (q := 31) 0 dX6_doStock_30 rfl rfl rfl ?_
      refine aw_iload_n (q := 32) 1 dX6_doStock_31 rfl rfl rfl ?_
      refine aw_iconst (q := 33) dX6_doStock_32 rfl ?_
      refine cv_I (q := 36) (CC := "") (id := 108) (As := [.int (iI c), .int (iI 1)]) 2 (c_of (T := T) (D := D) (ad := ad) G (by omega) (by omega)) (fun _ h => h) (by omega) (cell_108 ad C _) rfl wc_X6_of wm_RX6_100 wi_X6_of ws_X6_of wn_X6 (by decide) rfl ⟨Nat.le_of_ble_eq_true rfl, Nat.le_of_ble_eq_true rfl⟩ ⟨Nat.le_of_ble_eq_true rfl, Nat.le_of_ble_eq_true rfl⟩ (Nat.le_of_ble_eq_true rfl) dX6_doStock_33 rfl (fun r9 G9 h9 => ?_)
      obtain ⟨e9, g9⟩ := h9
      rw [e9.trans (rfl), g9]
      clear e9 g9
      refine aw_iload_n (q := 37) 2 dX6_doStock_36 rfl rfl rfl ?_
      refine ae_iadd (q := 38) ((G 12 (15 + 12 * c + 1)) + n) (by omega) dX6_doStock_37 rfl ?_
      refine aw_bipush (q := 40) dX6_doStock_38 rfl (by decide) ?_
      refine aw_icmp_le (q := 43) dX6_doStock_40 rfl (t := 49) (by decide) (by omega) (by omega) (fun y5 => ?_) (fun y6 => ?_)
      · refine aw_aload_n (q := 50) 0 dX6_doStock_49 rfl rfl rfl ?_
        refine aw_iload_n (q := 51) 1 dX6_doStock_50 rfl rfl rfl ?_
        refine aw_iconst (q := 52) dX6_doStock_51 rfl ?_
        refine aw_aload_n (q := 53) 0 dX6_doStock_52 rfl rfl rfl ?_
        refine aw_iload_n (q := 54) 1 dX6_doStock_53 rfl rfl rfl ?_
        refine aw_iconst (q := 55) dX6_doStock_54 rfl ?_
        refine cv_I (q := 58) (CC := "") (id := 108) (As := [.int (iI c), .int (iI 1)]) 2 (c_of (T := T) (D := D) (ad := ad) G (by omega) (by omega)) (fun _ h => h) (by omega) (cell_108 ad C _) rfl wc_X6_of wm_RX6_100 wi_X6_of ws_X6_of wn_X6 (by decide) rfl ⟨Nat.le_of_ble_eq_true rfl, Nat.le_of_ble_eq_true rfl⟩ ⟨Nat.le_of_ble_eq_true rfl, Nat.le_of_ble_eq_true rfl⟩ (Nat.le_of_ble_eq_true rfl) dX6_doStock_55 rfl (fun r9 G9 h9 => ?_)
        obtain ⟨e9, g9⟩ := h9
        rw [e9.trans (rfl), g9]
        clear e9 g9
        refine aw_iload_n (q := 59) 2 dX6_doStock_58 rfl rfl rfl ?_
        refine ae_iadd (q := 60) ((G 12 (15 + 12 * c + 1)) + n) (by omega) dX6_doStock_59 rfl ?_
        refine cv_V (q := 63) (CC := "") (id := 108) (As := [.int (iI c), .int (iI 1), .int (iI ((G 12 (15 + 12 * c + 1)) + n))]) 3 (c_lay (T := T) (D := D) (ad := ad) G (by omega) (by omega)) (fun _ h => h) (by omega) (cell_108 ad C _) rfl wc_X6_lay wm_RX6_92 wi_X6_lay ws_X6_lay wn_X6 (by decide) rfl ⟨Nat.le_of_ble_eq_true rfl, Nat.le_of_ble_eq_true rfl⟩ ⟨Nat.le_of_ble_eq_true rfl, Nat.le_of_ble_eq_true rfl⟩ (Nat.le_of_ble_eq_true rfl) dX6_doStock_60 rfl (fun G9 h9 => ?_)
        rw [h9]
        clear h9
        refine aw_aload_n (q := 64) 0 dX6_doStock_63 rfl rfl rfl ?_
        refine aw_iload_n (q := 65) 1 dX6_doStock_64 rfl rfl rfl ?_
        refine aw_iconst (q := 66) dX6_doStock_65 rfl ?_
        refine cv_I (q := 69) (CC := "") (id := 108) (As := [.int (iI c), .int (iI 1)]) 2 (c_of (T := T) (D := D) (ad := ad) (setG G 12 (15 + 12 * c + 1) ((G 12 (15 + 12 * c + 1)) + n)) (by omega) (by omega)) (fun _ h => h) (by omega) (cell_108 ad C _) rfl wc_X6_of wm_RX6_100 wi_X6_of ws_X6_of wn_X6 (by decide) rfl ⟨Nat.le_of_ble_eq_true rfl, Nat.le_of_ble_eq_true rfl⟩ ⟨Nat.le_of_ble_eq_true rfl, Nat.le_of_ble_eq_true rfl⟩ (Nat.le_of_ble_eq_true rfl) dX6_doStock_66 rfl (fun r9 G9 h9 => ?_)
        obtain ⟨e9, g9⟩ := h9
        rw [e9.trans ((setG_same _ _ _ _)), g9]
        clear e9 g9
        exact rt_i rfl (Nat.le_refl _) (Nat.le_refl _) (by first | (refine Or.inl ⟨by omega, ?_, ?_⟩ <;> rfl) | (refine Or.inr (Or.inl ⟨by omega, by omega, ?_, ?_⟩) <;> rfl) | (refine Or.inr (Or.inr (Or.inl ⟨by omega, by omega, by omega, ?_, ?_⟩)) <;> rfl) | (refine Or.inr (Or.inr (Or.inr ⟨by omega, by omega, by omega, ?_, ?_⟩)) <;> rfl)) dX6_doStock_69
      · refine aw_aload_n (q := 44) 0 dX6_doStock_43 rfl rfl rfl ?_
        refine aw_iconst (q := 45) dX6_doStock_44 rfl ?_
        refine cv_I (q := 48) (CC := "") (id := 108) (As := [.int (iI 3)]) 1 (c_refuse (T := T) (D := D) (ad := ad) G) (fun _ h => h) (by omega) (cell_108 ad C _) rfl wc_X6_refuse wm_RX6_82 wi_X6_refuse ws_X6_refuse wn_X6 (by decide) rfl ⟨Nat.le_of_ble_eq_true rfl, Nat.le_of_ble_eq_true rfl⟩ ⟨Nat.le_of_ble_eq_true rfl, Nat.le_of_ble_eq_true rfl⟩ (Nat.le_of_ble_eq_true rfl) dX6_doStock_45 rfl (fun r9 G9 h9 => ?_)
        rw [h9.1, h9.2]
        clear h9
        exact rt_i rfl (Nat.le_refl _) (Nat.le_refl _) (by first | (refine Or.inl ⟨by omega, ?_, ?_⟩ <;> rfl) | (refine Or.inr (Or.inl ⟨by omega, by omega, ?_, ?_⟩) <;> rfl) | (refine Or.inr (Or.inr (Or.inl ⟨by omega, by omega, by omega, ?_, ?_⟩)) <;> rfl) | (refine Or.inr (Or.inr (Or.inr ⟨by omega, by omega, by omega, ?_, ?_⟩)) <;> rfl)) dX6_doStock_48
    · refine aw_aload_n (q := 25) 0 dX6_doStock_24 rfl rfl rfl ?_
      refine aw_iconst (q := 26) dX6_doStock_25 rfl ?_
      refine cv_I (q := 29) (CC := "") (id := 108) (As := [.int (iI 2)]) 1 (c_refuse (T := T) (D := D) (ad := ad) G) (fun _ h => h) (by omega) (cell_108 ad C _) rfl wc_X6_refuse wm_RX6_82 wi_X6_refuse ws_X6_refuse wn_X6 (by decide) rfl ⟨Nat.le_of_ble_eq_true rfl, Nat.le_of_ble_eq_true rfl⟩ ⟨Nat.le_of_ble_eq_true rfl, Nat.le_of_ble_eq_true rfl⟩ (Nat.le_of_ble_eq_true rfl) dX6_doStock_26 rfl (fun r9 G9 h9 => ?_)
      rw [h9.1, h9.2]
      clear h9
      exact rt_i rfl (Nat.le_refl _) (Nat.le_refl _) (by first | (refine Or.inl ⟨by omega, ?_, ?_⟩ <;> rfl) | (refine Or.inr (Or.inl ⟨by omega, by omega, ?_, ?_⟩) <;> rfl) | (refine Or.inr (Or.inr (Or.inl ⟨by omega, by omega, by omega, ?_, ?_⟩)) <;> rfl) | (refine Or.inr (Or.inr (Or.inr ⟨by omega, by omega, by omega, ?_, ?_⟩)) <;> rfl)) dX6_doStock_29
  · refine aw_aload_n (q := 9) 0 dX6_doStock_8 rfl rfl rfl ?_
    refine aw_iconst (q := 10) dX6_doStock_9 rfl ?_
    refine cv_I (q := 13) (CC := "") (id := 108) (As := [.int (iI 1)]) 1 (c_refuse (T := T) (D := D) (ad := ad) G) (fun _ h => h) (by omega) (cell_108 ad C _) rfl wc_X6_refuse wm_RX6_82 wi_X6_refuse ws_X6_refuse wn_X6 (by decide) rfl ⟨Nat.le_of_ble_eq_true rfl, Nat.le_of_ble_eq_true rfl⟩ ⟨Nat.le_of_ble_eq_true rfl, Nat.le_of_ble_eq_true rfl⟩ (Nat.le_of_ble_eq_true rfl) dX6_doStock_10 rfl (fun r9 G9 h9 => ?_)
    rw [h9.1, h9.2]
    clear h9
    exact rt_i rfl (Nat.le_refl _) (Nat.le_refl _) (by first | (refine Or.inl ⟨by omega, ?_, ?_⟩ <;> rfl) | (refine Or.inr (Or.inl ⟨by omega, by omega, ?_, ?_⟩) <;> rfl) | (refine Or.inr (Or.inr (Or.inl ⟨by omega, by omega, by omega, ?_, ?_⟩)) <;> rfl) | (refine Or.inr (Or.inr (Or.inr ⟨by omega, by omega, by omega, ?_, ?_⟩)) <;> rfl)) dX6_doStock_13
set_option maxHeartbeats 4000000 in
set_option maxRecDepth 100000 in
theorem c_stockM {l : Launch} {D : va_G} {C : Nat → ClassId} {T : Nat → Nat} {ad : Int → Nat} (G : GG) {c n : Int} (h4 : 0 ≤ G 11 4 ∧ G 11 4 ≤ 4) (oH : okH (G 12)) (hc : -2147483648 ≤ c ∧ c ≤ 2147483647) (hn : -2147483648 ≤ n ∧ n ≤ 2147483647) : MC l yX6_stock cX6_stock 3 (some .int) 3 65 0 0 D (tyC C) T [.ref (ad 108), .int (iI c), .int (iI n)] (cw ad C G) (RI ad C (fun r G1 => faceM G (stockB c n) r G1)) := by
  refine mc_of (by decide +kernel) (Nat.le_of_ble_eq_true rfl) rfl ?_
  refine aw_aload_n (q := 1) 0 dX6_stock_0 rfl rfl rfl ?_
  refine cv_V (q := 4) (CC := "") (id := 108) (As := []) 0 (c_holdM (T := T) (D := D) (ad := ad) G) (fun _ h => h) (by omega) (cell_108 ad C _) rfl wc_X6_hold wm_RX6_76 wi_X6_hold ws_X6_hold wn_X6 (by decide) rfl ⟨Nat.le_of_ble_eq_true rfl, Nat.le_of_ble_eq_true rfl⟩ ⟨Nat.le_of_ble_eq_true rfl, Nat.le_of_ble_eq_true rfl⟩ (Nat.le_of_ble_eq_true rfl) dX6_stock_1 rfl (fun H8 s8 => ?_)
  refine aw_aload_n (q := 5) 0 dX6_stock_4 rfl rfl rfl ?_
  refine aw_aload_n (q := 6) 0 dX6_stock_5 rfl rfl rfl ?_
  refine aw_iload_n (q := 7) 1 dX6_stock_6 rfl rfl rfl ?_
  refine aw_iload_n (q := 8) 2 dX6_stock_7 rfl rfl rfl ?_
  refine cv_I (q := 11) (CC := "") (id := 108) (As := [.int (iI c), .int (iI n)]) 2 (c_doStock (T := T) (D := D) (ad := ad) H8 (by rw [hold_row s8]; exact oH) (by omega) (by omega)) (fun _ h => h) (by omega) (cell_108 ad C _) rfl wc_X6_doStock wm_RX6_104 wi_X6_doStock ws_X6_doStock wn_X6 (by decide) rfl ⟨Nat.le_of_ble_eq_true rfl, Nat.le_of_ble_eq_true rfl⟩ ⟨Nat.le_of_ble_eq_true rfl, Nat.le_of_ble_eq_true rfl⟩ (Nat.le_of_ble_eq_true rfl) dX6_stock_8 rfl (fun r2 H h2 => ?_)
  have fr := stockB_fr h2
  have c8 := stockB_8 s8.1 h2
  refine cv_I (q := 14) (CC := "") (id := 108) (As := [.int (iI r2)]) 1 (c_ends (T := T) (D := D) (ad := ad) H (a := r2) (by rw [show H 11 4 = G 11 4 from (((fr _ _ (by omega)).trans (s8.2.2 _ _ (by omega))))]; omega) (by omega)) (fun _ h => h) (by omega) (cell_108 ad C _) rfl wc_X6_ends wm_RX6_85 wi_X6_ends ws_X6_ends wn_X6 (by decide) rfl ⟨Nat.le_of_ble_eq_true rfl, Nat.le_of_ble_eq_true rfl⟩ ⟨Nat.le_of_ble_eq_true rfl, Nat.le_of_ble_eq_true rfl⟩ (Nat.le_of_ble_eq_true rfl) dX6_stock_11 rfl (fun rA HA hA => ?_)
  exact rt_i rfl (Nat.le_refl _) (Nat.le_refl _) (fin_to s8 h2 fr hA) dX6_stock_14
set_option maxHeartbeats 4000000 in
set_option maxRecDepth 100000 in
theorem c_doFill {l : Launch} {D : va_G} {C : Nat → ClassId} {T : Nat → Nat} {ad : Int → Nat} (G : GG) {t n : Int} (oP : okP G 12) (ht : -2147483648 ≤ t ∧ t ≤ 2147483647) (hn : -2147483648 ≤ n ∧ n ≤ 2147483647) : MC l yX6_doFill cX6_doFill 4 (some .int) 2 55 0 0 D (tyC C) T [.ref (ad 108), .int (iI t), .int (iI n)] (cw ad C G) (RI ad C (fillB t n G)) := by
  refine mc_of (by decide +kernel) (Nat.le_of_ble_eq_true rfl) rfl ?_
  refine aw_iload_n (q := 1) 1 dX6_doFill_0 rfl rfl rfl ?_
  refine aw_iconst (q := 2) dX6_doFill_1 rfl ?_
  refine aw_iconst (q := 3) dX6_doFill_2 rfl ?_
  refine cs_I (q := 6) (As := [.int (iI t), .int (iI 0), .int (iI 3)]) 3 (c_in (T := T) (D := D) (ad := ad) G (by omega) (by omega) (by omega)) (fun _ h => h) wc_X6_in wm_RX6_62 wt_X6_in wn_X6 (by decide) rfl ⟨Nat.le_of_ble_eq_true rfl, Nat.le_of_ble_eq_true rfl⟩ ⟨Nat.le_of_ble_eq_true rfl, Nat.le_of_ble_eq_true rfl⟩ (Nat.le_of_ble_eq_true rfl) dX6_doFill_3 rfl (fun r9 G9 h9 => ?_)
  rw [h9.1, h9.2]
  clear h9
  refine aw_ifb_ne (q := 9) dX6_doFill_6 rfl (t := 15) (by decide) (fun y1 => ?_) (fun y2 => ?_)
  · refine aw_iload_n (q := 16) 2 dX6_doFill_15 rfl rfl rfl ?_
    refine aw_iconst (q := 17) dX6_doFill_16 rfl ?_
    refine aw_bipush (q := 19) dX6_doFill_17 rfl (by decide) ?_
    refine cs_I (q := 22) (As := [.int (iI n), .int (iI 1), .int (iI 30)]) 3 (c_in (T := T) (D := D) (ad := ad) G (by omega) (by omega) (by omega)) (fun _ h => h) wc_X6_in wm_RX6_62 wt_X6_in wn_X6 (by decide) rfl ⟨Nat.le_of_ble_eq_true rfl, Nat.le_of_ble_eq_true rfl⟩ ⟨Nat.le_of_ble_eq_true rfl, Nat.le_of_ble_eq_true rfl⟩ (Nat.le_of_ble_eq_true rfl) dX6_doFill_19 rfl (fun r9 G9 h9 => ?_)
    rw [h9.1, h9.2]
    clear h9
    refine aw_ifb_ne (q := 25) dX6_doFill_22 rfl (t := 31) (by decide) (fun y3 => ?_) (fun y4 => ?_)
    · have ot := oP.2.2 t (by omega) (by omega)
      refine aw_bipush (q := 33) dX6_doFill_31 rfl (by decide) ?_
      refine aw_aload_n (q := 34) 0 dX6_doFill_33 rfl rfl rfl ?_
      refine g_mod_p (q := 37) wf_RX6_7 dX6_doFill_34 rfl ?_
      refine aw_iconst (q := 38) dX6_doFill_37 rfl ?_
      refine aw_iload_n (q := 39) 1 dX6_doFill_38 rfl rfl rfl ?_
      refine ae_iadd (q := 40) (5 + t) (by omega) dX6_doFill_39 rfl ?_
      refine aw_cial (q := 41) (v := (G 12 (5 + t))) (5 + t) (ar_109 ad C) (by omega) (by omega) rfl dX6_doFill_40 rfl ?_
      refine ae_isub (q := 42) (30 - (G 12 (5 + t))) (by omega) dX6_doFill_41 rfl ?_
      refine aw_iload_n (q := 43) 2 dX6_doFill_42 rfl rfl rfl ?_
      refine aw_icmp_ge (q := 46) dX6_doFill_43 rfl (t := 60) (by decide) (by omega) (by omega) (fun y5 => ?_) (fun y6 => ?_)
      · refine aw_iload_n (q := 61) 2 dX6_doFill_60 rfl rfl rfl ?_
        refine aw_istore_n (q := 62) (lv2 := [(0, .ref (ad 108)), (1, .int (iI t)), (2, .int (iI n)), (3, .int (iI n))]) [1, 2, 3, 0] dX6_doFill_61 rfl rfl (by decide) rfl rfl ?_
        refine aw_aload_n (q := 63) 0 dX6_doFill_62 rfl rfl rfl ?_
        refine g_mod_p (q := 66) wf_RX6_7 dX6_doFill_63 rfl ?_
        refine aw_iconst (q := 67) dX6_doFill_66 rfl ?_
        refine aw_iload_n (q := 68) 1 dX6_doFill_67 rfl rfl rfl ?_
        refine ae_iadd (q := 69) (5 + t) (by omega) dX6_doFill_68 rfl ?_
        refine aw_dup2 (q := 70) dX6_doFill_69 rfl rfl rfl ?_
        refine aw_cial (q := 71) (v := (G 12 (5 + t))) (5 + t) (ar_109 ad C) (by omega) (by omega) rfl dX6_doFill_70 rfl ?_
        refine aw_iload_n (q := 72) 3 dX6_doFill_71 rfl rfl rfl ?_
        refine ae_iadd (q := 73) ((G 12 (5 + t)) + n) (by omega) dX6_doFill_72 rfl ?_
        refine aw_cias (q := 74) (5 + t) (ar_109 ad C) (by omega) (by omega) dX6_doFill_73 rfl ?_
        rw [show setG G 12 (5 + t) ((G 12 (5 + t)) + n) = fillG G 12 t n from congrArg (setG G 12 (5 + t)) (by omega)]
        refine aw_aload_n (q := 75) 0 dX6_doFill_74 rfl rfl rfl ?_
        refine cv_V (q := 78) (CC := "") (id := 108) (As := []) 0 (c_keepsM (T := T) (D := D) (ad := ad) (fillG G 12 t n) (okP_fill oP (by omega) (by omega))) (fun _ h => h) (by omega) (cell_108 ad C _) rfl wc_X6_keepsPromises wm_RX6_107 wi_X6_keepsPromises ws_X6_keepsPromises wn_X6 (by decide) rfl ⟨Nat.le_of_ble_eq_true rfl, Nat.le_of_ble_eq_true rfl⟩ ⟨Nat.le_of_ble_eq_true rfl, Nat.le_of_ble_eq_true rfl⟩ (Nat.le_of_ble_eq_true rfl) dX6_doFill_75 rfl (fun G9 h9 => ?_)
        refine aw_iload_n (q := 79) 3 dX6_doFill_78 rfl rfl rfl ?_
        exact rt_i rfl (Nat.le_refl _) (Nat.le_refl _) (by first | (refine Or.inl ⟨by omega, ?_, ?_⟩ <;> rfl) | (refine Or.inr (Or.inl ⟨by omega, by omega, ?_, ?_⟩) <;> rfl) | (exact Or.inr (Or.inr ⟨by omega, by omega, by omega, h9⟩))) dX6_doFill_79
      · refine aw_bipush (q := 48) dX6_doFill_46 rfl (by decide) ?_
        refine aw_aload_n (q := 49) 0 dX6_doFill_48 rfl rfl rfl ?_
        refine g_mod_p (q := 52) wf_RX6_7 dX6_doFill_49 rfl ?_
        refine aw_iconst (q := 53) dX6_doFill_52 rfl ?_
        refine aw_iload_n (q := 54) 1 dX6_doFill_53 rfl rfl rfl ?_
        refine ae_iadd (q := 55) (5 + t) (by omega) dX6_doFill_54 rfl ?_
        refine aw_cial (q := 56) (v := (G 12 (5 + t))) (5 + t) (ar_109 ad C) (by omega) (by omega) rfl dX6_doFill_55 rfl ?_
        refine ae_isub (q := 57) (30 - (G 12 (5 + t))) (by omega) dX6_doFill_56 rfl ?_
        refine aw_goto (q := 61) dX6_doFill_57 (by decide) ?_
        refine aw_istore_n (q := 62) (lv2 := [(0, .ref (ad 108)), (1, .int (iI t)), (2, .int (iI n)), (3, .int (iI (30 - (G 12 (5 + t)))))]) [1, 2, 3, 0] dX6_doFill_61 rfl rfl (by decide) rfl rfl ?_
        refine aw_aload_n (q := 63) 0 dX6_doFill_62 rfl rfl rfl ?_
        refine g_mod_p (q := 66) wf_RX6_7 dX6_doFill_63 rfl ?_
        refine aw_iconst (q := 67) dX6_doFill_66 rfl ?_
        refine aw_iload_n (q := 68) 1 dX6_doFill_67 rfl rfl rfl ?_
        refine ae_iadd (q := 69) (5 + t) (by omega) dX6_doFill_68 rfl ?_
        refine aw_dup2 (q := 70) dX6_doFill_69 rfl rfl rfl ?_
        refine aw_cial (q := 71) (v := (G 12 (5 + t))) (5 + t) (ar_109 ad C) (by omega) (by omega) rfl dX6_doFill_70 rfl ?_
        refine aw_iload_n (q := 72) 3 dX6_doFill_71 rfl rfl rfl ?_
        refine ae_iadd (q := 73) 30 (by omega) dX6_doFill_72 rfl ?_
        refine aw_cias (q := 74) (5 + t) (ar_109 ad C) (by omega) (by omega) dX6_doFill_73 rfl ?_
        rw [show setG G 12 (5 + t) 30 = fillG G 12 t n from congrArg (setG G 12 (5 + t)) (by omega)]
        refine aw_aload_n (q := 75) 0 dX6_doFill_74 rfl rfl rfl ?_
        refine cv_V (q := 78) (CC := "") (id := 108) (As := []) 0 (c_keepsM (T := T) (D := D) (ad := ad) (fillG G 12 t n) (okP_fill oP (by omega) (by omega))) (fun _ h => h) (by omega) (cell_108 ad C _) rfl wc_X6_keepsPromises wm_RX6_107 wi_X6_keepsPromises ws_X6_keepsPromises wn_X6 (by decide) rfl ⟨Nat.le_of_ble_eq_true rfl, Nat.le_of_ble_eq_true rfl⟩ ⟨Nat.le_of_ble_eq_true rfl, Nat.le_of_ble_eq_true rfl⟩ (Nat.le_of_ble_eq_true rfl) dX6_doFill_75 rfl (fun G9 h9 => ?_)
        refine aw_iload_n (q := 79) 3 dX6_doFill_78 rfl rfl rfl ?_
        exact rt_i rfl (Nat.le_refl _) (Nat.le_refl _) (by first | (refine Or.inl ⟨by omega, ?_, ?_⟩ <;> rfl) | (refine Or.inr (Or.inl ⟨by omega, by omega, ?_, ?_⟩) <;> rfl) | (exact Or.inr (Or.inr ⟨by omega, by omega, by omega, h9⟩))) dX6_doFill_79
    · refine aw_aload_n (q := 26) 0 dX6_doFill_25 rfl rfl rfl ?_
      refine aw_iconst (q := 27) dX6_doFill_26 rfl ?_
      refine cv_I (q := 30) (CC := "") (id := 108) (As := [.int (iI 2)]) 1 (c_refuse (T := T) (D := D) (ad := ad) G) (fun _ h => h) (by omega) (cell_108 ad C _) rfl wc_X6_refuse wm_RX6_82 wi_X6_refuse ws_X6_refuse wn_X6 (by decide) rfl ⟨Nat.le_of_ble_eq_true rfl, Nat.le_of_ble_eq_true rfl⟩ ⟨Nat.le_of_ble_eq_true rfl, Nat.le_of_ble_eq_true rfl⟩ (Nat.le_of_ble_eq_true rfl) dX6_doFill_27 rfl (fun r9 G9 h9 => ?_)
      rw [h9.1, h9.2]
      clear h9
      exact rt_i rfl (Nat.le_refl _) (Nat.le_refl _) (by first | (refine Or.inl ⟨by omega, ?_, ?_⟩ <;> rfl) | (refine Or.inr (Or.inl ⟨by omega, by omega, ?_, ?_⟩) <;> rfl) | (exact Or.inr (Or.inr ⟨by omega, by omega, by omega, h9⟩))) dX6_doFill_30
  · refine aw_aload_n (q := 10) 0 dX6_doFill_9 rfl rfl rfl ?_
    refine aw_iconst (q := 11) dX6_doFill_10 rfl ?_
    refine cv_I (q := 14) (CC := "") (id := 108) (As := [.int (iI 1)]) 1 (c_refuse (T := T) (D := D) (ad := ad) G) (fun _ h => h) (by omega) (cell_108 ad C _) rfl wc_X6_refuse wm_RX6_82 wi_X6_refuse ws_X6_refuse wn_X6 (by decide) rfl ⟨Nat.le_of_ble_eq_true rfl, Nat.le_of_ble_eq_true rfl⟩ ⟨Nat.le_of_ble_eq_true rfl, Nat.le_of_ble_eq_true rfl⟩ (Nat.le_of_ble_eq_true rfl) dX6_doFill_11 rfl (fun r9 G9 h9 => ?_)
    rw [h9.1, h9.2]
    clear h9
    exact rt_i rfl (Nat.le_refl _) (Nat.le_refl _) (by first | (refine Or.inl ⟨by omega, ?_, ?_⟩ <;> rfl) | (refine Or.inr (Or.inl ⟨by omega, by omega, ?_, ?_⟩) <;> rfl) | (exact Or.inr (Or.inr ⟨by omega, by omega, by omega, h9⟩))) dX6_doFill_14
set_option maxHeartbeats 4000000 in
set_option maxRecDepth 100000 in
theorem c_fillM {l : Launch} {D : va_G} {C : Nat → ClassId} {T : Nat → Nat} {ad : Int → Nat} (G : GG) {t n : Int} (h4 : 0 ≤ G 11 4 ∧ G 11 4 ≤ 4) (oP : okP G 12) (ht : -2147483648 ≤ t ∧ t ≤ 2147483647) (hn : -2147483648 ≤ n ∧ n ≤ 2147483647) : MC l yX6_fill cX6_fill 3 (some .int) 3 78 0 0 D (tyC C) T [.ref (ad 108), .int (iI t), .int (iI n)] (cw ad C G) (RI ad C (fun r G1 => faceM G (fillB t n) r G1)) := by
  refine mc_of (by decide +kernel) (Nat.le_of_ble_eq_true rfl) rfl ?_
  refine aw_aload_n (q := 1) 0 dX6_fill_0 rfl rfl rfl ?_
  refine cv_V (q := 4) (CC := "") (id := 108) (As := []) 0 (c_holdM (T := T) (D := D) (ad := ad) G) (fun _ h => h) (by omega) (cell_108 ad C _) rfl wc_X6_hold wm_RX6_76 wi_X6_hold ws_X6_hold wn_X6 (by decide) rfl ⟨Nat.le_of_ble_eq_true rfl, Nat.le_of_ble_eq_true rfl⟩ ⟨Nat.le_of_ble_eq_true rfl, Nat.le_of_ble_eq_true rfl⟩ (Nat.le_of_ble_eq_true rfl) dX6_fill_1 rfl (fun H8 s8 => ?_)
  refine aw_aload_n (q := 5) 0 dX6_fill_4 rfl rfl rfl ?_
  refine aw_aload_n (q := 6) 0 dX6_fill_5 rfl rfl rfl ?_
  refine aw_iload_n (q := 7) 1 dX6_fill_6 rfl rfl rfl ?_
  refine aw_iload_n (q := 8) 2 dX6_fill_7 rfl rfl rfl ?_
  refine cv_I (q := 11) (CC := "") (id := 108) (As := [.int (iI t), .int (iI n)]) 2 (c_doFill (T := T) (D := D) (ad := ad) H8 (okP_row12 (hold_row s8) oP) (by omega) (by omega)) (fun _ h => h) (by omega) (cell_108 ad C _) rfl wc_X6_doFill wm_RX6_110 wi_X6_doFill ws_X6_doFill wn_X6 (by decide) rfl ⟨Nat.le_of_ble_eq_true rfl, Nat.le_of_ble_eq_true rfl⟩ ⟨Nat.le_of_ble_eq_true rfl, Nat.le_of_ble_eq_true rfl⟩ (Nat.le_of_ble_eq_true rfl) dX6_fill_8 rfl (fun r2 H h2 => ?_)
  have fr := fillB_fr h2
  have c8 := fillB_8 s8.1 h2
  refine cv_I (q := 14) (CC := "") (id := 108) (As := [.int (iI r2)]) 1 (c_ends (T := T) (D := D) (ad := ad) H (a := r2) (by rw [show H 11 4 = G 11 4 from (((fr _ _ (by omega)).trans (s8.2.2 _ _ (by omega))))]; omega) (by omega)) (fun _ h => h) (by omega) (cell_108 ad C _) rfl wc_X6_ends wm_RX6_85 wi_X6_ends ws_X6_ends wn_X6 (by decide) rfl ⟨Nat.le_of_ble_eq_true rfl, Nat.le_of_ble_eq_true rfl⟩ ⟨Nat.le_of_ble_eq_true rfl, Nat.le_of_ble_eq_true rfl⟩ (Nat.le_of_ble_eq_true rfl) dX6_fill_11 rfl (fun rA HA hA => ?_)
  exact rt_i rfl (Nat.le_refl _) (Nat.le_refl _) (fin_to s8 h2 fr hA) dX6_fill_14
set_option maxHeartbeats 4000000 in
set_option maxRecDepth 100000 in
theorem c_lookM {l : Launch} {D : va_G} {C : Nat → ClassId} {T : Nat → Nat} {ad : Int → Nat} (G : GG) {c : Int} (h4 : 0 ≤ G 11 4 ∧ G 11 4 ≤ 4) (oH : okH (G 12)) (hc : -2147483648 ≤ c ∧ c ≤ 2147483647) : MC l yX6_look cX6_look 2 (some .int) 3 76 0 0 D (tyC C) T [.ref (ad 108), .int (iI c)] (cw ad C G) (RI ad C (fun r G1 => faceM G (lookB c) r G1)) := by
  refine mc_of (by decide +kernel) (Nat.le_of_ble_eq_true rfl) rfl ?_
  have o13 := oH.2.1
  refine aw_aload_n (q := 1) 0 dX6_look_0 rfl rfl rfl ?_
  refine cv_V (q := 4) (CC := "") (id := 108) (As := []) 0 (c_holdM (T := T) (D := D) (ad := ad) G) (fun _ h => h) (by omega) (cell_108 ad C _) rfl wc_X6_hold wm_RX6_76 wi_X6_hold ws_X6_hold wn_X6 (by decide) rfl ⟨Nat.le_of_ble_eq_true rfl, Nat.le_of_ble_eq_true rfl⟩ ⟨Nat.le_of_ble_eq_true rfl, Nat.le_of_ble_eq_true rfl⟩ (Nat.le_of_ble_eq_true rfl) dX6_look_1 rfl (fun H8 s8 => ?_)
  refine aw_aload_n (q := 5) 0 dX6_look_4 rfl rfl rfl ?_
  refine aw_iload_n (q := 6) 1 dX6_look_5 rfl rfl rfl ?_
  refine cv_I (q := 9) (CC := "") (id := 108) (As := [.int (iI c)]) 1 (c_isCoil (T := T) (D := D) (ad := ad) H8 (by rw [show H8 12 13 = (G 12 13) from ((s8.2.2 _ _ (by omega)))]; omega) (by omega)) (fun _ h => h) (by omega) (cell_108 ad C _) rfl wc_X6_isCoil wm_RX6_96 wi_X6_isCoil ws_X6_isCoil wn_X6 (by decide) rfl ⟨Nat.le_of_ble_eq_true rfl, Nat.le_of_ble_eq_true rfl⟩ ⟨Nat.le_of_ble_eq_true rfl, Nat.le_of_ble_eq_true rfl⟩ (Nat.le_of_ble_eq_true rfl) dX6_look_6 rfl (fun r9 G9 h9 => ?_)
  obtain ⟨e9, g9⟩ := h9
  rw [e9.trans (b2i_c (by rw [show H8 12 13 = (G 12 13) from ((s8.2.2 _ _ (by omega)))])), g9]
  clear e9 g9
  refine aw_ifb_ne (q := 12) dX6_look_9 rfl (t := 22) (by decide) (fun y1 => ?_) (fun y2 => ?_)
  · have ow := (oH.2.2 c (by omega) (by omega)).2.2.2.2.2.2.2.1
    refine aw_aload_n (q := 23) 0 dX6_look_22 rfl rfl rfl ?_
    refine aw_iload_n (q := 24) 1 dX6_look_23 rfl rfl rfl ?_
    refine aw_bipush (q := 26) dX6_look_24 rfl (by decide) ?_
    refine aw_aload_n (q := 27) 0 dX6_look_26 rfl rfl rfl ?_
    refine aw_iload_n (q := 28) 1 dX6_look_27 rfl rfl rfl ?_
    refine aw_bipush (q := 30) dX6_look_28 rfl (by decide) ?_
    refine cv_I (q := 33) (CC := "") (id := 108) (As := [.int (iI c), .int (iI 10)]) 2 (c_of (T := T) (D := D) (ad := ad) H8 (by omega) (by omega)) (fun _ h => h) (by omega) (cell_108 ad C _) rfl wc_X6_of wm_RX6_100 wi_X6_of ws_X6_of wn_X6 (by decide) rfl ⟨Nat.le_of_ble_eq_true rfl, Nat.le_of_ble_eq_true rfl⟩ ⟨Nat.le_of_ble_eq_true rfl, Nat.le_of_ble_eq_true rfl⟩ (Nat.le_of_ble_eq_true rfl) dX6_look_30 rfl (fun r9 G9 h9 => ?_)
    obtain ⟨e9, g9⟩ := h9
    rw [e9.trans (((s8.2.2 _ _ (by omega)))), g9]
    clear e9 g9
    refine cs_F (q := 36) (As := [.int (iI ((G 12 (15 + 12 * c + 10))))]) 1 (c_real (T := T) (D := D) (ad := ad) H8 (x := (G 12 (15 + 12 * c + 10))) ow) (fun _ h => h) wc_X6_real wm_RX6_121 wt_X6_real wn_X6 (by decide) rfl ⟨Nat.le_of_ble_eq_true rfl, Nat.le_of_ble_eq_true rfl⟩ ⟨Nat.le_of_ble_eq_true rfl, Nat.le_of_ble_eq_true rfl⟩ (Nat.le_of_ble_eq_true rfl) dX6_look_33 rfl (fun r9 G9 h9 => ?_)
    rw [h9.1, h9.2]
    clear h9
    refine aw_ldcf (q := 38) dX6_look_36 rfl wk_RX6_137 ?_
    refine aw_fadd (q := 39) dX6_look_38 rfl (fw_addH ow).1 ?_
    rw [show FP.fadd (fB (G 12 (15 + 12 * c + 10))) 1056964608 = fB (faddH (G 12 (15 + 12 * c + 10))) from (fB_nat _).symm]
    refine cs_I (q := 42) (As := [.float (fB (faddH (G 12 (15 + 12 * c + 10))))]) 1 (c_bits (T := T) (D := D) (ad := ad) H8 (x := (faddH (G 12 (15 + 12 * c + 10)))) (fw_addH ow).2) (fun _ h => h) wc_X6_bits wm_RX6_124 wt_X6_bits wn_X6 (by decide) rfl ⟨Nat.le_of_ble_eq_true rfl, Nat.le_of_ble_eq_true rfl⟩ ⟨Nat.le_of_ble_eq_true rfl, Nat.le_of_ble_eq_true rfl⟩ (Nat.le_of_ble_eq_true rfl) dX6_look_39 rfl (fun r9 G9 h9 => ?_)
    rw [h9.1, h9.2]
    clear h9
    refine cv_V (q := 45) (CC := "") (id := 108) (As := [.int (iI c), .int (iI 10), .int (iI ((faddH (G 12 (15 + 12 * c + 10)))))]) 3 (c_lay (T := T) (D := D) (ad := ad) H8 (by omega) (by omega)) (fun _ h => h) (by omega) (cell_108 ad C _) rfl wc_X6_lay wm_RX6_92 wi_X6_lay ws_X6_lay wn_X6 (by decide) rfl ⟨Nat.le_of_ble_eq_true rfl, Nat.le_of_ble_eq_true rfl⟩ ⟨Nat.le_of_ble_eq_true rfl, Nat.le_of_ble_eq_true rfl⟩ (Nat.le_of_ble_eq_true rfl) dX6_look_42 rfl (fun G9 h9 => ?_)
    rw [h9]
    clear h9
    refine aw_aload_n (q := 46) 0 dX6_look_45 rfl rfl rfl ?_
    refine aw_aload_n (q := 47) 0 dX6_look_46 rfl rfl rfl ?_
    refine aw_iload_n (q := 48) 1 dX6_look_47 rfl rfl rfl ?_
    refine aw_iconst (q := 49) dX6_look_48 rfl ?_
    refine cv_I (q := 52) (CC := "") (id := 108) (As := [.int (iI c), .int (iI 2)]) 2 (c_of (T := T) (D := D) (ad := ad) (setG H8 12 (15 + 12 * c + 10) ((faddH (G 12 (15 + 12 * c + 10))))) (by omega) (by omega)) (fun _ h => h) (by omega) (cell_108 ad C _) rfl wc_X6_of wm_RX6_100 wi_X6_of ws_X6_of wn_X6 (by decide) rfl ⟨Nat.le_of_ble_eq_true rfl, Nat.le_of_ble_eq_true rfl⟩ ⟨Nat.le_of_ble_eq_true rfl, Nat.le_of_ble_eq_true rfl⟩ (Nat.le_of_ble_eq_true rfl) dX6_look_49 rfl (fun r9 G9 h9 => ?_)
    obtain ⟨e9, g9⟩ := h9
    rw [e9.trans (((setG_ne (by omega)).trans ((s8.2.2 _ _ (by omega))))), g9]
    clear e9 g9
    refine cv_I (q := 55) (CC := "") (id := 108) (As := [.int (iI ((G 12 (15 + 12 * c + 2))))]) 1 (c_ends (T := T) (D := D) (ad := ad) (setG H8 12 (15 + 12 * c + 10) ((faddH (G 12 (15 + 12 * c + 10))))) (a := (G 12 (15 + 12 * c + 2))) (by rw [show (setG H8 12 (15 + 12 * c + 10) ((faddH (G 12 (15 + 12 * c + 10))))) 11 4 = G 11 4 from ((setG_ne (by omega)).trans ((s8.2.2 _ _ (by omega))))]; omega) (by rw [show (setG H8 12 (15 + 12 * c + 10) ((faddH (G 12 (15 + 12 * c + 10))))) 11 8 = 0 from ((setG_ne (by omega)).trans (s8.1))]; omega)) (fun _ h => h) (by omega) (cell_108 ad C _) rfl wc_X6_ends wm_RX6_85 wi_X6_ends ws_X6_ends wn_X6 (by decide) rfl ⟨Nat.le_of_ble_eq_true rfl, Nat.le_of_ble_eq_true rfl⟩ ⟨Nat.le_of_ble_eq_true rfl, Nat.le_of_ble_eq_true rfl⟩ (Nat.le_of_ble_eq_true rfl) dX6_look_52 rfl (fun rA HA hA => ?_)
    exact rt_i rfl (Nat.le_refl _) (Nat.le_refl _) (fin_to s8 (by
        have e13 : H8 12 13 = G 12 13 := s8.2.2 12 13 (by omega)
        have e2 : H8 12 (15 + 12 * c + 2) = G 12 (15 + 12 * c + 2) := s8.2.2 _ _ (by omega)
        have e10 : H8 12 (15 + 12 * c + 10) = G 12 (15 + 12 * c + 10) := s8.2.2 _ _ (by omega)
        unfold lookB; rw [e13, e2, e10]
        first | (refine Or.inl ⟨by omega, ?_, ?_⟩ <;> rfl) | (refine Or.inr ⟨by omega, ?_, ?_⟩ <;> rfl)) (fun x y z => (setG_ne (by omega))) hA) dX6_look_55
  · refine aw_aload_n (q := 13) 0 dX6_look_12 rfl rfl rfl ?_
    refine aw_aload_n (q := 14) 0 dX6_look_13 rfl rfl rfl ?_
    refine aw_iconst (q := 15) dX6_look_14 rfl ?_
    refine cv_I (q := 18) (CC := "") (id := 108) (As := [.int (iI 1)]) 1 (c_refuse (T := T) (D := D) (ad := ad) H8) (fun _ h => h) (by omega) (cell_108 ad C _) rfl wc_X6_refuse wm_RX6_82 wi_X6_refuse ws_X6_refuse wn_X6 (by decide) rfl ⟨Nat.le_of_ble_eq_true rfl, Nat.le_of_ble_eq_true rfl⟩ ⟨Nat.le_of_ble_eq_true rfl, Nat.le_of_ble_eq_true rfl⟩ (Nat.le_of_ble_eq_true rfl) dX6_look_15 rfl (fun r9 G9 h9 => ?_)
    rw [h9.1, h9.2]
    clear h9
    refine cv_I (q := 21) (CC := "") (id := 108) (As := [.int (iI 0)]) 1 (c_ends (T := T) (D := D) (ad := ad) (setG H8 11 8 1) (a := 0) (by rw [show (setG H8 11 8 1) 11 4 = G 11 4 from ((setG_ne (by omega)).trans ((s8.2.2 _ _ (by omega))))]; omega) (by rw [show (setG H8 11 8 1) 11 8 = 1 from (setG_same _ _ _ _)]; omega)) (fun _ h => h) (by omega) (cell_108 ad C _) rfl wc_X6_ends wm_RX6_85 wi_X6_ends ws_X6_ends wn_X6 (by decide) rfl ⟨Nat.le_of_ble_eq_true rfl, Nat.le_of_ble_eq_true rfl⟩ ⟨Nat.le_of_ble_eq_true rfl, Nat.le_of_ble_eq_true rfl⟩ (Nat.le_of_ble_eq_true rfl) dX6_look_18 rfl (fun rA HA hA => ?_)
    exact rt_i rfl (Nat.le_refl _) (Nat.le_refl _) (fin_to s8 (by
        have e13 : H8 12 13 = G 12 13 := s8.2.2 12 13 (by omega)
        have e2 : H8 12 (15 + 12 * c + 2) = G 12 (15 + 12 * c + 2) := s8.2.2 _ _ (by omega)
        have e10 : H8 12 (15 + 12 * c + 10) = G 12 (15 + 12 * c + 10) := s8.2.2 _ _ (by omega)
        unfold lookB; rw [e13, e2, e10]
        first | (refine Or.inl ⟨by omega, ?_, ?_⟩ <;> rfl) | (refine Or.inr ⟨by omega, ?_, ?_⟩ <;> rfl)) (fun x y z => (setG_ne (by omega))) hA) dX6_look_21
set_option maxHeartbeats 4000000 in
set_option maxRecDepth 100000 in
theorem c_emptyBoxM {l : Launch} {D : va_G} {C : Nat → ClassId} {T : Nat → Nat} {ad : Int → Nat} (G : GG) (h4 : 0 ≤ G 11 4 ∧ G 11 4 ≤ 4) : MC l yX6_emptyBox cX6_emptyBox 2 (some .int) 2 46 0 0 D (tyC C) T [.ref (ad 108)] (cw ad C G) (RI ad C (fun r G1 => faceM G (fun G a H => a = G 12 9 ∧ H = setG G 12 9 0) r G1)) := by
  refine mc_of (by decide +kernel) (Nat.le_of_ble_eq_true rfl) rfl ?_
  refine aw_aload_n (q := 1) 0 dX6_emptyBox_0 rfl rfl rfl ?_
  refine cv_V (q := 4) (CC := "") (id := 108) (As := []) 0 (c_holdM (T := T) (D := D) (ad := ad) G) (fun _ h => h) (by omega) (cell_108 ad C _) rfl wc_X6_hold wm_RX6_76 wi_X6_hold ws_X6_hold wn_X6 (by decide) rfl ⟨Nat.le_of_ble_eq_true rfl, Nat.le_of_ble_eq_true rfl⟩ ⟨Nat.le_of_ble_eq_true rfl, Nat.le_of_ble_eq_true rfl⟩ (Nat.le_of_ble_eq_true rfl) dX6_emptyBox_1 rfl (fun H8 s8 => ?_)
  refine aw_aload_n (q := 5) 0 dX6_emptyBox_4 rfl rfl rfl ?_
  refine g_mod_p (q := 8) wf_RX6_7 dX6_emptyBox_5 rfl ?_
  refine aw_bipush (q := 10) dX6_emptyBox_8 rfl (by decide) ?_
  refine aw_cial (q := 11) (v := (G 12 9)) 9 (ar_109 ad C) (by omega) (by omega) ((s8.2.2 _ _ (by omega))) dX6_emptyBox_10 rfl ?_
  refine aw_istore_n (q := 12) (lv2 := [(0, .ref (ad 108)), (1, .int (iI (G 12 9)))]) [1, 0] dX6_emptyBox_11 rfl rfl (by decide) rfl rfl ?_
  refine aw_aload_n (q := 13) 0 dX6_emptyBox_12 rfl rfl rfl ?_
  refine g_mod_p (q := 16) wf_RX6_7 dX6_emptyBox_13 rfl ?_
  refine aw_bipush (q := 18) dX6_emptyBox_16 rfl (by decide) ?_
  refine aw_iconst (q := 19) dX6_emptyBox_18 rfl ?_
  refine aw_cias (q := 20) 9 (ar_109 ad C) (by omega) (by omega) dX6_emptyBox_19 rfl ?_
  refine aw_aload_n (q := 21) 0 dX6_emptyBox_20 rfl rfl rfl ?_
  refine aw_iload_n (q := 22) 1 dX6_emptyBox_21 rfl rfl rfl ?_
  refine cv_I (q := 25) (CC := "") (id := 108) (As := [.int (iI (G 12 9))]) 1 (c_ends (T := T) (D := D) (ad := ad) (setG H8 12 9 0) (a := (G 12 9)) (by rw [show (setG H8 12 9 0) 11 4 = G 11 4 from ((setG_ne (by omega)).trans ((s8.2.2 _ _ (by omega))))]; omega) (by rw [show (setG H8 12 9 0) 11 8 = 0 from ((setG_ne (by omega)).trans (s8.1))]; omega)) (fun _ h => h) (by omega) (cell_108 ad C _) rfl wc_X6_ends wm_RX6_85 wi_X6_ends ws_X6_ends wn_X6 (by decide) rfl ⟨Nat.le_of_ble_eq_true rfl, Nat.le_of_ble_eq_true rfl⟩ ⟨Nat.le_of_ble_eq_true rfl, Nat.le_of_ble_eq_true rfl⟩ (Nat.le_of_ble_eq_true rfl) dX6_emptyBox_22 rfl (fun rA HA hA => ?_)
  exact rt_i rfl (Nat.le_refl _) (Nat.le_refl _) (fin_to s8 ⟨(s8.2.2 _ _ (by omega)).symm, rfl⟩ (fun x y z => (setG_ne (by omega))) hA) dX6_emptyBox_25
theorem sp_1 {G : GG} {c ra fa : Int} (h : rRaises (G 12) c ra) : setG (setG (setG G 12 (15 + 12 * c + 11) 1) 12 (15 + 12 * c + 8) (G 12 (15 + 12 * c + 8) + 1)) 12 (15 + 12 * c + 2) (G 12 (15 + 12 * c + 2) + 5) = onR G 12 (rSet (G 12) c ra fa) := by
  rw [setG_row G, setG_onR, setG_onR, up_comm _ (by omega)]
  unfold rSet
  rw [if_pos h]
theorem up_id {g : Row} {y v : Int} (h : g y = v) : up g y v = g := by
  funext z
  unfold up
  by_cases e : z = y
  · rw [if_pos e, e, h]
  · rw [if_neg e]
theorem sp_2 {G : GG} {c ra fa : Int} (h : ¬ rRaises (G 12) c ra) (h2 : rFalls (G 12) c fa) : setG (setG (setG G 12 (15 + 12 * c + 11) 0) 12 (15 + 12 * c + 8) (G 12 (15 + 12 * c + 8))) 12 (15 + 12 * c + 2) (G 12 (15 + 12 * c + 2) - 5) = onR G 12 (rSet (G 12) c ra fa) := by
  rw [setG_row G, setG_onR, setG_onR, up_id (y := 15 + 12 * c + 8) (up_n (by omega))]
  unfold rSet
  rw [if_neg h, if_pos h2]
theorem sp_3 {G : GG} {c ra fa : Int} (h : ¬ rRaises (G 12) c ra) (h2 : ¬ rFalls (G 12) c fa) : setG (setG (setG G 12 (15 + 12 * c + 11) 0) 12 (15 + 12 * c + 8) (G 12 (15 + 12 * c + 8))) 12 (15 + 12 * c + 2) (G 12 (15 + 12 * c + 2)) = onR G 12 (rSet (G 12) c ra fa) := by
  rw [setG_row G, setG_onR, setG_onR, up_id (y := 15 + 12 * c + 8) (up_n (by omega)), up_id (y := 15 + 12 * c + 2) (up_n (by omega))]
  unfold rSet
  rw [if_neg h, if_neg h2]
set_option maxHeartbeats 4000000 in
set_option maxRecDepth 100000 in
theorem c_setsPrice {l : Launch} {D : va_G} {C : Nat → ClassId} {T : Nat → Nat} {ad : Int → Nat} (G : GG) {c : Int} (hc : 0 ≤ c ∧ c < 8) (ow : okW (G 12 (15 + 12 * c + 10))) (hg : fArgs (G 12) c) : MC l yX6_setsPrice cX6_setsPrice 5 none 2 56 0 0 D (tyC C) T [.ref (ad 108), .int (iI c)] (cw ad C G) (RV ad C (fun G1 => G1 = onR G 12 (rSet (G 12) c (G 12 0) (G 12 1)))) := by
  refine mc_of (by decide +kernel) (Nat.le_of_ble_eq_true rfl) rfl ?_
  refine aw_ldcf (q := 2) dX6_setsPrice_0 rfl wk_RX6_138 ?_
  refine aw_aload_n (q := 3) 0 dX6_setsPrice_2 rfl rfl rfl ?_
  refine aw_iload_n (q := 4) 1 dX6_setsPrice_3 rfl rfl rfl ?_
  refine aw_bipush (q := 6) dX6_setsPrice_4 rfl (by decide) ?_
  refine cv_I (q := 9) (CC := "") (id := 108) (As := [.int (iI c), .int (iI 10)]) 2 (c_of (T := T) (D := D) (ad := ad) G (by omega) (by omega)) (fun _ h => h) (by omega) (cell_108 ad C _) rfl wc_X6_of wm_RX6_100 wi_X6_of ws_X6_of wn_X6 (by decide) rfl ⟨Nat.le_of_ble_eq_true rfl, Nat.le_of_ble_eq_true rfl⟩ ⟨Nat.le_of_ble_eq_true rfl, Nat.le_of_ble_eq_true rfl⟩ (Nat.le_of_ble_eq_true rfl) dX6_setsPrice_6 rfl (fun r9 G9 h9 => ?_)
  obtain ⟨e9, g9⟩ := h9
  rw [e9.trans (rfl), g9]
  clear e9 g9
  refine cs_F (q := 12) (As := [.int (iI ((G 12 (15 + 12 * c + 10))))]) 1 (c_real (T := T) (D := D) (ad := ad) G (x := (G 12 (15 + 12 * c + 10))) ow) (fun _ h => h) wc_X6_real wm_RX6_121 wt_X6_real wn_X6 (by decide) rfl ⟨Nat.le_of_ble_eq_true rfl, Nat.le_of_ble_eq_true rfl⟩ ⟨Nat.le_of_ble_eq_true rfl, Nat.le_of_ble_eq_true rfl⟩ (Nat.le_of_ble_eq_true rfl) dX6_setsPrice_9 rfl (fun r9 G9 h9 => ?_)
  rw [h9.1, h9.2]
  clear h9
  refine aw_fmul (q := 13) dX6_setsPrice_12 rfl (fw_ten ow) ?_
  refine aw_fstore_n (q := 14) (lv2 := [(0, .ref (ad 108)), (1, .int (iI c)), (2, .float (FP.fmul 1092616192 (fB ((G 12 (15 + 12 * c + 10))))))]) [1, 2, 0] dX6_setsPrice_13 rfl rfl (by decide) rfl rfl ?_
  refine aw_fload_n (q := 15) 2 dX6_setsPrice_14 rfl rfl rfl ?_
  refine aw_aload_n (q := 16) 0 dX6_setsPrice_15 rfl rfl rfl ?_
  refine g_mod_p (q := 19) wf_RX6_7 dX6_setsPrice_16 rfl ?_
  refine aw_iconst (q := 20) dX6_setsPrice_19 rfl ?_
  refine aw_cial (q := 21) (v := (G 12 0)) 0 (ar_109 ad C) (by omega) (by omega) rfl dX6_setsPrice_20 rfl ?_
  refine aw_i2f (q := 22) dX6_setsPrice_21 rfl ?_
  refine aw_fcmp (q := 23) dX6_setsPrice_22 rfl ?_
  refine aw_ifW_lt (q := 26) dX6_setsPrice_23 rfl (t := 54) (by decide) (fun y1 => ?_) (fun y2 => ?_)
  · refine aw_iconst (q := 55) dX6_setsPrice_54 rfl ?_
    refine aw_istore_n (q := 56) (lv2 := [(0, .ref (ad 108)), (1, .int (iI c)), (2, .float (FP.fmul 1092616192 (fB ((G 12 (15 + 12 * c + 10)))))), (3, .int (iI 0))]) [1, 2, 3, 0] dX6_setsPrice_55 rfl rfl (by decide) rfl rfl ?_
    refine aw_iload_n (q := 57) 3 dX6_setsPrice_56 rfl rfl rfl ?_
    refine aw_if_ne (q := 60) dX6_setsPrice_57 rfl (t := 91) (by decide) (by omega) (fun h => absurd h (by omega)) (fun _ => ?_)
    refine aw_fload_n (q := 61) 2 dX6_setsPrice_60 rfl rfl rfl ?_
    refine aw_aload_n (q := 62) 0 dX6_setsPrice_61 rfl rfl rfl ?_
    refine g_mod_p (q := 65) wf_RX6_7 dX6_setsPrice_62 rfl ?_
    refine aw_iconst (q := 66) dX6_setsPrice_65 rfl ?_
    refine aw_cial (q := 67) (v := (G 12 1)) 1 (ar_109 ad C) (by omega) (by omega) rfl dX6_setsPrice_66 rfl ?_
    refine aw_i2f (q := 68) dX6_setsPrice_67 rfl ?_
    refine aw_fcmp (q := 69) dX6_setsPrice_68 rfl ?_
    refine aw_ifW_ge (q := 72) dX6_setsPrice_69 rfl (t := 91) (by decide) (fun y3 => ?_) (fun y4 => ?_)
    · refine aw_iconst (q := 92) dX6_setsPrice_91 rfl ?_
      refine aw_istore (q := 94) (lv2 := [(0, .ref (ad 108)), (1, .int (iI c)), (2, .float (FP.fmul 1092616192 (fB ((G 12 (15 + 12 * c + 10)))))), (3, .int (iI 0)), (4, .int (iI 0))]) [1, 2, 3, 4, 0] dX6_setsPrice_92 rfl (by decide) rfl rfl ?_
      refine aw_aload_n (q := 95) 0 dX6_setsPrice_94 rfl rfl rfl ?_
      refine aw_iload_n (q := 96) 1 dX6_setsPrice_95 rfl rfl rfl ?_
      refine aw_bipush (q := 98) dX6_setsPrice_96 rfl (by decide) ?_
      refine aw_iload_n (q := 99) 3 dX6_setsPrice_98 rfl rfl rfl ?_
      refine aw_if_eq (q := 102) dX6_setsPrice_99 rfl (t := 106) (by decide) (by omega) (fun _ => ?_) (fun h => absurd h (by omega))
      refine aw_iconst (q := 107) dX6_setsPrice_106 rfl ?_
      refine cv_V (q := 110) (CC := "") (id := 108) (As := [.int (iI c), .int (iI 11), .int (iI 0)]) 3 (c_lay (T := T) (D := D) (ad := ad) G (by omega) (by omega)) (fun _ h => h) (by omega) (cell_108 ad C _) rfl wc_X6_lay wm_RX6_92 wi_X6_lay ws_X6_lay wn_X6 (by decide) rfl ⟨Nat.le_of_ble_eq_true rfl, Nat.le_of_ble_eq_true rfl⟩ ⟨Nat.le_of_ble_eq_true rfl, Nat.le_of_ble_eq_true rfl⟩ (Nat.le_of_ble_eq_true rfl) dX6_setsPrice_107 rfl (fun G9 h9 => ?_)
      rw [h9]
      clear h9
      refine aw_aload_n (q := 111) 0 dX6_setsPrice_110 rfl rfl rfl ?_
      refine aw_iload_n (q := 112) 1 dX6_setsPrice_111 rfl rfl rfl ?_
      refine aw_bipush (q := 114) dX6_setsPrice_112 rfl (by decide) ?_
      refine aw_aload_n (q := 115) 0 dX6_setsPrice_114 rfl rfl rfl ?_
      refine aw_iload_n (q := 116) 1 dX6_setsPrice_115 rfl rfl rfl ?_
      refine aw_bipush (q := 118) dX6_setsPrice_116 rfl (by decide) ?_
      refine cv_I (q := 121) (CC := "") (id := 108) (As := [.int (iI c), .int (iI 8)]) 2 (c_of (T := T) (D := D) (ad := ad) (setG G 12 (15 + 12 * c + 11) 0) (by omega) (by omega)) (fun _ h => h) (by omega) (cell_108 ad C _) rfl wc_X6_of wm_RX6_100 wi_X6_of ws_X6_of wn_X6 (by decide) rfl ⟨Nat.le_of_ble_eq_true rfl, Nat.le_of_ble_eq_true rfl⟩ ⟨Nat.le_of_ble_eq_true rfl, Nat.le_of_ble_eq_true rfl⟩ (Nat.le_of_ble_eq_true rfl) dX6_setsPrice_118 rfl (fun r9 G9 h9 => ?_)
      obtain ⟨e9, g9⟩ := h9
      rw [e9.trans ((setG_ne (by omega))), g9]
      clear e9 g9
      refine aw_aload_n (q := 122) 0 dX6_setsPrice_121 rfl rfl rfl ?_
      refine aw_iload_n (q := 123) 1 dX6_setsPrice_122 rfl rfl rfl ?_
      refine aw_bipush (q := 125) dX6_setsPrice_123 rfl (by decide) ?_
      refine cv_I (q := 128) (CC := "") (id := 108) (As := [.int (iI c), .int (iI 11)]) 2 (c_of (T := T) (D := D) (ad := ad) (setG G 12 (15 + 12 * c + 11) 0) (by omega) (by omega)) (fun _ h => h) (by omega) (cell_108 ad C _) rfl wc_X6_of wm_RX6_100 wi_X6_of ws_X6_of wn_X6 (by decide) rfl ⟨Nat.le_of_ble_eq_true rfl, Nat.le_of_ble_eq_true rfl⟩ ⟨Nat.le_of_ble_eq_true rfl, Nat.le_of_ble_eq_true rfl⟩ (Nat.le_of_ble_eq_true rfl) dX6_setsPrice_125 rfl (fun r9 G9 h9 => ?_)
      obtain ⟨e9, g9⟩ := h9
      rw [e9.trans ((setG_same _ _ _ _)), g9]
      clear e9 g9
      refine ae_iadd (q := 129) ((G 12 (15 + 12 * c + 8))) (by omega) dX6_setsPrice_128 rfl ?_
      refine cv_V (q := 132) (CC := "") (id := 108) (As := [.int (iI c), .int (iI 8), .int (iI ((G 12 (15 + 12 * c + 8))))]) 3 (c_lay (T := T) (D := D) (ad := ad) (setG G 12 (15 + 12 * c + 11) 0) (by omega) (by omega)) (fun _ h => h) (by omega) (cell_108 ad C _) rfl wc_X6_lay wm_RX6_92 wi_X6_lay ws_X6_lay wn_X6 (by decide) rfl ⟨Nat.le_of_ble_eq_true rfl, Nat.le_of_ble_eq_true rfl⟩ ⟨Nat.le_of_ble_eq_true rfl, Nat.le_of_ble_eq_true rfl⟩ (Nat.le_of_ble_eq_true rfl) dX6_setsPrice_129 rfl (fun G9 h9 => ?_)
      rw [h9]
      clear h9
      refine aw_aload_n (q := 133) 0 dX6_setsPrice_132 rfl rfl rfl ?_
      refine aw_iload_n (q := 134) 1 dX6_setsPrice_133 rfl rfl rfl ?_
      refine aw_iconst (q := 135) dX6_setsPrice_134 rfl ?_
      refine aw_aload_n (q := 136) 0 dX6_setsPrice_135 rfl rfl rfl ?_
      refine aw_iload_n (q := 137) 1 dX6_setsPrice_136 rfl rfl rfl ?_
      refine aw_iconst (q := 138) dX6_setsPrice_137 rfl ?_
      refine cv_I (q := 141) (CC := "") (id := 108) (As := [.int (iI c), .int (iI 2)]) 2 (c_of (T := T) (D := D) (ad := ad) (setG (setG G 12 (15 + 12 * c + 11) 0) 12 (15 + 12 * c + 8) ((G 12 (15 + 12 * c + 8)))) (by omega) (by omega)) (fun _ h => h) (by omega) (cell_108 ad C _) rfl wc_X6_of wm_RX6_100 wi_X6_of ws_X6_of wn_X6 (by decide) rfl ⟨Nat.le_of_ble_eq_true rfl, Nat.le_of_ble_eq_true rfl⟩ ⟨Nat.le_of_ble_eq_true rfl, Nat.le_of_ble_eq_true rfl⟩ (Nat.le_of_ble_eq_true rfl) dX6_setsPrice_138 rfl (fun r9 G9 h9 => ?_)
      obtain ⟨e9, g9⟩ := h9
      rw [e9.trans (((setG_ne (by omega)).trans (setG_ne (by omega)))), g9]
      clear e9 g9
      refine aw_iload_n (q := 142) 3 dX6_setsPrice_141 rfl rfl rfl ?_
      refine aw_if_eq (q := 145) dX6_setsPrice_142 rfl (t := 149) (by decide) (by omega) (fun _ => ?_) (fun h => absurd h (by omega))
      refine aw_iload (q := 151) 4 dX6_setsPrice_149 rfl rfl ?_
      refine aw_if_eq (q := 154) dX6_setsPrice_151 rfl (t := 159) (by decide) (by omega) (fun _ => ?_) (fun h => absurd h (by omega))
      refine aw_iconst (q := 160) dX6_setsPrice_159 rfl ?_
      refine ae_iadd (q := 161) ((G 12 (15 + 12 * c + 2))) (by omega) dX6_setsPrice_160 rfl ?_
      refine cv_V (q := 164) (CC := "") (id := 108) (As := [.int (iI c), .int (iI 2), .int (iI ((G 12 (15 + 12 * c + 2))))]) 3 (c_lay (T := T) (D := D) (ad := ad) (setG (setG G 12 (15 + 12 * c + 11) 0) 12 (15 + 12 * c + 8) ((G 12 (15 + 12 * c + 8)))) (by omega) (by omega)) (fun _ h => h) (by omega) (cell_108 ad C _) rfl wc_X6_lay wm_RX6_92 wi_X6_lay ws_X6_lay wn_X6 (by decide) rfl ⟨Nat.le_of_ble_eq_true rfl, Nat.le_of_ble_eq_true rfl⟩ ⟨Nat.le_of_ble_eq_true rfl, Nat.le_of_ble_eq_true rfl⟩ (Nat.le_of_ble_eq_true rfl) dX6_setsPrice_161 rfl (fun G9 h9 => ?_)
      rw [h9]
      clear h9
      exact rt_v rfl (Nat.le_refl _) (Nat.le_refl _) (by first | exact sp_1 ⟨by assumption, by omega, by omega⟩ | exact sp_2 (fun q => by have q1 := q.1; have q2 := q.2; first | omega | contradiction) ⟨by assumption, by omega⟩ | exact sp_3 (fun q => by have q1 := q.1; have q2 := q.2; first | omega | contradiction) (fun q => by have q1 := q.1; have q2 := q.2; first | omega | contradiction) | (exfalso; omega) | (exfalso; contradiction)) dX6_setsPrice_164
    · refine aw_aload_n (q := 73) 0 dX6_setsPrice_72 rfl rfl rfl ?_
      refine aw_iload_n (q := 74) 1 dX6_setsPrice_73 rfl rfl rfl ?_
      refine aw_iconst (q := 75) dX6_setsPrice_74 rfl ?_
      refine cv_I (q := 78) (CC := "") (id := 108) (As := [.int (iI c), .int (iI 2)]) 2 (c_of (T := T) (D := D) (ad := ad) G (by omega) (by omega)) (fun _ h => h) (by omega) (cell_108 ad C _) rfl wc_X6_of wm_RX6_100 wi_X6_of ws_X6_of wn_X6 (by decide) rfl ⟨Nat.le_of_ble_eq_true rfl, Nat.le_of_ble_eq_true rfl⟩ ⟨Nat.le_of_ble_eq_true rfl, Nat.le_of_ble_eq_true rfl⟩ (Nat.le_of_ble_eq_true rfl) dX6_setsPrice_75 rfl (fun r9 G9 h9 => ?_)
      obtain ⟨e9, g9⟩ := h9
      rw [e9.trans (rfl), g9]
      clear e9 g9
      refine aw_aload_n (q := 79) 0 dX6_setsPrice_78 rfl rfl rfl ?_
      refine aw_iload_n (q := 80) 1 dX6_setsPrice_79 rfl rfl rfl ?_
      refine aw_iconst (q := 81) dX6_setsPrice_80 rfl ?_
      refine cv_I (q := 84) (CC := "") (id := 108) (As := [.int (iI c), .int (iI 3)]) 2 (c_of (T := T) (D := D) (ad := ad) G (by omega) (by omega)) (fun _ h => h) (by omega) (cell_108 ad C _) rfl wc_X6_of wm_RX6_100 wi_X6_of ws_X6_of wn_X6 (by decide) rfl ⟨Nat.le_of_ble_eq_true rfl, Nat.le_of_ble_eq_true rfl⟩ ⟨Nat.le_of_ble_eq_true rfl, Nat.le_of_ble_eq_true rfl⟩ (Nat.le_of_ble_eq_true rfl) dX6_setsPrice_81 rfl (fun r9 G9 h9 => ?_)
      obtain ⟨e9, g9⟩ := h9
      rw [e9.trans (rfl), g9]
      clear e9 g9
      refine aw_icmp_le (q := 87) dX6_setsPrice_84 rfl (t := 91) (by decide) (by omega) (by omega) (fun y5 => ?_) (fun y6 => ?_)
      · refine aw_iconst (q := 92) dX6_setsPrice_91 rfl ?_
        refine aw_istore (q := 94) (lv2 := [(0, .ref (ad 108)), (1, .int (iI c)), (2, .float (FP.fmul 1092616192 (fB ((G 12 (15 + 12 * c + 10)))))), (3, .int (iI 0)), (4, .int (iI 0))]) [1, 2, 3, 4, 0] dX6_setsPrice_92 rfl (by decide) rfl rfl ?_
        refine aw_aload_n (q := 95) 0 dX6_setsPrice_94 rfl rfl rfl ?_
        refine aw_iload_n (q := 96) 1 dX6_setsPrice_95 rfl rfl rfl ?_
        refine aw_bipush (q := 98) dX6_setsPrice_96 rfl (by decide) ?_
        refine aw_iload_n (q := 99) 3 dX6_setsPrice_98 rfl rfl rfl ?_
        refine aw_if_eq (q := 102) dX6_setsPrice_99 rfl (t := 106) (by decide) (by omega) (fun _ => ?_) (fun h => absurd h (by omega))
        refine aw_iconst (q := 107) dX6_setsPrice_106 rfl ?_
        refine cv_V (q := 110) (CC := "") (id := 108) (As := [.int (iI c), .int (iI 11), .int (iI 0)]) 3 (c_lay (T := T) (D := D) (ad := ad) G (by omega) (by omega)) (fun _ h => h) (by omega) (cell_108 ad C _) rfl wc_X6_lay wm_RX6_92 wi_X6_lay ws_X6_lay wn_X6 (by decide) rfl ⟨Nat.le_of_ble_eq_true rfl, Nat.le_of_ble_eq_true rfl⟩ ⟨Nat.le_of_ble_eq_true rfl, Nat.le_of_ble_eq_true rfl⟩ (Nat.le_of_ble_eq_true rfl) dX6_setsPrice_107 rfl (fun G9 h9 => ?_)
        rw [h9]
        clear h9
        refine aw_aload_n (q := 111) 0 dX6_setsPrice_110 rfl rfl rfl ?_
        refine aw_iload_n (q := 112) 1 dX6_setsPrice_111 rfl rfl rfl ?_
        refine aw_bipush (q := 114) dX6_setsPrice_112 rfl (by decide) ?_
        refine aw_aload_n (q := 115) 0 dX6_setsPrice_114 rfl rfl rfl ?_
        refine aw_iload_n (q := 116) 1 dX6_setsPrice_115 rfl rfl rfl ?_
        refine aw_bipush (q := 118) dX6_setsPrice_116 rfl (by decide) ?_
        refine cv_I (q := 121) (CC := "") (id := 108) (As := [.int (iI c), .int (iI 8)]) 2 (c_of (T := T) (D := D) (ad := ad) (setG G 12 (15 + 12 * c + 11) 0) (by omega) (by omega)) (fun _ h => h) (by omega) (cell_108 ad C _) rfl wc_X6_of wm_RX6_100 wi_X6_of ws_X6_of wn_X6 (by decide) rfl ⟨Nat.le_of_ble_eq_true rfl, Nat.le_of_ble_eq_true rfl⟩ ⟨Nat.le_of_ble_eq_true rfl, Nat.le_of_ble_eq_true rfl⟩ (Nat.le_of_ble_eq_true rfl) dX6_setsPrice_118 rfl (fun r9 G9 h9 => ?_)
        obtain ⟨e9, g9⟩ := h9
        rw [e9.trans ((setG_ne (by omega))), g9]
        clear e9 g9
        refine aw_aload_n (q := 122) 0 dX6_setsPrice_121 rfl rfl rfl ?_
        refine aw_iload_n (q := 123) 1 dX6_setsPrice_122 rfl rfl rfl ?_
        refine aw_bipush (q := 125) dX6_setsPrice_123 rfl (by decide) ?_
        refine cv_I (q := 128) (CC := "") (id := 108) (As := [.int (iI c), .int (iI 11)]) 2 (c_of (T := T) (D := D) (ad := ad) (setG G 12 (15 + 12 * c + 11) 0) (by omega) (by omega)) (fun _ h => h) (by omega) (cell_108 ad C _) rfl wc_X6_of wm_RX6_100 wi_X6_of ws_X6_of wn_X6 (by decide) rfl ⟨Nat.le_of_ble_eq_true rfl, Nat.le_of_ble_eq_true rfl⟩ ⟨Nat.le_of_ble_eq_true rfl, Nat.le_of_ble_eq_true rfl⟩ (Nat.le_of_ble_eq_true rfl) dX6_setsPrice_125 rfl (fun r9 G9 h9 => ?_)
        obtain ⟨e9, g9⟩ := h9
        rw [e9.trans ((setG_same _ _ _ _)), g9]
        clear e9 g9
        refine ae_iadd (q := 129) ((G 12 (15 + 12 * c + 8))) (by omega) dX6_setsPrice_128 rfl ?_
        refine cv_V (q := 132) (CC := "") (id := 108) (As := [.int (iI c), .int (iI 8), .int (iI ((G 12 (15 + 12 * c + 8))))]) 3 (c_lay (T := T) (D := D) (ad := ad) (setG G 12 (15 + 12 * c + 11) 0) (by omega) (by omega)) (fun _ h => h) (by omega) (cell_108 ad C _) rfl wc_X6_lay wm_RX6_92 wi_X6_lay ws_X6_lay wn_X6 (by decide) rfl ⟨Nat.le_of_ble_eq_true rfl, Nat.le_of_ble_eq_true rfl⟩ ⟨Nat.le_of_ble_eq_true rfl, Nat.le_of_ble_eq_true rfl⟩ (Nat.le_of_ble_eq_true rfl) dX6_setsPrice_129 rfl (fun G9 h9 => ?_)
        rw [h9]
        clear h9
        refine aw_aload_n (q := 133) 0 dX6_setsPrice_132 rfl rfl rfl ?_
        refine aw_iload_n (q := 134) 1 dX6_setsPrice_133 rfl rfl rfl ?_
        refine aw_iconst (q := 135) dX6_setsPrice_134 rfl ?_
        refine aw_aload_n (q := 136) 0 dX6_setsPrice_135 rfl rfl rfl ?_
        refine aw_iload_n (q := 137) 1 dX6_setsPrice_136 rfl rfl rfl ?_
        refine aw_iconst (q := 138) dX6_setsPrice_137 rfl ?_
        refine cv_I (q := 141) (CC := "") (id := 108) (As := [.int (iI c), .int (iI 2)]) 2 (c_of (T := T) (D := D) (ad := ad) (setG (setG G 12 (15 + 12 * c + 11) 0) 12 (15 + 12 * c + 8) ((G 12 (15 + 12 * c + 8)))) (by omega) (by omega)) (fun _ h => h) (by omega) (cell_108 ad C _) rfl wc_X6_of wm_RX6_100 wi_X6_of ws_X6_of wn_X6 (by decide) rfl ⟨Nat.le_of_ble_eq_true rfl, Nat.le_of_ble_eq_true rfl⟩ ⟨Nat.le_of_ble_eq_true rfl, Nat.le_of_ble_eq_true rfl⟩ (Nat.le_of_ble_eq_true rfl) dX6_setsPrice_138 rfl (fun r9 G9 h9 => ?_)
        obtain ⟨e9, g9⟩ := h9
        rw [e9.trans (((setG_ne (by omega)).trans (setG_ne (by omega)))), g9]
        clear e9 g9
        refine aw_iload_n (q := 142) 3 dX6_setsPrice_141 rfl rfl rfl ?_
        refine aw_if_eq (q := 145) dX6_setsPrice_142 rfl (t := 149) (by decide) (by omega) (fun _ => ?_) (fun h => absurd h (by omega))
        refine aw_iload (q := 151) 4 dX6_setsPrice_149 rfl rfl ?_
        refine aw_if_eq (q := 154) dX6_setsPrice_151 rfl (t := 159) (by decide) (by omega) (fun _ => ?_) (fun h => absurd h (by omega))
        refine aw_iconst (q := 160) dX6_setsPrice_159 rfl ?_
        refine ae_iadd (q := 161) ((G 12 (15 + 12 * c + 2))) (by omega) dX6_setsPrice_160 rfl ?_
        refine cv_V (q := 164) (CC := "") (id := 108) (As := [.int (iI c), .int (iI 2), .int (iI ((G 12 (15 + 12 * c + 2))))]) 3 (c_lay (T := T) (D := D) (ad := ad) (setG (setG G 12 (15 + 12 * c + 11) 0) 12 (15 + 12 * c + 8) ((G 12 (15 + 12 * c + 8)))) (by omega) (by omega)) (fun _ h => h) (by omega) (cell_108 ad C _) rfl wc_X6_lay wm_RX6_92 wi_X6_lay ws_X6_lay wn_X6 (by decide) rfl ⟨Nat.le_of_ble_eq_true rfl, Nat.le_of_ble_eq_true rfl⟩ ⟨Nat.le_of_ble_eq_true rfl, Nat.le_of_ble_eq_true rfl⟩ (Nat.le_of_ble_eq_true rfl) dX6_setsPrice_161 rfl (fun G9 h9 => ?_)
        rw [h9]
        clear h9
        exact rt_v rfl (Nat.le_refl _) (Nat.le_refl _) (by first | exact sp_1 ⟨by assumption, by omega, by omega⟩ | exact sp_2 (fun q => by have q1 := q.1; have q2 := q.2; first | omega | contradiction) ⟨by assumption, by omega⟩ | exact sp_3 (fun q => by have q1 := q.1; have q2 := q.2; first | omega | contradiction) (fun q => by have q1 := q.1; have q2 := q.2; first | omega | contradiction) | (exfalso; omega) | (exfalso; contradiction)) dX6_setsPrice_164
      · refine aw_iconst (q := 88) dX6_setsPrice_87 rfl ?_
        refine aw_goto (q := 92) dX6_setsPrice_88 (by decide) ?_
        refine aw_istore (q := 94) (lv2 := [(0, .ref (ad 108)), (1, .int (iI c)), (2, .float (FP.fmul 1092616192 (fB ((G 12 (15 + 12 * c + 10)))))), (3, .int (iI 0)), (4, .int (iI 1))]) [1, 2, 3, 4, 0] dX6_setsPrice_92 rfl (by decide) rfl rfl ?_
        refine aw_aload_n (q := 95) 0 dX6_setsPrice_94 rfl rfl rfl ?_
        refine aw_iload_n (q := 96) 1 dX6_setsPrice_95 rfl rfl rfl ?_
        refine aw_bipush (q := 98) dX6_setsPrice_96 rfl (by decide) ?_
        refine aw_iload_n (q := 99) 3 dX6_setsPrice_98 rfl rfl rfl ?_
        refine aw_if_eq (q := 102) dX6_setsPrice_99 rfl (t := 106) (by decide) (by omega) (fun _ => ?_) (fun h => absurd h (by omega))
        refine aw_iconst (q := 107) dX6_setsPrice_106 rfl ?_
        refine cv_V (q := 110) (CC := "") (id := 108) (As := [.int (iI c), .int (iI 11), .int (iI 0)]) 3 (c_lay (T := T) (D := D) (ad := ad) G (by omega) (by omega)) (fun _ h => h) (by omega) (cell_108 ad C _) rfl wc_X6_lay wm_RX6_92 wi_X6_lay ws_X6_lay wn_X6 (by decide) rfl ⟨Nat.le_of_ble_eq_true rfl, Nat.le_of_ble_eq_true rfl⟩ ⟨Nat.le_of_ble_eq_true rfl, Nat.le_of_ble_eq_true rfl⟩ (Nat.le_of_ble_eq_true rfl) dX6_setsPrice_107 rfl (fun G9 h9 => ?_)
        rw [h9]
        clear h9
        refine aw_aload_n (q := 111) 0 dX6_setsPrice_110 rfl rfl rfl ?_
        refine aw_iload_n (q := 112) 1 dX6_setsPrice_111 rfl rfl rfl ?_
        refine aw_bipush (q := 114) dX6_setsPrice_112 rfl (by decide) ?_
        refine aw_aload_n (q := 115) 0 dX6_setsPrice_114 rfl rfl rfl ?_
        refine aw_iload_n (q := 116) 1 dX6_setsPrice_115 rfl rfl rfl ?_
        refine aw_bipush (q := 118) dX6_setsPrice_116 rfl (by decide) ?_
        refine cv_I (q := 121) (CC := "") (id := 108) (As := [.int (iI c), .int (iI 8)]) 2 (c_of (T := T) (D := D) (ad := ad) (setG G 12 (15 + 12 * c + 11) 0) (by omega) (by omega)) (fun _ h => h) (by omega) (cell_108 ad C _) rfl wc_X6_of wm_RX6_100 wi_X6_of ws_X6_of wn_X6 (by decide) rfl ⟨Nat.le_of_ble_eq_true rfl, Nat.le_of_ble_eq_true rfl⟩ ⟨Nat.le_of_ble_eq_true rfl, Nat.le_of_ble_eq_true rfl⟩ (Nat.le_of_ble_eq_true rfl) dX6_setsPrice_118 rfl (fun r9 G9 h9 => ?_)
        obtain ⟨e9, g9⟩ := h9
        rw [e9.trans ((setG_ne (by omega))), g9]
        clear e9 g9
        refine aw_aload_n (q := 122) 0 dX6_setsPrice_121 rfl rfl rfl ?_
        refine aw_iload_n (q := 123) 1 dX6_setsPrice_122 rfl rfl rfl ?_
        refine aw_bipush (q := 125) dX6_setsPrice_123 rfl (by decide) ?_
        refine cv_I (q := 128) (CC := "") (id := 108) (As := [.int (iI c), .int (iI 11)]) 2 (c_of (T := T) (D := D) (ad := ad) (setG G 12 (15 + 12 * c + 11) 0) (by omega) (by omega)) (fun _ h => h) (by omega) (cell_108 ad C _) rfl wc_X6_of wm_RX6_100 wi_X6_of ws_X6_of wn_X6 (by decide) rfl ⟨Nat.le_of_ble_eq_true rfl, Nat.le_of_ble_eq_true rfl⟩ ⟨Nat.le_of_ble_eq_true rfl, Nat.le_of_ble_eq_true rfl⟩ (Nat.le_of_ble_eq_true rfl) dX6_setsPrice_125 rfl (fun r9 G9 h9 => ?_)
        obtain ⟨e9, g9⟩ := h9
        rw [e9.trans ((setG_same _ _ _ _)), g9]
        clear e9 g9
        refine ae_iadd (q := 129) ((G 12 (15 + 12 * c + 8))) (by omega) dX6_setsPrice_128 rfl ?_
        refine cv_V (q := 132) (CC := "") (id := 108) (As := [.int (iI c), .int (iI 8), .int (iI ((G 12 (15 + 12 * c + 8))))]) 3 (c_lay (T := T) (D := D) (ad := ad) (setG G 12 (15 + 12 * c + 11) 0) (by omega) (by omega)) (fun _ h => h) (by omega) (cell_108 ad C _) rfl wc_X6_lay wm_RX6_92 wi_X6_lay ws_X6_lay wn_X6 (by decide) rfl ⟨Nat.le_of_ble_eq_true rfl, Nat.le_of_ble_eq_true rfl⟩ ⟨Nat.le_of_ble_eq_true rfl, Nat.le_of_ble_eq_true rfl⟩ (Nat.le_of_ble_eq_true rfl) dX6_setsPrice_129 rfl (fun G9 h9 => ?_)
        rw [h9]
        clear h9
        refine aw_aload_n (q := 133) 0 dX6_setsPrice_132 rfl rfl rfl ?_
        refine aw_iload_n (q := 134) 1 dX6_setsPrice_133 rfl rfl rfl ?_
        refine aw_iconst (q := 135) dX6_setsPrice_134 rfl ?_
        refine aw_aload_n (q := 136) 0 dX6_setsPrice_135 rfl rfl rfl ?_
        refine aw_iload_n (q := 137) 1 dX6_setsPrice_136 rfl rfl rfl ?_
        refine aw_iconst (q := 138) dX6_setsPrice_137 rfl ?_
        refine cv_I (q := 141) (CC := "") (id := 108) (As := [.int (iI c), .int (iI 2)]) 2 (c_of (T := T) (D := D) (ad := ad) (setG (setG G 12 (15 + 12 * c + 11) 0) 12 (15 + 12 * c + 8) ((G 12 (15 + 12 * c + 8)))) (by omega) (by omega)) (fun _ h => h) (by omega) (cell_108 ad C _) rfl wc_X6_of wm_RX6_100 wi_X6_of ws_X6_of wn_X6 (by decide) rfl ⟨Nat.le_of_ble_eq_true rfl, Nat.le_of_ble_eq_true rfl⟩ ⟨Nat.le_of_ble_eq_true rfl, Nat.le_of_ble_eq_true rfl⟩ (Nat.le_of_ble_eq_true rfl) dX6_setsPrice_138 rfl (fun r9 G9 h9 => ?_)
        obtain ⟨e9, g9⟩ := h9
        rw [e9.trans (((setG_ne (by omega)).trans (setG_ne (by omega)))), g9]
        clear e9 g9
        refine aw_iload_n (q := 142) 3 dX6_setsPrice_141 rfl rfl rfl ?_
        refine aw_if_eq (q := 145) dX6_setsPrice_142 rfl (t := 149) (by decide) (by omega) (fun _ => ?_) (fun h => absurd h (by omega))
        refine aw_iload (q := 151) 4 dX6_setsPrice_149 rfl rfl ?_
        refine aw_if_eq (q := 154) dX6_setsPrice_151 rfl (t := 159) (by decide) (by omega) (fun h => absurd h (by omega)) (fun _ => ?_)
        refine aw_bipush (q := 156) dX6_setsPrice_154 rfl (by decide) ?_
        refine aw_goto (q := 160) dX6_setsPrice_156 (by decide) ?_
        refine ae_iadd (q := 161) ((G 12 (15 + 12 * c + 2)) - 5) (by omega) dX6_setsPrice_160 rfl ?_
        refine cv_V (q := 164) (CC := "") (id := 108) (As := [.int (iI c), .int (iI 2), .int (iI ((G 12 (15 + 12 * c + 2)) - 5))]) 3 (c_lay (T := T) (D := D) (ad := ad) (setG (setG G 12 (15 + 12 * c + 11) 0) 12 (15 + 12 * c + 8) ((G 12 (15 + 12 * c + 8)))) (by omega) (by omega)) (fun _ h => h) (by omega) (cell_108 ad C _) rfl wc_X6_lay wm_RX6_92 wi_X6_lay ws_X6_lay wn_X6 (by decide) rfl ⟨Nat.le_of_ble_eq_true rfl, Nat.le_of_ble_eq_true rfl⟩ ⟨Nat.le_of_ble_eq_true rfl, Nat.le_of_ble_eq_true rfl⟩ (Nat.le_of_ble_eq_true rfl) dX6_setsPrice_161 rfl (fun G9 h9 => ?_)
        rw [h9]
        clear h9
        exact rt_v rfl (Nat.le_refl _) (Nat.le_refl _) (by first | exact sp_1 ⟨by assumption, by omega, by omega⟩ | exact sp_2 (fun q => by have q1 := q.1; have q2 := q.2; first | omega | contradiction) ⟨by assumption, by omega⟩ | exact sp_3 (fun q => by have q1 := q.1; have q2 := q.2; first | omega | contradiction) (fun q => by have q1 := q.1; have q2 := q.2; first | omega | contradiction) | (exfalso; omega) | (exfalso; contradiction)) dX6_setsPrice_164
  · refine aw_aload_n (q := 27) 0 dX6_setsPrice_26 rfl rfl rfl ?_
    refine aw_iload_n (q := 28) 1 dX6_setsPrice_27 rfl rfl rfl ?_
    refine aw_iconst (q := 29) dX6_setsPrice_28 rfl ?_
    refine cv_I (q := 32) (CC := "") (id := 108) (As := [.int (iI c), .int (iI 5)]) 2 (c_of (T := T) (D := D) (ad := ad) G (by omega) (by omega)) (fun _ h => h) (by omega) (cell_108 ad C _) rfl wc_X6_of wm_RX6_100 wi_X6_of ws_X6_of wn_X6 (by decide) rfl ⟨Nat.le_of_ble_eq_true rfl, Nat.le_of_ble_eq_true rfl⟩ ⟨Nat.le_of_ble_eq_true rfl, Nat.le_of_ble_eq_true rfl⟩ (Nat.le_of_ble_eq_true rfl) dX6_setsPrice_29 rfl (fun r9 G9 h9 => ?_)
    obtain ⟨e9, g9⟩ := h9
    rw [e9.trans (rfl), g9]
    clear e9 g9
    refine aw_if_ne (q := 35) dX6_setsPrice_32 rfl (t := 54) (by decide) (by omega) (fun y7 => ?_) (fun y8 => ?_)
    · refine aw_iconst (q := 55) dX6_setsPrice_54 rfl ?_
      refine aw_istore_n (q := 56) (lv2 := [(0, .ref (ad 108)), (1, .int (iI c)), (2, .float (FP.fmul 1092616192 (fB ((G 12 (15 + 12 * c + 10)))))), (3, .int (iI 0))]) [1, 2, 3, 0] dX6_setsPrice_55 rfl rfl (by decide) rfl rfl ?_
      refine aw_iload_n (q := 57) 3 dX6_setsPrice_56 rfl rfl rfl ?_
      refine aw_if_ne (q := 60) dX6_setsPrice_57 rfl (t := 91) (by decide) (by omega) (fun h => absurd h (by omega)) (fun _ => ?_)
      refine aw_fload_n (q := 61) 2 dX6_setsPrice_60 rfl rfl rfl ?_
      refine aw_aload_n (q := 62) 0 dX6_setsPrice_61 rfl rfl rfl ?_
      refine g_mod_p (q := 65) wf_RX6_7 dX6_setsPrice_62 rfl ?_
      refine aw_iconst (q := 66) dX6_setsPrice_65 rfl ?_
      refine aw_cial (q := 67) (v := (G 12 1)) 1 (ar_109 ad C) (by omega) (by omega) rfl dX6_setsPrice_66 rfl ?_
      refine aw_i2f (q := 68) dX6_setsPrice_67 rfl ?_
      refine aw_fcmp (q := 69) dX6_setsPrice_68 rfl ?_
      refine aw_ifW_ge (q := 72) dX6_setsPrice_69 rfl (t := 91) (by decide) (fun y9 => ?_) (fun y10 => ?_)
      · refine aw_iconst (q := 92) dX6_setsPrice_91 rfl ?_
        refine aw_istore (q := 94) (lv2 := [(0, .ref (ad 108)), (1, .int (iI c)), (2, .float (FP.fmul 1092616192 (fB ((G 12 (15 + 12 * c + 10)))))), (3, .int (iI 0)), (4, .int (iI 0))]) [1, 2, 3, 4, 0] dX6_setsPrice_92 rfl (by decide) rfl rfl ?_
        refine aw_aload_n (q := 95) 0 dX6_setsPrice_94 rfl rfl rfl ?_
        refine aw_iload_n (q := 96) 1 dX6_setsPrice_95 rfl rfl rfl ?_
        refine aw_bipush (q := 98) dX6_setsPrice_96 rfl (by decide) ?_
        refine aw_iload_n (q := 99) 3 dX6_setsPrice_98 rfl rfl rfl ?_
        refine aw_if_eq (q := 102) dX6_setsPrice_99 rfl (t := 106) (by decide) (by omega) (fun _ => ?_) (fun h => absurd h (by omega))
        refine aw_iconst (q := 107) dX6_setsPrice_106 rfl ?_
        refine cv_V (q := 110) (CC := "") (id := 108) (As := [.int (iI c), .int (iI 11), .int (iI 0)]) 3 (c_lay (T := T) (D := D) (ad := ad) G (by omega) (by omega)) (fun _ h => h) (by omega) (cell_108 ad C _) rfl wc_X6_lay wm_RX6_92 wi_X6_lay ws_X6_lay wn_X6 (by decide) rfl ⟨Nat.le_of_ble_eq_true rfl, Nat.le_of_ble_eq_true rfl⟩ ⟨Nat.le_of_ble_eq_true rfl, Nat.le_of_ble_eq_true rfl⟩ (Nat.le_of_ble_eq_true rfl) dX6_setsPrice_107 rfl (fun G9 h9 => ?_)
        rw [h9]
        clear h9
        refine aw_aload_n (q := 111) 0 dX6_setsPrice_110 rfl rfl rfl ?_
        refine aw_iload_n (q := 112) 1 dX6_setsPrice_111 rfl rfl rfl ?_
        refine aw_bipush (q := 114) dX6_setsPrice_112 rfl (by decide) ?_
        refine aw_aload_n (q := 115) 0 dX6_setsPrice_114 rfl rfl rfl ?_
        refine aw_iload_n (q := 116) 1 dX6_setsPrice_115 rfl rfl rfl ?_
        refine aw_bipush (q := 118) dX6_setsPrice_116 rfl (by decide) ?_
        refine cv_I (q := 121) (CC := "") (id := 108) (As := [.int (iI c), .int (iI 8)]) 2 (c_of (T := T) (D := D) (ad := ad) (setG G 12 (15 + 12 * c + 11) 0) (by omega) (by omega)) (fun _ h => h) (by omega) (cell_108 ad C _) rfl wc_X6_of wm_RX6_100 wi_X6_of ws_X6_of wn_X6 (by decide) rfl ⟨Nat.le_of_ble_eq_true rfl, Nat.le_of_ble_eq_true rfl⟩ ⟨Nat.le_of_ble_eq_true rfl, Nat.le_of_ble_eq_true rfl⟩ (Nat.le_of_ble_eq_true rfl) dX6_setsPrice_118 rfl (fun r9 G9 h9 => ?_)
        obtain ⟨e9, g9⟩ := h9
        rw [e9.trans ((setG_ne (by omega))), g9]
        clear e9 g9
        refine aw_aload_n (q := 122) 0 dX6_setsPrice_121 rfl rfl rfl ?_
        refine aw_iload_n (q := 123) 1 dX6_setsPrice_122 rfl rfl rfl ?_
        refine aw_bipush (q := 125) dX6_setsPrice_123 rfl (by decide) ?_
        refine cv_I (q := 128) (CC := "") (id := 108) (As := [.int (iI c), .int (iI 11)]) 2 (c_of (T := T) (D := D) (ad := ad) (setG G 12 (15 + 12 * c + 11) 0) (by omega) (by omega)) (fun _ h => h) (by omega) (cell_108 ad C _) rfl wc_X6_of wm_RX6_100 wi_X6_of ws_X6_of wn_X6 (by decide) rfl ⟨Nat.le_of_ble_eq_true rfl, Nat.le_of_ble_eq_true rfl⟩ ⟨Nat.le_of_ble_eq_true rfl, Nat.le_of_ble_eq_true rfl⟩ (Nat.le_of_ble_eq_true rfl) dX6_setsPrice_125 rfl (fun r9 G9 h9 => ?_)
        obtain ⟨e9, g9⟩ := h9
        rw [e9.trans ((setG_same _ _ _ _)), g9]
        clear e9 g9
        refine ae_iadd (q := 129) ((G 12 (15 + 12 * c + 8))) (by omega) dX6_setsPrice_128 rfl ?_
        refine cv_V (q := 132) (CC := "") (id := 108) (As := [.int (iI c), .int (iI 8), .int (iI ((G 12 (15 + 12 * c + 8))))]) 3 (c_lay (T := T) (D := D) (ad := ad) (setG G 12 (15 + 12 * c + 11) 0) (by omega) (by omega)) (fun _ h => h) (by omega) (cell_108 ad C _) rfl wc_X6_lay wm_RX6_92 wi_X6_lay ws_X6_lay wn_X6 (by decide) rfl ⟨Nat.le_of_ble_eq_true rfl, Nat.le_of_ble_eq_true rfl⟩ ⟨Nat.le_of_ble_eq_true rfl, Nat.le_of_ble_eq_true rfl⟩ (Nat.le_of_ble_eq_true rfl) dX6_setsPrice_129 rfl (fun G9 h9 => ?_)
        rw [h9]
        clear h9
        refine aw_aload_n (q := 133) 0 dX6_setsPrice_132 rfl rfl rfl ?_
        refine aw_iload_n (q := 134) 1 dX6_setsPrice_133 rfl rfl rfl ?_
        refine aw_iconst (q := 135) dX6_setsPrice_134 rfl ?_
        refine aw_aload_n (q := 136) 0 dX6_setsPrice_135 rfl rfl rfl ?_
        refine aw_iload_n (q := 137) 1 dX6_setsPrice_136 rfl rfl rfl ?_
        refine aw_iconst (q := 138) dX6_setsPrice_137 rfl ?_
        refine cv_I (q := 141) (CC := "") (id := 108) (As := [.int (iI c), .int (iI 2)]) 2 (c_of (T := T) (D := D) (ad := ad) (setG (setG G 12 (15 + 12 * c + 11) 0) 12 (15 + 12 * c + 8) ((G 12 (15 + 12 * c + 8)))) (by omega) (by omega)) (fun _ h => h) (by omega) (cell_108 ad C _) rfl wc_X6_of wm_RX6_100 wi_X6_of ws_X6_of wn_X6 (by decide) rfl ⟨Nat.le_of_ble_eq_true rfl, Nat.le_of_ble_eq_true rfl⟩ ⟨Nat.le_of_ble_eq_true rfl, Nat.le_of_ble_eq_true rfl⟩ (Nat.le_of_ble_eq_true rfl) dX6_setsPrice_138 rfl (fun r9 G9 h9 => ?_)
        obtain ⟨e9, g9⟩ := h9
        rw [e9.trans (((setG_ne (by omega)).trans (setG_ne (by omega)))), g9]
        clear e9 g9
        refine aw_iload_n (q := 142) 3 dX6_setsPrice_141 rfl rfl rfl ?_
        refine aw_if_eq (q := 145) dX6_setsPrice_142 rfl (t := 149) (by decide) (by omega) (fun _ => ?_) (fun h => absurd h (by omega))
        refine aw_iload (q := 151) 4 dX6_setsPrice_149 rfl rfl ?_
        refine aw_if_eq (q := 154) dX6_setsPrice_151 rfl (t := 159) (by decide) (by omega) (fun _ => ?_) (fun h => absurd h (by omega))
        refine aw_iconst (q := 160) dX6_setsPrice_159 rfl ?_
        refine ae_iadd (q := 161) ((G 12 (15 + 12 * c + 2))) (by omega) dX6_setsPrice_160 rfl ?_
        refine cv_V (q := 164) (CC := "") (id := 108) (As := [.int (iI c), .int (iI 2), .int (iI ((G 12 (15 + 12 * c + 2))))]) 3 (c_lay (T := T) (D := D) (ad := ad) (setG (setG G 12 (15 + 12 * c + 11) 0) 12 (15 + 12 * c + 8) ((G 12 (15 + 12 * c + 8)))) (by omega) (by omega)) (fun _ h => h) (by omega) (cell_108 ad C _) rfl wc_X6_lay wm_RX6_92 wi_X6_lay ws_X6_lay wn_X6 (by decide) rfl ⟨Nat.le_of_ble_eq_true rfl, Nat.le_of_ble_eq_true rfl⟩ ⟨Nat.le_of_ble_eq_true rfl, Nat.le_of_ble_eq_true rfl⟩ (Nat.le_of_ble_eq_true rfl) dX6_setsPrice_161 rfl (fun G9 h9 => ?_)
        rw [h9]
        clear h9
        exact rt_v rfl (Nat.le_refl _) (Nat.le_refl _) (by first | exact sp_1 ⟨by assumption, by omega, by omega⟩ | exact sp_2 (fun q => by have q1 := q.1; have q2 := q.2; first | omega | contradiction) ⟨by assumption, by omega⟩ | exact sp_3 (fun q => by have q1 := q.1; have q2 := q.2; first | omega | contradiction) (fun q => by have q1 := q.1; have q2 := q.2; first | omega | contradiction) | (exfalso; omega) | (exfalso; contradiction)) dX6_setsPrice_164
      · refine aw_aload_n (q := 73) 0 dX6_setsPrice_72 rfl rfl rfl ?_
        refine aw_iload_n (q := 74) 1 dX6_setsPrice_73 rfl rfl rfl ?_
        refine aw_iconst (q := 75) dX6_setsPrice_74 rfl ?_
        refine cv_I (q := 78) (CC := "") (id := 108) (As := [.int (iI c), .int (iI 2)]) 2 (c_of (T := T) (D := D) (ad := ad) G (by omega) (by omega)) (fun _ h => h) (by omega) (cell_108 ad C _) rfl wc_X6_of wm_RX6_100 wi_X6_of ws_X6_of wn_X6 (by decide) rfl ⟨Nat.le_of_ble_eq_true rfl, Nat.le_of_ble_eq_true rfl⟩ ⟨Nat.le_of_ble_eq_true rfl, Nat.le_of_ble_eq_true rfl⟩ (Nat.le_of_ble_eq_true rfl) dX6_setsPrice_75 rfl (fun r9 G9 h9 => ?_)
        obtain ⟨e9, g9⟩ := h9
        rw [e9.trans (rfl), g9]
        clear e9 g9
        refine aw_aload_n (q := 79) 0 dX6_setsPrice_78 rfl rfl rfl ?_
        refine aw_iload_n (q := 80) 1 dX6_setsPrice_79 rfl rfl rfl ?_
        refine aw_iconst (q := 81) dX6_setsPrice_80 rfl ?_
        refine cv_I (q := 84) (CC := "") (id := 108) (As := [.int (iI c), .int (iI 3)]) 2 (c_of (T := T) (D := D) (ad := ad) G (by omega) (by omega)) (fun _ h => h) (by omega) (cell_108 ad C _) rfl wc_X6_of wm_RX6_100 wi_X6_of ws_X6_of wn_X6 (by decide) rfl ⟨Nat.le_of_ble_eq_true rfl, Nat.le_of_ble_eq_true rfl⟩ ⟨Nat.le_of_ble_eq_true rfl, Nat.le_of_ble_eq_true rfl⟩ (Nat.le_of_ble_eq_true rfl) dX6_setsPrice_81 rfl (fun r9 G9 h9 => ?_)
        obtain ⟨e9, g9⟩ := h9
        rw [e9.trans (rfl), g9]
        clear e9 g9
        refine aw_icmp_le (q := 87) dX6_setsPrice_84 rfl (t := 91) (by decide) (by omega) (by omega) (fun y11 => ?_) (fun y12 => ?_)
        · refine aw_iconst (q := 92) dX6_setsPrice_91 rfl ?_
          refine aw_istore (q := 94) (lv2 := [(0, .ref (ad 108)), (1, .int (iI c)), (2, .float (FP.fmul 1092616192 (fB ((G 12 (15 + 12 * c + 10)))))), (3, .int (iI 0)), (4, .int (iI 0))]) [1, 2, 3, 4, 0] dX6_setsPrice_92 rfl (by decide) rfl rfl ?_
          refine aw_aload_n (q := 95) 0 dX6_setsPrice_94 rfl rfl rfl ?_
          refine aw_iload_n (q := 96) 1 dX6_setsPrice_95 rfl rfl rfl ?_
          refine aw_bipush (q := 98) dX6_setsPrice_96 rfl (by decide) ?_
          refine aw_iload_n (q := 99) 3 dX6_setsPrice_98 rfl rfl rfl ?_
          refine aw_if_eq (q := 102) dX6_setsPrice_99 rfl (t := 106) (by decide) (by omega) (fun _ => ?_) (fun h => absurd h (by omega))
          refine aw_iconst (q := 107) dX6_setsPrice_106 rfl ?_
          refine cv_V (q := 110) (CC := "") (id := 108) (As := [.int (iI c), .int (iI 11), .int (iI 0)]) 3 (c_lay (T := T) (D := D) (ad := ad) G (by omega) (by omega)) (fun _ h => h) (by omega) (cell_108 ad C _) rfl wc_X6_lay wm_RX6_92 wi_X6_lay ws_X6_lay wn_X6 (by decide) rfl ⟨Nat.le_of_ble_eq_true rfl, Nat.le_of_ble_eq_true rfl⟩ ⟨Nat.le_of_ble_eq_true rfl, Nat.le_of_ble_eq_true rfl⟩ (Nat.le_of_ble_eq_true rfl) dX6_setsPrice_107 rfl (fun G9 h9 => ?_)
          rw [h9]
          clear h9
          refine aw_aload_n (q := 111) 0 dX6_setsPrice_110 rfl rfl rfl ?_
          refine aw_iload_n (q := 112) 1 dX6_setsPrice_111 rfl rfl rfl ?_
          refine aw_bipush (q := 114) dX6_setsPrice_112 rfl (by decide) ?_
          refine aw_aload_n (q := 115) 0 dX6_setsPrice_114 rfl rfl rfl ?_
          refine aw_iload_n (q := 116) 1 dX6_setsPrice_115 rfl rfl rfl ?_
          refine aw_bipush (q := 118) dX6_setsPrice_116 rfl (by decide) ?_
          refine cv_I (q := 121) (CC := "") (id := 108) (As := [.int (iI c), .int (iI 8)]) 2 (c_of (T := T) (D := D) (ad := ad) (setG G 12 (15 + 12 * c + 11) 0) (by omega) (by omega)) (fun _ h => h) (by omega) (cell_108 ad C _) rfl wc_X6_of wm_RX6_100 wi_X6_of ws_X6_of wn_X6 (by decide) rfl ⟨Nat.le_of_ble_eq_true rfl, Nat.le_of_ble_eq_true rfl⟩ ⟨Nat.le_of_ble_eq_true rfl, Nat.le_of_ble_eq_true rfl⟩ (Nat.le_of_ble_eq_true rfl) dX6_setsPrice_118 rfl (fun r9 G9 h9 => ?_)
          obtain ⟨e9, g9⟩ := h9
          rw [e9.trans ((setG_ne (by omega))), g9]
          clear e9 g9
          refine aw_aload_n (q := 122) 0 dX6_setsPrice_121 rfl rfl rfl ?_
          refine aw_iload_n (q := 123) 1 dX6_setsPrice_122 rfl rfl rfl ?_
          refine aw_bipush (q := 125) dX6_setsPrice_123 rfl (by decide) ?_
          refine cv_I (q := 128) (CC := "") (id := 108) (As := [.int (iI c), .int (iI 11)]) 2 (c_of (T := T) (D := D) (ad := ad) (setG G 12 (15 + 12 * c + 11) 0) (by omega) (by omega)) (fun _ h => h) (by omega) (cell_108 ad C _) rfl wc_X6_of wm_RX6_100 wi_X6_of ws_X6_of wn_X6 (by decide) rfl ⟨Nat.le_of_ble_eq_true rfl, Nat.le_of_ble_eq_true rfl⟩ ⟨Nat.le_of_ble_eq_true rfl, Nat.le_of_ble_eq_true rfl⟩ (Nat.le_of_ble_eq_true rfl) dX6_setsPrice_125 rfl (fun r9 G9 h9 => ?_)
          obtain ⟨e9, g9⟩ := h9
          rw [e9.trans ((setG_same _ _ _ _)), g9]
          clear e9 g9
          refine ae_iadd (q := 129) ((G 12 (15 + 12 * c + 8))) (by omega) dX6_setsPrice_128 rfl ?_
          refine cv_V (q := 132) (CC := "") (id := 108) (As := [.int (iI c), .int (iI 8), .int (iI ((G 12 (15 + 12 * c + 8))))]) 3 (c_lay (T := T) (D := D) (ad := ad) (setG G 12 (15 + 12 * c + 11) 0) (by omega) (by omega)) (fun _ h => h) (by omega) (cell_108 ad C _) rfl wc_X6_lay wm_RX6_92 wi_X6_lay ws_X6_lay wn_X6 (by decide) rfl ⟨Nat.le_of_ble_eq_true rfl, Nat.le_of_ble_eq_true rfl⟩ ⟨Nat.le_of_ble_eq_true rfl, Nat.le_of_ble_eq_true rfl⟩ (Nat.le_of_ble_eq_true rfl) dX6_setsPrice_129 rfl (fun G9 h9 => ?_)
          rw [h9]
          clear h9
          refine aw_aload_n (q := 133) 0 dX6_setsPrice_132 rfl rfl rfl ?_
          refine aw_iload_n (q := 134) 1 dX6_setsPrice_133 rfl rfl rfl ?_
          refine aw_iconst (q := 135) dX6_setsPrice_134 rfl ?_
          refine aw_aload_n (q := 136) 0 dX6_setsPrice_135 rfl rfl rfl ?_
          refine aw_iload_n (q := 137) 1 dX6_setsPrice_136 rfl rfl rfl ?_
          refine aw_iconst (q := 138) dX6_setsPrice_137 rfl ?_
          refine cv_I (q := 141) (CC := "") (id := 108) (As := [.int (iI c), .int (iI 2)]) 2 (c_of (T := T) (D := D) (ad := ad) (setG (setG G 12 (15 + 12 * c + 11) 0) 12 (15 + 12 * c + 8) ((G 12 (15 + 12 * c + 8)))) (by omega) (by omega)) (fun _ h => h) (by omega) (cell_108 ad C _) rfl wc_X6_of wm_RX6_100 wi_X6_of ws_X6_of wn_X6 (by decide) rfl ⟨Nat.le_of_ble_eq_true rfl, Nat.le_of_ble_eq_true rfl⟩ ⟨Nat.le_of_ble_eq_true rfl, Nat.le_of_ble_eq_true rfl⟩ (Nat.le_of_ble_eq_true rfl) dX6_setsPrice_138 rfl (fun r9 G9 h9 => ?_)
          obtain ⟨e9, g9⟩ := h9
          rw [e9.trans (((setG_ne (by omega)).trans (setG_ne (by omega)))), g9]
          clear e9 g9
          refine aw_iload_n (q := 142) 3 dX6_setsPrice_141 rfl rfl rfl ?_
          refine aw_if_eq (q := 145) dX6_setsPrice_142 rfl (t := 149) (by decide) (by omega) (fun _ => ?_) (fun h => absurd h (by omega))
          refine aw_iload (q := 151) 4 dX6_setsPrice_149 rfl rfl ?_
          refine aw_if_eq (q := 154) dX6_setsPrice_151 rfl (t := 159) (by decide) (by omega) (fun _ => ?_) (fun h => absurd h (by omega))
          refine aw_iconst (q := 160) dX6_setsPrice_159 rfl ?_
          refine ae_iadd (q := 161) ((G 12 (15 + 12 * c + 2))) (by omega) dX6_setsPrice_160 rfl ?_
          refine cv_V (q := 164) (CC := "") (id := 108) (As := [.int (iI c), .int (iI 2), .int (iI ((G 12 (15 + 12 * c + 2))))]) 3 (c_lay (T := T) (D := D) (ad := ad) (setG (setG G 12 (15 + 12 * c + 11) 0) 12 (15 + 12 * c + 8) ((G 12 (15 + 12 * c + 8)))) (by omega) (by omega)) (fun _ h => h) (by omega) (cell_108 ad C _) rfl wc_X6_lay wm_RX6_92 wi_X6_lay ws_X6_lay wn_X6 (by decide) rfl ⟨Nat.le_of_ble_eq_true rfl, Nat.le_of_ble_eq_true rfl⟩ ⟨Nat.le_of_ble_eq_true rfl, Nat.le_of_ble_eq_true rfl⟩ (Nat.le_of_ble_eq_true rfl) dX6_setsPrice_161 rfl (fun G9 h9 => ?_)
          rw [h9]
          clear h9
          exact rt_v rfl (Nat.le_refl _) (Nat.le_refl _) (by first | exact sp_1 ⟨by assumption, by omega, by omega⟩ | exact sp_2 (fun q => by have q1 := q.1; have q2 := q.2; first | omega | contradiction) ⟨by assumption, by omega⟩ | exact sp_3 (fun q => by have q1 := q.1; have q2 := q.2; first | omega | contradiction) (fun q => by have q1 := q.1; have q2 := q.2; first | omega | contradiction) | (exfalso; omega) | (exfalso; contradiction)) dX6_setsPrice_164
        · refine aw_iconst (q := 88) dX6_setsPrice_87 rfl ?_
          refine aw_goto (q := 92) dX6_setsPrice_88 (by decide) ?_
          refine aw_istore (q := 94) (lv2 := [(0, .ref (ad 108)), (1, .int (iI c)), (2, .float (FP.fmul 1092616192 (fB ((G 12 (15 + 12 * c + 10)))))), (3, .int (iI 0)), (4, .int (iI 1))]) [1, 2, 3, 4, 0] dX6_setsPrice_92 rfl (by decide) rfl rfl ?_
          refine aw_aload_n (q := 95) 0 dX6_setsPrice_94 rfl rfl rfl ?_
          refine aw_iload_n (q := 96) 1 dX6_setsPrice_95 rfl rfl rfl ?_
          refine aw_bipush (q := 98) dX6_setsPrice_96 rfl (by decide) ?_
          refine aw_iload_n (q := 99) 3 dX6_setsPrice_98 rfl rfl rfl ?_
          refine aw_if_eq (q := 102) dX6_setsPrice_99 rfl (t := 106) (by decide) (by omega) (fun _ => ?_) (fun h => absurd h (by omega))
          refine aw_iconst (q := 107) dX6_setsPrice_106 rfl ?_
          refine cv_V (q := 110) (CC := "") (id := 108) (As := [.int (iI c), .int (iI 11), .int (iI 0)]) 3 (c_lay (T := T) (D := D) (ad := ad) G (by omega) (by omega)) (fun _ h => h) (by omega) (cell_108 ad C _) rfl wc_X6_lay wm_RX6_92 wi_X6_lay ws_X6_lay wn_X6 (by decide) rfl ⟨Nat.le_of_ble_eq_true rfl, Nat.le_of_ble_eq_true rfl⟩ ⟨Nat.le_of_ble_eq_true rfl, Nat.le_of_ble_eq_true rfl⟩ (Nat.le_of_ble_eq_true rfl) dX6_setsPrice_107 rfl (fun G9 h9 => ?_)
          rw [h9]
          clear h9
          refine aw_aload_n (q := 111) 0 dX6_setsPrice_110 rfl rfl rfl ?_
          refine aw_iload_n (q := 112) 1 dX6_setsPrice_111 rfl rfl rfl ?_
          refine aw_bipush (q := 114) dX6_setsPrice_112 rfl (by decide) ?_
          refine aw_aload_n (q := 115) 0 dX6_setsPrice_114 rfl rfl rfl ?_
          refine aw_iload_n (q := 116) 1 dX6_setsPrice_115 rfl rfl rfl ?_
          refine aw_bipush (q := 118) dX6_setsPrice_116 rfl (by decide) ?_
          refine cv_I (q := 121) (CC := "") (id := 108) (As := [.int (iI c), .int (iI 8)]) 2 (c_of (T := T) (D := D) (ad := ad) (setG G 12 (15 + 12 * c + 11) 0) (by omega) (by omega)) (fun _ h => h) (by omega) (cell_108 ad C _) rfl wc_X6_of wm_RX6_100 wi_X6_of ws_X6_of wn_X6 (by decide) rfl ⟨Nat.le_of_ble_eq_true rfl, Nat.le_of_ble_eq_true rfl⟩ ⟨Nat.le_of_ble_eq_true rfl, Nat.le_of_ble_eq_true rfl⟩ (Nat.le_of_ble_eq_true rfl) dX6_setsPrice_118 rfl (fun r9 G9 h9 => ?_)
          obtain ⟨e9, g9⟩ := h9
          rw [e9.trans ((setG_ne (by omega))), g9]
          clear e9 g9
          refine aw_aload_n (q := 122) 0 dX6_setsPrice_121 rfl rfl rfl ?_
          refine aw_iload_n (q := 123) 1 dX6_setsPrice_122 rfl rfl rfl ?_
          refine aw_bipush (q := 125) dX6_setsPrice_123 rfl (by decide) ?_
          refine cv_I (q := 128) (CC := "") (id := 108) (As := [.int (iI c), .int (iI 11)]) 2 (c_of (T := T) (D := D) (ad := ad) (setG G 12 (15 + 12 * c + 11) 0) (by omega) (by omega)) (fun _ h => h) (by omega) (cell_108 ad C _) rfl wc_X6_of wm_RX6_100 wi_X6_of ws_X6_of wn_X6 (by decide) rfl ⟨Nat.le_of_ble_eq_true rfl, Nat.le_of_ble_eq_true rfl⟩ ⟨Nat.le_of_ble_eq_true rfl, Nat.le_of_ble_eq_true rfl⟩ (Nat.le_of_ble_eq_true rfl) dX6_setsPrice_125 rfl (fun r9 G9 h9 => ?_)
          obtain ⟨e9, g9⟩ := h9
          rw [e9.trans ((setG_same _ _ _ _)), g9]
          clear e9 g9
          refine ae_iadd (q := 129) ((G 12 (15 + 12 * c + 8))) (by omega) dX6_setsPrice_128 rfl ?_
          refine cv_V (q := 132) (CC := "") (id := 108) (As := [.int (iI c), .int (iI 8), .int (iI ((G 12 (15 + 12 * c + 8))))]) 3 (c_lay (T := T) (D := D) (ad := ad) (setG G 12 (15 + 12 * c + 11) 0) (by omega) (by omega)) (fun _ h => h) (by omega) (cell_108 ad C _) rfl wc_X6_lay wm_RX6_92 wi_X6_lay ws_X6_lay wn_X6 (by decide) rfl ⟨Nat.le_of_ble_eq_true rfl, Nat.le_of_ble_eq_true rfl⟩ ⟨Nat.le_of_ble_eq_true rfl, Nat.le_of_ble_eq_true rfl⟩ (Nat.le_of_ble_eq_true rfl) dX6_setsPrice_129 rfl (fun G9 h9 => ?_)
          rw [h9]
          clear h9
          refine aw_aload_n (q := 133) 0 dX6_setsPrice_132 rfl rfl rfl ?_
          refine aw_iload_n (q := 134) 1 dX6_setsPrice_133 rfl rfl rfl ?_
          refine aw_iconst (q := 135) dX6_setsPrice_134 rfl ?_
          refine aw_aload_n (q := 136) 0 dX6_setsPrice_135 rfl rfl rfl ?_
          refine aw_iload_n (q := 137) 1 dX6_setsPrice_136 rfl rfl rfl ?_
          refine aw_iconst (q := 138) dX6_setsPrice_137 rfl ?_
          refine cv_I (q := 141) (CC := "") (id := 108) (As := [.int (iI c), .int (iI 2)]) 2 (c_of (T := T) (D := D) (ad := ad) (setG (setG G 12 (15 + 12 * c + 11) 0) 12 (15 + 12 * c + 8) ((G 12 (15 + 12 * c + 8)))) (by omega) (by omega)) (fun _ h => h) (by omega) (cell_108 ad C _) rfl wc_X6_of wm_RX6_100 wi_X6_of ws_X6_of wn_X6 (by decide) rfl ⟨Nat.le_of_ble_eq_true rfl, Nat.le_of_ble_eq_true rfl⟩ ⟨Nat.le_of_ble_eq_true rfl, Nat.le_of_ble_eq_true rfl⟩ (Nat.le_of_ble_eq_true rfl) dX6_setsPrice_138 rfl (fun r9 G9 h9 => ?_)
          obtain ⟨e9, g9⟩ := h9
          rw [e9.trans (((setG_ne (by omega)).trans (setG_ne (by omega)))), g9]
          clear e9 g9
          refine aw_iload_n (q := 142) 3 dX6_setsPrice_141 rfl rfl rfl ?_
          refine aw_if_eq (q := 145) dX6_setsPrice_142 rfl (t := 149) (by decide) (by omega) (fun _ => ?_) (fun h => absurd h (by omega))
          refine aw_iload (q := 151) 4 dX6_setsPrice_149 rfl rfl ?_
          refine aw_if_eq (q := 154) dX6_setsPrice_151 rfl (t := 159) (by decide) (by omega) (fun h => absurd h (by omega)) (fun _ => ?_)
          refine aw_bipush (q := 156) dX6_setsPrice_154 rfl (by decide) ?_
          refine aw_goto (q := 160) dX6_setsPrice_156 (by decide) ?_
          refine ae_iadd (q := 161) ((G 12 (15 + 12 * c + 2)) - 5) (by omega) dX6_setsPrice_160 rfl ?_
          refine cv_V (q := 164) (CC := "") (id := 108) (As := [.int (iI c), .int (iI 2), .int (iI ((G 12 (15 + 12 * c + 2)) - 5))]) 3 (c_lay (T := T) (D := D) (ad := ad) (setG (setG G 12 (15 + 12 * c + 11) 0) 12 (15 + 12 * c + 8) ((G 12 (15 + 12 * c + 8)))) (by omega) (by omega)) (fun _ h => h) (by omega) (cell_108 ad C _) rfl wc_X6_lay wm_RX6_92 wi_X6_lay ws_X6_lay wn_X6 (by decide) rfl ⟨Nat.le_of_ble_eq_true rfl, Nat.le_of_ble_eq_true rfl⟩ ⟨Nat.le_of_ble_eq_true rfl, Nat.le_of_ble_eq_true rfl⟩ (Nat.le_of_ble_eq_true rfl) dX6_setsPrice_161 rfl (fun G9 h9 => ?_)
          rw [h9]
          clear h9
          exact rt_v rfl (Nat.le_refl _) (Nat.le_refl _) (by first | exact sp_1 ⟨by assumption, by omega, by omega⟩ | exact sp_2 (fun q => by have q1 := q.1; have q2 := q.2; first | omega | contradiction) ⟨by assumption, by omega⟩ | exact sp_3 (fun q => by have q1 := q.1; have q2 := q.2; first | omega | contradiction) (fun q => by have q1 := q.1; have q2 := q.2; first | omega | contradiction) | (exfalso; omega) | (exfalso; contradiction)) dX6_setsPrice_164
    · refine aw_aload_n (q := 36) 0 dX6_setsPrice_35 rfl rfl rfl ?_
      refine aw_iload_n (q := 37) 1 dX6_setsPrice_36 rfl rfl rfl ?_
      refine aw_iconst (q := 38) dX6_setsPrice_37 rfl ?_
      refine cv_I (q := 41) (CC := "") (id := 108) (As := [.int (iI c), .int (iI 2)]) 2 (c_of (T := T) (D := D) (ad := ad) G (by omega) (by omega)) (fun _ h => h) (by omega) (cell_108 ad C _) rfl wc_X6_of wm_RX6_100 wi_X6_of ws_X6_of wn_X6 (by decide) rfl ⟨Nat.le_of_ble_eq_true rfl, Nat.le_of_ble_eq_true rfl⟩ ⟨Nat.le_of_ble_eq_true rfl, Nat.le_of_ble_eq_true rfl⟩ (Nat.le_of_ble_eq_true rfl) dX6_setsPrice_38 rfl (fun r9 G9 h9 => ?_)
      obtain ⟨e9, g9⟩ := h9
      rw [e9.trans (rfl), g9]
      clear e9 g9
      refine aw_aload_n (q := 42) 0 dX6_setsPrice_41 rfl rfl rfl ?_
      refine aw_iload_n (q := 43) 1 dX6_setsPrice_42 rfl rfl rfl ?_
      refine aw_iconst (q := 44) dX6_setsPrice_43 rfl ?_
      refine cv_I (q := 47) (CC := "") (id := 108) (As := [.int (iI c), .int (iI 4)]) 2 (c_of (T := T) (D := D) (ad := ad) G (by omega) (by omega)) (fun _ h => h) (by omega) (cell_108 ad C _) rfl wc_X6_of wm_RX6_100 wi_X6_of ws_X6_of wn_X6 (by decide) rfl ⟨Nat.le_of_ble_eq_true rfl, Nat.le_of_ble_eq_true rfl⟩ ⟨Nat.le_of_ble_eq_true rfl, Nat.le_of_ble_eq_true rfl⟩ (Nat.le_of_ble_eq_true rfl) dX6_setsPrice_44 rfl (fun r9 G9 h9 => ?_)
      obtain ⟨e9, g9⟩ := h9
      rw [e9.trans (rfl), g9]
      clear e9 g9
      refine aw_icmp_ge (q := 50) dX6_setsPrice_47 rfl (t := 54) (by decide) (by omega) (by omega) (fun y13 => ?_) (fun y14 => ?_)
      · refine aw_iconst (q := 55) dX6_setsPrice_54 rfl ?_
        refine aw_istore_n (q := 56) (lv2 := [(0, .ref (ad 108)), (1, .int (iI c)), (2, .float (FP.fmul 1092616192 (fB ((G 12 (15 + 12 * c + 10)))))), (3, .int (iI 0))]) [1, 2, 3, 0] dX6_setsPrice_55 rfl rfl (by decide) rfl rfl ?_
        refine aw_iload_n (q := 57) 3 dX6_setsPrice_56 rfl rfl rfl ?_
        refine aw_if_ne (q := 60) dX6_setsPrice_57 rfl (t := 91) (by decide) (by omega) (fun h => absurd h (by omega)) (fun _ => ?_)
        refine aw_fload_n (q := 61) 2 dX6_setsPrice_60 rfl rfl rfl ?_
        refine aw_aload_n (q := 62) 0 dX6_setsPrice_61 rfl rfl rfl ?_
        refine g_mod_p (q := 65) wf_RX6_7 dX6_setsPrice_62 rfl ?_
        refine aw_iconst (q := 66) dX6_setsPrice_65 rfl ?_
        refine aw_cial (q := 67) (v := (G 12 1)) 1 (ar_109 ad C) (by omega) (by omega) rfl dX6_setsPrice_66 rfl ?_
        refine aw_i2f (q := 68) dX6_setsPrice_67 rfl ?_
        refine aw_fcmp (q := 69) dX6_setsPrice_68 rfl ?_
        refine aw_ifW_ge (q := 72) dX6_setsPrice_69 rfl (t := 91) (by decide) (fun y15 => ?_) (fun y16 => ?_)
        · refine aw_iconst (q := 92) dX6_setsPrice_91 rfl ?_
          refine aw_istore (q := 94) (lv2 := [(0, .ref (ad 108)), (1, .int (iI c)), (2, .float (FP.fmul 1092616192 (fB ((G 12 (15 + 12 * c + 10)))))), (3, .int (iI 0)), (4, .int (iI 0))]) [1, 2, 3, 4, 0] dX6_setsPrice_92 rfl (by decide) rfl rfl ?_
          refine aw_aload_n (q := 95) 0 dX6_setsPrice_94 rfl rfl rfl ?_
          refine aw_iload_n (q := 96) 1 dX6_setsPrice_95 rfl rfl rfl ?_
          refine aw_bipush (q := 98) dX6_setsPrice_96 rfl (by decide) ?_
          refine aw_iload_n (q := 99) 3 dX6_setsPrice_98 rfl rfl rfl ?_
          refine aw_if_eq (q := 102) dX6_setsPrice_99 rfl (t := 106) (by decide) (by omega) (fun _ => ?_) (fun h => absurd h (by omega))
          refine aw_iconst (q := 107) dX6_setsPrice_106 rfl ?_
          refine cv_V (q := 110) (CC := "") (id := 108) (As := [.int (iI c), .int (iI 11), .int (iI 0)]) 3 (c_lay (T := T) (D := D) (ad := ad) G (by omega) (by omega)) (fun _ h => h) (by omega) (cell_108 ad C _) rfl wc_X6_lay wm_RX6_92 wi_X6_lay ws_X6_lay wn_X6 (by decide) rfl ⟨Nat.le_of_ble_eq_true rfl, Nat.le_of_ble_eq_true rfl⟩ ⟨Nat.le_of_ble_eq_true rfl, Nat.le_of_ble_eq_true rfl⟩ (Nat.le_of_ble_eq_true rfl) dX6_setsPrice_107 rfl (fun G9 h9 => ?_)
          rw [h9]
          clear h9
          refine aw_aload_n (q := 111) 0 dX6_setsPrice_110 rfl rfl rfl ?_
          refine aw_iload_n (q := 112) 1 dX6_setsPrice_111 rfl rfl rfl ?_
          refine aw_bipush (q := 114) dX6_setsPrice_112 rfl (by decide) ?_
          refine aw_aload_n (q := 115) 0 dX6_setsPrice_114 rfl rfl rfl ?_
          refine aw_iload_n (q := 116) 1 dX6_setsPrice_115 rfl rfl rfl ?_
          refine aw_bipush (q := 118) dX6_setsPrice_116 rfl (by decide) ?_
          refine cv_I (q := 121) (CC := "") (id := 108) (As := [.int (iI c), .int (iI 8)]) 2 (c_of (T := T) (D := D) (ad := ad) (setG G 12 (15 + 12 * c + 11) 0) (by omega) (by omega)) (fun _ h => h) (by omega) (cell_108 ad C _) rfl wc_X6_of wm_RX6_100 wi_X6_of ws_X6_of wn_X6 (by decide) rfl ⟨Nat.le_of_ble_eq_true rfl, Nat.le_of_ble_eq_true rfl⟩ ⟨Nat.le_of_ble_eq_true rfl, Nat.le_of_ble_eq_true rfl⟩ (Nat.le_of_ble_eq_true rfl) dX6_setsPrice_118 rfl (fun r9 G9 h9 => ?_)
          obtain ⟨e9, g9⟩ := h9
          rw [e9.trans ((setG_ne (by omega))), g9]
          clear e9 g9
          refine aw_aload_n (q := 122) 0 dX6_setsPrice_121 rfl rfl rfl ?_
          refine aw_iload_n (q := 123) 1 dX6_setsPrice_122 rfl rfl rfl ?_
          refine aw_bipush (q := 125) dX6_setsPrice_123 rfl (by decide) ?_
          refine cv_I (q := 128) (CC := "") (id := 108) (As := [.int (iI c), .int (iI 11)]) 2 (c_of (T := T) (D := D) (ad := ad) (setG G 12 (15 + 12 * c + 11) 0) (by omega) (by omega)) (fun _ h => h) (by omega) (cell_108 ad C _) rfl wc_X6_of wm_RX6_100 wi_X6_of ws_X6_of wn_X6 (by decide) rfl ⟨Nat.le_of_ble_eq_true rfl, Nat.le_of_ble_eq_true rfl⟩ ⟨Nat.le_of_ble_eq_true rfl, Nat.le_of_ble_eq_true rfl⟩ (Nat.le_of_ble_eq_true rfl) dX6_setsPrice_125 rfl (fun r9 G9 h9 => ?_)
          obtain ⟨e9, g9⟩ := h9
          rw [e9.trans ((setG_same _ _ _ _)), g9]
          clear e9 g9
          refine ae_iadd (q := 129) ((G 12 (15 + 12 * c + 8))) (by omega) dX6_setsPrice_128 rfl ?_
          refine cv_V (q := 132) (CC := "") (id := 108) (As := [.int (iI c), .int (iI 8), .int (iI ((G 12 (15 + 12 * c + 8))))]) 3 (c_lay (T := T) (D := D) (ad := ad) (setG G 12 (15 + 12 * c + 11) 0) (by omega) (by omega)) (fun _ h => h) (by omega) (cell_108 ad C _) rfl wc_X6_lay wm_RX6_92 wi_X6_lay ws_X6_lay wn_X6 (by decide) rfl ⟨Nat.le_of_ble_eq_true rfl, Nat.le_of_ble_eq_true rfl⟩ ⟨Nat.le_of_ble_eq_true rfl, Nat.le_of_ble_eq_true rfl⟩ (Nat.le_of_ble_eq_true rfl) dX6_setsPrice_129 rfl (fun G9 h9 => ?_)
          rw [h9]
          clear h9
          refine aw_aload_n (q := 133) 0 dX6_setsPrice_132 rfl rfl rfl ?_
          refine aw_iload_n (q := 134) 1 dX6_setsPrice_133 rfl rfl rfl ?_
          refine aw_iconst (q := 135) dX6_setsPrice_134 rfl ?_
          refine aw_aload_n (q := 136) 0 dX6_setsPrice_135 rfl rfl rfl ?_
          refine aw_iload_n (q := 137) 1 dX6_setsPrice_136 rfl rfl rfl ?_
          refine aw_iconst (q := 138) dX6_setsPrice_137 rfl ?_
          refine cv_I (q := 141) (CC := "") (id := 108) (As := [.int (iI c), .int (iI 2)]) 2 (c_of (T := T) (D := D) (ad := ad) (setG (setG G 12 (15 + 12 * c + 11) 0) 12 (15 + 12 * c + 8) ((G 12 (15 + 12 * c + 8)))) (by omega) (by omega)) (fun _ h => h) (by omega) (cell_108 ad C _) rfl wc_X6_of wm_RX6_100 wi_X6_of ws_X6_of wn_X6 (by decide) rfl ⟨Nat.le_of_ble_eq_true rfl, Nat.le_of_ble_eq_true rfl⟩ ⟨Nat.le_of_ble_eq_true rfl, Nat.le_of_ble_eq_true rfl⟩ (Nat.le_of_ble_eq_true rfl) dX6_setsPrice_138 rfl (fun r9 G9 h9 => ?_)
          obtain ⟨e9, g9⟩ := h9
          rw [e9.trans (((setG_ne (by omega)).trans (setG_ne (by omega)))), g9]
          clear e9 g9
          refine aw_iload_n (q := 142) 3 dX6_setsPrice_141 rfl rfl rfl ?_
          refine aw_if_eq (q := 145) dX6_setsPrice_142 rfl (t := 149) (by decide) (by omega) (fun _ => ?_) (fun h => absurd h (by omega))
          refine aw_iload (q := 151) 4 dX6_setsPrice_149 rfl rfl ?_
          refine aw_if_eq (q := 154) dX6_setsPrice_151 rfl (t := 159) (by decide) (by omega) (fun _ => ?_) (fun h => absurd h (by omega))
          refine aw_iconst (q := 160) dX6_setsPrice_159 rfl ?_
          refine ae_iadd (q := 161) ((G 12 (15 + 12 * c + 2))) (by omega) dX6_setsPrice_160 rfl ?_
          refine cv_V (q := 164) (CC := "") (id := 108) (As := [.int (iI c), .int (iI 2), .int (iI ((G 12 (15 + 12 * c + 2))))]) 3 (c_lay (T := T) (D := D) (ad := ad) (setG (setG G 12 (15 + 12 * c + 11) 0) 12 (15 + 12 * c + 8) ((G 12 (15 + 12 * c + 8)))) (by omega) (by omega)) (fun _ h => h) (by omega) (cell_108 ad C _) rfl wc_X6_lay wm_RX6_92 wi_X6_lay ws_X6_lay wn_X6 (by decide) rfl ⟨Nat.le_of_ble_eq_true rfl, Nat.le_of_ble_eq_true rfl⟩ ⟨Nat.le_of_ble_eq_true rfl, Nat.le_of_ble_eq_true rfl⟩ (Nat.le_of_ble_eq_true rfl) dX6_setsPrice_161 rfl (fun G9 h9 => ?_)
          rw [h9]
          clear h9
          exact rt_v rfl (Nat.le_refl _) (Nat.le_refl _) (by first | exact sp_1 ⟨by assumption, by omega, by omega⟩ | exact sp_2 (fun q => by have q1 := q.1; have q2 := q.2; first | omega | contradiction) ⟨by assumption, by omega⟩ | exact sp_3 (fun q => by have q1 := q.1; have q2 := q.2; first | omega | contradiction) (fun q => by have q1 := q.1; have q2 := q.2; first | omega | contradiction) | (exfalso; omega) | (exfalso; contradiction)) dX6_setsPrice_164
        · refine aw_aload_n (q := 73) 0 dX6_setsPrice_72 rfl rfl rfl ?_
          refine aw_iload_n (q := 74) 1 dX6_setsPrice_73 rfl rfl rfl ?_
          refine aw_iconst (q := 75) dX6_setsPrice_74 rfl ?_
          refine cv_I (q := 78) (CC := "") (id := 108) (As := [.int (iI c), .int (iI 2)]) 2 (c_of (T := T) (D := D) (ad := ad) G (by omega) (by omega)) (fun _ h => h) (by omega) (cell_108 ad C _) rfl wc_X6_of wm_RX6_100 wi_X6_of ws_X6_of wn_X6 (by decide) rfl ⟨Nat.le_of_ble_eq_true rfl, Nat.le_of_ble_eq_true rfl⟩ ⟨Nat.le_of_ble_eq_true rfl, Nat.le_of_ble_eq_true rfl⟩ (Nat.le_of_ble_eq_true rfl) dX6_setsPrice_75 rfl (fun r9 G9 h9 => ?_)
          obtain ⟨e9, g9⟩ := h9
          rw [e9.trans (rfl), g9]
          clear e9 g9
          refine aw_aload_n (q := 79) 0 dX6_setsPrice_78 rfl rfl rfl ?_
          refine aw_iload_n (q := 80) 1 dX6_setsPrice_79 rfl rfl rfl ?_
          refine aw_iconst (q := 81) dX6_setsPrice_80 rfl ?_
          refine cv_I (q := 84) (CC := "") (id := 108) (As := [.int (iI c), .int (iI 3)]) 2 (c_of (T := T) (D := D) (ad := ad) G (by omega) (by omega)) (fun _ h => h) (by omega) (cell_108 ad C _) rfl wc_X6_of wm_RX6_100 wi_X6_of ws_X6_of wn_X6 (by decide) rfl ⟨Nat.le_of_ble_eq_true rfl, Nat.le_of_ble_eq_true rfl⟩ ⟨Nat.le_of_ble_eq_true rfl, Nat.le_of_ble_eq_true rfl⟩ (Nat.le_of_ble_eq_true rfl) dX6_setsPrice_81 rfl (fun r9 G9 h9 => ?_)
          obtain ⟨e9, g9⟩ := h9
          rw [e9.trans (rfl), g9]
          clear e9 g9
          refine aw_icmp_le (q := 87) dX6_setsPrice_84 rfl (t := 91) (by decide) (by omega) (by omega) (fun y17 => ?_) (fun y18 => ?_)
          · refine aw_iconst (q := 92) dX6_setsPrice_91 rfl ?_
            refine aw_istore (q := 94) (lv2 := [(0, .ref (ad 108)), (1, .int (iI c)), (2, .float (FP.fmul 1092616192 (fB ((G 12 (15 + 12 * c + 10)))))), (3, .int (iI 0)), (4, .int (iI 0))]) [1, 2, 3, 4, 0] dX6_setsPrice_92 rfl (by decide) rfl rfl ?_
            refine aw_aload_n (q := 95) 0 dX6_setsPrice_94 rfl rfl rfl ?_
            refine aw_iload_n (q := 96) 1 dX6_setsPrice_95 rfl rfl rfl ?_
            refine aw_bipush (q := 98) dX6_setsPrice_96 rfl (by decide) ?_
            refine aw_iload_n (q := 99) 3 dX6_setsPrice_98 rfl rfl rfl ?_
            refine aw_if_eq (q := 102) dX6_setsPrice_99 rfl (t := 106) (by decide) (by omega) (fun _ => ?_) (fun h => absurd h (by omega))
            refine aw_iconst (q := 107) dX6_setsPrice_106 rfl ?_
            refine cv_V (q := 110) (CC := "") (id := 108) (As := [.int (iI c), .int (iI 11), .int (iI 0)]) 3 (c_lay (T := T) (D := D) (ad := ad) G (by omega) (by omega)) (fun _ h => h) (by omega) (cell_108 ad C _) rfl wc_X6_lay wm_RX6_92 wi_X6_lay ws_X6_lay wn_X6 (by decide) rfl ⟨Nat.le_of_ble_eq_true rfl, Nat.le_of_ble_eq_true rfl⟩ ⟨Nat.le_of_ble_eq_true rfl, Nat.le_of_ble_eq_true rfl⟩ (Nat.le_of_ble_eq_true rfl) dX6_setsPrice_107 rfl (fun G9 h9 => ?_)
            rw [h9]
            clear h9
            refine aw_aload_n (q := 111) 0 dX6_setsPrice_110 rfl rfl rfl ?_
            refine aw_iload_n (q := 112) 1 dX6_setsPrice_111 rfl rfl rfl ?_
            refine aw_bipush (q := 114) dX6_setsPrice_112 rfl (by decide) ?_
            refine aw_aload_n (q := 115) 0 dX6_setsPrice_114 rfl rfl rfl ?_
            refine aw_iload_n (q := 116) 1 dX6_setsPrice_115 rfl rfl rfl ?_
            refine aw_bipush (q := 118) dX6_setsPrice_116 rfl (by decide) ?_
            refine cv_I (q := 121) (CC := "") (id := 108) (As := [.int (iI c), .int (iI 8)]) 2 (c_of (T := T) (D := D) (ad := ad) (setG G 12 (15 + 12 * c + 11) 0) (by omega) (by omega)) (fun _ h => h) (by omega) (cell_108 ad C _) rfl wc_X6_of wm_RX6_100 wi_X6_of ws_X6_of wn_X6 (by decide) rfl ⟨Nat.le_of_ble_eq_true rfl, Nat.le_of_ble_eq_true rfl⟩ ⟨Nat.le_of_ble_eq_true rfl, Nat.le_of_ble_eq_true rfl⟩ (Nat.le_of_ble_eq_true rfl) dX6_setsPrice_118 rfl (fun r9 G9 h9 => ?_)
            obtain ⟨e9, g9⟩ := h9
            rw [e9.trans ((setG_ne (by omega))), g9]
            clear e9 g9
            refine aw_aload_n (q := 122) 0 dX6_setsPrice_121 rfl rfl rfl ?_
            refine aw_iload_n (q := 123) 1 dX6_setsPrice_122 rfl rfl rfl ?_
            refine aw_bipush (q := 125) dX6_setsPrice_123 rfl (by decide) ?_
            refine cv_I (q := 128) (CC := "") (id := 108) (As := [.int (iI c), .int (iI 11)]) 2 (c_of (T := T) (D := D) (ad := ad) (setG G 12 (15 + 12 * c + 11) 0) (by omega) (by omega)) (fun _ h => h) (by omega) (cell_108 ad C _) rfl wc_X6_of wm_RX6_100 wi_X6_of ws_X6_of wn_X6 (by decide) rfl ⟨Nat.le_of_ble_eq_true rfl, Nat.le_of_ble_eq_true rfl⟩ ⟨Nat.le_of_ble_eq_true rfl, Nat.le_of_ble_eq_true rfl⟩ (Nat.le_of_ble_eq_true rfl) dX6_setsPrice_125 rfl (fun r9 G9 h9 => ?_)
            obtain ⟨e9, g9⟩ := h9
            rw [e9.trans ((setG_same _ _ _ _)), g9]
            clear e9 g9
            refine ae_iadd (q := 129) ((G 12 (15 + 12 * c + 8))) (by omega) dX6_setsPrice_128 rfl ?_
            refine cv_V (q := 132) (CC := "") (id := 108) (As := [.int (iI c), .int (iI 8), .int (iI ((G 12 (15 + 12 * c + 8))))]) 3 (c_lay (T := T) (D := D) (ad := ad) (setG G 12 (15 + 12 * c + 11) 0) (by omega) (by omega)) (fun _ h => h) (by omega) (cell_108 ad C _) rfl wc_X6_lay wm_RX6_92 wi_X6_lay ws_X6_lay wn_X6 (by decide) rfl ⟨Nat.le_of_ble_eq_true rfl, Nat.le_of_ble_eq_true rfl⟩ ⟨Nat.le_of_ble_eq_true rfl, Nat.le_of_ble_eq_true rfl⟩ (Nat.le_of_ble_eq_true rfl) dX6_setsPrice_129 rfl (fun G9 h9 => ?_)
            rw [h9]
            clear h9
            refine aw_aload_n (q := 133) 0 dX6_setsPrice_132 rfl rfl rfl ?_
            refine aw_iload_n (q := 134) 1 dX6_setsPrice_133 rfl rfl rfl ?_
            refine aw_iconst (q := 135) dX6_setsPrice_134 rfl ?_
            refine aw_aload_n (q := 136) 0 dX6_setsPrice_135 rfl rfl rfl ?_
            refine aw_iload_n (q := 137) 1 dX6_setsPrice_136 rfl rfl rfl ?_
            refine aw_iconst (q := 138) dX6_setsPrice_137 rfl ?_
            refine cv_I (q := 141) (CC := "") (id := 108) (As := [.int (iI c), .int (iI 2)]) 2 (c_of (T := T) (D := D) (ad := ad) (setG (setG G 12 (15 + 12 * c + 11) 0) 12 (15 + 12 * c + 8) ((G 12 (15 + 12 * c + 8)))) (by omega) (by omega)) (fun _ h => h) (by omega) (cell_108 ad C _) rfl wc_X6_of wm_RX6_100 wi_X6_of ws_X6_of wn_X6 (by decide) rfl ⟨Nat.le_of_ble_eq_true rfl, Nat.le_of_ble_eq_true rfl⟩ ⟨Nat.le_of_ble_eq_true rfl, Nat.le_of_ble_eq_true rfl⟩ (Nat.le_of_ble_eq_true rfl) dX6_setsPrice_138 rfl (fun r9 G9 h9 => ?_)
            obtain ⟨e9, g9⟩ := h9
            rw [e9.trans (((setG_ne (by omega)).trans (setG_ne (by omega)))), g9]
            clear e9 g9
            refine aw_iload_n (q := 142) 3 dX6_setsPrice_141 rfl rfl rfl ?_
            refine aw_if_eq (q := 145) dX6_setsPrice_142 rfl (t := 149) (by decide) (by omega) (fun _ => ?_) (fun h => absurd h (by omega))
            refine aw_iload (q := 151) 4 dX6_setsPrice_149 rfl rfl ?_
            refine aw_if_eq (q := 154) dX6_setsPrice_151 rfl (t := 159) (by decide) (by omega) (fun _ => ?_) (fun h => absurd h (by omega))
            refine aw_iconst (q := 160) dX6_setsPrice_159 rfl ?_
            refine ae_iadd (q := 161) ((G 12 (15 + 12 * c + 2))) (by omega) dX6_setsPrice_160 rfl ?_
            refine cv_V (q := 164) (CC := "") (id := 108) (As := [.int (iI c), .int (iI 2), .int (iI ((G 12 (15 + 12 * c + 2))))]) 3 (c_lay (T := T) (D := D) (ad := ad) (setG (setG G 12 (15 + 12 * c + 11) 0) 12 (15 + 12 * c + 8) ((G 12 (15 + 12 * c + 8)))) (by omega) (by omega)) (fun _ h => h) (by omega) (cell_108 ad C _) rfl wc_X6_lay wm_RX6_92 wi_X6_lay ws_X6_lay wn_X6 (by decide) rfl ⟨Nat.le_of_ble_eq_true rfl, Nat.le_of_ble_eq_true rfl⟩ ⟨Nat.le_of_ble_eq_true rfl, Nat.le_of_ble_eq_true rfl⟩ (Nat.le_of_ble_eq_true rfl) dX6_setsPrice_161 rfl (fun G9 h9 => ?_)
            rw [h9]
            clear h9
            exact rt_v rfl (Nat.le_refl _) (Nat.le_refl _) (by first | exact sp_1 ⟨by assumption, by omega, by omega⟩ | exact sp_2 (fun q => by have q1 := q.1; have q2 := q.2; first | omega | contradiction) ⟨by assumption, by omega⟩ | exact sp_3 (fun q => by have q1 := q.1; have q2 := q.2; first | omega | contradiction) (fun q => by have q1 := q.1; have q2 := q.2; first | omega | contradiction) | (exfalso; omega) | (exfalso; contradiction)) dX6_setsPrice_164
          · refine aw_iconst (q := 88) dX6_setsPrice_87 rfl ?_
            refine aw_goto (q := 92) dX6_setsPrice_88 (by decide) ?_
            refine aw_istore (q := 94) (lv2 := [(0, .ref (ad 108)), (1, .int (iI c)), (2, .float (FP.fmul 1092616192 (fB ((G 12 (15 + 12 * c + 10)))))), (3, .int (iI 0)), (4, .int (iI 1))]) [1, 2, 3, 4, 0] dX6_setsPrice_92 rfl (by decide) rfl rfl ?_
            refine aw_aload_n (q := 95) 0 dX6_setsPrice_94 rfl rfl rfl ?_
            refine aw_iload_n (q := 96) 1 dX6_setsPrice_95 rfl rfl rfl ?_
            refine aw_bipush (q := 98) dX6_setsPrice_96 rfl (by decide) ?_
            refine aw_iload_n (q := 99) 3 dX6_setsPrice_98 rfl rfl rfl ?_
            refine aw_if_eq (q := 102) dX6_setsPrice_99 rfl (t := 106) (by decide) (by omega) (fun _ => ?_) (fun h => absurd h (by omega))
            refine aw_iconst (q := 107) dX6_setsPrice_106 rfl ?_
            refine cv_V (q := 110) (CC := "") (id := 108) (As := [.int (iI c), .int (iI 11), .int (iI 0)]) 3 (c_lay (T := T) (D := D) (ad := ad) G (by omega) (by omega)) (fun _ h => h) (by omega) (cell_108 ad C _) rfl wc_X6_lay wm_RX6_92 wi_X6_lay ws_X6_lay wn_X6 (by decide) rfl ⟨Nat.le_of_ble_eq_true rfl, Nat.le_of_ble_eq_true rfl⟩ ⟨Nat.le_of_ble_eq_true rfl, Nat.le_of_ble_eq_true rfl⟩ (Nat.le_of_ble_eq_true rfl) dX6_setsPrice_107 rfl (fun G9 h9 => ?_)
            rw [h9]
            clear h9
            refine aw_aload_n (q := 111) 0 dX6_setsPrice_110 rfl rfl rfl ?_
            refine aw_iload_n (q := 112) 1 dX6_setsPrice_111 rfl rfl rfl ?_
            refine aw_bipush (q := 114) dX6_setsPrice_112 rfl (by decide) ?_
            refine aw_aload_n (q := 115) 0 dX6_setsPrice_114 rfl rfl rfl ?_
            refine aw_iload_n (q := 116) 1 dX6_setsPrice_115 rfl rfl rfl ?_
            refine aw_bipush (q := 118) dX6_setsPrice_116 rfl (by decide) ?_
            refine cv_I (q := 121) (CC := "") (id := 108) (As := [.int (iI c), .int (iI 8)]) 2 (c_of (T := T) (D := D) (ad := ad) (setG G 12 (15 + 12 * c + 11) 0) (by omega) (by omega)) (fun _ h => h) (by omega) (cell_108 ad C _) rfl wc_X6_of wm_RX6_100 wi_X6_of ws_X6_of wn_X6 (by decide) rfl ⟨Nat.le_of_ble_eq_true rfl, Nat.le_of_ble_eq_true rfl⟩ ⟨Nat.le_of_ble_eq_true rfl, Nat.le_of_ble_eq_true rfl⟩ (Nat.le_of_ble_eq_true rfl) dX6_setsPrice_118 rfl (fun r9 G9 h9 => ?_)
            obtain ⟨e9, g9⟩ := h9
            rw [e9.trans ((setG_ne (by omega))), g9]
            clear e9 g9
            refine aw_aload_n (q := 122) 0 dX6_setsPrice_121 rfl rfl rfl ?_
            refine aw_iload_n (q := 123) 1 dX6_setsPrice_122 rfl rfl rfl ?_
            refine aw_bipush (q := 125) dX6_setsPrice_123 rfl (by decide) ?_
            refine cv_I (q := 128) (CC := "") (id := 108) (As := [.int (iI c), .int (iI 11)]) 2 (c_of (T := T) (D := D) (ad := ad) (setG G 12 (15 + 12 * c + 11) 0) (by omega) (by omega)) (fun _ h => h) (by omega) (cell_108 ad C _) rfl wc_X6_of wm_RX6_100 wi_X6_of ws_X6_of wn_X6 (by decide) rfl ⟨Nat.le_of_ble_eq_true rfl, Nat.le_of_ble_eq_true rfl⟩ ⟨Nat.le_of_ble_eq_true rfl, Nat.le_of_ble_eq_true rfl⟩ (Nat.le_of_ble_eq_true rfl) dX6_setsPrice_125 rfl (fun r9 G9 h9 => ?_)
            obtain ⟨e9, g9⟩ := h9
            rw [e9.trans ((setG_same _ _ _ _)), g9]
            clear e9 g9
            refine ae_iadd (q := 129) ((G 12 (15 + 12 * c + 8))) (by omega) dX6_setsPrice_128 rfl ?_
            refine cv_V (q := 132) (CC := "") (id := 108) (As := [.int (iI c), .int (iI 8), .int (iI ((G 12 (15 + 12 * c + 8))))]) 3 (c_lay (T := T) (D := D) (ad := ad) (setG G 12 (15 + 12 * c + 11) 0) (by omega) (by omega)) (fun _ h => h) (by omega) (cell_108 ad C _) rfl wc_X6_lay wm_RX6_92 wi_X6_lay ws_X6_lay wn_X6 (by decide) rfl ⟨Nat.le_of_ble_eq_true rfl, Nat.le_of_ble_eq_true rfl⟩ ⟨Nat.le_of_ble_eq_true rfl, Nat.le_of_ble_eq_true rfl⟩ (Nat.le_of_ble_eq_true rfl) dX6_setsPrice_129 rfl (fun G9 h9 => ?_)
            rw [h9]
            clear h9
            refine aw_aload_n (q := 133) 0 dX6_setsPrice_132 rfl rfl rfl ?_
            refine aw_iload_n (q := 134) 1 dX6_setsPrice_133 rfl rfl rfl ?_
            refine aw_iconst (q := 135) dX6_setsPrice_134 rfl ?_
            refine aw_aload_n (q := 136) 0 dX6_setsPrice_135 rfl rfl rfl ?_
            refine aw_iload_n (q := 137) 1 dX6_setsPrice_136 rfl rfl rfl ?_
            refine aw_iconst (q := 138) dX6_setsPrice_137 rfl ?_
            refine cv_I (q := 141) (CC := "") (id := 108) (As := [.int (iI c), .int (iI 2)]) 2 (c_of (T := T) (D := D) (ad := ad) (setG (setG G 12 (15 + 12 * c + 11) 0) 12 (15 + 12 * c + 8) ((G 12 (15 + 12 * c + 8)))) (by omega) (by omega)) (fun _ h => h) (by omega) (cell_108 ad C _) rfl wc_X6_of wm_RX6_100 wi_X6_of ws_X6_of wn_X6 (by decide) rfl ⟨Nat.le_of_ble_eq_true rfl, Nat.le_of_ble_eq_true rfl⟩ ⟨Nat.le_of_ble_eq_true rfl, Nat.le_of_ble_eq_true rfl⟩ (Nat.le_of_ble_eq_true rfl) dX6_setsPrice_138 rfl (fun r9 G9 h9 => ?_)
            obtain ⟨e9, g9⟩ := h9
            rw [e9.trans (((setG_ne (by omega)).trans (setG_ne (by omega)))), g9]
            clear e9 g9
            refine aw_iload_n (q := 142) 3 dX6_setsPrice_141 rfl rfl rfl ?_
            refine aw_if_eq (q := 145) dX6_setsPrice_142 rfl (t := 149) (by decide) (by omega) (fun _ => ?_) (fun h => absurd h (by omega))
            refine aw_iload (q := 151) 4 dX6_setsPrice_149 rfl rfl ?_
            refine aw_if_eq (q := 154) dX6_setsPrice_151 rfl (t := 159) (by decide) (by omega) (fun h => absurd h (by omega)) (fun _ => ?_)
            refine aw_bipush (q := 156) dX6_setsPrice_154 rfl (by decide) ?_
            refine aw_goto (q := 160) dX6_setsPrice_156 (by decide) ?_
            refine ae_iadd (q := 161) ((G 12 (15 + 12 * c + 2)) - 5) (by omega) dX6_setsPrice_160 rfl ?_
            refine cv_V (q := 164) (CC := "") (id := 108) (As := [.int (iI c), .int (iI 2), .int (iI ((G 12 (15 + 12 * c + 2)) - 5))]) 3 (c_lay (T := T) (D := D) (ad := ad) (setG (setG G 12 (15 + 12 * c + 11) 0) 12 (15 + 12 * c + 8) ((G 12 (15 + 12 * c + 8)))) (by omega) (by omega)) (fun _ h => h) (by omega) (cell_108 ad C _) rfl wc_X6_lay wm_RX6_92 wi_X6_lay ws_X6_lay wn_X6 (by decide) rfl ⟨Nat.le_of_ble_eq_true rfl, Nat.le_of_ble_eq_true rfl⟩ ⟨Nat.le_of_ble_eq_true rfl, Nat.le_of_ble_eq_true rfl⟩ (Nat.le_of_ble_eq_true rfl) dX6_setsPrice_161 rfl (fun G9 h9 => ?_)
            rw [h9]
            clear h9
            exact rt_v rfl (Nat.le_refl _) (Nat.le_refl _) (by first | exact sp_1 ⟨by assumption, by omega, by omega⟩ | exact sp_2 (fun q => by have q1 := q.1; have q2 := q.2; first | omega | contradiction) ⟨by assumption, by omega⟩ | exact sp_3 (fun q => by have q1 := q.1; have q2 := q.2; first | omega | contradiction) (fun q => by have q1 := q.1; have q2 := q.2; first | omega | contradiction) | (exfalso; omega) | (exfalso; contradiction)) dX6_setsPrice_164
      · refine aw_iconst (q := 51) dX6_setsPrice_50 rfl ?_
        refine aw_goto (q := 55) dX6_setsPrice_51 (by decide) ?_
        refine aw_istore_n (q := 56) (lv2 := [(0, .ref (ad 108)), (1, .int (iI c)), (2, .float (FP.fmul 1092616192 (fB ((G 12 (15 + 12 * c + 10)))))), (3, .int (iI 1))]) [1, 2, 3, 0] dX6_setsPrice_55 rfl rfl (by decide) rfl rfl ?_
        refine aw_iload_n (q := 57) 3 dX6_setsPrice_56 rfl rfl rfl ?_
        refine aw_if_ne (q := 60) dX6_setsPrice_57 rfl (t := 91) (by decide) (by omega) (fun _ => ?_) (fun h => absurd h (by omega))
        refine aw_iconst (q := 92) dX6_setsPrice_91 rfl ?_
        refine aw_istore (q := 94) (lv2 := [(0, .ref (ad 108)), (1, .int (iI c)), (2, .float (FP.fmul 1092616192 (fB ((G 12 (15 + 12 * c + 10)))))), (3, .int (iI 1)), (4, .int (iI 0))]) [1, 2, 3, 4, 0] dX6_setsPrice_92 rfl (by decide) rfl rfl ?_
        refine aw_aload_n (q := 95) 0 dX6_setsPrice_94 rfl rfl rfl ?_
        refine aw_iload_n (q := 96) 1 dX6_setsPrice_95 rfl rfl rfl ?_
        refine aw_bipush (q := 98) dX6_setsPrice_96 rfl (by decide) ?_
        refine aw_iload_n (q := 99) 3 dX6_setsPrice_98 rfl rfl rfl ?_
        refine aw_if_eq (q := 102) dX6_setsPrice_99 rfl (t := 106) (by decide) (by omega) (fun h => absurd h (by omega)) (fun _ => ?_)
        refine aw_iconst (q := 103) dX6_setsPrice_102 rfl ?_
        refine aw_goto (q := 107) dX6_setsPrice_103 (by decide) ?_
        refine cv_V (q := 110) (CC := "") (id := 108) (As := [.int (iI c), .int (iI 11), .int (iI 1)]) 3 (c_lay (T := T) (D := D) (ad := ad) G (by omega) (by omega)) (fun _ h => h) (by omega) (cell_108 ad C _) rfl wc_X6_lay wm_RX6_92 wi_X6_lay ws_X6_lay wn_X6 (by decide) rfl ⟨Nat.le_of_ble_eq_true rfl, Nat.le_of_ble_eq_true rfl⟩ ⟨Nat.le_of_ble_eq_true rfl, Nat.le_of_ble_eq_true rfl⟩ (Nat.le_of_ble_eq_true rfl) dX6_setsPrice_107 rfl (fun G9 h9 => ?_)
        rw [h9]
        clear h9
        refine aw_aload_n (q := 111) 0 dX6_setsPrice_110 rfl rfl rfl ?_
        refine aw_iload_n (q := 112) 1 dX6_setsPrice_111 rfl rfl rfl ?_
        refine aw_bipush (q := 114) dX6_setsPrice_112 rfl (by decide) ?_
        refine aw_aload_n (q := 115) 0 dX6_setsPrice_114 rfl rfl rfl ?_
        refine aw_iload_n (q := 116) 1 dX6_setsPrice_115 rfl rfl rfl ?_
        refine aw_bipush (q := 118) dX6_setsPrice_116 rfl (by decide) ?_
        refine cv_I (q := 121) (CC := "") (id := 108) (As := [.int (iI c), .int (iI 8)]) 2 (c_of (T := T) (D := D) (ad := ad) (setG G 12 (15 + 12 * c + 11) 1) (by omega) (by omega)) (fun _ h => h) (by omega) (cell_108 ad C _) rfl wc_X6_of wm_RX6_100 wi_X6_of ws_X6_of wn_X6 (by decide) rfl ⟨Nat.le_of_ble_eq_true rfl, Nat.le_of_ble_eq_true rfl⟩ ⟨Nat.le_of_ble_eq_true rfl, Nat.le_of_ble_eq_true rfl⟩ (Nat.le_of_ble_eq_true rfl) dX6_setsPrice_118 rfl (fun r9 G9 h9 => ?_)
        obtain ⟨e9, g9⟩ := h9
        rw [e9.trans ((setG_ne (by omega))), g9]
        clear e9 g9
        refine aw_aload_n (q := 122) 0 dX6_setsPrice_121 rfl rfl rfl ?_
        refine aw_iload_n (q := 123) 1 dX6_setsPrice_122 rfl rfl rfl ?_
        refine aw_bipush (q := 125) dX6_setsPrice_123 rfl (by decide) ?_
        refine cv_I (q := 128) (CC := "") (id := 108) (As := [.int (iI c), .int (iI 11)]) 2 (c_of (T := T) (D := D) (ad := ad) (setG G 12 (15 + 12 * c + 11) 1) (by omega) (by omega)) (fun _ h => h) (by omega) (cell_108 ad C _) rfl wc_X6_of wm_RX6_100 wi_X6_of ws_X6_of wn_X6 (by decide) rfl ⟨Nat.le_of_ble_eq_true rfl, Nat.le_of_ble_eq_true rfl⟩ ⟨Nat.le_of_ble_eq_true rfl, Nat.le_of_ble_eq_true rfl⟩ (Nat.le_of_ble_eq_true rfl) dX6_setsPrice_125 rfl (fun r9 G9 h9 => ?_)
        obtain ⟨e9, g9⟩ := h9
        rw [e9.trans ((setG_same _ _ _ _)), g9]
        clear e9 g9
        refine ae_iadd (q := 129) ((G 12 (15 + 12 * c + 8)) + 1) (by omega) dX6_setsPrice_128 rfl ?_
        refine cv_V (q := 132) (CC := "") (id := 108) (As := [.int (iI c), .int (iI 8), .int (iI ((G 12 (15 + 12 * c + 8)) + 1))]) 3 (c_lay (T := T) (D := D) (ad := ad) (setG G 12 (15 + 12 * c + 11) 1) (by omega) (by omega)) (fun _ h => h) (by omega) (cell_108 ad C _) rfl wc_X6_lay wm_RX6_92 wi_X6_lay ws_X6_lay wn_X6 (by decide) rfl ⟨Nat.le_of_ble_eq_true rfl, Nat.le_of_ble_eq_true rfl⟩ ⟨Nat.le_of_ble_eq_true rfl, Nat.le_of_ble_eq_true rfl⟩ (Nat.le_of_ble_eq_true rfl) dX6_setsPrice_129 rfl (fun G9 h9 => ?_)
        rw [h9]
        clear h9
        refine aw_aload_n (q := 133) 0 dX6_setsPrice_132 rfl rfl rfl ?_
        refine aw_iload_n (q := 134) 1 dX6_setsPrice_133 rfl rfl rfl ?_
        refine aw_iconst (q := 135) dX6_setsPrice_134 rfl ?_
        refine aw_aload_n (q := 136) 0 dX6_setsPrice_135 rfl rfl rfl ?_
        refine aw_iload_n (q := 137) 1 dX6_setsPrice_136 rfl rfl rfl ?_
        refine aw_iconst (q := 138) dX6_setsPrice_137 rfl ?_
        refine cv_I (q := 141) (CC := "") (id := 108) (As := [.int (iI c), .int (iI 2)]) 2 (c_of (T := T) (D := D) (ad := ad) (setG (setG G 12 (15 + 12 * c + 11) 1) 12 (15 + 12 * c + 8) ((G 12 (15 + 12 * c + 8)) + 1)) (by omega) (by omega)) (fun _ h => h) (by omega) (cell_108 ad C _) rfl wc_X6_of wm_RX6_100 wi_X6_of ws_X6_of wn_X6 (by decide) rfl ⟨Nat.le_of_ble_eq_true rfl, Nat.le_of_ble_eq_true rfl⟩ ⟨Nat.le_of_ble_eq_true rfl, Nat.le_of_ble_eq_true rfl⟩ (Nat.le_of_ble_eq_true rfl) dX6_setsPrice_138 rfl (fun r9 G9 h9 => ?_)
        obtain ⟨e9, g9⟩ := h9
        rw [e9.trans (((setG_ne (by omega)).trans (setG_ne (by omega)))), g9]
        clear e9 g9
        refine aw_iload_n (q := 142) 3 dX6_setsPrice_141 rfl rfl rfl ?_
        refine aw_if_eq (q := 145) dX6_setsPrice_142 rfl (t := 149) (by decide) (by omega) (fun h => absurd h (by omega)) (fun _ => ?_)
        refine aw_iconst (q := 146) dX6_setsPrice_145 rfl ?_
        refine aw_goto (q := 160) dX6_setsPrice_146 (by decide) ?_
        refine ae_iadd (q := 161) ((G 12 (15 + 12 * c + 2)) + 5) (by omega) dX6_setsPrice_160 rfl ?_
        refine cv_V (q := 164) (CC := "") (id := 108) (As := [.int (iI c), .int (iI 2), .int (iI ((G 12 (15 + 12 * c + 2)) + 5))]) 3 (c_lay (T := T) (D := D) (ad := ad) (setG (setG G 12 (15 + 12 * c + 11) 1) 12 (15 + 12 * c + 8) ((G 12 (15 + 12 * c + 8)) + 1)) (by omega) (by omega)) (fun _ h => h) (by omega) (cell_108 ad C _) rfl wc_X6_lay wm_RX6_92 wi_X6_lay ws_X6_lay wn_X6 (by decide) rfl ⟨Nat.le_of_ble_eq_true rfl, Nat.le_of_ble_eq_true rfl⟩ ⟨Nat.le_of_ble_eq_true rfl, Nat.le_of_ble_eq_true rfl⟩ (Nat.le_of_ble_eq_true rfl) dX6_setsPrice_161 rfl (fun G9 h9 => ?_)
        rw [h9]
        clear h9
        exact rt_v rfl (Nat.le_refl _) (Nat.le_refl _) (by first | exact sp_1 ⟨by assumption, by omega, by omega⟩ | exact sp_2 (fun q => by have q1 := q.1; have q2 := q.2; first | omega | contradiction) ⟨by assumption, by omega⟩ | exact sp_3 (fun q => by have q1 := q.1; have q2 := q.2; first | omega | contradiction) (fun q => by have q1 := q.1; have q2 := q.2; first | omega | contradiction) | (exfalso; omega) | (exfalso; contradiction)) dX6_setsPrice_164
set_option maxHeartbeats 4000000 in
set_option maxRecDepth 100000 in
theorem c_isFined {l : Launch} {D : va_G} {C : Nat → ClassId} {T : Nat → Nat} {ad : Int → Nat} (G : GG) {c : Int} (hc : 0 ≤ c ∧ c < 8) (hg : fArgs (G 12) c) (h4 : 0 ≤ G 12 4 ∧ G 12 4 ≤ 1000) : MC l yX6_isFined cX6_isFined 3 none 1 23 0 0 D (tyC C) T [.ref (ad 108), .int (iI c)] (cw ad C G) (RV ad C (fun G1 => G1 = onR G 12 (rFine (G 12) c (G 12 4)))) := by
  refine mc_of (by decide +kernel) (Nat.le_of_ble_eq_true rfl) rfl ?_
  refine aw_aload_n (q := 1) 0 dX6_isFined_0 rfl rfl rfl ?_
  refine aw_iload_n (q := 2) 1 dX6_isFined_1 rfl rfl rfl ?_
  refine aw_iconst (q := 3) dX6_isFined_2 rfl ?_
  refine cv_I (q := 6) (CC := "") (id := 108) (As := [.int (iI c), .int (iI 2)]) 2 (c_of (T := T) (D := D) (ad := ad) G (by omega) (by omega)) (fun _ h => h) (by omega) (cell_108 ad C _) rfl wc_X6_of wm_RX6_100 wi_X6_of ws_X6_of wn_X6 (by decide) rfl ⟨Nat.le_of_ble_eq_true rfl, Nat.le_of_ble_eq_true rfl⟩ ⟨Nat.le_of_ble_eq_true rfl, Nat.le_of_ble_eq_true rfl⟩ (Nat.le_of_ble_eq_true rfl) dX6_isFined_3 rfl (fun r9 G9 h9 => ?_)
  obtain ⟨e9, g9⟩ := h9
  rw [e9.trans (rfl), g9]
  clear e9 g9
  refine aw_aload_n (q := 7) 0 dX6_isFined_6 rfl rfl rfl ?_
  refine g_mod_p (q := 10) wf_RX6_7 dX6_isFined_7 rfl ?_
  refine aw_iconst (q := 11) dX6_isFined_10 rfl ?_
  refine aw_cial (q := 12) (v := (G 12 4)) 4 (ar_109 ad C) (by omega) (by omega) rfl dX6_isFined_11 rfl ?_
  refine ae_isub (q := 13) ((G 12 (15 + 12 * c + 2)) - (G 12 4)) (by omega) dX6_isFined_12 rfl ?_
  refine aw_istore_n (q := 14) (lv2 := [(0, .ref (ad 108)), (1, .int (iI c)), (2, .int (iI ((G 12 (15 + 12 * c + 2)) - (G 12 4))))]) [1, 2, 0] dX6_isFined_13 rfl rfl (by decide) rfl rfl ?_
  refine aw_aload_n (q := 15) 0 dX6_isFined_14 rfl rfl rfl ?_
  refine aw_iload_n (q := 16) 1 dX6_isFined_15 rfl rfl rfl ?_
  refine aw_iconst (q := 17) dX6_isFined_16 rfl ?_
  refine aw_iload_n (q := 18) 2 dX6_isFined_17 rfl rfl rfl ?_
  refine aw_aload_n (q := 19) 0 dX6_isFined_18 rfl rfl rfl ?_
  refine aw_iload_n (q := 20) 1 dX6_isFined_19 rfl rfl rfl ?_
  refine aw_iconst (q := 21) dX6_isFined_20 rfl ?_
  refine cv_I (q := 24) (CC := "") (id := 108) (As := [.int (iI c), .int (iI 3)]) 2 (c_of (T := T) (D := D) (ad := ad) G (by omega) (by omega)) (fun _ h => h) (by omega) (cell_108 ad C _) rfl wc_X6_of wm_RX6_100 wi_X6_of ws_X6_of wn_X6 (by decide) rfl ⟨Nat.le_of_ble_eq_true rfl, Nat.le_of_ble_eq_true rfl⟩ ⟨Nat.le_of_ble_eq_true rfl, Nat.le_of_ble_eq_true rfl⟩ (Nat.le_of_ble_eq_true rfl) dX6_isFined_21 rfl (fun r9 G9 h9 => ?_)
  obtain ⟨e9, g9⟩ := h9
  rw [e9.trans (rfl), g9]
  clear e9 g9
  refine aw_icmp_ge (q := 27) dX6_isFined_24 rfl (t := 36) (by decide) (by omega) (by omega) (fun y1 => ?_) (fun y2 => ?_)
  · refine aw_iload_n (q := 37) 2 dX6_isFined_36 rfl rfl rfl ?_
    refine cv_V (q := 40) (CC := "") (id := 108) (As := [.int (iI c), .int (iI 2), .int (iI ((G 12 (15 + 12 * c + 2)) - (G 12 4)))]) 3 (c_lay (T := T) (D := D) (ad := ad) G (by omega) (by omega)) (fun _ h => h) (by omega) (cell_108 ad C _) rfl wc_X6_lay wm_RX6_92 wi_X6_lay ws_X6_lay wn_X6 (by decide) rfl ⟨Nat.le_of_ble_eq_true rfl, Nat.le_of_ble_eq_true rfl⟩ ⟨Nat.le_of_ble_eq_true rfl, Nat.le_of_ble_eq_true rfl⟩ (Nat.le_of_ble_eq_true rfl) dX6_isFined_37 rfl (fun G9 h9 => ?_)
    rw [h9]
    clear h9
    refine aw_aload_n (q := 41) 0 dX6_isFined_40 rfl rfl rfl ?_
    refine aw_iload_n (q := 42) 1 dX6_isFined_41 rfl rfl rfl ?_
    refine aw_iconst (q := 43) dX6_isFined_42 rfl ?_
    refine aw_iconst (q := 44) dX6_isFined_43 rfl ?_
    refine cv_V (q := 47) (CC := "") (id := 108) (As := [.int (iI c), .int (iI 5), .int (iI 3)]) 3 (c_lay (T := T) (D := D) (ad := ad) (setG G 12 (15 + 12 * c + 2) ((G 12 (15 + 12 * c + 2)) - (G 12 4))) (by omega) (by omega)) (fun _ h => h) (by omega) (cell_108 ad C _) rfl wc_X6_lay wm_RX6_92 wi_X6_lay ws_X6_lay wn_X6 (by decide) rfl ⟨Nat.le_of_ble_eq_true rfl, Nat.le_of_ble_eq_true rfl⟩ ⟨Nat.le_of_ble_eq_true rfl, Nat.le_of_ble_eq_true rfl⟩ (Nat.le_of_ble_eq_true rfl) dX6_isFined_44 rfl (fun G9 h9 => ?_)
    rw [h9]
    clear h9
    exact rt_v rfl (Nat.le_refl _) (Nat.le_refl _) (by rw [setG_row G, setG_onR]; refine congrArg (onR G 12) ?_; unfold rFine; congr 2; omega) dX6_isFined_47
  · refine aw_aload_n (q := 28) 0 dX6_isFined_27 rfl rfl rfl ?_
    refine aw_iload_n (q := 29) 1 dX6_isFined_28 rfl rfl rfl ?_
    refine aw_iconst (q := 30) dX6_isFined_29 rfl ?_
    refine cv_I (q := 33) (CC := "") (id := 108) (As := [.int (iI c), .int (iI 3)]) 2 (c_of (T := T) (D := D) (ad := ad) G (by omega) (by omega)) (fun _ h => h) (by omega) (cell_108 ad C _) rfl wc_X6_of wm_RX6_100 wi_X6_of ws_X6_of wn_X6 (by decide) rfl ⟨Nat.le_of_ble_eq_true rfl, Nat.le_of_ble_eq_true rfl⟩ ⟨Nat.le_of_ble_eq_true rfl, Nat.le_of_ble_eq_true rfl⟩ (Nat.le_of_ble_eq_true rfl) dX6_isFined_30 rfl (fun r9 G9 h9 => ?_)
    obtain ⟨e9, g9⟩ := h9
    rw [e9.trans (rfl), g9]
    clear e9 g9
    refine aw_goto (q := 37) dX6_isFined_33 (by decide) ?_
    refine cv_V (q := 40) (CC := "") (id := 108) (As := [.int (iI c), .int (iI 2), .int (iI ((G 12 (15 + 12 * c + 3))))]) 3 (c_lay (T := T) (D := D) (ad := ad) G (by omega) (by omega)) (fun _ h => h) (by omega) (cell_108 ad C _) rfl wc_X6_lay wm_RX6_92 wi_X6_lay ws_X6_lay wn_X6 (by decide) rfl ⟨Nat.le_of_ble_eq_true rfl, Nat.le_of_ble_eq_true rfl⟩ ⟨Nat.le_of_ble_eq_true rfl, Nat.le_of_ble_eq_true rfl⟩ (Nat.le_of_ble_eq_true rfl) dX6_isFined_37 rfl (fun G9 h9 => ?_)
    rw [h9]
    clear h9
    refine aw_aload_n (q := 41) 0 dX6_isFined_40 rfl rfl rfl ?_
    refine aw_iload_n (q := 42) 1 dX6_isFined_41 rfl rfl rfl ?_
    refine aw_iconst (q := 43) dX6_isFined_42 rfl ?_
    refine aw_iconst (q := 44) dX6_isFined_43 rfl ?_
    refine cv_V (q := 47) (CC := "") (id := 108) (As := [.int (iI c), .int (iI 5), .int (iI 3)]) 3 (c_lay (T := T) (D := D) (ad := ad) (setG G 12 (15 + 12 * c + 2) ((G 12 (15 + 12 * c + 3)))) (by omega) (by omega)) (fun _ h => h) (by omega) (cell_108 ad C _) rfl wc_X6_lay wm_RX6_92 wi_X6_lay ws_X6_lay wn_X6 (by decide) rfl ⟨Nat.le_of_ble_eq_true rfl, Nat.le_of_ble_eq_true rfl⟩ ⟨Nat.le_of_ble_eq_true rfl, Nat.le_of_ble_eq_true rfl⟩ (Nat.le_of_ble_eq_true rfl) dX6_isFined_44 rfl (fun G9 h9 => ?_)
    rw [h9]
    clear h9
    exact rt_v rfl (Nat.le_refl _) (Nat.le_refl _) (by rw [setG_row G, setG_onR]; refine congrArg (onR G 12) ?_; unfold rFine; congr 2; omega) dX6_isFined_47
