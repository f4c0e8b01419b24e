/-! class CoilPrices: saved states, tests of arguments -/
def okV (G : GG) : Prop := (0 ≤ G 6 0 ∧ G 6 0 ≤ 4) ∧ (2 ≤ G 6 10 ∧ G 6 10 ≤ 5) ∧ (2 ≤ G 6 11 ∧ G 6 11 ≤ 5) ∧ (2 ≤ G 6 12 ∧ G 6 12 ≤ 5) ∧ (2 ≤ G 6 13 ∧ G 6 13 ≤ 5) ∧ G 6 10 ≠ G 6 11 ∧ G 6 10 ≠ G 6 12 ∧ G 6 10 ≠ G 6 13 ∧ G 6 11 ≠ G 6 12 ∧ G 6 11 ≠ G 6 13 ∧ G 6 12 ≠ G 6 13
theorem okV_at {G : GG} (o : okV G) {k : Int} (h : 0 ≤ k ∧ k < 4) : 2 ≤ G 6 (k + 10) ∧ G 6 (k + 10) ≤ 5 := by
  have h4 : k = 0 ∨ k = 1 ∨ k = 2 ∨ k = 3 := by omega
  obtain ⟨o0, o1, o2, o3, o4, o5⟩ := o
  rcases h4 with rfl | rfl | rfl | rfl
  · exact o1
  · exact o2
  · exact o3
  · exact o4
def dropG (G : GG) : GG := setG (setG (setG (setG (setG G 6 10 (G 6 11)) 6 11 (G 6 12)) 6 12 (G 6 13)) 6 13 (G 6 10)) 6 0 3
def cinG (G : GG) (a b c d : Int) : GG := setG (setG (setG (setG G 10 0 a) 10 1 b) 10 2 c) 10 3 d
def saveP (G G1 : GG) : Prop := ∃ (K H : GG) (i n : Int), ((K = G ∧ G 6 0 < 4 ∧ i = G 6 (G 6 0 + 10) ∧ n = G 6 0 + 1) ∨ (K = dropG G ∧ 4 ≤ G 6 0 ∧ i = G 6 10 ∧ n = 4)) ∧ overP K i 0 H ∧ G1 = setG H 6 0 n
theorem dropG_ne {G : GG} {x y : Int} (h : x ≠ 6) : dropG G x y = G x y := by
  unfold dropG
  rw [setG_ne (by omega), setG_ne (by omega), setG_ne (by omega), setG_ne (by omega), setG_ne (by omega)]
/-- what a saving leaves as it is -/
theorem saveP_ne {G G1 : GG} (o : okV G) (h : saveP G G1) {x y : Int} (hx : ¬ (2 ≤ x ∧ x ≤ 6)) : G1 x y = G x y := by
  obtain ⟨K, H, i, n, hc, hov, rfl⟩ := h
  have hi : 2 ≤ i ∧ i ≤ 5 := by
    rcases hc with ⟨-, h1, rfl, -⟩ | ⟨-, h1, rfl, -⟩
    · exact okV_at o ⟨o.1.1, h1⟩
    · exact o.2.1
  rw [setG_ne (by omega), hov.2.2.2 x y (by omega)]
  rcases hc with ⟨rfl, -⟩ | ⟨rfl, -⟩
  · rfl
  · exact dropG_ne (by omega)
set_option maxHeartbeats 4000000 in
set_option maxRecDepth 100000 in
theorem c_isBetween {l : Launch} {D : va_G} {C : Nat → ClassId} {T : Nat → Nat} {ad : Int → Nat} (G : GG) {a b c : Int} (ha : -2147483648 ≤ a ∧ a ≤ 2147483647) (hb : -2147483648 ≤ b ∧ b ≤ 2147483647) (hc : -2147483648 ≤ c ∧ c ≤ 2147483647) : MC l yX5_isBetween cX5_isBetween 3 (some .boolean) 0 0 0 0 D (tyC C) T [.int (iI a), .int (iI b), .int (iI c)] (cw ad C G) (RI ad C (fun r G1 => r = b2i (b ≤ a ∧ a ≤ c) ∧ G1 = G)) := by
  refine mc_of (by decide +kernel) (Nat.le_of_ble_eq_true rfl) rfl ?_
  refine aw_iload_n (q := 1) 0 dX5_isBetween_0 rfl rfl rfl ?_
  refine aw_iload_n (q := 2) 1 dX5_isBetween_1 rfl rfl rfl ?_
  refine aw_icmp_lt (q := 5) dX5_isBetween_2 rfl (t := 14) (by decide) (by omega) (by omega) (fun h1 => ?_) (fun h2 => ?_)
  · refine aw_iconst (q := 15) dX5_isBetween_14 rfl ?_
    exact rt_z rfl (by first | omega | exact b2i_r _) (Nat.le_refl _) (Nat.le_refl _) (⟨by first | exact (b2i_t (by omega)).symm | exact (b2i_f (by omega)).symm, rfl⟩) dX5_isBetween_15
  · refine aw_iload_n (q := 6) 0 dX5_isBetween_5 rfl rfl rfl ?_
    refine aw_iload_n (q := 7) 2 dX5_isBetween_6 rfl rfl rfl ?_
    refine aw_icmp_gt (q := 10) dX5_isBetween_7 rfl (t := 14) (by decide) (by omega) (by omega) (fun h3 => ?_) (fun h4 => ?_)
    · refine aw_iconst (q := 15) dX5_isBetween_14 rfl ?_
      exact rt_z rfl (by first | omega | exact b2i_r _) (Nat.le_refl _) (Nat.le_refl _) (⟨by first | exact (b2i_t (by omega)).symm | exact (b2i_f (by omega)).symm, rfl⟩) dX5_isBetween_15
    · refine aw_iconst (q := 11) dX5_isBetween_10 rfl ?_
      refine aw_goto (q := 15) dX5_isBetween_11 (by decide) ?_
      exact rt_z rfl (by first | omega | exact b2i_r _) (Nat.le_refl _) (Nat.le_refl _) (⟨by first | exact (b2i_t (by omega)).symm | exact (b2i_f (by omega)).symm, rfl⟩) dX5_isBetween_15
set_option maxHeartbeats 4000000 in
set_option maxRecDepth 100000 in
theorem c_isStep1 {l : Launch} {D : va_G} {C : Nat → ClassId} {T : Nat → Nat} {ad : Int → Nat} (G : GG) {a b c : Int} (ha : -2147483648 ≤ a ∧ a ≤ 2147483647) (hc : -2147483648 ≤ c ∧ c ≤ 2147483647) (hb : 0 ≤ b ∧ b ≤ 2147483647) : MC l yX5_isStepBetween cX5_isStepBetween 4 (some .boolean) 1 22 0 0 D (tyC C) T [.int (iI a), .int (iI 1), .int (iI b), .int (iI c)] (cw ad C G) (RI ad C (fun r G1 => r = b2i (b ≤ a ∧ a ≤ c ∧ a % 1 = 0) ∧ G1 = G)) := by
  refine mc_of (by decide +kernel) (Nat.le_of_ble_eq_true rfl) rfl ?_
  refine aw_iload_n (q := 1) 0 dX5_isStepBetween_0 rfl rfl rfl ?_
  refine aw_iload_n (q := 2) 2 dX5_isStepBetween_1 rfl rfl rfl ?_
  refine aw_iload_n (q := 3) 3 dX5_isStepBetween_2 rfl rfl rfl ?_
  refine cs_I (q := 6) (As := [.int (iI a), .int (iI b), .int (iI c)]) 3 (c_isBetween (T := T) (D := D) (ad := ad) G (by omega) (by omega) (by omega)) (fun _ h => h) wc_X5_isBetween wm_RX5_38 wt_X5_isBetween wn_X5 (by decide) rfl ⟨Nat.le_of_ble_eq_true rfl, Nat.le_of_ble_eq_true rfl⟩ ⟨Nat.le_of_ble_eq_true rfl, Nat.le_of_ble_eq_true rfl⟩ (Nat.le_of_ble_eq_true rfl) dX5_isStepBetween_3 rfl (fun r9 G9 h9 => ?_)
  rw [h9.1, h9.2]
  refine aw_ifb_eq (q := 9) dX5_isStepBetween_6 rfl (t := 23) (by decide) (fun h1 => ?_) (fun h2 => ?_)
  · refine aw_iconst (q := 24) dX5_isStepBetween_23 rfl ?_
    exact rt_z rfl (by first | omega | exact b2i_r _) (Nat.le_refl _) (Nat.le_refl _) (⟨by first | exact (b2i_t (by omega)).symm | exact (b2i_f (by omega)).symm, rfl⟩) dX5_isStepBetween_24
  · refine aw_iload_n (q := 10) 1 dX5_isStepBetween_9 rfl rfl rfl ?_
    refine aw_if_le (q := 13) dX5_isStepBetween_10 rfl (t := 23) (by decide) (by omega) (fun h => absurd h (by omega)) (fun _ => ?_)
    refine aw_iload_n (q := 14) 0 dX5_isStepBetween_13 rfl rfl rfl ?_
    refine aw_iload_n (q := 15) 1 dX5_isStepBetween_14 rfl rfl rfl ?_
    obtain ⟨d1, hd1⟩ : ∃ z, (a % 1) = z := ⟨_, rfl⟩
    refine aw_rem5 (q := 16) (z := d1) (by omega) (by omega) hd1 dX5_isStepBetween_15 rfl ?_
    refine aw_if_ne (q := 19) dX5_isStepBetween_16 rfl (t := 23) (by decide) (by omega) (fun h3 => ?_) (fun h4 => ?_)
    · refine aw_iconst (q := 24) dX5_isStepBetween_23 rfl ?_
      exact rt_z rfl (by first | omega | exact b2i_r _) (Nat.le_refl _) (Nat.le_refl _) (⟨by first | exact (b2i_t (by omega)).symm | exact (b2i_f (by omega)).symm, rfl⟩) dX5_isStepBetween_24
    · refine aw_iconst (q := 20) dX5_isStepBetween_19 rfl ?_
      refine aw_goto (q := 24) dX5_isStepBetween_20 (by decide) ?_
      exact rt_z rfl (by first | omega | exact b2i_r _) (Nat.le_refl _) (Nat.le_refl _) (⟨by first | exact (b2i_t (by omega)).symm | exact (b2i_f (by omega)).symm, rfl⟩) dX5_isStepBetween_24
set_option maxHeartbeats 4000000 in
set_option maxRecDepth 100000 in
theorem c_isStep5 {l : Launch} {D : va_G} {C : Nat → ClassId} {T : Nat → Nat} {ad : Int → Nat} (G : GG) {a b c : Int} (ha : -2147483648 ≤ a ∧ a ≤ 2147483647) (hc : -2147483648 ≤ c ∧ c ≤ 2147483647) (hb : 0 ≤ b ∧ b ≤ 2147483647) : MC l yX5_isStepBetween cX5_isStepBetween 4 (some .boolean) 1 22 0 0 D (tyC C) T [.int (iI a), .int (iI 5), .int (iI b), .int (iI c)] (cw ad C G) (RI ad C (fun r G1 => r = b2i (b ≤ a ∧ a ≤ c ∧ a % 5 = 0) ∧ G1 = G)) := by
  refine mc_of (by decide +kernel) (Nat.le_of_ble_eq_true rfl) rfl ?_
  refine aw_iload_n (q := 1) 0 dX5_isStepBetween_0 rfl rfl rfl ?_
  refine aw_iload_n (q := 2) 2 dX5_isStepBetween_1 rfl rfl rfl ?_
  refine aw_iload_n (q := 3) 3 dX5_isStepBetween_2 rfl rfl rfl ?_
  refine cs_I (q := 6) (As := [.int (iI a), .int (iI b), .int (iI c)]) 3 (c_isBetween (T := T) (D := D) (ad := ad) G (by omega) (by omega) (by omega)) (fun _ h => h) wc_X5_isBetween wm_RX5_38 wt_X5_isBetween wn_X5 (by decide) rfl ⟨Nat.le_of_ble_eq_true rfl, Nat.le_of_ble_eq_true rfl⟩ ⟨Nat.le_of_ble_eq_true rfl, Nat.le_of_ble_eq_true rfl⟩ (Nat.le_of_ble_eq_true rfl) dX5_isStepBetween_3 rfl (fun r9 G9 h9 => ?_)
  rw [h9.1, h9.2]
  refine aw_ifb_eq (q := 9) dX5_isStepBetween_6 rfl (t := 23) (by decide) (fun h1 => ?_) (fun h2 => ?_)
  · refine aw_iconst (q := 24) dX5_isStepBetween_23 rfl ?_
    exact rt_z rfl (by first | omega | exact b2i_r _) (Nat.le_refl _) (Nat.le_refl _) (⟨by first | exact (b2i_t (by omega)).symm | exact (b2i_f (by omega)).symm, rfl⟩) dX5_isStepBetween_24
  · refine aw_iload_n (q := 10) 1 dX5_isStepBetween_9 rfl rfl rfl ?_
    refine aw_if_le (q := 13) dX5_isStepBetween_10 rfl (t := 23) (by decide) (by omega) (fun h => absurd h (by omega)) (fun _ => ?_)
    refine aw_iload_n (q := 14) 0 dX5_isStepBetween_13 rfl rfl rfl ?_
    refine aw_iload_n (q := 15) 1 dX5_isStepBetween_14 rfl rfl rfl ?_
    obtain ⟨d1, hd1⟩ : ∃ z, (a % 5) = z := ⟨_, rfl⟩
    refine aw_rem5 (q := 16) (z := d1) (by omega) (by omega) hd1 dX5_isStepBetween_15 rfl ?_
    refine aw_if_ne (q := 19) dX5_isStepBetween_16 rfl (t := 23) (by decide) (by omega) (fun h3 => ?_) (fun h4 => ?_)
    · refine aw_iconst (q := 24) dX5_isStepBetween_23 rfl ?_
      exact rt_z rfl (by first | omega | exact b2i_r _) (Nat.le_refl _) (Nat.le_refl _) (⟨by first | exact (b2i_t (by omega)).symm | exact (b2i_f (by omega)).symm, rfl⟩) dX5_isStepBetween_24
    · refine aw_iconst (q := 20) dX5_isStepBetween_19 rfl ?_
      refine aw_goto (q := 24) dX5_isStepBetween_20 (by decide) ?_
      exact rt_z rfl (by first | omega | exact b2i_r _) (Nat.le_refl _) (Nat.le_refl _) (⟨by first | exact (b2i_t (by omega)).symm | exact (b2i_f (by omega)).symm, rfl⟩) dX5_isStepBetween_24
set_option maxHeartbeats 4000000 in
set_option maxRecDepth 100000 in
theorem c_holdOut {l : Launch} {D : va_G} {C : Nat → ClassId} {T : Nat → Nat} {ad : Int → Nat} (G : GG) {a b c d : Int} (ha : -2147483648 ≤ a ∧ a ≤ 2147483647) (hb : -2147483648 ≤ b ∧ b ≤ 2147483647) (hc : -2147483648 ≤ c ∧ c ≤ 2147483647) (hd : -2147483648 ≤ d ∧ d ≤ 2147483647) : MC l yX5_holdOut cX5_holdOut 6 (some .boolean) 1 22 0 0 D (tyC C) T [.ref (ad 102), .int (iI a), .int (iI b), .int (iI c), .int (iI d)] (cw ad C G) (RI ad C (fun r G1 => r = b2i ((0 ≤ a ∧ a ≤ 9) ∧ (0 ≤ b ∧ b ≤ 9) ∧ (0 ≤ c ∧ c ≤ 9) ∧ (0 ≤ d ∧ d ≤ 9)) ∧ G1 = cinG G a b c d)) := by
  refine mc_of (by decide +kernel) (Nat.le_of_ble_eq_true rfl) rfl ?_
  refine aw_aload_n (q := 1) 0 dX5_holdOut_0 rfl rfl rfl ?_
  refine g_cp_coinsIn (q := 4) wf_RX5_34 dX5_holdOut_1 rfl ?_
  refine aw_iconst (q := 5) dX5_holdOut_4 rfl ?_
  refine aw_iload_n (q := 6) 1 dX5_holdOut_5 rfl rfl rfl ?_
  refine aw_cias (q := 7) 0 (ar_107 ad C) (by omega) (by omega) dX5_holdOut_6 rfl ?_
  refine aw_aload_n (q := 8) 0 dX5_holdOut_7 rfl rfl rfl ?_
  refine g_cp_coinsIn (q := 11) wf_RX5_34 dX5_holdOut_8 rfl ?_
  refine aw_iconst (q := 12) dX5_holdOut_11 rfl ?_
  refine aw_iload_n (q := 13) 2 dX5_holdOut_12 rfl rfl rfl ?_
  refine aw_cias (q := 14) 1 (ar_107 ad C) (by omega) (by omega) dX5_holdOut_13 rfl ?_
  refine aw_aload_n (q := 15) 0 dX5_holdOut_14 rfl rfl rfl ?_
  refine g_cp_coinsIn (q := 18) wf_RX5_34 dX5_holdOut_15 rfl ?_
  refine aw_iconst (q := 19) dX5_holdOut_18 rfl ?_
  refine aw_iload_n (q := 20) 3 dX5_holdOut_19 rfl rfl rfl ?_
  refine aw_cias (q := 21) 2 (ar_107 ad C) (by omega) (by omega) dX5_holdOut_20 rfl ?_
  refine aw_aload_n (q := 22) 0 dX5_holdOut_21 rfl rfl rfl ?_
  refine g_cp_coinsIn (q := 25) wf_RX5_34 dX5_holdOut_22 rfl ?_
  refine aw_iconst (q := 26) dX5_holdOut_25 rfl ?_
  refine aw_iload (q := 28) 4 dX5_holdOut_26 rfl rfl ?_
  refine aw_cias (q := 29) 3 (ar_107 ad C) (by omega) (by omega) dX5_holdOut_28 rfl ?_
  refine aw_iconst (q := 30) dX5_holdOut_29 rfl ?_
  refine aw_istore (q := 32) (lv2 := [(0, .ref (ad 102)), (1, .int (iI a)), (2, .int (iI b)), (3, .int (iI c)), (4, .int (iI d)), (5, .int (iI 0))]) [1, 2, 3, 4, 5, 0] dX5_holdOut_30 rfl (by decide) rfl rfl ?_
  refine aw_iload (q := 34) 5 dX5_holdOut_32 rfl rfl ?_
  refine aw_iconst (q := 35) dX5_holdOut_34 rfl ?_
  refine aw_icmp_ge (q := 38) dX5_holdOut_35 rfl (t := 62) (by decide) (by omega) (by omega) (fun h => absurd h (by omega)) (fun _ => ?_)
  refine aw_aload_n (q := 39) 0 dX5_holdOut_38 rfl rfl rfl ?_
  refine g_cp_coinsIn (q := 42) wf_RX5_34 dX5_holdOut_39 rfl ?_
  refine aw_iload (q := 44) 5 dX5_holdOut_42 rfl rfl ?_
  refine aw_cial (q := 45) (v := a) 0 (ar_107 ad C) (by omega) (by omega) ((setG_ne (by omega)).trans ((setG_ne (by omega)).trans ((setG_ne (by omega)).trans (setG_same _ _ _ _)))) dX5_holdOut_44 rfl ?_
  refine aw_iconst (q := 46) dX5_holdOut_45 rfl ?_
  refine aw_bipush (q := 48) dX5_holdOut_46 rfl (by decide) ?_
  refine cs_I (q := 51) (As := [.int (iI a), .int (iI 0), .int (iI 9)]) 3 (c_isBetween (T := T) (D := D) (ad := ad) (setG (setG (setG (setG G 10 0 a) 10 1 b) 10 2 c) 10 3 d) (by omega) (by omega) (by omega)) (fun _ h => h) wc_X5_isBetween wm_RX5_38 wt_X5_isBetween wn_X5 (by decide) rfl ⟨Nat.le_of_ble_eq_true rfl, Nat.le_of_ble_eq_true rfl⟩ ⟨Nat.le_of_ble_eq_true rfl, Nat.le_of_ble_eq_true rfl⟩ (Nat.le_of_ble_eq_true rfl) dX5_holdOut_48 rfl (fun r9 G9 h9 => ?_)
  rw [h9.1, h9.2]
  refine aw_ifb_ne (q := 54) dX5_holdOut_51 rfl (t := 56) (by decide) (fun h1 => ?_) (fun h2 => ?_)
  · refine ae_iinc (q := 59) (lv2 := [(0, .ref (ad 102)), (1, .int (iI a)), (2, .int (iI b)), (3, .int (iI c)), (4, .int (iI d)), (5, .int (iI 1))]) 5 [1, 2, 3, 4, 5, 0] 1 (by omega) dX5_holdOut_56 rfl rfl (by decide) rfl ?_
    refine aw_goto (q := 32) dX5_holdOut_59 (by decide) ?_
    refine aw_iload (q := 34) 5 dX5_holdOut_32 rfl rfl ?_
    refine aw_iconst (q := 35) dX5_holdOut_34 rfl ?_
    refine aw_icmp_ge (q := 38) dX5_holdOut_35 rfl (t := 62) (by decide) (by omega) (by omega) (fun h => absurd h (by omega)) (fun _ => ?_)
    refine aw_aload_n (q := 39) 0 dX5_holdOut_38 rfl rfl rfl ?_
    refine g_cp_coinsIn (q := 42) wf_RX5_34 dX5_holdOut_39 rfl ?_
    refine aw_iload (q := 44) 5 dX5_holdOut_42 rfl rfl ?_
    refine aw_cial (q := 45) (v := b) 1 (ar_107 ad C) (by omega) (by omega) ((setG_ne (by omega)).trans ((setG_ne (by omega)).trans (setG_same _ _ _ _))) dX5_holdOut_44 rfl ?_
    refine aw_iconst (q := 46) dX5_holdOut_45 rfl ?_
    refine aw_bipush (q := 48) dX5_holdOut_46 rfl (by decide) ?_
    refine cs_I (q := 51) (As := [.int (iI b), .int (iI 0), .int (iI 9)]) 3 (c_isBetween (T := T) (D := D) (ad := ad) (setG (setG (setG (setG G 10 0 a) 10 1 b) 10 2 c) 10 3 d) (by omega) (by omega) (by omega)) (fun _ h => h) wc_X5_isBetween wm_RX5_38 wt_X5_isBetween wn_X5 (by decide) rfl ⟨Nat.le_of_ble_eq_true rfl, Nat.le_of_ble_eq_true rfl⟩ ⟨Nat.le_of_ble_eq_true rfl, Nat.le_of_ble_eq_true rfl⟩ (Nat.le_of_ble_eq_true rfl) dX5_holdOut_48 rfl (fun r9 G9 h9 => ?_)
    rw [h9.1, h9.2]
    refine aw_ifb_ne (q := 54) dX5_holdOut_51 rfl (t := 56) (by decide) (fun h3 => ?_) (fun h4 => ?_)
    · refine ae_iinc (q := 59) (lv2 := [(0, .ref (ad 102)), (1, .int (iI a)), (2, .int (iI b)), (3, .int (iI c)), (4, .int (iI d)), (5, .int (iI 2))]) 5 [1, 2, 3, 4, 5, 0] 2 (by omega) dX5_holdOut_56 rfl rfl (by decide) rfl ?_
      refine aw_goto (q := 32) dX5_holdOut_59 (by decide) ?_
      refine aw_iload (q := 34) 5 dX5_holdOut_32 rfl rfl ?_
      refine aw_iconst (q := 35) dX5_holdOut_34 rfl ?_
      refine aw_icmp_ge (q := 38) dX5_holdOut_35 rfl (t := 62) (by decide) (by omega) (by omega) (fun h => absurd h (by omega)) (fun _ => ?_)
      refine aw_aload_n (q := 39) 0 dX5_holdOut_38 rfl rfl rfl ?_
      refine g_cp_coinsIn (q := 42) wf_RX5_34 dX5_holdOut_39 rfl ?_
      refine aw_iload (q := 44) 5 dX5_holdOut_42 rfl rfl ?_
      refine aw_cial (q := 45) (v := c) 2 (ar_107 ad C) (by omega) (by omega) ((setG_ne (by omega)).trans (setG_same _ _ _ _)) dX5_holdOut_44 rfl ?_
      refine aw_iconst (q := 46) dX5_holdOut_45 rfl ?_
      refine aw_bipush (q := 48) dX5_holdOut_46 rfl (by decide) ?_
      refine cs_I (q := 51) (As := [.int (iI c), .int (iI 0), .int (iI 9)]) 3 (c_isBetween (T := T) (D := D) (ad := ad) (setG (setG (setG (setG G 10 0 a) 10 1 b) 10 2 c) 10 3 d) (by omega) (by omega) (by omega)) (fun _ h => h) wc_X5_isBetween wm_RX5_38 wt_X5_isBetween wn_X5 (by decide) rfl ⟨Nat.le_of_ble_eq_true rfl, Nat.le_of_ble_eq_true rfl⟩ ⟨Nat.le_of_ble_eq_true rfl, Nat.le_of_ble_eq_true rfl⟩ (Nat.le_of_ble_eq_true rfl) dX5_holdOut_48 rfl (fun r9 G9 h9 => ?_)
      rw [h9.1, h9.2]
      refine aw_ifb_ne (q := 54) dX5_holdOut_51 rfl (t := 56) (by decide) (fun h5 => ?_) (fun h6 => ?_)
      · refine ae_iinc (q := 59) (lv2 := [(0, .ref (ad 102)), (1, .int (iI a)), (2, .int (iI b)), (3, .int (iI c)), (4, .int (iI d)), (5, .int (iI 3))]) 5 [1, 2, 3, 4, 5, 0] 3 (by omega) dX5_holdOut_56 rfl rfl (by decide) rfl ?_
        refine aw_goto (q := 32) dX5_holdOut_59 (by decide) ?_
        refine aw_iload (q := 34) 5 dX5_holdOut_32 rfl rfl ?_
        refine aw_iconst (q := 35) dX5_holdOut_34 rfl ?_
        refine aw_icmp_ge (q := 38) dX5_holdOut_35 rfl (t := 62) (by decide) (by omega) (by omega) (fun h => absurd h (by omega)) (fun _ => ?_)
        refine aw_aload_n (q := 39) 0 dX5_holdOut_38 rfl rfl rfl ?_
        refine g_cp_coinsIn (q := 42) wf_RX5_34 dX5_holdOut_39 rfl ?_
        refine aw_iload (q := 44) 5 dX5_holdOut_42 rfl rfl ?_
        refine aw_cial (q := 45) (v := d) 3 (ar_107 ad C) (by omega) (by omega) (setG_same _ _ _ _) dX5_holdOut_44 rfl ?_
        refine aw_iconst (q := 46) dX5_holdOut_45 rfl ?_
        refine aw_bipush (q := 48) dX5_holdOut_46 rfl (by decide) ?_
        refine cs_I (q := 51) (As := [.int (iI d), .int (iI 0), .int (iI 9)]) 3 (c_isBetween (T := T) (D := D) (ad := ad) (setG (setG (setG (setG G 10 0 a) 10 1 b) 10 2 c) 10 3 d) (by omega) (by omega) (by omega)) (fun _ h => h) wc_X5_isBetween wm_RX5_38 wt_X5_isBetween wn_X5 (by decide) rfl ⟨Nat.le_of_ble_eq_true rfl, Nat.le_of_ble_eq_true rfl⟩ ⟨Nat.le_of_ble_eq_true rfl, Nat.le_of_ble_eq_true rfl⟩ (Nat.le_of_ble_eq_true rfl) dX5_holdOut_48 rfl (fun r9 G9 h9 => ?_)
        rw [h9.1, h9.2]
        refine aw_ifb_ne (q := 54) dX5_holdOut_51 rfl (t := 56) (by decide) (fun h7 => ?_) (fun h8 => ?_)
        · refine ae_iinc (q := 59) (lv2 := [(0, .ref (ad 102)), (1, .int (iI a)), (2, .int (iI b)), (3, .int (iI c)), (4, .int (iI d)), (5, .int (iI 4))]) 5 [1, 2, 3, 4, 5, 0] 4 (by omega) dX5_holdOut_56 rfl rfl (by decide) rfl ?_
          refine aw_goto (q := 32) dX5_holdOut_59 (by decide) ?_
          refine aw_iload (q := 34) 5 dX5_holdOut_32 rfl rfl ?_
          refine aw_iconst (q := 35) dX5_holdOut_34 rfl ?_
          refine aw_icmp_ge (q := 38) dX5_holdOut_35 rfl (t := 62) (by decide) (by omega) (by omega) (fun _ => ?_) (fun h => absurd h (by omega))
          refine aw_iconst (q := 63) dX5_holdOut_62 rfl ?_
          exact rt_z rfl (by first | omega | exact b2i_r _) (Nat.le_refl _) (Nat.le_refl _) (⟨by first | exact (b2i_t (by omega)).symm | exact (b2i_f (by omega)).symm, rfl⟩) dX5_holdOut_63
        · refine aw_iconst (q := 55) dX5_holdOut_54 rfl ?_
          exact rt_z rfl (by first | omega | exact b2i_r _) (Nat.le_refl _) (Nat.le_refl _) (⟨by first | exact (b2i_t (by omega)).symm | exact (b2i_f (by omega)).symm, rfl⟩) dX5_holdOut_55
      · refine aw_iconst (q := 55) dX5_holdOut_54 rfl ?_
        exact rt_z rfl (by first | omega | exact b2i_r _) (Nat.le_refl _) (Nat.le_refl _) (⟨by first | exact (b2i_t (by omega)).symm | exact (b2i_f (by omega)).symm, rfl⟩) dX5_holdOut_55
    · refine aw_iconst (q := 55) dX5_holdOut_54 rfl ?_
      exact rt_z rfl (by first | omega | exact b2i_r _) (Nat.le_refl _) (Nat.le_refl _) (⟨by first | exact (b2i_t (by omega)).symm | exact (b2i_f (by omega)).symm, rfl⟩) dX5_holdOut_55
  · refine aw_iconst (q := 55) dX5_holdOut_54 rfl ?_
    exact rt_z rfl (by first | omega | exact b2i_r _) (Nat.le_refl _) (Nat.le_refl _) (⟨by first | exact (b2i_t (by omega)).symm | exact (b2i_f (by omega)).symm, rfl⟩) dX5_holdOut_55
set_option maxHeartbeats 4000000 in
set_option maxRecDepth 100000 in
theorem c_dropOldest {l : Launch} {D : va_G} {C : Nat → ClassId} {T : Nat → Nat} {ad : Int → Nat} (G : GG) (o : okV G) : MC l yX5_dropOldest cX5_dropOldest 3 none 0 0 0 0 D (tyC C) T [.ref (ad 102)] (cw ad C G) (RV ad C (fun G1 => G1 = dropG G)) := by
  refine mc_of (by decide +kernel) (Nat.le_of_ble_eq_true rfl) rfl ?_
  have p0 := o.1
  have p1 := o.2.1
  have p2 := o.2.2.1
  have p3 := o.2.2.2.1
  have p4 := o.2.2.2.2.1
  refine aw_aload_n (q := 1) 0 dX5_dropOldest_0 rfl rfl rfl ?_
  refine g_cp_saved (q := 4) wf_RX5_19 dX5_dropOldest_1 rfl ?_
  refine aw_iconst (q := 5) dX5_dropOldest_4 rfl ?_
  refine aw_saved (q := 6) (m := (G 6 10)) (by omega) rfl dX5_dropOldest_5 rfl ?_
  refine aw_astore_n (q := 7) (lv2 := [(0, .ref (ad 102)), (1, .ref (ad (17 * (G 6 10))))]) [1, 0] dX5_dropOldest_6 rfl rfl (by decide) rfl rfl ?_
  refine aw_iconst (q := 8) dX5_dropOldest_7 rfl ?_
  refine aw_istore_n (q := 9) (lv2 := [(0, .ref (ad 102)), (1, .ref (ad (17 * (G 6 10)))), (2, .int (iI 1))]) [1, 2, 0] dX5_dropOldest_8 rfl rfl (by decide) rfl rfl ?_
  refine aw_iload_n (q := 10) 2 dX5_dropOldest_9 rfl rfl rfl ?_
  refine aw_iconst (q := 11) dX5_dropOldest_10 rfl ?_
  refine aw_icmp_ge (q := 14) dX5_dropOldest_11 rfl (t := 34) (by decide) (by omega) (by omega) (fun h => absurd h (by omega)) (fun _ => ?_)
  refine aw_aload_n (q := 15) 0 dX5_dropOldest_14 rfl rfl rfl ?_
  refine g_cp_saved (q := 18) wf_RX5_19 dX5_dropOldest_15 rfl ?_
  refine aw_iload_n (q := 19) 2 dX5_dropOldest_18 rfl rfl rfl ?_
  refine aw_iconst (q := 20) dX5_dropOldest_19 rfl ?_
  refine ae_isub (q := 21) 0 (by omega) dX5_dropOldest_20 rfl ?_
  refine aw_aload_n (q := 22) 0 dX5_dropOldest_21 rfl rfl rfl ?_
  refine g_cp_saved (q := 25) wf_RX5_19 dX5_dropOldest_22 rfl ?_
  refine aw_iload_n (q := 26) 2 dX5_dropOldest_25 rfl rfl rfl ?_
  refine aw_saved (q := 27) (m := (G 6 11)) (by omega) rfl dX5_dropOldest_26 rfl ?_
  refine aw_savedPut (q := 28) (by omega) (by omega) dX5_dropOldest_27 rfl ?_
  refine ae_iinc (q := 31) (lv2 := [(0, .ref (ad 102)), (1, .ref (ad (17 * (G 6 10)))), (2, .int (iI 2))]) 2 [1, 2, 0] 2 (by omega) dX5_dropOldest_28 rfl rfl (by decide) rfl ?_
  refine aw_goto (q := 9) dX5_dropOldest_31 (by decide) ?_
  refine aw_iload_n (q := 10) 2 dX5_dropOldest_9 rfl rfl rfl ?_
  refine aw_iconst (q := 11) dX5_dropOldest_10 rfl ?_
  refine aw_icmp_ge (q := 14) dX5_dropOldest_11 rfl (t := 34) (by decide) (by omega) (by omega) (fun h => absurd h (by omega)) (fun _ => ?_)
  refine aw_aload_n (q := 15) 0 dX5_dropOldest_14 rfl rfl rfl ?_
  refine g_cp_saved (q := 18) wf_RX5_19 dX5_dropOldest_15 rfl ?_
  refine aw_iload_n (q := 19) 2 dX5_dropOldest_18 rfl rfl rfl ?_
  refine aw_iconst (q := 20) dX5_dropOldest_19 rfl ?_
  refine ae_isub (q := 21) 1 (by omega) dX5_dropOldest_20 rfl ?_
  refine aw_aload_n (q := 22) 0 dX5_dropOldest_21 rfl rfl rfl ?_
  refine g_cp_saved (q := 25) wf_RX5_19 dX5_dropOldest_22 rfl ?_
  refine aw_iload_n (q := 26) 2 dX5_dropOldest_25 rfl rfl rfl ?_
  refine aw_saved (q := 27) (m := (G 6 12)) (by omega) (setG_ne (by omega)) dX5_dropOldest_26 rfl ?_
  refine aw_savedPut (q := 28) (by omega) (by omega) dX5_dropOldest_27 rfl ?_
  refine ae_iinc (q := 31) (lv2 := [(0, .ref (ad 102)), (1, .ref (ad (17 * (G 6 10)))), (2, .int (iI 3))]) 2 [1, 2, 0] 3 (by omega) dX5_dropOldest_28 rfl rfl (by decide) rfl ?_
  refine aw_goto (q := 9) dX5_dropOldest_31 (by decide) ?_
  refine aw_iload_n (q := 10) 2 dX5_dropOldest_9 rfl rfl rfl ?_
  refine aw_iconst (q := 11) dX5_dropOldest_10 rfl ?_
  refine aw_icmp_ge (q := 14) dX5_dropOldest_11 rfl (t := 34) (by decide) (by omega) (by omega) (fun h => absurd h (by omega)) (fun _ => ?_)
  refine aw_aload_n (q := 15) 0 dX5_dropOldest_14 rfl rfl rfl ?_
  refine g_cp_saved (q := 18) wf_RX5_19 dX5_dropOldest_15 rfl ?_
  refine aw_iload_n (q := 19) 2 dX5_dropOldest_18 rfl rfl rfl ?_
  refine aw_iconst (q := 20) dX5_dropOldest_19 rfl ?_
  refine ae_isub (q := 21) 2 (by omega) dX5_dropOldest_20 rfl ?_
  refine aw_aload_n (q := 22) 0 dX5_dropOldest_21 rfl rfl rfl ?_
  refine g_cp_saved (q := 25) wf_RX5_19 dX5_dropOldest_22 rfl ?_
  refine aw_iload_n (q := 26) 2 dX5_dropOldest_25 rfl rfl rfl ?_
  refine aw_saved (q := 27) (m := (G 6 13)) (by omega) ((setG_ne (by omega)).trans (setG_ne (by omega))) dX5_dropOldest_26 rfl ?_
  refine aw_savedPut (q := 28) (by omega) (by omega) dX5_dropOldest_27 rfl ?_
  refine ae_iinc (q := 31) (lv2 := [(0, .ref (ad 102)), (1, .ref (ad (17 * (G 6 10)))), (2, .int (iI 4))]) 2 [1, 2, 0] 4 (by omega) dX5_dropOldest_28 rfl rfl (by decide) rfl ?_
  refine aw_goto (q := 9) dX5_dropOldest_31 (by decide) ?_
  refine aw_iload_n (q := 10) 2 dX5_dropOldest_9 rfl rfl rfl ?_
  refine aw_iconst (q := 11) dX5_dropOldest_10 rfl ?_
  refine aw_icmp_ge (q := 14) dX5_dropOldest_11 rfl (t := 34) (by decide) (by omega) (by omega) (fun _ => ?_) (fun h => absurd h (by omega))
  refine aw_aload_n (q := 35) 0 dX5_dropOldest_34 rfl rfl rfl ?_
  refine g_cp_saved (q := 38) wf_RX5_19 dX5_dropOldest_35 rfl ?_
  refine aw_iconst (q := 39) dX5_dropOldest_38 rfl ?_
  refine aw_aload_n (q := 40) 1 dX5_dropOldest_39 rfl rfl rfl ?_
  refine aw_savedPut (q := 41) (by omega) (by omega) dX5_dropOldest_40 rfl ?_
  refine aw_aload_n (q := 42) 0 dX5_dropOldest_41 rfl rfl rfl ?_
  refine aw_iconst (q := 43) dX5_dropOldest_42 rfl ?_
  refine p_cp_savedCount (q := 46) wf_RX5_23 dX5_dropOldest_43 rfl ?_
  exact rt_v rfl (Nat.le_refl _) (Nat.le_refl _) (rfl) dX5_dropOldest_46
set_option maxHeartbeats 4000000 in
set_option maxRecDepth 100000 in
theorem c_save {l : Launch} {D : va_G} {C : Nat → ClassId} {T : Nat → Nat} {ad : Int → Nat} (G : GG) (o : okV G) (h8 : 0 ≤ G 0 13 ∧ G 0 13 ≤ 8) (hz : ∀ d : Int, 0 ≤ d → d < G 0 13 → (G 0 (15 + 12 * d + 11) = 0 ∨ G 0 (15 + 12 * d + 11) = 1)) : MC l yX5_save cX5_save 1 none 3 79 0 0 D (tyC C) T [.ref (ad 102)] (cw ad C G) (RV ad C (saveP G)) := by
  refine mc_of (by decide +kernel) (Nat.le_of_ble_eq_true rfl) rfl ?_
  have p0 := o.1
  have p1 := o.2.1
  have p2 := o.2.2.1
  have p3 := o.2.2.2.1
  have p4 := o.2.2.2.2.1
  have pc := fun h => okV_at (k := G 6 0) o ⟨o.1.1, h⟩
  refine aw_aload_n (q := 1) 0 dX5_save_0 rfl rfl rfl ?_
  refine g_cp_savedCount (q := 4) (v := (G 6 0)) rfl wf_RX5_23 dX5_save_1 rfl ?_
  refine aw_iconst (q := 5) dX5_save_4 rfl ?_
  refine aw_icmp_lt (q := 8) dX5_save_5 rfl (t := 12) (by decide) (by omega) (by omega) (fun h1 => ?_) (fun h2 => ?_)
  · refine aw_aload_n (q := 13) 0 dX5_save_12 rfl rfl rfl ?_
    refine g_cp_saved (q := 16) wf_RX5_19 dX5_save_13 rfl ?_
    refine aw_aload_n (q := 17) 0 dX5_save_16 rfl rfl rfl ?_
    refine g_cp_savedCount (q := 20) (v := (G 6 0)) rfl wf_RX5_23 dX5_save_17 rfl ?_
    refine aw_saved (q := 21) (m := (G 6 ((G 6 0) + 10))) (by omega) ((congrArg (G 6) (by omega : (10 : Int) + (G 6 0) = ((G 6 0) + 10))).trans rfl) dX5_save_20 rfl ?_
    refine aw_aload_n (q := 22) 0 dX5_save_21 rfl rfl rfl ?_
    refine g_cp_machine (q := 25) wf_RX5_10 dX5_save_22 rfl ?_
    refine cv_V (q := 28) (CC := "") (id := 17 * ((G 6 ((G 6 0) + 10)))) (As := [.ref (ad 0)]) 1 (c_m_takeOver (T := T) (D := D) (ad := ad) G (i := (G 6 ((G 6 0) + 10))) (j := 0) (by omega) (by omega) (by omega) (by rw [show G 0 13 = G 0 13 from rfl]; exact h8) (fun d z0 z1 => by rw [show G 0 (15 + 12 * d + 11) = G 0 (15 + 12 * d + 11) from rfl]; exact hz d z0 (by rw [show G 0 13 = G 0 13 from rfl] at z1; exact z1))) (fun _ h => h) (by omega) (cell_mach ad C _ (by omega)) rfl wc_X1_takeOver wm_RX5_205 wi_X1_takeOver ws_X1_takeOver wn_X1 (by decide) rfl ⟨Nat.le_of_ble_eq_true rfl, Nat.le_of_ble_eq_true rfl⟩ ⟨Nat.le_of_ble_eq_true rfl, Nat.le_of_ble_eq_true rfl⟩ (Nat.le_of_ble_eq_true rfl) dX5_save_25 rfl (fun G9 h9 => ?_)
    refine aw_aload_n (q := 29) 0 dX5_save_28 rfl rfl rfl ?_
    refine aw_dup (q := 30) dX5_save_29 rfl rfl ?_
    refine g_cp_savedCount (q := 33) (v := (G 6 0)) (((h9.2.2.2 6 0 (by omega)).trans (rfl))) wf_RX5_23 dX5_save_30 rfl ?_
    refine aw_iconst (q := 34) dX5_save_33 rfl ?_
    refine ae_iadd (q := 35) ((G 6 0) + 1) (by omega) dX5_save_34 rfl ?_
    refine p_cp_savedCount (q := 38) wf_RX5_23 dX5_save_35 rfl ?_
    exact rt_v rfl (Nat.le_refl _) (Nat.le_refl _) (⟨G, G9, G 6 (G 6 0 + 10), G 6 0 + 1, Or.inl ⟨rfl, by omega, rfl, rfl⟩, h9, rfl⟩) dX5_save_38
  · refine aw_aload_n (q := 9) 0 dX5_save_8 rfl rfl rfl ?_
    refine cv_V (q := 12) (CC := "") (id := 102) (As := []) 0 (c_dropOldest (T := T) (D := D) (ad := ad) G o) (fun _ h => h) (by omega) (cell_102 ad C _) rfl wc_X5_dropOldest wm_RX5_248 wi_X5_dropOldest ws_X5_dropOldest wn_X5 (by decide) rfl ⟨Nat.le_of_ble_eq_true rfl, Nat.le_of_ble_eq_true rfl⟩ ⟨Nat.le_of_ble_eq_true rfl, Nat.le_of_ble_eq_true rfl⟩ (Nat.le_of_ble_eq_true rfl) dX5_save_9 rfl (fun G9 h9 => ?_)
    rw [h9]
    refine aw_aload_n (q := 13) 0 dX5_save_12 rfl rfl rfl ?_
    refine g_cp_saved (q := 16) wf_RX5_19 dX5_save_13 rfl ?_
    refine aw_aload_n (q := 17) 0 dX5_save_16 rfl rfl rfl ?_
    refine g_cp_savedCount (q := 20) (v := 3) (setG_same _ _ _ _) wf_RX5_23 dX5_save_17 rfl ?_
    refine aw_saved (q := 21) (m := (G 6 10)) (by omega) ((setG_ne (by omega)).trans (setG_same _ _ _ _)) dX5_save_20 rfl ?_
    refine aw_aload_n (q := 22) 0 dX5_save_21 rfl rfl rfl ?_
    refine g_cp_machine (q := 25) wf_RX5_10 dX5_save_22 rfl ?_
    refine cv_V (q := 28) (CC := "") (id := 17 * (G 6 10)) (As := [.ref (ad 0)]) 1 (c_m_takeOver (T := T) (D := D) (ad := ad) (setG (setG (setG (setG (setG G 6 10 (G 6 11)) 6 11 (G 6 12)) 6 12 (G 6 13)) 6 13 (G 6 10)) 6 0 3) (i := (G 6 10)) (j := 0) (by omega) (by omega) (by omega) (by rw [show (setG (setG (setG (setG (setG G 6 10 (G 6 11)) 6 11 (G 6 12)) 6 12 (G 6 13)) 6 13 (G 6 10)) 6 0 3) 0 13 = G 0 13 from ((setG_ne (by omega)).trans ((setG_ne (by omega)).trans ((setG_ne (by omega)).trans ((setG_ne (by omega)).trans (setG_ne (by omega))))))]; exact h8) (fun d z0 z1 => by rw [show (setG (setG (setG (setG (setG G 6 10 (G 6 11)) 6 11 (G 6 12)) 6 12 (G 6 13)) 6 13 (G 6 10)) 6 0 3) 0 (15 + 12 * d + 11) = G 0 (15 + 12 * d + 11) from ((setG_ne (by omega)).trans ((setG_ne (by omega)).trans ((setG_ne (by omega)).trans ((setG_ne (by omega)).trans (setG_ne (by omega))))))]; exact hz d z0 (by rw [show (setG (setG (setG (setG (setG G 6 10 (G 6 11)) 6 11 (G 6 12)) 6 12 (G 6 13)) 6 13 (G 6 10)) 6 0 3) 0 13 = G 0 13 from ((setG_ne (by omega)).trans ((setG_ne (by omega)).trans ((setG_ne (by omega)).trans ((setG_ne (by omega)).trans (setG_ne (by omega))))))] at z1; exact z1))) (fun _ h => h) (by omega) (cell_mach ad C _ (by omega)) rfl wc_X1_takeOver wm_RX5_205 wi_X1_takeOver ws_X1_takeOver wn_X1 (by decide) rfl ⟨Nat.le_of_ble_eq_true rfl, Nat.le_of_ble_eq_true rfl⟩ ⟨Nat.le_of_ble_eq_true rfl, Nat.le_of_ble_eq_true rfl⟩ (Nat.le_of_ble_eq_true rfl) dX5_save_25 rfl (fun G9 h9 => ?_)
    refine aw_aload_n (q := 29) 0 dX5_save_28 rfl rfl rfl ?_
    refine aw_dup (q := 30) dX5_save_29 rfl rfl ?_
    refine g_cp_savedCount (q := 33) (v := 3) (((h9.2.2.2 6 0 (by omega)).trans ((setG_same _ _ _ _)))) wf_RX5_23 dX5_save_30 rfl ?_
    refine aw_iconst (q := 34) dX5_save_33 rfl ?_
    refine ae_iadd (q := 35) 4 (by omega) dX5_save_34 rfl ?_
    refine p_cp_savedCount (q := 38) wf_RX5_23 dX5_save_35 rfl ?_
    exact rt_v rfl (Nat.le_refl _) (Nat.le_refl _) (⟨dropG G, G9, G 6 10, 4, Or.inr ⟨rfl, by omega, rfl, rfl⟩, h9, rfl⟩) dX5_save_38
