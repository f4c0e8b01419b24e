/-! class CoilPrices: what if, undo -/
def ctF (h0 h1 h2 h3 a t : Int) : Int := if t = 0 then c0F h0 h1 h2 h3 a else if t = 1 then c1F h0 h1 h2 h3 a else if t = 2 then c2F h0 h1 h2 h3 a else c3F h0 h1 h2 h3 a
def chF (h0 h1 h2 h3 a t : Int) : Int := if canF h0 h1 h2 h3 a then ctF h0 h1 h2 h3 a t else -1
def mpF (h0 h1 h2 h3 : Int) : Nat → Int
  | 0 => 0
  | n + 1 => if canF h0 h1 h2 h3 (5 * ((n : Int) + 1)) then 5 * ((n : Int) + 1) else mpF h0 h1 h2 h3 n
theorem mpF_1 {h0 h1 h2 h3 c : Int} (hc : 0 < c ∧ c % 5 = 0) (h : canF h0 h1 h2 h3 c) : mpF h0 h1 h2 h3 (c / 5).toNat = c := by
  obtain ⟨n, hn⟩ : ∃ n : Nat, (c / 5).toNat = n + 1 := ⟨(c / 5).toNat - 1, by omega⟩
  have e : 5 * ((n : Int) + 1) = c := by omega
  rw [hn]
  show (if canF h0 h1 h2 h3 (5 * ((n : Int) + 1)) then 5 * ((n : Int) + 1) else mpF h0 h1 h2 h3 n) = c
  rw [e, if_pos h]
theorem mpF_0 {h0 h1 h2 h3 c : Int} (hc : 0 < c ∧ c % 5 = 0) (h : ¬ canF h0 h1 h2 h3 c) : mpF h0 h1 h2 h3 (c / 5).toNat = mpF h0 h1 h2 h3 ((c - 5) / 5).toNat := by
  obtain ⟨n, hn⟩ : ∃ n : Nat, (c / 5).toNat = n + 1 := ⟨(c / 5).toNat - 1, by omega⟩
  have e : 5 * ((n : Int) + 1) = c := by omega
  rw [hn, show ((c - 5) / 5).toNat = n by omega]
  show (if canF h0 h1 h2 h3 (5 * ((n : Int) + 1)) then 5 * ((n : Int) + 1) else mpF h0 h1 h2 h3 n) = mpF h0 h1 h2 h3 n
  rw [e, if_neg h]
def cfF (h0 h1 h2 h3 a : Int) : Int := if canF h0 h1 h2 h3 a then 4 else if canF (h0 + 1) h1 h2 h3 a then 0 else if canF h0 (h1 + 1) h2 h3 a then 1 else if canF h0 h1 (h2 + 1) h3 a then 2 else if canF h0 h1 h2 (h3 + 1) a then 3 else -1
theorem okH_over {G K : GG} {i j : Int} (h : overP G i j K) (o : okH (G j)) : okH (K i) := by
  obtain ⟨h1, h2, h3, h4⟩ := h
  obtain ⟨os, oc, ok⟩ := o
  have e13 : K i 13 = G j 13 := h1 13 (by omega) (by omega)
  refine ⟨?_, by rw [e13]; exact oc, fun d z0 z1 => ?_⟩
  · unfold okS at *
    rw [h1 0 (by omega) (by omega), h1 1 (by omega) (by omega), h1 2 (by omega) (by omega), h1 3 (by omega) (by omega), h1 4 (by omega) (by omega)]
    exact os
  · rw [e13] at z1
    have k := ok d z0 z1
    unfold okC at *
    have e0 := h2 (15 + 12 * d) (by omega) (by omega)
    rw [h2 (15 + 12 * d + 1) (by omega) (by omega), h2 (15 + 12 * d + 2) (by omega) (by omega), h2 (15 + 12 * d + 3) (by omega) (by omega), h2 (15 + 12 * d + 4) (by omega) (by omega), h2 (15 + 12 * d + 5) (by omega) (by omega), h2 (15 + 12 * d + 9) (by omega) (by omega), h2 (15 + 12 * d + 10) (by omega) (by omega), h2 (15 + 12 * d + 11) (by omega) (by omega), e0]
    exact k
set_option maxHeartbeats 4000000 in
set_option maxRecDepth 100000 in
theorem c_change0 {l : Launch} {D : va_G} {C : Nat → ClassId} {T : Nat → Nat} {ad : Int → Nat} (hst : l.stackTraces = false) (G : GG) {a : Int} (o : okM G) (ha : -2147483648 ≤ a ∧ a ≤ 2147483647) : MX l yX5_change cX5_change 3 (some .int) 6 106 1 6 D (tyC C) T [.ref (ad 102), .int (iI a), .int (iI 0)] (cw ad C G) (RI ad C (fun r G1 => (0 ≤ a ∧ a ≤ 2000) ∧ r = chF (G 0 5) (G 0 6) (G 0 7) (G 0 8) a 0 ∧ sameB (scr 0) G G1)) (RX ad C (fun E G1 => G1 = G ∧ ((E = xIA ∧ ¬ (0 ≤ a ∧ a ≤ 2000))))) := by
  refine mx_of (by decide +kernel) (Nat.le_of_ble_eq_true rfl) rfl ?_
  have m13 := o.1.2.1
  have m14 := o.2.1.1
  have m10 := o.2.2.2.1
  have s0 : sameB (scr 0) G G := sameB.rf
  have q5 := o.2.1.2.2 0 (by omega) (by omega)
  have q6 := o.2.1.2.2 1 (by omega) (by omega)
  have q7 := o.2.1.2.2 2 (by omega) (by omega)
  have q8 := o.2.1.2.2 3 (by omega) (by omega)
  refine aw_iload_n (q := 1) 1 dX5_change_0 rfl rfl rfl ?_
  refine aw_iconst (q := 2) dX5_change_1 rfl ?_
  refine aw_sipush (q := 5) dX5_change_2 rfl (by decide) ?_
  refine cs_I (q := 8) (As := [.int (iI a), .int (iI 0), .int (iI 2000)]) 3 (c_isBetween (T := T) (D := D) (ad := ad) G (by omega) (by omega) (by omega)) (fun _ h => h) wc_X5_isBetween wm_RX5_38 wt_X5_isBetween wn_X5 (by decide) rfl ⟨Nat.le_of_ble_eq_true rfl, Nat.le_of_ble_eq_true rfl⟩ ⟨Nat.le_of_ble_eq_true rfl, Nat.le_of_ble_eq_true rfl⟩ (Nat.le_of_ble_eq_true rfl) dX5_change_5 rfl (fun r9 G9 h9 => ?_)
  rw [h9.1, h9.2]
  refine aw_ifb_ne (q := 11) dX5_change_8 rfl (t := 21) (by decide) (fun h1 => ?_) (fun h2 => ?_)
  · refine aw_iload_n (q := 22) 2 dX5_change_21 rfl rfl rfl ?_
    refine aw_iconst (q := 23) dX5_change_22 rfl ?_
    refine aw_iconst (q := 24) dX5_change_23 rfl ?_
    refine cs_I (q := 27) (As := [.int (iI 0), .int (iI 0), .int (iI 3)]) 3 (c_isBetween (T := T) (D := D) (ad := ad) G (by omega) (by omega) (by omega)) (fun _ h => h) wc_X5_isBetween wm_RX5_38 wt_X5_isBetween wn_X5 (by decide) rfl ⟨Nat.le_of_ble_eq_true rfl, Nat.le_of_ble_eq_true rfl⟩ ⟨Nat.le_of_ble_eq_true rfl, Nat.le_of_ble_eq_true rfl⟩ (Nat.le_of_ble_eq_true rfl) dX5_change_24 rfl (fun r9 G9 h9 => ?_)
    rw [h9.1, h9.2]
    refine aw_ifb_ne (q := 30) dX5_change_27 rfl (t := 40) (by decide) (fun h3 => ?_) (fun h4 => ?_)
    · refine aw_aload_n (q := 41) 0 dX5_change_40 rfl rfl rfl ?_
      refine g_cp_machine (q := 44) wf_RX5_10 dX5_change_41 rfl ?_
      refine g_mach_till (q := 47) (i := 0) (by omega) wf_RX5_114 dX5_change_44 rfl ?_
      refine aw_iload_n (q := 48) 1 dX5_change_47 rfl rfl rfl ?_
      refine cv_I (q := 51) (CC := "") (id := 3) (As := [.int (iI a)]) 1 (c_till_canPay (T := T) (D := D) (ad := ad) G (i := 0) (by omega) (by omega) (fun k z0 z1 => by rw [s0 _ _ (by omega)]; exact o.2.1.2.2 k z0 z1)) (fun _ h => h) (by omega) (cell_till ad C _ (i := 0) (by omega)) rfl wc_X4_canPay wm_RX5_188 wi_X4_canPay ws_X4_canPay wn_X4 (by decide) rfl ⟨Nat.le_of_ble_eq_true rfl, Nat.le_of_ble_eq_true rfl⟩ ⟨Nat.le_of_ble_eq_true rfl, Nat.le_of_ble_eq_true rfl⟩ (Nat.le_of_ble_eq_true rfl) dX5_change_48 rfl (fun r9 K1 h9 => ?_)
      obtain ⟨hr1, ha1, hb1, hc1, hd1, hs1⟩ := h9
      rw [s0 0 5 (by omega), s0 0 6 (by omega), s0 0 7 (by omega), s0 0 8 (by omega)] at hr1
      rw [s0 0 5 (by omega), s0 0 6 (by omega), s0 0 7 (by omega), s0 0 8 (by omega)] at ha1
      rw [s0 0 5 (by omega), s0 0 6 (by omega), s0 0 7 (by omega), s0 0 8 (by omega)] at hb1
      rw [s0 0 5 (by omega), s0 0 6 (by omega), s0 0 7 (by omega), s0 0 8 (by omega)] at hc1
      rw [s0 0 5 (by omega), s0 0 6 (by omega), s0 0 7 (by omega), s0 0 8 (by omega)] at hd1
      have sK1 : sameB (scr 0) G K1 := s0.tr hs1
      subst hr1
      refine aw_ifb_eq (q := 54) dX5_change_51 rfl (t := 72) (by decide) (fun h5 => ?_) (fun h6 => ?_)
      · refine aw_iconst (q := 73) dX5_change_72 rfl ?_
        exact ax_of (rt_i rfl (Nat.zero_le _) (Nat.zero_le _) (⟨⟨by omega, by omega⟩, by unfold chF; first | exact (if_pos (by assumption)).symm | exact (if_neg (by assumption)).symm, sK1⟩) dX5_change_73)
      · refine aw_aload_n (q := 55) 0 dX5_change_54 rfl rfl rfl ?_
        refine g_cp_machine (q := 58) wf_RX5_10 dX5_change_55 rfl ?_
        refine g_mach_till (q := 61) (i := 0) (by omega) wf_RX5_114 dX5_change_58 rfl ?_
        refine g_till_payment (q := 64) (i := 0) (by omega) wf_RX5_191 dX5_change_61 rfl ?_
        refine g_pay_taken (q := 67) (i := 0) (by omega) wf_RX5_195 dX5_change_64 rfl ?_
        refine aw_iload_n (q := 68) 2 dX5_change_67 rfl rfl rfl ?_
        refine aw_cial (q := 69) (v := (c0F (G 0 5) (G 0 6) (G 0 7) (G 0 8) a)) 316 (ar_taken ad C (i := 0) (by omega)) (by omega) (by omega) (ha1) dX5_change_68 rfl ?_
        refine aw_goto (q := 73) dX5_change_69 (by decide) ?_
        exact ax_of (rt_i rfl (Nat.zero_le _) (Nat.zero_le _) (⟨⟨by omega, by omega⟩, by unfold chF; first | exact (if_pos (by assumption)).symm | exact (if_neg (by assumption)).symm, sK1⟩) dX5_change_73)
    · exact (by omega : False).elim
  · exact aw_throwS (text := strT 186) (fun _ h => h) hst (fun _ h => h) th_42_46 (by decide +kernel) dX5_change_11 dX5_change_14 dX5_change_15 dX5_change_17 dX5_change_20 (Nat.le_of_ble_eq_true rfl) (Nat.le_of_ble_eq_true rfl) (Nat.le_of_ble_eq_true rfl) (Nat.le_of_ble_eq_true rfl) (Nat.le_of_ble_eq_true rfl) (Nat.le_of_ble_eq_true rfl) ⟨_, rfl, ⟨rfl, by first | exact ⟨rfl, by omega⟩ | exact Or.inl ⟨rfl, by omega⟩ | exact Or.inr ⟨rfl, by omega⟩ | exact Or.inr (Or.inl ⟨rfl, by omega⟩) | exact Or.inr (Or.inr ⟨rfl, by omega⟩)⟩⟩
set_option maxHeartbeats 4000000 in
set_option maxRecDepth 100000 in
theorem c_change1 {l : Launch} {D : va_G} {C : Nat → ClassId} {T : Nat → Nat} {ad : Int → Nat} (hst : l.stackTraces = false) (G : GG) {a : Int} (o : okM G) (ha : -2147483648 ≤ a ∧ a ≤ 2147483647) : MX l yX5_change cX5_change 3 (some .int) 6 106 1 6 D (tyC C) T [.ref (ad 102), .int (iI a), .int (iI 1)] (cw ad C G) (RI ad C (fun r G1 => (0 ≤ a ∧ a ≤ 2000) ∧ r = chF (G 0 5) (G 0 6) (G 0 7) (G 0 8) a 1 ∧ sameB (scr 0) G G1)) (RX ad C (fun E G1 => G1 = G ∧ ((E = xIA ∧ ¬ (0 ≤ a ∧ a ≤ 2000))))) := by
  refine mx_of (by decide +kernel) (Nat.le_of_ble_eq_true rfl) rfl ?_
  have m13 := o.1.2.1
  have m14 := o.2.1.1
  have m10 := o.2.2.2.1
  have s0 : sameB (scr 0) G G := sameB.rf
  have q5 := o.2.1.2.2 0 (by omega) (by omega)
  have q6 := o.2.1.2.2 1 (by omega) (by omega)
  have q7 := o.2.1.2.2 2 (by omega) (by omega)
  have q8 := o.2.1.2.2 3 (by omega) (by omega)
  refine aw_iload_n (q := 1) 1 dX5_change_0 rfl rfl rfl ?_
  refine aw_iconst (q := 2) dX5_change_1 rfl ?_
  refine aw_sipush (q := 5) dX5_change_2 rfl (by decide) ?_
  refine cs_I (q := 8) (As := [.int (iI a), .int (iI 0), .int (iI 2000)]) 3 (c_isBetween (T := T) (D := D) (ad := ad) G (by omega) (by omega) (by omega)) (fun _ h => h) wc_X5_isBetween wm_RX5_38 wt_X5_isBetween wn_X5 (by decide) rfl ⟨Nat.le_of_ble_eq_true rfl, Nat.le_of_ble_eq_true rfl⟩ ⟨Nat.le_of_ble_eq_true rfl, Nat.le_of_ble_eq_true rfl⟩ (Nat.le_of_ble_eq_true rfl) dX5_change_5 rfl (fun r9 G9 h9 => ?_)
  rw [h9.1, h9.2]
  refine aw_ifb_ne (q := 11) dX5_change_8 rfl (t := 21) (by decide) (fun h1 => ?_) (fun h2 => ?_)
  · refine aw_iload_n (q := 22) 2 dX5_change_21 rfl rfl rfl ?_
    refine aw_iconst (q := 23) dX5_change_22 rfl ?_
    refine aw_iconst (q := 24) dX5_change_23 rfl ?_
    refine cs_I (q := 27) (As := [.int (iI 1), .int (iI 0), .int (iI 3)]) 3 (c_isBetween (T := T) (D := D) (ad := ad) G (by omega) (by omega) (by omega)) (fun _ h => h) wc_X5_isBetween wm_RX5_38 wt_X5_isBetween wn_X5 (by decide) rfl ⟨Nat.le_of_ble_eq_true rfl, Nat.le_of_ble_eq_true rfl⟩ ⟨Nat.le_of_ble_eq_true rfl, Nat.le_of_ble_eq_true rfl⟩ (Nat.le_of_ble_eq_true rfl) dX5_change_24 rfl (fun r9 G9 h9 => ?_)
    rw [h9.1, h9.2]
    refine aw_ifb_ne (q := 30) dX5_change_27 rfl (t := 40) (by decide) (fun h3 => ?_) (fun h4 => ?_)
    · refine aw_aload_n (q := 41) 0 dX5_change_40 rfl rfl rfl ?_
      refine g_cp_machine (q := 44) wf_RX5_10 dX5_change_41 rfl ?_
      refine g_mach_till (q := 47) (i := 0) (by omega) wf_RX5_114 dX5_change_44 rfl ?_
      refine aw_iload_n (q := 48) 1 dX5_change_47 rfl rfl rfl ?_
      refine cv_I (q := 51) (CC := "") (id := 3) (As := [.int (iI a)]) 1 (c_till_canPay (T := T) (D := D) (ad := ad) G (i := 0) (by omega) (by omega) (fun k z0 z1 => by rw [s0 _ _ (by omega)]; exact o.2.1.2.2 k z0 z1)) (fun _ h => h) (by omega) (cell_till ad C _ (i := 0) (by omega)) rfl wc_X4_canPay wm_RX5_188 wi_X4_canPay ws_X4_canPay wn_X4 (by decide) rfl ⟨Nat.le_of_ble_eq_true rfl, Nat.le_of_ble_eq_true rfl⟩ ⟨Nat.le_of_ble_eq_true rfl, Nat.le_of_ble_eq_true rfl⟩ (Nat.le_of_ble_eq_true rfl) dX5_change_48 rfl (fun r9 K2 h9 => ?_)
      obtain ⟨hr2, ha2, hb2, hc2, hd2, hs2⟩ := h9
      rw [s0 0 5 (by omega), s0 0 6 (by omega), s0 0 7 (by omega), s0 0 8 (by omega)] at hr2
      rw [s0 0 5 (by omega), s0 0 6 (by omega), s0 0 7 (by omega), s0 0 8 (by omega)] at ha2
      rw [s0 0 5 (by omega), s0 0 6 (by omega), s0 0 7 (by omega), s0 0 8 (by omega)] at hb2
      rw [s0 0 5 (by omega), s0 0 6 (by omega), s0 0 7 (by omega), s0 0 8 (by omega)] at hc2
      rw [s0 0 5 (by omega), s0 0 6 (by omega), s0 0 7 (by omega), s0 0 8 (by omega)] at hd2
      have sK2 : sameB (scr 0) G K2 := s0.tr hs2
      subst hr2
      refine aw_ifb_eq (q := 54) dX5_change_51 rfl (t := 72) (by decide) (fun h5 => ?_) (fun h6 => ?_)
      · refine aw_iconst (q := 73) dX5_change_72 rfl ?_
        exact ax_of (rt_i rfl (Nat.zero_le _) (Nat.zero_le _) (⟨⟨by omega, by omega⟩, by unfold chF; first | exact (if_pos (by assumption)).symm | exact (if_neg (by assumption)).symm, sK2⟩) dX5_change_73)
      · refine aw_aload_n (q := 55) 0 dX5_change_54 rfl rfl rfl ?_
        refine g_cp_machine (q := 58) wf_RX5_10 dX5_change_55 rfl ?_
        refine g_mach_till (q := 61) (i := 0) (by omega) wf_RX5_114 dX5_change_58 rfl ?_
        refine g_till_payment (q := 64) (i := 0) (by omega) wf_RX5_191 dX5_change_61 rfl ?_
        refine g_pay_taken (q := 67) (i := 0) (by omega) wf_RX5_195 dX5_change_64 rfl ?_
        refine aw_iload_n (q := 68) 2 dX5_change_67 rfl rfl rfl ?_
        refine aw_cial (q := 69) (v := (c1F (G 0 5) (G 0 6) (G 0 7) (G 0 8) a)) 317 (ar_taken ad C (i := 0) (by omega)) (by omega) (by omega) (hb2) dX5_change_68 rfl ?_
        refine aw_goto (q := 73) dX5_change_69 (by decide) ?_
        exact ax_of (rt_i rfl (Nat.zero_le _) (Nat.zero_le _) (⟨⟨by omega, by omega⟩, by unfold chF; first | exact (if_pos (by assumption)).symm | exact (if_neg (by assumption)).symm, sK2⟩) dX5_change_73)
    · exact (by omega : False).elim
  · exact aw_throwS (text := strT 186) (fun _ h => h) hst (fun _ h => h) th_42_46 (by decide +kernel) dX5_change_11 dX5_change_14 dX5_change_15 dX5_change_17 dX5_change_20 (Nat.le_of_ble_eq_true rfl) (Nat.le_of_ble_eq_true rfl) (Nat.le_of_ble_eq_true rfl) (Nat.le_of_ble_eq_true rfl) (Nat.le_of_ble_eq_true rfl) (Nat.le_of_ble_eq_true rfl) ⟨_, rfl, ⟨rfl, by first | exact ⟨rfl, by omega⟩ | exact Or.inl ⟨rfl, by omega⟩ | exact Or.inr ⟨rfl, by omega⟩ | exact Or.inr (Or.inl ⟨rfl, by omega⟩) | exact Or.inr (Or.inr ⟨rfl, by omega⟩)⟩⟩
set_option maxHeartbeats 4000000 in
set_option maxRecDepth 100000 in
theorem c_change2 {l : Launch} {D : va_G} {C : Nat → ClassId} {T : Nat → Nat} {ad : Int → Nat} (hst : l.stackTraces = false) (G : GG) {a : Int} (o : okM G) (ha : -2147483648 ≤ a ∧ a ≤ 2147483647) : MX l yX5_change cX5_change 3 (some .int) 6 106 1 6 D (tyC C) T [.ref (ad 102), .int (iI a), .int (iI 2)] (cw ad C G) (RI ad C (fun r G1 => (0 ≤ a ∧ a ≤ 2000) ∧ r = chF (G 0 5) (G 0 6) (G 0 7) (G 0 8) a 2 ∧ sameB (scr 0) G G1)) (RX ad C (fun E G1 => G1 = G ∧ ((E = xIA ∧ ¬ (0 ≤ a ∧ a ≤ 2000))))) := by
  refine mx_of (by decide +kernel) (Nat.le_of_ble_eq_true rfl) rfl ?_
  have m13 := o.1.2.1
  have m14 := o.2.1.1
  have m10 := o.2.2.2.1
  have s0 : sameB (scr 0) G G := sameB.rf
  have q5 := o.2.1.2.2 0 (by omega) (by omega)
  have q6 := o.2.1.2.2 1 (by omega) (by omega)
  have q7 := o.2.1.2.2 2 (by omega) (by omega)
  have q8 := o.2.1.2.2 3 (by omega) (by omega)
  refine aw_iload_n (q := 1) 1 dX5_change_0 rfl rfl rfl ?_
  refine aw_iconst (q := 2) dX5_change_1 rfl ?_
  refine aw_sipush (q := 5) dX5_change_2 rfl (by decide) ?_
  refine cs_I (q := 8) (As := [.int (iI a), .int (iI 0), .int (iI 2000)]) 3 (c_isBetween (T := T) (D := D) (ad := ad) G (by omega) (by omega) (by omega)) (fun _ h => h) wc_X5_isBetween wm_RX5_38 wt_X5_isBetween wn_X5 (by decide) rfl ⟨Nat.le_of_ble_eq_true rfl, Nat.le_of_ble_eq_true rfl⟩ ⟨Nat.le_of_ble_eq_true rfl, Nat.le_of_ble_eq_true rfl⟩ (Nat.le_of_ble_eq_true rfl) dX5_change_5 rfl (fun r9 G9 h9 => ?_)
  rw [h9.1, h9.2]
  refine aw_ifb_ne (q := 11) dX5_change_8 rfl (t := 21) (by decide) (fun h1 => ?_) (fun h2 => ?_)
  · refine aw_iload_n (q := 22) 2 dX5_change_21 rfl rfl rfl ?_
    refine aw_iconst (q := 23) dX5_change_22 rfl ?_
    refine aw_iconst (q := 24) dX5_change_23 rfl ?_
    refine cs_I (q := 27) (As := [.int (iI 2), .int (iI 0), .int (iI 3)]) 3 (c_isBetween (T := T) (D := D) (ad := ad) G (by omega) (by omega) (by omega)) (fun _ h => h) wc_X5_isBetween wm_RX5_38 wt_X5_isBetween wn_X5 (by decide) rfl ⟨Nat.le_of_ble_eq_true rfl, Nat.le_of_ble_eq_true rfl⟩ ⟨Nat.le_of_ble_eq_true rfl, Nat.le_of_ble_eq_true rfl⟩ (Nat.le_of_ble_eq_true rfl) dX5_change_24 rfl (fun r9 G9 h9 => ?_)
    rw [h9.1, h9.2]
    refine aw_ifb_ne (q := 30) dX5_change_27 rfl (t := 40) (by decide) (fun h3 => ?_) (fun h4 => ?_)
    · refine aw_aload_n (q := 41) 0 dX5_change_40 rfl rfl rfl ?_
      refine g_cp_machine (q := 44) wf_RX5_10 dX5_change_41 rfl ?_
      refine g_mach_till (q := 47) (i := 0) (by omega) wf_RX5_114 dX5_change_44 rfl ?_
      refine aw_iload_n (q := 48) 1 dX5_change_47 rfl rfl rfl ?_
      refine cv_I (q := 51) (CC := "") (id := 3) (As := [.int (iI a)]) 1 (c_till_canPay (T := T) (D := D) (ad := ad) G (i := 0) (by omega) (by omega) (fun k z0 z1 => by rw [s0 _ _ (by omega)]; exact o.2.1.2.2 k z0 z1)) (fun _ h => h) (by omega) (cell_till ad C _ (i := 0) (by omega)) rfl wc_X4_canPay wm_RX5_188 wi_X4_canPay ws_X4_canPay wn_X4 (by decide) rfl ⟨Nat.le_of_ble_eq_true rfl, Nat.le_of_ble_eq_true rfl⟩ ⟨Nat.le_of_ble_eq_true rfl, Nat.le_of_ble_eq_true rfl⟩ (Nat.le_of_ble_eq_true rfl) dX5_change_48 rfl (fun r9 K3 h9 => ?_)
      obtain ⟨hr3, ha3, hb3, hc3, hd3, hs3⟩ := h9
      rw [s0 0 5 (by omega), s0 0 6 (by omega), s0 0 7 (by omega), s0 0 8 (by omega)] at hr3
      rw [s0 0 5 (by omega), s0 0 6 (by omega), s0 0 7 (by omega), s0 0 8 (by omega)] at ha3
      rw [s0 0 5 (by omega), s0 0 6 (by omega), s0 0 7 (by omega), s0 0 8 (by omega)] at hb3
      rw [s0 0 5 (by omega), s0 0 6 (by omega), s0 0 7 (by omega), s0 0 8 (by omega)] at hc3
      rw [s0 0 5 (by omega), s0 0 6 (by omega), s0 0 7 (by omega), s0 0 8 (by omega)] at hd3
      have sK3 : sameB (scr 0) G K3 := s0.tr hs3
      subst hr3
      refine aw_ifb_eq (q := 54) dX5_change_51 rfl (t := 72) (by decide) (fun h5 => ?_) (fun h6 => ?_)
      · refine aw_iconst (q := 73) dX5_change_72 rfl ?_
        exact ax_of (rt_i rfl (Nat.zero_le _) (Nat.zero_le _) (⟨⟨by omega, by omega⟩, by unfold chF; first | exact (if_pos (by assumption)).symm | exact (if_neg (by assumption)).symm, sK3⟩) dX5_change_73)
      · refine aw_aload_n (q := 55) 0 dX5_change_54 rfl rfl rfl ?_
        refine g_cp_machine (q := 58) wf_RX5_10 dX5_change_55 rfl ?_
        refine g_mach_till (q := 61) (i := 0) (by omega) wf_RX5_114 dX5_change_58 rfl ?_
        refine g_till_payment (q := 64) (i := 0) (by omega) wf_RX5_191 dX5_change_61 rfl ?_
        refine g_pay_taken (q := 67) (i := 0) (by omega) wf_RX5_195 dX5_change_64 rfl ?_
        refine aw_iload_n (q := 68) 2 dX5_change_67 rfl rfl rfl ?_
        refine aw_cial (q := 69) (v := (c2F (G 0 5) (G 0 6) (G 0 7) (G 0 8) a)) 318 (ar_taken ad C (i := 0) (by omega)) (by omega) (by omega) (hc3) dX5_change_68 rfl ?_
        refine aw_goto (q := 73) dX5_change_69 (by decide) ?_
        exact ax_of (rt_i rfl (Nat.zero_le _) (Nat.zero_le _) (⟨⟨by omega, by omega⟩, by unfold chF; first | exact (if_pos (by assumption)).symm | exact (if_neg (by assumption)).symm, sK3⟩) dX5_change_73)
    · exact (by omega : False).elim
  · exact aw_throwS (text := strT 186) (fun _ h => h) hst (fun _ h => h) th_42_46 (by decide +kernel) dX5_change_11 dX5_change_14 dX5_change_15 dX5_change_17 dX5_change_20 (Nat.le_of_ble_eq_true rfl) (Nat.le_of_ble_eq_true rfl) (Nat.le_of_ble_eq_true rfl) (Nat.le_of_ble_eq_true rfl) (Nat.le_of_ble_eq_true rfl) (Nat.le_of_ble_eq_true rfl) ⟨_, rfl, ⟨rfl, by first | exact ⟨rfl, by omega⟩ | exact Or.inl ⟨rfl, by omega⟩ | exact Or.inr ⟨rfl, by omega⟩ | exact Or.inr (Or.inl ⟨rfl, by omega⟩) | exact Or.inr (Or.inr ⟨rfl, by omega⟩)⟩⟩
set_option maxHeartbeats 4000000 in
set_option maxRecDepth 100000 in
theorem c_change3 {l : Launch} {D : va_G} {C : Nat → ClassId} {T : Nat → Nat} {ad : Int → Nat} (hst : l.stackTraces = false) (G : GG) {a : Int} (o : okM G) (ha : -2147483648 ≤ a ∧ a ≤ 2147483647) : MX l yX5_change cX5_change 3 (some .int) 6 106 1 6 D (tyC C) T [.ref (ad 102), .int (iI a), .int (iI 3)] (cw ad C G) (RI ad C (fun r G1 => (0 ≤ a ∧ a ≤ 2000) ∧ r = chF (G 0 5) (G 0 6) (G 0 7) (G 0 8) a 3 ∧ sameB (scr 0) G G1)) (RX ad C (fun E G1 => G1 = G ∧ ((E = xIA ∧ ¬ (0 ≤ a ∧ a ≤ 2000))))) := by
  refine mx_of (by decide +kernel) (Nat.le_of_ble_eq_true rfl) rfl ?_
  have m13 := o.1.2.1
  have m14 := o.2.1.1
  have m10 := o.2.2.2.1
  have s0 : sameB (scr 0) G G := sameB.rf
  have q5 := o.2.1.2.2 0 (by omega) (by omega)
  have q6 := o.2.1.2.2 1 (by omega) (by omega)
  have q7 := o.2.1.2.2 2 (by omega) (by omega)
  have q8 := o.2.1.2.2 3 (by omega) (by omega)
  refine aw_iload_n (q := 1) 1 dX5_change_0 rfl rfl rfl ?_
  refine aw_iconst (q := 2) dX5_change_1 rfl ?_
  refine aw_sipush (q := 5) dX5_change_2 rfl (by decide) ?_
  refine cs_I (q := 8) (As := [.int (iI a), .int (iI 0), .int (iI 2000)]) 3 (c_isBetween (T := T) (D := D) (ad := ad) G (by omega) (by omega) (by omega)) (fun _ h => h) wc_X5_isBetween wm_RX5_38 wt_X5_isBetween wn_X5 (by decide) rfl ⟨Nat.le_of_ble_eq_true rfl, Nat.le_of_ble_eq_true rfl⟩ ⟨Nat.le_of_ble_eq_true rfl, Nat.le_of_ble_eq_true rfl⟩ (Nat.le_of_ble_eq_true rfl) dX5_change_5 rfl (fun r9 G9 h9 => ?_)
  rw [h9.1, h9.2]
  refine aw_ifb_ne (q := 11) dX5_change_8 rfl (t := 21) (by decide) (fun h1 => ?_) (fun h2 => ?_)
  · refine aw_iload_n (q := 22) 2 dX5_change_21 rfl rfl rfl ?_
    refine aw_iconst (q := 23) dX5_change_22 rfl ?_
    refine aw_iconst (q := 24) dX5_change_23 rfl ?_
    refine cs_I (q := 27) (As := [.int (iI 3), .int (iI 0), .int (iI 3)]) 3 (c_isBetween (T := T) (D := D) (ad := ad) G (by omega) (by omega) (by omega)) (fun _ h => h) wc_X5_isBetween wm_RX5_38 wt_X5_isBetween wn_X5 (by decide) rfl ⟨Nat.le_of_ble_eq_true rfl, Nat.le_of_ble_eq_true rfl⟩ ⟨Nat.le_of_ble_eq_true rfl, Nat.le_of_ble_eq_true rfl⟩ (Nat.le_of_ble_eq_true rfl) dX5_change_24 rfl (fun r9 G9 h9 => ?_)
    rw [h9.1, h9.2]
    refine aw_ifb_ne (q := 30) dX5_change_27 rfl (t := 40) (by decide) (fun h3 => ?_) (fun h4 => ?_)
    · refine aw_aload_n (q := 41) 0 dX5_change_40 rfl rfl rfl ?_
      refine g_cp_machine (q := 44) wf_RX5_10 dX5_change_41 rfl ?_
      refine g_mach_till (q := 47) (i := 0) (by omega) wf_RX5_114 dX5_change_44 rfl ?_
      refine aw_iload_n (q := 48) 1 dX5_change_47 rfl rfl rfl ?_
      refine cv_I (q := 51) (CC := "") (id := 3) (As := [.int (iI a)]) 1 (c_till_canPay (T := T) (D := D) (ad := ad) G (i := 0) (by omega) (by omega) (fun k z0 z1 => by rw [s0 _ _ (by omega)]; exact o.2.1.2.2 k z0 z1)) (fun _ h => h) (by omega) (cell_till ad C _ (i := 0) (by omega)) rfl wc_X4_canPay wm_RX5_188 wi_X4_canPay ws_X4_canPay wn_X4 (by decide) rfl ⟨Nat.le_of_ble_eq_true rfl, Nat.le_of_ble_eq_true rfl⟩ ⟨Nat.le_of_ble_eq_true rfl, Nat.le_of_ble_eq_true rfl⟩ (Nat.le_of_ble_eq_true rfl) dX5_change_48 rfl (fun r9 K4 h9 => ?_)
      obtain ⟨hr4, ha4, hb4, hc4, hd4, hs4⟩ := h9
      rw [s0 0 5 (by omega), s0 0 6 (by omega), s0 0 7 (by omega), s0 0 8 (by omega)] at hr4
      rw [s0 0 5 (by omega), s0 0 6 (by omega), s0 0 7 (by omega), s0 0 8 (by omega)] at ha4
      rw [s0 0 5 (by omega), s0 0 6 (by omega), s0 0 7 (by omega), s0 0 8 (by omega)] at hb4
      rw [s0 0 5 (by omega), s0 0 6 (by omega), s0 0 7 (by omega), s0 0 8 (by omega)] at hc4
      rw [s0 0 5 (by omega), s0 0 6 (by omega), s0 0 7 (by omega), s0 0 8 (by omega)] at hd4
      have sK4 : sameB (scr 0) G K4 := s0.tr hs4
      subst hr4
      refine aw_ifb_eq (q := 54) dX5_change_51 rfl (t := 72) (by decide) (fun h5 => ?_) (fun h6 => ?_)
      · refine aw_iconst (q := 73) dX5_change_72 rfl ?_
        exact ax_of (rt_i rfl (Nat.zero_le _) (Nat.zero_le _) (⟨⟨by omega, by omega⟩, by unfold chF; first | exact (if_pos (by assumption)).symm | exact (if_neg (by assumption)).symm, sK4⟩) dX5_change_73)
      · refine aw_aload_n (q := 55) 0 dX5_change_54 rfl rfl rfl ?_
        refine g_cp_machine (q := 58) wf_RX5_10 dX5_change_55 rfl ?_
        refine g_mach_till (q := 61) (i := 0) (by omega) wf_RX5_114 dX5_change_58 rfl ?_
        refine g_till_payment (q := 64) (i := 0) (by omega) wf_RX5_191 dX5_change_61 rfl ?_
        refine g_pay_taken (q := 67) (i := 0) (by omega) wf_RX5_195 dX5_change_64 rfl ?_
        refine aw_iload_n (q := 68) 2 dX5_change_67 rfl rfl rfl ?_
        refine aw_cial (q := 69) (v := (c3F (G 0 5) (G 0 6) (G 0 7) (G 0 8) a)) 319 (ar_taken ad C (i := 0) (by omega)) (by omega) (by omega) (hd4) dX5_change_68 rfl ?_
        refine aw_goto (q := 73) dX5_change_69 (by decide) ?_
        exact ax_of (rt_i rfl (Nat.zero_le _) (Nat.zero_le _) (⟨⟨by omega, by omega⟩, by unfold chF; first | exact (if_pos (by assumption)).symm | exact (if_neg (by assumption)).symm, sK4⟩) dX5_change_73)
    · exact (by omega : False).elim
  · exact aw_throwS (text := strT 186) (fun _ h => h) hst (fun _ h => h) th_42_46 (by decide +kernel) dX5_change_11 dX5_change_14 dX5_change_15 dX5_change_17 dX5_change_20 (Nat.le_of_ble_eq_true rfl) (Nat.le_of_ble_eq_true rfl) (Nat.le_of_ble_eq_true rfl) (Nat.le_of_ble_eq_true rfl) (Nat.le_of_ble_eq_true rfl) (Nat.le_of_ble_eq_true rfl) ⟨_, rfl, ⟨rfl, by first | exact ⟨rfl, by omega⟩ | exact Or.inl ⟨rfl, by omega⟩ | exact Or.inr ⟨rfl, by omega⟩ | exact Or.inr (Or.inl ⟨rfl, by omega⟩) | exact Or.inr (Or.inr ⟨rfl, by omega⟩)⟩⟩
set_option maxHeartbeats 4000000 in
set_option maxRecDepth 100000 in
theorem c_changeN {l : Launch} {D : va_G} {C : Nat → ClassId} {T : Nat → Nat} {ad : Int → Nat} (hst : l.stackTraces = false) (G : GG) {a t : Int} (o : okM G) (ha : -2147483648 ≤ a ∧ a ≤ 2147483647) (ht : -2147483648 ≤ t ∧ t ≤ 2147483647) (hn : ¬ (0 ≤ t ∧ t ≤ 3)) : MX l yX5_change cX5_change 3 (some .int) 6 106 1 6 D (tyC C) T [.ref (ad 102), .int (iI a), .int (iI t)] (cw ad C G) (RI ad C (fun r G1 => False)) (RX ad C (fun E G1 => G1 = G ∧ ((E = xIA ∧ ¬ (0 ≤ a ∧ a ≤ 2000)) ∨ (E = xIB ∧ (0 ≤ a ∧ a ≤ 2000))))) := by
  refine mx_of (by decide +kernel) (Nat.le_of_ble_eq_true rfl) rfl ?_
  have m13 := o.1.2.1
  have m14 := o.2.1.1
  have m10 := o.2.2.2.1
  have s0 : sameB (scr 0) G G := sameB.rf
  have q5 := o.2.1.2.2 0 (by omega) (by omega)
  have q6 := o.2.1.2.2 1 (by omega) (by omega)
  have q7 := o.2.1.2.2 2 (by omega) (by omega)
  have q8 := o.2.1.2.2 3 (by omega) (by omega)
  refine aw_iload_n (q := 1) 1 dX5_change_0 rfl rfl rfl ?_
  refine aw_iconst (q := 2) dX5_change_1 rfl ?_
  refine aw_sipush (q := 5) dX5_change_2 rfl (by decide) ?_
  refine cs_I (q := 8) (As := [.int (iI a), .int (iI 0), .int (iI 2000)]) 3 (c_isBetween (T := T) (D := D) (ad := ad) G (by omega) (by omega) (by omega)) (fun _ h => h) wc_X5_isBetween wm_RX5_38 wt_X5_isBetween wn_X5 (by decide) rfl ⟨Nat.le_of_ble_eq_true rfl, Nat.le_of_ble_eq_true rfl⟩ ⟨Nat.le_of_ble_eq_true rfl, Nat.le_of_ble_eq_true rfl⟩ (Nat.le_of_ble_eq_true rfl) dX5_change_5 rfl (fun r9 G9 h9 => ?_)
  rw [h9.1, h9.2]
  refine aw_ifb_ne (q := 11) dX5_change_8 rfl (t := 21) (by decide) (fun h1 => ?_) (fun h2 => ?_)
  · refine aw_iload_n (q := 22) 2 dX5_change_21 rfl rfl rfl ?_
    refine aw_iconst (q := 23) dX5_change_22 rfl ?_
    refine aw_iconst (q := 24) dX5_change_23 rfl ?_
    refine cs_I (q := 27) (As := [.int (iI t), .int (iI 0), .int (iI 3)]) 3 (c_isBetween (T := T) (D := D) (ad := ad) G (by omega) (by omega) (by omega)) (fun _ h => h) wc_X5_isBetween wm_RX5_38 wt_X5_isBetween wn_X5 (by decide) rfl ⟨Nat.le_of_ble_eq_true rfl, Nat.le_of_ble_eq_true rfl⟩ ⟨Nat.le_of_ble_eq_true rfl, Nat.le_of_ble_eq_true rfl⟩ (Nat.le_of_ble_eq_true rfl) dX5_change_24 rfl (fun r9 G9 h9 => ?_)
    rw [h9.1, h9.2]
    refine aw_ifb_ne (q := 30) dX5_change_27 rfl (t := 40) (by decide) (fun h3 => ?_) (fun h4 => ?_)
    · exact (by omega : False).elim
    · exact aw_throwS (text := strT 110) (fun _ h => h) hst (fun _ h => h) th_94_98 (by decide +kernel) dX5_change_30 dX5_change_33 dX5_change_34 dX5_change_36 dX5_change_39 (Nat.le_of_ble_eq_true rfl) (Nat.le_of_ble_eq_true rfl) (Nat.le_of_ble_eq_true rfl) (Nat.le_of_ble_eq_true rfl) (Nat.le_of_ble_eq_true rfl) (Nat.le_of_ble_eq_true rfl) ⟨_, rfl, ⟨rfl, by first | exact ⟨rfl, by omega⟩ | exact Or.inl ⟨rfl, by omega⟩ | exact Or.inr ⟨rfl, by omega⟩ | exact Or.inr (Or.inl ⟨rfl, by omega⟩) | exact Or.inr (Or.inr ⟨rfl, by omega⟩)⟩⟩
  · exact aw_throwS (text := strT 186) (fun _ h => h) hst (fun _ h => h) th_42_46 (by decide +kernel) dX5_change_11 dX5_change_14 dX5_change_15 dX5_change_17 dX5_change_20 (Nat.le_of_ble_eq_true rfl) (Nat.le_of_ble_eq_true rfl) (Nat.le_of_ble_eq_true rfl) (Nat.le_of_ble_eq_true rfl) (Nat.le_of_ble_eq_true rfl) (Nat.le_of_ble_eq_true rfl) ⟨_, rfl, ⟨rfl, by first | exact ⟨rfl, by omega⟩ | exact Or.inl ⟨rfl, by omega⟩ | exact Or.inr ⟨rfl, by omega⟩ | exact Or.inr (Or.inl ⟨rfl, by omega⟩) | exact Or.inr (Or.inr ⟨rfl, by omega⟩)⟩⟩
set_option maxHeartbeats 4000000 in
set_option maxRecDepth 100000 in
theorem c_coinFor {l : Launch} {D : va_G} {C : Nat → ClassId} {T : Nat → Nat} {ad : Int → Nat} (hst : l.stackTraces = false) (G : GG) {a : Int} (o : okM G) (ha : -2147483648 ≤ a ∧ a ≤ 2147483647) : MX l yX5_coinFor cX5_coinFor 3 (some .int) 6 107 1 6 D (tyC C) T [.ref (ad 102), .int (iI a)] (cw ad C G) (RI ad C (fun r G1 => (0 ≤ a ∧ a ≤ 2000) ∧ r = cfF (G 0 5) (G 0 6) (G 0 7) (G 0 8) a ∧ sameB (scr 0) G G1)) (RX ad C (fun E G1 => G1 = G ∧ ((E = xIA ∧ ¬ (0 ≤ a ∧ a ≤ 2000))))) := by
  refine mx_of (by decide +kernel) (Nat.le_of_ble_eq_true rfl) rfl ?_
  have m13 := o.1.2.1
  have m14 := o.2.1.1
  have m10 := o.2.2.2.1
  have s0 : sameB (scr 0) G G := sameB.rf
  have q5 := o.2.1.2.2 0 (by omega) (by omega)
  have q6 := o.2.1.2.2 1 (by omega) (by omega)
  have q7 := o.2.1.2.2 2 (by omega) (by omega)
  have q8 := o.2.1.2.2 3 (by omega) (by omega)
  refine aw_iload_n (q := 1) 1 dX5_coinFor_0 rfl rfl rfl ?_
  refine aw_iconst (q := 2) dX5_coinFor_1 rfl ?_
  refine aw_sipush (q := 5) dX5_coinFor_2 rfl (by decide) ?_
  refine cs_I (q := 8) (As := [.int (iI a), .int (iI 0), .int (iI 2000)]) 3 (c_isBetween (T := T) (D := D) (ad := ad) G (by omega) (by omega) (by omega)) (fun _ h => h) wc_X5_isBetween wm_RX5_38 wt_X5_isBetween wn_X5 (by decide) rfl ⟨Nat.le_of_ble_eq_true rfl, Nat.le_of_ble_eq_true rfl⟩ ⟨Nat.le_of_ble_eq_true rfl, Nat.le_of_ble_eq_true rfl⟩ (Nat.le_of_ble_eq_true rfl) dX5_coinFor_5 rfl (fun r9 G9 h9 => ?_)
  rw [h9.1, h9.2]
  refine aw_ifb_ne (q := 11) dX5_coinFor_8 rfl (t := 21) (by decide) (fun h1 => ?_) (fun h2 => ?_)
  · refine aw_aload_n (q := 22) 0 dX5_coinFor_21 rfl rfl rfl ?_
    refine g_cp_machine (q := 25) wf_RX5_10 dX5_coinFor_22 rfl ?_
    refine g_mach_till (q := 28) (i := 0) (by omega) wf_RX5_114 dX5_coinFor_25 rfl ?_
    refine aw_iload_n (q := 29) 1 dX5_coinFor_28 rfl rfl rfl ?_
    refine cv_I (q := 32) (CC := "") (id := 3) (As := [.int (iI a)]) 1 (c_till_canPay (T := T) (D := D) (ad := ad) G (i := 0) (by omega) (by omega) (fun k z0 z1 => by rw [s0 _ _ (by omega)]; exact o.2.1.2.2 k z0 z1)) (fun _ h => h) (by omega) (cell_till ad C _ (i := 0) (by omega)) rfl wc_X4_canPay wm_RX5_188 wi_X4_canPay ws_X4_canPay wn_X4 (by decide) rfl ⟨Nat.le_of_ble_eq_true rfl, Nat.le_of_ble_eq_true rfl⟩ ⟨Nat.le_of_ble_eq_true rfl, Nat.le_of_ble_eq_true rfl⟩ (Nat.le_of_ble_eq_true rfl) dX5_coinFor_29 rfl (fun r9 K5 h9 => ?_)
    obtain ⟨hr5, ha5, hb5, hc5, hd5, hs5⟩ := h9
    rw [s0 0 5 (by omega), s0 0 6 (by omega), s0 0 7 (by omega), s0 0 8 (by omega)] at hr5
    rw [s0 0 5 (by omega), s0 0 6 (by omega), s0 0 7 (by omega), s0 0 8 (by omega)] at ha5
    rw [s0 0 5 (by omega), s0 0 6 (by omega), s0 0 7 (by omega), s0 0 8 (by omega)] at hb5
    rw [s0 0 5 (by omega), s0 0 6 (by omega), s0 0 7 (by omega), s0 0 8 (by omega)] at hc5
    rw [s0 0 5 (by omega), s0 0 6 (by omega), s0 0 7 (by omega), s0 0 8 (by omega)] at hd5
    have sK5 : sameB (scr 0) G K5 := s0.tr hs5
    subst hr5
    refine aw_ifb_eq (q := 35) dX5_coinFor_32 rfl (t := 37) (by decide) (fun h3 => ?_) (fun h4 => ?_)
    · refine aw_iconst (q := 38) dX5_coinFor_37 rfl ?_
      refine aw_istore_n (q := 39) (lv2 := [(0, .ref (ad 102)), (1, .int (iI a)), (2, .int (iI 0))]) [1, 2, 0] dX5_coinFor_38 rfl rfl (by decide) rfl rfl ?_
      refine aw_iload_n (q := 40) 2 dX5_coinFor_39 rfl rfl rfl ?_
      refine aw_iconst (q := 41) dX5_coinFor_40 rfl ?_
      refine aw_icmp_ge (q := 44) dX5_coinFor_41 rfl (t := 67) (by decide) (by omega) (by omega) (fun h => absurd h (by omega)) (fun _ => ?_)
      refine aw_aload_n (q := 45) 0 dX5_coinFor_44 rfl rfl rfl ?_
      refine g_cp_machine (q := 48) wf_RX5_10 dX5_coinFor_45 rfl ?_
      refine g_mach_till (q := 51) (i := 0) (by omega) wf_RX5_114 dX5_coinFor_48 rfl ?_
      refine aw_iload_n (q := 52) 1 dX5_coinFor_51 rfl rfl rfl ?_
      refine aw_iload_n (q := 53) 2 dX5_coinFor_52 rfl rfl rfl ?_
      refine cv_I (q := 56) (CC := "") (id := 3) (As := [.int (iI a), .int (iI 0)]) 2 (c_till_withCoin0 (T := T) (D := D) (ad := ad) K5 (i := 0) (by omega) (by omega) (fun k z0 z1 => by rw [sK5 _ _ (by omega)]; exact o.2.1.2.2 k z0 z1)) (fun _ h => h) (by omega) (cell_till ad C _ (i := 0) (by omega)) rfl wc_X4_canPayWithCoin wm_RX5_202 wi_X4_canPayWithCoin ws_X4_canPayWithCoin wn_X4 (by decide) rfl ⟨Nat.le_of_ble_eq_true rfl, Nat.le_of_ble_eq_true rfl⟩ ⟨Nat.le_of_ble_eq_true rfl, Nat.le_of_ble_eq_true rfl⟩ (Nat.le_of_ble_eq_true rfl) dX5_coinFor_53 rfl (fun r9 K6 h9 => ?_)
      obtain ⟨hr6, ha6, hb6, hc6, hd6, hs6⟩ := h9
      rw [sK5 0 5 (by omega), sK5 0 6 (by omega), sK5 0 7 (by omega), sK5 0 8 (by omega)] at hr6
      rw [sK5 0 5 (by omega), sK5 0 6 (by omega), sK5 0 7 (by omega), sK5 0 8 (by omega)] at ha6
      rw [sK5 0 5 (by omega), sK5 0 6 (by omega), sK5 0 7 (by omega), sK5 0 8 (by omega)] at hb6
      rw [sK5 0 5 (by omega), sK5 0 6 (by omega), sK5 0 7 (by omega), sK5 0 8 (by omega)] at hc6
      rw [sK5 0 5 (by omega), sK5 0 6 (by omega), sK5 0 7 (by omega), sK5 0 8 (by omega)] at hd6
      have sK6 : sameB (scr 0) G K6 := sK5.tr hs6
      subst hr6
      refine aw_ifb_eq (q := 59) dX5_coinFor_56 rfl (t := 61) (by decide) (fun h5 => ?_) (fun h6 => ?_)
      · refine ae_iinc (q := 64) (lv2 := [(0, .ref (ad 102)), (1, .int (iI a)), (2, .int (iI 1))]) 2 [1, 2, 0] 1 (by omega) dX5_coinFor_61 rfl rfl (by decide) rfl ?_
        refine aw_goto (q := 39) dX5_coinFor_64 (by decide) ?_
        refine aw_iload_n (q := 40) 2 dX5_coinFor_39 rfl rfl rfl ?_
        refine aw_iconst (q := 41) dX5_coinFor_40 rfl ?_
        refine aw_icmp_ge (q := 44) dX5_coinFor_41 rfl (t := 67) (by decide) (by omega) (by omega) (fun h => absurd h (by omega)) (fun _ => ?_)
        refine aw_aload_n (q := 45) 0 dX5_coinFor_44 rfl rfl rfl ?_
        refine g_cp_machine (q := 48) wf_RX5_10 dX5_coinFor_45 rfl ?_
        refine g_mach_till (q := 51) (i := 0) (by omega) wf_RX5_114 dX5_coinFor_48 rfl ?_
        refine aw_iload_n (q := 52) 1 dX5_coinFor_51 rfl rfl rfl ?_
        refine aw_iload_n (q := 53) 2 dX5_coinFor_52 rfl rfl rfl ?_
        refine cv_I (q := 56) (CC := "") (id := 3) (As := [.int (iI a), .int (iI 1)]) 2 (c_till_withCoin1 (T := T) (D := D) (ad := ad) K6 (i := 0) (by omega) (by omega) (fun k z0 z1 => by rw [sK6 _ _ (by omega)]; exact o.2.1.2.2 k z0 z1)) (fun _ h => h) (by omega) (cell_till ad C _ (i := 0) (by omega)) rfl wc_X4_canPayWithCoin wm_RX5_202 wi_X4_canPayWithCoin ws_X4_canPayWithCoin wn_X4 (by decide) rfl ⟨Nat.le_of_ble_eq_true rfl, Nat.le_of_ble_eq_true rfl⟩ ⟨Nat.le_of_ble_eq_true rfl, Nat.le_of_ble_eq_true rfl⟩ (Nat.le_of_ble_eq_true rfl) dX5_coinFor_53 rfl (fun r9 K7 h9 => ?_)
        obtain ⟨hr7, ha7, hb7, hc7, hd7, hs7⟩ := h9
        rw [sK6 0 5 (by omega), sK6 0 6 (by omega), sK6 0 7 (by omega), sK6 0 8 (by omega)] at hr7
        rw [sK6 0 5 (by omega), sK6 0 6 (by omega), sK6 0 7 (by omega), sK6 0 8 (by omega)] at ha7
        rw [sK6 0 5 (by omega), sK6 0 6 (by omega), sK6 0 7 (by omega), sK6 0 8 (by omega)] at hb7
        rw [sK6 0 5 (by omega), sK6 0 6 (by omega), sK6 0 7 (by omega), sK6 0 8 (by omega)] at hc7
        rw [sK6 0 5 (by omega), sK6 0 6 (by omega), sK6 0 7 (by omega), sK6 0 8 (by omega)] at hd7
        have sK7 : sameB (scr 0) G K7 := sK6.tr hs7
        subst hr7
        refine aw_ifb_eq (q := 59) dX5_coinFor_56 rfl (t := 61) (by decide) (fun h7 => ?_) (fun h8 => ?_)
        · refine ae_iinc (q := 64) (lv2 := [(0, .ref (ad 102)), (1, .int (iI a)), (2, .int (iI 2))]) 2 [1, 2, 0] 2 (by omega) dX5_coinFor_61 rfl rfl (by decide) rfl ?_
          refine aw_goto (q := 39) dX5_coinFor_64 (by decide) ?_
          refine aw_iload_n (q := 40) 2 dX5_coinFor_39 rfl rfl rfl ?_
          refine aw_iconst (q := 41) dX5_coinFor_40 rfl ?_
          refine aw_icmp_ge (q := 44) dX5_coinFor_41 rfl (t := 67) (by decide) (by omega) (by omega) (fun h => absurd h (by omega)) (fun _ => ?_)
          refine aw_aload_n (q := 45) 0 dX5_coinFor_44 rfl rfl rfl ?_
          refine g_cp_machine (q := 48) wf_RX5_10 dX5_coinFor_45 rfl ?_
          refine g_mach_till (q := 51) (i := 0) (by omega) wf_RX5_114 dX5_coinFor_48 rfl ?_
          refine aw_iload_n (q := 52) 1 dX5_coinFor_51 rfl rfl rfl ?_
          refine aw_iload_n (q := 53) 2 dX5_coinFor_52 rfl rfl rfl ?_
          refine cv_I (q := 56) (CC := "") (id := 3) (As := [.int (iI a), .int (iI 2)]) 2 (c_till_withCoin2 (T := T) (D := D) (ad := ad) K7 (i := 0) (by omega) (by omega) (fun k z0 z1 => by rw [sK7 _ _ (by omega)]; exact o.2.1.2.2 k z0 z1)) (fun _ h => h) (by omega) (cell_till ad C _ (i := 0) (by omega)) rfl wc_X4_canPayWithCoin wm_RX5_202 wi_X4_canPayWithCoin ws_X4_canPayWithCoin wn_X4 (by decide) rfl ⟨Nat.le_of_ble_eq_true rfl, Nat.le_of_ble_eq_true rfl⟩ ⟨Nat.le_of_ble_eq_true rfl, Nat.le_of_ble_eq_true rfl⟩ (Nat.le_of_ble_eq_true rfl) dX5_coinFor_53 rfl (fun r9 K8 h9 => ?_)
          obtain ⟨hr8, ha8, hb8, hc8, hd8, hs8⟩ := h9
          rw [sK7 0 5 (by omega), sK7 0 6 (by omega), sK7 0 7 (by omega), sK7 0 8 (by omega)] at hr8
          rw [sK7 0 5 (by omega), sK7 0 6 (by omega), sK7 0 7 (by omega), sK7 0 8 (by omega)] at ha8
          rw [sK7 0 5 (by omega), sK7 0 6 (by omega), sK7 0 7 (by omega), sK7 0 8 (by omega)] at hb8
          rw [sK7 0 5 (by omega), sK7 0 6 (by omega), sK7 0 7 (by omega), sK7 0 8 (by omega)] at hc8
          rw [sK7 0 5 (by omega), sK7 0 6 (by omega), sK7 0 7 (by omega), sK7 0 8 (by omega)] at hd8
          have sK8 : sameB (scr 0) G K8 := sK7.tr hs8
          subst hr8
          refine aw_ifb_eq (q := 59) dX5_coinFor_56 rfl (t := 61) (by decide) (fun h9 => ?_) (fun h10 => ?_)
          · refine ae_iinc (q := 64) (lv2 := [(0, .ref (ad 102)), (1, .int (iI a)), (2, .int (iI 3))]) 2 [1, 2, 0] 3 (by omega) dX5_coinFor_61 rfl rfl (by decide) rfl ?_
            refine aw_goto (q := 39) dX5_coinFor_64 (by decide) ?_
            refine aw_iload_n (q := 40) 2 dX5_coinFor_39 rfl rfl rfl ?_
            refine aw_iconst (q := 41) dX5_coinFor_40 rfl ?_
            refine aw_icmp_ge (q := 44) dX5_coinFor_41 rfl (t := 67) (by decide) (by omega) (by omega) (fun h => absurd h (by omega)) (fun _ => ?_)
            refine aw_aload_n (q := 45) 0 dX5_coinFor_44 rfl rfl rfl ?_
            refine g_cp_machine (q := 48) wf_RX5_10 dX5_coinFor_45 rfl ?_
            refine g_mach_till (q := 51) (i := 0) (by omega) wf_RX5_114 dX5_coinFor_48 rfl ?_
            refine aw_iload_n (q := 52) 1 dX5_coinFor_51 rfl rfl rfl ?_
            refine aw_iload_n (q := 53) 2 dX5_coinFor_52 rfl rfl rfl ?_
            refine cv_I (q := 56) (CC := "") (id := 3) (As := [.int (iI a), .int (iI 3)]) 2 (c_till_withCoin3 (T := T) (D := D) (ad := ad) K8 (i := 0) (by omega) (by omega) (fun k z0 z1 => by rw [sK8 _ _ (by omega)]; exact o.2.1.2.2 k z0 z1)) (fun _ h => h) (by omega) (cell_till ad C _ (i := 0) (by omega)) rfl wc_X4_canPayWithCoin wm_RX5_202 wi_X4_canPayWithCoin ws_X4_canPayWithCoin wn_X4 (by decide) rfl ⟨Nat.le_of_ble_eq_true rfl, Nat.le_of_ble_eq_true rfl⟩ ⟨Nat.le_of_ble_eq_true rfl, Nat.le_of_ble_eq_true rfl⟩ (Nat.le_of_ble_eq_true rfl) dX5_coinFor_53 rfl (fun r9 K9 h9 => ?_)
            obtain ⟨hr9, ha9, hb9, hc9, hd9, hs9⟩ := h9
            rw [sK8 0 5 (by omega), sK8 0 6 (by omega), sK8 0 7 (by omega), sK8 0 8 (by omega)] at hr9
            rw [sK8 0 5 (by omega), sK8 0 6 (by omega), sK8 0 7 (by omega), sK8 0 8 (by omega)] at ha9
            rw [sK8 0 5 (by omega), sK8 0 6 (by omega), sK8 0 7 (by omega), sK8 0 8 (by omega)] at hb9
            rw [sK8 0 5 (by omega), sK8 0 6 (by omega), sK8 0 7 (by omega), sK8 0 8 (by omega)] at hc9
            rw [sK8 0 5 (by omega), sK8 0 6 (by omega), sK8 0 7 (by omega), sK8 0 8 (by omega)] at hd9
            have sK9 : sameB (scr 0) G K9 := sK8.tr hs9
            subst hr9
            refine aw_ifb_eq (q := 59) dX5_coinFor_56 rfl (t := 61) (by decide) (fun h11 => ?_) (fun h12 => ?_)
            · refine ae_iinc (q := 64) (lv2 := [(0, .ref (ad 102)), (1, .int (iI a)), (2, .int (iI 4))]) 2 [1, 2, 0] 4 (by omega) dX5_coinFor_61 rfl rfl (by decide) rfl ?_
              refine aw_goto (q := 39) dX5_coinFor_64 (by decide) ?_
              refine aw_iload_n (q := 40) 2 dX5_coinFor_39 rfl rfl rfl ?_
              refine aw_iconst (q := 41) dX5_coinFor_40 rfl ?_
              refine aw_icmp_ge (q := 44) dX5_coinFor_41 rfl (t := 67) (by decide) (by omega) (by omega) (fun _ => ?_) (fun h => absurd h (by omega))
              refine aw_iconst (q := 68) dX5_coinFor_67 rfl ?_
              exact ax_of (rt_i rfl (Nat.zero_le _) (Nat.zero_le _) (⟨⟨by omega, by omega⟩, by unfold cfF; repeat (first | exact (if_pos (by assumption)).symm | exact (if_neg (by assumption)).symm | rw [if_neg (by assumption)]), sK9⟩) dX5_coinFor_68)
            · refine aw_iload_n (q := 60) 2 dX5_coinFor_59 rfl rfl rfl ?_
              exact ax_of (rt_i rfl (Nat.zero_le _) (Nat.zero_le _) (⟨⟨by omega, by omega⟩, by unfold cfF; repeat (first | exact (if_pos (by assumption)).symm | exact (if_neg (by assumption)).symm | rw [if_neg (by assumption)]), sK9⟩) dX5_coinFor_60)
          · refine aw_iload_n (q := 60) 2 dX5_coinFor_59 rfl rfl rfl ?_
            exact ax_of (rt_i rfl (Nat.zero_le _) (Nat.zero_le _) (⟨⟨by omega, by omega⟩, by unfold cfF; repeat (first | exact (if_pos (by assumption)).symm | exact (if_neg (by assumption)).symm | rw [if_neg (by assumption)]), sK8⟩) dX5_coinFor_60)
        · refine aw_iload_n (q := 60) 2 dX5_coinFor_59 rfl rfl rfl ?_
          exact ax_of (rt_i rfl (Nat.zero_le _) (Nat.zero_le _) (⟨⟨by omega, by omega⟩, by unfold cfF; repeat (first | exact (if_pos (by assumption)).symm | exact (if_neg (by assumption)).symm | rw [if_neg (by assumption)]), sK7⟩) dX5_coinFor_60)
      · refine aw_iload_n (q := 60) 2 dX5_coinFor_59 rfl rfl rfl ?_
        exact ax_of (rt_i rfl (Nat.zero_le _) (Nat.zero_le _) (⟨⟨by omega, by omega⟩, by unfold cfF; repeat (first | exact (if_pos (by assumption)).symm | exact (if_neg (by assumption)).symm | rw [if_neg (by assumption)]), sK6⟩) dX5_coinFor_60)
    · refine aw_iconst (q := 36) dX5_coinFor_35 rfl ?_
      exact ax_of (rt_i rfl (Nat.zero_le _) (Nat.zero_le _) (⟨⟨by omega, by omega⟩, by unfold cfF; repeat (first | exact (if_pos (by assumption)).symm | exact (if_neg (by assumption)).symm | rw [if_neg (by assumption)]), sK5⟩) dX5_coinFor_36)
  · exact aw_throwS (text := strT 186) (fun _ h => h) hst (fun _ h => h) th_42_46 (by decide +kernel) dX5_coinFor_11 dX5_coinFor_14 dX5_coinFor_15 dX5_coinFor_17 dX5_coinFor_20 (Nat.le_of_ble_eq_true rfl) (Nat.le_of_ble_eq_true rfl) (Nat.le_of_ble_eq_true rfl) (Nat.le_of_ble_eq_true rfl) (Nat.le_of_ble_eq_true rfl) (Nat.le_of_ble_eq_true rfl) ⟨_, rfl, ⟨rfl, by first | exact ⟨rfl, by omega⟩ | exact Or.inl ⟨rfl, by omega⟩ | exact Or.inr ⟨rfl, by omega⟩ | exact Or.inr (Or.inl ⟨rfl, by omega⟩) | exact Or.inr (Or.inr ⟨rfl, by omega⟩)⟩⟩
set_option maxHeartbeats 4000000 in
set_option maxRecDepth 100000 in
theorem L_most {l : Launch} {D : va_G} {C : Nat → ClassId} {T : Nat → Nat} {ad : Int → Nat} (G : GG) {b : Int} (o : okM G) (hb : 0 ≤ b ∧ b ≤ 2000) : ∀ (n : Nat) (c : Int) (K : GG), 0 ≤ c → c ≤ 2000 → c % 5 = 0 → c < n → sameB (scr 0) G K → mpF (G 0 5) (G 0 6) (G 0 7) (G 0 8) (c / 5).toNat = mpF (G 0 5) (G 0 6) (G 0 7) (G 0 8) (b / 5).toNat → AW l RX5 "mostPayable" cX5_mostPayable 3 (some .int) xT { frames := 6, cells := 1, slots := 6, locals := 106 } (hvXE D (RI ad C (fun r G1 => (0 ≤ b ∧ b ≤ 2000) ∧ r = mpF (G 0 5) (G 0 6) (G 0 7) (G 0 8) (b / 5).toNat ∧ sameB (scr 0) G G1)) (RX ad C (fun E G1 => G1 = G ∧ ((E = xIA ∧ ¬ (0 ≤ b ∧ b ≤ 2000))))) (cw ad C G) 1 6) D (tyC C) (hvZ T (cw ad C G)) (cw ad C G) 27 [(0, .ref (ad 102)), (1, .int (iI b)), (2, .int (iI c))] [] (cw ad C K) 0 0 := by
  intro n
  induction n with
  | zero => intro c K hc hd h5 hn sK hE; exact absurd hn (by omega)
  | succ n ih =>
    intro c K hc hd h5 hn sK hE
    refine aw_iload_n (q := 28) 2 dX5_mostPayable_27 rfl rfl rfl ?_
    refine aw_if_le (q := 31) dX5_mostPayable_28 rfl (t := 51) (by decide) (by omega) (fun h1 => ?_) (fun h2 => ?_)
    · refine aw_iload_n (q := 52) 2 dX5_mostPayable_51 rfl rfl rfl ?_
      exact ax_of (rt_i rfl (Nat.zero_le _) (Nat.zero_le _) (⟨⟨by omega, by omega⟩, by rw [show (c / 5).toNat = 0 by omega] at hE; rw [← hE]; show c = 0; omega, sK⟩) dX5_mostPayable_52)
    · refine aw_aload_n (q := 32) 0 dX5_mostPayable_31 rfl rfl rfl ?_
      refine g_cp_machine (q := 35) wf_RX5_10 dX5_mostPayable_32 rfl ?_
      refine g_mach_till (q := 38) (i := 0) (by omega) wf_RX5_114 dX5_mostPayable_35 rfl ?_
      refine aw_iload_n (q := 39) 2 dX5_mostPayable_38 rfl rfl rfl ?_
      refine cv_I (q := 42) (CC := "") (id := 3) (As := [.int (iI c)]) 1 (c_till_canPay (T := T) (D := D) (ad := ad) K (i := 0) (by omega) (by omega) (fun k z0 z1 => by rw [sK _ _ (by omega)]; exact o.2.1.2.2 k z0 z1)) (fun _ h => h) (by omega) (cell_till ad C _ (i := 0) (by omega)) rfl wc_X4_canPay wm_RX5_188 wi_X4_canPay ws_X4_canPay wn_X4 (by decide) rfl ⟨Nat.le_of_ble_eq_true rfl, Nat.le_of_ble_eq_true rfl⟩ ⟨Nat.le_of_ble_eq_true rfl, Nat.le_of_ble_eq_true rfl⟩ (Nat.le_of_ble_eq_true rfl) dX5_mostPayable_39 rfl (fun r9 K10 h9 => ?_)
      obtain ⟨hr10, ha10, hb10, hc10, hd10, hs10⟩ := h9
      rw [sK 0 5 (by omega), sK 0 6 (by omega), sK 0 7 (by omega), sK 0 8 (by omega)] at hr10
      rw [sK 0 5 (by omega), sK 0 6 (by omega), sK 0 7 (by omega), sK 0 8 (by omega)] at ha10
      rw [sK 0 5 (by omega), sK 0 6 (by omega), sK 0 7 (by omega), sK 0 8 (by omega)] at hb10
      rw [sK 0 5 (by omega), sK 0 6 (by omega), sK 0 7 (by omega), sK 0 8 (by omega)] at hc10
      rw [sK 0 5 (by omega), sK 0 6 (by omega), sK 0 7 (by omega), sK 0 8 (by omega)] at hd10
      have sK10 : sameB (scr 0) G K10 := sK.tr hs10
      subst hr10
      refine aw_ifb_ne (q := 45) dX5_mostPayable_42 rfl (t := 51) (by decide) (fun h3 => ?_) (fun h4 => ?_)
      · refine aw_iload_n (q := 52) 2 dX5_mostPayable_51 rfl rfl rfl ?_
        exact ax_of (rt_i rfl (Nat.zero_le _) (Nat.zero_le _) (⟨⟨by omega, by omega⟩, by rw [mpF_1 (by omega) (by assumption)] at hE; exact hE, sK10⟩) dX5_mostPayable_52)
      · refine ae_iinc (q := 48) (lv2 := [(0, .ref (ad 102)), (1, .int (iI b)), (2, .int (iI (c - 5)))]) 2 [1, 2, 0] (c - 5) (by omega) dX5_mostPayable_45 rfl rfl (by decide) rfl ?_
        refine aw_goto (q := 27) dX5_mostPayable_48 (by decide) ?_
        exact ih (c - 5) K10 (by omega) (by omega) (by omega) (by omega) sK10 (by rw [mpF_0 (by omega) (by assumption)] at hE; exact hE)
set_option maxHeartbeats 4000000 in
set_option maxRecDepth 100000 in
theorem c_mostPayable {l : Launch} {D : va_G} {C : Nat → ClassId} {T : Nat → Nat} {ad : Int → Nat} (hst : l.stackTraces = false) (G : GG) {b : Int} (o : okM G) (hb : -2147483648 ≤ b ∧ b ≤ 2147483647) : MX l yX5_mostPayable cX5_mostPayable 3 (some .int) 6 106 1 6 D (tyC C) T [.ref (ad 102), .int (iI b)] (cw ad C G) (RI ad C (fun r G1 => (0 ≤ b ∧ b ≤ 2000) ∧ r = mpF (G 0 5) (G 0 6) (G 0 7) (G 0 8) (b / 5).toNat ∧ sameB (scr 0) G G1)) (RX ad C (fun E G1 => G1 = G ∧ ((E = xIA ∧ ¬ (0 ≤ b ∧ b ≤ 2000))))) := by
  refine mx_of (by decide +kernel) (Nat.le_of_ble_eq_true rfl) rfl ?_
  have m13 := o.1.2.1
  have m14 := o.2.1.1
  have m10 := o.2.2.2.1
  have s0 : sameB (scr 0) G G := sameB.rf
  have q5 := o.2.1.2.2 0 (by omega) (by omega)
  have q6 := o.2.1.2.2 1 (by omega) (by omega)
  have q7 := o.2.1.2.2 2 (by omega) (by omega)
  have q8 := o.2.1.2.2 3 (by omega) (by omega)
  refine aw_iload_n (q := 1) 1 dX5_mostPayable_0 rfl rfl rfl ?_
  refine aw_iconst (q := 2) dX5_mostPayable_1 rfl ?_
  refine aw_sipush (q := 5) dX5_mostPayable_2 rfl (by decide) ?_
  refine cs_I (q := 8) (As := [.int (iI b), .int (iI 0), .int (iI 2000)]) 3 (c_isBetween (T := T) (D := D) (ad := ad) G (by omega) (by omega) (by omega)) (fun _ h => h) wc_X5_isBetween wm_RX5_38 wt_X5_isBetween wn_X5 (by decide) rfl ⟨Nat.le_of_ble_eq_true rfl, Nat.le_of_ble_eq_true rfl⟩ ⟨Nat.le_of_ble_eq_true rfl, Nat.le_of_ble_eq_true rfl⟩ (Nat.le_of_ble_eq_true rfl) dX5_mostPayable_5 rfl (fun r9 G9 h9 => ?_)
  rw [h9.1, h9.2]
  refine aw_ifb_ne (q := 11) dX5_mostPayable_8 rfl (t := 21) (by decide) (fun h1 => ?_) (fun h2 => ?_)
  · refine aw_iload_n (q := 22) 1 dX5_mostPayable_21 rfl rfl rfl ?_
    refine aw_iload_n (q := 23) 1 dX5_mostPayable_22 rfl rfl rfl ?_
    refine aw_iconst (q := 24) dX5_mostPayable_23 rfl ?_
    obtain ⟨d1, hd1⟩ : ∃ z, (b % 5) = z := ⟨_, rfl⟩
    refine aw_rem5 (q := 25) (z := d1) (by omega) (by omega) hd1 dX5_mostPayable_24 rfl ?_
    refine ae_isub (q := 26) (b - d1) (by omega) dX5_mostPayable_25 rfl ?_
    refine aw_istore_n (q := 27) (lv2 := [(0, .ref (ad 102)), (1, .int (iI b)), (2, .int (iI (b - d1)))]) [1, 2, 0] dX5_mostPayable_26 rfl rfl (by decide) rfl rfl ?_
    exact L_most G o (by omega) 3000 _ G (by omega) (by omega) (by omega) (by omega) s0 (congrArg (fun z : Int => mpF (G 0 5) (G 0 6) (G 0 7) (G 0 8) z.toNat) (by omega))
  · exact aw_throwS (text := strT 200) (fun _ h => h) hst (fun _ h => h) th_42_46 (by decide +kernel) dX5_mostPayable_11 dX5_mostPayable_14 dX5_mostPayable_15 dX5_mostPayable_17 dX5_mostPayable_20 (Nat.le_of_ble_eq_true rfl) (Nat.le_of_ble_eq_true rfl) (Nat.le_of_ble_eq_true rfl) (Nat.le_of_ble_eq_true rfl) (Nat.le_of_ble_eq_true rfl) (Nat.le_of_ble_eq_true rfl) ⟨_, rfl, ⟨rfl, by first | exact ⟨rfl, by omega⟩ | exact Or.inl ⟨rfl, by omega⟩ | exact Or.inr ⟨rfl, by omega⟩ | exact Or.inr (Or.inl ⟨rfl, by omega⟩) | exact Or.inr (Or.inr ⟨rfl, by omega⟩)⟩⟩
set_option maxHeartbeats 4000000 in
set_option maxRecDepth 100000 in
theorem c_priceIn {l : Launch} {D : va_G} {C : Nat → ClassId} {T : Nat → Nat} {ad : Int → Nat} (hst : l.stackTraces = false) (G : GG) {c h : Int} (o : okM G) (hc : -2147483648 ≤ c ∧ c ≤ 2147483647) (hh : -2147483648 ≤ h ∧ h ≤ 2147483647) : MX l yX5_priceIn cX5_priceIn 3 (some .int) 6 123 1 6 D (tyC C) T [.ref (ad 102), .int (iI c), .int (iI h)] (cw ad C G) (RI ad C (fun r G1 => ((0 ≤ c ∧ c < G 0 13) ∧ (0 ≤ h ∧ h ≤ 48)) ∧ ∃ K, overP G 1 0 K ∧ r = hoursR (K 1) h.toNat (15 + 12 * c + 2) ∧ G1 = onR K 1 (hoursR (K 1) h.toNat))) (RX ad C (fun E G1 => G1 = G ∧ ((E = xIB ∧ ¬ (0 ≤ c ∧ c < G 0 13)) ∨ (E = xIA ∧ (0 ≤ c ∧ c < G 0 13) ∧ ¬ (0 ≤ h ∧ h ≤ 48))))) := by
  refine mx_of (by decide +kernel) (Nat.le_of_ble_eq_true rfl) rfl ?_
  have m13 := o.1.2.1
  have m14 := o.2.1.1
  have m10 := o.2.2.2.1
  have s0 : sameB (scr 0) G G := sameB.rf
  have q5 := o.2.1.2.2 0 (by omega) (by omega)
  have q6 := o.2.1.2.2 1 (by omega) (by omega)
  have q7 := o.2.1.2.2 2 (by omega) (by omega)
  have q8 := o.2.1.2.2 3 (by omega) (by omega)
  refine aw_aload_n (q := 1) 0 dX5_priceIn_0 rfl rfl rfl ?_
  refine g_cp_machine (q := 4) wf_RX5_10 dX5_priceIn_1 rfl ?_
  refine aw_iload_n (q := 5) 1 dX5_priceIn_4 rfl rfl rfl ?_
  refine cv_I (q := 8) (CC := "") (id := 0) (As := [.int (iI c)]) 1 (c_m_hasCoil (T := T) (D := D) (ad := ad) G (i := 0) (by omega) (by omega) o.1.2.1) (fun _ h => h) (by omega) (cell_mach ad C _ (i := 0) (by omega)) rfl wc_X1_hasCoil wm_RX5_90 wi_X1_hasCoil ws_X1_hasCoil wn_X1 (by decide) rfl ⟨Nat.le_of_ble_eq_true rfl, Nat.le_of_ble_eq_true rfl⟩ ⟨Nat.le_of_ble_eq_true rfl, Nat.le_of_ble_eq_true rfl⟩ (Nat.le_of_ble_eq_true rfl) dX5_priceIn_5 rfl (fun r9 G9 h9 => ?_)
  rw [h9.1, h9.2]
  refine aw_ifb_ne (q := 11) dX5_priceIn_8 rfl (t := 21) (by decide) (fun h1 => ?_) (fun h2 => ?_)
  · refine aw_iload_n (q := 22) 2 dX5_priceIn_21 rfl rfl rfl ?_
    refine aw_iconst (q := 23) dX5_priceIn_22 rfl ?_
    refine aw_bipush (q := 25) dX5_priceIn_23 rfl (by decide) ?_
    refine cs_I (q := 28) (As := [.int (iI h), .int (iI 0), .int (iI 48)]) 3 (c_isBetween (T := T) (D := D) (ad := ad) G (by omega) (by omega) (by omega)) (fun _ h => h) wc_X5_isBetween wm_RX5_38 wt_X5_isBetween wn_X5 (by decide) rfl ⟨Nat.le_of_ble_eq_true rfl, Nat.le_of_ble_eq_true rfl⟩ ⟨Nat.le_of_ble_eq_true rfl, Nat.le_of_ble_eq_true rfl⟩ (Nat.le_of_ble_eq_true rfl) dX5_priceIn_25 rfl (fun r9 G9 h9 => ?_)
    rw [h9.1, h9.2]
    refine aw_ifb_ne (q := 31) dX5_priceIn_28 rfl (t := 41) (by decide) (fun h3 => ?_) (fun h4 => ?_)
    · refine aw_aload_n (q := 42) 0 dX5_priceIn_41 rfl rfl rfl ?_
      refine g_cp_trial (q := 45) wf_RX5_16 dX5_priceIn_42 rfl ?_
      refine aw_aload_n (q := 46) 0 dX5_priceIn_45 rfl rfl rfl ?_
      refine g_cp_machine (q := 49) wf_RX5_10 dX5_priceIn_46 rfl ?_
      refine cv_V (q := 52) (CC := "") (id := 17) (As := [.ref (ad 0)]) 1 (c_m_takeOver (T := T) (D := D) (ad := ad) G (i := 1) (j := 0) (by omega) (by omega) (by omega) m13 (okC_z o)) (fun _ h => h) (by omega) (cell_mach ad C _ (i := 1) (by omega)) rfl wc_X1_takeOver wm_RX5_205 wi_X1_takeOver ws_X1_takeOver wn_X1 (by decide) rfl ⟨Nat.le_of_ble_eq_true rfl, Nat.le_of_ble_eq_true rfl⟩ ⟨Nat.le_of_ble_eq_true rfl, Nat.le_of_ble_eq_true rfl⟩ (Nat.le_of_ble_eq_true rfl) dX5_priceIn_49 rfl (fun K k9 => ?_)
      have kO : okH (K 1) := okH_over k9 o.1
      refine aw_aload_n (q := 53) 0 dX5_priceIn_52 rfl rfl rfl ?_
      refine g_cp_trial (q := 56) wf_RX5_16 dX5_priceIn_53 rfl ?_
      refine aw_iload_n (q := 57) 2 dX5_priceIn_56 rfl rfl rfl ?_
      refine cv_I (q := 60) (CC := "") (id := 17) (As := [.int (iI h)]) 1 (c_m_passHours (T := T) (D := D) (ad := ad) K (i := 1) (by omega) kO (by omega)) (fun _ h => h) (by omega) (cell_mach ad C _ (i := 1) (by omega)) rfl wc_X1_passHours wm_RX5_147 wi_X1_passHours ws_X1_passHours wn_X1 (by decide) rfl ⟨Nat.le_of_ble_eq_true rfl, Nat.le_of_ble_eq_true rfl⟩ ⟨Nat.le_of_ble_eq_true rfl, Nat.le_of_ble_eq_true rfl⟩ (Nat.le_of_ble_eq_true rfl) dX5_priceIn_57 rfl (fun r9 G9 h9 => ?_)
      refine aw_pop (q := 61) dX5_priceIn_60 rfl rfl ?_
      refine aw_aload_n (q := 62) 0 dX5_priceIn_61 rfl rfl rfl ?_
      refine g_cp_trial (q := 65) wf_RX5_16 dX5_priceIn_62 rfl ?_
      refine g_mach_coils (q := 68) (i := 1) (by omega) wf_RX5_156 dX5_priceIn_65 rfl ?_
      refine aw_iload_n (q := 69) 1 dX5_priceIn_68 rfl rfl rfl ?_
      refine aw_coil (q := 70) (i := 1) (by omega) (by omega) dX5_priceIn_69 rfl ?_
      refine g_coil_price (q := 73) (i := 1) (c := c) (by omega) (by omega) (v := (G9 1 (15 + 12 * c + 2))) rfl wf_RX5_209 dX5_priceIn_70 rfl ?_
      exact ax_of (rt_i rfl (Nat.zero_le _) (Nat.zero_le _) (⟨⟨by omega, by omega⟩, K, k9, by rw [h9.2]; exact congrFun (onR_at _ _ _) _, h9.2⟩) dX5_priceIn_73)
    · exact aw_throwS (text := strT 140) (fun _ h => h) hst (fun _ h => h) th_42_46 (by decide +kernel) dX5_priceIn_31 dX5_priceIn_34 dX5_priceIn_35 dX5_priceIn_37 dX5_priceIn_40 (Nat.le_of_ble_eq_true rfl) (Nat.le_of_ble_eq_true rfl) (Nat.le_of_ble_eq_true rfl) (Nat.le_of_ble_eq_true rfl) (Nat.le_of_ble_eq_true rfl) (Nat.le_of_ble_eq_true rfl) ⟨_, rfl, ⟨rfl, by first | exact ⟨rfl, by omega⟩ | exact Or.inl ⟨rfl, by omega⟩ | exact Or.inr ⟨rfl, by omega⟩ | exact Or.inr (Or.inl ⟨rfl, by omega⟩) | exact Or.inr (Or.inr ⟨rfl, by omega⟩)⟩⟩
  · exact aw_throwS (text := strT 96) (fun _ h => h) hst (fun _ h => h) th_94_98 (by decide +kernel) dX5_priceIn_11 dX5_priceIn_14 dX5_priceIn_15 dX5_priceIn_17 dX5_priceIn_20 (Nat.le_of_ble_eq_true rfl) (Nat.le_of_ble_eq_true rfl) (Nat.le_of_ble_eq_true rfl) (Nat.le_of_ble_eq_true rfl) (Nat.le_of_ble_eq_true rfl) (Nat.le_of_ble_eq_true rfl) ⟨_, rfl, ⟨rfl, by first | exact ⟨rfl, by omega⟩ | exact Or.inl ⟨rfl, by omega⟩ | exact Or.inr ⟨rfl, by omega⟩ | exact Or.inr (Or.inl ⟨rfl, by omega⟩) | exact Or.inr (Or.inr ⟨rfl, by omega⟩)⟩⟩
set_option maxHeartbeats 4000000 in
set_option maxRecDepth 100000 in
theorem c_undo {l : Launch} {D : va_G} {C : Nat → ClassId} {T : Nat → Nat} {ad : Int → Nat} (hst : l.stackTraces = false) (G : GG) (o : okM G) (hs : 1 ≤ G 6 0 → okH (G (G 6 (G 6 0 + 9)))) : MX l yX5_undo cX5_undo 1 (some .int) 6 95 1 6 D (tyC C) T [.ref (ad 102)] (cw ad C G) (RI ad C (fun r G1 => (1 ≤ G 6 0) ∧ r = G 6 0 - 1 ∧ overP (setG G 6 0 (G 6 0 - 1)) 0 (G 6 (G 6 0 + 9)) G1)) (RX ad C (fun E G1 => G1 = G ∧ ((E = xIS ∧ ¬ (1 ≤ G 6 0))))) := by
  refine mx_of (by decide +kernel) (Nat.le_of_ble_eq_true rfl) rfl ?_
  have m13 := o.1.2.1
  have m14 := o.2.1.1
  have m10 := o.2.2.2.1
  have s0 : sameB (scr 0) G G := sameB.rf
  have q5 := o.2.1.2.2 0 (by omega) (by omega)
  have q6 := o.2.1.2.2 1 (by omega) (by omega)
  have q7 := o.2.1.2.2 2 (by omega) (by omega)
  have q8 := o.2.1.2.2 3 (by omega) (by omega)
  have v0 := o.2.2.2.2.1
  refine aw_aload_n (q := 1) 0 dX5_undo_0 rfl rfl rfl ?_
  refine g_cp_savedCount (q := 4) (v := (G 6 0)) rfl wf_RX5_23 dX5_undo_1 rfl ?_
  refine aw_iconst (q := 5) dX5_undo_4 rfl ?_
  refine aw_icmp_ge (q := 8) dX5_undo_5 rfl (t := 18) (by decide) (by omega) (by omega) (fun h1 => ?_) (fun h2 => ?_)
  · have hj := hs (by omega)
    have hv := okV_at (k := G 6 0 - 1) o.2.2.2.2 (by omega)
    rw [show G 6 0 - 1 + 10 = G 6 0 + 9 by omega] at hv
    refine aw_aload_n (q := 19) 0 dX5_undo_18 rfl rfl rfl ?_
    refine aw_dup (q := 20) dX5_undo_19 rfl rfl ?_
    refine g_cp_savedCount (q := 23) (v := (G 6 0)) rfl wf_RX5_23 dX5_undo_20 rfl ?_
    refine aw_iconst (q := 24) dX5_undo_23 rfl ?_
    refine ae_isub (q := 25) ((G 6 0) - 1) (by omega) dX5_undo_24 rfl ?_
    refine p_cp_savedCount (q := 28) wf_RX5_23 dX5_undo_25 rfl ?_
    refine aw_aload_n (q := 29) 0 dX5_undo_28 rfl rfl rfl ?_
    refine g_cp_machine (q := 32) wf_RX5_10 dX5_undo_29 rfl ?_
    refine aw_aload_n (q := 33) 0 dX5_undo_32 rfl rfl rfl ?_
    refine g_cp_saved (q := 36) wf_RX5_19 dX5_undo_33 rfl ?_
    refine aw_aload_n (q := 37) 0 dX5_undo_36 rfl rfl rfl ?_
    refine g_cp_savedCount (q := 40) (v := (G 6 0) - 1) (setG_same _ _ _ _) wf_RX5_23 dX5_undo_37 rfl ?_
    refine aw_saved (q := 41) (m := (G 6 ((G 6 0) + 9))) (by omega) ((congrArg ((setG G 6 0 ((G 6 0) - 1)) 6) (by omega : (10 : Int) + ((G 6 0) - 1) = ((G 6 0) + 9))).trans (setG_ne (by omega))) dX5_undo_40 rfl ?_
    refine cv_V (q := 44) (CC := "") (id := 0) (As := [.ref (ad (17 * ((G 6 ((G 6 0) + 9)))))]) 1 (c_m_takeOver (T := T) (D := D) (ad := ad) (setG G 6 0 (G 6 0 - 1)) (i := 0) (j := (G 6 ((G 6 0) + 9))) (by omega) (by omega) (by omega) (by rw [setG_ne (by omega)]; exact hj.2.1) (fun d z0 z1 => by rw [setG_ne (by omega)] at z1; rw [setG_ne (by omega)]; exact (hj.2.2 d z0 z1).2.2.2.2.2.2.2.2.1)) (fun _ h => h) (by omega) (cell_mach ad C _ (i := 0) (by omega)) rfl wc_X1_takeOver wm_RX5_205 wi_X1_takeOver ws_X1_takeOver wn_X1 (by decide) rfl ⟨Nat.le_of_ble_eq_true rfl, Nat.le_of_ble_eq_true rfl⟩ ⟨Nat.le_of_ble_eq_true rfl, Nat.le_of_ble_eq_true rfl⟩ (Nat.le_of_ble_eq_true rfl) dX5_undo_41 rfl (fun G9 h9 => ?_)
    refine aw_aload_n (q := 45) 0 dX5_undo_44 rfl rfl rfl ?_
    refine g_cp_savedCount (q := 48) (v := (G 6 0 - 1)) (((h9.2.2.2 6 0 (by omega)).trans (setG_same _ _ _ _))) wf_RX5_23 dX5_undo_45 rfl ?_
    exact ax_of (rt_i rfl (Nat.zero_le _) (Nat.zero_le _) (⟨by omega, rfl, h9⟩) dX5_undo_48)
  · exact aw_throwS (text := strT 238) (fun _ h => h) hst (fun _ h => h) th_81_85 (by decide +kernel) dX5_undo_8 dX5_undo_11 dX5_undo_12 dX5_undo_14 dX5_undo_17 (Nat.le_of_ble_eq_true rfl) (Nat.le_of_ble_eq_true rfl) (Nat.le_of_ble_eq_true rfl) (Nat.le_of_ble_eq_true rfl) (Nat.le_of_ble_eq_true rfl) (Nat.le_of_ble_eq_true rfl) ⟨_, rfl, ⟨rfl, by first | exact ⟨rfl, by omega⟩ | exact Or.inl ⟨rfl, by omega⟩ | exact Or.inr ⟨rfl, by omega⟩ | exact Or.inr (Or.inl ⟨rfl, by omega⟩) | exact Or.inr (Or.inr ⟨rfl, by omega⟩)⟩⟩
