/-! class CoilPrices: buy, salesInARow -/
theorem okH_congr {g g1 : Row} (h : ∀ y : Int, y < 312 → g1 y = g y) (o : okH g) : okH g1 := by
  obtain ⟨os, oc, ok⟩ := o
  have e13 : g1 13 = g 13 := h 13 (by omega)
  refine ⟨?_, by rw [e13]; exact oc, fun d z0 z1 => ?_⟩
  · unfold okS at *
    rw [h 0 (by omega), h 1 (by omega), h 2 (by omega), h 3 (by omega), h 4 (by omega)]
    exact os
  · rw [e13] at z1
    have k := ok d z0 z1
    unfold okC at *
    have e0 := h (15 + 12 * d) (by omega)
    rw [h (15 + 12 * d + 1) (by omega), h (15 + 12 * d + 2) (by omega), h (15 + 12 * d + 3) (by omega), h (15 + 12 * d + 4) (by omega), h (15 + 12 * d + 5) (by omega), h (15 + 12 * d + 9) (by omega), h (15 + 12 * d + 10) (by omega), h (15 + 12 * d + 11) (by omega), e0]
    exact k
theorem okP_congr {G H : GG} {i j : Int} (h : ∀ y : Int, y < 312 → H i y = G j y) (o : okP G j) : okP H i := by
  obtain ⟨o1, o2, o3⟩ := o
  have e14 : H i 14 = G j 14 := h 14 (by omega)
  refine ⟨by rw [e14]; exact o1, fun m z0 z1 => ?_, fun k z0 z1 => by rw [h (5 + k) (by omega)]; exact o3 k z0 z1⟩
  rw [e14] at z1
  rw [h (111 + m) (by omega)]
  exact o2 m z0 z1
theorem okM_congr {G H : GG} (h : ∀ y : Int, y < 312 → H 0 y = G 0 y) (h6 : ∀ y : Int, H 6 y = G 6 y) (o : okM G) : okM H := by
  obtain ⟨o1, o2, o3, o4, o5⟩ := o
  refine ⟨okH_congr h o1, okP_congr h o2, by rw [h 14 (by omega), h 311 (by omega)]; exact o3, by rw [h 10 (by omega)]; exact o4, ?_⟩
  unfold okV at *
  rw [h6, h6, h6, h6, h6]
  exact o5
theorem cinG_ne {G : GG} {a b c d x y : Int} (h : x ≠ 10) : cinG G a b c d x y = G x y := by
  unfold cinG
  rw [setG_ne (by omega), setG_ne (by omega), setG_ne (by omega), setG_ne (by omega)]
theorem cinG_0 (G : GG) (a b c d : Int) : cinG G a b c d 10 0 = a := by
  unfold cinG
  rw [setG_ne (by omega), setG_ne (by omega), setG_ne (by omega), setG_same]
theorem cinG_1 (G : GG) (a b c d : Int) : cinG G a b c d 10 1 = b := by
  unfold cinG
  rw [setG_ne (by omega), setG_ne (by omega), setG_same]
theorem cinG_2 (G : GG) (a b c d : Int) : cinG G a b c d 10 2 = c := by
  unfold cinG
  rw [setG_ne (by omega), setG_same]
theorem cinG_3 (G : GG) (a b c d : Int) : cinG G a b c d 10 3 = d := by
  unfold cinG
  rw [setG_same]
theorem canF_0 {h0 h1 h2 h3 : Int} (b0 : 0 ≤ h0) (b1 : 0 ≤ h1) (b2 : 0 ≤ h2) (b3 : 0 ≤ h3) : canF h0 h1 h2 h3 0 := by
  refine Or.inr ?_
  have e3 : fF h3 0 = 0 := by unfold fF; omega
  rw [e3]
  have e2 : t2F h2 0 0 = 0 := by unfold t2F; omega
  have e1 : t1F h1 h2 0 0 = 0 := by unfold t1F; rw [e2]; omega
  have e0 : t0F h0 h1 h2 0 0 = 0 := by unfold t0F; rw [e2, e1]; omega
  unfold tkF
  rw [if_neg (by omega), e2, e1, e0, if_pos (by omega)]
  omega
/-- what a sale asks, off pages that agree -/
theorem canSell_congr {G H : GG} {i c pg : Int} (hc : 0 ≤ c ∧ c < 8) (h : ∀ y : Int, y < 312 → H i y = G i y) (hp : ∀ y : Int, H pg y = G pg y) : (backF H i c pg = backF G i c pg) ∧ (∀ a, canU H i pg a = canU G i pg a) ∧ (canSellP H i c pg ↔ canSellP G i c pg) := by
  have e1 : backF H i c pg = backF G i c pg := by
    show worthF (H pg) 0 - H i (15 + 12 * c + 2) = worthF (G pg) 0 - G i (15 + 12 * c + 2)
    rw [show H pg = G pg from funext hp, h (15 + 12 * c + 2) (by omega)]
  have e2 : ∀ a, canU H i pg a = canU G i pg a := fun a => by
    show canF (min 30 (H i 5 + H pg 0)) (min 30 (H i 6 + H pg 1)) (min 30 (H i 7 + H pg 2)) (min 30 (H i 8 + H pg 3)) a = canF (min 30 (G i 5 + G pg 0)) (min 30 (G i 6 + G pg 1)) (min 30 (G i 7 + G pg 2)) (min 30 (G i 8 + G pg 3)) a
    rw [hp, hp, hp, hp, h 5 (by omega), h 6 (by omega), h 7 (by omega), h 8 (by omega)]
  refine ⟨e1, e2, ?_⟩
  show (1 ≤ H i (15 + 12 * c + 1) ∧ 0 ≤ backF H i c pg ∧ (canU H i pg (backF H i c pg) ∨ H i 311 + backF H i c pg ≤ H i 3)) ↔ (1 ≤ G i (15 + 12 * c + 1) ∧ 0 ≤ backF G i c pg ∧ (canU G i pg (backF G i c pg) ∨ G i 311 + backF G i c pg ≤ G i 3))
  rw [e1, e2, h (15 + 12 * c + 1) (by omega), h 311 (by omega), h 3 (by omega)]
/-- a promise more has room -/
theorem room_sale {G : GG} {i c pg : Int} (hc : 0 ≤ c ∧ c < 8) (oc : okC (G i) c) (os : okS (G i)) (op : okP G i) (hs : 5 * G i 14 ≤ G i 311 ∧ G i 311 ≤ 1000) (hco : ∀ k : Int, 0 ≤ k → k < 4 → 0 ≤ G pg k ∧ G pg k ≤ 9) (h : canSellP G i c pg) : ¬ canU G i pg (backF G i c pg) → G i 14 < 200 := by
  intro hn
  have hb : backF G i c pg = 5 * G pg 0 + 10 * G pg 1 + 20 * G pg 2 + 50 * G pg 3 - G i (15 + 12 * c + 2) := rfl
  have c0 := hco 0 (by omega) (by omega)
  have c1 := hco 1 (by omega) (by omega)
  have c2 := hco 2 (by omega) (by omega)
  have c3 := hco 3 (by omega) (by omega)
  have t0 : 0 ≤ G i 5 ∧ G i 5 ≤ 30 := op.2.2 0 (by omega) (by omega)
  have t1 : 0 ≤ G i 6 ∧ G i 6 ≤ 30 := op.2.2 1 (by omega) (by omega)
  have t2 : 0 ≤ G i 7 ∧ G i 7 ≤ 30 := op.2.2 2 (by omega) (by omega)
  have t3 : 0 ≤ G i 8 ∧ G i 8 ≤ 30 := op.2.2 3 (by omega) (by omega)
  have m5 := oc.2.2.2.2.2.2.2.2.2.1
  have hl := os.2.2.2.1
  have hz : backF G i c pg ≠ 0 := fun e => hn (by rw [e]; exact canF_0 (by omega) (by omega) (by omega) (by omega))
  rcases h.2.2 with q | q
  · exact absurd q hn
  · have := h.2.1
    omega
set_option maxHeartbeats 4000000 in
set_option maxRecDepth 100000 in
theorem c_buy {l : Launch} {D : va_G} {C : Nat → ClassId} {T : Nat → Nat} {ad : Int → Nat} (hst : l.stackTraces = false) (G : GG) {c a b w d : Int} (o : okM G) (hc : -2147483648 ≤ c ∧ c ≤ 2147483647) (ha : -2147483648 ≤ a ∧ a ≤ 2147483647) (hb : -2147483648 ≤ b ∧ b ≤ 2147483647) (hw : -2147483648 ≤ w ∧ w ≤ 2147483647) (hd : -2147483648 ≤ d ∧ d ≤ 2147483647) : MX l yX5_buy cX5_buy 6 (some .int) 6 151 1 6 D (tyC C) T [.ref (ad 102), .int (iI c), .int (iI a), .int (iI b), .int (iI w), .int (iI d)] (cw ad C G) (RI ad C (fun r G1 => ((0 ≤ c ∧ c < G 0 13) ∧ ((0 ≤ a ∧ a ≤ 9) ∧ (0 ≤ b ∧ b ≤ 9) ∧ (0 ≤ w ∧ w ≤ 9) ∧ (0 ≤ d ∧ d ≤ 9)) ∧ canSellP (cinG G a b w d) 0 c 10) ∧ ∃ K1 H, sameB (scr 0) (cinG G a b w d) K1 ∧ saveP K1 H ∧ sellP H 0 c 10 r G1)) (RX ad C (fun E G1 => (E = xIB ∧ G1 = G ∧ ¬ (0 ≤ c ∧ c < G 0 13)) ∨ (E = xIA ∧ G1 = (cinG G a b w d) ∧ (0 ≤ c ∧ c < G 0 13) ∧ ¬ ((0 ≤ a ∧ a ≤ 9) ∧ (0 ≤ b ∧ b ≤ 9) ∧ (0 ≤ w ∧ w ≤ 9) ∧ (0 ≤ d ∧ d ≤ 9))) ∨ (E = xIS ∧ (0 ≤ c ∧ c < G 0 13) ∧ ((0 ≤ a ∧ a ≤ 9) ∧ (0 ≤ b ∧ b ≤ 9) ∧ (0 ≤ w ∧ w ≤ 9) ∧ (0 ≤ d ∧ d ≤ 9)) ∧ ¬ canSellP (cinG G a b w d) 0 c 10 ∧ sameB (scr 0) (cinG G a b w d) G1))) := by
  refine mx_of (by decide +kernel) (Nat.le_of_ble_eq_true rfl) rfl ?_
  have m13 := o.1.2.1
  have m14 := o.2.1.1
  have m10 := o.2.2.2.1
  refine aw_aload_n (q := 1) 0 dX5_buy_0 rfl rfl rfl ?_
  refine g_cp_machine (q := 4) wf_RX5_10 dX5_buy_1 rfl ?_
  refine aw_iload_n (q := 5) 1 dX5_buy_4 rfl rfl rfl ?_
  refine cv_I (q := 8) (CC := "") (id := 0) (As := [.int (iI c)]) 1 (c_m_hasCoil (T := T) (D := D) (ad := ad) G (i := 0) (by omega) (by omega) o.1.2.1) (fun _ h => h) (by omega) (cell_mach ad C _ (i := 0) (by omega)) rfl wc_X1_hasCoil wm_RX5_90 wi_X1_hasCoil ws_X1_hasCoil wn_X1 (by decide) rfl ⟨Nat.le_of_ble_eq_true rfl, Nat.le_of_ble_eq_true rfl⟩ ⟨Nat.le_of_ble_eq_true rfl, Nat.le_of_ble_eq_true rfl⟩ (Nat.le_of_ble_eq_true rfl) dX5_buy_5 rfl (fun r9 G9 h9 => ?_)
  rw [h9.1, h9.2]
  refine aw_ifb_ne (q := 11) dX5_buy_8 rfl (t := 21) (by decide) (fun h1 => ?_) (fun h2 => ?_)
  · refine aw_aload_n (q := 22) 0 dX5_buy_21 rfl rfl rfl ?_
    refine aw_iload_n (q := 23) 2 dX5_buy_22 rfl rfl rfl ?_
    refine aw_iload_n (q := 24) 3 dX5_buy_23 rfl rfl rfl ?_
    refine aw_iload (q := 26) 4 dX5_buy_24 rfl rfl ?_
    refine aw_iload (q := 28) 5 dX5_buy_26 rfl rfl ?_
    refine cv_I (q := 31) (CC := "") (id := 102) (As := [.int (iI a), .int (iI b), .int (iI w), .int (iI d)]) 4 (c_holdOut (T := T) (D := D) (ad := ad) G (by omega) (by omega) (by omega) (by omega)) (fun _ h => h) (by omega) (cell_102 ad C _) rfl wc_X5_holdOut wm_RX5_123 wi_X5_holdOut ws_X5_holdOut wn_X5 (by decide) rfl ⟨Nat.le_of_ble_eq_true rfl, Nat.le_of_ble_eq_true rfl⟩ ⟨Nat.le_of_ble_eq_true rfl, Nat.le_of_ble_eq_true rfl⟩ (Nat.le_of_ble_eq_true rfl) dX5_buy_28 rfl (fun r9 G9 h9 => ?_)
    rw [h9.1, h9.2]
    refine aw_ifb_ne (q := 34) dX5_buy_31 rfl (t := 44) (by decide) (fun h3 => ?_) (fun h4 => ?_)
    · obtain ⟨K, hK⟩ : ∃ K, K = cinG G a b w d := ⟨_, rfl⟩
      rw [← hK]
      have kn : ∀ x y : Int, x ≠ 10 → K x y = G x y := fun x y h => by rw [hK]; exact cinG_ne h
      have k0 : K 10 0 = a := by rw [hK]; exact cinG_0 ..
      have k1 : K 10 1 = b := by rw [hK]; exact cinG_1 ..
      have k2 : K 10 2 = w := by rw [hK]; exact cinG_2 ..
      have k3 : K 10 3 = d := by rw [hK]; exact cinG_3 ..
      have kc : ∀ k : Int, 0 ≤ k → k < 4 → 0 ≤ K 10 k ∧ K 10 k ≤ 9 := fun k z0 z1 => by
        have z : k = 0 ∨ k = 1 ∨ k = 2 ∨ k = 3 := by omega
        rcases z with rfl | rfl | rfl | rfl
        · rw [k0]; omega
        · rw [k1]; omega
        · rw [k2]; omega
        · rw [k3]; omega
      have oK : okM K := okM_congr (fun y _ => kn _ _ (by omega)) (fun y => kn _ _ (by omega)) o
      have e13 : K 0 13 = G 0 13 := kn _ _ (by omega)
      have oc : okC (K 0) c := oK.1.2.2 c (by omega) (by omega)
      have oc1 := oc.1
      have oc2 := oc.2.1
      have oc3 := oc.2.2.1
      have oc4 := oc.2.2.2.1
      have oc5 := oc.2.2.2.2.1
      have ol := oK.1.1.2.2.2.1
      have os := oK.2.2.1
      have op := oK.2.1.1
      refine aw_aload_n (q := 45) 0 dX5_buy_44 rfl rfl rfl ?_
      refine g_cp_machine (q := 48) wf_RX5_10 dX5_buy_45 rfl ?_
      refine aw_iload_n (q := 49) 1 dX5_buy_48 rfl rfl rfl ?_
      refine aw_aload_n (q := 50) 0 dX5_buy_49 rfl rfl rfl ?_
      refine g_cp_coinsIn (q := 53) wf_RX5_34 dX5_buy_50 rfl ?_
      refine cv_I (q := 56) (CC := "") (id := 0) (As := [.int (iI c), .ref (ad 107)]) 2 (c_m_canSell (T := T) (D := D) (ad := ad) K (i := 0) (by omega) (by omega) oK.2.1.2.2 (ar_107 ad C) (by omega) kc (by omega) oc1 (by omega) (by omega)) (fun _ h => h) (by omega) (cell_mach ad C _ (i := 0) (by omega)) rfl wc_X1_canSell wm_RX5_126 wi_X1_canSell ws_X1_canSell wn_X1 (by decide) rfl ⟨Nat.le_of_ble_eq_true rfl, Nat.le_of_ble_eq_true rfl⟩ ⟨Nat.le_of_ble_eq_true rfl, Nat.le_of_ble_eq_true rfl⟩ (Nat.le_of_ble_eq_true rfl) dX5_buy_53 rfl (fun r9 K1 h9 => ?_)
      obtain ⟨hr9, s1⟩ := h9
      subst hr9
      have o1 : okM K1 := okM_congr (fun y z => s1 _ _ (by omega)) (fun y => s1 _ _ (by omega)) oK
      refine aw_ifb_ne (q := 59) dX5_buy_56 rfl (t := 69) (by decide) (fun h5 => ?_) (fun h6 => ?_)
      · refine aw_aload_n (q := 70) 0 dX5_buy_69 rfl rfl rfl ?_
        refine cv_V (q := 73) (CC := "") (id := 102) (As := []) 0 (c_save (T := T) (D := D) (ad := ad) K1 o1.2.2.2.2 o1.1.2.1 (okC_z o1)) (fun _ h => h) (by omega) (cell_102 ad C _) rfl wc_X5_save wm_RX5_64 wi_X5_save ws_X5_save wn_X5 (by decide) rfl ⟨Nat.le_of_ble_eq_true rfl, Nat.le_of_ble_eq_true rfl⟩ ⟨Nat.le_of_ble_eq_true rfl, Nat.le_of_ble_eq_true rfl⟩ (Nat.le_of_ble_eq_true rfl) dX5_buy_70 rfl (fun H8 s8 => ?_)
        have hcan : canSellP K 0 c 10 := by assumption
        have row8 : H8 0 = K1 0 := saveP_row o1.2.2.2.2 s8
        have r8 : ∀ y : Int, y < 312 → H8 0 y = K 0 y := fun y z => (congrFun row8 y).trans (s1 _ _ (by omega))
        have r10 : ∀ y : Int, H8 10 y = K 10 y := fun y => (saveP_ne o1.2.2.2.2 s8 (by omega)).trans (s1 _ _ (by omega))
        have cg := canSell_congr (G := K) (H := H8) (i := 0) (c := c) (pg := 10) (by omega) r8 r10
        have oh8 : okH (H8 0) := okH_congr r8 oK.1
        have op8 : okP H8 0 := okP_congr r8 oK.2.1
        have oc8 : okC (H8 0) c := oh8.2.2 c (by omega) (by rw [r8 13 (by omega)]; omega)
        have hc8 : ∀ k : Int, 0 ≤ k → k < 4 → 0 ≤ H8 10 k ∧ H8 10 k ≤ 9 := fun k z0 z1 => by rw [r10]; exact kc k z0 z1
        have hn8 := room_sale (G := H8) (i := 0) (c := c) (pg := 10) (by omega) oc8 oh8.1 op8 (by rw [r8 14 (by omega), r8 311 (by omega)]; omega) hc8 (cg.2.2.mpr hcan)
        have p81 := oc8.1
        have p82 := oc8.2.1
        have p83 := oc8.2.2.1
        have p84 := oc8.2.2.2.1
        have p85 := oc8.2.2.2.2.1
        refine aw_aload_n (q := 74) 0 dX5_buy_73 rfl rfl rfl ?_
        refine g_cp_machine (q := 77) wf_RX5_10 dX5_buy_74 rfl ?_
        refine aw_iload_n (q := 78) 1 dX5_buy_77 rfl rfl rfl ?_
        refine aw_aload_n (q := 79) 0 dX5_buy_78 rfl rfl rfl ?_
        refine g_cp_coinsIn (q := 82) wf_RX5_34 dX5_buy_79 rfl ?_
        refine cv_I (q := 85) (CC := "") (id := 0) (As := [.int (iI c), .ref (ad 107)]) 2 (c_m_sell (T := T) (D := D) (ad := ad) H8 (i := 0) (by omega) (by omega) op8 (ar_107 ad C) (by omega) hc8 (by omega) p81 (cg.2.2.mpr hcan).2.1 hn8 (fw_add1 oc8.2.2.2.2.2.2.2.1).1) (fun _ h => h) (by omega) (cell_mach ad C _ (i := 0) (by omega)) rfl wc_X1_sell wm_RX5_132 wi_X1_sell ws_X1_sell wn_X1 (by decide) rfl ⟨Nat.le_of_ble_eq_true rfl, Nat.le_of_ble_eq_true rfl⟩ ⟨Nat.le_of_ble_eq_true rfl, Nat.le_of_ble_eq_true rfl⟩ (Nat.le_of_ble_eq_true rfl) dX5_buy_82 rfl (fun r9 G9 h9 => ?_)
        exact ax_of (rt_i rfl (Nat.zero_le _) (Nat.zero_le _) (⟨⟨by omega, by omega, hcan⟩, K1, H8, s1, s8, h9⟩) dX5_buy_85)
      · exact aw_throwS (text := strT 130) (fun _ h => h) hst (fun _ h => h) th_81_85 (by decide +kernel) dX5_buy_59 dX5_buy_62 dX5_buy_63 dX5_buy_65 dX5_buy_68 (Nat.le_of_ble_eq_true rfl) (Nat.le_of_ble_eq_true rfl) (Nat.le_of_ble_eq_true rfl) (Nat.le_of_ble_eq_true rfl) (Nat.le_of_ble_eq_true rfl) (Nat.le_of_ble_eq_true rfl) ⟨_, rfl, Or.inr (Or.inr ⟨rfl, by omega, by omega, by assumption, s1⟩)⟩
    · exact aw_throwS (text := strT 112) (fun _ h => h) hst (fun _ h => h) th_42_46 (by decide +kernel) dX5_buy_34 dX5_buy_37 dX5_buy_38 dX5_buy_40 dX5_buy_43 (Nat.le_of_ble_eq_true rfl) (Nat.le_of_ble_eq_true rfl) (Nat.le_of_ble_eq_true rfl) (Nat.le_of_ble_eq_true rfl) (Nat.le_of_ble_eq_true rfl) (Nat.le_of_ble_eq_true rfl) ⟨_, rfl, Or.inr (Or.inl ⟨rfl, rfl, by omega, by omega⟩)⟩
  · exact aw_throwS (text := strT 96) (fun _ h => h) hst (fun _ h => h) th_94_98 (by decide +kernel) dX5_buy_11 dX5_buy_14 dX5_buy_15 dX5_buy_17 dX5_buy_20 (Nat.le_of_ble_eq_true rfl) (Nat.le_of_ble_eq_true rfl) (Nat.le_of_ble_eq_true rfl) (Nat.le_of_ble_eq_true rfl) (Nat.le_of_ble_eq_true rfl) (Nat.le_of_ble_eq_true rfl) ⟨_, rfl, Or.inl ⟨rfl, rfl, by omega⟩⟩
