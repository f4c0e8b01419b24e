/-! class CoilPrices: salesInARow -/
theorem sell_ne {G G1 : GG} {i c pg r x y : Int} (h : sellP G i c pg r G1) (h1 : ¬ saleS i c x y) (h2 : ¬ kpS i x y) : G1 x y = G x y := by
  obtain ⟨H, hs, hk, -⟩ := h
  exact (hk.2.2.2.2.2.2.2.2 x y h2).trans (hs.2.2.2.2.2.2.1 x y h1)
theorem okN_over {G K : GG} {i j : Int} (h : overP G i j K) (o : okN G j) : okN K i := by
  refine ⟨okH_over h o.1, ?_, ?_⟩
  · obtain ⟨h1, h2, h3, h4⟩ := h
    obtain ⟨o1, o2, o3⟩ := o.2.1
    have e14 : K i 14 = G j 14 := h1 14 (by omega) (by omega)
    exact ⟨by rw [e14]; exact o1, fun m z0 z1 => by rw [e14] at z1; rw [h3 (111 + m) (by omega) (by omega)]; exact o2 m z0 z1, fun k z0 z1 => by rw [h1 (5 + k) (by omega) (by omega)]; exact o3 k z0 z1⟩
  · have hc := o.2.1.1
    obtain ⟨h1, h2, h3, h4⟩ := h
    obtain ⟨o1, o2, o3⟩ := o.2.2
    have e14 : K i 14 = G j 14 := h1 14 (by omega) (by omega)
    refine ⟨fun m z0 z1 => by rw [e14] at z1; rw [h3 (111 + m) (by omega) (by omega)]; exact o1 m z0 z1, ?_, by rw [h3 311 (by omega) (by omega)]; exact o3⟩
    rw [h3 311 (by omega) (by omega), e14, o2]
    exact sumQ_eq _ (fun m z0 z1 => (h3 (111 + m) (by omega) (by omega)).symm)
/-- sales in a row on page i, n of them at most -/
def salesP (i c : Int) : Nat → GG → Int → GG → Prop
  | 0, G, r, G1 => r = 0 ∧ G1 = G
  | n + 1, G, r, G1 => (¬ canSellP G i c 10 ∧ r = 0 ∧ sameB (scr i) G G1) ∨ (canSellP G i c 10 ∧ ∃ K H x, sameB (scr i) G K ∧ sellP K i c 10 x H ∧ salesP i c n H (r - 1) G1)
set_option maxHeartbeats 4000000 in
set_option maxRecDepth 100000 in
theorem L_row {l : Launch} {D : va_G} {C : Nat → ClassId} {T : Nat → Nat} {ad : Int → Nat} (G : GG) {c b d : Int} {Pq : Int → GG → Prop} {Px : String → GG → Prop} : ∀ (n : Nat) (m : Int) (K : GG), 0 ≤ m → m ≤ 20 → 20 - m < n → okN K 1 → (0 ≤ c ∧ c < K 1 13) → (∀ k : Int, 0 ≤ k → k < 4 → 0 ≤ K 10 k ∧ K 10 k ≤ 9) → (∀ r G1, salesP 1 c (20 - m).toNat K (r - m) G1 → Pq r G1) → AW l RX5 "salesInARow" cX5_salesInARow 5 (some .int) xT { frames := 6, cells := 1, slots := 6, locals := 151 } (hvXE D (RI ad C Pq) (RX ad C (Px)) (cw ad C G) 1 6) D (tyC C) (hvZ T (cw ad C G)) (cw ad C G) 56 [(0, .ref (ad 102)), (1, .int (iI c)), (2, .int (iI b)), (3, .int (iI d)), (4, .int (iI m))] [] (cw ad C K) 0 0 := by
  intro n
  induction n with
  | zero => intro m K hm hd hn oK hcc kc hQ; exact absurd hn (by omega)
  | succ n ih =>
    intro m K hm hd hn oK hcc kc hQ
    have h8 := oK.1.2.1
    have oc : okC (K 1) c := oK.1.2.2 c (by omega) (by omega)
    have oc1 := oc.1
    have oc2 := oc.2.1
    have oc3 := oc.2.2.1
    have oc4 := oc.2.2.2.1
    have oc5 := oc.2.2.2.2.1
    have ol := oK.1.1.2.2.2.1
    have os := okR_5 oK.2.1.1.1 oK.2.2
    have os2 := oK.2.2.2.2
    have op := oK.2.1.1
    refine aw_iload (q := 58) 4 dX5_salesInARow_56 rfl rfl ?_
    refine aw_bipush (q := 60) dX5_salesInARow_58 rfl (by decide) ?_
    refine aw_icmp_ge (q := 63) dX5_salesInARow_60 rfl (t := 97) (by decide) (by omega) (by omega) (fun h1 => ?_) (fun h2 => ?_)
    · refine aw_iload (q := 99) 4 dX5_salesInARow_97 rfl rfl ?_
      exact ax_of (rt_i rfl (Nat.zero_le _) (Nat.zero_le _) (hQ _ _ (by rw [show (20 - m).toNat = 0 by omega]; exact ⟨by omega, rfl⟩)) dX5_salesInARow_99)
    · refine aw_aload_n (q := 64) 0 dX5_salesInARow_63 rfl rfl rfl ?_
      refine g_cp_trial (q := 67) wf_RX5_16 dX5_salesInARow_64 rfl ?_
      refine aw_iload_n (q := 68) 1 dX5_salesInARow_67 rfl rfl rfl ?_
      refine aw_aload_n (q := 69) 0 dX5_salesInARow_68 rfl rfl rfl ?_
      refine g_cp_coinsIn (q := 72) wf_RX5_34 dX5_salesInARow_69 rfl ?_
      refine cv_I (q := 75) (CC := "") (id := 17) (As := [.int (iI c), .ref (ad 107)]) 2 (c_m_canSell (T := T) (D := D) (ad := ad) K (i := 1) (by omega) (by omega) oK.2.1.2.2 (ar_107 ad C) (by omega) kc (by omega) oc1 (by omega) (by omega)) (fun _ h => h) (by omega) (cell_mach ad C _ (i := 1) (by omega)) rfl wc_X1_canSell wm_RX5_126 wi_X1_canSell ws_X1_canSell wn_X1 (by decide) rfl ⟨Nat.le_of_ble_eq_true rfl, Nat.le_of_ble_eq_true rfl⟩ ⟨Nat.le_of_ble_eq_true rfl, Nat.le_of_ble_eq_true rfl⟩ (Nat.le_of_ble_eq_true rfl) dX5_salesInARow_72 rfl (fun r9 K1 h9 => ?_)
      obtain ⟨hr9, s1⟩ := h9
      subst hr9
      refine aw_ifb_eq (q := 78) dX5_salesInARow_75 rfl (t := 97) (by decide) (fun h3 => ?_) (fun h4 => ?_)
      · refine aw_iload (q := 99) 4 dX5_salesInARow_97 rfl rfl ?_
        exact ax_of (rt_i rfl (Nat.zero_le _) (Nat.zero_le _) (hQ _ _ (by rw [show (20 - m).toNat = (20 - (m + 1)).toNat + 1 by omega]; exact Or.inl ⟨by assumption, by omega, s1⟩)) dX5_salesInARow_99)
      · refine aw_aload_n (q := 79) 0 dX5_salesInARow_78 rfl rfl rfl ?_
        refine g_cp_trial (q := 82) wf_RX5_16 dX5_salesInARow_79 rfl ?_
        refine aw_iload_n (q := 83) 1 dX5_salesInARow_82 rfl rfl rfl ?_
        refine aw_aload_n (q := 84) 0 dX5_salesInARow_83 rfl rfl rfl ?_
        refine g_cp_coinsIn (q := 87) wf_RX5_34 dX5_salesInARow_84 rfl ?_
        have hcan : canSellP K 1 c 10 := by assumption
        have o1 : okN K1 1 := okN_congr (fun y z => s1 _ _ (by omega)) oK
        have r8 : ∀ y : Int, y < 312 → K1 1 y = K 1 y := fun y z => s1 _ _ (by omega)
        have r10 : ∀ y : Int, K1 10 y = K 10 y := fun y => s1 _ _ (by omega)
        have cg := canSell_congr (G := K) (H := K1) (i := 1) (c := c) (pg := 10) (by omega) r8 r10
        have oc8 : okC (K1 1) c := o1.1.2.2 c (by omega) (by rw [r8 13 (by omega)]; omega)
        have hc8 : ∀ k : Int, 0 ≤ k → k < 4 → 0 ≤ K1 10 k ∧ K1 10 k ≤ 9 := fun k z0 z1 => by rw [r10]; exact kc k z0 z1
        have hn8 := room_sale (G := K1) (i := 1) (c := c) (pg := 10) (by omega) oc8 o1.1.1 o1.2.1 ⟨okR_5 o1.2.1.1.1 o1.2.2, o1.2.2.2.2⟩ hc8 (cg.2.2.mpr hcan)
        have p81 := oc8.1
        have p82 := oc8.2.1
        have p83 := oc8.2.2.1
        have p84 := oc8.2.2.2.1
        have p85 := oc8.2.2.2.2.1
        refine cv_I (q := 90) (CC := "") (id := 17) (As := [.int (iI c), .ref (ad 107)]) 2 (c_m_sell (T := T) (D := D) (ad := ad) K1 (i := 1) (by omega) (by omega) o1.2.1 (ar_107 ad C) (by omega) hc8 (by omega) p81 (cg.2.2.mpr hcan).2.1 hn8 (fw_add1 oc8.2.2.2.2.2.2.2.1).1) (fun _ h => h) (by omega) (cell_mach ad C _ (i := 1) (by omega)) rfl wc_X1_sell wm_RX5_132 wi_X1_sell ws_X1_sell wn_X1 (by decide) rfl ⟨Nat.le_of_ble_eq_true rfl, Nat.le_of_ble_eq_true rfl⟩ ⟨Nat.le_of_ble_eq_true rfl, Nat.le_of_ble_eq_true rfl⟩ (Nat.le_of_ble_eq_true rfl) dX5_salesInARow_87 rfl (fun r9 G9 h9 => ?_)
        refine aw_pop (q := 91) dX5_salesInARow_90 rfl rfl ?_
        refine ae_iinc (q := 94) (lv2 := [(0, .ref (ad 102)), (1, .int (iI c)), (2, .int (iI b)), (3, .int (iI d)), (4, .int (iI (m + 1)))]) 4 [1, 2, 3, 4, 0] (m + 1) (by omega) dX5_salesInARow_91 rfl rfl (by decide) rfl ?_
        refine aw_goto (q := 56) dX5_salesInARow_94 (by decide) ?_
        exact ih (m + 1) G9 (by omega) (by omega) (by omega) (okN_sell (by rw [r8 13 (by omega)]; omega) o1 hc8 (cg.2.2.mpr hcan) h9) (by rw [sell_ne h9 (by omega) (by omega), r8 13 (by omega)]; omega) (fun k z0 z1 => by rw [sell_ne h9 (by omega) (by omega)]; exact hc8 k z0 z1) (fun r G1 z => hQ r G1 (by
                rw [show (20 - m).toNat = (20 - (m + 1)).toNat + 1 by omega]
                exact Or.inr ⟨hcan, K1, G9, _, s1, h9, by rw [show r - m - 1 = r - (m + 1) by omega]; exact z⟩))
set_option maxHeartbeats 4000000 in
set_option maxRecDepth 100000 in
theorem c_salesInARow {l : Launch} {D : va_G} {C : Nat → ClassId} {T : Nat → Nat} {ad : Int → Nat} (hst : l.stackTraces = false) (G : GG) {c b d : Int} (o : okM G) (oN : okN G 0) (hc : -2147483648 ≤ c ∧ c ≤ 2147483647) (hb : -2147483648 ≤ b ∧ b ≤ 2147483647) (hd : -2147483648 ≤ d ∧ d ≤ 2147483647) : MX l yX5_salesInARow cX5_salesInARow 5 (some .int) 6 151 1 6 D (tyC C) T [.ref (ad 102), .int (iI c), .int (iI b), .int (iI d)] (cw ad C G) (RI ad C (fun r G1 => ((0 ≤ c ∧ c < G 0 13) ∧ ((0 ≤ b ∧ b ≤ 9) ∧ (0 ≤ d ∧ d ≤ 9))) ∧ ∃ K2, overP (cinG G 0 b 0 d) 1 0 K2 ∧ salesP 1 c 20 K2 r G1)) (RX ad C (fun E G1 => (E = xIB ∧ G1 = G ∧ ¬ (0 ≤ c ∧ c < G 0 13)) ∨ (E = xIA ∧ G1 = (cinG G 0 b 0 d) ∧ (0 ≤ c ∧ c < G 0 13) ∧ ¬ ((0 ≤ b ∧ b ≤ 9) ∧ (0 ≤ d ∧ d ≤ 9))))) := by
  refine mx_of (by decide +kernel) (Nat.le_of_ble_eq_true rfl) rfl ?_
  have m13 := o.1.2.1
  have m14 := o.2.1.1
  have m10 := o.2.2.2.1
  refine aw_aload_n (q := 1) 0 dX5_salesInARow_0 rfl rfl rfl ?_
  refine g_cp_machine (q := 4) wf_RX5_10 dX5_salesInARow_1 rfl ?_
  refine aw_iload_n (q := 5) 1 dX5_salesInARow_4 rfl rfl rfl ?_
  refine cv_I (q := 8) (CC := "") (id := 0) (As := [.int (iI c)]) 1 (c_m_hasCoil (T := T) (D := D) (ad := ad) G (i := 0) (by omega) (by omega) o.1.2.1) (fun _ h => h) (by omega) (cell_mach ad C _ (i := 0) (by omega)) rfl wc_X1_hasCoil wm_RX5_90 wi_X1_hasCoil ws_X1_hasCoil wn_X1 (by decide) rfl ⟨Nat.le_of_ble_eq_true rfl, Nat.le_of_ble_eq_true rfl⟩ ⟨Nat.le_of_ble_eq_true rfl, Nat.le_of_ble_eq_true rfl⟩ (Nat.le_of_ble_eq_true rfl) dX5_salesInARow_5 rfl (fun r9 G9 h9 => ?_)
  rw [h9.1, h9.2]
  refine aw_ifb_ne (q := 11) dX5_salesInARow_8 rfl (t := 21) (by decide) (fun h1 => ?_) (fun h2 => ?_)
  · refine aw_aload_n (q := 22) 0 dX5_salesInARow_21 rfl rfl rfl ?_
    refine aw_iconst (q := 23) dX5_salesInARow_22 rfl ?_
    refine aw_iload_n (q := 24) 2 dX5_salesInARow_23 rfl rfl rfl ?_
    refine aw_iconst (q := 25) dX5_salesInARow_24 rfl ?_
    refine aw_iload_n (q := 26) 3 dX5_salesInARow_25 rfl rfl rfl ?_
    refine cv_I (q := 29) (CC := "") (id := 102) (As := [.int (iI 0), .int (iI b), .int (iI 0), .int (iI d)]) 4 (c_holdOut (T := T) (D := D) (ad := ad) G (by omega) (by omega) (by omega) (by omega)) (fun _ h => h) (by omega) (cell_102 ad C _) rfl wc_X5_holdOut wm_RX5_123 wi_X5_holdOut ws_X5_holdOut wn_X5 (by decide) rfl ⟨Nat.le_of_ble_eq_true rfl, Nat.le_of_ble_eq_true rfl⟩ ⟨Nat.le_of_ble_eq_true rfl, Nat.le_of_ble_eq_true rfl⟩ (Nat.le_of_ble_eq_true rfl) dX5_salesInARow_26 rfl (fun r9 G9 h9 => ?_)
    rw [h9.1, h9.2]
    refine aw_ifb_ne (q := 32) dX5_salesInARow_29 rfl (t := 42) (by decide) (fun h3 => ?_) (fun h4 => ?_)
    · obtain ⟨K, hK⟩ : ∃ K, K = cinG G 0 b 0 d := ⟨_, rfl⟩
      rw [← hK]
      have kn : ∀ x y : Int, x ≠ 10 → K x y = G x y := fun x y h => by rw [hK]; exact cinG_ne h
      have k0 : K 10 0 = 0 := by rw [hK]; exact cinG_0 ..
      have k1 : K 10 1 = b := by rw [hK]; exact cinG_1 ..
      have k2 : K 10 2 = 0 := by rw [hK]; exact cinG_2 ..
      have k3 : K 10 3 = d := by rw [hK]; exact cinG_3 ..
      have kc : ∀ k : Int, 0 ≤ k → k < 4 → 0 ≤ K 10 k ∧ K 10 k ≤ 9 := fun k z0 z1 => by
        have z : k = 0 ∨ k = 1 ∨ k = 2 ∨ k = 3 := by omega
        rcases z with rfl | rfl | rfl | rfl
        · rw [k0]; omega
        · rw [k1]; omega
        · rw [k2]; omega
        · rw [k3]; omega
      have oK : okM K := okM_congr (fun y _ => kn _ _ (by omega)) (fun y => kn _ _ (by omega)) o
      have nK : okN K 0 := okN_congr (fun y _ => kn _ _ (by omega)) oN
      have e13 : K 0 13 = G 0 13 := kn _ _ (by omega)
      refine aw_aload_n (q := 43) 0 dX5_salesInARow_42 rfl rfl rfl ?_
      refine g_cp_trial (q := 46) wf_RX5_16 dX5_salesInARow_43 rfl ?_
      refine aw_aload_n (q := 47) 0 dX5_salesInARow_46 rfl rfl rfl ?_
      refine g_cp_machine (q := 50) wf_RX5_10 dX5_salesInARow_47 rfl ?_
      refine cv_V (q := 53) (CC := "") (id := 17) (As := [.ref (ad 0)]) 1 (c_m_takeOver (T := T) (D := D) (ad := ad) K (i := 1) (j := 0) (by omega) (by omega) (by omega) oK.1.2.1 (okC_z oK)) (fun _ h => h) (by omega) (cell_mach ad C _ (i := 1) (by omega)) rfl wc_X1_takeOver wm_RX5_205 wi_X1_takeOver ws_X1_takeOver wn_X1 (by decide) rfl ⟨Nat.le_of_ble_eq_true rfl, Nat.le_of_ble_eq_true rfl⟩ ⟨Nat.le_of_ble_eq_true rfl, Nat.le_of_ble_eq_true rfl⟩ (Nat.le_of_ble_eq_true rfl) dX5_salesInARow_50 rfl (fun K2 k9 => ?_)
      refine aw_iconst (q := 54) dX5_salesInARow_53 rfl ?_
      refine aw_istore (q := 56) (lv2 := [(0, .ref (ad 102)), (1, .int (iI c)), (2, .int (iI b)), (3, .int (iI d)), (4, .int (iI 0))]) [1, 2, 3, 4, 0] dX5_salesInARow_54 rfl (by decide) rfl rfl ?_
      exact L_row G 22 0 K2 (by omega) (by omega) (by omega) (okN_over k9 nK) (by rw [k9.1 13 (by omega) (by omega)]; omega) (fun k z0 z1 => by rw [k9.2.2.2 10 k (by omega)]; exact kc k z0 z1) (fun r G1 z => ⟨⟨by omega, by omega⟩, K2, k9, by have z2 : salesP 1 c 20 K2 (r - 0) G1 := z; rw [Int.sub_zero] at z2; exact z2⟩)
    · exact aw_throwS (text := strT 112) (fun _ h => h) hst (fun _ h => h) th_42_46 (by decide +kernel) dX5_salesInARow_32 dX5_salesInARow_35 dX5_salesInARow_36 dX5_salesInARow_38 dX5_salesInARow_41 (Nat.le_of_ble_eq_true rfl) (Nat.le_of_ble_eq_true rfl) (Nat.le_of_ble_eq_true rfl) (Nat.le_of_ble_eq_true rfl) (Nat.le_of_ble_eq_true rfl) (Nat.le_of_ble_eq_true rfl) ⟨_, rfl, Or.inr ⟨rfl, rfl, by omega, by omega⟩⟩
  · exact aw_throwS (text := strT 96) (fun _ h => h) hst (fun _ h => h) th_94_98 (by decide +kernel) dX5_salesInARow_11 dX5_salesInARow_14 dX5_salesInARow_15 dX5_salesInARow_17 dX5_salesInARow_20 (Nat.le_of_ble_eq_true rfl) (Nat.le_of_ble_eq_true rfl) (Nat.le_of_ble_eq_true rfl) (Nat.le_of_ble_eq_true rfl) (Nat.le_of_ble_eq_true rfl) (Nat.le_of_ble_eq_true rfl) ⟨_, rfl, Or.inl ⟨rfl, rfl, by omega⟩⟩
