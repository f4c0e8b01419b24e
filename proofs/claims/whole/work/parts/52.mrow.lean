/-! class CoilPricesModel: what if, text, undo -/
theorem kp_congr {p q : Int → Int} {cnt : Int} (h : ∀ m : Int, 0 ≤ m → m < cnt → p m = q m) : ∀ (n : Nat) (j t0 t1 t2 t3 : Int), 0 ≤ j → kp p cnt n j t0 t1 t2 t3 = kp q cnt n j t0 t1 t2 t3 := by
  intro n
  induction n with
  | zero => intro j t0 t1 t2 t3 hj; rfl
  | succ n ih =>
    intro j t0 t1 t2 t3 hj
    by_cases hc : j < cnt
    · have e := h j hj hc
      unfold kp
      rw [e]
      by_cases c : j < cnt ∧ canF t0 t1 t2 t3 (q j)
      · rw [if_pos c, if_pos c]; exact ih _ _ _ _ _ (by omega)
      · rw [if_neg c, if_neg c]
    · unfold kp
      rw [if_neg (fun z => hc z.1), if_neg (fun z => hc z.1)]
/-- the page with the sum of its promises beside -/
def sh (G : GG) : GG := setG G 12 311 (sumM G)
theorem sh_ne {G : GG} {x y : Int} (h : ¬ (x = 12 ∧ y = 311)) : sh G x y = G x y := setG_ne h
theorem sh_at (G : GG) : sh G 12 311 = sumM G := setG_same _ _ _ _
theorem sum_prm {G H : GG} {i j : Int} (hc : G j 14 ≤ 200) (h : ∀ m : Int, 0 ≤ m → m < G j 14 → H i (111 + m) = G j (111 + m)) (e : H i 14 = G j 14) : sumQ (prm H i) (H i 14).toNat = sumQ (prm G j) (G j 14).toNat := by
  rw [e]
  exact sumQ_eq _ (fun m z0 z1 => h m z0 (by omega))
def okN12 (G : GG) : Prop := okN (sh G) 12
theorem okN12_H {G : GG} (o : okN12 G) : okH (G 12) := by
  obtain ⟨os, oc, ok⟩ := o.1
  have e : ∀ y : Int, y ≠ 311 → G 12 y = sh G 12 y := fun y hy => (sh_ne (by omega)).symm
  refine ⟨?_, by rw [e 13 (by omega)]; exact oc, fun d z0 z1 => ?_⟩
  · unfold okS at *
    rw [e 0 (by omega), e 1 (by omega), e 2 (by omega), e 3 (by omega), e 4 (by omega)]
    exact os
  · rw [e 13 (by omega)] at z1
    exact okC_congr (fun k z2 z3 => e _ (by omega)) (ok d z0 z1)
theorem okN12_P {G : GG} (o : okN12 G) : okP G 12 := by
  obtain ⟨a1, a2, a3⟩ := o.2.1
  rw [show sh G 12 14 = G 12 14 from sh_ne (by omega)] at a1 a2
  exact ⟨a1, fun m z0 z1 => by rw [show G 12 (111 + m) = sh G 12 (111 + m) from (sh_ne (by omega)).symm]; exact a2 m z0 z1, fun k z0 z1 => by rw [show G 12 (5 + k) = sh G 12 (5 + k) from (sh_ne (by omega)).symm]; exact a3 k z0 z1⟩
theorem okN12_R {G : GG} (o : okN12 G) : okMR G := by
  have h := okR_5 o.2.1.1.1 o.2.2
  have h2 := o.2.2.2.2
  rw [show sh G 12 14 = G 12 14 from sh_ne (by omega), sh_at] at h
  rw [sh_at] at h2
  exact ⟨h, h2⟩
/-- off a page that has the sum beside -/
theorem okN12_of {G H : GG} {i : Int} (o : okN H i) (h : ∀ y : Int, y < 311 → G 12 y = H i y) : okN12 G := by
  have e14 : G 12 14 = H i 14 := h 14 (by omega)
  have h14 := o.2.1.1
  refine okN_congr (G := H) (j := i) (fun y hy => ?_) o
  by_cases e : y = 311
  · rw [e, sh_at, o.2.2.2.1]
    exact sum_prm (by omega) (fun m z0 z1 => h _ (by omega)) e14
  · rw [sh_ne (by omega), h y (by omega)]
theorem okN12_sell {G S H : GG} {c : Int} (hc : 0 ≤ c ∧ c < G 12 13) (o : okN12 G) (hco : ∀ k : Int, 0 ≤ k → k < 4 → 0 ≤ G 18 k ∧ G 18 k ≤ 9) (hcan : canSellM G c) (hs : saleM G c S) (hk : keepM S (kpG S 12) H) : okN12 H := by
  have oH := okN12_H o
  have o13 := oH.2.1
  have h14 := (okN12_P o).1
  have n200 := room_saleM (okN12_R o) oH.1 (okN12_P o).2.2 hco hcan
  obtain ⟨a1, a2, a3, a4, a5, a6, a7, a8⟩ := hs
  have s14 : S 12 14 ≤ 200 := by
    rcases a8 with ⟨-, e, -⟩ | ⟨n, e, -⟩
    · omega
    · have := n200 n; omega
  have s0 : 0 ≤ S 12 14 := by
    rcases a8 with ⟨-, e, -⟩ | ⟨n, e, -⟩ <;> omega
  obtain ⟨x, hx⟩ : ∃ x : Int, (canU G 12 18 (backF G 12 c 18) → x = sumM G) ∧ (¬ canU G 12 18 (backF G 12 c 18) → x = sumM G + backF G 12 c 18) := by
    by_cases q : canU G 12 18 (backF G 12 c 18)
    · exact ⟨sumM G, fun _ => rfl, fun z => absurd q z⟩
    · exact ⟨sumM G + backF G 12 c 18, fun z => absurd z q, fun _ => rfl⟩
  obtain ⟨S', hS⟩ : ∃ S' : GG, S' = onR (sh G) 12 (up (S 12) 311 x) := ⟨_, rfl⟩
  have eS : ∀ y : Int, y ≠ 311 → S' 12 y = S 12 y := fun y hy => by rw [hS, onR_at, up_n hy]
  have eS9 : S' 12 311 = x := by rw [hS, onR_at, up_s]
  have eSn : ∀ w y : Int, w ≠ 12 → S' w y = sh G w y := fun w y hw => by rw [hS, onR_ne hw]
  have eG : ∀ y : Int, y ≠ 311 → sh G 12 y = G 12 y := fun y hy => sh_ne (by omega)
  have eP : ∀ y : Int, sh G 18 y = G 18 y := fun y => sh_ne (by omega)
  have ek : kpG S' 12 = kpG S 12 := by
    show kp (prm S' 12) (S' 12 14) 201 0 (S' 12 5) (S' 12 6) (S' 12 7) (S' 12 8) = _
    rw [eS 14 (by omega), eS 5 (by omega), eS 6 (by omega), eS 7 (by omega), eS 8 (by omega)]
    exact kp_congr (fun m z0 z1 => eS _ (by omega)) _ _ _ _ _ _ (by omega)
  have hb : backF (sh G) 12 c 18 = backF G 12 c 18 := by
    show worthF (sh G 18) 0 - sh G 12 (15 + 12 * c + 2) = worthF (G 18) 0 - G 12 (15 + 12 * c + 2)
    rw [eG _ (by omega), show sh G 18 = G 18 from funext eP]
  have hu : ∀ a, canU (sh G) 12 18 a = canU G 12 18 a := fun a => by
    show canF _ _ _ _ a = canF _ _ _ _ a
    rw [eG 5 (by omega), eG 6 (by omega), eG 7 (by omega), eG 8 (by omega), eP, eP, eP, eP]
  have hsP : saleP (sh G) 12 c 18 S' := by
    refine ⟨?_, ?_, ?_, ?_, ?_, fun m z0 z1 => ?_, fun u y z => ?_, ?_⟩
    · rw [eS _ (by omega), eG _ (by omega)]; exact a1
    · rw [eS _ (by omega), eG _ (by omega)]; exact a2
    · rw [eS _ (by omega), eG _ (by omega)]; exact a3
    · rw [eS _ (by omega), eG _ (by omega), eG _ (by omega)]; exact a4
    · rw [eS _ (by omega), eG 9 (by omega), eG 5 (by omega), eG 6 (by omega), eG 7 (by omega), eG 8 (by omega), eP, eP, eP, eP]; exact a5
    · rw [eG 14 (by omega)] at z1
      rw [eS _ (by omega), eG _ (by omega)]; exact a6 m z0 z1
    · by_cases e : u = 12
      · subst e
        rw [eS _ (by omega), eG _ (by omega)]
        exact a7 12 y (by omega)
      · exact eSn u y e
    · rw [hu, hb, eG 14 (by omega), eG 5 (by omega), eG 6 (by omega), eG 7 (by omega), eG 8 (by omega), eP, eP, eP, eP, eS 14 (by omega), eS 5 (by omega), eS 6 (by omega), eS 7 (by omega), eS 8 (by omega), eS9, sh_at]
      rcases a8 with ⟨q, b1, b2⟩ | ⟨q, b1, b2, b3⟩
      · exact Or.inl ⟨q, b1, hx.1 q, b2⟩
      · have := n200 q
        exact Or.inr ⟨q, b1, hx.2 q, by rw [eS _ (by omega)]; exact b2, b3⟩
  obtain ⟨H', hH⟩ : ∃ H' : GG, H' = onR (sh G) 12 (up (H 12) 311 (x - sumQ (prm S' 12) (kpG S' 12).1.toNat)) := ⟨_, rfl⟩
  have eH : ∀ y : Int, y ≠ 311 → H' 12 y = H 12 y := fun y hy => by rw [hH, onR_at, up_n hy]
  obtain ⟨k1, k2, k3, k4, k5, k6, k7, k8⟩ := hk
  have oS : okP S' 12 := okP_sale (G := sh G) (i := 12) (c := c) (pg := 18) (H := S') (by omega) o.2.1 (fun k z0 z1 => by rw [eP]; exact hco k z0 z1) (by
    rw [hb]
    have c0 := hco 0 (by omega) (by omega)
    have c1 := hco 1 (by omega) (by omega)
    have c2 := hco 2 (by omega) (by omega)
    have c3 := hco 3 (by omega) (by omega)
    have p2 := oH.2.2 c hc.1 hc.2
    have p3 := p2.2.1
    have p4 := p2.2.2.1
    have b0 := hcan.2.1
    have bb : backF G 12 c 18 = 5 * G 18 0 + 10 * G 18 1 + 20 * G 18 2 + 50 * G 18 3 - G 12 (15 + 12 * c + 2) := rfl
    omega) (fun q => by rw [hu, hb] at q; rw [eG 14 (by omega)]; exact n200 q) hsP
  have kb := (keep_k oS).1
  rw [ek, eS 14 (by omega)] at kb
  have hkP : keepP S' 12 (kpG S' 12) H' := by
    rw [ek]
    have esum : sumQ (prm S' 12) (kpG S 12).1.toNat = sumQ (prm S 12) (kpG S 12).1.toNat := sumQ_eq _ (fun m z0 z1 => eS _ (by omega))
    refine ⟨by rw [eH 5 (by omega)]; exact k1, by rw [eH 6 (by omega)]; exact k2, by rw [eH 7 (by omega)]; exact k3, by rw [eH 8 (by omega)]; exact k4, by rw [eH 14 (by omega), eS 14 (by omega)]; exact k5, by rw [hH, onR_at, up_s, eS9, ek], by rw [eH 11 (by omega), eS 11 (by omega), esum]; exact k6, fun m z0 z1 => ?_, fun u y z => ?_⟩
    · rw [eS 14 (by omega)] at z1
      rw [eH _ (by omega), eS _ (by omega)]; exact k7 m z0 z1
    · by_cases e : u = 12
      · subst e
        rw [eH _ (by omega), eS _ (by omega)]
        exact k8 12 y (by omega)
      · rw [hH, onR_ne e]; exact (eSn u y e).symm
  have o2 : okN H' 12 := okN_sell (G := sh G) (c := c) (pg := 18) (r := if canU (sh G) 12 18 (backF (sh G) 12 c 18) then backF (sh G) 12 c 18 else -10 - backF (sh G) 12 c 18) (by rw [eG 13 (by omega)]; exact hc) o (fun k z0 z1 => by rw [eP]; exact hco k z0 z1) ⟨by rw [eG _ (by omega)]; exact hcan.1, by rw [hb]; exact hcan.2.1, by rw [hu, hb, sh_at, eG 3 (by omega)]; exact hcan.2.2⟩ ⟨S', hsP, hkP, rfl⟩
  exact okN12_of o2 (fun y hy => (eH y (by omega)).symm)
set_option maxHeartbeats 4000000 in
set_option maxRecDepth 100000 in
theorem L_priceM {l : Launch} {D : va_G} {C : Nat → ClassId} {T : Nat → Nat} {ad : Int → Nat} (G K : GG) (oH : okH (G 12)) {c h : Int} (hc : 0 ≤ c ∧ c < G 12 13) (hh : 0 ≤ h ∧ h ≤ 48) (z20 : ∀ y : Int, 0 ≤ y → y < 311 → K 20 y = G 12 y) (zs : sameB (fun x y => x = 20 ∨ (x = 11 ∧ y = 7)) G K) (z7 : K 11 7 = 0) : ∀ (n : Nat) (k : Int), (0 ≤ k ∧ k ≤ h) → h - k < n → AW l RX6 "priceIn" cX6_priceIn 5 (some .int) (fun _ => True) { frames := 4, cells := 0, slots := 0, locals := 103 } (hvE D (RI ad C (fun r G1 => quiet G G1 ∧ ((¬ (0 ≤ c ∧ c < G 12 13) ∧ G1 11 7 = 1) ∨ ((0 ≤ c ∧ c < G 12 13) ∧ ¬ (0 ≤ h ∧ h ≤ 48) ∧ G1 11 7 = 2) ∨ (((0 ≤ c ∧ c < G 12 13) ∧ (0 ≤ h ∧ h ≤ 48)) ∧ G1 11 7 = 0 ∧ r = hoursR (G 12) h.toNat (15 + 12 * c + 2))))) (cw ad C G) 0 0) D (tyC C) (hvZ T (cw ad C G)) (cw ad C G) 50 [(0, .ref (ad 108)), (1, .int (iI c)), (2, .int (iI h)), (3, .int (iI k))] [] (cw ad C ((onR K 12 (hoursR (G 12) k.toNat)))) 0 0 := by
  intro n
  induction n with
  | zero => intro k hk hn; exact absurd hn (by omega)
  | succ n ih =>
    intro k hk hn
    have o13 := oH.2.1
    refine aw_iload_n (q := 51) 3 dX6_priceIn_50 rfl rfl rfl ?_
    refine aw_iload_n (q := 52) 2 dX6_priceIn_51 rfl rfl rfl ?_
    refine aw_icmp_ge (q := 55) dX6_priceIn_52 rfl (t := 67) (by decide) (by omega) (by omega) (fun y1 => ?_) (fun y2 => ?_)
    · refine aw_aload_n (q := 68) 0 dX6_priceIn_67 rfl rfl rfl ?_
      refine aw_iload_n (q := 69) 1 dX6_priceIn_68 rfl rfl rfl ?_
      refine aw_iconst (q := 70) dX6_priceIn_69 rfl ?_
      refine cv_I (q := 73) (CC := "") (id := 108) (As := [.int (iI c), .int (iI 2)]) 2 (c_of (T := T) (D := D) (ad := ad) (onR K 12 (hoursR (G 12) k.toNat)) (by omega) (by omega)) (fun _ h => h) (by omega) (cell_108 ad C _) rfl wc_X6_of wm_RX6_100 wi_X6_of ws_X6_of wn_X6 (by decide) rfl ⟨Nat.le_of_ble_eq_true rfl, Nat.le_of_ble_eq_true rfl⟩ ⟨Nat.le_of_ble_eq_true rfl, Nat.le_of_ble_eq_true rfl⟩ (Nat.le_of_ble_eq_true rfl) dX6_priceIn_70 rfl (fun r9 G9 h9 => ?_)
      obtain ⟨e9, g9⟩ := h9
      rw [e9.trans (((congrFun (onR_at _ _ _) _))), g9]
      clear e9 g9
      refine aw_istore_n (q := 74) (lv2 := [(0, .ref (ad 108)), (1, .int (iI c)), (2, .int (iI h)), (3, .int (iI (((hoursR (G 12) k.toNat) (15 + 12 * c + 2)))))]) [1, 2, 3, 0] dX6_priceIn_73 rfl rfl (by decide) rfl rfl ?_
      refine aw_aload_n (q := 75) 0 dX6_priceIn_74 rfl rfl rfl ?_
      refine g_mod_before (q := 78) wf_RX6_35 dX6_priceIn_75 rfl ?_
      refine aw_iconst (q := 79) dX6_priceIn_78 rfl ?_
      refine aw_aload_n (q := 80) 0 dX6_priceIn_79 rfl rfl rfl ?_
      refine g_mod_p (q := 83) wf_RX6_7 dX6_priceIn_80 rfl ?_
      refine aw_iconst (q := 84) dX6_priceIn_83 rfl ?_
      refine cs_V (q := 87) (As := [.ref (ad 117), .int (iI 0), .ref (ad 109), .int (iI 0)]) 4 (c_bring (T := T) (D := D) (onR K 12 (hoursR (G 12) k.toNat)) (ar_117 ad C) (ar_109 ad C) (by omega) (by omega) (by omega) (by omega)) (fun _ h => h) wc_X6_bring wm_RX6_55 wt_X6_bring wn_X6 (by decide) rfl ⟨Nat.le_of_ble_eq_true rfl, Nat.le_of_ble_eq_true rfl⟩ ⟨Nat.le_of_ble_eq_true rfl, Nat.le_of_ble_eq_true rfl⟩ (Nat.le_of_ble_eq_true rfl) dX6_priceIn_84 rfl (fun G9 h9 => ?_)
      rw [h9]
      clear h9
      refine aw_iload_n (q := 88) 3 dX6_priceIn_87 rfl rfl rfl ?_
      exact rt_i rfl (Nat.le_refl _) (Nat.le_refl _) (⟨⟨fun y z0 z1 => (cpG_in (by omega)).trans ((onR_ne (by omega)).trans ((z20 _ (by omega) (by omega)).trans (congrArg (G 12) (by omega)))), fun x y z => (cpG_ne (by omega)).trans ((onR_ne (by omega)).trans (zs x y (by omega)))⟩, Or.inr (Or.inr ⟨⟨hc, hh⟩, (cpG_ne (by omega)).trans ((onR_ne (by omega)).trans z7), by rw [show k = h by omega]⟩)⟩) dX6_priceIn_88
    · refine aw_aload_n (q := 56) 0 dX6_priceIn_55 rfl rfl rfl ?_
      refine cv_I (q := 59) (CC := "") (id := 108) (As := []) 0 ((by have := c_hourM (l := l) (T := T) (D := D) (C := C) (ad := ad) (onR K 12 (hoursR (G 12) k.toNat)) (by rw [onR_at]; exact okH_hours oH _); rw [onR_at, onR_onR] at this; exact this)) (fun _ h => h) (by omega) (cell_108 ad C _) rfl wc_X6_hour wm_RX6_148 wi_X6_hour ws_X6_hour wn_X6 (by decide) rfl ⟨Nat.le_of_ble_eq_true rfl, Nat.le_of_ble_eq_true rfl⟩ ⟨Nat.le_of_ble_eq_true rfl, Nat.le_of_ble_eq_true rfl⟩ (Nat.le_of_ble_eq_true rfl) dX6_priceIn_56 rfl (fun r9 G9 h9 => ?_)
      rw [h9.1, h9.2]
      clear h9
      refine aw_istore (q := 61) (lv2 := [(0, .ref (ad 108)), (1, .int (iI c)), (2, .int (iI h)), (3, .int (iI k)), (4, .int (iI ((hourR (hoursR (G 12) k.toNat) 12 - (hoursR (G 12) k.toNat) 12))))]) [1, 2, 3, 4, 0] dX6_priceIn_59 rfl (by decide) rfl rfl ?_
      refine ae_iinc (q := 64) (lv2 := [(0, .ref (ad 108)), (1, .int (iI c)), (2, .int (iI h)), (3, .int (iI (k + 1))), (4, .int (iI ((hourR (hoursR (G 12) k.toNat) 12 - (hoursR (G 12) k.toNat) 12))))]) 3 [1, 2, 3, 0, 4] (k + 1) (by omega) dX6_priceIn_61 rfl rfl (by decide) rfl ?_
      refine aw_goto (q := 50) dX6_priceIn_64 (by decide) ?_
      have e9 := hoursR_succ (G 12) hk.1
      rw [← e9]
      refine aw_sub [0, 1, 2, 3] rfl ?_
      exact ih (k + 1) (by omega) (by omega)
set_option maxHeartbeats 4000000 in
set_option maxRecDepth 100000 in
theorem c_priceInM {l : Launch} {D : va_G} {C : Nat → ClassId} {T : Nat → Nat} {ad : Int → Nat} (G : GG) {c h : Int} (oH : okH (G 12)) (hc : -2147483648 ≤ c ∧ c ≤ 2147483647) (hh : -2147483648 ≤ h ∧ h ≤ 2147483647) : MC l yX6_priceIn cX6_priceIn 5 (some .int) 4 103 0 0 D (tyC C) T [.ref (ad 108), .int (iI c), .int (iI h)] (cw ad C G) (RI ad C (fun r G1 => quiet G G1 ∧ ((¬ (0 ≤ c ∧ c < G 12 13) ∧ G1 11 7 = 1) ∨ ((0 ≤ c ∧ c < G 12 13) ∧ ¬ (0 ≤ h ∧ h ≤ 48) ∧ G1 11 7 = 2) ∨ (((0 ≤ c ∧ c < G 12 13) ∧ (0 ≤ h ∧ h ≤ 48)) ∧ G1 11 7 = 0 ∧ r = hoursR (G 12) h.toNat (15 + 12 * c + 2))))) := by
  refine mc_of (by decide +kernel) (Nat.le_of_ble_eq_true rfl) rfl ?_
  have o13 := oH.2.1
  refine aw_aload_n (q := 1) 0 dX6_priceIn_0 rfl rfl rfl ?_
  refine aw_iconst (q := 2) dX6_priceIn_1 rfl ?_
  refine p_mod_thrown (q := 5) wf_RX6_38 dX6_priceIn_2 rfl ?_
  refine aw_aload_n (q := 6) 0 dX6_priceIn_5 rfl rfl rfl ?_
  refine aw_iload_n (q := 7) 1 dX6_priceIn_6 rfl rfl rfl ?_
  refine cv_I (q := 10) (CC := "") (id := 108) (As := [.int (iI c)]) 1 (c_isCoil (T := T) (D := D) (ad := ad) (setG G 11 7 0) (by rw [show (setG G 11 7 0) 12 13 = (G 12 13) from (setG_ne (by omega))]; omega) (by omega)) (fun _ h => h) (by omega) (cell_108 ad C _) rfl wc_X6_isCoil wm_RX6_96 wi_X6_isCoil ws_X6_isCoil wn_X6 (by decide) rfl ⟨Nat.le_of_ble_eq_true rfl, Nat.le_of_ble_eq_true rfl⟩ ⟨Nat.le_of_ble_eq_true rfl, Nat.le_of_ble_eq_true rfl⟩ (Nat.le_of_ble_eq_true rfl) dX6_priceIn_7 rfl (fun r9 G9 h9 => ?_)
  obtain ⟨e9, g9⟩ := h9
  rw [e9.trans (b2i_c (by rw [show (setG G 11 7 0) 12 13 = (G 12 13) from (setG_ne (by omega))])), g9]
  clear e9 g9
  refine aw_ifb_ne (q := 13) dX6_priceIn_10 rfl (t := 19) (by decide) (fun y1 => ?_) (fun y2 => ?_)
  · refine aw_iload_n (q := 20) 2 dX6_priceIn_19 rfl rfl rfl ?_
    refine aw_iconst (q := 21) dX6_priceIn_20 rfl ?_
    refine aw_bipush (q := 23) dX6_priceIn_21 rfl (by decide) ?_
    refine cs_I (q := 26) (As := [.int (iI h), .int (iI 0), .int (iI 48)]) 3 (c_in (T := T) (D := D) (ad := ad) (setG G 11 7 0) (by omega) (by omega) (by omega)) (fun _ h => h) wc_X6_in wm_RX6_62 wt_X6_in wn_X6 (by decide) rfl ⟨Nat.le_of_ble_eq_true rfl, Nat.le_of_ble_eq_true rfl⟩ ⟨Nat.le_of_ble_eq_true rfl, Nat.le_of_ble_eq_true rfl⟩ (Nat.le_of_ble_eq_true rfl) dX6_priceIn_23 rfl (fun r9 G9 h9 => ?_)
    rw [h9.1, h9.2]
    clear h9
    refine aw_ifb_ne (q := 29) dX6_priceIn_26 rfl (t := 35) (by decide) (fun y3 => ?_) (fun y4 => ?_)
    · refine aw_aload_n (q := 36) 0 dX6_priceIn_35 rfl rfl rfl ?_
      refine g_mod_p (q := 39) wf_RX6_7 dX6_priceIn_36 rfl ?_
      refine aw_iconst (q := 40) dX6_priceIn_39 rfl ?_
      refine aw_aload_n (q := 41) 0 dX6_priceIn_40 rfl rfl rfl ?_
      refine g_mod_before (q := 44) wf_RX6_35 dX6_priceIn_41 rfl ?_
      refine aw_iconst (q := 45) dX6_priceIn_44 rfl ?_
      refine cs_V (q := 48) (As := [.ref (ad 109), .int (iI 0), .ref (ad 117), .int (iI 0)]) 4 (c_bring (T := T) (D := D) (setG G 11 7 0) (ar_109 ad C) (ar_117 ad C) (by omega) (by omega) (by omega) (by omega)) (fun _ h => h) wc_X6_bring wm_RX6_55 wt_X6_bring wn_X6 (by decide) rfl ⟨Nat.le_of_ble_eq_true rfl, Nat.le_of_ble_eq_true rfl⟩ ⟨Nat.le_of_ble_eq_true rfl, Nat.le_of_ble_eq_true rfl⟩ (Nat.le_of_ble_eq_true rfl) dX6_priceIn_45 rfl (fun G9 h9 => ?_)
      rw [h9]
      clear h9
      refine aw_iconst (q := 49) dX6_priceIn_48 rfl ?_
      refine aw_istore_n (q := 50) (lv2 := [(0, .ref (ad 108)), (1, .int (iI c)), (2, .int (iI h)), (3, .int (iI 0))]) [1, 2, 3, 0] dX6_priceIn_49 rfl rfl (by decide) rfl rfl ?_
      obtain ⟨K, hK, z20, zs, z7⟩ : ∃ K : GG, (cpG (setG G 11 7 0) 20 0 311 12 0) = K ∧ (∀ y : Int, 0 ≤ y → y < 311 → K 20 y = G 12 y) ∧ sameB (fun x y => x = 20 ∨ (x = 11 ∧ y = 7)) G K ∧ K 11 7 = 0 := ⟨_, rfl, fun y z0 z1 => (cpG_in (by omega)).trans ((setG_ne (by omega)).trans (congrArg (G 12) (by omega))), fun x y z => (cpG_ne (by omega)).trans (setG_ne (by omega)), (cpG_ne (by omega)).trans (setG_same _ _ _ _)⟩
      rw [hK]
      have e9 := L_priceM (l := l) (T := T) (D := D) (C := C) (ad := ad) G K oH (c := c) (h := h) (by omega) (by omega) z20 zs z7 50 0 (by omega) (by omega)
      rw [show hoursR (G 12) (0 : Int).toNat = K 12 from (funext fun y => zs 12 y (by omega)).symm, onR_id] at e9
      exact e9
    · refine aw_aload_n (q := 30) 0 dX6_priceIn_29 rfl rfl rfl ?_
      refine aw_iconst (q := 31) dX6_priceIn_30 rfl ?_
      refine cv_I (q := 34) (CC := "") (id := 108) (As := [.int (iI 2)]) 1 (c_fails (T := T) (D := D) (ad := ad) (setG G 11 7 0)) (fun _ h => h) (by omega) (cell_108 ad C _) rfl wc_X6_fails wm_RX6_154 wi_X6_fails ws_X6_fails wn_X6 (by decide) rfl ⟨Nat.le_of_ble_eq_true rfl, Nat.le_of_ble_eq_true rfl⟩ ⟨Nat.le_of_ble_eq_true rfl, Nat.le_of_ble_eq_true rfl⟩ (Nat.le_of_ble_eq_true rfl) dX6_priceIn_31 rfl (fun r9 G9 h9 => ?_)
      rw [h9.1, h9.2]
      clear h9
      exact rt_i rfl (Nat.le_refl _) (Nat.le_refl _) (⟨⟨fun y _ _ => ((setG_ne (by omega)).trans (setG_ne (by omega))), fun x y z => ((setG_ne (by omega)).trans (setG_ne (by omega)))⟩, by first | (exact Or.inl ⟨by omega, (setG_same _ _ _ _)⟩) | (exact Or.inr (Or.inl ⟨by omega, by omega, (setG_same _ _ _ _)⟩))⟩) dX6_priceIn_34
  · refine aw_aload_n (q := 14) 0 dX6_priceIn_13 rfl rfl rfl ?_
    refine aw_iconst (q := 15) dX6_priceIn_14 rfl ?_
    refine cv_I (q := 18) (CC := "") (id := 108) (As := [.int (iI 1)]) 1 (c_fails (T := T) (D := D) (ad := ad) (setG G 11 7 0)) (fun _ h => h) (by omega) (cell_108 ad C _) rfl wc_X6_fails wm_RX6_154 wi_X6_fails ws_X6_fails wn_X6 (by decide) rfl ⟨Nat.le_of_ble_eq_true rfl, Nat.le_of_ble_eq_true rfl⟩ ⟨Nat.le_of_ble_eq_true rfl, Nat.le_of_ble_eq_true rfl⟩ (Nat.le_of_ble_eq_true rfl) dX6_priceIn_15 rfl (fun r9 G9 h9 => ?_)
    rw [h9.1, h9.2]
    clear h9
    exact rt_i rfl (Nat.le_refl _) (Nat.le_refl _) (⟨⟨fun y _ _ => ((setG_ne (by omega)).trans (setG_ne (by omega))), fun x y z => ((setG_ne (by omega)).trans (setG_ne (by omega)))⟩, by first | (exact Or.inl ⟨by omega, (setG_same _ _ _ _)⟩) | (exact Or.inr (Or.inl ⟨by omega, by omega, (setG_same _ _ _ _)⟩))⟩) dX6_priceIn_18
def fvM (g : Row) : Nat → Int
  | 0 => -1
  | n + 1 => if fvM g n < 0 ∨ ¬ fcl (fB (g (15 + 12 * (n : Int) + 10))) (fB (g (15 + 12 * fvM g n + 10))) ≤ 0 then (n : Int) else fvM g n
theorem fvM_r (g : Row) : ∀ n : Nat, -1 ≤ fvM g n ∧ fvM g n < (n : Int)
  | 0 => by show -1 ≤ (-1 : Int) ∧ (-1 : Int) < ((0 : Nat) : Int); omega
  | n + 1 => by
    have h := fvM_r g n
    unfold fvM
    split <;> omega
theorem fvM_1 {g : Row} {c : Int} (hc : 0 ≤ c) (h : fvM g c.toNat < 0 ∨ ¬ fcl (fB (g (15 + 12 * c + 10))) (fB (g (15 + 12 * fvM g c.toNat + 10))) ≤ 0) : fvM g (c + 1).toNat = c := by
  obtain ⟨n, rfl⟩ : ∃ n : Nat, c = n := ⟨c.toNat, by omega⟩
  rw [show ((n : Int) + 1).toNat = n + 1 by omega, show (n : Int).toNat = n by omega] at *
  exact if_pos h
theorem fvM_0 {g : Row} {c : Int} (hc : 0 ≤ c) (h : ¬ (fvM g c.toNat < 0 ∨ ¬ fcl (fB (g (15 + 12 * c + 10))) (fB (g (15 + 12 * fvM g c.toNat + 10))) ≤ 0)) : fvM g (c + 1).toNat = fvM g c.toNat := by
  obtain ⟨n, rfl⟩ : ∃ n : Nat, c = n := ⟨c.toNat, by omega⟩
  rw [show ((n : Int) + 1).toNat = n + 1 by omega, show (n : Int).toNat = n by omega] at *
  exact if_neg h
set_option maxHeartbeats 4000000 in
set_option maxRecDepth 100000 in
theorem L_favM {l : Launch} {D : va_G} {C : Nat → ClassId} {T : Nat → Nat} {ad : Int → Nat} (G : GG) (oH : okH (G 12)) : ∀ (n : Nat) (c b : Int), (0 ≤ c ∧ c ≤ G 12 13) → G 12 13 - c < n → b = fvM (G 12) c.toNat → AW l RX6 "favorite" cX6_favorite 3 (some .int) (fun _ => True) { frames := 2, cells := 0, slots := 0, locals := 56 } (hvE D (RI ad C (fun r G1 => quiet G G1 ∧ G1 11 7 = 0 ∧ r = fvM (G 12) (G 12 13).toNat)) (cw ad C G) 0 0) D (tyC C) (hvZ T (cw ad C G)) (cw ad C G) 9 [(0, .ref (ad 108)), (1, .int (iI b)), (2, .int (iI c))] [] (cw ad C (setG G 11 7 0)) 0 0 := by
  intro n
  induction n with
  | zero => intro c b hc hn; exact absurd hn (by have := oH.2.1; omega)
  | succ n ih =>
    intro c b hc hn hb
    have o13 := oH.2.1
    have hr := fvM_r (G 12) c.toNat
    rw [← hb] at hr
    refine aw_iload_n (q := 10) 2 dX6_favorite_9 rfl rfl rfl ?_
    refine aw_aload_n (q := 11) 0 dX6_favorite_10 rfl rfl rfl ?_
    refine g_mod_p (q := 14) wf_RX6_7 dX6_favorite_11 rfl ?_
    refine aw_bipush (q := 16) dX6_favorite_14 rfl (by decide) ?_
    refine aw_cial (q := 17) (v := (G 12 13)) 13 (ar_109 ad C) (by omega) (by omega) (setG_ne (by omega)) dX6_favorite_16 rfl ?_
    refine aw_icmp_ge (q := 20) dX6_favorite_17 rfl (t := 60) (by decide) (by omega) (by omega) (fun y1 => ?_) (fun y2 => ?_)
    · refine aw_iload_n (q := 61) 1 dX6_favorite_60 rfl rfl rfl ?_
      exact rt_i rfl (Nat.le_refl _) (Nat.le_refl _) (⟨quiet_7, setG_same _ _ _ _, by rw [hb, show c = G 12 13 by omega]⟩) dX6_favorite_61
    · refine aw_iload_n (q := 21) 1 dX6_favorite_20 rfl rfl rfl ?_
      refine aw_if_lt (q := 24) dX6_favorite_21 rfl (t := 48) (by decide) (by omega) (fun y3 => ?_) (fun y4 => ?_)
      · refine aw_iload_n (q := 49) 2 dX6_favorite_48 rfl rfl rfl ?_
        refine aw_goto (q := 53) dX6_favorite_49 (by decide) ?_
        refine aw_istore_n (q := 54) (lv2 := [(0, .ref (ad 108)), (1, .int (iI c)), (2, .int (iI c))]) [1, 0, 2] dX6_favorite_53 rfl rfl (by decide) rfl rfl ?_
        refine ae_iinc (q := 57) (lv2 := [(0, .ref (ad 108)), (1, .int (iI c)), (2, .int (iI (c + 1)))]) 2 [1, 2, 0] (c + 1) (by omega) dX6_favorite_54 rfl rfl (by decide) rfl ?_
        refine aw_goto (q := 9) dX6_favorite_57 (by decide) ?_
        exact ih (c + 1) c (by omega) (by omega) (by rw [fvM_1 hc.1 (by rw [← hb]; first | exact Or.inl (by omega) | exact Or.inr (by assumption))])
      · have oc := (oH.2.2 c (by omega) (by omega)).2.2.2.2.2.2.2.1
        have ob := (oH.2.2 b (by omega) (by omega)).2.2.2.2.2.2.2.1
        refine aw_aload_n (q := 25) 0 dX6_favorite_24 rfl rfl rfl ?_
        refine aw_iload_n (q := 26) 2 dX6_favorite_25 rfl rfl rfl ?_
        refine aw_bipush (q := 28) dX6_favorite_26 rfl (by decide) ?_
        refine cv_I (q := 31) (CC := "") (id := 108) (As := [.int (iI c), .int (iI 10)]) 2 (c_of (T := T) (D := D) (ad := ad) (setG G 11 7 0) (by omega) (by omega)) (fun _ h => h) (by omega) (cell_108 ad C _) rfl wc_X6_of wm_RX6_100 wi_X6_of ws_X6_of wn_X6 (by decide) rfl ⟨Nat.le_of_ble_eq_true rfl, Nat.le_of_ble_eq_true rfl⟩ ⟨Nat.le_of_ble_eq_true rfl, Nat.le_of_ble_eq_true rfl⟩ (Nat.le_of_ble_eq_true rfl) dX6_favorite_28 rfl (fun r9 G9 h9 => ?_)
        obtain ⟨e9, g9⟩ := h9
        rw [e9.trans ((setG_ne (by omega))), g9]
        clear e9 g9
        refine cs_F (q := 34) (As := [.int (iI ((G 12 (15 + 12 * c + 10))))]) 1 (c_real (T := T) (D := D) (ad := ad) (setG G 11 7 0) (x := (G 12 (15 + 12 * c + 10))) oc) (fun _ h => h) wc_X6_real wm_RX6_121 wt_X6_real wn_X6 (by decide) rfl ⟨Nat.le_of_ble_eq_true rfl, Nat.le_of_ble_eq_true rfl⟩ ⟨Nat.le_of_ble_eq_true rfl, Nat.le_of_ble_eq_true rfl⟩ (Nat.le_of_ble_eq_true rfl) dX6_favorite_31 rfl (fun r9 G9 h9 => ?_)
        rw [h9.1, h9.2]
        clear h9
        refine aw_aload_n (q := 35) 0 dX6_favorite_34 rfl rfl rfl ?_
        refine aw_iload_n (q := 36) 1 dX6_favorite_35 rfl rfl rfl ?_
        refine aw_bipush (q := 38) dX6_favorite_36 rfl (by decide) ?_
        refine cv_I (q := 41) (CC := "") (id := 108) (As := [.int (iI b), .int (iI 10)]) 2 (c_of (T := T) (D := D) (ad := ad) (setG G 11 7 0) (by omega) (by omega)) (fun _ h => h) (by omega) (cell_108 ad C _) rfl wc_X6_of wm_RX6_100 wi_X6_of ws_X6_of wn_X6 (by decide) rfl ⟨Nat.le_of_ble_eq_true rfl, Nat.le_of_ble_eq_true rfl⟩ ⟨Nat.le_of_ble_eq_true rfl, Nat.le_of_ble_eq_true rfl⟩ (Nat.le_of_ble_eq_true rfl) dX6_favorite_38 rfl (fun r9 G9 h9 => ?_)
        obtain ⟨e9, g9⟩ := h9
        rw [e9.trans ((setG_ne (by omega))), g9]
        clear e9 g9
        refine cs_F (q := 44) (As := [.int (iI ((G 12 (15 + 12 * b + 10))))]) 1 (c_real (T := T) (D := D) (ad := ad) (setG G 11 7 0) (x := (G 12 (15 + 12 * b + 10))) ob) (fun _ h => h) wc_X6_real wm_RX6_121 wt_X6_real wn_X6 (by decide) rfl ⟨Nat.le_of_ble_eq_true rfl, Nat.le_of_ble_eq_true rfl⟩ ⟨Nat.le_of_ble_eq_true rfl, Nat.le_of_ble_eq_true rfl⟩ (Nat.le_of_ble_eq_true rfl) dX6_favorite_41 rfl (fun r9 G9 h9 => ?_)
        rw [h9.1, h9.2]
        clear h9
        refine aw_fcmp (q := 45) dX6_favorite_44 rfl ?_
        refine aw_ifW_le (q := 48) dX6_favorite_45 rfl (t := 52) (by decide) (fun y5 => ?_) (fun y6 => ?_)
        · refine aw_iload_n (q := 53) 1 dX6_favorite_52 rfl rfl rfl ?_
          refine aw_istore_n (q := 54) (lv2 := [(0, .ref (ad 108)), (1, .int (iI b)), (2, .int (iI c))]) [1, 0, 2] dX6_favorite_53 rfl rfl (by decide) rfl rfl ?_
          refine ae_iinc (q := 57) (lv2 := [(0, .ref (ad 108)), (1, .int (iI b)), (2, .int (iI (c + 1)))]) 2 [1, 2, 0] (c + 1) (by omega) dX6_favorite_54 rfl rfl (by decide) rfl ?_
          refine aw_goto (q := 9) dX6_favorite_57 (by decide) ?_
          exact ih (c + 1) b (by omega) (by omega) (by rw [fvM_0 hc.1 (by rw [← hb]; intro q; rcases q with q | q <;> first | omega | contradiction)]; exact hb)
        · refine aw_iload_n (q := 49) 2 dX6_favorite_48 rfl rfl rfl ?_
          refine aw_goto (q := 53) dX6_favorite_49 (by decide) ?_
          refine aw_istore_n (q := 54) (lv2 := [(0, .ref (ad 108)), (1, .int (iI c)), (2, .int (iI c))]) [1, 0, 2] dX6_favorite_53 rfl rfl (by decide) rfl rfl ?_
          refine ae_iinc (q := 57) (lv2 := [(0, .ref (ad 108)), (1, .int (iI c)), (2, .int (iI (c + 1)))]) 2 [1, 2, 0] (c + 1) (by omega) dX6_favorite_54 rfl rfl (by decide) rfl ?_
          refine aw_goto (q := 9) dX6_favorite_57 (by decide) ?_
          exact ih (c + 1) c (by omega) (by omega) (by rw [fvM_1 hc.1 (by rw [← hb]; first | exact Or.inl (by omega) | exact Or.inr (by assumption))])
set_option maxHeartbeats 4000000 in
set_option maxRecDepth 100000 in
theorem c_favoriteM {l : Launch} {D : va_G} {C : Nat → ClassId} {T : Nat → Nat} {ad : Int → Nat} (G : GG) (oH : okH (G 12)) : MC l yX6_favorite cX6_favorite 3 (some .int) 2 56 0 0 D (tyC C) T [.ref (ad 108)] (cw ad C G) (RI ad C (fun r G1 => quiet G G1 ∧ G1 11 7 = 0 ∧ r = fvM (G 12) (G 12 13).toNat)) := by
  refine mc_of (by decide +kernel) (Nat.le_of_ble_eq_true rfl) rfl ?_
  have o13 := oH.2.1
  refine aw_aload_n (q := 1) 0 dX6_favorite_0 rfl rfl rfl ?_
  refine aw_iconst (q := 2) dX6_favorite_1 rfl ?_
  refine p_mod_thrown (q := 5) wf_RX6_38 dX6_favorite_2 rfl ?_
  refine aw_iconst (q := 6) dX6_favorite_5 rfl ?_
  refine aw_istore_n (q := 7) (lv2 := [(0, .ref (ad 108)), (1, .int (iI (-1)))]) [1, 0] dX6_favorite_6 rfl rfl (by decide) rfl rfl ?_
  refine aw_iconst (q := 8) dX6_favorite_7 rfl ?_
  refine aw_istore_n (q := 9) (lv2 := [(0, .ref (ad 108)), (1, .int (iI (-1))), (2, .int (iI 0))]) [1, 2, 0] dX6_favorite_8 rfl rfl (by decide) rfl rfl ?_
  exact L_favM (l := l) (T := T) (D := D) (C := C) (ad := ad) G oH 9 0 (-1) (by omega) (by omega) rfl
set_option maxHeartbeats 4000000 in
set_option maxRecDepth 100000 in
theorem c_appendM {l : Launch} {D : va_G} {C : Nat → ClassId} {T : Nat → Nat} {ad : Int → Nat} (G : GG) {v : Int} (hL : 0 ≤ G 11 6 ∧ G 11 6 ≤ 100) (hv : -2147483648 ≤ v ∧ v ≤ 2147483647) : MC l yX6_append cX6_append 2 (some .int) 1 22 0 0 D (tyC C) T [.ref (ad 108), .int (iI v)] (cw ad C G) (RI ad C (fun r G1 => (¬ (0 ≤ v ∧ v ≤ 127) ∧ G1 11 7 = 1 ∧ quiet G G1) ∨ ((0 ≤ v ∧ v ≤ 127) ∧ G 11 6 = 100 ∧ G1 11 7 = 2 ∧ quiet G G1) ∨ (((0 ≤ v ∧ v ≤ 127) ∧ ¬ G 11 6 = 100) ∧ r = G 11 6 + 1 ∧ G1 11 7 = 0 ∧ G1 11 6 = G 11 6 + 1 ∧ G1 16 (G 11 6) = v ∧ sameB (fun x y => (x = 11 ∧ (y = 6 ∨ y = 7)) ∨ (x = 16 ∧ y = G 11 6)) G G1))) := by
  refine mc_of (by decide +kernel) (Nat.le_of_ble_eq_true rfl) rfl ?_
  refine aw_aload_n (q := 1) 0 dX6_append_0 rfl rfl rfl ?_
  refine aw_iconst (q := 2) dX6_append_1 rfl ?_
  refine p_mod_thrown (q := 5) wf_RX6_38 dX6_append_2 rfl ?_
  refine aw_iload_n (q := 6) 1 dX6_append_5 rfl rfl rfl ?_
  refine aw_iconst (q := 7) dX6_append_6 rfl ?_
  refine aw_bipush (q := 9) dX6_append_7 rfl (by decide) ?_
  refine cs_I (q := 12) (As := [.int (iI v), .int (iI 0), .int (iI 127)]) 3 (c_in (T := T) (D := D) (ad := ad) (setG G 11 7 0) (by omega) (by omega) (by omega)) (fun _ h => h) wc_X6_in wm_RX6_62 wt_X6_in wn_X6 (by decide) rfl ⟨Nat.le_of_ble_eq_true rfl, Nat.le_of_ble_eq_true rfl⟩ ⟨Nat.le_of_ble_eq_true rfl, Nat.le_of_ble_eq_true rfl⟩ (Nat.le_of_ble_eq_true rfl) dX6_append_9 rfl (fun r9 G9 h9 => ?_)
  rw [h9.1, h9.2]
  clear h9
  refine aw_ifb_ne (q := 15) dX6_append_12 rfl (t := 21) (by decide) (fun y1 => ?_) (fun y2 => ?_)
  · refine aw_aload_n (q := 22) 0 dX6_append_21 rfl rfl rfl ?_
    refine g_mod_length (q := 25) (v := (G 11 6)) (setG_ne (by omega)) wf_RX6_166 dX6_append_22 rfl ?_
    refine aw_bipush (q := 27) dX6_append_25 rfl (by decide) ?_
    refine aw_icmp_ne (q := 30) dX6_append_27 rfl (t := 36) (by decide) (by omega) (by omega) (fun y3 => ?_) (fun y4 => ?_)
    · refine aw_aload_n (q := 37) 0 dX6_append_36 rfl rfl rfl ?_
      refine g_mod_text (q := 40) wf_RX6_22 dX6_append_37 rfl ?_
      refine aw_aload_n (q := 41) 0 dX6_append_40 rfl rfl rfl ?_
      refine g_mod_length (q := 44) (v := (G 11 6)) (setG_ne (by omega)) wf_RX6_166 dX6_append_41 rfl ?_
      refine aw_iload_n (q := 45) 1 dX6_append_44 rfl rfl rfl ?_
      refine aw_cias (q := 46) (G 11 6) (ar_113 ad C) (by omega) (by omega) dX6_append_45 rfl ?_
      refine aw_aload_n (q := 47) 0 dX6_append_46 rfl rfl rfl ?_
      refine aw_dup (q := 48) dX6_append_47 rfl rfl ?_
      refine g_mod_length (q := 51) (v := (G 11 6)) ((setG_ne (by omega)).trans (setG_ne (by omega))) wf_RX6_166 dX6_append_48 rfl ?_
      refine aw_iconst (q := 52) dX6_append_51 rfl ?_
      refine ae_iadd (q := 53) ((G 11 6) + 1) (by omega) dX6_append_52 rfl ?_
      refine p_mod_length (q := 56) wf_RX6_166 dX6_append_53 rfl ?_
      refine aw_aload_n (q := 57) 0 dX6_append_56 rfl rfl rfl ?_
      refine g_mod_length (q := 60) (v := (G 11 6) + 1) (setG_same _ _ _ _) wf_RX6_166 dX6_append_57 rfl ?_
      exact rt_i rfl (Nat.le_refl _) (Nat.le_refl _) (Or.inr (Or.inr ⟨⟨by omega, by omega⟩, rfl, ((setG_ne (by omega)).trans ((setG_ne (by omega)).trans (setG_same _ _ _ _))), (setG_same _ _ _ _), (setG_ne (by omega)).trans (setG_same _ _ _ _), fun x y z => ((setG_ne (by omega)).trans ((setG_ne (by omega)).trans (setG_ne (by omega))))⟩)) dX6_append_60
    · refine aw_aload_n (q := 31) 0 dX6_append_30 rfl rfl rfl ?_
      refine aw_iconst (q := 32) dX6_append_31 rfl ?_
      refine cv_I (q := 35) (CC := "") (id := 108) (As := [.int (iI 2)]) 1 (c_fails (T := T) (D := D) (ad := ad) (setG G 11 7 0)) (fun _ h => h) (by omega) (cell_108 ad C _) rfl wc_X6_fails wm_RX6_154 wi_X6_fails ws_X6_fails wn_X6 (by decide) rfl ⟨Nat.le_of_ble_eq_true rfl, Nat.le_of_ble_eq_true rfl⟩ ⟨Nat.le_of_ble_eq_true rfl, Nat.le_of_ble_eq_true rfl⟩ (Nat.le_of_ble_eq_true rfl) dX6_append_32 rfl (fun r9 G9 h9 => ?_)
      rw [h9.1, h9.2]
      clear h9
      exact rt_i rfl (Nat.le_refl _) (Nat.le_refl _) ((by first | (exact Or.inl ⟨by omega, (setG_same _ _ _ _), ⟨fun y _ _ => ((setG_ne (by omega)).trans (setG_ne (by omega))), fun x y z => ((setG_ne (by omega)).trans (setG_ne (by omega)))⟩⟩) | (exact Or.inr (Or.inl ⟨by omega, by omega, (setG_same _ _ _ _), ⟨fun y _ _ => ((setG_ne (by omega)).trans (setG_ne (by omega))), fun x y z => ((setG_ne (by omega)).trans (setG_ne (by omega)))⟩⟩)))) dX6_append_35
  · refine aw_aload_n (q := 16) 0 dX6_append_15 rfl rfl rfl ?_
    refine aw_iconst (q := 17) dX6_append_16 rfl ?_
    refine cv_I (q := 20) (CC := "") (id := 108) (As := [.int (iI 1)]) 1 (c_fails (T := T) (D := D) (ad := ad) (setG G 11 7 0)) (fun _ h => h) (by omega) (cell_108 ad C _) rfl wc_X6_fails wm_RX6_154 wi_X6_fails ws_X6_fails wn_X6 (by decide) rfl ⟨Nat.le_of_ble_eq_true rfl, Nat.le_of_ble_eq_true rfl⟩ ⟨Nat.le_of_ble_eq_true rfl, Nat.le_of_ble_eq_true rfl⟩ (Nat.le_of_ble_eq_true rfl) dX6_append_17 rfl (fun r9 G9 h9 => ?_)
    rw [h9.1, h9.2]
    clear h9
    exact rt_i rfl (Nat.le_refl _) (Nat.le_refl _) ((by first | (exact Or.inl ⟨by omega, (setG_same _ _ _ _), ⟨fun y _ _ => ((setG_ne (by omega)).trans (setG_ne (by omega))), fun x y z => ((setG_ne (by omega)).trans (setG_ne (by omega)))⟩⟩) | (exact Or.inr (Or.inl ⟨by omega, by omega, (setG_same _ _ _ _), ⟨fun y _ _ => ((setG_ne (by omega)).trans (setG_ne (by omega))), fun x y z => ((setG_ne (by omega)).trans (setG_ne (by omega)))⟩⟩)))) dX6_append_20
set_option maxHeartbeats 4000000 in
set_option maxRecDepth 100000 in
theorem c_clearTextM {l : Launch} {D : va_G} {C : Nat → ClassId} {T : Nat → Nat} {ad : Int → Nat} (G : GG)  : MC l yX6_clearText cX6_clearText 2 (some .int) 0 0 0 0 D (tyC C) T [.ref (ad 108)] (cw ad C G) (RI ad C (fun r G1 => r = G 11 6 ∧ G1 = setG (setG G 11 7 0) 11 6 0)) := by
  refine mc_of (by decide +kernel) (Nat.le_of_ble_eq_true rfl) rfl ?_
  refine aw_aload_n (q := 1) 0 dX6_clearText_0 rfl rfl rfl ?_
  refine aw_iconst (q := 2) dX6_clearText_1 rfl ?_
  refine p_mod_thrown (q := 5) wf_RX6_38 dX6_clearText_2 rfl ?_
  refine aw_aload_n (q := 6) 0 dX6_clearText_5 rfl rfl rfl ?_
  refine g_mod_length (q := 9) (v := (G 11 6)) (setG_ne (by omega)) wf_RX6_166 dX6_clearText_6 rfl ?_
  refine aw_istore_n (q := 10) (lv2 := [(0, .ref (ad 108)), (1, .int (iI (G 11 6)))]) [1, 0] dX6_clearText_9 rfl rfl (by decide) rfl rfl ?_
  refine aw_aload_n (q := 11) 0 dX6_clearText_10 rfl rfl rfl ?_
  refine aw_iconst (q := 12) dX6_clearText_11 rfl ?_
  refine p_mod_length (q := 15) wf_RX6_166 dX6_clearText_12 rfl ?_
  refine aw_iload_n (q := 16) 1 dX6_clearText_15 rfl rfl rfl ?_
  exact rt_i rfl (Nat.le_refl _) (Nat.le_refl _) (⟨rfl, rfl⟩) dX6_clearText_16
set_option maxHeartbeats 4000000 in
set_option maxRecDepth 100000 in
theorem c_undoM {l : Launch} {D : va_G} {C : Nat → ClassId} {T : Nat → Nat} {ad : Int → Nat} (G : GG) (h4 : 0 ≤ G 11 4 ∧ G 11 4 ≤ 4) : MC l yX6_undo cX6_undo 1 (some .int) 1 24 0 0 D (tyC C) T [.ref (ad 108)] (cw ad C G) (RI ad C (fun r G1 => (G 11 4 = 0 ∧ G1 11 7 = 1 ∧ quiet G G1) ∨ (1 ≤ G 11 4 ∧ r = G 11 4 - 1 ∧ G1 11 7 = 0 ∧ G1 11 4 = G 11 4 - 1 ∧ (∀ y : Int, 0 ≤ y → y < 311 → G1 12 y = G 15 (311 * (G 11 4 - 1) + y)) ∧ sameB (fun x y => x = 12 ∨ (x = 11 ∧ (y = 4 ∨ y = 7))) G G1))) := by
  refine mc_of (by decide +kernel) (Nat.le_of_ble_eq_true rfl) rfl ?_
  refine aw_aload_n (q := 1) 0 dX6_undo_0 rfl rfl rfl ?_
  refine aw_iconst (q := 2) dX6_undo_1 rfl ?_
  refine p_mod_thrown (q := 5) wf_RX6_38 dX6_undo_2 rfl ?_
  refine aw_aload_n (q := 6) 0 dX6_undo_5 rfl rfl rfl ?_
  refine g_mod_states (q := 9) (v := (G 11 4)) (setG_ne (by omega)) wf_RX6_59 dX6_undo_6 rfl ?_
  refine aw_if_ne (q := 12) dX6_undo_9 rfl (t := 18) (by decide) (by omega) (fun y1 => ?_) (fun y2 => ?_)
  · refine aw_aload_n (q := 19) 0 dX6_undo_18 rfl rfl rfl ?_
    refine aw_dup (q := 20) dX6_undo_19 rfl rfl ?_
    refine g_mod_states (q := 23) (v := (G 11 4)) (setG_ne (by omega)) wf_RX6_59 dX6_undo_20 rfl ?_
    refine aw_iconst (q := 24) dX6_undo_23 rfl ?_
    refine ae_isub (q := 25) ((G 11 4) - 1) (by omega) dX6_undo_24 rfl ?_
    refine p_mod_states (q := 28) wf_RX6_59 dX6_undo_25 rfl ?_
    refine aw_aload_n (q := 29) 0 dX6_undo_28 rfl rfl rfl ?_
    refine g_mod_saved (q := 32) wf_RX6_19 dX6_undo_29 rfl ?_
    refine aw_sipush (q := 35) dX6_undo_32 rfl (by decide) ?_
    refine aw_aload_n (q := 36) 0 dX6_undo_35 rfl rfl rfl ?_
    refine g_mod_states (q := 39) (v := (G 11 4) - 1) (setG_same _ _ _ _) wf_RX6_59 dX6_undo_36 rfl ?_
    refine ae_imul (q := 40) (311 * (G 11 4) - 311) (by omega) dX6_undo_39 rfl ?_
    refine aw_aload_n (q := 41) 0 dX6_undo_40 rfl rfl rfl ?_
    refine g_mod_p (q := 44) wf_RX6_7 dX6_undo_41 rfl ?_
    refine aw_iconst (q := 45) dX6_undo_44 rfl ?_
    refine cs_V (q := 48) (As := [.ref (ad 112), .int (iI (311 * (G 11 4) - 311)), .ref (ad 109), .int (iI 0)]) 4 (c_bring (T := T) (D := D) (setG (setG G 11 7 0) 11 4 ((G 11 4) - 1)) (ar_112 ad C) (ar_109 ad C) (by omega) (by omega) (by omega) (by omega)) (fun _ h => h) wc_X6_bring wm_RX6_55 wt_X6_bring wn_X6 (by decide) rfl ⟨Nat.le_of_ble_eq_true rfl, Nat.le_of_ble_eq_true rfl⟩ ⟨Nat.le_of_ble_eq_true rfl, Nat.le_of_ble_eq_true rfl⟩ (Nat.le_of_ble_eq_true rfl) dX6_undo_45 rfl (fun G9 h9 => ?_)
    rw [h9]
    clear h9
    refine aw_aload_n (q := 49) 0 dX6_undo_48 rfl rfl rfl ?_
    refine g_mod_states (q := 52) (v := (G 11 4) - 1) ((if_neg (by omega)).trans (setG_same _ _ _ _)) wf_RX6_59 dX6_undo_49 rfl ?_
    exact rt_i rfl (Nat.le_refl _) (Nat.le_refl _) (Or.inr ⟨by omega, rfl, (cpG_ne (by omega)).trans ((setG_ne (by omega)).trans (setG_same _ _ _ _)), (cpG_ne (by omega)).trans (setG_same _ _ _ _), fun y z0 z1 => (cpG_in (by omega)).trans ((setG_ne (by omega)).trans ((setG_ne (by omega)).trans (congrArg (G 15) (by omega)))), fun x y z => (cpG_ne (by omega)).trans ((setG_ne (by omega)).trans (setG_ne (by omega)))⟩) dX6_undo_52
  · refine aw_aload_n (q := 13) 0 dX6_undo_12 rfl rfl rfl ?_
    refine aw_iconst (q := 14) dX6_undo_13 rfl ?_
    refine cv_I (q := 17) (CC := "") (id := 108) (As := [.int (iI 1)]) 1 (c_fails (T := T) (D := D) (ad := ad) (setG G 11 7 0)) (fun _ h => h) (by omega) (cell_108 ad C _) rfl wc_X6_fails wm_RX6_154 wi_X6_fails ws_X6_fails wn_X6 (by decide) rfl ⟨Nat.le_of_ble_eq_true rfl, Nat.le_of_ble_eq_true rfl⟩ ⟨Nat.le_of_ble_eq_true rfl, Nat.le_of_ble_eq_true rfl⟩ (Nat.le_of_ble_eq_true rfl) dX6_undo_14 rfl (fun r9 G9 h9 => ?_)
    rw [h9.1, h9.2]
    clear h9
    exact rt_i rfl (Nat.le_refl _) (Nat.le_refl _) (Or.inl ⟨by omega, (setG_same _ _ _ _), ⟨fun y _ _ => ((setG_ne (by omega)).trans (setG_ne (by omega))), fun x y z => ((setG_ne (by omega)).trans (setG_ne (by omega)))⟩⟩) dX6_undo_17
