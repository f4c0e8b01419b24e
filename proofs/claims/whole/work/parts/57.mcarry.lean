/-! class CoilPricesModel: orders are carried out -/
theorem okH_sh {G : GG} (o : okH (G 12)) : okH (sh G 12) := by
  obtain ⟨os, oc, ok⟩ := o
  have e : ∀ y : Int, y ≠ 311 → sh G 12 y = G 12 y := fun y hy => sh_ne (by omega)
  refine ⟨?_, by rw [e 13 (by omega)]; exact oc, fun d z0 z1 => ?_⟩
  · unfold okS at *
    rw [e 0 (by omega), e 1 (by omega), e 2 (by omega), e 3 (by omega), e 4 (by omega)]
    exact os
  · rw [e 13 (by omega)] at z1
    exact okC_congr (fun k z2 z3 => e _ (by omega)) (ok d z0 z1)
/-- what is paid of a page, beside it -/
theorem keepP_of {S H W : GG} (eS : ∀ y : Int, y ≠ 311 → W 12 y = S 12 y) (h14 : 0 ≤ S 12 14 ∧ S 12 14 ≤ 200) (kb : 0 ≤ (kpG S 12).1 ∧ (kpG S 12).1 ≤ S 12 14) (hk : keepM S (kpG S 12) H) : ∃ H' : GG, keepP W 12 (kpG W 12) H' ∧ ∀ y : Int, y ≠ 311 → H' 12 y = H 12 y := by
  have ek : kpG W 12 = kpG S 12 := by
    show kp (prm W 12) (W 12 14) 201 0 (W 12 5) (W 12 6) (W 12 7) (W 12 8) = _
    rw [eS 14 (by omega), eS 5 (by omega), eS 6 (by omega), eS 7 (by omega), eS 8 (by omega)]
    exact kp_congr (fun m z0 z1 => eS _ (by omega)) _ _ _ _ _ _ (by omega)
  obtain ⟨H', hH⟩ : ∃ H' : GG, H' = onR W 12 (up (H 12) 311 (W 12 311 - sumQ (prm W 12) (kpG W 12).1.toNat)) := ⟨_, rfl⟩
  have eH : ∀ y : Int, y ≠ 311 → H' 12 y = H 12 y := fun y hy => by rw [hH, onR_at, up_n hy]
  obtain ⟨k1, k2, k3, k4, k5, k6, k7, k8⟩ := hk
  have esum : sumQ (prm W 12) (kpG S 12).1.toNat = sumQ (prm S 12) (kpG S 12).1.toNat := sumQ_eq _ (fun m z0 z1 => eS _ (by omega))
  refine ⟨H', ?_, eH⟩
  rw [ek] at hH ⊢
  refine ⟨by rw [eH 5 (by omega)]; exact k1, by rw [eH 6 (by omega)]; exact k2, by rw [eH 7 (by omega)]; exact k3, by rw [eH 8 (by omega)]; exact k4, by rw [eH 14 (by omega), eS 14 (by omega)]; exact k5, by rw [hH, onR_at, up_s], by rw [eH 11 (by omega), eS 11 (by omega), esum]; exact k6, fun m z0 z1 => ?_, fun u y z => ?_⟩
  · rw [eS 14 (by omega)] at z1
    rw [eH _ (by omega), eS _ (by omega)]; exact k7 m z0 z1
  · by_cases e : u = 12
    · subst e
      rw [eH _ (by omega), eS _ (by omega)]
      exact k8 12 y (by omega)
    · rw [hH, onR_ne e]
theorem okN12_goods {G : GG} {c v : Int} (hc : 0 ≤ c ∧ c < 8) (hv : 0 ≤ v ∧ v ≤ 20) (o : okN12 G) : okN12 (setG G 12 (15 + 12 * c + 1) v) :=
  okN12_of (okN_goods hc hv o) (fun y hy => by
    by_cases e : y = 15 + 12 * c + 1
    · rw [e, setG_same, setG_same]
    · rw [setG_ne (by omega), setG_ne (by omega), sh_ne (by omega)])
theorem okN12_fill {G H : GG} {t n : Int} (ht : 0 ≤ t ∧ t < 4) (hn : 0 ≤ n) (o : okN12 G) (h : keepM (fillG G 12 t n) (kpG (fillG G 12 t n) 12) H) : okN12 H := by
  have oP := okP_fill (okN12_P o) ht hn
  have kb := (keep_k oP).1
  have eF : ∀ y : Int, y ≠ 311 → fillG (sh G) 12 t n 12 y = fillG G 12 t n 12 y := fun y hy => by
    unfold fillG
    by_cases e : y = 5 + t
    · rw [e, setG_same, setG_same, sh_ne (by omega)]
    · rw [setG_ne (by omega), setG_ne (by omega), sh_ne (by omega)]
  obtain ⟨H', h1, h2⟩ := keepP_of (W := fillG (sh G) 12 t n) eF oP.1 kb h
  exact okN12_of (okN_fill ht hn o h1) (fun y hy => (h2 y (by omega)).symm)
theorem okN12_hours {G : GG} (o : okN12 G) (n : Nat) : okN12 (onR G 12 (hoursR (G 12) n)) := by
  have oH := okN12_H o
  have oP := okN12_P o
  have oK : okH (onR G 12 (hoursR (G 12) n) 12) := by rw [onR_at]; exact okH_hours oH n
  have e : ∀ y : Int, ((y < 10 ∨ y = 11 ∨ y = 13 ∨ y = 14) ∨ 111 ≤ y) → onR G 12 (hoursR (G 12) n) 12 y = G 12 y := fun y hy => by rw [onR_at]; exact hours_ne oH hy n
  refine ⟨okH_sh oK, okPR_congr (G := sh G) (j := 12) (fun y hy => ?_) o.2⟩
  by_cases z : y = 311
  · rw [z, sh_at, sh_at]
    exact sum_prm (by have := oP.1; omega) (fun m z0 z1 => e _ (by omega)) (e 14 (by omega))
  · rw [sh_ne (by omega), sh_ne (by omega)]
    exact e y (by omega)
/-- what is read of an order -/
def ordV (B : Int → Int) (p : Int) (G1 : GG) : Prop := (B p ≠ 104 → G1 11 17 = B (p + 1) - 48) ∧ (B p = 115 ∨ B p = 102 → G1 11 15 = nV B (p + 3)) ∧ (B p = 104 → G1 11 15 = nV B (p + 1)) ∧ (B p = 98 → ∀ k : Int, 0 ≤ k → k < 4 → G1 18 k = B (p + 2 * k + 3) - 48)
def roM (G : GG) (p r : Int) (G1 : GG) : Prop := sameB roS_ G G1 ∧ ((okOrd (bM G) p ∧ r = 1 ∧ G1 11 13 = nxt (bM G) p ∧ G1 11 14 = bM G p ∧ ordV (bM G) p G1) ∨ (¬ okOrd (bM G) p ∧ r = 0 ∧ G1 11 13 = flt (bM G) p))
theorem okOrd_nxt {G : GG} (o : okX G) {p : Int} (h0 : 0 ≤ p) (h : okOrd (bM G) p) : p < nxt (bM G) p ∧ nxt (bM G) p ≤ 100 := by
  have q3 := nQ_b (bM G) (p + 3)
  have q1 := nQ_b (bM G) (p + 1)
  unfold nxt
  rcases h with ⟨a, b⟩ | ⟨a, b⟩ | ⟨a, b⟩ | ⟨a, b⟩
  · rw [if_pos a]
    have := bM_lt o (p := nQ (bM G) (p + 3)) (by rw [b.2.2.2]; omega)
    omega
  · rw [if_neg (by omega), if_pos a]
    have := bM_lt o (p := p + 10) (by rw [b.2.2]; omega)
    omega
  · rw [if_neg (by omega), if_neg (by omega), if_pos a]
    have := bM_lt o (p := nQ (bM G) (p + 3)) (by rw [b.2.2.2]; omega)
    omega
  · rw [if_neg (by omega), if_neg (by omega), if_neg (by omega)]
    have := bM_lt o (p := nQ (bM G) (p + 1)) (by rw [b.2]; omega)
    omega
theorem c_roM {l : Launch} {D : va_G} {C : Nat → ClassId} {T : Nat → Nat} {ad : Int → Nat} (G : GG) (o : okX G) {p : Int} (hp : G 11 13 = p) (h0 : 0 ≤ p) (h1 : p ≤ 100) : MC l yX6_readOrder cX6_readOrder 2 (some .boolean) 3 65 0 0 D (tyC C) T [.ref (ad 108)] (cw ad C G) (RI ad C (fun r G1 => roM G p r G1)) := by
  have nn : ∀ L : Int, L = 115 ∨ L = 98 ∨ L = 102 ∨ L = 104 ∨ (¬ L = 115 ∧ ¬ L = 98 ∧ ¬ L = 102 ∧ ¬ L = 104) := fun L => by omega
  rcases nn (bM G p) with hL | hL | hL | hL | hL
  · refine (c_order115 G o hp h0 h1 hL).mono (fun v w e => ?_)
    obtain ⟨r, G1, e1, e2, e3, e4⟩ := e
    refine ⟨r, G1, e1, e2, e4, ?_⟩
    rcases e3 with ⟨a, b, c, v0, v1, v2⟩ | ⟨a, b, c⟩
    · exact Or.inl ⟨Or.inl ⟨hL, a⟩, b, c.trans (if_pos hL).symm, v0.trans hL.symm, ⟨fun _ => v1, fun _ => v2, fun q => by omega, fun q => by omega⟩⟩
    · exact Or.inr ⟨fun q => by rcases q with ⟨q1, q2⟩ | ⟨q1, q2⟩ | ⟨q1, q2⟩ | ⟨q1, q2⟩ <;> first | exact a q2 | omega, b, c.trans (if_pos hL).symm⟩
  · refine (c_order98 G o hp h0 h1 hL).mono (fun v w e => ?_)
    obtain ⟨r, G1, e1, e2, e3, e4⟩ := e
    refine ⟨r, G1, e1, e2, e4, ?_⟩
    rcases e3 with ⟨a, b, c, v0, v1, v2, v3, v4, v5⟩ | ⟨a, b, c⟩
    · exact Or.inl ⟨Or.inr (Or.inl ⟨hL, a⟩), b, c.trans ((if_neg (by omega)).trans (if_pos hL)).symm, v0.trans hL.symm, ⟨fun _ => v1, fun q => by omega, fun q => by omega, fun _ k z0 z1 => by
        rcases (by omega : k = 0 ∨ k = 1 ∨ k = 2 ∨ k = 3) with rfl | rfl | rfl | rfl
        · exact v2.trans (by congr 2; omega)
        · exact v3.trans (by congr 2; omega)
        · exact v4.trans (by congr 2; omega)
        · exact v5.trans (by congr 2; omega)⟩⟩
    · exact Or.inr ⟨fun q => by rcases q with ⟨q1, q2⟩ | ⟨q1, q2⟩ | ⟨q1, q2⟩ | ⟨q1, q2⟩ <;> first | exact a q2 | omega, b, c.trans ((if_neg (by omega)).trans (if_pos hL)).symm⟩
  · refine (c_order102 G o hp h0 h1 hL).mono (fun v w e => ?_)
    obtain ⟨r, G1, e1, e2, e3, e4⟩ := e
    refine ⟨r, G1, e1, e2, e4, ?_⟩
    rcases e3 with ⟨a, b, c, v0, v1, v2⟩ | ⟨a, b, c⟩
    · exact Or.inl ⟨Or.inr (Or.inr (Or.inl ⟨hL, a⟩)), b, c.trans ((if_neg (by omega)).trans ((if_neg (by omega)).trans (if_pos hL))).symm, v0.trans hL.symm, ⟨fun _ => v1, fun _ => v2, fun q => by omega, fun q => by omega⟩⟩
    · exact Or.inr ⟨fun q => by rcases q with ⟨q1, q2⟩ | ⟨q1, q2⟩ | ⟨q1, q2⟩ | ⟨q1, q2⟩ <;> first | exact a q2 | omega, b, c.trans ((if_neg (by omega)).trans ((if_neg (by omega)).trans (if_pos hL))).symm⟩
  · refine (c_order104 G o hp h0 h1 hL).mono (fun v w e => ?_)
    obtain ⟨r, G1, e1, e2, e3, e4⟩ := e
    refine ⟨r, G1, e1, e2, e4, ?_⟩
    rcases e3 with ⟨a, b, c, v0, v1⟩ | ⟨a, b, c⟩
    · exact Or.inl ⟨Or.inr (Or.inr (Or.inr ⟨hL, a⟩)), b, c.trans ((if_neg (by omega)).trans ((if_neg (by omega)).trans (if_neg (by omega)))).symm, v0.trans hL.symm, ⟨fun q => by omega, fun q => by omega, fun _ => v1, fun q => by omega⟩⟩
    · exact Or.inr ⟨fun q => by rcases q with ⟨q1, q2⟩ | ⟨q1, q2⟩ | ⟨q1, q2⟩ | ⟨q1, q2⟩ <;> first | exact a q2 | omega, b, c.trans ((if_neg (by omega)).trans ((if_neg (by omega)).trans ((if_neg (by omega)).trans (if_pos hL)))).symm⟩
  · refine (c_orderN G o hp h0 h1 hL).mono (fun v w e => ?_)
    obtain ⟨r, G1, e1, e2, b, c, e4⟩ := e
    refine ⟨r, G1, e1, e2, e4, Or.inr ⟨fun q => by rcases q with ⟨q1, q2⟩ | ⟨q1, q2⟩ | ⟨q1, q2⟩ | ⟨q1, q2⟩ <;> omega, b, c.trans ((if_neg hL.1).trans ((if_neg hL.2.1).trans ((if_neg hL.2.2.1).trans (if_neg hL.2.2.2)))).symm⟩⟩
/-- an order that can be carried out -/
def ordX (G : GG) : Prop := (G 11 14 = 115 ∧ (0 ≤ G 11 17 ∧ G 11 17 ≤ 7) ∧ (1 ≤ G 11 15 ∧ G 11 15 ≤ 20)) ∨ (G 11 14 = 102 ∧ (0 ≤ G 11 17 ∧ G 11 17 ≤ 3) ∧ (1 ≤ G 11 15 ∧ G 11 15 ≤ 30)) ∨ (G 11 14 = 104 ∧ (1 ≤ G 11 15 ∧ G 11 15 ≤ 48)) ∨ (G 11 14 = 98 ∧ (0 ≤ G 11 17 ∧ G 11 17 ≤ 7) ∧ ∀ k : Int, 0 ≤ k → k < 4 → 0 ≤ G 18 k ∧ G 18 k ≤ 9)
def doesM (G : GG) (r : Int) (H : GG) : Prop := (G 11 14 = 115 ∧ stockB (G 11 17) (G 11 15) G r H) ∨ (G 11 14 = 102 ∧ fillB (G 11 17) (G 11 15) G r H) ∨ (G 11 14 = 104 ∧ passB (G 11 15) G r H) ∨ (G 11 14 = 98 ∧ ((¬ (0 ≤ G 11 17 ∧ G 11 17 < G 12 13) ∧ r = 0 ∧ H = setG G 11 8 1) ∨ ((0 ≤ G 11 17 ∧ G 11 17 < G 12 13) ∧ buyB (G 11 17) G r H)))
set_option maxHeartbeats 4000000 in
set_option maxRecDepth 100000 in
theorem c_does115 {l : Launch} {D : va_G} {C : Nat → ClassId} {T : Nat → Nat} {ad : Int → Nat} (G : GG) (hL : G 11 14 = 115) (oN : okN12 G) (o10 : 0 ≤ G 12 10 ∧ G 12 10 ≤ 100000) (hw : 0 ≤ G 11 17 ∧ G 11 17 ≤ 7) (hn : 1 ≤ G 11 15 ∧ G 11 15 ≤ 48) : MC l yX6_does cX6_does 1 (some .int) 5 126 0 0 D (tyC C) T [.ref (ad 108)] (cw ad C G) (RI ad C (doesM G)) := by
  refine mc_of (by decide +kernel) (Nat.le_of_ble_eq_true rfl) rfl ?_
  have o13 := (okN12_H oN).2.1
  refine aw_aload_n (q := 1) 0 dX6_does_0 rfl rfl rfl ?_
  refine g_mod_letter (q := 4) (v := 115) (hL) wf_RX6_190 dX6_does_1 rfl ?_
  refine ae_lkp 36 (t := 40) (by omega) dX6_does_4 (by decide) (by decide) (by decide) ?_
  refine aw_aload_n (q := 41) 0 dX6_does_40 rfl rfl rfl ?_
  refine aw_aload_n (q := 42) 0 dX6_does_41 rfl rfl rfl ?_
  refine g_mod_which (q := 45) (v := (G 11 17)) rfl wf_RX6_193 dX6_does_42 rfl ?_
  refine aw_aload_n (q := 46) 0 dX6_does_45 rfl rfl rfl ?_
  refine g_mod_number (q := 49) (v := (G 11 15)) rfl wf_RX6_178 dX6_does_46 rfl ?_
  refine cv_I (q := 52) (CC := "") (id := 108) (As := [.int (iI (G 11 17)), .int (iI (G 11 15))]) 2 (c_doStock (T := T) (D := D) (ad := ad) G (okN12_H oN) (by omega) (by omega)) (fun _ h => h) (by omega) (cell_108 ad C _) rfl wc_X6_doStock wm_RX6_104 wi_X6_doStock ws_X6_doStock wn_X6 (by decide) rfl ⟨Nat.le_of_ble_eq_true rfl, Nat.le_of_ble_eq_true rfl⟩ ⟨Nat.le_of_ble_eq_true rfl, Nat.le_of_ble_eq_true rfl⟩ (Nat.le_of_ble_eq_true rfl) dX6_does_49 rfl (fun r2 H h2 => ?_)
  exact rt_i rfl (Nat.le_refl _) (Nat.le_refl _) (Or.inl ⟨hL, h2⟩) dX6_does_52
set_option maxHeartbeats 4000000 in
set_option maxRecDepth 100000 in
theorem c_does102 {l : Launch} {D : va_G} {C : Nat → ClassId} {T : Nat → Nat} {ad : Int → Nat} (G : GG) (hL : G 11 14 = 102) (oN : okN12 G) (o10 : 0 ≤ G 12 10 ∧ G 12 10 ≤ 100000) (hw : 0 ≤ G 11 17 ∧ G 11 17 ≤ 7) (hn : 1 ≤ G 11 15 ∧ G 11 15 ≤ 48) : MC l yX6_does cX6_does 1 (some .int) 5 126 0 0 D (tyC C) T [.ref (ad 108)] (cw ad C G) (RI ad C (doesM G)) := by
  refine mc_of (by decide +kernel) (Nat.le_of_ble_eq_true rfl) rfl ?_
  have o13 := (okN12_H oN).2.1
  refine aw_aload_n (q := 1) 0 dX6_does_0 rfl rfl rfl ?_
  refine g_mod_letter (q := 4) (v := 102) (hL) wf_RX6_190 dX6_does_1 rfl ?_
  refine ae_lkp 49 (t := 53) (by omega) dX6_does_4 (by decide) (by decide) (by decide) ?_
  refine aw_aload_n (q := 54) 0 dX6_does_53 rfl rfl rfl ?_
  refine aw_aload_n (q := 55) 0 dX6_does_54 rfl rfl rfl ?_
  refine g_mod_which (q := 58) (v := (G 11 17)) rfl wf_RX6_193 dX6_does_55 rfl ?_
  refine aw_aload_n (q := 59) 0 dX6_does_58 rfl rfl rfl ?_
  refine g_mod_number (q := 62) (v := (G 11 15)) rfl wf_RX6_178 dX6_does_59 rfl ?_
  refine cv_I (q := 65) (CC := "") (id := 108) (As := [.int (iI (G 11 17)), .int (iI (G 11 15))]) 2 (c_doFill (T := T) (D := D) (ad := ad) G (okN12_P oN) (by omega) (by omega)) (fun _ h => h) (by omega) (cell_108 ad C _) rfl wc_X6_doFill wm_RX6_110 wi_X6_doFill ws_X6_doFill wn_X6 (by decide) rfl ⟨Nat.le_of_ble_eq_true rfl, Nat.le_of_ble_eq_true rfl⟩ ⟨Nat.le_of_ble_eq_true rfl, Nat.le_of_ble_eq_true rfl⟩ (Nat.le_of_ble_eq_true rfl) dX6_does_62 rfl (fun r2 H h2 => ?_)
  exact rt_i rfl (Nat.le_refl _) (Nat.le_refl _) (Or.inr (Or.inl ⟨hL, h2⟩)) dX6_does_65
set_option maxHeartbeats 4000000 in
set_option maxRecDepth 100000 in
theorem c_does104 {l : Launch} {D : va_G} {C : Nat → ClassId} {T : Nat → Nat} {ad : Int → Nat} (G : GG) (hL : G 11 14 = 104) (oN : okN12 G) (o10 : 0 ≤ G 12 10 ∧ G 12 10 ≤ 100000) (hn : 1 ≤ G 11 15 ∧ G 11 15 ≤ 48) : MC l yX6_does cX6_does 1 (some .int) 5 126 0 0 D (tyC C) T [.ref (ad 108)] (cw ad C G) (RI ad C (doesM G)) := by
  refine mc_of (by decide +kernel) (Nat.le_of_ble_eq_true rfl) rfl ?_
  have o13 := (okN12_H oN).2.1
  refine aw_aload_n (q := 1) 0 dX6_does_0 rfl rfl rfl ?_
  refine g_mod_letter (q := 4) (v := 104) (hL) wf_RX6_190 dX6_does_1 rfl ?_
  refine ae_lkp 62 (t := 66) (by omega) dX6_does_4 (by decide) (by decide) (by decide) ?_
  refine aw_aload_n (q := 67) 0 dX6_does_66 rfl rfl rfl ?_
  refine aw_aload_n (q := 68) 0 dX6_does_67 rfl rfl rfl ?_
  refine g_mod_number (q := 71) (v := (G 11 15)) rfl wf_RX6_178 dX6_does_68 rfl ?_
  refine cv_I (q := 74) (CC := "") (id := 108) (As := [.int (iI (G 11 15))]) 1 (c_doPass (T := T) (D := D) (ad := ad) G (okN12_H oN) o10 (by omega)) (fun _ h => h) (by omega) (cell_108 ad C _) rfl wc_X6_doPass wm_RX6_151 wi_X6_doPass ws_X6_doPass wn_X6 (by decide) rfl ⟨Nat.le_of_ble_eq_true rfl, Nat.le_of_ble_eq_true rfl⟩ ⟨Nat.le_of_ble_eq_true rfl, Nat.le_of_ble_eq_true rfl⟩ (Nat.le_of_ble_eq_true rfl) dX6_does_71 rfl (fun r2 H h2 => ?_)
  exact rt_i rfl (Nat.le_refl _) (Nat.le_refl _) (Or.inr (Or.inr (Or.inl ⟨hL, h2⟩))) dX6_does_74
set_option maxHeartbeats 4000000 in
set_option maxRecDepth 100000 in
theorem c_does98 {l : Launch} {D : va_G} {C : Nat → ClassId} {T : Nat → Nat} {ad : Int → Nat} (G : GG) (hL : G 11 14 = 98) (oN : okN12 G) (o10 : 0 ≤ G 12 10 ∧ G 12 10 ≤ 100000) (hw : 0 ≤ G 11 17 ∧ G 11 17 ≤ 7) (hco : ∀ k : Int, 0 ≤ k → k < 4 → 0 ≤ G 18 k ∧ G 18 k ≤ 9) : MC l yX6_does cX6_does 1 (some .int) 5 126 0 0 D (tyC C) T [.ref (ad 108)] (cw ad C G) (RI ad C (doesM G)) := by
  refine mc_of (by decide +kernel) (Nat.le_of_ble_eq_true rfl) rfl ?_
  have o13 := (okN12_H oN).2.1
  refine aw_aload_n (q := 1) 0 dX6_does_0 rfl rfl rfl ?_
  refine g_mod_letter (q := 4) (v := 98) (hL) wf_RX6_190 dX6_does_1 rfl ?_
  refine ae_lkp 71 (t := 75) (by omega) dX6_does_4 (by decide) (by decide) (by decide) ?_
  refine aw_aload_n (q := 76) 0 dX6_does_75 rfl rfl rfl ?_
  refine aw_aload_n (q := 77) 0 dX6_does_76 rfl rfl rfl ?_
  refine g_mod_which (q := 80) (v := (G 11 17)) rfl wf_RX6_193 dX6_does_77 rfl ?_
  refine cv_I (q := 83) (CC := "") (id := 108) (As := [.int (iI (G 11 17))]) 1 (c_isCoil (T := T) (D := D) (ad := ad) G (by rw [show G 12 13 = (G 12 13) from rfl]; omega) (by omega)) (fun _ h => h) (by omega) (cell_108 ad C _) rfl wc_X6_isCoil wm_RX6_96 wi_X6_isCoil ws_X6_isCoil wn_X6 (by decide) rfl ⟨Nat.le_of_ble_eq_true rfl, Nat.le_of_ble_eq_true rfl⟩ ⟨Nat.le_of_ble_eq_true rfl, Nat.le_of_ble_eq_true rfl⟩ (Nat.le_of_ble_eq_true rfl) dX6_does_80 rfl (fun r9 G9 h9 => ?_)
  obtain ⟨e9, g9⟩ := h9
  rw [e9.trans (b2i_c (by rw [show G 12 13 = (G 12 13) from rfl])), g9]
  clear e9 g9
  refine aw_ifb_eq (q := 86) dX6_does_83 rfl (t := 97) (by decide) (fun y1 => ?_) (fun y2 => ?_)
  · refine aw_aload_n (q := 98) 0 dX6_does_97 rfl rfl rfl ?_
    refine aw_iconst (q := 99) dX6_does_98 rfl ?_
    refine cv_I (q := 102) (CC := "") (id := 108) (As := [.int (iI 1)]) 1 (c_refuse (T := T) (D := D) (ad := ad) G) (fun _ h => h) (by omega) (cell_108 ad C _) rfl wc_X6_refuse wm_RX6_82 wi_X6_refuse ws_X6_refuse wn_X6 (by decide) rfl ⟨Nat.le_of_ble_eq_true rfl, Nat.le_of_ble_eq_true rfl⟩ ⟨Nat.le_of_ble_eq_true rfl, Nat.le_of_ble_eq_true rfl⟩ (Nat.le_of_ble_eq_true rfl) dX6_does_99 rfl (fun r9 G9 h9 => ?_)
    rw [h9.1, h9.2]
    clear h9
    exact rt_i rfl (Nat.le_refl _) (Nat.le_refl _) (Or.inr (Or.inr (Or.inr ⟨hL, Or.inl ⟨by omega, rfl, rfl⟩⟩))) dX6_does_102
  · refine aw_aload_n (q := 87) 0 dX6_does_86 rfl rfl rfl ?_
    refine aw_aload_n (q := 88) 0 dX6_does_87 rfl rfl rfl ?_
    refine g_mod_which (q := 91) (v := (G 11 17)) rfl wf_RX6_193 dX6_does_88 rfl ?_
    refine cv_I (q := 94) (CC := "") (id := 108) (As := [.int (iI (G 11 17))]) 1 (c_doBuy (T := T) (D := D) (ad := ad) G (by omega) (okN12_H oN) (okN12_P oN) (okN12_R oN) hco) (fun _ h => h) (by omega) (cell_108 ad C _) rfl wc_X6_doBuy wm_RX6_134 wi_X6_doBuy ws_X6_doBuy wn_X6 (by decide) rfl ⟨Nat.le_of_ble_eq_true rfl, Nat.le_of_ble_eq_true rfl⟩ ⟨Nat.le_of_ble_eq_true rfl, Nat.le_of_ble_eq_true rfl⟩ (Nat.le_of_ble_eq_true rfl) dX6_does_91 rfl (fun r2 H h2 => ?_)
    refine aw_goto (q := 102) dX6_does_94 (by decide) ?_
    exact rt_i rfl (Nat.le_refl _) (Nat.le_refl _) (Or.inr (Or.inr (Or.inr ⟨hL, Or.inr ⟨by omega, h2⟩⟩))) dX6_does_102
theorem c_does {l : Launch} {D : va_G} {C : Nat → ClassId} {T : Nat → Nat} {ad : Int → Nat} (G : GG) (oX : ordX G) (oN : okN12 G) (o10 : 0 ≤ G 12 10 ∧ G 12 10 ≤ 100000) : MC l yX6_does cX6_does 1 (some .int) 5 126 0 0 D (tyC C) T [.ref (ad 108)] (cw ad C G) (RI ad C (doesM G)) := by
  rcases oX with ⟨a, b, c⟩ | ⟨a, b, c⟩ | ⟨a, b⟩ | ⟨a, b, c⟩
  · exact c_does115 G a oN o10 b (by omega)
  · exact c_does102 G a oN o10 (by omega) (by omega)
  · exact c_does104 G a oN o10 b
  · exact c_does98 G a oN o10 b c
theorem ordX_of {G L : GG} {p : Int} (h : okOrd (bM G) p) (hl : L 11 14 = bM G p) (hv : ordV (bM G) p L) : ordX L := by
  obtain ⟨v1, v2, v3, v4⟩ := hv
  rcases h with ⟨a, b⟩ | ⟨a, b⟩ | ⟨a, b⟩ | ⟨a, b⟩
  · have e1 := v1 (by omega)
    have e2 := v2 (by omega)
    have e3 := b.2.2.1.2.2
    exact Or.inl ⟨hl.trans a, by omega, by omega⟩
  · have e1 := v1 (by omega)
    have e4 := v4 a
    have e5 := b.2.1
    refine Or.inr (Or.inr (Or.inr ⟨hl.trans a, by omega, fun k z0 z1 => ?_⟩))
    rw [e4 k z0 z1]
    obtain ⟨⟨c1, c2⟩, ⟨c3, c4⟩, ⟨c5, c6⟩, ⟨c7, c8⟩⟩ := e5
    rcases (by omega : k = 0 ∨ k = 1 ∨ k = 2 ∨ k = 3) with rfl | rfl | rfl | rfl
    · rw [show p + 2 * 0 + 3 = p + 2 + 1 by omega]; omega
    · rw [show p + 2 * 1 + 3 = p + 2 + 3 by omega]; omega
    · rw [show p + 2 * 2 + 3 = p + 2 + 5 by omega]; omega
    · rw [show p + 2 * 3 + 3 = p + 2 + 7 by omega]; omega
  · have e1 := v1 (by omega)
    have e2 := v2 (by omega)
    have e3 := b.2.2.1.2.2
    exact Or.inr (Or.inl ⟨hl.trans a, by omega, by omega⟩)
  · have e2 := v3 a
    have e3 := b.1.2.2
    exact Or.inr (Or.inr (Or.inl ⟨hl.trans a, by omega⟩))
