/-! class CoilPricesModel: hours that pass, sales -/
def passB (h : Int) (G : GG) (r : Int) (H : GG) : Prop := (¬ (1 ≤ h ∧ h ≤ 48) ∧ r = 0 ∧ H = setG G 11 8 1) ∨ ((1 ≤ h ∧ h ≤ 48) ∧ ¬ G 12 10 + h ≤ 100000 ∧ r = 0 ∧ H = setG G 11 8 2) ∨ ((1 ≤ h ∧ h ≤ 48) ∧ G 12 10 + h ≤ 100000 ∧ r = hoursR (G 12) h.toNat 12 - G 12 12 ∧ H = onR G 12 (hoursR (G 12) h.toNat))
theorem passB_fr {n r : Int} {G H : GG} (h : passB n G r H) : sameB bdS G H := by
  intro x y z
  rcases h with ⟨-, -, rfl⟩ | ⟨-, -, -, rfl⟩ | ⟨-, -, -, rfl⟩
  · exact setG_ne (by omega)
  · exact setG_ne (by omega)
  · exact onR_ne (by omega)
theorem passB_8 {n r : Int} {G H : GG} (h8 : G 11 8 = 0) (h : passB n G r H) : 0 ≤ H 11 8 ∧ H 11 8 ≤ 3 := by
  rcases h with ⟨-, -, rfl⟩ | ⟨-, -, -, rfl⟩ | ⟨-, -, -, rfl⟩
  · rw [setG_same]; omega
  · rw [setG_same]; omega
  · rw [onR_ne (by omega)]; omega
theorem putsG_ne {G : GG} {t w v x y : Int} (h : ¬ (x = 12 ∧ (y = 5 + t ∨ y = 9))) : putsG G t w v x y = G x y := (setG_ne (by omega)).trans (setG_ne (by omega))
theorem putsG_at {G : GG} {t w v a b : Int} (h : a = 5 + t) (h9 : a ≠ 9) (hb : G 12 a = b) (hbb : b ≤ 30) (hv : 0 ≤ v) : putsG G t w v 12 a = min 30 (b + v) := by
  subst h
  refine (setG_ne (by omega)).trans ((setG_same _ _ _ _).trans ?_)
  rw [hb]
  omega
theorem putsG_9 {G : GG} {t w v b c a : Int} (ha : a = 5 + t) (hb : G 12 a = b) (hc : G 12 9 = c) : putsG G t w v 12 9 = c + (v - min v (30 - b)) * w := by
  subst ha
  refine (setG_same _ _ _ _).trans ?_
  rw [hb, hc]
/-- the coins are in, the page as it was is on trial's -/
def inM (G K : GG) : Prop := K 12 5 = min 30 (G 12 5 + G 18 0) ∧ K 12 6 = min 30 (G 12 6 + G 18 1) ∧ K 12 7 = min 30 (G 12 7 + G 18 2) ∧ K 12 8 = min 30 (G 12 8 + G 18 3) ∧ K 12 9 = G 12 9 + 5 * (G 18 0 - min (G 18 0) (30 - G 12 5)) + 10 * (G 18 1 - min (G 18 1) (30 - G 12 6)) + 20 * (G 18 2 - min (G 18 2) (30 - G 12 7)) + 50 * (G 18 3 - min (G 18 3) (30 - G 12 8)) ∧ (∀ y : Int, 0 ≤ y → y < 311 → K 14 y = G 12 y) ∧ sameB (fun x y => (x = 12 ∧ 5 ≤ y ∧ y < 10) ∨ x = 14) G K
theorem inM_of {G : GG} (t : ∀ k : Int, 0 ≤ k → k < 4 → 0 ≤ G 12 (5 + k) ∧ G 12 (5 + k) ≤ 30) (c : ∀ k : Int, 0 ≤ k → k < 4 → 0 ≤ G 18 k ∧ G 18 k ≤ 9) : inM G (putsG (putsG (putsG (putsG (cpG G 14 0 311 12 0) 0 5 (G 18 0)) 1 10 (G 18 1)) 2 20 (G 18 2)) 3 50 (G 18 3)) := by
  have t0 : 0 ≤ G 12 5 ∧ G 12 5 ≤ 30 := t 0 (by omega) (by omega)
  have t1 : 0 ≤ G 12 6 ∧ G 12 6 ≤ 30 := t 1 (by omega) (by omega)
  have t2 : 0 ≤ G 12 7 ∧ G 12 7 ≤ 30 := t 2 (by omega) (by omega)
  have t3 : 0 ≤ G 12 8 ∧ G 12 8 ≤ 30 := t 3 (by omega) (by omega)
  have c0 := c 0 (by omega) (by omega)
  have c1 := c 1 (by omega) (by omega)
  have c2 := c 2 (by omega) (by omega)
  have c3 := c 3 (by omega) (by omega)
  refine ⟨?_, ?_, ?_, ?_, ?_, fun y z0 z1 => ?_, fun x y z => ?_⟩
  · exact (putsG_ne (by omega)).trans ((putsG_ne (by omega)).trans ((putsG_ne (by omega)).trans (putsG_at (by omega) (by omega) (cpG_ne (by omega)) (by omega) (by omega))))
  · exact (putsG_ne (by omega)).trans ((putsG_ne (by omega)).trans (putsG_at (by omega) (by omega) ((putsG_ne (by omega)).trans (cpG_ne (by omega))) (by omega) (by omega)))
  · exact (putsG_ne (by omega)).trans (putsG_at (by omega) (by omega) ((putsG_ne (by omega)).trans ((putsG_ne (by omega)).trans (cpG_ne (by omega)))) (by omega) (by omega))
  · exact putsG_at (by omega) (by omega) ((putsG_ne (by omega)).trans ((putsG_ne (by omega)).trans ((putsG_ne (by omega)).trans (cpG_ne (by omega))))) (by omega) (by omega)
  · refine (putsG_9 (a := 8) (b := G 12 8) (by omega) ((putsG_ne (by omega)).trans ((putsG_ne (by omega)).trans ((putsG_ne (by omega)).trans (cpG_ne (by omega))))) (putsG_9 (a := 7) (b := G 12 7) (by omega) ((putsG_ne (by omega)).trans ((putsG_ne (by omega)).trans (cpG_ne (by omega)))) (putsG_9 (a := 6) (b := G 12 6) (by omega) ((putsG_ne (by omega)).trans (cpG_ne (by omega))) (putsG_9 (a := 5) (b := G 12 5) (by omega) (cpG_ne (by omega)) (cpG_ne (by omega)))))).trans ?_
    omega
  · exact (putsG_ne (by omega)).trans ((putsG_ne (by omega)).trans ((putsG_ne (by omega)).trans ((putsG_ne (by omega)).trans ((cpG_in (by omega)).trans (congrArg (G 12) (by omega))))))
  · exact (putsG_ne (by omega)).trans ((putsG_ne (by omega)).trans ((putsG_ne (by omega)).trans ((putsG_ne (by omega)).trans (cpG_ne (by omega)))))
abbrev sumM (G : GG) : Int := sumQ (prm G 12) (G 12 14).toNat
abbrev canSellM (G : GG) (c : Int) : Prop := 1 ≤ G 12 (15 + 12 * c + 1) ∧ 0 ≤ backF G 12 c 18 ∧ (canU G 12 18 (backF G 12 c 18) ∨ sumM G + backF G 12 c 18 ≤ G 12 3)
abbrev saleMS (c : Int) : Int → Int → Prop := fun x y => (x = 12 ∧ ((5 ≤ y ∧ y < 10) ∨ y = 14 ∨ (111 ≤ y ∧ y < 311) ∨ y = 15 + 12 * c + 1 ∨ y = 15 + 12 * c + 6 ∨ y = 15 + 12 * c + 7 ∨ y = 15 + 12 * c + 10)) ∨ x = 14 ∨ (x = 17 ∧ 0 ≤ y ∧ y < 4)
def saleM (G : GG) (c : Int) (H : GG) : Prop :=
  H 12 (15 + 12 * c + 1) = G 12 (15 + 12 * c + 1) - 1 ∧ H 12 (15 + 12 * c + 10) = fadd1 (G 12 (15 + 12 * c + 10)) ∧ H 12 (15 + 12 * c + 6) = G 12 (15 + 12 * c + 6) + 1 ∧ H 12 (15 + 12 * c + 7) = G 12 (15 + 12 * c + 7) + G 12 (15 + 12 * c + 2) ∧
  H 12 9 = G 12 9 + 5 * (G 18 0 - min (G 18 0) (30 - G 12 5)) + 10 * (G 18 1 - min (G 18 1) (30 - G 12 6)) + 20 * (G 18 2 - min (G 18 2) (30 - G 12 7)) + 50 * (G 18 3 - min (G 18 3) (30 - G 12 8)) ∧
  (∀ m : Int, 0 ≤ m → m < G 12 14 → H 12 (111 + m) = G 12 (111 + m)) ∧ sameB (saleMS c) G H ∧
  ((canU G 12 18 (backF G 12 c 18) ∧ H 12 14 = G 12 14 ∧
      H 12 5 = min 30 (G 12 5 + G 18 0) - c0F (min 30 (G 12 5 + G 18 0)) (min 30 (G 12 6 + G 18 1)) (min 30 (G 12 7 + G 18 2)) (min 30 (G 12 8 + G 18 3)) (backF G 12 c 18) ∧
      H 12 6 = min 30 (G 12 6 + G 18 1) - c1F (min 30 (G 12 5 + G 18 0)) (min 30 (G 12 6 + G 18 1)) (min 30 (G 12 7 + G 18 2)) (min 30 (G 12 8 + G 18 3)) (backF G 12 c 18) ∧
      H 12 7 = min 30 (G 12 7 + G 18 2) - c2F (min 30 (G 12 5 + G 18 0)) (min 30 (G 12 6 + G 18 1)) (min 30 (G 12 7 + G 18 2)) (min 30 (G 12 8 + G 18 3)) (backF G 12 c 18) ∧
      H 12 8 = min 30 (G 12 8 + G 18 3) - c3F (min 30 (G 12 5 + G 18 0)) (min 30 (G 12 6 + G 18 1)) (min 30 (G 12 7 + G 18 2)) (min 30 (G 12 8 + G 18 3)) (backF G 12 c 18)) ∨
   (¬ canU G 12 18 (backF G 12 c 18) ∧ H 12 14 = G 12 14 + 1 ∧ H 12 (111 + G 12 14) = backF G 12 c 18 ∧ H 12 5 = min 30 (G 12 5 + G 18 0) ∧ H 12 6 = min 30 (G 12 6 + G 18 1) ∧ H 12 7 = min 30 (G 12 7 + G 18 2) ∧ H 12 8 = min 30 (G 12 8 + G 18 3)))
theorem okP_saleM {G : GG} {c : Int} {H : GG} (hc : 0 ≤ c ∧ c < 8) (ho : okP G 12) (hco : ∀ k : Int, 0 ≤ k → k < 4 → 0 ≤ G 18 k ∧ G 18 k ≤ 9) (hb : 0 ≤ backF G 12 c 18 ∧ backF G 12 c 18 ≤ 3000) (hn : ¬ canU G 12 18 (backF G 12 c 18) → G 12 14 < 200) (h : saleM G c H) : okP H 12 := by
  obtain ⟨a1, a2, a3, a4, a5, a6, a7, a8⟩ := h
  have q0 : 0 ≤ G 12 5 ∧ G 12 5 ≤ 30 := ho.2.2 0 (by omega) (by omega)
  have q1 : 0 ≤ G 12 6 ∧ G 12 6 ≤ 30 := ho.2.2 1 (by omega) (by omega)
  have q2 : 0 ≤ G 12 7 ∧ G 12 7 ≤ 30 := ho.2.2 2 (by omega) (by omega)
  have q3 : 0 ≤ G 12 8 ∧ G 12 8 ≤ 30 := ho.2.2 3 (by omega) (by omega)
  have c0 := hco 0 (by omega) (by omega)
  have c1 := hco 1 (by omega) (by omega)
  have c2 := hco 2 (by omega) (by omega)
  have c3 := hco 3 (by omega) (by omega)
  have cb := cF_b (h0 := min 30 (G 12 5 + G 18 0)) (h1 := min 30 (G 12 6 + G 18 1)) (h2 := min 30 (G 12 7 + G 18 2)) (h3 := min 30 (G 12 8 + G 18 3)) (a := backF G 12 c 18) (by omega) (by omega) (by omega) (by omega) hb.1
  have h14 := ho.1
  rcases a8 with ⟨b0, b1, b2, b3, b4, b5⟩ | ⟨b0, b1, b2, b3, b4, b5, b6⟩
  · refine ⟨by omega, fun m z0 z1 => ?_, fun k z0 z1 => ?_⟩
    · rw [a6 m z0 (by omega)]; exact ho.2.1 m z0 (by omega)
    · rcases (by omega : k = 0 ∨ k = 1 ∨ k = 2 ∨ k = 3) with rfl | rfl | rfl | rfl
      · show 0 ≤ H 12 5 ∧ H 12 5 ≤ 30; omega
      · show 0 ≤ H 12 6 ∧ H 12 6 ≤ 30; omega
      · show 0 ≤ H 12 7 ∧ H 12 7 ≤ 30; omega
      · show 0 ≤ H 12 8 ∧ H 12 8 ≤ 30; omega
  · have := hn b0
    refine ⟨by omega, fun m z0 z1 => ?_, fun k z0 z1 => ?_⟩
    · by_cases e : m = G 12 14
      · rw [e, b2]; exact hb
      · rw [a6 m z0 (by omega)]; exact ho.2.1 m z0 (by omega)
    · rcases (by omega : k = 0 ∨ k = 1 ∨ k = 2 ∨ k = 3) with rfl | rfl | rfl | rfl
      · show 0 ≤ H 12 5 ∧ H 12 5 ≤ 30; omega
      · show 0 ≤ H 12 6 ∧ H 12 6 ≤ 30; omega
      · show 0 ≤ H 12 7 ∧ H 12 7 ≤ 30; omega
      · show 0 ≤ H 12 8 ∧ H 12 8 ≤ 30; omega
abbrev bdT : Int → Int → Prop := fun x y => x = 12 ∨ x = 14 ∨ x = 17 ∨ (x = 11 ∧ y = 8)
def buyB (c : Int) (G : GG) (r : Int) (H : GG) : Prop := sameB bdT G H ∧ ((¬ canSellM G c ∧ r = 0 ∧ H 11 8 = 3 ∧ ∀ y : Int, 0 ≤ y → y < 311 → H 12 y = G 12 y) ∨ (canSellM G c ∧ H 11 8 = G 11 8 ∧ r = (if canU G 12 18 (backF G 12 c 18) then backF G 12 c 18 else -10 - backF G 12 c 18) ∧ ∃ S, saleM G c S ∧ keepM S (kpG S 12) H))
theorem buyB_8 {c r : Int} {G H : GG} (h8 : G 11 8 = 0) (h : buyB c G r H) : 0 ≤ H 11 8 ∧ H 11 8 ≤ 3 := by
  rcases h.2 with ⟨-, -, e, -⟩ | ⟨-, e, -⟩ <;> omega
abbrev okMR (G : GG) : Prop := 5 * G 12 14 ≤ sumM G ∧ sumM G ≤ 1000
theorem room_saleM {G : GG} {c : Int} (hR : okMR G) (os : okS (G 12)) (t : ∀ k : Int, 0 ≤ k → k < 4 → 0 ≤ G 12 (5 + k) ∧ G 12 (5 + k) ≤ 30) (hco : ∀ k : Int, 0 ≤ k → k < 4 → 0 ≤ G 18 k ∧ G 18 k ≤ 9) (h : canSellM G c) (hn : ¬ canU G 12 18 (backF G 12 c 18)) : G 12 14 < 200 := by
  have q0 : 0 ≤ G 12 5 ∧ G 12 5 ≤ 30 := t 0 (by omega) (by omega)
  have q1 : 0 ≤ G 12 6 ∧ G 12 6 ≤ 30 := t 1 (by omega) (by omega)
  have q2 : 0 ≤ G 12 7 ∧ G 12 7 ≤ 30 := t 2 (by omega) (by omega)
  have q3 : 0 ≤ G 12 8 ∧ G 12 8 ≤ 30 := t 3 (by omega) (by omega)
  have c0 := hco 0 (by omega) (by omega)
  have c1 := hco 1 (by omega) (by omega)
  have c2 := hco 2 (by omega) (by omega)
  have c3 := hco 3 (by omega) (by omega)
  have hz : backF G 12 c 18 ≠ 0 := fun e => hn (by rw [e]; exact canF_0 (by omega) (by omega) (by omega) (by omega))
  have hl := os.2.2.2.1
  have h2 := h.2.2.resolve_left hn
  have h1 := h.2.1
  omega
set_option maxHeartbeats 4000000 in
set_option maxRecDepth 100000 in
theorem L_doPass {l : Launch} {D : va_G} {C : Nat → ClassId} {T : Nat → Nat} {ad : Int → Nat} (G : GG) (oH : okH (G 12)) {h : Int} (hh : 1 ≤ h ∧ h ≤ 48) (h10 : G 12 10 + h ≤ 100000) : ∀ (n : Nat) (k f : Int), 0 ≤ k → k ≤ h → h - k < n → f = hoursR (G 12) k.toNat 12 - G 12 12 → AW l RX6 "doPass" cX6_doPass 4 (some .int) (fun _ => True) { frames := 4, cells := 0, slots := 0, locals := 103 } (hvE D (RI ad C (passB h G)) (cw ad C G) 0 0) D (tyC C) (hvZ T (cw ad C G)) (cw ad C G) 40 [(0, .ref (ad 108)), (1, .int (iI h)), (2, .int (iI f)), (3, .int (iI k))] [] (cw ad C ((onR G 12 (hoursR (G 12) k.toNat)))) 0 0 := by
  intro n
  induction n with
  | zero => intro k f hk hd hn; exact absurd hn (by omega)
  | succ n ih =>
    intro k f hk hd hn hf
    refine aw_iload_n (q := 41) 3 dX6_doPass_40 rfl rfl rfl ?_
    refine aw_iload_n (q := 42) 1 dX6_doPass_41 rfl rfl rfl ?_
    refine aw_icmp_ge (q := 45) dX6_doPass_42 rfl (t := 58) (by decide) (by omega) (by omega) (fun y1 => ?_) (fun y2 => ?_)
    · refine aw_iload_n (q := 59) 2 dX6_doPass_58 rfl rfl rfl ?_
      exact rt_i rfl (Nat.le_refl _) (Nat.le_refl _) (by rw [show k = h by omega] at hf ⊢; exact Or.inr (Or.inr ⟨hh, h10, hf, rfl⟩)) dX6_doPass_59
    · refine aw_iload_n (q := 46) 2 dX6_doPass_45 rfl rfl rfl ?_
      refine aw_aload_n (q := 47) 0 dX6_doPass_46 rfl rfl rfl ?_
      refine cv_I (q := 50) (CC := "") (id := 108) (As := []) 0 ((by have := c_hourM (l := l) (T := T) (D := D) (C := C) (ad := ad) (onR G 12 (hoursR (G 12) k.toNat)) (by rw [onR_at]; exact okH_hours oH _); rw [onR_at, onR_onR] at this; exact this)) (fun _ h => h) (by omega) (cell_108 ad C _) rfl wc_X6_hour wm_RX6_148 wi_X6_hour ws_X6_hour wn_X6 (by decide) rfl ⟨Nat.le_of_ble_eq_true rfl, Nat.le_of_ble_eq_true rfl⟩ ⟨Nat.le_of_ble_eq_true rfl, Nat.le_of_ble_eq_true rfl⟩ (Nat.le_of_ble_eq_true rfl) dX6_doPass_47 rfl (fun r9 G9 h9 => ?_)
      rw [h9.1, h9.2]
      clear h9
      refine ae_iadd (q := 51) (f + (hourR (hoursR (G 12) k.toNat) 12 - (hoursR (G 12) k.toNat) 12)) (by omega) dX6_doPass_50 rfl ?_
      refine aw_istore_n (q := 52) (lv2 := [(0, .ref (ad 108)), (1, .int (iI h)), (2, .int (iI (f + (hourR (hoursR (G 12) k.toNat) 12 - (hoursR (G 12) k.toNat) 12)))), (3, .int (iI k))]) [1, 2, 0, 3] dX6_doPass_51 rfl rfl (by decide) rfl rfl ?_
      refine ae_iinc (q := 55) (lv2 := [(0, .ref (ad 108)), (1, .int (iI h)), (2, .int (iI (f + (hourR (hoursR (G 12) k.toNat) 12 - (hoursR (G 12) k.toNat) 12)))), (3, .int (iI (k + 1)))]) 3 [1, 2, 3, 0] (k + 1) (by omega) dX6_doPass_52 rfl rfl (by decide) rfl ?_
      refine aw_goto (q := 40) dX6_doPass_55 (by decide) ?_
      have e9 := hoursR_succ (G 12) hk
      rw [← e9]
      exact ih (k + 1) _ (by omega) (by omega) (by omega) (by rw [e9]; omega)
set_option maxHeartbeats 4000000 in
set_option maxRecDepth 100000 in
theorem c_doPass {l : Launch} {D : va_G} {C : Nat → ClassId} {T : Nat → Nat} {ad : Int → Nat} (G : GG) {h : Int} (oH : okH (G 12)) (o10 : 0 ≤ G 12 10 ∧ G 12 10 ≤ 100000) (hh : -2147483648 ≤ h ∧ h ≤ 2147483647) : MC l yX6_doPass cX6_doPass 4 (some .int) 4 103 0 0 D (tyC C) T [.ref (ad 108), .int (iI h)] (cw ad C G) (RI ad C (passB h G)) := by
  refine mc_of (by decide +kernel) (Nat.le_of_ble_eq_true rfl) rfl ?_
  refine aw_iload_n (q := 1) 1 dX6_doPass_0 rfl rfl rfl ?_
  refine aw_iconst (q := 2) dX6_doPass_1 rfl ?_
  refine aw_bipush (q := 4) dX6_doPass_2 rfl (by decide) ?_
  refine cs_I (q := 7) (As := [.int (iI h), .int (iI 1), .int (iI 48)]) 3 (c_in (T := T) (D := D) (ad := ad) G (by omega) (by omega) (by omega)) (fun _ h => h) wc_X6_in wm_RX6_62 wt_X6_in wn_X6 (by decide) rfl ⟨Nat.le_of_ble_eq_true rfl, Nat.le_of_ble_eq_true rfl⟩ ⟨Nat.le_of_ble_eq_true rfl, Nat.le_of_ble_eq_true rfl⟩ (Nat.le_of_ble_eq_true rfl) dX6_doPass_4 rfl (fun r9 G9 h9 => ?_)
  rw [h9.1, h9.2]
  clear h9
  refine aw_ifb_ne (q := 10) dX6_doPass_7 rfl (t := 16) (by decide) (fun y1 => ?_) (fun y2 => ?_)
  · refine aw_aload_n (q := 17) 0 dX6_doPass_16 rfl rfl rfl ?_
    refine g_mod_p (q := 20) wf_RX6_7 dX6_doPass_17 rfl ?_
    refine aw_bipush (q := 22) dX6_doPass_20 rfl (by decide) ?_
    refine aw_cial (q := 23) (v := (G 12 10)) 10 (ar_109 ad C) (by omega) (by omega) rfl dX6_doPass_22 rfl ?_
    refine aw_iload_n (q := 24) 1 dX6_doPass_23 rfl rfl rfl ?_
    refine ae_iadd (q := 25) ((G 12 10) + h) (by omega) dX6_doPass_24 rfl ?_
    refine aw_ldc (q := 27) (x := 100000) dX6_doPass_25 rfl wk_RX6_147 (by decide) ?_
    refine aw_icmp_le (q := 30) dX6_doPass_27 rfl (t := 36) (by decide) (by omega) (by omega) (fun y3 => ?_) (fun y4 => ?_)
    · refine aw_iconst (q := 37) dX6_doPass_36 rfl ?_
      refine aw_istore_n (q := 38) (lv2 := [(0, .ref (ad 108)), (1, .int (iI h)), (2, .int (iI 0))]) [1, 2, 0] dX6_doPass_37 rfl rfl (by decide) rfl rfl ?_
      refine aw_iconst (q := 39) dX6_doPass_38 rfl ?_
      refine aw_istore_n (q := 40) (lv2 := [(0, .ref (ad 108)), (1, .int (iI h)), (2, .int (iI 0)), (3, .int (iI 0))]) [1, 2, 3, 0] dX6_doPass_39 rfl rfl (by decide) rfl rfl ?_
      have e9 := L_doPass (l := l) (T := T) (D := D) (C := C) (ad := ad) G oH (h := h) (by omega) (by omega) 50 0 0 (by omega) (by omega) (by omega) (by show _ = G 12 12 - G 12 12; omega)
      rw [show hoursR (G 12) (0 : Int).toNat = G 12 from rfl, onR_id] at e9
      exact e9
    · refine aw_aload_n (q := 31) 0 dX6_doPass_30 rfl rfl rfl ?_
      refine aw_iconst (q := 32) dX6_doPass_31 rfl ?_
      refine cv_I (q := 35) (CC := "") (id := 108) (As := [.int (iI 2)]) 1 (c_refuse (T := T) (D := D) (ad := ad) G) (fun _ h => h) (by omega) (cell_108 ad C _) rfl wc_X6_refuse wm_RX6_82 wi_X6_refuse ws_X6_refuse wn_X6 (by decide) rfl ⟨Nat.le_of_ble_eq_true rfl, Nat.le_of_ble_eq_true rfl⟩ ⟨Nat.le_of_ble_eq_true rfl, Nat.le_of_ble_eq_true rfl⟩ (Nat.le_of_ble_eq_true rfl) dX6_doPass_32 rfl (fun r9 G9 h9 => ?_)
      rw [h9.1, h9.2]
      clear h9
      exact rt_i rfl (Nat.le_refl _) (Nat.le_refl _) (by first | (refine Or.inl ⟨by omega, ?_, ?_⟩ <;> rfl) | (refine Or.inr (Or.inl ⟨by omega, by omega, ?_, ?_⟩) <;> rfl)) dX6_doPass_35
  · refine aw_aload_n (q := 11) 0 dX6_doPass_10 rfl rfl rfl ?_
    refine aw_iconst (q := 12) dX6_doPass_11 rfl ?_
    refine cv_I (q := 15) (CC := "") (id := 108) (As := [.int (iI 1)]) 1 (c_refuse (T := T) (D := D) (ad := ad) G) (fun _ h => h) (by omega) (cell_108 ad C _) rfl wc_X6_refuse wm_RX6_82 wi_X6_refuse ws_X6_refuse wn_X6 (by decide) rfl ⟨Nat.le_of_ble_eq_true rfl, Nat.le_of_ble_eq_true rfl⟩ ⟨Nat.le_of_ble_eq_true rfl, Nat.le_of_ble_eq_true rfl⟩ (Nat.le_of_ble_eq_true rfl) dX6_doPass_12 rfl (fun r9 G9 h9 => ?_)
    rw [h9.1, h9.2]
    clear h9
    exact rt_i rfl (Nat.le_refl _) (Nat.le_refl _) (by first | (refine Or.inl ⟨by omega, ?_, ?_⟩ <;> rfl) | (refine Or.inr (Or.inl ⟨by omega, by omega, ?_, ?_⟩) <;> rfl)) dX6_doPass_15
set_option maxHeartbeats 4000000 in
set_option maxRecDepth 100000 in
theorem c_passM {l : Launch} {D : va_G} {C : Nat → ClassId} {T : Nat → Nat} {ad : Int → Nat} (G : GG) {h : Int} (h4 : 0 ≤ G 11 4 ∧ G 11 4 ≤ 4) (oH : okH (G 12)) (o10 : 0 ≤ G 12 10 ∧ G 12 10 ≤ 100000) (hh : -2147483648 ≤ h ∧ h ≤ 2147483647) : MC l yX6_pass cX6_pass 2 (some .int) 5 126 0 0 D (tyC C) T [.ref (ad 108), .int (iI h)] (cw ad C G) (RI ad C (fun r G1 => faceM G (passB h) r G1)) := by
  refine mc_of (by decide +kernel) (Nat.le_of_ble_eq_true rfl) rfl ?_
  refine aw_aload_n (q := 1) 0 dX6_pass_0 rfl rfl rfl ?_
  refine cv_V (q := 4) (CC := "") (id := 108) (As := []) 0 (c_holdM (T := T) (D := D) (ad := ad) G) (fun _ h => h) (by omega) (cell_108 ad C _) rfl wc_X6_hold wm_RX6_76 wi_X6_hold ws_X6_hold wn_X6 (by decide) rfl ⟨Nat.le_of_ble_eq_true rfl, Nat.le_of_ble_eq_true rfl⟩ ⟨Nat.le_of_ble_eq_true rfl, Nat.le_of_ble_eq_true rfl⟩ (Nat.le_of_ble_eq_true rfl) dX6_pass_1 rfl (fun H8 s8 => ?_)
  refine aw_aload_n (q := 5) 0 dX6_pass_4 rfl rfl rfl ?_
  refine aw_aload_n (q := 6) 0 dX6_pass_5 rfl rfl rfl ?_
  refine aw_iload_n (q := 7) 1 dX6_pass_6 rfl rfl rfl ?_
  refine cv_I (q := 10) (CC := "") (id := 108) (As := [.int (iI h)]) 1 (c_doPass (T := T) (D := D) (ad := ad) H8 (by rw [hold_row s8]; exact oH) (by rw [hold_row s8]; exact o10) (by omega)) (fun _ h => h) (by omega) (cell_108 ad C _) rfl wc_X6_doPass wm_RX6_151 wi_X6_doPass ws_X6_doPass wn_X6 (by decide) rfl ⟨Nat.le_of_ble_eq_true rfl, Nat.le_of_ble_eq_true rfl⟩ ⟨Nat.le_of_ble_eq_true rfl, Nat.le_of_ble_eq_true rfl⟩ (Nat.le_of_ble_eq_true rfl) dX6_pass_7 rfl (fun r2 H h2 => ?_)
  have fr := passB_fr h2
  have c8 := passB_8 s8.1 h2
  refine cv_I (q := 13) (CC := "") (id := 108) (As := [.int (iI r2)]) 1 (c_ends (T := T) (D := D) (ad := ad) H (a := r2) (by rw [show H 11 4 = G 11 4 from (((fr _ _ (by omega)).trans (s8.2.2 _ _ (by omega))))]; omega) (by omega)) (fun _ h => h) (by omega) (cell_108 ad C _) rfl wc_X6_ends wm_RX6_85 wi_X6_ends ws_X6_ends wn_X6 (by decide) rfl ⟨Nat.le_of_ble_eq_true rfl, Nat.le_of_ble_eq_true rfl⟩ ⟨Nat.le_of_ble_eq_true rfl, Nat.le_of_ble_eq_true rfl⟩ (Nat.le_of_ble_eq_true rfl) dX6_pass_10 rfl (fun rA HA hA => ?_)
  exact rt_i rfl (Nat.le_refl _) (Nat.le_refl _) (fin_to s8 h2 fr hA) dX6_pass_13
set_option maxHeartbeats 4000000 in
set_option maxRecDepth 100000 in
theorem c_doBuy {l : Launch} {D : va_G} {C : Nat → ClassId} {T : Nat → Nat} {ad : Int → Nat} (G : GG) {c : Int} (hc : 0 ≤ c ∧ c < G 12 13) (oH : okH (G 12)) (oP : okP G 12) (hR : okMR G) (hco : ∀ k : Int, 0 ≤ k → k < 4 → 0 ≤ G 18 k ∧ G 18 k ≤ 9) : MC l yX6_doBuy cX6_doBuy 5 (some .int) 3 76 0 0 D (tyC C) T [.ref (ad 108), .int (iI c)] (cw ad C G) (RI ad C (buyB c G)) := by
  refine mc_of (by decide +kernel) (Nat.le_of_ble_eq_true rfl) rfl ?_
  have o13 := oH.2.1
  have oc := oH.2.2 c hc.1 hc.2
  have ow := oc.2.2.2.2.2.2.2.1
  have oc1 := oc.1
  have oc2 := (okC_fineArgs oc).1
  have os3 := oH.1.2.2.2.1
  have h14 := oP.1
  have t0 : 0 ≤ G 12 5 ∧ G 12 5 ≤ 30 := oP.2.2 0 (by omega) (by omega)
  have p0 := hco 0 (by omega) (by omega)
  have t1 : 0 ≤ G 12 6 ∧ G 12 6 ≤ 30 := oP.2.2 1 (by omega) (by omega)
  have p1 := hco 1 (by omega) (by omega)
  have t2 : 0 ≤ G 12 7 ∧ G 12 7 ≤ 30 := oP.2.2 2 (by omega) (by omega)
  have p2 := hco 2 (by omega) (by omega)
  have t3 : 0 ≤ G 12 8 ∧ G 12 8 ≤ 30 := oP.2.2 3 (by omega) (by omega)
  have p3 := hco 3 (by omega) (by omega)
  refine aw_iconst (q := 1) dX6_doBuy_0 rfl ?_
  refine aw_istore_n (q := 2) (lv2 := [(0, .ref (ad 108)), (1, .int (iI c)), (2, .int (iI 0))]) [1, 2, 0] dX6_doBuy_1 rfl rfl (by decide) rfl rfl ?_
  refine aw_iconst (q := 3) dX6_doBuy_2 rfl ?_
  refine aw_istore_n (q := 4) (lv2 := [(0, .ref (ad 108)), (1, .int (iI c)), (2, .int (iI 0)), (3, .int (iI 0))]) [1, 2, 3, 0] dX6_doBuy_3 rfl rfl (by decide) rfl rfl ?_
  refine aw_iload_n (q := 5) 3 dX6_doBuy_4 rfl rfl rfl ?_
  refine aw_iconst (q := 6) dX6_doBuy_5 rfl ?_
  refine aw_icmp_ge (q := 9) dX6_doBuy_6 rfl (t := 29) (by decide) (by omega) (by omega) (fun h => absurd h (by omega)) (fun _ => ?_)
  refine aw_iload_n (q := 10) 2 dX6_doBuy_9 rfl rfl rfl ?_
  refine aw_aload_n (q := 11) 0 dX6_doBuy_10 rfl rfl rfl ?_
  refine g_mod_put (q := 14) wf_RX6_28 dX6_doBuy_11 rfl ?_
  refine aw_iload_n (q := 15) 3 dX6_doBuy_14 rfl rfl rfl ?_
  refine aw_cial (q := 16) (v := (G 18 0)) 0 (ar_115 ad C) (by omega) (by omega) rfl dX6_doBuy_15 rfl ?_
  refine aw_iload_n (q := 17) 3 dX6_doBuy_16 rfl rfl rfl ?_
  refine cs_I (q := 20) (As := [.int (iI 0)]) 1 (c_worthM0 (T := T) (D := D) (ad := ad) G) (fun _ h => h) wc_X6_worth wm_RX6_72 wt_X6_worth wn_X6 (by decide) rfl ⟨Nat.le_of_ble_eq_true rfl, Nat.le_of_ble_eq_true rfl⟩ ⟨Nat.le_of_ble_eq_true rfl, Nat.le_of_ble_eq_true rfl⟩ (Nat.le_of_ble_eq_true rfl) dX6_doBuy_17 rfl (fun r9 G9 h9 => ?_)
  rw [h9.1, h9.2]
  clear h9
  refine ae_imul (q := 21) (5 * (G 18 0)) (by omega) dX6_doBuy_20 rfl ?_
  refine ae_iadd (q := 22) (5 * (G 18 0)) (by omega) dX6_doBuy_21 rfl ?_
  refine aw_istore_n (q := 23) (lv2 := [(0, .ref (ad 108)), (1, .int (iI c)), (2, .int (iI (5 * (G 18 0)))), (3, .int (iI 0))]) [1, 2, 0, 3] dX6_doBuy_22 rfl rfl (by decide) rfl rfl ?_
  refine ae_iinc (q := 26) (lv2 := [(0, .ref (ad 108)), (1, .int (iI c)), (2, .int (iI (5 * (G 18 0)))), (3, .int (iI 1))]) 3 [1, 2, 3, 0] 1 (by omega) dX6_doBuy_23 rfl rfl (by decide) rfl ?_
  refine aw_goto (q := 4) dX6_doBuy_26 (by decide) ?_
  refine aw_iload_n (q := 5) 3 dX6_doBuy_4 rfl rfl rfl ?_
  refine aw_iconst (q := 6) dX6_doBuy_5 rfl ?_
  refine aw_icmp_ge (q := 9) dX6_doBuy_6 rfl (t := 29) (by decide) (by omega) (by omega) (fun h => absurd h (by omega)) (fun _ => ?_)
  refine aw_iload_n (q := 10) 2 dX6_doBuy_9 rfl rfl rfl ?_
  refine aw_aload_n (q := 11) 0 dX6_doBuy_10 rfl rfl rfl ?_
  refine g_mod_put (q := 14) wf_RX6_28 dX6_doBuy_11 rfl ?_
  refine aw_iload_n (q := 15) 3 dX6_doBuy_14 rfl rfl rfl ?_
  refine aw_cial (q := 16) (v := (G 18 1)) 1 (ar_115 ad C) (by omega) (by omega) rfl dX6_doBuy_15 rfl ?_
  refine aw_iload_n (q := 17) 3 dX6_doBuy_16 rfl rfl rfl ?_
  refine cs_I (q := 20) (As := [.int (iI 1)]) 1 (c_worthM1 (T := T) (D := D) (ad := ad) G) (fun _ h => h) wc_X6_worth wm_RX6_72 wt_X6_worth wn_X6 (by decide) rfl ⟨Nat.le_of_ble_eq_true rfl, Nat.le_of_ble_eq_true rfl⟩ ⟨Nat.le_of_ble_eq_true rfl, Nat.le_of_ble_eq_true rfl⟩ (Nat.le_of_ble_eq_true rfl) dX6_doBuy_17 rfl (fun r9 G9 h9 => ?_)
  rw [h9.1, h9.2]
  clear h9
  refine ae_imul (q := 21) (10 * (G 18 1)) (by omega) dX6_doBuy_20 rfl ?_
  refine ae_iadd (q := 22) (5 * (G 18 0) + 10 * (G 18 1)) (by omega) dX6_doBuy_21 rfl ?_
  refine aw_istore_n (q := 23) (lv2 := [(0, .ref (ad 108)), (1, .int (iI c)), (2, .int (iI (5 * (G 18 0) + 10 * (G 18 1)))), (3, .int (iI 1))]) [1, 2, 0, 3] dX6_doBuy_22 rfl rfl (by decide) rfl rfl ?_
  refine ae_iinc (q := 26) (lv2 := [(0, .ref (ad 108)), (1, .int (iI c)), (2, .int (iI (5 * (G 18 0) + 10 * (G 18 1)))), (3, .int (iI 2))]) 3 [1, 2, 3, 0] 2 (by omega) dX6_doBuy_23 rfl rfl (by decide) rfl ?_
  refine aw_goto (q := 4) dX6_doBuy_26 (by decide) ?_
  refine aw_iload_n (q := 5) 3 dX6_doBuy_4 rfl rfl rfl ?_
  refine aw_iconst (q := 6) dX6_doBuy_5 rfl ?_
  refine aw_icmp_ge (q := 9) dX6_doBuy_6 rfl (t := 29) (by decide) (by omega) (by omega) (fun h => absurd h (by omega)) (fun _ => ?_)
  refine aw_iload_n (q := 10) 2 dX6_doBuy_9 rfl rfl rfl ?_
  refine aw_aload_n (q := 11) 0 dX6_doBuy_10 rfl rfl rfl ?_
  refine g_mod_put (q := 14) wf_RX6_28 dX6_doBuy_11 rfl ?_
  refine aw_iload_n (q := 15) 3 dX6_doBuy_14 rfl rfl rfl ?_
  refine aw_cial (q := 16) (v := (G 18 2)) 2 (ar_115 ad C) (by omega) (by omega) rfl dX6_doBuy_15 rfl ?_
  refine aw_iload_n (q := 17) 3 dX6_doBuy_16 rfl rfl rfl ?_
  refine cs_I (q := 20) (As := [.int (iI 2)]) 1 (c_worthM2 (T := T) (D := D) (ad := ad) G) (fun _ h => h) wc_X6_worth wm_RX6_72 wt_X6_worth wn_X6 (by decide) rfl ⟨Nat.le_of_ble_eq_true rfl, Nat.le_of_ble_eq_true rfl⟩ ⟨Nat.le_of_ble_eq_true rfl, Nat.le_of_ble_eq_true rfl⟩ (Nat.le_of_ble_eq_true rfl) dX6_doBuy_17 rfl (fun r9 G9 h9 => ?_)
  rw [h9.1, h9.2]
  clear h9
  refine ae_imul (q := 21) (20 * (G 18 2)) (by omega) dX6_doBuy_20 rfl ?_
  refine ae_iadd (q := 22) (5 * (G 18 0) + 10 * (G 18 1) + 20 * (G 18 2)) (by omega) dX6_doBuy_21 rfl ?_
  refine aw_istore_n (q := 23) (lv2 := [(0, .ref (ad 108)), (1, .int (iI c)), (2, .int (iI (5 * (G 18 0) + 10 * (G 18 1) + 20 * (G 18 2)))), (3, .int (iI 2))]) [1, 2, 0, 3] dX6_doBuy_22 rfl rfl (by decide) rfl rfl ?_
  refine ae_iinc (q := 26) (lv2 := [(0, .ref (ad 108)), (1, .int (iI c)), (2, .int (iI (5 * (G 18 0) + 10 * (G 18 1) + 20 * (G 18 2)))), (3, .int (iI 3))]) 3 [1, 2, 3, 0] 3 (by omega) dX6_doBuy_23 rfl rfl (by decide) rfl ?_
  refine aw_goto (q := 4) dX6_doBuy_26 (by decide) ?_
  refine aw_iload_n (q := 5) 3 dX6_doBuy_4 rfl rfl rfl ?_
  refine aw_iconst (q := 6) dX6_doBuy_5 rfl ?_
  refine aw_icmp_ge (q := 9) dX6_doBuy_6 rfl (t := 29) (by decide) (by omega) (by omega) (fun h => absurd h (by omega)) (fun _ => ?_)
  refine aw_iload_n (q := 10) 2 dX6_doBuy_9 rfl rfl rfl ?_
  refine aw_aload_n (q := 11) 0 dX6_doBuy_10 rfl rfl rfl ?_
  refine g_mod_put (q := 14) wf_RX6_28 dX6_doBuy_11 rfl ?_
  refine aw_iload_n (q := 15) 3 dX6_doBuy_14 rfl rfl rfl ?_
  refine aw_cial (q := 16) (v := (G 18 3)) 3 (ar_115 ad C) (by omega) (by omega) rfl dX6_doBuy_15 rfl ?_
  refine aw_iload_n (q := 17) 3 dX6_doBuy_16 rfl rfl rfl ?_
  refine cs_I (q := 20) (As := [.int (iI 3)]) 1 (c_worthM3 (T := T) (D := D) (ad := ad) G) (fun _ h => h) wc_X6_worth wm_RX6_72 wt_X6_worth wn_X6 (by decide) rfl ⟨Nat.le_of_ble_eq_true rfl, Nat.le_of_ble_eq_true rfl⟩ ⟨Nat.le_of_ble_eq_true rfl, Nat.le_of_ble_eq_true rfl⟩ (Nat.le_of_ble_eq_true rfl) dX6_doBuy_17 rfl (fun r9 G9 h9 => ?_)
  rw [h9.1, h9.2]
  clear h9
  refine ae_imul (q := 21) (50 * (G 18 3)) (by omega) dX6_doBuy_20 rfl ?_
  refine ae_iadd (q := 22) (5 * (G 18 0) + 10 * (G 18 1) + 20 * (G 18 2) + 50 * (G 18 3)) (by omega) dX6_doBuy_21 rfl ?_
  refine aw_istore_n (q := 23) (lv2 := [(0, .ref (ad 108)), (1, .int (iI c)), (2, .int (iI (5 * (G 18 0) + 10 * (G 18 1) + 20 * (G 18 2) + 50 * (G 18 3)))), (3, .int (iI 3))]) [1, 2, 0, 3] dX6_doBuy_22 rfl rfl (by decide) rfl rfl ?_
  refine ae_iinc (q := 26) (lv2 := [(0, .ref (ad 108)), (1, .int (iI c)), (2, .int (iI (5 * (G 18 0) + 10 * (G 18 1) + 20 * (G 18 2) + 50 * (G 18 3)))), (3, .int (iI 4))]) 3 [1, 2, 3, 0] 4 (by omega) dX6_doBuy_23 rfl rfl (by decide) rfl ?_
  refine aw_goto (q := 4) dX6_doBuy_26 (by decide) ?_
  refine aw_iload_n (q := 5) 3 dX6_doBuy_4 rfl rfl rfl ?_
  refine aw_iconst (q := 6) dX6_doBuy_5 rfl ?_
  refine aw_icmp_ge (q := 9) dX6_doBuy_6 rfl (t := 29) (by decide) (by omega) (by omega) (fun _ => ?_) (fun h => absurd h (by omega))
  refine aw_iload_n (q := 30) 2 dX6_doBuy_29 rfl rfl rfl ?_
  refine aw_aload_n (q := 31) 0 dX6_doBuy_30 rfl rfl rfl ?_
  refine aw_iload_n (q := 32) 1 dX6_doBuy_31 rfl rfl rfl ?_
  refine aw_iconst (q := 33) dX6_doBuy_32 rfl ?_
  refine cv_I (q := 36) (CC := "") (id := 108) (As := [.int (iI c), .int (iI 2)]) 2 (c_of (T := T) (D := D) (ad := ad) G (by omega) (by omega)) (fun _ h => h) (by omega) (cell_108 ad C _) rfl wc_X6_of wm_RX6_100 wi_X6_of ws_X6_of wn_X6 (by decide) rfl ⟨Nat.le_of_ble_eq_true rfl, Nat.le_of_ble_eq_true rfl⟩ ⟨Nat.le_of_ble_eq_true rfl, Nat.le_of_ble_eq_true rfl⟩ (Nat.le_of_ble_eq_true rfl) dX6_doBuy_33 rfl (fun r9 G9 h9 => ?_)
  obtain ⟨e9, g9⟩ := h9
  rw [e9.trans (rfl), g9]
  clear e9 g9
  refine ae_isub (q := 37) (5 * (G 18 0) + 10 * (G 18 1) + 20 * (G 18 2) + 50 * (G 18 3) - (G 12 (15 + 12 * c + 2))) (by omega) dX6_doBuy_36 rfl ?_
  refine aw_istore_n (q := 38) (lv2 := [(0, .ref (ad 108)), (1, .int (iI c)), (2, .int (iI (5 * (G 18 0) + 10 * (G 18 1) + 20 * (G 18 2) + 50 * (G 18 3)))), (3, .int (iI (5 * (G 18 0) + 10 * (G 18 1) + 20 * (G 18 2) + 50 * (G 18 3) - (G 12 (15 + 12 * c + 2)))))]) [1, 2, 3, 0] dX6_doBuy_37 rfl rfl (by decide) rfl rfl ?_
  obtain ⟨a, hA⟩ : ∃ a, backF G 12 c 18 = a := ⟨_, rfl⟩
  have hA2 : 5 * G 18 0 + 10 * G 18 1 + 20 * G 18 2 + 50 * G 18 3 - G 12 (15 + 12 * c + 2) = a := hA
  rw [show (5 * (G 18 0) + 10 * (G 18 1) + 20 * (G 18 2) + 50 * (G 18 3) - (G 12 (15 + 12 * c + 2))) = a by omega]
  refine aw_aload_n (q := 39) 0 dX6_doBuy_38 rfl rfl rfl ?_
  refine aw_iload_n (q := 40) 1 dX6_doBuy_39 rfl rfl rfl ?_
  refine aw_iconst (q := 41) dX6_doBuy_40 rfl ?_
  refine cv_I (q := 44) (CC := "") (id := 108) (As := [.int (iI c), .int (iI 1)]) 2 (c_of (T := T) (D := D) (ad := ad) G (by omega) (by omega)) (fun _ h => h) (by omega) (cell_108 ad C _) rfl wc_X6_of wm_RX6_100 wi_X6_of ws_X6_of wn_X6 (by decide) rfl ⟨Nat.le_of_ble_eq_true rfl, Nat.le_of_ble_eq_true rfl⟩ ⟨Nat.le_of_ble_eq_true rfl, Nat.le_of_ble_eq_true rfl⟩ (Nat.le_of_ble_eq_true rfl) dX6_doBuy_41 rfl (fun r9 G9 h9 => ?_)
  obtain ⟨e9, g9⟩ := h9
  rw [e9.trans (rfl), g9]
  clear e9 g9
  refine aw_if_eq (q := 47) dX6_doBuy_44 rfl (t := 51) (by decide) (by omega) (fun y1 => ?_) (fun y2 => ?_)
  · refine aw_aload_n (q := 52) 0 dX6_doBuy_51 rfl rfl rfl ?_
    refine aw_iconst (q := 53) dX6_doBuy_52 rfl ?_
    refine cv_I (q := 56) (CC := "") (id := 108) (As := [.int (iI 3)]) 1 (c_refuse (T := T) (D := D) (ad := ad) G) (fun _ h => h) (by omega) (cell_108 ad C _) rfl wc_X6_refuse wm_RX6_82 wi_X6_refuse ws_X6_refuse wn_X6 (by decide) rfl ⟨Nat.le_of_ble_eq_true rfl, Nat.le_of_ble_eq_true rfl⟩ ⟨Nat.le_of_ble_eq_true rfl, Nat.le_of_ble_eq_true rfl⟩ (Nat.le_of_ble_eq_true rfl) dX6_doBuy_53 rfl (fun r9 G9 h9 => ?_)
    rw [h9.1, h9.2]
    clear h9
    exact rt_i rfl (Nat.le_refl _) (Nat.le_refl _) (⟨fun x y z => setG_ne (by omega), Or.inl ⟨fun q => by have q1 := q.1; have q2 := q.2.1; rw [hA] at q2; omega, rfl, setG_same _ _ _ _, fun y z0 z1 => setG_ne (by omega)⟩⟩) dX6_doBuy_56
  · refine aw_iload_n (q := 48) 3 dX6_doBuy_47 rfl rfl rfl ?_
    refine aw_if_ge (q := 51) dX6_doBuy_48 rfl (t := 57) (by decide) (by omega) (fun y3 => ?_) (fun y4 => ?_)
    · refine aw_aload_n (q := 58) 0 dX6_doBuy_57 rfl rfl rfl ?_
      refine g_mod_p (q := 61) wf_RX6_7 dX6_doBuy_58 rfl ?_
      refine aw_iconst (q := 62) dX6_doBuy_61 rfl ?_
      refine aw_aload_n (q := 63) 0 dX6_doBuy_62 rfl rfl rfl ?_
      refine g_mod_trial (q := 66) wf_RX6_16 dX6_doBuy_63 rfl ?_
      refine aw_iconst (q := 67) dX6_doBuy_66 rfl ?_
      refine cs_V (q := 70) (As := [.ref (ad 109), .int (iI 0), .ref (ad 111), .int (iI 0)]) 4 (c_bring (T := T) (D := D) G (ar_109 ad C) (ar_111 ad C) (by omega) (by omega) (by omega) (by omega)) (fun _ h => h) wc_X6_bring wm_RX6_55 wt_X6_bring wn_X6 (by decide) rfl ⟨Nat.le_of_ble_eq_true rfl, Nat.le_of_ble_eq_true rfl⟩ ⟨Nat.le_of_ble_eq_true rfl, Nat.le_of_ble_eq_true rfl⟩ (Nat.le_of_ble_eq_true rfl) dX6_doBuy_67 rfl (fun G9 h9 => ?_)
      rw [h9]
      clear h9
      refine aw_iconst (q := 71) dX6_doBuy_70 rfl ?_
      refine aw_istore (q := 73) (lv2 := [(0, .ref (ad 108)), (1, .int (iI c)), (2, .int (iI (5 * (G 18 0) + 10 * (G 18 1) + 20 * (G 18 2) + 50 * (G 18 3)))), (3, .int (iI a)), (4, .int (iI 0))]) [1, 2, 3, 4, 0] dX6_doBuy_71 rfl (by decide) rfl rfl ?_
      refine aw_iload (q := 75) 4 dX6_doBuy_73 rfl rfl ?_
      refine aw_iconst (q := 76) dX6_doBuy_75 rfl ?_
      refine aw_icmp_ge (q := 79) dX6_doBuy_76 rfl (t := 98) (by decide) (by omega) (by omega) (fun h => absurd h (by omega)) (fun _ => ?_)
      refine aw_aload_n (q := 80) 0 dX6_doBuy_79 rfl rfl rfl ?_
      refine aw_iload (q := 82) 4 dX6_doBuy_80 rfl rfl ?_
      refine aw_aload_n (q := 83) 0 dX6_doBuy_82 rfl rfl rfl ?_
      refine g_mod_put (q := 86) wf_RX6_28 dX6_doBuy_83 rfl ?_
      refine aw_iload (q := 88) 4 dX6_doBuy_86 rfl rfl ?_
      refine aw_cial (q := 89) (v := (G 18 0)) 0 (ar_115 ad C) (by omega) (by omega) ((cpG_ne (by omega))) dX6_doBuy_88 rfl ?_
      refine cv_V (q := 92) (CC := "") (id := 108) (As := [.int (iI 0), .int (iI (G 18 0))]) 2 (c_puts0 (T := T) (D := D) (ad := ad) ((cpG G 14 0 311 12 0)) (v := (G 18 0)) (by omega) (by rw [show ((cpG G 14 0 311 12 0)) 12 5 = G 12 5 from (cpG_ne (by omega))]; omega)) (fun _ h => h) (by omega) (cell_108 ad C _) rfl wc_X6_puts wm_RX6_113 wi_X6_puts ws_X6_puts wn_X6 (by decide) rfl ⟨Nat.le_of_ble_eq_true rfl, Nat.le_of_ble_eq_true rfl⟩ ⟨Nat.le_of_ble_eq_true rfl, Nat.le_of_ble_eq_true rfl⟩ (Nat.le_of_ble_eq_true rfl) dX6_doBuy_89 rfl (fun G9 h9 => ?_)
      rw [h9]
      clear h9
      refine ae_iinc (q := 95) (lv2 := [(0, .ref (ad 108)), (1, .int (iI c)), (2, .int (iI (5 * (G 18 0) + 10 * (G 18 1) + 20 * (G 18 2) + 50 * (G 18 3)))), (3, .int (iI a)), (4, .int (iI 1))]) 4 [1, 2, 3, 4, 0] 1 (by omega) dX6_doBuy_92 rfl rfl (by decide) rfl ?_
      refine aw_goto (q := 73) dX6_doBuy_95 (by decide) ?_
      refine aw_iload (q := 75) 4 dX6_doBuy_73 rfl rfl ?_
      refine aw_iconst (q := 76) dX6_doBuy_75 rfl ?_
      refine aw_icmp_ge (q := 79) dX6_doBuy_76 rfl (t := 98) (by decide) (by omega) (by omega) (fun h => absurd h (by omega)) (fun _ => ?_)
      refine aw_aload_n (q := 80) 0 dX6_doBuy_79 rfl rfl rfl ?_
      refine aw_iload (q := 82) 4 dX6_doBuy_80 rfl rfl ?_
      refine aw_aload_n (q := 83) 0 dX6_doBuy_82 rfl rfl rfl ?_
      refine g_mod_put (q := 86) wf_RX6_28 dX6_doBuy_83 rfl ?_
      refine aw_iload (q := 88) 4 dX6_doBuy_86 rfl rfl ?_
      refine aw_cial (q := 89) (v := (G 18 1)) 1 (ar_115 ad C) (by omega) (by omega) (((putsG_ne (by omega)).trans (cpG_ne (by omega)))) dX6_doBuy_88 rfl ?_
      refine cv_V (q := 92) (CC := "") (id := 108) (As := [.int (iI 1), .int (iI (G 18 1))]) 2 (c_puts1 (T := T) (D := D) (ad := ad) ((putsG ((cpG G 14 0 311 12 0)) 0 5 (G 18 0))) (v := (G 18 1)) (by omega) (by rw [show ((putsG ((cpG G 14 0 311 12 0)) 0 5 (G 18 0))) 12 6 = G 12 6 from ((putsG_ne (by omega)).trans (cpG_ne (by omega)))]; omega)) (fun _ h => h) (by omega) (cell_108 ad C _) rfl wc_X6_puts wm_RX6_113 wi_X6_puts ws_X6_puts wn_X6 (by decide) rfl ⟨Nat.le_of_ble_eq_true rfl, Nat.le_of_ble_eq_true rfl⟩ ⟨Nat.le_of_ble_eq_true rfl, Nat.le_of_ble_eq_true rfl⟩ (Nat.le_of_ble_eq_true rfl) dX6_doBuy_89 rfl (fun G9 h9 => ?_)
      rw [h9]
      clear h9
      refine ae_iinc (q := 95) (lv2 := [(0, .ref (ad 108)), (1, .int (iI c)), (2, .int (iI (5 * (G 18 0) + 10 * (G 18 1) + 20 * (G 18 2) + 50 * (G 18 3)))), (3, .int (iI a)), (4, .int (iI 2))]) 4 [1, 2, 3, 4, 0] 2 (by omega) dX6_doBuy_92 rfl rfl (by decide) rfl ?_
      refine aw_goto (q := 73) dX6_doBuy_95 (by decide) ?_
      refine aw_iload (q := 75) 4 dX6_doBuy_73 rfl rfl ?_
      refine aw_iconst (q := 76) dX6_doBuy_75 rfl ?_
      refine aw_icmp_ge (q := 79) dX6_doBuy_76 rfl (t := 98) (by decide) (by omega) (by omega) (fun h => absurd h (by omega)) (fun _ => ?_)
      refine aw_aload_n (q := 80) 0 dX6_doBuy_79 rfl rfl rfl ?_
      refine aw_iload (q := 82) 4 dX6_doBuy_80 rfl rfl ?_
      refine aw_aload_n (q := 83) 0 dX6_doBuy_82 rfl rfl rfl ?_
      refine g_mod_put (q := 86) wf_RX6_28 dX6_doBuy_83 rfl ?_
      refine aw_iload (q := 88) 4 dX6_doBuy_86 rfl rfl ?_
      refine aw_cial (q := 89) (v := (G 18 2)) 2 (ar_115 ad C) (by omega) (by omega) (((putsG_ne (by omega)).trans ((putsG_ne (by omega)).trans (cpG_ne (by omega))))) dX6_doBuy_88 rfl ?_
      refine cv_V (q := 92) (CC := "") (id := 108) (As := [.int (iI 2), .int (iI (G 18 2))]) 2 (c_puts2 (T := T) (D := D) (ad := ad) ((putsG ((putsG ((cpG G 14 0 311 12 0)) 0 5 (G 18 0))) 1 10 (G 18 1))) (v := (G 18 2)) (by omega) (by rw [show ((putsG ((putsG ((cpG G 14 0 311 12 0)) 0 5 (G 18 0))) 1 10 (G 18 1))) 12 7 = G 12 7 from ((putsG_ne (by omega)).trans ((putsG_ne (by omega)).trans (cpG_ne (by omega))))]; omega)) (fun _ h => h) (by omega) (cell_108 ad C _) rfl wc_X6_puts wm_RX6_113 wi_X6_puts ws_X6_puts wn_X6 (by decide) rfl ⟨Nat.le_of_ble_eq_true rfl, Nat.le_of_ble_eq_true rfl⟩ ⟨Nat.le_of_ble_eq_true rfl, Nat.le_of_ble_eq_true rfl⟩ (Nat.le_of_ble_eq_true rfl) dX6_doBuy_89 rfl (fun G9 h9 => ?_)
      rw [h9]
      clear h9
      refine ae_iinc (q := 95) (lv2 := [(0, .ref (ad 108)), (1, .int (iI c)), (2, .int (iI (5 * (G 18 0) + 10 * (G 18 1) + 20 * (G 18 2) + 50 * (G 18 3)))), (3, .int (iI a)), (4, .int (iI 3))]) 4 [1, 2, 3, 4, 0] 3 (by omega) dX6_doBuy_92 rfl rfl (by decide) rfl ?_
      refine aw_goto (q := 73) dX6_doBuy_95 (by decide) ?_
      refine aw_iload (q := 75) 4 dX6_doBuy_73 rfl rfl ?_
      refine aw_iconst (q := 76) dX6_doBuy_75 rfl ?_
      refine aw_icmp_ge (q := 79) dX6_doBuy_76 rfl (t := 98) (by decide) (by omega) (by omega) (fun h => absurd h (by omega)) (fun _ => ?_)
      refine aw_aload_n (q := 80) 0 dX6_doBuy_79 rfl rfl rfl ?_
      refine aw_iload (q := 82) 4 dX6_doBuy_80 rfl rfl ?_
      refine aw_aload_n (q := 83) 0 dX6_doBuy_82 rfl rfl rfl ?_
      refine g_mod_put (q := 86) wf_RX6_28 dX6_doBuy_83 rfl ?_
      refine aw_iload (q := 88) 4 dX6_doBuy_86 rfl rfl ?_
      refine aw_cial (q := 89) (v := (G 18 3)) 3 (ar_115 ad C) (by omega) (by omega) (((putsG_ne (by omega)).trans ((putsG_ne (by omega)).trans ((putsG_ne (by omega)).trans (cpG_ne (by omega)))))) dX6_doBuy_88 rfl ?_
      refine cv_V (q := 92) (CC := "") (id := 108) (As := [.int (iI 3), .int (iI (G 18 3))]) 2 (c_puts3 (T := T) (D := D) (ad := ad) ((putsG ((putsG ((putsG ((cpG G 14 0 311 12 0)) 0 5 (G 18 0))) 1 10 (G 18 1))) 2 20 (G 18 2))) (v := (G 18 3)) (by omega) (by rw [show ((putsG ((putsG ((putsG ((cpG G 14 0 311 12 0)) 0 5 (G 18 0))) 1 10 (G 18 1))) 2 20 (G 18 2))) 12 8 = G 12 8 from ((putsG_ne (by omega)).trans ((putsG_ne (by omega)).trans ((putsG_ne (by omega)).trans (cpG_ne (by omega)))))]; omega)) (fun _ h => h) (by omega) (cell_108 ad C _) rfl wc_X6_puts wm_RX6_113 wi_X6_puts ws_X6_puts wn_X6 (by decide) rfl ⟨Nat.le_of_ble_eq_true rfl, Nat.le_of_ble_eq_true rfl⟩ ⟨Nat.le_of_ble_eq_true rfl, Nat.le_of_ble_eq_true rfl⟩ (Nat.le_of_ble_eq_true rfl) dX6_doBuy_89 rfl (fun G9 h9 => ?_)
      rw [h9]
      clear h9
      refine ae_iinc (q := 95) (lv2 := [(0, .ref (ad 108)), (1, .int (iI c)), (2, .int (iI (5 * (G 18 0) + 10 * (G 18 1) + 20 * (G 18 2) + 50 * (G 18 3)))), (3, .int (iI a)), (4, .int (iI 4))]) 4 [1, 2, 3, 4, 0] 4 (by omega) dX6_doBuy_92 rfl rfl (by decide) rfl ?_
      refine aw_goto (q := 73) dX6_doBuy_95 (by decide) ?_
      refine aw_iload (q := 75) 4 dX6_doBuy_73 rfl rfl ?_
      refine aw_iconst (q := 76) dX6_doBuy_75 rfl ?_
      refine aw_icmp_ge (q := 79) dX6_doBuy_76 rfl (t := 98) (by decide) (by omega) (by omega) (fun _ => ?_) (fun h => absurd h (by omega))
      obtain ⟨K, hK, kI⟩ : ∃ K, ((putsG ((putsG ((putsG ((putsG ((cpG G 14 0 311 12 0)) 0 5 (G 18 0))) 1 10 (G 18 1))) 2 20 (G 18 2))) 3 50 (G 18 3))) = K ∧ inM G K := ⟨_, rfl, inM_of oP.2.2 hco⟩
      rw [hK]
      obtain ⟨i5, i6, i7, i8, i9, i14, is12⟩ := kI
      have htK : ∀ k : Int, 0 ≤ k → k < 4 → 0 ≤ K 12 (5 + k) ∧ K 12 (5 + k) ≤ 30 := fun k z0 z1 => by
        rcases (by omega : k = 0 ∨ k = 1 ∨ k = 2 ∨ k = 3) with rfl | rfl | rfl | rfl
        · show 0 ≤ K 12 5 ∧ K 12 5 ≤ 30; omega
        · show 0 ≤ K 12 6 ∧ K 12 6 ≤ 30; omega
        · show 0 ≤ K 12 7 ∧ K 12 7 ≤ 30; omega
        · show 0 ≤ K 12 8 ∧ K 12 8 ≤ 30; omega
      refine aw_aload_n (q := 99) 0 dX6_doBuy_98 rfl rfl rfl ?_
      refine aw_iload_n (q := 100) 3 dX6_doBuy_99 rfl rfl rfl ?_
      refine aw_iconst (q := 101) dX6_doBuy_100 rfl ?_
      refine aw_iconst (q := 102) dX6_doBuy_101 rfl ?_
      refine cv_I (q := 105) (CC := "") (id := 108) (As := [.int (iI a), .int (iI (-1)), .int (iI 0)]) 3 (c_py0 (T := T) (D := D) (ad := ad) K (by omega) htK) (fun _ h => h) (by omega) (cell_108 ad C _) rfl wc_X6_pays wm_RX6_66 wi_X6_pays ws_X6_pays wn_X6 (by decide) rfl ⟨Nat.le_of_ble_eq_true rfl, Nat.le_of_ble_eq_true rfl⟩ ⟨Nat.le_of_ble_eq_true rfl, Nat.le_of_ble_eq_true rfl⟩ (Nat.le_of_ble_eq_true rfl) dX6_doBuy_102 rfl (fun r1 K1 h9 => ?_)
      obtain ⟨hr1, hc1, hs1⟩ := h9
      rw [i5, i6, i7, i8] at hr1 hc1
      subst hr1
      by_cases hp : canU G 12 18 a
      · rw [b2i_t hp]
        refine aw_istore (q := 107) (lv2 := [(0, .ref (ad 108)), (1, .int (iI c)), (2, .int (iI (5 * (G 18 0) + 10 * (G 18 1) + 20 * (G 18 2) + 50 * (G 18 3)))), (3, .int (iI a)), (4, .int (iI 1))]) [1, 2, 3, 4, 0] dX6_doBuy_105 rfl (by decide) rfl rfl ?_
        refine aw_iload (q := 109) 4 dX6_doBuy_107 rfl rfl ?_
        refine aw_if_ne (q := 112) dX6_doBuy_109 rfl (t := 146) (by decide) (by omega) (fun _ => ?_) (fun h => absurd h (by omega))
        refine aw_iload (q := 148) 4 dX6_doBuy_146 rfl rfl ?_
        refine aw_if_eq (q := 151) dX6_doBuy_148 rfl (t := 158) (by decide) (by omega) (fun h => absurd h (by omega)) (fun _ => ?_)
        refine aw_aload_n (q := 152) 0 dX6_doBuy_151 rfl rfl rfl ?_
        refine cv_V (q := 155) (CC := "") (id := 108) (As := []) 0 (c_takes (T := T) (D := D) (ad := ad) K1) (fun _ h => h) (by omega) (cell_108 ad C _) rfl wc_X6_takes wm_RX6_69 wi_X6_takes ws_X6_takes wn_X6 (by decide) rfl ⟨Nat.le_of_ble_eq_true rfl, Nat.le_of_ble_eq_true rfl⟩ ⟨Nat.le_of_ble_eq_true rfl, Nat.le_of_ble_eq_true rfl⟩ (Nat.le_of_ble_eq_true rfl) dX6_doBuy_152 rfl (fun K2 h8 => ?_)
        obtain ⟨g0, g1, g2, g3, hs2⟩ := h8
        obtain ⟨f0, f1, f2, f3⟩ := hc1 hp
        have u5 : K2 12 5 = (min 30 (G 12 5 + G 18 0)) - c0F (min 30 (G 12 5 + G 18 0)) (min 30 (G 12 6 + G 18 1)) (min 30 (G 12 7 + G 18 2)) (min 30 (G 12 8 + G 18 3)) a := by rw [g0, f0, hs1 12 5 (by omega), i5]
        have u6 : K2 12 6 = (min 30 (G 12 6 + G 18 1)) - c1F (min 30 (G 12 5 + G 18 0)) (min 30 (G 12 6 + G 18 1)) (min 30 (G 12 7 + G 18 2)) (min 30 (G 12 8 + G 18 3)) a := by rw [g1, f1, hs1 12 6 (by omega), i6]
        have u7 : K2 12 7 = (min 30 (G 12 7 + G 18 2)) - c2F (min 30 (G 12 5 + G 18 0)) (min 30 (G 12 6 + G 18 1)) (min 30 (G 12 7 + G 18 2)) (min 30 (G 12 8 + G 18 3)) a := by rw [g2, f2, hs1 12 7 (by omega), i7]
        have u8 : K2 12 8 = (min 30 (G 12 8 + G 18 3)) - c3F (min 30 (G 12 5 + G 18 0)) (min 30 (G 12 6 + G 18 1)) (min 30 (G 12 7 + G 18 2)) (min 30 (G 12 8 + G 18 3)) a := by rw [g3, f3, hs1 12 8 (by omega), i8]
        refine aw_goto (q := 185) dX6_doBuy_155 (by decide) ?_
        have h9K : True := trivial
        refine aw_aload_n (q := 186) 0 dX6_doBuy_185 rfl rfl rfl ?_
        refine aw_iload_n (q := 187) 1 dX6_doBuy_186 rfl rfl rfl ?_
        refine aw_iconst (q := 188) dX6_doBuy_187 rfl ?_
        refine aw_aload_n (q := 189) 0 dX6_doBuy_188 rfl rfl rfl ?_
        refine aw_iload_n (q := 190) 1 dX6_doBuy_189 rfl rfl rfl ?_
        refine aw_iconst (q := 191) dX6_doBuy_190 rfl ?_
        refine cv_I (q := 194) (CC := "") (id := 108) (As := [.int (iI c), .int (iI 1)]) 2 (c_of (T := T) (D := D) (ad := ad) K2 (by omega) (by omega)) (fun _ h => h) (by omega) (cell_108 ad C _) rfl wc_X6_of wm_RX6_100 wi_X6_of ws_X6_of wn_X6 (by decide) rfl ⟨Nat.le_of_ble_eq_true rfl, Nat.le_of_ble_eq_true rfl⟩ ⟨Nat.le_of_ble_eq_true rfl, Nat.le_of_ble_eq_true rfl⟩ (Nat.le_of_ble_eq_true rfl) dX6_doBuy_191 rfl (fun r9 G9 h9 => ?_)
        obtain ⟨e9, g9⟩ := h9
        rw [e9.trans ((((hs2 _ _ (by omega)).trans ((hs1 _ _ (by omega)).trans (is12 _ _ (by omega)))))), g9]
        clear e9 g9
        refine aw_iconst (q := 195) dX6_doBuy_194 rfl ?_
        refine ae_isub (q := 196) ((G 12 (15 + 12 * c + 1)) - 1) (by omega) dX6_doBuy_195 rfl ?_
        refine cv_V (q := 199) (CC := "") (id := 108) (As := [.int (iI c), .int (iI 1), .int (iI ((G 12 (15 + 12 * c + 1)) - 1))]) 3 (c_lay (T := T) (D := D) (ad := ad) K2 (by omega) (by omega)) (fun _ h => h) (by omega) (cell_108 ad C _) rfl wc_X6_lay wm_RX6_92 wi_X6_lay ws_X6_lay wn_X6 (by decide) rfl ⟨Nat.le_of_ble_eq_true rfl, Nat.le_of_ble_eq_true rfl⟩ ⟨Nat.le_of_ble_eq_true rfl, Nat.le_of_ble_eq_true rfl⟩ (Nat.le_of_ble_eq_true rfl) dX6_doBuy_196 rfl (fun G9 h9 => ?_)
        rw [h9]
        clear h9
        refine aw_aload_n (q := 200) 0 dX6_doBuy_199 rfl rfl rfl ?_
        refine aw_iload_n (q := 201) 1 dX6_doBuy_200 rfl rfl rfl ?_
        refine aw_bipush (q := 203) dX6_doBuy_201 rfl (by decide) ?_
        refine aw_aload_n (q := 204) 0 dX6_doBuy_203 rfl rfl rfl ?_
        refine aw_iload_n (q := 205) 1 dX6_doBuy_204 rfl rfl rfl ?_
        refine aw_bipush (q := 207) dX6_doBuy_205 rfl (by decide) ?_
        refine cv_I (q := 210) (CC := "") (id := 108) (As := [.int (iI c), .int (iI 6)]) 2 (c_of (T := T) (D := D) (ad := ad) (setG K2 12 (15 + 12 * c + 1) ((G 12 (15 + 12 * c + 1)) - 1)) (by omega) (by omega)) (fun _ h => h) (by omega) (cell_108 ad C _) rfl wc_X6_of wm_RX6_100 wi_X6_of ws_X6_of wn_X6 (by decide) rfl ⟨Nat.le_of_ble_eq_true rfl, Nat.le_of_ble_eq_true rfl⟩ ⟨Nat.le_of_ble_eq_true rfl, Nat.le_of_ble_eq_true rfl⟩ (Nat.le_of_ble_eq_true rfl) dX6_doBuy_207 rfl (fun r9 G9 h9 => ?_)
        obtain ⟨e9, g9⟩ := h9
        rw [e9.trans (((setG_ne (by omega)).trans (((hs2 _ _ (by omega)).trans ((hs1 _ _ (by omega)).trans (is12 _ _ (by omega))))))), g9]
        clear e9 g9
        refine aw_iconst (q := 211) dX6_doBuy_210 rfl ?_
        refine ae_iadd (q := 212) ((G 12 (15 + 12 * c + 6)) + 1) (by omega) dX6_doBuy_211 rfl ?_
        refine cv_V (q := 215) (CC := "") (id := 108) (As := [.int (iI c), .int (iI 6), .int (iI ((G 12 (15 + 12 * c + 6)) + 1))]) 3 (c_lay (T := T) (D := D) (ad := ad) (setG K2 12 (15 + 12 * c + 1) ((G 12 (15 + 12 * c + 1)) - 1)) (by omega) (by omega)) (fun _ h => h) (by omega) (cell_108 ad C _) rfl wc_X6_lay wm_RX6_92 wi_X6_lay ws_X6_lay wn_X6 (by decide) rfl ⟨Nat.le_of_ble_eq_true rfl, Nat.le_of_ble_eq_true rfl⟩ ⟨Nat.le_of_ble_eq_true rfl, Nat.le_of_ble_eq_true rfl⟩ (Nat.le_of_ble_eq_true rfl) dX6_doBuy_212 rfl (fun G9 h9 => ?_)
        rw [h9]
        clear h9
        refine aw_aload_n (q := 216) 0 dX6_doBuy_215 rfl rfl rfl ?_
        refine aw_iload_n (q := 217) 1 dX6_doBuy_216 rfl rfl rfl ?_
        refine aw_bipush (q := 219) dX6_doBuy_217 rfl (by decide) ?_
        refine aw_aload_n (q := 220) 0 dX6_doBuy_219 rfl rfl rfl ?_
        refine aw_iload_n (q := 221) 1 dX6_doBuy_220 rfl rfl rfl ?_
        refine aw_bipush (q := 223) dX6_doBuy_221 rfl (by decide) ?_
        refine cv_I (q := 226) (CC := "") (id := 108) (As := [.int (iI c), .int (iI 7)]) 2 (c_of (T := T) (D := D) (ad := ad) (setG (setG K2 12 (15 + 12 * c + 1) ((G 12 (15 + 12 * c + 1)) - 1)) 12 (15 + 12 * c + 6) ((G 12 (15 + 12 * c + 6)) + 1)) (by omega) (by omega)) (fun _ h => h) (by omega) (cell_108 ad C _) rfl wc_X6_of wm_RX6_100 wi_X6_of ws_X6_of wn_X6 (by decide) rfl ⟨Nat.le_of_ble_eq_true rfl, Nat.le_of_ble_eq_true rfl⟩ ⟨Nat.le_of_ble_eq_true rfl, Nat.le_of_ble_eq_true rfl⟩ (Nat.le_of_ble_eq_true rfl) dX6_doBuy_223 rfl (fun r9 G9 h9 => ?_)
        obtain ⟨e9, g9⟩ := h9
        rw [e9.trans (((setG_ne (by omega)).trans ((setG_ne (by omega)).trans (((hs2 _ _ (by omega)).trans ((hs1 _ _ (by omega)).trans (is12 _ _ (by omega)))))))), g9]
        clear e9 g9
        refine aw_aload_n (q := 227) 0 dX6_doBuy_226 rfl rfl rfl ?_
        refine aw_iload_n (q := 228) 1 dX6_doBuy_227 rfl rfl rfl ?_
        refine aw_iconst (q := 229) dX6_doBuy_228 rfl ?_
        refine cv_I (q := 232) (CC := "") (id := 108) (As := [.int (iI c), .int (iI 2)]) 2 (c_of (T := T) (D := D) (ad := ad) (setG (setG K2 12 (15 + 12 * c + 1) ((G 12 (15 + 12 * c + 1)) - 1)) 12 (15 + 12 * c + 6) ((G 12 (15 + 12 * c + 6)) + 1)) (by omega) (by omega)) (fun _ h => h) (by omega) (cell_108 ad C _) rfl wc_X6_of wm_RX6_100 wi_X6_of ws_X6_of wn_X6 (by decide) rfl ⟨Nat.le_of_ble_eq_true rfl, Nat.le_of_ble_eq_true rfl⟩ ⟨Nat.le_of_ble_eq_true rfl, Nat.le_of_ble_eq_true rfl⟩ (Nat.le_of_ble_eq_true rfl) dX6_doBuy_229 rfl (fun r9 G9 h9 => ?_)
        obtain ⟨e9, g9⟩ := h9
        rw [e9.trans (((setG_ne (by omega)).trans ((setG_ne (by omega)).trans (((hs2 _ _ (by omega)).trans ((hs1 _ _ (by omega)).trans (is12 _ _ (by omega)))))))), g9]
        clear e9 g9
        refine ae_iadd (q := 233) ((G 12 (15 + 12 * c + 7)) + (G 12 (15 + 12 * c + 2))) (by omega) dX6_doBuy_232 rfl ?_
        refine cv_V (q := 236) (CC := "") (id := 108) (As := [.int (iI c), .int (iI 7), .int (iI ((G 12 (15 + 12 * c + 7)) + (G 12 (15 + 12 * c + 2))))]) 3 (c_lay (T := T) (D := D) (ad := ad) (setG (setG K2 12 (15 + 12 * c + 1) ((G 12 (15 + 12 * c + 1)) - 1)) 12 (15 + 12 * c + 6) ((G 12 (15 + 12 * c + 6)) + 1)) (by omega) (by omega)) (fun _ h => h) (by omega) (cell_108 ad C _) rfl wc_X6_lay wm_RX6_92 wi_X6_lay ws_X6_lay wn_X6 (by decide) rfl ⟨Nat.le_of_ble_eq_true rfl, Nat.le_of_ble_eq_true rfl⟩ ⟨Nat.le_of_ble_eq_true rfl, Nat.le_of_ble_eq_true rfl⟩ (Nat.le_of_ble_eq_true rfl) dX6_doBuy_233 rfl (fun G9 h9 => ?_)
        rw [h9]
        clear h9
        refine aw_aload_n (q := 237) 0 dX6_doBuy_236 rfl rfl rfl ?_
        refine aw_iload_n (q := 238) 1 dX6_doBuy_237 rfl rfl rfl ?_
        refine aw_bipush (q := 240) dX6_doBuy_238 rfl (by decide) ?_
        refine aw_aload_n (q := 241) 0 dX6_doBuy_240 rfl rfl rfl ?_
        refine aw_iload_n (q := 242) 1 dX6_doBuy_241 rfl rfl rfl ?_
        refine aw_bipush (q := 244) dX6_doBuy_242 rfl (by decide) ?_
        refine cv_I (q := 247) (CC := "") (id := 108) (As := [.int (iI c), .int (iI 10)]) 2 (c_of (T := T) (D := D) (ad := ad) (setG (setG (setG K2 12 (15 + 12 * c + 1) ((G 12 (15 + 12 * c + 1)) - 1)) 12 (15 + 12 * c + 6) ((G 12 (15 + 12 * c + 6)) + 1)) 12 (15 + 12 * c + 7) ((G 12 (15 + 12 * c + 7)) + (G 12 (15 + 12 * c + 2)))) (by omega) (by omega)) (fun _ h => h) (by omega) (cell_108 ad C _) rfl wc_X6_of wm_RX6_100 wi_X6_of ws_X6_of wn_X6 (by decide) rfl ⟨Nat.le_of_ble_eq_true rfl, Nat.le_of_ble_eq_true rfl⟩ ⟨Nat.le_of_ble_eq_true rfl, Nat.le_of_ble_eq_true rfl⟩ (Nat.le_of_ble_eq_true rfl) dX6_doBuy_244 rfl (fun r9 G9 h9 => ?_)
        obtain ⟨e9, g9⟩ := h9
        rw [e9.trans (((setG_ne (by omega)).trans ((setG_ne (by omega)).trans ((setG_ne (by omega)).trans (((hs2 _ _ (by omega)).trans ((hs1 _ _ (by omega)).trans (is12 _ _ (by omega))))))))), g9]
        clear e9 g9
        refine cs_F (q := 250) (As := [.int (iI ((G 12 (15 + 12 * c + 10))))]) 1 (c_real (T := T) (D := D) (ad := ad) (setG (setG (setG K2 12 (15 + 12 * c + 1) ((G 12 (15 + 12 * c + 1)) - 1)) 12 (15 + 12 * c + 6) ((G 12 (15 + 12 * c + 6)) + 1)) 12 (15 + 12 * c + 7) ((G 12 (15 + 12 * c + 7)) + (G 12 (15 + 12 * c + 2)))) (x := (G 12 (15 + 12 * c + 10))) ow) (fun _ h => h) wc_X6_real wm_RX6_121 wt_X6_real wn_X6 (by decide) rfl ⟨Nat.le_of_ble_eq_true rfl, Nat.le_of_ble_eq_true rfl⟩ ⟨Nat.le_of_ble_eq_true rfl, Nat.le_of_ble_eq_true rfl⟩ (Nat.le_of_ble_eq_true rfl) dX6_doBuy_247 rfl (fun r9 G9 h9 => ?_)
        rw [h9.1, h9.2]
        clear h9
        refine aw_fconst1 (q := 251) dX6_doBuy_250 rfl ?_
        refine aw_fadd (q := 252) dX6_doBuy_251 rfl (fw_add1 ow).1 ?_
        rw [show FP.fadd (fB (G 12 (15 + 12 * c + 10))) FP.fconst1 = fB (fadd1 (G 12 (15 + 12 * c + 10))) from (fB_nat _).symm]
        refine cs_I (q := 255) (As := [.float (fB (fadd1 (G 12 (15 + 12 * c + 10))))]) 1 (c_bits (T := T) (D := D) (ad := ad) (setG (setG (setG K2 12 (15 + 12 * c + 1) ((G 12 (15 + 12 * c + 1)) - 1)) 12 (15 + 12 * c + 6) ((G 12 (15 + 12 * c + 6)) + 1)) 12 (15 + 12 * c + 7) ((G 12 (15 + 12 * c + 7)) + (G 12 (15 + 12 * c + 2)))) (x := (fadd1 (G 12 (15 + 12 * c + 10)))) (fw_add1 ow).2) (fun _ h => h) wc_X6_bits wm_RX6_124 wt_X6_bits wn_X6 (by decide) rfl ⟨Nat.le_of_ble_eq_true rfl, Nat.le_of_ble_eq_true rfl⟩ ⟨Nat.le_of_ble_eq_true rfl, Nat.le_of_ble_eq_true rfl⟩ (Nat.le_of_ble_eq_true rfl) dX6_doBuy_252 rfl (fun r9 G9 h9 => ?_)
        rw [h9.1, h9.2]
        clear h9
        refine cv_V (q := 258) (CC := "") (id := 108) (As := [.int (iI c), .int (iI 10), .int (iI ((fadd1 (G 12 (15 + 12 * c + 10)))))]) 3 (c_lay (T := T) (D := D) (ad := ad) (setG (setG (setG K2 12 (15 + 12 * c + 1) ((G 12 (15 + 12 * c + 1)) - 1)) 12 (15 + 12 * c + 6) ((G 12 (15 + 12 * c + 6)) + 1)) 12 (15 + 12 * c + 7) ((G 12 (15 + 12 * c + 7)) + (G 12 (15 + 12 * c + 2)))) (by omega) (by omega)) (fun _ h => h) (by omega) (cell_108 ad C _) rfl wc_X6_lay wm_RX6_92 wi_X6_lay ws_X6_lay wn_X6 (by decide) rfl ⟨Nat.le_of_ble_eq_true rfl, Nat.le_of_ble_eq_true rfl⟩ ⟨Nat.le_of_ble_eq_true rfl, Nat.le_of_ble_eq_true rfl⟩ (Nat.le_of_ble_eq_true rfl) dX6_doBuy_255 rfl (fun G9 h9 => ?_)
        rw [h9]
        clear h9
        obtain ⟨S, hS, sM⟩ : ∃ S, (setG (setG (setG (setG K2 12 (15 + 12 * c + 1) ((G 12 (15 + 12 * c + 1)) - 1)) 12 (15 + 12 * c + 6) ((G 12 (15 + 12 * c + 6)) + 1)) 12 (15 + 12 * c + 7) ((G 12 (15 + 12 * c + 7)) + (G 12 (15 + 12 * c + 2)))) 12 (15 + 12 * c + 10) ((fadd1 (G 12 (15 + 12 * c + 10))))) = S ∧ saleM G c S ∧ S 11 8 = G 11 8 ∧ sameB bdT G S := ⟨_, rfl, ⟨(((setG_ne (by omega)).trans ((setG_ne (by omega)).trans ((setG_ne (by omega)).trans (setG_same _ _ _ _))))), ((setG_same _ _ _ _)), (((setG_ne (by omega)).trans ((setG_ne (by omega)).trans (setG_same _ _ _ _)))), (((setG_ne (by omega)).trans (setG_same _ _ _ _))), ((setG_ne (by omega)).trans ((setG_ne (by omega)).trans ((setG_ne (by omega)).trans ((setG_ne (by omega)).trans (((hs2 _ _ (by omega)).trans ((hs1 _ _ (by omega)).trans i9))))))), fun m z0 z1 => ((setG_ne (by omega)).trans ((setG_ne (by omega)).trans ((setG_ne (by omega)).trans ((setG_ne (by omega)).trans (((hs2 _ _ (by omega)).trans ((hs1 _ _ (by omega)).trans (is12 _ _ (by omega))))))))), fun x y z => ((setG_ne (by omega)).trans ((setG_ne (by omega)).trans ((setG_ne (by omega)).trans ((setG_ne (by omega)).trans (((hs2 _ _ (by omega)).trans ((hs1 _ _ (by omega)).trans (is12 _ _ (by omega))))))))), Or.inl ⟨by rw [hA]; exact hp, ((setG_ne (by omega)).trans ((setG_ne (by omega)).trans ((setG_ne (by omega)).trans ((setG_ne (by omega)).trans (((hs2 _ _ (by omega)).trans ((hs1 _ _ (by omega)).trans (is12 _ _ (by omega))))))))), by rw [hA]; exact ((setG_ne (by omega)).trans ((setG_ne (by omega)).trans ((setG_ne (by omega)).trans ((setG_ne (by omega)).trans (u5))))), by rw [hA]; exact ((setG_ne (by omega)).trans ((setG_ne (by omega)).trans ((setG_ne (by omega)).trans ((setG_ne (by omega)).trans (u6))))), by rw [hA]; exact ((setG_ne (by omega)).trans ((setG_ne (by omega)).trans ((setG_ne (by omega)).trans ((setG_ne (by omega)).trans (u7))))), by rw [hA]; exact ((setG_ne (by omega)).trans ((setG_ne (by omega)).trans ((setG_ne (by omega)).trans ((setG_ne (by omega)).trans (u8)))))⟩⟩, ((setG_ne (by omega)).trans ((setG_ne (by omega)).trans ((setG_ne (by omega)).trans ((setG_ne (by omega)).trans (((hs2 _ _ (by omega)).trans ((hs1 _ _ (by omega)).trans (is12 _ _ (by omega))))))))), fun x y z => ((setG_ne (by omega)).trans ((setG_ne (by omega)).trans ((setG_ne (by omega)).trans ((setG_ne (by omega)).trans (((hs2 _ _ (by omega)).trans ((hs1 _ _ (by omega)).trans (is12 _ _ (by omega)))))))))⟩
        rw [hS]
        obtain ⟨sM, s11, sfr⟩ := sM
        have oS := okP_saleM (c := c) (by omega) oP hco (by rw [hA]; omega) (fun q => room_saleM (c := c) hR oH.1 oP.2.2 hco ⟨by omega, by rw [hA]; omega, Or.inl (by rw [hA]; exact hp)⟩ q) sM
        refine aw_aload_n (q := 259) 0 dX6_doBuy_258 rfl rfl rfl ?_
        refine cv_V (q := 262) (CC := "") (id := 108) (As := []) 0 (c_keepsM (T := T) (D := D) (ad := ad) S oS) (fun _ h => h) (by omega) (cell_108 ad C _) rfl wc_X6_keepsPromises wm_RX6_107 wi_X6_keepsPromises ws_X6_keepsPromises wn_X6 (by decide) rfl ⟨Nat.le_of_ble_eq_true rfl, Nat.le_of_ble_eq_true rfl⟩ ⟨Nat.le_of_ble_eq_true rfl, Nat.le_of_ble_eq_true rfl⟩ (Nat.le_of_ble_eq_true rfl) dX6_doBuy_259 rfl (fun G9 h9 => ?_)
        refine aw_iload (q := 264) 4 dX6_doBuy_262 rfl rfl ?_
        refine aw_if_eq (q := 267) dX6_doBuy_264 rfl (t := 271) (by decide) (by omega) (fun h => absurd h (by omega)) (fun _ => ?_)
        refine aw_iload_n (q := 268) 3 dX6_doBuy_267 rfl rfl rfl ?_
        refine aw_goto (q := 275) dX6_doBuy_268 (by decide) ?_
        exact rt_i rfl (Nat.le_refl _) (Nat.le_refl _) (⟨fun x y z => (h9.2.2.2.2.2.2.2 x y (by omega)).trans (sfr x y z), Or.inr ⟨⟨by omega, by rw [hA]; omega, Or.inl (by rw [hA]; exact hp)⟩, (h9.2.2.2.2.2.2.2 11 8 (by omega)).trans s11, by rw [hA, if_pos hp], S, sM, h9⟩⟩) dX6_doBuy_275
      · rw [b2i_f hp]
        refine aw_istore (q := 107) (lv2 := [(0, .ref (ad 108)), (1, .int (iI c)), (2, .int (iI (5 * (G 18 0) + 10 * (G 18 1) + 20 * (G 18 2) + 50 * (G 18 3)))), (3, .int (iI a)), (4, .int (iI 0))]) [1, 2, 3, 4, 0] dX6_doBuy_105 rfl (by decide) rfl rfl ?_
        refine aw_iload (q := 109) 4 dX6_doBuy_107 rfl rfl ?_
        refine aw_if_ne (q := 112) dX6_doBuy_109 rfl (t := 146) (by decide) (by omega) (fun h => absurd h (by omega)) (fun _ => ?_)
        refine aw_aload_n (q := 113) 0 dX6_doBuy_112 rfl rfl rfl ?_
        refine cv_I (q := 116) (CC := "") (id := 108) (As := []) 0 (c_owed (T := T) (D := D) (ad := ad) K1 (by rw [show K1 12 14 = G 12 14 from (hs1 _ _ (by omega)).trans (is12 _ _ (by omega))]; exact oP.1)) (fun _ h => h) (by omega) (cell_108 ad C _) rfl wc_X6_owed wm_RX6_117 wi_X6_owed ws_X6_owed wn_X6 (by decide) rfl ⟨Nat.le_of_ble_eq_true rfl, Nat.le_of_ble_eq_true rfl⟩ ⟨Nat.le_of_ble_eq_true rfl, Nat.le_of_ble_eq_true rfl⟩ (Nat.le_of_ble_eq_true rfl) dX6_doBuy_113 rfl (fun r9 G9 h9 => ?_)
        obtain ⟨e9, g9⟩ := h9
        rw [e9.trans (show sumQ (prm K1 12) (K1 12 14).toNat = sumM G from by rw [show K1 12 14 = G 12 14 from (hs1 _ _ (by omega)).trans (is12 _ _ (by omega))]; exact sumQ_eq _ (fun m z0 z1 => (hs1 _ _ (by omega)).trans (is12 _ _ (by omega)))), g9]
        clear e9 g9
        refine aw_iload_n (q := 117) 3 dX6_doBuy_116 rfl rfl rfl ?_
        refine ae_iadd (q := 118) ((sumM G) + a) (by omega) dX6_doBuy_117 rfl ?_
        refine aw_aload_n (q := 119) 0 dX6_doBuy_118 rfl rfl rfl ?_
        refine g_mod_p (q := 122) wf_RX6_7 dX6_doBuy_119 rfl ?_
        refine aw_iconst (q := 123) dX6_doBuy_122 rfl ?_
        refine aw_cial (q := 124) (v := (G 12 3)) 3 (ar_109 ad C) (by omega) (by omega) (((hs1 _ _ (by omega)).trans (is12 12 3 (by omega)))) dX6_doBuy_123 rfl ?_
        refine aw_icmp_le (q := 127) dX6_doBuy_124 rfl (t := 146) (by decide) (by omega) (by omega) (fun y301 => ?_) (fun y302 => ?_)
        · refine aw_iload (q := 148) 4 dX6_doBuy_146 rfl rfl ?_
          refine aw_if_eq (q := 151) dX6_doBuy_148 rfl (t := 158) (by decide) (by omega) (fun _ => ?_) (fun h => absurd h (by omega))
          have h14b := room_saleM (c := c) hR oH.1 oP.2.2 hco ⟨by omega, by rw [hA]; omega, Or.inr (by rw [hA]; omega)⟩ (by rw [hA]; exact hp)
          refine aw_aload_n (q := 159) 0 dX6_doBuy_158 rfl rfl rfl ?_
          refine g_mod_p (q := 162) wf_RX6_7 dX6_doBuy_159 rfl ?_
          refine aw_bipush (q := 164) dX6_doBuy_162 rfl (by decide) ?_
          refine aw_aload_n (q := 165) 0 dX6_doBuy_164 rfl rfl rfl ?_
          refine g_mod_p (q := 168) wf_RX6_7 dX6_doBuy_165 rfl ?_
          refine aw_bipush (q := 170) dX6_doBuy_168 rfl (by decide) ?_
          refine aw_cial (q := 171) (v := (G 12 14)) 14 (ar_109 ad C) (by omega) (by omega) (((hs1 _ _ (by omega)).trans (is12 12 14 (by omega)))) dX6_doBuy_170 rfl ?_
          refine ae_iadd (q := 172) (111 + (G 12 14)) (by omega) dX6_doBuy_171 rfl ?_
          refine aw_iload_n (q := 173) 3 dX6_doBuy_172 rfl rfl rfl ?_
          refine aw_cias (q := 174) (111 + (G 12 14)) (ar_109 ad C) (by omega) (by omega) dX6_doBuy_173 rfl ?_
          refine aw_aload_n (q := 175) 0 dX6_doBuy_174 rfl rfl rfl ?_
          refine g_mod_p (q := 178) wf_RX6_7 dX6_doBuy_175 rfl ?_
          refine aw_bipush (q := 180) dX6_doBuy_178 rfl (by decide) ?_
          refine aw_dup2 (q := 181) dX6_doBuy_180 rfl rfl rfl ?_
          refine aw_cial (q := 182) (v := (G 12 14)) 14 (ar_109 ad C) (by omega) (by omega) ((setG_ne (by omega)).trans (((hs1 _ _ (by omega)).trans (is12 12 14 (by omega))))) dX6_doBuy_181 rfl ?_
          refine aw_iconst (q := 183) dX6_doBuy_182 rfl ?_
          refine ae_iadd (q := 184) ((G 12 14) + 1) (by omega) dX6_doBuy_183 rfl ?_
          refine aw_cias (q := 185) 14 (ar_109 ad C) (by omega) (by omega) dX6_doBuy_184 rfl ?_
          have h9K : True := trivial
          refine aw_aload_n (q := 186) 0 dX6_doBuy_185 rfl rfl rfl ?_
          refine aw_iload_n (q := 187) 1 dX6_doBuy_186 rfl rfl rfl ?_
          refine aw_iconst (q := 188) dX6_doBuy_187 rfl ?_
          refine aw_aload_n (q := 189) 0 dX6_doBuy_188 rfl rfl rfl ?_
          refine aw_iload_n (q := 190) 1 dX6_doBuy_189 rfl rfl rfl ?_
          refine aw_iconst (q := 191) dX6_doBuy_190 rfl ?_
          refine cv_I (q := 194) (CC := "") (id := 108) (As := [.int (iI c), .int (iI 1)]) 2 (c_of (T := T) (D := D) (ad := ad) (setG (setG K1 12 (111 + (G 12 14)) a) 12 14 ((G 12 14) + 1)) (by omega) (by omega)) (fun _ h => h) (by omega) (cell_108 ad C _) rfl wc_X6_of wm_RX6_100 wi_X6_of ws_X6_of wn_X6 (by decide) rfl ⟨Nat.le_of_ble_eq_true rfl, Nat.le_of_ble_eq_true rfl⟩ ⟨Nat.le_of_ble_eq_true rfl, Nat.le_of_ble_eq_true rfl⟩ (Nat.le_of_ble_eq_true rfl) dX6_doBuy_191 rfl (fun r9 G9 h9 => ?_)
          obtain ⟨e9, g9⟩ := h9
          rw [e9.trans (((setG_ne (by omega)).trans ((setG_ne (by omega)).trans (((hs1 _ _ (by omega)).trans (is12 12 (15 + 12 * c + 1) (by omega))))))), g9]
          clear e9 g9
          refine aw_iconst (q := 195) dX6_doBuy_194 rfl ?_
          refine ae_isub (q := 196) ((G 12 (15 + 12 * c + 1)) - 1) (by omega) dX6_doBuy_195 rfl ?_
          refine cv_V (q := 199) (CC := "") (id := 108) (As := [.int (iI c), .int (iI 1), .int (iI ((G 12 (15 + 12 * c + 1)) - 1))]) 3 (c_lay (T := T) (D := D) (ad := ad) (setG (setG K1 12 (111 + (G 12 14)) a) 12 14 ((G 12 14) + 1)) (by omega) (by omega)) (fun _ h => h) (by omega) (cell_108 ad C _) rfl wc_X6_lay wm_RX6_92 wi_X6_lay ws_X6_lay wn_X6 (by decide) rfl ⟨Nat.le_of_ble_eq_true rfl, Nat.le_of_ble_eq_true rfl⟩ ⟨Nat.le_of_ble_eq_true rfl, Nat.le_of_ble_eq_true rfl⟩ (Nat.le_of_ble_eq_true rfl) dX6_doBuy_196 rfl (fun G9 h9 => ?_)
          rw [h9]
          clear h9
          refine aw_aload_n (q := 200) 0 dX6_doBuy_199 rfl rfl rfl ?_
          refine aw_iload_n (q := 201) 1 dX6_doBuy_200 rfl rfl rfl ?_
          refine aw_bipush (q := 203) dX6_doBuy_201 rfl (by decide) ?_
          refine aw_aload_n (q := 204) 0 dX6_doBuy_203 rfl rfl rfl ?_
          refine aw_iload_n (q := 205) 1 dX6_doBuy_204 rfl rfl rfl ?_
          refine aw_bipush (q := 207) dX6_doBuy_205 rfl (by decide) ?_
          refine cv_I (q := 210) (CC := "") (id := 108) (As := [.int (iI c), .int (iI 6)]) 2 (c_of (T := T) (D := D) (ad := ad) (setG (setG (setG K1 12 (111 + (G 12 14)) a) 12 14 ((G 12 14) + 1)) 12 (15 + 12 * c + 1) ((G 12 (15 + 12 * c + 1)) - 1)) (by omega) (by omega)) (fun _ h => h) (by omega) (cell_108 ad C _) rfl wc_X6_of wm_RX6_100 wi_X6_of ws_X6_of wn_X6 (by decide) rfl ⟨Nat.le_of_ble_eq_true rfl, Nat.le_of_ble_eq_true rfl⟩ ⟨Nat.le_of_ble_eq_true rfl, Nat.le_of_ble_eq_true rfl⟩ (Nat.le_of_ble_eq_true rfl) dX6_doBuy_207 rfl (fun r9 G9 h9 => ?_)
          obtain ⟨e9, g9⟩ := h9
          rw [e9.trans (((setG_ne (by omega)).trans ((setG_ne (by omega)).trans ((setG_ne (by omega)).trans (((hs1 _ _ (by omega)).trans (is12 12 (15 + 12 * c + 6) (by omega)))))))), g9]
          clear e9 g9
          refine aw_iconst (q := 211) dX6_doBuy_210 rfl ?_
          refine ae_iadd (q := 212) ((G 12 (15 + 12 * c + 6)) + 1) (by omega) dX6_doBuy_211 rfl ?_
          refine cv_V (q := 215) (CC := "") (id := 108) (As := [.int (iI c), .int (iI 6), .int (iI ((G 12 (15 + 12 * c + 6)) + 1))]) 3 (c_lay (T := T) (D := D) (ad := ad) (setG (setG (setG K1 12 (111 + (G 12 14)) a) 12 14 ((G 12 14) + 1)) 12 (15 + 12 * c + 1) ((G 12 (15 + 12 * c + 1)) - 1)) (by omega) (by omega)) (fun _ h => h) (by omega) (cell_108 ad C _) rfl wc_X6_lay wm_RX6_92 wi_X6_lay ws_X6_lay wn_X6 (by decide) rfl ⟨Nat.le_of_ble_eq_true rfl, Nat.le_of_ble_eq_true rfl⟩ ⟨Nat.le_of_ble_eq_true rfl, Nat.le_of_ble_eq_true rfl⟩ (Nat.le_of_ble_eq_true rfl) dX6_doBuy_212 rfl (fun G9 h9 => ?_)
          rw [h9]
          clear h9
          refine aw_aload_n (q := 216) 0 dX6_doBuy_215 rfl rfl rfl ?_
          refine aw_iload_n (q := 217) 1 dX6_doBuy_216 rfl rfl rfl ?_
          refine aw_bipush (q := 219) dX6_doBuy_217 rfl (by decide) ?_
          refine aw_aload_n (q := 220) 0 dX6_doBuy_219 rfl rfl rfl ?_
          refine aw_iload_n (q := 221) 1 dX6_doBuy_220 rfl rfl rfl ?_
          refine aw_bipush (q := 223) dX6_doBuy_221 rfl (by decide) ?_
          refine cv_I (q := 226) (CC := "") (id := 108) (As := [.int (iI c), .int (iI 7)]) 2 (c_of (T := T) (D := D) (ad := ad) (setG (setG (setG (setG K1 12 (111 + (G 12 14)) a) 12 14 ((G 12 14) + 1)) 12 (15 + 12 * c + 1) ((G 12 (15 + 12 * c + 1)) - 1)) 12 (15 + 12 * c + 6) ((G 12 (15 + 12 * c + 6)) + 1)) (by omega) (by omega)) (fun _ h => h) (by omega) (cell_108 ad C _) rfl wc_X6_of wm_RX6_100 wi_X6_of ws_X6_of wn_X6 (by decide) rfl ⟨Nat.le_of_ble_eq_true rfl, Nat.le_of_ble_eq_true rfl⟩ ⟨Nat.le_of_ble_eq_true rfl, Nat.le_of_ble_eq_true rfl⟩ (Nat.le_of_ble_eq_true rfl) dX6_doBuy_223 rfl (fun r9 G9 h9 => ?_)
          obtain ⟨e9, g9⟩ := h9
          rw [e9.trans (((setG_ne (by omega)).trans ((setG_ne (by omega)).trans ((setG_ne (by omega)).trans ((setG_ne (by omega)).trans (((hs1 _ _ (by omega)).trans (is12 12 (15 + 12 * c + 7) (by omega))))))))), g9]
          clear e9 g9
          refine aw_aload_n (q := 227) 0 dX6_doBuy_226 rfl rfl rfl ?_
          refine aw_iload_n (q := 228) 1 dX6_doBuy_227 rfl rfl rfl ?_
          refine aw_iconst (q := 229) dX6_doBuy_228 rfl ?_
          refine cv_I (q := 232) (CC := "") (id := 108) (As := [.int (iI c), .int (iI 2)]) 2 (c_of (T := T) (D := D) (ad := ad) (setG (setG (setG (setG K1 12 (111 + (G 12 14)) a) 12 14 ((G 12 14) + 1)) 12 (15 + 12 * c + 1) ((G 12 (15 + 12 * c + 1)) - 1)) 12 (15 + 12 * c + 6) ((G 12 (15 + 12 * c + 6)) + 1)) (by omega) (by omega)) (fun _ h => h) (by omega) (cell_108 ad C _) rfl wc_X6_of wm_RX6_100 wi_X6_of ws_X6_of wn_X6 (by decide) rfl ⟨Nat.le_of_ble_eq_true rfl, Nat.le_of_ble_eq_true rfl⟩ ⟨Nat.le_of_ble_eq_true rfl, Nat.le_of_ble_eq_true rfl⟩ (Nat.le_of_ble_eq_true rfl) dX6_doBuy_229 rfl (fun r9 G9 h9 => ?_)
          obtain ⟨e9, g9⟩ := h9
          rw [e9.trans (((setG_ne (by omega)).trans ((setG_ne (by omega)).trans ((setG_ne (by omega)).trans ((setG_ne (by omega)).trans (((hs1 _ _ (by omega)).trans (is12 12 (15 + 12 * c + 2) (by omega))))))))), g9]
          clear e9 g9
          refine ae_iadd (q := 233) ((G 12 (15 + 12 * c + 7)) + (G 12 (15 + 12 * c + 2))) (by omega) dX6_doBuy_232 rfl ?_
          refine cv_V (q := 236) (CC := "") (id := 108) (As := [.int (iI c), .int (iI 7), .int (iI ((G 12 (15 + 12 * c + 7)) + (G 12 (15 + 12 * c + 2))))]) 3 (c_lay (T := T) (D := D) (ad := ad) (setG (setG (setG (setG K1 12 (111 + (G 12 14)) a) 12 14 ((G 12 14) + 1)) 12 (15 + 12 * c + 1) ((G 12 (15 + 12 * c + 1)) - 1)) 12 (15 + 12 * c + 6) ((G 12 (15 + 12 * c + 6)) + 1)) (by omega) (by omega)) (fun _ h => h) (by omega) (cell_108 ad C _) rfl wc_X6_lay wm_RX6_92 wi_X6_lay ws_X6_lay wn_X6 (by decide) rfl ⟨Nat.le_of_ble_eq_true rfl, Nat.le_of_ble_eq_true rfl⟩ ⟨Nat.le_of_ble_eq_true rfl, Nat.le_of_ble_eq_true rfl⟩ (Nat.le_of_ble_eq_true rfl) dX6_doBuy_233 rfl (fun G9 h9 => ?_)
          rw [h9]
          clear h9
          refine aw_aload_n (q := 237) 0 dX6_doBuy_236 rfl rfl rfl ?_
          refine aw_iload_n (q := 238) 1 dX6_doBuy_237 rfl rfl rfl ?_
          refine aw_bipush (q := 240) dX6_doBuy_238 rfl (by decide) ?_
          refine aw_aload_n (q := 241) 0 dX6_doBuy_240 rfl rfl rfl ?_
          refine aw_iload_n (q := 242) 1 dX6_doBuy_241 rfl rfl rfl ?_
          refine aw_bipush (q := 244) dX6_doBuy_242 rfl (by decide) ?_
          refine cv_I (q := 247) (CC := "") (id := 108) (As := [.int (iI c), .int (iI 10)]) 2 (c_of (T := T) (D := D) (ad := ad) (setG (setG (setG (setG (setG K1 12 (111 + (G 12 14)) a) 12 14 ((G 12 14) + 1)) 12 (15 + 12 * c + 1) ((G 12 (15 + 12 * c + 1)) - 1)) 12 (15 + 12 * c + 6) ((G 12 (15 + 12 * c + 6)) + 1)) 12 (15 + 12 * c + 7) ((G 12 (15 + 12 * c + 7)) + (G 12 (15 + 12 * c + 2)))) (by omega) (by omega)) (fun _ h => h) (by omega) (cell_108 ad C _) rfl wc_X6_of wm_RX6_100 wi_X6_of ws_X6_of wn_X6 (by decide) rfl ⟨Nat.le_of_ble_eq_true rfl, Nat.le_of_ble_eq_true rfl⟩ ⟨Nat.le_of_ble_eq_true rfl, Nat.le_of_ble_eq_true rfl⟩ (Nat.le_of_ble_eq_true rfl) dX6_doBuy_244 rfl (fun r9 G9 h9 => ?_)
          obtain ⟨e9, g9⟩ := h9
          rw [e9.trans (((setG_ne (by omega)).trans ((setG_ne (by omega)).trans ((setG_ne (by omega)).trans ((setG_ne (by omega)).trans ((setG_ne (by omega)).trans (((hs1 _ _ (by omega)).trans (is12 12 (15 + 12 * c + 10) (by omega)))))))))), g9]
          clear e9 g9
          refine cs_F (q := 250) (As := [.int (iI ((G 12 (15 + 12 * c + 10))))]) 1 (c_real (T := T) (D := D) (ad := ad) (setG (setG (setG (setG (setG K1 12 (111 + (G 12 14)) a) 12 14 ((G 12 14) + 1)) 12 (15 + 12 * c + 1) ((G 12 (15 + 12 * c + 1)) - 1)) 12 (15 + 12 * c + 6) ((G 12 (15 + 12 * c + 6)) + 1)) 12 (15 + 12 * c + 7) ((G 12 (15 + 12 * c + 7)) + (G 12 (15 + 12 * c + 2)))) (x := (G 12 (15 + 12 * c + 10))) ow) (fun _ h => h) wc_X6_real wm_RX6_121 wt_X6_real wn_X6 (by decide) rfl ⟨Nat.le_of_ble_eq_true rfl, Nat.le_of_ble_eq_true rfl⟩ ⟨Nat.le_of_ble_eq_true rfl, Nat.le_of_ble_eq_true rfl⟩ (Nat.le_of_ble_eq_true rfl) dX6_doBuy_247 rfl (fun r9 G9 h9 => ?_)
          rw [h9.1, h9.2]
          clear h9
          refine aw_fconst1 (q := 251) dX6_doBuy_250 rfl ?_
          refine aw_fadd (q := 252) dX6_doBuy_251 rfl (fw_add1 ow).1 ?_
          rw [show FP.fadd (fB (G 12 (15 + 12 * c + 10))) FP.fconst1 = fB (fadd1 (G 12 (15 + 12 * c + 10))) from (fB_nat _).symm]
          refine cs_I (q := 255) (As := [.float (fB (fadd1 (G 12 (15 + 12 * c + 10))))]) 1 (c_bits (T := T) (D := D) (ad := ad) (setG (setG (setG (setG (setG K1 12 (111 + (G 12 14)) a) 12 14 ((G 12 14) + 1)) 12 (15 + 12 * c + 1) ((G 12 (15 + 12 * c + 1)) - 1)) 12 (15 + 12 * c + 6) ((G 12 (15 + 12 * c + 6)) + 1)) 12 (15 + 12 * c + 7) ((G 12 (15 + 12 * c + 7)) + (G 12 (15 + 12 * c + 2)))) (x := (fadd1 (G 12 (15 + 12 * c + 10)))) (fw_add1 ow).2) (fun _ h => h) wc_X6_bits wm_RX6_124 wt_X6_bits wn_X6 (by decide) rfl ⟨Nat.le_of_ble_eq_true rfl, Nat.le_of_ble_eq_true rfl⟩ ⟨Nat.le_of_ble_eq_true rfl, Nat.le_of_ble_eq_true rfl⟩ (Nat.le_of_ble_eq_true rfl) dX6_doBuy_252 rfl (fun r9 G9 h9 => ?_)
          rw [h9.1, h9.2]
          clear h9
          refine cv_V (q := 258) (CC := "") (id := 108) (As := [.int (iI c), .int (iI 10), .int (iI ((fadd1 (G 12 (15 + 12 * c + 10)))))]) 3 (c_lay (T := T) (D := D) (ad := ad) (setG (setG (setG (setG (setG K1 12 (111 + (G 12 14)) a) 12 14 ((G 12 14) + 1)) 12 (15 + 12 * c + 1) ((G 12 (15 + 12 * c + 1)) - 1)) 12 (15 + 12 * c + 6) ((G 12 (15 + 12 * c + 6)) + 1)) 12 (15 + 12 * c + 7) ((G 12 (15 + 12 * c + 7)) + (G 12 (15 + 12 * c + 2)))) (by omega) (by omega)) (fun _ h => h) (by omega) (cell_108 ad C _) rfl wc_X6_lay wm_RX6_92 wi_X6_lay ws_X6_lay wn_X6 (by decide) rfl ⟨Nat.le_of_ble_eq_true rfl, Nat.le_of_ble_eq_true rfl⟩ ⟨Nat.le_of_ble_eq_true rfl, Nat.le_of_ble_eq_true rfl⟩ (Nat.le_of_ble_eq_true rfl) dX6_doBuy_255 rfl (fun G9 h9 => ?_)
          rw [h9]
          clear h9
          obtain ⟨S, hS, sM⟩ : ∃ S, (setG (setG (setG (setG (setG (setG K1 12 (111 + (G 12 14)) a) 12 14 ((G 12 14) + 1)) 12 (15 + 12 * c + 1) ((G 12 (15 + 12 * c + 1)) - 1)) 12 (15 + 12 * c + 6) ((G 12 (15 + 12 * c + 6)) + 1)) 12 (15 + 12 * c + 7) ((G 12 (15 + 12 * c + 7)) + (G 12 (15 + 12 * c + 2)))) 12 (15 + 12 * c + 10) ((fadd1 (G 12 (15 + 12 * c + 10))))) = S ∧ saleM G c S ∧ S 11 8 = G 11 8 ∧ sameB bdT G S := ⟨_, rfl, ⟨(((setG_ne (by omega)).trans ((setG_ne (by omega)).trans ((setG_ne (by omega)).trans (setG_same _ _ _ _))))), ((setG_same _ _ _ _)), (((setG_ne (by omega)).trans ((setG_ne (by omega)).trans (setG_same _ _ _ _)))), (((setG_ne (by omega)).trans (setG_same _ _ _ _))), ((setG_ne (by omega)).trans ((setG_ne (by omega)).trans ((setG_ne (by omega)).trans ((setG_ne (by omega)).trans ((setG_ne (by omega)).trans ((setG_ne (by omega)).trans (((hs1 _ _ (by omega)).trans i9)))))))), fun m z0 z1 => ((setG_ne (by omega)).trans ((setG_ne (by omega)).trans ((setG_ne (by omega)).trans ((setG_ne (by omega)).trans ((setG_ne (by omega)).trans ((setG_ne (by omega)).trans (((hs1 _ _ (by omega)).trans (is12 _ _ (by omega)))))))))), fun x y z => ((setG_ne (by omega)).trans ((setG_ne (by omega)).trans ((setG_ne (by omega)).trans ((setG_ne (by omega)).trans ((setG_ne (by omega)).trans ((setG_ne (by omega)).trans (((hs1 _ _ (by omega)).trans (is12 _ _ (by omega)))))))))), Or.inr ⟨by rw [hA]; exact hp, ((setG_ne (by omega)).trans ((setG_ne (by omega)).trans ((setG_ne (by omega)).trans ((setG_ne (by omega)).trans (setG_same _ _ _ _))))), by rw [hA]; exact ((setG_ne (by omega)).trans ((setG_ne (by omega)).trans ((setG_ne (by omega)).trans ((setG_ne (by omega)).trans ((setG_ne (by omega)).trans (setG_same _ _ _ _)))))), ((setG_ne (by omega)).trans ((setG_ne (by omega)).trans ((setG_ne (by omega)).trans ((setG_ne (by omega)).trans ((setG_ne (by omega)).trans ((setG_ne (by omega)).trans (((hs1 _ _ (by omega)).trans i5)))))))), ((setG_ne (by omega)).trans ((setG_ne (by omega)).trans ((setG_ne (by omega)).trans ((setG_ne (by omega)).trans ((setG_ne (by omega)).trans ((setG_ne (by omega)).trans (((hs1 _ _ (by omega)).trans i6)))))))), ((setG_ne (by omega)).trans ((setG_ne (by omega)).trans ((setG_ne (by omega)).trans ((setG_ne (by omega)).trans ((setG_ne (by omega)).trans ((setG_ne (by omega)).trans (((hs1 _ _ (by omega)).trans i7)))))))), ((setG_ne (by omega)).trans ((setG_ne (by omega)).trans ((setG_ne (by omega)).trans ((setG_ne (by omega)).trans ((setG_ne (by omega)).trans ((setG_ne (by omega)).trans (((hs1 _ _ (by omega)).trans i8))))))))⟩⟩, ((setG_ne (by omega)).trans ((setG_ne (by omega)).trans ((setG_ne (by omega)).trans ((setG_ne (by omega)).trans ((setG_ne (by omega)).trans ((setG_ne (by omega)).trans (((hs1 _ _ (by omega)).trans (is12 _ _ (by omega)))))))))), fun x y z => ((setG_ne (by omega)).trans ((setG_ne (by omega)).trans ((setG_ne (by omega)).trans ((setG_ne (by omega)).trans ((setG_ne (by omega)).trans ((setG_ne (by omega)).trans (((hs1 _ _ (by omega)).trans (is12 _ _ (by omega))))))))))⟩
          rw [hS]
          obtain ⟨sM, s11, sfr⟩ := sM
          have oS := okP_saleM (c := c) (by omega) oP hco (by rw [hA]; omega) (fun q => room_saleM (c := c) hR oH.1 oP.2.2 hco ⟨by omega, by rw [hA]; omega, Or.inr (by rw [hA]; omega)⟩ q) sM
          refine aw_aload_n (q := 259) 0 dX6_doBuy_258 rfl rfl rfl ?_
          refine cv_V (q := 262) (CC := "") (id := 108) (As := []) 0 (c_keepsM (T := T) (D := D) (ad := ad) S oS) (fun _ h => h) (by omega) (cell_108 ad C _) rfl wc_X6_keepsPromises wm_RX6_107 wi_X6_keepsPromises ws_X6_keepsPromises wn_X6 (by decide) rfl ⟨Nat.le_of_ble_eq_true rfl, Nat.le_of_ble_eq_true rfl⟩ ⟨Nat.le_of_ble_eq_true rfl, Nat.le_of_ble_eq_true rfl⟩ (Nat.le_of_ble_eq_true rfl) dX6_doBuy_259 rfl (fun G9 h9 => ?_)
          refine aw_iload (q := 264) 4 dX6_doBuy_262 rfl rfl ?_
          refine aw_if_eq (q := 267) dX6_doBuy_264 rfl (t := 271) (by decide) (by omega) (fun _ => ?_) (fun h => absurd h (by omega))
          refine aw_bipush (q := 273) dX6_doBuy_271 rfl (by decide) ?_
          refine aw_iload_n (q := 274) 3 dX6_doBuy_273 rfl rfl rfl ?_
          refine ae_isub (q := 275) (-a - 10) (by omega) dX6_doBuy_274 rfl ?_
          exact rt_i rfl (Nat.le_refl _) (Nat.le_refl _) (⟨fun x y z => (h9.2.2.2.2.2.2.2 x y (by omega)).trans (sfr x y z), Or.inr ⟨⟨by omega, by rw [hA]; omega, Or.inr (by rw [hA]; omega)⟩, (h9.2.2.2.2.2.2.2 11 8 (by omega)).trans s11, by rw [hA, if_neg hp]; omega, S, sM, h9⟩⟩) dX6_doBuy_275
        · refine aw_aload_n (q := 128) 0 dX6_doBuy_127 rfl rfl rfl ?_
          refine g_mod_trial (q := 131) wf_RX6_16 dX6_doBuy_128 rfl ?_
          refine aw_iconst (q := 132) dX6_doBuy_131 rfl ?_
          refine aw_aload_n (q := 133) 0 dX6_doBuy_132 rfl rfl rfl ?_
          refine g_mod_p (q := 136) wf_RX6_7 dX6_doBuy_133 rfl ?_
          refine aw_iconst (q := 137) dX6_doBuy_136 rfl ?_
          refine cs_V (q := 140) (As := [.ref (ad 111), .int (iI 0), .ref (ad 109), .int (iI 0)]) 4 (c_bring (T := T) (D := D) K1 (ar_111 ad C) (ar_109 ad C) (by omega) (by omega) (by omega) (by omega)) (fun _ h => h) wc_X6_bring wm_RX6_55 wt_X6_bring wn_X6 (by decide) rfl ⟨Nat.le_of_ble_eq_true rfl, Nat.le_of_ble_eq_true rfl⟩ ⟨Nat.le_of_ble_eq_true rfl, Nat.le_of_ble_eq_true rfl⟩ (Nat.le_of_ble_eq_true rfl) dX6_doBuy_137 rfl (fun G9 h9 => ?_)
          rw [h9]
          clear h9
          refine aw_aload_n (q := 141) 0 dX6_doBuy_140 rfl rfl rfl ?_
          refine aw_iconst (q := 142) dX6_doBuy_141 rfl ?_
          refine cv_I (q := 145) (CC := "") (id := 108) (As := [.int (iI 3)]) 1 (c_refuse (T := T) (D := D) (ad := ad) (cpG K1 12 0 311 14 0)) (fun _ h => h) (by omega) (cell_108 ad C _) rfl wc_X6_refuse wm_RX6_82 wi_X6_refuse ws_X6_refuse wn_X6 (by decide) rfl ⟨Nat.le_of_ble_eq_true rfl, Nat.le_of_ble_eq_true rfl⟩ ⟨Nat.le_of_ble_eq_true rfl, Nat.le_of_ble_eq_true rfl⟩ (Nat.le_of_ble_eq_true rfl) dX6_doBuy_142 rfl (fun r9 G9 h9 => ?_)
          rw [h9.1, h9.2]
          clear h9
          exact rt_i rfl (Nat.le_refl _) (Nat.le_refl _) (⟨fun x y z => (setG_ne (by omega)).trans ((cpG_ne (by omega)).trans ((hs1 _ _ (by omega)).trans (is12 _ _ (by omega)))), Or.inl ⟨fun q => by
              have q2 := q.2.2
              rw [hA] at q2
              rcases q2 with q3 | q3
              · exact hp q3
              · omega, rfl, setG_same _ _ _ _, fun y z0 z1 => (setG_ne (by omega)).trans ((cpG_in (by omega)).trans ((hs1 _ _ (by omega)).trans ((i14 _ (by omega) (by omega)).trans (congrArg (G 12) (by omega)))))⟩⟩) dX6_doBuy_145
    · refine aw_aload_n (q := 52) 0 dX6_doBuy_51 rfl rfl rfl ?_
      refine aw_iconst (q := 53) dX6_doBuy_52 rfl ?_
      refine cv_I (q := 56) (CC := "") (id := 108) (As := [.int (iI 3)]) 1 (c_refuse (T := T) (D := D) (ad := ad) G) (fun _ h => h) (by omega) (cell_108 ad C _) rfl wc_X6_refuse wm_RX6_82 wi_X6_refuse ws_X6_refuse wn_X6 (by decide) rfl ⟨Nat.le_of_ble_eq_true rfl, Nat.le_of_ble_eq_true rfl⟩ ⟨Nat.le_of_ble_eq_true rfl, Nat.le_of_ble_eq_true rfl⟩ (Nat.le_of_ble_eq_true rfl) dX6_doBuy_53 rfl (fun r9 G9 h9 => ?_)
      rw [h9.1, h9.2]
      clear h9
      exact rt_i rfl (Nat.le_refl _) (Nat.le_refl _) (⟨fun x y z => setG_ne (by omega), Or.inl ⟨fun q => by have q1 := q.1; have q2 := q.2.1; rw [hA] at q2; omega, rfl, setG_same _ _ _ _, fun y z0 z1 => setG_ne (by omega)⟩⟩) dX6_doBuy_56
