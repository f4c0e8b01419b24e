theorem cpG_ne {G : GG} {p1 d1 n p0 d0 x y : Int} (h : ¬ (x = p1 ∧ d1 ≤ y ∧ y < d1 + n)) : cpG G p1 d1 n p0 d0 x y = G x y := if_neg h
theorem cpG_in {G : GG} {p1 d1 n p0 d0 y : Int} (h : d1 ≤ y ∧ y < d1 + n) : cpG G p1 d1 n p0 d0 p1 y = G p0 (d0 + (y - d1)) := if_pos ⟨rfl, h⟩
/-- what a method leaves of the other numbers: all but those of which S speaks -/
def sameB (S : Int → Int → Prop) (G G1 : GG) : Prop := ∀ x y, ¬ S x y → G1 x y = G x y
theorem sameB.rf {S : Int → Int → Prop} {G : GG} : sameB S G G := fun _ _ _ => rfl
theorem sameB.tr {S : Int → Int → Prop} {G G1 G2 : GG} (h : sameB S G G1) (h2 : sameB S G1 G2) : sameB S G G2 := fun x y z => (h2 x y z).trans (h x y z)
theorem sameB.mono {S S2 : Int → Int → Prop} {G G1 : GG} (h : sameB S G G1) (hs : ∀ x y, S x y → S2 x y) : sameB S2 G G1 := fun x y z => h x y (fun q => z (hs x y q))
/-- the scratch of a payment on page i -/
abbrev scr (i : Int) : Int → Int → Prop := fun x y => x = i ∧ 312 ≤ y ∧ y < 320
theorem tkG_same {G : GG} {i a f : Int} : sameB (scr i) G (tkG G i a f) := fun x y h => tkG_ne (by omega)
/-- the coins of tubes h for a -/
def c3F (h0 h1 h2 h3 a : Int) : Int := bF h0 h1 h2 h3 a
def c2F (h0 h1 h2 h3 a : Int) : Int := t2F h2 a (bF h0 h1 h2 h3 a)
def c1F (h0 h1 h2 h3 a : Int) : Int := t1F h1 h2 a (bF h0 h1 h2 h3 a)
def c0F (h0 h1 h2 h3 a : Int) : Int := t0F h0 h1 h2 a (bF h0 h1 h2 h3 a)
theorem bF_n {h0 h1 h2 h3 a : Int} (b3 : 0 ≤ h3) (ha : 0 ≤ a) : 0 ≤ bF h0 h1 h2 h3 a ∧ bF h0 h1 h2 h3 a ≤ h3 ∧ 50 * bF h0 h1 h2 h3 a ≤ a := by
  have hf : 0 ≤ fF h3 a ∧ fF h3 a ≤ h3 ∧ 50 * fF h3 a ≤ a := by unfold fF; omega
  unfold bF
  by_cases h : btr h0 h1 h2 h3 a
  · rw [if_pos h]
    have h1 := h.1
    by_cases z : fF h3 a - 1 < 0
    · exact absurd (by unfold tkF; rw [if_pos z]) h1
    · omega
  · rw [if_neg h]; exact hf
theorem tkG_taken {G : GG} {i a f : Int} (h : 0 ≤ f) : tkG G i a f i 316 = t0F (G i 312) (G i 313) (G i 314) a f ∧ tkG G i a f i 317 = t1F (G i 313) (G i 314) a f ∧ tkG G i a f i 318 = t2F (G i 314) a f ∧ tkG G i a f i 319 = f := by
  have hf : ¬ f < 0 := by omega
  rw [show tkG G i a f = _ from if_neg hf]
  refine ⟨?_, ?_, ?_, ?_⟩
  · exact (if_pos (by omega)).trans (if_pos rfl)
  · exact (if_pos (by omega)).trans ((if_neg (by omega)).trans (if_pos rfl))
  · exact (if_pos (by omega)).trans ((if_neg (by omega)).trans ((if_neg (by omega)).trans (if_pos rfl)))
  · exact (if_pos (by omega)).trans ((if_neg (by omega)).trans ((if_neg (by omega)).trans (if_neg (by omega))))
/-- behind a search over the held coins h: what was answered, what taken holds; all else stays but held and taken -/
def fndP (G : GG) (i h0 h1 h2 h3 a : Int) (r : Int) (G1 : GG) : Prop := r = b2i (canF h0 h1 h2 h3 a) ∧ G1 i 316 = c0F h0 h1 h2 h3 a ∧ G1 i 317 = c1F h0 h1 h2 h3 a ∧ G1 i 318 = c2F h0 h1 h2 h3 a ∧ G1 i 319 = c3F h0 h1 h2 h3 a ∧ sameB (scr i) G G1
theorem fndP_of {G G0 : GG} {i a r : Int} {G1 : GG} (hs : sameB (scr i) G G0) (ha : 0 ≤ a) (h3 : 0 ≤ G0 i 315) (h1 : r = b2i (canF (G0 i 312) (G0 i 313) (G0 i 314) (G0 i 315) a)) (h2 : G1 = tkG G0 i a (bF (G0 i 312) (G0 i 313) (G0 i 314) (G0 i 315) a)) : fndP G i (G0 i 312) (G0 i 313) (G0 i 314) (G0 i 315) a r G1 := by
  have hb := bF_n (h0 := G0 i 312) (h1 := G0 i 313) (h2 := G0 i 314) h3 ha
  obtain ⟨e0, e1, e2, e3⟩ := tkG_taken (G := G0) (i := i) (a := a) hb.1
  refine ⟨h1, ?_, ?_, ?_, ?_, ?_⟩
  · rw [h2]; exact e0
  · rw [h2]; exact e1
  · rw [h2]; exact e2
  · rw [h2]; exact e3
  · rw [h2]; exact hs.tr tkG_same
set_option maxHeartbeats 4000000 in
set_option maxRecDepth 100000 in
theorem c_till_canPay {l : Launch} {D : va_G} {C : Nat → ClassId} {T : Nat → Nat} {ad : Int → Nat} (G : GG) {i : Int} (hi : 0 ≤ i ∧ i < 6) {a : Int} (ha : 0 ≤ a ∧ a ≤ 3000) (ht : ∀ k : Int, 0 ≤ k → k < 4 → 0 ≤ G i (5 + k) ∧ G i (5 + k) ≤ 30) : MC l yX4_canPay cX4_canPay 2 (some .boolean) 3 85 0 0 D (tyC C) T [.ref (ad (17 * i + 3)), .int (iI a)] (cw ad C G) (RI ad C (fun r G1 => fndP G i (G i 5) (G i 6) (G i 7) (G i 8) a r G1)) := by
  refine mc_of (by decide +kernel) (Nat.le_of_ble_eq_true rfl) rfl ?_
  have q0 : 0 ≤ G i 5 ∧ G i 5 ≤ 30 := ht 0 (by omega) (by omega)
  have q1 : 0 ≤ G i 6 ∧ G i 6 ≤ 30 := ht 1 (by omega) (by omega)
  have q2 : 0 ≤ G i 7 ∧ G i 7 ≤ 30 := ht 2 (by omega) (by omega)
  have q3 : 0 ≤ G i 8 ∧ G i 8 ≤ 30 := ht 3 (by omega) (by omega)
  refine aw_aload_n (q := 1) 0 dX4_canPay_0 rfl rfl rfl ?_
  refine g_till_tubes (q := 4) hi wf_RX4_9 dX4_canPay_1 rfl ?_
  refine aw_iconst (q := 5) dX4_canPay_4 rfl ?_
  refine aw_aload_n (q := 6) 0 dX4_canPay_5 rfl rfl rfl ?_
  refine g_till_payment (q := 9) hi wf_RX4_21 dX4_canPay_6 rfl ?_
  refine g_pay_held (q := 12) hi wf_RX4_56 dX4_canPay_9 rfl ?_
  refine aw_iconst (q := 13) dX4_canPay_12 rfl ?_
  refine aw_iconst (q := 14) dX4_canPay_13 rfl ?_
  refine aw_ccopy (q := 17) (ar_tubes ad C hi) (ar_held ad C hi) wm_RX4_38 wcopy_n wcopy_s wSys_i (by omega) (by decide) (Nat.le_of_ble_eq_true rfl) (Nat.le_of_ble_eq_true rfl) dX4_canPay_14 rfl ?_
  refine aw_aload_n (q := 18) 0 dX4_canPay_17 rfl rfl rfl ?_
  refine g_till_payment (q := 21) hi wf_RX4_21 dX4_canPay_18 rfl ?_
  refine aw_iload_n (q := 22) 1 dX4_canPay_21 rfl rfl rfl ?_
  obtain ⟨G0, hG0⟩ : ∃ z, z = cpG G i (312 + 0) 4 i (5 + 0) := ⟨_, rfl⟩
  rw [← hG0]
  have e0 : G0 i 312 = G i 5 := by rw [hG0]; exact (cpG_in (by omega)).trans (congrArg (G i) (by omega))
  have e1 : G0 i 313 = G i 6 := by rw [hG0]; exact (cpG_in (by omega)).trans (congrArg (G i) (by omega))
  have e2 : G0 i 314 = G i 7 := by rw [hG0]; exact (cpG_in (by omega)).trans (congrArg (G i) (by omega))
  have e3 : G0 i 315 = G i 8 := by rw [hG0]; exact (cpG_in (by omega)).trans (congrArg (G i) (by omega))
  have hs : sameB (scr i) G G0 := fun x y z => by rw [hG0]; exact cpG_ne (by omega)
  have hh : ∀ k : Int, 0 ≤ k → k < 4 → 0 ≤ G0 i (312 + k) ∧ G0 i (312 + k) ≤ 31 := fun k z0 z1 => by
    rcases (by omega : k = 0 ∨ k = 1 ∨ k = 2 ∨ k = 3) with rfl | rfl | rfl | rfl
    · show 0 ≤ G0 i 312 ∧ G0 i 312 ≤ 31; rw [e0]; omega
    · show 0 ≤ G0 i 313 ∧ G0 i 313 ≤ 31; rw [e1]; omega
    · show 0 ≤ G0 i 314 ∧ G0 i 314 ≤ 31; rw [e2]; omega
    · show 0 ≤ G0 i 315 ∧ G0 i 315 ≤ 31; rw [e3]; omega
  refine cv_I (q := 25) (CC := "") (id := 17 * i + 6) (As := [.int (iI a)]) 1 (c_pay_find (T := T) (D := D) (ad := ad) G0 hi hh (by omega)) (fun _ h => h) (by omega) (cell_pay ad C _ hi) rfl wc_X3_find wm_RX4_59 wi_X3_find ws_X3_find wn_X3 (by decide) rfl ⟨Nat.le_of_ble_eq_true rfl, Nat.le_of_ble_eq_true rfl⟩ ⟨Nat.le_of_ble_eq_true rfl, Nat.le_of_ble_eq_true rfl⟩ (Nat.le_of_ble_eq_true rfl) dX4_canPay_22 rfl (fun r1 G9 h9 => ?_)
  obtain ⟨hr1, hG1⟩ := h9
  have hbr : r1 = 0 ∨ r1 = 1 := by rw [hr1]; exact b2i_r _
  exact rt_z rfl (by first | omega | exact b2i_r _) (Nat.le_refl _) (Nat.le_refl _) (by rw [← e0, ← e1, ← e2, ← e3]; exact fndP_of hs (by omega) (hh 3 (by omega) (by omega)).1 hr1 hG1) dX4_canPay_25
set_option maxHeartbeats 4000000 in
set_option maxRecDepth 100000 in
theorem c_till_withCoin0 {l : Launch} {D : va_G} {C : Nat → ClassId} {T : Nat → Nat} {ad : Int → Nat} (G : GG) {i : Int} (hi : 0 ≤ i ∧ i < 6) {a : Int} (ha : 0 ≤ a ∧ a ≤ 3000) (ht : ∀ k : Int, 0 ≤ k → k < 4 → 0 ≤ G i (5 + k) ∧ G i (5 + k) ≤ 30) : MC l yX4_canPayWithCoin cX4_canPayWithCoin 3 (some .boolean) 3 85 0 0 D (tyC C) T [.ref (ad (17 * i + 3)), .int (iI a), .int (iI 0)] (cw ad C G) (RI ad C (fun r G1 => fndP G i (G i 5 + 1) (G i 6) (G i 7) (G i 8) a r G1)) := by
  refine mc_of (by decide +kernel) (Nat.le_of_ble_eq_true rfl) rfl ?_
  have q0 : 0 ≤ G i 5 ∧ G i 5 ≤ 30 := ht 0 (by omega) (by omega)
  have q1 : 0 ≤ G i 6 ∧ G i 6 ≤ 30 := ht 1 (by omega) (by omega)
  have q2 : 0 ≤ G i 7 ∧ G i 7 ≤ 30 := ht 2 (by omega) (by omega)
  have q3 : 0 ≤ G i 8 ∧ G i 8 ≤ 30 := ht 3 (by omega) (by omega)
  refine aw_aload_n (q := 1) 0 dX4_canPayWithCoin_0 rfl rfl rfl ?_
  refine g_till_tubes (q := 4) hi wf_RX4_9 dX4_canPayWithCoin_1 rfl ?_
  refine aw_iconst (q := 5) dX4_canPayWithCoin_4 rfl ?_
  refine aw_aload_n (q := 6) 0 dX4_canPayWithCoin_5 rfl rfl rfl ?_
  refine g_till_payment (q := 9) hi wf_RX4_21 dX4_canPayWithCoin_6 rfl ?_
  refine g_pay_held (q := 12) hi wf_RX4_56 dX4_canPayWithCoin_9 rfl ?_
  refine aw_iconst (q := 13) dX4_canPayWithCoin_12 rfl ?_
  refine aw_iconst (q := 14) dX4_canPayWithCoin_13 rfl ?_
  refine aw_ccopy (q := 17) (ar_tubes ad C hi) (ar_held ad C hi) wm_RX4_38 wcopy_n wcopy_s wSys_i (by omega) (by decide) (Nat.le_of_ble_eq_true rfl) (Nat.le_of_ble_eq_true rfl) dX4_canPayWithCoin_14 rfl ?_
  refine aw_aload_n (q := 18) 0 dX4_canPayWithCoin_17 rfl rfl rfl ?_
  refine g_till_payment (q := 21) hi wf_RX4_21 dX4_canPayWithCoin_18 rfl ?_
  refine g_pay_held (q := 24) hi wf_RX4_56 dX4_canPayWithCoin_21 rfl ?_
  refine aw_iload_n (q := 25) 2 dX4_canPayWithCoin_24 rfl rfl rfl ?_
  refine aw_dup2 (q := 26) dX4_canPayWithCoin_25 rfl rfl rfl ?_
  refine aw_cial (q := 27) (v := (G i 5)) 312 (ar_held ad C hi) (by omega) (by omega) ((cpG_in (by omega)).trans (congrArg (G i) (by omega : ((5 + 0) + (312 - (312 + 0)) : Int) = 5))) dX4_canPayWithCoin_26 rfl ?_
  refine aw_iconst (q := 28) dX4_canPayWithCoin_27 rfl ?_
  refine ae_iadd (q := 29) ((G i 5) + 1) (by omega) dX4_canPayWithCoin_28 rfl ?_
  refine aw_cias (q := 30) 312 (ar_held ad C hi) (by omega) (by omega) dX4_canPayWithCoin_29 rfl ?_
  refine aw_aload_n (q := 31) 0 dX4_canPayWithCoin_30 rfl rfl rfl ?_
  refine g_till_payment (q := 34) hi wf_RX4_21 dX4_canPayWithCoin_31 rfl ?_
  refine aw_iload_n (q := 35) 1 dX4_canPayWithCoin_34 rfl rfl rfl ?_
  obtain ⟨G0, hG0⟩ : ∃ z, z = setG (cpG G i (312 + 0) 4 i (5 + 0)) i 312 ((G i 5) + 1) := ⟨_, rfl⟩
  rw [← hG0]
  have e0 : G0 i 312 = G i 5 + 1 := by rw [hG0]; exact (setG_same _ _ _ _)
  have e1 : G0 i 313 = G i 6 := by rw [hG0]; exact ((setG_ne (by omega)).trans ((cpG_in (by omega)).trans (congrArg (G i) (by omega : ((5 + 0) + (313 - (312 + 0)) : Int) = 6))))
  have e2 : G0 i 314 = G i 7 := by rw [hG0]; exact ((setG_ne (by omega)).trans ((cpG_in (by omega)).trans (congrArg (G i) (by omega : ((5 + 0) + (314 - (312 + 0)) : Int) = 7))))
  have e3 : G0 i 315 = G i 8 := by rw [hG0]; exact ((setG_ne (by omega)).trans ((cpG_in (by omega)).trans (congrArg (G i) (by omega : ((5 + 0) + (315 - (312 + 0)) : Int) = 8))))
  have hs : sameB (scr i) G G0 := fun x y z => by rw [hG0]; exact (fun x y z => ((setG_ne (by omega)).trans (cpG_ne (by omega)))) x y z
  have hh : ∀ k : Int, 0 ≤ k → k < 4 → 0 ≤ G0 i (312 + k) ∧ G0 i (312 + k) ≤ 31 := fun k z0 z1 => by
    rcases (by omega : k = 0 ∨ k = 1 ∨ k = 2 ∨ k = 3) with rfl | rfl | rfl | rfl
    · show 0 ≤ G0 i 312 ∧ G0 i 312 ≤ 31; rw [e0]; omega
    · show 0 ≤ G0 i 313 ∧ G0 i 313 ≤ 31; rw [e1]; omega
    · show 0 ≤ G0 i 314 ∧ G0 i 314 ≤ 31; rw [e2]; omega
    · show 0 ≤ G0 i 315 ∧ G0 i 315 ≤ 31; rw [e3]; omega
  refine cv_I (q := 38) (CC := "") (id := 17 * i + 6) (As := [.int (iI a)]) 1 (c_pay_find (T := T) (D := D) (ad := ad) G0 hi hh (by omega)) (fun _ h => h) (by omega) (cell_pay ad C _ hi) rfl wc_X3_find wm_RX4_59 wi_X3_find ws_X3_find wn_X3 (by decide) rfl ⟨Nat.le_of_ble_eq_true rfl, Nat.le_of_ble_eq_true rfl⟩ ⟨Nat.le_of_ble_eq_true rfl, Nat.le_of_ble_eq_true rfl⟩ (Nat.le_of_ble_eq_true rfl) dX4_canPayWithCoin_35 rfl (fun r1 G9 h9 => ?_)
  obtain ⟨hr1, hG1⟩ := h9
  have hbr : r1 = 0 ∨ r1 = 1 := by rw [hr1]; exact b2i_r _
  exact rt_z rfl (by first | omega | exact b2i_r _) (Nat.le_refl _) (Nat.le_refl _) (by rw [← e0, ← e1, ← e2, ← e3]; exact fndP_of hs (by omega) (hh 3 (by omega) (by omega)).1 hr1 hG1) dX4_canPayWithCoin_38
set_option maxHeartbeats 4000000 in
set_option maxRecDepth 100000 in
theorem c_till_withCoin1 {l : Launch} {D : va_G} {C : Nat → ClassId} {T : Nat → Nat} {ad : Int → Nat} (G : GG) {i : Int} (hi : 0 ≤ i ∧ i < 6) {a : Int} (ha : 0 ≤ a ∧ a ≤ 3000) (ht : ∀ k : Int, 0 ≤ k → k < 4 → 0 ≤ G i (5 + k) ∧ G i (5 + k) ≤ 30) : MC l yX4_canPayWithCoin cX4_canPayWithCoin 3 (some .boolean) 3 85 0 0 D (tyC C) T [.ref (ad (17 * i + 3)), .int (iI a), .int (iI 1)] (cw ad C G) (RI ad C (fun r G1 => fndP G i (G i 5) (G i 6 + 1) (G i 7) (G i 8) a r G1)) := by
  refine mc_of (by decide +kernel) (Nat.le_of_ble_eq_true rfl) rfl ?_
  have q0 : 0 ≤ G i 5 ∧ G i 5 ≤ 30 := ht 0 (by omega) (by omega)
  have q1 : 0 ≤ G i 6 ∧ G i 6 ≤ 30 := ht 1 (by omega) (by omega)
  have q2 : 0 ≤ G i 7 ∧ G i 7 ≤ 30 := ht 2 (by omega) (by omega)
  have q3 : 0 ≤ G i 8 ∧ G i 8 ≤ 30 := ht 3 (by omega) (by omega)
  refine aw_aload_n (q := 1) 0 dX4_canPayWithCoin_0 rfl rfl rfl ?_
  refine g_till_tubes (q := 4) hi wf_RX4_9 dX4_canPayWithCoin_1 rfl ?_
  refine aw_iconst (q := 5) dX4_canPayWithCoin_4 rfl ?_
  refine aw_aload_n (q := 6) 0 dX4_canPayWithCoin_5 rfl rfl rfl ?_
  refine g_till_payment (q := 9) hi wf_RX4_21 dX4_canPayWithCoin_6 rfl ?_
  refine g_pay_held (q := 12) hi wf_RX4_56 dX4_canPayWithCoin_9 rfl ?_
  refine aw_iconst (q := 13) dX4_canPayWithCoin_12 rfl ?_
  refine aw_iconst (q := 14) dX4_canPayWithCoin_13 rfl ?_
  refine aw_ccopy (q := 17) (ar_tubes ad C hi) (ar_held ad C hi) wm_RX4_38 wcopy_n wcopy_s wSys_i (by omega) (by decide) (Nat.le_of_ble_eq_true rfl) (Nat.le_of_ble_eq_true rfl) dX4_canPayWithCoin_14 rfl ?_
  refine aw_aload_n (q := 18) 0 dX4_canPayWithCoin_17 rfl rfl rfl ?_
  refine g_till_payment (q := 21) hi wf_RX4_21 dX4_canPayWithCoin_18 rfl ?_
  refine g_pay_held (q := 24) hi wf_RX4_56 dX4_canPayWithCoin_21 rfl ?_
  refine aw_iload_n (q := 25) 2 dX4_canPayWithCoin_24 rfl rfl rfl ?_
  refine aw_dup2 (q := 26) dX4_canPayWithCoin_25 rfl rfl rfl ?_
  refine aw_cial (q := 27) (v := (G i 6)) 313 (ar_held ad C hi) (by omega) (by omega) ((cpG_in (by omega)).trans (congrArg (G i) (by omega : ((5 + 0) + (313 - (312 + 0)) : Int) = 6))) dX4_canPayWithCoin_26 rfl ?_
  refine aw_iconst (q := 28) dX4_canPayWithCoin_27 rfl ?_
  refine ae_iadd (q := 29) ((G i 6) + 1) (by omega) dX4_canPayWithCoin_28 rfl ?_
  refine aw_cias (q := 30) 313 (ar_held ad C hi) (by omega) (by omega) dX4_canPayWithCoin_29 rfl ?_
  refine aw_aload_n (q := 31) 0 dX4_canPayWithCoin_30 rfl rfl rfl ?_
  refine g_till_payment (q := 34) hi wf_RX4_21 dX4_canPayWithCoin_31 rfl ?_
  refine aw_iload_n (q := 35) 1 dX4_canPayWithCoin_34 rfl rfl rfl ?_
  obtain ⟨G0, hG0⟩ : ∃ z, z = setG (cpG G i (312 + 0) 4 i (5 + 0)) i 313 ((G i 6) + 1) := ⟨_, rfl⟩
  rw [← hG0]
  have e0 : G0 i 312 = G i 5 := by rw [hG0]; exact ((setG_ne (by omega)).trans ((cpG_in (by omega)).trans (congrArg (G i) (by omega : ((5 + 0) + (312 - (312 + 0)) : Int) = 5))))
  have e1 : G0 i 313 = G i 6 + 1 := by rw [hG0]; exact (setG_same _ _ _ _)
  have e2 : G0 i 314 = G i 7 := by rw [hG0]; exact ((setG_ne (by omega)).trans ((cpG_in (by omega)).trans (congrArg (G i) (by omega : ((5 + 0) + (314 - (312 + 0)) : Int) = 7))))
  have e3 : G0 i 315 = G i 8 := by rw [hG0]; exact ((setG_ne (by omega)).trans ((cpG_in (by omega)).trans (congrArg (G i) (by omega : ((5 + 0) + (315 - (312 + 0)) : Int) = 8))))
  have hs : sameB (scr i) G G0 := fun x y z => by rw [hG0]; exact (fun x y z => ((setG_ne (by omega)).trans (cpG_ne (by omega)))) x y z
  have hh : ∀ k : Int, 0 ≤ k → k < 4 → 0 ≤ G0 i (312 + k) ∧ G0 i (312 + k) ≤ 31 := fun k z0 z1 => by
    rcases (by omega : k = 0 ∨ k = 1 ∨ k = 2 ∨ k = 3) with rfl | rfl | rfl | rfl
    · show 0 ≤ G0 i 312 ∧ G0 i 312 ≤ 31; rw [e0]; omega
    · show 0 ≤ G0 i 313 ∧ G0 i 313 ≤ 31; rw [e1]; omega
    · show 0 ≤ G0 i 314 ∧ G0 i 314 ≤ 31; rw [e2]; omega
    · show 0 ≤ G0 i 315 ∧ G0 i 315 ≤ 31; rw [e3]; omega
  refine cv_I (q := 38) (CC := "") (id := 17 * i + 6) (As := [.int (iI a)]) 1 (c_pay_find (T := T) (D := D) (ad := ad) G0 hi hh (by omega)) (fun _ h => h) (by omega) (cell_pay ad C _ hi) rfl wc_X3_find wm_RX4_59 wi_X3_find ws_X3_find wn_X3 (by decide) rfl ⟨Nat.le_of_ble_eq_true rfl, Nat.le_of_ble_eq_true rfl⟩ ⟨Nat.le_of_ble_eq_true rfl, Nat.le_of_ble_eq_true rfl⟩ (Nat.le_of_ble_eq_true rfl) dX4_canPayWithCoin_35 rfl (fun r1 G9 h9 => ?_)
  obtain ⟨hr1, hG1⟩ := h9
  have hbr : r1 = 0 ∨ r1 = 1 := by rw [hr1]; exact b2i_r _
  exact rt_z rfl (by first | omega | exact b2i_r _) (Nat.le_refl _) (Nat.le_refl _) (by rw [← e0, ← e1, ← e2, ← e3]; exact fndP_of hs (by omega) (hh 3 (by omega) (by omega)).1 hr1 hG1) dX4_canPayWithCoin_38
set_option maxHeartbeats 4000000 in
set_option maxRecDepth 100000 in
theorem c_till_withCoin2 {l : Launch} {D : va_G} {C : Nat → ClassId} {T : Nat → Nat} {ad : Int → Nat} (G : GG) {i : Int} (hi : 0 ≤ i ∧ i < 6) {a : Int} (ha : 0 ≤ a ∧ a ≤ 3000) (ht : ∀ k : Int, 0 ≤ k → k < 4 → 0 ≤ G i (5 + k) ∧ G i (5 + k) ≤ 30) : MC l yX4_canPayWithCoin cX4_canPayWithCoin 3 (some .boolean) 3 85 0 0 D (tyC C) T [.ref (ad (17 * i + 3)), .int (iI a), .int (iI 2)] (cw ad C G) (RI ad C (fun r G1 => fndP G i (G i 5) (G i 6) (G i 7 + 1) (G i 8) a r G1)) := by
  refine mc_of (by decide +kernel) (Nat.le_of_ble_eq_true rfl) rfl ?_
  have q0 : 0 ≤ G i 5 ∧ G i 5 ≤ 30 := ht 0 (by omega) (by omega)
  have q1 : 0 ≤ G i 6 ∧ G i 6 ≤ 30 := ht 1 (by omega) (by omega)
  have q2 : 0 ≤ G i 7 ∧ G i 7 ≤ 30 := ht 2 (by omega) (by omega)
  have q3 : 0 ≤ G i 8 ∧ G i 8 ≤ 30 := ht 3 (by omega) (by omega)
  refine aw_aload_n (q := 1) 0 dX4_canPayWithCoin_0 rfl rfl rfl ?_
  refine g_till_tubes (q := 4) hi wf_RX4_9 dX4_canPayWithCoin_1 rfl ?_
  refine aw_iconst (q := 5) dX4_canPayWithCoin_4 rfl ?_
  refine aw_aload_n (q := 6) 0 dX4_canPayWithCoin_5 rfl rfl rfl ?_
  refine g_till_payment (q := 9) hi wf_RX4_21 dX4_canPayWithCoin_6 rfl ?_
  refine g_pay_held (q := 12) hi wf_RX4_56 dX4_canPayWithCoin_9 rfl ?_
  refine aw_iconst (q := 13) dX4_canPayWithCoin_12 rfl ?_
  refine aw_iconst (q := 14) dX4_canPayWithCoin_13 rfl ?_
  refine aw_ccopy (q := 17) (ar_tubes ad C hi) (ar_held ad C hi) wm_RX4_38 wcopy_n wcopy_s wSys_i (by omega) (by decide) (Nat.le_of_ble_eq_true rfl) (Nat.le_of_ble_eq_true rfl) dX4_canPayWithCoin_14 rfl ?_
  refine aw_aload_n (q := 18) 0 dX4_canPayWithCoin_17 rfl rfl rfl ?_
  refine g_till_payment (q := 21) hi wf_RX4_21 dX4_canPayWithCoin_18 rfl ?_
  refine g_pay_held (q := 24) hi wf_RX4_56 dX4_canPayWithCoin_21 rfl ?_
  refine aw_iload_n (q := 25) 2 dX4_canPayWithCoin_24 rfl rfl rfl ?_
  refine aw_dup2 (q := 26) dX4_canPayWithCoin_25 rfl rfl rfl ?_
  refine aw_cial (q := 27) (v := (G i 7)) 314 (ar_held ad C hi) (by omega) (by omega) ((cpG_in (by omega)).trans (congrArg (G i) (by omega : ((5 + 0) + (314 - (312 + 0)) : Int) = 7))) dX4_canPayWithCoin_26 rfl ?_
  refine aw_iconst (q := 28) dX4_canPayWithCoin_27 rfl ?_
  refine ae_iadd (q := 29) ((G i 7) + 1) (by omega) dX4_canPayWithCoin_28 rfl ?_
  refine aw_cias (q := 30) 314 (ar_held ad C hi) (by omega) (by omega) dX4_canPayWithCoin_29 rfl ?_
  refine aw_aload_n (q := 31) 0 dX4_canPayWithCoin_30 rfl rfl rfl ?_
  refine g_till_payment (q := 34) hi wf_RX4_21 dX4_canPayWithCoin_31 rfl ?_
  refine aw_iload_n (q := 35) 1 dX4_canPayWithCoin_34 rfl rfl rfl ?_
  obtain ⟨G0, hG0⟩ : ∃ z, z = setG (cpG G i (312 + 0) 4 i (5 + 0)) i 314 ((G i 7) + 1) := ⟨_, rfl⟩
  rw [← hG0]
  have e0 : G0 i 312 = G i 5 := by rw [hG0]; exact ((setG_ne (by omega)).trans ((cpG_in (by omega)).trans (congrArg (G i) (by omega : ((5 + 0) + (312 - (312 + 0)) : Int) = 5))))
  have e1 : G0 i 313 = G i 6 := by rw [hG0]; exact ((setG_ne (by omega)).trans ((cpG_in (by omega)).trans (congrArg (G i) (by omega : ((5 + 0) + (313 - (312 + 0)) : Int) = 6))))
  have e2 : G0 i 314 = G i 7 + 1 := by rw [hG0]; exact (setG_same _ _ _ _)
  have e3 : G0 i 315 = G i 8 := by rw [hG0]; exact ((setG_ne (by omega)).trans ((cpG_in (by omega)).trans (congrArg (G i) (by omega : ((5 + 0) + (315 - (312 + 0)) : Int) = 8))))
  have hs : sameB (scr i) G G0 := fun x y z => by rw [hG0]; exact (fun x y z => ((setG_ne (by omega)).trans (cpG_ne (by omega)))) x y z
  have hh : ∀ k : Int, 0 ≤ k → k < 4 → 0 ≤ G0 i (312 + k) ∧ G0 i (312 + k) ≤ 31 := fun k z0 z1 => by
    rcases (by omega : k = 0 ∨ k = 1 ∨ k = 2 ∨ k = 3) with rfl | rfl | rfl | rfl
    · show 0 ≤ G0 i 312 ∧ G0 i 312 ≤ 31; rw [e0]; omega
    · show 0 ≤ G0 i 313 ∧ G0 i 313 ≤ 31; rw [e1]; omega
    · show 0 ≤ G0 i 314 ∧ G0 i 314 ≤ 31; rw [e2]; omega
    · show 0 ≤ G0 i 315 ∧ G0 i 315 ≤ 31; rw [e3]; omega
  refine cv_I (q := 38) (CC := "") (id := 17 * i + 6) (As := [.int (iI a)]) 1 (c_pay_find (T := T) (D := D) (ad := ad) G0 hi hh (by omega)) (fun _ h => h) (by omega) (cell_pay ad C _ hi) rfl wc_X3_find wm_RX4_59 wi_X3_find ws_X3_find wn_X3 (by decide) rfl ⟨Nat.le_of_ble_eq_true rfl, Nat.le_of_ble_eq_true rfl⟩ ⟨Nat.le_of_ble_eq_true rfl, Nat.le_of_ble_eq_true rfl⟩ (Nat.le_of_ble_eq_true rfl) dX4_canPayWithCoin_35 rfl (fun r1 G9 h9 => ?_)
  obtain ⟨hr1, hG1⟩ := h9
  have hbr : r1 = 0 ∨ r1 = 1 := by rw [hr1]; exact b2i_r _
  exact rt_z rfl (by first | omega | exact b2i_r _) (Nat.le_refl _) (Nat.le_refl _) (by rw [← e0, ← e1, ← e2, ← e3]; exact fndP_of hs (by omega) (hh 3 (by omega) (by omega)).1 hr1 hG1) dX4_canPayWithCoin_38
set_option maxHeartbeats 4000000 in
set_option maxRecDepth 100000 in
theorem c_till_withCoin3 {l : Launch} {D : va_G} {C : Nat → ClassId} {T : Nat → Nat} {ad : Int → Nat} (G : GG) {i : Int} (hi : 0 ≤ i ∧ i < 6) {a : Int} (ha : 0 ≤ a ∧ a ≤ 3000) (ht : ∀ k : Int, 0 ≤ k → k < 4 → 0 ≤ G i (5 + k) ∧ G i (5 + k) ≤ 30) : MC l yX4_canPayWithCoin cX4_canPayWithCoin 3 (some .boolean) 3 85 0 0 D (tyC C) T [.ref (ad (17 * i + 3)), .int (iI a), .int (iI 3)] (cw ad C G) (RI ad C (fun r G1 => fndP G i (G i 5) (G i 6) (G i 7) (G i 8 + 1) a r G1)) := by
  refine mc_of (by decide +kernel) (Nat.le_of_ble_eq_true rfl) rfl ?_
  have q0 : 0 ≤ G i 5 ∧ G i 5 ≤ 30 := ht 0 (by omega) (by omega)
  have q1 : 0 ≤ G i 6 ∧ G i 6 ≤ 30 := ht 1 (by omega) (by omega)
  have q2 : 0 ≤ G i 7 ∧ G i 7 ≤ 30 := ht 2 (by omega) (by omega)
  have q3 : 0 ≤ G i 8 ∧ G i 8 ≤ 30 := ht 3 (by omega) (by omega)
  refine aw_aload_n (q := 1) 0 dX4_canPayWithCoin_0 rfl rfl rfl ?_
  refine g_till_tubes (q := 4) hi wf_RX4_9 dX4_canPayWithCoin_1 rfl ?_
  refine aw_iconst (q := 5) dX4_canPayWithCoin_4 rfl ?_
  refine aw_aload_n (q := 6) 0 dX4_canPayWithCoin_5 rfl rfl rfl ?_
  refine g_till_payment (q := 9) hi wf_RX4_21 dX4_canPayWithCoin_6 rfl ?_
  refine g_pay_held (q := 12) hi wf_RX4_56 dX4_canPayWithCoin_9 rfl ?_
  refine aw_iconst (q := 13) dX4_canPayWithCoin_12 rfl ?_
  refine aw_iconst (q := 14) dX4_canPayWithCoin_13 rfl ?_
  refine aw_ccopy (q := 17) (ar_tubes ad C hi) (ar_held ad C hi) wm_RX4_38 wcopy_n wcopy_s wSys_i (by omega) (by decide) (Nat.le_of_ble_eq_true rfl) (Nat.le_of_ble_eq_true rfl) dX4_canPayWithCoin_14 rfl ?_
  refine aw_aload_n (q := 18) 0 dX4_canPayWithCoin_17 rfl rfl rfl ?_
  refine g_till_payment (q := 21) hi wf_RX4_21 dX4_canPayWithCoin_18 rfl ?_
  refine g_pay_held (q := 24) hi wf_RX4_56 dX4_canPayWithCoin_21 rfl ?_
  refine aw_iload_n (q := 25) 2 dX4_canPayWithCoin_24 rfl rfl rfl ?_
  refine aw_dup2 (q := 26) dX4_canPayWithCoin_25 rfl rfl rfl ?_
  refine aw_cial (q := 27) (v := (G i 8)) 315 (ar_held ad C hi) (by omega) (by omega) ((cpG_in (by omega)).trans (congrArg (G i) (by omega : ((5 + 0) + (315 - (312 + 0)) : Int) = 8))) dX4_canPayWithCoin_26 rfl ?_
  refine aw_iconst (q := 28) dX4_canPayWithCoin_27 rfl ?_
  refine ae_iadd (q := 29) ((G i 8) + 1) (by omega) dX4_canPayWithCoin_28 rfl ?_
  refine aw_cias (q := 30) 315 (ar_held ad C hi) (by omega) (by omega) dX4_canPayWithCoin_29 rfl ?_
  refine aw_aload_n (q := 31) 0 dX4_canPayWithCoin_30 rfl rfl rfl ?_
  refine g_till_payment (q := 34) hi wf_RX4_21 dX4_canPayWithCoin_31 rfl ?_
  refine aw_iload_n (q := 35) 1 dX4_canPayWithCoin_34 rfl rfl rfl ?_
  obtain ⟨G0, hG0⟩ : ∃ z, z = setG (cpG G i (312 + 0) 4 i (5 + 0)) i 315 ((G i 8) + 1) := ⟨_, rfl⟩
  rw [← hG0]
  have e0 : G0 i 312 = G i 5 := by rw [hG0]; exact ((setG_ne (by omega)).trans ((cpG_in (by omega)).trans (congrArg (G i) (by omega : ((5 + 0) + (312 - (312 + 0)) : Int) = 5))))
  have e1 : G0 i 313 = G i 6 := by rw [hG0]; exact ((setG_ne (by omega)).trans ((cpG_in (by omega)).trans (congrArg (G i) (by omega : ((5 + 0) + (313 - (312 + 0)) : Int) = 6))))
  have e2 : G0 i 314 = G i 7 := by rw [hG0]; exact ((setG_ne (by omega)).trans ((cpG_in (by omega)).trans (congrArg (G i) (by omega : ((5 + 0) + (314 - (312 + 0)) : Int) = 7))))
  have e3 : G0 i 315 = G i 8 + 1 := by rw [hG0]; exact (setG_same _ _ _ _)
  have hs : sameB (scr i) G G0 := fun x y z => by rw [hG0]; exact (fun x y z => ((setG_ne (by omega)).trans (cpG_ne (by omega)))) x y z
  have hh : ∀ k : Int, 0 ≤ k → k < 4 → 0 ≤ G0 i (312 + k) ∧ G0 i (312 + k) ≤ 31 := fun k z0 z1 => by
    rcases (by omega : k = 0 ∨ k = 1 ∨ k = 2 ∨ k = 3) with rfl | rfl | rfl | rfl
    · show 0 ≤ G0 i 312 ∧ G0 i 312 ≤ 31; rw [e0]; omega
    · show 0 ≤ G0 i 313 ∧ G0 i 313 ≤ 31; rw [e1]; omega
    · show 0 ≤ G0 i 314 ∧ G0 i 314 ≤ 31; rw [e2]; omega
    · show 0 ≤ G0 i 315 ∧ G0 i 315 ≤ 31; rw [e3]; omega
  refine cv_I (q := 38) (CC := "") (id := 17 * i + 6) (As := [.int (iI a)]) 1 (c_pay_find (T := T) (D := D) (ad := ad) G0 hi hh (by omega)) (fun _ h => h) (by omega) (cell_pay ad C _ hi) rfl wc_X3_find wm_RX4_59 wi_X3_find ws_X3_find wn_X3 (by decide) rfl ⟨Nat.le_of_ble_eq_true rfl, Nat.le_of_ble_eq_true rfl⟩ ⟨Nat.le_of_ble_eq_true rfl, Nat.le_of_ble_eq_true rfl⟩ (Nat.le_of_ble_eq_true rfl) dX4_canPayWithCoin_35 rfl (fun r1 G9 h9 => ?_)
  obtain ⟨hr1, hG1⟩ := h9
  have hbr : r1 = 0 ∨ r1 = 1 := by rw [hr1]; exact b2i_r _
  exact rt_z rfl (by first | omega | exact b2i_r _) (Nat.le_refl _) (Nat.le_refl _) (by rw [← e0, ← e1, ← e2, ← e3]; exact fndP_of hs (by omega) (hh 3 (by omega) (by omega)).1 hr1 hG1) dX4_canPayWithCoin_38
set_option maxHeartbeats 4000000 in
set_option maxRecDepth 100000 in
theorem c_till_after {l : Launch} {D : va_G} {C : Nat → ClassId} {T : Nat → Nat} {ad : Int → Nat} (G : GG) {i : Int} (hi : 0 ≤ i ∧ i < 6) {a : Int} (ha : 0 ≤ a ∧ a ≤ 3000) (ht : ∀ k : Int, 0 ≤ k → k < 4 → 0 ≤ G i (5 + k) ∧ G i (5 + k) ≤ 30) {ci pg : Int} (har : isArr ad C ci pg 0 4) (hpg : 6 ≤ pg) (hco : ∀ k : Int, 0 ≤ k → k < 4 → 0 ≤ G pg k ∧ G pg k ≤ 9) : MC l yX4_canPayAfter cX4_canPayAfter 4 (some .boolean) 3 85 0 0 D (tyC C) T [.ref (ad (17 * i + 3)), .ref (ad ci), .int (iI a)] (cw ad C G) (RI ad C (fun r G1 => fndP G i (min 30 (G i 5 + G pg 0)) (min 30 (G i 6 + G pg 1)) (min 30 (G i 7 + G pg 2)) (min 30 (G i 8 + G pg 3)) a r G1)) := by
  refine mc_of (by decide +kernel) (Nat.le_of_ble_eq_true rfl) rfl ?_
  have q0 : 0 ≤ G i 5 ∧ G i 5 ≤ 30 := ht 0 (by omega) (by omega)
  have q1 : 0 ≤ G i 6 ∧ G i 6 ≤ 30 := ht 1 (by omega) (by omega)
  have q2 : 0 ≤ G i 7 ∧ G i 7 ≤ 30 := ht 2 (by omega) (by omega)
  have q3 : 0 ≤ G i 8 ∧ G i 8 ≤ 30 := ht 3 (by omega) (by omega)
  have p0 : 0 ≤ G pg 0 ∧ G pg 0 ≤ 9 := hco 0 (by omega) (by omega)
  have p1 : 0 ≤ G pg 1 ∧ G pg 1 ≤ 9 := hco 1 (by omega) (by omega)
  have p2 : 0 ≤ G pg 2 ∧ G pg 2 ≤ 9 := hco 2 (by omega) (by omega)
  have p3 : 0 ≤ G pg 3 ∧ G pg 3 ≤ 9 := hco 3 (by omega) (by omega)
  refine aw_iconst (q := 1) dX4_canPayAfter_0 rfl ?_
  refine aw_istore_n (q := 2) (lv2 := [(0, .ref (ad (17 * i + 3))), (1, .ref (ad ci)), (2, .int (iI a)), (3, .int (iI 0))]) [1, 2, 3, 0] dX4_canPayAfter_1 rfl rfl (by decide) rfl rfl ?_
  refine aw_iload_n (q := 3) 3 dX4_canPayAfter_2 rfl rfl rfl ?_
  refine aw_iconst (q := 4) dX4_canPayAfter_3 rfl ?_
  refine aw_icmp_ge (q := 7) dX4_canPayAfter_4 rfl (t := 43) (by decide) (by omega) (by omega) (fun h => absurd h (by omega)) (fun _ => ?_)
  refine aw_iload_n (q := 8) 3 dX4_canPayAfter_7 rfl rfl rfl ?_
  refine aw_aload_n (q := 9) 1 dX4_canPayAfter_8 rfl rfl rfl ?_
  refine aw_calen (q := 10) har dX4_canPayAfter_9 rfl ?_
  refine aw_icmp_ge (q := 13) dX4_canPayAfter_10 rfl (t := 43) (by decide) (by omega) (by omega) (fun h => absurd h (by omega)) (fun _ => ?_)
  refine aw_aload_n (q := 14) 0 dX4_canPayAfter_13 rfl rfl rfl ?_
  refine g_till_payment (q := 17) hi wf_RX4_21 dX4_canPayAfter_14 rfl ?_
  refine g_pay_held (q := 20) hi wf_RX4_56 dX4_canPayAfter_17 rfl ?_
  refine aw_iload_n (q := 21) 3 dX4_canPayAfter_20 rfl rfl rfl ?_
  refine aw_bipush (q := 23) dX4_canPayAfter_21 rfl (by decide) ?_
  refine aw_aload_n (q := 24) 0 dX4_canPayAfter_23 rfl rfl rfl ?_
  refine g_till_tubes (q := 27) hi wf_RX4_9 dX4_canPayAfter_24 rfl ?_
  refine aw_iload_n (q := 28) 3 dX4_canPayAfter_27 rfl rfl rfl ?_
  refine aw_cial (q := 29) (v := (G i 5)) 5 (ar_tubes ad C hi) (by omega) (by omega) rfl dX4_canPayAfter_28 rfl ?_
  refine aw_aload_n (q := 30) 1 dX4_canPayAfter_29 rfl rfl rfl ?_
  refine aw_iload_n (q := 31) 3 dX4_canPayAfter_30 rfl rfl rfl ?_
  refine aw_cial (q := 32) (v := (G pg 0)) 0 har (by omega) (by omega) rfl dX4_canPayAfter_31 rfl ?_
  refine ae_iadd (q := 33) ((G i 5) + (G pg 0)) (by omega) dX4_canPayAfter_32 rfl ?_
  obtain ⟨m1, hm1⟩ : ∃ z, min 30 ((G i 5) + (G pg 0)) = z := ⟨_, rfl⟩
  refine ae_min (q := 36) m1 hm1 wm_RX4_44 wMmin_s wMath_i wMmin_c (Nat.le_of_ble_eq_true rfl) (Nat.le_of_ble_eq_true rfl) (Nat.le_of_ble_eq_true rfl) (Nat.le_of_ble_eq_true rfl) (by omega) (by omega) dX4_canPayAfter_33 rfl ?_
  refine aw_cias (q := 37) 312 (ar_held ad C hi) (by omega) (by omega) dX4_canPayAfter_36 rfl ?_
  refine ae_iinc (q := 40) (lv2 := [(0, .ref (ad (17 * i + 3))), (1, .ref (ad ci)), (2, .int (iI a)), (3, .int (iI 1))]) 3 [1, 2, 3, 0] 1 (by omega) dX4_canPayAfter_37 rfl rfl (by decide) rfl ?_
  refine aw_goto (q := 2) dX4_canPayAfter_40 (by decide) ?_
  refine aw_iload_n (q := 3) 3 dX4_canPayAfter_2 rfl rfl rfl ?_
  refine aw_iconst (q := 4) dX4_canPayAfter_3 rfl ?_
  refine aw_icmp_ge (q := 7) dX4_canPayAfter_4 rfl (t := 43) (by decide) (by omega) (by omega) (fun h => absurd h (by omega)) (fun _ => ?_)
  refine aw_iload_n (q := 8) 3 dX4_canPayAfter_7 rfl rfl rfl ?_
  refine aw_aload_n (q := 9) 1 dX4_canPayAfter_8 rfl rfl rfl ?_
  refine aw_calen (q := 10) har dX4_canPayAfter_9 rfl ?_
  refine aw_icmp_ge (q := 13) dX4_canPayAfter_10 rfl (t := 43) (by decide) (by omega) (by omega) (fun h => absurd h (by omega)) (fun _ => ?_)
  refine aw_aload_n (q := 14) 0 dX4_canPayAfter_13 rfl rfl rfl ?_
  refine g_till_payment (q := 17) hi wf_RX4_21 dX4_canPayAfter_14 rfl ?_
  refine g_pay_held (q := 20) hi wf_RX4_56 dX4_canPayAfter_17 rfl ?_
  refine aw_iload_n (q := 21) 3 dX4_canPayAfter_20 rfl rfl rfl ?_
  refine aw_bipush (q := 23) dX4_canPayAfter_21 rfl (by decide) ?_
  refine aw_aload_n (q := 24) 0 dX4_canPayAfter_23 rfl rfl rfl ?_
  refine g_till_tubes (q := 27) hi wf_RX4_9 dX4_canPayAfter_24 rfl ?_
  refine aw_iload_n (q := 28) 3 dX4_canPayAfter_27 rfl rfl rfl ?_
  refine aw_cial (q := 29) (v := (G i 6)) 6 (ar_tubes ad C hi) (by omega) (by omega) (setG_ne (by omega)) dX4_canPayAfter_28 rfl ?_
  refine aw_aload_n (q := 30) 1 dX4_canPayAfter_29 rfl rfl rfl ?_
  refine aw_iload_n (q := 31) 3 dX4_canPayAfter_30 rfl rfl rfl ?_
  refine aw_cial (q := 32) (v := (G pg 1)) 1 har (by omega) (by omega) (setG_ne (by omega)) dX4_canPayAfter_31 rfl ?_
  refine ae_iadd (q := 33) ((G i 6) + (G pg 1)) (by omega) dX4_canPayAfter_32 rfl ?_
  obtain ⟨m2, hm2⟩ : ∃ z, min 30 ((G i 6) + (G pg 1)) = z := ⟨_, rfl⟩
  refine ae_min (q := 36) m2 hm2 wm_RX4_44 wMmin_s wMath_i wMmin_c (Nat.le_of_ble_eq_true rfl) (Nat.le_of_ble_eq_true rfl) (Nat.le_of_ble_eq_true rfl) (Nat.le_of_ble_eq_true rfl) (by omega) (by omega) dX4_canPayAfter_33 rfl ?_
  refine aw_cias (q := 37) 313 (ar_held ad C hi) (by omega) (by omega) dX4_canPayAfter_36 rfl ?_
  refine ae_iinc (q := 40) (lv2 := [(0, .ref (ad (17 * i + 3))), (1, .ref (ad ci)), (2, .int (iI a)), (3, .int (iI 2))]) 3 [1, 2, 3, 0] 2 (by omega) dX4_canPayAfter_37 rfl rfl (by decide) rfl ?_
  refine aw_goto (q := 2) dX4_canPayAfter_40 (by decide) ?_
  refine aw_iload_n (q := 3) 3 dX4_canPayAfter_2 rfl rfl rfl ?_
  refine aw_iconst (q := 4) dX4_canPayAfter_3 rfl ?_
  refine aw_icmp_ge (q := 7) dX4_canPayAfter_4 rfl (t := 43) (by decide) (by omega) (by omega) (fun h => absurd h (by omega)) (fun _ => ?_)
  refine aw_iload_n (q := 8) 3 dX4_canPayAfter_7 rfl rfl rfl ?_
  refine aw_aload_n (q := 9) 1 dX4_canPayAfter_8 rfl rfl rfl ?_
  refine aw_calen (q := 10) har dX4_canPayAfter_9 rfl ?_
  refine aw_icmp_ge (q := 13) dX4_canPayAfter_10 rfl (t := 43) (by decide) (by omega) (by omega) (fun h => absurd h (by omega)) (fun _ => ?_)
  refine aw_aload_n (q := 14) 0 dX4_canPayAfter_13 rfl rfl rfl ?_
  refine g_till_payment (q := 17) hi wf_RX4_21 dX4_canPayAfter_14 rfl ?_
  refine g_pay_held (q := 20) hi wf_RX4_56 dX4_canPayAfter_17 rfl ?_
  refine aw_iload_n (q := 21) 3 dX4_canPayAfter_20 rfl rfl rfl ?_
  refine aw_bipush (q := 23) dX4_canPayAfter_21 rfl (by decide) ?_
  refine aw_aload_n (q := 24) 0 dX4_canPayAfter_23 rfl rfl rfl ?_
  refine g_till_tubes (q := 27) hi wf_RX4_9 dX4_canPayAfter_24 rfl ?_
  refine aw_iload_n (q := 28) 3 dX4_canPayAfter_27 rfl rfl rfl ?_
  refine aw_cial (q := 29) (v := (G i 7)) 7 (ar_tubes ad C hi) (by omega) (by omega) ((setG_ne (by omega)).trans (setG_ne (by omega))) dX4_canPayAfter_28 rfl ?_
  refine aw_aload_n (q := 30) 1 dX4_canPayAfter_29 rfl rfl rfl ?_
  refine aw_iload_n (q := 31) 3 dX4_canPayAfter_30 rfl rfl rfl ?_
  refine aw_cial (q := 32) (v := (G pg 2)) 2 har (by omega) (by omega) ((setG_ne (by omega)).trans (setG_ne (by omega))) dX4_canPayAfter_31 rfl ?_
  refine ae_iadd (q := 33) ((G i 7) + (G pg 2)) (by omega) dX4_canPayAfter_32 rfl ?_
  obtain ⟨m3, hm3⟩ : ∃ z, min 30 ((G i 7) + (G pg 2)) = z := ⟨_, rfl⟩
  refine ae_min (q := 36) m3 hm3 wm_RX4_44 wMmin_s wMath_i wMmin_c (Nat.le_of_ble_eq_true rfl) (Nat.le_of_ble_eq_true rfl) (Nat.le_of_ble_eq_true rfl) (Nat.le_of_ble_eq_true rfl) (by omega) (by omega) dX4_canPayAfter_33 rfl ?_
  refine aw_cias (q := 37) 314 (ar_held ad C hi) (by omega) (by omega) dX4_canPayAfter_36 rfl ?_
  refine ae_iinc (q := 40) (lv2 := [(0, .ref (ad (17 * i + 3))), (1, .ref (ad ci)), (2, .int (iI a)), (3, .int (iI 3))]) 3 [1, 2, 3, 0] 3 (by omega) dX4_canPayAfter_37 rfl rfl (by decide) rfl ?_
  refine aw_goto (q := 2) dX4_canPayAfter_40 (by decide) ?_
  refine aw_iload_n (q := 3) 3 dX4_canPayAfter_2 rfl rfl rfl ?_
  refine aw_iconst (q := 4) dX4_canPayAfter_3 rfl ?_
  refine aw_icmp_ge (q := 7) dX4_canPayAfter_4 rfl (t := 43) (by decide) (by omega) (by omega) (fun h => absurd h (by omega)) (fun _ => ?_)
  refine aw_iload_n (q := 8) 3 dX4_canPayAfter_7 rfl rfl rfl ?_
  refine aw_aload_n (q := 9) 1 dX4_canPayAfter_8 rfl rfl rfl ?_
  refine aw_calen (q := 10) har dX4_canPayAfter_9 rfl ?_
  refine aw_icmp_ge (q := 13) dX4_canPayAfter_10 rfl (t := 43) (by decide) (by omega) (by omega) (fun h => absurd h (by omega)) (fun _ => ?_)
  refine aw_aload_n (q := 14) 0 dX4_canPayAfter_13 rfl rfl rfl ?_
  refine g_till_payment (q := 17) hi wf_RX4_21 dX4_canPayAfter_14 rfl ?_
  refine g_pay_held (q := 20) hi wf_RX4_56 dX4_canPayAfter_17 rfl ?_
  refine aw_iload_n (q := 21) 3 dX4_canPayAfter_20 rfl rfl rfl ?_
  refine aw_bipush (q := 23) dX4_canPayAfter_21 rfl (by decide) ?_
  refine aw_aload_n (q := 24) 0 dX4_canPayAfter_23 rfl rfl rfl ?_
  refine g_till_tubes (q := 27) hi wf_RX4_9 dX4_canPayAfter_24 rfl ?_
  refine aw_iload_n (q := 28) 3 dX4_canPayAfter_27 rfl rfl rfl ?_
  refine aw_cial (q := 29) (v := (G i 8)) 8 (ar_tubes ad C hi) (by omega) (by omega) ((setG_ne (by omega)).trans ((setG_ne (by omega)).trans (setG_ne (by omega)))) dX4_canPayAfter_28 rfl ?_
  refine aw_aload_n (q := 30) 1 dX4_canPayAfter_29 rfl rfl rfl ?_
  refine aw_iload_n (q := 31) 3 dX4_canPayAfter_30 rfl rfl rfl ?_
  refine aw_cial (q := 32) (v := (G pg 3)) 3 har (by omega) (by omega) ((setG_ne (by omega)).trans ((setG_ne (by omega)).trans (setG_ne (by omega)))) dX4_canPayAfter_31 rfl ?_
  refine ae_iadd (q := 33) ((G i 8) + (G pg 3)) (by omega) dX4_canPayAfter_32 rfl ?_
  obtain ⟨m4, hm4⟩ : ∃ z, min 30 ((G i 8) + (G pg 3)) = z := ⟨_, rfl⟩
  refine ae_min (q := 36) m4 hm4 wm_RX4_44 wMmin_s wMath_i wMmin_c (Nat.le_of_ble_eq_true rfl) (Nat.le_of_ble_eq_true rfl) (Nat.le_of_ble_eq_true rfl) (Nat.le_of_ble_eq_true rfl) (by omega) (by omega) dX4_canPayAfter_33 rfl ?_
  refine aw_cias (q := 37) 315 (ar_held ad C hi) (by omega) (by omega) dX4_canPayAfter_36 rfl ?_
  refine ae_iinc (q := 40) (lv2 := [(0, .ref (ad (17 * i + 3))), (1, .ref (ad ci)), (2, .int (iI a)), (3, .int (iI 4))]) 3 [1, 2, 3, 0] 4 (by omega) dX4_canPayAfter_37 rfl rfl (by decide) rfl ?_
  refine aw_goto (q := 2) dX4_canPayAfter_40 (by decide) ?_
  refine aw_iload_n (q := 3) 3 dX4_canPayAfter_2 rfl rfl rfl ?_
  refine aw_iconst (q := 4) dX4_canPayAfter_3 rfl ?_
  refine aw_icmp_ge (q := 7) dX4_canPayAfter_4 rfl (t := 43) (by decide) (by omega) (by omega) (fun _ => ?_) (fun h => absurd h (by omega))
  refine aw_aload_n (q := 44) 0 dX4_canPayAfter_43 rfl rfl rfl ?_
  refine g_till_payment (q := 47) hi wf_RX4_21 dX4_canPayAfter_44 rfl ?_
  refine aw_iload_n (q := 48) 2 dX4_canPayAfter_47 rfl rfl rfl ?_
  obtain ⟨G0, hG0⟩ : ∃ z, z = setG (setG (setG (setG G i 312 m1) i 313 m2) i 314 m3) i 315 m4 := ⟨_, rfl⟩
  rw [← hG0]
  have e0 : G0 i 312 = min 30 (G i 5 + G pg 0) := by rw [hG0]; exact (((setG_ne (by omega)).trans ((setG_ne (by omega)).trans ((setG_ne (by omega)).trans (setG_same _ _ _ _))))).trans hm1.symm
  have e1 : G0 i 313 = min 30 (G i 6 + G pg 1) := by rw [hG0]; exact (((setG_ne (by omega)).trans ((setG_ne (by omega)).trans (setG_same _ _ _ _)))).trans hm2.symm
  have e2 : G0 i 314 = min 30 (G i 7 + G pg 2) := by rw [hG0]; exact (((setG_ne (by omega)).trans (setG_same _ _ _ _))).trans hm3.symm
  have e3 : G0 i 315 = min 30 (G i 8 + G pg 3) := by rw [hG0]; exact ((setG_same _ _ _ _)).trans hm4.symm
  have hs : sameB (scr i) G G0 := fun x y z => by rw [hG0]; exact (fun x y z => ((setG_ne (by omega)).trans ((setG_ne (by omega)).trans ((setG_ne (by omega)).trans (setG_ne (by omega)))))) x y z
  have hh : ∀ k : Int, 0 ≤ k → k < 4 → 0 ≤ G0 i (312 + k) ∧ G0 i (312 + k) ≤ 31 := fun k z0 z1 => by
    rcases (by omega : k = 0 ∨ k = 1 ∨ k = 2 ∨ k = 3) with rfl | rfl | rfl | rfl
    · show 0 ≤ G0 i 312 ∧ G0 i 312 ≤ 31; rw [e0]; omega
    · show 0 ≤ G0 i 313 ∧ G0 i 313 ≤ 31; rw [e1]; omega
    · show 0 ≤ G0 i 314 ∧ G0 i 314 ≤ 31; rw [e2]; omega
    · show 0 ≤ G0 i 315 ∧ G0 i 315 ≤ 31; rw [e3]; omega
  refine cv_I (q := 51) (CC := "") (id := 17 * i + 6) (As := [.int (iI a)]) 1 (c_pay_find (T := T) (D := D) (ad := ad) G0 hi hh (by omega)) (fun _ h => h) (by omega) (cell_pay ad C _ hi) rfl wc_X3_find wm_RX4_59 wi_X3_find ws_X3_find wn_X3 (by decide) rfl ⟨Nat.le_of_ble_eq_true rfl, Nat.le_of_ble_eq_true rfl⟩ ⟨Nat.le_of_ble_eq_true rfl, Nat.le_of_ble_eq_true rfl⟩ (Nat.le_of_ble_eq_true rfl) dX4_canPayAfter_48 rfl (fun r1 G9 h9 => ?_)
  obtain ⟨hr1, hG1⟩ := h9
  have hbr : r1 = 0 ∨ r1 = 1 := by rw [hr1]; exact b2i_r _
  exact rt_z rfl (by first | omega | exact b2i_r _) (Nat.le_refl _) (Nat.le_refl _) (by rw [← e0, ← e1, ← e2, ← e3]; exact fndP_of hs (by omega) (hh 3 (by omega) (by omega)).1 hr1 hG1) dX4_canPayAfter_51
abbrev inS (i : Int) : Int → Int → Prop := fun x y => x = i ∧ ((5 ≤ y ∧ y < 9) ∨ y = 9)
def inP (G : GG) (i pg : Int) (G1 : GG) : Prop := G1 i 5 = G i 5 + min (G pg 0) (30 - G i 5) ∧ G1 i 6 = G i 6 + min (G pg 1) (30 - G i 6) ∧ G1 i 7 = G i 7 + min (G pg 2) (30 - G i 7) ∧ G1 i 8 = G i 8 + min (G pg 3) (30 - G i 8) ∧ G1 i 9 = G i 9 + 5 * (G pg 0 - min (G pg 0) (30 - G i 5)) + 10 * (G pg 1 - min (G pg 1) (30 - G i 6)) + 20 * (G pg 2 - min (G pg 2) (30 - G i 7)) + 50 * (G pg 3 - min (G pg 3) (30 - G i 8)) ∧ sameB (inS i) G G1
set_option maxHeartbeats 4000000 in
set_option maxRecDepth 100000 in
theorem c_till_takeIn {l : Launch} {D : va_G} {C : Nat → ClassId} {T : Nat → Nat} {ad : Int → Nat} (G : GG) {i : Int} (hi : 0 ≤ i ∧ i < 6) (ht : ∀ k : Int, 0 ≤ k → k < 4 → 0 ≤ G i (5 + k) ∧ G i (5 + k) ≤ 30) {ci pg : Int} (har : isArr ad C ci pg 0 4) (hpg : 6 ≤ pg) (hco : ∀ k : Int, 0 ≤ k → k < 4 → 0 ≤ G pg k ∧ G pg k ≤ 9) : MC l yX4_takeIn cX4_takeIn 4 none 1 36 0 0 D (tyC C) T [.ref (ad (17 * i + 3)), .ref (ad ci)] (cw ad C G) (RV ad C (inP G i pg)) := by
  refine mc_of (by decide +kernel) (Nat.le_of_ble_eq_true rfl) rfl ?_
  have q0 : 0 ≤ G i 5 ∧ G i 5 ≤ 30 := ht 0 (by omega) (by omega)
  have q1 : 0 ≤ G i 6 ∧ G i 6 ≤ 30 := ht 1 (by omega) (by omega)
  have q2 : 0 ≤ G i 7 ∧ G i 7 ≤ 30 := ht 2 (by omega) (by omega)
  have q3 : 0 ≤ G i 8 ∧ G i 8 ≤ 30 := ht 3 (by omega) (by omega)
  have p0 : 0 ≤ G pg 0 ∧ G pg 0 ≤ 9 := hco 0 (by omega) (by omega)
  have p1 : 0 ≤ G pg 1 ∧ G pg 1 ≤ 9 := hco 1 (by omega) (by omega)
  have p2 : 0 ≤ G pg 2 ∧ G pg 2 ≤ 9 := hco 2 (by omega) (by omega)
  have p3 : 0 ≤ G pg 3 ∧ G pg 3 ≤ 9 := hco 3 (by omega) (by omega)
  refine aw_iconst (q := 1) dX4_takeIn_0 rfl ?_
  refine aw_istore_n (q := 2) (lv2 := [(0, .ref (ad (17 * i + 3))), (1, .ref (ad ci)), (2, .int (iI 0))]) [1, 2, 0] dX4_takeIn_1 rfl rfl (by decide) rfl rfl ?_
  refine aw_iload_n (q := 3) 2 dX4_takeIn_2 rfl rfl rfl ?_
  refine aw_iconst (q := 4) dX4_takeIn_3 rfl ?_
  refine aw_icmp_ge (q := 7) dX4_takeIn_4 rfl (t := 65) (by decide) (by omega) (by omega) (fun h => absurd h (by omega)) (fun _ => ?_)
  refine aw_iload_n (q := 8) 2 dX4_takeIn_7 rfl rfl rfl ?_
  refine aw_aload_n (q := 9) 1 dX4_takeIn_8 rfl rfl rfl ?_
  refine aw_calen (q := 10) har dX4_takeIn_9 rfl ?_
  refine aw_icmp_ge (q := 13) dX4_takeIn_10 rfl (t := 65) (by decide) (by omega) (by omega) (fun h => absurd h (by omega)) (fun _ => ?_)
  refine aw_aload_n (q := 14) 1 dX4_takeIn_13 rfl rfl rfl ?_
  refine aw_iload_n (q := 15) 2 dX4_takeIn_14 rfl rfl rfl ?_
  refine aw_cial (q := 16) (v := (G pg 0)) 0 har (by omega) (by omega) rfl dX4_takeIn_15 rfl ?_
  refine aw_bipush (q := 18) dX4_takeIn_16 rfl (by decide) ?_
  refine aw_aload_n (q := 19) 0 dX4_takeIn_18 rfl rfl rfl ?_
  refine g_till_tubes (q := 22) hi wf_RX4_9 dX4_takeIn_19 rfl ?_
  refine aw_iload_n (q := 23) 2 dX4_takeIn_22 rfl rfl rfl ?_
  refine aw_cial (q := 24) (v := (G i 5)) 5 (ar_tubes ad C hi) (by omega) (by omega) rfl dX4_takeIn_23 rfl ?_
  refine ae_isub (q := 25) (30 - (G i 5)) (by omega) dX4_takeIn_24 rfl ?_
  obtain ⟨m1, hm1⟩ : ∃ z, min (G pg 0) (30 - (G i 5)) = z := ⟨_, rfl⟩
  refine ae_min (q := 28) m1 hm1 wm_RX4_44 wMmin_s wMath_i wMmin_c (Nat.le_of_ble_eq_true rfl) (Nat.le_of_ble_eq_true rfl) (Nat.le_of_ble_eq_true rfl) (Nat.le_of_ble_eq_true rfl) (by omega) (by omega) dX4_takeIn_25 rfl ?_
  refine aw_istore_n (q := 29) (lv2 := [(0, .ref (ad (17 * i + 3))), (1, .ref (ad ci)), (2, .int (iI 0)), (3, .int (iI m1))]) [1, 2, 3, 0] dX4_takeIn_28 rfl rfl (by decide) rfl rfl ?_
  refine aw_aload_n (q := 30) 0 dX4_takeIn_29 rfl rfl rfl ?_
  refine g_till_tubes (q := 33) hi wf_RX4_9 dX4_takeIn_30 rfl ?_
  refine aw_iload_n (q := 34) 2 dX4_takeIn_33 rfl rfl rfl ?_
  refine aw_dup2 (q := 35) dX4_takeIn_34 rfl rfl rfl ?_
  refine aw_cial (q := 36) (v := (G i 5)) 5 (ar_tubes ad C hi) (by omega) (by omega) rfl dX4_takeIn_35 rfl ?_
  refine aw_iload_n (q := 37) 3 dX4_takeIn_36 rfl rfl rfl ?_
  refine ae_iadd (q := 38) ((G i 5) + m1) (by omega) dX4_takeIn_37 rfl ?_
  refine aw_cias (q := 39) 5 (ar_tubes ad C hi) (by omega) (by omega) dX4_takeIn_38 rfl ?_
  refine aw_aload_n (q := 40) 0 dX4_takeIn_39 rfl rfl rfl ?_
  refine aw_dup (q := 41) dX4_takeIn_40 rfl rfl ?_
  refine g_till_box (q := 44) hi (v := (G i 9)) (setG_ne (by omega)) wf_RX4_25 dX4_takeIn_41 rfl ?_
  refine aw_aload_n (q := 45) 1 dX4_takeIn_44 rfl rfl rfl ?_
  refine aw_iload_n (q := 46) 2 dX4_takeIn_45 rfl rfl rfl ?_
  refine aw_cial (q := 47) (v := (G pg 0)) 0 har (by omega) (by omega) (setG_ne (by omega)) dX4_takeIn_46 rfl ?_
  refine aw_iload_n (q := 48) 3 dX4_takeIn_47 rfl rfl rfl ?_
  refine ae_isub (q := 49) ((G pg 0) - m1) (by omega) dX4_takeIn_48 rfl ?_
  refine aw_getsN (q := 52) 0 (by decide) (fun _ h => h) (by decide) dX4_takeIn_49 rfl ?_
  refine aw_iload_n (q := 53) 2 dX4_takeIn_52 rfl rfl rfl ?_
  refine ae_ti (q := 54) 0 5 (by decide) (by decide) (fun _ h => h) (by decide) dX4_takeIn_53 rfl ?_
  refine ae_imul (q := 55) (5 * (G pg 0) - 5 * m1) (by omega) dX4_takeIn_54 rfl ?_
  refine ae_iadd (q := 56) ((G i 9) + 5 * (G pg 0) - 5 * m1) (by omega) dX4_takeIn_55 rfl ?_
  refine p_till_box (q := 59) hi wf_RX4_25 dX4_takeIn_56 rfl ?_
  refine ae_iinc (q := 62) (lv2 := [(0, .ref (ad (17 * i + 3))), (1, .ref (ad ci)), (2, .int (iI 1)), (3, .int (iI m1))]) 2 [1, 2, 0, 3] 1 (by omega) dX4_takeIn_59 rfl rfl (by decide) rfl ?_
  refine aw_goto (q := 2) dX4_takeIn_62 (by decide) ?_
  refine aw_iload_n (q := 3) 2 dX4_takeIn_2 rfl rfl rfl ?_
  refine aw_iconst (q := 4) dX4_takeIn_3 rfl ?_
  refine aw_icmp_ge (q := 7) dX4_takeIn_4 rfl (t := 65) (by decide) (by omega) (by omega) (fun h => absurd h (by omega)) (fun _ => ?_)
  refine aw_iload_n (q := 8) 2 dX4_takeIn_7 rfl rfl rfl ?_
  refine aw_aload_n (q := 9) 1 dX4_takeIn_8 rfl rfl rfl ?_
  refine aw_calen (q := 10) har dX4_takeIn_9 rfl ?_
  refine aw_icmp_ge (q := 13) dX4_takeIn_10 rfl (t := 65) (by decide) (by omega) (by omega) (fun h => absurd h (by omega)) (fun _ => ?_)
  refine aw_aload_n (q := 14) 1 dX4_takeIn_13 rfl rfl rfl ?_
  refine aw_iload_n (q := 15) 2 dX4_takeIn_14 rfl rfl rfl ?_
  refine aw_cial (q := 16) (v := (G pg 1)) 1 har (by omega) (by omega) ((setG_ne (by omega)).trans (setG_ne (by omega))) dX4_takeIn_15 rfl ?_
  refine aw_bipush (q := 18) dX4_takeIn_16 rfl (by decide) ?_
  refine aw_aload_n (q := 19) 0 dX4_takeIn_18 rfl rfl rfl ?_
  refine g_till_tubes (q := 22) hi wf_RX4_9 dX4_takeIn_19 rfl ?_
  refine aw_iload_n (q := 23) 2 dX4_takeIn_22 rfl rfl rfl ?_
  refine aw_cial (q := 24) (v := (G i 6)) 6 (ar_tubes ad C hi) (by omega) (by omega) ((setG_ne (by omega)).trans (setG_ne (by omega))) dX4_takeIn_23 rfl ?_
  refine ae_isub (q := 25) (30 - (G i 6)) (by omega) dX4_takeIn_24 rfl ?_
  obtain ⟨m2, hm2⟩ : ∃ z, min (G pg 1) (30 - (G i 6)) = z := ⟨_, rfl⟩
  refine ae_min (q := 28) m2 hm2 wm_RX4_44 wMmin_s wMath_i wMmin_c (Nat.le_of_ble_eq_true rfl) (Nat.le_of_ble_eq_true rfl) (Nat.le_of_ble_eq_true rfl) (Nat.le_of_ble_eq_true rfl) (by omega) (by omega) dX4_takeIn_25 rfl ?_
  refine aw_istore_n (q := 29) (lv2 := [(0, .ref (ad (17 * i + 3))), (1, .ref (ad ci)), (2, .int (iI 1)), (3, .int (iI m2))]) [1, 2, 3, 0] dX4_takeIn_28 rfl rfl (by decide) rfl rfl ?_
  refine aw_aload_n (q := 30) 0 dX4_takeIn_29 rfl rfl rfl ?_
  refine g_till_tubes (q := 33) hi wf_RX4_9 dX4_takeIn_30 rfl ?_
  refine aw_iload_n (q := 34) 2 dX4_takeIn_33 rfl rfl rfl ?_
  refine aw_dup2 (q := 35) dX4_takeIn_34 rfl rfl rfl ?_
  refine aw_cial (q := 36) (v := (G i 6)) 6 (ar_tubes ad C hi) (by omega) (by omega) ((setG_ne (by omega)).trans (setG_ne (by omega))) dX4_takeIn_35 rfl ?_
  refine aw_iload_n (q := 37) 3 dX4_takeIn_36 rfl rfl rfl ?_
  refine ae_iadd (q := 38) ((G i 6) + m2) (by omega) dX4_takeIn_37 rfl ?_
  refine aw_cias (q := 39) 6 (ar_tubes ad C hi) (by omega) (by omega) dX4_takeIn_38 rfl ?_
  refine aw_aload_n (q := 40) 0 dX4_takeIn_39 rfl rfl rfl ?_
  refine aw_dup (q := 41) dX4_takeIn_40 rfl rfl ?_
  refine g_till_box (q := 44) hi (v := (G i 9) + 5 * (G pg 0) - 5 * m1) ((setG_ne (by omega)).trans (setG_same _ _ _ _)) wf_RX4_25 dX4_takeIn_41 rfl ?_
  refine aw_aload_n (q := 45) 1 dX4_takeIn_44 rfl rfl rfl ?_
  refine aw_iload_n (q := 46) 2 dX4_takeIn_45 rfl rfl rfl ?_
  refine aw_cial (q := 47) (v := (G pg 1)) 1 har (by omega) (by omega) ((setG_ne (by omega)).trans ((setG_ne (by omega)).trans (setG_ne (by omega)))) dX4_takeIn_46 rfl ?_
  refine aw_iload_n (q := 48) 3 dX4_takeIn_47 rfl rfl rfl ?_
  refine ae_isub (q := 49) ((G pg 1) - m2) (by omega) dX4_takeIn_48 rfl ?_
  refine aw_getsN (q := 52) 0 (by decide) (fun _ h => h) (by decide) dX4_takeIn_49 rfl ?_
  refine aw_iload_n (q := 53) 2 dX4_takeIn_52 rfl rfl rfl ?_
  refine ae_ti (q := 54) 0 10 (by decide) (by decide) (fun _ h => h) (by decide) dX4_takeIn_53 rfl ?_
  refine ae_imul (q := 55) (10 * (G pg 1) - 10 * m2) (by omega) dX4_takeIn_54 rfl ?_
  refine ae_iadd (q := 56) ((G i 9) + 5 * (G pg 0) + 10 * (G pg 1) - 5 * m1 - 10 * m2) (by omega) dX4_takeIn_55 rfl ?_
  refine p_till_box (q := 59) hi wf_RX4_25 dX4_takeIn_56 rfl ?_
  refine ae_iinc (q := 62) (lv2 := [(0, .ref (ad (17 * i + 3))), (1, .ref (ad ci)), (2, .int (iI 2)), (3, .int (iI m2))]) 2 [1, 2, 0, 3] 2 (by omega) dX4_takeIn_59 rfl rfl (by decide) rfl ?_
  refine aw_goto (q := 2) dX4_takeIn_62 (by decide) ?_
  refine aw_iload_n (q := 3) 2 dX4_takeIn_2 rfl rfl rfl ?_
  refine aw_iconst (q := 4) dX4_takeIn_3 rfl ?_
  refine aw_icmp_ge (q := 7) dX4_takeIn_4 rfl (t := 65) (by decide) (by omega) (by omega) (fun h => absurd h (by omega)) (fun _ => ?_)
  refine aw_iload_n (q := 8) 2 dX4_takeIn_7 rfl rfl rfl ?_
  refine aw_aload_n (q := 9) 1 dX4_takeIn_8 rfl rfl rfl ?_
  refine aw_calen (q := 10) har dX4_takeIn_9 rfl ?_
  refine aw_icmp_ge (q := 13) dX4_takeIn_10 rfl (t := 65) (by decide) (by omega) (by omega) (fun h => absurd h (by omega)) (fun _ => ?_)
  refine aw_aload_n (q := 14) 1 dX4_takeIn_13 rfl rfl rfl ?_
  refine aw_iload_n (q := 15) 2 dX4_takeIn_14 rfl rfl rfl ?_
  refine aw_cial (q := 16) (v := (G pg 2)) 2 har (by omega) (by omega) ((setG_ne (by omega)).trans ((setG_ne (by omega)).trans ((setG_ne (by omega)).trans (setG_ne (by omega))))) dX4_takeIn_15 rfl ?_
  refine aw_bipush (q := 18) dX4_takeIn_16 rfl (by decide) ?_
  refine aw_aload_n (q := 19) 0 dX4_takeIn_18 rfl rfl rfl ?_
  refine g_till_tubes (q := 22) hi wf_RX4_9 dX4_takeIn_19 rfl ?_
  refine aw_iload_n (q := 23) 2 dX4_takeIn_22 rfl rfl rfl ?_
  refine aw_cial (q := 24) (v := (G i 7)) 7 (ar_tubes ad C hi) (by omega) (by omega) ((setG_ne (by omega)).trans ((setG_ne (by omega)).trans ((setG_ne (by omega)).trans (setG_ne (by omega))))) dX4_takeIn_23 rfl ?_
  refine ae_isub (q := 25) (30 - (G i 7)) (by omega) dX4_takeIn_24 rfl ?_
  obtain ⟨m3, hm3⟩ : ∃ z, min (G pg 2) (30 - (G i 7)) = z := ⟨_, rfl⟩
  refine ae_min (q := 28) m3 hm3 wm_RX4_44 wMmin_s wMath_i wMmin_c (Nat.le_of_ble_eq_true rfl) (Nat.le_of_ble_eq_true rfl) (Nat.le_of_ble_eq_true rfl) (Nat.le_of_ble_eq_true rfl) (by omega) (by omega) dX4_takeIn_25 rfl ?_
  refine aw_istore_n (q := 29) (lv2 := [(0, .ref (ad (17 * i + 3))), (1, .ref (ad ci)), (2, .int (iI 2)), (3, .int (iI m3))]) [1, 2, 3, 0] dX4_takeIn_28 rfl rfl (by decide) rfl rfl ?_
  refine aw_aload_n (q := 30) 0 dX4_takeIn_29 rfl rfl rfl ?_
  refine g_till_tubes (q := 33) hi wf_RX4_9 dX4_takeIn_30 rfl ?_
  refine aw_iload_n (q := 34) 2 dX4_takeIn_33 rfl rfl rfl ?_
  refine aw_dup2 (q := 35) dX4_takeIn_34 rfl rfl rfl ?_
  refine aw_cial (q := 36) (v := (G i 7)) 7 (ar_tubes ad C hi) (by omega) (by omega) ((setG_ne (by omega)).trans ((setG_ne (by omega)).trans ((setG_ne (by omega)).trans (setG_ne (by omega))))) dX4_takeIn_35 rfl ?_
  refine aw_iload_n (q := 37) 3 dX4_takeIn_36 rfl rfl rfl ?_
  refine ae_iadd (q := 38) ((G i 7) + m3) (by omega) dX4_takeIn_37 rfl ?_
  refine aw_cias (q := 39) 7 (ar_tubes ad C hi) (by omega) (by omega) dX4_takeIn_38 rfl ?_
  refine aw_aload_n (q := 40) 0 dX4_takeIn_39 rfl rfl rfl ?_
  refine aw_dup (q := 41) dX4_takeIn_40 rfl rfl ?_
  refine g_till_box (q := 44) hi (v := (G i 9) + 5 * (G pg 0) + 10 * (G pg 1) - 5 * m1 - 10 * m2) ((setG_ne (by omega)).trans (setG_same _ _ _ _)) wf_RX4_25 dX4_takeIn_41 rfl ?_
  refine aw_aload_n (q := 45) 1 dX4_takeIn_44 rfl rfl rfl ?_
  refine aw_iload_n (q := 46) 2 dX4_takeIn_45 rfl rfl rfl ?_
  refine aw_cial (q := 47) (v := (G pg 2)) 2 har (by omega) (by omega) ((setG_ne (by omega)).trans ((setG_ne (by omega)).trans ((setG_ne (by omega)).trans ((setG_ne (by omega)).trans (setG_ne (by omega)))))) dX4_takeIn_46 rfl ?_
  refine aw_iload_n (q := 48) 3 dX4_takeIn_47 rfl rfl rfl ?_
  refine ae_isub (q := 49) ((G pg 2) - m3) (by omega) dX4_takeIn_48 rfl ?_
  refine aw_getsN (q := 52) 0 (by decide) (fun _ h => h) (by decide) dX4_takeIn_49 rfl ?_
  refine aw_iload_n (q := 53) 2 dX4_takeIn_52 rfl rfl rfl ?_
  refine ae_ti (q := 54) 0 20 (by decide) (by decide) (fun _ h => h) (by decide) dX4_takeIn_53 rfl ?_
  refine ae_imul (q := 55) (20 * (G pg 2) - 20 * m3) (by omega) dX4_takeIn_54 rfl ?_
  refine ae_iadd (q := 56) ((G i 9) + 5 * (G pg 0) + 10 * (G pg 1) + 20 * (G pg 2) - 5 * m1 - 10 * m2 - 20 * m3) (by omega) dX4_takeIn_55 rfl ?_
  refine p_till_box (q := 59) hi wf_RX4_25 dX4_takeIn_56 rfl ?_
  refine ae_iinc (q := 62) (lv2 := [(0, .ref (ad (17 * i + 3))), (1, .ref (ad ci)), (2, .int (iI 3)), (3, .int (iI m3))]) 2 [1, 2, 0, 3] 3 (by omega) dX4_takeIn_59 rfl rfl (by decide) rfl ?_
  refine aw_goto (q := 2) dX4_takeIn_62 (by decide) ?_
  refine aw_iload_n (q := 3) 2 dX4_takeIn_2 rfl rfl rfl ?_
  refine aw_iconst (q := 4) dX4_takeIn_3 rfl ?_
  refine aw_icmp_ge (q := 7) dX4_takeIn_4 rfl (t := 65) (by decide) (by omega) (by omega) (fun h => absurd h (by omega)) (fun _ => ?_)
  refine aw_iload_n (q := 8) 2 dX4_takeIn_7 rfl rfl rfl ?_
  refine aw_aload_n (q := 9) 1 dX4_takeIn_8 rfl rfl rfl ?_
  refine aw_calen (q := 10) har dX4_takeIn_9 rfl ?_
  refine aw_icmp_ge (q := 13) dX4_takeIn_10 rfl (t := 65) (by decide) (by omega) (by omega) (fun h => absurd h (by omega)) (fun _ => ?_)
  refine aw_aload_n (q := 14) 1 dX4_takeIn_13 rfl rfl rfl ?_
  refine aw_iload_n (q := 15) 2 dX4_takeIn_14 rfl rfl rfl ?_
  refine aw_cial (q := 16) (v := (G pg 3)) 3 har (by omega) (by omega) ((setG_ne (by omega)).trans ((setG_ne (by omega)).trans ((setG_ne (by omega)).trans ((setG_ne (by omega)).trans ((setG_ne (by omega)).trans (setG_ne (by omega))))))) dX4_takeIn_15 rfl ?_
  refine aw_bipush (q := 18) dX4_takeIn_16 rfl (by decide) ?_
  refine aw_aload_n (q := 19) 0 dX4_takeIn_18 rfl rfl rfl ?_
  refine g_till_tubes (q := 22) hi wf_RX4_9 dX4_takeIn_19 rfl ?_
  refine aw_iload_n (q := 23) 2 dX4_takeIn_22 rfl rfl rfl ?_
  refine aw_cial (q := 24) (v := (G i 8)) 8 (ar_tubes ad C hi) (by omega) (by omega) ((setG_ne (by omega)).trans ((setG_ne (by omega)).trans ((setG_ne (by omega)).trans ((setG_ne (by omega)).trans ((setG_ne (by omega)).trans (setG_ne (by omega))))))) dX4_takeIn_23 rfl ?_
  refine ae_isub (q := 25) (30 - (G i 8)) (by omega) dX4_takeIn_24 rfl ?_
  obtain ⟨m4, hm4⟩ : ∃ z, min (G pg 3) (30 - (G i 8)) = z := ⟨_, rfl⟩
  refine ae_min (q := 28) m4 hm4 wm_RX4_44 wMmin_s wMath_i wMmin_c (Nat.le_of_ble_eq_true rfl) (Nat.le_of_ble_eq_true rfl) (Nat.le_of_ble_eq_true rfl) (Nat.le_of_ble_eq_true rfl) (by omega) (by omega) dX4_takeIn_25 rfl ?_
  refine aw_istore_n (q := 29) (lv2 := [(0, .ref (ad (17 * i + 3))), (1, .ref (ad ci)), (2, .int (iI 3)), (3, .int (iI m4))]) [1, 2, 3, 0] dX4_takeIn_28 rfl rfl (by decide) rfl rfl ?_
  refine aw_aload_n (q := 30) 0 dX4_takeIn_29 rfl rfl rfl ?_
  refine g_till_tubes (q := 33) hi wf_RX4_9 dX4_takeIn_30 rfl ?_
  refine aw_iload_n (q := 34) 2 dX4_takeIn_33 rfl rfl rfl ?_
  refine aw_dup2 (q := 35) dX4_takeIn_34 rfl rfl rfl ?_
  refine aw_cial (q := 36) (v := (G i 8)) 8 (ar_tubes ad C hi) (by omega) (by omega) ((setG_ne (by omega)).trans ((setG_ne (by omega)).trans ((setG_ne (by omega)).trans ((setG_ne (by omega)).trans ((setG_ne (by omega)).trans (setG_ne (by omega))))))) dX4_takeIn_35 rfl ?_
  refine aw_iload_n (q := 37) 3 dX4_takeIn_36 rfl rfl rfl ?_
  refine ae_iadd (q := 38) ((G i 8) + m4) (by omega) dX4_takeIn_37 rfl ?_
  refine aw_cias (q := 39) 8 (ar_tubes ad C hi) (by omega) (by omega) dX4_takeIn_38 rfl ?_
  refine aw_aload_n (q := 40) 0 dX4_takeIn_39 rfl rfl rfl ?_
  refine aw_dup (q := 41) dX4_takeIn_40 rfl rfl ?_
  refine g_till_box (q := 44) hi (v := (G i 9) + 5 * (G pg 0) + 10 * (G pg 1) + 20 * (G pg 2) - 5 * m1 - 10 * m2 - 20 * m3) ((setG_ne (by omega)).trans (setG_same _ _ _ _)) wf_RX4_25 dX4_takeIn_41 rfl ?_
  refine aw_aload_n (q := 45) 1 dX4_takeIn_44 rfl rfl rfl ?_
  refine aw_iload_n (q := 46) 2 dX4_takeIn_45 rfl rfl rfl ?_
  refine aw_cial (q := 47) (v := (G pg 3)) 3 har (by omega) (by omega) ((setG_ne (by omega)).trans ((setG_ne (by omega)).trans ((setG_ne (by omega)).trans ((setG_ne (by omega)).trans ((setG_ne (by omega)).trans ((setG_ne (by omega)).trans (setG_ne (by omega)))))))) dX4_takeIn_46 rfl ?_
  refine aw_iload_n (q := 48) 3 dX4_takeIn_47 rfl rfl rfl ?_
  refine ae_isub (q := 49) ((G pg 3) - m4) (by omega) dX4_takeIn_48 rfl ?_
  refine aw_getsN (q := 52) 0 (by decide) (fun _ h => h) (by decide) dX4_takeIn_49 rfl ?_
  refine aw_iload_n (q := 53) 2 dX4_takeIn_52 rfl rfl rfl ?_
  refine ae_ti (q := 54) 0 50 (by decide) (by decide) (fun _ h => h) (by decide) dX4_takeIn_53 rfl ?_
  refine ae_imul (q := 55) (50 * (G pg 3) - 50 * m4) (by omega) dX4_takeIn_54 rfl ?_
  refine ae_iadd (q := 56) ((G i 9) + 5 * (G pg 0) + 10 * (G pg 1) + 20 * (G pg 2) + 50 * (G pg 3) - 5 * m1 - 10 * m2 - 20 * m3 - 50 * m4) (by omega) dX4_takeIn_55 rfl ?_
  refine p_till_box (q := 59) hi wf_RX4_25 dX4_takeIn_56 rfl ?_
  refine ae_iinc (q := 62) (lv2 := [(0, .ref (ad (17 * i + 3))), (1, .ref (ad ci)), (2, .int (iI 4)), (3, .int (iI m4))]) 2 [1, 2, 0, 3] 4 (by omega) dX4_takeIn_59 rfl rfl (by decide) rfl ?_
  refine aw_goto (q := 2) dX4_takeIn_62 (by decide) ?_
  refine aw_iload_n (q := 3) 2 dX4_takeIn_2 rfl rfl rfl ?_
  refine aw_iconst (q := 4) dX4_takeIn_3 rfl ?_
  refine aw_icmp_ge (q := 7) dX4_takeIn_4 rfl (t := 65) (by decide) (by omega) (by omega) (fun _ => ?_) (fun h => absurd h (by omega))
  exact rt_v rfl (Nat.le_refl _) (Nat.le_refl _) (⟨((((setG_ne (by omega)).trans ((setG_ne (by omega)).trans ((setG_ne (by omega)).trans ((setG_ne (by omega)).trans ((setG_ne (by omega)).trans ((setG_ne (by omega)).trans ((setG_ne (by omega)).trans (setG_same _ _ _ _)))))))) : _ = (G i 5) + m1).trans (by omega)), ((((setG_ne (by omega)).trans ((setG_ne (by omega)).trans ((setG_ne (by omega)).trans ((setG_ne (by omega)).trans ((setG_ne (by omega)).trans (setG_same _ _ _ _)))))) : _ = (G i 6) + m2).trans (by omega)), ((((setG_ne (by omega)).trans ((setG_ne (by omega)).trans ((setG_ne (by omega)).trans (setG_same _ _ _ _)))) : _ = (G i 7) + m3).trans (by omega)), ((((setG_ne (by omega)).trans (setG_same _ _ _ _)) : _ = (G i 8) + m4).trans (by omega)), (((setG_same _ _ _ _) : _ = (G i 9) + 5 * (G pg 0) + 10 * (G pg 1) + 20 * (G pg 2) + 50 * (G pg 3) - 5 * m1 - 10 * m2 - 20 * m3 - 50 * m4).trans (by omega)), (fun x y z => ((setG_ne (by omega)).trans ((setG_ne (by omega)).trans ((setG_ne (by omega)).trans ((setG_ne (by omega)).trans ((setG_ne (by omega)).trans ((setG_ne (by omega)).trans ((setG_ne (by omega)).trans (setG_ne (by omega))))))))))⟩) dX4_takeIn_65
set_option maxHeartbeats 4000000 in
set_option maxRecDepth 100000 in
theorem c_till_takeBox {l : Launch} {D : va_G} {C : Nat → ClassId} {T : Nat → Nat} {ad : Int → Nat} (G : GG) {i : Int} (hi : 0 ≤ i ∧ i < 6) : MC l yX4_takeBox cX4_takeBox 2 (some .int) 0 0 0 0 D (tyC C) T [.ref (ad (17 * i + 3))] (cw ad C G) (RI ad C (fun r G1 => r = G i 9 ∧ G1 = setG G i 9 0)) := by
  refine mc_of (by decide +kernel) (Nat.le_of_ble_eq_true rfl) rfl ?_
  refine aw_aload_n (q := 1) 0 dX4_takeBox_0 rfl rfl rfl ?_
  refine g_till_box (q := 4) hi (v := (G i 9)) rfl wf_RX4_25 dX4_takeBox_1 rfl ?_
  refine aw_istore_n (q := 5) (lv2 := [(0, .ref (ad (17 * i + 3))), (1, .int (iI (G i 9)))]) [1, 0] dX4_takeBox_4 rfl rfl (by decide) rfl rfl ?_
  refine aw_aload_n (q := 6) 0 dX4_takeBox_5 rfl rfl rfl ?_
  refine aw_iconst (q := 7) dX4_takeBox_6 rfl ?_
  refine p_till_box (q := 10) hi wf_RX4_25 dX4_takeBox_7 rfl ?_
  refine aw_iload_n (q := 11) 1 dX4_takeBox_10 rfl rfl rfl ?_
  exact rt_i rfl (Nat.le_refl _) (Nat.le_refl _) (⟨rfl, rfl⟩) dX4_takeBox_11
abbrev outS (i : Int) : Int → Int → Prop := fun x y => x = i ∧ 5 ≤ y ∧ y < 9
def outP (G : GG) (i : Int) (G1 : GG) : Prop := G1 i 5 = G i 5 - G i 316 ∧ G1 i 6 = G i 6 - G i 317 ∧ G1 i 7 = G i 7 - G i 318 ∧ G1 i 8 = G i 8 - G i 319 ∧ sameB (outS i) G G1
set_option maxHeartbeats 4000000 in
set_option maxRecDepth 100000 in
theorem c_till_payOut {l : Launch} {D : va_G} {C : Nat → ClassId} {T : Nat → Nat} {ad : Int → Nat} (G : GG) {i : Int} (hi : 0 ≤ i ∧ i < 6) : MC l yX4_payOut cX4_payOut 2 none 0 0 0 0 D (tyC C) T [.ref (ad (17 * i + 3))] (cw ad C G) (RV ad C (outP G i)) := by
  refine mc_of (by decide +kernel) (Nat.le_of_ble_eq_true rfl) rfl ?_
  refine aw_iconst (q := 1) dX4_payOut_0 rfl ?_
  refine aw_istore_n (q := 2) (lv2 := [(0, .ref (ad (17 * i + 3))), (1, .int (iI 0))]) [1, 0] dX4_payOut_1 rfl rfl (by decide) rfl rfl ?_
  refine aw_iload_n (q := 3) 1 dX4_payOut_2 rfl rfl rfl ?_
  refine aw_iconst (q := 4) dX4_payOut_3 rfl ?_
  refine aw_icmp_ge (q := 7) dX4_payOut_4 rfl (t := 31) (by decide) (by omega) (by omega) (fun h => absurd h (by omega)) (fun _ => ?_)
  refine aw_aload_n (q := 8) 0 dX4_payOut_7 rfl rfl rfl ?_
  refine g_till_tubes (q := 11) hi wf_RX4_9 dX4_payOut_8 rfl ?_
  refine aw_iload_n (q := 12) 1 dX4_payOut_11 rfl rfl rfl ?_
  refine aw_dup2 (q := 13) dX4_payOut_12 rfl rfl rfl ?_
  refine aw_cial (q := 14) (v := (G i 5)) 5 (ar_tubes ad C hi) (by omega) (by omega) rfl dX4_payOut_13 rfl ?_
  refine aw_aload_n (q := 15) 0 dX4_payOut_14 rfl rfl rfl ?_
  refine g_till_payment (q := 18) hi wf_RX4_21 dX4_payOut_15 rfl ?_
  refine g_pay_taken (q := 21) hi wf_RX4_63 dX4_payOut_18 rfl ?_
  refine aw_iload_n (q := 22) 1 dX4_payOut_21 rfl rfl rfl ?_
  refine aw_cial (q := 23) (v := (G i 316)) 316 (ar_taken ad C hi) (by omega) (by omega) rfl dX4_payOut_22 rfl ?_
  refine ae_isub (q := 24) ((G i 5) - (G i 316)) (by omega) dX4_payOut_23 rfl ?_
  refine aw_cias (q := 25) 5 (ar_tubes ad C hi) (by omega) (by omega) dX4_payOut_24 rfl ?_
  refine ae_iinc (q := 28) (lv2 := [(0, .ref (ad (17 * i + 3))), (1, .int (iI 1))]) 1 [1, 0] 1 (by omega) dX4_payOut_25 rfl rfl (by decide) rfl ?_
  refine aw_goto (q := 2) dX4_payOut_28 (by decide) ?_
  refine aw_iload_n (q := 3) 1 dX4_payOut_2 rfl rfl rfl ?_
  refine aw_iconst (q := 4) dX4_payOut_3 rfl ?_
  refine aw_icmp_ge (q := 7) dX4_payOut_4 rfl (t := 31) (by decide) (by omega) (by omega) (fun h => absurd h (by omega)) (fun _ => ?_)
  refine aw_aload_n (q := 8) 0 dX4_payOut_7 rfl rfl rfl ?_
  refine g_till_tubes (q := 11) hi wf_RX4_9 dX4_payOut_8 rfl ?_
  refine aw_iload_n (q := 12) 1 dX4_payOut_11 rfl rfl rfl ?_
  refine aw_dup2 (q := 13) dX4_payOut_12 rfl rfl rfl ?_
  refine aw_cial (q := 14) (v := (G i 6)) 6 (ar_tubes ad C hi) (by omega) (by omega) (setG_ne (by omega)) dX4_payOut_13 rfl ?_
  refine aw_aload_n (q := 15) 0 dX4_payOut_14 rfl rfl rfl ?_
  refine g_till_payment (q := 18) hi wf_RX4_21 dX4_payOut_15 rfl ?_
  refine g_pay_taken (q := 21) hi wf_RX4_63 dX4_payOut_18 rfl ?_
  refine aw_iload_n (q := 22) 1 dX4_payOut_21 rfl rfl rfl ?_
  refine aw_cial (q := 23) (v := (G i 317)) 317 (ar_taken ad C hi) (by omega) (by omega) (setG_ne (by omega)) dX4_payOut_22 rfl ?_
  refine ae_isub (q := 24) ((G i 6) - (G i 317)) (by omega) dX4_payOut_23 rfl ?_
  refine aw_cias (q := 25) 6 (ar_tubes ad C hi) (by omega) (by omega) dX4_payOut_24 rfl ?_
  refine ae_iinc (q := 28) (lv2 := [(0, .ref (ad (17 * i + 3))), (1, .int (iI 2))]) 1 [1, 0] 2 (by omega) dX4_payOut_25 rfl rfl (by decide) rfl ?_
  refine aw_goto (q := 2) dX4_payOut_28 (by decide) ?_
  refine aw_iload_n (q := 3) 1 dX4_payOut_2 rfl rfl rfl ?_
  refine aw_iconst (q := 4) dX4_payOut_3 rfl ?_
  refine aw_icmp_ge (q := 7) dX4_payOut_4 rfl (t := 31) (by decide) (by omega) (by omega) (fun h => absurd h (by omega)) (fun _ => ?_)
  refine aw_aload_n (q := 8) 0 dX4_payOut_7 rfl rfl rfl ?_
  refine g_till_tubes (q := 11) hi wf_RX4_9 dX4_payOut_8 rfl ?_
  refine aw_iload_n (q := 12) 1 dX4_payOut_11 rfl rfl rfl ?_
  refine aw_dup2 (q := 13) dX4_payOut_12 rfl rfl rfl ?_
  refine aw_cial (q := 14) (v := (G i 7)) 7 (ar_tubes ad C hi) (by omega) (by omega) ((setG_ne (by omega)).trans (setG_ne (by omega))) dX4_payOut_13 rfl ?_
  refine aw_aload_n (q := 15) 0 dX4_payOut_14 rfl rfl rfl ?_
  refine g_till_payment (q := 18) hi wf_RX4_21 dX4_payOut_15 rfl ?_
  refine g_pay_taken (q := 21) hi wf_RX4_63 dX4_payOut_18 rfl ?_
  refine aw_iload_n (q := 22) 1 dX4_payOut_21 rfl rfl rfl ?_
  refine aw_cial (q := 23) (v := (G i 318)) 318 (ar_taken ad C hi) (by omega) (by omega) ((setG_ne (by omega)).trans (setG_ne (by omega))) dX4_payOut_22 rfl ?_
  refine ae_isub (q := 24) ((G i 7) - (G i 318)) (by omega) dX4_payOut_23 rfl ?_
  refine aw_cias (q := 25) 7 (ar_tubes ad C hi) (by omega) (by omega) dX4_payOut_24 rfl ?_
  refine ae_iinc (q := 28) (lv2 := [(0, .ref (ad (17 * i + 3))), (1, .int (iI 3))]) 1 [1, 0] 3 (by omega) dX4_payOut_25 rfl rfl (by decide) rfl ?_
  refine aw_goto (q := 2) dX4_payOut_28 (by decide) ?_
  refine aw_iload_n (q := 3) 1 dX4_payOut_2 rfl rfl rfl ?_
  refine aw_iconst (q := 4) dX4_payOut_3 rfl ?_
  refine aw_icmp_ge (q := 7) dX4_payOut_4 rfl (t := 31) (by decide) (by omega) (by omega) (fun h => absurd h (by omega)) (fun _ => ?_)
  refine aw_aload_n (q := 8) 0 dX4_payOut_7 rfl rfl rfl ?_
  refine g_till_tubes (q := 11) hi wf_RX4_9 dX4_payOut_8 rfl ?_
  refine aw_iload_n (q := 12) 1 dX4_payOut_11 rfl rfl rfl ?_
  refine aw_dup2 (q := 13) dX4_payOut_12 rfl rfl rfl ?_
  refine aw_cial (q := 14) (v := (G i 8)) 8 (ar_tubes ad C hi) (by omega) (by omega) ((setG_ne (by omega)).trans ((setG_ne (by omega)).trans (setG_ne (by omega)))) dX4_payOut_13 rfl ?_
  refine aw_aload_n (q := 15) 0 dX4_payOut_14 rfl rfl rfl ?_
  refine g_till_payment (q := 18) hi wf_RX4_21 dX4_payOut_15 rfl ?_
  refine g_pay_taken (q := 21) hi wf_RX4_63 dX4_payOut_18 rfl ?_
  refine aw_iload_n (q := 22) 1 dX4_payOut_21 rfl rfl rfl ?_
  refine aw_cial (q := 23) (v := (G i 319)) 319 (ar_taken ad C hi) (by omega) (by omega) ((setG_ne (by omega)).trans ((setG_ne (by omega)).trans (setG_ne (by omega)))) dX4_payOut_22 rfl ?_
  refine ae_isub (q := 24) ((G i 8) - (G i 319)) (by omega) dX4_payOut_23 rfl ?_
  refine aw_cias (q := 25) 8 (ar_tubes ad C hi) (by omega) (by omega) dX4_payOut_24 rfl ?_
  refine ae_iinc (q := 28) (lv2 := [(0, .ref (ad (17 * i + 3))), (1, .int (iI 4))]) 1 [1, 0] 4 (by omega) dX4_payOut_25 rfl rfl (by decide) rfl ?_
  refine aw_goto (q := 2) dX4_payOut_28 (by decide) ?_
  refine aw_iload_n (q := 3) 1 dX4_payOut_2 rfl rfl rfl ?_
  refine aw_iconst (q := 4) dX4_payOut_3 rfl ?_
  refine aw_icmp_ge (q := 7) dX4_payOut_4 rfl (t := 31) (by decide) (by omega) (by omega) (fun _ => ?_) (fun h => absurd h (by omega))
  exact rt_v rfl (Nat.le_refl _) (Nat.le_refl _) (⟨((((setG_ne (by omega)).trans ((setG_ne (by omega)).trans ((setG_ne (by omega)).trans (setG_same _ _ _ _)))) : _ = (G i 5) - (G i 316)).trans (by omega)), ((((setG_ne (by omega)).trans ((setG_ne (by omega)).trans (setG_same _ _ _ _))) : _ = (G i 6) - (G i 317)).trans (by omega)), ((((setG_ne (by omega)).trans (setG_same _ _ _ _)) : _ = (G i 7) - (G i 318)).trans (by omega)), (((setG_same _ _ _ _) : _ = (G i 8) - (G i 319)).trans (by omega)), (fun x y z => ((setG_ne (by omega)).trans ((setG_ne (by omega)).trans ((setG_ne (by omega)).trans (setG_ne (by omega))))))⟩) dX4_payOut_31
def addP (G : GG) (i a : Int) : GG := setG (setG (setG G i (111 + G i 14) a) i 14 (G i 14 + 1)) i 311 (G i 311 + a)
set_option maxHeartbeats 4000000 in
set_option maxRecDepth 100000 in
theorem c_till_addPromise {l : Launch} {D : va_G} {C : Nat → ClassId} {T : Nat → Nat} {ad : Int → Nat} (G : GG) {i : Int} (hi : 0 ≤ i ∧ i < 6) {a : Int} (hn : 0 ≤ G i 14 ∧ G i 14 < 200) : MC l yX4_addPromise cX4_addPromise 2 none 0 0 0 0 D (tyC C) T [.ref (ad (17 * i + 3)), .int (iI a)] (cw ad C G) (RV ad C (fun G1 => G1 = addP G i a)) := by
  refine mc_of (by decide +kernel) (Nat.le_of_ble_eq_true rfl) rfl ?_
  refine aw_aload_n (q := 1) 0 dX4_addPromise_0 rfl rfl rfl ?_
  refine g_till_promiseCount (q := 4) hi (v := (G i 14)) rfl wf_RX4_29 dX4_addPromise_1 rfl ?_
  refine aw_sipush (q := 7) dX4_addPromise_4 rfl (by decide) ?_
  refine aw_icmp_ge (q := 10) dX4_addPromise_7 rfl (t := 40) (by decide) (by omega) (by omega) (fun h1 => ?_) (fun h2 => ?_)
  · exact rt_v rfl (Nat.le_refl _) (Nat.le_refl _) (by first | rfl | (exfalso; omega)) dX4_addPromise_40
  · refine aw_aload_n (q := 11) 0 dX4_addPromise_10 rfl rfl rfl ?_
    refine g_till_promises (q := 14) hi wf_RX4_15 dX4_addPromise_11 rfl ?_
    refine aw_aload_n (q := 15) 0 dX4_addPromise_14 rfl rfl rfl ?_
    refine g_till_promiseCount (q := 18) hi (v := (G i 14)) rfl wf_RX4_29 dX4_addPromise_15 rfl ?_
    refine aw_iload_n (q := 19) 1 dX4_addPromise_18 rfl rfl rfl ?_
    refine aw_cias (q := 20) (111 + (G i 14)) (ar_prom ad C hi) (by omega) (by omega) dX4_addPromise_19 rfl ?_
    refine aw_aload_n (q := 21) 0 dX4_addPromise_20 rfl rfl rfl ?_
    refine aw_dup (q := 22) dX4_addPromise_21 rfl rfl ?_
    refine g_till_promiseCount (q := 25) hi (v := (G i 14)) (setG_ne (by omega)) wf_RX4_29 dX4_addPromise_22 rfl ?_
    refine aw_iconst (q := 26) dX4_addPromise_25 rfl ?_
    refine ae_iadd (q := 27) ((G i 14) + 1) (by omega) dX4_addPromise_26 rfl ?_
    refine p_till_promiseCount (q := 30) hi wf_RX4_29 dX4_addPromise_27 rfl ?_
    refine aw_aload_n (q := 31) 0 dX4_addPromise_30 rfl rfl rfl ?_
    refine aw_dup (q := 32) dX4_addPromise_31 rfl rfl ?_
    refine g_till_promiseSum (q := 35) hi (v := (G i 311)) ((setG_ne (by omega)).trans (setG_ne (by omega))) wf_RX4_32 dX4_addPromise_32 rfl ?_
    refine aw_iload_n (q := 36) 1 dX4_addPromise_35 rfl rfl rfl ?_
    refine ae_iadd (q := 37) ((G i 311) + a) (by omega) dX4_addPromise_36 rfl ?_
    refine p_till_promiseSum (q := 40) hi wf_RX4_32 dX4_addPromise_37 rfl ?_
    exact rt_v rfl (Nat.le_refl _) (Nat.le_refl _) (by first | rfl | (exfalso; omega)) dX4_addPromise_40
