/-- the promises that are paid: how many from the j-th on, and the tubes then -/
def kp (q : Int → Int) (cnt : Int) : Nat → Int → Int → Int → Int → Int → Int × Int × Int × Int × Int
  | 0, j, t0, t1, t2, t3 => (j, t0, t1, t2, t3)
  | n + 1, j, t0, t1, t2, t3 => if j < cnt ∧ canF t0 t1 t2 t3 (q j) then kp q cnt n (j + 1) (t0 - c0F t0 t1 t2 t3 (q j)) (t1 - c1F t0 t1 t2 t3 (q j)) (t2 - c2F t0 t1 t2 t3 (q j)) (t3 - c3F t0 t1 t2 t3 (q j)) else (j, t0, t1, t2, t3)
def sumQ (q : Int → Int) : Nat → Int
  | 0 => 0
  | n + 1 => sumQ q n + q n
abbrev kpS (i : Int) : Int → Int → Prop := fun x y => x = i ∧ ((5 ≤ y ∧ y < 9) ∨ y = 11 ∨ y = 14 ∨ (111 ≤ y ∧ y < 320))
abbrev kpS0 (i : Int) : Int → Int → Prop := fun x y => x = i ∧ ((5 ≤ y ∧ y < 9) ∨ y = 11 ∨ (311 ≤ y ∧ y < 320))
abbrev prm (G : GG) (i : Int) : Int → Int := fun m => G i (111 + m)
/-- the promises of page i are paid as far as may be -/
def keepP (G : GG) (i : Int) (r : Int × Int × Int × Int × Int) (G1 : GG) : Prop := G1 i 5 = r.2.1 ∧ G1 i 6 = r.2.2.1 ∧ G1 i 7 = r.2.2.2.1 ∧ G1 i 8 = r.2.2.2.2 ∧ G1 i 14 = G i 14 - r.1 ∧ G1 i 311 = G i 311 - sumQ (prm G i) r.1.toNat ∧ G1 i 11 = G i 11 + sumQ (prm G i) r.1.toNat ∧ (∀ m : Int, 0 ≤ m → m < G i 14 - r.1 → G1 i (111 + m) = G i (111 + r.1 + m)) ∧ sameB (kpS i) G G1
/-- on the way there -/
def ppI (G : GG) (i j t0 t1 t2 t3 : Int) (H : GG) : Prop := H i 5 = t0 ∧ H i 6 = t1 ∧ H i 7 = t2 ∧ H i 8 = t3 ∧ H i 311 = G i 311 - sumQ (prm G i) j.toNat ∧ H i 11 = G i 11 + sumQ (prm G i) j.toNat ∧ sameB (kpS0 i) G H
theorem cF_b {h0 h1 h2 h3 a : Int} (b0 : 0 ≤ h0 ∧ h0 ≤ 31) (b1 : 0 ≤ h1 ∧ h1 ≤ 31) (b2 : 0 ≤ h2 ∧ h2 ≤ 31) (b3 : 0 ≤ h3 ∧ h3 ≤ 31) (ha : 0 ≤ a) : (0 ≤ c0F h0 h1 h2 h3 a ∧ c0F h0 h1 h2 h3 a ≤ h0) ∧ (0 ≤ c1F h0 h1 h2 h3 a ∧ c1F h0 h1 h2 h3 a ≤ h1) ∧ (0 ≤ c2F h0 h1 h2 h3 a ∧ c2F h0 h1 h2 h3 a ≤ h2) ∧ (0 ≤ c3F h0 h1 h2 h3 a ∧ c3F h0 h1 h2 h3 a ≤ h3) := by
  have hb := bF_n (h0 := h0) (h1 := h1) (h2 := h2) (h3 := h3) (a := a) b3.1 ha
  have ht := tF_b (a := a) (f := bF h0 h1 h2 h3 a) b0 b1 b2 ⟨hb.1, hb.2.2⟩
  unfold c0F c1F c2F c3F
  exact ⟨⟨ht.2.2.1, ht.2.2.2.1⟩, ⟨ht.2.1.1, ht.2.1.2.1⟩, ⟨ht.1.1, ht.1.2.1⟩, hb.1, hb.2.1⟩
theorem sumQ_succ (q : Int → Int) {j : Int} (h : 0 ≤ j) : sumQ q (j + 1).toNat = sumQ q j.toNat + q j := by
  rw [show (j + 1).toNat = j.toNat + 1 by omega]
  show sumQ q j.toNat + q ((j.toNat : Nat) : Int) = _
  rw [show ((j.toNat : Nat) : Int) = j by omega]
theorem kp_t {q : Int → Int} {cnt : Int} {n : Nat} {j t0 t1 t2 t3 : Int} (h : j < cnt ∧ canF t0 t1 t2 t3 (q j)) : kp q cnt (n + 1) j t0 t1 t2 t3 = kp q cnt n (j + 1) (t0 - c0F t0 t1 t2 t3 (q j)) (t1 - c1F t0 t1 t2 t3 (q j)) (t2 - c2F t0 t1 t2 t3 (q j)) (t3 - c3F t0 t1 t2 t3 (q j)) := if_pos h
theorem kp_f {q : Int → Int} {cnt : Int} {n : Nat} {j t0 t1 t2 t3 : Int} (h : ¬ (j < cnt ∧ canF t0 t1 t2 t3 (q j))) : kp q cnt (n + 1) j t0 t1 t2 t3 = (j, t0, t1, t2, t3) := if_neg h
theorem kp_b {q : Int → Int} {cnt : Int} (hq : ∀ m, 0 ≤ m → m < cnt → 0 ≤ q m) : ∀ (n : Nat) (j t0 t1 t2 t3 : Int), 0 ≤ j → j ≤ cnt → (0 ≤ t0 ∧ t0 ≤ 30) → (0 ≤ t1 ∧ t1 ≤ 30) → (0 ≤ t2 ∧ t2 ≤ 30) → (0 ≤ t3 ∧ t3 ≤ 30) → (j ≤ (kp q cnt n j t0 t1 t2 t3).1 ∧ (kp q cnt n j t0 t1 t2 t3).1 ≤ cnt) ∧ (0 ≤ (kp q cnt n j t0 t1 t2 t3).2.1 ∧ (kp q cnt n j t0 t1 t2 t3).2.1 ≤ 30) ∧ (0 ≤ (kp q cnt n j t0 t1 t2 t3).2.2.1 ∧ (kp q cnt n j t0 t1 t2 t3).2.2.1 ≤ 30) ∧ (0 ≤ (kp q cnt n j t0 t1 t2 t3).2.2.2.1 ∧ (kp q cnt n j t0 t1 t2 t3).2.2.2.1 ≤ 30) ∧ (0 ≤ (kp q cnt n j t0 t1 t2 t3).2.2.2.2 ∧ (kp q cnt n j t0 t1 t2 t3).2.2.2.2 ≤ 30) := by
  intro n
  induction n with
  | zero => intro j t0 t1 t2 t3 hj hc b0 b1 b2 b3; exact ⟨⟨Int.le_refl _, hc⟩, b0, b1, b2, b3⟩
  | succ n ih =>
    intro j t0 t1 t2 t3 hj hc b0 b1 b2 b3
    unfold kp
    by_cases h : j < cnt ∧ canF t0 t1 t2 t3 (q j)
    · rw [if_pos h]
      have cb := cF_b (h0 := t0) (h1 := t1) (h2 := t2) (h3 := t3) (a := q j) (by omega) (by omega) (by omega) (by omega) (hq j hj h.1)
      have := ih (j + 1) (t0 - c0F t0 t1 t2 t3 (q j)) (t1 - c1F t0 t1 t2 t3 (q j)) (t2 - c2F t0 t1 t2 t3 (q j)) (t3 - c3F t0 t1 t2 t3 (q j)) (by omega) (by omega) (by omega) (by omega) (by omega) (by omega)
      exact ⟨⟨by omega, this.1.2⟩, this.2⟩
    · rw [if_neg h]
      exact ⟨⟨Int.le_refl _, hc⟩, b0, b1, b2, b3⟩
set_option maxHeartbeats 4000000 in
set_option maxRecDepth 100000 in
theorem L_pp_70 {l : Launch} {D : va_G} {C : Nat → ClassId} {T : Nat → Nat} {ad : Int → Nat} (G : GG) {i : Int} (hi : 0 ≤ i ∧ i < 6) (hcnt : 0 ≤ G i 14 ∧ G i 14 ≤ 200) (hq : ∀ m : Int, 0 ≤ m → m < G i 14 → 0 ≤ G i (111 + m) ∧ G i (111 + m) ≤ 3000) (R9 : Int × Int × Int × Int × Int) {j t0 t1 t2 t3 : Int} {H : GG} (hj : 0 ≤ j ∧ j ≤ G i 14) (t : 0 ≤ t0 ∧ t0 ≤ 30 ∧ 0 ≤ t1 ∧ t1 ≤ 30 ∧ 0 ≤ t2 ∧ t2 ≤ 30 ∧ 0 ≤ t3 ∧ t3 ≤ 30) (hI : ppI G i j t0 t1 t2 t3 H) (hR : (j, t0, t1, t2, t3) = R9) : AW l RX4 "payPromises" cX4_payPromises 2 none (fun _ => True) { frames := 4, cells := 0, slots := 0, locals := 106 } (hvE D (RV ad C (keepP G i R9)) (cw ad C G) 0 0) D (tyC C) (hvZ T (cw ad C G)) (cw ad C G) 70 [(0, .ref (ad (17 * i + 3))), (1, .int (iI j))] [] (cw ad C H) 0 0 := by
  subst hR
  obtain ⟨e5, e6, e7, e8, e311, e11, hs⟩ := hI
  refine aw_iload_n (q := 71) 1 dX4_payPromises_70 rfl rfl rfl ?_
  refine aw_if_le (q := 74) dX4_payPromises_71 rfl (t := 103) (by decide) (by omega) (fun h1 => ?_) (fun h2 => ?_)
  · exact rt_v rfl (Nat.le_refl _) (Nat.le_refl _) (by
        have hj : j = 0 := by omega
        subst hj
        refine ⟨e5, e6, e7, e8, ?_, e311, e11, fun m z0 z1 => ?_, hs.mono (fun x y z => by omega)⟩
        · show H i 14 = G i 14 - 0; rw [hs i 14 (by omega)]; omega
        · rw [hs i (111 + m) (by omega), Int.add_zero]) dX4_payPromises_103
  · refine aw_aload_n (q := 75) 0 dX4_payPromises_74 rfl rfl rfl ?_
    refine g_till_promises (q := 78) hi wf_RX4_15 dX4_payPromises_75 rfl ?_
    refine aw_iload_n (q := 79) 1 dX4_payPromises_78 rfl rfl rfl ?_
    refine aw_aload_n (q := 80) 0 dX4_payPromises_79 rfl rfl rfl ?_
    refine g_till_promises (q := 83) hi wf_RX4_15 dX4_payPromises_80 rfl ?_
    refine aw_iconst (q := 84) dX4_payPromises_83 rfl ?_
    refine aw_aload_n (q := 85) 0 dX4_payPromises_84 rfl rfl rfl ?_
    refine g_till_promiseCount (q := 88) hi (v := (G i 14)) (hs _ _ (by omega)) wf_RX4_29 dX4_payPromises_85 rfl ?_
    refine aw_iload_n (q := 89) 1 dX4_payPromises_88 rfl rfl rfl ?_
    refine ae_isub (q := 90) ((G i 14) - j) (by omega) dX4_payPromises_89 rfl ?_
    refine aw_ccopy (q := 93) (ar_prom ad C hi) (ar_prom ad C hi) wm_RX4_38 wcopy_n wcopy_s wSys_i (by omega) (by decide) (Nat.le_of_ble_eq_true rfl) (Nat.le_of_ble_eq_true rfl) dX4_payPromises_90 rfl ?_
    refine aw_aload_n (q := 94) 0 dX4_payPromises_93 rfl rfl rfl ?_
    refine aw_dup (q := 95) dX4_payPromises_94 rfl rfl ?_
    refine g_till_promiseCount (q := 98) hi (v := (G i 14)) ((if_neg (by omega)).trans (hs _ _ (by omega))) wf_RX4_29 dX4_payPromises_95 rfl ?_
    refine aw_iload_n (q := 99) 1 dX4_payPromises_98 rfl rfl rfl ?_
    refine ae_isub (q := 100) ((G i 14) - j) (by omega) dX4_payPromises_99 rfl ?_
    refine p_till_promiseCount (q := 103) hi wf_RX4_29 dX4_payPromises_100 rfl ?_
    exact rt_v rfl (Nat.le_refl _) (Nat.le_refl _) (by
        refine ⟨(setG_ne (by omega)).trans ((cpG_ne (by omega)).trans e5), (setG_ne (by omega)).trans ((cpG_ne (by omega)).trans e6), (setG_ne (by omega)).trans ((cpG_ne (by omega)).trans e7), (setG_ne (by omega)).trans ((cpG_ne (by omega)).trans e8), ?_, (setG_ne (by omega)).trans ((cpG_ne (by omega)).trans e311), (setG_ne (by omega)).trans ((cpG_ne (by omega)).trans e11), fun m z0 z1 => ?_, fun x y z => (setG_ne (by omega)).trans ((cpG_ne (by omega)).trans (hs x y (by omega)))⟩
        · show setG _ i 14 (G i 14 - j) i 14 = G i 14 - j; exact setG_same _ _ _ _
        · rw [setG_ne (by omega), show (111 : Int) + m = 111 + 0 + m by omega]
          refine (cpG_in (by constructor <;> (first | omega | (show _ < _ + (G i 14 - j); have z2 : m < G i 14 - j := z1; omega)))).trans ?_
          rw [show (111 : Int) + j + (111 + 0 + m - (111 + 0)) = 111 + (j + m) by omega, hs i (111 + (j + m)) (by have z2 : m < G i 14 - j := z1; omega), show (111 : Int) + (j + m) = 111 + j + m by omega]) dX4_payPromises_103
set_option maxHeartbeats 4000000 in
set_option maxRecDepth 100000 in
theorem L_pp_2 {l : Launch} {D : va_G} {C : Nat → ClassId} {T : Nat → Nat} {ad : Int → Nat} (G : GG) {i : Int} (hi : 0 ≤ i ∧ i < 6) (hcnt : 0 ≤ G i 14 ∧ G i 14 ≤ 200) (hq : ∀ m : Int, 0 ≤ m → m < G i 14 → 0 ≤ G i (111 + m) ∧ G i (111 + m) ≤ 3000) (R9 : Int × Int × Int × Int × Int) : ∀ (n : Nat) (j t0 t1 t2 t3 : Int) (H : GG), (0 ≤ j ∧ j ≤ G i 14) → G i 14 - j < n → (0 ≤ t0 ∧ t0 ≤ 30 ∧ 0 ≤ t1 ∧ t1 ≤ 30 ∧ 0 ≤ t2 ∧ t2 ≤ 30 ∧ 0 ≤ t3 ∧ t3 ≤ 30) → ppI G i j t0 t1 t2 t3 H → kp (prm G i) (G i 14) n j t0 t1 t2 t3 = R9 → AW l RX4 "payPromises" cX4_payPromises 2 none (fun _ => True) { frames := 4, cells := 0, slots := 0, locals := 106 } (hvE D (RV ad C (keepP G i R9)) (cw ad C G) 0 0) D (tyC C) (hvZ T (cw ad C G)) (cw ad C G) 2 [(0, .ref (ad (17 * i + 3))), (1, .int (iI j))] [] (cw ad C H) 0 0 := by
  intro n
  induction n with
  | zero => intro j t0 t1 t2 t3 H hj hn; exact absurd hn (by omega)
  | succ n ih =>
    intro j t0 t1 t2 t3 H hj hn t hI hk
    obtain ⟨e5, e6, e7, e8, e311, e11, hs⟩ := hI
    have htH : ∀ k : Int, 0 ≤ k → k < 4 → 0 ≤ H i (5 + k) ∧ H i (5 + k) ≤ 30 := fun k z0 z1 => by
      rcases (by omega : k = 0 ∨ k = 1 ∨ k = 2 ∨ k = 3) with rfl | rfl | rfl | rfl
      · show 0 ≤ H i 5 ∧ H i 5 ≤ 30; omega
      · show 0 ≤ H i 6 ∧ H i 6 ≤ 30; omega
      · show 0 ≤ H i 7 ∧ H i 7 ≤ 30; omega
      · show 0 ≤ H i 8 ∧ H i 8 ≤ 30; omega
    refine aw_iload_n (q := 3) 1 dX4_payPromises_2 rfl rfl rfl ?_
    refine aw_aload_n (q := 4) 0 dX4_payPromises_3 rfl rfl rfl ?_
    refine g_till_promiseCount (q := 7) hi (v := (G i 14)) (hs _ _ (by omega)) wf_RX4_29 dX4_payPromises_4 rfl ?_
    refine aw_icmp_ge (q := 10) dX4_payPromises_7 rfl (t := 70) (by decide) (by omega) (by omega) (fun h1 => ?_) (fun h2 => ?_)
    · exact L_pp_70 G hi hcnt hq R9 ⟨by omega, by omega⟩ t ⟨e5, e6, e7, e8, e311, e11, hs⟩ (by rw [← hk, kp_f (fun q => absurd q.1 (by omega))])
    · refine aw_iload_n (q := 11) 1 dX4_payPromises_10 rfl rfl rfl ?_
      refine aw_sipush (q := 14) dX4_payPromises_11 rfl (by decide) ?_
      refine aw_icmp_ge (q := 17) dX4_payPromises_14 rfl (t := 70) (by decide) (by omega) (by omega) (fun h3 => ?_) (fun h4 => ?_)
      · exact L_pp_70 G hi hcnt hq R9 ⟨by omega, by omega⟩ t ⟨e5, e6, e7, e8, e311, e11, hs⟩ (by rw [← hk, kp_f (fun q => absurd q.1 (by omega))])
      · refine aw_aload_n (q := 18) 0 dX4_payPromises_17 rfl rfl rfl ?_
        refine aw_aload_n (q := 19) 0 dX4_payPromises_18 rfl rfl rfl ?_
        refine g_till_promises (q := 22) hi wf_RX4_15 dX4_payPromises_19 rfl ?_
        refine aw_iload_n (q := 23) 1 dX4_payPromises_22 rfl rfl rfl ?_
        refine aw_cial (q := 24) (v := (G i (111 + j))) (111 + j) (ar_prom ad C hi) (by omega) (by omega) (hs _ _ (by omega)) dX4_payPromises_23 rfl ?_
        refine cv_I (q := 27) (CC := "") (id := 17 * i + 3) (As := [.int (iI ((G i (111 + j))))]) 1 (c_till_canPay (T := T) (D := D) (ad := ad) H hi (hq j (by omega) (by omega)) htH) (fun _ h => h) (by omega) (cell_till ad C _ hi) rfl wc_X4_canPay wm_RX4_66 wi_X4_canPay ws_X4_canPay wn_X4 (by decide) rfl ⟨Nat.le_of_ble_eq_true rfl, Nat.le_of_ble_eq_true rfl⟩ ⟨Nat.le_of_ble_eq_true rfl, Nat.le_of_ble_eq_true rfl⟩ (Nat.le_of_ble_eq_true rfl) dX4_payPromises_24 rfl (fun r1 H1 h9 => ?_)
        rw [e5, e6, e7, e8] at h9
        obtain ⟨hr1, f0, f1, f2, f3, hs1⟩ := h9
        subst hr1
        have cb := cF_b (h0 := t0) (h1 := t1) (h2 := t2) (h3 := t3) (a := G i (111 + j)) (by omega) (by omega) (by omega) (by omega) (hq j (by omega) (by omega)).1
        refine aw_ifb_eq (q := 30) dX4_payPromises_27 rfl (t := 70) (by decide) (fun h5 => ?_) (fun h6 => ?_)
        · refine L_pp_70 G hi hcnt hq R9 ⟨by omega, by omega⟩ t ⟨(hs1 i 5 (by omega)).trans e5, (hs1 i 6 (by omega)).trans e6, (hs1 i 7 (by omega)).trans e7, (hs1 i 8 (by omega)).trans e8, (hs1 i 311 (by omega)).trans e311, (hs1 i 11 (by omega)).trans e11, fun x y z => (hs1 x y (by omega)).trans (hs x y z)⟩ ?_
          rw [← hk, kp_f (fun q => by have := q.2; contradiction)]
        · refine aw_aload_n (q := 31) 0 dX4_payPromises_30 rfl rfl rfl ?_
          refine cv_V (q := 34) (CC := "") (id := 17 * i + 3) (As := []) 0 (c_till_payOut (T := T) (D := D) (ad := ad) H1 hi) (fun _ h => h) (by omega) (cell_till ad C _ hi) rfl wc_X4_payOut wm_RX4_69 wi_X4_payOut ws_X4_payOut wn_X4 (by decide) rfl ⟨Nat.le_of_ble_eq_true rfl, Nat.le_of_ble_eq_true rfl⟩ ⟨Nat.le_of_ble_eq_true rfl, Nat.le_of_ble_eq_true rfl⟩ (Nat.le_of_ble_eq_true rfl) dX4_payPromises_31 rfl (fun H2 h8 => ?_)
          obtain ⟨g0, g1, g2, g3, hs2⟩ := h8
          refine aw_aload_n (q := 35) 0 dX4_payPromises_34 rfl rfl rfl ?_
          refine aw_dup (q := 36) dX4_payPromises_35 rfl rfl ?_
          refine g_till_promiseSum (q := 39) hi (v := (G i 311 - sumQ (prm G i) j.toNat)) ((hs2 _ _ (by omega)).trans ((hs1 _ _ (by omega)).trans (e311))) wf_RX4_32 dX4_payPromises_36 rfl ?_
          refine aw_aload_n (q := 40) 0 dX4_payPromises_39 rfl rfl rfl ?_
          refine g_till_promises (q := 43) hi wf_RX4_15 dX4_payPromises_40 rfl ?_
          refine aw_iload_n (q := 44) 1 dX4_payPromises_43 rfl rfl rfl ?_
          refine aw_cial (q := 45) (v := (G i (111 + j))) (111 + j) (ar_prom ad C hi) (by omega) (by omega) ((hs2 _ _ (by omega)).trans ((hs1 _ _ (by omega)).trans (hs _ _ (by omega)))) dX4_payPromises_44 rfl ?_
          refine ae_isub (q := 46) ((G i 311 - sumQ (prm G i) j.toNat) - (G i (111 + j))) (by omega) dX4_payPromises_45 rfl ?_
          refine p_till_promiseSum (q := 49) hi wf_RX4_32 dX4_payPromises_46 rfl ?_
          refine aw_aload_n (q := 50) 0 dX4_payPromises_49 rfl rfl rfl ?_
          refine aw_dup (q := 51) dX4_payPromises_50 rfl rfl ?_
          refine g_till_promisesPaid (q := 54) hi (v := (G i 11 + sumQ (prm G i) j.toNat)) ((setG_ne (by omega)).trans ((hs2 _ _ (by omega)).trans ((hs1 _ _ (by omega)).trans (e11)))) wf_RX4_35 dX4_payPromises_51 rfl ?_
          refine aw_aload_n (q := 55) 0 dX4_payPromises_54 rfl rfl rfl ?_
          refine g_till_promises (q := 58) hi wf_RX4_15 dX4_payPromises_55 rfl ?_
          refine aw_iload_n (q := 59) 1 dX4_payPromises_58 rfl rfl rfl ?_
          refine aw_cial (q := 60) (v := (G i (111 + j))) (111 + j) (ar_prom ad C hi) (by omega) (by omega) ((setG_ne (by omega)).trans ((hs2 _ _ (by omega)).trans ((hs1 _ _ (by omega)).trans (hs _ _ (by omega))))) dX4_payPromises_59 rfl ?_
          refine ae_iadd (q := 61) ((G i 11 + sumQ (prm G i) j.toNat) + (G i (111 + j))) (by omega) dX4_payPromises_60 rfl ?_
          refine p_till_promisesPaid (q := 64) hi wf_RX4_35 dX4_payPromises_61 rfl ?_
          refine ae_iinc (q := 67) (lv2 := [(0, .ref (ad (17 * i + 3))), (1, .int (iI (j + 1)))]) 1 [1, 0] (j + 1) (by omega) dX4_payPromises_64 rfl rfl (by decide) rfl ?_
          refine aw_goto (q := 2) dX4_payPromises_67 (by decide) ?_
          refine ih (j + 1) (t0 - c0F t0 t1 t2 t3 (G i (111 + j))) (t1 - c1F t0 t1 t2 t3 (G i (111 + j))) (t2 - c2F t0 t1 t2 t3 (G i (111 + j))) (t3 - c3F t0 t1 t2 t3 (G i (111 + j))) _ (by omega) (by omega) (by omega) ⟨?_, ?_, ?_, ?_, ?_, ?_, fun x y z => (setG_ne (by omega)).trans ((setG_ne (by omega)).trans ((hs2 x y (by omega)).trans ((hs1 x y (by omega)).trans (hs x y z))))⟩ ?_
          · refine (setG_ne (by omega)).trans ((setG_ne (by omega)).trans ?_); rw [g0, f0, hs1 i 5 (by omega), e5]
          · refine (setG_ne (by omega)).trans ((setG_ne (by omega)).trans ?_); rw [g1, f1, hs1 i 6 (by omega), e6]
          · refine (setG_ne (by omega)).trans ((setG_ne (by omega)).trans ?_); rw [g2, f2, hs1 i 7 (by omega), e7]
          · refine (setG_ne (by omega)).trans ((setG_ne (by omega)).trans ?_); rw [g3, f3, hs1 i 8 (by omega), e8]
          · rw [sumQ_succ _ (by omega)]; refine (setG_ne (by omega)).trans ((setG_same _ _ _ _).trans ?_); show _ = G i 311 - (_ + G i (111 + j)); omega
          · rw [sumQ_succ _ (by omega)]; refine (setG_same _ _ _ _).trans ?_; show _ = G i 11 + (_ + G i (111 + j)); omega
          · rw [← hk, kp_t ⟨by omega, by assumption⟩]
/-- what payPromises asks of a page -/
def okP (G : GG) (i : Int) : Prop := (0 ≤ G i 14 ∧ G i 14 ≤ 200) ∧ (∀ m : Int, 0 ≤ m → m < G i 14 → 0 ≤ G i (111 + m) ∧ G i (111 + m) ≤ 3000) ∧ ∀ k : Int, 0 ≤ k → k < 4 → 0 ≤ G i (5 + k) ∧ G i (5 + k) ≤ 30
abbrev kpG (G : GG) (i : Int) : Int × Int × Int × Int × Int := kp (prm G i) (G i 14) 201 0 (G i 5) (G i 6) (G i 7) (G i 8)
set_option maxHeartbeats 4000000 in
set_option maxRecDepth 100000 in
theorem c_till_payPromises {l : Launch} {D : va_G} {C : Nat → ClassId} {T : Nat → Nat} {ad : Int → Nat} (G : GG) {i : Int} (hi : 0 ≤ i ∧ i < 6) (ho : okP G i) : MC l yX4_payPromises cX4_payPromises 2 none 4 106 0 0 D (tyC C) T [.ref (ad (17 * i + 3))] (cw ad C G) (RV ad C (keepP G i (kpG G i))) := by
  refine mc_of (by decide +kernel) (Nat.le_of_ble_eq_true rfl) rfl ?_
  have q0 : 0 ≤ G i 5 ∧ G i 5 ≤ 30 := ho.2.2 0 (by omega) (by omega)
  have q1 : 0 ≤ G i 6 ∧ G i 6 ≤ 30 := ho.2.2 1 (by omega) (by omega)
  have q2 : 0 ≤ G i 7 ∧ G i 7 ≤ 30 := ho.2.2 2 (by omega) (by omega)
  have q3 : 0 ≤ G i 8 ∧ G i 8 ≤ 30 := ho.2.2 3 (by omega) (by omega)
  refine aw_iconst (q := 1) dX4_payPromises_0 rfl ?_
  refine aw_istore_n (q := 2) (lv2 := [(0, .ref (ad (17 * i + 3))), (1, .int (iI 0))]) [1, 0] dX4_payPromises_1 rfl rfl (by decide) rfl rfl ?_
  exact L_pp_2 G hi ho.1 ho.2.1 (kpG G i) 201 0 (G i 5) (G i 6) (G i 7) (G i 8) G ⟨by omega, ho.1.1⟩ (by have := ho.1; omega) (by omega) ⟨rfl, rfl, rfl, rfl, by show G i 311 = G i 311 - 0; omega, by show G i 11 = G i 11 + 0; omega, sameB.rf⟩ rfl
def fillG (G : GG) (i t n : Int) : GG := setG G i (5 + t) (G i (5 + t) + min n (30 - G i (5 + t)))
theorem okP_fill {G : GG} {i t n : Int} (ho : okP G i) (ht : 0 ≤ t ∧ t < 4) (hn : 0 ≤ n) : okP (fillG G i t n) i := by
  have h9 := ho.2.2 t ht.1 ht.2
  have e : ∀ y, ¬ y = 5 + t → fillG G i t n i y = G i y := fun y hy => setG_ne (by omega)
  refine ⟨by rw [e 14 (by omega)]; exact ho.1, fun m z0 z1 => ?_, fun k z0 z1 => ?_⟩
  · rw [e 14 (by omega)] at z1
    rw [e (111 + m) (by omega)]
    exact ho.2.1 m z0 z1
  · by_cases hk : k = t
    · subst hk
      rw [show fillG G i k n i (5 + k) = G i (5 + k) + min n (30 - G i (5 + k)) from setG_same _ _ _ _]
      omega
    · rw [e (5 + k) (by omega)]
      exact ho.2.2 k z0 z1
set_option maxHeartbeats 4000000 in
set_option maxRecDepth 100000 in
theorem c_till_fillTube {l : Launch} {D : va_G} {C : Nat → ClassId} {T : Nat → Nat} {ad : Int → Nat} (G : GG) {i : Int} (hi : 0 ≤ i ∧ i < 6) {t n : Int} (ht : 0 ≤ t ∧ t < 4) (hn : 0 ≤ n ∧ n ≤ 30) (ho : okP G i) : MC l yX4_fillTube cX4_fillTube 4 (some .int) 5 127 0 0 D (tyC C) T [.ref (ad (17 * i + 3)), .int (iI t), .int (iI n)] (cw ad C G) (RI ad C (fun r G1 => r = min n (30 - G i (5 + t)) ∧ keepP (fillG G i t n) i (kpG (fillG G i t n) i) G1)) := by
  refine mc_of (by decide +kernel) (Nat.le_of_ble_eq_true rfl) rfl ?_
  have q9 := ho.2.2 t ht.1 ht.2
  refine aw_iload_n (q := 1) 2 dX4_fillTube_0 rfl rfl rfl ?_
  refine aw_bipush (q := 3) dX4_fillTube_1 rfl (by decide) ?_
  refine aw_aload_n (q := 4) 0 dX4_fillTube_3 rfl rfl rfl ?_
  refine g_till_tubes (q := 7) hi wf_RX4_9 dX4_fillTube_4 rfl ?_
  refine aw_iload_n (q := 8) 1 dX4_fillTube_7 rfl rfl rfl ?_
  refine aw_cial (q := 9) (v := (G i (5 + t))) (5 + t) (ar_tubes ad C hi) (by omega) (by omega) rfl dX4_fillTube_8 rfl ?_
  refine ae_isub (q := 10) (30 - (G i (5 + t))) (by omega) dX4_fillTube_9 rfl ?_
  obtain ⟨m1, hm1⟩ : ∃ z, min n (30 - (G i (5 + t))) = z := ⟨_, rfl⟩
  refine ae_min (q := 13) m1 hm1 wm_RX4_44 wMmin_s wMath_i wMmin_c (Nat.le_of_ble_eq_true rfl) (Nat.le_of_ble_eq_true rfl) (Nat.le_of_ble_eq_true rfl) (Nat.le_of_ble_eq_true rfl) (by omega) (by omega) dX4_fillTube_10 rfl ?_
  refine aw_istore_n (q := 14) (lv2 := [(0, .ref (ad (17 * i + 3))), (1, .int (iI t)), (2, .int (iI n)), (3, .int (iI m1))]) [1, 2, 3, 0] dX4_fillTube_13 rfl rfl (by decide) rfl rfl ?_
  refine aw_aload_n (q := 15) 0 dX4_fillTube_14 rfl rfl rfl ?_
  refine g_till_tubes (q := 18) hi wf_RX4_9 dX4_fillTube_15 rfl ?_
  refine aw_iload_n (q := 19) 1 dX4_fillTube_18 rfl rfl rfl ?_
  refine aw_dup2 (q := 20) dX4_fillTube_19 rfl rfl rfl ?_
  refine aw_cial (q := 21) (v := (G i (5 + t))) (5 + t) (ar_tubes ad C hi) (by omega) (by omega) rfl dX4_fillTube_20 rfl ?_
  refine aw_iload_n (q := 22) 3 dX4_fillTube_21 rfl rfl rfl ?_
  refine ae_iadd (q := 23) ((G i (5 + t)) + m1) (by omega) dX4_fillTube_22 rfl ?_
  refine aw_cias (q := 24) (5 + t) (ar_tubes ad C hi) (by omega) (by omega) dX4_fillTube_23 rfl ?_
  refine aw_aload_n (q := 25) 0 dX4_fillTube_24 rfl rfl rfl ?_
  rw [show setG G i (5 + t) ((G i (5 + t)) + m1) = fillG G i t n by rw [← hm1]; rfl]
  refine cv_V (q := 28) (CC := "") (id := 17 * i + 3) (As := []) 0 (c_till_payPromises (T := T) (D := D) (ad := ad) (fillG G i t n) hi (okP_fill ho ht (by omega))) (fun _ h => h) (by omega) (cell_till ad C _ hi) rfl wc_X4_payPromises wm_RX4_50 wi_X4_payPromises ws_X4_payPromises wn_X4 (by decide) rfl ⟨Nat.le_of_ble_eq_true rfl, Nat.le_of_ble_eq_true rfl⟩ ⟨Nat.le_of_ble_eq_true rfl, Nat.le_of_ble_eq_true rfl⟩ (Nat.le_of_ble_eq_true rfl) dX4_fillTube_25 rfl (fun H1 h9 => ?_)
  refine aw_iload_n (q := 29) 3 dX4_fillTube_28 rfl rfl rfl ?_
  exact rt_i rfl (Nat.le_refl _) (Nat.le_refl _) (⟨hm1.symm, h9⟩) dX4_fillTube_29
def tillOver (G : GG) (i j : Int) : GG := setG (setG (setG (setG (cpG (cpG G i (5 + 0) 4 j (5 + 0)) i (111 + 0) 200 j (111 + 0)) i 9 (G j 9)) i 14 (G j 14)) i 311 (G j 311)) i 11 (G j 11)
set_option maxHeartbeats 4000000 in
set_option maxRecDepth 100000 in
theorem c_till_takeOver {l : Launch} {D : va_G} {C : Nat → ClassId} {T : Nat → Nat} {ad : Int → Nat} (G : GG) {i : Int} (hi : 0 ≤ i ∧ i < 6) {j : Int} (hj : 0 ≤ j ∧ j < 6) (hij : i ≠ j) : MC l yX4_takeOver cX4_takeOver 2 none 1 36 0 0 D (tyC C) T [.ref (ad (17 * i + 3)), .ref (ad (17 * j + 3))] (cw ad C G) (RV ad C (fun G1 => G1 = tillOver G i j)) := by
  refine mc_of (by decide +kernel) (Nat.le_of_ble_eq_true rfl) rfl ?_
  refine aw_aload_n (q := 1) 1 dX4_takeOver_0 rfl rfl rfl ?_
  refine g_till_tubes (q := 4) hj wf_RX4_9 dX4_takeOver_1 rfl ?_
  refine aw_iconst (q := 5) dX4_takeOver_4 rfl ?_
  refine aw_aload_n (q := 6) 0 dX4_takeOver_5 rfl rfl rfl ?_
  refine g_till_tubes (q := 9) hi wf_RX4_9 dX4_takeOver_6 rfl ?_
  refine aw_iconst (q := 10) dX4_takeOver_9 rfl ?_
  refine aw_iconst (q := 11) dX4_takeOver_10 rfl ?_
  refine aw_ccopy (q := 14) (ar_tubes ad C hj) (ar_tubes ad C hi) wm_RX4_38 wcopy_n wcopy_s wSys_i (by omega) (by decide) (Nat.le_of_ble_eq_true rfl) (Nat.le_of_ble_eq_true rfl) dX4_takeOver_11 rfl ?_
  refine aw_aload_n (q := 15) 1 dX4_takeOver_14 rfl rfl rfl ?_
  refine g_till_promises (q := 18) hj wf_RX4_15 dX4_takeOver_15 rfl ?_
  refine aw_iconst (q := 19) dX4_takeOver_18 rfl ?_
  refine aw_aload_n (q := 20) 0 dX4_takeOver_19 rfl rfl rfl ?_
  refine g_till_promises (q := 23) hi wf_RX4_15 dX4_takeOver_20 rfl ?_
  refine aw_iconst (q := 24) dX4_takeOver_23 rfl ?_
  refine aw_sipush (q := 27) dX4_takeOver_24 rfl (by decide) ?_
  refine aw_ccopy (q := 30) (ar_prom ad C hj) (ar_prom ad C hi) wm_RX4_38 wcopy_n wcopy_s wSys_i (by omega) (by decide) (Nat.le_of_ble_eq_true rfl) (Nat.le_of_ble_eq_true rfl) dX4_takeOver_27 rfl ?_
  refine aw_aload_n (q := 31) 0 dX4_takeOver_30 rfl rfl rfl ?_
  refine aw_aload_n (q := 32) 1 dX4_takeOver_31 rfl rfl rfl ?_
  refine g_till_box (q := 35) hj (v := (G j 9)) ((if_neg (by omega)).trans (if_neg (by omega))) wf_RX4_25 dX4_takeOver_32 rfl ?_
  refine p_till_box (q := 38) hi wf_RX4_25 dX4_takeOver_35 rfl ?_
  refine aw_aload_n (q := 39) 0 dX4_takeOver_38 rfl rfl rfl ?_
  refine aw_aload_n (q := 40) 1 dX4_takeOver_39 rfl rfl rfl ?_
  refine g_till_promiseCount (q := 43) hj (v := (G j 14)) ((setG_ne (by omega)).trans ((if_neg (by omega)).trans (if_neg (by omega)))) wf_RX4_29 dX4_takeOver_40 rfl ?_
  refine p_till_promiseCount (q := 46) hi wf_RX4_29 dX4_takeOver_43 rfl ?_
  refine aw_aload_n (q := 47) 0 dX4_takeOver_46 rfl rfl rfl ?_
  refine aw_aload_n (q := 48) 1 dX4_takeOver_47 rfl rfl rfl ?_
  refine g_till_promiseSum (q := 51) hj (v := (G j 311)) ((setG_ne (by omega)).trans ((setG_ne (by omega)).trans ((if_neg (by omega)).trans (if_neg (by omega))))) wf_RX4_32 dX4_takeOver_48 rfl ?_
  refine p_till_promiseSum (q := 54) hi wf_RX4_32 dX4_takeOver_51 rfl ?_
  refine aw_aload_n (q := 55) 0 dX4_takeOver_54 rfl rfl rfl ?_
  refine aw_aload_n (q := 56) 1 dX4_takeOver_55 rfl rfl rfl ?_
  refine g_till_promisesPaid (q := 59) hj (v := (G j 11)) ((setG_ne (by omega)).trans ((setG_ne (by omega)).trans ((setG_ne (by omega)).trans ((if_neg (by omega)).trans (if_neg (by omega)))))) wf_RX4_35 dX4_takeOver_56 rfl ?_
  refine p_till_promisesPaid (q := 62) hi wf_RX4_35 dX4_takeOver_59 rfl ?_
  exact rt_v rfl (Nat.le_refl _) (Nat.le_refl _) (rfl) dX4_takeOver_62
