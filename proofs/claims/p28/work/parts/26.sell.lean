abbrev backF (G : GG) (i c pg : Int) : Int := worthF (G pg) 0 - G i (15 + 12 * c + 2)
abbrev uF (G : GG) (i pg k : Int) : Int := min 30 (G i (5 + k) + G pg k)
abbrev canU (G : GG) (i pg a : Int) : Prop := canF (min 30 (G i 5 + G pg 0)) (min 30 (G i 6 + G pg 1)) (min 30 (G i 7 + G pg 2)) (min 30 (G i 8 + G pg 3)) a
abbrev canSellP (G : GG) (i c pg : Int) : Prop := 1 ≤ G i (15 + 12 * c + 1) ∧ 0 ≤ backF G i c pg ∧ (canU G i pg (backF G i c pg) ∨ G i 311 + backF G i c pg ≤ G i 3)
abbrev saleS (i c : Int) : Int → Int → Prop := fun x y => x = i ∧ ((5 ≤ y ∧ y < 10) ∨ y = 14 ∨ (111 ≤ y ∧ y < 320) ∨ y = 15 + 12 * c + 1 ∨ y = 15 + 12 * c + 6 ∨ y = 15 + 12 * c + 7 ∨ y = 15 + 12 * c + 10)
/-- behind a sale, before the promises are paid -/
def saleP (G : GG) (i c pg : Int) (H : GG) : Prop :=
  H i (15 + 12 * c + 1) = G i (15 + 12 * c + 1) - 1 ∧ H i (15 + 12 * c + 10) = fadd1 (G i (15 + 12 * c + 10)) ∧ H i (15 + 12 * c + 6) = G i (15 + 12 * c + 6) + 1 ∧ H i (15 + 12 * c + 7) = G i (15 + 12 * c + 7) + G i (15 + 12 * c + 2) ∧
  H i 9 = G i 9 + 5 * (G pg 0 - min (G pg 0) (30 - G i 5)) + 10 * (G pg 1 - min (G pg 1) (30 - G i 6)) + 20 * (G pg 2 - min (G pg 2) (30 - G i 7)) + 50 * (G pg 3 - min (G pg 3) (30 - G i 8)) ∧
  (∀ m : Int, 0 ≤ m → m < G i 14 → H i (111 + m) = G i (111 + m)) ∧ sameB (saleS i c) G H ∧
  ((canU G i pg (backF G i c pg) ∧ H i 14 = G i 14 ∧ H i 311 = G i 311 ∧
      H i 5 = min 30 (G i 5 + G pg 0) - c0F (min 30 (G i 5 + G pg 0)) (min 30 (G i 6 + G pg 1)) (min 30 (G i 7 + G pg 2)) (min 30 (G i 8 + G pg 3)) (backF G i c pg) ∧
      H i 6 = min 30 (G i 6 + G pg 1) - c1F (min 30 (G i 5 + G pg 0)) (min 30 (G i 6 + G pg 1)) (min 30 (G i 7 + G pg 2)) (min 30 (G i 8 + G pg 3)) (backF G i c pg) ∧
      H i 7 = min 30 (G i 7 + G pg 2) - c2F (min 30 (G i 5 + G pg 0)) (min 30 (G i 6 + G pg 1)) (min 30 (G i 7 + G pg 2)) (min 30 (G i 8 + G pg 3)) (backF G i c pg) ∧
      H i 8 = min 30 (G i 8 + G pg 3) - c3F (min 30 (G i 5 + G pg 0)) (min 30 (G i 6 + G pg 1)) (min 30 (G i 7 + G pg 2)) (min 30 (G i 8 + G pg 3)) (backF G i c pg)) ∨
   (¬ canU G i pg (backF G i c pg) ∧ H i 14 = G i 14 + 1 ∧ H i 311 = G i 311 + backF G i c pg ∧ H i (111 + G i 14) = backF G i c pg ∧ H i 5 = min 30 (G i 5 + G pg 0) ∧ H i 6 = min 30 (G i 6 + G pg 1) ∧ H i 7 = min 30 (G i 7 + G pg 2) ∧ H i 8 = min 30 (G i 8 + G pg 3)))
theorem okP_sale {G : GG} {i c pg : Int} {H : GG} (hc : 0 ≤ c ∧ c < 8) (ho : okP G i) (hco : ∀ k : Int, 0 ≤ k → k < 4 → 0 ≤ G pg k ∧ G pg k ≤ 9) (hb : 0 ≤ backF G i c pg ∧ backF G i c pg ≤ 3000) (hn : ¬ canU G i pg (backF G i c pg) → G i 14 < 200) (h : saleP G i c pg H) : okP H i := by
  have q0 := ho.2.2 0 (by omega) (by omega)
  have q1 := ho.2.2 1 (by omega) (by omega)
  have q2 := ho.2.2 2 (by omega) (by omega)
  have q3 := ho.2.2 3 (by omega) (by omega)
  have p0 := hco 0 (by omega) (by omega)
  have p1 := hco 1 (by omega) (by omega)
  have p2 := hco 2 (by omega) (by omega)
  have p3 := hco 3 (by omega) (by omega)
  have o1 := ho.1
  obtain ⟨-, -, -, -, -, hm, hs, h⟩ := h
  have q0 : 0 ≤ G i 5 ∧ G i 5 ≤ 30 := q0
  have q1 : 0 ≤ G i 6 ∧ G i 6 ≤ 30 := q1
  have q2 : 0 ≤ G i 7 ∧ G i 7 ≤ 30 := q2
  have q3 : 0 ≤ G i 8 ∧ G i 8 ≤ 30 := q3
  rcases h with ⟨h1, h14, h311, e0, e1, e2, e3⟩ | ⟨h1, h14, h311, hl, e0, e1, e2, e3⟩
  · have cb := cF_b (h0 := min 30 (G i 5 + G pg 0)) (h1 := min 30 (G i 6 + G pg 1)) (h2 := min 30 (G i 7 + G pg 2)) (h3 := min 30 (G i 8 + G pg 3)) (a := backF G i c pg) (by omega) (by omega) (by omega) (by omega) hb.1
    refine ⟨by omega, fun m z0 z1 => ?_, fun k z0 z1 => ?_⟩
    · rw [hm m z0 (by omega)]; exact ho.2.1 m z0 (by omega)
    · rcases (by omega : k = 0 ∨ k = 1 ∨ k = 2 ∨ k = 3) with rfl | rfl | rfl | rfl
      · show 0 ≤ H i 5 ∧ H i 5 ≤ 30; omega
      · show 0 ≤ H i 6 ∧ H i 6 ≤ 30; omega
      · show 0 ≤ H i 7 ∧ H i 7 ≤ 30; omega
      · show 0 ≤ H i 8 ∧ H i 8 ≤ 30; omega
  · have hn := hn h1
    refine ⟨by omega, fun m z0 z1 => ?_, fun k z0 z1 => ?_⟩
    · by_cases z : m < G i 14
      · rw [hm m z0 z]; exact ho.2.1 m z0 z
      · rw [show m = G i 14 by omega, hl]; exact hb
    · rcases (by omega : k = 0 ∨ k = 1 ∨ k = 2 ∨ k = 3) with rfl | rfl | rfl | rfl
      · show 0 ≤ H i 5 ∧ H i 5 ≤ 30; omega
      · show 0 ≤ H i 6 ∧ H i 6 ≤ 30; omega
      · show 0 ≤ H i 7 ∧ H i 7 ≤ 30; omega
      · show 0 ≤ H i 8 ∧ H i 8 ≤ 30; omega
theorem coilSale_ne {G : GG} {i c x y : Int} (h : ¬ (x = i ∧ (y = 15 + 12 * c + 1 ∨ y = 15 + 12 * c + 6 ∨ y = 15 + 12 * c + 7 ∨ y = 15 + 12 * c + 10))) : coilSale G i c x y = G x y := (setG_ne (by omega)).trans ((setG_ne (by omega)).trans ((setG_ne (by omega)).trans (setG_ne (by omega))))
theorem coilSale_at {G : GG} {i c : Int} : coilSale G i c i (15 + 12 * c + 1) = G i (15 + 12 * c + 1) - 1 ∧ coilSale G i c i (15 + 12 * c + 10) = fadd1 (G i (15 + 12 * c + 10)) ∧ coilSale G i c i (15 + 12 * c + 6) = G i (15 + 12 * c + 6) + 1 ∧ coilSale G i c i (15 + 12 * c + 7) = G i (15 + 12 * c + 7) + G i (15 + 12 * c + 2) :=
  ⟨(setG_ne (by omega)).trans ((setG_ne (by omega)).trans ((setG_ne (by omega)).trans (setG_same _ _ _ _))), (setG_ne (by omega)).trans ((setG_ne (by omega)).trans (setG_same _ _ _ _)), (setG_ne (by omega)).trans (setG_same _ _ _ _), setG_same _ _ _ _⟩
set_option maxHeartbeats 4000000 in
set_option maxRecDepth 100000 in
theorem c_m_canSell {l : Launch} {D : va_G} {C : Nat → ClassId} {T : Nat → Nat} {ad : Int → Nat} (G : GG) {i c : Int} (hi : 0 ≤ i ∧ i < 6) (hc : 0 ≤ c ∧ c < 8) (ht : ∀ k : Int, 0 ≤ k → k < 4 → 0 ≤ G i (5 + k) ∧ G i (5 + k) ≤ 30) {ci pg : Int} (har : isArr ad C ci pg 0 4) (hpg : 6 ≤ pg) (hco : ∀ k : Int, 0 ≤ k → k < 4 → 0 ≤ G pg k ∧ G pg k ≤ 9) (hp : 0 ≤ G i (15 + 12 * c + 2) ∧ G i (15 + 12 * c + 2) ≤ 1000) (hg : 0 ≤ G i (15 + 12 * c + 1) ∧ G i (15 + 12 * c + 1) ≤ 20) (hsum : 0 ≤ G i 311 ∧ G i 311 ≤ 10000) (hlim : 0 ≤ G i 3 ∧ G i 3 ≤ 10000) : MC l yX1_canSell cX1_canSell 4 (some .boolean) 4 108 0 0 D (tyC C) T [.ref (ad (17 * i)), .int (iI c), .ref (ad ci)] (cw ad C G) (RI ad C (fun r G1 => r = b2i (canSellP G i c pg) ∧ sameB (scr i) G G1)) := by
  refine mc_of (by decide +kernel) (Nat.le_of_ble_eq_true rfl) rfl ?_
  have q0 : 0 ≤ G i 5 ∧ G i 5 ≤ 30 := ht 0 (by omega) (by omega)
  have q1 : 0 ≤ G i 6 ∧ G i 6 ≤ 30 := ht 1 (by omega) (by omega)
  have q2 : 0 ≤ G i 7 ∧ G i 7 ≤ 30 := ht 2 (by omega) (by omega)
  have q3 : 0 ≤ G i 8 ∧ G i 8 ≤ 30 := ht 3 (by omega) (by omega)
  have p0 : 0 ≤ G pg 0 ∧ G pg 0 ≤ 9 := hco 0 (by omega) (by omega)
  have p1 : 0 ≤ G pg 1 ∧ G pg 1 ≤ 9 := hco 1 (by omega) (by omega)
  have p2 : 0 ≤ G pg 2 ∧ G pg 2 ≤ 9 := hco 2 (by omega) (by omega)
  have p3 : 0 ≤ G pg 3 ∧ G pg 3 ≤ 9 := hco 3 (by omega) (by omega)
  have hw9 : worthF (G pg) 0 = 5 * G pg 0 + 10 * G pg 1 + 20 * G pg 2 + 50 * G pg 3 := rfl
  have hb9 : backF G i c pg = worthF (G pg) 0 - G i (15 + 12 * c + 2) := rfl
  refine aw_aload_n (q := 1) 2 dX1_canSell_0 rfl rfl rfl ?_
  refine csN_I (q := 4) (As := [.ref (ad ci)]) 1 RX5 (c_worth (T := T) (D := D) (b := 0) G har (fun k z0 z1 => by rw [Int.zero_add]; have := hco k z0 z1; omega)) (fun _ h => h) wc_X5_worth (by decide) wt_X5_worth wn_X5 (by decide) rfl ⟨Nat.le_of_ble_eq_true rfl, Nat.le_of_ble_eq_true rfl⟩ ⟨Nat.le_of_ble_eq_true rfl, Nat.le_of_ble_eq_true rfl⟩ (Nat.le_of_ble_eq_true rfl) dX1_canSell_1 rfl (fun r9 G9 h9 => ?_)
  rw [h9.1, h9.2]
  refine aw_aload_n (q := 5) 0 dX1_canSell_4 rfl rfl rfl ?_
  refine g_mach_coils (q := 8) hi wf_RX1_11 dX1_canSell_5 rfl ?_
  refine aw_iload_n (q := 9) 1 dX1_canSell_8 rfl rfl rfl ?_
  refine aw_coil (q := 10) hi hc dX1_canSell_9 rfl ?_
  refine g_coil_price (q := 13) hi hc (v := (G i (15 + 12 * c + 2))) rfl wf_RX1_67 dX1_canSell_10 rfl ?_
  refine ae_isub (q := 14) ((worthF (G pg) 0) - (G i (15 + 12 * c + 2))) (by omega) dX1_canSell_13 rfl ?_
  refine aw_istore_n (q := 15) (lv2 := [(0, .ref (ad (17 * i))), (1, .int (iI c)), (2, .ref (ad ci)), (3, .int (iI ((worthF (G pg) 0) - (G i (15 + 12 * c + 2)))))]) [1, 2, 3, 0] dX1_canSell_14 rfl rfl (by decide) rfl rfl ?_
  refine aw_aload_n (q := 16) 0 dX1_canSell_15 rfl rfl rfl ?_
  refine g_mach_coils (q := 19) hi wf_RX1_11 dX1_canSell_16 rfl ?_
  refine aw_iload_n (q := 20) 1 dX1_canSell_19 rfl rfl rfl ?_
  refine aw_coil (q := 21) hi hc dX1_canSell_20 rfl ?_
  refine g_coil_goods (q := 24) hi hc (v := (G i (15 + 12 * c + 1))) rfl wf_RX1_59 dX1_canSell_21 rfl ?_
  refine aw_iconst (q := 25) dX1_canSell_24 rfl ?_
  refine aw_icmp_lt (q := 28) dX1_canSell_25 rfl (t := 32) (by decide) (by omega) (by omega) (fun h1 => ?_) (fun h2 => ?_)
  · refine aw_iconst (q := 33) dX1_canSell_32 rfl ?_
    exact rt_z rfl (by first | omega | exact b2i_r _) (Nat.le_refl _) (Nat.le_refl _) (⟨by first | exact (b2i_t (p := canSellP G i c pg) (by first | exact ⟨by omega, by omega, Or.inl (by assumption)⟩ | exact ⟨by omega, by omega, Or.inr (by omega)⟩)).symm | exact (b2i_f (p := canSellP G i c pg) (by rintro ⟨z1, z2, z3⟩; first | omega | (rcases z3 with z3 | z3; · contradiction; · omega))).symm, sameB.rf⟩) dX1_canSell_33
  · refine aw_iload_n (q := 29) 3 dX1_canSell_28 rfl rfl rfl ?_
    refine aw_if_ge (q := 32) dX1_canSell_29 rfl (t := 34) (by decide) (by omega) (fun h3 => ?_) (fun h4 => ?_)
    · refine aw_aload_n (q := 35) 0 dX1_canSell_34 rfl rfl rfl ?_
      refine g_mach_till (q := 38) hi wf_RX1_24 dX1_canSell_35 rfl ?_
      refine aw_aload_n (q := 39) 2 dX1_canSell_38 rfl rfl rfl ?_
      refine aw_iload_n (q := 40) 3 dX1_canSell_39 rfl rfl rfl ?_
      refine cv_I (q := 43) (CC := "") (id := 17 * i + 3) (As := [.ref (ad ci), .int (iI ((worthF (G pg) 0) - (G i (15 + 12 * c + 2))))]) 2 (c_till_after (T := T) (D := D) (ad := ad) G hi (a := backF G i c pg) (by omega) ht har hpg hco) (fun _ h => h) (by omega) (cell_till ad C _ hi) rfl wc_X4_canPayAfter wm_RX1_74 wi_X4_canPayAfter ws_X4_canPayAfter wn_X4 (by decide) rfl ⟨Nat.le_of_ble_eq_true rfl, Nat.le_of_ble_eq_true rfl⟩ ⟨Nat.le_of_ble_eq_true rfl, Nat.le_of_ble_eq_true rfl⟩ (Nat.le_of_ble_eq_true rfl) dX1_canSell_40 rfl (fun r1 H1 h9 => ?_)
      obtain ⟨hr1, -, -, -, -, hs1⟩ := h9
      subst hr1
      refine aw_ifb_ne (q := 46) dX1_canSell_43 rfl (t := 64) (by decide) (fun h5 => ?_) (fun h6 => ?_)
      · refine aw_iconst (q := 65) dX1_canSell_64 rfl ?_
        refine aw_goto (q := 69) dX1_canSell_65 (by decide) ?_
        exact rt_z rfl (by first | omega | exact b2i_r _) (Nat.le_refl _) (Nat.le_refl _) (⟨by first | exact (b2i_t (p := canSellP G i c pg) (by first | exact ⟨by omega, by omega, Or.inl (by assumption)⟩ | exact ⟨by omega, by omega, Or.inr (by omega)⟩)).symm | exact (b2i_f (p := canSellP G i c pg) (by rintro ⟨z1, z2, z3⟩; first | omega | (rcases z3 with z3 | z3; · contradiction; · omega))).symm, hs1⟩) dX1_canSell_69
      · refine aw_aload_n (q := 47) 0 dX1_canSell_46 rfl rfl rfl ?_
        refine g_mach_till (q := 50) hi wf_RX1_24 dX1_canSell_47 rfl ?_
        refine g_till_promiseSum (q := 53) hi (v := (G i 311)) (hs1 _ _ (by omega)) wf_RX1_78 dX1_canSell_50 rfl ?_
        refine aw_iload_n (q := 54) 3 dX1_canSell_53 rfl rfl rfl ?_
        refine ae_iadd (q := 55) ((G i 311) + (worthF (G pg) 0) - (G i (15 + 12 * c + 2))) (by omega) dX1_canSell_54 rfl ?_
        refine aw_aload_n (q := 56) 0 dX1_canSell_55 rfl rfl rfl ?_
        refine g_mach_settings (q := 59) hi wf_RX1_17 dX1_canSell_56 rfl ?_
        refine aw_iconst (q := 60) dX1_canSell_59 rfl ?_
        refine aw_cial (q := 61) (v := (G i 3)) 3 (ar_sets ad C hi) (by omega) (by omega) (hs1 _ _ (by omega)) dX1_canSell_60 rfl ?_
        refine aw_icmp_gt (q := 64) dX1_canSell_61 rfl (t := 68) (by decide) (by omega) (by omega) (fun h7 => ?_) (fun h8 => ?_)
        · refine aw_iconst (q := 69) dX1_canSell_68 rfl ?_
          exact rt_z rfl (by first | omega | exact b2i_r _) (Nat.le_refl _) (Nat.le_refl _) (⟨by first | exact (b2i_t (p := canSellP G i c pg) (by first | exact ⟨by omega, by omega, Or.inl (by assumption)⟩ | exact ⟨by omega, by omega, Or.inr (by omega)⟩)).symm | exact (b2i_f (p := canSellP G i c pg) (by rintro ⟨z1, z2, z3⟩; first | omega | (rcases z3 with z3 | z3; · contradiction; · omega))).symm, hs1⟩) dX1_canSell_69
        · refine aw_iconst (q := 65) dX1_canSell_64 rfl ?_
          refine aw_goto (q := 69) dX1_canSell_65 (by decide) ?_
          exact rt_z rfl (by first | omega | exact b2i_r _) (Nat.le_refl _) (Nat.le_refl _) (⟨by first | exact (b2i_t (p := canSellP G i c pg) (by first | exact ⟨by omega, by omega, Or.inl (by assumption)⟩ | exact ⟨by omega, by omega, Or.inr (by omega)⟩)).symm | exact (b2i_f (p := canSellP G i c pg) (by rintro ⟨z1, z2, z3⟩; first | omega | (rcases z3 with z3 | z3; · contradiction; · omega))).symm, hs1⟩) dX1_canSell_69
    · refine aw_iconst (q := 33) dX1_canSell_32 rfl ?_
      exact rt_z rfl (by first | omega | exact b2i_r _) (Nat.le_refl _) (Nat.le_refl _) (⟨by first | exact (b2i_t (p := canSellP G i c pg) (by first | exact ⟨by omega, by omega, Or.inl (by assumption)⟩ | exact ⟨by omega, by omega, Or.inr (by omega)⟩)).symm | exact (b2i_f (p := canSellP G i c pg) (by rintro ⟨z1, z2, z3⟩; first | omega | (rcases z3 with z3 | z3; · contradiction; · omega))).symm, sameB.rf⟩) dX1_canSell_33
/-- a sale: what is answered, and the page behind it -/
def sellP (G : GG) (i c pg : Int) (r : Int) (G1 : GG) : Prop := ∃ H, saleP G i c pg H ∧ keepP H i (kpG H i) G1 ∧ r = if canU G i pg (backF G i c pg) then backF G i c pg else -10 - backF G i c pg
set_option maxHeartbeats 4000000 in
set_option maxRecDepth 100000 in
theorem c_m_sell {l : Launch} {D : va_G} {C : Nat → ClassId} {T : Nat → Nat} {ad : Int → Nat} (G : GG) {i c : Int} (hi : 0 ≤ i ∧ i < 6) (hc : 0 ≤ c ∧ c < 8) (ho : okP G i) {ci pg : Int} (har : isArr ad C ci pg 0 4) (hpg : 6 ≤ pg) (hco : ∀ k : Int, 0 ≤ k → k < 4 → 0 ≤ G pg k ∧ G pg k ≤ 9) (hp : 0 ≤ G i (15 + 12 * c + 2) ∧ G i (15 + 12 * c + 2) ≤ 1000) (hg : 0 ≤ G i (15 + 12 * c + 1) ∧ G i (15 + 12 * c + 1) ≤ 20) (hb : 0 ≤ backF G i c pg) (hn : ¬ canU G i pg (backF G i c pg) → G i 14 < 200) (hw : vf_n32 (FP.fadd (fB (G i (15 + 12 * c + 10))) FP.fconst1)) : MC l yX1_sell cX1_sell 5 (some .int) 5 127 0 0 D (tyC C) T [.ref (ad (17 * i)), .int (iI c), .ref (ad ci)] (cw ad C G) (RI ad C (sellP G i c pg)) := by
  refine mc_of (by decide +kernel) (Nat.le_of_ble_eq_true rfl) rfl ?_
  have ht := ho.2.2
  have q0 : 0 ≤ G i 5 ∧ G i 5 ≤ 30 := ht 0 (by omega) (by omega)
  have q1 : 0 ≤ G i 6 ∧ G i 6 ≤ 30 := ht 1 (by omega) (by omega)
  have q2 : 0 ≤ G i 7 ∧ G i 7 ≤ 30 := ht 2 (by omega) (by omega)
  have q3 : 0 ≤ G i 8 ∧ G i 8 ≤ 30 := ht 3 (by omega) (by omega)
  have p0 : 0 ≤ G pg 0 ∧ G pg 0 ≤ 9 := hco 0 (by omega) (by omega)
  have p1 : 0 ≤ G pg 1 ∧ G pg 1 ≤ 9 := hco 1 (by omega) (by omega)
  have p2 : 0 ≤ G pg 2 ∧ G pg 2 ≤ 9 := hco 2 (by omega) (by omega)
  have p3 : 0 ≤ G pg 3 ∧ G pg 3 ≤ 9 := hco 3 (by omega) (by omega)
  have hw9 : worthF (G pg) 0 = 5 * G pg 0 + 10 * G pg 1 + 20 * G pg 2 + 50 * G pg 3 := rfl
  have hb9 : backF G i c pg = worthF (G pg) 0 - G i (15 + 12 * c + 2) := rfl
  have o1 := ho.1
  refine aw_aload_n (q := 1) 2 dX1_sell_0 rfl rfl rfl ?_
  refine csN_I (q := 4) (As := [.ref (ad ci)]) 1 RX5 (c_worth (T := T) (D := D) (b := 0) G har (fun k z0 z1 => by rw [Int.zero_add]; have := hco k z0 z1; omega)) (fun _ h => h) wc_X5_worth (by decide) wt_X5_worth wn_X5 (by decide) rfl ⟨Nat.le_of_ble_eq_true rfl, Nat.le_of_ble_eq_true rfl⟩ ⟨Nat.le_of_ble_eq_true rfl, Nat.le_of_ble_eq_true rfl⟩ (Nat.le_of_ble_eq_true rfl) dX1_sell_1 rfl (fun r9 G9 h9 => ?_)
  rw [h9.1, h9.2]
  refine aw_aload_n (q := 5) 0 dX1_sell_4 rfl rfl rfl ?_
  refine g_mach_coils (q := 8) hi wf_RX1_11 dX1_sell_5 rfl ?_
  refine aw_iload_n (q := 9) 1 dX1_sell_8 rfl rfl rfl ?_
  refine aw_coil (q := 10) hi hc dX1_sell_9 rfl ?_
  refine g_coil_price (q := 13) hi hc (v := (G i (15 + 12 * c + 2))) rfl wf_RX1_67 dX1_sell_10 rfl ?_
  refine ae_isub (q := 14) ((worthF (G pg) 0) - (G i (15 + 12 * c + 2))) (by omega) dX1_sell_13 rfl ?_
  refine aw_istore_n (q := 15) (lv2 := [(0, .ref (ad (17 * i))), (1, .int (iI c)), (2, .ref (ad ci)), (3, .int (iI ((worthF (G pg) 0) - (G i (15 + 12 * c + 2)))))]) [1, 2, 3, 0] dX1_sell_14 rfl rfl (by decide) rfl rfl ?_
  refine aw_aload_n (q := 16) 0 dX1_sell_15 rfl rfl rfl ?_
  refine g_mach_coils (q := 19) hi wf_RX1_11 dX1_sell_16 rfl ?_
  refine aw_iload_n (q := 20) 1 dX1_sell_19 rfl rfl rfl ?_
  refine aw_coil (q := 21) hi hc dX1_sell_20 rfl ?_
  refine cv_V (q := 24) (CC := "") (id := 17 * i + 9 + c) (As := []) 0 (c_coil_noteSale (T := T) (D := D) (ad := ad) G hi hc hw) (fun _ h => h) (by omega) (cell_coil ad C _ hi hc) rfl wc_X0_noteSale wm_RX1_81 wi_X0_noteSale ws_X0_noteSale wn_X0 (by decide) rfl ⟨Nat.le_of_ble_eq_true rfl, Nat.le_of_ble_eq_true rfl⟩ ⟨Nat.le_of_ble_eq_true rfl, Nat.le_of_ble_eq_true rfl⟩ (Nat.le_of_ble_eq_true rfl) dX1_sell_21 rfl (fun G9 h9 => ?_)
  rw [h9]
  refine aw_aload_n (q := 25) 0 dX1_sell_24 rfl rfl rfl ?_
  refine g_mach_till (q := 28) hi wf_RX1_24 dX1_sell_25 rfl ?_
  refine aw_aload_n (q := 29) 2 dX1_sell_28 rfl rfl rfl ?_
  refine cv_V (q := 32) (CC := "") (id := 17 * i + 3) (As := [.ref (ad ci)]) 1 (c_till_takeIn (T := T) (D := D) (ad := ad) (coilSale G i c) hi (fun k z0 z1 => by rw [coilSale_ne (by omega)]; exact ht k z0 z1) har hpg (fun k z0 z1 => by rw [coilSale_ne (by omega)]; exact hco k z0 z1)) (fun _ h => h) (by omega) (cell_till ad C _ hi) rfl wc_X4_takeIn wm_RX1_84 wi_X4_takeIn ws_X4_takeIn wn_X4 (by decide) rfl ⟨Nat.le_of_ble_eq_true rfl, Nat.le_of_ble_eq_true rfl⟩ ⟨Nat.le_of_ble_eq_true rfl, Nat.le_of_ble_eq_true rfl⟩ (Nat.le_of_ble_eq_true rfl) dX1_sell_29 rfl (fun G2 hI => ?_)
  have hT2 : ∀ k : Int, 0 ≤ k → k < 4 → 0 ≤ G2 i (5 + k) ∧ G2 i (5 + k) ≤ 30 := fun k z0 z1 => by
    obtain ⟨i0, i1, i2, i3, -, -⟩ := hI
    have s0 : coilSale G i c i 5 = G i 5 := coilSale_ne (by omega)
    have s1 : coilSale G i c i 6 = G i 6 := coilSale_ne (by omega)
    have s2 : coilSale G i c i 7 = G i 7 := coilSale_ne (by omega)
    have s3 : coilSale G i c i 8 = G i 8 := coilSale_ne (by omega)
    have r0 : coilSale G i c pg 0 = G pg 0 := coilSale_ne (by omega)
    have r1 : coilSale G i c pg 1 = G pg 1 := coilSale_ne (by omega)
    have r2 : coilSale G i c pg 2 = G pg 2 := coilSale_ne (by omega)
    have r3 : coilSale G i c pg 3 = G pg 3 := coilSale_ne (by omega)
    rcases (by omega : k = 0 ∨ k = 1 ∨ k = 2 ∨ k = 3) with rfl | rfl | rfl | rfl
    · show 0 ≤ G2 i 5 ∧ G2 i 5 ≤ 30; omega
    · show 0 ≤ G2 i 6 ∧ G2 i 6 ≤ 30; omega
    · show 0 ≤ G2 i 7 ∧ G2 i 7 ≤ 30; omega
    · show 0 ≤ G2 i 8 ∧ G2 i 8 ≤ 30; omega
  obtain ⟨i0, i1, i2, i3, i9, his⟩ := hI
  have u0 : G2 i 5 = min 30 (G i 5 + G pg 0) := by
    have s0 : coilSale G i c i 5 = G i 5 := coilSale_ne (by omega)
    have r0 : coilSale G i c pg 0 = G pg 0 := coilSale_ne (by omega)
    omega
  have u1 : G2 i 6 = min 30 (G i 6 + G pg 1) := by
    have s0 : coilSale G i c i 6 = G i 6 := coilSale_ne (by omega)
    have r0 : coilSale G i c pg 1 = G pg 1 := coilSale_ne (by omega)
    omega
  have u2 : G2 i 7 = min 30 (G i 7 + G pg 2) := by
    have s0 : coilSale G i c i 7 = G i 7 := coilSale_ne (by omega)
    have r0 : coilSale G i c pg 2 = G pg 2 := coilSale_ne (by omega)
    omega
  have u3 : G2 i 8 = min 30 (G i 8 + G pg 3) := by
    have s0 : coilSale G i c i 8 = G i 8 := coilSale_ne (by omega)
    have r0 : coilSale G i c pg 3 = G pg 3 := coilSale_ne (by omega)
    omega
  have u9 : G2 i 9 = G i 9 + 5 * (G pg 0 - min (G pg 0) (30 - G i 5)) + 10 * (G pg 1 - min (G pg 1) (30 - G i 6)) + 20 * (G pg 2 - min (G pg 2) (30 - G i 7)) + 50 * (G pg 3 - min (G pg 3) (30 - G i 8)) := by
    have s0 : coilSale G i c i 5 = G i 5 := coilSale_ne (by omega)
    have s1 : coilSale G i c i 6 = G i 6 := coilSale_ne (by omega)
    have s2 : coilSale G i c i 7 = G i 7 := coilSale_ne (by omega)
    have s3 : coilSale G i c i 8 = G i 8 := coilSale_ne (by omega)
    have s9 : coilSale G i c i 9 = G i 9 := coilSale_ne (by omega)
    have r0 : coilSale G i c pg 0 = G pg 0 := coilSale_ne (by omega)
    have r1 : coilSale G i c pg 1 = G pg 1 := coilSale_ne (by omega)
    have r2 : coilSale G i c pg 2 = G pg 2 := coilSale_ne (by omega)
    have r3 : coilSale G i c pg 3 = G pg 3 := coilSale_ne (by omega)
    rw [i9, s0, s1, s2, s3, s9, r0, r1, r2, r3]
  refine aw_aload_n (q := 33) 0 dX1_sell_32 rfl rfl rfl ?_
  refine g_mach_till (q := 36) hi wf_RX1_24 dX1_sell_33 rfl ?_
  refine aw_iload_n (q := 37) 3 dX1_sell_36 rfl rfl rfl ?_
  refine cv_I (q := 40) (CC := "") (id := 17 * i + 3) (As := [.int (iI ((worthF (G pg) 0) - (G i (15 + 12 * c + 2))))]) 1 (c_till_canPay (T := T) (D := D) (ad := ad) G2 hi (a := backF G i c pg) (by omega) hT2) (fun _ h => h) (by omega) (cell_till ad C _ hi) rfl wc_X4_canPay wm_RX1_88 wi_X4_canPay ws_X4_canPay wn_X4 (by decide) rfl ⟨Nat.le_of_ble_eq_true rfl, Nat.le_of_ble_eq_true rfl⟩ ⟨Nat.le_of_ble_eq_true rfl, Nat.le_of_ble_eq_true rfl⟩ (Nat.le_of_ble_eq_true rfl) dX1_sell_37 rfl (fun r1 G3 h9 => ?_)
  rw [u0, u1, u2, u3] at h9
  obtain ⟨hr1, f0, f1, f2, f3, hs1⟩ := h9
  subst hr1
  have v14 : G3 i 14 = G i 14 := (hs1 i 14 (by omega)).trans ((his i 14 (by omega)).trans (coilSale_ne (by omega)))
  have v311 : G3 i 311 = G i 311 := (hs1 i 311 (by omega)).trans ((his i 311 (by omega)).trans (coilSale_ne (by omega)))
  have v9 := (hs1 i 9 (by omega)).trans u9
  have vm : ∀ m : Int, 0 ≤ m → m < G i 14 → G3 i (111 + m) = G i (111 + m) := fun m z0 z1 => (hs1 i (111 + m) (by omega)).trans ((his i (111 + m) (by omega)).trans (coilSale_ne (by omega)))
  have vs : sameB (saleS i c) G G3 := fun x y z => (hs1 x y (by omega)).trans ((his x y (by omega)).trans (coilSale_ne (by omega)))
  have vc : ∀ y : Int, 15 ≤ y → y < 111 → G3 i y = coilSale G i c i y := fun y z0 z1 => (hs1 i y (by omega)).trans (his i y (by omega))
  refine aw_istore (q := 42) (lv2 := [(0, .ref (ad (17 * i))), (1, .int (iI c)), (2, .ref (ad ci)), (3, .int (iI ((worthF (G pg) 0) - (G i (15 + 12 * c + 2))))), (4, .int (iI ((b2i (canU G i pg (backF G i c pg))))))]) [1, 2, 3, 4, 0] dX1_sell_40 rfl (by decide) rfl rfl ?_
  refine aw_iload (q := 44) 4 dX1_sell_42 rfl rfl ?_
  refine aw_ifb_eq (q := 47) dX1_sell_44 rfl (t := 57) (by decide) (fun h1 => ?_) (fun h2 => ?_)
  · refine aw_aload_n (q := 58) 0 dX1_sell_57 rfl rfl rfl ?_
    refine g_mach_till (q := 61) hi wf_RX1_24 dX1_sell_58 rfl ?_
    refine aw_iload_n (q := 62) 3 dX1_sell_61 rfl rfl rfl ?_
    refine cv_V (q := 65) (CC := "") (id := 17 * i + 3) (As := [.int (iI ((worthF (G pg) 0) - (G i (15 + 12 * c + 2))))]) 1 (c_till_addPromise (T := T) (D := D) (ad := ad) G3 hi (a := backF G i c pg) (by rw [v14]; have := hn (by assumption); omega)) (fun _ h => h) (by omega) (cell_till ad C _ hi) rfl wc_X4_addPromise wm_RX1_95 wi_X4_addPromise ws_X4_addPromise wn_X4 (by decide) rfl ⟨Nat.le_of_ble_eq_true rfl, Nat.le_of_ble_eq_true rfl⟩ ⟨Nat.le_of_ble_eq_true rfl, Nat.le_of_ble_eq_true rfl⟩ (Nat.le_of_ble_eq_true rfl) dX1_sell_62 rfl (fun G4 h8 => ?_)
    have hsale : saleP G i c pg G4 := by
      have e4 : ∀ y : Int, ¬ (y = 14 ∨ y = 311 ∨ y = 111 + G i 14) → G4 i y = G3 i y := fun y hy => by rw [h8]; unfold addP; exact (setG_ne (by omega)).trans ((setG_ne (by omega)).trans (setG_ne (by omega)))
      have h14 : G4 i 14 = G i 14 + 1 := by rw [h8]; unfold addP; refine (setG_ne (by omega)).trans ((setG_same _ _ _ _).trans ?_); omega
      have h311 : G4 i 311 = G i 311 + backF G i c pg := by rw [h8]; unfold addP; refine (setG_same _ _ _ _).trans ?_; omega
      have hlast : G4 i (111 + G i 14) = backF G i c pg := by rw [h8]; unfold addP; rw [v14]; exact (setG_ne (by omega)).trans ((setG_ne (by omega)).trans (setG_same _ _ _ _))
      refine ⟨?_, ?_, ?_, ?_, (e4 9 (by omega)).trans v9, fun m z0 z1 => (e4 (111 + m) (by omega)).trans (vm m z0 z1), fun x y z => ?_, Or.inr ⟨by assumption, h14, h311, hlast, ?_, ?_, ?_, ?_⟩⟩
      · exact (e4 _ (by omega)).trans ((vc _ (by omega) (by omega)).trans coilSale_at.1)
      · exact (e4 _ (by omega)).trans ((vc _ (by omega) (by omega)).trans coilSale_at.2.1)
      · exact (e4 _ (by omega)).trans ((vc _ (by omega) (by omega)).trans coilSale_at.2.2.1)
      · exact (e4 _ (by omega)).trans ((vc _ (by omega) (by omega)).trans coilSale_at.2.2.2)
      · rw [h8]; unfold addP; rw [v14]; exact (setG_ne (by omega)).trans ((setG_ne (by omega)).trans ((setG_ne (by omega)).trans (vs x y z)))
      · rw [e4 5 (by omega), hs1 i 5 (by omega), u0]
      · rw [e4 6 (by omega), hs1 i 6 (by omega), u1]
      · rw [e4 7 (by omega), hs1 i 7 (by omega), u2]
      · rw [e4 8 (by omega), hs1 i 8 (by omega), u3]
    refine aw_aload_n (q := 66) 0 dX1_sell_65 rfl rfl rfl ?_
    refine g_mach_till (q := 69) hi wf_RX1_24 dX1_sell_66 rfl ?_
    refine cv_V (q := 72) (CC := "") (id := 17 * i + 3) (As := []) 0 (c_till_payPromises (T := T) (D := D) (ad := ad) G4 hi (okP_sale hc ho hco ⟨by omega, by omega⟩ hn hsale)) (fun _ h => h) (by omega) (cell_till ad C _ hi) rfl wc_X4_payPromises wm_RX1_99 wi_X4_payPromises ws_X4_payPromises wn_X4 (by decide) rfl ⟨Nat.le_of_ble_eq_true rfl, Nat.le_of_ble_eq_true rfl⟩ ⟨Nat.le_of_ble_eq_true rfl, Nat.le_of_ble_eq_true rfl⟩ (Nat.le_of_ble_eq_true rfl) dX1_sell_69 rfl (fun G5 hK5 => ?_)
    refine aw_iload (q := 74) 4 dX1_sell_72 rfl rfl ?_
    refine aw_ifb_eq (q := 77) dX1_sell_74 rfl (t := 81) (by decide) (fun h3 => ?_) (fun h4 => ?_)
    · refine aw_bipush (q := 83) dX1_sell_81 rfl (by decide) ?_
      refine aw_iload_n (q := 84) 3 dX1_sell_83 rfl rfl rfl ?_
      refine ae_isub (q := 85) ((G i (15 + 12 * c + 2)) - (worthF (G pg) 0) - 10) (by omega) dX1_sell_84 rfl ?_
      exact rt_i rfl (Nat.le_refl _) (Nat.le_refl _) (⟨G4, hsale, hK5, by first | exact (if_pos (by assumption)).symm | (rw [if_neg (by assumption)]; omega) | (exfalso; contradiction)⟩) dX1_sell_85
    · refine aw_iload_n (q := 78) 3 dX1_sell_77 rfl rfl rfl ?_
      refine aw_goto (q := 85) dX1_sell_78 (by decide) ?_
      exact rt_i rfl (Nat.le_refl _) (Nat.le_refl _) (⟨G4, hsale, hK5, by first | exact (if_pos (by assumption)).symm | (rw [if_neg (by assumption)]; omega) | (exfalso; contradiction)⟩) dX1_sell_85
  · refine aw_aload_n (q := 48) 0 dX1_sell_47 rfl rfl rfl ?_
    refine g_mach_till (q := 51) hi wf_RX1_24 dX1_sell_48 rfl ?_
    refine cv_V (q := 54) (CC := "") (id := 17 * i + 3) (As := []) 0 (c_till_payOut (T := T) (D := D) (ad := ad) G3 hi) (fun _ h => h) (by omega) (cell_till ad C _ hi) rfl wc_X4_payOut wm_RX1_92 wi_X4_payOut ws_X4_payOut wn_X4 (by decide) rfl ⟨Nat.le_of_ble_eq_true rfl, Nat.le_of_ble_eq_true rfl⟩ ⟨Nat.le_of_ble_eq_true rfl, Nat.le_of_ble_eq_true rfl⟩ (Nat.le_of_ble_eq_true rfl) dX1_sell_51 rfl (fun G4 h8 => ?_)
    obtain ⟨g0, g1, g2, g3, hs2⟩ := h8
    have hsale : saleP G i c pg G4 := by
      refine ⟨?_, ?_, ?_, ?_, (hs2 i 9 (by omega)).trans v9, fun m z0 z1 => (hs2 i (111 + m) (by omega)).trans (vm m z0 z1), fun x y z => (hs2 x y (by omega)).trans (vs x y z), Or.inl ⟨by assumption, (hs2 i 14 (by omega)).trans v14, (hs2 i 311 (by omega)).trans v311, ?_, ?_, ?_, ?_⟩⟩
      · exact (hs2 i _ (by omega)).trans ((vc _ (by omega) (by omega)).trans coilSale_at.1)
      · exact (hs2 i _ (by omega)).trans ((vc _ (by omega) (by omega)).trans coilSale_at.2.1)
      · exact (hs2 i _ (by omega)).trans ((vc _ (by omega) (by omega)).trans coilSale_at.2.2.1)
      · exact (hs2 i _ (by omega)).trans ((vc _ (by omega) (by omega)).trans coilSale_at.2.2.2)
      · rw [g0, f0, hs1 i 5 (by omega), u0]
      · rw [g1, f1, hs1 i 6 (by omega), u1]
      · rw [g2, f2, hs1 i 7 (by omega), u2]
      · rw [g3, f3, hs1 i 8 (by omega), u3]
    refine aw_goto (q := 65) dX1_sell_54 (by decide) ?_
    refine aw_aload_n (q := 66) 0 dX1_sell_65 rfl rfl rfl ?_
    refine g_mach_till (q := 69) hi wf_RX1_24 dX1_sell_66 rfl ?_
    refine cv_V (q := 72) (CC := "") (id := 17 * i + 3) (As := []) 0 (c_till_payPromises (T := T) (D := D) (ad := ad) G4 hi (okP_sale hc ho hco ⟨by omega, by omega⟩ hn hsale)) (fun _ h => h) (by omega) (cell_till ad C _ hi) rfl wc_X4_payPromises wm_RX1_99 wi_X4_payPromises ws_X4_payPromises wn_X4 (by decide) rfl ⟨Nat.le_of_ble_eq_true rfl, Nat.le_of_ble_eq_true rfl⟩ ⟨Nat.le_of_ble_eq_true rfl, Nat.le_of_ble_eq_true rfl⟩ (Nat.le_of_ble_eq_true rfl) dX1_sell_69 rfl (fun G5 hK5 => ?_)
    refine aw_iload (q := 74) 4 dX1_sell_72 rfl rfl ?_
    refine aw_ifb_eq (q := 77) dX1_sell_74 rfl (t := 81) (by decide) (fun h5 => ?_) (fun h6 => ?_)
    · refine aw_bipush (q := 83) dX1_sell_81 rfl (by decide) ?_
      refine aw_iload_n (q := 84) 3 dX1_sell_83 rfl rfl rfl ?_
      refine ae_isub (q := 85) ((G i (15 + 12 * c + 2)) - (worthF (G pg) 0) - 10) (by omega) dX1_sell_84 rfl ?_
      exact rt_i rfl (Nat.le_refl _) (Nat.le_refl _) (⟨G4, hsale, hK5, by first | exact (if_pos (by assumption)).symm | (rw [if_neg (by assumption)]; omega) | (exfalso; contradiction)⟩) dX1_sell_85
    · refine aw_iload_n (q := 78) 3 dX1_sell_77 rfl rfl rfl ?_
      refine aw_goto (q := 85) dX1_sell_78 (by decide) ?_
      exact rt_i rfl (Nat.le_refl _) (Nat.le_refl _) (⟨G4, hsale, hK5, by first | exact (if_pos (by assumption)).symm | (rw [if_neg (by assumption)]; omega) | (exfalso; contradiction)⟩) dX1_sell_85
