/-! a sale: what the law asks of it -/
theorem canSell_rows {G K : GG} {i j c : Int} (h : ∀ y : Int, y = 3 ∨ (5 ≤ y ∧ y < 9) ∨ y = 311 ∨ y = 15 + 12 * c + 1 ∨ y = 15 + 12 * c + 2 → K i y = G j y) (hp : ∀ y : Int, 0 ≤ y → y < 4 → K 10 y = G 10 y) : canSellP K i c 10 ↔ canSellP G j c 10 := by
  have e : worthF (K 10) 0 = worthF (G 10) 0 := by
    show 5 * K 10 0 + 10 * K 10 1 + 20 * K 10 2 + 50 * K 10 3 = 5 * G 10 0 + 10 * G 10 1 + 20 * G 10 2 + 50 * G 10 3
    rw [hp 0 (by omega) (by omega), hp 1 (by omega) (by omega), hp 2 (by omega) (by omega), hp 3 (by omega) (by omega)]
  unfold canSellP canU backF
  rw [e, h 3 (by omega), h 5 (by omega), h 6 (by omega), h 7 (by omega), h 8 (by omega), h 311 (by omega), h (15 + 12 * c + 1) (by omega), h (15 + 12 * c + 2) (by omega), hp 0 (by omega) (by omega), hp 1 (by omega) (by omega), hp 2 (by omega) (by omega), hp 3 (by omega) (by omega)]
/-- what is put in -/
abbrev putF (a b w d : Int) : Int := 5 * a + 10 * b + 20 * w + 50 * d
theorem cin_worth (G : GG) (a b w d : Int) : worthF (cinG G a b w d 10) 0 = putF a b w d := by
  show 5 * cinG G a b w d 10 0 + 10 * cinG G a b w d 10 1 + 20 * cinG G a b w d 10 2 + 50 * cinG G a b w d 10 3 = _
  rw [cinG_0, cinG_1, cinG_2, cinG_3]
def soldP (G G1 : GG) (c put r : Int) : Prop :=
  0 ≤ put - G 0 (15 + 12 * c + 2) ∧ 1 ≤ G 0 (15 + 12 * c + 1) ∧ G1 0 13 = G 0 13 ∧ (∀ y : Int, 0 ≤ y → y < 5 → G1 0 y = G 0 y) ∧
  G1 0 (15 + 12 * c + 1) = G 0 (15 + 12 * c + 1) - 1 ∧ G1 0 (15 + 12 * c + 6) = G 0 (15 + 12 * c + 6) + 1 ∧ G1 0 (15 + 12 * c + 7) = G 0 (15 + 12 * c + 7) + G 0 (15 + 12 * c + 2) ∧ G1 0 (15 + 12 * c + 10) = fadd1 (G 0 (15 + 12 * c + 10)) ∧
  ((r = put - G 0 (15 + 12 * c + 2) ∧ worthF (G1 0) 5 + G1 0 9 = worthF (G 0) 5 + G 0 9 + put - (put - G 0 (15 + 12 * c + 2)) - (G1 0 11 - G 0 11) ∧ G1 0 311 = G 0 311 - (G1 0 11 - G 0 11)) ∨
   (r = -10 - (put - G 0 (15 + 12 * c + 2)) ∧ worthF (G1 0) 5 + G1 0 9 = worthF (G 0) 5 + G 0 9 + put - (G1 0 11 - G 0 11) ∧ G1 0 311 = G 0 311 + (put - G 0 (15 + 12 * c + 2)) - (G1 0 11 - G 0 11) ∧ G1 0 311 ≤ G 0 3)) ∧
  (G1 0 14 = 0 ∨ ¬ canF (G1 0 5) (G1 0 6) (G1 0 7) (G1 0 8) (G1 0 111))
theorem sell_all {t : Int} {G G1 : GG} {c r : Int} (o : okI t G) (hc : 0 ≤ c ∧ c < G 0 13) (hco : ∀ k : Int, 0 ≤ k → k < 4 → 0 ≤ G 10 k ∧ G 10 k ≤ 9) (hcan : canSellP G 0 c 10) (h : sellP G 0 c 10 r G1) : okI (t + 1) G1 ∧ soldP G G1 c (worthF (G 10) 0) r := by
  have oN1 := okN_sell hc o.1 hco hcan h
  obtain ⟨oh, op, or⟩ := o.1
  have hret := h
  obtain ⟨H, hs, hk, hr⟩ := h
  have h8 := oh.2.1
  have oc := oh.2.2 c hc.1 hc.2
  have m5 := oc.2.2.2.2.2.2.2.2.2.1
  have hb : backF G 0 c 10 = worthF (G 10) 0 - G 0 (15 + 12 * c + 2) := rfl
  have hpw : worthF (G 10) 0 = 5 * G 10 0 + 10 * G 10 1 + 20 * G 10 2 + 50 * G 10 3 := rfl
  have c0 := hco 0 (by omega) (by omega)
  have c1 := hco 1 (by omega) (by omega)
  have c2 := hco 2 (by omega) (by omega)
  have c3 := hco 3 (by omega) (by omega)
  have b0 := hcan.2.1
  have p3 := oc.2.1
  have p2 := oc.2.2.1
  have hn := room_sale (by omega) oc oh.1 op ⟨okR_5 op.1.1 or, or.2.2⟩ hco hcan
  have opH := okP_sale (by omega) op hco (by omega) hn hs
  have ka := keep_all opH hk
  have t0 : 0 ≤ G 0 5 ∧ G 0 5 ≤ 30 := op.2.2 0 (by omega) (by omega)
  have t1 : 0 ≤ G 0 6 ∧ G 0 6 ≤ 30 := op.2.2 1 (by omega) (by omega)
  have t2 : 0 ≤ G 0 7 ∧ G 0 7 ≤ 30 := op.2.2 2 (by omega) (by omega)
  have t3 : 0 ≤ G 0 8 ∧ G 0 8 ≤ 30 := op.2.2 3 (by omega) (by omega)
  have kk : ∀ x y : Int, ¬ kpS 0 x y → G1 x y = H x y := fun x y h2 => hk.2.2.2.2.2.2.2.2 x y h2
  obtain ⟨s1, s10, s6, s7, s9, sm, sB, sA⟩ := hs
  have ne : ∀ x y : Int, ¬ saleS 0 c x y → ¬ kpS 0 x y → G1 x y = G x y := fun x y h1 h2 => (kk x y h2).trans (sB x y h1)
  have e13 : G1 0 13 = G 0 13 := ne 0 13 (by omega) (by omega)
  have e10 : G1 0 10 = G 0 10 := ne 0 10 (by omega) (by omega)
  have h11 : H 0 11 = G 0 11 := sB 0 11 (by omega)
  have g9 : G1 0 9 = H 0 9 := kk 0 9 (by omega)
  refine ⟨⟨oN1, okV_congr (fun y => ne 6 y (by omega) (by omega)) o.2.1, by rw [e10]; have := o.2.2.1; omega, fun d d0 d1 => ?_⟩, ?_⟩
  · rw [e13] at d1
    obtain ⟨q1, q2, q3, q4, q5⟩ := o.2.2.2 d d0 d1
    by_cases z : d = c
    · subst z
      have f6 : G1 0 (15 + 12 * d + 6) = G 0 (15 + 12 * d + 6) + 1 := (kk 0 _ (by omega)).trans s6
      have f7 : G1 0 (15 + 12 * d + 7) = G 0 (15 + 12 * d + 7) + G 0 (15 + 12 * d + 2) := (kk 0 _ (by omega)).trans s7
      have oc5 := oc.2.2.2.1
      have oc6 := oc.2.2.2.2.1
      unfold okX
      rw [f6, f7, ne 0 (15 + 12 * d + 3) (by omega) (by omega), ne 0 (15 + 12 * d + 8) (by omega) (by omega), ne 0 (15 + 12 * d + 9) (by omega) (by omega), e10, e13]
      refine ⟨by omega, ?_, by omega, q4, q5⟩
      rw [Int.add_mul]
      omega
    · exact okX_congr2 (by omega) (fun k hk2 => ne 0 _ (by omega) (by omega)) e13 (by rw [e10]; omega) ⟨q1, q2, q3, q4, q5⟩
  · refine ⟨by omega, hcan.1, e13, fun y y0 y1 => ne 0 y (by omega) (by omega), (kk 0 _ (by omega)).trans s1, (kk 0 _ (by omega)).trans s6, (kk 0 _ (by omega)).trans s7, (kk 0 _ (by omega)).trans s10, ?_, ka.2.2.2.1⟩
    rw [ka.1, ka.2.1, g9, s9, h11]
    rcases sA with ⟨hu, h14, h311, e5, e6, e7, e8⟩ | ⟨hu, h14, h311, hl, e5, e6, e7, e8⟩
    · left
      rw [if_pos hu] at hr
      have cs := canF_sum hu
      have w : worthF (H 0) 5 = 5 * H 0 5 + 10 * H 0 6 + 20 * H 0 7 + 50 * H 0 8 := rfl
      have wg : worthF (G 0) 5 = 5 * G 0 5 + 10 * G 0 6 + 20 * G 0 7 + 50 * G 0 8 := rfl
      refine ⟨by omega, ?_, by omega⟩
      rw [w, wg, e5, e6, e7, e8]
      omega
    · right
      rw [if_neg hu] at hr
      have w : worthF (H 0) 5 = 5 * H 0 5 + 10 * H 0 6 + 20 * H 0 7 + 50 * H 0 8 := rfl
      have wg : worthF (G 0) 5 = 5 * G 0 5 + 10 * G 0 6 + 20 * G 0 7 + 50 * G 0 8 := rfl
      have hlim : G 0 311 + backF G 0 c 10 ≤ G 0 3 := by
        rcases hcan.2.2 with hq | hq
        · exact absurd hq hu
        · exact hq
      refine ⟨by omega, ?_, by omega, by omega⟩
      rw [w, wg, e5, e6, e7, e8]
      omega
/-! customers in a row -/
theorem sales_out {c : Int} (hc : 0 ≤ c ∧ c < 8) : ∀ (n : Nat) {G G1 : GG} {r : Int}, salesP 1 c n G r G1 → ∀ x y : Int, x ≠ 1 → G1 x y = G x y
  | 0, G, G1, r, h, x, y, hx => by rw [h.2]
  | n + 1, G, G1, r, h, x, y, hx => by
    rcases h with ⟨-, -, hs⟩ | ⟨-, K, H, z, hs, hse, hn⟩
    · exact hs x y (by omega)
    · rw [sales_out hc n hn x y hx, sell_ne hse (by omega) (by omega), hs x y (by omega)]
theorem sales_r {c : Int} (hc : 0 ≤ c ∧ c < 8) : ∀ (n : Nat) {G G1 : GG} {r : Int}, salesP 1 c n G r G1 → 0 ≤ G 1 (15 + 12 * c + 1) → (0 ≤ r ∧ r ≤ n ∧ r ≤ G 1 (15 + 12 * c + 1)) ∧ (¬ canSellP G 1 c 10 → r = 0) ∧ (1 ≤ n → canSellP G 1 c 10 → 1 ≤ r)
  | 0, G, G1, r, h, h0 => by
    have hr := h.1
    exact ⟨by omega, fun _ => hr, fun h1 => by omega⟩
  | n + 1, G, G1, r, h, h0 => by
    rcases h with ⟨hn, hr, hs⟩ | ⟨hcan, K, H, z, hs, hse, hn⟩
    · exact ⟨by omega, fun _ => hr, fun _ hq => absurd hq hn⟩
    · have h1 := hcan.1
      have e1 : H 1 (15 + 12 * c + 1) = G 1 (15 + 12 * c + 1) - 1 := by
        obtain ⟨S, s1, s2, -⟩ := hse
        rw [s2.2.2.2.2.2.2.2.2 1 _ (by omega), s1.1, hs 1 _ (by omega)]
      have ih := sales_r hc n hn (by omega)
      exact ⟨by omega, fun hq => absurd hcan hq, fun _ _ => by omega⟩
/-- all that the law asks of salesInARow -/
theorem row_all {t : Int} {G K2 G1 : GG} {c b d r : Int} (o : okI t G) (hc : 0 ≤ c ∧ c < G 0 13) (v : overP (cinG G 0 b 0 d) 1 0 K2) (h : salesP 1 c 20 K2 r G1) : eq0 G G1 ∧ (0 ≤ r ∧ r ≤ 20 ∧ r ≤ G 0 (15 + 12 * c + 1)) ∧ (1 ≤ r ↔ canSellP (cinG G 0 b 0 d) 0 c 10) := by
  have h8 := o.1.1.2.1
  have oc := o.1.1.2.2 c hc.1 hc.2
  have out := sales_out (c := c) (by omega) 20 h
  have z : ∀ y : Int, cinG G 0 b 0 d 0 y = G 0 y := fun y => cinG_ne (by omega)
  have p1 : ∀ y : Int, (0 ≤ y ∧ y < 15 + 12 * G 0 13) ∨ (111 ≤ y ∧ y < 312) → K2 1 y = G 0 y := fun y hy => by
    rw [← z y]
    have e13 := z 13
    by_cases z1 : y < 15
    · exact v.1 y (by omega) z1
    · by_cases z2 : y < 15 + 12 * G 0 13
      · exact v.2.1 y (by omega) (by omega)
      · exact v.2.2.1 y (by omega) (by omega)
  have e1 : K2 1 (15 + 12 * c + 1) = G 0 (15 + 12 * c + 1) := p1 _ (by omega)
  have oc1 := oc.1
  have hr := sales_r (c := c) (by omega) 20 h (by omega)
  have hcs : canSellP K2 1 c 10 ↔ canSellP (cinG G 0 b 0 d) 0 c 10 := canSell_rows (fun y hy => (p1 y (by omega)).trans (z y).symm) (fun y _ _ => overP_out v (by omega))
  refine ⟨⟨fun y hy => (out 0 y (by omega)).trans ((overP_out v (by omega)).trans (z y)), fun y => (out 6 y (by omega)).trans ((overP_out v (by omega)).trans (cinG_ne (by omega))), fun x y hx => (out x y (by omega)).trans ((overP_out v (by omega)).trans (cinG_ne (by omega)))⟩, by omega, ?_⟩
  rw [← hcs]
  constructor
  · intro h1
    by_cases q : canSellP K2 1 c 10
    · exact q
    · have := hr.2.1 q
      omega
  · exact hr.2.2 (by omega)
