/-! class CoilPrices: buy, salesInARow -/
theorem okH_congr {g g1 : Row} (h : ∀ y : Int, y < 312 → g1 y = g y) (o : okH g) : okH g1 := by
  obtain ⟨os, oc, ok⟩ := o
  have e13 : g1 13 = g 13 := h 13 (by omega)
  refine ⟨?_, by rw [e13]; exact oc, fun d z0 z1 => ?_⟩
  · unfold okS at *
    rw [h 0 (by omega), h 1 (by omega), h 2 (by omega), h 3 (by omega), h 4 (by omega)]
    exact os
  · rw [e13] at z1
    have k := ok d z0 z1
    unfold okC at *
    have e0 := h (15 + 12 * d) (by omega)
    rw [h (15 + 12 * d + 1) (by omega), h (15 + 12 * d + 2) (by omega), h (15 + 12 * d + 3) (by omega), h (15 + 12 * d + 4) (by omega), h (15 + 12 * d + 5) (by omega), h (15 + 12 * d + 9) (by omega), h (15 + 12 * d + 10) (by omega), h (15 + 12 * d + 11) (by omega), e0]
    exact k
theorem okP_congr {G H : GG} {i j : Int} (h : ∀ y : Int, y < 312 → H i y = G j y) (o : okP G j) : okP H i := by
  obtain ⟨o1, o2, o3⟩ := o
  have e14 : H i 14 = G j 14 := h 14 (by omega)
  refine ⟨by rw [e14]; exact o1, fun m z0 z1 => ?_, fun k z0 z1 => by rw [h (5 + k) (by omega)]; exact o3 k z0 z1⟩
  rw [e14] at z1
  rw [h (111 + m) (by omega)]
  exact o2 m z0 z1
theorem okM_congr {G H : GG} (h : ∀ y : Int, y < 312 → H 0 y = G 0 y) (h6 : ∀ y : Int, H 6 y = G 6 y) (o : okM G) : okM H := by
  obtain ⟨o1, o2, o3, o4, o5⟩ := o
  refine ⟨okH_congr h o1, okP_congr h o2, by rw [h 14 (by omega), h 311 (by omega)]; exact o3, by rw [h 10 (by omega)]; exact o4, ?_⟩
  unfold okV at *
  rw [h6, h6, h6, h6, h6]
  exact o5
theorem cinG_ne {G : GG} {a b c d x y : Int} (h : x ≠ 10) : cinG G a b c d x y = G x y := by
  unfold cinG
  rw [setG_ne (by omega), setG_ne (by omega), setG_ne (by omega), setG_ne (by omega)]
theorem cinG_0 (G : GG) (a b c d : Int) : cinG G a b c d 10 0 = a := by
  unfold cinG
  rw [setG_ne (by omega), setG_ne (by omega), setG_ne (by omega), setG_same]
theorem cinG_1 (G : GG) (a b c d : Int) : cinG G a b c d 10 1 = b := by
  unfold cinG
  rw [setG_ne (by omega), setG_ne (by omega), setG_same]
theorem cinG_2 (G : GG) (a b c d : Int) : cinG G a b c d 10 2 = c := by
  unfold cinG
  rw [setG_ne (by omega), setG_same]
theorem cinG_3 (G : GG) (a b c d : Int) : cinG G a b c d 10 3 = d := by
  unfold cinG
  rw [setG_same]
theorem canF_0 {h0 h1 h2 h3 : Int} (b0 : 0 ≤ h0) (b1 : 0 ≤ h1) (b2 : 0 ≤ h2) (b3 : 0 ≤ h3) : canF h0 h1 h2 h3 0 := by
  refine Or.inr ?_
  have e3 : fF h3 0 = 0 := by unfold fF; omega
  rw [e3]
  have e2 : t2F h2 0 0 = 0 := by unfold t2F; omega
  have e1 : t1F h1 h2 0 0 = 0 := by unfold t1F; rw [e2]; omega
  have e0 : t0F h0 h1 h2 0 0 = 0 := by unfold t0F; rw [e2, e1]; omega
  unfold tkF
  rw [if_neg (by omega), e2, e1, e0, if_pos (by omega)]
  omega
/-- what a sale asks, off pages that agree -/
theorem canSell_congr {G H : GG} {i c pg : Int} (hc : 0 ≤ c ∧ c < 8) (h : ∀ y : Int, y < 312 → H i y = G i y) (hp : ∀ y : Int, H pg y = G pg y) : (backF H i c pg = backF G i c pg) ∧ (∀ a, canU H i pg a = canU G i pg a) ∧ (canSellP H i c pg ↔ canSellP G i c pg) := by
  have e1 : backF H i c pg = backF G i c pg := by
    show worthF (H pg) 0 - H i (15 + 12 * c + 2) = worthF (G pg) 0 - G i (15 + 12 * c + 2)
    rw [show H pg = G pg from funext hp, h (15 + 12 * c + 2) (by omega)]
  have e2 : ∀ a, canU H i pg a = canU G i pg a := fun a => by
    show canF (min 30 (H i 5 + H pg 0)) (min 30 (H i 6 + H pg 1)) (min 30 (H i 7 + H pg 2)) (min 30 (H i 8 + H pg 3)) a = canF (min 30 (G i 5 + G pg 0)) (min 30 (G i 6 + G pg 1)) (min 30 (G i 7 + G pg 2)) (min 30 (G i 8 + G pg 3)) a
    rw [hp, hp, hp, hp, h 5 (by omega), h 6 (by omega), h 7 (by omega), h 8 (by omega)]
  refine ⟨e1, e2, ?_⟩
  show (1 ≤ H i (15 + 12 * c + 1) ∧ 0 ≤ backF H i c pg ∧ (canU H i pg (backF H i c pg) ∨ H i 311 + backF H i c pg ≤ H i 3)) ↔ (1 ≤ G i (15 + 12 * c + 1) ∧ 0 ≤ backF G i c pg ∧ (canU G i pg (backF G i c pg) ∨ G i 311 + backF G i c pg ≤ G i 3))
  rw [e1, e2, h (15 + 12 * c + 1) (by omega), h 311 (by omega), h 3 (by omega)]
/-- a promise more has room -/
theorem room_sale {G : GG} {i c pg : Int} (hc : 0 ≤ c ∧ c < 8) (oc : okC (G i) c) (os : okS (G i)) (op : okP G i) (hs : 5 * G i 14 ≤ G i 311 ∧ G i 311 ≤ 1000) (hco : ∀ k : Int, 0 ≤ k → k < 4 → 0 ≤ G pg k ∧ G pg k ≤ 9) (h : canSellP G i c pg) : ¬ canU G i pg (backF G i c pg) → G i 14 < 200 := by
  intro hn
  have hb : backF G i c pg = 5 * G pg 0 + 10 * G pg 1 + 20 * G pg 2 + 50 * G pg 3 - G i (15 + 12 * c + 2) := rfl
  have c0 := hco 0 (by omega) (by omega)
  have c1 := hco 1 (by omega) (by omega)
  have c2 := hco 2 (by omega) (by omega)
  have c3 := hco 3 (by omega) (by omega)
  have t0 : 0 ≤ G i 5 ∧ G i 5 ≤ 30 := op.2.2 0 (by omega) (by omega)
  have t1 : 0 ≤ G i 6 ∧ G i 6 ≤ 30 := op.2.2 1 (by omega) (by omega)
  have t2 : 0 ≤ G i 7 ∧ G i 7 ≤ 30 := op.2.2 2 (by omega) (by omega)
  have t3 : 0 ≤ G i 8 ∧ G i 8 ≤ 30 := op.2.2 3 (by omega) (by omega)
  have m5 := oc.2.2.2.2.2.2.2.2.2.1
  have hl := os.2.2.2.1
  have hz : backF G i c pg ≠ 0 := fun e => hn (by rw [e]; exact canF_0 (by omega) (by omega) (by omega) (by omega))
  rcases h.2.2 with q | q
  · exact absurd q hn
  · have := h.2.1
    omega
