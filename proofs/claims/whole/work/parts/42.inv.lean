/-! calls keep the page's invariant -/
/-- of promises and tubes no hour takes anything -/
theorem hour_ne {g : Row} (o : okH g) {y : Int} (h : (y < 10 ∨ y = 11 ∨ y = 13 ∨ y = 14) ∨ 111 ≤ y) : hourR g y = g y := (up_n (by omega)).trans ((inv4' o).1 y (by omega))
theorem hours_ne {g : Row} (o : okH g) {y : Int} (h : (y < 10 ∨ y = 11 ∨ y = 13 ∨ y = 14) ∨ 111 ≤ y) : ∀ n : Nat, hoursR g n y = g y
  | 0 => rfl
  | n + 1 => (hour_ne (okH_hours o n) h).trans (hours_ne o h n)
theorem hours_10 {g : Row} (o : okH g) : ∀ n : Nat, hoursR g n 10 = g 10 + n
  | 0 => by show g 10 = g 10 + ((0 : Nat) : Int); omega
  | n + 1 => by
    show up (h4R (hoursR g n)) 10 (hoursR g n 10 + 1) 10 = g 10 + ((n + 1 : Nat) : Int)
    have e : up (h4R (hoursR g n)) 10 (hoursR g n 10 + 1) 10 = hoursR g n 10 + 1 := if_pos rfl
    rw [e, hours_10 o n]
    omega
/-- promises and tubes alone -/
theorem okPR_congr {G H : GG} {i j : Int} (h : ∀ y : Int, (5 ≤ y ∧ y < 9) ∨ y = 14 ∨ (111 ≤ y ∧ y < 312) → H i y = G j y) (o : okP G j ∧ okR G j) : okP H i ∧ okR H i := by
  obtain ⟨⟨p1, p2, p3⟩, o1, o2, o3⟩ := o
  have e14 : H i 14 = G j 14 := h 14 (by omega)
  refine ⟨⟨by rw [e14]; exact p1, fun m z0 z1 => by rw [e14] at z1; rw [h (111 + m) (by omega)]; exact p2 m z0 z1, fun k z0 z1 => by rw [h (5 + k) (by omega)]; exact p3 k z0 z1⟩, fun m z0 z1 => by rw [e14] at z1; rw [h (111 + m) (by omega)]; exact o1 m z0 z1, ?_, by rw [h 311 (by omega)]; exact o3⟩
  rw [h 311 (by omega), e14, o2]
  exact sumQ_eq _ (fun m z0 z1 => (h (111 + m) (by omega)).symm)
theorem okN_hours {G : GG} {i : Int} (o : okN G i) (n : Nat) : okN (onR G i (hoursR (G i) n)) i := by
  have e : onR G i (hoursR (G i) n) i = hoursR (G i) n := onR_at _ _ _
  refine ⟨by rw [e]; exact okH_hours o.1 n, okPR_congr (G := G) (j := i) (fun y hy => ?_) o.2⟩
  rw [e]
  exact hours_ne o.1 (by omega) n
theorem okN_goods {G : GG} {i c v : Int} (hc : 0 ≤ c ∧ c < 8) (hv : 0 ≤ v ∧ v ≤ 20) (o : okN G i) : okN (setG G i (15 + 12 * c + 1) v) i := by
  refine ⟨?_, okPR_congr (G := G) (j := i) (fun y hy => setG_ne (by omega)) o.2⟩
  obtain ⟨os, oc, ok⟩ := o.1
  have ne : ∀ y : Int, y ≠ 15 + 12 * c + 1 → setG G i (15 + 12 * c + 1) v i y = G i y := fun y h => setG_ne (by omega)
  refine ⟨?_, by rw [ne 13 (by omega)]; exact oc, fun d z0 z1 => ?_⟩
  · unfold okS at *
    rw [ne 0 (by omega), ne 1 (by omega), ne 2 (by omega), ne 3 (by omega), ne 4 (by omega)]
    exact os
  · rw [ne 13 (by omega)] at z1
    have k := ok d z0 z1
    unfold okC at *
    rw [ne (15 + 12 * d + 2) (by omega), ne (15 + 12 * d + 3) (by omega), ne (15 + 12 * d + 4) (by omega), ne (15 + 12 * d + 5) (by omega), ne (15 + 12 * d + 9) (by omega), ne (15 + 12 * d + 10) (by omega), ne (15 + 12 * d + 11) (by omega), ne (15 + 12 * d) (by omega)]
    refine ⟨?_, k.2⟩
    by_cases z : d = c
    · rw [z, setG_same]; exact hv
    · rw [ne _ (by omega)]; exact k.1
