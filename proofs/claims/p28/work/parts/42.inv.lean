/-! calls keep the page's invariant -/
/-- of promises and tubes no hour takes anything -/
theorem hour_ne {g : Row} (o : okH g) {y : Int} (h : (y < 10 ∨ y = 11 ∨ y = 13 ∨ y = 14) ∨ 111 ≤ y) : hourR g y = g y := (up_n (by omega)).trans ((inv4' o).1 y (by omega))
theorem hours_ne {g : Row} (o : okH g) {y : Int} (h : (y < 10 ∨ y = 11 ∨ y = 13 ∨ y = 14) ∨ 111 ≤ y) : ∀ n : Nat, hoursR g n y = g y
  | 0 => rfl
  | n + 1 => (hour_ne (okH_hours o n) h).trans (hours_ne o h n)
theorem hours_10 {g : Row} (o : okH g) : ∀ n : Nat, hoursR g n 10 = g 10 + n
  | 0 => by show g 10 = g 10 + ((0 : Nat) : Int); omega
  | n + 1 => by
    show up (h4R (hoursR g n)) 10 (hoursR g n 10 + 1) 10 = g 10 + ((n + 1 : Nat) : Int)
    have e : up (h4R (hoursR g n)) 10 (hoursR g n 10 + 1) 10 = hoursR g n 10 + 1 := if_pos rfl
    rw [e, hours_10 o n]
    omega
/-- promises and tubes alone -/
theorem okPR_congr {G H : GG} {i j : Int} (h : ∀ y : Int, (5 ≤ y ∧ y < 9) ∨ y = 14 ∨ (111 ≤ y ∧ y < 312) → H i y = G j y) (o : okP G j ∧ okR G j) : okP H i ∧ okR H i := by
  obtain ⟨⟨p1, p2, p3⟩, o1, o2, o3⟩ := o
  have e14 : H i 14 = G j 14 := h 14 (by omega)
  refine ⟨⟨by rw [e14]; exact p1, fun m z0 z1 => by rw [e14] at z1; rw [h (111 + m) (by omega)]; exact p2 m z0 z1, fun k z0 z1 => by rw [h (5 + k) (by omega)]; exact p3 k z0 z1⟩, fun m z0 z1 => by rw [e14] at z1; rw [h (111 + m) (by omega)]; exact o1 m z0 z1, ?_, by rw [h 311 (by omega)]; exact o3⟩
  rw [h 311 (by omega), e14, o2]
  exact sumQ_eq _ (fun m z0 z1 => (h (111 + m) (by omega)).symm)
theorem okN_hours {G : GG} {i : Int} (o : okN G i) (n : Nat) : okN (onR G i (hoursR (G i) n)) i := by
  have e : onR G i (hoursR (G i) n) i = hoursR (G i) n := onR_at _ _ _
  refine ⟨by rw [e]; exact okH_hours o.1 n, okPR_congr (G := G) (j := i) (fun y hy => ?_) o.2⟩
  rw [e]
  exact hours_ne o.1 (by omega) n
theorem okN_goods {G : GG} {i c v : Int} (hc : 0 ≤ c ∧ c < 8) (hv : 0 ≤ v ∧ v ≤ 20) (o : okN G i) : okN (setG G i (15 + 12 * c + 1) v) i := by
  refine ⟨?_, okPR_congr (G := G) (j := i) (fun y hy => setG_ne (by omega)) o.2⟩
  obtain ⟨os, oc, ok⟩ := o.1
  have ne : ∀ y : Int, y ≠ 15 + 12 * c + 1 → setG G i (15 + 12 * c + 1) v i y = G i y := fun y h => setG_ne (by omega)
  refine ⟨?_, by rw [ne 13 (by omega)]; exact oc, fun d z0 z1 => ?_⟩
  · unfold okS at *
    rw [ne 0 (by omega), ne 1 (by omega), ne 2 (by omega), ne 3 (by omega), ne 4 (by omega)]
    exact os
  · rw [ne 13 (by omega)] at z1
    have k := ok d z0 z1
    unfold okC at *
    rw [ne (15 + 12 * d + 2) (by omega), ne (15 + 12 * d + 3) (by omega), ne (15 + 12 * d + 4) (by omega), ne (15 + 12 * d + 5) (by omega), ne (15 + 12 * d + 9) (by omega), ne (15 + 12 * d + 10) (by omega), ne (15 + 12 * d + 11) (by omega), ne (15 + 12 * d) (by omega)]
    refine ⟨?_, k.2⟩
    by_cases z : d = c
    · rw [z, setG_same]; exact hv
    · rw [ne _ (by omega)]; exact k.1
/-- a keeping of promises leaves settings and coils -/
theorem okH_keep {G G1 : GG} {i : Int} {r : Int × Int × Int × Int × Int} (o : okH (G i)) (h : keepP G i r G1) : okH (G1 i) := by
  have ne : ∀ y : Int, ¬ kpS i i y → G1 i y = G i y := fun y h2 => h.2.2.2.2.2.2.2.2 i y h2
  obtain ⟨os, oc, ok⟩ := o
  refine ⟨?_, by rw [ne 13 (by omega)]; exact oc, fun d z0 z1 => ?_⟩
  · unfold okS at *
    rw [ne 0 (by omega), ne 1 (by omega), ne 2 (by omega), ne 3 (by omega), ne 4 (by omega)]
    exact os
  · rw [ne 13 (by omega)] at z1
    have k := ok d z0 z1
    unfold okC at *
    rw [ne (15 + 12 * d + 1) (by omega), ne (15 + 12 * d + 2) (by omega), ne (15 + 12 * d + 3) (by omega), ne (15 + 12 * d + 4) (by omega), ne (15 + 12 * d + 5) (by omega), ne (15 + 12 * d + 9) (by omega), ne (15 + 12 * d + 10) (by omega), ne (15 + 12 * d + 11) (by omega), ne (15 + 12 * d) (by omega)]
    exact k
theorem okN_fill {G G1 : GG} {i t n : Int} (ht : 0 ≤ t ∧ t < 4) (hn : 0 ≤ n) (o : okN G i) (h : keepP (fillG G i t n) i (kpG (fillG G i t n) i) G1) : okN G1 i := by
  have ne : ∀ y : Int, ¬ (5 ≤ y ∧ y < 10) → fillG G i t n i y = G i y := fun y hy => by
    unfold fillG
    exact setG_ne (by omega)
  have opH := okP_fill (n := n) o.2.1 ht hn
  have e14 := ne 14 (by omega)
  have orH : okR (fillG G i t n) i := by
    obtain ⟨o1, o2, o3⟩ := o.2.2
    have hc := o.2.1.1
    refine ⟨fun m z0 z1 => by rw [e14] at z1; rw [ne (111 + m) (by omega)]; exact o1 m z0 z1, ?_, by rw [ne 311 (by omega)]; exact o3⟩
    rw [ne 311 (by omega), e14, o2]
    exact sumQ_eq _ (fun m z0 z1 => (ne (111 + m) (by omega)).symm)
  have ohH : okH (fillG G i t n i) := by
    obtain ⟨os, oc, ok⟩ := o.1
    refine ⟨?_, by rw [ne 13 (by omega)]; exact oc, fun d z0 z1 => ?_⟩
    · unfold okS at *
      rw [ne 0 (by omega), ne 1 (by omega), ne 2 (by omega), ne 3 (by omega), ne 4 (by omega)]
      exact os
    · rw [ne 13 (by omega)] at z1
      have k := ok d z0 z1
      unfold okC at *
      rw [ne (15 + 12 * d + 1) (by omega), ne (15 + 12 * d + 2) (by omega), ne (15 + 12 * d + 3) (by omega), ne (15 + 12 * d + 4) (by omega), ne (15 + 12 * d + 5) (by omega), ne (15 + 12 * d + 9) (by omega), ne (15 + 12 * d + 10) (by omega), ne (15 + 12 * d + 11) (by omega), ne (15 + 12 * d) (by omega)]
      exact k
  exact ⟨okH_keep ohH h, okP_keep opH h, okR_keep (keep_k opH).1 orH h⟩
/-- what a run of orders keeps -/
def okO (G : GG) : Prop := okN G 0 ∧ (0 ≤ G 0 10 ∧ G 0 10 ≤ 100000) ∧ okT G
theorem okT_congr {G H : GG} (h7 : ∀ y, H 7 y = G 7 y) (h8 : ∀ y, H 8 y = G 8 y) (o : okT G) : okT H := by
  unfold okT at *
  rw [h7, h7, h7]
  exact ⟨o.1, o.2.1, o.2.2.1, fun k z0 z1 => by rw [h8]; exact o.2.2.2 k z0 z1⟩
theorem okO_obey {G H : GG} {r : Int} (o : okO G) (ob : ordP G) (h : obeyP G r H) : okO H := by
  obtain ⟨oN, o10, oT⟩ := o
  have m13 := oN.1.2.1
  rcases h with ⟨l, h⟩ | ⟨l, h⟩ | ⟨l, -, h⟩ | ⟨l, h⟩ | ⟨-, -, rfl⟩
  · have f := ob.2.1 l
    rcases h with ⟨-, -, rfl⟩ | ⟨hc, -, rfl⟩
    · exact ⟨oN, o10, oT⟩
    · have oc := (oN.1.2.2 (G 7 3) (by omega) (by omega)).1
      exact ⟨okN_goods (by omega) (by omega) oN, by rw [setG_ne (by omega)]; exact o10, okT_congr (fun y => setG_ne (by omega)) (fun y => setG_ne (by omega)) oT⟩
  · have f := ob.2.2.1 l
    rcases h with ⟨-, -, rfl⟩ | ⟨-, -, -, hs⟩ | ⟨hc, hcan, -, K, x, hs, hx⟩
    · exact ⟨oN, o10, oT⟩
    · exact ⟨okN_congr (fun y z => hs _ _ (by omega)) oN, by rw [hs 0 10 (by omega)]; exact o10, okT_congr (fun y => hs _ _ (by omega)) (fun y => hs _ _ (by omega)) oT⟩
    · have r8 : ∀ y : Int, y < 312 → K 0 y = G 0 y := fun y z => hs _ _ (by omega)
      have r9 : ∀ y : Int, K 9 y = G 9 y := fun y => hs _ _ (by omega)
      have cg := canSell_congr (G := G) (H := K) (i := 0) (c := G 7 3) (pg := 9) (by omega) r8 r9
      have oK : okN K 0 := okN_congr r8 oN
      have oH := okN_sell (G1 := H) (by rw [r8 13 (by omega)]; omega) oK (fun k z0 z1 => by rw [r9]; exact f.2 k z0 z1) (cg.2.2.mpr hcan) hx
      exact ⟨oH, by rw [sell_ne hx (by omega) (by omega), hs 0 10 (by omega)]; exact o10, okT_congr (fun y => (sell_ne hx (by omega) (by omega)).trans (hs _ _ (by omega))) (fun y => (sell_ne hx (by omega) (by omega)).trans (hs _ _ (by omega))) oT⟩
  · have f := ob.2.2.2.1 l
    have ne : ∀ x y : Int, ¬ (x = 0 ∧ (5 ≤ y ∧ y < 10)) → ¬ kpS 0 x y → H x y = G x y := fun x y h1 h2 => (h.2.2.2.2.2.2.2.2 x y h2).trans (by unfold fillG; exact setG_ne (by omega))
    exact ⟨okN_fill (by omega) (by omega) oN h, by rw [ne 0 10 (by omega) (by omega)]; exact o10, okT_congr (fun y => ne _ _ (by omega) (by omega)) (fun y => ne _ _ (by omega) (by omega)) oT⟩
  · have f := ob.2.2.2.2 l
    rcases h with ⟨-, -, rfl⟩ | ⟨hc, -, rfl⟩
    · exact ⟨oN, o10, oT⟩
    · refine ⟨okN_hours oN _, ?_, okT_congr (fun y => onR_ne (by omega)) (fun y => onR_ne (by omega)) oT⟩
      have e : onR G 0 (hoursR (G 0) (G 7 4).toNat) 0 = hoursR (G 0) (G 7 4).toNat := onR_at _ _ _
      rw [e, hours_10 oN.1]
      omega
  · exact ⟨oN, o10, oT⟩
theorem ro_ne {G : GG} {x y : Int} (h : x ≠ 7 ∧ x ≠ 9) : roG G x y = G x y := by
  unfold roG
  split
  · rw [sg_ne (by omega)]
    unfold roD roS roH roE
    split
    · rw [setG_ne (by omega), nu_ne (by omega), sg_ne (by omega)]; unfold roB roA; rw [setG_ne (by omega), dg_ne (by omega), setG_ne (by omega), setG_ne (by omega)]
    split
    · rw [co_ne (by omega)]; unfold roB roA; rw [setG_ne (by omega), dg_ne (by omega), setG_ne (by omega), setG_ne (by omega)]
    split
    · rw [setG_ne (by omega), nu_ne (by omega), sg_ne (by omega)]; unfold roB roA; rw [setG_ne (by omega), dg_ne (by omega), setG_ne (by omega), setG_ne (by omega)]
    split
    · rw [setG_ne (by omega), nu_ne (by omega)]; unfold roA; rw [setG_ne (by omega), setG_ne (by omega)]
    · rw [setG_ne (by omega), setG_ne (by omega)]
  · rfl
theorem okO_ro {G : GG} (o : okO G) : okO (roG G) :=
  ⟨okN_congr (fun y _ => ro_ne (by omega)) o.1, by rw [ro_ne (by omega)]; exact o.2.1, okT_ro o.2.2⟩
