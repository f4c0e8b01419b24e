theorem setG_at (G : GG) (i y v : Int) : setG G i y v i = up (G i) y v := by rw [setG_row, onR_at]
/-! the class's page and the reference's page -/
def domE (n : Int) (g h : Row) : Prop := ∀ y : Int, 0 ≤ y → y < 15 + 12 * n → h y = g y
theorem up_dom {n : Int} {g h : Row} (e : domE n g h) (z v : Int) : domE n (up g z v) (up h z v) := fun y h0 h1 => by
  unfold up
  by_cases hz : y = z
  · rw [if_pos hz, if_pos hz]
  · rw [if_neg hz, if_neg hz, e y h0 h1]
theorem rSet_dom {n : Int} {g h : Row} {c ra fa : Int} (hc : 0 ≤ c ∧ c < n) (e : domE n g h) : domE n (rSet g c ra fa) (rSet h c ra fa) := by
  have e2 := e (15 + 12 * c + 2) (by omega) (by omega)
  have e3 := e (15 + 12 * c + 3) (by omega) (by omega)
  have e4 := e (15 + 12 * c + 4) (by omega) (by omega)
  have e5 := e (15 + 12 * c + 5) (by omega) (by omega)
  have e8 := e (15 + 12 * c + 8) (by omega) (by omega)
  have e10 := e (15 + 12 * c + 10) (by omega) (by omega)
  have hr : rRaises h c ra ↔ rRaises g c ra := by unfold rRaises; rw [e10, e5, e2, e4]
  have hf : rFalls h c fa ↔ rFalls g c fa := by unfold rFalls; rw [e10, e3, e2]
  unfold rSet
  by_cases hA : rRaises g c ra
  · rw [if_pos hA, if_pos (hr.mpr hA), e2, e8]
    exact up_dom (up_dom (up_dom e _ _) _ _) _ _
  · rw [if_neg hA, if_neg (fun q => hA (hr.mp q))]
    by_cases hB : rFalls g c fa
    · rw [if_pos hB, if_pos (hf.mpr hB), e2]
      exact up_dom (up_dom e _ _) _ _
    · rw [if_neg hB, if_neg (fun q => hB (hf.mp q))]
      exact up_dom e _ _
theorem rBan_dom {n : Int} {g h : Row} {c : Int} (hc : 0 ≤ c ∧ c < n) (e : domE n g h) : domE n (rBan g c) (rBan h c) := by
  have e5 := e (15 + 12 * c + 5) (by omega) (by omega)
  unfold rBan
  by_cases hA : 0 < g (15 + 12 * c + 5)
  · rw [if_pos hA, if_pos (by omega), e5]
    exact up_dom e _ _
  · rw [if_neg hA, if_neg (by omega)]
    exact e
theorem rFade_dom {n : Int} {g h : Row} {c p : Int} (hc : 0 ≤ c ∧ c < n) (e : domE n g h) : domE n (rFade g c p) (rFade h c p) := by
  have e10 := e (15 + 12 * c + 10) (by omega) (by omega)
  unfold rFade
  rw [e10]
  exact up_dom e _ _
theorem rFine_dom {n : Int} {g h : Row} {c p : Int} (hc : 0 ≤ c ∧ c < n) (e : domE n g h) : domE n (rFine g c p) (rFine h c p) := by
  have e2 := e (15 + 12 * c + 2) (by omega) (by omega)
  have e3 := e (15 + 12 * c + 3) (by omega) (by omega)
  unfold rFine
  rw [e2, e3]
  exact up_dom (up_dom e _ _) _ _
theorem rWatch_dom {n : Int} {g h : Row} {c : Int} (hc : 0 ≤ c ∧ c + 1 < n) (e : domE n g h) : domE n (rWatch g c) (rWatch h c) := by
  have k0 := e (15 + 12 * c) (by omega) (by omega)
  have k1 := e (15 + 12 * (c + 1)) (by omega) (by omega)
  have r0 := e (15 + 12 * c + 11) (by omega) (by omega)
  have r1 := e (15 + 12 * (c + 1) + 11) (by omega) (by omega)
  have e9 := e (15 + 12 * c + 9) (by omega) (by omega)
  have e4 := e 4 (by omega) (by omega)
  have e12 := e 12 (by omega) (by omega)
  have hb : bothR h c ↔ bothR g c := by unfold bothR; rw [r0, r1]
  have hc2 : rCom h c = rCom g c := by
    unfold rCom
    by_cases hB : bothR g c
    · rw [if_pos hB, if_pos (hb.mpr hB), e9]
    · rw [if_neg hB, if_neg (fun q => hB (hb.mp q))]
  unfold rWatch
  by_cases hA : g (15 + 12 * c) = g (15 + 12 * (c + 1))
  · have hA2 : h (15 + 12 * c) = h (15 + 12 * (c + 1)) := by rw [k0, k1]; exact hA
    rw [if_pos hA, if_pos hA2, hc2]
    by_cases h2 : rCom g c = 2
    · rw [if_pos h2, if_pos h2, e4, e12]
      exact up_dom (up_dom (rFine_dom (by omega) (rFine_dom (by omega) (up_dom e _ _))) _ _) _ _
    · rw [if_neg h2, if_neg h2]
      exact up_dom e _ _
  · have hA2 : ¬ h (15 + 12 * c) = h (15 + 12 * (c + 1)) := by rw [k0, k1]; exact hA
    rw [if_neg hA, if_neg hA2]
    exact e
theorem foldR_dom {n : Int} {f f' : Row → Int → Row} {K : Nat} (hf : ∀ (g h : Row) (c : Int), 0 ≤ c → c < (K : Int) → domE n g h → domE n (f g c) (f' h c)) {g h : Row} (e : domE n g h) : ∀ k : Nat, k ≤ K → domE n (foldR f g k) (foldR f' h k)
  | 0, _ => e
  | k + 1, hk => hf _ _ (k : Int) (by omega) (by omega) (foldR_dom hf e k (by omega))
theorem hourR_dom {g h : Row} (h8 : 0 ≤ g 13) (e : domE (g 13) g h) : domE (g 13) (hourR g) (hourR h) := by
  have e0 := e 0 (by omega) (by omega)
  have e1 := e 1 (by omega) (by omega)
  have e2 := e 2 (by omega) (by omega)
  have e10 := e 10 (by omega) (by omega)
  have e13 := e 13 (by omega) (by omega)
  have s1 : domE (g 13) (h1R g) (h1R h) := by
    unfold h1R
    rw [e13]
    refine foldR_dom (K := (g 13).toNat) (fun a b c c0 c1 q => ?_) e _ (Nat.le_refl _)
    show domE _ (rSet a c (g 0) (g 1)) (rSet b c (h 0) (h 1))
    rw [e0, e1]
    exact rSet_dom (by omega) q
  have s2 : domE (g 13) (h2R g) (h2R h) := by
    unfold h2R
    rw [e13]
    refine foldR_dom (n := g 13) (K := (g 13).toNat) (fun a b c c0 c1 q => ?_) s1 _ (Nat.le_refl _)
    exact rBan_dom ⟨c0, by omega⟩ q
  have s3 : domE (g 13) (h3R g) (h3R h) := by
    unfold h3R
    rw [e13]
    refine foldR_dom (n := g 13) (K := (g 13 - 1).toNat) (fun a b c c0 c1 q => ?_) s2 _ (Nat.le_refl _)
    exact rWatch_dom ⟨c0, by omega⟩ q
  have s4 : domE (g 13) (h4R g) (h4R h) := by
    unfold h4R
    rw [e13]
    refine foldR_dom (K := (g 13).toNat) (fun a b c c0 c1 q => ?_) s3 _ (Nat.le_refl _)
    show domE _ (rFade a c (g 2)) (rFade b c (h 2))
    rw [e2]
    exact rFade_dom (by omega) q
  unfold hourR
  rw [e10]
  exact up_dom s4 _ _
theorem hoursR_dom {g h : Row} (o : okH g) (e : domE (g 13) g h) : ∀ k : Nat, domE (g 13) (hoursR g k) (hoursR h k)
  | 0 => e
  | k + 1 => by
    have ih := hoursR_dom o e k
    have e13 : hoursR g k 13 = g 13 := hours_ne o (by omega) k
    have o8 := o.2.1
    have s := hourR_dom (g := hoursR g k) (h := hoursR h k) (by omega) (by rw [e13]; exact ih)
    rw [e13] at s
    exact s
theorem foldR_out {f : Row → Int → Row} {K : Nat} {y : Int} (hf : ∀ (g : Row) (c : Int), 0 ≤ c → c < (K : Int) → f g c y = g y) (g : Row) : ∀ k : Nat, k ≤ K → foldR f g k y = g y
  | 0, _ => rfl
  | k + 1, hk => (hf _ (k : Int) (by omega) (by omega)).trans (foldR_out hf g k (by omega))
theorem rWatch_out {g : Row} {c y : Int} (hc : 0 ≤ c) (hy : 15 + 12 * (c + 2) ≤ y) : rWatch g c y = g y := by
  unfold rWatch
  by_cases hA : g (15 + 12 * c) = g (15 + 12 * (c + 1))
  · rw [if_pos hA]
    by_cases h2 : rCom g c = 2
    · rw [if_pos h2]
      exact (up_n (by omega)).trans ((up_n (by omega)).trans ((rFine_ne (by omega) (by omega)).trans ((rFine_ne (by omega) (by omega)).trans (up_n (by omega)))))
    · rw [if_neg h2]
      exact up_n (by omega)
  · rw [if_neg hA]
theorem hourR_out {h : Row} {y : Int} (h8 : 0 ≤ h 13) (hy : 15 + 12 * h 13 ≤ y) : hourR h y = h y := by
  have s1 : h1R h y = h y := by
    unfold h1R
    exact foldR_out (K := (h 13).toNat) (fun a c c0 c1 => (rSet_spec a c (h 0) (h 1)).1 y (by omega) (by omega) (by omega)) h _ (Nat.le_refl _)
  have s2 : h2R h y = h1R h y := by
    unfold h2R
    exact foldR_out (K := (h 13).toNat) (fun a c c0 c1 => rBan_ne (by omega)) _ _ (Nat.le_refl _)
  have s3 : h3R h y = h2R h y := by
    unfold h3R
    exact foldR_out (K := (h 13 - 1).toNat) (fun a c c0 c1 => rWatch_out c0 (by omega)) _ _ (Nat.le_refl _)
  have s4 : h4R h y = h3R h y := by
    unfold h4R
    exact foldR_out (K := (h 13).toNat) (fun a c c0 c1 => up_n (by omega)) _ _ (Nat.le_refl _)
  unfold hourR
  rw [up_n (by omega), s4, s3, s2, s1]
theorem hoursR_out {h : Row} (o : okH h) {y : Int} (hy : 15 + 12 * h 13 ≤ y) : ∀ k : Nat, hoursR h k y = h y
  | 0 => rfl
  | k + 1 => by
    have e13 : hoursR h k 13 = h 13 := hours_ne o (by omega) k
    have o8 := o.2.1
    exact (hourR_out (h := hoursR h k) (by omega) (by omega)).trans (hoursR_out o hy k)
theorem okH_dom {g h : Row} (e : domE (g 13) g h) (o : okH g) : okH h := by
  have o8 := o.2.1
  have e13 := e 13 (by omega) (by omega)
  have e0 := e 0 (by omega) (by omega)
  have e1 := e 1 (by omega) (by omega)
  have e2 := e 2 (by omega) (by omega)
  have e3 := e 3 (by omega) (by omega)
  have e4 := e 4 (by omega) (by omega)
  refine ⟨?_, by omega, fun d d0 d1 => okC_congr (fun k h0 h1 => e _ (by omega) (by omega)) (o.2.2 d d0 (by omega))⟩
  have os := o.1
  unfold okS at os ⊢
  rw [e0, e1, e2, e3, e4]
  exact os
theorem okN_dom {G H : GG} {i j : Int} (h : ∀ y : Int, (0 ≤ y ∧ y < 15 + 12 * G j 13) ∨ (111 ≤ y ∧ y < 111 + G j 14) ∨ y = 311 → H i y = G j y) (o : okN G j) : okN H i := by
  have o8 := o.1.2.1
  have e14 := h 14 (by omega)
  have oP := o.2.1
  have oR := o.2.2
  refine ⟨okH_dom (fun y h0 h1 => h y (by omega)) o.1, ⟨by rw [e14]; exact oP.1, fun m h0 h1 => ?_, fun k h0 h1 => ?_⟩, ⟨fun m h0 h1 => ?_, ?_, ?_⟩⟩
  · rw [h (111 + m) (by omega)]
    exact oP.2.1 m h0 (by omega)
  · rw [h (5 + k) (by omega)]
    exact oP.2.2 k h0 h1
  · rw [h (111 + m) (by omega)]
    exact oR.1 m h0 (by omega)
  · rw [h 311 (by omega), e14, oR.2.1]
    exact (sumQ_eq _ (fun m h0 h1 => h (111 + m) (by omega))).symm
  · rw [h 311 (by omega)]
    exact oR.2.2
theorem back_b {G : GG} {i c pg : Int} (o : okN G i) (hc : 0 ≤ c ∧ c < G i 13) (hco : ∀ k : Int, 0 ≤ k → k < 4 → 0 ≤ G pg k ∧ G pg k ≤ 9) (hcan : canSellP G i c pg) : 0 ≤ backF G i c pg ∧ backF G i c pg ≤ 3000 := by
  refine ⟨hcan.2.1, ?_⟩
  have oc := o.1.2.2 c hc.1 hc.2
  unfold okC at oc
  show 5 * G pg 0 + 10 * G pg 1 + 20 * G pg 2 + 50 * G pg 3 - G i (15 + 12 * c + 2) ≤ 3000
  have h0 := hco 0 (by omega) (by omega)
  have h1 := hco 1 (by omega) (by omega)
  have h2 := hco 2 (by omega) (by omega)
  have h3 := hco 3 (by omega) (by omega)
  omega
theorem overP_out {G K : GG} {i j x y : Int} (h : overP G i j K) (hx : x ≠ i) : K x y = G x y := h.2.2.2 x y hx
/-- what save does, page by page: d states dropped, n kept -/
def savS (G H : GG) (d n : Int) : Prop := ((G 6 0 = 4 ∧ d = 1 ∧ n = 3) ∨ (G 6 0 < 4 ∧ d = 0 ∧ n = G 6 0)) ∧ H 6 0 = n + 1 ∧ (∀ y : Int, (0 ≤ y ∧ y < 15 + 12 * G 0 13) ∨ (111 ≤ y ∧ y < 312) → H (H 6 (n + 10)) y = G 0 y) ∧ ∀ k y : Int, 0 ≤ k → k < n → H (H 6 (k + 10)) y = G (G 6 (k + d + 10)) y
theorem save_spec {G H : GG} (v : okV G) (h8 : 0 ≤ G 0 13 ∧ G 0 13 ≤ 8) (h : saveP G H) : okV H ∧ ∃ d n : Int, savS G H d n := by
  obtain ⟨K, H0, i, n, hc, ho, rfl⟩ := h
  have v2 := v
  obtain ⟨v0, w0, w1, w2, w3, d01, d02, d03, d12, d13, d23⟩ := v2
  rcases hc with ⟨rfl, hl, hi, hn⟩ | ⟨rfl, hl, hi, hn⟩
  · have iR := okV_at v (k := K 6 0) (by omega)
    have r6 : ∀ y, H0 6 y = K 6 y := fun y => overP_out ho (by omega)
    have s6 : ∀ y, y ≠ 0 → setG H0 6 0 n 6 y = K 6 y := fun y hy => (setG_ne (by omega)).trans (r6 y)
    have s60 : setG H0 6 0 n 6 0 = n := setG_same _ _ _ _
    refine ⟨?_, 0, K 6 0, Or.inr ⟨hl, rfl, rfl⟩, by rw [s60, hn], fun y hy => ?_, fun k y h0 h1 => ?_⟩
    · unfold okV
      rw [s60, s6 10 (by omega), s6 11 (by omega), s6 12 (by omega), s6 13 (by omega)]
      exact ⟨by omega, w0, w1, w2, w3, d01, d02, d03, d12, d13, d23⟩
    · rw [s6 (K 6 0 + 10) (by omega), ← hi, setG_ne (by omega)]
      by_cases z1 : y < 15
      · exact ho.1 y (by omega) z1
      · by_cases z2 : y < 15 + 12 * K 0 13
        · exact ho.2.1 y (by omega) z2
        · exact ho.2.2.1 y (by omega) (by omega)
    · have pR := okV_at v (k := k) (by omega)
      have pne : K 6 (k + 10) ≠ i := by
        rw [hi]
        have hk : k = 0 ∨ k = 1 ∨ k = 2 := by omega
        have hm : K 6 0 = 1 ∨ K 6 0 = 2 ∨ K 6 0 = 3 := by omega
        rcases hk with rfl | rfl | rfl <;> rcases hm with q | q | q <;> rw [q] at h1 ⊢ <;> first | exact absurd h1 (by decide) | assumption
      rw [s6 (k + 10) (by omega), setG_ne (by omega), overP_out ho pne, show k + 0 + 10 = k + 10 by omega]
  · have g4 : G 6 0 = 4 := by omega
    have k6 : dropG G 6 10 = G 6 11 ∧ dropG G 6 11 = G 6 12 ∧ dropG G 6 12 = G 6 13 ∧ dropG G 6 13 = G 6 10 := by
      unfold dropG setG
      exact ⟨rfl, rfl, rfl, rfl⟩
    have r6 : ∀ y, H0 6 y = dropG G 6 y := fun y => overP_out ho (by omega)
    have s6 : ∀ y, y ≠ 0 → setG H0 6 0 n 6 y = dropG G 6 y := fun y hy => (setG_ne (by omega)).trans (r6 y)
    have s60 : setG H0 6 0 n 6 0 = n := setG_same _ _ _ _
    refine ⟨?_, 1, 3, Or.inl ⟨g4, rfl, rfl⟩, by rw [s60, hn]; rfl, fun y hy => ?_, fun k y h0 h1 => ?_⟩
    · unfold okV
      rw [s60, s6 10 (by omega), s6 11 (by omega), s6 12 (by omega), s6 13 (by omega), k6.1, k6.2.1, k6.2.2.1, k6.2.2.2]
      exact ⟨by omega, w1, w2, w3, w0, d12, d13, Ne.symm d01, d23, Ne.symm d02, Ne.symm d03⟩
    · have q13 : setG H0 6 0 n 6 (3 + 10) = i := by
        rw [s6 (3 + 10) (by omega), hi]
        exact k6.2.2.2
      have z0 : ∀ y, dropG G 0 y = G 0 y := fun y => dropG_ne (by omega)
      rw [q13, setG_ne (by omega), ← z0 y]
      have hd := z0 13
      by_cases z1 : y < 15
      · exact ho.1 y (by omega) z1
      · by_cases z2 : y < 15 + 12 * G 0 13
        · exact ho.2.1 y (by omega) (by omega)
        · exact ho.2.2.1 y (by omega) (by omega)
    · have hk : k = 0 ∨ k = 1 ∨ k = 2 := by omega
      have pk : setG H0 6 0 n 6 (k + 10) = G 6 (k + 1 + 10) := by
        rw [s6 (k + 10) (by omega)]
        rcases hk with rfl | rfl | rfl
        · exact k6.1
        · exact k6.2.1
        · exact k6.2.2.1
      have pR : 2 ≤ G 6 (k + 1 + 10) ∧ G 6 (k + 1 + 10) ≤ 5 := okV_at v (k := k + 1) (by omega)
      have pne : G 6 (k + 1 + 10) ≠ i := by
        rw [hi]
        rcases hk with rfl | rfl | rfl
        · exact Ne.symm d01
        · exact Ne.symm d02
        · exact Ne.symm d03
      rw [pk, setG_ne (by omega), overP_out ho pne, dropG_ne (by omega)]
theorem okN_congr2 {G H : GG} {i j : Int} (o : okN G j) (h : ∀ y : Int, 0 ≤ y → y < 312 → H i y = G j y) : okN H i := by
  have o8 := o.1.2.1
  have o14 := o.2.1.1
  exact okN_dom (fun y hy => h y (by omega) (by omega)) o
theorem okN_low {G : GG} {i w v : Int} (hw : (0 ≤ w ∧ w < 15) ∧ ¬ (5 ≤ w ∧ w < 9) ∧ w ≠ 13 ∧ w ≠ 14) (hs : okS (up (G i) w v)) (o : okN G i) : okN (setG G i w v) i := by
  refine ⟨⟨by rw [setG_at]; exact hs, by rw [setG_ne (by omega)]; exact o.1.2.1, fun d d0 d1 => ?_⟩, okPR_congr (G := G) (j := i) (fun y hy => setG_ne (by omega)) o.2⟩
  rw [setG_ne (by omega)] at d1
  exact okC_congr (fun k k0 k1 => setG_ne (by omega)) (o.1.2.2 d d0 d1)
theorem okS_up {g : Row} {w v : Int} (hw : 5 ≤ w) (o : okS g) : okS (up g w v) := by
  unfold okS at o ⊢
  rw [up_n (by omega), up_n (by omega), up_n (by omega), up_n (by omega), up_n (by omega)]
  exact o
theorem okC_10 {g : Row} {c d v : Int} (hv : okW v) (o : okC g d) : okC (up g (15 + 12 * c + 10) v) d := by
  by_cases hd : d = c
  · subst hd
    unfold okC at o ⊢
    rw [up_s, up_n (z := 15 + 12 * d + 1) (by omega), up_n (z := 15 + 12 * d + 2) (by omega), up_n (z := 15 + 12 * d + 3) (by omega), up_n (z := 15 + 12 * d + 4) (by omega), up_n (z := 15 + 12 * d + 5) (by omega), up_n (z := 15 + 12 * d + 9) (by omega), up_n (z := 15 + 12 * d + 11) (by omega), up_n (z := 15 + 12 * d) (by omega)]
    obtain ⟨a1, a2, a3, a4, a5, a6, a7, a8, a9⟩ := o
    exact ⟨a1, a2, a3, a4, a5, a6, a7, hv, a9⟩
  · exact okC_congr (fun k z0 z1 => up_n (by omega)) o
theorem okN_10 {G : GG} {i c v : Int} (hc : 0 ≤ c ∧ c < 8) (hv : okW v) (o : okN G i) : okN (setG G i (15 + 12 * c + 10) v) i := by
  refine ⟨⟨by rw [setG_at]; exact okS_up (by omega) o.1.1, by rw [setG_ne (by omega)]; exact o.1.2.1, fun d d0 d1 => ?_⟩, okPR_congr (G := G) (j := i) (fun y hy => setG_ne (by omega)) o.2⟩
  rw [setG_ne (by omega)] at d1
  rw [setG_at]
  exact okC_10 hv (o.1.2.2 d d0 d1)
theorem cb_ne {G : GG} {i c a b d x y : Int} (h : ¬ (x = i ∧ 15 + 12 * c ≤ y ∧ y < 15 + 12 * c + 12)) : coilBegin G i c a b d x y = G x y := by
  unfold coilBegin
  rw [setG_ne (by omega), setG_ne (by omega), setG_ne (by omega), setG_ne (by omega), setG_ne (by omega), setG_ne (by omega), setG_ne (by omega), setG_ne (by omega), setG_ne (by omega), setG_ne (by omega), setG_ne (by omega), setG_ne (by omega)]
theorem cb_at (G : GG) (i c a b d : Int) {k : Int} (hk : 0 ≤ k ∧ k < 12) : coilBegin G i c a b d i (15 + 12 * c + k) = (if k = 0 then a else if k = 2 ∨ k = 3 then b else if k = 4 then d else 0) := by
  have h9 : k = 0 ∨ k = 1 ∨ k = 2 ∨ k = 3 ∨ k = 4 ∨ k = 5 ∨ k = 6 ∨ k = 7 ∨ k = 8 ∨ k = 9 ∨ k = 10 ∨ k = 11 := by omega
  unfold coilBegin setG
  rcases h9 with rfl | rfl | rfl | rfl | rfl | rfl | rfl | rfl | rfl | rfl | rfl | rfl <;> (repeat (first | rw [if_pos (by omega)] | rw [if_neg (by omega)])) <;> rfl
