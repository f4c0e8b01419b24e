/-! the class's page and the reference's page -/
def domE (n : Int) (g h : Row) : Prop := ∀ y : Int, 0 ≤ y → y < 15 + 12 * n → h y = g y
theorem up_dom {n : Int} {g h : Row} (e : domE n g h) (z v : Int) : domE n (up g z v) (up h z v) := fun y h0 h1 => by
  unfold up
  by_cases hz : y = z
  · rw [if_pos hz, if_pos hz]
  · rw [if_neg hz, if_neg hz, e y h0 h1]
theorem rSet_dom {n : Int} {g h : Row} {c ra fa : Int} (hc : 0 ≤ c ∧ c < n) (e : domE n g h) : domE n (rSet g c ra fa) (rSet h c ra fa) := by
  have e2 := e (15 + 12 * c + 2) (by omega) (by omega)
  have e3 := e (15 + 12 * c + 3) (by omega) (by omega)
  have e4 := e (15 + 12 * c + 4) (by omega) (by omega)
  have e5 := e (15 + 12 * c + 5) (by omega) (by omega)
  have e8 := e (15 + 12 * c + 8) (by omega) (by omega)
  have e10 := e (15 + 12 * c + 10) (by omega) (by omega)
  have hr : rRaises h c ra ↔ rRaises g c ra := by unfold rRaises; rw [e10, e5, e2, e4]
  have hf : rFalls h c fa ↔ rFalls g c fa := by unfold rFalls; rw [e10, e3, e2]
  unfold rSet
  by_cases hA : rRaises g c ra
  · rw [if_pos hA, if_pos (hr.mpr hA), e2, e8]
    exact up_dom (up_dom (up_dom e _ _) _ _) _ _
  · rw [if_neg hA, if_neg (fun q => hA (hr.mp q))]
    by_cases hB : rFalls g c fa
    · rw [if_pos hB, if_pos (hf.mpr hB), e2]
      exact up_dom (up_dom e _ _) _ _
    · rw [if_neg hB, if_neg (fun q => hB (hf.mp q))]
      exact up_dom e _ _
theorem rBan_dom {n : Int} {g h : Row} {c : Int} (hc : 0 ≤ c ∧ c < n) (e : domE n g h) : domE n (rBan g c) (rBan h c) := by
  have e5 := e (15 + 12 * c + 5) (by omega) (by omega)
  unfold rBan
  by_cases hA : 0 < g (15 + 12 * c + 5)
  · rw [if_pos hA, if_pos (by omega), e5]
    exact up_dom e _ _
  · rw [if_neg hA, if_neg (by omega)]
    exact e
theorem rFade_dom {n : Int} {g h : Row} {c p : Int} (hc : 0 ≤ c ∧ c < n) (e : domE n g h) : domE n (rFade g c p) (rFade h c p) := by
  have e10 := e (15 + 12 * c + 10) (by omega) (by omega)
  unfold rFade
  rw [e10]
  exact up_dom e _ _
theorem rFine_dom {n : Int} {g h : Row} {c p : Int} (hc : 0 ≤ c ∧ c < n) (e : domE n g h) : domE n (rFine g c p) (rFine h c p) := by
  have e2 := e (15 + 12 * c + 2) (by omega) (by omega)
  have e3 := e (15 + 12 * c + 3) (by omega) (by omega)
  unfold rFine
  rw [e2, e3]
  exact up_dom (up_dom e _ _) _ _
theorem rWatch_dom {n : Int} {g h : Row} {c : Int} (hc : 0 ≤ c ∧ c + 1 < n) (e : domE n g h) : domE n (rWatch g c) (rWatch h c) := by
  have k0 := e (15 + 12 * c) (by omega) (by omega)
  have k1 := e (15 + 12 * (c + 1)) (by omega) (by omega)
  have r0 := e (15 + 12 * c + 11) (by omega) (by omega)
  have r1 := e (15 + 12 * (c + 1) + 11) (by omega) (by omega)
  have e9 := e (15 + 12 * c + 9) (by omega) (by omega)
  have e4 := e 4 (by omega) (by omega)
  have e12 := e 12 (by omega) (by omega)
  have hb : bothR h c ↔ bothR g c := by unfold bothR; rw [r0, r1]
  have hc2 : rCom h c = rCom g c := by
    unfold rCom
    by_cases hB : bothR g c
    · rw [if_pos hB, if_pos (hb.mpr hB), e9]
    · rw [if_neg hB, if_neg (fun q => hB (hb.mp q))]
  unfold rWatch
  by_cases hA : g (15 + 12 * c) = g (15 + 12 * (c + 1))
  · have hA2 : h (15 + 12 * c) = h (15 + 12 * (c + 1)) := by rw [k0, k1]; exact hA
    rw [if_pos hA, if_pos hA2, hc2]
    by_cases h2 : rCom g c = 2
    · rw [if_pos h2, if_pos h2, e4, e12]
      exact up_dom (up_dom (rFine_dom (by omega) (rFine_dom (by omega) (up_dom e _ _))) _ _) _ _
    · rw [if_neg h2, if_neg h2]
      exact up_dom e _ _
  · have hA2 : ¬ h (15 + 12 * c) = h (15 + 12 * (c + 1)) := by rw [k0, k1]; exact hA
    rw [if_neg hA, if_neg hA2]
    exact e
theorem foldR_dom {n : Int} {f f' : Row → Int → Row} {K : Nat} (hf : ∀ (g h : Row) (c : Int), 0 ≤ c → c < (K : Int) → domE n g h → domE n (f g c) (f' h c)) {g h : Row} (e : domE n g h) : ∀ k : Nat, k ≤ K → domE n (foldR f g k) (foldR f' h k)
  | 0, _ => e
  | k + 1, hk => hf _ _ (k : Int) (by omega) (by omega) (foldR_dom hf e k (by omega))
theorem hourR_dom {g h : Row} (h8 : 0 ≤ g 13) (e : domE (g 13) g h) : domE (g 13) (hourR g) (hourR h) := by
  have e0 := e 0 (by omega) (by omega)
  have e1 := e 1 (by omega) (by omega)
  have e2 := e 2 (by omega) (by omega)
  have e10 := e 10 (by omega) (by omega)
  have e13 := e 13 (by omega) (by omega)
  have s1 : domE (g 13) (h1R g) (h1R h) := by
    unfold h1R
    rw [e13]
    refine foldR_dom (K := (g 13).toNat) (fun a b c c0 c1 q => ?_) e _ (Nat.le_refl _)
    show domE _ (rSet a c (g 0) (g 1)) (rSet b c (h 0) (h 1))
    rw [e0, e1]
    exact rSet_dom (by omega) q
  have s2 : domE (g 13) (h2R g) (h2R h) := by
    unfold h2R
    rw [e13]
    refine foldR_dom (n := g 13) (K := (g 13).toNat) (fun a b c c0 c1 q => ?_) s1 _ (Nat.le_refl _)
    exact rBan_dom ⟨c0, by omega⟩ q
  have s3 : domE (g 13) (h3R g) (h3R h) := by
    unfold h3R
    rw [e13]
    refine foldR_dom (n := g 13) (K := (g 13 - 1).toNat) (fun a b c c0 c1 q => ?_) s2 _ (Nat.le_refl _)
    exact rWatch_dom ⟨c0, by omega⟩ q
  have s4 : domE (g 13) (h4R g) (h4R h) := by
    unfold h4R
    rw [e13]
    refine foldR_dom (K := (g 13).toNat) (fun a b c c0 c1 q => ?_) s3 _ (Nat.le_refl _)
    show domE _ (rFade a c (g 2)) (rFade b c (h 2))
    rw [e2]
    exact rFade_dom (by omega) q
  unfold hourR
  rw [e10]
  exact up_dom s4 _ _
theorem hoursR_dom {g h : Row} (o : okH g) (e : domE (g 13) g h) : ∀ k : Nat, domE (g 13) (hoursR g k) (hoursR h k)
  | 0 => e
  | k + 1 => by
    have ih := hoursR_dom o e k
    have e13 : hoursR g k 13 = g 13 := hours_ne o (by omega) k
    have o8 := o.2.1
    have s := hourR_dom (g := hoursR g k) (h := hoursR h k) (by omega) (by rw [e13]; exact ih)
    rw [e13] at s
    exact s
theorem foldR_out {f : Row → Int → Row} {K : Nat} {y : Int} (hf : ∀ (g : Row) (c : Int), 0 ≤ c → c < (K : Int) → f g c y = g y) (g : Row) : ∀ k : Nat, k ≤ K → foldR f g k y = g y
  | 0, _ => rfl
  | k + 1, hk => (hf _ (k : Int) (by omega) (by omega)).trans (foldR_out hf g k (by omega))
theorem rWatch_out {g : Row} {c y : Int} (hc : 0 ≤ c) (hy : 15 + 12 * (c + 2) ≤ y) : rWatch g c y = g y := by
  unfold rWatch
  by_cases hA : g (15 + 12 * c) = g (15 + 12 * (c + 1))
  · rw [if_pos hA]
    by_cases h2 : rCom g c = 2
    · rw [if_pos h2]
      exact (up_n (by omega)).trans ((up_n (by omega)).trans ((rFine_ne (by omega) (by omega)).trans ((rFine_ne (by omega) (by omega)).trans (up_n (by omega)))))
    · rw [if_neg h2]
      exact up_n (by omega)
  · rw [if_neg hA]
theorem hourR_out {h : Row} {y : Int} (h8 : 0 ≤ h 13) (hy : 15 + 12 * h 13 ≤ y) : hourR h y = h y := by
  have s1 : h1R h y = h y := by
    unfold h1R
    exact foldR_out (K := (h 13).toNat) (fun a c c0 c1 => (rSet_spec a c (h 0) (h 1)).1 y (by omega) (by omega) (by omega)) h _ (Nat.le_refl _)
  have s2 : h2R h y = h1R h y := by
    unfold h2R
    exact foldR_out (K := (h 13).toNat) (fun a c c0 c1 => rBan_ne (by omega)) _ _ (Nat.le_refl _)
  have s3 : h3R h y = h2R h y := by
    unfold h3R
    exact foldR_out (K := (h 13 - 1).toNat) (fun a c c0 c1 => rWatch_out c0 (by omega)) _ _ (Nat.le_refl _)
  have s4 : h4R h y = h3R h y := by
    unfold h4R
    exact foldR_out (K := (h 13).toNat) (fun a c c0 c1 => up_n (by omega)) _ _ (Nat.le_refl _)
  unfold hourR
  rw [up_n (by omega), s4, s3, s2, s1]
theorem hoursR_out {h : Row} (o : okH h) {y : Int} (hy : 15 + 12 * h 13 ≤ y) : ∀ k : Nat, hoursR h k y = h y
  | 0 => rfl
  | k + 1 => by
    have e13 : hoursR h k 13 = h 13 := hours_ne o (by omega) k
    have o8 := o.2.1
    exact (hourR_out (h := hoursR h k) (by omega) (by omega)).trans (hoursR_out o hy k)
theorem okH_dom {g h : Row} (e : domE (g 13) g h) (o : okH g) : okH h := by
  have o8 := o.2.1
  have e13 := e 13 (by omega) (by omega)
  have e0 := e 0 (by omega) (by omega)
  have e1 := e 1 (by omega) (by omega)
  have e2 := e 2 (by omega) (by omega)
  have e3 := e 3 (by omega) (by omega)
  have e4 := e 4 (by omega) (by omega)
  refine ⟨?_, by omega, fun d d0 d1 => okC_congr (fun k h0 h1 => e _ (by omega) (by omega)) (o.2.2 d d0 (by omega))⟩
  have os := o.1
  unfold okS at os ⊢
  rw [e0, e1, e2, e3, e4]
  exact os
/-- the class's page g, the reference's page h -/
def rowE (g h : Row) : Prop := domE (g 13) g h ∧ (∀ m : Int, 0 ≤ m → m < g 14 → h (111 + m) = g (111 + m)) ∧ ∀ y : Int, 15 + 12 * g 13 ≤ y → y < 111 → h y = 0
theorem rowE_hours {g h : Row} (o : okH g) (e : rowE g h) (k : Nat) : rowE (hoursR g k) (hoursR h k) := by
  have o8 := o.2.1
  have oh := okH_dom e.1 o
  have e13 : hoursR g k 13 = g 13 := hours_ne o (by omega) k
  have e14 : hoursR g k 14 = g 14 := hours_ne o (by omega) k
  have h13 := e.1 13 (by omega) (by omega)
  refine ⟨by rw [e13]; exact hoursR_dom o e.1 k, fun m h0 h1 => ?_, fun y h0 h1 => ?_⟩
  · rw [hours_ne o (by omega) k, hours_ne oh (by omega) k]
    exact e.2.1 m h0 (by omega)
  · rw [hoursR_out oh (by omega) k]
    exact e.2.2 y (by omega) h1
theorem okN_dom {G H : GG} {i j : Int} (h : ∀ y : Int, (0 ≤ y ∧ y < 15 + 12 * G j 13) ∨ (111 ≤ y ∧ y < 111 + G j 14) ∨ y = 311 → H i y = G j y) (o : okN G j) : okN H i := by
  have o8 := o.1.2.1
  have e14 := h 14 (by omega)
  have oP := o.2.1
  have oR := o.2.2
  refine ⟨okH_dom (fun y h0 h1 => h y (by omega)) o.1, ⟨by rw [e14]; exact oP.1, fun m h0 h1 => ?_, fun k h0 h1 => ?_⟩, ⟨fun m h0 h1 => ?_, ?_, ?_⟩⟩
  · rw [h (111 + m) (by omega)]
    exact oP.2.1 m h0 (by omega)
  · rw [h (5 + k) (by omega)]
    exact oP.2.2 k h0 h1
  · rw [h (111 + m) (by omega)]
    exact oR.1 m h0 (by omega)
  · rw [h 311 (by omega), e14, oR.2.1]
    exact (sumQ_eq _ (fun m h0 h1 => h (111 + m) (by omega))).symm
  · rw [h 311 (by omega)]
    exact oR.2.2
theorem sum_rel {G K : GG} {i : Int} (o : okN G i) (e : rowE (G i) (K 12)) : sumM K = G i 311 := by
  have o8 := o.1.2.1
  have e14 := e.1 14 (by omega) (by omega)
  show sumQ (prm K 12) (K 12 14).toNat = _
  rw [e14, o.2.2.2.1]
  exact sumQ_eq _ (fun m h0 h1 => e.2.1 m h0 (by omega))
theorem relN {G K : GG} {i : Int} (o : okN G i) (e : rowE (G i) (K 12)) : okN12 K := by
  have o8 := o.1.2.1
  have o14 := o.2.1.1
  refine okN_dom (G := G) (j := i) (fun y hy => ?_) o
  by_cases h9 : y = 311
  · subst h9
    rw [sh_at]
    exact sum_rel o e
  · rw [sh_ne (by omega)]
    rcases hy with h1 | h1 | h1
    · exact e.1 y h1.1 h1.2
    · have q := e.2.1 (y - 111) (by omega) (by omega)
      rw [show 111 + (y - 111) = y by omega] at q
      exact q
    · exact absurd h1 h9
theorem kp_rel {G K : GG} {i : Int} (h13 : 0 ≤ G i 13) (e : rowE (G i) (K 12)) : kpG K 12 = kpG G i := by
  have e14 := e.1 14 (by omega) (by omega)
  have e5 := e.1 5 (by omega) (by omega)
  have e6 := e.1 6 (by omega) (by omega)
  have e7 := e.1 7 (by omega) (by omega)
  have e8 := e.1 8 (by omega) (by omega)
  show kp (prm K 12) (K 12 14) 201 0 (K 12 5) (K 12 6) (K 12 7) (K 12 8) = kp (prm G i) (G i 14) 201 0 (G i 5) (G i 6) (G i 7) (G i 8)
  rw [e14, e5, e6, e7, e8]
  exact kp_congr (fun m h0 h1 => e.2.1 m h0 h1) _ _ _ _ _ _ (by omega)
theorem rel_keep {G G1 K K1 : GG} {i : Int} (h8 : 0 ≤ G i 13 ∧ G i 13 ≤ 8) (o : okP G i) (e : rowE (G i) (K 12)) (h : keepP G i (kpG G i) G1) (k : keepM K (kpG K 12) K1) : rowE (G1 i) (K1 12) := by
  have kb := keep_k o
  have e14 := e.1 14 (by omega) (by omega)
  have e11 := e.1 11 (by omega) (by omega)
  have o14 := o.1
  rw [kp_rel h8.1 e] at k
  obtain ⟨p5, p6, p7, p8, p14, p311, p11, pp, ps⟩ := h
  obtain ⟨q5, q6, q7, q8, q14, q11, qp, qs⟩ := k
  have s13 : G1 i 13 = G i 13 := ps i 13 (by omega)
  have es : sumQ (prm K 12) (kpG G i).1.toNat = sumQ (prm G i) (kpG G i).1.toNat := sumQ_eq _ (fun m h0 h1 => e.2.1 m h0 (by omega))
  refine ⟨fun y h0 h1 => ?_, fun m h0 h1 => ?_, fun y h0 h1 => ?_⟩
  · by_cases c5 : y = 5
    · subst c5; rw [p5, q5]
    by_cases c6 : y = 6
    · subst c6; rw [p6, q6]
    by_cases c7 : y = 7
    · subst c7; rw [p7, q7]
    by_cases c8 : y = 8
    · subst c8; rw [p8, q8]
    by_cases c14 : y = 14
    · subst c14; rw [p14, q14, e14]
    by_cases c11 : y = 11
    · subst c11; rw [p11, q11, e11, es]
    rw [ps i y (by omega), qs 12 y (by omega)]
    exact e.1 y h0 (by omega)
  · rw [pp m h0 (by omega), qp m h0 (by omega)]
    have q := e.2.1 ((kpG G i).1 + m) (by omega) (by omega)
    rw [show 111 + ((kpG G i).1 + m) = 111 + (kpG G i).1 + m by omega] at q
    exact q
  · rw [qs 12 y (by omega)]
    exact e.2.2 y (by omega) h1
