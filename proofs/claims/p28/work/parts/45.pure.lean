/-! what the class's functions keep: change -/
theorem tk_ne {h0 h1 h2 a f : Int} (h : ¬ tkF h0 h1 h2 a f = -1) : a - 50 * f - 20 * t2F h2 a f - 10 * t1F h1 h2 a f - 5 * t0F h0 h1 h2 a f = 0 := by
  unfold tkF at h
  by_cases z : f < 0
  · rw [if_pos z] at h; exact absurd rfl h
  · rw [if_neg z] at h
    by_cases z2 : a - 50 * f - 20 * t2F h2 a f - 10 * t1F h1 h2 a f - 5 * t0F h0 h1 h2 a f = 0
    · exact z2
    · rw [if_neg z2] at h; exact absurd rfl h
theorem canF_sum {h0 h1 h2 h3 a : Int} (h : canF h0 h1 h2 h3 a) : 5 * c0F h0 h1 h2 h3 a + 10 * c1F h0 h1 h2 h3 a + 20 * c2F h0 h1 h2 h3 a + 50 * c3F h0 h1 h2 h3 a = a := by
  have e : ¬ tkF h0 h1 h2 a (bF h0 h1 h2 h3 a) = -1 := by
    unfold bF
    by_cases hb : btr h0 h1 h2 h3 a
    · rw [if_pos hb]; exact hb.1
    · rw [if_neg hb]
      rcases h with h | h
      · exact absurd h hb
      · exact h
  have e2 := tk_ne e
  unfold c0F c1F c2F c3F
  omega
theorem canF_mod {h0 h1 h2 h3 a : Int} (h : canF h0 h1 h2 h3 a) : a % 5 = 0 := by
  have := canF_sum h
  omega
theorem mp_spec {h0 h1 h2 h3 : Int} (b0 : 0 ≤ h0) (b1 : 0 ≤ h1) (b2 : 0 ≤ h2) (b3 : 0 ≤ h3) : ∀ n : Nat, 0 ≤ mpF h0 h1 h2 h3 n ∧ mpF h0 h1 h2 h3 n ≤ 5 * (n : Int) ∧ mpF h0 h1 h2 h3 n % 5 = 0 ∧ canF h0 h1 h2 h3 (mpF h0 h1 h2 h3 n) ∧ ∀ x : Int, mpF h0 h1 h2 h3 n < x → x < 5 * (n : Int) + 5 → ¬ canF h0 h1 h2 h3 x
  | 0 => by
    have e : mpF h0 h1 h2 h3 0 = 0 := rfl
    rw [e]
    refine ⟨by omega, by omega, by omega, canF_0 b0 b1 b2 b3, fun x z1 z2 hc => ?_⟩
    have := canF_mod hc
    omega
  | n + 1 => by
    have ih := mp_spec b0 b1 b2 b3 n
    by_cases hc : canF h0 h1 h2 h3 (5 * ((n : Int) + 1))
    · have e : mpF h0 h1 h2 h3 (n + 1) = 5 * ((n : Int) + 1) := if_pos hc
      rw [e]
      refine ⟨by omega, by omega, by omega, hc, fun x z1 z2 hx => ?_⟩
      have := canF_mod hx
      omega
    · have e : mpF h0 h1 h2 h3 (n + 1) = mpF h0 h1 h2 h3 n := if_neg hc
      rw [e]
      refine ⟨ih.1, by omega, ih.2.2.1, ih.2.2.2.1, fun x z1 z2 hx => ?_⟩
      by_cases hl : x < 5 * (n : Int) + 5
      · exact ih.2.2.2.2 x z1 hl hx
      · have hm := canF_mod hx
        have hx5 : x = 5 * ((n : Int) + 1) := by omega
        rw [hx5] at hx
        exact hc hx
/-- all that the law asks of mostPayable -/
theorem mp_all {h0 h1 h2 h3 a : Int} (b0 : 0 ≤ h0) (b1 : 0 ≤ h1) (b2 : 0 ≤ h2) (b3 : 0 ≤ h3) (ha : 0 ≤ a) : (0 ≤ mpF h0 h1 h2 h3 (a / 5).toNat ∧ mpF h0 h1 h2 h3 (a / 5).toNat ≤ a) ∧ mpF h0 h1 h2 h3 (a / 5).toNat % 5 = 0 ∧ canF h0 h1 h2 h3 (mpF h0 h1 h2 h3 (a / 5).toNat) ∧ (∀ x : Int, mpF h0 h1 h2 h3 (a / 5).toNat < x → x ≤ a → ¬ canF h0 h1 h2 h3 x) ∧ (canF h0 h1 h2 h3 a → mpF h0 h1 h2 h3 (a / 5).toNat = a) := by
  have h := mp_spec b0 b1 b2 b3 (a / 5).toNat
  have e : (((a / 5).toNat : Nat) : Int) = a / 5 := by omega
  rw [e] at h
  obtain ⟨q1, q2, q3, q4, q5⟩ := h
  refine ⟨⟨q1, by omega⟩, q3, q4, fun x z1 z2 => q5 x z1 (by omega), fun hc => ?_⟩
  by_cases z : mpF h0 h1 h2 h3 (a / 5).toNat < a
  · exact absurd hc (q5 a z (by omega))
  · omega
theorem cf_can {h0 h1 h2 h3 a : Int} (h : canF h0 h1 h2 h3 a) : cfF h0 h1 h2 h3 a = 4 := if_pos h
theorem cf_no {h0 h1 h2 h3 a : Int} (h : ¬ canF h0 h1 h2 h3 a) : -1 ≤ cfF h0 h1 h2 h3 a ∧ cfF h0 h1 h2 h3 a ≤ 3 ∧ (a % 5 ≠ 0 → cfF h0 h1 h2 h3 a = -1) := by
  have e : cfF h0 h1 h2 h3 a = if canF (h0 + 1) h1 h2 h3 a then 0 else if canF h0 (h1 + 1) h2 h3 a then 1 else if canF h0 h1 (h2 + 1) h3 a then 2 else if canF h0 h1 h2 (h3 + 1) a then 3 else -1 := if_neg h
  rw [e]
  by_cases z0 : canF (h0 + 1) h1 h2 h3 a
  · rw [if_pos z0]; exact ⟨by omega, by omega, fun q => absurd (canF_mod z0) q⟩
  rw [if_neg z0]
  by_cases z1 : canF h0 (h1 + 1) h2 h3 a
  · rw [if_pos z1]; exact ⟨by omega, by omega, fun q => absurd (canF_mod z1) q⟩
  rw [if_neg z1]
  by_cases z2 : canF h0 h1 (h2 + 1) h3 a
  · rw [if_pos z2]; exact ⟨by omega, by omega, fun q => absurd (canF_mod z2) q⟩
  rw [if_neg z2]
  by_cases z3 : canF h0 h1 h2 (h3 + 1) a
  · rw [if_pos z3]; exact ⟨by omega, by omega, fun q => absurd (canF_mod z3) q⟩
  rw [if_neg z3]
  exact ⟨by omega, by omega, fun _ => rfl⟩
theorem ch_no {h0 h1 h2 h3 a t : Int} (h : ¬ canF h0 h1 h2 h3 a) : chF h0 h1 h2 h3 a t = -1 := if_neg h
theorem ch_can {h0 h1 h2 h3 a t : Int} (h : canF h0 h1 h2 h3 a) : chF h0 h1 h2 h3 a t = ctF h0 h1 h2 h3 a t := if_pos h
theorem ch_0 {h0 h1 h2 h3 a : Int} (h : canF h0 h1 h2 h3 a) : chF h0 h1 h2 h3 a 0 = c0F h0 h1 h2 h3 a := if_pos h
theorem ch_1 {h0 h1 h2 h3 a : Int} (h : canF h0 h1 h2 h3 a) : chF h0 h1 h2 h3 a 1 = c1F h0 h1 h2 h3 a := if_pos h
theorem ch_2 {h0 h1 h2 h3 a : Int} (h : canF h0 h1 h2 h3 a) : chF h0 h1 h2 h3 a 2 = c2F h0 h1 h2 h3 a := if_pos h
theorem ch_3 {h0 h1 h2 h3 a : Int} (h : canF h0 h1 h2 h3 a) : chF h0 h1 h2 h3 a 3 = c3F h0 h1 h2 h3 a := if_pos h
/-! promises that are paid -/
theorem kp_worth {q : Int → Int} {cnt : Int} : ∀ (n : Nat) (j t0 t1 t2 t3 : Int), 0 ≤ j → 5 * (kp q cnt n j t0 t1 t2 t3).2.1 + 10 * (kp q cnt n j t0 t1 t2 t3).2.2.1 + 20 * (kp q cnt n j t0 t1 t2 t3).2.2.2.1 + 50 * (kp q cnt n j t0 t1 t2 t3).2.2.2.2 + sumQ q (kp q cnt n j t0 t1 t2 t3).1.toNat = 5 * t0 + 10 * t1 + 20 * t2 + 50 * t3 + sumQ q j.toNat
  | 0, j, t0, t1, t2, t3, h => rfl
  | n + 1, j, t0, t1, t2, t3, h => by
    unfold kp
    by_cases z : j < cnt ∧ canF t0 t1 t2 t3 (q j)
    · rw [if_pos z]
      rw [kp_worth n (j + 1) _ _ _ _ (by omega), sumQ_succ q h]
      have := canF_sum z.2
      omega
    · rw [if_neg z]
theorem kp_end {q : Int → Int} {cnt : Int} : ∀ (n : Nat) (j t0 t1 t2 t3 : Int), cnt - j < n → ¬ ((kp q cnt n j t0 t1 t2 t3).1 < cnt ∧ canF (kp q cnt n j t0 t1 t2 t3).2.1 (kp q cnt n j t0 t1 t2 t3).2.2.1 (kp q cnt n j t0 t1 t2 t3).2.2.2.1 (kp q cnt n j t0 t1 t2 t3).2.2.2.2 (q (kp q cnt n j t0 t1 t2 t3).1))
  | 0, j, t0, t1, t2, t3, h => fun z => by
    have z1 : j < cnt := z.1
    omega
  | n + 1, j, t0, t1, t2, t3, h => by
    unfold kp
    by_cases z : j < cnt ∧ canF t0 t1 t2 t3 (q j)
    · rw [if_pos z]
      exact kp_end n (j + 1) _ _ _ _ (by omega)
    · rw [if_neg z]
      exact z
/-- what a keeping of promises does to money and promises -/
theorem keep_all {G G1 : GG} (o : okP G 0) (h : keepP G 0 (kpG G 0) G1) : worthF (G1 0) 5 = worthF (G 0) 5 - (G1 0 11 - G 0 11) ∧ G1 0 311 = G 0 311 - (G1 0 11 - G 0 11) ∧ G 0 11 ≤ G1 0 11 ∧ (G1 0 14 = 0 ∨ ¬ canF (G1 0 5) (G1 0 6) (G1 0 7) (G1 0 8) (G1 0 111)) ∧ (0 ≤ G1 0 14 ∧ G1 0 14 ≤ G 0 14) := by
  have hk := keep_k o
  have hw := kp_worth (q := prm G 0) (cnt := G 0 14) 201 0 (G 0 5) (G 0 6) (G 0 7) (G 0 8) (by omega)
  have he := kp_end (q := prm G 0) (cnt := G 0 14) 201 0 (G 0 5) (G 0 6) (G 0 7) (G 0 8) (by have := o.1; omega)
  obtain ⟨e5, e6, e7, e8, e14, e311, e11, ep, -⟩ := h
  have hs : 0 * (((kpG G 0).1.toNat : Nat) : Int) ≤ sumQ (prm G 0) (kpG G 0).1.toNat := sumQ_ge _ (fun m z0 z1 => (o.2.1 m z0 (by omega)).1)
  have s0 : sumQ (prm G 0) (0 : Int).toNat = 0 := rfl
  rw [s0] at hw
  change 5 * (kpG G 0).2.1 + 10 * (kpG G 0).2.2.1 + 20 * (kpG G 0).2.2.2.1 + 50 * (kpG G 0).2.2.2.2 + sumQ (prm G 0) (kpG G 0).1.toNat = _ at hw
  change ¬ ((kpG G 0).1 < G 0 14 ∧ canF (kpG G 0).2.1 (kpG G 0).2.2.1 (kpG G 0).2.2.2.1 (kpG G 0).2.2.2.2 (prm G 0 (kpG G 0).1)) at he
  refine ⟨?_, by omega, by omega, ?_, by omega, by omega⟩
  · show 5 * G1 0 5 + 10 * G1 0 6 + 20 * G1 0 7 + 50 * G1 0 8 = 5 * G 0 5 + 10 * G 0 6 + 20 * G 0 7 + 50 * G 0 8 - (G1 0 11 - G 0 11)
    rw [e5, e6, e7, e8]
    omega
  · by_cases z : (kpG G 0).1 < G 0 14
    · right
      have e111 := ep 0 (by omega) (by omega)
      rw [show (111 : Int) + 0 = 111 from rfl, show (111 : Int) + (kpG G 0).1 + 0 = 111 + (kpG G 0).1 by omega] at e111
      rw [e5, e6, e7, e8, e111]
      exact fun hc => he ⟨z, hc⟩
    · left
      omega
/-! an hour -/
/-- what an hour does to a coil -/
def stepC (g h : Row) (d : Int) : Prop := (h (15 + 12 * d) = g (15 + 12 * d) ∧ h (15 + 12 * d + 1) = g (15 + 12 * d + 1) ∧ h (15 + 12 * d + 3) = g (15 + 12 * d + 3) ∧ h (15 + 12 * d + 4) = g (15 + 12 * d + 4) ∧ h (15 + 12 * d + 6) = g (15 + 12 * d + 6) ∧ h (15 + 12 * d + 7) = g (15 + 12 * d + 7)) ∧
  ((h (15 + 12 * d + 8) = g (15 + 12 * d + 8) ∧ h (15 + 12 * d + 2) ≤ g (15 + 12 * d + 2)) ∨ (g (15 + 12 * d + 5) = 0 ∧ h (15 + 12 * d + 8) = g (15 + 12 * d + 8) + 1 ∧ h (15 + 12 * d + 2) ≤ g (15 + 12 * d + 2) + 5))
/-- a coil's cells but for those that the steps of an hour write -/
def sameC (k : Int → Prop) (g h : Row) (d : Int) : Prop := ∀ j : Int, 0 ≤ j → j < 12 → ¬ k j → h (15 + 12 * d + j) = g (15 + 12 * d + j)
theorem rSet_other {g : Row} {c d ra fa : Int} (hd : d ≠ c) {j : Int} (h0 : 0 ≤ j) (h1 : j < 12) : rSet g c ra fa (15 + 12 * d + j) = g (15 + 12 * d + j) :=
  (rSet_spec g c ra fa).1 _ (by omega) (by omega) (by omega)
theorem rSet_8 (g : Row) (c ra fa : Int) : (rSet g c ra fa (15 + 12 * c + 8) = g (15 + 12 * c + 8) ∧ rSet g c ra fa (15 + 12 * c + 2) ≤ g (15 + 12 * c + 2)) ∨ (g (15 + 12 * c + 5) = 0 ∧ rSet g c ra fa (15 + 12 * c + 8) = g (15 + 12 * c + 8) + 1 ∧ rSet g c ra fa (15 + 12 * c + 2) ≤ g (15 + 12 * c + 2) + 5) := by
  unfold rSet
  by_cases h : rRaises g c ra
  · right
    rw [if_pos h]
    exact ⟨h.2.1, up_s _ _ _, by rw [up_n (by omega), up_s]; omega⟩
  · left
    rw [if_neg h]
    by_cases h2 : rFalls g c fa
    · rw [if_pos h2]
      exact ⟨(up_n (by omega)).trans (up_n (by omega)), by rw [up_s]; omega⟩
    · rw [if_neg h2]
      exact ⟨up_n (by omega), by rw [up_n (by omega)]; omega⟩
/-- the first walk of an hour, coil by coil -/
theorem fold1_at {g : Row} {d : Int} (hd : 0 ≤ d) : ∀ n : Nat, ((n : Int) ≤ d → ∀ j : Int, 0 ≤ j → j < 12 → foldR (f1 g) g n (15 + 12 * d + j) = g (15 + 12 * d + j)) ∧ (d < (n : Int) → ∀ j : Int, 0 ≤ j → j < 12 → foldR (f1 g) g n (15 + 12 * d + j) = rSet (foldR (f1 g) g d.toNat) d (g 0) (g 1) (15 + 12 * d + j))
  | 0 => ⟨fun _ j _ _ => rfl, fun h => by omega⟩
  | n + 1 => by
    have ih := fold1_at (g := g) hd n
    refine ⟨fun h j h0 h1 => ?_, fun h j h0 h1 => ?_⟩
    · show rSet (foldR (f1 g) g n) (n : Int) (g 0) (g 1) _ = _
      rw [rSet_other (by omega) h0 h1]
      exact ih.1 (by omega) j h0 h1
    · show rSet (foldR (f1 g) g n) (n : Int) (g 0) (g 1) _ = _
      by_cases z : d = (n : Int)
      · subst z
        rw [show ((n : Int)).toNat = n by omega]
      · rw [rSet_other z h0 h1]
        exact ih.2 (by omega) j h0 h1
theorem h1R_at {g : Row} {d : Int} (hd : 0 ≤ d ∧ d < g 13) : (∀ j : Int, 0 ≤ j → j < 12 → j ≠ 2 → j ≠ 8 → j ≠ 11 → h1R g (15 + 12 * d + j) = g (15 + 12 * d + j)) ∧ ((h1R g (15 + 12 * d + 8) = g (15 + 12 * d + 8) ∧ h1R g (15 + 12 * d + 2) ≤ g (15 + 12 * d + 2)) ∨ (g (15 + 12 * d + 5) = 0 ∧ h1R g (15 + 12 * d + 8) = g (15 + 12 * d + 8) + 1 ∧ h1R g (15 + 12 * d + 2) ≤ g (15 + 12 * d + 2) + 5)) := by
  have e := (fold1_at (g := g) hd.1 (g 13).toNat).2 (by omega)
  have e2 := (fold1_at (g := g) hd.1 d.toNat).1 (by omega)
  refine ⟨fun j h0 h1 n2 n8 n11 => ?_, ?_⟩
  · show foldR (f1 g) g (g 13).toNat _ = _
    rw [e j h0 h1, (rSet_spec _ _ _ _).1 _ (by omega) (by omega) (by omega)]
    exact e2 j h0 h1
  · have e8 : h1R g (15 + 12 * d + 8) = _ := e 8 (by omega) (by omega)
    have e22 : h1R g (15 + 12 * d + 2) = _ := e 2 (by omega) (by omega)
    rw [e8, e22]
    have k := rSet_8 (foldR (f1 g) g d.toNat) d (g 0) (g 1)
    rw [e2 8 (by omega) (by omega), e2 2 (by omega) (by omega), e2 5 (by omega) (by omega)] at k
    exact k
theorem fold2_at {g0 : Row} {y : Int} (h : ∀ d : Int, y ≠ 15 + 12 * d + 5) : ∀ n : Nat, foldR f2 g0 n y = g0 y
  | 0 => rfl
  | n + 1 => (rBan_ne (h _)).trans (fold2_at h n)
theorem fold4_at {g g0 : Row} {y : Int} (h : ∀ d : Int, y ≠ 15 + 12 * d + 10) : ∀ n : Nat, foldR (f4 g) g0 n y = g0 y
  | 0 => rfl
  | n + 1 => (up_n (h _)).trans (fold4_at h n)
theorem fold4_10 {g g0 : Row} {d : Int} (hd : 0 ≤ d) : ∀ n : Nat, ((n : Int) ≤ d → foldR (f4 g) g0 n (15 + 12 * d + 10) = g0 (15 + 12 * d + 10)) ∧ (d < (n : Int) → foldR (f4 g) g0 n (15 + 12 * d + 10) = ffade (g0 (15 + 12 * d + 10)) (g 2))
  | 0 => ⟨fun _ => rfl, fun h => by omega⟩
  | n + 1 => by
    have ih := fold4_10 (g := g) (g0 := g0) hd n
    refine ⟨fun h => ?_, fun h => ?_⟩
    · show up (foldR (f4 g) g0 n) (15 + 12 * (n : Int) + 10) _ _ = _
      rw [up_n (by omega)]
      exact ih.1 (by omega)
    · show up (foldR (f4 g) g0 n) (15 + 12 * (n : Int) + 10) _ _ = _
      by_cases z : d = (n : Int)
      · subst z
        rw [up_s, ih.1 (by omega)]
      · rw [up_n (by omega)]
        exact ih.2 (by omega)
/-- the watch over neighbors: what it leaves alone -/
theorem rWatch_keep {g : Row} {c d j : Int} (h0 : 0 ≤ j ∧ j < 12) (h2 : j ≠ 2) (h5 : j ≠ 5) (h9 : j ≠ 9) (hc : 0 ≤ c) (hd : 0 ≤ d) : rWatch g c (15 + 12 * d + j) = g (15 + 12 * d + j) := by
  unfold rWatch
  by_cases z : g (15 + 12 * c) = g (15 + 12 * (c + 1))
  · rw [if_pos z]
    by_cases z2 : rCom g c = 2
    · rw [if_pos z2, up_n (by omega), up_n (by omega), rFine_ne (by omega) (by omega), rFine_ne (by omega) (by omega), up_n (by omega)]
    · rw [if_neg z2, up_n (by omega)]
  · rw [if_neg z]
theorem rWatch_9 {g : Row} {c d : Int} (hd : 0 ≤ d) (hc : 0 ≤ c) (h : d ≠ c) : rWatch g c (15 + 12 * d + 9) = g (15 + 12 * d + 9) := by
  unfold rWatch
  by_cases z : g (15 + 12 * c) = g (15 + 12 * (c + 1))
  · rw [if_pos z]
    by_cases z2 : rCom g c = 2
    · rw [if_pos z2, up_n (by omega), up_n (by omega), rFine_ne (by omega) (by omega), rFine_ne (by omega) (by omega), up_n (by omega)]
    · rw [if_neg z2, up_n (by omega)]
  · rw [if_neg z]
theorem rFine_2 {g : Row} {c d fi : Int} (hf : 0 ≤ fi) (hg : g (15 + 12 * d + 3) ≤ g (15 + 12 * d + 2)) : rFine g c fi (15 + 12 * d + 2) ≤ g (15 + 12 * d + 2) ∧ rFine g c fi (15 + 12 * d + 3) = g (15 + 12 * d + 3) ∧ g (15 + 12 * d + 3) ≤ rFine g c fi (15 + 12 * d + 2) := by
  have e3 : rFine g c fi (15 + 12 * d + 3) = g (15 + 12 * d + 3) := rFine_ne (by omega) (by omega)
  by_cases z : d = c
  · subst z
    rw [(rFine_at (g := g) (c := d) (fi := fi)).1]
    exact ⟨by omega, e3, by omega⟩
  · rw [rFine_ne (by omega) (by omega)]
    exact ⟨by omega, e3, hg⟩
theorem rWatch_2 {g : Row} {c d : Int} (h4 : 0 ≤ g 4) (hc : 0 ≤ c) (hd : 0 ≤ d) (hg : g (15 + 12 * d + 3) ≤ g (15 + 12 * d + 2)) : rWatch g c (15 + 12 * d + 2) ≤ g (15 + 12 * d + 2) ∧ g (15 + 12 * d + 3) ≤ rWatch g c (15 + 12 * d + 2) := by
  unfold rWatch
  by_cases z : g (15 + 12 * c) = g (15 + 12 * (c + 1))
  · rw [if_pos z]
    by_cases z2 : rCom g c = 2
    · rw [if_pos z2, up_n (by omega), up_n (by omega)]
      have e2 : up g (15 + 12 * c + 9) (rCom g c) (15 + 12 * d + 2) = g (15 + 12 * d + 2) := up_n (by omega)
      have e3 : up g (15 + 12 * c + 9) (rCom g c) (15 + 12 * d + 3) = g (15 + 12 * d + 3) := up_n (by omega)
      have k1 := rFine_2 (g := up g (15 + 12 * c + 9) (rCom g c)) (c := c) (d := d) (fi := g 4) h4 (by rw [e2, e3]; exact hg)
      have k2 := rFine_2 (g := rFine (up g (15 + 12 * c + 9) (rCom g c)) c (g 4)) (c := c + 1) (d := d) (fi := g 4) h4 (by rw [k1.2.1]; exact k1.2.2)
      rw [e2, e3] at k1
      omega
    · rw [if_neg z2, up_n (by omega)]
      omega
  · rw [if_neg z]
    omega
theorem rWatch_12 {g : Row} {c : Int} (hc : 0 ≤ c) : g 12 ≤ rWatch g c 12 ∧ rWatch g c 12 ≤ g 12 + 1 := by
  unfold rWatch
  by_cases z : g (15 + 12 * c) = g (15 + 12 * (c + 1))
  · rw [if_pos z]
    by_cases z2 : rCom g c = 2
    · rw [if_pos z2, up_s]
      omega
    · rw [if_neg z2, up_n (by omega)]
      omega
  · rw [if_neg z]
    omega
