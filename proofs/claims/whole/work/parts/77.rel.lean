/-! a sale, on both sides; what is asked, on both sides -/
abbrev coE (G K : GG) (pg : Int) : Prop := K 18 0 = G pg 0 ∧ K 18 1 = G pg 1 ∧ K 18 2 = G pg 2 ∧ K 18 3 = G pg 3
theorem back_rel {G K : GG} {i c pg : Int} (hc : 0 ≤ c ∧ c < G i 13) (e : rowE (G i) (K 12)) (hp : coE G K pg) : backF K 12 c 18 = backF G i c pg := by
  show 5 * K 18 0 + 10 * K 18 1 + 20 * K 18 2 + 50 * K 18 3 - K 12 (15 + 12 * c + 2) = 5 * G pg 0 + 10 * G pg 1 + 20 * G pg 2 + 50 * G pg 3 - G i (15 + 12 * c + 2)
  rw [hp.1, hp.2.1, hp.2.2.1, hp.2.2.2, e.1 (15 + 12 * c + 2) (by omega) (by omega)]
theorem us_rel {G K : GG} {i pg : Int} (h8 : 0 ≤ G i 13) (e : rowE (G i) (K 12)) (hp : coE G K pg) : min 30 (K 12 5 + K 18 0) = min 30 (G i 5 + G pg 0) ∧ min 30 (K 12 6 + K 18 1) = min 30 (G i 6 + G pg 1) ∧ min 30 (K 12 7 + K 18 2) = min 30 (G i 7 + G pg 2) ∧ min 30 (K 12 8 + K 18 3) = min 30 (G i 8 + G pg 3) := by
  rw [e.1 5 (by omega) (by omega), e.1 6 (by omega) (by omega), e.1 7 (by omega) (by omega), e.1 8 (by omega) (by omega), hp.1, hp.2.1, hp.2.2.1, hp.2.2.2]
  exact ⟨rfl, rfl, rfl, rfl⟩
theorem canU_rel {G K : GG} {i pg a : Int} (h8 : 0 ≤ G i 13) (e : rowE (G i) (K 12)) (hp : coE G K pg) : canU K 12 18 a ↔ canU G i pg a := by
  obtain ⟨u0, u1, u2, u3⟩ := us_rel h8 e hp
  show canF (min 30 (K 12 5 + K 18 0)) (min 30 (K 12 6 + K 18 1)) (min 30 (K 12 7 + K 18 2)) (min 30 (K 12 8 + K 18 3)) a ↔ _
  rw [u0, u1, u2, u3]
theorem can_rel {G K : GG} {i c pg : Int} (o : okN G i) (hc : 0 ≤ c ∧ c < G i 13) (e : rowE (G i) (K 12)) (hp : coE G K pg) : canSellM K c ↔ canSellP G i c pg := by
  have h1 := e.1 (15 + 12 * c + 1) (by omega) (by omega)
  have h3 := e.1 3 (by omega) (by omega)
  show (1 ≤ K 12 (15 + 12 * c + 1) ∧ 0 ≤ backF K 12 c 18 ∧ (canU K 12 18 (backF K 12 c 18) ∨ sumM K + backF K 12 c 18 ≤ K 12 3)) ↔ (1 ≤ G i (15 + 12 * c + 1) ∧ 0 ≤ backF G i c pg ∧ (canU G i pg (backF G i c pg) ∨ G i 311 + backF G i c pg ≤ G i 3))
  rw [back_rel hc e hp, sum_rel o e, h1, h3]
  have q := canU_rel (a := backF G i c pg) (by omega) e hp
  constructor
  · rintro ⟨a, b, d | d⟩
    · exact ⟨a, b, Or.inl (q.mp d)⟩
    · exact ⟨a, b, Or.inr d⟩
  · rintro ⟨a, b, d | d⟩
    · exact ⟨a, b, Or.inl (q.mpr d)⟩
    · exact ⟨a, b, Or.inr d⟩
theorem rel_sale {G H K S : GG} {i c pg : Int} (h8 : 0 ≤ G i 13 ∧ G i 13 ≤ 8) (h14 : 0 ≤ G i 14) (hc : 0 ≤ c ∧ c < G i 13) (e : rowE (G i) (K 12)) (hp : coE G K pg) (h : saleP G i c pg H) (k : saleM K c S) : rowE (H i) (S 12) := by
  have e14 := e.1 14 (by omega) (by omega)
  have e9 := e.1 9 (by omega) (by omega)
  have e5 := e.1 5 (by omega) (by omega)
  have e6 := e.1 6 (by omega) (by omega)
  have e7 := e.1 7 (by omega) (by omega)
  have e8 := e.1 8 (by omega) (by omega)
  have c1 := e.1 (15 + 12 * c + 1) (by omega) (by omega)
  have c2 := e.1 (15 + 12 * c + 2) (by omega) (by omega)
  have c6 := e.1 (15 + 12 * c + 6) (by omega) (by omega)
  have c7 := e.1 (15 + 12 * c + 7) (by omega) (by omega)
  have c10 := e.1 (15 + 12 * c + 10) (by omega) (by omega)
  obtain ⟨u0, u1, u2, u3⟩ := us_rel h8.1 e hp
  have hb := back_rel hc e hp
  obtain ⟨p1, p10, p6, p7, p9, pp, ps, pc⟩ := h
  obtain ⟨q1, q10, q6, q7, q9, qp, qs, qc⟩ := k
  rw [u0, u1, u2, u3, hb] at qc
  have cu : canU K 12 18 (backF G i c pg) ↔ canU G i pg (backF G i c pg) := canU_rel h8.1 e hp
  have s13 : H i 13 = G i 13 := ps i 13 (by omega)
  have hold : ∀ y : Int, 0 ≤ y → y < 15 + 12 * G i 13 → ¬ (5 ≤ y ∧ y < 10) → y ≠ 14 → y ≠ 15 + 12 * c + 1 → y ≠ 15 + 12 * c + 6 → y ≠ 15 + 12 * c + 7 → y ≠ 15 + 12 * c + 10 → S 12 y = H i y := fun y h0 h1 z1 z2 z3 z4 z5 z6 => by
    rw [ps i y (by omega), qs 12 y (by omega)]
    exact e.1 y h0 (by omega)
  have h9 : S 12 9 = H i 9 := by rw [p9, q9, e9, e5, e6, e7, e8, hp.1, hp.2.1, hp.2.2.1, hp.2.2.2]
  have hs : S 12 (15 + 12 * c + 1) = H i (15 + 12 * c + 1) ∧ S 12 (15 + 12 * c + 6) = H i (15 + 12 * c + 6) ∧ S 12 (15 + 12 * c + 7) = H i (15 + 12 * c + 7) ∧ S 12 (15 + 12 * c + 10) = H i (15 + 12 * c + 10) := by
    rw [p1, q1, p6, q6, p7, q7, p10, q10, c1, c6, c7, c10, c2]
    exact ⟨rfl, rfl, rfl, rfl⟩
  have all : S 12 14 = H i 14 → S 12 5 = H i 5 → S 12 6 = H i 6 → S 12 7 = H i 7 → S 12 8 = H i 8 → domE (H i 13) (H i) (S 12) := fun z14 z5 z6 z7 z8 y h0 h1 => by
    rw [s13] at h1
    by_cases x5 : y = 5
    · rw [x5]; exact z5
    by_cases x6 : y = 6
    · rw [x6]; exact z6
    by_cases x7 : y = 7
    · rw [x7]; exact z7
    by_cases x8 : y = 8
    · rw [x8]; exact z8
    by_cases x9 : y = 9
    · rw [x9]; exact h9
    by_cases x14 : y = 14
    · rw [x14]; exact z14
    by_cases y1 : y = 15 + 12 * c + 1
    · rw [y1]; exact hs.1
    by_cases y6 : y = 15 + 12 * c + 6
    · rw [y6]; exact hs.2.1
    by_cases y7 : y = 15 + 12 * c + 7
    · rw [y7]; exact hs.2.2.1
    by_cases y10 : y = 15 + 12 * c + 10
    · rw [y10]; exact hs.2.2.2
    exact hold y h0 h1 (by omega) x14 y1 y6 y7 y10
  have zz : ∀ y : Int, 15 + 12 * H i 13 ≤ y → y < 111 → S 12 y = 0 := fun y h0 h1 => by
    rw [qs 12 y (by omega)]
    exact e.2.2 y (by omega) h1
  rcases pc with ⟨pa, p14, p311, p5, p6', p7', p8⟩ | ⟨pa, p14, p311, pn, p5, p6', p7', p8⟩
  · rcases qc with ⟨qa, q14, q5, q6', q7', q8⟩ | ⟨qa, qr⟩
    · refine ⟨all (by rw [p14, q14, e14]) (by rw [p5, q5]) (by rw [p6', q6']) (by rw [p7', q7']) (by rw [p8, q8]), fun m h0 h1 => ?_, zz⟩
      rw [pp m h0 (by omega), qp m h0 (by omega)]
      exact e.2.1 m h0 (by omega)
    · exact absurd (cu.mpr pa) qa
  · rcases qc with ⟨qa, qr⟩ | ⟨qa, q14, qn, q5, q6', q7', q8⟩
    · exact absurd (cu.mp qa) pa
    · refine ⟨all (by rw [p14, q14, e14]) (by rw [p5, q5]) (by rw [p6', q6']) (by rw [p7', q7']) (by rw [p8, q8]), fun m h0 h1 => ?_, zz⟩
      by_cases hm : m = G i 14
      · subst hm
        rw [pn]
        rw [e14] at qn
        exact qn
      · rw [pp m h0 (by omega), qp m h0 (by omega)]
        exact e.2.1 m h0 (by omega)
theorem back_b {G : GG} {i c pg : Int} (o : okN G i) (hc : 0 ≤ c ∧ c < G i 13) (hco : ∀ k : Int, 0 ≤ k → k < 4 → 0 ≤ G pg k ∧ G pg k ≤ 9) (hcan : canSellP G i c pg) : 0 ≤ backF G i c pg ∧ backF G i c pg ≤ 3000 := by
  refine ⟨hcan.2.1, ?_⟩
  have oc := o.1.2.2 c hc.1 hc.2
  unfold okC at oc
  show 5 * G pg 0 + 10 * G pg 1 + 20 * G pg 2 + 50 * G pg 3 - G i (15 + 12 * c + 2) ≤ 3000
  have h0 := hco 0 (by omega) (by omega)
  have h1 := hco 1 (by omega) (by omega)
  have h2 := hco 2 (by omega) (by omega)
  have h3 := hco 3 (by omega) (by omega)
  omega
theorem rel_sell {G G1 K S H : GG} {i c pg r : Int} (o : okN G i) (hc : 0 ≤ c ∧ c < G i 13) (hco : ∀ k : Int, 0 ≤ k → k < 4 → 0 ≤ G pg k ∧ G pg k ≤ 9) (e : rowE (G i) (K 12)) (hp : coE G K pg) (hcan : canSellP G i c pg) (h : sellP G i c pg r G1) (k1 : saleM K c S) (k2 : keepM S (kpG S 12) H) : rowE (G1 i) (H 12) ∧ r = (if canU K 12 18 (backF K 12 c 18) then backF K 12 c 18 else -10 - backF K 12 c 18) := by
  obtain ⟨H0, s, kk, hr⟩ := h
  have o8 := o.1.2.1
  have o14 := o.2.1.1
  have hn := room_sale (by omega) (o.1.2.2 c hc.1 hc.2) o.1.1 o.2.1 ⟨okR_5 o14.1 o.2.2, o.2.2.2.2⟩ hco hcan
  have oP := okP_sale (by omega) o.2.1 hco (back_b o hc hco hcan) hn s
  have rs := rel_sale o8 o14.1 hc e hp s k1
  have s13 : H0 i 13 = G i 13 := s.2.2.2.2.2.2.1 i 13 (by omega)
  refine ⟨rel_keep (by omega) oP rs kk k2, ?_⟩
  rw [hr, back_rel hc e hp]
  by_cases hu : canU G i pg (backF G i c pg)
  · rw [if_pos hu, if_pos ((canU_rel o8.1 e hp).mpr hu)]
  · rw [if_neg hu, if_neg (fun q => hu ((canU_rel o8.1 e hp).mp q))]
theorem rowE_congr {g g2 h h2 : Row} (h8 : 0 ≤ g 13 ∧ g 13 ≤ 8) (h14 : g 14 ≤ 200) (e1 : ∀ y : Int, (0 ≤ y ∧ y < 15 + 12 * g 13) ∨ (111 ≤ y ∧ y < 311) → g2 y = g y) (e2 : ∀ y : Int, 0 ≤ y → y < 311 → h2 y = h y) (e : rowE g h) : rowE g2 h2 := by
  have e13 := e1 13 (by omega)
  have e14 := e1 14 (by omega)
  refine ⟨fun y h0 h1 => ?_, fun m h0 h1 => ?_, fun y h0 h1 => ?_⟩
  · rw [e2 y h0 (by omega), e1 y (by omega)]
    exact e.1 y h0 (by omega)
  · rw [e2 (111 + m) (by omega) (by omega), e1 (111 + m) (by omega)]
    exact e.2.1 m h0 (by omega)
  · rw [e2 y (by omega) (by omega)]
    exact e.2.2 y (by omega) h1
theorem rowE_over {G K : GG} {i j : Int} {h : Row} (o : okN G j) (v : overP G i j K) (e : rowE (G j) h) : rowE (K i) h := by
  have o8 := o.1.2.1
  have o14 := o.2.1.1
  refine rowE_congr o8 o14.2 (fun y hy => ?_) (fun _ _ _ => rfl) e
  by_cases h1 : y < 15
  · exact v.1 y (by omega) h1
  · by_cases h2 : y < 15 + 12 * G j 13
    · exact v.2.1 y (by omega) h2
    · exact v.2.2.1 y (by omega) (by omega)
theorem row_rel {i c : Int} : ∀ (n : Nat) {G K G1 : GG} {r r' : Int}, okN G i → (0 ≤ c ∧ c < G i 13) → i ≠ 10 → (∀ k : Int, 0 ≤ k → k < 4 → 0 ≤ G 10 k ∧ G 10 k ≤ 9) → rowE (G i) (K 12) → coE G K 10 → G i (15 + 12 * c + 1) ≤ n → salesP i c n G r G1 → rowM c (n + 1) K r' → r' = r
  | 0, G, K, G1, r, r', o, hc, hi, hco, e, hp, hs, h, k => by
    rcases k with ⟨kc, kr⟩ | ⟨kc, kr⟩
    · rw [kr, h.1]
    · have := e.1 (15 + 12 * c + 1) (by omega) (by omega)
      have := kc.1
      omega
  | n + 1, G, K, G1, r, r', o, hc, hi, hco, e, hp, hs, h, k => by
    have o8 := o.1.2.1
    have o14 := o.2.1.1
    have cr := can_rel o hc e hp
    rcases h with ⟨hn, hr, -⟩ | ⟨hcan, K2, H2, x, s2, sl, hrec⟩
    · rcases k with ⟨kc, kr⟩ | ⟨kc, kr⟩
      · rw [kr, hr]
      · exact absurd (cr.mp kc) hn
    · rcases k with ⟨kc, kr⟩ | ⟨kc, S, H, k1, k2, k18, krec⟩
      · exact absurd (cr.mpr hcan) kc
      · have o2 : okN K2 i := okN_congr (fun y hy => s2 i y (by omega)) o
        have e2 : rowE (K2 i) (K 12) := rowE_congr o8 o14.2 (fun y hy => s2 i y (by omega)) (fun _ _ _ => rfl) e
        have p10 : ∀ y, K2 10 y = G 10 y := fun y => s2 10 y (by omega)
        have hp2 : coE K2 K 10 := by
          show K 18 0 = K2 10 0 ∧ K 18 1 = K2 10 1 ∧ K 18 2 = K2 10 2 ∧ K 18 3 = K2 10 3
          rw [p10, p10, p10, p10]
          exact hp
        have hco2 : ∀ k : Int, 0 ≤ k → k < 4 → 0 ≤ K2 10 k ∧ K2 10 k ≤ 9 := fun k h0 h1 => by rw [p10]; exact hco k h0 h1
        have s13 : K2 i 13 = G i 13 := s2 i 13 (by omega)
        have s1 : K2 i (15 + 12 * c + 1) = G i (15 + 12 * c + 1) := s2 i _ (by omega)
        have hcan2 : canSellP K2 i c 10 := (canSell_congr (by omega) (fun y hy => s2 i y (by omega)) p10).2.2.mpr hcan
        have rs := rel_sell o2 (by omega) hco2 e2 hp2 hcan2 sl k1 k2
        have oH := okN_sell (by omega) o2 hco2 hcan2 sl
        have q10 : ∀ y, H2 10 y = K2 10 y := fun y => sell_ne (x := 10) (y := y) sl (fun q => hi q.1.symm) (fun q => hi q.1.symm)
        have q13 : H2 i 13 = K2 i 13 := sell_ne (x := i) (y := 13) sl (by show ¬ (i = i ∧ _); omega) (by show ¬ (i = i ∧ _); omega)
        have q1 : H2 i (15 + 12 * c + 1) = K2 i (15 + 12 * c + 1) - 1 := by
          obtain ⟨H0, z1, z2, z3⟩ := sl
          rw [z2.2.2.2.2.2.2.2.2 i _ (by omega), z1.1]
        have hp3 : coE H2 H 10 := by
          show H 18 0 = H2 10 0 ∧ H 18 1 = H2 10 1 ∧ H 18 2 = H2 10 2 ∧ H 18 3 = H2 10 3
          rw [q10, q10, q10, q10, k18, k18, k18, k18]
          exact hp2
        have z := row_rel n oH (by omega) hi (fun k h0 h1 => by rw [q10]; exact hco2 k h0 h1) rs.1 hp3 (by omega) hrec krec
        omega
theorem sumF_dom {n : Int} {g h : Row} {w : Int} (hw : 0 ≤ w ∧ w < 12) (e : domE n g h) : ∀ k : Nat, (k : Int) ≤ n → sumF h w k = sumF g w k
  | 0, _ => rfl
  | k + 1, hk => by
    show sumF h w k + h (15 + 12 * k + w) = sumF g w k + g (15 + 12 * k + w)
    rw [sumF_dom hw e k (by omega), e (15 + 12 * (k : Int) + w) (by omega) (by omega)]
theorem num_rel {G K : GG} {i k : Int} (o : okN G i) (e : rowE (G i) (K 12)) : numM K k = numF (G i) k := by
  have o8 := o.1.2.1
  have e9 := e.1 9 (by omega) (by omega)
  have e10 := e.1 10 (by omega) (by omega)
  have e11 := e.1 11 (by omega) (by omega)
  have e12 := e.1 12 (by omega) (by omega)
  have e13 := e.1 13 (by omega) (by omega)
  have e14 := e.1 14 (by omega) (by omega)
  have e5 := e.1 5 (by omega) (by omega)
  have e6 := e.1 (5 + 1) (by omega) (by omega)
  have e7 := e.1 (5 + 2) (by omega) (by omega)
  have e8 := e.1 (5 + 3) (by omega) (by omega)
  have s6 := sumF_dom (w := 6) (by omega) e.1 (G i 13).toNat (by omega)
  have s7 := sumF_dom (w := 7) (by omega) e.1 (G i 13).toNat (by omega)
  have s1 := sumF_dom (w := 1) (by omega) e.1 (G i 13).toNat (by omega)
  unfold numM
  by_cases h5 : k = 5
  · subst h5
    rw [if_pos rfl, sum_rel o e]
    rfl
  · rw [if_neg h5]
    unfold numF
    rw [e13, e10, e9, e14, e11, e12, s6, s7, s1]
    unfold worthF
    rw [e5, e6, e7, e8]
    by_cases k0 : k = 0
    · rw [if_pos k0, if_pos k0]
    by_cases k1 : k = 1
    · rw [if_neg k0, if_neg k0, if_pos k1, if_pos k1]
    by_cases k2 : k = 2
    · rw [if_neg k0, if_neg k0, if_neg k1, if_neg k1, if_pos k2, if_pos k2]
    by_cases k3 : k = 3
    · rw [if_neg k0, if_neg k0, if_neg k1, if_neg k1, if_neg k2, if_neg k2, if_pos k3, if_pos k3]
    by_cases k4 : k = 4
    · rw [if_neg k0, if_neg k0, if_neg k1, if_neg k1, if_neg k2, if_neg k2, if_neg k3, if_neg k3, if_pos k4, if_pos k4]
    rw [if_neg k0, if_neg k0, if_neg k1, if_neg k1, if_neg k2, if_neg k2, if_neg k3, if_neg k3, if_neg k4, if_neg k4, if_neg h5, if_neg h5]
theorem foldT_eq {F F2 : Int → Int} : ∀ (n : Nat) (k h : Int), (∀ j : Int, k ≤ j → j < k + n → F2 j = F j) → foldT F2 n k h = foldT F n k h
  | 0, _, _, _ => rfl
  | n + 1, k, h, q => by
    show foldT F2 n (k + 1) (mixF h (F2 k)) = foldT F n (k + 1) (mixF h (F k))
    rw [q k (by omega) (by omega)]
    exact foldT_eq n (k + 1) _ (fun j h0 h1 => q j (by omega) (by omega))
theorem coilT_eq {m : Int} {g h2 : Row} (e : domE m g h2) : ∀ (n : Nat) (c h : Int), 0 ≤ c → c + n ≤ m → coilT h2 n c h = coilT g n c h
  | 0, _, _, _, _ => rfl
  | n + 1, c, h, h0, h1 => by
    show coilT h2 n (c + 1) (foldT (fun w => h2 (15 + 12 * c + w)) 11 0 h) = coilT g n (c + 1) (foldT (fun w => g (15 + 12 * c + w)) 11 0 h)
    rw [foldT_eq (F := fun w => g (15 + 12 * c + w)) (F2 := fun w => h2 (15 + 12 * c + w)) 11 0 h (fun j z0 z1 => e (15 + 12 * c + j) (by omega) (by omega))]
    exact coilT_eq e n (c + 1) _ (by omega) (by omega)
theorem digest_rel {G K : GG} {i len s : Int} (o : okN G i) (e : rowE (G i) (K 12)) : dgF (numM K) (K 12) len s = dgF (numF (G i)) (G i) len s := by
  have o8 := o.1.2.1
  have o14 := o.2.1.1
  have e13 := e.1 13 (by omega) (by omega)
  have e14 := e.1 14 (by omega) (by omega)
  unfold dgF dg3 dg4 dg5
  rw [foldT_eq (F := numF (G i)) (F2 := numM K) 11 0 _ (fun j _ _ => num_rel o e), e13, e14, foldT_eq (F := fun k => G i k) (F2 := fun k => K 12 k) 9 0 _ (fun j z0 z1 => e.1 j z0 (by omega)), coilT_eq e.1 (G i 13).toNat 0 _ (by omega) (by omega), foldT_eq (F := fun m => G i (111 + m)) (F2 := fun m => K 12 (111 + m)) (G i 14).toNat 0 _ (fun j z0 z1 => e.2.1 j z0 (by omega))]
theorem fv_rel {g h : Row} (hw : ∀ d : Int, 0 ≤ d → d < g 13 → okW (g (15 + 12 * d + 10))) (e : domE (g 13) g h) (hneg : ∀ x, okW x → ¬ fcl (fB x) 3212836864 ≤ 0) : ∀ n : Nat, (n : Int) ≤ g 13 → fvM h n = (fvF g n).1 ∧ ((n = 0 ∧ fvF g n = (-1, 3212836864)) ∨ (0 ≤ (fvF g n).1 ∧ (fvF g n).1 < n ∧ (fvF g n).2 = fB (g (15 + 12 * (fvF g n).1 + 10))))
  | 0, _ => ⟨rfl, Or.inl ⟨rfl, rfl⟩⟩
  | n + 1, hn => by
    obtain ⟨h1, h2⟩ := fv_rel hw e hneg n (by omega)
    have en := e (15 + 12 * (n : Int) + 10) (by omega) (by omega)
    have ow := hw (n : Int) (by omega) (by omega)
    rcases h2 with ⟨h0, hv⟩ | ⟨hb0, hb1, hb2⟩
    · have hf : fvF g (n + 1) = ((n : Int), fB (g (15 + 12 * (n : Int) + 10))) := if_neg (by rw [hv]; exact hneg _ ow)
      have hm : fvM h (n + 1) = (n : Int) := if_pos (Or.inl (by rw [h1, hv]; decide))
      rw [hf, hm]
      exact ⟨rfl, Or.inr ⟨by omega, by omega, rfl⟩⟩
    · have eb := e (15 + 12 * (fvF g n).1 + 10) (by omega) (by omega)
      by_cases hc : fcl (fB (g (15 + 12 * (n : Int) + 10))) (fvF g n).2 ≤ 0
      · have hf : fvF g (n + 1) = fvF g n := if_pos hc
        have hm : fvM h (n + 1) = fvM h n := if_neg (by
          rintro (q | q)
          · rw [h1] at q; omega
          · rw [h1, en, eb, ← hb2] at q
            exact q hc)
        rw [hf, hm]
        exact ⟨h1, Or.inr ⟨hb0, by omega, hb2⟩⟩
      · have hf : fvF g (n + 1) = ((n : Int), fB (g (15 + 12 * (n : Int) + 10))) := if_neg hc
        have hm : fvM h (n + 1) = (n : Int) := if_pos (Or.inr (by rw [h1, en, eb, ← hb2]; exact hc))
        rw [hf, hm]
        exact ⟨rfl, Or.inr ⟨by omega, by omega, rfl⟩⟩
