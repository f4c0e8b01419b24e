/-! saved states on both sides; the relation that every order keeps -/
theorem overP_out {G K : GG} {i j x y : Int} (h : overP G i j K) (hx : x ≠ i) : K x y = G x y := h.2.2.2 x y hx
/-- what save does, page by page: d states dropped, n kept -/
def savS (G H : GG) (d n : Int) : Prop := ((G 6 0 = 4 ∧ d = 1 ∧ n = 3) ∨ (G 6 0 < 4 ∧ d = 0 ∧ n = G 6 0)) ∧ H 6 0 = n + 1 ∧ (∀ y : Int, (0 ≤ y ∧ y < 15 + 12 * G 0 13) ∨ (111 ≤ y ∧ y < 312) → H (H 6 (n + 10)) y = G 0 y) ∧ ∀ k y : Int, 0 ≤ k → k < n → H (H 6 (k + 10)) y = G (G 6 (k + d + 10)) y
theorem save_spec {G H : GG} (v : okV G) (h8 : 0 ≤ G 0 13 ∧ G 0 13 ≤ 8) (h : saveP G H) : okV H ∧ ∃ d n : Int, savS G H d n := by
  obtain ⟨K, H0, i, n, hc, ho, rfl⟩ := h
  have v2 := v
  obtain ⟨v0, w0, w1, w2, w3, d01, d02, d03, d12, d13, d23⟩ := v2
  rcases hc with ⟨rfl, hl, hi, hn⟩ | ⟨rfl, hl, hi, hn⟩
  · have iR := okV_at v (k := K 6 0) (by omega)
    have r6 : ∀ y, H0 6 y = K 6 y := fun y => overP_out ho (by omega)
    have s6 : ∀ y, y ≠ 0 → setG H0 6 0 n 6 y = K 6 y := fun y hy => (setG_ne (by omega)).trans (r6 y)
    have s60 : setG H0 6 0 n 6 0 = n := setG_same _ _ _ _
    refine ⟨?_, 0, K 6 0, Or.inr ⟨hl, rfl, rfl⟩, by rw [s60, hn], fun y hy => ?_, fun k y h0 h1 => ?_⟩
    · unfold okV
      rw [s60, s6 10 (by omega), s6 11 (by omega), s6 12 (by omega), s6 13 (by omega)]
      exact ⟨by omega, w0, w1, w2, w3, d01, d02, d03, d12, d13, d23⟩
    · rw [s6 (K 6 0 + 10) (by omega), ← hi, setG_ne (by omega)]
      by_cases z1 : y < 15
      · exact ho.1 y (by omega) z1
      · by_cases z2 : y < 15 + 12 * K 0 13
        · exact ho.2.1 y (by omega) z2
        · exact ho.2.2.1 y (by omega) (by omega)
    · have pR := okV_at v (k := k) (by omega)
      have pne : K 6 (k + 10) ≠ i := by
        rw [hi]
        have hk : k = 0 ∨ k = 1 ∨ k = 2 := by omega
        have hm : K 6 0 = 1 ∨ K 6 0 = 2 ∨ K 6 0 = 3 := by omega
        rcases hk with rfl | rfl | rfl <;> rcases hm with q | q | q <;> rw [q] at h1 ⊢ <;> first | exact absurd h1 (by decide) | assumption
      rw [s6 (k + 10) (by omega), setG_ne (by omega), overP_out ho pne, show k + 0 + 10 = k + 10 by omega]
  · have g4 : G 6 0 = 4 := by omega
    have k6 : dropG G 6 10 = G 6 11 ∧ dropG G 6 11 = G 6 12 ∧ dropG G 6 12 = G 6 13 ∧ dropG G 6 13 = G 6 10 := by
      unfold dropG setG
      exact ⟨rfl, rfl, rfl, rfl⟩
    have r6 : ∀ y, H0 6 y = dropG G 6 y := fun y => overP_out ho (by omega)
    have s6 : ∀ y, y ≠ 0 → setG H0 6 0 n 6 y = dropG G 6 y := fun y hy => (setG_ne (by omega)).trans (r6 y)
    have s60 : setG H0 6 0 n 6 0 = n := setG_same _ _ _ _
    refine ⟨?_, 1, 3, Or.inl ⟨g4, rfl, rfl⟩, by rw [s60, hn]; rfl, fun y hy => ?_, fun k y h0 h1 => ?_⟩
    · unfold okV
      rw [s60, s6 10 (by omega), s6 11 (by omega), s6 12 (by omega), s6 13 (by omega), k6.1, k6.2.1, k6.2.2.1, k6.2.2.2]
      exact ⟨by omega, w1, w2, w3, w0, d12, d13, Ne.symm d01, d23, Ne.symm d02, Ne.symm d03⟩
    · have q13 : setG H0 6 0 n 6 (3 + 10) = i := by
        rw [s6 (3 + 10) (by omega), hi]
        exact k6.2.2.2
      have z0 : ∀ y, dropG G 0 y = G 0 y := fun y => dropG_ne (by omega)
      rw [q13, setG_ne (by omega), ← z0 y]
      have hd := z0 13
      by_cases z1 : y < 15
      · exact ho.1 y (by omega) z1
      · by_cases z2 : y < 15 + 12 * G 0 13
        · exact ho.2.1 y (by omega) (by omega)
        · exact ho.2.2.1 y (by omega) (by omega)
    · have hk : k = 0 ∨ k = 1 ∨ k = 2 := by omega
      have pk : setG H0 6 0 n 6 (k + 10) = G 6 (k + 1 + 10) := by
        rw [s6 (k + 10) (by omega)]
        rcases hk with rfl | rfl | rfl
        · exact k6.1
        · exact k6.2.1
        · exact k6.2.2.1
      have pR : 2 ≤ G 6 (k + 1 + 10) ∧ G 6 (k + 1 + 10) ≤ 5 := okV_at v (k := k + 1) (by omega)
      have pne : G 6 (k + 1 + 10) ≠ i := by
        rw [hi]
        rcases hk with rfl | rfl | rfl
        · exact Ne.symm d01
        · exact Ne.symm d02
        · exact Ne.symm d03
      rw [pk, setG_ne (by omega), overP_out ho pne, dropG_ne (by omega)]
/-- saved states: the class's in G, the reference's in H -/
def savE (G H : GG) : Prop := H 11 4 = G 6 0 ∧ ∀ k : Int, 0 ≤ k → k < G 6 0 → rowE (G (G 6 (k + 10))) (fun y => H 15 (311 * k + y)) ∧ okN G (G 6 (k + 10)) ∧ (0 ≤ G (G 6 (k + 10)) 10 ∧ G (G 6 (k + 10)) 10 ≤ 100000)
def relR (G : GG) : Prop := okN G 0 ∧ (0 ≤ G 0 10 ∧ G 0 10 ≤ 100000) ∧ okV G ∧ okT G ∧ rowE (G 0) (G 12) ∧ savE G G ∧ G 11 6 = G 7 1 ∧ ∀ k : Int, 0 ≤ k → k < G 7 1 → G 16 k = G 8 k
theorem relR_M {G : GG} (r : relR G) : okM G := by
  obtain ⟨oN, o10, v, t, e, sv, l, tx⟩ := r
  exact ⟨oN.1, oN.2.1, ⟨okR_5 oN.2.1.1.1 oN.2.2, oN.2.2.2.2⟩, o10, v⟩
theorem relR_12 {G : GG} (r : relR G) : okN12 G := relN r.1 r.2.2.2.2.1
theorem relR_X {G : GG} (r : relR G) : okX G := by
  obtain ⟨oN, o10, v, t, e, sv, l, tx⟩ := r
  refine ⟨by rw [l]; exact t.1, fun k h0 h1 => ?_⟩
  rw [tx k h0 (by omega)]
  exact t.2.2.2 k h0 (by omega)
theorem relR_4 {G : GG} (r : relR G) : 0 ≤ G 11 4 ∧ G 11 4 ≤ 4 := by
  rw [r.2.2.2.2.2.1.1]
  exact r.2.2.1.1
theorem relR_10 {G : GG} (r : relR G) : 0 ≤ G 12 10 ∧ G 12 10 ≤ 100000 := by
  have o8 := r.1.1.2.1
  rw [r.2.2.2.2.1.1 10 (by omega) (by omega)]
  exact r.2.1
theorem relR_htu {G : GG} (r : relR G) : ∀ k : Int, 0 ≤ k → k < 4 → 0 ≤ G 12 (5 + k) ∧ G 12 (5 + k) ≤ 30 := fun k h0 h1 => by
  have o8 := r.1.1.2.1
  rw [r.2.2.2.2.1.1 (5 + k) (by omega) (by omega)]
  exact r.1.2.1.2.2 k h0 h1
theorem relR_s {G : GG} (r : relR G) : ∀ k : Int, 0 ≤ k → k < G 6 0 → okH (G (G 6 (k + 10))) := fun k h0 h1 => (r.2.2.2.2.2.1.2 k h0 h1).2.1.1
theorem okN_congr2 {G H : GG} {i j : Int} (o : okN G j) (h : ∀ y : Int, 0 ≤ y → y < 312 → H i y = G j y) : okN H i := by
  have o8 := o.1.2.1
  have o14 := o.2.1.1
  exact okN_dom (fun y hy => h y (by omega) (by omega)) o
/-- nothing of what the relation reads has changed -/
theorem relR_frame {G B : GG} (r : relR G) (e0 : ∀ y : Int, 0 ≤ y → y < 312 → B 0 y = G 0 y) (e6 : ∀ x y : Int, 2 ≤ x → x ≤ 6 → B x y = G x y) (t : okT B) (e71 : B 7 1 = G 7 1) (e8 : ∀ y, B 8 y = G 8 y) (e12 : ∀ y : Int, 0 ≤ y → y < 311 → B 12 y = G 12 y) (e4 : B 11 4 = G 11 4) (e116 : B 11 6 = G 11 6) (e15 : ∀ y, B 15 y = G 15 y) (e16 : ∀ y, B 16 y = G 16 y) : relR B := by
  obtain ⟨oN, o10, v, _, e, sv, l, tx⟩ := r
  have o8 := oN.1.2.1
  have o14 := oN.2.1.1
  have r6 : ∀ y, B 6 y = G 6 y := fun y => e6 6 y (by omega) (by omega)
  refine ⟨okN_congr2 oN e0, by rw [e0 10 (by omega) (by omega)]; exact o10, ?_, t, rowE_congr o8 o14.2 (fun y hy => e0 y (by omega) (by omega)) e12 e, ⟨by rw [e4, r6]; exact sv.1, fun k h0 h1 => ?_⟩, by rw [e116, e71]; exact l, fun k h0 h1 => by rw [e16, e8]; exact tx k h0 (by omega)⟩
  · unfold okV
    rw [r6, r6, r6, r6, r6]
    exact v
  · rw [r6] at h1
    obtain ⟨a1, a2, a3⟩ := sv.2 k h0 h1
    have pR := okV_at v (k := k) (by have := v.1; omega)
    have pg : ∀ y, B (B 6 (k + 10)) y = G (G 6 (k + 10)) y := fun y => by rw [r6]; exact e6 _ y (by omega) (by omega)
    have p8 := a2.1.2.1
    have p14 := a2.2.1.1
    refine ⟨rowE_congr p8 p14.2 (fun y _ => pg y) (fun y _ _ => ?_) a1, okN_congr2 a2 (fun y _ _ => pg y), by rw [pg]; exact a3⟩
    exact e15 _
theorem svR_congr {G A B : GG} (h4 : A 11 4 = G 11 4) (h12 : ∀ y, A 12 y = G 12 y) (h15 : ∀ y, A 15 y = G 15 y) (s : svR A B) : svR G B := by
  obtain ⟨d, n, h1, h2, h3, h5⟩ := s
  rw [h4] at h1
  exact ⟨d, n, h1, h2, fun y z0 z1 => by rw [h3 y z0 z1, h12], fun k y z0 z1 z2 z3 => by rw [h5 k y z0 z1 z2 z3, h15]⟩
/-- a state was saved on both sides, then page 0 and page 12 were changed alike -/
theorem relR_save {G H B : GG} (r : relR G) (s : saveP G H) (a6 : ∀ x y : Int, 2 ≤ x → x ≤ 6 → B x y = H x y) (oN : okN B 0) (o10 : 0 ≤ B 0 10 ∧ B 0 10 ≤ 100000) (t : okT B) (e71 : B 7 1 = G 7 1) (e8 : ∀ y, B 8 y = G 8 y) (row : rowE (B 0) (B 12)) (sv : svR G B) (e116 : B 11 6 = G 11 6) (e16 : ∀ y, B 16 y = G 16 y) : relR B := by
  obtain ⟨rN, r10, v, _, e, rs, l, tx⟩ := r
  have o8 := rN.1.2.1
  have o14 := rN.2.1.1
  obtain ⟨vH, d, n, hc, hn, hp, hk⟩ := save_spec v o8 s
  obtain ⟨d2, n2, gc, gn, gp, gk⟩ := sv
  have v0 := v.1
  have hv0 := vH.1
  rw [rs.1] at gc
  have hd : d2 = d ∧ n2 = n := by omega
  obtain ⟨rfl, rfl⟩ := hd
  have r6 : ∀ y, B 6 y = H 6 y := fun y => a6 6 y (by omega) (by omega)
  refine ⟨oN, o10, ?_, t, row, ⟨by rw [gn, r6, hn], fun k h0 h1 => ?_⟩, by rw [e116, e71]; exact l, fun k h0 h1 => by rw [e16, e8]; exact tx k h0 (by omega)⟩
  · unfold okV
    rw [r6, r6, r6, r6, r6]
    exact vH
  · rw [r6, hn] at h1
    have pR := okV_at vH (k := k) (by omega)
    have pg : ∀ y, B (B 6 (k + 10)) y = H (H 6 (k + 10)) y := fun y => by rw [r6]; exact a6 _ y (by omega) (by omega)
    by_cases hkn : k = n2
    · subst hkn
      have pq : ∀ y : Int, (0 ≤ y ∧ y < 15 + 12 * G 0 13) ∨ (111 ≤ y ∧ y < 312) → B (B 6 (k + 10)) y = G 0 y := fun y hy => (pg y).trans (hp y hy)
      refine ⟨rowE_congr o8 o14.2 (fun y hy => pq y (by omega)) (fun y h0 h1 => gp y h0 h1) e, okN_dom (fun y hy => pq y (by omega)) rN, by rw [pq 10 (by omega)]; exact r10⟩
    · obtain ⟨a1, a2, a3⟩ := rs.2 (k + d2) (by omega) (by omega)
      have pq : ∀ y : Int, B (B 6 (k + 10)) y = G (G 6 (k + d2 + 10)) y := fun y => (pg y).trans (hk k y h0 (by omega))
      have p8 := a2.1.2.1
      have p14 := a2.2.1.1
      exact ⟨rowE_congr p8 p14.2 (fun y _ => pq y) (fun y h2 h3 => gk k y h0 (by omega) h2 h3) a1, okN_congr2 a2 (fun y _ _ => pq y), by rw [pq]; exact a3⟩
theorem okT_b {G B : GG} (t : okT G) (h7 : ∀ y, B 7 y = G 7 y) (h8 : ∀ y, B 8 y = G 8 y) : okT B := okT_congr h7 h8 t
theorem relR_undo {G A B : GG} (r : relR G) (h1 : 1 ≤ G 6 0) (c : overP (setG G 6 0 (G 6 0 - 1)) 0 (G 6 (G 6 0 + 9)) A) (b0 : ∀ x y : Int, x ≤ 8 → B x y = A x y) (e4 : B 11 4 = G 11 4 - 1) (e12 : ∀ y : Int, 0 ≤ y → y < 311 → B 12 y = G 15 (311 * (G 11 4 - 1) + y)) (e15 : ∀ y, B 15 y = G 15 y) (e116 : B 11 6 = G 11 6) (e16 : ∀ y, B 16 y = G 16 y) : relR B := by
  obtain ⟨rN, r10, v, t, e, rs, l, tx⟩ := r
  have v0 := v.1
  obtain ⟨a1, a2, a3⟩ := rs.2 (G 6 0 - 1) (by omega) (by omega)
  have hq : G 6 0 - 1 + 10 = G 6 0 + 9 := by omega
  rw [hq] at a1 a2 a3
  have pR := okV_at v (k := G 6 0 - 1) (by omega)
  rw [hq] at pR
  have z : ∀ y, setG G 6 0 (G 6 0 - 1) (G 6 (G 6 0 + 9)) y = G (G 6 (G 6 0 + 9)) y := fun y => setG_ne (by omega)
  have p8 := a2.1.2.1
  have p14 := a2.2.1.1
  have z13 := z 13
  have c0 : ∀ y : Int, (0 ≤ y ∧ y < 15 + 12 * G (G 6 (G 6 0 + 9)) 13) ∨ (111 ≤ y ∧ y < 312) → B 0 y = G (G 6 (G 6 0 + 9)) y := fun y hy => by
    rw [b0 0 y (by omega), ← z y]
    by_cases z1 : y < 15
    · exact c.1 y (by omega) z1
    · by_cases z2 : y < 15 + 12 * G (G 6 (G 6 0 + 9)) 13
      · exact c.2.1 y (by omega) (by omega)
      · exact c.2.2.1 y (by omega) (by omega)
  have cx : ∀ x y : Int, x ≤ 8 → x ≠ 0 → ¬ (x = 6 ∧ y = 0) → B x y = G x y := fun x y hx hx0 hxy => by
    rw [b0 x y hx, overP_out c hx0, setG_ne hxy]
  have c60 : B 6 0 = G 6 0 - 1 := by rw [b0 6 0 (by omega), overP_out c (by omega), setG_same]
  have tB : okT B := okT_congr (fun y => cx 7 y (by omega) (by omega) (by omega)) (fun y => cx 8 y (by omega) (by omega) (by omega)) t
  refine ⟨okN_dom (fun y hy => c0 y (by omega)) a2, by rw [c0 10 (by omega)]; exact a3, ?_, tB, rowE_congr p8 p14.2 (fun y hy => c0 y (by omega)) (fun y h0 h1 => by rw [e12 y h0 h1, rs.1]) a1, ⟨by rw [e4, c60, rs.1], fun k h0 h1 => ?_⟩, by rw [e116, cx 7 1 (by omega) (by omega) (by omega)]; exact l, fun k h0 h1 => by
    rw [cx 7 1 (by omega) (by omega) (by omega)] at h1
    rw [e16, cx 8 k (by omega) (by omega) (by omega)]; exact tx k h0 h1⟩
  · unfold okV
    rw [c60, cx 6 10 (by omega) (by omega) (by omega), cx 6 11 (by omega) (by omega) (by omega), cx 6 12 (by omega) (by omega) (by omega), cx 6 13 (by omega) (by omega) (by omega)]
    exact ⟨by omega, v.2⟩
  · rw [c60] at h1
    obtain ⟨s1, s2, s3⟩ := rs.2 k h0 (by omega)
    have qR := okV_at v (k := k) (by omega)
    have pg : ∀ y, B (B 6 (k + 10)) y = G (G 6 (k + 10)) y := fun y => by
      rw [cx 6 (k + 10) (by omega) (by omega) (by omega)]
      exact cx _ y (by omega) (by omega) (by omega)
    have q8 := s2.1.2.1
    have q14 := s2.2.1.1
    exact ⟨rowE_congr q8 q14.2 (fun y _ => pg y) (fun y _ _ => e15 _) s1, okN_congr2 s2 (fun y _ _ => pg y), by rw [pg]; exact s3⟩
/-! the start -/
theorem relR_ini : relR iniG := by
  have z0 : ∀ y, iniG 0 y = iniM y := fun y => if_pos (Or.inl (by omega))
  have z12 : ∀ y, iniG 12 y = iniM y := fun y => if_pos (Or.inr rfl)
  have g13 : iniG 0 13 = 0 := by rw [z0]; rfl
  have g14 : iniG 0 14 = 0 := by rw [z0]; rfl
  have g60 : iniG 6 0 = 0 := rfl
  have g71 : iniG 7 1 = 0 := rfl
  refine ⟨⟨⟨?_, ?_, fun d h0 h1 => ?_⟩, ⟨?_, fun m h0 h1 => ?_, fun k h0 h1 => ?_⟩, ⟨fun m h0 h1 => ?_, ?_, ?_⟩⟩, ?_, ?_, ?_, ⟨fun y _ _ => ?_, fun m h0 h1 => ?_, fun y h0 h1 => ?_⟩, ⟨rfl, fun k h0 h1 => ?_⟩, rfl, fun k h0 h1 => ?_⟩
  · unfold okS
    rw [z0, z0, z0, z0, z0]
    decide
  · rw [g13]; decide
  · rw [g13] at h1; omega
  · rw [g14]; decide
  · rw [g14] at h1; omega
  · have hk : k = 0 ∨ k = 1 ∨ k = 2 ∨ k = 3 := by omega
    rw [z0]
    rcases hk with rfl | rfl | rfl | rfl <;> decide
  · rw [g14] at h1; omega
  · rw [g14]; rfl
  · rw [z0]; decide
  · rw [z0]; decide
  · unfold okV
    decide
  · refine ⟨by decide, by decide, by decide, fun k h0 h1 => ?_⟩
    rw [g71] at h1; omega
  · rw [z0, z12]
  · rw [g14] at h1; omega
  · rw [z12]
    exact iniM_z (by omega)
  · rw [g60] at h1; omega
  · rw [g71] at h1; omega
