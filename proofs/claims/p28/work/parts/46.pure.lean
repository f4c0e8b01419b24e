/-! an hour, and hours -/
theorem fold3_all {g0 : Row} {N : Int} (hN : N ≤ 8) (h4 : 0 ≤ g0 4) (hp : ∀ d : Int, 0 ≤ d → d < N → g0 (15 + 12 * d + 3) ≤ g0 (15 + 12 * d + 2)) : ∀ n : Nat, ((n : Int) ≤ N - 1 ∨ n = 0) → (g0 12 ≤ foldR f3 g0 n 12 ∧ foldR f3 g0 n 12 ≤ g0 12 + n) ∧ foldR f3 g0 n 4 = g0 4 ∧ ∀ d : Int, 0 ≤ d → d < N → (∀ j : Int, 0 ≤ j → j < 12 → j ≠ 2 → j ≠ 5 → j ≠ 9 → foldR f3 g0 n (15 + 12 * d + j) = g0 (15 + 12 * d + j)) ∧ (foldR f3 g0 n (15 + 12 * d + 2) ≤ g0 (15 + 12 * d + 2) ∧ g0 (15 + 12 * d + 3) ≤ foldR f3 g0 n (15 + 12 * d + 2)) ∧ ((n : Int) ≤ d → foldR f3 g0 n (15 + 12 * d + 9) = g0 (15 + 12 * d + 9))
  | 0, _ => ⟨⟨by show g0 12 ≤ g0 12; omega, by show g0 12 ≤ g0 12 + ((0 : Nat) : Int); omega⟩, rfl, fun d h0 h1 => ⟨fun j _ _ _ _ _ => rfl, ⟨by show g0 _ ≤ g0 _; omega, hp d h0 h1⟩, fun _ => rfl⟩⟩
  | n + 1, hn => by
    obtain ⟨a1, a2, a3⟩ := fold3_all hN h4 hp n (by omega)
    have e : foldR f3 g0 (n + 1) = rWatch (foldR f3 g0 n) (n : Int) := rfl
    rw [e]
    have w12 := rWatch_12 (g := foldR f3 g0 n) (c := (n : Int)) (by omega)
    refine ⟨by omega, (rWatch_ne (by omega) (by omega)).trans a2, fun d h0 h1 => ?_⟩
    obtain ⟨b1, b2, b3⟩ := a3 d h0 h1
    have e3 := b1 3 (by omega) (by omega) (by omega) (by omega) (by omega)
    have w2 := rWatch_2 (g := foldR f3 g0 n) (c := (n : Int)) (d := d) (by omega) (by omega) h0 (by omega)
    refine ⟨fun j j0 j1 j2 j5 j9 => ?_, by omega, fun h => ?_⟩
    · rw [rWatch_keep ⟨j0, j1⟩ j2 j5 j9 (by omega) h0]
      exact b1 j j0 j1 j2 j5 j9
    · rw [rWatch_9 h0 (by omega) (by omega)]
      exact b3 (by omega)
theorem hour_coil {g : Row} (o : okH g) {d : Int} (hd : 0 ≤ d ∧ d < g 13) : stepC g (hourR g) d ∧ hourR g (15 + 12 * d + 10) = ffade (g (15 + 12 * d + 10)) (g 2) ∧ (d = g 13 - 1 → hourR g (15 + 12 * d + 9) = g (15 + 12 * d + 9)) := by
  have h8 := o.2.1
  have i2 := inv2' o
  have e24 : h2R g 4 = g 4 := i2.1 4 (by omega)
  have hs := o.1.2.2.2.2
  have k3 := fold3_all (g0 := h2R g) (N := g 13) h8.2 (by omega) (fun d z0 z1 => (i2.2 d z0 z1).2.2.1) (g 13 - 1).toNat (by omega)
  obtain ⟨-, -, k3⟩ := k3
  obtain ⟨k3a, k3b, k3c⟩ := k3 d hd.1 hd.2
  obtain ⟨k1a, k1b⟩ := h1R_at (g := g) hd
  have m2 : ∀ j : Int, 0 ≤ j → j < 12 → j ≠ 5 → h2R g (15 + 12 * d + j) = h1R g (15 + 12 * d + j) := fun j j0 j1 j5 => fold2_at (fun d2 => by omega) _
  have m4 : ∀ j : Int, 0 ≤ j → j < 12 → j ≠ 10 → hourR g (15 + 12 * d + j) = h3R g (15 + 12 * d + j) := fun j j0 j1 j10 => (up_n (by omega)).trans (fold4_at (fun d2 => by omega) _)
  have all : ∀ j : Int, 0 ≤ j → j < 12 → j ≠ 2 → j ≠ 5 → j ≠ 8 → j ≠ 9 → j ≠ 10 → j ≠ 11 → hourR g (15 + 12 * d + j) = g (15 + 12 * d + j) := fun j j0 j1 j2 j5 j8 j9 j10 j11 =>
    (m4 j j0 j1 j10).trans ((k3a j j0 j1 j2 j5 j9).trans ((m2 j j0 j1 j5).trans (k1a j j0 j1 j2 j8 j11)))
  have a0 := all 0 (by omega) (by omega) (by omega) (by omega) (by omega) (by omega) (by omega) (by omega)
  rw [Int.add_zero] at a0
  have e8 : hourR g (15 + 12 * d + 8) = h1R g (15 + 12 * d + 8) := (m4 8 (by omega) (by omega) (by omega)).trans ((k3a 8 (by omega) (by omega) (by omega) (by omega) (by omega)).trans (m2 8 (by omega) (by omega) (by omega)))
  have e2 : hourR g (15 + 12 * d + 2) = h3R g (15 + 12 * d + 2) := m4 2 (by omega) (by omega) (by omega)
  have e22 : h2R g (15 + 12 * d + 2) = h1R g (15 + 12 * d + 2) := m2 2 (by omega) (by omega) (by omega)
  have l2 : h3R g (15 + 12 * d + 2) ≤ h2R g (15 + 12 * d + 2) := k3b.1
  refine ⟨⟨⟨a0, all 1 (by omega) (by omega) (by omega) (by omega) (by omega) (by omega) (by omega) (by omega), all 3 (by omega) (by omega) (by omega) (by omega) (by omega) (by omega) (by omega) (by omega), all 4 (by omega) (by omega) (by omega) (by omega) (by omega) (by omega) (by omega) (by omega), all 6 (by omega) (by omega) (by omega) (by omega) (by omega) (by omega) (by omega) (by omega), all 7 (by omega) (by omega) (by omega) (by omega) (by omega) (by omega) (by omega) (by omega)⟩, ?_⟩, ?_, fun hl => ?_⟩
  · rw [e8, e2]
    rcases k1b with ⟨q1, q2⟩ | ⟨q0, q1, q2⟩
    · left; exact ⟨q1, by omega⟩
    · right; exact ⟨q0, q1, by omega⟩
  · have f10 := (fold4_10 (g := g) (g0 := h3R g) hd.1 (g 13).toNat).2 (by omega)
    have e : hourR g (15 + 12 * d + 10) = foldR (f4 g) (h3R g) (g 13).toNat (15 + 12 * d + 10) := up_n (by omega)
    have e310 : h3R g (15 + 12 * d + 10) = g (15 + 12 * d + 10) := (k3a 10 (by omega) (by omega) (by omega) (by omega) (by omega)).trans ((m2 10 (by omega) (by omega) (by omega)).trans (k1a 10 (by omega) (by omega) (by omega) (by omega) (by omega)))
    rw [e, f10, e310]
  · have e9 : h3R g (15 + 12 * d + 9) = h2R g (15 + 12 * d + 9) := k3c (by omega)
    rw [m4 9 (by omega) (by omega) (by omega), e9, m2 9 (by omega) (by omega) (by omega)]
    exact k1a 9 (by omega) (by omega) (by omega) (by omega) (by omega)
theorem hour_12 {g : Row} (o : okH g) : g 12 ≤ hourR g 12 ∧ hourR g 12 ≤ g 12 + 7 := by
  have h8 := o.2.1
  have i2 := inv2' o
  have e24 : h2R g 4 = g 4 := i2.1 4 (by omega)
  have hs := o.1.2.2.2.2
  have k3 := (fold3_all (g0 := h2R g) (N := g 13) h8.2 (by omega) (fun d z0 z1 => (i2.2 d z0 z1).2.2.1) (g 13 - 1).toNat (by omega)).1
  have e1 : h1R g 12 = g 12 := foldR_out (K := 8) (fun h c c0 c1 => (rSet_spec h c (g 0) (g 1)).1 12 (by omega) (by omega) (by omega)) g (g 13).toNat (by omega)
  have e2 : h2R g 12 = h1R g 12 := foldR_out (K := 8) (fun h c c0 c1 => rBan_ne (by omega)) (h1R g) (g 13).toNat (by omega)
  have e4 : hourR g 12 = h3R g 12 := (up_n (by omega)).trans (foldR_out (K := 8) (fun h c c0 c1 => up_n (by omega)) (h3R g) (g 13).toNat (by omega))
  have e3 : h3R g 12 = foldR f3 (h2R g) (g 13 - 1).toNat 12 := rfl
  omega
theorem hours_12 {g : Row} (o : okH g) : ∀ n : Nat, g 12 ≤ hoursR g n 12 ∧ hoursR g n 12 ≤ g 12 + 7 * n
  | 0 => ⟨Int.le_refl _, by show g 12 ≤ g 12 + 7 * ((0 : Nat) : Int); omega⟩
  | n + 1 => by
    have ih := hours_12 o n
    have h := hour_12 (okH_hours o n)
    have e : hoursR g (n + 1) = hourR (hoursR g n) := rfl
    rw [e]
    omega
def fadeN (x p : Int) : Nat → Int
  | 0 => x
  | n + 1 => ffade (fadeN x p n) p
/-- hours, coil by coil -/
theorem hours_coil {g : Row} (o : okH g) {d : Int} (hd : 0 ≤ d ∧ d < g 13) : ∀ n : Nat, (hoursR g n (15 + 12 * d) = g (15 + 12 * d) ∧ hoursR g n (15 + 12 * d + 1) = g (15 + 12 * d + 1) ∧ hoursR g n (15 + 12 * d + 3) = g (15 + 12 * d + 3) ∧ hoursR g n (15 + 12 * d + 4) = g (15 + 12 * d + 4) ∧ hoursR g n (15 + 12 * d + 6) = g (15 + 12 * d + 6) ∧ hoursR g n (15 + 12 * d + 7) = g (15 + 12 * d + 7)) ∧ (g (15 + 12 * d + 8) ≤ hoursR g n (15 + 12 * d + 8) ∧ hoursR g n (15 + 12 * d + 8) ≤ g (15 + 12 * d + 8) + n) ∧ (n ≤ 1 → hoursR g n (15 + 12 * d + 2) ≤ g (15 + 12 * d + 2) + 5 ∧ (0 < g (15 + 12 * d + 5) → hoursR g n (15 + 12 * d + 8) = g (15 + 12 * d + 8) ∧ hoursR g n (15 + 12 * d + 2) ≤ g (15 + 12 * d + 2))) ∧ hoursR g n (15 + 12 * d + 10) = fadeN (g (15 + 12 * d + 10)) (g 2) n ∧ (d = g 13 - 1 → hoursR g n (15 + 12 * d + 9) = g (15 + 12 * d + 9))
  | 0 => by
    have e : hoursR g 0 = g := rfl
    rw [e]
    exact ⟨⟨rfl, rfl, rfl, rfl, rfl, rfl⟩, ⟨by omega, by omega⟩, fun _ => ⟨by omega, fun _ => ⟨rfl, by omega⟩⟩, rfl, fun _ => rfl⟩
  | n + 1 => by
    obtain ⟨⟨a0, a1, a3, a4, a6, a7⟩, a8, ab, a10, a9⟩ := hours_coil o hd n
    have on := okH_hours o n
    have e13 : hoursR g n 13 = g 13 := hours_ne o (by omega) n
    have e2 : hoursR g n 2 = g 2 := hours_ne o (by omega) n
    obtain ⟨⟨⟨b0, b1, b3, b4, b6, b7⟩, b8⟩, b10, b9⟩ := hour_coil on (d := d) (by omega)
    have e : hoursR g (n + 1) = hourR (hoursR g n) := rfl
    rw [e]
    refine ⟨⟨b0.trans a0, b1.trans a1, b3.trans a3, b4.trans a4, b6.trans a6, b7.trans a7⟩, ?_, fun hn => ?_, ?_, fun hl => ?_⟩
    · rcases b8 with ⟨q, -⟩ | ⟨-, q, -⟩ <;> omega
    · have n0 : n = 0 := by omega
      subst n0
      have e0 : hoursR g 0 = g := rfl
      rw [e0] at b8
      rw [e0]
      rcases b8 with ⟨q1, q2⟩ | ⟨q0, q1, q2⟩
      · exact ⟨by omega, fun _ => ⟨q1, q2⟩⟩
      · exact ⟨by omega, fun h => by omega⟩
    · rw [b10, a10, e2]
      rfl
    · rw [b9 (by omega)]
      exact a9 hl
theorem fadeN_ok {x p : Int} (h : okW x) (hp : 0 ≤ p ∧ p ≤ 100) : ∀ n : Nat, okW (fadeN x p n)
  | 0 => h
  | n + 1 => (fw_fade (fadeN_ok h hp n) hp).2.2
/-! the law's invariant -/
def okX (t : Int) (g : Row) (d : Int) : Prop := (0 ≤ g (15 + 12 * d + 6) ∧ g (15 + 12 * d + 6) ≤ t) ∧ g (15 + 12 * d + 6) * g (15 + 12 * d + 3) ≤ g (15 + 12 * d + 7) ∧ g (15 + 12 * d + 7) ≤ 500 * g (15 + 12 * d + 6) ∧ (0 ≤ g (15 + 12 * d + 8) ∧ g (15 + 12 * d + 8) ≤ g 10) ∧ (d = g 13 - 1 → g (15 + 12 * d + 9) = 0)
def okI (t : Int) (G : GG) : Prop := okN G 0 ∧ okV G ∧ (0 ≤ G 0 10 ∧ G 0 10 ≤ 48 * t) ∧ ∀ d : Int, 0 ≤ d → d < G 0 13 → okX t (G 0) d
theorem okI_M {t : Int} {G : GG} (ht : t ≤ 1000) (o : okI t G) : okM G :=
  ⟨o.1.1, o.1.2.1, ⟨okR_5 o.1.2.1.1.1 o.1.2.2, o.1.2.2.2.2⟩, ⟨o.2.2.1.1, by have := o.2.2.1.2; omega⟩, o.2.1⟩
theorem okX_congr {t t2 : Int} {g h : Row} {d : Int} (ht : t ≤ t2) (e : ∀ k : Int, 0 ≤ k → k < 12 → h (15 + 12 * d + k) = g (15 + 12 * d + k)) (e13 : h 13 = g 13) (e10 : g 10 ≤ h 10) (o : okX t g d) : okX t2 h d := by
  unfold okX at *
  rw [e 6 (by omega) (by omega), e 3 (by omega) (by omega), e 7 (by omega) (by omega), e 8 (by omega) (by omega), e 9 (by omega) (by omega), e13]
  obtain ⟨a, b, c, f, g9⟩ := o
  exact ⟨by omega, b, c, by omega, g9⟩
theorem okI_mono {t t2 : Int} {G : GG} (ht : t ≤ t2) (o : okI t G) : okI t2 G :=
  ⟨o.1, o.2.1, ⟨o.2.2.1.1, by have := o.2.2.1.2; omega⟩, fun d h0 h1 => okX_congr ht (fun _ _ _ => rfl) rfl (Int.le_refl _) (o.2.2.2 d h0 h1)⟩
/-- the machine's page, the saved ones' numbers and the text as in G -/
def eq0 (G K : GG) : Prop := (∀ y : Int, y < 312 → K 0 y = G 0 y) ∧ (∀ y : Int, K 6 y = G 6 y) ∧ ∀ x y : Int, x = 7 ∨ x = 8 → K x y = G x y
theorem eq0.rf {G : GG} : eq0 G G := ⟨fun _ _ => rfl, fun _ => rfl, fun _ _ _ => rfl⟩
theorem eq0.tr {G K H : GG} (a : eq0 G K) (b : eq0 K H) : eq0 G H := ⟨fun y hy => (b.1 y hy).trans (a.1 y hy), fun y => (b.2.1 y).trans (a.2.1 y), fun x y hx => (b.2.2 x y hx).trans (a.2.2 x y hx)⟩
theorem eq0.scr {G K : GG} (h : sameB (scr 0) G K) : eq0 G K := ⟨fun y hy => h 0 y (by omega), fun y => h 6 y (by omega), fun x y hx => h x y (by omega)⟩
theorem okV_congr {G H : GG} (h : ∀ y : Int, H 6 y = G 6 y) (o : okV G) : okV H := by
  unfold okV at *
  rw [h, h, h, h, h]
  exact o
theorem okI_cong {t : Int} {G K : GG} (h0 : ∀ y : Int, y < 312 → K 0 y = G 0 y) (h6 : ∀ y : Int, K 6 y = G 6 y) (o : okI t G) : okI t K :=
  ⟨okN_congr h0 o.1, okV_congr h6 o.2.1, by rw [h0 10 (by omega)]; exact o.2.2.1, fun d d0 d1 => by
    rw [h0 13 (by omega)] at d1
    have := o.1.1.2.1
    exact okX_congr (Int.le_refl _) (fun k k0 k1 => h0 _ (by omega)) (h0 13 (by omega)) (by rw [h0 10 (by omega)]; omega) (o.2.2.2 d d0 d1)⟩
theorem eq0.I {t : Int} {G K : GG} (e : eq0 G K) (o : okI t G) : okI t K := okI_cong e.1 e.2.1 o
theorem eq0.M {t : Int} {G K : GG} (ht : t ≤ 1000) (e : eq0 G K) (o : okI t G) : okM K := okI_M ht (e.I o)
theorem sumF_congr {g h : Int → Int} {k : Int} : ∀ n : Nat, (∀ d : Int, 0 ≤ d → d < n → h (15 + 12 * d + k) = g (15 + 12 * d + k)) → sumF h k n = sumF g k n
  | 0, _ => rfl
  | n + 1, e => by
    show sumF h k n + h (15 + 12 * (n : Int) + k) = sumF g k n + g (15 + 12 * (n : Int) + k)
    rw [sumF_congr n (fun d d0 d1 => e d d0 (by omega)), e (n : Int) (by omega) (by omega)]
theorem numF_congr {g h : Int → Int} {k : Int} (h8 : 0 ≤ g 13 ∧ g 13 ≤ 8) (e : ∀ y : Int, y < 312 → h y = g y) : numF h k = numF g k := by
  have s : ∀ w : Int, 0 ≤ w → w < 12 → sumF h w (g 13).toNat = sumF g w (g 13).toNat := fun w w0 w1 => sumF_congr _ (fun d d0 d1 => e _ (by omega))
  unfold numF worthF
  rw [e 13 (by omega), e 10 (by omega), e 5 (by omega), e (5 + 1) (by omega), e (5 + 2) (by omega), e (5 + 3) (by omega), e 9 (by omega), e 14 (by omega), e 311 (by omega), e 11 (by omega), e 12 (by omega), s 6 (by omega) (by omega), s 7 (by omega) (by omega), s 1 (by omega) (by omega)]
