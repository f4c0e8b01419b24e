/-! each call keeps the law's invariant -/
theorem okX_congr2 {t t2 : Int} {g h : Row} {d : Int} (ht : t ≤ t2) (e : ∀ k : Int, (k = 3 ∨ (6 ≤ k ∧ k ≤ 9)) → h (15 + 12 * d + k) = g (15 + 12 * d + k)) (e13 : h 13 = g 13) (e10 : g 10 ≤ h 10) (o : okX t g d) : okX t2 h d := by
  unfold okX at *
  rw [e 6 (by omega), e 3 (by omega), e 7 (by omega), e 8 (by omega), e 9 (by omega), e13]
  obtain ⟨a, b, c, f, g9⟩ := o
  exact ⟨by omega, b, c, by omega, g9⟩
theorem okI_save {t : Int} {G H : GG} (o : okI t G) (s : saveP G H) : okI t H ∧ H 0 = G 0 := by
  have e := saveP_row o.2.1 s
  refine ⟨⟨okN_congr (fun y _ => congrFun e y) o.1, (save_spec o.2.1 o.1.1.2.1 s).1, by rw [e]; exact o.2.2.1, ?_⟩, e⟩
  rw [e]
  exact o.2.2.2
theorem okI_set {t w v : Int} {G : GG} (hw : 0 ≤ w ∧ w ≤ 4) (hs : okS (up (G 0) w v)) (o : okI t G) : okI t (setG G 0 w v) := by
  refine ⟨okN_low (by omega) hs o.1, okV_congr (fun y => setG_ne (by omega)) o.2.1, by rw [setG_ne (by omega)]; exact o.2.2.1, fun d h0 h1 => ?_⟩
  rw [setG_ne (by omega)] at h1
  exact okX_congr2 (Int.le_refl _) (fun k hk => setG_ne (by omega)) (setG_ne (by omega)) (by rw [setG_ne (by omega)]; omega) (o.2.2.2 d h0 h1)
theorem okI_box {t v : Int} {G : GG} (o : okI t G) : okI t (setG G 0 9 v) := by
  refine ⟨okN_low (by omega) (okS_up (by omega) o.1.1.1) o.1, okV_congr (fun y => setG_ne (by omega)) o.2.1, by rw [setG_ne (by omega)]; exact o.2.2.1, fun d h0 h1 => ?_⟩
  rw [setG_ne (by omega)] at h1
  exact okX_congr2 (Int.le_refl _) (fun k hk => setG_ne (by omega)) (setG_ne (by omega)) (by rw [setG_ne (by omega)]; omega) (o.2.2.2 d h0 h1)
theorem okI_goods {t c v : Int} {G : GG} (hc : 0 ≤ c ∧ c < 8) (hv : 0 ≤ v ∧ v ≤ 20) (o : okI t G) : okI t (setG G 0 (15 + 12 * c + 1) v) := by
  refine ⟨okN_goods hc hv o.1, okV_congr (fun y => setG_ne (by omega)) o.2.1, by rw [setG_ne (by omega)]; exact o.2.2.1, fun d h0 h1 => ?_⟩
  rw [setG_ne (by omega)] at h1
  exact okX_congr2 (Int.le_refl _) (fun k hk => setG_ne (by omega)) (setG_ne (by omega)) (by rw [setG_ne (by omega)]; omega) (o.2.2.2 d h0 h1)
theorem okI_look {t c v : Int} {G : GG} (hc : 0 ≤ c ∧ c < 8) (hv : okW v) (o : okI t G) : okI t (setG G 0 (15 + 12 * c + 10) v) := by
  refine ⟨okN_10 hc hv o.1, okV_congr (fun y => setG_ne (by omega)) o.2.1, by rw [setG_ne (by omega)]; exact o.2.2.1, fun d h0 h1 => ?_⟩
  rw [setG_ne (by omega)] at h1
  exact okX_congr2 (Int.le_refl _) (fun k hk => setG_ne (by omega)) (setG_ne (by omega)) (by rw [setG_ne (by omega)]; omega) (o.2.2.2 d h0 h1)
/-- a new coil -/
theorem okI_add {t a b c : Int} {G A : GG} (ha : 0 ≤ a ∧ a ≤ 5) (hb : 5 ≤ b ∧ b % 5 = 0) (hc : b ≤ c ∧ c ≤ 500 ∧ c % 5 = 0) (h8 : G 0 13 < 8) (ht : 0 ≤ t) (hA : A = setG (coilBegin G 0 (G 0 13) a b c) 0 13 (G 0 13 + 1)) (o : okI t G) : okI t A ∧ A 0 13 = G 0 13 + 1 ∧ (∀ j : Int, 0 ≤ j → j < 12 → A 0 (15 + 12 * G 0 13 + j) = (if j = 0 then a else if j = 2 ∨ j = 3 then b else if j = 4 then c else 0)) := by
  have o8 := o.1.1.2.1
  have a13 : A 0 13 = G 0 13 + 1 := by rw [hA, setG_same]
  have an : ∀ x y : Int, ¬ (x = 0 ∧ y = 13) → ¬ (x = 0 ∧ 15 + 12 * G 0 13 ≤ y ∧ y < 15 + 12 * G 0 13 + 12) → A x y = G x y := fun x y h1 h2 => by
    rw [hA, setG_ne h1, cb_ne h2]
  have ac : ∀ j : Int, 0 ≤ j → j < 12 → A 0 (15 + 12 * G 0 13 + j) = (if j = 0 then a else if j = 2 ∨ j = 3 then b else if j = 4 then c else 0) := fun j h1 h2 => by
    rw [hA, setG_ne (by omega), cb_at _ _ _ _ _ _ ⟨h1, h2⟩]
  have c0 : A 0 (15 + 12 * G 0 13) = a := by
    have := ac 0 (by omega) (by omega)
    rw [Int.add_zero] at this
    exact this
  have c1 : A 0 (15 + 12 * G 0 13 + 1) = 0 := ac 1 (by omega) (by omega)
  have c2 : A 0 (15 + 12 * G 0 13 + 2) = b := ac 2 (by omega) (by omega)
  have c3 : A 0 (15 + 12 * G 0 13 + 3) = b := ac 3 (by omega) (by omega)
  have c4 : A 0 (15 + 12 * G 0 13 + 4) = c := ac 4 (by omega) (by omega)
  have c5 : A 0 (15 + 12 * G 0 13 + 5) = 0 := ac 5 (by omega) (by omega)
  have c6 : A 0 (15 + 12 * G 0 13 + 6) = 0 := ac 6 (by omega) (by omega)
  have c7 : A 0 (15 + 12 * G 0 13 + 7) = 0 := ac 7 (by omega) (by omega)
  have c8 : A 0 (15 + 12 * G 0 13 + 8) = 0 := ac 8 (by omega) (by omega)
  have c9 : A 0 (15 + 12 * G 0 13 + 9) = 0 := ac 9 (by omega) (by omega)
  have c10 : A 0 (15 + 12 * G 0 13 + 10) = 0 := ac 10 (by omega) (by omega)
  have c11 : A 0 (15 + 12 * G 0 13 + 11) = 0 := ac 11 (by omega) (by omega)
  have a10 : A 0 10 = G 0 10 := an 0 10 (by omega) (by omega)
  refine ⟨⟨⟨⟨?_, by rw [a13]; omega, fun d d0 d1 => ?_⟩, okPR_congr (G := G) (j := 0) (fun y hy => an 0 y (by omega) (by omega)) o.1.2⟩, okV_congr (fun y => an 6 y (by omega) (by omega)) o.2.1, by rw [a10]; exact o.2.2.1, fun d d0 d1 => ?_⟩, a13, ac⟩
  · have os := o.1.1.1
    unfold okS at *
    rw [an 0 0 (by omega) (by omega), an 0 1 (by omega) (by omega), an 0 2 (by omega) (by omega), an 0 3 (by omega) (by omega), an 0 4 (by omega) (by omega)]
    exact os
  · by_cases z : d = G 0 13
    · subst z
      unfold okC
      rw [c0, c1, c2, c3, c4, c5, c9, c10, c11]
      exact ⟨by omega, by omega, by omega, by omega, by omega, by omega, by omega, fw_0, by omega, by omega, by omega, by omega, by omega⟩
    · exact okC_congr (fun k k0 k1 => an 0 _ (by omega) (by omega)) (o.1.1.2.2 d d0 (by omega))
  · have h10 := o.2.2.1
    by_cases z : d = G 0 13
    · subst z
      unfold okX
      rw [c6, c3, c7, c8, c9, a10]
      exact ⟨by omega, by omega, by omega, by omega, fun _ => rfl⟩
    · have ox := o.2.2.2 d d0 (by omega)
      unfold okX at *
      rw [an 0 (15 + 12 * d + 6) (by omega) (by omega), an 0 (15 + 12 * d + 3) (by omega) (by omega), an 0 (15 + 12 * d + 7) (by omega) (by omega), an 0 (15 + 12 * d + 8) (by omega) (by omega), an 0 (15 + 12 * d + 9) (by omega) (by omega), a10, a13]
      obtain ⟨q1, q2, q3, q4, q5⟩ := ox
      refine ⟨q1, q2, q3, q4, fun h => ?_⟩
      omega
/-- coins that are filled in -/
theorem fill_all {t c n : Int} {G G1 : GG} (hc : 0 ≤ c ∧ c < 4) (hn : 0 ≤ n) (o : okI t G) (h : keepP (fillG G 0 c n) 0 (kpG (fillG G 0 c n) 0) G1) : okI t G1 ∧ worthF (G1 0) 5 = worthF (G 0) 5 + min n (30 - G 0 (5 + c)) * (if c = 3 then 50 else if c = 2 then 20 else if c = 1 then 10 else 5) - (G1 0 11 - G 0 11) ∧ (G1 0 14 = 0 ∨ ¬ canF (G1 0 5) (G1 0 6) (G1 0 7) (G1 0 8) (G1 0 111)) := by
  have oN := okN_fill hc hn o.1 h
  have k := keep_all (okP_fill o.1.2.1 hc hn) h
  have fn : ∀ x y : Int, ¬ (x = 0 ∧ y = 5 + c) → fillG G 0 c n x y = G x y := fun x y hy => by
    unfold fillG
    exact setG_ne hy
  have ff : fillG G 0 c n 0 (5 + c) = G 0 (5 + c) + min n (30 - G 0 (5 + c)) := setG_same _ _ _ _
  have ne : ∀ x y : Int, ¬ (x = 0 ∧ y = 5 + c) → ¬ kpS 0 x y → G1 x y = G x y := fun x y h1 h2 => (h.2.2.2.2.2.2.2.2 x y h2).trans (fn x y h1)
  have e13 : G1 0 13 = G 0 13 := ne 0 13 (by omega) (by omega)
  have o8 := o.1.1.2.1
  refine ⟨⟨oN, okV_congr (fun y => ne 6 y (by omega) (by omega)) o.2.1, by rw [ne 0 10 (by omega) (by omega)]; exact o.2.2.1, fun d h0 h1 => ?_⟩, ?_, k.2.2.2.1⟩
  · rw [e13] at h1
    exact okX_congr2 (Int.le_refl _) (fun k hk => ne 0 _ (by omega) (by omega)) e13 (by rw [ne 0 10 (by omega) (by omega)]; omega) (o.2.2.2 d h0 h1)
  · rw [k.1, fn 0 11 (by omega)]
    have w : worthF (fillG G 0 c n 0) 5 = worthF (G 0) 5 + min n (30 - G 0 (5 + c)) * (if c = 3 then 50 else if c = 2 then 20 else if c = 1 then 10 else 5) := by
      have hc4 : c = 0 ∨ c = 1 ∨ c = 2 ∨ c = 3 := by omega
      show 5 * fillG G 0 c n 0 5 + 10 * fillG G 0 c n 0 6 + 20 * fillG G 0 c n 0 7 + 50 * fillG G 0 c n 0 8 = 5 * G 0 5 + 10 * G 0 6 + 20 * G 0 7 + 50 * G 0 8 + _
      rcases hc4 with rfl | rfl | rfl | rfl
      · have ff : fillG G 0 0 n 0 5 = G 0 5 + min n (30 - G 0 5) := ff
        rw [ff, fn 0 6 (by omega), fn 0 7 (by omega), fn 0 8 (by omega)]
        show _ = 5 * G 0 5 + 10 * G 0 6 + 20 * G 0 7 + 50 * G 0 8 + min n (30 - G 0 5) * 5
        omega
      · have ff : fillG G 0 1 n 0 6 = G 0 6 + min n (30 - G 0 6) := ff
        rw [ff, fn 0 5 (by omega), fn 0 7 (by omega), fn 0 8 (by omega)]
        show _ = 5 * G 0 5 + 10 * G 0 6 + 20 * G 0 7 + 50 * G 0 8 + min n (30 - G 0 6) * 10
        omega
      · have ff : fillG G 0 2 n 0 7 = G 0 7 + min n (30 - G 0 7) := ff
        rw [ff, fn 0 5 (by omega), fn 0 6 (by omega), fn 0 8 (by omega)]
        show _ = 5 * G 0 5 + 10 * G 0 6 + 20 * G 0 7 + 50 * G 0 8 + min n (30 - G 0 7) * 20
        omega
      · have ff : fillG G 0 3 n 0 8 = G 0 8 + min n (30 - G 0 8) := ff
        rw [ff, fn 0 5 (by omega), fn 0 6 (by omega), fn 0 7 (by omega)]
        show _ = 5 * G 0 5 + 10 * G 0 6 + 20 * G 0 7 + 50 * G 0 8 + min n (30 - G 0 8) * 50
        omega
    rw [w]
/-- hours -/
theorem okI_hours {t : Int} {G : GG} {n : Nat} (hn : (n : Int) ≤ 48) (o : okI t G) : okI (t + 1) (onR G 0 (hoursR (G 0) n)) := by
  have oN := okN_hours o.1 n
  have e : onR G 0 (hoursR (G 0) n) 0 = hoursR (G 0) n := onR_at _ _ _
  have oH := o.1.1
  have e10 := hours_10 oH n
  have e13 : hoursR (G 0) n 13 = G 0 13 := hours_ne oH (by omega) n
  refine ⟨oN, okV_congr (fun y => onR_ne (by omega)) o.2.1, by rw [e, e10]; have := o.2.2.1; omega, fun d h0 h1 => ?_⟩
  rw [e] at h1 ⊢
  rw [e13] at h1
  obtain ⟨⟨a0, a1, a3, a4, a6, a7⟩, a8, -, -, a9⟩ := hours_coil oH ⟨h0, h1⟩ n
  obtain ⟨q1, q2, q3, q4, q5⟩ := o.2.2.2 d h0 h1
  unfold okX
  rw [a6, a3, a7, e10, e13]
  refine ⟨by omega, q2, q3, by omega, fun hl => ?_⟩
  rw [a9 hl]
  exact q5 hl
/-- back to what was saved last -/
theorem undo_all {t : Int} {G H A B : GG} (o : okI t G) (s : saveP G H) (hA : ∀ x y : Int, 2 ≤ x ∧ x ≤ 6 → A x y = H x y) (u : overP (setG A 6 0 (A 6 0 - 1)) 0 (A 6 (A 6 0 + 9)) B) : okI t B ∧ ∀ y : Int, (0 ≤ y ∧ y < 15 + 12 * G 0 13) ∨ (111 ≤ y ∧ y < 312) → B 0 y = G 0 y := by
  have o8 := o.1.1.2.1
  have o14 := o.1.2.1.1
  obtain ⟨vH, d, n, hs⟩ := save_spec o.2.1 o8 s
  obtain ⟨hn, h60, hp, -⟩ := hs
  have v0 := vH.1
  have v1 := o.2.1.1
  have pR := okV_at vH (k := n) (by omega)
  have a60 : A 6 0 = n + 1 := (hA 6 0 (by omega)).trans h60
  have ai : A 6 (A 6 0 + 9) = H 6 (n + 10) := by rw [a60, show n + 1 + 9 = n + 10 by omega]; exact hA 6 _ (by omega)
  rw [ai] at u
  have pg : ∀ y : Int, (0 ≤ y ∧ y < 15 + 12 * G 0 13) ∨ (111 ≤ y ∧ y < 312) → setG A 6 0 (A 6 0 - 1) (H 6 (n + 10)) y = G 0 y := fun y hy => by
    rw [setG_ne (by omega), hA _ _ (by omega)]
    exact hp y hy
  have bp : ∀ y : Int, (0 ≤ y ∧ y < 15 + 12 * G 0 13) ∨ (111 ≤ y ∧ y < 312) → B 0 y = G 0 y := fun y hy => by
    rw [← pg y hy]
    have e13 := pg 13 (by omega)
    by_cases z1 : y < 15
    · exact u.1 y (by omega) z1
    · by_cases z2 : y < 15 + 12 * G 0 13
      · exact u.2.1 y (by omega) (by omega)
      · exact u.2.2.1 y (by omega) (by omega)
  have b6 : ∀ y : Int, y ≠ 0 → B 6 y = H 6 y := fun y hy => by rw [overP_out u (by omega), setG_ne (by omega), hA _ _ (by omega)]
  have b60 : B 6 0 = n := by rw [overP_out u (by omega), setG_same, a60]; omega
  refine ⟨⟨okN_dom (fun y hy => bp y (by omega)) o.1, ?_, by rw [bp 10 (by omega)]; exact o.2.2.1, fun d h0 h1 => ?_⟩, bp⟩
  · unfold okV
    rw [b60, b6 10 (by omega), b6 11 (by omega), b6 12 (by omega), b6 13 (by omega)]
    exact ⟨by omega, vH.2⟩
  · rw [bp 13 (by omega)] at h1
    exact okX_congr (Int.le_refl _) (fun k k0 k1 => bp _ (by omega)) (bp 13 (by omega)) (by rw [bp 10 (by omega)]; omega) (o.2.2.2 d h0 h1)
theorem undo_okH {t : Int} {G H A : GG} (o : okI t G) (s : saveP G H) (hA : ∀ x y : Int, 2 ≤ x ∧ x ≤ 6 → A x y = H x y) : 1 ≤ A 6 0 ∧ okH (A (A 6 (A 6 0 + 9))) := by
  have o8 := o.1.1.2.1
  have o14 := o.1.2.1.1
  obtain ⟨vH, d, n, hs⟩ := save_spec o.2.1 o8 s
  obtain ⟨hn, h60, hp, -⟩ := hs
  have v0 := vH.1
  have v1 := o.2.1.1
  have pR := okV_at vH (k := n) (by omega)
  have a60 : A 6 0 = n + 1 := (hA 6 0 (by omega)).trans h60
  have ai : A 6 (A 6 0 + 9) = H 6 (n + 10) := by rw [a60, show n + 1 + 9 = n + 10 by omega]; exact hA 6 _ (by omega)
  refine ⟨by omega, ?_⟩
  rw [ai]
  have ok : okN (fun x y => A x y) (H 6 (n + 10)) := okN_dom (G := G) (j := 0) (fun y hy => by
    show A (H 6 (n + 10)) y = G 0 y
    rw [hA _ _ (by omega)]
    exact hp y (by omega)) o.1
  exact ok.1
