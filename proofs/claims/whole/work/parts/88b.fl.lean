/-! clearText, on both sides -/
theorem f_clear {G A B : GG} {a r2 : Int} (r : relR G) (h : a = G 7 1 ∧ A = setG G 7 1 0) (q : r2 = A 11 6 ∧ B = setG (setG A 11 7 0) 11 6 0) : r2 = a ∧ relR B := by
  obtain ⟨oN, o10, v, t, e, sv, l, tx⟩ := r
  obtain ⟨ha, hA⟩ := h
  obtain ⟨hr, hB⟩ := q
  have o8 := oN.1.2.1
  have o14 := oN.2.1.1
  have b : ∀ x y : Int, ¬ (x = 7 ∧ y = 1) → ¬ (x = 11 ∧ (y = 6 ∨ y = 7)) → B x y = G x y := fun x y h1 h2 => by rw [hB, setG_ne (by omega), setG_ne (by omega), hA, setG_ne (by omega)]
  have b71 : B 7 1 = 0 := by rw [hB, setG_ne (by omega), setG_ne (by omega), hA, setG_same]
  have b6 : ∀ y, B 6 y = G 6 y := fun y => b 6 y (by omega) (by omega)
  refine ⟨by rw [hr, ha, hA, setG_ne (by omega), l], okN_congr2 oN (fun y _ _ => b 0 y (by omega) (by omega)), by rw [b 0 10 (by omega) (by omega)]; exact o10, ?_, ⟨by rw [b71]; decide, by rw [b 7 6 (by omega) (by omega)]; exact t.2.1, by rw [b 7 7 (by omega) (by omega)]; exact t.2.2.1, fun j h0 h1 => by rw [b71] at h1; omega⟩, rowE_congr o8 o14.2 (fun y _ => b 0 y (by omega) (by omega)) (fun y _ _ => b 12 y (by omega) (by omega)) e, ⟨by rw [b 11 4 (by omega) (by omega), b6]; exact sv.1, fun j h0 h1 => ?_⟩, by rw [b71, hB, setG_same], fun j h0 h1 => by rw [b71] at h1; omega⟩
  · unfold okV
    rw [b6, b6, b6, b6, b6]
    exact v
  · rw [b6] at h1
    obtain ⟨s1, s2, s3⟩ := sv.2 j h0 h1
    have pR := okV_at v (k := j) (by have := v.1; omega)
    have pg : ∀ y, B (B 6 (j + 10)) y = G (G 6 (j + 10)) y := fun y => by
      rw [b6]
      exact b _ y (by omega) (by omega)
    have p8 := s2.1.2.1
    have p14 := s2.2.1.1
    exact ⟨rowE_congr p8 p14.2 (fun y _ => pg y) (fun y _ _ => b 15 _ (by omega) (by omega)) s1, okN_congr2 s2 (fun y _ _ => pg y), by rw [pg]; exact s3⟩
