/-! more methods, on both sides -/
theorem cb_ne {G : GG} {i c a b d x y : Int} (h : ¬ (x = i ∧ 15 + 12 * c ≤ y ∧ y < 15 + 12 * c + 12)) : coilBegin G i c a b d x y = G x y := by
  unfold coilBegin
  rw [setG_ne (by omega), setG_ne (by omega), setG_ne (by omega), setG_ne (by omega), setG_ne (by omega), setG_ne (by omega), setG_ne (by omega), setG_ne (by omega), setG_ne (by omega), setG_ne (by omega), setG_ne (by omega), setG_ne (by omega)]
theorem cb_at (G : GG) (i c a b d : Int) {k : Int} (hk : 0 ≤ k ∧ k < 12) : coilBegin G i c a b d i (15 + 12 * c + k) = (if k = 0 then a else if k = 2 ∨ k = 3 then b else if k = 4 then d else 0) := by
  have h9 : k = 0 ∨ k = 1 ∨ k = 2 ∨ k = 3 ∨ k = 4 ∨ k = 5 ∨ k = 6 ∨ k = 7 ∨ k = 8 ∨ k = 9 ∨ k = 10 ∨ k = 11 := by omega
  unfold coilBegin setG
  rcases h9 with rfl | rfl | rfl | rfl | rfl | rfl | rfl | rfl | rfl | rfl | rfl | rfl <;> (repeat (first | rw [if_pos (by omega)] | rw [if_neg (by omega)])) <;> rfl
theorem ad_at {G : GG} {n k b d y : Int} (h8 : 0 ≤ n) : (setG (setG (setG (setG (setG G 12 (15 + 12 * n) k) 12 (15 + 12 * n + 3) b) 12 (15 + 12 * n + 4) d) 12 (15 + 12 * n + 2) b) 12 13 (n + 1)) 12 y = (if y = 13 then n + 1 else if y = 15 + 12 * n + 2 then b else if y = 15 + 12 * n + 4 then d else if y = 15 + 12 * n + 3 then b else if y = 15 + 12 * n then k else G 12 y) := by
  unfold setG
  by_cases h13 : y = 13
  · rw [if_pos ⟨rfl, h13⟩, if_pos h13]
  rw [if_neg (fun q => h13 q.2), if_neg h13]
  by_cases h2 : y = 15 + 12 * n + 2
  · rw [if_pos ⟨rfl, h2⟩, if_pos h2]
  rw [if_neg (fun q => h2 q.2), if_neg h2]
  by_cases h4 : y = 15 + 12 * n + 4
  · rw [if_pos ⟨rfl, h4⟩, if_pos h4]
  rw [if_neg (fun q => h4 q.2), if_neg h4]
  by_cases h3 : y = 15 + 12 * n + 3
  · rw [if_pos ⟨rfl, h3⟩, if_pos h3]
  rw [if_neg (fun q => h3 q.2), if_neg h3]
  by_cases h0 : y = 15 + 12 * n
  · rw [if_pos ⟨rfl, h0⟩, if_pos h0]
  rw [if_neg (fun q => h0 q.2), if_neg h0]
/-- addCoil -/
theorem f_add {G A B : GG} {c b d k r2 : Int} (r : relR G) (h : (k = 0 ∧ ∃ a G2, (((0 ≤ c ∧ c ≤ 5) ∧ (5 ≤ b ∧ b ≤ 500 ∧ b % 5 = 0) ∧ (b ≤ d ∧ d ≤ 500 ∧ d % 5 = 0) ∧ (G 0 13 < 8)) ∧ ∃ H, saveP G H ∧ a = G 0 13 ∧ G2 = setG (coilBegin H 0 (G 0 13) c b d) 0 13 (G 0 13 + 1)) ∧ A = setG G2 21 0 (wI a)) ∨ (k = 1 ∧ A = G ∧ ¬ ((0 ≤ c ∧ c ≤ 5) ∧ (5 ≤ b ∧ b ≤ 500 ∧ b % 5 = 0) ∧ (b ≤ d ∧ d ≤ 500 ∧ d % 5 = 0))) ∨ (k = 2 ∧ A = G ∧ ((0 ≤ c ∧ c ≤ 5) ∧ (5 ≤ b ∧ b ≤ 500 ∧ b % 5 = 0) ∧ (b ≤ d ∧ d ≤ 500 ∧ d % 5 = 0)) ∧ ¬ (G 0 13 < 8))) (q : faceM A (addB c b d) r2 B) : fits k r2 B := by
  have o8 := r.1.1.2.1
  have o14 := r.1.2.1.1
  have e := r.2.2.2.2.1
  have e13 := e.1 13 (by omega) (by omega)
  obtain ⟨H8, H, a2, h12, h8, hB, q⟩ := q
  rcases h with ⟨hk, a, G2, ⟨hc, S, s, ha, hG2⟩, hA⟩ | ⟨hk, hA, hc⟩ | ⟨hk, hA, hc1, hc⟩
  · have s0 := save_0 r s
    have ak : ∀ x y : Int, 11 ≤ x → x ≤ 20 → A x y = G x y := fun x y h0 h1 => by
      rw [hA, setG_ne (by omega), hG2, setG_ne (by omega), cb_ne (by omega), save_K r s h0]
    have aS : ∀ x y : Int, 2 ≤ x → x ≤ 8 → A x y = S x y := fun x y h0 h1 => by
      rw [hA, setG_ne (by omega), hG2, setG_ne (by omega), cb_ne (by omega)]
    have a0 : A 0 = setG (coilBegin S 0 (G 0 13) c b d) 0 13 (G 0 13 + 1) 0 := by
      rw [hA, hG2]
      exact funext fun z => setG_ne (by omega)
    have a13 : A 0 13 = G 0 13 + 1 := by rw [a0, setG_same]
    have an : ∀ y : Int, y ≠ 13 → ¬ (15 + 12 * G 0 13 ≤ y ∧ y < 15 + 12 * G 0 13 + 12) → A 0 y = G 0 y := fun y h1 h2 => by
      rw [a0, setG_ne (by omega), cb_ne (by omega), s0]
    have ac : ∀ j : Int, 0 ≤ j → j < 12 → A 0 (15 + 12 * G 0 13 + j) = (if j = 0 then c else if j = 2 ∨ j = 3 then b else if j = 4 then d else 0) := fun j h1 h2 => by
      rw [a0, setG_ne (by omega), cb_at _ _ _ _ _ _ ⟨h1, h2⟩]
    have eS : rowE (G 0) (H8 12) := row_of r (fun z => ak 12 z (by omega) (by omega)) h12
    have h13 : H8 12 13 = G 0 13 := eS.1 13 (by omega) (by omega)
    rcases hB with ⟨z, -⟩ | ⟨-, z, -⟩ | ⟨-, -, hb, hH⟩
    · exact absurd ⟨hc.1, hc.2.1, hc.2.2.1⟩ z
    · omega
    · rw [h13] at hb hH
      have hr : ∀ y, H 12 y = (if y = 13 then G 0 13 + 1 else if y = 15 + 12 * G 0 13 + 2 then b else if y = 15 + 12 * G 0 13 + 4 then d else if y = 15 + 12 * G 0 13 + 3 then b else if y = 15 + 12 * G 0 13 then c else H8 12 y) := fun y => by
        rw [hH]
        exact ad_at o8.1
      have hH8 : H 11 8 = 0 := by
        rw [hH, setG_ne (by omega), setG_ne (by omega), setG_ne (by omega), setG_ne (by omega), setG_ne (by omega)]
        exact h8
      have hno : ∀ y : Int, y ≠ 13 → ¬ (15 + 12 * G 0 13 ≤ y ∧ y < 15 + 12 * G 0 13 + 12) → H 12 y = H8 12 y := fun y h1 h2 => by
        rw [hr, if_neg h1, if_neg (by omega), if_neg (by omega), if_neg (by omega), if_neg (by omega)]
      have row : rowE (A 0) (H 12) := by
        refine ⟨fun y h0 h1 => ?_, fun m h0 h1 => ?_, fun y h0 h1 => ?_⟩
        · rw [a13] at h1
          by_cases y13 : y = 13
          · subst y13
            rw [hr, if_pos rfl, a13]
          by_cases yc : 15 + 12 * G 0 13 ≤ y
          · have hj : y = 15 + 12 * G 0 13 + (y - 15 - 12 * G 0 13) := by omega
            have z0 := eS.2.2 y yc (by omega)
            rw [hj, ac _ (by omega) (by omega), hr, ← hj]
            rw [if_neg y13]
            by_cases k2 : y = 15 + 12 * G 0 13 + 2
            · rw [if_pos k2, if_neg (by omega), if_pos (by omega)]
            rw [if_neg k2]
            by_cases k4 : y = 15 + 12 * G 0 13 + 4
            · rw [if_pos k4, if_neg (by omega), if_neg (by omega), if_pos (by omega)]
            rw [if_neg k4]
            by_cases k3 : y = 15 + 12 * G 0 13 + 3
            · rw [if_pos k3, if_neg (by omega), if_pos (by omega)]
            rw [if_neg k3]
            by_cases k0 : y = 15 + 12 * G 0 13
            · rw [if_pos k0, if_pos (by omega)]
            rw [if_neg k0, if_neg (by omega), if_neg (by omega), if_neg (by omega)]
            exact z0
          · rw [hno y y13 (by omega), an y y13 (by omega)]
            exact eS.1 y h0 (by omega)
        · rw [an 14 (by omega) (by omega)] at h1
          rw [hno _ (by omega) (by omega), an _ (by omega) (by omega)]
          exact eS.2.1 m h0 h1
        · rw [a13] at h0
          rw [hno y (by omega) (by omega)]
          exact eS.2.2 y (by omega) h1
      have oN : okN A 0 := by
        refine ⟨⟨?_, by rw [a13]; omega, fun j j0 j1 => ?_⟩, okPR_congr (G := G) (j := 0) (fun y hy => an y (by omega) (by omega)) r.1.2⟩
        · have os := r.1.1.1
          unfold okS at os ⊢
          rw [an 0 (by omega) (by omega), an 1 (by omega) (by omega), an 2 (by omega) (by omega), an 3 (by omega) (by omega), an 4 (by omega) (by omega)]
          exact os
        · rw [a13] at j1
          by_cases hj : j = G 0 13
          · subst hj
            have q0 := ac 0 (by decide) (by decide)
            rw [show 15 + 12 * G 0 13 + 0 = 15 + 12 * G 0 13 by omega] at q0
            unfold okC
            rw [ac 1 (by decide) (by decide), ac 2 (by decide) (by decide), ac 3 (by decide) (by decide), ac 4 (by decide) (by decide), ac 5 (by decide) (by decide), ac 9 (by decide) (by decide), ac 10 (by decide) (by decide), ac 11 (by decide) (by decide), q0]
            simp only [show ((1 : Int) = 0) = False by simp, show ((2 : Int) = 0) = False by simp, show ((3 : Int) = 0) = False by simp, show ((4 : Int) = 0) = False by simp, show ((5 : Int) = 0) = False by simp, show ((9 : Int) = 0) = False by simp, show ((10 : Int) = 0) = False by simp, show ((11 : Int) = 0) = False by simp, show ((1 : Int) = 2) = False by simp, show ((1 : Int) = 3) = False by simp, show ((1 : Int) = 4) = False by simp, show ((3 : Int) = 2) = False by simp, show ((4 : Int) = 2) = False by simp, show ((4 : Int) = 3) = False by simp, show ((5 : Int) = 2) = False by simp, show ((5 : Int) = 3) = False by simp, show ((5 : Int) = 4) = False by simp, show ((9 : Int) = 2) = False by simp, show ((9 : Int) = 3) = False by simp, show ((9 : Int) = 4) = False by simp, show ((10 : Int) = 2) = False by simp, show ((10 : Int) = 3) = False by simp, show ((10 : Int) = 4) = False by simp, show ((11 : Int) = 2) = False by simp, show ((11 : Int) = 3) = False by simp, show ((11 : Int) = 4) = False by simp, if_false, if_true, or_self, true_or, or_true]
            refine ⟨by omega, by omega, by omega, by omega, by omega, by omega, by omega, fw_0, trivial, by omega, by omega, by omega, by omega⟩
          · exact okC_congr (fun k k0 k1 => an _ (by omega) (by omega)) (r.1.1.2.2 j j0 (by omega))
      have z := face_yes r s aS ak oN (by rw [an 10 (by omega) (by omega)]; exact r.2.1) hH8 row q
      subst hk
      refine ⟨z.1, fun _ => ?_, z.2.2.2⟩
      rw [z.2.2.1, z.2.1, hb, hA, setG_same, ha]
  · rcases hB with ⟨z, -, hH⟩ | ⟨z, -⟩ | ⟨z, -⟩
    · subst hA
      exact face_no r fr0_id (fun y h0 h1 => by rw [hH, setG_ne (by omega), h12]) (by rw [hH, setG_same, hk]) (by omega) q
    · exact absurd z hc
    · exact absurd z hc
  · have h13 : H8 12 13 = G 0 13 := by rw [h12, hA, e13]
    rcases hB with ⟨z, -⟩ | ⟨-, z, -, hH⟩ | ⟨-, z, -⟩
    · exact absurd hc1 z
    · subst hA
      exact face_no r fr0_id (fun y h0 h1 => by rw [hH, setG_ne (by omega), h12]) (by rw [hH, setG_same, hk]) (by omega) q
    · omega
/-- buy -/
theorem f_buy {G A B : GG} {c f t w d k r2 : Int} (r : relR G) (h : (k = 0 ∧ ∃ a G2, (((0 ≤ c ∧ c < G 0 13) ∧ ((0 ≤ f ∧ f ≤ 9) ∧ (0 ≤ t ∧ t ≤ 9) ∧ (0 ≤ w ∧ w ≤ 9) ∧ (0 ≤ d ∧ d ≤ 9)) ∧ canSellP (cinG G f t w d) 0 c 10) ∧ ∃ K1 H, sameB (scr 0) (cinG G f t w d) K1 ∧ saveP K1 H ∧ sellP H 0 c 10 a G2) ∧ A = setG G2 21 0 (wI a)) ∨ (k = 1 ∧ A = G ∧ ¬ (0 ≤ c ∧ c < G 0 13)) ∨ (k = 2 ∧ A = cinG G f t w d ∧ (0 ≤ c ∧ c < G 0 13) ∧ ¬ ((0 ≤ f ∧ f ≤ 9) ∧ (0 ≤ t ∧ t ≤ 9) ∧ (0 ≤ w ∧ w ≤ 9) ∧ (0 ≤ d ∧ d ≤ 9))) ∨ (k = 3 ∧ (0 ≤ c ∧ c < G 0 13) ∧ ((0 ≤ f ∧ f ≤ 9) ∧ (0 ≤ t ∧ t ≤ 9) ∧ (0 ≤ w ∧ w ≤ 9) ∧ (0 ≤ d ∧ d ≤ 9)) ∧ ¬ canSellP (cinG G f t w d) 0 c 10 ∧ sameB (scr 0) (cinG G f t w d) A)) (q : faceM A (buyA c f t w d) r2 B) : fits k r2 B := by
  have o8 := r.1.1.2.1
  have o14 := r.1.2.1.1
  have e := r.2.2.2.2.1
  have e13 := e.1 13 (by omega) (by omega)
  obtain ⟨H8, H, a2, h12, h8, hB, q⟩ := q
  have fc : fr0 G (cinG G f t w d) := ⟨fun y _ _ => cinG_ne (by omega), fun x y _ _ => cinG_ne (by omega), fun x y _ _ => cinG_ne (by omega)⟩
  have rc := fr0_R r fc
  have c13 : cinG G f t w d 0 13 = G 0 13 := cinG_ne (by omega)
  have hp0 : ∀ K : GG, coE (cinG G f t w d) (putG K f t w d) 10 := fun K => by
    show putG K f t w d 18 0 = cinG G f t w d 10 0 ∧ putG K f t w d 18 1 = cinG G f t w d 10 1 ∧ putG K f t w d 18 2 = cinG G f t w d 10 2 ∧ putG K f t w d 18 3 = cinG G f t w d 10 3
    rw [putG_0, putG_1, putG_2, putG_3, cinG_0, cinG_1, cinG_2, cinG_3]
    exact ⟨rfl, rfl, rfl, rfl⟩
  have p12 : ∀ K : GG, putG K f t w d 12 = K 12 := fun K => funext fun y => putG_ne (by omega)
  rcases h with ⟨hk, a, G2, ⟨hc, K1, S, sK, s, hs⟩, hA⟩ | ⟨hk, hA, hc⟩ | ⟨hk, hA, hc1, hc⟩ | ⟨hk, hc1, hc2, hc, hA⟩
  · have fK : fr0 G K1 := ⟨fun y h0 h1 => (sK 0 y (by omega)).trans (cinG_ne (by omega)), fun x y h0 h1 => (sK x y (by omega)).trans (cinG_ne (by omega)), fun x y h0 h1 => (sK x y (by omega)).trans (cinG_ne (by omega))⟩
    have rK := fr0_R r fK
    have s0 := save_0 rK s
    have ne : ∀ x y : Int, x ≠ 0 → G2 x y = S x y := fun x y hx => sell_ne (x := x) (y := y) hs (fun q => hx q.1) (fun q => hx q.1)
    have ak : ∀ x y : Int, 11 ≤ x → x ≤ 20 → A x y = K1 x y := fun x y h0 h1 => by
      rw [hA, setG_ne (by omega), ne x y (by omega), save_K rK s h0]
    have aS : ∀ x y : Int, 2 ≤ x → x ≤ 8 → A x y = S x y := fun x y h0 h1 => by
      rw [hA, setG_ne (by omega), ne x y (by omega)]
    have a0 : A 0 = G2 0 := by rw [hA]; exact funext fun z => setG_ne (by omega)
    have eK : rowE (K1 0) (H8 12) := row_of rK (fun z => ak 12 z (by omega) (by omega)) h12
    have k13 : K1 0 13 = G 0 13 := fK.1 13 (by omega) (by omega)
    have h13 : H8 12 13 = G 0 13 := by rw [eK.1 13 (by omega) (by omega), k13]
    have p10 : ∀ y, S 10 y = cinG G f t w d 10 y := fun y => by rw [saveP_ne rK.2.2.1 s (by omega)]; exact sK 10 y (by omega)
    have S0 : ∀ y : Int, y < 312 → S 0 y = cinG G f t w d 0 y := fun y hy => by rw [s0]; exact sK 0 y (by omega)
    have hcan : canSellP S 0 c 10 := (canSell_congr (by omega) S0 p10).2.2.mpr hc.2.2
    rcases hB with ⟨z, -⟩ | ⟨-, z, -⟩ | ⟨-, -, hb⟩
    · rw [h13] at z; exact absurd hc.1 z
    · exact absurd hc.2.1 z
    · have eS : rowE (S 0) (putG H8 f t w d 12) := by rw [p12, s0]; exact eK
      have hp : coE S (putG H8 f t w d) 10 := by
        show putG H8 f t w d 18 0 = S 10 0 ∧ putG H8 f t w d 18 1 = S 10 1 ∧ putG H8 f t w d 18 2 = S 10 2 ∧ putG H8 f t w d 18 3 = S 10 3
        rw [p10, p10, p10, p10]
        exact hp0 H8
      have oS := okN_save rK s
      have s13 : S 0 13 = G 0 13 := by rw [s0, k13]
      have hco : ∀ k : Int, 0 ≤ k → k < 4 → 0 ≤ S 10 k ∧ S 10 k ≤ 9 := fun j j0 j1 => by
        have hq := hc.2.1
        have hj : j = 0 ∨ j = 1 ∨ j = 2 ∨ j = 3 := by omega
        rw [p10]
        rcases hj with rfl | rfl | rfl | rfl
        · rw [cinG_0]; exact hq.1
        · rw [cinG_1]; exact hq.2.1
        · rw [cinG_2]; exact hq.2.2.1
        · rw [cinG_3]; exact hq.2.2.2
      have cr := can_rel (c := c) oS (by omega) eS hp
      obtain ⟨-, hb⟩ := hb
      rcases hb with ⟨z, -⟩ | ⟨-, b8, ba, SM, k1, k2⟩
      · exact absurd (cr.mpr hcan) z
      · have rs := rel_sell oS (by omega) hco eS hp hcan hs k1 k2
        have oN := okN_sell (by omega) oS hco hcan hs
        have g10 : A 0 10 = K1 0 10 := by
          rw [a0, sell_ne (x := 0) (y := 10) hs (by omega) (by omega), s0]
        have z := face_yes rK s aS ak (okN_congr2 oN (fun z _ _ => by rw [a0])) (by rw [g10]; exact rK.2.1) (by rw [b8, putG_ne (by omega)]; exact h8) (by rw [a0]; exact rs.1) q
        subst hk
        refine ⟨z.1, fun _ => ?_, z.2.2.2⟩
        rw [z.2.2.1, z.2.1, ba, hA, setG_same, rs.2]
  · have h13 : H8 12 13 = G 0 13 := by rw [h12, hA, e13]
    rcases hB with ⟨z, -, hH⟩ | ⟨z, -⟩ | ⟨z, -⟩
    · subst hA
      exact face_no r fr0_id (fun y h0 h1 => by rw [hH, setG_ne (by omega), h12]) (by rw [hH, setG_same, hk]) (by omega) q
    · rw [h13] at z; exact absurd z hc
    · rw [h13] at z; exact absurd z hc
  · have h13 : H8 12 13 = G 0 13 := by rw [h12, hA, cinG_ne (by omega), e13]
    rcases hB with ⟨z, -⟩ | ⟨-, z, -, hH⟩ | ⟨-, z, -⟩
    · rw [h13] at z; exact absurd hc1 z
    · subst hA
      exact face_no r fc (fun y h0 h1 => by rw [hH, setG_ne (by omega), h12]) (by rw [hH, setG_same, hk]) (by omega) q
    · exact absurd z hc
  · have fA : fr0 G A := ⟨fun y h0 h1 => (hA 0 y (by omega)).trans (cinG_ne (by omega)), fun x y h0 h1 => (hA x y (by omega)).trans (cinG_ne (by omega)), fun x y h0 h1 => (hA x y (by omega)).trans (cinG_ne (by omega))⟩
    have eK : rowE (G 0) (H8 12) := row_of r (fun z => fA.2.2 12 z (by omega) (by omega)) h12
    have h13 : H8 12 13 = G 0 13 := eK.1 13 (by omega) (by omega)
    rcases hB with ⟨z, -⟩ | ⟨-, z, -⟩ | ⟨-, -, hb⟩
    · rw [h13] at z; exact absurd hc1 z
    · exact absurd hc2 z
    · have e2 : rowE (cinG G f t w d 0) (putG H8 f t w d 12) := by
        rw [p12, show cinG G f t w d 0 = G 0 from funext fun y => cinG_ne (by omega)]
        exact eK
      have cr := can_rel (c := c) rc.1 (by omega) e2 (hp0 H8)
      obtain ⟨-, hb⟩ := hb
      rcases hb with ⟨z, -, b8, b12⟩ | ⟨z, -⟩
      · exact face_no r fA (fun y h0 h1 => by rw [b12 y h0 h1, p12, h12]) (by rw [b8, hk]) (by omega) q
      · exact absurd (cr.mp z) hc
/-! questions -/
theorem f_coil {G A B : GG} {c w k r2 : Int} (r : relR G) (h : (k = 0 ∧ ∃ a G2, (((0 ≤ c ∧ c < G 0 13) ∧ (0 ≤ w ∧ w ≤ 9)) ∧ a = G 0 (15 + 12 * c + w) ∧ G2 = G) ∧ A = setG G2 21 0 (wI a)) ∨ (k = 1 ∧ A = G ∧ ¬ (0 ≤ c ∧ c < G 0 13)) ∨ (k = 2 ∧ A = G ∧ (0 ≤ c ∧ c < G 0 13) ∧ ¬ (0 ≤ w ∧ w ≤ 9))) (q : quiet A B ∧ ((¬ (0 ≤ c ∧ c < A 12 13) ∧ B 11 7 = 1) ∨ (((0 ≤ c ∧ c < A 12 13) ∧ ¬ (0 ≤ w ∧ w ≤ 9)) ∧ B 11 7 = 2) ∨ (((0 ≤ c ∧ c < A 12 13) ∧ (0 ≤ w ∧ w ≤ 9)) ∧ B 11 7 = 0 ∧ r2 = A 12 (15 + 12 * c + w)))) : fits k r2 B := by
  have o8 := r.1.1.2.1
  have e := r.2.2.2.2.1
  have e13 := e.1 13 (by omega) (by omega)
  obtain ⟨qq, q⟩ := q
  rcases h with ⟨hk, a, G2, ⟨hc, ha, hG2⟩, hA⟩ | ⟨hk, hA, hc⟩ | ⟨hk, hA, hc1, hc⟩
  · subst hG2
    subst hA
    rw [setG_ne (by omega), setG_ne (by omega), e13] at q
    rcases q with ⟨z, -⟩ | ⟨z, -⟩ | ⟨-, q7, qr⟩
    · exact absurd hc.1 z
    · exact absurd hc.2 z.2
    · refine quiet_fit r fr0_rf qq (q7.trans hk.symm) (fun _ => ?_)
      rw [setG_same, qr, ha, e.1 _ (by omega) (by omega)]
  · subst hA
    rw [e13] at q
    rcases q with ⟨-, q7⟩ | ⟨z, -⟩ | ⟨z, -⟩
    · exact quiet_fit r fr0_id qq (q7.trans hk.symm) (fun z => by omega)
    · exact absurd z.1 hc
    · exact absurd z.1 hc
  · subst hA
    rw [e13] at q
    rcases q with ⟨z, -⟩ | ⟨-, q7⟩ | ⟨z, -⟩
    · exact absurd hc1 z
    · exact quiet_fit r fr0_id qq (q7.trans hk.symm) (fun z => by omega)
    · exact absurd z.2 hc
/-- a question with one condition -/
theorem f_ask1 {G A B : GG} {ok : Prop} {k r2 v v2 : Int} (r : relR G) (h : (k = 0 ∧ ∃ a G2, (ok ∧ a = v ∧ fr0 G (setG G2 21 0 (wI a))) ∧ A = setG G2 21 0 (wI a)) ∨ (k = 1 ∧ A = G ∧ ¬ ok)) (hv : ok → v2 = v) (q : quiet A B ∧ ((¬ ok ∧ B 11 7 = 1) ∨ (ok ∧ B 11 7 = 0 ∧ r2 = v2))) : fits k r2 B := by
  obtain ⟨qq, q⟩ := q
  rcases h with ⟨hk, a, G2, ⟨hc, ha, hf⟩, hA⟩ | ⟨hk, hA, hc⟩
  · rcases q with ⟨z, -⟩ | ⟨-, q7, qr⟩
    · exact absurd hc z
    · subst hA
      refine quiet_fit r hf qq (q7.trans hk.symm) (fun _ => ?_)
      rw [setG_same, qr, ha, hv hc]
  · rcases q with ⟨-, q7⟩ | ⟨z, -⟩
    · subst hA
      exact quiet_fit r fr0_id qq (q7.trans hk.symm) (fun z => by omega)
    · exact absurd z hc
/-- a question with two conditions, the second asked behind the first -/
theorem f_ask2 {G A B : GG} {o1 o2 : Prop} {k r2 v v2 : Int} (r : relR G) (h : (k = 0 ∧ ∃ a G2, ((o1 ∧ o2) ∧ a = v ∧ fr0 G (setG G2 21 0 (wI a))) ∧ A = setG G2 21 0 (wI a)) ∨ (k = 1 ∧ fr0 G A ∧ ¬ o1) ∨ (k = 2 ∧ fr0 G A ∧ o1 ∧ ¬ o2)) (hv : o1 → o2 → v2 = v) (q : quiet A B ∧ ((¬ o1 ∧ B 11 7 = 1) ∨ (o1 ∧ ¬ o2 ∧ B 11 7 = 2) ∨ ((o1 ∧ o2) ∧ B 11 7 = 0 ∧ r2 = v2))) : fits k r2 B := by
  obtain ⟨qq, q⟩ := q
  rcases h with ⟨hk, a, G2, ⟨hc, ha, hf⟩, hA⟩ | ⟨hk, hA, hc⟩ | ⟨hk, hA, hc1, hc⟩
  · rcases q with ⟨z, -⟩ | ⟨-, z, -⟩ | ⟨-, q7, qr⟩
    · exact absurd hc.1 z
    · exact absurd hc.2 z
    · subst hA
      refine quiet_fit r hf qq (q7.trans hk.symm) (fun _ => ?_)
      rw [setG_same, qr, ha, hv hc.1 hc.2]
  · rcases q with ⟨-, q7⟩ | ⟨z, -⟩ | ⟨z, -⟩
    · exact quiet_fit r hA qq (q7.trans hk.symm) (fun z => by omega)
    · exact absurd z hc
    · exact absurd z.1 hc
  · rcases q with ⟨z, -⟩ | ⟨-, -, q7⟩ | ⟨z, -⟩
    · exact absurd hc1 z
    · exact quiet_fit r hA qq (q7.trans hk.symm) (fun z => by omega)
    · exact absurd z.2 hc
/-- append -/
theorem f_append {G A B : GG} {v k r2 : Int} (r : relR G) (h : (k = 0 ∧ ∃ a G2, (((0 ≤ v ∧ v ≤ 127) ∧ (G 7 1 < 100)) ∧ a = G 7 1 + 1 ∧ G2 = setG (setG G 8 (G 7 1) v) 7 1 (G 7 1 + 1)) ∧ A = setG G2 21 0 (wI a)) ∨ (k = 1 ∧ A = G ∧ ¬ (0 ≤ v ∧ v ≤ 127)) ∨ (k = 2 ∧ A = G ∧ (0 ≤ v ∧ v ≤ 127) ∧ ¬ (G 7 1 < 100))) (q : (¬ (0 ≤ v ∧ v ≤ 127) ∧ B 11 7 = 1 ∧ quiet A B) ∨ ((0 ≤ v ∧ v ≤ 127) ∧ A 11 6 = 100 ∧ B 11 7 = 2 ∧ quiet A B) ∨ (((0 ≤ v ∧ v ≤ 127) ∧ ¬ A 11 6 = 100) ∧ r2 = A 11 6 + 1 ∧ B 11 7 = 0 ∧ B 11 6 = A 11 6 + 1 ∧ B 16 (A 11 6) = v ∧ sameB (fun x y => (x = 11 ∧ (y = 6 ∨ y = 7)) ∨ (x = 16 ∧ y = A 11 6)) A B)) : fits k r2 B := by
  have hl := r.2.2.2.2.2.2.1
  have t := r.2.2.2.1
  have t1 := t.1
  rcases h with ⟨hk, a, G2, ⟨hc, ha, hG2⟩, hA⟩ | ⟨hk, hA, hc⟩ | ⟨hk, hA, hc1, hc⟩
  · have a6 : A 11 6 = G 7 1 := by rw [hA, hG2, setG_ne (by omega), setG_ne (by omega), setG_ne (by omega), hl]
    rw [a6] at q
    rcases q with ⟨z, -⟩ | ⟨-, z, -⟩ | ⟨-, qr, q7, q6, q16, qs⟩
    · exact absurd hc.1 z
    · omega
    · have ne : ∀ x y : Int, ¬ (x = 8 ∧ y = G 7 1) → ¬ (x = 7 ∧ y = 1) → ¬ (x = 21 ∧ y = 0) → A x y = G x y := fun x y z1 z2 z3 => by
        rw [hA, hG2, setG_ne z3, setG_ne z2, setG_ne z1]
      have a71 : A 7 1 = G 7 1 + 1 := by rw [hA, hG2, setG_ne (by omega), setG_same]
      have a8 : A 8 (G 7 1) = v := by rw [hA, hG2, setG_ne (by omega), setG_ne (by omega), setG_same]
      have b : ∀ x y : Int, ¬ (x = 11 ∧ (y = 6 ∨ y = 7)) → ¬ (x = 16 ∧ y = G 7 1) → B x y = A x y := fun x y z1 z2 => qs x y (by omega)
      have b2 : ∀ x y : Int, ¬ (x = 11 ∧ (y = 6 ∨ y = 7)) → ¬ (x = 16 ∧ y = G 7 1) → ¬ (x = 8 ∧ y = G 7 1) → ¬ (x = 7 ∧ y = 1) → ¬ (x = 21 ∧ y = 0) → B x y = G x y := fun x y z1 z2 z3 z4 z5 => (b x y z1 z2).trans (ne x y z3 z4 z5)
      have b71 : B 7 1 = G 7 1 + 1 := (b 7 1 (by omega) (by omega)).trans a71
      have b8 : ∀ y : Int, y ≠ G 7 1 → B 8 y = G 8 y := fun y hy => b2 8 y (by omega) (by omega) (by omega) (by omega) (by omega)
      have b8v : B 8 (G 7 1) = v := (b 8 _ (by omega) (by omega)).trans a8
      obtain ⟨oN, o10, vv, -, e, sv, -, tx⟩ := r
      have o8 := oN.1.2.1
      have o14 := oN.2.1.1
      have b0 : ∀ y, B 0 y = G 0 y := fun y => b2 0 y (by omega) (by omega) (by omega) (by omega) (by omega)
      have b6 : ∀ y, B 6 y = G 6 y := fun y => b2 6 y (by omega) (by omega) (by omega) (by omega) (by omega)
      have b12 : ∀ y, B 12 y = G 12 y := fun y => b2 12 y (by omega) (by omega) (by omega) (by omega) (by omega)
      have vB : okV B := by
        unfold okV
        rw [b6, b6, b6, b6, b6]
        exact vv
      refine ⟨q7.trans hk.symm, fun _ => ?_, okN_congr2 oN (fun y _ _ => b0 y), by rw [b0]; exact o10, vB, ⟨by rw [b71]; omega, by rw [b2 7 6 (by omega) (by omega) (by omega) (by omega) (by omega)]; exact t.2.1, by rw [b2 7 7 (by omega) (by omega) (by omega) (by omega) (by omega)]; exact t.2.2.1, fun j h0 h1 => ?_⟩, rowE_congr o8 o14.2 (fun y _ => b0 y) (fun y _ _ => b12 y) e, ⟨by rw [b2 11 4 (by omega) (by omega) (by omega) (by omega) (by omega), b6]; exact sv.1, fun j h0 h1 => ?_⟩, by rw [q6, b71], fun j h0 h1 => ?_⟩
      · rw [b 21 0 (by omega) (by omega), hA, setG_same, ha, qr]
      · by_cases hj : j = G 7 1
        · subst hj; rw [b8v]; exact hc.1
        · rw [b8 j hj]; exact t.2.2.2 j h0 (by omega)
      · rw [b6] at h1
        obtain ⟨s1, s2, s3⟩ := sv.2 j h0 h1
        have pR := okV_at vv (k := j) (by have := vv.1; omega)
        have pg : ∀ y, B (B 6 (j + 10)) y = G (G 6 (j + 10)) y := fun y => by
          rw [b6]
          exact b2 _ y (by omega) (by omega) (by omega) (by omega) (by omega)
        have p8 := s2.1.2.1
        have p14 := s2.2.1.1
        exact ⟨rowE_congr p8 p14.2 (fun y _ => pg y) (fun y _ _ => b2 15 _ (by omega) (by omega) (by omega) (by omega) (by omega)) s1, okN_congr2 s2 (fun y _ _ => pg y), by rw [pg]; exact s3⟩
      · by_cases hj : j = G 7 1
        · subst hj; rw [b8v, q16]
        · rw [b8 j hj, b2 16 j (by omega) (by omega) (by omega) (by omega) (by omega)]; exact tx j h0 (by omega)
  · subst hA
    rcases q with ⟨-, q7, qq⟩ | ⟨z, -⟩ | ⟨z, -⟩
    · exact quiet_fit r fr0_id qq (q7.trans hk.symm) (fun z => by omega)
    · exact absurd z hc
    · exact absurd z.1 hc
  · subst hA
    rcases q with ⟨z, -⟩ | ⟨-, -, q7, qq⟩ | ⟨z, -⟩
    · exact absurd hc1 z
    · exact quiet_fit r fr0_id qq (q7.trans hk.symm) (fun z => by omega)
    · omega
/-- undo -/
theorem f_undo {G A B : GG} {k r2 : Int} (r : relR G) (h : (k = 0 ∧ ∃ a G2, ((1 ≤ G 6 0) ∧ a = G 6 0 - 1 ∧ overP (setG G 6 0 (G 6 0 - 1)) 0 (G 6 (G 6 0 + 9)) G2) ∧ A = setG G2 21 0 (wI a)) ∨ (k = 1 ∧ A = G ∧ ¬ (1 ≤ G 6 0))) (q : (A 11 4 = 0 ∧ B 11 7 = 1 ∧ quiet A B) ∨ (1 ≤ A 11 4 ∧ r2 = A 11 4 - 1 ∧ B 11 7 = 0 ∧ B 11 4 = A 11 4 - 1 ∧ (∀ y : Int, 0 ≤ y → y < 311 → B 12 y = A 15 (311 * (A 11 4 - 1) + y)) ∧ sameB (fun x y => x = 12 ∨ (x = 11 ∧ (y = 4 ∨ y = 7))) A B)) : fits k r2 B := by
  have s4 := r.2.2.2.2.2.1.1
  have v0 := r.2.2.1.1
  rcases h with ⟨hk, a, G2, ⟨hc, ha, hG2⟩, hA⟩ | ⟨hk, hA, hc⟩
  · have ne : ∀ x y : Int, x ≠ 0 → x ≠ 6 → x ≠ 21 → A x y = G x y := fun x y h0 h6 h21 => by
      rw [hA, setG_ne (by omega), overP_out hG2 h0, setG_ne (by omega)]
    rw [ne 11 4 (by omega) (by omega) (by omega), s4] at q
    rcases q with ⟨z, -⟩ | ⟨-, qr, q7, q4, q12, qs⟩
    · omega
    · refine ⟨q7.trans hk.symm, fun _ => ?_, relR_undo (A := G2) r hc hG2 (fun x y hx => ?_) (by rw [q4, s4]) (fun y h0 h1 => ?_) (fun y => ?_) ?_ (fun y => ?_)⟩
      · rw [qs 21 0 (by omega), hA, setG_same, ha, qr]
      · rw [qs x y (by omega), hA, setG_ne (by omega)]
      · rw [q12 y h0 h1, ne 15 _ (by omega) (by omega) (by omega), s4]
      · rw [qs 15 y (by omega), ne 15 y (by omega) (by omega) (by omega)]
      · rw [qs 11 6 (by omega), ne 11 6 (by omega) (by omega) (by omega)]
      · rw [qs 16 y (by omega), ne 16 y (by omega) (by omega) (by omega)]
  · subst hA
    rcases q with ⟨-, q7, qq⟩ | ⟨z, -⟩
    · exact quiet_fit r fr0_id qq (q7.trans hk.symm) (fun z => by omega)
    · omega
/-- carryOut: the answers are compared at once -/
theorem f_carry {G A B : GG} {a r2 : Int} (r : relR G) (h : ((erL 100 (stR G) 7 7) ≠ -1 ∧ a = -10 - (erL 100 (stR G) 7 7) ∧ A = (erL 100 (stR G))) ∨ ((erL 100 (stR G) 7 7) = -1 ∧ ∃ H, saveP (erL 100 (stR G)) H ∧ coP 100 (stR H) a A)) (q : (¬ synE (bM A) (A 11 6) 102 0 = -1 ∧ r2 = -10 - synE (bM A) (A 11 6) 102 0 ∧ B 11 7 = 0 ∧ quiet A B) ∨ (synE (bM A) (A 11 6) 102 0 = -1 ∧ ∃ H8 H, (∀ y, H8 12 y = A 12 y) ∧ H8 11 13 = 0 ∧ H8 11 8 = 0 ∧ coM (bM A) (A 11 6) 102 H8 r2 H ∧ (∀ y, B 12 y = H 12 y) ∧ B 11 7 = 0 ∧ svR A B ∧ sameB (fun x y => quS x y ∨ x = 15 ∨ (x = 11 ∧ y = 4)) A B)) : r2 = a ∧ relR B := by
  have hl := r.2.2.2.2.2.2.1
  have tx := r.2.2.2.2.2.2.2
  have t := r.2.2.2.1
  have t1 := t.1
  have hbA : ∀ K : GG, K 11 6 = G 11 6 → (∀ y, K 16 y = G 16 y) → ∀ p, 0 ≤ p → bA G p = bM K p := fun K k6 k16 p hp => by
    unfold bA bM
    rw [k6, k16, hl]
    by_cases h1 : p < G 7 1
    · rw [if_pos ⟨hp, h1, by omega⟩, if_pos h1, tx p hp h1]
    · rw [if_neg (fun q => h1 q.2.1), if_neg h1]
  have ene : ∀ x y : Int, x ≠ 7 → x ≠ 9 → erL 100 (stR G) x y = G x y := fun x y h7 h9 => (er_ne ⟨h7, h9⟩ 100 _).trans (stR_ne h7)
  have st0 : ∀ {K J : GG}, J 7 1 = G 7 1 → (∀ y, J 8 y = G 8 y) → K 11 6 = G 11 6 → (∀ y, K 16 y = G 16 y) → St (stR J) (bM K) 0 := fun {K J} j1 j8 k6 k16 => by
    refine ⟨fun p hp => ?_, ?_, ?_⟩
    · rw [← hbA K k6 k16 p hp]
      refine bA_congr ?_ (fun y => (stR_ne (by omega)).trans (j8 y)) p
      unfold stR
      rw [setG_ne (by omega), setG_ne (by omega)]
      exact j1
    · unfold stR
      rw [setG_ne (by omega), setG_same]
    · unfold stR
      rw [setG_same]
  have len0 : ∀ J : GG, stR J 7 1 = J 7 1 := fun J => by
    unfold stR
    rw [setG_ne (by omega), setG_ne (by omega)]
  have e71 : ∀ (n : Nat) (J : GG), erL n J 7 1 = J 7 1 := fun n => by
    induction n with
    | zero => exact fun J => rfl
    | succ n ih =>
      intro J
      show (if J 7 6 < J 7 1 ∧ J 7 7 = -1 then (if roG J 7 7 = -1 then erL n (roG J) else roG J) else J) 7 1 = J 7 1
      by_cases h1 : J 7 6 < J 7 1 ∧ J 7 7 = -1
      · rw [if_pos h1]
        by_cases h2 : roG J 7 7 = -1
        · rw [if_pos h2, ih, ro_len]
        · rw [if_neg h2, ro_len]
      · rw [if_neg h1]
  have rE : relR (erL 100 (stR G)) := relR_frame r (fun y _ _ => ene 0 y (by omega) (by omega)) (fun x y h0 h1 => ene x y (by omega) (by omega)) (okT_er 100 (okT_stR t)) (by rw [e71, len0]) (fun y => ene 8 y (by omega) (by omega)) (fun y _ _ => ene 12 y (by omega) (by omega)) (ene 11 4 (by omega) (by omega)) (ene 11 6 (by omega) (by omega)) (fun y => ene 15 y (by omega) (by omega)) (fun y => ene 16 y (by omega) (by omega))
  rcases h with ⟨he, ha, hA⟩ | ⟨he, S, s, hco⟩
  · subst hA
    have a6 : erL 100 (stR G) 11 6 = G 11 6 := ene 11 6 (by omega) (by omega)
    have a16 : ∀ y, erL 100 (stR G) 16 y = G 16 y := fun y => ene 16 y (by omega) (by omega)
    have sy : erL 100 (stR G) 7 7 = synE (bM (erL 100 (stR G))) (G 7 1) 102 0 := (er_rel 100 (by omega) (st0 rfl (fun _ => rfl) a6 a16) (len0 G)).trans (syn_eq 100 102 0 (by omega) (by omega))
    rw [a6, hl, ← sy] at q
    rcases q with ⟨-, qr, -, qq⟩ | ⟨z, -⟩
    · exact ⟨by rw [qr, ha], quiet_R rE qq⟩
    · exact absurd z he
  · have v := rE.2.2.1
    have sK : ∀ x y : Int, ¬ (2 ≤ x ∧ x ≤ 6) → S x y = erL 100 (stR G) x y := fun x y hx => saveP_ne v s hx
    have s1 : S 7 1 = G 7 1 := by rw [sK 7 1 (by omega), e71, len0]
    have s8 : ∀ y, S 8 y = G 8 y := fun y => by rw [sK 8 y (by omega), ene 8 y (by omega) (by omega)]
    have aK : ∀ x y : Int, x ≠ 0 → x ≠ 7 → x ≠ 9 → A x y = S x y := fun x y h0 h7 h9 => by
      rw [coP_ne ⟨h0, h7, h9⟩ 100 hco, stR_ne h7]
    have aG : ∀ x y : Int, 10 ≤ x → A x y = G x y := fun x y hx => by
      rw [aK x y (by omega) (by omega) (by omega), sK x y (by omega), ene x y (by omega) (by omega)]
    have a6 : A 11 6 = G 11 6 := aG 11 6 (by omega)
    have a16 : ∀ y, A 16 y = G 16 y := fun y => aG 16 y (by omega)
    have sy : erL 100 (stR G) 7 7 = synE (bM A) (G 7 1) 102 0 := (er_rel 100 (by omega) (st0 rfl (fun _ => rfl) a6 a16) (len0 G)).trans (syn_eq 100 102 0 (by omega) (by omega))
    rw [a6, hl, ← sy] at q
    rcases q with ⟨z, -⟩ | ⟨-, H8, H, h12, h13, h8, hM, b12, b7, sv, bs⟩
    · exact absurd he z
    · have sS : St (stR S) (bM A) 0 := st0 s1 s8 a6 a16
      have e0 := save_0 rE s
      have r0 : ∀ y, stR S 0 y = erL 100 (stR G) 0 y := fun y => by rw [stR_ne (by omega), e0]
      have okS0 : okO (stR S) := by
        refine ⟨okN_congr2 rE.1 (fun y _ _ => r0 y), by rw [r0]; exact rE.2.1, ?_⟩
        refine okT_stR (okT_congr (fun y => sK 7 y (by omega)) (fun y => sK 8 y (by omega)) rE.2.2.2.1)
      have eS : rowE (stR S 0) (H8 12) := by
        rw [show stR S 0 = erL 100 (stR G) 0 from funext r0]
        exact row_of rE (fun y => (aG 12 y (by omega)).trans (ene 12 y (by omega) (by omega)).symm) h12
      have z := co_rel 100 102 (by omega) sS ((len0 S).trans s1) okS0 eS h13 h8 (by omega) (fun m hm => by rw [syn_eq m 102 0 hm (by omega), ← sy]; exact he) hco hM
      obtain ⟨zr, ze, zo, zl⟩ := z
      have b : ∀ x y : Int, x ≤ 10 → B x y = A x y := fun x y hx => bs x y (by omega)
      have bS : ∀ x y : Int, 2 ≤ x → x ≤ 6 → B x y = S x y := fun x y h0 h1 => by rw [b x y (by omega), aK x y (by omega) (by omega) (by omega)]
      have E6 : erL 100 (stR G) 7 1 = G 7 1 := by rw [e71, len0]
      refine ⟨zr, relR_save rE s bS (okN_congr2 zo.1 (fun y _ _ => b 0 y (by omega))) (by rw [b 0 10 (by omega)]; exact zo.2.1) (okT_congr (fun y => b 7 y (by omega)) (fun y => b 8 y (by omega)) zo.2.2) (by rw [b 7 1 (by omega), zl, E6]) (fun y => ?_) ?_ (svR_congr ?_ (fun y => ?_) (fun y => ?_) sv) ?_ (fun y => ?_)⟩
      · rw [b 8 y (by omega), aK 8 y (by omega) (by omega) (by omega), sK 8 y (by omega)]
      · rw [show B 0 = A 0 from funext fun y => b 0 y (by omega), show B 12 = H 12 from funext b12]
        exact ze
      · rw [aG 11 4 (by omega), ene 11 4 (by omega) (by omega)]
      · rw [aG 12 y (by omega), ene 12 y (by omega) (by omega)]
      · rw [aG 15 y (by omega), ene 15 y (by omega) (by omega)]
      · rw [bs 11 6 (by omega), a6, ene 11 6 (by omega) (by omega)]
      · rw [bs 16 y (by omega), a16, ene 16 y (by omega) (by omega)]
