/-! what the class leaves as it was; questions, on both sides -/
theorem k_set {ok : Prop} {G A : GG} {w v k : Int} (r : relR G) (h : (k = 0 ∧ ∃ a G2, (ok ∧ ∃ H, saveP G H ∧ a = G 0 w ∧ G2 = setG H 0 w v) ∧ A = setG G2 21 0 (wI a)) ∨ (k = 1 ∧ A = G ∧ ¬ ok)) : ∀ x y : Int, 11 ≤ x → x ≤ 20 → A x y = G x y := fun x y h0 h1 => by
  rcases h with ⟨-, a, G2, ⟨-, S, s, -, hG2⟩, hA⟩ | ⟨-, hA, -⟩
  · rw [hA, setG_ne (by omega), hG2, setG_ne (by omega), save_K r s h0]
  · rw [hA]
theorem k_stock {G A : GG} {c n k : Int} (r : relR G) (h : (k = 0 ∧ ∃ a G2, (((0 ≤ c ∧ c < G 0 13) ∧ (1 ≤ n ∧ n ≤ 20) ∧ (G 0 (15 + 12 * c + 1) + n ≤ 20)) ∧ ∃ H, saveP G H ∧ a = G 0 (15 + 12 * c + 1) + n ∧ G2 = setG H 0 (15 + 12 * c + 1) (G 0 (15 + 12 * c + 1) + n)) ∧ A = setG G2 21 0 (wI a)) ∨ (k = 1 ∧ A = G ∧ ¬ (0 ≤ c ∧ c < G 0 13)) ∨ (k = 2 ∧ A = G ∧ (0 ≤ c ∧ c < G 0 13) ∧ ¬ (1 ≤ n ∧ n ≤ 20)) ∨ (k = 3 ∧ A = G ∧ ((0 ≤ c ∧ c < G 0 13) ∧ (1 ≤ n ∧ n ≤ 20)) ∧ ¬ (G 0 (15 + 12 * c + 1) + n ≤ 20))) : ∀ x y : Int, 11 ≤ x → x ≤ 20 → A x y = G x y := fun x y h0 h1 => by
  rcases h with ⟨-, a, G2, ⟨-, S, s, -, hG2⟩, hA⟩ | ⟨-, hA, -⟩ | ⟨-, hA, -⟩ | ⟨-, hA, -⟩
  · rw [hA, setG_ne (by omega), hG2, setG_ne (by omega), save_K r s h0]
  · rw [hA]
  · rw [hA]
  · rw [hA]
theorem k_look {G A : GG} {c k : Int} (r : relR G) (h : (k = 0 ∧ ∃ a G2, ((0 ≤ c ∧ c < G 0 13) ∧ ∃ H, saveP G H ∧ a = G 0 (15 + 12 * c + 2) ∧ G2 = setG H 0 (15 + 12 * c + 10) (faddH (G 0 (15 + 12 * c + 10)))) ∧ A = setG G2 21 0 (wI a)) ∨ (k = 1 ∧ A = G ∧ ¬ (0 ≤ c ∧ c < G 0 13))) : ∀ x y : Int, 11 ≤ x → x ≤ 20 → A x y = G x y := fun x y h0 h1 => by
  rcases h with ⟨-, a, G2, ⟨-, S, s, -, hG2⟩, hA⟩ | ⟨-, hA, -⟩
  · rw [hA, setG_ne (by omega), hG2, setG_ne (by omega), save_K r s h0]
  · rw [hA]
theorem k_box {G A : GG} {a : Int} (r : relR G) (h : ∃ H, saveP G H ∧ a = G 0 9 ∧ A = setG H 0 9 0) : ∀ x y : Int, 11 ≤ x → x ≤ 20 → A x y = G x y := fun x y h0 h1 => by
  obtain ⟨S, s, -, hA⟩ := h
  rw [hA, setG_ne (by omega), save_K r s h0]
theorem k_fill {G A : GG} {t n k : Int} (r : relR G) (h : (k = 0 ∧ ∃ a G2, (((0 ≤ t ∧ t ≤ 3) ∧ (1 ≤ n ∧ n ≤ 30)) ∧ ∃ H, saveP G H ∧ a = min n (30 - G 0 (5 + t)) ∧ keepP (fillG H 0 t n) 0 (kpG (fillG H 0 t n) 0) G2) ∧ A = setG G2 21 0 (wI a)) ∨ (k = 1 ∧ A = G ∧ ¬ (0 ≤ t ∧ t ≤ 3)) ∨ (k = 2 ∧ A = G ∧ (0 ≤ t ∧ t ≤ 3) ∧ ¬ (1 ≤ n ∧ n ≤ 30))) : ∀ x y : Int, 11 ≤ x → x ≤ 20 → A x y = G x y := fun x y h0 h1 => by
  rcases h with ⟨-, a, G2, ⟨-, S, s, -, hG2⟩, hA⟩ | ⟨-, hA, -⟩ | ⟨-, hA, -⟩
  · rw [hA, setG_ne (by omega), hG2.2.2.2.2.2.2.2.2 x y (by omega)]
    unfold fillG
    rw [setG_ne (by omega), save_K r s h0]
  · rw [hA]
  · rw [hA]
theorem k_pass {G A : GG} {n k : Int} (r : relR G) (h : (k = 0 ∧ ∃ a G2, (((1 ≤ n ∧ n ≤ 48) ∧ (G 0 10 + n ≤ 100000)) ∧ ∃ H, saveP G H ∧ a = hoursR (G 0) n.toNat 12 - G 0 12 ∧ G2 = onR H 0 (hoursR (G 0) n.toNat)) ∧ A = setG G2 21 0 (wI a)) ∨ (k = 1 ∧ A = G ∧ ¬ (1 ≤ n ∧ n ≤ 48)) ∨ (k = 2 ∧ A = G ∧ (1 ≤ n ∧ n ≤ 48) ∧ ¬ (G 0 10 + n ≤ 100000))) : ∀ x y : Int, 11 ≤ x → x ≤ 20 → A x y = G x y := fun x y h0 h1 => by
  rcases h with ⟨-, a, G2, ⟨-, S, s, -, hG2⟩, hA⟩ | ⟨-, hA, -⟩ | ⟨-, hA, -⟩
  · rw [hA, setG_ne (by omega), hG2, onR_ne (by omega), save_K r s h0]
  · rw [hA]
  · rw [hA]
theorem k_add {G A : GG} {c b d k : Int} (r : relR G) (h : (k = 0 ∧ ∃ a G2, (((0 ≤ c ∧ c ≤ 5) ∧ (5 ≤ b ∧ b ≤ 500 ∧ b % 5 = 0) ∧ (b ≤ d ∧ d ≤ 500 ∧ d % 5 = 0) ∧ (G 0 13 < 8)) ∧ ∃ H, saveP G H ∧ a = G 0 13 ∧ G2 = setG (coilBegin H 0 (G 0 13) c b d) 0 13 (G 0 13 + 1)) ∧ A = setG G2 21 0 (wI a)) ∨ (k = 1 ∧ A = G ∧ ¬ ((0 ≤ c ∧ c ≤ 5) ∧ (5 ≤ b ∧ b ≤ 500 ∧ b % 5 = 0) ∧ (b ≤ d ∧ d ≤ 500 ∧ d % 5 = 0))) ∨ (k = 2 ∧ A = G ∧ ((0 ≤ c ∧ c ≤ 5) ∧ (5 ≤ b ∧ b ≤ 500 ∧ b % 5 = 0) ∧ (b ≤ d ∧ d ≤ 500 ∧ d % 5 = 0)) ∧ ¬ (G 0 13 < 8))) : ∀ x y : Int, 11 ≤ x → x ≤ 20 → A x y = G x y := fun x y h0 h1 => by
  rcases h with ⟨-, a, G2, ⟨-, S, s, -, hG2⟩, hA⟩ | ⟨-, hA, -⟩ | ⟨-, hA, -⟩
  · rw [hA, setG_ne (by omega), hG2, setG_ne (by omega), cb_ne (by omega), save_K r s h0]
  · rw [hA]
  · rw [hA]
theorem k_buy {G A : GG} {c f t w d k : Int} (r : relR G) (h : (k = 0 ∧ ∃ a G2, (((0 ≤ c ∧ c < G 0 13) ∧ ((0 ≤ f ∧ f ≤ 9) ∧ (0 ≤ t ∧ t ≤ 9) ∧ (0 ≤ w ∧ w ≤ 9) ∧ (0 ≤ d ∧ d ≤ 9)) ∧ canSellP (cinG G f t w d) 0 c 10) ∧ ∃ K1 H, sameB (scr 0) (cinG G f t w d) K1 ∧ saveP K1 H ∧ sellP H 0 c 10 a G2) ∧ A = setG G2 21 0 (wI a)) ∨ (k = 1 ∧ A = G ∧ ¬ (0 ≤ c ∧ c < G 0 13)) ∨ (k = 2 ∧ A = cinG G f t w d ∧ (0 ≤ c ∧ c < G 0 13) ∧ ¬ ((0 ≤ f ∧ f ≤ 9) ∧ (0 ≤ t ∧ t ≤ 9) ∧ (0 ≤ w ∧ w ≤ 9) ∧ (0 ≤ d ∧ d ≤ 9))) ∨ (k = 3 ∧ (0 ≤ c ∧ c < G 0 13) ∧ ((0 ≤ f ∧ f ≤ 9) ∧ (0 ≤ t ∧ t ≤ 9) ∧ (0 ≤ w ∧ w ≤ 9) ∧ (0 ≤ d ∧ d ≤ 9)) ∧ ¬ canSellP (cinG G f t w d) 0 c 10 ∧ sameB (scr 0) (cinG G f t w d) A)) : ∀ x y : Int, 11 ≤ x → x ≤ 20 → A x y = G x y := fun x y h0 h1 => by
  rcases h with ⟨-, a, G2, ⟨-, K1, S, sK, s, hs⟩, hA⟩ | ⟨-, hA, -⟩ | ⟨-, hA, -⟩ | ⟨-, -, -, -, hA⟩
  · have fK : fr0 G K1 := ⟨fun y h0 h1 => (sK 0 y (by omega)).trans (cinG_ne (by omega)), fun x y h0 h1 => (sK x y (by omega)).trans (cinG_ne (by omega)), fun x y h0 h1 => (sK x y (by omega)).trans (cinG_ne (by omega))⟩
    have rK := fr0_R r fK
    rw [hA, setG_ne (by omega), sell_ne (x := x) (y := y) hs (by omega) (by omega), save_K rK s h0]
    exact fK.2.2 x y h0 h1
  · rw [hA]
  · rw [hA, cinG_ne (by omega)]
  · rw [hA x y (by omega), cinG_ne (by omega)]
theorem k_coil {G A : GG} {c w k : Int} (r : relR G) (h : (k = 0 ∧ ∃ a G2, (((0 ≤ c ∧ c < G 0 13) ∧ (0 ≤ w ∧ w ≤ 9)) ∧ a = G 0 (15 + 12 * c + w) ∧ G2 = G) ∧ A = setG G2 21 0 (wI a)) ∨ (k = 1 ∧ A = G ∧ ¬ (0 ≤ c ∧ c < G 0 13)) ∨ (k = 2 ∧ A = G ∧ (0 ≤ c ∧ c < G 0 13) ∧ ¬ (0 ≤ w ∧ w ≤ 9))) : ∀ x y : Int, 11 ≤ x → x ≤ 20 → A x y = G x y := fun x y h0 h1 => by
  rcases h with ⟨-, a, G2, ⟨-, -, hG2⟩, hA⟩ | ⟨-, hA, -⟩ | ⟨-, hA, -⟩
  · rw [hA, setG_ne (by omega), hG2]
  · rw [hA]
  · rw [hA]
theorem k_append {G A : GG} {v k : Int} (r : relR G) (h : (k = 0 ∧ ∃ a G2, (((0 ≤ v ∧ v ≤ 127) ∧ (G 7 1 < 100)) ∧ a = G 7 1 + 1 ∧ G2 = setG (setG G 8 (G 7 1) v) 7 1 (G 7 1 + 1)) ∧ A = setG G2 21 0 (wI a)) ∨ (k = 1 ∧ A = G ∧ ¬ (0 ≤ v ∧ v ≤ 127)) ∨ (k = 2 ∧ A = G ∧ (0 ≤ v ∧ v ≤ 127) ∧ ¬ (G 7 1 < 100))) : ∀ x y : Int, 11 ≤ x → x ≤ 20 → A x y = G x y := fun x y h0 h1 => by
  rcases h with ⟨-, a, G2, ⟨-, -, hG2⟩, hA⟩ | ⟨-, hA, -⟩ | ⟨-, hA, -⟩
  · rw [hA, setG_ne (by omega), hG2, setG_ne (by omega), setG_ne (by omega)]
  · rw [hA]
  · rw [hA]
theorem k_undo {G A : GG} {k : Int} (r : relR G) (h : (k = 0 ∧ ∃ a G2, ((1 ≤ G 6 0) ∧ a = G 6 0 - 1 ∧ overP (setG G 6 0 (G 6 0 - 1)) 0 (G 6 (G 6 0 + 9)) G2) ∧ A = setG G2 21 0 (wI a)) ∨ (k = 1 ∧ A = G ∧ ¬ (1 ≤ G 6 0))) : ∀ x y : Int, 11 ≤ x → x ≤ 20 → A x y = G x y := fun x y h0 h1 => by
  rcases h with ⟨-, a, G2, ⟨-, -, hG2⟩, hA⟩ | ⟨-, hA, -⟩
  · rw [hA, setG_ne (by omega), overP_out hG2 (by omega), setG_ne (by omega)]
  · rw [hA]
theorem k_carry {G A : GG} {a : Int} (r : relR G) (h : ((erL 100 (stR G) 7 7) ≠ -1 ∧ a = -10 - (erL 100 (stR G) 7 7) ∧ A = (erL 100 (stR G))) ∨ ((erL 100 (stR G) 7 7) = -1 ∧ ∃ H, saveP (erL 100 (stR G)) H ∧ coP 100 (stR H) a A)) : ∀ x y : Int, 11 ≤ x → x ≤ 20 → A x y = G x y := fun x y h0 h1 => by
  rcases h with ⟨-, -, hA⟩ | ⟨-, S, s, hco⟩
  · rw [hA]
    exact (er_ne (by omega) 100 _).trans (stR_ne (by omega))
  · have v : okV (erL 100 (stR G)) := by
      have e : ∀ y, erL 100 (stR G) 6 y = G 6 y := fun y => (er_ne (by omega) 100 _).trans (stR_ne (by omega))
      unfold okV
      rw [e, e, e, e, e]
      exact r.2.2.1
    rw [coP_ne (by omega) 100 hco, stR_ne (by omega), saveP_ne v s (by omega)]
    exact (er_ne (by omega) 100 _).trans (stR_ne (by omega))
/-- what the reference's contracts ask -/
theorem aOk {G A : GG} (r : relR G) (k : ∀ x y : Int, 11 ≤ x → x ≤ 20 → A x y = G x y) : okN12 A ∧ okH (A 12) ∧ okP A 12 ∧ okMR A ∧ okX A ∧ (0 ≤ A 11 4 ∧ A 11 4 ≤ 4) ∧ (0 ≤ A 12 10 ∧ A 12 10 ≤ 100000) ∧ (∀ k : Int, 0 ≤ k → k < 4 → 0 ≤ A 12 (5 + k) ∧ A 12 (5 + k) ≤ 30) ∧ (0 ≤ A 12 13 ∧ A 12 13 ≤ 8) ∧ (0 ≤ A 12 14 ∧ A 12 14 ≤ 200) ∧ (0 ≤ A 11 6 ∧ A 11 6 ≤ 100) := by
  have e12 : A 12 = G 12 := funext fun y => k 12 y (by omega) (by omega)
  have oN : okN12 A := okN12_of (i := 12) (H := sh G) (relR_12 r) (fun y hy => by rw [sh_ne (by omega), e12])
  have oX : okX A := okX_congr (k 11 6 (by omega) (by omega)) (fun y => k 16 y (by omega) (by omega)) (relR_X r)
  have oH := okN12_H oN
  have oP := okN12_P oN
  exact ⟨oN, oH, oP, okN12_R oN, oX, by rw [k 11 4 (by omega) (by omega)]; exact relR_4 r, by rw [e12]; exact relR_10 r, oP.2.2, oH.2.1, oP.1, oX.1⟩
theorem k_tube {G A : GG} {t k : Int} (r : relR G) (h : (k = 0 ∧ ∃ a G2, ((0 ≤ t ∧ t ≤ 3) ∧ a = G 0 (5 + t) ∧ G2 = G) ∧ A = setG G2 21 0 (wI a)) ∨ (k = 1 ∧ A = G ∧ ¬ (0 ≤ t ∧ t ≤ 3))) : ∀ x y : Int, 11 ≤ x → x ≤ 20 → A x y = G x y := fun x y h0 h1 => by
  rcases h with ⟨-, a, G2, ⟨-, -, hG2⟩, hA⟩ | ⟨-, hA, -⟩
  · rw [hA, setG_ne (by omega), hG2]
  · rw [hA]
theorem f_tube {G A B : GG} {t k r2 : Int} (r : relR G) (h : (k = 0 ∧ ∃ a G2, ((0 ≤ t ∧ t ≤ 3) ∧ a = G 0 (5 + t) ∧ G2 = G) ∧ A = setG G2 21 0 (wI a)) ∨ (k = 1 ∧ A = G ∧ ¬ (0 ≤ t ∧ t ≤ 3))) (q : quiet A B ∧ ((¬ (0 ≤ t ∧ t ≤ 3) ∧ B 11 7 = 1) ∨ ((0 ≤ t ∧ t ≤ 3) ∧ B 11 7 = 0 ∧ r2 = A 12 (5 + t)))) : fits k r2 B := by
  have o8 := r.1.1.2.1
  have o14 := r.1.2.1.1
  have e := r.2.2.2.2.1
  have ak := k_tube r h
  have e12 : A 12 = G 12 := funext fun y => ak 12 y (by omega) (by omega)

  refine f_ask1 (ok := (0 ≤ t ∧ t ≤ 3)) (v := G 0 (5 + t)) (v2 := A 12 (5 + t)) r ?_ (fun hc => by rw [e12]; exact e.1 _ (by omega) (by omega)) q
  rcases h with ⟨hk, a, G2, ⟨hc, ha, hG2⟩, hA⟩ | h
  · exact Or.inl ⟨hk, a, G2, ⟨hc, ha, by rw [hG2]; exact fr0_rf⟩, hA⟩
  · exact Or.inr h
theorem k_value {G A : GG} {w k : Int} (r : relR G) (h : (k = 0 ∧ ∃ a G2, ((0 ≤ w ∧ w ≤ 10) ∧ a = numF (G 0) w ∧ G2 = G) ∧ A = setG G2 21 0 (wI a)) ∨ (k = 1 ∧ A = G ∧ ¬ (0 ≤ w ∧ w ≤ 10))) : ∀ x y : Int, 11 ≤ x → x ≤ 20 → A x y = G x y := fun x y h0 h1 => by
  rcases h with ⟨-, a, G2, ⟨-, -, hG2⟩, hA⟩ | ⟨-, hA, -⟩
  · rw [hA, setG_ne (by omega), hG2]
  · rw [hA]
theorem f_value {G A B : GG} {w k r2 : Int} (r : relR G) (h : (k = 0 ∧ ∃ a G2, ((0 ≤ w ∧ w ≤ 10) ∧ a = numF (G 0) w ∧ G2 = G) ∧ A = setG G2 21 0 (wI a)) ∨ (k = 1 ∧ A = G ∧ ¬ (0 ≤ w ∧ w ≤ 10))) (q : quiet A B ∧ ((¬ (0 ≤ w ∧ w ≤ 10) ∧ B 11 7 = 1) ∨ ((0 ≤ w ∧ w ≤ 10) ∧ B 11 7 = 0 ∧ r2 = numM A w))) : fits k r2 B := by
  have o8 := r.1.1.2.1
  have o14 := r.1.2.1.1
  have e := r.2.2.2.2.1
  have ak := k_value r h
  have e12 : A 12 = G 12 := funext fun y => ak 12 y (by omega) (by omega)

  refine f_ask1 (ok := (0 ≤ w ∧ w ≤ 10)) (v := numF (G 0) w) (v2 := numM A w) r ?_ (fun hc => by rw [numM_row e12]; exact num_rel r.1 e) q
  rcases h with ⟨hk, a, G2, ⟨hc, ha, hG2⟩, hA⟩ | h
  · exact Or.inl ⟨hk, a, G2, ⟨hc, ha, by rw [hG2]; exact fr0_rf⟩, hA⟩
  · exact Or.inr h
theorem k_setting {G A : GG} {w k : Int} (r : relR G) (h : (k = 0 ∧ ∃ a G2, ((0 ≤ w ∧ w ≤ 4) ∧ a = G 0 w ∧ G2 = G) ∧ A = setG G2 21 0 (wI a)) ∨ (k = 1 ∧ A = G ∧ ¬ (0 ≤ w ∧ w ≤ 4))) : ∀ x y : Int, 11 ≤ x → x ≤ 20 → A x y = G x y := fun x y h0 h1 => by
  rcases h with ⟨-, a, G2, ⟨-, -, hG2⟩, hA⟩ | ⟨-, hA, -⟩
  · rw [hA, setG_ne (by omega), hG2]
  · rw [hA]
theorem f_setting {G A B : GG} {w k r2 : Int} (r : relR G) (h : (k = 0 ∧ ∃ a G2, ((0 ≤ w ∧ w ≤ 4) ∧ a = G 0 w ∧ G2 = G) ∧ A = setG G2 21 0 (wI a)) ∨ (k = 1 ∧ A = G ∧ ¬ (0 ≤ w ∧ w ≤ 4))) (q : quiet A B ∧ ((¬ (0 ≤ w ∧ w ≤ 4) ∧ B 11 7 = 1) ∨ ((0 ≤ w ∧ w ≤ 4) ∧ B 11 7 = 0 ∧ r2 = A 12 w))) : fits k r2 B := by
  have o8 := r.1.1.2.1
  have o14 := r.1.2.1.1
  have e := r.2.2.2.2.1
  have ak := k_setting r h
  have e12 : A 12 = G 12 := funext fun y => ak 12 y (by omega) (by omega)

  refine f_ask1 (ok := (0 ≤ w ∧ w ≤ 4)) (v := G 0 w) (v2 := A 12 w) r ?_ (fun hc => by rw [e12]; exact e.1 _ (by omega) (by omega)) q
  rcases h with ⟨hk, a, G2, ⟨hc, ha, hG2⟩, hA⟩ | h
  · exact Or.inl ⟨hk, a, G2, ⟨hc, ha, by rw [hG2]; exact fr0_rf⟩, hA⟩
  · exact Or.inr h
theorem k_promise {G A : GG} {p k : Int} (r : relR G) (h : (k = 0 ∧ ∃ a G2, ((0 ≤ p ∧ p ≤ G 0 14 - 1) ∧ a = G 0 (111 + p) ∧ G2 = G) ∧ A = setG G2 21 0 (wI a)) ∨ (k = 1 ∧ A = G ∧ ¬ (0 ≤ p ∧ p ≤ G 0 14 - 1))) : ∀ x y : Int, 11 ≤ x → x ≤ 20 → A x y = G x y := fun x y h0 h1 => by
  rcases h with ⟨-, a, G2, ⟨-, -, hG2⟩, hA⟩ | ⟨-, hA, -⟩
  · rw [hA, setG_ne (by omega), hG2]
  · rw [hA]
theorem f_promise {G A B : GG} {p k r2 : Int} (r : relR G) (h : (k = 0 ∧ ∃ a G2, ((0 ≤ p ∧ p ≤ G 0 14 - 1) ∧ a = G 0 (111 + p) ∧ G2 = G) ∧ A = setG G2 21 0 (wI a)) ∨ (k = 1 ∧ A = G ∧ ¬ (0 ≤ p ∧ p ≤ G 0 14 - 1))) (q : quiet A B ∧ ((¬ (0 ≤ p ∧ p ≤ A 12 14 - 1) ∧ B 11 7 = 1) ∨ ((0 ≤ p ∧ p ≤ A 12 14 - 1) ∧ B 11 7 = 0 ∧ r2 = A 12 (111 + p)))) : fits k r2 B := by
  have o8 := r.1.1.2.1
  have o14 := r.1.2.1.1
  have e := r.2.2.2.2.1
  have ak := k_promise r h
  have e12 : A 12 = G 12 := funext fun y => ak 12 y (by omega) (by omega)
  rw [e12, e.1 14 (by omega) (by omega)] at q
  refine f_ask1 (ok := (0 ≤ p ∧ p ≤ G 0 14 - 1)) (v := G 0 (111 + p)) (v2 := G 12 (111 + p)) r ?_ (fun hc => e.2.1 p hc.1 (by omega)) q
  rcases h with ⟨hk, a, G2, ⟨hc, ha, hG2⟩, hA⟩ | h
  · exact Or.inl ⟨hk, a, G2, ⟨hc, ha, by rw [hG2]; exact fr0_rf⟩, hA⟩
  · exact Or.inr h
theorem k_most {G A : GG} {b k : Int} (r : relR G) (h : (k = 0 ∧ ∃ a G2, ((0 ≤ b ∧ b ≤ 2000) ∧ a = mpF (G 0 5) (G 0 6) (G 0 7) (G 0 8) (b / 5).toNat ∧ sameB (scr 0) G G2) ∧ A = setG G2 21 0 (wI a)) ∨ (k = 1 ∧ A = G ∧ ¬ (0 ≤ b ∧ b ≤ 2000))) : ∀ x y : Int, 11 ≤ x → x ≤ 20 → A x y = G x y := fun x y h0 h1 => by
  rcases h with ⟨-, a, G2, ⟨-, -, hG2⟩, hA⟩ | ⟨-, hA, -⟩
  · rw [hA, setG_ne (by omega), hG2 x y (by omega)]
  · rw [hA]
theorem f_most {G A B : GG} {b k r2 : Int} (r : relR G) (h : (k = 0 ∧ ∃ a G2, ((0 ≤ b ∧ b ≤ 2000) ∧ a = mpF (G 0 5) (G 0 6) (G 0 7) (G 0 8) (b / 5).toNat ∧ sameB (scr 0) G G2) ∧ A = setG G2 21 0 (wI a)) ∨ (k = 1 ∧ A = G ∧ ¬ (0 ≤ b ∧ b ≤ 2000))) (q : quiet A B ∧ ((¬ (0 ≤ b ∧ b ≤ 2000) ∧ B 11 7 = 1) ∨ ((0 ≤ b ∧ b ≤ 2000) ∧ B 11 7 = 0 ∧ r2 = mpF (A 12 5) (A 12 6) (A 12 7) (A 12 8) (b / 5).toNat))) : fits k r2 B := by
  have o8 := r.1.1.2.1
  have o14 := r.1.2.1.1
  have e := r.2.2.2.2.1
  have ak := k_most r h
  have e12 : A 12 = G 12 := funext fun y => ak 12 y (by omega) (by omega)

  refine f_ask1 (ok := (0 ≤ b ∧ b ≤ 2000)) (v := mpF (G 0 5) (G 0 6) (G 0 7) (G 0 8) (b / 5).toNat) (v2 := mpF (A 12 5) (A 12 6) (A 12 7) (A 12 8) (b / 5).toNat) r ?_ (fun hc => by rw [e12, e.1 5 (by omega) (by omega), e.1 6 (by omega) (by omega), e.1 7 (by omega) (by omega), e.1 8 (by omega) (by omega)]) q
  rcases h with ⟨hk, a, G2, ⟨hc, ha, hG2⟩, hA⟩ | h
  · exact Or.inl ⟨hk, a, G2, ⟨hc, ha, fr0_scr hG2⟩, hA⟩
  · exact Or.inr h
theorem k_coinFor {G A : GG} {b k : Int} (r : relR G) (h : (k = 0 ∧ ∃ a G2, ((0 ≤ b ∧ b ≤ 2000) ∧ a = cfF (G 0 5) (G 0 6) (G 0 7) (G 0 8) b ∧ sameB (scr 0) G G2) ∧ A = setG G2 21 0 (wI a)) ∨ (k = 1 ∧ A = G ∧ ¬ (0 ≤ b ∧ b ≤ 2000))) : ∀ x y : Int, 11 ≤ x → x ≤ 20 → A x y = G x y := fun x y h0 h1 => by
  rcases h with ⟨-, a, G2, ⟨-, -, hG2⟩, hA⟩ | ⟨-, hA, -⟩
  · rw [hA, setG_ne (by omega), hG2 x y (by omega)]
  · rw [hA]
theorem f_coinFor {G A B : GG} {b k r2 : Int} (r : relR G) (h : (k = 0 ∧ ∃ a G2, ((0 ≤ b ∧ b ≤ 2000) ∧ a = cfF (G 0 5) (G 0 6) (G 0 7) (G 0 8) b ∧ sameB (scr 0) G G2) ∧ A = setG G2 21 0 (wI a)) ∨ (k = 1 ∧ A = G ∧ ¬ (0 ≤ b ∧ b ≤ 2000))) (q : quiet A B ∧ ((¬ (0 ≤ b ∧ b ≤ 2000) ∧ B 11 7 = 1) ∨ ((0 ≤ b ∧ b ≤ 2000) ∧ B 11 7 = 0 ∧ r2 = cfF (A 12 5) (A 12 6) (A 12 7) (A 12 8) b))) : fits k r2 B := by
  have o8 := r.1.1.2.1
  have o14 := r.1.2.1.1
  have e := r.2.2.2.2.1
  have ak := k_coinFor r h
  have e12 : A 12 = G 12 := funext fun y => ak 12 y (by omega) (by omega)

  refine f_ask1 (ok := (0 ≤ b ∧ b ≤ 2000)) (v := cfF (G 0 5) (G 0 6) (G 0 7) (G 0 8) b) (v2 := cfF (A 12 5) (A 12 6) (A 12 7) (A 12 8) b) r ?_ (fun hc => by rw [e12, e.1 5 (by omega) (by omega), e.1 6 (by omega) (by omega), e.1 7 (by omega) (by omega), e.1 8 (by omega) (by omega)]) q
  rcases h with ⟨hk, a, G2, ⟨hc, ha, hG2⟩, hA⟩ | h
  · exact Or.inl ⟨hk, a, G2, ⟨hc, ha, fr0_scr hG2⟩, hA⟩
  · exact Or.inr h
theorem k_change {G A : GG} {b t k : Int} (r : relR G) (h : (k = 0 ∧ ∃ a G2, (((0 ≤ b ∧ b ≤ 2000) ∧ (0 ≤ t ∧ t ≤ 3)) ∧ a = chF (G 0 5) (G 0 6) (G 0 7) (G 0 8) b t ∧ sameB (scr 0) G G2) ∧ A = setG G2 21 0 (wI a)) ∨ (k = 1 ∧ A = G ∧ ¬ (0 ≤ b ∧ b ≤ 2000)) ∨ (k = 2 ∧ A = G ∧ (0 ≤ b ∧ b ≤ 2000) ∧ ¬ (0 ≤ t ∧ t ≤ 3))) : ∀ x y : Int, 11 ≤ x → x ≤ 20 → A x y = G x y := fun x y h0 h1 => by
  rcases h with ⟨-, a, G2, ⟨-, -, hG2⟩, hA⟩ | ⟨-, hA, -⟩ | ⟨-, hA, -⟩
  · rw [hA, setG_ne (by omega), hG2 x y (by omega)]
  · rw [hA]
  · rw [hA]
theorem f_change {G A B : GG} {b t k r2 : Int} (r : relR G) (h : (k = 0 ∧ ∃ a G2, (((0 ≤ b ∧ b ≤ 2000) ∧ (0 ≤ t ∧ t ≤ 3)) ∧ a = chF (G 0 5) (G 0 6) (G 0 7) (G 0 8) b t ∧ sameB (scr 0) G G2) ∧ A = setG G2 21 0 (wI a)) ∨ (k = 1 ∧ A = G ∧ ¬ (0 ≤ b ∧ b ≤ 2000)) ∨ (k = 2 ∧ A = G ∧ (0 ≤ b ∧ b ≤ 2000) ∧ ¬ (0 ≤ t ∧ t ≤ 3))) (q : quiet A B ∧ ((¬ (0 ≤ b ∧ b ≤ 2000) ∧ B 11 7 = 1) ∨ ((0 ≤ b ∧ b ≤ 2000) ∧ ¬ (0 ≤ t ∧ t ≤ 3) ∧ B 11 7 = 2) ∨ (((0 ≤ b ∧ b ≤ 2000) ∧ (0 ≤ t ∧ t ≤ 3)) ∧ B 11 7 = 0 ∧ r2 = chF (A 12 5) (A 12 6) (A 12 7) (A 12 8) b t))) : fits k r2 B := by
  have o8 := r.1.1.2.1
  have e := r.2.2.2.2.1
  have ak := k_change r h
  have e12 : A 12 = G 12 := funext fun y => ak 12 y (by omega) (by omega)
  refine f_ask2 (v := chF (G 0 5) (G 0 6) (G 0 7) (G 0 8) b t) (v2 := chF (A 12 5) (A 12 6) (A 12 7) (A 12 8) b t) r ?_ (fun _ _ => by rw [e12, e.1 5 (by omega) (by omega), e.1 6 (by omega) (by omega), e.1 7 (by omega) (by omega), e.1 8 (by omega) (by omega)]) q
  rcases h with ⟨hk, a, G2, ⟨hc, ha, hG2⟩, hA⟩ | ⟨hk, hA, hc⟩ | ⟨hk, hA, hc1, hc⟩
  · exact Or.inl ⟨hk, a, G2, ⟨hc, ha, fr0_scr hG2⟩, hA⟩
  · exact Or.inr (Or.inl ⟨hk, by rw [hA]; exact fr0_id, hc⟩)
  · exact Or.inr (Or.inr ⟨hk, by rw [hA]; exact fr0_id, hc1, hc⟩)
theorem k_priceIn {G A : GG} {c n k : Int} (r : relR G) (h : (k = 0 ∧ ∃ a G2, (((0 ≤ c ∧ c < G 0 13) ∧ (0 ≤ n ∧ n ≤ 48)) ∧ ∃ K, overP G 1 0 K ∧ a = hoursR (K 1) n.toNat (15 + 12 * c + 2) ∧ G2 = onR K 1 (hoursR (K 1) n.toNat)) ∧ A = setG G2 21 0 (wI a)) ∨ (k = 1 ∧ A = G ∧ ¬ (0 ≤ c ∧ c < G 0 13)) ∨ (k = 2 ∧ A = G ∧ (0 ≤ c ∧ c < G 0 13) ∧ ¬ (0 ≤ n ∧ n ≤ 48))) : ∀ x y : Int, 11 ≤ x → x ≤ 20 → A x y = G x y := fun x y h0 h1 => by
  rcases h with ⟨-, a, G2, ⟨-, K, ho, -, hG2⟩, hA⟩ | ⟨-, hA, -⟩ | ⟨-, hA, -⟩
  · rw [hA, setG_ne (by omega), hG2, onR_ne (by omega), overP_out ho (by omega)]
  · rw [hA]
  · rw [hA]
theorem f_priceIn {G A B : GG} {c n k r2 : Int} (r : relR G) (h : (k = 0 ∧ ∃ a G2, (((0 ≤ c ∧ c < G 0 13) ∧ (0 ≤ n ∧ n ≤ 48)) ∧ ∃ K, overP G 1 0 K ∧ a = hoursR (K 1) n.toNat (15 + 12 * c + 2) ∧ G2 = onR K 1 (hoursR (K 1) n.toNat)) ∧ A = setG G2 21 0 (wI a)) ∨ (k = 1 ∧ A = G ∧ ¬ (0 ≤ c ∧ c < G 0 13)) ∨ (k = 2 ∧ A = G ∧ (0 ≤ c ∧ c < G 0 13) ∧ ¬ (0 ≤ n ∧ n ≤ 48))) (q : quiet A B ∧ ((¬ (0 ≤ c ∧ c < A 12 13) ∧ B 11 7 = 1) ∨ ((0 ≤ c ∧ c < A 12 13) ∧ ¬ (0 ≤ n ∧ n ≤ 48) ∧ B 11 7 = 2) ∨ (((0 ≤ c ∧ c < A 12 13) ∧ (0 ≤ n ∧ n ≤ 48)) ∧ B 11 7 = 0 ∧ r2 = hoursR (A 12) n.toNat (15 + 12 * c + 2)))) : fits k r2 B := by
  have o8 := r.1.1.2.1
  have e := r.2.2.2.2.1
  have ak := k_priceIn r h
  have e12 : A 12 = G 12 := funext fun y => ak 12 y (by omega) (by omega)
  rw [e12, e.1 13 (by omega) (by omega)] at q
  have hz := hoursR_dom r.1.1 e.1 n.toNat
  rcases h with ⟨hk, a, G2, ⟨hc, K, ho, ha, hG2⟩, hA⟩ | ⟨hk, hA, hc⟩ | ⟨hk, hA, hc1, hc⟩
  · refine f_ask2 (v := hoursR (K 1) n.toNat (15 + 12 * c + 2)) r (Or.inl ⟨hk, a, G2, ⟨hc, ha, ?_⟩, hA⟩) (fun _ _ => ?_) q
    · rw [hG2]
      exact ⟨fun y _ _ => by rw [setG_ne (by omega), onR_ne (by omega), overP_out ho (by omega)], fun x y _ _ => by rw [setG_ne (by omega), onR_ne (by omega), overP_out ho (by omega)], fun x y _ _ => by rw [setG_ne (by omega), onR_ne (by omega), overP_out ho (by omega)]⟩
    · have eK := rowE_over r.1 ho e
      have oK : okH (K 1) := okH_over ho r.1.1
      have k13 : K 1 13 = G 0 13 := ho.1 13 (by omega) (by omega)
      exact hoursR_dom oK eK.1 n.toNat (15 + 12 * c + 2) (by omega) (by omega)
  · exact f_ask2 (v := hoursR (G 12) n.toNat (15 + 12 * c + 2)) r (Or.inr (Or.inl ⟨hk, by rw [hA]; exact fr0_id, hc⟩)) (fun _ _ => rfl) q
  · exact f_ask2 (v := hoursR (G 12) n.toNat (15 + 12 * c + 2)) r (Or.inr (Or.inr ⟨hk, by rw [hA]; exact fr0_id, hc1, hc⟩)) (fun _ _ => rfl) q
theorem salesP_ne {i c x y : Int} (hx : x ≠ i) : ∀ (n : Nat) {G G1 : GG} {r : Int}, salesP i c n G r G1 → G1 x y = G x y
  | 0, G, G1, r, h => by rw [h.2]
  | n + 1, G, G1, r, h => by
    rcases h with ⟨-, -, hG⟩ | ⟨-, K, H, z, hs, hl, hr⟩
    · exact hG x y (fun q => hx q.1)
    · rw [salesP_ne hx n hr, sell_ne (x := x) (y := y) hl (fun q => hx q.1) (fun q => hx q.1)]
      exact hs x y (fun q => hx q.1)
theorem k_sales {G A : GG} {c b d k : Int} (r : relR G) (h : (k = 0 ∧ ∃ a G2, (((0 ≤ c ∧ c < G 0 13) ∧ ((0 ≤ b ∧ b ≤ 9) ∧ (0 ≤ d ∧ d ≤ 9))) ∧ ∃ K2, overP (cinG G 0 b 0 d) 1 0 K2 ∧ salesP 1 c 20 K2 a G2) ∧ A = setG G2 21 0 (wI a)) ∨ (k = 1 ∧ A = G ∧ ¬ (0 ≤ c ∧ c < G 0 13)) ∨ (k = 2 ∧ A = cinG G 0 b 0 d ∧ (0 ≤ c ∧ c < G 0 13) ∧ ¬ ((0 ≤ b ∧ b ≤ 9) ∧ (0 ≤ d ∧ d ≤ 9)))) : ∀ x y : Int, 11 ≤ x → x ≤ 20 → A x y = G x y := fun x y h0 h1 => by
  rcases h with ⟨-, a, G2, ⟨-, K, ho, hs⟩, hA⟩ | ⟨-, hA, -⟩ | ⟨-, hA, -⟩
  · rw [hA, setG_ne (by omega), salesP_ne (by omega) 20 hs, overP_out ho (by omega), cinG_ne (by omega)]
  · rw [hA]
  · rw [hA, cinG_ne (by omega)]
theorem f_sales {G A B : GG} {c b d k r2 : Int} (r : relR G) (h : (k = 0 ∧ ∃ a G2, (((0 ≤ c ∧ c < G 0 13) ∧ ((0 ≤ b ∧ b ≤ 9) ∧ (0 ≤ d ∧ d ≤ 9))) ∧ ∃ K2, overP (cinG G 0 b 0 d) 1 0 K2 ∧ salesP 1 c 20 K2 a G2) ∧ A = setG G2 21 0 (wI a)) ∨ (k = 1 ∧ A = G ∧ ¬ (0 ≤ c ∧ c < G 0 13)) ∨ (k = 2 ∧ A = cinG G 0 b 0 d ∧ (0 ≤ c ∧ c < G 0 13) ∧ ¬ ((0 ≤ b ∧ b ≤ 9) ∧ (0 ≤ d ∧ d ≤ 9)))) (q : quiet A B ∧ ((¬ (0 ≤ c ∧ c < A 12 13) ∧ B 11 7 = 1) ∨ ((0 ≤ c ∧ c < A 12 13) ∧ ¬ ((0 ≤ b ∧ b ≤ 9) ∧ (0 ≤ d ∧ d ≤ 9)) ∧ B 11 7 = 2) ∨ (((0 ≤ c ∧ c < A 12 13) ∧ ((0 ≤ b ∧ b ≤ 9) ∧ (0 ≤ d ∧ d ≤ 9))) ∧ B 11 7 = 0 ∧ ∃ K0, (∀ y, K0 12 y = A 12 y) ∧ (K0 18 0 = 0 ∧ K0 18 1 = b ∧ K0 18 2 = 0 ∧ K0 18 3 = d) ∧ rowM c 21 K0 r2))) : fits k r2 B := by
  have o8 := r.1.1.2.1
  have e := r.2.2.2.2.1
  have ak := k_sales r h
  have e12 : A 12 = G 12 := funext fun y => ak 12 y (by omega) (by omega)
  rw [e12, e.1 13 (by omega) (by omega)] at q
  obtain ⟨qq, q⟩ := q
  rcases h with ⟨hk, a, G2, ⟨hc, K, ho, hs⟩, hA⟩ | ⟨hk, hA, hc⟩ | ⟨hk, hA, hc1, hc⟩
  · rcases q with ⟨z, -⟩ | ⟨-, z, -⟩ | ⟨-, q7, K0, z12, zc, zr⟩
    · exact absurd hc.1 z
    · exact absurd hc.2 z
    · have c0 : ∀ y, cinG G 0 b 0 d 0 y = G 0 y := fun y => cinG_ne (by omega)
      have oc : okN (cinG G 0 b 0 d) 0 := okN_congr2 r.1 (fun y _ _ => c0 y)
      have eK0 : rowE (cinG G 0 b 0 d 0) (K0 12) := by
        rw [show cinG G 0 b 0 d 0 = G 0 from funext c0, show K0 12 = G 12 from funext z12]
        exact e
      have eK := rowE_over oc ho eK0
      have oK := okN_over ho oc
      have k13 : K 1 13 = G 0 13 := (ho.1 13 (by omega) (by omega)).trans (c0 13)
      have p10 : ∀ y, K 10 y = cinG G 0 b 0 d 10 y := fun y => overP_out ho (by omega)
      have hp : coE K K0 10 := by
        show K0 18 0 = K 10 0 ∧ K0 18 1 = K 10 1 ∧ K0 18 2 = K 10 2 ∧ K0 18 3 = K 10 3
        rw [p10, p10, p10, p10, cinG_0, cinG_1, cinG_2, cinG_3]
        exact zc
      have hco : ∀ k : Int, 0 ≤ k → k < 4 → 0 ≤ K 10 k ∧ K 10 k ≤ 9 := fun j j0 j1 => by
        have hj : j = 0 ∨ j = 1 ∨ j = 2 ∨ j = 3 := by omega
        rw [p10]
        rcases hj with rfl | rfl | rfl | rfl
        · rw [cinG_0]; omega
        · rw [cinG_1]; exact hc.2.1
        · rw [cinG_2]; omega
        · rw [cinG_3]; exact hc.2.2
      have st := (oK.1.2.2 c hc.1.1 (by omega)).1
      have z := row_rel 20 oK (by omega) (by omega) hco eK hp (by omega) hs zr
      have f : fr0 G A := by
        rw [hA]
        exact ⟨fun y _ _ => by rw [setG_ne (by omega), salesP_ne (by omega) 20 hs, overP_out ho (by omega), cinG_ne (by omega)], fun x y _ _ => by rw [setG_ne (by omega), salesP_ne (by omega) 20 hs, overP_out ho (by omega), cinG_ne (by omega)], fun x y _ _ => by rw [setG_ne (by omega), salesP_ne (by omega) 20 hs, overP_out ho (by omega), cinG_ne (by omega)]⟩
      exact quiet_fit r f qq (q7.trans hk.symm) (fun _ => by rw [hA, setG_same, z])
  · rcases q with ⟨-, q7⟩ | ⟨z, -⟩ | ⟨z, -⟩
    · subst hA
      exact quiet_fit r fr0_id qq (q7.trans hk.symm) (fun z => by omega)
    · exact absurd z hc
    · exact absurd z.1 hc
  · rcases q with ⟨z, -⟩ | ⟨-, -, q7⟩ | ⟨z, -⟩
    · exact absurd hc1 z
    · have f : fr0 G A := by
        rw [hA]
        exact ⟨fun y _ _ => cinG_ne (by omega), fun x y _ _ => cinG_ne (by omega), fun x y _ _ => cinG_ne (by omega)⟩
      exact quiet_fit r f qq (q7.trans hk.symm) (fun z => by omega)
    · exact absurd z.2 hc
theorem k_demand {G A : GG} {c k : Int} (r : relR G) (h : (k = 0 ∧ ∃ (a : UInt32) (G2 : GG), ((0 ≤ c ∧ c < G 0 13) ∧ a = fB (G 0 (15 + 12 * c + 10)) ∧ G2 = G) ∧ A = setG G2 22 0 ((FP.f2d a).toNat : Int)) ∨ (k = 1 ∧ A = G ∧ ¬ (0 ≤ c ∧ c < G 0 13))) : ∀ x y : Int, 11 ≤ x → x ≤ 20 → A x y = G x y := fun x y h0 h1 => by
  rcases h with ⟨-, a, G2, ⟨-, -, hG2⟩, hA⟩ | ⟨-, hA, -⟩
  · rw [hA, setG_ne (by omega), hG2]
  · rw [hA]
theorem f_demand {G A B : GG} {c k : Int} {r2 : UInt32} (r : relR G) (h : (k = 0 ∧ ∃ (a : UInt32) (G2 : GG), ((0 ≤ c ∧ c < G 0 13) ∧ a = fB (G 0 (15 + 12 * c + 10)) ∧ G2 = G) ∧ A = setG G2 22 0 ((FP.f2d a).toNat : Int)) ∨ (k = 1 ∧ A = G ∧ ¬ (0 ≤ c ∧ c < G 0 13))) (q : quiet A B ∧ ((¬ (0 ≤ c ∧ c < A 12 13) ∧ B 11 7 = 1) ∨ ((0 ≤ c ∧ c < A 12 13) ∧ B 11 7 = 0 ∧ r2 = fB (A 12 (15 + 12 * c + 10))))) : B 11 7 = k ∧ (k = 0 → (∃ w, okW w ∧ r2 = fB w) ∧ B 22 0 = ((FP.f2d r2).toNat : Int)) ∧ relR B := by
  have o8 := r.1.1.2.1
  have e := r.2.2.2.2.1
  have ak := k_demand r h
  have e12 : A 12 = G 12 := funext fun y => ak 12 y (by omega) (by omega)
  rw [e12, e.1 13 (by omega) (by omega)] at q
  obtain ⟨qq, q⟩ := q
  rcases h with ⟨hk, a, G2, ⟨hc, ha, hG2⟩, hA⟩ | ⟨hk, hA, hc⟩
  · rcases q with ⟨z, -⟩ | ⟨-, q7, qr⟩
    · exact absurd hc z
    · have f : fr0 G A := by
        rw [hA, hG2]
        exact ⟨fun y _ _ => setG_ne (by omega), fun x y _ _ => setG_ne (by omega), fun x y _ _ => setG_ne (by omega)⟩
      have eg := e.1 (15 + 12 * c + 10) (by omega) (by omega)
      have ow : okW (G 0 (15 + 12 * c + 10)) := (r.1.1.2.2 c hc.1 hc.2).2.2.2.2.2.2.2.1
      refine ⟨q7.trans hk.symm, fun _ => ⟨⟨G 0 (15 + 12 * c + 10), ow, by rw [qr, eg]⟩, ?_⟩, quiet_R (fr0_R r f) qq⟩
      rw [qq.2 22 0 (by omega), hA, setG_same, ha, qr, eg]
  · rcases q with ⟨-, q7⟩ | ⟨z, -⟩
    · subst hA
      exact ⟨q7.trans hk.symm, fun z => by omega, quiet_R r qq⟩
    · exact absurd z hc
theorem f_favorite {G B : GG} {r2 : Int} (r : relR G) (hneg : ∀ x, okW x → ¬ fcl (fB x) 3212836864 ≤ 0) (q : quiet G B ∧ B 11 7 = 0 ∧ r2 = fvM (G 12) (G 12 13).toNat) : r2 = (fvF (G 0) (G 0 13).toNat).1 ∧ relR B := by
  have o8 := r.1.1.2.1
  have e := r.2.2.2.2.1
  refine ⟨?_, quiet_R r q.1⟩
  rw [q.2.2, e.1 13 (by omega) (by omega)]
  exact (fv_rel (fun d d0 d1 => (r.1.1.2.2 d d0 d1).2.2.2.2.2.2.2.1) e.1 hneg (G 0 13).toNat (by omega)).1
theorem f_digest {G B : GG} {a r2 : Int} (r : relR G) (h : a = dgF (numF (G 0)) (G 0) (G 7 1) (G 6 0)) (q : r2 = dgF (numM G) (G 12) (G 11 6) (G 11 4) ∧ quiet G B ∧ B 11 7 = 0) : a = r2 ∧ relR B := by
  refine ⟨?_, quiet_R r q.2.1⟩
  rw [h, q.1, r.2.2.2.2.2.2.1, r.2.2.2.2.2.1.1, digest_rel r.1 r.2.2.2.2.1]
