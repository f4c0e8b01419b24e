abbrev Row : Type := Int → Int
def up (g : Row) (y v : Int) : Row := fun z => if z = y then v else g z
theorem up_s (g : Row) (y v : Int) : up g y v y = v := if_pos rfl
theorem up_n {g : Row} {y v z : Int} (h : z ≠ y) : up g y v z = g z := if_neg h
def onR (G : GG) (i : Int) (h : Row) : GG := fun x y => if x = i then h y else G x y
theorem onR_at (G : GG) (i : Int) (h : Row) : onR G i h i = h := funext fun _ => if_pos rfl
theorem onR_ne {G : GG} {i x y : Int} {h : Row} (n : x ≠ i) : onR G i h x y = G x y := if_neg n
theorem onR_onR (G : GG) (i : Int) (h k : Row) : onR (onR G i h) i k = onR G i k := by
  funext x y
  unfold onR
  by_cases z : x = i
  · rw [if_pos z, if_pos z]
  · rw [if_neg z, if_neg z, if_neg z]
theorem onR_id (G : GG) (i : Int) : onR G i (G i) = G := by
  funext x y
  unfold onR
  by_cases z : x = i
  · rw [if_pos z, z]
  · rw [if_neg z]
theorem setG_row (G : GG) (i y v : Int) : setG G i y v = onR G i (up (G i) y v) := by
  funext x z
  unfold setG onR up
  by_cases h : x = i
  · by_cases h2 : z = y
    · rw [if_pos ⟨h, h2⟩, if_pos h, if_pos h2]
    · rw [if_neg (fun q => h2 q.2), if_pos h, if_neg h2, h]
  · rw [if_neg (fun q => h q.1), if_neg h]
theorem setG_onR (G : GG) (i y v : Int) (h : Row) : setG (onR G i h) i y v = onR G i (up h y v) := by rw [setG_row, onR_at, onR_onR]
def foldR (f : Row → Int → Row) (g : Row) : Nat → Row
  | 0 => g
  | n + 1 => f (foldR f g n) n
theorem foldR_succ (f : Row → Int → Row) (g : Row) {c : Int} (h : 0 ≤ c) : foldR f g (c + 1).toNat = f (foldR f g c.toNat) c := by
  rw [show (c + 1).toNat = c.toNat + 1 by omega]
  show f (foldR f g c.toNat) ((c.toNat : Nat) : Int) = _
  rw [show ((c.toNat : Nat) : Int) = c by omega]
abbrev rRaises (g : Row) (c ra : Int) : Prop := tenGe (g (15 + 12 * c + 10)) ra ∧ g (15 + 12 * c + 5) = 0 ∧ g (15 + 12 * c + 2) < g (15 + 12 * c + 4)
abbrev rFalls (g : Row) (c fa : Int) : Prop := tenLt (g (15 + 12 * c + 10)) fa ∧ g (15 + 12 * c + 3) < g (15 + 12 * c + 2)
def rSet (g : Row) (c ra fa : Int) : Row := if rRaises g c ra then up (up (up g (15 + 12 * c + 11) 1) (15 + 12 * c + 2) (g (15 + 12 * c + 2) + 5)) (15 + 12 * c + 8) (g (15 + 12 * c + 8) + 1) else if rFalls g c fa then up (up g (15 + 12 * c + 11) 0) (15 + 12 * c + 2) (g (15 + 12 * c + 2) - 5) else up g (15 + 12 * c + 11) 0
def rBan (g : Row) (c : Int) : Row := if 0 < g (15 + 12 * c + 5) then up g (15 + 12 * c + 5) (g (15 + 12 * c + 5) - 1) else g
def rFine (g : Row) (c fi : Int) : Row := up (up g (15 + 12 * c + 2) (max (g (15 + 12 * c + 3)) (g (15 + 12 * c + 2) - fi))) (15 + 12 * c + 5) 3
def rFade (g : Row) (c p : Int) : Row := up g (15 + 12 * c + 10) (ffade (g (15 + 12 * c + 10)) p)
abbrev bothR (g : Row) (c : Int) : Prop := ¬ g (15 + 12 * c + 11) = 0 ∧ ¬ g (15 + 12 * (c + 1) + 11) = 0
def rCom (g : Row) (c : Int) : Int := if bothR g c then g (15 + 12 * c + 9) + 1 else 0
def rWatch (g : Row) (c : Int) : Row := if g (15 + 12 * c) = g (15 + 12 * (c + 1)) then (if rCom g c = 2 then up (up (rFine (rFine (up g (15 + 12 * c + 9) (rCom g c)) c (g 4)) (c + 1) (g 4)) (15 + 12 * c + 9) 0) 12 (g 12 + 1) else up g (15 + 12 * c + 9) (rCom g c)) else g
theorem coilSet_row (G : GG) (i c ra fa : Int) : coilSet G i c ra fa = onR G i (rSet (G i) c ra fa) := by
  unfold coilSet rSet
  by_cases h : rRaises (G i) c ra
  · rw [if_pos (show raisesC G i c ra from h), if_pos h, setG_row G, setG_onR, setG_onR]
  · rw [if_neg (show ¬ raisesC G i c ra from h), if_neg h]
    by_cases h2 : rFalls (G i) c fa
    · rw [if_pos (show fallsC G i c fa from h2), if_pos h2, setG_row G, setG_onR]
    · rw [if_neg (show ¬ fallsC G i c fa from h2), if_neg h2, setG_row G]
theorem coilBan_row (G : GG) (i c : Int) : coilBan G i c = onR G i (rBan (G i) c) := by
  unfold coilBan rBan
  by_cases h : 0 < G i (15 + 12 * c + 5)
  · rw [if_pos h, if_pos h, setG_row]
  · rw [if_neg h, if_neg h, onR_id]
theorem coilFine_row (G : GG) (i c fi : Int) : coilFine G i c fi = onR G i (rFine (G i) c fi) := by
  unfold coilFine rFine
  rw [setG_row G, setG_onR]
theorem coilFade_row (G : GG) (i c p : Int) : coilFade G i c p = onR G i (rFade (G i) c p) := by
  unfold coilFade rFade
  rw [setG_row]
/-- what holds of a coil -/
def okC (g : Row) (c : Int) : Prop := (0 ≤ g (15 + 12 * c + 1) ∧ g (15 + 12 * c + 1) ≤ 20) ∧ 5 ≤ g (15 + 12 * c + 3) ∧ g (15 + 12 * c + 3) ≤ g (15 + 12 * c + 2) ∧ g (15 + 12 * c + 2) ≤ g (15 + 12 * c + 4) ∧ g (15 + 12 * c + 4) ≤ 500 ∧ (0 ≤ g (15 + 12 * c + 5) ∧ g (15 + 12 * c + 5) ≤ 3) ∧ (0 ≤ g (15 + 12 * c + 9) ∧ g (15 + 12 * c + 9) ≤ 1) ∧ okW (g (15 + 12 * c + 10)) ∧ (g (15 + 12 * c + 11) = 0 ∨ g (15 + 12 * c + 11) = 1) ∧ g (15 + 12 * c + 2) % 5 = 0 ∧ g (15 + 12 * c + 3) % 5 = 0 ∧ g (15 + 12 * c + 4) % 5 = 0 ∧ (0 ≤ g (15 + 12 * c) ∧ g (15 + 12 * c) ≤ 5)
def okS (g : Row) : Prop := (1 ≤ g 0 ∧ g 0 ≤ 100) ∧ (0 ≤ g 1 ∧ g 1 ≤ 100) ∧ (0 ≤ g 2 ∧ g 2 ≤ 100) ∧ (0 ≤ g 3 ∧ g 3 ≤ 1000) ∧ (0 ≤ g 4 ∧ g 4 ≤ 100 ∧ g 4 % 5 = 0)
theorem okC_congr {g h : Row} {c : Int} (e : ∀ k : Int, 0 ≤ k → k < 12 → h (15 + 12 * c + k) = g (15 + 12 * c + k)) (o : okC g c) : okC h c := by
  have e0 := e 0 (by omega) (by omega)
  rw [Int.add_zero] at e0
  unfold okC
  rw [e0, e 1 (by omega) (by omega), e 2 (by omega) (by omega), e 3 (by omega) (by omega), e 4 (by omega) (by omega), e 5 (by omega) (by omega), e 9 (by omega) (by omega), e 10 (by omega) (by omega), e 11 (by omega) (by omega)]
  exact o
theorem rSet_spec (g : Row) (c ra fa : Int) : (∀ y, y ≠ 15 + 12 * c + 2 → y ≠ 15 + 12 * c + 8 → y ≠ 15 + 12 * c + 11 → rSet g c ra fa y = g y) ∧ ((rSet g c ra fa (15 + 12 * c + 2) = g (15 + 12 * c + 2) + 5 ∧ rSet g c ra fa (15 + 12 * c + 11) = 1 ∧ g (15 + 12 * c + 2) < g (15 + 12 * c + 4)) ∨ (rSet g c ra fa (15 + 12 * c + 2) = g (15 + 12 * c + 2) - 5 ∧ rSet g c ra fa (15 + 12 * c + 11) = 0 ∧ g (15 + 12 * c + 3) < g (15 + 12 * c + 2)) ∨ (rSet g c ra fa (15 + 12 * c + 2) = g (15 + 12 * c + 2) ∧ rSet g c ra fa (15 + 12 * c + 11) = 0)) := by
  unfold rSet
  by_cases h : rRaises g c ra
  · rw [if_pos h]
    exact ⟨fun y h1 h2 h3 => (up_n h2).trans ((up_n h1).trans (up_n h3)), Or.inl ⟨(up_n (by omega)).trans (up_s _ _ _), (up_n (by omega)).trans ((up_n (by omega)).trans (up_s _ _ _)), h.2.2⟩⟩
  · rw [if_neg h]
    by_cases h2 : rFalls g c fa
    · rw [if_pos h2]
      exact ⟨fun y h1 h2 h3 => (up_n h1).trans (up_n h3), Or.inr (Or.inl ⟨up_s _ _ _, (up_n (by omega)).trans (up_s _ _ _), h2.2⟩)⟩
    · rw [if_neg h2]
      exact ⟨fun y h1 h2 h3 => up_n h3, Or.inr (Or.inr ⟨up_n (by omega), up_s _ _ _⟩)⟩
theorem okC_set {g : Row} {c d ra fa : Int} (o : okC g d) : okC (rSet g c ra fa) d := by
  obtain ⟨e, h⟩ := rSet_spec g c ra fa
  by_cases hd : d = c
  · subst hd
    unfold okC at o ⊢
    rw [e (15 + 12 * d + 1) (by omega) (by omega) (by omega), e (15 + 12 * d + 3) (by omega) (by omega) (by omega), e (15 + 12 * d + 4) (by omega) (by omega) (by omega), e (15 + 12 * d + 5) (by omega) (by omega) (by omega), e (15 + 12 * d + 9) (by omega) (by omega) (by omega), e (15 + 12 * d + 10) (by omega) (by omega) (by omega), e (15 + 12 * d) (by omega) (by omega) (by omega)]
    obtain ⟨a1, a2, a3, a4, a5, a6, a7, a8, a9, a10, a11, a12, a13⟩ := o
    refine ⟨a1, a2, ?_, ?_, a5, a6, a7, a8, ?_, ?_, a11, a12, a13⟩ <;> rcases h with ⟨z1, z2, z3⟩ | ⟨z1, z2, z3⟩ | ⟨z1, z2⟩ <;> omega
  · exact okC_congr (fun k z0 z1 => e _ (by omega) (by omega) (by omega)) o
theorem okC_ban {g : Row} {c d : Int} (o : okC g d) : okC (rBan g c) d := by
  unfold rBan
  by_cases h : 0 < g (15 + 12 * c + 5)
  · rw [if_pos h]
    by_cases hd : d = c
    · subst hd
      unfold okC at o ⊢
      rw [up_s, up_n (z := 15 + 12 * d + 1) (by omega), up_n (z := 15 + 12 * d + 2) (by omega), up_n (z := 15 + 12 * d + 3) (by omega), up_n (z := 15 + 12 * d + 4) (by omega), up_n (z := 15 + 12 * d + 9) (by omega), up_n (z := 15 + 12 * d + 10) (by omega), up_n (z := 15 + 12 * d + 11) (by omega), up_n (z := 15 + 12 * d) (by omega)]
      obtain ⟨a1, a2, a3, a4, a5, a6, a7⟩ := o
      exact ⟨a1, a2, a3, a4, a5, by omega, a7⟩
    · exact okC_congr (fun k z0 z1 => up_n (by omega)) o
  · rw [if_neg h]; exact o
theorem okC_fade {g : Row} {c d p : Int} (hp : 0 ≤ p ∧ p ≤ 100) (o : okC g d) : okC (rFade g c p) d := by
  unfold rFade
  by_cases hd : d = c
  · subst hd
    unfold okC at o ⊢
    rw [up_s, up_n (z := 15 + 12 * d + 1) (by omega), up_n (z := 15 + 12 * d + 2) (by omega), up_n (z := 15 + 12 * d + 3) (by omega), up_n (z := 15 + 12 * d + 4) (by omega), up_n (z := 15 + 12 * d + 5) (by omega), up_n (z := 15 + 12 * d + 9) (by omega), up_n (z := 15 + 12 * d + 11) (by omega), up_n (z := 15 + 12 * d) (by omega)]
    obtain ⟨a1, a2, a3, a4, a5, a6, a7, a8, a9⟩ := o
    exact ⟨a1, a2, a3, a4, a5, a6, a7, (fw_fade a8 hp).2.2, a9⟩
  · exact okC_congr (fun k z0 z1 => up_n (by omega)) o
theorem rFine_ne {g : Row} {c fi y : Int} (h1 : y ≠ 15 + 12 * c + 2) (h2 : y ≠ 15 + 12 * c + 5) : rFine g c fi y = g y := (up_n h2).trans (up_n h1)
theorem rFine_at {g : Row} {c fi : Int} : rFine g c fi (15 + 12 * c + 2) = max (g (15 + 12 * c + 3)) (g (15 + 12 * c + 2) - fi) ∧ rFine g c fi (15 + 12 * c + 5) = 3 := ⟨(up_n (by omega)).trans (up_s _ _ _), up_s _ _ _⟩
theorem okC_fine {g : Row} {c d fi : Int} (hf : 0 ≤ fi ∧ fi % 5 = 0) (o : okC g d) : okC (rFine g c fi) d := by
  by_cases hd : d = c
  · subst hd
    have e := rFine_at (g := g) (c := d) (fi := fi)
    unfold okC at o ⊢
    rw [e.1, e.2, rFine_ne (y := 15 + 12 * d + 1) (by omega) (by omega), rFine_ne (y := 15 + 12 * d + 3) (by omega) (by omega), rFine_ne (y := 15 + 12 * d + 4) (by omega) (by omega), rFine_ne (y := 15 + 12 * d + 9) (by omega) (by omega), rFine_ne (y := 15 + 12 * d + 10) (by omega) (by omega), rFine_ne (y := 15 + 12 * d + 11) (by omega) (by omega), rFine_ne (y := 15 + 12 * d) (by omega) (by omega)]
    obtain ⟨a1, a2, a3, a4, a5, a6, a7, a8, a9, a10, a11, a12, a13⟩ := o
    refine ⟨a1, a2, by omega, by omega, a5, by omega, a7, a8, a9, ?_, a11, a12, a13⟩
    rcases Int.le_total (g (15 + 12 * d + 3)) (g (15 + 12 * d + 2) - fi) with z | z
    · rw [show max (g (15 + 12 * d + 3)) (g (15 + 12 * d + 2) - fi) = g (15 + 12 * d + 2) - fi by omega]; omega
    · rw [show max (g (15 + 12 * d + 3)) (g (15 + 12 * d + 2) - fi) = g (15 + 12 * d + 3) by omega]; omega
  · exact okC_congr (fun k z0 z1 => rFine_ne (by omega) (by omega)) o
theorem okC_com {g : Row} {c d v : Int} (hv : 0 ≤ v ∧ v ≤ 1) (o : okC g d) : okC (up g (15 + 12 * c + 9) v) d := by
  by_cases hd : d = c
  · subst hd
    unfold okC at o ⊢
    rw [up_s, up_n (z := 15 + 12 * d + 1) (by omega), up_n (z := 15 + 12 * d + 2) (by omega), up_n (z := 15 + 12 * d + 3) (by omega), up_n (z := 15 + 12 * d + 4) (by omega), up_n (z := 15 + 12 * d + 5) (by omega), up_n (z := 15 + 12 * d + 10) (by omega), up_n (z := 15 + 12 * d + 11) (by omega), up_n (z := 15 + 12 * d) (by omega)]
    obtain ⟨a1, a2, a3, a4, a5, a6, a7, a8, a9⟩ := o
    exact ⟨a1, a2, a3, a4, a5, a6, hv, a8, a9⟩
  · exact okC_congr (fun k z0 z1 => up_n (by omega)) o
theorem up_up (g : Row) (y v w : Int) : up (up g y v) y w = up g y w := by
  funext z
  unfold up
  by_cases h : z = y
  · rw [if_pos h, if_pos h]
  · rw [if_neg h, if_neg h, if_neg h]
theorem up_comm (g : Row) {y z v w : Int} (h : y ≠ z) : up (up g y v) z w = up (up g z w) y v := by
  funext x
  unfold up
  by_cases h1 : x = z
  · rw [if_pos h1, if_neg (by omega), if_pos h1]
  · rw [if_neg h1]
    by_cases h2 : x = y
    · rw [if_pos h2, if_pos h2]
    · rw [if_neg h2, if_neg h2, if_neg h1]
theorem rCom_b {g : Row} {c : Int} (o : okC g c) : 0 ≤ rCom g c ∧ rCom g c ≤ 2 := by
  have h := o.2.2.2.2.2.2.1
  unfold rCom
  by_cases z : bothR g c
  · rw [if_pos z]; omega
  · rw [if_neg z]; omega
theorem okC_watch {g : Row} {c d : Int} (hf : 0 ≤ g 4 ∧ g 4 % 5 = 0) (hd : 0 ≤ d) (oc : okC g c) (o : okC g d) : okC (rWatch g c) d := by
  have hb := rCom_b oc
  unfold rWatch
  by_cases h : g (15 + 12 * c) = g (15 + 12 * (c + 1))
  · rw [if_pos h]
    by_cases h2 : rCom g c = 2
    · rw [if_pos h2]
      refine okC_congr (g := up (rFine (rFine (up g (15 + 12 * c + 9) 1) c (g 4)) (c + 1) (g 4)) (15 + 12 * c + 9) 0) (fun k z0 z1 => ?_) (okC_com (by omega) (okC_fine hf (okC_fine hf (okC_com (by omega) o))))
      rw [up_n (by omega)]
      by_cases hz : 15 + 12 * d + k = 15 + 12 * c + 9
      · rw [hz, up_s, up_s]
      · rw [up_n hz, up_n hz]
        by_cases h3 : 15 + 12 * d + k = 15 + 12 * (c + 1) + 2
        · rw [h3, rFine_at.1, rFine_at.1, rFine_ne (by omega) (by omega), rFine_ne (by omega) (by omega), rFine_ne (by omega) (by omega), rFine_ne (by omega) (by omega), up_n (by omega), up_n (by omega), up_n (by omega), up_n (by omega)]
        · by_cases h4 : 15 + 12 * d + k = 15 + 12 * (c + 1) + 5
          · rw [h4, rFine_at.2, rFine_at.2]
          · rw [rFine_ne h3 h4, rFine_ne h3 h4]
            by_cases h5 : 15 + 12 * d + k = 15 + 12 * c + 2
            · rw [h5, rFine_at.1, rFine_at.1, up_n (by omega), up_n (by omega), up_n (by omega), up_n (by omega)]
            · by_cases h6 : 15 + 12 * d + k = 15 + 12 * c + 5
              · rw [h6, rFine_at.2, rFine_at.2]
              · rw [rFine_ne h5 h6, rFine_ne h5 h6, up_n hz, up_n hz]
    · rw [if_neg h2]
      exact okC_com (by omega) o
  · rw [if_neg h]; exact o
