/-! the reference's search for coins finds what the class's finds -/
theorem aw_divA {l : Launch} {own nm : String} {cc : ByteArray} {nL : Nat} {ret : Option FieldType} {X : Code → Prop} {R : Room} {E : List Frame → Array Value → State → State → Prop} {D : va_G} {C : Nat → ClassId} {Z : State → Prop} {w0 : va_W} {pc q : Nat} {lv : List (Nat × Value)} {st : List Value} {k n : Nat} {ad : Int → Nat} {G : GG} {x y : Int} (hy : (0 < y ∧ y ≤ 2147483647) ∧ x ≤ 2147483647) (d : decode cc pc = .ok (.idiv, 1)) (hq : pc + 1 = q)
    (kk : ∀ z : Int, (0 ≤ x → z = x / y) → AW l own nm cc nL ret X R E D (tyC C) Z w0 q lv (.int (iI z) :: st) (cw ad C G) k n) : AW l own nm cc nL ret X R E D (tyC C) Z w0 pc lv (.int (iI y) :: .int (iI x) :: st) (cw ad C G) k n := by
  refine aw_idivR d hq (fun h => ?_) ?_
  · rw [show (0 : Int32) = iI 0 from by decide, iI_inj (by omega) (by omega)] at h; omega
  · by_cases hx : 0 ≤ x
    · rw [iI_div ⟨hx, hy.2⟩ hy.1]; exact kk _ (fun _ => rfl)
    · rw [iI_of (iI x / iI y)]; exact kk _ (fun z => absurd z hx)
theorem tk_at {h0 h1 h2 a f : Int} (hf : 0 ≤ f) (h : ¬ tkF h0 h1 h2 a f = -1) : a - 50 * f - 20 * t2F h2 a f - 10 * t1F h1 h2 a f - 5 * t0F h0 h1 h2 a f = 0 ∧ tkF h0 h1 h2 a f = f + t2F h2 a f + t1F h1 h2 a f + t0F h0 h1 h2 a f := by
  unfold tkF at *
  rw [if_neg (by omega)] at *
  by_cases e : a - 50 * f - 20 * t2F h2 a f - 10 * t1F h1 h2 a f - 5 * t0F h0 h1 h2 a f = 0
  · rw [if_pos e] at *; exact ⟨e, rfl⟩
  · rw [if_neg e] at h; exact absurd rfl h
theorem tk_of {h0 h1 h2 a f : Int} (hf : 0 ≤ f) (e : a - 50 * f - 20 * t2F h2 a f - 10 * t1F h1 h2 a f - 5 * t0F h0 h1 h2 a f = 0) : tkF h0 h1 h2 a f = f + t2F h2 a f + t1F h1 h2 a f + t0F h0 h1 h2 a f := by
  unfold tkF
  rw [if_neg (by omega), if_pos e]
/-- fewer twenties than would fit are worse -/
theorem py_d1 {h0 h1 h2 a f t L n r : Int} (b : 0 ≤ h0 ∧ 0 ≤ h1 ∧ 0 ≤ h2) (hf : 0 ≤ f) (ht : 0 ≤ t ∧ t < t2F h2 a f) (hL : L = a - 50 * f - 20 * t) (hn : n = min (L / 10) h1) (hr : r = L - 10 * n) (h : 0 ≤ L ∧ r % 5 = 0 ∧ r / 5 ≤ h0) : ¬ tkF h0 h1 h2 a f = -1 ∧ tkF h0 h1 h2 a f < f + t + n + r / 5 := by
  have e2 : t2F h2 a f = min h2 ((a - 50 * f) / 20) := rfl
  have e1 : t1F h1 h2 a f = min h1 ((a - 50 * f - 20 * t2F h2 a f) / 10) := rfl
  have e0 : t0F h0 h1 h2 a f = min h0 ((a - 50 * f - 20 * t2F h2 a f - 10 * t1F h1 h2 a f) / 5) := rfl
  have q2 : t2F h2 a f ≤ h2 ∧ 20 * t2F h2 a f ≤ a - 50 * f := by omega
  have q1 : a - 50 * f - 20 * t2F h2 a f - 10 * t1F h1 h2 a f ≤ r ∧ 0 ≤ t1F h1 h2 a f ∧ 10 * t1F h1 h2 a f ≤ a - 50 * f - 20 * t2F h2 a f ∧ n ≤ t1F h1 h2 a f + 2 * (t2F h2 a f - t) ∧ t1F h1 h2 a f ≤ n := by
    clear e2 e0
    rcases Int.le_total h1 (L / 10) with c1 | c1 <;> rcases Int.le_total h1 ((a - 50 * f - 20 * t2F h2 a f) / 10) with c2 | c2 <;> omega
  clear e1 e2 hn
  have q0 : 5 * t0F h0 h1 h2 a f = a - 50 * f - 20 * t2F h2 a f - 10 * t1F h1 h2 a f := by omega
  clear e0
  have k := tk_of (h0 := h0) (h1 := h1) (h2 := h2) (a := a) hf (by omega)
  omega
/-- two fifties fewer than would fit are worse -/
theorem py_d2 {h0 h1 h2 a f : Int} (b : 0 ≤ h0 ∧ 0 ≤ h1 ∧ 0 ≤ h2) (hf : 0 ≤ f) (hm : 50 * (f + 2) ≤ a) (h : ¬ tkF h0 h1 h2 a f = -1) : ¬ tkF h0 h1 h2 a (f + 2) = -1 ∧ tkF h0 h1 h2 a (f + 2) < tkF h0 h1 h2 a f := by
  obtain ⟨k1, k2⟩ := tk_at hf h
  have e2 : t2F h2 a f = min h2 ((a - 50 * f) / 20) := rfl
  have e1 : t1F h1 h2 a f = min h1 ((a - 50 * f - 20 * t2F h2 a f) / 10) := rfl
  have e0 : t0F h0 h1 h2 a f = min h0 ((a - 50 * f - 20 * t2F h2 a f - 10 * t1F h1 h2 a f) / 5) := rfl
  have d2 : t2F h2 a (f + 2) = min h2 ((a - 50 * (f + 2)) / 20) := rfl
  have d1 : t1F h1 h2 a (f + 2) = min h1 ((a - 50 * (f + 2) - 20 * t2F h2 a (f + 2)) / 10) := rfl
  have d0 : t0F h0 h1 h2 a (f + 2) = min h0 ((a - 50 * (f + 2) - 20 * t2F h2 a (f + 2) - 10 * t1F h1 h2 a (f + 2)) / 5) := rfl
  have j2 : 20 * t2F h2 a f ≤ a - 50 * f ∧ t2F h2 a (f + 2) ≤ t2F h2 a f ∧ 0 ≤ t2F h2 a (f + 2) ∧ 20 * t2F h2 a (f + 2) ≤ a - 50 * (f + 2) ∧ (t2F h2 a (f + 2) = h2 ∧ t2F h2 a f = h2 ∨ a - 50 * (f + 2) - 20 * t2F h2 a (f + 2) < 20) ∧ (t2F h2 a f = h2 ∨ a - 50 * f - 20 * t2F h2 a f < 20) := by clear e1 e0 d1 d0 k1 k2; omega
  clear e2 d2
  have m1 : 0 ≤ t1F h1 h2 a f ∧ t1F h1 h2 a f ≤ h1 ∧ 10 * t1F h1 h2 a f ≤ a - 50 * f - 20 * t2F h2 a f ∧ (t1F h1 h2 a f = h1 ∨ a - 50 * f - 20 * t2F h2 a f - 10 * t1F h1 h2 a f < 10) := by clear e0 d1 d0 k1 k2; omega
  have m2 : 0 ≤ t1F h1 h2 a (f + 2) ∧ t1F h1 h2 a (f + 2) ≤ h1 ∧ 10 * t1F h1 h2 a (f + 2) ≤ a - 50 * (f + 2) - 20 * t2F h2 a (f + 2) ∧ (t1F h1 h2 a (f + 2) = h1 ∨ a - 50 * (f + 2) - 20 * t2F h2 a (f + 2) - 10 * t1F h1 h2 a (f + 2) < 10) := by clear e0 e1 d0 k1 k2; omega
  clear e1 d1
  have j1 : t1F h1 h2 a (f + 2) ≤ t1F h1 h2 a f := by clear e0 d0; omega
  have j0 : a - 50 * (f + 2) - 20 * t2F h2 a (f + 2) - 10 * t1F h1 h2 a (f + 2) ≤ a - 50 * f - 20 * t2F h2 a f - 10 * t1F h1 h2 a f ∧ 0 ≤ a - 50 * (f + 2) - 20 * t2F h2 a (f + 2) - 10 * t1F h1 h2 a (f + 2) := by clear e0 d0; omega
  have i0 : t0F h0 h1 h2 a f ≤ h0 ∧ 5 * t0F h0 h1 h2 a f = a - 50 * f - 20 * t2F h2 a f - 10 * t1F h1 h2 a f := by clear d0; omega
  clear e0
  have i1 : 5 * t0F h0 h1 h2 a (f + 2) = a - 50 * (f + 2) - 20 * t2F h2 a (f + 2) - 10 * t1F h1 h2 a (f + 2) := by clear m1 m2; omega
  clear d0
  have k := tk_of (h0 := h0) (h1 := h1) (h2 := h2) (a := a) (f := f + 2) (by omega) (by omega)
  omega
theorem tk_neg {h0 h1 h2 a f : Int} (hf : f < 0) : tkF h0 h1 h2 a f = -1 := if_pos hf
def nx (h0 h1 h2 a f X : Int) : Int := if ¬ tkF h0 h1 h2 a f = -1 ∧ (tkF h0 h1 h2 a X = -1 ∨ tkF h0 h1 h2 a f < tkF h0 h1 h2 a X) then f else X
def sel (h0 h1 h2 a f X t : Int) : Int := if t < t2F h2 a f then nx h0 h1 h2 a f X else X
/-- what is held is the way with X fifties -/
def stI (h0 h1 h2 a X fw : Int) (K : GG) : Prop := fw = tkF h0 h1 h2 a X ∧ (-1 ≤ fw ∧ fw ≤ 1000) ∧ (¬ fw = -1 → 0 ≤ X ∧ K 17 0 = t0F h0 h1 h2 a X ∧ K 17 1 = t1F h1 h2 a X ∧ K 17 2 = t2F h2 a X ∧ K 17 3 = X)
theorem nx_tk {h0 h1 h2 a f X : Int} (h : ¬ tkF h0 h1 h2 a f = -1) : ¬ tkF h0 h1 h2 a (nx h0 h1 h2 a f X) = -1 ∧ tkF h0 h1 h2 a (nx h0 h1 h2 a f X) ≤ tkF h0 h1 h2 a f := by
  unfold nx
  by_cases c : ¬ tkF h0 h1 h2 a f = -1 ∧ (tkF h0 h1 h2 a X = -1 ∨ tkF h0 h1 h2 a f < tkF h0 h1 h2 a X)
  · rw [if_pos c]; exact ⟨h, Int.le_refl _⟩
  · rw [if_neg c]; omega
theorem py_at {h0 h1 h2 a f t L n r : Int} (hf : 0 ≤ f) (ht : t = t2F h2 a f) (hL : L = a - 50 * f - 20 * t) (hn : 0 ≤ L → n = min (L / 10) h1) (hr : r = L - 10 * n) (h0L : 0 ≤ L) : n = t1F h1 h2 a f ∧ (r % 5 = 0 ∧ r / 5 ≤ h0 → t0F h0 h1 h2 a f = r / 5 ∧ tkF h0 h1 h2 a f = f + t + n + r / 5) ∧ (¬ tkF h0 h1 h2 a f = -1 → r % 5 = 0 ∧ r / 5 ≤ h0 ∧ tkF h0 h1 h2 a f = f + t + n + r / 5) := by
  have hn := hn h0L
  have e1 : t1F h1 h2 a f = min h1 ((a - 50 * f - 20 * t2F h2 a f) / 10) := rfl
  have e0 : t0F h0 h1 h2 a f = min h0 ((a - 50 * f - 20 * t2F h2 a f - 10 * t1F h1 h2 a f) / 5) := rfl
  rw [← ht, ← hL] at e1 e0
  have z1 : n = t1F h1 h2 a f := by omega
  rw [← z1, ← hr] at e0
  refine ⟨z1, fun q => ?_, fun q => ?_⟩
  · have z0 : t0F h0 h1 h2 a f = r / 5 := by omega
    refine ⟨z0, ?_⟩
    rw [tk_of hf (by rw [← ht, ← z1, z0]; omega), ← ht, ← z1, z0]
  · obtain ⟨k1, k2⟩ := tk_at hf q
    rw [← ht, ← z1] at k1 k2
    omega
theorem t2_hi {h2 a f t : Int} (hf : 0 ≤ f) (ht : 0 ≤ t ∧ t ≤ h2) (h : t2F h2 a f < t) : a - 50 * f - 20 * t < 0 := by
  have e2 : t2F h2 a f = min h2 ((a - 50 * f) / 20) := rfl
  omega
theorem t2_ok {h2 a f t : Int} (ht : 0 ≤ t ∧ t = t2F h2 a f) : 0 ≤ a - 50 * f - 20 * t := by
  have e2 : t2F h2 a f = min h2 ((a - 50 * f) / 20) := rfl
  omega
theorem py_no {h0 h1 h2 a f t X fw L n r : Int} {K : GG} (hf : 0 ≤ f) (ht : 0 ≤ t ∧ t ≤ h2) (hL : L = a - 50 * f - 20 * t) (hn : 0 ≤ L → n = min (L / 10) h1) (hr : r = L - 10 * n) (hno : ¬ (0 ≤ L ∧ r % 5 = 0 ∧ r / 5 ≤ h0 ∧ (fw < 0 ∨ f + t + n + r / 5 < fw))) (hI : stI h0 h1 h2 a (sel h0 h1 h2 a f X t) fw K) : stI h0 h1 h2 a (sel h0 h1 h2 a f X (t - 1)) fw K := by
  rcases Int.lt_trichotomy t (t2F h2 a f) with c | c | c
  · have e : sel h0 h1 h2 a f X (t - 1) = sel h0 h1 h2 a f X t := by unfold sel; rw [if_pos c, if_pos (by omega)]
    rw [e]; exact hI
  · have e : sel h0 h1 h2 a f X t = X := by unfold sel; rw [if_neg (by omega)]
    have e' : sel h0 h1 h2 a f X (t - 1) = nx h0 h1 h2 a f X := by unfold sel; rw [if_pos (by omega)]
    rw [e] at hI
    rw [e']
    have h0L : 0 ≤ L := by rw [hL]; exact t2_ok ⟨ht.1, c⟩
    obtain ⟨-, -, p⟩ := py_at (h0 := h0) (h1 := h1) (n := n) (r := r) hf c hL hn hr h0L
    have e2 : nx h0 h1 h2 a f X = X := by
      unfold nx
      refine if_neg (fun q => hno ?_)
      have p1 := p q.1
      have i1 := hI.1
      refine ⟨h0L, p1.1, p1.2.1, ?_⟩
      rcases q.2 with z | z <;> omega
    rw [e2]; exact hI
  · have e : sel h0 h1 h2 a f X t = X := by unfold sel; rw [if_neg (by omega)]
    have e' : sel h0 h1 h2 a f X (t - 1) = X := by unfold sel; rw [if_neg (by omega)]
    rw [e] at hI; rw [e']; exact hI
theorem py_yes {h0 h1 h2 a f t X fw L n r : Int} {K K1 : GG} (b : 0 ≤ h0 ∧ 0 ≤ h1 ∧ 0 ≤ h2) (hf : 0 ≤ f) (ht : 0 ≤ t ∧ t ≤ h2) (hL : L = a - 50 * f - 20 * t) (hn : 0 ≤ L → n = min (L / 10) h1) (hr : r = L - 10 * n) (h1L : 0 ≤ L) (h1r : r % 5 = 0) (h1h : r / 5 ≤ h0) (h1f : fw < 0 ∨ f + t + n + r / 5 < fw) (hN : f + t + n + r / 5 ≤ 1000 ∧ 0 ≤ n ∧ 0 ≤ r) (hI : stI h0 h1 h2 a (sel h0 h1 h2 a f X t) fw K)
    (k0 : K1 17 0 = r / 5) (k1 : K1 17 1 = n) (k2 : K1 17 2 = t) (k3 : K1 17 3 = f) : stI h0 h1 h2 a (sel h0 h1 h2 a f X (t - 1)) (f + t + n + r / 5) K1 := by
  rcases Int.lt_trichotomy t (t2F h2 a f) with c | c | c
  · have e : sel h0 h1 h2 a f X t = nx h0 h1 h2 a f X := by unfold sel; rw [if_pos c]
    rw [e] at hI
    have d := py_d1 (h0 := h0) (h1 := h1) (n := n) (r := r) b hf ⟨ht.1, c⟩ hL (hn h1L) hr ⟨h1L, h1r, h1h⟩
    have d2 := nx_tk (X := X) d.1
    have i1 := hI.1
    have i2 := hI.2.1
    omega
  · have e : sel h0 h1 h2 a f X t = X := by unfold sel; rw [if_neg (by omega)]
    have e' : sel h0 h1 h2 a f X (t - 1) = nx h0 h1 h2 a f X := by unfold sel; rw [if_pos (by omega)]
    rw [e] at hI
    rw [e']
    obtain ⟨p1, p2, -⟩ := py_at (h0 := h0) (h1 := h1) (n := n) (r := r) hf c hL hn hr h1L
    obtain ⟨p3, p4⟩ := p2 ⟨h1r, h1h⟩
    have i1 := hI.1
    have i2 := hI.2.1
    have e2 : nx h0 h1 h2 a f X = f := by
      unfold nx
      refine if_pos ⟨by omega, ?_⟩
      rcases h1f with z | z
      · left; omega
      · right; omega
    rw [e2]
    exact ⟨p4.symm, by omega, fun _ => ⟨hf, by rw [k0, p3], by rw [k1, p1], by rw [k2, c], k3⟩⟩
  · have := t2_hi hf ht c
    omega
/-- the number of fifties that is held when those above f are tried -/
def cur (h0 h1 h2 h3 a f : Int) : Int := if fF h3 a ≤ f then -1 else if f = fF h3 a - 1 then fF h3 a else bF h0 h1 h2 h3 a
theorem stI_eq {h0 h1 h2 a X Y fw : Int} {K : GG} (h : X = Y ∨ (tkF h0 h1 h2 a X = -1 ∧ tkF h0 h1 h2 a Y = -1)) (hI : stI h0 h1 h2 a X fw K) : stI h0 h1 h2 a Y fw K := by
  rcases h with h | ⟨h, g⟩
  · rw [← h]; exact hI
  · exact ⟨by rw [hI.1, h, g], hI.2.1, fun q => absurd (by rw [hI.1, h]) q⟩
/-- those below the two greatest are worse -/
theorem py_low {h0 h1 h2 h3 a : Int} (b : 0 ≤ h0 ∧ 0 ≤ h1 ∧ 0 ≤ h2) : ∀ (n : Nat) (f : Int), 0 ≤ f → f < fF h3 a - 1 → fF h3 a - f < n → ¬ tkF h0 h1 h2 a f = -1 → ¬ tkF h0 h1 h2 a (bF h0 h1 h2 h3 a) = -1 ∧ tkF h0 h1 h2 a (bF h0 h1 h2 h3 a) < tkF h0 h1 h2 a f := by
  intro n
  induction n with
  | zero => intro f h1 h2 h3; omega
  | succ n ih =>
    intro f hf hlt hn hk
    have ef : fF h3 a = min h3 (a / 50) := rfl
    have d := py_d2 b hf (by omega) hk
    by_cases c : f + 2 < fF h3 a - 1
    · have := ih (f + 2) (by omega) c (by omega) d.1
      omega
    · have hb : ¬ tkF h0 h1 h2 a (bF h0 h1 h2 h3 a) = -1 ∧ tkF h0 h1 h2 a (bF h0 h1 h2 h3 a) ≤ tkF h0 h1 h2 a (f + 2) := by
        unfold bF
        by_cases t : btr h0 h1 h2 h3 a
        · rw [if_pos t]
          refine ⟨t.1, ?_⟩
          rcases (by omega : f + 2 = fF h3 a - 1 ∨ f + 2 = fF h3 a) with z | z
          · rw [z]; exact Int.le_refl _
          · rw [z] at d ⊢
            rcases t.2 with y | y
            · exact absurd y d.1
            · omega
        · rw [if_neg t]
          rcases (by omega : f + 2 = fF h3 a - 1 ∨ f + 2 = fF h3 a) with z | z
          · rw [z] at d ⊢
            have t2 : ¬ (tkF h0 h1 h2 a (fF h3 a) = -1 ∨ tkF h0 h1 h2 a (fF h3 a - 1) < tkF h0 h1 h2 a (fF h3 a)) := fun y => t ⟨d.1, y⟩
            omega
          · rw [z] at d ⊢
            exact ⟨d.1, Int.le_refl _⟩
      omega
/-- the way that is held when f is tried too -/
theorem py_next {h0 h1 h2 h3 a f fw : Int} {K : GG} (b : 0 ≤ h0 ∧ 0 ≤ h1 ∧ 0 ≤ h2) (hf : 0 ≤ f ∧ f ≤ h3) (hI : stI h0 h1 h2 a (sel h0 h1 h2 a f (cur h0 h1 h2 h3 a f) (-1)) fw K) : stI h0 h1 h2 a (cur h0 h1 h2 h3 a (f - 1)) fw K := by
  have ef : fF h3 a = min h3 (a / 50) := rfl
  have e2 : t2F h2 a f = min h2 ((a - 50 * f) / 20) := rfl
  by_cases c : fF h3 a < f
  · have e : sel h0 h1 h2 a f (cur h0 h1 h2 h3 a f) (-1) = cur h0 h1 h2 h3 a f := by unfold sel; rw [if_neg (by omega)]
    rw [e] at hI
    have e3 : cur h0 h1 h2 h3 a f = -1 := by unfold cur; rw [if_pos (by omega)]
    have e4 : cur h0 h1 h2 h3 a (f - 1) = -1 := by unfold cur; rw [if_pos (by omega)]
    rw [e4]; rw [e3] at hI; exact hI
  · have e : sel h0 h1 h2 a f (cur h0 h1 h2 h3 a f) (-1) = nx h0 h1 h2 a f (cur h0 h1 h2 h3 a f) := by unfold sel; rw [if_pos (by omega)]
    rw [e] at hI
    refine stI_eq ?_ hI
    by_cases c1 : f = fF h3 a
    · have e3 : cur h0 h1 h2 h3 a f = -1 := by unfold cur; rw [if_pos (by omega)]
      have e4 : cur h0 h1 h2 h3 a (f - 1) = f := by unfold cur; rw [if_neg (by omega), if_pos (by omega), c1]
      rw [e3, e4]
      unfold nx
      by_cases k : tkF h0 h1 h2 a f = -1
      · rw [if_neg (fun q => q.1 k)]
        exact Or.inr ⟨tk_neg (by omega), k⟩
      · rw [if_pos ⟨k, Or.inl (tk_neg (by omega))⟩]
        exact Or.inl rfl
    · by_cases c2 : f = fF h3 a - 1
      · have e3 : cur h0 h1 h2 h3 a f = fF h3 a := by unfold cur; rw [if_neg (by omega), if_pos c2]
        have e4 : cur h0 h1 h2 h3 a (f - 1) = bF h0 h1 h2 h3 a := by unfold cur; rw [if_neg (by omega), if_neg (by omega)]
        rw [e3, e4, c2]
        exact Or.inl rfl
      · have e3 : cur h0 h1 h2 h3 a f = bF h0 h1 h2 h3 a := by unfold cur; rw [if_neg (by omega), if_neg (by omega)]
        have e4 : cur h0 h1 h2 h3 a (f - 1) = bF h0 h1 h2 h3 a := by unfold cur; rw [if_neg (by omega), if_neg (by omega)]
        rw [e3, e4]
        left
        unfold nx
        refine if_neg (fun q => ?_)
        have := py_low (h3 := h3) b (fF h3 a - f + 1).toNat f hf.1 (by omega) (by omega) q.1
        rcases q.2 with z | z <;> omega
theorem cur_end {h0 h1 h2 h3 a : Int} (b3 : 0 ≤ h3) (ha : 0 ≤ a) : cur h0 h1 h2 h3 a (-1) = bF h0 h1 h2 h3 a := by
  have ef : fF h3 a = min h3 (a / 50) := rfl
  unfold cur
  rw [if_neg (by omega)]
  by_cases c : (-1 : Int) = fF h3 a - 1
  · rw [if_pos c]
    unfold bF
    rw [if_neg (fun q => q.1 (tk_neg (by omega)))]
  · rw [if_neg c]
theorem cur_top {h0 h1 h2 h3 a : Int} : cur h0 h1 h2 h3 a h3 = -1 := by
  have ef : fF h3 a = min h3 (a / 50) := rfl
  unfold cur
  rw [if_pos (by omega)]
theorem can_bF {h0 h1 h2 h3 a : Int} : canF h0 h1 h2 h3 a ↔ ¬ tkF h0 h1 h2 a (bF h0 h1 h2 h3 a) = -1 := by
  unfold bF
  by_cases c : btr h0 h1 h2 h3 a
  · rw [if_pos c]; exact ⟨fun _ => c.1, fun _ => Or.inl c⟩
  · rw [if_neg c]; exact ⟨fun q => q.resolve_left c, fun q => Or.inr q⟩
/-- what the reference's search answers -/
def pyP (G : GG) (h0 h1 h2 h3 a : Int) (r : Int) (G1 : GG) : Prop := r = b2i (canF h0 h1 h2 h3 a) ∧ (canF h0 h1 h2 h3 a → G1 17 0 = c0F h0 h1 h2 h3 a ∧ G1 17 1 = c1F h0 h1 h2 h3 a ∧ G1 17 2 = c2F h0 h1 h2 h3 a ∧ G1 17 3 = c3F h0 h1 h2 h3 a) ∧ sameB (fun x y => x = 17 ∧ 0 ≤ y ∧ y < 4) G G1
set_option maxHeartbeats 4000000 in
set_option maxRecDepth 100000 in
theorem L_py_in {l : Launch} {D : va_G} {C : Nat → ClassId} {T : Nat → Nat} {ad : Int → Nat} (G : GG) {h0 h1 h2 h3 a w m : Int} (b0 : 0 ≤ h0 ∧ h0 ≤ 31) (b1 : 0 ≤ h1 ∧ h1 ≤ 31) (b2 : 0 ≤ h2 ∧ h2 ≤ 31) (b3 : 0 ≤ h3 ∧ h3 ≤ 31) (ha : 0 ≤ a ∧ a ≤ 3000) {f X : Int} (hf : 0 ≤ f ∧ f ≤ h3) : ∀ (n : Nat) (t fw : Int) (K : GG), (-1 ≤ t ∧ t ≤ h2) → t + 1 < n → sameB (fun x y => x = 17 ∧ 0 ≤ y ∧ y < 4) G K → stI h0 h1 h2 a (sel h0 h1 h2 a f X t) fw K →
    (∀ (fw1 : Int) (K1 : GG), sameB (fun x y => x = 17 ∧ 0 ≤ y ∧ y < 4) G K1 → stI h0 h1 h2 a (sel h0 h1 h2 a f X (-1)) fw1 K1 → AW l RX6 "pays" cX6_pays 15 (some .boolean) (fun _ => True) { frames := 0, cells := 0, slots := 0, locals := 0 } (hvE D (RI ad C (fun r G1 => pyP G h0 h1 h2 h3 a r G1)) (cw ad C G) 0 0) D (tyC C) (hvZ T (cw ad C G)) (cw ad C G) 247 [(0, .ref (ad 108)), (1, .int (iI a)), (2, .int (iI w)), (3, .int (iI m)), (4, .int (iI fw1)), (5, .int (iI h0)), (6, .int (iI h1)), (7, .int (iI h2)), (8, .int (iI h3)), (9, .int (iI f)), (10, .int (iI (-1)))] [] (cw ad C K1) 0 0) → AW l RX6 "pays" cX6_pays 15 (some .boolean) (fun _ => True) { frames := 0, cells := 0, slots := 0, locals := 0 } (hvE D (RI ad C (fun r G1 => pyP G h0 h1 h2 h3 a r G1)) (cw ad C G) 0 0) D (tyC C) (hvZ T (cw ad C G)) (cw ad C G) 94 [(0, .ref (ad 108)), (1, .int (iI a)), (2, .int (iI w)), (3, .int (iI m)), (4, .int (iI fw)), (5, .int (iI h0)), (6, .int (iI h1)), (7, .int (iI h2)), (8, .int (iI h3)), (9, .int (iI f)), (10, .int (iI t))] [] (cw ad C K) 0 0 := by
  intro n
  induction n with
  | zero => intro t fw K ht hn; exact absurd hn (by omega)
  | succ n ih =>
    intro t fw K ht hn hs hI kO
    have hi1 := hI.2.1
    refine aw_iload (q := 96) 10 dX6_pays_94 rfl rfl ?_
    refine aw_if_lt (q := 99) dX6_pays_96 rfl (t := 247) (by decide) (by omega) (fun y1 => ?_) (fun y2 => ?_)
    · rw [show t = -1 by omega] at hI ⊢
      exact kO _ _ hs hI
    · refine aw_iload_n (q := 100) 1 dX6_pays_99 rfl rfl rfl ?_
      refine aw_bipush (q := 102) dX6_pays_100 rfl (by decide) ?_
      refine aw_iload (q := 104) 9 dX6_pays_102 rfl rfl ?_
      refine ae_imul (q := 105) (50 * f) (by omega) dX6_pays_104 rfl ?_
      refine ae_isub (q := 106) (a - 50 * f) (by omega) dX6_pays_105 rfl ?_
      refine aw_bipush (q := 108) dX6_pays_106 rfl (by decide) ?_
      refine aw_iload (q := 110) 10 dX6_pays_108 rfl rfl ?_
      refine ae_imul (q := 111) (20 * t) (by omega) dX6_pays_110 rfl ?_
      refine ae_isub (q := 112) (a - 50 * f - 20 * t) (by omega) dX6_pays_111 rfl ?_
      refine aw_istore (q := 114) (lv2 := [(0, .ref (ad 108)), (1, .int (iI a)), (2, .int (iI w)), (3, .int (iI m)), (4, .int (iI fw)), (5, .int (iI h0)), (6, .int (iI h1)), (7, .int (iI h2)), (8, .int (iI h3)), (9, .int (iI f)), (10, .int (iI t)), (11, .int (iI (a - 50 * f - 20 * t)))]) [1, 2, 3, 4, 5, 6, 7, 8, 9, 10, 11, 0] dX6_pays_112 rfl (by decide) rfl rfl ?_
      refine aw_iload (q := 116) 11 dX6_pays_114 rfl rfl ?_
      refine aw_if_ge (q := 119) dX6_pays_116 rfl (t := 123) (by decide) (by omega) (fun y3 => ?_) (fun y4 => ?_)
      · refine aw_iload (q := 125) 11 dX6_pays_123 rfl rfl ?_
        refine aw_bipush (q := 127) dX6_pays_125 rfl (by decide) ?_
        refine aw_divA (q := 128) (by omega) dX6_pays_127 rfl (fun v1 hv1 => ?_)
        refine aw_iload (q := 130) 6 dX6_pays_128 rfl rfl ?_
        refine aw_icmp_ge (q := 133) dX6_pays_130 rfl (t := 141) (by decide) (by omega) (by omega) (fun y5 => ?_) (fun y6 => ?_)
        · refine aw_iload (q := 143) 6 dX6_pays_141 rfl rfl ?_
          refine aw_istore (q := 145) (lv2 := [(0, .ref (ad 108)), (1, .int (iI a)), (2, .int (iI w)), (3, .int (iI m)), (4, .int (iI fw)), (5, .int (iI h0)), (6, .int (iI h1)), (7, .int (iI h2)), (8, .int (iI h3)), (9, .int (iI f)), (10, .int (iI t)), (11, .int (iI (a - 50 * f - 20 * t))), (12, .int (iI h1))]) [1, 2, 3, 4, 5, 6, 7, 8, 9, 10, 11, 12, 0] dX6_pays_143 rfl (by decide) rfl rfl ?_
          refine aw_iload (q := 147) 11 dX6_pays_145 rfl rfl ?_
          refine aw_bipush (q := 149) dX6_pays_147 rfl (by decide) ?_
          refine aw_iload (q := 151) 12 dX6_pays_149 rfl rfl ?_
          refine ae_imul (q := 152) (10 * h1) (by omega) dX6_pays_151 rfl ?_
          refine ae_isub (q := 153) (a - 50 * f - 20 * t - 10 * h1) (by omega) dX6_pays_152 rfl ?_
          refine aw_istore (q := 155) (lv2 := [(0, .ref (ad 108)), (1, .int (iI a)), (2, .int (iI w)), (3, .int (iI m)), (4, .int (iI fw)), (5, .int (iI h0)), (6, .int (iI h1)), (7, .int (iI h2)), (8, .int (iI h3)), (9, .int (iI f)), (10, .int (iI t)), (11, .int (iI (a - 50 * f - 20 * t))), (12, .int (iI h1)), (13, .int (iI (a - 50 * f - 20 * t - 10 * h1)))]) [1, 2, 3, 4, 5, 6, 7, 8, 9, 10, 11, 12, 13, 0] dX6_pays_153 rfl (by decide) rfl rfl ?_
          refine aw_iload (q := 157) 9 dX6_pays_155 rfl rfl ?_
          refine aw_iload (q := 159) 10 dX6_pays_157 rfl rfl ?_
          refine ae_iadd (q := 160) (f + t) (by omega) dX6_pays_159 rfl ?_
          refine aw_iload (q := 162) 12 dX6_pays_160 rfl rfl ?_
          refine ae_iadd (q := 163) (f + t + h1) (by omega) dX6_pays_162 rfl ?_
          refine aw_iload (q := 165) 13 dX6_pays_163 rfl rfl ?_
          refine aw_iconst (q := 166) dX6_pays_165 rfl ?_
          refine aw_divA (q := 167) (by omega) dX6_pays_166 rfl (fun v2 hv2 => ?_)
          refine ae_iadd (q := 168) (f + t + h1 + v2) (by omega) dX6_pays_167 rfl ?_
          refine aw_istore (q := 170) (lv2 := [(0, .ref (ad 108)), (1, .int (iI a)), (2, .int (iI w)), (3, .int (iI m)), (4, .int (iI fw)), (5, .int (iI h0)), (6, .int (iI h1)), (7, .int (iI h2)), (8, .int (iI h3)), (9, .int (iI f)), (10, .int (iI t)), (11, .int (iI (a - 50 * f - 20 * t))), (12, .int (iI h1)), (13, .int (iI (a - 50 * f - 20 * t - 10 * h1))), (14, .int (iI (f + t + h1 + v2)))]) [1, 2, 3, 4, 5, 6, 7, 8, 9, 10, 11, 12, 13, 14, 0] dX6_pays_168 rfl (by decide) rfl rfl ?_
          refine aw_iload (q := 172) 11 dX6_pays_170 rfl rfl ?_
          refine aw_if_lt (q := 175) dX6_pays_172 rfl (t := 241) (by decide) (by omega) (fun y7 => ?_) (fun y8 => ?_)
          · refine ae_iinc (q := 244) (lv2 := [(0, .ref (ad 108)), (1, .int (iI a)), (2, .int (iI w)), (3, .int (iI m)), (4, .int (iI fw)), (5, .int (iI h0)), (6, .int (iI h1)), (7, .int (iI h2)), (8, .int (iI h3)), (9, .int (iI f)), (10, .int (iI (t - 1))), (11, .int (iI (a - 50 * f - 20 * t))), (12, .int (iI h1)), (13, .int (iI (a - 50 * f - 20 * t - 10 * h1))), (14, .int (iI (f + t + h1 + v2)))]) 10 [1, 2, 3, 4, 5, 6, 7, 8, 9, 10, 0, 11, 12, 13, 14] (t - 1) (by omega) dX6_pays_241 rfl rfl (by decide) rfl ?_
            refine aw_goto (q := 94) dX6_pays_244 (by decide) ?_
            refine aw_sub [0, 1, 2, 3, 4, 5, 6, 7, 8, 9, 10] rfl ?_
            exact ih (t - 1) _ _ (by omega) (by omega) hs (py_no (L := a - 50 * f - 20 * t) (n := h1) (r := a - 50 * f - 20 * t - 10 * h1) hf.1 (by omega) (by omega) (fun _ => by omega) (by omega) (by omega) hI) kO
          · refine aw_iload (q := 177) 13 dX6_pays_175 rfl rfl ?_
            refine aw_iconst (q := 178) dX6_pays_177 rfl ?_
            obtain ⟨d1, hd1⟩ : ∃ z, ((a - 50 * f - 20 * t - 10 * h1) % 5) = z := ⟨_, rfl⟩
            refine aw_rem5 (q := 179) (z := d1) (by omega) (by omega) hd1 dX6_pays_178 rfl ?_
            refine aw_if_ne (q := 182) dX6_pays_179 rfl (t := 241) (by decide) (by omega) (fun y9 => ?_) (fun y10 => ?_)
            · refine ae_iinc (q := 244) (lv2 := [(0, .ref (ad 108)), (1, .int (iI a)), (2, .int (iI w)), (3, .int (iI m)), (4, .int (iI fw)), (5, .int (iI h0)), (6, .int (iI h1)), (7, .int (iI h2)), (8, .int (iI h3)), (9, .int (iI f)), (10, .int (iI (t - 1))), (11, .int (iI (a - 50 * f - 20 * t))), (12, .int (iI h1)), (13, .int (iI (a - 50 * f - 20 * t - 10 * h1))), (14, .int (iI (f + t + h1 + v2)))]) 10 [1, 2, 3, 4, 5, 6, 7, 8, 9, 10, 0, 11, 12, 13, 14] (t - 1) (by omega) dX6_pays_241 rfl rfl (by decide) rfl ?_
              refine aw_goto (q := 94) dX6_pays_244 (by decide) ?_
              refine aw_sub [0, 1, 2, 3, 4, 5, 6, 7, 8, 9, 10] rfl ?_
              exact ih (t - 1) _ _ (by omega) (by omega) hs (py_no (L := a - 50 * f - 20 * t) (n := h1) (r := a - 50 * f - 20 * t - 10 * h1) hf.1 (by omega) (by omega) (fun _ => by omega) (by omega) (by omega) hI) kO
            · refine aw_iload (q := 184) 13 dX6_pays_182 rfl rfl ?_
              refine aw_iconst (q := 185) dX6_pays_184 rfl ?_
              refine aw_divA (q := 186) (by omega) dX6_pays_185 rfl (fun v3 hv3 => ?_)
              refine aw_iload (q := 188) 5 dX6_pays_186 rfl rfl ?_
              refine aw_icmp_gt (q := 191) dX6_pays_188 rfl (t := 241) (by decide) (by omega) (by omega) (fun y11 => ?_) (fun y12 => ?_)
              · refine ae_iinc (q := 244) (lv2 := [(0, .ref (ad 108)), (1, .int (iI a)), (2, .int (iI w)), (3, .int (iI m)), (4, .int (iI fw)), (5, .int (iI h0)), (6, .int (iI h1)), (7, .int (iI h2)), (8, .int (iI h3)), (9, .int (iI f)), (10, .int (iI (t - 1))), (11, .int (iI (a - 50 * f - 20 * t))), (12, .int (iI h1)), (13, .int (iI (a - 50 * f - 20 * t - 10 * h1))), (14, .int (iI (f + t + h1 + v2)))]) 10 [1, 2, 3, 4, 5, 6, 7, 8, 9, 10, 0, 11, 12, 13, 14] (t - 1) (by omega) dX6_pays_241 rfl rfl (by decide) rfl ?_
                refine aw_goto (q := 94) dX6_pays_244 (by decide) ?_
                refine aw_sub [0, 1, 2, 3, 4, 5, 6, 7, 8, 9, 10] rfl ?_
                exact ih (t - 1) _ _ (by omega) (by omega) hs (py_no (L := a - 50 * f - 20 * t) (n := h1) (r := a - 50 * f - 20 * t - 10 * h1) hf.1 (by omega) (by omega) (fun _ => by omega) (by omega) (by omega) hI) kO
              · refine aw_iload (q := 193) 4 dX6_pays_191 rfl rfl ?_
                refine aw_if_lt (q := 196) dX6_pays_193 rfl (t := 203) (by decide) (by omega) (fun y13 => ?_) (fun y14 => ?_)
                · refine aw_iload (q := 205) 14 dX6_pays_203 rfl rfl ?_
                  refine aw_istore (q := 207) (lv2 := [(0, .ref (ad 108)), (1, .int (iI a)), (2, .int (iI w)), (3, .int (iI m)), (4, .int (iI (f + t + h1 + v2))), (5, .int (iI h0)), (6, .int (iI h1)), (7, .int (iI h2)), (8, .int (iI h3)), (9, .int (iI f)), (10, .int (iI t)), (11, .int (iI (a - 50 * f - 20 * t))), (12, .int (iI h1)), (13, .int (iI (a - 50 * f - 20 * t - 10 * h1))), (14, .int (iI (f + t + h1 + v2)))]) [1, 2, 3, 4, 0, 5, 6, 7, 8, 9, 10, 11, 12, 13, 14] dX6_pays_205 rfl (by decide) rfl rfl ?_
                  refine aw_aload_n (q := 208) 0 dX6_pays_207 rfl rfl rfl ?_
                  refine g_mod_coins (q := 211) wf_RX6_25 dX6_pays_208 rfl ?_
                  refine aw_iconst (q := 212) dX6_pays_211 rfl ?_
                  refine aw_iload (q := 214) 13 dX6_pays_212 rfl rfl ?_
                  refine aw_iconst (q := 215) dX6_pays_214 rfl ?_
                  obtain ⟨d2, hd2⟩ : ∃ z, ((a - 50 * f - 20 * t - 10 * h1) / 5) = z := ⟨_, rfl⟩
                  refine aw_div5 (q := 216) (z := d2) (by omega) (by omega) hd2 dX6_pays_215 rfl ?_
                  refine aw_cias (q := 217) 0 (ar_114 ad C) (by omega) (by omega) dX6_pays_216 rfl ?_
                  refine aw_aload_n (q := 218) 0 dX6_pays_217 rfl rfl rfl ?_
                  refine g_mod_coins (q := 221) wf_RX6_25 dX6_pays_218 rfl ?_
                  refine aw_iconst (q := 222) dX6_pays_221 rfl ?_
                  refine aw_iload (q := 224) 12 dX6_pays_222 rfl rfl ?_
                  refine aw_cias (q := 225) 1 (ar_114 ad C) (by omega) (by omega) dX6_pays_224 rfl ?_
                  refine aw_aload_n (q := 226) 0 dX6_pays_225 rfl rfl rfl ?_
                  refine g_mod_coins (q := 229) wf_RX6_25 dX6_pays_226 rfl ?_
                  refine aw_iconst (q := 230) dX6_pays_229 rfl ?_
                  refine aw_iload (q := 232) 10 dX6_pays_230 rfl rfl ?_
                  refine aw_cias (q := 233) 2 (ar_114 ad C) (by omega) (by omega) dX6_pays_232 rfl ?_
                  refine aw_aload_n (q := 234) 0 dX6_pays_233 rfl rfl rfl ?_
                  refine g_mod_coins (q := 237) wf_RX6_25 dX6_pays_234 rfl ?_
                  refine aw_iconst (q := 238) dX6_pays_237 rfl ?_
                  refine aw_iload (q := 240) 9 dX6_pays_238 rfl rfl ?_
                  refine aw_cias (q := 241) 3 (ar_114 ad C) (by omega) (by omega) dX6_pays_240 rfl ?_
                  refine ae_iinc (q := 244) (lv2 := [(0, .ref (ad 108)), (1, .int (iI a)), (2, .int (iI w)), (3, .int (iI m)), (4, .int (iI (f + t + h1 + v2))), (5, .int (iI h0)), (6, .int (iI h1)), (7, .int (iI h2)), (8, .int (iI h3)), (9, .int (iI f)), (10, .int (iI (t - 1))), (11, .int (iI (a - 50 * f - 20 * t))), (12, .int (iI h1)), (13, .int (iI (a - 50 * f - 20 * t - 10 * h1))), (14, .int (iI (f + t + h1 + v2)))]) 10 [1, 2, 3, 4, 5, 6, 7, 8, 9, 10, 0, 11, 12, 13, 14] (t - 1) (by omega) dX6_pays_241 rfl rfl (by decide) rfl ?_
                  refine aw_goto (q := 94) dX6_pays_244 (by decide) ?_
                  refine aw_sub [0, 1, 2, 3, 4, 5, 6, 7, 8, 9, 10] rfl ?_
                  have e9 := py_yes (K1 := setG (setG (setG (setG K 17 0 d2) 17 1 h1) 17 2 t) 17 3 f) (L := a - 50 * f - 20 * t) (n := h1) (r := a - 50 * f - 20 * t - 10 * h1) ⟨b0.1, b1.1, b2.1⟩ hf.1 (by omega) (by omega) (fun _ => by omega) (by omega) (by omega) (by omega) (by omega) (by omega) (by omega) hI (((setG_ne (by omega)).trans ((setG_ne (by omega)).trans ((setG_ne (by omega)).trans (setG_same _ _ _ _)))).trans (by omega)) (((setG_ne (by omega)).trans ((setG_ne (by omega)).trans (setG_same _ _ _ _)))) (((setG_ne (by omega)).trans (setG_same _ _ _ _))) ((setG_same _ _ _ _))
                  rw [show f + (t) + h1 + (a - 50 * f - 20 * t - 10 * h1) / 5 = f + t + h1 + v2 by omega] at e9
                  exact ih (t - 1) _ _ (by omega) (by omega) (fun x y z => ((setG_ne (by omega)).trans ((setG_ne (by omega)).trans ((setG_ne (by omega)).trans ((setG_ne (by omega)).trans (hs x y z)))))) e9 kO
                · refine aw_iload (q := 198) 14 dX6_pays_196 rfl rfl ?_
                  refine aw_iload (q := 200) 4 dX6_pays_198 rfl rfl ?_
                  refine aw_icmp_ge (q := 203) dX6_pays_200 rfl (t := 241) (by decide) (by omega) (by omega) (fun y15 => ?_) (fun y16 => ?_)
                  · refine ae_iinc (q := 244) (lv2 := [(0, .ref (ad 108)), (1, .int (iI a)), (2, .int (iI w)), (3, .int (iI m)), (4, .int (iI fw)), (5, .int (iI h0)), (6, .int (iI h1)), (7, .int (iI h2)), (8, .int (iI h3)), (9, .int (iI f)), (10, .int (iI (t - 1))), (11, .int (iI (a - 50 * f - 20 * t))), (12, .int (iI h1)), (13, .int (iI (a - 50 * f - 20 * t - 10 * h1))), (14, .int (iI (f + t + h1 + v2)))]) 10 [1, 2, 3, 4, 5, 6, 7, 8, 9, 10, 0, 11, 12, 13, 14] (t - 1) (by omega) dX6_pays_241 rfl rfl (by decide) rfl ?_
                    refine aw_goto (q := 94) dX6_pays_244 (by decide) ?_
                    refine aw_sub [0, 1, 2, 3, 4, 5, 6, 7, 8, 9, 10] rfl ?_
                    exact ih (t - 1) _ _ (by omega) (by omega) hs (py_no (L := a - 50 * f - 20 * t) (n := h1) (r := a - 50 * f - 20 * t - 10 * h1) hf.1 (by omega) (by omega) (fun _ => by omega) (by omega) (by omega) hI) kO
                  · refine aw_iload (q := 205) 14 dX6_pays_203 rfl rfl ?_
                    refine aw_istore (q := 207) (lv2 := [(0, .ref (ad 108)), (1, .int (iI a)), (2, .int (iI w)), (3, .int (iI m)), (4, .int (iI (f + t + h1 + v2))), (5, .int (iI h0)), (6, .int (iI h1)), (7, .int (iI h2)), (8, .int (iI h3)), (9, .int (iI f)), (10, .int (iI t)), (11, .int (iI (a - 50 * f - 20 * t))), (12, .int (iI h1)), (13, .int (iI (a - 50 * f - 20 * t - 10 * h1))), (14, .int (iI (f + t + h1 + v2)))]) [1, 2, 3, 4, 0, 5, 6, 7, 8, 9, 10, 11, 12, 13, 14] dX6_pays_205 rfl (by decide) rfl rfl ?_
                    refine aw_aload_n (q := 208) 0 dX6_pays_207 rfl rfl rfl ?_
                    refine g_mod_coins (q := 211) wf_RX6_25 dX6_pays_208 rfl ?_
                    refine aw_iconst (q := 212) dX6_pays_211 rfl ?_
                    refine aw_iload (q := 214) 13 dX6_pays_212 rfl rfl ?_
                    refine aw_iconst (q := 215) dX6_pays_214 rfl ?_
                    obtain ⟨d3, hd3⟩ : ∃ z, ((a - 50 * f - 20 * t - 10 * h1) / 5) = z := ⟨_, rfl⟩
                    refine aw_div5 (q := 216) (z := d3) (by omega) (by omega) hd3 dX6_pays_215 rfl ?_
                    refine aw_cias (q := 217) 0 (ar_114 ad C) (by omega) (by omega) dX6_pays_216 rfl ?_
                    refine aw_aload_n (q := 218) 0 dX6_pays_217 rfl rfl rfl ?_
                    refine g_mod_coins (q := 221) wf_RX6_25 dX6_pays_218 rfl ?_
                    refine aw_iconst (q := 222) dX6_pays_221 rfl ?_
                    refine aw_iload (q := 224) 12 dX6_pays_222 rfl rfl ?_
                    refine aw_cias (q := 225) 1 (ar_114 ad C) (by omega) (by omega) dX6_pays_224 rfl ?_
                    refine aw_aload_n (q := 226) 0 dX6_pays_225 rfl rfl rfl ?_
                    refine g_mod_coins (q := 229) wf_RX6_25 dX6_pays_226 rfl ?_
                    refine aw_iconst (q := 230) dX6_pays_229 rfl ?_
                    refine aw_iload (q := 232) 10 dX6_pays_230 rfl rfl ?_
                    refine aw_cias (q := 233) 2 (ar_114 ad C) (by omega) (by omega) dX6_pays_232 rfl ?_
                    refine aw_aload_n (q := 234) 0 dX6_pays_233 rfl rfl rfl ?_
                    refine g_mod_coins (q := 237) wf_RX6_25 dX6_pays_234 rfl ?_
                    refine aw_iconst (q := 238) dX6_pays_237 rfl ?_
                    refine aw_iload (q := 240) 9 dX6_pays_238 rfl rfl ?_
                    refine aw_cias (q := 241) 3 (ar_114 ad C) (by omega) (by omega) dX6_pays_240 rfl ?_
                    refine ae_iinc (q := 244) (lv2 := [(0, .ref (ad 108)), (1, .int (iI a)), (2, .int (iI w)), (3, .int (iI m)), (4, .int (iI (f + t + h1 + v2))), (5, .int (iI h0)), (6, .int (iI h1)), (7, .int (iI h2)), (8, .int (iI h3)), (9, .int (iI f)), (10, .int (iI (t - 1))), (11, .int (iI (a - 50 * f - 20 * t))), (12, .int (iI h1)), (13, .int (iI (a - 50 * f - 20 * t - 10 * h1))), (14, .int (iI (f + t + h1 + v2)))]) 10 [1, 2, 3, 4, 5, 6, 7, 8, 9, 10, 0, 11, 12, 13, 14] (t - 1) (by omega) dX6_pays_241 rfl rfl (by decide) rfl ?_
                    refine aw_goto (q := 94) dX6_pays_244 (by decide) ?_
                    refine aw_sub [0, 1, 2, 3, 4, 5, 6, 7, 8, 9, 10] rfl ?_
                    have e9 := py_yes (K1 := setG (setG (setG (setG K 17 0 d3) 17 1 h1) 17 2 t) 17 3 f) (L := a - 50 * f - 20 * t) (n := h1) (r := a - 50 * f - 20 * t - 10 * h1) ⟨b0.1, b1.1, b2.1⟩ hf.1 (by omega) (by omega) (fun _ => by omega) (by omega) (by omega) (by omega) (by omega) (by omega) (by omega) hI (((setG_ne (by omega)).trans ((setG_ne (by omega)).trans ((setG_ne (by omega)).trans (setG_same _ _ _ _)))).trans (by omega)) (((setG_ne (by omega)).trans ((setG_ne (by omega)).trans (setG_same _ _ _ _)))) (((setG_ne (by omega)).trans (setG_same _ _ _ _))) ((setG_same _ _ _ _))
                    rw [show f + (t) + h1 + (a - 50 * f - 20 * t - 10 * h1) / 5 = f + t + h1 + v2 by omega] at e9
                    exact ih (t - 1) _ _ (by omega) (by omega) (fun x y z => ((setG_ne (by omega)).trans ((setG_ne (by omega)).trans ((setG_ne (by omega)).trans ((setG_ne (by omega)).trans (hs x y z)))))) e9 kO
        · refine aw_iload (q := 135) 11 dX6_pays_133 rfl rfl ?_
          refine aw_bipush (q := 137) dX6_pays_135 rfl (by decide) ?_
          refine aw_divA (q := 138) (by omega) dX6_pays_137 rfl (fun v4 hv4 => ?_)
          refine aw_goto (q := 143) dX6_pays_138 (by decide) ?_
          refine aw_istore (q := 145) (lv2 := [(0, .ref (ad 108)), (1, .int (iI a)), (2, .int (iI w)), (3, .int (iI m)), (4, .int (iI fw)), (5, .int (iI h0)), (6, .int (iI h1)), (7, .int (iI h2)), (8, .int (iI h3)), (9, .int (iI f)), (10, .int (iI t)), (11, .int (iI (a - 50 * f - 20 * t))), (12, .int (iI v4))]) [1, 2, 3, 4, 5, 6, 7, 8, 9, 10, 11, 12, 0] dX6_pays_143 rfl (by decide) rfl rfl ?_
          refine aw_iload (q := 147) 11 dX6_pays_145 rfl rfl ?_
          refine aw_bipush (q := 149) dX6_pays_147 rfl (by decide) ?_
          refine aw_iload (q := 151) 12 dX6_pays_149 rfl rfl ?_
          refine ae_imul (q := 152) (10 * v4) (by omega) dX6_pays_151 rfl ?_
          refine ae_isub (q := 153) (a - 50 * f - 20 * t - 10 * v4) (by omega) dX6_pays_152 rfl ?_
          refine aw_istore (q := 155) (lv2 := [(0, .ref (ad 108)), (1, .int (iI a)), (2, .int (iI w)), (3, .int (iI m)), (4, .int (iI fw)), (5, .int (iI h0)), (6, .int (iI h1)), (7, .int (iI h2)), (8, .int (iI h3)), (9, .int (iI f)), (10, .int (iI t)), (11, .int (iI (a - 50 * f - 20 * t))), (12, .int (iI v4)), (13, .int (iI (a - 50 * f - 20 * t - 10 * v4)))]) [1, 2, 3, 4, 5, 6, 7, 8, 9, 10, 11, 12, 13, 0] dX6_pays_153 rfl (by decide) rfl rfl ?_
          refine aw_iload (q := 157) 9 dX6_pays_155 rfl rfl ?_
          refine aw_iload (q := 159) 10 dX6_pays_157 rfl rfl ?_
          refine ae_iadd (q := 160) (f + t) (by omega) dX6_pays_159 rfl ?_
          refine aw_iload (q := 162) 12 dX6_pays_160 rfl rfl ?_
          refine ae_iadd (q := 163) (f + t + v4) (by omega) dX6_pays_162 rfl ?_
          refine aw_iload (q := 165) 13 dX6_pays_163 rfl rfl ?_
          refine aw_iconst (q := 166) dX6_pays_165 rfl ?_
          refine aw_divA (q := 167) (by omega) dX6_pays_166 rfl (fun v5 hv5 => ?_)
          refine ae_iadd (q := 168) (f + t + v4 + v5) (by omega) dX6_pays_167 rfl ?_
          refine aw_istore (q := 170) (lv2 := [(0, .ref (ad 108)), (1, .int (iI a)), (2, .int (iI w)), (3, .int (iI m)), (4, .int (iI fw)), (5, .int (iI h0)), (6, .int (iI h1)), (7, .int (iI h2)), (8, .int (iI h3)), (9, .int (iI f)), (10, .int (iI t)), (11, .int (iI (a - 50 * f - 20 * t))), (12, .int (iI v4)), (13, .int (iI (a - 50 * f - 20 * t - 10 * v4))), (14, .int (iI (f + t + v4 + v5)))]) [1, 2, 3, 4, 5, 6, 7, 8, 9, 10, 11, 12, 13, 14, 0] dX6_pays_168 rfl (by decide) rfl rfl ?_
          refine aw_iload (q := 172) 11 dX6_pays_170 rfl rfl ?_
          refine aw_if_lt (q := 175) dX6_pays_172 rfl (t := 241) (by decide) (by omega) (fun y17 => ?_) (fun y18 => ?_)
          · refine ae_iinc (q := 244) (lv2 := [(0, .ref (ad 108)), (1, .int (iI a)), (2, .int (iI w)), (3, .int (iI m)), (4, .int (iI fw)), (5, .int (iI h0)), (6, .int (iI h1)), (7, .int (iI h2)), (8, .int (iI h3)), (9, .int (iI f)), (10, .int (iI (t - 1))), (11, .int (iI (a - 50 * f - 20 * t))), (12, .int (iI v4)), (13, .int (iI (a - 50 * f - 20 * t - 10 * v4))), (14, .int (iI (f + t + v4 + v5)))]) 10 [1, 2, 3, 4, 5, 6, 7, 8, 9, 10, 0, 11, 12, 13, 14] (t - 1) (by omega) dX6_pays_241 rfl rfl (by decide) rfl ?_
            refine aw_goto (q := 94) dX6_pays_244 (by decide) ?_
            refine aw_sub [0, 1, 2, 3, 4, 5, 6, 7, 8, 9, 10] rfl ?_
            exact ih (t - 1) _ _ (by omega) (by omega) hs (py_no (L := a - 50 * f - 20 * t) (n := v4) (r := a - 50 * f - 20 * t - 10 * v4) hf.1 (by omega) (by omega) (fun _ => by omega) (by omega) (by omega) hI) kO
          · refine aw_iload (q := 177) 13 dX6_pays_175 rfl rfl ?_
            refine aw_iconst (q := 178) dX6_pays_177 rfl ?_
            obtain ⟨d4, hd4⟩ : ∃ z, ((a - 50 * f - 20 * t - 10 * v4) % 5) = z := ⟨_, rfl⟩
            refine aw_rem5 (q := 179) (z := d4) (by omega) (by omega) hd4 dX6_pays_178 rfl ?_
            refine aw_if_ne (q := 182) dX6_pays_179 rfl (t := 241) (by decide) (by omega) (fun y19 => ?_) (fun y20 => ?_)
            · refine ae_iinc (q := 244) (lv2 := [(0, .ref (ad 108)), (1, .int (iI a)), (2, .int (iI w)), (3, .int (iI m)), (4, .int (iI fw)), (5, .int (iI h0)), (6, .int (iI h1)), (7, .int (iI h2)), (8, .int (iI h3)), (9, .int (iI f)), (10, .int (iI (t - 1))), (11, .int (iI (a - 50 * f - 20 * t))), (12, .int (iI v4)), (13, .int (iI (a - 50 * f - 20 * t - 10 * v4))), (14, .int (iI (f + t + v4 + v5)))]) 10 [1, 2, 3, 4, 5, 6, 7, 8, 9, 10, 0, 11, 12, 13, 14] (t - 1) (by omega) dX6_pays_241 rfl rfl (by decide) rfl ?_
              refine aw_goto (q := 94) dX6_pays_244 (by decide) ?_
              refine aw_sub [0, 1, 2, 3, 4, 5, 6, 7, 8, 9, 10] rfl ?_
              exact ih (t - 1) _ _ (by omega) (by omega) hs (py_no (L := a - 50 * f - 20 * t) (n := v4) (r := a - 50 * f - 20 * t - 10 * v4) hf.1 (by omega) (by omega) (fun _ => by omega) (by omega) (by omega) hI) kO
            · refine aw_iload (q := 184) 13 dX6_pays_182 rfl rfl ?_
              refine aw_iconst (q := 185) dX6_pays_184 rfl ?_
              refine aw_divA (q := 186) (by omega) dX6_pays_185 rfl (fun v6 hv6 => ?_)
              refine aw_iload (q := 188) 5 dX6_pays_186 rfl rfl ?_
              refine aw_icmp_gt (q := 191) dX6_pays_188 rfl (t := 241) (by decide) (by omega) (by omega) (fun y21 => ?_) (fun y22 => ?_)
              · refine ae_iinc (q := 244) (lv2 := [(0, .ref (ad 108)), (1, .int (iI a)), (2, .int (iI w)), (3, .int (iI m)), (4, .int (iI fw)), (5, .int (iI h0)), (6, .int (iI h1)), (7, .int (iI h2)), (8, .int (iI h3)), (9, .int (iI f)), (10, .int (iI (t - 1))), (11, .int (iI (a - 50 * f - 20 * t))), (12, .int (iI v4)), (13, .int (iI (a - 50 * f - 20 * t - 10 * v4))), (14, .int (iI (f + t + v4 + v5)))]) 10 [1, 2, 3, 4, 5, 6, 7, 8, 9, 10, 0, 11, 12, 13, 14] (t - 1) (by omega) dX6_pays_241 rfl rfl (by decide) rfl ?_
                refine aw_goto (q := 94) dX6_pays_244 (by decide) ?_
                refine aw_sub [0, 1, 2, 3, 4, 5, 6, 7, 8, 9, 10] rfl ?_
                exact ih (t - 1) _ _ (by omega) (by omega) hs (py_no (L := a - 50 * f - 20 * t) (n := v4) (r := a - 50 * f - 20 * t - 10 * v4) hf.1 (by omega) (by omega) (fun _ => by omega) (by omega) (by omega) hI) kO
              · refine aw_iload (q := 193) 4 dX6_pays_191 rfl rfl ?_
                refine aw_if_lt (q := 196) dX6_pays_193 rfl (t := 203) (by decide) (by omega) (fun y23 => ?_) (fun y24 => ?_)
                · refine aw_iload (q := 205) 14 dX6_pays_203 rfl rfl ?_
                  refine aw_istore (q := 207) (lv2 := [(0, .ref (ad 108)), (1, .int (iI a)), (2, .int (iI w)), (3, .int (iI m)), (4, .int (iI (f + t + v4 + v5))), (5, .int (iI h0)), (6, .int (iI h1)), (7, .int (iI h2)), (8, .int (iI h3)), (9, .int (iI f)), (10, .int (iI t)), (11, .int (iI (a - 50 * f - 20 * t))), (12, .int (iI v4)), (13, .int (iI (a - 50 * f - 20 * t - 10 * v4))), (14, .int (iI (f + t + v4 + v5)))]) [1, 2, 3, 4, 0, 5, 6, 7, 8, 9, 10, 11, 12, 13, 14] dX6_pays_205 rfl (by decide) rfl rfl ?_
                  refine aw_aload_n (q := 208) 0 dX6_pays_207 rfl rfl rfl ?_
                  refine g_mod_coins (q := 211) wf_RX6_25 dX6_pays_208 rfl ?_
                  refine aw_iconst (q := 212) dX6_pays_211 rfl ?_
                  refine aw_iload (q := 214) 13 dX6_pays_212 rfl rfl ?_
                  refine aw_iconst (q := 215) dX6_pays_214 rfl ?_
                  obtain ⟨d5, hd5⟩ : ∃ z, ((a - 50 * f - 20 * t - 10 * v4) / 5) = z := ⟨_, rfl⟩
                  refine aw_div5 (q := 216) (z := d5) (by omega) (by omega) hd5 dX6_pays_215 rfl ?_
                  refine aw_cias (q := 217) 0 (ar_114 ad C) (by omega) (by omega) dX6_pays_216 rfl ?_
                  refine aw_aload_n (q := 218) 0 dX6_pays_217 rfl rfl rfl ?_
                  refine g_mod_coins (q := 221) wf_RX6_25 dX6_pays_218 rfl ?_
                  refine aw_iconst (q := 222) dX6_pays_221 rfl ?_
                  refine aw_iload (q := 224) 12 dX6_pays_222 rfl rfl ?_
                  refine aw_cias (q := 225) 1 (ar_114 ad C) (by omega) (by omega) dX6_pays_224 rfl ?_
                  refine aw_aload_n (q := 226) 0 dX6_pays_225 rfl rfl rfl ?_
                  refine g_mod_coins (q := 229) wf_RX6_25 dX6_pays_226 rfl ?_
                  refine aw_iconst (q := 230) dX6_pays_229 rfl ?_
                  refine aw_iload (q := 232) 10 dX6_pays_230 rfl rfl ?_
                  refine aw_cias (q := 233) 2 (ar_114 ad C) (by omega) (by omega) dX6_pays_232 rfl ?_
                  refine aw_aload_n (q := 234) 0 dX6_pays_233 rfl rfl rfl ?_
                  refine g_mod_coins (q := 237) wf_RX6_25 dX6_pays_234 rfl ?_
                  refine aw_iconst (q := 238) dX6_pays_237 rfl ?_
                  refine aw_iload (q := 240) 9 dX6_pays_238 rfl rfl ?_
                  refine aw_cias (q := 241) 3 (ar_114 ad C) (by omega) (by omega) dX6_pays_240 rfl ?_
                  refine ae_iinc (q := 244) (lv2 := [(0, .ref (ad 108)), (1, .int (iI a)), (2, .int (iI w)), (3, .int (iI m)), (4, .int (iI (f + t + v4 + v5))), (5, .int (iI h0)), (6, .int (iI h1)), (7, .int (iI h2)), (8, .int (iI h3)), (9, .int (iI f)), (10, .int (iI (t - 1))), (11, .int (iI (a - 50 * f - 20 * t))), (12, .int (iI v4)), (13, .int (iI (a - 50 * f - 20 * t - 10 * v4))), (14, .int (iI (f + t + v4 + v5)))]) 10 [1, 2, 3, 4, 5, 6, 7, 8, 9, 10, 0, 11, 12, 13, 14] (t - 1) (by omega) dX6_pays_241 rfl rfl (by decide) rfl ?_
                  refine aw_goto (q := 94) dX6_pays_244 (by decide) ?_
                  refine aw_sub [0, 1, 2, 3, 4, 5, 6, 7, 8, 9, 10] rfl ?_
                  have e9 := py_yes (K1 := setG (setG (setG (setG K 17 0 d5) 17 1 v4) 17 2 t) 17 3 f) (L := a - 50 * f - 20 * t) (n := v4) (r := a - 50 * f - 20 * t - 10 * v4) ⟨b0.1, b1.1, b2.1⟩ hf.1 (by omega) (by omega) (fun _ => by omega) (by omega) (by omega) (by omega) (by omega) (by omega) (by omega) hI (((setG_ne (by omega)).trans ((setG_ne (by omega)).trans ((setG_ne (by omega)).trans (setG_same _ _ _ _)))).trans (by omega)) (((setG_ne (by omega)).trans ((setG_ne (by omega)).trans (setG_same _ _ _ _)))) (((setG_ne (by omega)).trans (setG_same _ _ _ _))) ((setG_same _ _ _ _))
                  rw [show f + (t) + v4 + (a - 50 * f - 20 * t - 10 * v4) / 5 = f + t + v4 + v5 by omega] at e9
                  exact ih (t - 1) _ _ (by omega) (by omega) (fun x y z => ((setG_ne (by omega)).trans ((setG_ne (by omega)).trans ((setG_ne (by omega)).trans ((setG_ne (by omega)).trans (hs x y z)))))) e9 kO
                · refine aw_iload (q := 198) 14 dX6_pays_196 rfl rfl ?_
                  refine aw_iload (q := 200) 4 dX6_pays_198 rfl rfl ?_
                  refine aw_icmp_ge (q := 203) dX6_pays_200 rfl (t := 241) (by decide) (by omega) (by omega) (fun y25 => ?_) (fun y26 => ?_)
                  · refine ae_iinc (q := 244) (lv2 := [(0, .ref (ad 108)), (1, .int (iI a)), (2, .int (iI w)), (3, .int (iI m)), (4, .int (iI fw)), (5, .int (iI h0)), (6, .int (iI h1)), (7, .int (iI h2)), (8, .int (iI h3)), (9, .int (iI f)), (10, .int (iI (t - 1))), (11, .int (iI (a - 50 * f - 20 * t))), (12, .int (iI v4)), (13, .int (iI (a - 50 * f - 20 * t - 10 * v4))), (14, .int (iI (f + t + v4 + v5)))]) 10 [1, 2, 3, 4, 5, 6, 7, 8, 9, 10, 0, 11, 12, 13, 14] (t - 1) (by omega) dX6_pays_241 rfl rfl (by decide) rfl ?_
                    refine aw_goto (q := 94) dX6_pays_244 (by decide) ?_
                    refine aw_sub [0, 1, 2, 3, 4, 5, 6, 7, 8, 9, 10] rfl ?_
                    exact ih (t - 1) _ _ (by omega) (by omega) hs (py_no (L := a - 50 * f - 20 * t) (n := v4) (r := a - 50 * f - 20 * t - 10 * v4) hf.1 (by omega) (by omega) (fun _ => by omega) (by omega) (by omega) hI) kO
                  · refine aw_iload (q := 205) 14 dX6_pays_203 rfl rfl ?_
                    refine aw_istore (q := 207) (lv2 := [(0, .ref (ad 108)), (1, .int (iI a)), (2, .int (iI w)), (3, .int (iI m)), (4, .int (iI (f + t + v4 + v5))), (5, .int (iI h0)), (6, .int (iI h1)), (7, .int (iI h2)), (8, .int (iI h3)), (9, .int (iI f)), (10, .int (iI t)), (11, .int (iI (a - 50 * f - 20 * t))), (12, .int (iI v4)), (13, .int (iI (a - 50 * f - 20 * t - 10 * v4))), (14, .int (iI (f + t + v4 + v5)))]) [1, 2, 3, 4, 0, 5, 6, 7, 8, 9, 10, 11, 12, 13, 14] dX6_pays_205 rfl (by decide) rfl rfl ?_
                    refine aw_aload_n (q := 208) 0 dX6_pays_207 rfl rfl rfl ?_
                    refine g_mod_coins (q := 211) wf_RX6_25 dX6_pays_208 rfl ?_
                    refine aw_iconst (q := 212) dX6_pays_211 rfl ?_
                    refine aw_iload (q := 214) 13 dX6_pays_212 rfl rfl ?_
                    refine aw_iconst (q := 215) dX6_pays_214 rfl ?_
                    obtain ⟨d6, hd6⟩ : ∃ z, ((a - 50 * f - 20 * t - 10 * v4) / 5) = z := ⟨_, rfl⟩
                    refine aw_div5 (q := 216) (z := d6) (by omega) (by omega) hd6 dX6_pays_215 rfl ?_
                    refine aw_cias (q := 217) 0 (ar_114 ad C) (by omega) (by omega) dX6_pays_216 rfl ?_
                    refine aw_aload_n (q := 218) 0 dX6_pays_217 rfl rfl rfl ?_
                    refine g_mod_coins (q := 221) wf_RX6_25 dX6_pays_218 rfl ?_
                    refine aw_iconst (q := 222) dX6_pays_221 rfl ?_
                    refine aw_iload (q := 224) 12 dX6_pays_222 rfl rfl ?_
                    refine aw_cias (q := 225) 1 (ar_114 ad C) (by omega) (by omega) dX6_pays_224 rfl ?_
                    refine aw_aload_n (q := 226) 0 dX6_pays_225 rfl rfl rfl ?_
                    refine g_mod_coins (q := 229) wf_RX6_25 dX6_pays_226 rfl ?_
                    refine aw_iconst (q := 230) dX6_pays_229 rfl ?_
                    refine aw_iload (q := 232) 10 dX6_pays_230 rfl rfl ?_
                    refine aw_cias (q := 233) 2 (ar_114 ad C) (by omega) (by omega) dX6_pays_232 rfl ?_
                    refine aw_aload_n (q := 234) 0 dX6_pays_233 rfl rfl rfl ?_
                    refine g_mod_coins (q := 237) wf_RX6_25 dX6_pays_234 rfl ?_
                    refine aw_iconst (q := 238) dX6_pays_237 rfl ?_
                    refine aw_iload (q := 240) 9 dX6_pays_238 rfl rfl ?_
                    refine aw_cias (q := 241) 3 (ar_114 ad C) (by omega) (by omega) dX6_pays_240 rfl ?_
                    refine ae_iinc (q := 244) (lv2 := [(0, .ref (ad 108)), (1, .int (iI a)), (2, .int (iI w)), (3, .int (iI m)), (4, .int (iI (f + t + v4 + v5))), (5, .int (iI h0)), (6, .int (iI h1)), (7, .int (iI h2)), (8, .int (iI h3)), (9, .int (iI f)), (10, .int (iI (t - 1))), (11, .int (iI (a - 50 * f - 20 * t))), (12, .int (iI v4)), (13, .int (iI (a - 50 * f - 20 * t - 10 * v4))), (14, .int (iI (f + t + v4 + v5)))]) 10 [1, 2, 3, 4, 5, 6, 7, 8, 9, 10, 0, 11, 12, 13, 14] (t - 1) (by omega) dX6_pays_241 rfl rfl (by decide) rfl ?_
                    refine aw_goto (q := 94) dX6_pays_244 (by decide) ?_
                    refine aw_sub [0, 1, 2, 3, 4, 5, 6, 7, 8, 9, 10] rfl ?_
                    have e9 := py_yes (K1 := setG (setG (setG (setG K 17 0 d6) 17 1 v4) 17 2 t) 17 3 f) (L := a - 50 * f - 20 * t) (n := v4) (r := a - 50 * f - 20 * t - 10 * v4) ⟨b0.1, b1.1, b2.1⟩ hf.1 (by omega) (by omega) (fun _ => by omega) (by omega) (by omega) (by omega) (by omega) (by omega) (by omega) hI (((setG_ne (by omega)).trans ((setG_ne (by omega)).trans ((setG_ne (by omega)).trans (setG_same _ _ _ _)))).trans (by omega)) (((setG_ne (by omega)).trans ((setG_ne (by omega)).trans (setG_same _ _ _ _)))) (((setG_ne (by omega)).trans (setG_same _ _ _ _))) ((setG_same _ _ _ _))
                    rw [show f + (t) + v4 + (a - 50 * f - 20 * t - 10 * v4) / 5 = f + t + v4 + v5 by omega] at e9
                    exact ih (t - 1) _ _ (by omega) (by omega) (fun x y z => ((setG_ne (by omega)).trans ((setG_ne (by omega)).trans ((setG_ne (by omega)).trans ((setG_ne (by omega)).trans (hs x y z)))))) e9 kO
      · refine aw_iconst (q := 120) dX6_pays_119 rfl ?_
        refine aw_goto (q := 143) dX6_pays_120 (by decide) ?_
        refine aw_istore (q := 145) (lv2 := [(0, .ref (ad 108)), (1, .int (iI a)), (2, .int (iI w)), (3, .int (iI m)), (4, .int (iI fw)), (5, .int (iI h0)), (6, .int (iI h1)), (7, .int (iI h2)), (8, .int (iI h3)), (9, .int (iI f)), (10, .int (iI t)), (11, .int (iI (a - 50 * f - 20 * t))), (12, .int (iI 0))]) [1, 2, 3, 4, 5, 6, 7, 8, 9, 10, 11, 12, 0] dX6_pays_143 rfl (by decide) rfl rfl ?_
        refine aw_iload (q := 147) 11 dX6_pays_145 rfl rfl ?_
        refine aw_bipush (q := 149) dX6_pays_147 rfl (by decide) ?_
        refine aw_iload (q := 151) 12 dX6_pays_149 rfl rfl ?_
        refine ae_imul (q := 152) 0 (by omega) dX6_pays_151 rfl ?_
        refine ae_isub (q := 153) (a - 50 * f - 20 * t) (by omega) dX6_pays_152 rfl ?_
        refine aw_istore (q := 155) (lv2 := [(0, .ref (ad 108)), (1, .int (iI a)), (2, .int (iI w)), (3, .int (iI m)), (4, .int (iI fw)), (5, .int (iI h0)), (6, .int (iI h1)), (7, .int (iI h2)), (8, .int (iI h3)), (9, .int (iI f)), (10, .int (iI t)), (11, .int (iI (a - 50 * f - 20 * t))), (12, .int (iI 0)), (13, .int (iI (a - 50 * f - 20 * t)))]) [1, 2, 3, 4, 5, 6, 7, 8, 9, 10, 11, 12, 13, 0] dX6_pays_153 rfl (by decide) rfl rfl ?_
        refine aw_iload (q := 157) 9 dX6_pays_155 rfl rfl ?_
        refine aw_iload (q := 159) 10 dX6_pays_157 rfl rfl ?_
        refine ae_iadd (q := 160) (f + t) (by omega) dX6_pays_159 rfl ?_
        refine aw_iload (q := 162) 12 dX6_pays_160 rfl rfl ?_
        refine ae_iadd (q := 163) (f + t) (by omega) dX6_pays_162 rfl ?_
        refine aw_iload (q := 165) 13 dX6_pays_163 rfl rfl ?_
        refine aw_iconst (q := 166) dX6_pays_165 rfl ?_
        refine aw_divA (q := 167) (by omega) dX6_pays_166 rfl (fun v7 hv7 => ?_)
        refine ae_iadd (q := 168) (f + t + v7) (by omega) dX6_pays_167 rfl ?_
        refine aw_istore (q := 170) (lv2 := [(0, .ref (ad 108)), (1, .int (iI a)), (2, .int (iI w)), (3, .int (iI m)), (4, .int (iI fw)), (5, .int (iI h0)), (6, .int (iI h1)), (7, .int (iI h2)), (8, .int (iI h3)), (9, .int (iI f)), (10, .int (iI t)), (11, .int (iI (a - 50 * f - 20 * t))), (12, .int (iI 0)), (13, .int (iI (a - 50 * f - 20 * t))), (14, .int (iI (f + t + v7)))]) [1, 2, 3, 4, 5, 6, 7, 8, 9, 10, 11, 12, 13, 14, 0] dX6_pays_168 rfl (by decide) rfl rfl ?_
        refine aw_iload (q := 172) 11 dX6_pays_170 rfl rfl ?_
        refine aw_if_lt (q := 175) dX6_pays_172 rfl (t := 241) (by decide) (by omega) (fun y27 => ?_) (fun y28 => ?_)
        · refine ae_iinc (q := 244) (lv2 := [(0, .ref (ad 108)), (1, .int (iI a)), (2, .int (iI w)), (3, .int (iI m)), (4, .int (iI fw)), (5, .int (iI h0)), (6, .int (iI h1)), (7, .int (iI h2)), (8, .int (iI h3)), (9, .int (iI f)), (10, .int (iI (t - 1))), (11, .int (iI (a - 50 * f - 20 * t))), (12, .int (iI 0)), (13, .int (iI (a - 50 * f - 20 * t))), (14, .int (iI (f + t + v7)))]) 10 [1, 2, 3, 4, 5, 6, 7, 8, 9, 10, 0, 11, 12, 13, 14] (t - 1) (by omega) dX6_pays_241 rfl rfl (by decide) rfl ?_
          refine aw_goto (q := 94) dX6_pays_244 (by decide) ?_
          refine aw_sub [0, 1, 2, 3, 4, 5, 6, 7, 8, 9, 10] rfl ?_
          exact ih (t - 1) _ _ (by omega) (by omega) hs (py_no (L := a - 50 * f - 20 * t) (n := 0) (r := a - 50 * f - 20 * t) hf.1 (by omega) (by omega) (fun _ => by omega) (by omega) (by omega) hI) kO
        · refine aw_iload (q := 177) 13 dX6_pays_175 rfl rfl ?_
          refine aw_iconst (q := 178) dX6_pays_177 rfl ?_
          obtain ⟨d7, hd7⟩ : ∃ z, ((a - 50 * f - 20 * t) % 5) = z := ⟨_, rfl⟩
          refine aw_rem5 (q := 179) (z := d7) (by omega) (by omega) hd7 dX6_pays_178 rfl ?_
          refine aw_if_ne (q := 182) dX6_pays_179 rfl (t := 241) (by decide) (by omega) (fun y29 => ?_) (fun y30 => ?_)
          · refine ae_iinc (q := 244) (lv2 := [(0, .ref (ad 108)), (1, .int (iI a)), (2, .int (iI w)), (3, .int (iI m)), (4, .int (iI fw)), (5, .int (iI h0)), (6, .int (iI h1)), (7, .int (iI h2)), (8, .int (iI h3)), (9, .int (iI f)), (10, .int (iI (t - 1))), (11, .int (iI (a - 50 * f - 20 * t))), (12, .int (iI 0)), (13, .int (iI (a - 50 * f - 20 * t))), (14, .int (iI (f + t + v7)))]) 10 [1, 2, 3, 4, 5, 6, 7, 8, 9, 10, 0, 11, 12, 13, 14] (t - 1) (by omega) dX6_pays_241 rfl rfl (by decide) rfl ?_
            refine aw_goto (q := 94) dX6_pays_244 (by decide) ?_
            refine aw_sub [0, 1, 2, 3, 4, 5, 6, 7, 8, 9, 10] rfl ?_
            exact ih (t - 1) _ _ (by omega) (by omega) hs (py_no (L := a - 50 * f - 20 * t) (n := 0) (r := a - 50 * f - 20 * t) hf.1 (by omega) (by omega) (fun _ => by omega) (by omega) (by omega) hI) kO
          · refine aw_iload (q := 184) 13 dX6_pays_182 rfl rfl ?_
            refine aw_iconst (q := 185) dX6_pays_184 rfl ?_
            refine aw_divA (q := 186) (by omega) dX6_pays_185 rfl (fun v8 hv8 => ?_)
            refine aw_iload (q := 188) 5 dX6_pays_186 rfl rfl ?_
            refine aw_icmp_gt (q := 191) dX6_pays_188 rfl (t := 241) (by decide) (by omega) (by omega) (fun y31 => ?_) (fun y32 => ?_)
            · refine ae_iinc (q := 244) (lv2 := [(0, .ref (ad 108)), (1, .int (iI a)), (2, .int (iI w)), (3, .int (iI m)), (4, .int (iI fw)), (5, .int (iI h0)), (6, .int (iI h1)), (7, .int (iI h2)), (8, .int (iI h3)), (9, .int (iI f)), (10, .int (iI (t - 1))), (11, .int (iI (a - 50 * f - 20 * t))), (12, .int (iI 0)), (13, .int (iI (a - 50 * f - 20 * t))), (14, .int (iI (f + t + v7)))]) 10 [1, 2, 3, 4, 5, 6, 7, 8, 9, 10, 0, 11, 12, 13, 14] (t - 1) (by omega) dX6_pays_241 rfl rfl (by decide) rfl ?_
              refine aw_goto (q := 94) dX6_pays_244 (by decide) ?_
              refine aw_sub [0, 1, 2, 3, 4, 5, 6, 7, 8, 9, 10] rfl ?_
              exact ih (t - 1) _ _ (by omega) (by omega) hs (py_no (L := a - 50 * f - 20 * t) (n := 0) (r := a - 50 * f - 20 * t) hf.1 (by omega) (by omega) (fun _ => by omega) (by omega) (by omega) hI) kO
            · refine aw_iload (q := 193) 4 dX6_pays_191 rfl rfl ?_
              refine aw_if_lt (q := 196) dX6_pays_193 rfl (t := 203) (by decide) (by omega) (fun y33 => ?_) (fun y34 => ?_)
              · refine aw_iload (q := 205) 14 dX6_pays_203 rfl rfl ?_
                refine aw_istore (q := 207) (lv2 := [(0, .ref (ad 108)), (1, .int (iI a)), (2, .int (iI w)), (3, .int (iI m)), (4, .int (iI (f + t + v7))), (5, .int (iI h0)), (6, .int (iI h1)), (7, .int (iI h2)), (8, .int (iI h3)), (9, .int (iI f)), (10, .int (iI t)), (11, .int (iI (a - 50 * f - 20 * t))), (12, .int (iI 0)), (13, .int (iI (a - 50 * f - 20 * t))), (14, .int (iI (f + t + v7)))]) [1, 2, 3, 4, 0, 5, 6, 7, 8, 9, 10, 11, 12, 13, 14] dX6_pays_205 rfl (by decide) rfl rfl ?_
                refine aw_aload_n (q := 208) 0 dX6_pays_207 rfl rfl rfl ?_
                refine g_mod_coins (q := 211) wf_RX6_25 dX6_pays_208 rfl ?_
                refine aw_iconst (q := 212) dX6_pays_211 rfl ?_
                refine aw_iload (q := 214) 13 dX6_pays_212 rfl rfl ?_
                refine aw_iconst (q := 215) dX6_pays_214 rfl ?_
                obtain ⟨d8, hd8⟩ : ∃ z, ((a - 50 * f - 20 * t) / 5) = z := ⟨_, rfl⟩
                refine aw_div5 (q := 216) (z := d8) (by omega) (by omega) hd8 dX6_pays_215 rfl ?_
                refine aw_cias (q := 217) 0 (ar_114 ad C) (by omega) (by omega) dX6_pays_216 rfl ?_
                refine aw_aload_n (q := 218) 0 dX6_pays_217 rfl rfl rfl ?_
                refine g_mod_coins (q := 221) wf_RX6_25 dX6_pays_218 rfl ?_
                refine aw_iconst (q := 222) dX6_pays_221 rfl ?_
                refine aw_iload (q := 224) 12 dX6_pays_222 rfl rfl ?_
                refine aw_cias (q := 225) 1 (ar_114 ad C) (by omega) (by omega) dX6_pays_224 rfl ?_
                refine aw_aload_n (q := 226) 0 dX6_pays_225 rfl rfl rfl ?_
                refine g_mod_coins (q := 229) wf_RX6_25 dX6_pays_226 rfl ?_
                refine aw_iconst (q := 230) dX6_pays_229 rfl ?_
                refine aw_iload (q := 232) 10 dX6_pays_230 rfl rfl ?_
                refine aw_cias (q := 233) 2 (ar_114 ad C) (by omega) (by omega) dX6_pays_232 rfl ?_
                refine aw_aload_n (q := 234) 0 dX6_pays_233 rfl rfl rfl ?_
                refine g_mod_coins (q := 237) wf_RX6_25 dX6_pays_234 rfl ?_
                refine aw_iconst (q := 238) dX6_pays_237 rfl ?_
                refine aw_iload (q := 240) 9 dX6_pays_238 rfl rfl ?_
                refine aw_cias (q := 241) 3 (ar_114 ad C) (by omega) (by omega) dX6_pays_240 rfl ?_
                refine ae_iinc (q := 244) (lv2 := [(0, .ref (ad 108)), (1, .int (iI a)), (2, .int (iI w)), (3, .int (iI m)), (4, .int (iI (f + t + v7))), (5, .int (iI h0)), (6, .int (iI h1)), (7, .int (iI h2)), (8, .int (iI h3)), (9, .int (iI f)), (10, .int (iI (t - 1))), (11, .int (iI (a - 50 * f - 20 * t))), (12, .int (iI 0)), (13, .int (iI (a - 50 * f - 20 * t))), (14, .int (iI (f + t + v7)))]) 10 [1, 2, 3, 4, 5, 6, 7, 8, 9, 10, 0, 11, 12, 13, 14] (t - 1) (by omega) dX6_pays_241 rfl rfl (by decide) rfl ?_
                refine aw_goto (q := 94) dX6_pays_244 (by decide) ?_
                refine aw_sub [0, 1, 2, 3, 4, 5, 6, 7, 8, 9, 10] rfl ?_
                have e9 := py_yes (K1 := setG (setG (setG (setG K 17 0 d8) 17 1 0) 17 2 t) 17 3 f) (L := a - 50 * f - 20 * t) (n := 0) (r := a - 50 * f - 20 * t) ⟨b0.1, b1.1, b2.1⟩ hf.1 (by omega) (by omega) (fun _ => by omega) (by omega) (by omega) (by omega) (by omega) (by omega) (by omega) hI (((setG_ne (by omega)).trans ((setG_ne (by omega)).trans ((setG_ne (by omega)).trans (setG_same _ _ _ _)))).trans (by omega)) (((setG_ne (by omega)).trans ((setG_ne (by omega)).trans (setG_same _ _ _ _)))) (((setG_ne (by omega)).trans (setG_same _ _ _ _))) ((setG_same _ _ _ _))
                rw [show f + (t) + 0 + (a - 50 * f - 20 * t) / 5 = f + t + v7 by omega] at e9
                exact ih (t - 1) _ _ (by omega) (by omega) (fun x y z => ((setG_ne (by omega)).trans ((setG_ne (by omega)).trans ((setG_ne (by omega)).trans ((setG_ne (by omega)).trans (hs x y z)))))) e9 kO
              · refine aw_iload (q := 198) 14 dX6_pays_196 rfl rfl ?_
                refine aw_iload (q := 200) 4 dX6_pays_198 rfl rfl ?_
                refine aw_icmp_ge (q := 203) dX6_pays_200 rfl (t := 241) (by decide) (by omega) (by omega) (fun y35 => ?_) (fun y36 => ?_)
                · refine ae_iinc (q := 244) (lv2 := [(0, .ref (ad 108)), (1, .int (iI a)), (2, .int (iI w)), (3, .int (iI m)), (4, .int (iI fw)), (5, .int (iI h0)), (6, .int (iI h1)), (7, .int (iI h2)), (8, .int (iI h3)), (9, .int (iI f)), (10, .int (iI (t - 1))), (11, .int (iI (a - 50 * f - 20 * t))), (12, .int (iI 0)), (13, .int (iI (a - 50 * f - 20 * t))), (14, .int (iI (f + t + v7)))]) 10 [1, 2, 3, 4, 5, 6, 7, 8, 9, 10, 0, 11, 12, 13, 14] (t - 1) (by omega) dX6_pays_241 rfl rfl (by decide) rfl ?_
                  refine aw_goto (q := 94) dX6_pays_244 (by decide) ?_
                  refine aw_sub [0, 1, 2, 3, 4, 5, 6, 7, 8, 9, 10] rfl ?_
                  exact ih (t - 1) _ _ (by omega) (by omega) hs (py_no (L := a - 50 * f - 20 * t) (n := 0) (r := a - 50 * f - 20 * t) hf.1 (by omega) (by omega) (fun _ => by omega) (by omega) (by omega) hI) kO
                · refine aw_iload (q := 205) 14 dX6_pays_203 rfl rfl ?_
                  refine aw_istore (q := 207) (lv2 := [(0, .ref (ad 108)), (1, .int (iI a)), (2, .int (iI w)), (3, .int (iI m)), (4, .int (iI (f + t + v7))), (5, .int (iI h0)), (6, .int (iI h1)), (7, .int (iI h2)), (8, .int (iI h3)), (9, .int (iI f)), (10, .int (iI t)), (11, .int (iI (a - 50 * f - 20 * t))), (12, .int (iI 0)), (13, .int (iI (a - 50 * f - 20 * t))), (14, .int (iI (f + t + v7)))]) [1, 2, 3, 4, 0, 5, 6, 7, 8, 9, 10, 11, 12, 13, 14] dX6_pays_205 rfl (by decide) rfl rfl ?_
                  refine aw_aload_n (q := 208) 0 dX6_pays_207 rfl rfl rfl ?_
                  refine g_mod_coins (q := 211) wf_RX6_25 dX6_pays_208 rfl ?_
                  refine aw_iconst (q := 212) dX6_pays_211 rfl ?_
                  refine aw_iload (q := 214) 13 dX6_pays_212 rfl rfl ?_
                  refine aw_iconst (q := 215) dX6_pays_214 rfl ?_
                  obtain ⟨d9, hd9⟩ : ∃ z, ((a - 50 * f - 20 * t) / 5) = z := ⟨_, rfl⟩
                  refine aw_div5 (q := 216) (z := d9) (by omega) (by omega) hd9 dX6_pays_215 rfl ?_
                  refine aw_cias (q := 217) 0 (ar_114 ad C) (by omega) (by omega) dX6_pays_216 rfl ?_
                  refine aw_aload_n (q := 218) 0 dX6_pays_217 rfl rfl rfl ?_
                  refine g_mod_coins (q := 221) wf_RX6_25 dX6_pays_218 rfl ?_
                  refine aw_iconst (q := 222) dX6_pays_221 rfl ?_
                  refine aw_iload (q := 224) 12 dX6_pays_222 rfl rfl ?_
                  refine aw_cias (q := 225) 1 (ar_114 ad C) (by omega) (by omega) dX6_pays_224 rfl ?_
                  refine aw_aload_n (q := 226) 0 dX6_pays_225 rfl rfl rfl ?_
                  refine g_mod_coins (q := 229) wf_RX6_25 dX6_pays_226 rfl ?_
                  refine aw_iconst (q := 230) dX6_pays_229 rfl ?_
                  refine aw_iload (q := 232) 10 dX6_pays_230 rfl rfl ?_
                  refine aw_cias (q := 233) 2 (ar_114 ad C) (by omega) (by omega) dX6_pays_232 rfl ?_
                  refine aw_aload_n (q := 234) 0 dX6_pays_233 rfl rfl rfl ?_
                  refine g_mod_coins (q := 237) wf_RX6_25 dX6_pays_234 rfl ?_
                  refine aw_iconst (q := 238) dX6_pays_237 rfl ?_
                  refine aw_iload (q := 240) 9 dX6_pays_238 rfl rfl ?_
                  refine aw_cias (q := 241) 3 (ar_114 ad C) (by omega) (by omega) dX6_pays_240 rfl ?_
                  refine ae_iinc (q := 244) (lv2 := [(0, .ref (ad 108)), (1, .int (iI a)), (2, .int (iI w)), (3, .int (iI m)), (4, .int (iI (f + t + v7))), (5, .int (iI h0)), (6, .int (iI h1)), (7, .int (iI h2)), (8, .int (iI h3)), (9, .int (iI f)), (10, .int (iI (t - 1))), (11, .int (iI (a - 50 * f - 20 * t))), (12, .int (iI 0)), (13, .int (iI (a - 50 * f - 20 * t))), (14, .int (iI (f + t + v7)))]) 10 [1, 2, 3, 4, 5, 6, 7, 8, 9, 10, 0, 11, 12, 13, 14] (t - 1) (by omega) dX6_pays_241 rfl rfl (by decide) rfl ?_
                  refine aw_goto (q := 94) dX6_pays_244 (by decide) ?_
                  refine aw_sub [0, 1, 2, 3, 4, 5, 6, 7, 8, 9, 10] rfl ?_
                  have e9 := py_yes (K1 := setG (setG (setG (setG K 17 0 d9) 17 1 0) 17 2 t) 17 3 f) (L := a - 50 * f - 20 * t) (n := 0) (r := a - 50 * f - 20 * t) ⟨b0.1, b1.1, b2.1⟩ hf.1 (by omega) (by omega) (fun _ => by omega) (by omega) (by omega) (by omega) (by omega) (by omega) (by omega) hI (((setG_ne (by omega)).trans ((setG_ne (by omega)).trans ((setG_ne (by omega)).trans (setG_same _ _ _ _)))).trans (by omega)) (((setG_ne (by omega)).trans ((setG_ne (by omega)).trans (setG_same _ _ _ _)))) (((setG_ne (by omega)).trans (setG_same _ _ _ _))) ((setG_same _ _ _ _))
                  rw [show f + (t) + 0 + (a - 50 * f - 20 * t) / 5 = f + t + v7 by omega] at e9
                  exact ih (t - 1) _ _ (by omega) (by omega) (fun x y z => ((setG_ne (by omega)).trans ((setG_ne (by omega)).trans ((setG_ne (by omega)).trans ((setG_ne (by omega)).trans (hs x y z)))))) e9 kO
set_option maxHeartbeats 4000000 in
set_option maxRecDepth 100000 in
theorem L_py_out {l : Launch} {D : va_G} {C : Nat → ClassId} {T : Nat → Nat} {ad : Int → Nat} (G : GG) {h0 h1 h2 h3 a w m : Int} (b0 : 0 ≤ h0 ∧ h0 ≤ 31) (b1 : 0 ≤ h1 ∧ h1 ≤ 31) (b2 : 0 ≤ h2 ∧ h2 ≤ 31) (b3 : 0 ≤ h3 ∧ h3 ≤ 31) (ha : 0 ≤ a ∧ a ≤ 3000) : ∀ (n : Nat) (f fw : Int) (K : GG), (-1 ≤ f ∧ f ≤ h3) → f + 1 < n → sameB (fun x y => x = 17 ∧ 0 ≤ y ∧ y < 4) G K → stI h0 h1 h2 a (cur h0 h1 h2 h3 a f) fw K → AW l RX6 "pays" cX6_pays 15 (some .boolean) (fun _ => True) { frames := 0, cells := 0, slots := 0, locals := 0 } (hvE D (RI ad C (fun r G1 => pyP G h0 h1 h2 h3 a r G1)) (cw ad C G) 0 0) D (tyC C) (hvZ T (cw ad C G)) (cw ad C G) 85 [(0, .ref (ad 108)), (1, .int (iI a)), (2, .int (iI w)), (3, .int (iI m)), (4, .int (iI fw)), (5, .int (iI h0)), (6, .int (iI h1)), (7, .int (iI h2)), (8, .int (iI h3)), (9, .int (iI f))] [] (cw ad C K) 0 0 := by
  intro n
  induction n with
  | zero => intro f fw K ht hn; exact absurd hn (by omega)
  | succ n ih =>
    intro f fw K ht hn hs hI
    have hi1 := hI.2.1
    refine aw_iload (q := 87) 9 dX6_pays_85 rfl rfl ?_
    refine aw_if_lt (q := 90) dX6_pays_87 rfl (t := 253) (by decide) (by omega) (fun y1 => ?_) (fun y2 => ?_)
    · refine aw_iload (q := 255) 4 dX6_pays_253 rfl rfl ?_
      refine aw_if_lt (q := 258) dX6_pays_255 rfl (t := 262) (by decide) (by omega) (fun y3 => ?_) (fun y4 => ?_)
      · refine aw_iconst (q := 263) dX6_pays_262 rfl ?_
        exact rt_z rfl (by first | omega | exact b2i_r _) (Nat.le_refl _) (Nat.le_refl _) (by rw [show f = -1 by omega, cur_end b3.1 ha.1] at hI; have hc : ¬ canF h0 h1 h2 h3 a := fun q => can_bF.mp q (by rw [← hI.1]; omega); exact ⟨(b2i_f hc).symm, fun q => absurd q hc, hs⟩) dX6_pays_263
      · refine aw_iconst (q := 259) dX6_pays_258 rfl ?_
        refine aw_goto (q := 263) dX6_pays_259 (by decide) ?_
        exact rt_z rfl (by first | omega | exact b2i_r _) (Nat.le_refl _) (Nat.le_refl _) (by rw [show f = -1 by omega, cur_end b3.1 ha.1] at hI; have hc := can_bF.mpr (by rw [← hI.1]; omega : ¬ tkF h0 h1 h2 a (bF h0 h1 h2 h3 a) = -1); exact ⟨(b2i_t hc).symm, fun _ => (hI.2.2 (by omega)).2, hs⟩) dX6_pays_263
    · refine aw_iload (q := 92) 7 dX6_pays_90 rfl rfl ?_
      refine aw_istore (q := 94) (lv2 := [(0, .ref (ad 108)), (1, .int (iI a)), (2, .int (iI w)), (3, .int (iI m)), (4, .int (iI fw)), (5, .int (iI h0)), (6, .int (iI h1)), (7, .int (iI h2)), (8, .int (iI h3)), (9, .int (iI f)), (10, .int (iI h2))]) [1, 2, 3, 4, 5, 6, 7, 8, 9, 10, 0] dX6_pays_92 rfl (by decide) rfl rfl ?_
      have e9 : stI h0 h1 h2 a (sel h0 h1 h2 a f (cur h0 h1 h2 h3 a f) h2) fw K := by
        have e2 : t2F h2 a f = min h2 ((a - 50 * f) / 20) := rfl
        unfold sel; rw [if_neg (by omega)]; exact hI
      refine L_py_in G b0 b1 b2 b3 ha (f := f) ⟨by omega, by omega⟩ 40 h2 fw K (by omega) (by omega) hs e9 (fun fw1 K1 hs1 hI1 => ?_)
      have hi2 := hI1.2.1
      refine ae_iinc (q := 250) (lv2 := [(0, .ref (ad 108)), (1, .int (iI a)), (2, .int (iI w)), (3, .int (iI m)), (4, .int (iI fw1)), (5, .int (iI h0)), (6, .int (iI h1)), (7, .int (iI h2)), (8, .int (iI h3)), (9, .int (iI (f - 1))), (10, .int (iI (-1)))]) 9 [1, 2, 3, 4, 5, 6, 7, 8, 9, 0, 10] (f - 1) (by omega) dX6_pays_247 rfl rfl (by decide) rfl ?_
      refine aw_goto (q := 85) dX6_pays_250 (by decide) ?_
      refine aw_sub [0, 1, 2, 3, 4, 5, 6, 7, 8, 9] rfl ?_
      exact ih (f - 1) _ _ (by omega) (by omega) hs1 (py_next ⟨b0.1, b1.1, b2.1⟩ ⟨by omega, by omega⟩ hI1)
set_option maxHeartbeats 4000000 in
set_option maxRecDepth 100000 in
theorem c_py0 {l : Launch} {D : va_G} {C : Nat → ClassId} {T : Nat → Nat} {ad : Int → Nat} (G : GG) {a : Int} (ha : 0 ≤ a ∧ a ≤ 3000) (ht : ∀ k : Int, 0 ≤ k → k < 4 → 0 ≤ G 12 (5 + k) ∧ G 12 (5 + k) ≤ 30) : MC l yX6_pays cX6_pays 15 (some .boolean) 0 0 0 0 D (tyC C) T [.ref (ad 108), .int (iI a), .int (iI (-1)), .int (iI 0)] (cw ad C G) (RI ad C (fun r G1 => pyP G (G 12 5) (G 12 6) (G 12 7) (G 12 8) a r G1)) := by
  refine mc_of (by decide +kernel) (Nat.le_of_ble_eq_true rfl) rfl ?_
  have t0 : 0 ≤ G 12 5 ∧ G 12 5 ≤ 30 := ht 0 (by omega) (by omega)
  have t1 : 0 ≤ G 12 6 ∧ G 12 6 ≤ 30 := ht 1 (by omega) (by omega)
  have t2 : 0 ≤ G 12 7 ∧ G 12 7 ≤ 30 := ht 2 (by omega) (by omega)
  have t3 : 0 ≤ G 12 8 ∧ G 12 8 ≤ 30 := ht 3 (by omega) (by omega)
  refine aw_iconst (q := 1) dX6_pays_0 rfl ?_
  refine aw_istore (q := 3) (lv2 := [(0, .ref (ad 108)), (1, .int (iI a)), (2, .int (iI (-1))), (3, .int (iI 0)), (4, .int (iI (-1)))]) [1, 2, 3, 4, 0] dX6_pays_1 rfl (by decide) rfl rfl ?_
  refine aw_aload_n (q := 4) 0 dX6_pays_3 rfl rfl rfl ?_
  refine g_mod_p (q := 7) wf_RX6_7 dX6_pays_4 rfl ?_
  refine aw_iconst (q := 8) dX6_pays_7 rfl ?_
  refine aw_cial (q := 9) (v := (G 12 5)) 5 (ar_109 ad C) (by omega) (by omega) rfl dX6_pays_8 rfl ?_
  refine aw_iload_n (q := 10) 2 dX6_pays_9 rfl rfl rfl ?_
  refine aw_if_ne (q := 13) dX6_pays_10 rfl (t := 17) (by decide) (by omega) (fun _ => ?_) (fun h => absurd h (by omega))
  refine aw_iconst (q := 18) dX6_pays_17 rfl ?_
  refine ae_iadd (q := 19) (G 12 5) (by omega) dX6_pays_18 rfl ?_
  refine aw_istore (q := 21) (lv2 := [(0, .ref (ad 108)), (1, .int (iI a)), (2, .int (iI (-1))), (3, .int (iI 0)), (4, .int (iI (-1))), (5, .int (iI (G 12 5)))]) [1, 2, 3, 4, 5, 0] dX6_pays_19 rfl (by decide) rfl rfl ?_
  refine aw_aload_n (q := 22) 0 dX6_pays_21 rfl rfl rfl ?_
  refine g_mod_p (q := 25) wf_RX6_7 dX6_pays_22 rfl ?_
  refine aw_bipush (q := 27) dX6_pays_25 rfl (by decide) ?_
  refine aw_cial (q := 28) (v := (G 12 6)) 6 (ar_109 ad C) (by omega) (by omega) rfl dX6_pays_27 rfl ?_
  refine aw_iload_n (q := 29) 2 dX6_pays_28 rfl rfl rfl ?_
  refine aw_iconst (q := 30) dX6_pays_29 rfl ?_
  refine aw_icmp_ne (q := 33) dX6_pays_30 rfl (t := 37) (by decide) (by omega) (by omega) (fun _ => ?_) (fun h => absurd h (by omega))
  refine aw_iconst (q := 38) dX6_pays_37 rfl ?_
  refine ae_iadd (q := 39) (G 12 6) (by omega) dX6_pays_38 rfl ?_
  refine aw_istore (q := 41) (lv2 := [(0, .ref (ad 108)), (1, .int (iI a)), (2, .int (iI (-1))), (3, .int (iI 0)), (4, .int (iI (-1))), (5, .int (iI (G 12 5))), (6, .int (iI (G 12 6)))]) [1, 2, 3, 4, 5, 6, 0] dX6_pays_39 rfl (by decide) rfl rfl ?_
  refine aw_aload_n (q := 42) 0 dX6_pays_41 rfl rfl rfl ?_
  refine g_mod_p (q := 45) wf_RX6_7 dX6_pays_42 rfl ?_
  refine aw_bipush (q := 47) dX6_pays_45 rfl (by decide) ?_
  refine aw_cial (q := 48) (v := (G 12 7)) 7 (ar_109 ad C) (by omega) (by omega) rfl dX6_pays_47 rfl ?_
  refine aw_iload_n (q := 49) 2 dX6_pays_48 rfl rfl rfl ?_
  refine aw_iconst (q := 50) dX6_pays_49 rfl ?_
  refine aw_icmp_ne (q := 53) dX6_pays_50 rfl (t := 57) (by decide) (by omega) (by omega) (fun _ => ?_) (fun h => absurd h (by omega))
  refine aw_iconst (q := 58) dX6_pays_57 rfl ?_
  refine ae_iadd (q := 59) (G 12 7) (by omega) dX6_pays_58 rfl ?_
  refine aw_istore (q := 61) (lv2 := [(0, .ref (ad 108)), (1, .int (iI a)), (2, .int (iI (-1))), (3, .int (iI 0)), (4, .int (iI (-1))), (5, .int (iI (G 12 5))), (6, .int (iI (G 12 6))), (7, .int (iI (G 12 7)))]) [1, 2, 3, 4, 5, 6, 7, 0] dX6_pays_59 rfl (by decide) rfl rfl ?_
  refine aw_aload_n (q := 62) 0 dX6_pays_61 rfl rfl rfl ?_
  refine g_mod_p (q := 65) wf_RX6_7 dX6_pays_62 rfl ?_
  refine aw_bipush (q := 67) dX6_pays_65 rfl (by decide) ?_
  refine aw_cial (q := 68) (v := (G 12 8)) 8 (ar_109 ad C) (by omega) (by omega) rfl dX6_pays_67 rfl ?_
  refine aw_iload_n (q := 69) 2 dX6_pays_68 rfl rfl rfl ?_
  refine aw_iconst (q := 70) dX6_pays_69 rfl ?_
  refine aw_icmp_ne (q := 73) dX6_pays_70 rfl (t := 77) (by decide) (by omega) (by omega) (fun _ => ?_) (fun h => absurd h (by omega))
  refine aw_iconst (q := 78) dX6_pays_77 rfl ?_
  refine ae_iadd (q := 79) (G 12 8) (by omega) dX6_pays_78 rfl ?_
  refine aw_istore (q := 81) (lv2 := [(0, .ref (ad 108)), (1, .int (iI a)), (2, .int (iI (-1))), (3, .int (iI 0)), (4, .int (iI (-1))), (5, .int (iI (G 12 5))), (6, .int (iI (G 12 6))), (7, .int (iI (G 12 7))), (8, .int (iI (G 12 8)))]) [1, 2, 3, 4, 5, 6, 7, 8, 0] dX6_pays_79 rfl (by decide) rfl rfl ?_
  refine aw_iload (q := 83) 8 dX6_pays_81 rfl rfl ?_
  refine aw_istore (q := 85) (lv2 := [(0, .ref (ad 108)), (1, .int (iI a)), (2, .int (iI (-1))), (3, .int (iI 0)), (4, .int (iI (-1))), (5, .int (iI (G 12 5))), (6, .int (iI (G 12 6))), (7, .int (iI (G 12 7))), (8, .int (iI (G 12 8))), (9, .int (iI (G 12 8)))]) [1, 2, 3, 4, 5, 6, 7, 8, 9, 0] dX6_pays_83 rfl (by decide) rfl rfl ?_
  exact L_py_out G (by omega) (by omega) (by omega) (by omega) ha 40 _ _ _ (by omega) (by omega) (fun _ _ _ => rfl) (by rw [cur_top]; exact ⟨(tk_neg (by omega)).symm, by omega, fun q => absurd rfl q⟩)
set_option maxHeartbeats 4000000 in
set_option maxRecDepth 100000 in
theorem c_pyC0 {l : Launch} {D : va_G} {C : Nat → ClassId} {T : Nat → Nat} {ad : Int → Nat} (G : GG) {a : Int} (ha : 0 ≤ a ∧ a ≤ 3000) (ht : ∀ k : Int, 0 ≤ k → k < 4 → 0 ≤ G 12 (5 + k) ∧ G 12 (5 + k) ≤ 30) : MC l yX6_pays cX6_pays 15 (some .boolean) 0 0 0 0 D (tyC C) T [.ref (ad 108), .int (iI a), .int (iI 0), .int (iI 1)] (cw ad C G) (RI ad C (fun r G1 => pyP G (G 12 5 + 1) (G 12 6) (G 12 7) (G 12 8) a r G1)) := by
  refine mc_of (by decide +kernel) (Nat.le_of_ble_eq_true rfl) rfl ?_
  have t0 : 0 ≤ G 12 5 ∧ G 12 5 ≤ 30 := ht 0 (by omega) (by omega)
  have t1 : 0 ≤ G 12 6 ∧ G 12 6 ≤ 30 := ht 1 (by omega) (by omega)
  have t2 : 0 ≤ G 12 7 ∧ G 12 7 ≤ 30 := ht 2 (by omega) (by omega)
  have t3 : 0 ≤ G 12 8 ∧ G 12 8 ≤ 30 := ht 3 (by omega) (by omega)
  refine aw_iconst (q := 1) dX6_pays_0 rfl ?_
  refine aw_istore (q := 3) (lv2 := [(0, .ref (ad 108)), (1, .int (iI a)), (2, .int (iI 0)), (3, .int (iI 1)), (4, .int (iI (-1)))]) [1, 2, 3, 4, 0] dX6_pays_1 rfl (by decide) rfl rfl ?_
  refine aw_aload_n (q := 4) 0 dX6_pays_3 rfl rfl rfl ?_
  refine g_mod_p (q := 7) wf_RX6_7 dX6_pays_4 rfl ?_
  refine aw_iconst (q := 8) dX6_pays_7 rfl ?_
  refine aw_cial (q := 9) (v := (G 12 5)) 5 (ar_109 ad C) (by omega) (by omega) rfl dX6_pays_8 rfl ?_
  refine aw_iload_n (q := 10) 2 dX6_pays_9 rfl rfl rfl ?_
  refine aw_if_ne (q := 13) dX6_pays_10 rfl (t := 17) (by decide) (by omega) (fun h => absurd h (by omega)) (fun _ => ?_)
  refine aw_iload_n (q := 14) 3 dX6_pays_13 rfl rfl rfl ?_
  refine aw_goto (q := 18) dX6_pays_14 (by decide) ?_
  refine ae_iadd (q := 19) ((G 12 5) + 1) (by omega) dX6_pays_18 rfl ?_
  refine aw_istore (q := 21) (lv2 := [(0, .ref (ad 108)), (1, .int (iI a)), (2, .int (iI 0)), (3, .int (iI 1)), (4, .int (iI (-1))), (5, .int (iI ((G 12 5) + 1)))]) [1, 2, 3, 4, 5, 0] dX6_pays_19 rfl (by decide) rfl rfl ?_
  refine aw_aload_n (q := 22) 0 dX6_pays_21 rfl rfl rfl ?_
  refine g_mod_p (q := 25) wf_RX6_7 dX6_pays_22 rfl ?_
  refine aw_bipush (q := 27) dX6_pays_25 rfl (by decide) ?_
  refine aw_cial (q := 28) (v := (G 12 6)) 6 (ar_109 ad C) (by omega) (by omega) rfl dX6_pays_27 rfl ?_
  refine aw_iload_n (q := 29) 2 dX6_pays_28 rfl rfl rfl ?_
  refine aw_iconst (q := 30) dX6_pays_29 rfl ?_
  refine aw_icmp_ne (q := 33) dX6_pays_30 rfl (t := 37) (by decide) (by omega) (by omega) (fun _ => ?_) (fun h => absurd h (by omega))
  refine aw_iconst (q := 38) dX6_pays_37 rfl ?_
  refine ae_iadd (q := 39) (G 12 6) (by omega) dX6_pays_38 rfl ?_
  refine aw_istore (q := 41) (lv2 := [(0, .ref (ad 108)), (1, .int (iI a)), (2, .int (iI 0)), (3, .int (iI 1)), (4, .int (iI (-1))), (5, .int (iI ((G 12 5) + 1))), (6, .int (iI (G 12 6)))]) [1, 2, 3, 4, 5, 6, 0] dX6_pays_39 rfl (by decide) rfl rfl ?_
  refine aw_aload_n (q := 42) 0 dX6_pays_41 rfl rfl rfl ?_
  refine g_mod_p (q := 45) wf_RX6_7 dX6_pays_42 rfl ?_
  refine aw_bipush (q := 47) dX6_pays_45 rfl (by decide) ?_
  refine aw_cial (q := 48) (v := (G 12 7)) 7 (ar_109 ad C) (by omega) (by omega) rfl dX6_pays_47 rfl ?_
  refine aw_iload_n (q := 49) 2 dX6_pays_48 rfl rfl rfl ?_
  refine aw_iconst (q := 50) dX6_pays_49 rfl ?_
  refine aw_icmp_ne (q := 53) dX6_pays_50 rfl (t := 57) (by decide) (by omega) (by omega) (fun _ => ?_) (fun h => absurd h (by omega))
  refine aw_iconst (q := 58) dX6_pays_57 rfl ?_
  refine ae_iadd (q := 59) (G 12 7) (by omega) dX6_pays_58 rfl ?_
  refine aw_istore (q := 61) (lv2 := [(0, .ref (ad 108)), (1, .int (iI a)), (2, .int (iI 0)), (3, .int (iI 1)), (4, .int (iI (-1))), (5, .int (iI ((G 12 5) + 1))), (6, .int (iI (G 12 6))), (7, .int (iI (G 12 7)))]) [1, 2, 3, 4, 5, 6, 7, 0] dX6_pays_59 rfl (by decide) rfl rfl ?_
  refine aw_aload_n (q := 62) 0 dX6_pays_61 rfl rfl rfl ?_
  refine g_mod_p (q := 65) wf_RX6_7 dX6_pays_62 rfl ?_
  refine aw_bipush (q := 67) dX6_pays_65 rfl (by decide) ?_
  refine aw_cial (q := 68) (v := (G 12 8)) 8 (ar_109 ad C) (by omega) (by omega) rfl dX6_pays_67 rfl ?_
  refine aw_iload_n (q := 69) 2 dX6_pays_68 rfl rfl rfl ?_
  refine aw_iconst (q := 70) dX6_pays_69 rfl ?_
  refine aw_icmp_ne (q := 73) dX6_pays_70 rfl (t := 77) (by decide) (by omega) (by omega) (fun _ => ?_) (fun h => absurd h (by omega))
  refine aw_iconst (q := 78) dX6_pays_77 rfl ?_
  refine ae_iadd (q := 79) (G 12 8) (by omega) dX6_pays_78 rfl ?_
  refine aw_istore (q := 81) (lv2 := [(0, .ref (ad 108)), (1, .int (iI a)), (2, .int (iI 0)), (3, .int (iI 1)), (4, .int (iI (-1))), (5, .int (iI ((G 12 5) + 1))), (6, .int (iI (G 12 6))), (7, .int (iI (G 12 7))), (8, .int (iI (G 12 8)))]) [1, 2, 3, 4, 5, 6, 7, 8, 0] dX6_pays_79 rfl (by decide) rfl rfl ?_
  refine aw_iload (q := 83) 8 dX6_pays_81 rfl rfl ?_
  refine aw_istore (q := 85) (lv2 := [(0, .ref (ad 108)), (1, .int (iI a)), (2, .int (iI 0)), (3, .int (iI 1)), (4, .int (iI (-1))), (5, .int (iI ((G 12 5) + 1))), (6, .int (iI (G 12 6))), (7, .int (iI (G 12 7))), (8, .int (iI (G 12 8))), (9, .int (iI (G 12 8)))]) [1, 2, 3, 4, 5, 6, 7, 8, 9, 0] dX6_pays_83 rfl (by decide) rfl rfl ?_
  exact L_py_out G (by omega) (by omega) (by omega) (by omega) ha 40 _ _ _ (by omega) (by omega) (fun _ _ _ => rfl) (by rw [cur_top]; exact ⟨(tk_neg (by omega)).symm, by omega, fun q => absurd rfl q⟩)
set_option maxHeartbeats 4000000 in
set_option maxRecDepth 100000 in
theorem c_pyC1 {l : Launch} {D : va_G} {C : Nat → ClassId} {T : Nat → Nat} {ad : Int → Nat} (G : GG) {a : Int} (ha : 0 ≤ a ∧ a ≤ 3000) (ht : ∀ k : Int, 0 ≤ k → k < 4 → 0 ≤ G 12 (5 + k) ∧ G 12 (5 + k) ≤ 30) : MC l yX6_pays cX6_pays 15 (some .boolean) 0 0 0 0 D (tyC C) T [.ref (ad 108), .int (iI a), .int (iI 1), .int (iI 1)] (cw ad C G) (RI ad C (fun r G1 => pyP G (G 12 5) (G 12 6 + 1) (G 12 7) (G 12 8) a r G1)) := by
  refine mc_of (by decide +kernel) (Nat.le_of_ble_eq_true rfl) rfl ?_
  have t0 : 0 ≤ G 12 5 ∧ G 12 5 ≤ 30 := ht 0 (by omega) (by omega)
  have t1 : 0 ≤ G 12 6 ∧ G 12 6 ≤ 30 := ht 1 (by omega) (by omega)
  have t2 : 0 ≤ G 12 7 ∧ G 12 7 ≤ 30 := ht 2 (by omega) (by omega)
  have t3 : 0 ≤ G 12 8 ∧ G 12 8 ≤ 30 := ht 3 (by omega) (by omega)
  refine aw_iconst (q := 1) dX6_pays_0 rfl ?_
  refine aw_istore (q := 3) (lv2 := [(0, .ref (ad 108)), (1, .int (iI a)), (2, .int (iI 1)), (3, .int (iI 1)), (4, .int (iI (-1)))]) [1, 2, 3, 4, 0] dX6_pays_1 rfl (by decide) rfl rfl ?_
  refine aw_aload_n (q := 4) 0 dX6_pays_3 rfl rfl rfl ?_
  refine g_mod_p (q := 7) wf_RX6_7 dX6_pays_4 rfl ?_
  refine aw_iconst (q := 8) dX6_pays_7 rfl ?_
  refine aw_cial (q := 9) (v := (G 12 5)) 5 (ar_109 ad C) (by omega) (by omega) rfl dX6_pays_8 rfl ?_
  refine aw_iload_n (q := 10) 2 dX6_pays_9 rfl rfl rfl ?_
  refine aw_if_ne (q := 13) dX6_pays_10 rfl (t := 17) (by decide) (by omega) (fun _ => ?_) (fun h => absurd h (by omega))
  refine aw_iconst (q := 18) dX6_pays_17 rfl ?_
  refine ae_iadd (q := 19) (G 12 5) (by omega) dX6_pays_18 rfl ?_
  refine aw_istore (q := 21) (lv2 := [(0, .ref (ad 108)), (1, .int (iI a)), (2, .int (iI 1)), (3, .int (iI 1)), (4, .int (iI (-1))), (5, .int (iI (G 12 5)))]) [1, 2, 3, 4, 5, 0] dX6_pays_19 rfl (by decide) rfl rfl ?_
  refine aw_aload_n (q := 22) 0 dX6_pays_21 rfl rfl rfl ?_
  refine g_mod_p (q := 25) wf_RX6_7 dX6_pays_22 rfl ?_
  refine aw_bipush (q := 27) dX6_pays_25 rfl (by decide) ?_
  refine aw_cial (q := 28) (v := (G 12 6)) 6 (ar_109 ad C) (by omega) (by omega) rfl dX6_pays_27 rfl ?_
  refine aw_iload_n (q := 29) 2 dX6_pays_28 rfl rfl rfl ?_
  refine aw_iconst (q := 30) dX6_pays_29 rfl ?_
  refine aw_icmp_ne (q := 33) dX6_pays_30 rfl (t := 37) (by decide) (by omega) (by omega) (fun h => absurd h (by omega)) (fun _ => ?_)
  refine aw_iload_n (q := 34) 3 dX6_pays_33 rfl rfl rfl ?_
  refine aw_goto (q := 38) dX6_pays_34 (by decide) ?_
  refine ae_iadd (q := 39) ((G 12 6) + 1) (by omega) dX6_pays_38 rfl ?_
  refine aw_istore (q := 41) (lv2 := [(0, .ref (ad 108)), (1, .int (iI a)), (2, .int (iI 1)), (3, .int (iI 1)), (4, .int (iI (-1))), (5, .int (iI (G 12 5))), (6, .int (iI ((G 12 6) + 1)))]) [1, 2, 3, 4, 5, 6, 0] dX6_pays_39 rfl (by decide) rfl rfl ?_
  refine aw_aload_n (q := 42) 0 dX6_pays_41 rfl rfl rfl ?_
  refine g_mod_p (q := 45) wf_RX6_7 dX6_pays_42 rfl ?_
  refine aw_bipush (q := 47) dX6_pays_45 rfl (by decide) ?_
  refine aw_cial (q := 48) (v := (G 12 7)) 7 (ar_109 ad C) (by omega) (by omega) rfl dX6_pays_47 rfl ?_
  refine aw_iload_n (q := 49) 2 dX6_pays_48 rfl rfl rfl ?_
  refine aw_iconst (q := 50) dX6_pays_49 rfl ?_
  refine aw_icmp_ne (q := 53) dX6_pays_50 rfl (t := 57) (by decide) (by omega) (by omega) (fun _ => ?_) (fun h => absurd h (by omega))
  refine aw_iconst (q := 58) dX6_pays_57 rfl ?_
  refine ae_iadd (q := 59) (G 12 7) (by omega) dX6_pays_58 rfl ?_
  refine aw_istore (q := 61) (lv2 := [(0, .ref (ad 108)), (1, .int (iI a)), (2, .int (iI 1)), (3, .int (iI 1)), (4, .int (iI (-1))), (5, .int (iI (G 12 5))), (6, .int (iI ((G 12 6) + 1))), (7, .int (iI (G 12 7)))]) [1, 2, 3, 4, 5, 6, 7, 0] dX6_pays_59 rfl (by decide) rfl rfl ?_
  refine aw_aload_n (q := 62) 0 dX6_pays_61 rfl rfl rfl ?_
  refine g_mod_p (q := 65) wf_RX6_7 dX6_pays_62 rfl ?_
  refine aw_bipush (q := 67) dX6_pays_65 rfl (by decide) ?_
  refine aw_cial (q := 68) (v := (G 12 8)) 8 (ar_109 ad C) (by omega) (by omega) rfl dX6_pays_67 rfl ?_
  refine aw_iload_n (q := 69) 2 dX6_pays_68 rfl rfl rfl ?_
  refine aw_iconst (q := 70) dX6_pays_69 rfl ?_
  refine aw_icmp_ne (q := 73) dX6_pays_70 rfl (t := 77) (by decide) (by omega) (by omega) (fun _ => ?_) (fun h => absurd h (by omega))
  refine aw_iconst (q := 78) dX6_pays_77 rfl ?_
  refine ae_iadd (q := 79) (G 12 8) (by omega) dX6_pays_78 rfl ?_
  refine aw_istore (q := 81) (lv2 := [(0, .ref (ad 108)), (1, .int (iI a)), (2, .int (iI 1)), (3, .int (iI 1)), (4, .int (iI (-1))), (5, .int (iI (G 12 5))), (6, .int (iI ((G 12 6) + 1))), (7, .int (iI (G 12 7))), (8, .int (iI (G 12 8)))]) [1, 2, 3, 4, 5, 6, 7, 8, 0] dX6_pays_79 rfl (by decide) rfl rfl ?_
  refine aw_iload (q := 83) 8 dX6_pays_81 rfl rfl ?_
  refine aw_istore (q := 85) (lv2 := [(0, .ref (ad 108)), (1, .int (iI a)), (2, .int (iI 1)), (3, .int (iI 1)), (4, .int (iI (-1))), (5, .int (iI (G 12 5))), (6, .int (iI ((G 12 6) + 1))), (7, .int (iI (G 12 7))), (8, .int (iI (G 12 8))), (9, .int (iI (G 12 8)))]) [1, 2, 3, 4, 5, 6, 7, 8, 9, 0] dX6_pays_83 rfl (by decide) rfl rfl ?_
  exact L_py_out G (by omega) (by omega) (by omega) (by omega) ha 40 _ _ _ (by omega) (by omega) (fun _ _ _ => rfl) (by rw [cur_top]; exact ⟨(tk_neg (by omega)).symm, by omega, fun q => absurd rfl q⟩)
set_option maxHeartbeats 4000000 in
set_option maxRecDepth 100000 in
theorem c_pyC2 {l : Launch} {D : va_G} {C : Nat → ClassId} {T : Nat → Nat} {ad : Int → Nat} (G : GG) {a : Int} (ha : 0 ≤ a ∧ a ≤ 3000) (ht : ∀ k : Int, 0 ≤ k → k < 4 → 0 ≤ G 12 (5 + k) ∧ G 12 (5 + k) ≤ 30) : MC l yX6_pays cX6_pays 15 (some .boolean) 0 0 0 0 D (tyC C) T [.ref (ad 108), .int (iI a), .int (iI 2), .int (iI 1)] (cw ad C G) (RI ad C (fun r G1 => pyP G (G 12 5) (G 12 6) (G 12 7 + 1) (G 12 8) a r G1)) := by
  refine mc_of (by decide +kernel) (Nat.le_of_ble_eq_true rfl) rfl ?_
  have t0 : 0 ≤ G 12 5 ∧ G 12 5 ≤ 30 := ht 0 (by omega) (by omega)
  have t1 : 0 ≤ G 12 6 ∧ G 12 6 ≤ 30 := ht 1 (by omega) (by omega)
  have t2 : 0 ≤ G 12 7 ∧ G 12 7 ≤ 30 := ht 2 (by omega) (by omega)
  have t3 : 0 ≤ G 12 8 ∧ G 12 8 ≤ 30 := ht 3 (by omega) (by omega)
  refine aw_iconst (q := 1) dX6_pays_0 rfl ?_
  refine aw_istore (q := 3) (lv2 := [(0, .ref (ad 108)), (1, .int (iI a)), (2, .int (iI 2)), (3, .int (iI 1)), (4, .int (iI (-1)))]) [1, 2, 3, 4, 0] dX6_pays_1 rfl (by decide) rfl rfl ?_
  refine aw_aload_n (q := 4) 0 dX6_pays_3 rfl rfl rfl ?_
  refine g_mod_p (q := 7) wf_RX6_7 dX6_pays_4 rfl ?_
  refine aw_iconst (q := 8) dX6_pays_7 rfl ?_
  refine aw_cial (q := 9) (v := (G 12 5)) 5 (ar_109 ad C) (by omega) (by omega) rfl dX6_pays_8 rfl ?_
  refine aw_iload_n (q := 10) 2 dX6_pays_9 rfl rfl rfl ?_
  refine aw_if_ne (q := 13) dX6_pays_10 rfl (t := 17) (by decide) (by omega) (fun _ => ?_) (fun h => absurd h (by omega))
  refine aw_iconst (q := 18) dX6_pays_17 rfl ?_
  refine ae_iadd (q := 19) (G 12 5) (by omega) dX6_pays_18 rfl ?_
  refine aw_istore (q := 21) (lv2 := [(0, .ref (ad 108)), (1, .int (iI a)), (2, .int (iI 2)), (3, .int (iI 1)), (4, .int (iI (-1))), (5, .int (iI (G 12 5)))]) [1, 2, 3, 4, 5, 0] dX6_pays_19 rfl (by decide) rfl rfl ?_
  refine aw_aload_n (q := 22) 0 dX6_pays_21 rfl rfl rfl ?_
  refine g_mod_p (q := 25) wf_RX6_7 dX6_pays_22 rfl ?_
  refine aw_bipush (q := 27) dX6_pays_25 rfl (by decide) ?_
  refine aw_cial (q := 28) (v := (G 12 6)) 6 (ar_109 ad C) (by omega) (by omega) rfl dX6_pays_27 rfl ?_
  refine aw_iload_n (q := 29) 2 dX6_pays_28 rfl rfl rfl ?_
  refine aw_iconst (q := 30) dX6_pays_29 rfl ?_
  refine aw_icmp_ne (q := 33) dX6_pays_30 rfl (t := 37) (by decide) (by omega) (by omega) (fun _ => ?_) (fun h => absurd h (by omega))
  refine aw_iconst (q := 38) dX6_pays_37 rfl ?_
  refine ae_iadd (q := 39) (G 12 6) (by omega) dX6_pays_38 rfl ?_
  refine aw_istore (q := 41) (lv2 := [(0, .ref (ad 108)), (1, .int (iI a)), (2, .int (iI 2)), (3, .int (iI 1)), (4, .int (iI (-1))), (5, .int (iI (G 12 5))), (6, .int (iI (G 12 6)))]) [1, 2, 3, 4, 5, 6, 0] dX6_pays_39 rfl (by decide) rfl rfl ?_
  refine aw_aload_n (q := 42) 0 dX6_pays_41 rfl rfl rfl ?_
  refine g_mod_p (q := 45) wf_RX6_7 dX6_pays_42 rfl ?_
  refine aw_bipush (q := 47) dX6_pays_45 rfl (by decide) ?_
  refine aw_cial (q := 48) (v := (G 12 7)) 7 (ar_109 ad C) (by omega) (by omega) rfl dX6_pays_47 rfl ?_
  refine aw_iload_n (q := 49) 2 dX6_pays_48 rfl rfl rfl ?_
  refine aw_iconst (q := 50) dX6_pays_49 rfl ?_
  refine aw_icmp_ne (q := 53) dX6_pays_50 rfl (t := 57) (by decide) (by omega) (by omega) (fun h => absurd h (by omega)) (fun _ => ?_)
  refine aw_iload_n (q := 54) 3 dX6_pays_53 rfl rfl rfl ?_
  refine aw_goto (q := 58) dX6_pays_54 (by decide) ?_
  refine ae_iadd (q := 59) ((G 12 7) + 1) (by omega) dX6_pays_58 rfl ?_
  refine aw_istore (q := 61) (lv2 := [(0, .ref (ad 108)), (1, .int (iI a)), (2, .int (iI 2)), (3, .int (iI 1)), (4, .int (iI (-1))), (5, .int (iI (G 12 5))), (6, .int (iI (G 12 6))), (7, .int (iI ((G 12 7) + 1)))]) [1, 2, 3, 4, 5, 6, 7, 0] dX6_pays_59 rfl (by decide) rfl rfl ?_
  refine aw_aload_n (q := 62) 0 dX6_pays_61 rfl rfl rfl ?_
  refine g_mod_p (q := 65) wf_RX6_7 dX6_pays_62 rfl ?_
  refine aw_bipush (q := 67) dX6_pays_65 rfl (by decide) ?_
  refine aw_cial (q := 68) (v := (G 12 8)) 8 (ar_109 ad C) (by omega) (by omega) rfl dX6_pays_67 rfl ?_
  refine aw_iload_n (q := 69) 2 dX6_pays_68 rfl rfl rfl ?_
  refine aw_iconst (q := 70) dX6_pays_69 rfl ?_
  refine aw_icmp_ne (q := 73) dX6_pays_70 rfl (t := 77) (by decide) (by omega) (by omega) (fun _ => ?_) (fun h => absurd h (by omega))
  refine aw_iconst (q := 78) dX6_pays_77 rfl ?_
  refine ae_iadd (q := 79) (G 12 8) (by omega) dX6_pays_78 rfl ?_
  refine aw_istore (q := 81) (lv2 := [(0, .ref (ad 108)), (1, .int (iI a)), (2, .int (iI 2)), (3, .int (iI 1)), (4, .int (iI (-1))), (5, .int (iI (G 12 5))), (6, .int (iI (G 12 6))), (7, .int (iI ((G 12 7) + 1))), (8, .int (iI (G 12 8)))]) [1, 2, 3, 4, 5, 6, 7, 8, 0] dX6_pays_79 rfl (by decide) rfl rfl ?_
  refine aw_iload (q := 83) 8 dX6_pays_81 rfl rfl ?_
  refine aw_istore (q := 85) (lv2 := [(0, .ref (ad 108)), (1, .int (iI a)), (2, .int (iI 2)), (3, .int (iI 1)), (4, .int (iI (-1))), (5, .int (iI (G 12 5))), (6, .int (iI (G 12 6))), (7, .int (iI ((G 12 7) + 1))), (8, .int (iI (G 12 8))), (9, .int (iI (G 12 8)))]) [1, 2, 3, 4, 5, 6, 7, 8, 9, 0] dX6_pays_83 rfl (by decide) rfl rfl ?_
  exact L_py_out G (by omega) (by omega) (by omega) (by omega) ha 40 _ _ _ (by omega) (by omega) (fun _ _ _ => rfl) (by rw [cur_top]; exact ⟨(tk_neg (by omega)).symm, by omega, fun q => absurd rfl q⟩)
set_option maxHeartbeats 4000000 in
set_option maxRecDepth 100000 in
theorem c_pyC3 {l : Launch} {D : va_G} {C : Nat → ClassId} {T : Nat → Nat} {ad : Int → Nat} (G : GG) {a : Int} (ha : 0 ≤ a ∧ a ≤ 3000) (ht : ∀ k : Int, 0 ≤ k → k < 4 → 0 ≤ G 12 (5 + k) ∧ G 12 (5 + k) ≤ 30) : MC l yX6_pays cX6_pays 15 (some .boolean) 0 0 0 0 D (tyC C) T [.ref (ad 108), .int (iI a), .int (iI 3), .int (iI 1)] (cw ad C G) (RI ad C (fun r G1 => pyP G (G 12 5) (G 12 6) (G 12 7) (G 12 8 + 1) a r G1)) := by
  refine mc_of (by decide +kernel) (Nat.le_of_ble_eq_true rfl) rfl ?_
  have t0 : 0 ≤ G 12 5 ∧ G 12 5 ≤ 30 := ht 0 (by omega) (by omega)
  have t1 : 0 ≤ G 12 6 ∧ G 12 6 ≤ 30 := ht 1 (by omega) (by omega)
  have t2 : 0 ≤ G 12 7 ∧ G 12 7 ≤ 30 := ht 2 (by omega) (by omega)
  have t3 : 0 ≤ G 12 8 ∧ G 12 8 ≤ 30 := ht 3 (by omega) (by omega)
  refine aw_iconst (q := 1) dX6_pays_0 rfl ?_
  refine aw_istore (q := 3) (lv2 := [(0, .ref (ad 108)), (1, .int (iI a)), (2, .int (iI 3)), (3, .int (iI 1)), (4, .int (iI (-1)))]) [1, 2, 3, 4, 0] dX6_pays_1 rfl (by decide) rfl rfl ?_
  refine aw_aload_n (q := 4) 0 dX6_pays_3 rfl rfl rfl ?_
  refine g_mod_p (q := 7) wf_RX6_7 dX6_pays_4 rfl ?_
  refine aw_iconst (q := 8) dX6_pays_7 rfl ?_
  refine aw_cial (q := 9) (v := (G 12 5)) 5 (ar_109 ad C) (by omega) (by omega) rfl dX6_pays_8 rfl ?_
  refine aw_iload_n (q := 10) 2 dX6_pays_9 rfl rfl rfl ?_
  refine aw_if_ne (q := 13) dX6_pays_10 rfl (t := 17) (by decide) (by omega) (fun _ => ?_) (fun h => absurd h (by omega))
  refine aw_iconst (q := 18) dX6_pays_17 rfl ?_
  refine ae_iadd (q := 19) (G 12 5) (by omega) dX6_pays_18 rfl ?_
  refine aw_istore (q := 21) (lv2 := [(0, .ref (ad 108)), (1, .int (iI a)), (2, .int (iI 3)), (3, .int (iI 1)), (4, .int (iI (-1))), (5, .int (iI (G 12 5)))]) [1, 2, 3, 4, 5, 0] dX6_pays_19 rfl (by decide) rfl rfl ?_
  refine aw_aload_n (q := 22) 0 dX6_pays_21 rfl rfl rfl ?_
  refine g_mod_p (q := 25) wf_RX6_7 dX6_pays_22 rfl ?_
  refine aw_bipush (q := 27) dX6_pays_25 rfl (by decide) ?_
  refine aw_cial (q := 28) (v := (G 12 6)) 6 (ar_109 ad C) (by omega) (by omega) rfl dX6_pays_27 rfl ?_
  refine aw_iload_n (q := 29) 2 dX6_pays_28 rfl rfl rfl ?_
  refine aw_iconst (q := 30) dX6_pays_29 rfl ?_
  refine aw_icmp_ne (q := 33) dX6_pays_30 rfl (t := 37) (by decide) (by omega) (by omega) (fun _ => ?_) (fun h => absurd h (by omega))
  refine aw_iconst (q := 38) dX6_pays_37 rfl ?_
  refine ae_iadd (q := 39) (G 12 6) (by omega) dX6_pays_38 rfl ?_
  refine aw_istore (q := 41) (lv2 := [(0, .ref (ad 108)), (1, .int (iI a)), (2, .int (iI 3)), (3, .int (iI 1)), (4, .int (iI (-1))), (5, .int (iI (G 12 5))), (6, .int (iI (G 12 6)))]) [1, 2, 3, 4, 5, 6, 0] dX6_pays_39 rfl (by decide) rfl rfl ?_
  refine aw_aload_n (q := 42) 0 dX6_pays_41 rfl rfl rfl ?_
  refine g_mod_p (q := 45) wf_RX6_7 dX6_pays_42 rfl ?_
  refine aw_bipush (q := 47) dX6_pays_45 rfl (by decide) ?_
  refine aw_cial (q := 48) (v := (G 12 7)) 7 (ar_109 ad C) (by omega) (by omega) rfl dX6_pays_47 rfl ?_
  refine aw_iload_n (q := 49) 2 dX6_pays_48 rfl rfl rfl ?_
  refine aw_iconst (q := 50) dX6_pays_49 rfl ?_
  refine aw_icmp_ne (q := 53) dX6_pays_50 rfl (t := 57) (by decide) (by omega) (by omega) (fun _ => ?_) (fun h => absurd h (by omega))
  refine aw_iconst (q := 58) dX6_pays_57 rfl ?_
  refine ae_iadd (q := 59) (G 12 7) (by omega) dX6_pays_58 rfl ?_
  refine aw_istore (q := 61) (lv2 := [(0, .ref (ad 108)), (1, .int (iI a)), (2, .int (iI 3)), (3, .int (iI 1)), (4, .int (iI (-1))), (5, .int (iI (G 12 5))), (6, .int (iI (G 12 6))), (7, .int (iI (G 12 7)))]) [1, 2, 3, 4, 5, 6, 7, 0] dX6_pays_59 rfl (by decide) rfl rfl ?_
  refine aw_aload_n (q := 62) 0 dX6_pays_61 rfl rfl rfl ?_
  refine g_mod_p (q := 65) wf_RX6_7 dX6_pays_62 rfl ?_
  refine aw_bipush (q := 67) dX6_pays_65 rfl (by decide) ?_
  refine aw_cial (q := 68) (v := (G 12 8)) 8 (ar_109 ad C) (by omega) (by omega) rfl dX6_pays_67 rfl ?_
  refine aw_iload_n (q := 69) 2 dX6_pays_68 rfl rfl rfl ?_
  refine aw_iconst (q := 70) dX6_pays_69 rfl ?_
  refine aw_icmp_ne (q := 73) dX6_pays_70 rfl (t := 77) (by decide) (by omega) (by omega) (fun h => absurd h (by omega)) (fun _ => ?_)
  refine aw_iload_n (q := 74) 3 dX6_pays_73 rfl rfl rfl ?_
  refine aw_goto (q := 78) dX6_pays_74 (by decide) ?_
  refine ae_iadd (q := 79) ((G 12 8) + 1) (by omega) dX6_pays_78 rfl ?_
  refine aw_istore (q := 81) (lv2 := [(0, .ref (ad 108)), (1, .int (iI a)), (2, .int (iI 3)), (3, .int (iI 1)), (4, .int (iI (-1))), (5, .int (iI (G 12 5))), (6, .int (iI (G 12 6))), (7, .int (iI (G 12 7))), (8, .int (iI ((G 12 8) + 1)))]) [1, 2, 3, 4, 5, 6, 7, 8, 0] dX6_pays_79 rfl (by decide) rfl rfl ?_
  refine aw_iload (q := 83) 8 dX6_pays_81 rfl rfl ?_
  refine aw_istore (q := 85) (lv2 := [(0, .ref (ad 108)), (1, .int (iI a)), (2, .int (iI 3)), (3, .int (iI 1)), (4, .int (iI (-1))), (5, .int (iI (G 12 5))), (6, .int (iI (G 12 6))), (7, .int (iI (G 12 7))), (8, .int (iI ((G 12 8) + 1))), (9, .int (iI ((G 12 8) + 1)))]) [1, 2, 3, 4, 5, 6, 7, 8, 9, 0] dX6_pays_83 rfl (by decide) rfl rfl ?_
  exact L_py_out G (by omega) (by omega) (by omega) (by omega) ha 40 _ _ _ (by omega) (by omega) (fun _ _ _ => rfl) (by rw [cur_top]; exact ⟨(tk_neg (by omega)).symm, by omega, fun q => absurd rfl q⟩)
