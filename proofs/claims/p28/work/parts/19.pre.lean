theorem fB_nat (r : UInt32) : fB ((r.toNat : Nat) : Int) = r := by
  unfold fB
  simp
theorem dB_nat (r : UInt64) : dB ((r.toNat : Nat) : Int) = r := by
  unfold dB
  simp
theorem cpG_0 (G : GG) (p1 d1 p0 d0 : Int) : cpG G p1 d1 0 p0 d0 = G := by
  funext x y
  unfold cpG
  rw [if_neg (by omega)]
theorem cpG_succ (G : GG) (p1 d1 p0 d0 : Int) {n m : Int} (hn : 0 ≤ n) (hm : n + 1 = m) : cpG G p1 d1 m p0 d0 = setG (cpG G p1 d1 n p0 d0) p1 (d1 + n) (G p0 (d0 + n)) := by
  funext x y
  unfold setG cpG
  by_cases h : x = p1 ∧ y = d1 + n
  · rw [if_pos (by omega), if_pos h, h.2, show d1 + n - d1 = n by omega]
  · rw [if_neg h]
    by_cases h2 : x = p1 ∧ d1 ≤ y ∧ y < d1 + n
    · rw [if_pos (by omega), if_pos h2]
    · rw [if_neg (by omega), if_neg h2]
theorem setG_setG (G : GG) (a b v w : Int) : setG (setG G a b v) a b w = setG G a b w := by
  funext x y
  unfold setG
  by_cases h : x = a ∧ y = b
  · rw [if_pos h, if_pos h]
  · rw [if_neg h, if_neg h, if_neg h]
theorem setG_comm (G : GG) {a b c d v w : Int} (h : ¬ (a = c ∧ b = d)) : setG (setG G a b v) c d w = setG (setG G c d w) a b v := by
  funext x y
  unfold setG
  by_cases h1 : x = a ∧ y = b
  · rw [if_neg (by omega), if_pos h1, if_pos h1]
  · by_cases h2 : x = c ∧ y = d
    · rw [if_pos h2, if_neg h1, if_pos h2]
    · rw [if_neg h2, if_neg h1, if_neg h1, if_neg h2]
theorem setG_id (G : GG) (a b : Int) : setG G a b (G a b) = G := by
  funext x y
  unfold setG
  by_cases h : x = a ∧ y = b
  · rw [if_pos h, h.1, h.2]
  · rw [if_neg h]
section RWW
variable {l : Launch} {own nm : String} {cc : ByteArray} {nL : Nat} {ret : Option FieldType} {X : Code → Prop} {R : Room} {E : List Frame → Array Value → State → State → Prop} {D : va_G} {ty : List (ClassId × FieldType)} {Z : State → Prop} {w0 ws : va_W} {pc q : Nat} {lv : List (Nat × Value)} {st : List Value} {k n : Nat}
theorem aw_ifW_eq {x : Int32} {off : Int} {t : Nat} (d : decode cc pc = .ok (.ifCond .eq off, 3)) (hq : pc + 3 = q) (ht : (pc : Int) + off = (t : Int)) (kt : x = 0 → AW l own nm cc nL ret X R E D ty Z w0 t lv st ws k n) (kf : ¬ x = 0 → AW l own nm cc nL ret X R E D ty Z w0 q lv st ws k n) : AW l own nm cc nL ret X R E D ty Z w0 pc lv (.int x :: st) ws k n := by
  subst hq
  intro p e s m args below meth c hC hK hZ H locs ls hP hD hS hl
  obtain ⟨hx, hb, hml, hown, hts, hr, hlk, hnm, hX⟩ := id hC
  exact lv_if_eq hx hb d ht (fun h => kt h p e s m args below meth c hC hK hZ H locs ls hP hD hS hl) (fun h => kf h p e s m args below meth c hC hK hZ H locs ls hP hD hS hl)
theorem aw_ifW_ne {x : Int32} {off : Int} {t : Nat} (d : decode cc pc = .ok (.ifCond .ne off, 3)) (hq : pc + 3 = q) (ht : (pc : Int) + off = (t : Int)) (kt : ¬ x = 0 → AW l own nm cc nL ret X R E D ty Z w0 t lv st ws k n) (kf : x = 0 → AW l own nm cc nL ret X R E D ty Z w0 q lv st ws k n) : AW l own nm cc nL ret X R E D ty Z w0 pc lv (.int x :: st) ws k n := by
  subst hq
  intro p e s m args below meth c hC hK hZ H locs ls hP hD hS hl
  obtain ⟨hx, hb, hml, hown, hts, hr, hlk, hnm, hX⟩ := id hC
  exact lv_if_ne hx hb d ht (fun h => kt h p e s m args below meth c hC hK hZ H locs ls hP hD hS hl) (fun h => kf h p e s m args below meth c hC hK hZ H locs ls hP hD hS hl)
theorem aw_ifW_lt {x : Int32} {off : Int} {t : Nat} (d : decode cc pc = .ok (.ifCond .lt off, 3)) (hq : pc + 3 = q) (ht : (pc : Int) + off = (t : Int)) (kt : x < 0 → AW l own nm cc nL ret X R E D ty Z w0 t lv st ws k n) (kf : ¬ x < 0 → AW l own nm cc nL ret X R E D ty Z w0 q lv st ws k n) : AW l own nm cc nL ret X R E D ty Z w0 pc lv (.int x :: st) ws k n := by
  subst hq
  intro p e s m args below meth c hC hK hZ H locs ls hP hD hS hl
  obtain ⟨hx, hb, hml, hown, hts, hr, hlk, hnm, hX⟩ := id hC
  exact lv_if_lt hx hb d ht (fun h => kt h p e s m args below meth c hC hK hZ H locs ls hP hD hS hl) (fun h => kf h p e s m args below meth c hC hK hZ H locs ls hP hD hS hl)
theorem aw_ifW_ge {x : Int32} {off : Int} {t : Nat} (d : decode cc pc = .ok (.ifCond .ge off, 3)) (hq : pc + 3 = q) (ht : (pc : Int) + off = (t : Int)) (kt : 0 ≤ x → AW l own nm cc nL ret X R E D ty Z w0 t lv st ws k n) (kf : ¬ 0 ≤ x → AW l own nm cc nL ret X R E D ty Z w0 q lv st ws k n) : AW l own nm cc nL ret X R E D ty Z w0 pc lv (.int x :: st) ws k n := by
  subst hq
  intro p e s m args below meth c hC hK hZ H locs ls hP hD hS hl
  obtain ⟨hx, hb, hml, hown, hts, hr, hlk, hnm, hX⟩ := id hC
  exact lv_if_ge hx hb d ht (fun h => kt h p e s m args below meth c hC hK hZ H locs ls hP hD hS hl) (fun h => kf h p e s m args below meth c hC hK hZ H locs ls hP hD hS hl)
theorem aw_ifW_le {x : Int32} {off : Int} {t : Nat} (d : decode cc pc = .ok (.ifCond .le off, 3)) (hq : pc + 3 = q) (ht : (pc : Int) + off = (t : Int)) (kt : x ≤ 0 → AW l own nm cc nL ret X R E D ty Z w0 t lv st ws k n) (kf : ¬ x ≤ 0 → AW l own nm cc nL ret X R E D ty Z w0 q lv st ws k n) : AW l own nm cc nL ret X R E D ty Z w0 pc lv (.int x :: st) ws k n := by
  subst hq
  intro p e s m args below meth c hC hK hZ H locs ls hP hD hS hl
  obtain ⟨hx, hb, hml, hown, hts, hr, hlk, hnm, hX⟩ := id hC
  exact lv_if_le hx hb d ht (fun h => kt h p e s m args below meth c hC hK hZ H locs ls hP hD hS hl) (fun h => kf h p e s m args below meth c hC hK hZ H locs ls hP hD hS hl)
theorem aw_lcmpE {x y : Int} (h : x = y) (d : decode cc pc = .ok (.lcmp, 1)) (hq : pc + 1 = q) (kk : AW l own nm cc nL ret X R E D ty Z w0 q lv (.int (iI 0) :: st) ws k n) : AW l own nm cc nL ret X R E D ty Z w0 pc lv (.long (iL y) :: .long (iL x) :: st) ws k n := by
  subst h
  refine aw_lcmpR d hq ?_
  rw [show lg_cmp (iL x) (iL x) = iI 0 by simp [lg_cmp]; rfl]
  exact kk
end RWW
/-- a demand: a float's bits, at most those of 2^24 -/
def okW (x : Int) : Prop := 0 ≤ x ∧ x ≤ 1266679808
def fadd1 (x : Int) : Int := ((FP.fadd (fB x) FP.fconst1).toNat : Int)
def faddH (x : Int) : Int := ((FP.fadd (fB x) 1056964608).toNat : Int)
def ffade (x p : Int) : Int := ((FP.fdiv (FP.fmul (fB x) (FP.i2f (iI p))) 1120403456).toNat : Int)
/-- 10 * demand >= n, and < n, as the float comparison has it -/
abbrev tenGe (x n : Int) : Prop := ¬ Op.cmpValue (FP.fcmp (FP.fmul 1092616192 (fB x)) (FP.i2f (iI n))) .l < 0
abbrev tenLt (x n : Int) : Prop := ¬ 0 ≤ Op.cmpValue (FP.fcmp (FP.fmul 1092616192 (fB x)) (FP.i2f (iI n))) .g
theorem ite_fin {p : Prop} [Decidable p] {α : Sort _} {a b c : α} (ht : p → c = a) (hf : ¬ p → c = b) : c = if p then a else b := by
  by_cases h : p
  · rw [if_pos h, ht h]
  · rw [if_neg h, hf h]
