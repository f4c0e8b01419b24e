/-! floats: a demand is a float of at most 2^24, and stays one (by the library's laws of floats) -/
theorem fl_mag {a : UInt32} (h : a.toNat ≤ 2139095040) : FP.Core.mag FP.Core.b32 a.toNat = a.toNat := by
  rw [FP.Core.mag_toNat32]
  omega
theorem fl_dec {a : UInt32} (h : a.toNat < 2139095040) : ∃ c q, FP.Core.val32 a = .fin false c q ∧ FP.Core.fits FP.Core.b32 (.fin false c q) ∧ (-149 : Int) ≤ q ∧ FP.Core.inUnits c q (-149) = FP.Core.unitsOf FP.Core.b32 a.toNat := by
  have hm := fl_mag (a := a) (by omega)
  obtain ⟨s, c, q, h1, h2, h3⟩ := FP.Core.fin_of_mag FP.Core.good_b32 (n := a.toNat) (by rw [hm, FP.Core.infBits_b32]; exact h)
  have hs : FP.Core.sgn (FP.Core.val32 a) = decide (2 ^ 31 ≤ a.toNat) := FP.Core.sgn_bits32 (by
    show FP.Core.decode FP.Core.b32 a.toNat ≠ .nan
    rw [h1]
    exact FP.Core.Datum.noConfusion)
  have h1' : FP.Core.val32 a = .fin s c q := h1
  rw [h1', decide_eq_false (by omega)] at hs
  have hs2 : s = false := hs
  subst hs2
  rw [hm] at h3
  have hq := h2.2.1
  rw [FP.Core.qmin_b32] at hq
  refine ⟨c, q, h1', h2, hq, ?_⟩
  rw [← h3]
  show _ = FP.Core.inUnits c q FP.Core.b32.qmin
  rw [FP.Core.qmin_b32]
theorem fl_nn {a : UInt32} (h : a.toNat ≤ 2139095040) : FP.Core.val32 a ≠ .nan := (FP.Core.ne_nan32 a).mpr (by omega)
theorem fl_n32 {a : UInt32} (h : a.toNat ≤ 2139095040) : vf_n32 a := by
  unfold vf_n32
  rw [UInt32.le_iff_toNat_le, FP.Core.mask_toNat32]
  show a.toNat % 2 ^ 31 ≤ 2139095040
  omega
theorem fl_pos {r : UInt32} {A B : Nat} {e : Int} (h : FP.Core.val32 r = FP.Core.roundRatio FP.Core.b32 false A B e) : r.toNat < 2 ^ 31 ∧ r.toNat ≤ 2139095040 := by
  have hn : FP.Core.val32 r ≠ .nan := by rw [h]; exact FP.Core.roundRatio_ne_nan _ _ _ _ _
  have hs := FP.Core.sgn_bits32 hn
  rw [h, FP.Core.sgn_roundRatio] at hs
  have h1 : ¬ 2 ^ 31 ≤ r.toNat := by
    intro q
    rw [decide_eq_true q] at hs
    cases hs
  have h2 := (FP.Core.ne_nan32 r).mp hn
  exact ⟨by omega, by omega⟩
theorem fl_top {r : UInt32} {A B m : Nat} {e e0 : Int} (h : FP.Core.val32 r = FP.Core.roundRatio FP.Core.b32 false A B e) (hB : 0 < B) (h0 : e0 ≤ -149) (h0e : e0 ≤ e) (hle : FP.Core.inUnits A e e0 ≤ FP.Core.unitsOf FP.Core.b32 m * 2 ^ (-149 - e0).toNat * B) : r.toNat ≤ m := by
  have h1 := fl_pos h
  have h2 := FP.Core.mag_le FP.Core.good_b32 (n := r.toNat) (m := m) h hB (e0 := e0) (by rw [FP.Core.qmin_b32]; exact h0) h0e (by rw [FP.Core.qmin_b32]; exact hle)
  rw [fl_mag h1.2] at h2
  exact h2
theorem fl_bot {r : UInt32} {A B m : Nat} {e e0 : Int} (h : FP.Core.val32 r = FP.Core.roundRatio FP.Core.b32 false A B e) (hB : 0 < B) (h0 : e0 ≤ -149) (h0e : e0 ≤ e) (hm : m ≤ 2139095040) (hle : FP.Core.unitsOf FP.Core.b32 m * 2 ^ (-149 - e0).toNat * B ≤ FP.Core.inUnits A e e0) : m ≤ r.toNat := by
  have h1 := fl_pos h
  have h2 := FP.Core.mag_ge FP.Core.good_b32 (n := r.toNat) (m := m) h hB (e0 := e0) (by rw [FP.Core.qmin_b32]; exact h0) h0e (by rw [FP.Core.infBits_b32]; exact hm) (by rw [FP.Core.qmin_b32]; exact hle)
  rw [fl_mag h1.2] at h2
  exact h2
theorem fl_add {a b : UInt32} (ha : a.toNat < 2139095040) (hb : b.toNat < 2139095040) : ∃ (A : Nat) (e : Int), FP.Core.val32 (FP.fadd a b) = FP.Core.roundRatio FP.Core.b32 false A 1 e ∧ (-149 : Int) ≤ e ∧ FP.Core.inUnits A e (-149) = FP.Core.unitsOf FP.Core.b32 a.toNat + FP.Core.unitsOf FP.Core.b32 b.toNat := by
  obtain ⟨c, q, a1, -, a2, a3⟩ := fl_dec ha
  obtain ⟨d, r, b1, -, b2, b3⟩ := fl_dec hb
  refine ⟨FP.Core.inUnits c q (min q r) + FP.Core.inUnits d r (min q r), min q r, ?_, by omega, ?_⟩
  · rw [show FP.fadd a b = FP.Core.fadd a b from rfl, FP.Core.val32_fadd, a1, b1]
    have hv : FP.Core.sumUnits false c q false d r (min q r) = ((FP.Core.inUnits c q (min q r) + FP.Core.inUnits d r (min q r) : Nat) : Int) := by
      unfold FP.Core.sumUnits FP.Core.signed
      simp
    show FP.Core.round FP.Core.b32 (.fin (FP.Core.sumSign false false (FP.Core.sumUnits false c q false d r (min q r))) (FP.Core.sumUnits false c q false d r (min q r)).natAbs (min q r)) = _
    rw [hv]
    have hs : FP.Core.sumSign false false ((FP.Core.inUnits c q (min q r) + FP.Core.inUnits d r (min q r) : Nat) : Int) = false := by
      unfold FP.Core.sumSign
      split
      · rfl
      · exact decide_eq_false (by omega)
    rw [hs, Int.natAbs_natCast]
    rfl
  · have e1 := FP.Core.inUnits_move c (q := q) (r := min q r) (e := -149) (by omega) (by omega)
    have e2 := FP.Core.inUnits_move d (q := r) (r := min q r) (e := -149) (by omega) (by omega)
    rw [← a3, ← b3, e1, e2, ← Nat.add_mul]
    rfl
theorem fl_mul {a b : UInt32} (ha : a.toNat < 2139095040) (hb : b.toNat < 2139095040) : ∃ (A : Nat) (e : Int), FP.Core.val32 (FP.fmul a b) = FP.Core.roundRatio FP.Core.b32 false A 1 e ∧ (-298 : Int) ≤ e ∧ FP.Core.inUnits A e (-298) = FP.Core.unitsOf FP.Core.b32 a.toNat * FP.Core.unitsOf FP.Core.b32 b.toNat := by
  obtain ⟨c, q, a1, af, a2, a3⟩ := fl_dec ha
  obtain ⟨d, r, b1, bf, b2, b3⟩ := fl_dec hb
  obtain ⟨p1, p2, p3⟩ := FP.Core.product_units af bf
  rw [FP.Core.qmin_b32] at p2 p3
  refine ⟨c * d, q + r, ?_, by omega, ?_⟩
  · rw [show FP.fmul a b = FP.Core.fmul a b from rfl, FP.Core.val32_fmul, a1, b1, p1]
    rfl
  · rw [show (-298 : Int) = 2 * -149 by decide, p3, ← a3, ← b3]
    show FP.Core.inUnits c q FP.Core.b32.qmin * FP.Core.inUnits d r FP.Core.b32.qmin = _
    rw [FP.Core.qmin_b32]
theorem fl_div {a b : UInt32} (ha : a.toNat < 2139095040) (hb : b.toNat < 2139095040) (hb0 : 0 < b.toNat) : ∃ (A B : Nat) (e e0 : Int), FP.Core.val32 (FP.fdiv a b) = FP.Core.roundRatio FP.Core.b32 false A B e ∧ 0 < B ∧ e0 ≤ -149 ∧ e0 ≤ e ∧ FP.Core.inUnits A e e0 = FP.Core.unitsOf FP.Core.b32 a.toNat * 2 ^ 149 ∧ 2 ^ (-149 - e0).toNat * B = FP.Core.unitsOf FP.Core.b32 b.toNat := by
  obtain ⟨c, q, a1, af, a2, a3⟩ := fl_dec ha
  obtain ⟨d, r, b1, bf, b2, b3⟩ := fl_dec hb
  have hd : d ≠ 0 := by
    rintro rfl
    have z : FP.Core.inUnits 0 r (-149) = 0 := Nat.zero_mul _
    rw [z] at b3
    have := FP.Core.unitsOf_eq_zero.mp b3.symm
    omega
  refine ⟨c, d, q - r, -298 - r, ?_, by omega, by omega, by omega, ?_, ?_⟩
  · rw [show FP.fdiv a b = FP.Core.fdiv a b from rfl, FP.Core.val32_fdiv, a1, b1]
    show (if d = 0 then _ else _) = _
    rw [if_neg hd]
    rfl
  · rw [← a3]
    show c * 2 ^ (q - r - (-298 - r)).toNat = c * 2 ^ (q - -149).toNat * 2 ^ 149
    rw [Nat.mul_assoc, ← Nat.pow_add]
    congr 2
    omega
  · rw [← b3]
    show 2 ^ (-149 - (-298 - r)).toNat * d = d * 2 ^ (r - -149).toNat
    rw [Nat.mul_comm]
    congr 2
    omega
theorem fl_mono {m k : Nat} (h : m ≤ k) : FP.Core.unitsOf FP.Core.b32 m ≤ FP.Core.unitsOf FP.Core.b32 k := FP.Core.unitsOf_le_iff.mpr h
theorem add_le {a b : UInt32} {m : Nat} (ha : a.toNat < 2139095040) (hb : b.toNat < 2139095040) (h : FP.Core.unitsOf FP.Core.b32 a.toNat + FP.Core.unitsOf FP.Core.b32 b.toNat ≤ FP.Core.unitsOf FP.Core.b32 m) : (FP.fadd a b).toNat ≤ m := by
  obtain ⟨A, e, h1, h2, h3⟩ := fl_add ha hb
  refine fl_top (e0 := -149) h1 (by decide) (by decide) h2 ?_
  rw [h3, show ((-149 : Int) - -149).toNat = 0 by decide, Nat.pow_zero, Nat.mul_one, Nat.mul_one]
  exact h
theorem mul_le {a b : UInt32} {m : Nat} (ha : a.toNat < 2139095040) (hb : b.toNat < 2139095040) (h : FP.Core.unitsOf FP.Core.b32 a.toNat * FP.Core.unitsOf FP.Core.b32 b.toNat ≤ FP.Core.unitsOf FP.Core.b32 m * 2 ^ 149) : (FP.fmul a b).toNat ≤ m := by
  obtain ⟨A, e, h1, h2, h3⟩ := fl_mul ha hb
  refine fl_top (e0 := -298) h1 (by decide) (by decide) h2 ?_
  rw [h3, show ((-149 : Int) - -298).toNat = 149 by decide, Nat.mul_one]
  exact h
theorem mul_eq {a b : UInt32} {m : Nat} (ha : a.toNat < 2139095040) (hb : b.toNat < 2139095040) (hm : m ≤ 2139095040) (h : FP.Core.unitsOf FP.Core.b32 a.toNat * FP.Core.unitsOf FP.Core.b32 b.toNat = FP.Core.unitsOf FP.Core.b32 m * 2 ^ 149) : (FP.fmul a b).toNat = m := by
  obtain ⟨A, e, h1, h2, h3⟩ := fl_mul ha hb
  refine Nat.le_antisymm (mul_le ha hb (Nat.le_of_eq h)) (fl_bot (e0 := -298) h1 (by decide) (by decide) h2 hm ?_)
  rw [h3, show ((-149 : Int) - -298).toNat = 149 by decide, Nat.mul_one]
  exact Nat.le_of_eq h.symm
theorem div_le {a b : UInt32} {m : Nat} (ha : a.toNat < 2139095040) (hb : b.toNat < 2139095040) (hb0 : 0 < b.toNat) (h : FP.Core.unitsOf FP.Core.b32 a.toNat * 2 ^ 149 ≤ FP.Core.unitsOf FP.Core.b32 m * FP.Core.unitsOf FP.Core.b32 b.toNat) : (FP.fdiv a b).toNat ≤ m := by
  obtain ⟨A, B, e, e0, h1, hB, h0, h2, h3, h4⟩ := fl_div ha hb hb0
  refine fl_top h1 hB h0 h2 ?_
  rw [h3, Nat.mul_assoc, h4]
  exact h
theorem div_eq {a b : UInt32} {m : Nat} (ha : a.toNat < 2139095040) (hb : b.toNat < 2139095040) (hb0 : 0 < b.toNat) (hm : m ≤ 2139095040) (h : FP.Core.unitsOf FP.Core.b32 a.toNat * 2 ^ 149 = FP.Core.unitsOf FP.Core.b32 m * FP.Core.unitsOf FP.Core.b32 b.toNat) : (FP.fdiv a b).toNat = m := by
  obtain ⟨A, B, e, e0, h1, hB, h0, h2, h3, h4⟩ := fl_div ha hb hb0
  refine Nat.le_antisymm (div_le ha hb hb0 (Nat.le_of_eq h)) (fl_bot h1 hB h0 h2 hm ?_)
  rw [h3, Nat.mul_assoc, h4]
  exact Nat.le_of_eq h.symm
theorem fl_x {x : Int} (h : okW x) : (fB x).toNat = x.toNat ∧ (fB x).toNat ≤ 1266679808 := by
  unfold okW at h
  have e : (fB x).toNat = x.toNat := by
    unfold fB
    rw [UInt32.toNat_ofNat_of_lt' (show x.toNat < 4294967296 by omega)]
  exact ⟨e, by omega⟩
theorem okW_of {r : UInt32} (h : r.toNat ≤ 1266679808) : okW ((r.toNat : Nat) : Int) := by
  unfold okW
  omega
theorem fw_0 : okW 0 := by unfold okW; omega
theorem fl_add1 {x : Int} (h : okW x) : (FP.fadd (fB x) FP.fconst1).toNat ≤ 1266679808 := by
  obtain ⟨h1, h2⟩ := fl_x h
  by_cases hx : x = 1266679808
  · subst hx
    exact Nat.le_of_eq (by decide +kernel)
  · unfold okW at h
    refine add_le (by omega) (by decide) ?_
    refine Nat.le_trans (Nat.add_le_add_right (fl_mono (show (fB x).toNat ≤ 1266679807 by omega)) _) ?_
    decide +kernel
theorem fl_addH {x : Int} (h : okW x) : (FP.fadd (fB x) 1056964608).toNat ≤ 1266679808 := by
  obtain ⟨h1, h2⟩ := fl_x h
  by_cases hx : x = 1266679808
  · subst hx
    exact Nat.le_of_eq (by decide +kernel)
  · unfold okW at h
    refine add_le (by omega) (by decide) ?_
    refine Nat.le_trans (Nat.add_le_add_right (fl_mono (show (fB x).toNat ≤ 1266679807 by omega)) _) ?_
    decide +kernel
theorem fl_int {p : Int} (hp : 0 ≤ p ∧ p ≤ 100) : (FP.i2f (iI p)).toNat ≤ 1120403456 := by
  have h1 : FP.Core.val32 (FP.i2f (iI p)) = FP.Core.roundRatio FP.Core.b32 false p.natAbs 1 0 := by
    rw [show FP.i2f (iI p) = FP.Core.i2f (iI p) from rfl, FP.Core.val32_i2f, iI_toInt (by omega)]
    show FP.Core.roundRatio FP.Core.b32 (decide (p < 0)) p.natAbs 1 0 = _
    rw [decide_eq_false (by omega)]
  refine fl_top (e0 := -149) h1 (by decide) (by decide) (by decide) ?_
  show p.natAbs * 2 ^ ((0 : Int) - -149).toNat ≤ _
  refine Nat.le_trans (Nat.mul_le_mul_right _ (show p.natAbs ≤ 100 by omega)) ?_
  decide +kernel
theorem fw_add1 {x : Int} (h : okW x) : vf_n32 (FP.fadd (fB x) FP.fconst1) ∧ okW (fadd1 x) :=
  ⟨fl_n32 (Nat.le_trans (fl_add1 h) (by decide)), okW_of (fl_add1 h)⟩
theorem fw_addH {x : Int} (h : okW x) : vf_n32 (FP.fadd (fB x) 1056964608) ∧ okW (faddH x) :=
  ⟨fl_n32 (Nat.le_trans (fl_addH h) (by decide)), okW_of (fl_addH h)⟩
theorem fw_fade {x p : Int} (h : okW x) (hp : 0 ≤ p ∧ p ≤ 100) : vf_n32 (FP.fmul (fB x) (FP.i2f (iI p))) ∧ vf_n32 (FP.fdiv (FP.fmul (fB x) (FP.i2f (iI p))) 1120403456) ∧ okW (ffade x p) := by
  obtain ⟨h1, h2⟩ := fl_x h
  have hi := fl_int hp
  have hm : (FP.fmul (fB x) (FP.i2f (iI p))).toNat ≤ 1321730048 := by
    refine mul_le (by omega) (by omega) ?_
    refine Nat.le_trans (Nat.mul_le_mul (fl_mono h2) (fl_mono hi)) ?_
    decide +kernel
  have hd : (FP.fdiv (FP.fmul (fB x) (FP.i2f (iI p))) 1120403456).toNat ≤ 1266679808 := by
    refine div_le (by omega) (by decide) (by decide) ?_
    refine Nat.le_trans (Nat.mul_le_mul_right _ (fl_mono hm)) ?_
    decide +kernel
  exact ⟨fl_n32 (by omega), fl_n32 (by omega), okW_of hd⟩
theorem fw_ten {x : Int} (h : okW x) : vf_n32 (FP.fmul 1092616192 (fB x)) := by
  obtain ⟨h1, h2⟩ := fl_x h
  have hm : (FP.fmul 1092616192 (fB x)).toNat ≤ 1293942784 := by
    refine mul_le (by decide) (by omega) ?_
    refine Nat.le_trans (Nat.mul_le_mul_left _ (fl_mono h2)) ?_
    decide +kernel
  exact fl_n32 (by omega)
theorem fl_cmp {a b : UInt32} (ha : a.toNat ≤ 2139095040) (hb : b.toNat ≤ 2139095040) : FP.fcmp a b = some (compare (a.toNat : Int) (b.toNat : Int)) := by
  have h := FP.Core.cmp_key FP.Core.good_b32 (m := a.toNat) (n := b.toNat) (FP.Core.lt_full32 a) (FP.Core.lt_full32 b) (fl_nn ha) (fl_nn hb)
  show FP.Core.cmp FP.Core.b32 a.toNat b.toNat = _
  rw [h]
  unfold FP.Core.key
  rw [fl_mag ha, fl_mag hb, FP.Core.half_b32, decide_eq_false (by omega), decide_eq_false (by omega)]
  rfl
theorem okW_eq {x : Int} (h : okW x) : Op.cmpValue (FP.fcmp (fB x) (fB x)) .l = 0 := by
  obtain ⟨h1, h2⟩ := fl_x h
  rw [fl_cmp (by omega) (by omega), Int.compare_eq_eq.mpr rfl]
  rfl
theorem fw_neg (x : Int) (h : okW x) : ¬ Op.cmpValue (FP.fcmp (fB x) 3212836864) .l ≤ 0 := by
  obtain ⟨h1, h2⟩ := fl_x h
  have hx := fl_nn (a := fB x) (by omega)
  have hz := FP.Core.zval_nonneg32 hx (by omega)
  have e : FP.fcmp (fB x) 3212836864 = some .gt := FP.Core.fcmp_gt.mpr ⟨hx, by decide +kernel, Int.lt_of_lt_of_le (by decide +kernel) hz⟩
  rw [e]
  decide
theorem fl_f2d {x : Int} (h : okW x) : FP.Core.val64 (FP.f2d (fB x)) ≠ .nan := by
  obtain ⟨h1, h2⟩ := fl_x h
  have hx := fl_nn (a := fB x) (by omega)
  have e : FP.f2d (fB x) = FP.Core.f2d (fB x) := by
    unfold FP.f2d
    rw [(FP.Core.notNaN_iff32 _).mpr hx]
    rfl
  rw [e, FP.Core.val64_f2d]
  obtain ⟨c, q, a1, -⟩ := fl_dec (a := fB x) (by omega)
  rw [a1]
  exact FP.Core.roundRatio_ne_nan _ _ _ _ _
theorem fw_d {x : Int} (h : okW x) : vf_n64 (FP.f2d (fB x)) := by
  have h1 := (FP.Core.ne_nan _).mp (fl_f2d h)
  unfold vf_n64
  rw [UInt64.le_iff_toNat_le, UInt64.toNat_and, show (0x7fffffffffffffff : UInt64).toNat = 2 ^ 63 - 1 from rfl, Nat.and_two_pow_sub_one_eq_mod]
  exact h1
theorem fw_dd {x : Int} (h : okW x) : Op.cmpValue (FP.dcmp (FP.f2d (fB x)) (FP.f2d (fB x))) .l = 0 := by
  have e : FP.dcmp (FP.f2d (fB x)) (FP.f2d (fB x)) = some .eq := FP.Core.dcmp_eq.mpr ⟨fl_f2d h, fl_f2d h, rfl⟩
  rw [e]
  rfl
/-! bitsOf -/
theorem fB_n {n : Nat} (h : n < 4294967296) : (fB (n : Int)).toNat = n := by
  unfold fB
  rw [show ((n : Int)).toNat = n by omega, UInt32.toNat_ofNat_of_lt' h]
theorem fB_eq {r : UInt32} {n : Nat} (h : r.toNat = n) : r = fB (n : Int) := by
  rw [← h, fB_nat]
theorem U_hi {y : Nat} (h : 8388608 ≤ y) : FP.Core.unitsOf FP.Core.b32 y = (8388608 + y % 8388608) * 2 ^ (y / 8388608 - 1) := by
  unfold FP.Core.unitsOf
  rw [show FP.Core.b32.tails = 8388608 from rfl, if_neg (by omega)]
theorem U_lo {y : Nat} (h : y < 16777216) : FP.Core.unitsOf FP.Core.b32 y = y := by
  by_cases h1 : y < 8388608
  · unfold FP.Core.unitsOf
    rw [show FP.Core.b32.tails = 8388608 from rfl, if_pos h1]
  · rw [U_hi (by omega), show y / 8388608 - 1 = 0 by omega, Nat.pow_zero]
    omega
theorem U_dbl {y : Nat} : FP.Core.unitsOf FP.Core.b32 (if y < 8388608 then 2 * y else y + 8388608) = 2 * FP.Core.unitsOf FP.Core.b32 y := by
  by_cases h1 : y < 8388608
  · rw [if_pos h1, U_lo (by omega), U_lo (by omega)]
  · rw [if_neg h1, U_hi (by omega), U_hi (by omega), show (y + 8388608) % 8388608 = y % 8388608 by omega, show (y + 8388608) / 8388608 - 1 = (y / 8388608 - 1) + 1 by omega, Nat.pow_succ]
    generalize (8388608 + y % 8388608) = A
    generalize 2 ^ (y / 8388608 - 1) = P
    rw [Nat.mul_comm P 2, Nat.mul_left_comm]
theorem bm_mul {y : Nat} (h : y < 1065353216) : FP.fmul (fB (y : Int)) FP.fconst2 = fB (((if y < 8388608 then 2 * y else y + 8388608 : Nat)) : Int) := by
  refine fB_eq (mul_eq (by rw [fB_n (by omega)]; omega) (by decide) (by split <;> omega) ?_)
  rw [fB_n (by omega), U_dbl, show FP.Core.unitsOf FP.Core.b32 FP.fconst2.toNat = 2 * 2 ^ 149 by decide +kernel, Nat.mul_left_comm, ← Nat.mul_assoc]
theorem bm_div {y : Nat} (h : 1073741824 ≤ y ∧ y ≤ 1266679808) : FP.fdiv (fB (y : Int)) FP.fconst2 = fB (((y - 8388608 : Nat)) : Int) := by
  refine fB_eq (div_eq (by rw [fB_n (by omega)]; omega) (by decide) (by decide) (by omega) ?_)
  have e := U_dbl (y := y - 8388608)
  rw [if_neg (by omega), show y - 8388608 + 8388608 = y by omega] at e
  rw [fB_n (by omega), e, show FP.Core.unitsOf FP.Core.b32 FP.fconst2.toNat = 2 * 2 ^ 149 by decide +kernel, Nat.mul_comm 2 (FP.Core.unitsOf FP.Core.b32 (y - 8388608)), Nat.mul_assoc]
theorem bm_ge2 {y : Nat} (h : y ≤ 1266679808) : Op.cmpValue (FP.fcmp (fB (y : Int)) FP.fconst2) .l < 0 ↔ y < 1073741824 := by
  rw [fl_cmp (by rw [fB_n (by omega)]; omega) (by decide), fB_n (by omega), show ((FP.fconst2.toNat : Nat) : Int) = 1073741824 by decide]
  rcases Int.lt_trichotomy (y : Int) 1073741824 with z | z | z
  · rw [Int.compare_eq_lt.mpr z]; exact iff_of_true (by decide) (by omega)
  · rw [Int.compare_eq_eq.mpr z]; exact iff_of_false (by decide) (by omega)
  · rw [Int.compare_eq_gt.mpr z]; exact iff_of_false (by decide) (by omega)
theorem bm_lt1 {y : Nat} (h : y ≤ 1266679808) : 0 ≤ Op.cmpValue (FP.fcmp (fB (y : Int)) FP.fconst1) .g ↔ 1065353216 ≤ y := by
  rw [fl_cmp (by rw [fB_n (by omega)]; omega) (by decide), fB_n (by omega), show ((FP.fconst1.toNat : Nat) : Int) = 1065353216 by decide]
  rcases Int.lt_trichotomy (y : Int) 1065353216 with z | z | z
  · rw [Int.compare_eq_lt.mpr z]; exact iff_of_false (by decide) (by omega)
  · rw [Int.compare_eq_eq.mpr z]; exact iff_of_true (by decide) (by omega)
  · rw [Int.compare_eq_gt.mpr z]; exact iff_of_true (by decide) (by omega)
theorem U_23 {y : Nat} (h : 8388608 ≤ y) : FP.Core.unitsOf FP.Core.b32 (y + 192937984) = FP.Core.unitsOf FP.Core.b32 y * 2 ^ 23 := by
  rw [U_hi (by omega), U_hi h, show (y + 192937984) % 8388608 = y % 8388608 by omega, show (y + 192937984) / 8388608 - 1 = (y / 8388608 - 1) + 23 by omega, Nat.pow_add, Nat.mul_assoc]
theorem bm_int {y : Nat} (h : y = 0 ∨ (8388608 ≤ y ∧ y < 1073741824)) : FP.f2i (FP.fmul (fB (y : Int)) 1258291200) = iI ((FP.Core.unitsOf FP.Core.b32 y / 2 ^ 126 : Nat) : Int) ∧ vf_n32 (FP.fmul (fB (y : Int)) 1258291200) ∧ FP.Core.unitsOf FP.Core.b32 y / 2 ^ 126 ≤ 16777216 := by
  have hU : FP.Core.unitsOf FP.Core.b32 y ≤ 2 ^ 150 := by
    refine Nat.le_trans (fl_mono (show y ≤ 1073741824 by omega)) ?_
    decide +kernel
  have hb : FP.Core.unitsOf FP.Core.b32 y / 2 ^ 126 ≤ 16777216 := Nat.le_trans (Nat.div_le_div_right hU) (by decide)
  have key : ∀ (r : UInt32), r.toNat ≤ 2139095040 → FP.Core.unitsOf FP.Core.b32 r.toNat = FP.Core.unitsOf FP.Core.b32 y * 2 ^ 23 → FP.f2i r = iI ((FP.Core.unitsOf FP.Core.b32 y / 2 ^ 126 : Nat) : Int) := fun r hr hu => by
    have hv := FP.Core.f2i_val (fl_nn hr)
    rw [FP.Core.zmag_bits32 (fl_nn hr), FP.Core.sgn_bits32 (fl_nn hr), decide_eq_false (by omega), Nat.mod_eq_of_lt (by omega), hu, show FP.Core.one32 = 2 ^ 126 * 2 ^ 23 by decide +kernel, Nat.mul_div_mul_right _ _ (by decide)] at hv
    apply Int32.toInt_inj.mp
    rw [iI_toInt (by omega)]
    show (FP.Core.f2i r).toInt = _
    rw [hv]
    show max (-2 ^ 31) (min (2 ^ 31 - 1) ((FP.Core.unitsOf FP.Core.b32 y / 2 ^ 126 : Nat) : Int)) = _
    generalize FP.Core.unitsOf FP.Core.b32 y / 2 ^ 126 = v at hb
    omega
  rcases h with rfl | h
  · have e : (FP.fmul (fB ((0 : Nat) : Int)) 1258291200).toNat = 0 := by decide +kernel
    refine ⟨key _ (by omega) (by rw [e]; decide +kernel), fl_n32 (by omega), hb⟩
  · have e : (FP.fmul (fB (y : Int)) 1258291200).toNat = y + 192937984 := by
      refine mul_eq (by rw [fB_n (by omega)]; omega) (by decide) (by omega) ?_
      rw [fB_n (by omega), U_23 h.1, show FP.Core.unitsOf FP.Core.b32 (1258291200 : UInt32).toNat = 2 ^ 23 * 2 ^ 149 by decide +kernel, Nat.mul_assoc]
    refine ⟨key _ (by omega) (by rw [e]; exact U_23 h.1), fl_n32 (by omega), hb⟩
