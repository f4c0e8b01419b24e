/-! the class's own way to a float's bits -/
theorem U_mid {y : Nat} (h : 1065353216 ≤ y ∧ y < 1073741824) : FP.Core.unitsOf FP.Core.b32 y / 2 ^ 126 = y - 1056964608 := by
  rw [U_hi (by omega), show y / 8388608 - 1 = 126 by omega, Nat.mul_div_cancel _ (Nat.two_pow_pos 126)]
  omega
theorem U_add {x k : Nat} (h : 8388608 ≤ x) : FP.Core.unitsOf FP.Core.b32 (x + k * 8388608) = FP.Core.unitsOf FP.Core.b32 x * 2 ^ k := by
  rw [U_hi (by omega), U_hi h, show (x + k * 8388608) % 8388608 = x % 8388608 by omega, show (x + k * 8388608) / 8388608 - 1 = (x / 8388608 - 1) + k by omega, Nat.pow_add, Nat.mul_assoc]
theorem U_inj {x y : Nat} (h : FP.Core.unitsOf FP.Core.b32 x = FP.Core.unitsOf FP.Core.b32 y) : x = y := by
  have h1 := FP.Core.unitsOf_le_iff.mp (Nat.le_of_eq h)
  have h2 := FP.Core.unitsOf_le_iff.mp (Nat.le_of_eq h.symm)
  omega
theorem U_one : FP.Core.unitsOf FP.Core.b32 1065353216 = 2 ^ 149 := by decide +kernel
theorem bm_end1 {x y k : Nat} (hk : k ≤ 126) (hu : FP.Core.unitsOf FP.Core.b32 y = FP.Core.unitsOf FP.Core.b32 x * 2 ^ k) (hy : 1065353216 ≤ y ∧ y < 1073741824) : x + k * 8388608 = y := by
  have h1 : 2 ^ 149 ≤ FP.Core.unitsOf FP.Core.b32 y := by rw [← U_one]; exact fl_mono hy.1
  have h2 : 8388608 ≤ x := by
    refine Nat.le_of_not_lt fun hx => ?_
    rw [hu, U_lo (by omega)] at h1
    have h3 : x * 2 ^ k ≤ 8388607 * 2 ^ 126 := Nat.mul_le_mul (by omega) (Nat.pow_le_pow_right (by decide) hk)
    have h4 : 8388607 * 2 ^ 126 < 2 ^ 149 := by decide +kernel
    omega
  exact U_inj ((U_add h2).trans hu.symm)
theorem bm_end2 {x y : Nat} (hu : FP.Core.unitsOf FP.Core.b32 y = FP.Core.unitsOf FP.Core.b32 x * 2 ^ 126) (hy : y < 1065353216) : FP.Core.unitsOf FP.Core.b32 y / 2 ^ 126 = x ∧ (y = 0 ∨ 8388608 ≤ y) := by
  have h1 : FP.Core.unitsOf FP.Core.b32 y < 2 ^ 149 := by rw [← U_one]; exact FP.Core.unitsOf_lt_iff.mpr hy
  have h2 : x < 8388608 := by
    refine Nat.lt_of_not_le fun hx => ?_
    have h3 := fl_mono hx
    rw [U_lo (y := 8388608) (by omega)] at h3
    have h4 := Nat.mul_le_mul_right (2 ^ 126) h3
    have h5 : 8388608 * 2 ^ 126 = 2 ^ 149 := by decide +kernel
    omega
  rw [U_lo (y := x) (by omega)] at hu
  refine ⟨by rw [hu, Nat.mul_div_cancel _ (Nat.two_pow_pos 126)], ?_⟩
  by_cases hx : x = 0
  · left
    rw [hx, Nat.zero_mul] at hu
    exact FP.Core.unitsOf_eq_zero.mp hu
  · right
    refine Nat.le_of_not_lt fun h3 => ?_
    rw [U_lo (y := y) (by omega)] at hu
    have h4 : 1 * 2 ^ 126 ≤ x * 2 ^ 126 := Nat.mul_le_mul_right _ (by omega)
    have h5 : 8388608 < 1 * 2 ^ 126 := by decide +kernel
    omega
theorem shl23 {a : Int} (h : 0 ≤ a ∧ a ≤ 150) : iI a <<< (iI 23 &&& 31) = iI (a * 8388608) := by
  have key : ∀ n : Fin 151, iI ((n.val : Nat) : Int) <<< (iI 23 &&& 31) = iI (((n.val : Nat) : Int) * 8388608) := by decide +kernel
  have q := key ⟨a.toNat, by omega⟩
  rw [show ((a.toNat : Nat) : Int) = a by omega] at q
  exact q
theorem aw_ldcwf {l : Launch} {own nm : String} {cc : ByteArray} {nL : Nat} {ret : Option FieldType} {X : Code → Prop} {R : Room} {E : List Frame → Array Value → State → State → Prop} {D : va_G} {ty : List (ClassId × FieldType)} {Z : State → Prop} {w0 ws : va_W} {pc q : Nat} {lv : List (Nat × Value)} {st : List Value} {k n : Nat} {i : Nat} {v : UInt32} (d : decode cc pc = .ok (.ldc_w i, 3)) (hq : pc + 3 = q) (hw : Cond.constantFloat own i v ∈ gt)
    (kk : AW l own nm cc nL ret X R E D ty Z w0 q lv (.float v :: st) ws k n) : AW l own nm cc nL ret X R E D ty Z w0 pc lv st ws k n := by
  subst hq
  intro p e s m args below meth c hC hK hZ H locs ls hP hD hS hl
  obtain ⟨hx, hb, hml, hown, hts, hr, hlk, hnm, hX⟩ := id hC
  intro T hT Y
  obtain ⟨t, a, b⟩ := kk p e s m args below meth c hC hK hZ H locs ls hP hD hS hl T hT Y
  obtain ⟨k9, cf, hk, hcf, hcp⟩ := Cond.constantFloat_spec hown (hts _ hw)
  obtain ⟨k', hk', he⟩ := Y.warmed.alike.2.2 _ _ hk
  refine ⟨t, ?_, b⟩
  jvm_step Y.here [Y.here.top, hx, hb, d, ldc_w.wp_float (s := T) (f := F0 m pc ls st) Y.here.top hk' (by rw [he]; exact hcf) hcp]
  exact a
section BITS
variable {l : Launch} {D : va_G} {C : Nat → ClassId} {T : Nat → Nat} {ad : Int → Nat}
set_option maxHeartbeats 4000000 in
set_option maxRecDepth 100000 in
theorem L_bits48 (G : GG) {x E : Int} {y : Nat} (hy : y = 0 ∨ (8388608 ≤ y ∧ y < 1073741824)) (hE : -126 ≤ E ∧ E ≤ 24) (hv : (E + 126) * 8388608 + ((FP.Core.unitsOf FP.Core.b32 y / 2 ^ 126 : Nat) : Int) = x) : AW l RX5 "bitsOf" cX5_bitsOf 3 (some .int) (fun _ => True) { frames := 0, cells := 0, slots := 0, locals := 0 } (hvE D (RI ad C (fun r G1 => r = x ∧ G1 = G)) (cw ad C G) 0 0) D (tyC C) (hvZ T (cw ad C G)) (cw ad C G) 48 [(2, .int (iI E)), (1, .float (fB (y : Int)))] [] (cw ad C G) 0 0 := by
  obtain ⟨b1, b2, b3⟩ := bm_int hy
  refine aw_iload_n (q := 49) 0 dX5_bitsOf_48 rfl rfl rfl ?_
  refine aw_bipush (q := 51) dX5_bitsOf_49 rfl rfl ?_
  refine aw_iadd (q := 52) dX5_bitsOf_51 rfl ?_
  refine aw_bipush (q := 54) dX5_bitsOf_52 rfl rfl ?_
  refine aw_ishlR (q := 55) dX5_bitsOf_54 rfl ?_
  rw [shl23 (by omega)]
  refine aw_fload_n (q := 56) 1 dX5_bitsOf_55 rfl rfl rfl ?_
  refine aw_ldcwf (q := 59) dX5_bitsOf_56 rfl wk_RX5_262 ?_
  refine aw_fmul (q := 60) dX5_bitsOf_59 rfl b2 ?_
  refine aw_f2i (q := 61) dX5_bitsOf_60 rfl ?_
  rw [b1]
  refine aw_iadd (q := 62) dX5_bitsOf_61 rfl ?_
  exact rt_i rfl (Nat.le_refl _) (Nat.le_refl _) ⟨hv, rfl⟩ dX5_bitsOf_62
set_option maxHeartbeats 4000000 in
set_option maxRecDepth 100000 in
theorem L_bits26 (G : GG) {X0 : Nat} (hX : X0 < 1073741824) : ∀ (f k y : Nat), k ≤ 126 → 126 - k < f → y < 1073741824 → FP.Core.unitsOf FP.Core.b32 y = FP.Core.unitsOf FP.Core.b32 X0 * 2 ^ k → AW l RX5 "bitsOf" cX5_bitsOf 3 (some .int) (fun _ => True) { frames := 0, cells := 0, slots := 0, locals := 0 } (hvE D (RI ad C (fun r G1 => r = (X0 : Int) ∧ G1 = G)) (cw ad C G) 0 0) D (tyC C) (hvZ T (cw ad C G)) (cw ad C G) 26 [(2, .int (iI (-(k : Int)))), (1, .float (fB (y : Int)))] [] (cw ad C G) 0 0 := by
  intro f
  induction f with
  | zero => intro k y h0 h1; omega
  | succ f ih =>
    intro k y hk hf hy hu
    refine aw_fload_n (q := 27) 1 dX5_bitsOf_26 rfl rfl rfl ?_
    refine aw_fconst1 (q := 28) dX5_bitsOf_27 rfl ?_
    refine aw_fcmp (q := 29) dX5_bitsOf_28 rfl ?_
    refine aw_ifW_ge (q := 32) dX5_bitsOf_29 rfl (t := 48) (by decide) (fun h => ?_) (fun h => ?_)
    · have hy1 := (bm_lt1 (by omega)).mp h
      have e := bm_end1 hk hu ⟨hy1, hy⟩
      refine L_bits48 G (Or.inr ⟨by omega, hy⟩) (by omega) ?_
      rw [U_mid ⟨hy1, hy⟩]
      omega
    · have hy1 : y < 1065353216 := Nat.lt_of_not_le fun q => h ((bm_lt1 (by omega)).mpr q)
      refine aw_iload_n (q := 33) 0 dX5_bitsOf_32 rfl rfl rfl ?_
      refine aw_bipush (q := 35) dX5_bitsOf_33 rfl rfl ?_
      refine aw_icmp_le (q := 38) dX5_bitsOf_35 rfl (t := 48) (by decide) (by omega) (by omega) (fun h1 => ?_) (fun h1 => ?_)
      · have k126 : k = 126 := by omega
        subst k126
        obtain ⟨e1, e2⟩ := bm_end2 hu hy1
        refine L_bits48 G (by omega) (by omega) ?_
        rw [e1]
        omega
      · refine aw_fload_n (q := 39) 1 dX5_bitsOf_38 rfl rfl rfl ?_
        refine aw_fconst2 (q := 40) dX5_bitsOf_39 rfl ?_
        have e := bm_mul hy1
        have hd : (if y < 8388608 then 2 * y else y + 8388608) < 1073741824 := by split <;> omega
        refine aw_fmul (q := 41) dX5_bitsOf_40 rfl (by rw [e]; exact fl_n32 (by rw [fB_n (by omega)]; omega)) ?_
        rw [e]
        refine aw_fstore_n (q := 42) (lv2 := [(2, .int (iI (-(k : Int)))), (1, .float (fB (((if y < 8388608 then 2 * y else y + 8388608 : Nat)) : Int)))]) [1, 0] dX5_bitsOf_41 rfl rfl (by decide) rfl rfl ?_
        refine ae_iinc (q := 45) (lv2 := [(2, .int (iI (-((k + 1 : Nat) : Int)))), (1, .float (fB (((if y < 8388608 then 2 * y else y + 8388608 : Nat)) : Int)))]) 0 [0, 1] (-((k + 1 : Nat) : Int)) (by omega) dX5_bitsOf_42 rfl rfl (by decide) rfl ?_
        refine aw_goto (q := 26) dX5_bitsOf_45 (by decide) ?_
        refine ih (k + 1) _ (by omega) (by omega) hd ?_
        rw [U_dbl, hu, Nat.pow_succ, Nat.mul_comm 2, Nat.mul_assoc]
set_option maxHeartbeats 4000000 in
set_option maxRecDepth 100000 in
theorem L_bits4 (G : GG) {X0 : Nat} (hX : X0 ≤ 1266679808) : ∀ (f e y : Nat), e ≤ 24 → 24 - e < f → y + e * 8388608 = X0 → (e = 0 ∨ 1065353216 ≤ y) → AW l RX5 "bitsOf" cX5_bitsOf 3 (some .int) (fun _ => True) { frames := 0, cells := 0, slots := 0, locals := 0 } (hvE D (RI ad C (fun r G1 => r = (X0 : Int) ∧ G1 = G)) (cw ad C G) 0 0) D (tyC C) (hvZ T (cw ad C G)) (cw ad C G) 4 [(2, .int (iI (e : Int))), (1, .float (fB (y : Int)))] [] (cw ad C G) 0 0 := by
  intro f
  induction f with
  | zero => intro e y h0 h1; omega
  | succ f ih =>
    intro e y he hf hx h0
    refine aw_fload_n (q := 5) 1 dX5_bitsOf_4 rfl rfl rfl ?_
    refine aw_fconst2 (q := 6) dX5_bitsOf_5 rfl ?_
    refine aw_fcmp (q := 7) dX5_bitsOf_6 rfl ?_
    refine aw_ifW_lt (q := 10) dX5_bitsOf_7 rfl (t := 26) (by decide) (fun h => ?_) (fun h => ?_)
    · have hy := (bm_ge2 (by omega)).mp h
      rcases h0 with rfl | h0
      · have hxy : y = X0 := by omega
        subst hxy
        exact L_bits26 G hy 127 0 y (by omega) (by omega) hy (by rw [Nat.pow_zero, Nat.mul_one])
      · refine aw_fload_n (q := 27) 1 dX5_bitsOf_26 rfl rfl rfl ?_
        refine aw_fconst1 (q := 28) dX5_bitsOf_27 rfl ?_
        refine aw_fcmp (q := 29) dX5_bitsOf_28 rfl ?_
        refine aw_ifW_ge (q := 32) dX5_bitsOf_29 rfl (t := 48) (by decide) (fun _ => ?_) (fun h => absurd ((bm_lt1 (by omega)).mpr h0) h)
        refine L_bits48 G (Or.inr ⟨by omega, hy⟩) (by omega) ?_
        rw [U_mid ⟨h0, hy⟩]
        omega
    · have hy : 1073741824 ≤ y := Nat.le_of_not_lt fun q => h ((bm_ge2 (by omega)).mpr q)
      refine aw_iload_n (q := 11) 0 dX5_bitsOf_10 rfl rfl rfl ?_
      refine aw_bipush (q := 13) dX5_bitsOf_11 rfl rfl ?_
      refine aw_icmp_ge (q := 16) dX5_bitsOf_13 rfl (t := 26) (by decide) (by omega) (by omega) (fun h1 => absurd h1 (by omega)) (fun h1 => ?_)
      refine aw_fload_n (q := 17) 1 dX5_bitsOf_16 rfl rfl rfl ?_
      refine aw_fconst2 (q := 18) dX5_bitsOf_17 rfl ?_
      have ed := bm_div (y := y) ⟨hy, by omega⟩
      refine aw_fdiv (q := 19) dX5_bitsOf_18 rfl (by rw [ed]; exact fl_n32 (by rw [fB_n (by omega)]; omega)) ?_
      rw [ed]
      refine aw_fstore_n (q := 20) (lv2 := [(2, .int (iI (e : Int))), (1, .float (fB (((y - 8388608 : Nat)) : Int)))]) [1, 0] dX5_bitsOf_19 rfl rfl (by decide) rfl rfl ?_
      refine ae_iinc (q := 23) (lv2 := [(2, .int (iI ((e + 1 : Nat) : Int))), (1, .float (fB (((y - 8388608 : Nat)) : Int)))]) 0 [0, 1] ((e + 1 : Nat) : Int) (by omega) dX5_bitsOf_20 rfl rfl (by decide) rfl ?_
      refine aw_goto (q := 4) dX5_bitsOf_23 (by decide) ?_
      exact ih (e + 1) (y - 8388608) (by omega) (by omega) (by omega) (Or.inr (by omega))
set_option maxHeartbeats 4000000 in
set_option maxRecDepth 100000 in
theorem c_bitsOf (G : GG) {x : Int} (h : okW x) : MC l yX5_bitsOf cX5_bitsOf 3 (some .int) 0 0 0 0 D (tyC C) T [.float (fB x)] (cw ad C G) (RI ad C (fun r G1 => r = x ∧ G1 = G)) := by
  have hb := fl_x h
  unfold okW at h
  have hx : ((x.toNat : Nat) : Int) = x := by omega
  refine mc_of (by decide +kernel) (Nat.le_of_ble_eq_true rfl) rfl ?_
  refine aw_fload_n (q := 1) 0 dX5_bitsOf_0 rfl rfl rfl ?_
  refine aw_fstore_n (q := 2) (lv2 := [(1, .float (fB x))]) [0] dX5_bitsOf_1 rfl rfl (by decide) rfl rfl ?_
  refine aw_iconst (q := 3) dX5_bitsOf_2 rfl ?_
  refine aw_istore_n (q := 4) (lv2 := [(2, .int (iI ((0 : Nat) : Int))), (1, .float (fB x))]) [0, 1] dX5_bitsOf_3 rfl rfl (by decide) rfl rfl ?_
  have w := L_bits4 (l := l) (D := D) (C := C) (T := T) (ad := ad) G (X0 := x.toNat) (by omega) 25 0 x.toNat (by omega) (by omega) (by omega) (Or.inl rfl)
  rw [hx] at w
  exact w
end BITS
