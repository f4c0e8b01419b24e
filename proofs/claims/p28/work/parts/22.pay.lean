def t2F (h2 a f : Int) : Int := min h2 ((a - 50 * f) / 20)
def t1F (h1 h2 a f : Int) : Int := min h1 ((a - 50 * f - 20 * t2F h2 a f) / 10)
def t0F (h0 h1 h2 a f : Int) : Int := min h0 ((a - 50 * f - 20 * t2F h2 a f - 10 * t1F h1 h2 a f) / 5)
def tkF (h0 h1 h2 a f : Int) : Int := if f < 0 then -1 else if a - 50 * f - 20 * t2F h2 a f - 10 * t1F h1 h2 a f - 5 * t0F h0 h1 h2 a f = 0 then f + t2F h2 a f + t1F h1 h2 a f + t0F h0 h1 h2 a f else -1
def set4 (G : GG) (i b v0 v1 v2 v3 : Int) : GG := fun x y => if x = i ∧ b ≤ y ∧ y < b + 4 then (if y = b then v0 else if y = b + 1 then v1 else if y = b + 2 then v2 else v3) else G x y
def tkG (G : GG) (i a f : Int) : GG := if f < 0 then G else set4 G i 316 (t0F (G i 312) (G i 313) (G i 314) a f) (t1F (G i 313) (G i 314) a f) (t2F (G i 314) a f) f
theorem set4_eq (G : GG) (i b v0 v1 v2 v3 : Int) : setG (setG (setG (setG G i (b + 3) v3) i (b + 2) v2) i (b + 1) v1) i b v0 = set4 G i b v0 v1 v2 v3 := by
  funext x y
  simp only [setG, set4]
  by_cases hx : x = i
  · by_cases h0 : y = b
    · rw [if_pos ⟨hx, h0⟩, if_pos (by omega), if_pos h0]
    · rw [if_neg (fun q => h0 q.2)]
      by_cases h1 : y = b + 1
      · rw [if_pos ⟨hx, h1⟩, if_pos (by omega), if_neg h0, if_pos h1]
      · rw [if_neg (fun q => h1 q.2)]
        by_cases h2 : y = b + 2
        · rw [if_pos ⟨hx, h2⟩, if_pos (by omega), if_neg h0, if_neg h1, if_pos h2]
        · rw [if_neg (fun q => h2 q.2)]
          by_cases h3 : y = b + 3
          · rw [if_pos ⟨hx, h3⟩, if_pos (by omega), if_neg h0, if_neg h1, if_neg h2]
          · rw [if_neg (fun q => h3 q.2), if_neg (by omega)]
  · rw [if_neg (fun q => hx q.1), if_neg (fun q => hx q.1), if_neg (fun q => hx q.1), if_neg (fun q => hx q.1), if_neg (fun q => hx q.1)]
theorem set4_set4 (G : GG) (i b v0 v1 v2 v3 w0 w1 w2 w3 : Int) : set4 (set4 G i b v0 v1 v2 v3) i b w0 w1 w2 w3 = set4 G i b w0 w1 w2 w3 := by
  funext x y
  simp only [set4]
  by_cases h : x = i ∧ b ≤ y ∧ y < b + 4
  · rw [if_pos h, if_pos h]
  · rw [if_neg h, if_neg h, if_neg h]
theorem set4_ne {G : GG} {i b v0 v1 v2 v3 x y : Int} (h : ¬ (x = i ∧ b ≤ y ∧ y < b + 4)) : set4 G i b v0 v1 v2 v3 x y = G x y := if_neg h
set_option maxHeartbeats 4000000 in
set_option maxRecDepth 100000 in
theorem c_pay_take {l : Launch} {D : va_G} {C : Nat → ClassId} {T : Nat → Nat} {ad : Int → Nat} (G : GG) {i : Int} (hi : 0 ≤ i ∧ i < 6) {a f : Int} (hh : ∀ k : Int, 0 ≤ k → k < 4 → 0 ≤ G i (312 + k) ∧ G i (312 + k) ≤ 31) (ha : 0 ≤ a ∧ a ≤ 3000) (hf : 50 * f ≤ a ∧ -1 ≤ f) : MC l yX3_take cX3_take 6 (some .int) 1 36 0 0 D (tyC C) T [.ref (ad (17 * i + 6)), .int (iI a), .int (iI f)] (cw ad C G) (RI ad C (fun r G1 => r = tkF (G i 312) (G i 313) (G i 314) a f ∧ G1 = tkG G i a f)) := by
  refine mc_of (by decide +kernel) (Nat.le_of_ble_eq_true rfl) rfl ?_
  have q0 : 0 ≤ G i 312 ∧ G i 312 ≤ 31 := hh 0 (by omega) (by omega)
  have q1 : 0 ≤ G i 313 ∧ G i 313 ≤ 31 := hh 1 (by omega) (by omega)
  have q2 : 0 ≤ G i 314 ∧ G i 314 ≤ 31 := hh 2 (by omega) (by omega)
  refine aw_iload_n (q := 1) 2 dX3_take_0 rfl rfl rfl ?_
  refine aw_if_ge (q := 4) dX3_take_1 rfl (t := 6) (by decide) (by omega) (fun h1 => ?_) (fun h2 => ?_)
  · refine aw_iload_n (q := 7) 1 dX3_take_6 rfl rfl rfl ?_
    refine aw_iload_n (q := 8) 2 dX3_take_7 rfl rfl rfl ?_
    refine aw_getsN (q := 11) 0 (by decide) (fun _ h => h) (by decide) dX3_take_8 rfl ?_
    refine aw_iconst (q := 12) dX3_take_11 rfl ?_
    refine ae_ti (q := 13) 0 50 (by decide) (by decide) (fun _ h => h) (by decide) dX3_take_12 rfl ?_
    refine ae_imul (q := 14) (50 * f) (by omega) dX3_take_13 rfl ?_
    refine ae_isub (q := 15) (a - 50 * f) (by omega) dX3_take_14 rfl ?_
    refine aw_istore_n (q := 16) (lv2 := [(0, .ref (ad (17 * i + 6))), (1, .int (iI a)), (2, .int (iI f)), (3, .int (iI (a - 50 * f)))]) [1, 2, 3, 0] dX3_take_15 rfl rfl (by decide) rfl rfl ?_
    refine aw_iload_n (q := 17) 2 dX3_take_16 rfl rfl rfl ?_
    refine aw_istore (q := 19) (lv2 := [(0, .ref (ad (17 * i + 6))), (1, .int (iI a)), (2, .int (iI f)), (3, .int (iI (a - 50 * f))), (4, .int (iI f))]) [1, 2, 3, 4, 0] dX3_take_17 rfl (by decide) rfl rfl ?_
    refine aw_aload_n (q := 20) 0 dX3_take_19 rfl rfl rfl ?_
    refine g_pay_taken (q := 23) hi wf_RX3_15 dX3_take_20 rfl ?_
    refine aw_iconst (q := 24) dX3_take_23 rfl ?_
    refine aw_iload_n (q := 25) 2 dX3_take_24 rfl rfl rfl ?_
    refine aw_cias (q := 26) 319 (ar_taken ad C hi) (by omega) (by omega) dX3_take_25 rfl ?_
    refine aw_iconst (q := 27) dX3_take_26 rfl ?_
    refine aw_istore (q := 29) (lv2 := [(0, .ref (ad (17 * i + 6))), (1, .int (iI a)), (2, .int (iI f)), (3, .int (iI (a - 50 * f))), (4, .int (iI f)), (5, .int (iI 2))]) [1, 2, 3, 4, 5, 0] dX3_take_27 rfl (by decide) rfl rfl ?_
    refine aw_iload (q := 31) 5 dX3_take_29 rfl rfl ?_
    refine aw_if_lt (q := 34) dX3_take_31 rfl (t := 94) (by decide) (by omega) (fun h => absurd h (by omega)) (fun _ => ?_)
    refine aw_aload_n (q := 35) 0 dX3_take_34 rfl rfl rfl ?_
    refine g_pay_taken (q := 38) hi wf_RX3_15 dX3_take_35 rfl ?_
    refine aw_iload (q := 40) 5 dX3_take_38 rfl rfl ?_
    refine aw_aload_n (q := 41) 0 dX3_take_40 rfl rfl rfl ?_
    refine g_pay_held (q := 44) hi wf_RX3_9 dX3_take_41 rfl ?_
    refine aw_iload (q := 46) 5 dX3_take_44 rfl rfl ?_
    refine aw_cial (q := 47) (v := (G i 314)) 314 (ar_held ad C hi) (by omega) (by omega) (setG_ne (by omega)) dX3_take_46 rfl ?_
    refine aw_iload_n (q := 48) 3 dX3_take_47 rfl rfl rfl ?_
    refine aw_getsN (q := 51) 0 (by decide) (fun _ h => h) (by decide) dX3_take_48 rfl ?_
    refine aw_iload (q := 53) 5 dX3_take_51 rfl rfl ?_
    refine ae_ti (q := 54) 0 20 (by decide) (by decide) (fun _ h => h) (by decide) dX3_take_53 rfl ?_
    obtain ⟨d1, hd1⟩ : ∃ z, ((a - 50 * f) / 20) = z := ⟨_, rfl⟩
    refine aw_div5 (q := 55) (z := d1) (by omega) (by omega) hd1 dX3_take_54 rfl ?_
    obtain ⟨m1, hm1⟩ : ∃ z, min (G i 314) d1 = z := ⟨_, rfl⟩
    refine ae_min (q := 58) m1 hm1 wm_RX3_21 wMmin_s wMath_i wMmin_c (Nat.le_of_ble_eq_true rfl) (Nat.le_of_ble_eq_true rfl) (Nat.le_of_ble_eq_true rfl) (Nat.le_of_ble_eq_true rfl) (by omega) (by omega) dX3_take_55 rfl ?_
    refine aw_cias (q := 59) 318 (ar_taken ad C hi) (by omega) (by omega) dX3_take_58 rfl ?_
    refine aw_iload_n (q := 60) 3 dX3_take_59 rfl rfl rfl ?_
    refine aw_aload_n (q := 61) 0 dX3_take_60 rfl rfl rfl ?_
    refine g_pay_taken (q := 64) hi wf_RX3_15 dX3_take_61 rfl ?_
    refine aw_iload (q := 66) 5 dX3_take_64 rfl rfl ?_
    refine aw_cial (q := 67) (v := m1) 318 (ar_taken ad C hi) (by omega) (by omega) (setG_same _ _ _ _) dX3_take_66 rfl ?_
    refine aw_getsN (q := 70) 0 (by decide) (fun _ h => h) (by decide) dX3_take_67 rfl ?_
    refine aw_iload (q := 72) 5 dX3_take_70 rfl rfl ?_
    refine ae_ti (q := 73) 0 20 (by decide) (by decide) (fun _ h => h) (by decide) dX3_take_72 rfl ?_
    refine ae_imul (q := 74) (20 * m1) (by omega) dX3_take_73 rfl ?_
    refine ae_isub (q := 75) (a - 50 * f - 20 * m1) (by omega) dX3_take_74 rfl ?_
    refine aw_istore_n (q := 76) (lv2 := [(0, .ref (ad (17 * i + 6))), (1, .int (iI a)), (2, .int (iI f)), (3, .int (iI (a - 50 * f - 20 * m1))), (4, .int (iI f)), (5, .int (iI 2))]) [1, 2, 3, 0, 4, 5] dX3_take_75 rfl rfl (by decide) rfl rfl ?_
    refine aw_iload (q := 78) 4 dX3_take_76 rfl rfl ?_
    refine aw_aload_n (q := 79) 0 dX3_take_78 rfl rfl rfl ?_
    refine g_pay_taken (q := 82) hi wf_RX3_15 dX3_take_79 rfl ?_
    refine aw_iload (q := 84) 5 dX3_take_82 rfl rfl ?_
    refine aw_cial (q := 85) (v := m1) 318 (ar_taken ad C hi) (by omega) (by omega) (setG_same _ _ _ _) dX3_take_84 rfl ?_
    refine ae_iadd (q := 86) (f + m1) (by omega) dX3_take_85 rfl ?_
    refine aw_istore (q := 88) (lv2 := [(0, .ref (ad (17 * i + 6))), (1, .int (iI a)), (2, .int (iI f)), (3, .int (iI (a - 50 * f - 20 * m1))), (4, .int (iI (f + m1))), (5, .int (iI 2))]) [1, 2, 3, 4, 0, 5] dX3_take_86 rfl (by decide) rfl rfl ?_
    refine ae_iinc (q := 91) (lv2 := [(0, .ref (ad (17 * i + 6))), (1, .int (iI a)), (2, .int (iI f)), (3, .int (iI (a - 50 * f - 20 * m1))), (4, .int (iI (f + m1))), (5, .int (iI 1))]) 5 [1, 2, 3, 4, 5, 0] 1 (by omega) dX3_take_88 rfl rfl (by decide) rfl ?_
    refine aw_goto (q := 29) dX3_take_91 (by decide) ?_
    refine aw_iload (q := 31) 5 dX3_take_29 rfl rfl ?_
    refine aw_if_lt (q := 34) dX3_take_31 rfl (t := 94) (by decide) (by omega) (fun h => absurd h (by omega)) (fun _ => ?_)
    refine aw_aload_n (q := 35) 0 dX3_take_34 rfl rfl rfl ?_
    refine g_pay_taken (q := 38) hi wf_RX3_15 dX3_take_35 rfl ?_
    refine aw_iload (q := 40) 5 dX3_take_38 rfl rfl ?_
    refine aw_aload_n (q := 41) 0 dX3_take_40 rfl rfl rfl ?_
    refine g_pay_held (q := 44) hi wf_RX3_9 dX3_take_41 rfl ?_
    refine aw_iload (q := 46) 5 dX3_take_44 rfl rfl ?_
    refine aw_cial (q := 47) (v := (G i 313)) 313 (ar_held ad C hi) (by omega) (by omega) ((setG_ne (by omega)).trans (setG_ne (by omega))) dX3_take_46 rfl ?_
    refine aw_iload_n (q := 48) 3 dX3_take_47 rfl rfl rfl ?_
    refine aw_getsN (q := 51) 0 (by decide) (fun _ h => h) (by decide) dX3_take_48 rfl ?_
    refine aw_iload (q := 53) 5 dX3_take_51 rfl rfl ?_
    refine ae_ti (q := 54) 0 10 (by decide) (by decide) (fun _ h => h) (by decide) dX3_take_53 rfl ?_
    obtain ⟨d2, hd2⟩ : ∃ z, ((a - 50 * f - 20 * m1) / 10) = z := ⟨_, rfl⟩
    refine aw_div5 (q := 55) (z := d2) (by omega) (by omega) hd2 dX3_take_54 rfl ?_
    obtain ⟨m2, hm2⟩ : ∃ z, min (G i 313) d2 = z := ⟨_, rfl⟩
    refine ae_min (q := 58) m2 hm2 wm_RX3_21 wMmin_s wMath_i wMmin_c (Nat.le_of_ble_eq_true rfl) (Nat.le_of_ble_eq_true rfl) (Nat.le_of_ble_eq_true rfl) (Nat.le_of_ble_eq_true rfl) (by omega) (by omega) dX3_take_55 rfl ?_
    refine aw_cias (q := 59) 317 (ar_taken ad C hi) (by omega) (by omega) dX3_take_58 rfl ?_
    refine aw_iload_n (q := 60) 3 dX3_take_59 rfl rfl rfl ?_
    refine aw_aload_n (q := 61) 0 dX3_take_60 rfl rfl rfl ?_
    refine g_pay_taken (q := 64) hi wf_RX3_15 dX3_take_61 rfl ?_
    refine aw_iload (q := 66) 5 dX3_take_64 rfl rfl ?_
    refine aw_cial (q := 67) (v := m2) 317 (ar_taken ad C hi) (by omega) (by omega) (setG_same _ _ _ _) dX3_take_66 rfl ?_
    refine aw_getsN (q := 70) 0 (by decide) (fun _ h => h) (by decide) dX3_take_67 rfl ?_
    refine aw_iload (q := 72) 5 dX3_take_70 rfl rfl ?_
    refine ae_ti (q := 73) 0 10 (by decide) (by decide) (fun _ h => h) (by decide) dX3_take_72 rfl ?_
    refine ae_imul (q := 74) (10 * m2) (by omega) dX3_take_73 rfl ?_
    refine ae_isub (q := 75) (a - 50 * f - 20 * m1 - 10 * m2) (by omega) dX3_take_74 rfl ?_
    refine aw_istore_n (q := 76) (lv2 := [(0, .ref (ad (17 * i + 6))), (1, .int (iI a)), (2, .int (iI f)), (3, .int (iI (a - 50 * f - 20 * m1 - 10 * m2))), (4, .int (iI (f + m1))), (5, .int (iI 1))]) [1, 2, 3, 0, 4, 5] dX3_take_75 rfl rfl (by decide) rfl rfl ?_
    refine aw_iload (q := 78) 4 dX3_take_76 rfl rfl ?_
    refine aw_aload_n (q := 79) 0 dX3_take_78 rfl rfl rfl ?_
    refine g_pay_taken (q := 82) hi wf_RX3_15 dX3_take_79 rfl ?_
    refine aw_iload (q := 84) 5 dX3_take_82 rfl rfl ?_
    refine aw_cial (q := 85) (v := m2) 317 (ar_taken ad C hi) (by omega) (by omega) (setG_same _ _ _ _) dX3_take_84 rfl ?_
    refine ae_iadd (q := 86) (f + m1 + m2) (by omega) dX3_take_85 rfl ?_
    refine aw_istore (q := 88) (lv2 := [(0, .ref (ad (17 * i + 6))), (1, .int (iI a)), (2, .int (iI f)), (3, .int (iI (a - 50 * f - 20 * m1 - 10 * m2))), (4, .int (iI (f + m1 + m2))), (5, .int (iI 1))]) [1, 2, 3, 4, 0, 5] dX3_take_86 rfl (by decide) rfl rfl ?_
    refine ae_iinc (q := 91) (lv2 := [(0, .ref (ad (17 * i + 6))), (1, .int (iI a)), (2, .int (iI f)), (3, .int (iI (a - 50 * f - 20 * m1 - 10 * m2))), (4, .int (iI (f + m1 + m2))), (5, .int (iI 0))]) 5 [1, 2, 3, 4, 5, 0] 0 (by omega) dX3_take_88 rfl rfl (by decide) rfl ?_
    refine aw_goto (q := 29) dX3_take_91 (by decide) ?_
    refine aw_iload (q := 31) 5 dX3_take_29 rfl rfl ?_
    refine aw_if_lt (q := 34) dX3_take_31 rfl (t := 94) (by decide) (by omega) (fun h => absurd h (by omega)) (fun _ => ?_)
    refine aw_aload_n (q := 35) 0 dX3_take_34 rfl rfl rfl ?_
    refine g_pay_taken (q := 38) hi wf_RX3_15 dX3_take_35 rfl ?_
    refine aw_iload (q := 40) 5 dX3_take_38 rfl rfl ?_
    refine aw_aload_n (q := 41) 0 dX3_take_40 rfl rfl rfl ?_
    refine g_pay_held (q := 44) hi wf_RX3_9 dX3_take_41 rfl ?_
    refine aw_iload (q := 46) 5 dX3_take_44 rfl rfl ?_
    refine aw_cial (q := 47) (v := (G i 312)) 312 (ar_held ad C hi) (by omega) (by omega) ((setG_ne (by omega)).trans ((setG_ne (by omega)).trans (setG_ne (by omega)))) dX3_take_46 rfl ?_
    refine aw_iload_n (q := 48) 3 dX3_take_47 rfl rfl rfl ?_
    refine aw_getsN (q := 51) 0 (by decide) (fun _ h => h) (by decide) dX3_take_48 rfl ?_
    refine aw_iload (q := 53) 5 dX3_take_51 rfl rfl ?_
    refine ae_ti (q := 54) 0 5 (by decide) (by decide) (fun _ h => h) (by decide) dX3_take_53 rfl ?_
    obtain ⟨d3, hd3⟩ : ∃ z, ((a - 50 * f - 20 * m1 - 10 * m2) / 5) = z := ⟨_, rfl⟩
    refine aw_div5 (q := 55) (z := d3) (by omega) (by omega) hd3 dX3_take_54 rfl ?_
    obtain ⟨m3, hm3⟩ : ∃ z, min (G i 312) d3 = z := ⟨_, rfl⟩
    refine ae_min (q := 58) m3 hm3 wm_RX3_21 wMmin_s wMath_i wMmin_c (Nat.le_of_ble_eq_true rfl) (Nat.le_of_ble_eq_true rfl) (Nat.le_of_ble_eq_true rfl) (Nat.le_of_ble_eq_true rfl) (by omega) (by omega) dX3_take_55 rfl ?_
    refine aw_cias (q := 59) 316 (ar_taken ad C hi) (by omega) (by omega) dX3_take_58 rfl ?_
    refine aw_iload_n (q := 60) 3 dX3_take_59 rfl rfl rfl ?_
    refine aw_aload_n (q := 61) 0 dX3_take_60 rfl rfl rfl ?_
    refine g_pay_taken (q := 64) hi wf_RX3_15 dX3_take_61 rfl ?_
    refine aw_iload (q := 66) 5 dX3_take_64 rfl rfl ?_
    refine aw_cial (q := 67) (v := m3) 316 (ar_taken ad C hi) (by omega) (by omega) (setG_same _ _ _ _) dX3_take_66 rfl ?_
    refine aw_getsN (q := 70) 0 (by decide) (fun _ h => h) (by decide) dX3_take_67 rfl ?_
    refine aw_iload (q := 72) 5 dX3_take_70 rfl rfl ?_
    refine ae_ti (q := 73) 0 5 (by decide) (by decide) (fun _ h => h) (by decide) dX3_take_72 rfl ?_
    refine ae_imul (q := 74) (5 * m3) (by omega) dX3_take_73 rfl ?_
    refine ae_isub (q := 75) (a - 50 * f - 20 * m1 - 10 * m2 - 5 * m3) (by omega) dX3_take_74 rfl ?_
    refine aw_istore_n (q := 76) (lv2 := [(0, .ref (ad (17 * i + 6))), (1, .int (iI a)), (2, .int (iI f)), (3, .int (iI (a - 50 * f - 20 * m1 - 10 * m2 - 5 * m3))), (4, .int (iI (f + m1 + m2))), (5, .int (iI 0))]) [1, 2, 3, 0, 4, 5] dX3_take_75 rfl rfl (by decide) rfl rfl ?_
    refine aw_iload (q := 78) 4 dX3_take_76 rfl rfl ?_
    refine aw_aload_n (q := 79) 0 dX3_take_78 rfl rfl rfl ?_
    refine g_pay_taken (q := 82) hi wf_RX3_15 dX3_take_79 rfl ?_
    refine aw_iload (q := 84) 5 dX3_take_82 rfl rfl ?_
    refine aw_cial (q := 85) (v := m3) 316 (ar_taken ad C hi) (by omega) (by omega) (setG_same _ _ _ _) dX3_take_84 rfl ?_
    refine ae_iadd (q := 86) (f + m1 + m2 + m3) (by omega) dX3_take_85 rfl ?_
    refine aw_istore (q := 88) (lv2 := [(0, .ref (ad (17 * i + 6))), (1, .int (iI a)), (2, .int (iI f)), (3, .int (iI (a - 50 * f - 20 * m1 - 10 * m2 - 5 * m3))), (4, .int (iI (f + m1 + m2 + m3))), (5, .int (iI 0))]) [1, 2, 3, 4, 0, 5] dX3_take_86 rfl (by decide) rfl rfl ?_
    refine ae_iinc (q := 91) (lv2 := [(0, .ref (ad (17 * i + 6))), (1, .int (iI a)), (2, .int (iI f)), (3, .int (iI (a - 50 * f - 20 * m1 - 10 * m2 - 5 * m3))), (4, .int (iI (f + m1 + m2 + m3))), (5, .int (iI (-1)))]) 5 [1, 2, 3, 4, 5, 0] (-1) (by omega) dX3_take_88 rfl rfl (by decide) rfl ?_
    refine aw_goto (q := 29) dX3_take_91 (by decide) ?_
    refine aw_iload (q := 31) 5 dX3_take_29 rfl rfl ?_
    refine aw_if_lt (q := 34) dX3_take_31 rfl (t := 94) (by decide) (by omega) (fun _ => ?_) (fun h => absurd h (by omega))
    refine aw_iload_n (q := 95) 3 dX3_take_94 rfl rfl rfl ?_
    refine aw_if_ne (q := 98) dX3_take_95 rfl (t := 103) (by decide) (by omega) (fun h3 => ?_) (fun h4 => ?_)
    · refine aw_iconst (q := 104) dX3_take_103 rfl ?_
      exact rt_i rfl (Nat.le_refl _) (Nat.le_refl _) (by
          have e2 : t2F (G i 314) a f = m1 := by unfold t2F; rw [hd1, hm1]
          have e1 : t1F (G i 313) (G i 314) a f = m2 := by unfold t1F; rw [e2, hd2, hm2]
          have e0 : t0F (G i 312) (G i 313) (G i 314) a f = m3 := by unfold t0F; rw [e1, e2, hd3, hm3]
          refine ⟨?_, ?_⟩
          · unfold tkF
            rw [if_neg (by omega), e0, e1, e2]
            first | (rw [if_pos (by omega)]) | (rw [if_neg (by omega)])
          · unfold tkG
            rw [if_neg (by omega), e0, e1, e2, ← set4_eq]
            rfl) dX3_take_104
    · refine aw_iload (q := 100) 4 dX3_take_98 rfl rfl ?_
      refine aw_goto (q := 104) dX3_take_100 (by decide) ?_
      exact rt_i rfl (Nat.le_refl _) (Nat.le_refl _) (by
          have e2 : t2F (G i 314) a f = m1 := by unfold t2F; rw [hd1, hm1]
          have e1 : t1F (G i 313) (G i 314) a f = m2 := by unfold t1F; rw [e2, hd2, hm2]
          have e0 : t0F (G i 312) (G i 313) (G i 314) a f = m3 := by unfold t0F; rw [e1, e2, hd3, hm3]
          refine ⟨?_, ?_⟩
          · unfold tkF
            rw [if_neg (by omega), e0, e1, e2]
            first | (rw [if_pos (by omega)]) | (rw [if_neg (by omega)])
          · unfold tkG
            rw [if_neg (by omega), e0, e1, e2, ← set4_eq]
            rfl) dX3_take_104
  · refine aw_iconst (q := 5) dX3_take_4 rfl ?_
    exact rt_i rfl (Nat.le_refl _) (Nat.le_refl _) (by unfold tkF tkG; rw [if_pos (by omega), if_pos (by omega)]; exact ⟨rfl, rfl⟩) dX3_take_5

def fF (h3 a : Int) : Int := min h3 (a / 50)
abbrev btr (h0 h1 h2 h3 a : Int) : Prop := ¬ tkF h0 h1 h2 a (fF h3 a - 1) = -1 ∧ (tkF h0 h1 h2 a (fF h3 a) = -1 ∨ tkF h0 h1 h2 a (fF h3 a - 1) < tkF h0 h1 h2 a (fF h3 a))
def bF (h0 h1 h2 h3 a : Int) : Int := if btr h0 h1 h2 h3 a then fF h3 a - 1 else fF h3 a
abbrev canF (h0 h1 h2 h3 a : Int) : Prop := btr h0 h1 h2 h3 a ∨ ¬ tkF h0 h1 h2 a (fF h3 a) = -1
theorem tkG_ne {G : GG} {i a f x y : Int} (h : ¬ (x = i ∧ 316 ≤ y ∧ y < 320)) : tkG G i a f x y = G x y := by
  unfold tkG
  by_cases hf : f < 0
  · rw [if_pos hf]
  · rw [if_neg hf, set4_ne (by omega)]
theorem tkG_tkG {G : GG} {i a f g : Int} (hg : 0 ≤ g) : tkG (tkG G i a f) i a g = tkG G i a g := by
  have e0 : tkG G i a f i 312 = G i 312 := tkG_ne (by omega)
  have e1 : tkG G i a f i 313 = G i 313 := tkG_ne (by omega)
  have e2 : tkG G i a f i 314 = G i 314 := tkG_ne (by omega)
  by_cases hf : f < 0
  · rw [show tkG G i a f = G from if_pos hf]
  · have hg2 : ¬ g < 0 := by omega
    rw [show tkG (tkG G i a f) i a g = _ from if_neg hg2, show tkG G i a g = _ from if_neg hg2, e0, e1, e2, show tkG G i a f = _ from if_neg hf, set4_set4]
theorem tF_b {h0 h1 h2 a f : Int} (b0 : 0 ≤ h0 ∧ h0 ≤ 31) (b1 : 0 ≤ h1 ∧ h1 ≤ 31) (b2 : 0 ≤ h2 ∧ h2 ≤ 31) (hf : 0 ≤ f ∧ 50 * f ≤ a) : (0 ≤ t2F h2 a f ∧ t2F h2 a f ≤ h2 ∧ 20 * t2F h2 a f ≤ a - 50 * f) ∧ (0 ≤ t1F h1 h2 a f ∧ t1F h1 h2 a f ≤ h1 ∧ 10 * t1F h1 h2 a f ≤ a - 50 * f - 20 * t2F h2 a f) ∧ (0 ≤ t0F h0 h1 h2 a f ∧ t0F h0 h1 h2 a f ≤ h0 ∧ 5 * t0F h0 h1 h2 a f ≤ a - 50 * f - 20 * t2F h2 a f - 10 * t1F h1 h2 a f) := by
  have c2 : 0 ≤ t2F h2 a f ∧ t2F h2 a f ≤ h2 ∧ 20 * t2F h2 a f ≤ a - 50 * f := by unfold t2F; omega
  have c1 : 0 ≤ t1F h1 h2 a f ∧ t1F h1 h2 a f ≤ h1 ∧ 10 * t1F h1 h2 a f ≤ a - 50 * f - 20 * t2F h2 a f := by unfold t1F; generalize t2F h2 a f = z at *; omega
  refine ⟨c2, c1, ?_⟩
  unfold t0F
  generalize t1F h1 h2 a f = z at *
  generalize t2F h2 a f = z2 at *
  omega
theorem tkF_b {h0 h1 h2 a f : Int} (b0 : 0 ≤ h0 ∧ h0 ≤ 31) (b1 : 0 ≤ h1 ∧ h1 ≤ 31) (b2 : 0 ≤ h2 ∧ h2 ≤ 31) (ha : a ≤ 3000) (hf : 50 * f ≤ a) : -1 ≤ tkF h0 h1 h2 a f ∧ tkF h0 h1 h2 a f ≤ 1000 := by
  unfold tkF
  by_cases h : f < 0
  · rw [if_pos h]; omega
  · rw [if_neg h]
    have hb := tF_b b0 b1 b2 (a := a) (f := f) (by omega)
    generalize t0F h0 h1 h2 a f = z0 at *
    generalize t1F h1 h2 a f = z1 at *
    generalize t2F h2 a f = z2 at *
    by_cases h2 : a - 50 * f - 20 * z2 - 10 * z1 - 5 * z0 = 0
    · rw [if_pos h2]; omega
    · rw [if_neg h2]; omega
set_option maxHeartbeats 4000000 in
set_option maxRecDepth 100000 in
theorem c_pay_find {l : Launch} {D : va_G} {C : Nat → ClassId} {T : Nat → Nat} {ad : Int → Nat} (G : GG) {i : Int} (hi : 0 ≤ i ∧ i < 6) {a : Int} (hh : ∀ k : Int, 0 ≤ k → k < 4 → 0 ≤ G i (312 + k) ∧ G i (312 + k) ≤ 31) (ha : 0 ≤ a ∧ a ≤ 3000) : MC l yX3_find cX3_find 5 (some .boolean) 2 61 0 0 D (tyC C) T [.ref (ad (17 * i + 6)), .int (iI a)] (cw ad C G) (RI ad C (fun r G1 => r = b2i (canF (G i 312) (G i 313) (G i 314) (G i 315) a) ∧ G1 = tkG G i a (bF (G i 312) (G i 313) (G i 314) (G i 315) a))) := by
  refine mc_of (by decide +kernel) (Nat.le_of_ble_eq_true rfl) rfl ?_
  have q3 : 0 ≤ G i 315 ∧ G i 315 ≤ 31 := hh 3 (by omega) (by omega)
  refine aw_aload_n (q := 1) 0 dX3_find_0 rfl rfl rfl ?_
  refine g_pay_held (q := 4) hi wf_RX3_9 dX3_find_1 rfl ?_
  refine aw_iconst (q := 5) dX3_find_4 rfl ?_
  refine aw_cial (q := 6) (v := (G i 315)) 315 (ar_held ad C hi) (by omega) (by omega) rfl dX3_find_5 rfl ?_
  refine aw_iload_n (q := 7) 1 dX3_find_6 rfl rfl rfl ?_
  refine aw_getsN (q := 10) 0 (by decide) (fun _ h => h) (by decide) dX3_find_7 rfl ?_
  refine aw_iconst (q := 11) dX3_find_10 rfl ?_
  refine ae_ti (q := 12) 0 50 (by decide) (by decide) (fun _ h => h) (by decide) dX3_find_11 rfl ?_
  obtain ⟨d1, hd1⟩ : ∃ z, (a / 50) = z := ⟨_, rfl⟩
  refine aw_div5 (q := 13) (z := d1) (by omega) (by omega) hd1 dX3_find_12 rfl ?_
  obtain ⟨m1, hm1⟩ : ∃ z, min (G i 315) d1 = z := ⟨_, rfl⟩
  refine ae_min (q := 16) m1 hm1 wm_RX3_21 wMmin_s wMath_i wMmin_c (Nat.le_of_ble_eq_true rfl) (Nat.le_of_ble_eq_true rfl) (Nat.le_of_ble_eq_true rfl) (Nat.le_of_ble_eq_true rfl) (by omega) (by omega) dX3_find_13 rfl ?_
  refine aw_istore_n (q := 17) (lv2 := [(0, .ref (ad (17 * i + 6))), (1, .int (iI a)), (2, .int (iI m1))]) [1, 2, 0] dX3_find_16 rfl rfl (by decide) rfl rfl ?_
  refine aw_aload_n (q := 18) 0 dX3_find_17 rfl rfl rfl ?_
  refine aw_iload_n (q := 19) 1 dX3_find_18 rfl rfl rfl ?_
  refine aw_iload_n (q := 20) 2 dX3_find_19 rfl rfl rfl ?_
  refine aw_iconst (q := 21) dX3_find_20 rfl ?_
  refine ae_isub (q := 22) (m1 - 1) (by omega) dX3_find_21 rfl ?_
  refine cv_I (q := 25) (CC := "") (id := 17 * i + 6) (As := [.int (iI a), .int (iI (m1 - 1))]) 2 (c_pay_take (T := T) (D := D) (ad := ad) G hi hh (by omega) (by omega)) (fun _ h => h) (by omega) (cell_pay ad C _ hi) rfl wc_X3_take wm_RX3_27 wi_X3_take ws_X3_take wn_X3 (by decide) rfl ⟨Nat.le_of_ble_eq_true rfl, Nat.le_of_ble_eq_true rfl⟩ ⟨Nat.le_of_ble_eq_true rfl, Nat.le_of_ble_eq_true rfl⟩ (Nat.le_of_ble_eq_true rfl) dX3_find_22 rfl (fun r1 G1 hq1 => ?_)
  obtain ⟨hr1, hG1⟩ := hq1
  have hh1 : ∀ k : Int, 0 ≤ k → k < 4 → 0 ≤ G1 i (312 + k) ∧ G1 i (312 + k) ≤ 31 := fun k z0 z1 => by rw [hG1, tkG_ne (by omega)]; exact hh k z0 z1
  have hb1 := tkF_b (h0 := G i 312) (h1 := G i 313) (h2 := G i 314) (a := a) (f := m1 - 1) (hh 0 (by omega) (by omega)) (hh 1 (by omega) (by omega)) (hh 2 (by omega) (by omega)) (by omega) (by omega)
  rw [← hr1] at hb1
  refine aw_istore_n (q := 26) (lv2 := [(0, .ref (ad (17 * i + 6))), (1, .int (iI a)), (2, .int (iI m1)), (3, .int (iI r1))]) [1, 2, 3, 0] dX3_find_25 rfl rfl (by decide) rfl rfl ?_
  refine aw_aload_n (q := 27) 0 dX3_find_26 rfl rfl rfl ?_
  refine aw_iload_n (q := 28) 1 dX3_find_27 rfl rfl rfl ?_
  refine aw_iload_n (q := 29) 2 dX3_find_28 rfl rfl rfl ?_
  refine cv_I (q := 32) (CC := "") (id := 17 * i + 6) (As := [.int (iI a), .int (iI m1)]) 2 (c_pay_take (T := T) (D := D) (ad := ad) G1 hi hh1 (by omega) (by omega)) (fun _ h => h) (by omega) (cell_pay ad C _ hi) rfl wc_X3_take wm_RX3_27 wi_X3_take ws_X3_take wn_X3 (by decide) rfl ⟨Nat.le_of_ble_eq_true rfl, Nat.le_of_ble_eq_true rfl⟩ ⟨Nat.le_of_ble_eq_true rfl, Nat.le_of_ble_eq_true rfl⟩ (Nat.le_of_ble_eq_true rfl) dX3_find_29 rfl (fun r2 G2 hq2 => ?_)
  obtain ⟨hr2, hG2⟩ := hq2
  have hh2 : ∀ k : Int, 0 ≤ k → k < 4 → 0 ≤ G2 i (312 + k) ∧ G2 i (312 + k) ≤ 31 := fun k z0 z1 => by rw [hG2, tkG_ne (by omega)]; exact hh1 k z0 z1
  have hb2 := tkF_b (h0 := G1 i 312) (h1 := G1 i 313) (h2 := G1 i 314) (a := a) (f := m1) (hh1 0 (by omega) (by omega)) (hh1 1 (by omega) (by omega)) (hh1 2 (by omega) (by omega)) (by omega) (by omega)
  rw [← hr2] at hb2
  refine aw_istore (q := 34) (lv2 := [(0, .ref (ad (17 * i + 6))), (1, .int (iI a)), (2, .int (iI m1)), (3, .int (iI r1)), (4, .int (iI r2))]) [1, 2, 3, 4, 0] dX3_find_32 rfl (by decide) rfl rfl ?_
  refine aw_iload_n (q := 35) 3 dX3_find_34 rfl rfl rfl ?_
  refine aw_iconst (q := 36) dX3_find_35 rfl ?_
  refine aw_icmp_eq (q := 39) dX3_find_36 rfl (t := 62) (by decide) (by omega) (by omega) (fun h1 => ?_) (fun h2 => ?_)
  · refine aw_iload (q := 64) 4 dX3_find_62 rfl rfl ?_
    refine aw_iconst (q := 65) dX3_find_64 rfl ?_
    refine aw_icmp_eq (q := 68) dX3_find_65 rfl (t := 72) (by decide) (by omega) (by omega) (fun h3 => ?_) (fun h4 => ?_)
    · refine aw_iconst (q := 73) dX3_find_72 rfl ?_
      exact rt_z rfl (by first | omega | exact b2i_r _) (Nat.le_refl _) (Nat.le_refl _) (by
          have ef : fF (G i 315) a = m1 := by unfold fF; rw [hd1, hm1]
          have e0 : ∀ y, ¬ (316 ≤ y ∧ y < 320) → G1 i y = G i y := fun y hy => by rw [hG1, tkG_ne (by omega)]
          rw [e0 312 (by omega), e0 313 (by omega), e0 314 (by omega)] at hr2
          have hn : 0 ≤ m1 - 1 ∨ r1 = -1 := by
            by_cases z : m1 - 1 < 0
            · exact Or.inr (by rw [hr1]; unfold tkF; rw [if_pos z])
            · exact Or.inl (by omega)
          have e9 : G2 = tkG G i a m1 := by rw [hG2, hG1, tkG_tkG (by omega)]
          refine ⟨?_, ?_⟩
          · first
              | exact (b2i_t (p := canF (G i 312) (G i 313) (G i 314) (G i 315) a) (by unfold canF btr; rw [ef, ← hr1, ← hr2]; omega)).symm
              | exact (b2i_f (p := canF (G i 312) (G i 313) (G i 314) (G i 315) a) (by unfold canF btr; rw [ef, ← hr1, ← hr2]; omega)).symm
          · unfold bF
            first
              | (rw [if_pos (by unfold btr; rw [ef, ← hr1, ← hr2]; omega), ef, hG3, e9, tkG_tkG (by omega)]; done)
              | (rw [if_neg (by unfold btr; rw [ef, ← hr1, ← hr2]; omega), ef]; exact e9)) dX3_find_73
    · refine aw_iconst (q := 69) dX3_find_68 rfl ?_
      refine aw_goto (q := 73) dX3_find_69 (by decide) ?_
      exact rt_z rfl (by first | omega | exact b2i_r _) (Nat.le_refl _) (Nat.le_refl _) (by
          have ef : fF (G i 315) a = m1 := by unfold fF; rw [hd1, hm1]
          have e0 : ∀ y, ¬ (316 ≤ y ∧ y < 320) → G1 i y = G i y := fun y hy => by rw [hG1, tkG_ne (by omega)]
          rw [e0 312 (by omega), e0 313 (by omega), e0 314 (by omega)] at hr2
          have hn : 0 ≤ m1 - 1 ∨ r1 = -1 := by
            by_cases z : m1 - 1 < 0
            · exact Or.inr (by rw [hr1]; unfold tkF; rw [if_pos z])
            · exact Or.inl (by omega)
          have e9 : G2 = tkG G i a m1 := by rw [hG2, hG1, tkG_tkG (by omega)]
          refine ⟨?_, ?_⟩
          · first
              | exact (b2i_t (p := canF (G i 312) (G i 313) (G i 314) (G i 315) a) (by unfold canF btr; rw [ef, ← hr1, ← hr2]; omega)).symm
              | exact (b2i_f (p := canF (G i 312) (G i 313) (G i 314) (G i 315) a) (by unfold canF btr; rw [ef, ← hr1, ← hr2]; omega)).symm
          · unfold bF
            first
              | (rw [if_pos (by unfold btr; rw [ef, ← hr1, ← hr2]; omega), ef, hG3, e9, tkG_tkG (by omega)]; done)
              | (rw [if_neg (by unfold btr; rw [ef, ← hr1, ← hr2]; omega), ef]; exact e9)) dX3_find_73
  · refine aw_iload (q := 41) 4 dX3_find_39 rfl rfl ?_
    refine aw_iconst (q := 42) dX3_find_41 rfl ?_
    refine aw_icmp_eq (q := 45) dX3_find_42 rfl (t := 51) (by decide) (by omega) (by omega) (fun h5 => ?_) (fun h6 => ?_)
    · refine aw_aload_n (q := 52) 0 dX3_find_51 rfl rfl rfl ?_
      refine aw_iload_n (q := 53) 1 dX3_find_52 rfl rfl rfl ?_
      refine aw_iload_n (q := 54) 2 dX3_find_53 rfl rfl rfl ?_
      refine aw_iconst (q := 55) dX3_find_54 rfl ?_
      refine ae_isub (q := 56) (m1 - 1) (by omega) dX3_find_55 rfl ?_
      refine cv_I (q := 59) (CC := "") (id := 17 * i + 6) (As := [.int (iI a), .int (iI (m1 - 1))]) 2 (c_pay_take (T := T) (D := D) (ad := ad) G2 hi hh2 (by omega) (by omega)) (fun _ h => h) (by omega) (cell_pay ad C _ hi) rfl wc_X3_take wm_RX3_27 wi_X3_take ws_X3_take wn_X3 (by decide) rfl ⟨Nat.le_of_ble_eq_true rfl, Nat.le_of_ble_eq_true rfl⟩ ⟨Nat.le_of_ble_eq_true rfl, Nat.le_of_ble_eq_true rfl⟩ (Nat.le_of_ble_eq_true rfl) dX3_find_56 rfl (fun r3 G3 hq3 => ?_)
      obtain ⟨hr3, hG3⟩ := hq3
      have hh3 : ∀ k : Int, 0 ≤ k → k < 4 → 0 ≤ G3 i (312 + k) ∧ G3 i (312 + k) ≤ 31 := fun k z0 z1 => by rw [hG3, tkG_ne (by omega)]; exact hh2 k z0 z1
      have hb3 := tkF_b (h0 := G2 i 312) (h1 := G2 i 313) (h2 := G2 i 314) (a := a) (f := m1 - 1) (hh2 0 (by omega) (by omega)) (hh2 1 (by omega) (by omega)) (hh2 2 (by omega) (by omega)) (by omega) (by omega)
      rw [← hr3] at hb3
      refine aw_pop (q := 60) dX3_find_59 rfl rfl ?_
      refine aw_iconst (q := 61) dX3_find_60 rfl ?_
      exact rt_z rfl (by first | omega | exact b2i_r _) (Nat.le_refl _) (Nat.le_refl _) (by
          have ef : fF (G i 315) a = m1 := by unfold fF; rw [hd1, hm1]
          have e0 : ∀ y, ¬ (316 ≤ y ∧ y < 320) → G1 i y = G i y := fun y hy => by rw [hG1, tkG_ne (by omega)]
          rw [e0 312 (by omega), e0 313 (by omega), e0 314 (by omega)] at hr2
          have hn : 0 ≤ m1 - 1 ∨ r1 = -1 := by
            by_cases z : m1 - 1 < 0
            · exact Or.inr (by rw [hr1]; unfold tkF; rw [if_pos z])
            · exact Or.inl (by omega)
          have e9 : G2 = tkG G i a m1 := by rw [hG2, hG1, tkG_tkG (by omega)]
          refine ⟨?_, ?_⟩
          · first
              | exact (b2i_t (p := canF (G i 312) (G i 313) (G i 314) (G i 315) a) (by unfold canF btr; rw [ef, ← hr1, ← hr2]; omega)).symm
              | exact (b2i_f (p := canF (G i 312) (G i 313) (G i 314) (G i 315) a) (by unfold canF btr; rw [ef, ← hr1, ← hr2]; omega)).symm
          · unfold bF
            first
              | (rw [if_pos (by unfold btr; rw [ef, ← hr1, ← hr2]; omega), ef, hG3, e9, tkG_tkG (by omega)]; done)
              | (rw [if_neg (by unfold btr; rw [ef, ← hr1, ← hr2]; omega), ef]; exact e9)) dX3_find_61
    · refine aw_iload_n (q := 46) 3 dX3_find_45 rfl rfl rfl ?_
      refine aw_iload (q := 48) 4 dX3_find_46 rfl rfl ?_
      refine aw_icmp_ge (q := 51) dX3_find_48 rfl (t := 62) (by decide) (by omega) (by omega) (fun h7 => ?_) (fun h8 => ?_)
      · refine aw_iload (q := 64) 4 dX3_find_62 rfl rfl ?_
        refine aw_iconst (q := 65) dX3_find_64 rfl ?_
        refine aw_icmp_eq (q := 68) dX3_find_65 rfl (t := 72) (by decide) (by omega) (by omega) (fun h9 => ?_) (fun h10 => ?_)
        · refine aw_iconst (q := 73) dX3_find_72 rfl ?_
          exact rt_z rfl (by first | omega | exact b2i_r _) (Nat.le_refl _) (Nat.le_refl _) (by
              have ef : fF (G i 315) a = m1 := by unfold fF; rw [hd1, hm1]
              have e0 : ∀ y, ¬ (316 ≤ y ∧ y < 320) → G1 i y = G i y := fun y hy => by rw [hG1, tkG_ne (by omega)]
              rw [e0 312 (by omega), e0 313 (by omega), e0 314 (by omega)] at hr2
              have hn : 0 ≤ m1 - 1 ∨ r1 = -1 := by
                by_cases z : m1 - 1 < 0
                · exact Or.inr (by rw [hr1]; unfold tkF; rw [if_pos z])
                · exact Or.inl (by omega)
              have e9 : G2 = tkG G i a m1 := by rw [hG2, hG1, tkG_tkG (by omega)]
              refine ⟨?_, ?_⟩
              · first
                  | exact (b2i_t (p := canF (G i 312) (G i 313) (G i 314) (G i 315) a) (by unfold canF btr; rw [ef, ← hr1, ← hr2]; omega)).symm
                  | exact (b2i_f (p := canF (G i 312) (G i 313) (G i 314) (G i 315) a) (by unfold canF btr; rw [ef, ← hr1, ← hr2]; omega)).symm
              · unfold bF
                first
                  | (rw [if_pos (by unfold btr; rw [ef, ← hr1, ← hr2]; omega), ef, hG3, e9, tkG_tkG (by omega)]; done)
                  | (rw [if_neg (by unfold btr; rw [ef, ← hr1, ← hr2]; omega), ef]; exact e9)) dX3_find_73
        · refine aw_iconst (q := 69) dX3_find_68 rfl ?_
          refine aw_goto (q := 73) dX3_find_69 (by decide) ?_
          exact rt_z rfl (by first | omega | exact b2i_r _) (Nat.le_refl _) (Nat.le_refl _) (by
              have ef : fF (G i 315) a = m1 := by unfold fF; rw [hd1, hm1]
              have e0 : ∀ y, ¬ (316 ≤ y ∧ y < 320) → G1 i y = G i y := fun y hy => by rw [hG1, tkG_ne (by omega)]
              rw [e0 312 (by omega), e0 313 (by omega), e0 314 (by omega)] at hr2
              have hn : 0 ≤ m1 - 1 ∨ r1 = -1 := by
                by_cases z : m1 - 1 < 0
                · exact Or.inr (by rw [hr1]; unfold tkF; rw [if_pos z])
                · exact Or.inl (by omega)
              have e9 : G2 = tkG G i a m1 := by rw [hG2, hG1, tkG_tkG (by omega)]
              refine ⟨?_, ?_⟩
              · first
                  | exact (b2i_t (p := canF (G i 312) (G i 313) (G i 314) (G i 315) a) (by unfold canF btr; rw [ef, ← hr1, ← hr2]; omega)).symm
                  | exact (b2i_f (p := canF (G i 312) (G i 313) (G i 314) (G i 315) a) (by unfold canF btr; rw [ef, ← hr1, ← hr2]; omega)).symm
              · unfold bF
                first
                  | (rw [if_pos (by unfold btr; rw [ef, ← hr1, ← hr2]; omega), ef, hG3, e9, tkG_tkG (by omega)]; done)
                  | (rw [if_neg (by unfold btr; rw [ef, ← hr1, ← hr2]; omega), ef]; exact e9)) dX3_find_73
      · refine aw_aload_n (q := 52) 0 dX3_find_51 rfl rfl rfl ?_
        refine aw_iload_n (q := 53) 1 dX3_find_52 rfl rfl rfl ?_
        refine aw_iload_n (q := 54) 2 dX3_find_53 rfl rfl rfl ?_
        refine aw_iconst (q := 55) dX3_find_54 rfl ?_
        refine ae_isub (q := 56) (m1 - 1) (by omega) dX3_find_55 rfl ?_
        refine cv_I (q := 59) (CC := "") (id := 17 * i + 6) (As := [.int (iI a), .int (iI (m1 - 1))]) 2 (c_pay_take (T := T) (D := D) (ad := ad) G2 hi hh2 (by omega) (by omega)) (fun _ h => h) (by omega) (cell_pay ad C _ hi) rfl wc_X3_take wm_RX3_27 wi_X3_take ws_X3_take wn_X3 (by decide) rfl ⟨Nat.le_of_ble_eq_true rfl, Nat.le_of_ble_eq_true rfl⟩ ⟨Nat.le_of_ble_eq_true rfl, Nat.le_of_ble_eq_true rfl⟩ (Nat.le_of_ble_eq_true rfl) dX3_find_56 rfl (fun r3 G3 hq3 => ?_)
        obtain ⟨hr3, hG3⟩ := hq3
        have hh3 : ∀ k : Int, 0 ≤ k → k < 4 → 0 ≤ G3 i (312 + k) ∧ G3 i (312 + k) ≤ 31 := fun k z0 z1 => by rw [hG3, tkG_ne (by omega)]; exact hh2 k z0 z1
        have hb3 := tkF_b (h0 := G2 i 312) (h1 := G2 i 313) (h2 := G2 i 314) (a := a) (f := m1 - 1) (hh2 0 (by omega) (by omega)) (hh2 1 (by omega) (by omega)) (hh2 2 (by omega) (by omega)) (by omega) (by omega)
        rw [← hr3] at hb3
        refine aw_pop (q := 60) dX3_find_59 rfl rfl ?_
        refine aw_iconst (q := 61) dX3_find_60 rfl ?_
        exact rt_z rfl (by first | omega | exact b2i_r _) (Nat.le_refl _) (Nat.le_refl _) (by
            have ef : fF (G i 315) a = m1 := by unfold fF; rw [hd1, hm1]
            have e0 : ∀ y, ¬ (316 ≤ y ∧ y < 320) → G1 i y = G i y := fun y hy => by rw [hG1, tkG_ne (by omega)]
            rw [e0 312 (by omega), e0 313 (by omega), e0 314 (by omega)] at hr2
            have hn : 0 ≤ m1 - 1 ∨ r1 = -1 := by
              by_cases z : m1 - 1 < 0
              · exact Or.inr (by rw [hr1]; unfold tkF; rw [if_pos z])
              · exact Or.inl (by omega)
            have e9 : G2 = tkG G i a m1 := by rw [hG2, hG1, tkG_tkG (by omega)]
            refine ⟨?_, ?_⟩
            · first
                | exact (b2i_t (p := canF (G i 312) (G i 313) (G i 314) (G i 315) a) (by unfold canF btr; rw [ef, ← hr1, ← hr2]; omega)).symm
                | exact (b2i_f (p := canF (G i 312) (G i 313) (G i 314) (G i 315) a) (by unfold canF btr; rw [ef, ← hr1, ← hr2]; omega)).symm
            · unfold bF
              first
                | (rw [if_pos (by unfold btr; rw [ef, ← hr1, ← hr2]; omega), ef, hG3, e9, tkG_tkG (by omega)]; done)
                | (rw [if_neg (by unfold btr; rw [ef, ← hr1, ← hr2]; omega), ef]; exact e9)) dX3_find_61
