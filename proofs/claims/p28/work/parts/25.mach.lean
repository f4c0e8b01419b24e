def foldG (f : GG → Int → GG) (G : GG) : Nat → GG
  | 0 => G
  | n + 1 => f (foldG f G n) n
theorem foldG_succ (f : GG → Int → GG) (G : GG) {c : Int} (h : 0 ≤ c) : foldG f G (c + 1).toNat = f (foldG f G c.toNat) c := by
  rw [show (c + 1).toNat = c.toNat + 1 by omega]
  show f (foldG f G c.toNat) ((c.toNat : Nat) : Int) = _
  rw [show ((c.toNat : Nat) : Int) = c by omega]
def sumF (g : Int → Int) (what : Int) : Nat → Int
  | 0 => 0
  | n + 1 => sumF g what n + g (15 + 12 * n + what)
theorem sumF_succ (g : Int → Int) (what : Int) {c : Int} (h : 0 ≤ c) : sumF g what (c + 1).toNat = sumF g what c.toNat + g (15 + 12 * c + what) := by
  rw [show (c + 1).toNat = c.toNat + 1 by omega]
  show sumF g what c.toNat + g (15 + 12 * ((c.toNat : Nat) : Int) + what) = _
  rw [show ((c.toNat : Nat) : Int) = c by omega]
theorem cpG_more {G : GG} {i j d s n m k : Int} (hij : i ≠ j) (hn : 0 ≤ n) (hm : 0 ≤ m) (hk : n + m = k) : cpG (cpG G i d n j s) i (d + n) m j (s + n) = cpG G i d k j s := by
  funext x y
  unfold cpG
  by_cases h : x = i ∧ d + n ≤ y ∧ y < d + n + m
  · rw [if_pos h, if_neg (by omega), if_pos (by omega), show s + n + (y - (d + n)) = s + (y - d) by omega]
  · rw [if_neg h]
    by_cases h2 : x = i ∧ d ≤ y ∧ y < d + n
    · rw [if_pos h2, if_pos (by omega)]
    · rw [if_neg h2, if_neg (by omega)]
/-- the machine of page j is taken over by that of page i -/
def overP (G : GG) (i j : Int) (G1 : GG) : Prop := (∀ y : Int, 0 ≤ y → y < 15 → G1 i y = G j y) ∧ (∀ y : Int, 15 ≤ y → y < 15 + 12 * G j 13 → G1 i y = G j y) ∧ (∀ y : Int, 111 ≤ y → y < 312 → G1 i y = G j y) ∧ ∀ x y : Int, x ≠ i → G1 x y = G x y
abbrev worthF (g : Int → Int) (b : Int) : Int := 5 * g b + 10 * g (b + 1) + 20 * g (b + 2) + 50 * g (b + 3)
set_option maxHeartbeats 4000000 in
set_option maxRecDepth 100000 in
theorem c_worth {l : Launch} {D : va_G} {C : Nat → ClassId} {T : Nat → Nat} {ad : Int → Nat} (G : GG) {ci pg b : Int} (har : isArr ad C ci pg b 4) (hco : ∀ k : Int, 0 ≤ k → k < 4 → 0 ≤ G pg (b + k) ∧ G pg (b + k) ≤ 10000) : MC l yX5_worth cX5_worth 3 (some .int) 0 0 0 0 D (tyC C) T [.ref (ad ci)] (cw ad C G) (RI ad C (fun r G1 => r = worthF (G pg) b ∧ G1 = G)) := by
  refine mc_of (by decide +kernel) (Nat.le_of_ble_eq_true rfl) rfl ?_
  refine aw_iconst (q := 1) dX5_worth_0 rfl ?_
  refine aw_istore_n (q := 2) (lv2 := [(0, .ref (ad ci)), (1, .int (iI 0))]) [1, 0] dX5_worth_1 rfl rfl (by decide) rfl rfl ?_
  refine aw_iconst (q := 3) dX5_worth_2 rfl ?_
  refine aw_istore_n (q := 4) (lv2 := [(0, .ref (ad ci)), (1, .int (iI 0)), (2, .int (iI 0))]) [1, 2, 0] dX5_worth_3 rfl rfl (by decide) rfl rfl ?_
  refine aw_iload_n (q := 5) 2 dX5_worth_4 rfl rfl rfl ?_
  refine aw_iconst (q := 6) dX5_worth_5 rfl ?_
  refine aw_icmp_ge (q := 9) dX5_worth_6 rfl (t := 33) (by decide) (by omega) (by omega) (fun h => absurd h (by omega)) (fun _ => ?_)
  refine aw_iload_n (q := 10) 2 dX5_worth_9 rfl rfl rfl ?_
  refine aw_aload_n (q := 11) 0 dX5_worth_10 rfl rfl rfl ?_
  refine aw_calen (q := 12) har dX5_worth_11 rfl ?_
  refine aw_icmp_ge (q := 15) dX5_worth_12 rfl (t := 33) (by decide) (by omega) (by omega) (fun h => absurd h (by omega)) (fun _ => ?_)
  refine aw_iload_n (q := 16) 1 dX5_worth_15 rfl rfl rfl ?_
  refine aw_aload_n (q := 17) 0 dX5_worth_16 rfl rfl rfl ?_
  refine aw_iload_n (q := 18) 2 dX5_worth_17 rfl rfl rfl ?_
  refine aw_cial (q := 19) (v := (G pg b)) b har (by omega) (by omega) rfl dX5_worth_18 rfl ?_
  refine ae_gets (q := 22) 0 (by decide) (fun _ h => h) wf_RX5_263 dX5_worth_19 rfl ?_
  refine aw_iload_n (q := 23) 2 dX5_worth_22 rfl rfl rfl ?_
  refine ae_ti (q := 24) 0 5 (by decide) (by decide) (fun _ h => h) (by decide) dX5_worth_23 rfl ?_
  refine ae_imul (q := 25) (5 * (G pg b)) (by omega) dX5_worth_24 rfl ?_
  refine ae_iadd (q := 26) (5 * (G pg b)) (by omega) dX5_worth_25 rfl ?_
  refine aw_istore_n (q := 27) (lv2 := [(0, .ref (ad ci)), (1, .int (iI (5 * (G pg b)))), (2, .int (iI 0))]) [1, 0, 2] dX5_worth_26 rfl rfl (by decide) rfl rfl ?_
  refine ae_iinc (q := 30) (lv2 := [(0, .ref (ad ci)), (1, .int (iI (5 * (G pg b)))), (2, .int (iI 1))]) 2 [1, 2, 0] 1 (by omega) dX5_worth_27 rfl rfl (by decide) rfl ?_
  refine aw_goto (q := 4) dX5_worth_30 (by decide) ?_
  refine aw_iload_n (q := 5) 2 dX5_worth_4 rfl rfl rfl ?_
  refine aw_iconst (q := 6) dX5_worth_5 rfl ?_
  refine aw_icmp_ge (q := 9) dX5_worth_6 rfl (t := 33) (by decide) (by omega) (by omega) (fun h => absurd h (by omega)) (fun _ => ?_)
  refine aw_iload_n (q := 10) 2 dX5_worth_9 rfl rfl rfl ?_
  refine aw_aload_n (q := 11) 0 dX5_worth_10 rfl rfl rfl ?_
  refine aw_calen (q := 12) har dX5_worth_11 rfl ?_
  refine aw_icmp_ge (q := 15) dX5_worth_12 rfl (t := 33) (by decide) (by omega) (by omega) (fun h => absurd h (by omega)) (fun _ => ?_)
  refine aw_iload_n (q := 16) 1 dX5_worth_15 rfl rfl rfl ?_
  refine aw_aload_n (q := 17) 0 dX5_worth_16 rfl rfl rfl ?_
  refine aw_iload_n (q := 18) 2 dX5_worth_17 rfl rfl rfl ?_
  refine aw_cial (q := 19) (v := (G pg (b + 1))) (b + 1) har (by omega) (by omega) rfl dX5_worth_18 rfl ?_
  refine ae_gets (q := 22) 0 (by decide) (fun _ h => h) wf_RX5_263 dX5_worth_19 rfl ?_
  refine aw_iload_n (q := 23) 2 dX5_worth_22 rfl rfl rfl ?_
  refine ae_ti (q := 24) 0 10 (by decide) (by decide) (fun _ h => h) (by decide) dX5_worth_23 rfl ?_
  refine ae_imul (q := 25) (10 * (G pg (b + 1))) (by omega) dX5_worth_24 rfl ?_
  refine ae_iadd (q := 26) (5 * (G pg b) + 10 * (G pg (b + 1))) (by omega) dX5_worth_25 rfl ?_
  refine aw_istore_n (q := 27) (lv2 := [(0, .ref (ad ci)), (1, .int (iI (5 * (G pg b) + 10 * (G pg (b + 1))))), (2, .int (iI 1))]) [1, 0, 2] dX5_worth_26 rfl rfl (by decide) rfl rfl ?_
  refine ae_iinc (q := 30) (lv2 := [(0, .ref (ad ci)), (1, .int (iI (5 * (G pg b) + 10 * (G pg (b + 1))))), (2, .int (iI 2))]) 2 [1, 2, 0] 2 (by omega) dX5_worth_27 rfl rfl (by decide) rfl ?_
  refine aw_goto (q := 4) dX5_worth_30 (by decide) ?_
  refine aw_iload_n (q := 5) 2 dX5_worth_4 rfl rfl rfl ?_
  refine aw_iconst (q := 6) dX5_worth_5 rfl ?_
  refine aw_icmp_ge (q := 9) dX5_worth_6 rfl (t := 33) (by decide) (by omega) (by omega) (fun h => absurd h (by omega)) (fun _ => ?_)
  refine aw_iload_n (q := 10) 2 dX5_worth_9 rfl rfl rfl ?_
  refine aw_aload_n (q := 11) 0 dX5_worth_10 rfl rfl rfl ?_
  refine aw_calen (q := 12) har dX5_worth_11 rfl ?_
  refine aw_icmp_ge (q := 15) dX5_worth_12 rfl (t := 33) (by decide) (by omega) (by omega) (fun h => absurd h (by omega)) (fun _ => ?_)
  refine aw_iload_n (q := 16) 1 dX5_worth_15 rfl rfl rfl ?_
  refine aw_aload_n (q := 17) 0 dX5_worth_16 rfl rfl rfl ?_
  refine aw_iload_n (q := 18) 2 dX5_worth_17 rfl rfl rfl ?_
  refine aw_cial (q := 19) (v := (G pg (b + 2))) (b + 2) har (by omega) (by omega) rfl dX5_worth_18 rfl ?_
  refine ae_gets (q := 22) 0 (by decide) (fun _ h => h) wf_RX5_263 dX5_worth_19 rfl ?_
  refine aw_iload_n (q := 23) 2 dX5_worth_22 rfl rfl rfl ?_
  refine ae_ti (q := 24) 0 20 (by decide) (by decide) (fun _ h => h) (by decide) dX5_worth_23 rfl ?_
  refine ae_imul (q := 25) (20 * (G pg (b + 2))) (by omega) dX5_worth_24 rfl ?_
  refine ae_iadd (q := 26) (5 * (G pg b) + 10 * (G pg (b + 1)) + 20 * (G pg (b + 2))) (by omega) dX5_worth_25 rfl ?_
  refine aw_istore_n (q := 27) (lv2 := [(0, .ref (ad ci)), (1, .int (iI (5 * (G pg b) + 10 * (G pg (b + 1)) + 20 * (G pg (b + 2))))), (2, .int (iI 2))]) [1, 0, 2] dX5_worth_26 rfl rfl (by decide) rfl rfl ?_
  refine ae_iinc (q := 30) (lv2 := [(0, .ref (ad ci)), (1, .int (iI (5 * (G pg b) + 10 * (G pg (b + 1)) + 20 * (G pg (b + 2))))), (2, .int (iI 3))]) 2 [1, 2, 0] 3 (by omega) dX5_worth_27 rfl rfl (by decide) rfl ?_
  refine aw_goto (q := 4) dX5_worth_30 (by decide) ?_
  refine aw_iload_n (q := 5) 2 dX5_worth_4 rfl rfl rfl ?_
  refine aw_iconst (q := 6) dX5_worth_5 rfl ?_
  refine aw_icmp_ge (q := 9) dX5_worth_6 rfl (t := 33) (by decide) (by omega) (by omega) (fun h => absurd h (by omega)) (fun _ => ?_)
  refine aw_iload_n (q := 10) 2 dX5_worth_9 rfl rfl rfl ?_
  refine aw_aload_n (q := 11) 0 dX5_worth_10 rfl rfl rfl ?_
  refine aw_calen (q := 12) har dX5_worth_11 rfl ?_
  refine aw_icmp_ge (q := 15) dX5_worth_12 rfl (t := 33) (by decide) (by omega) (by omega) (fun h => absurd h (by omega)) (fun _ => ?_)
  refine aw_iload_n (q := 16) 1 dX5_worth_15 rfl rfl rfl ?_
  refine aw_aload_n (q := 17) 0 dX5_worth_16 rfl rfl rfl ?_
  refine aw_iload_n (q := 18) 2 dX5_worth_17 rfl rfl rfl ?_
  refine aw_cial (q := 19) (v := (G pg (b + 3))) (b + 3) har (by omega) (by omega) rfl dX5_worth_18 rfl ?_
  refine ae_gets (q := 22) 0 (by decide) (fun _ h => h) wf_RX5_263 dX5_worth_19 rfl ?_
  refine aw_iload_n (q := 23) 2 dX5_worth_22 rfl rfl rfl ?_
  refine ae_ti (q := 24) 0 50 (by decide) (by decide) (fun _ h => h) (by decide) dX5_worth_23 rfl ?_
  refine ae_imul (q := 25) (50 * (G pg (b + 3))) (by omega) dX5_worth_24 rfl ?_
  refine ae_iadd (q := 26) (5 * (G pg b) + 10 * (G pg (b + 1)) + 20 * (G pg (b + 2)) + 50 * (G pg (b + 3))) (by omega) dX5_worth_25 rfl ?_
  refine aw_istore_n (q := 27) (lv2 := [(0, .ref (ad ci)), (1, .int (iI (5 * (G pg b) + 10 * (G pg (b + 1)) + 20 * (G pg (b + 2)) + 50 * (G pg (b + 3))))), (2, .int (iI 3))]) [1, 0, 2] dX5_worth_26 rfl rfl (by decide) rfl rfl ?_
  refine ae_iinc (q := 30) (lv2 := [(0, .ref (ad ci)), (1, .int (iI (5 * (G pg b) + 10 * (G pg (b + 1)) + 20 * (G pg (b + 2)) + 50 * (G pg (b + 3))))), (2, .int (iI 4))]) 2 [1, 2, 0] 4 (by omega) dX5_worth_27 rfl rfl (by decide) rfl ?_
  refine aw_goto (q := 4) dX5_worth_30 (by decide) ?_
  refine aw_iload_n (q := 5) 2 dX5_worth_4 rfl rfl rfl ?_
  refine aw_iconst (q := 6) dX5_worth_5 rfl ?_
  refine aw_icmp_ge (q := 9) dX5_worth_6 rfl (t := 33) (by decide) (by omega) (by omega) (fun _ => ?_) (fun h => absurd h (by omega))
  refine aw_iload_n (q := 34) 1 dX5_worth_33 rfl rfl rfl ?_
  exact rt_i rfl (Nat.le_refl _) (Nat.le_refl _) (⟨by unfold worthF; omega, rfl⟩) dX5_worth_34
set_option maxHeartbeats 4000000 in
set_option maxRecDepth 100000 in
theorem c_m_changeSetting {l : Launch} {D : va_G} {C : Nat → ClassId} {T : Nat → Nat} {ad : Int → Nat} (G : GG) {i : Int} (hi : 0 ≤ i ∧ i < 6) {w v : Int} (hw : 0 ≤ w ∧ w < 5) : MC l yX1_changeSetting cX1_changeSetting 4 (some .int) 0 0 0 0 D (tyC C) T [.ref (ad (17 * i)), .int (iI w), .int (iI v)] (cw ad C G) (RI ad C (fun r G1 => r = G i w ∧ G1 = setG G i w v)) := by
  refine mc_of (by decide +kernel) (Nat.le_of_ble_eq_true rfl) rfl ?_
  refine aw_aload_n (q := 1) 0 dX1_changeSetting_0 rfl rfl rfl ?_
  refine g_mach_settings (q := 4) hi wf_RX1_17 dX1_changeSetting_1 rfl ?_
  refine aw_iload_n (q := 5) 1 dX1_changeSetting_4 rfl rfl rfl ?_
  refine aw_cial (q := 6) (v := (G i w)) w (ar_sets ad C hi) (by omega) (by omega) rfl dX1_changeSetting_5 rfl ?_
  refine aw_istore_n (q := 7) (lv2 := [(0, .ref (ad (17 * i))), (1, .int (iI w)), (2, .int (iI v)), (3, .int (iI (G i w)))]) [1, 2, 3, 0] dX1_changeSetting_6 rfl rfl (by decide) rfl rfl ?_
  refine aw_aload_n (q := 8) 0 dX1_changeSetting_7 rfl rfl rfl ?_
  refine g_mach_settings (q := 11) hi wf_RX1_17 dX1_changeSetting_8 rfl ?_
  refine aw_iload_n (q := 12) 1 dX1_changeSetting_11 rfl rfl rfl ?_
  refine aw_iload_n (q := 13) 2 dX1_changeSetting_12 rfl rfl rfl ?_
  refine aw_cias (q := 14) w (ar_sets ad C hi) (by omega) (by omega) dX1_changeSetting_13 rfl ?_
  refine aw_iload_n (q := 15) 3 dX1_changeSetting_14 rfl rfl rfl ?_
  exact rt_i rfl (Nat.le_refl _) (Nat.le_refl _) (⟨rfl, rfl⟩) dX1_changeSetting_15
set_option maxHeartbeats 4000000 in
set_option maxRecDepth 100000 in
theorem c_m_hasCoil {l : Launch} {D : va_G} {C : Nat → ClassId} {T : Nat → Nat} {ad : Int → Nat} (G : GG) {i : Int} (hi : 0 ≤ i ∧ i < 6) {c : Int} (hc : -2147483648 ≤ c ∧ c ≤ 2147483647) (h8 : 0 ≤ G i 13 ∧ G i 13 ≤ 8) : MC l yX1_hasCoil cX1_hasCoil 2 (some .boolean) 0 0 0 0 D (tyC C) T [.ref (ad (17 * i)), .int (iI c)] (cw ad C G) (RI ad C (fun r G1 => r = b2i (0 ≤ c ∧ c < G i 13) ∧ G1 = G)) := by
  refine mc_of (by decide +kernel) (Nat.le_of_ble_eq_true rfl) rfl ?_
  refine aw_iload_n (q := 1) 1 dX1_hasCoil_0 rfl rfl rfl ?_
  refine aw_if_lt (q := 4) dX1_hasCoil_1 rfl (t := 16) (by decide) (by omega) (fun h1 => ?_) (fun h2 => ?_)
  · refine aw_iconst (q := 17) dX1_hasCoil_16 rfl ?_
    exact rt_z rfl (by first | omega | exact b2i_r _) (Nat.le_refl _) (Nat.le_refl _) (⟨by first | exact (b2i_t (by omega)).symm | exact (b2i_f (by omega)).symm, rfl⟩) dX1_hasCoil_17
  · refine aw_iload_n (q := 5) 1 dX1_hasCoil_4 rfl rfl rfl ?_
    refine aw_aload_n (q := 6) 0 dX1_hasCoil_5 rfl rfl rfl ?_
    refine g_mach_coilCount (q := 9) hi (v := (G i 13)) rfl wf_RX1_28 dX1_hasCoil_6 rfl ?_
    refine aw_icmp_ge (q := 12) dX1_hasCoil_9 rfl (t := 16) (by decide) (by omega) (by omega) (fun h3 => ?_) (fun h4 => ?_)
    · refine aw_iconst (q := 17) dX1_hasCoil_16 rfl ?_
      exact rt_z rfl (by first | omega | exact b2i_r _) (Nat.le_refl _) (Nat.le_refl _) (⟨by first | exact (b2i_t (by omega)).symm | exact (b2i_f (by omega)).symm, rfl⟩) dX1_hasCoil_17
    · refine aw_iconst (q := 13) dX1_hasCoil_12 rfl ?_
      refine aw_goto (q := 17) dX1_hasCoil_13 (by decide) ?_
      exact rt_z rfl (by first | omega | exact b2i_r _) (Nat.le_refl _) (Nat.le_refl _) (⟨by first | exact (b2i_t (by omega)).symm | exact (b2i_f (by omega)).symm, rfl⟩) dX1_hasCoil_17
set_option maxHeartbeats 4000000 in
set_option maxRecDepth 100000 in
theorem c_m_hasRoomForCoil {l : Launch} {D : va_G} {C : Nat → ClassId} {T : Nat → Nat} {ad : Int → Nat} (G : GG) {i : Int} (hi : 0 ≤ i ∧ i < 6) (h8 : 0 ≤ G i 13 ∧ G i 13 ≤ 8) : MC l yX1_hasRoomForCoil cX1_hasRoomForCoil 1 (some .boolean) 0 0 0 0 D (tyC C) T [.ref (ad (17 * i))] (cw ad C G) (RI ad C (fun r G1 => r = b2i (G i 13 < 8) ∧ G1 = G)) := by
  refine mc_of (by decide +kernel) (Nat.le_of_ble_eq_true rfl) rfl ?_
  refine aw_aload_n (q := 1) 0 dX1_hasRoomForCoil_0 rfl rfl rfl ?_
  refine g_mach_coilCount (q := 4) hi (v := (G i 13)) rfl wf_RX1_28 dX1_hasRoomForCoil_1 rfl ?_
  refine aw_bipush (q := 6) dX1_hasRoomForCoil_4 rfl (by decide) ?_
  refine aw_icmp_ge (q := 9) dX1_hasRoomForCoil_6 rfl (t := 13) (by decide) (by omega) (by omega) (fun h1 => ?_) (fun h2 => ?_)
  · refine aw_iconst (q := 14) dX1_hasRoomForCoil_13 rfl ?_
    exact rt_z rfl (by first | omega | exact b2i_r _) (Nat.le_refl _) (Nat.le_refl _) (⟨by first | exact (b2i_t (by omega)).symm | exact (b2i_f (by omega)).symm, rfl⟩) dX1_hasRoomForCoil_14
  · refine aw_iconst (q := 10) dX1_hasRoomForCoil_9 rfl ?_
    refine aw_goto (q := 14) dX1_hasRoomForCoil_10 (by decide) ?_
    exact rt_z rfl (by first | omega | exact b2i_r _) (Nat.le_refl _) (Nat.le_refl _) (⟨by first | exact (b2i_t (by omega)).symm | exact (b2i_f (by omega)).symm, rfl⟩) dX1_hasRoomForCoil_14
set_option maxHeartbeats 4000000 in
set_option maxRecDepth 100000 in
theorem c_m_newCoil {l : Launch} {D : va_G} {C : Nat → ClassId} {T : Nat → Nat} {ad : Int → Nat} (G : GG) {i : Int} (hi : 0 ≤ i ∧ i < 6) {a b d : Int} (h9 : 0 ≤ G i 13 ∧ G i 13 < 8) : MC l yX1_newCoil cX1_newCoil 4 (some .int) 1 23 0 0 D (tyC C) T [.ref (ad (17 * i)), .int (iI a), .int (iI b), .int (iI d)] (cw ad C G) (RI ad C (fun r G1 => r = G i 13 ∧ G1 = setG (coilBegin G i (G i 13) a b d) i 13 (G i 13 + 1))) := by
  refine mc_of (by decide +kernel) (Nat.le_of_ble_eq_true rfl) rfl ?_
  refine aw_aload_n (q := 1) 0 dX1_newCoil_0 rfl rfl rfl ?_
  refine g_mach_coils (q := 4) hi wf_RX1_11 dX1_newCoil_1 rfl ?_
  refine aw_aload_n (q := 5) 0 dX1_newCoil_4 rfl rfl rfl ?_
  refine g_mach_coilCount (q := 8) hi (v := (G i 13)) rfl wf_RX1_28 dX1_newCoil_5 rfl ?_
  refine aw_coil (q := 9) hi h9 dX1_newCoil_8 rfl ?_
  refine aw_iload_n (q := 10) 1 dX1_newCoil_9 rfl rfl rfl ?_
  refine aw_iload_n (q := 11) 2 dX1_newCoil_10 rfl rfl rfl ?_
  refine aw_iload_n (q := 12) 3 dX1_newCoil_11 rfl rfl rfl ?_
  refine cv_V (q := 15) (CC := "") (id := 17 * i + 9 + (G i 13)) (As := [.int (iI a), .int (iI b), .int (iI d)]) 3 (c_coil_begin (T := T) (D := D) (ad := ad) G hi h9) (fun _ h => h) (by omega) (cell_coil ad C _ hi h9) rfl wc_X0_begin wm_RX1_55 wi_X0_begin ws_X0_begin wn_X0 (by decide) rfl ⟨Nat.le_of_ble_eq_true rfl, Nat.le_of_ble_eq_true rfl⟩ ⟨Nat.le_of_ble_eq_true rfl, Nat.le_of_ble_eq_true rfl⟩ (Nat.le_of_ble_eq_true rfl) dX1_newCoil_12 rfl (fun G9 h9 => ?_)
  rw [h9]
  refine aw_aload_n (q := 16) 0 dX1_newCoil_15 rfl rfl rfl ?_
  refine aw_dup (q := 17) dX1_newCoil_16 rfl rfl ?_
  refine g_mach_coilCount (q := 20) hi (v := (G i 13)) ((((setG_ne (by omega)).trans ((setG_ne (by omega)).trans ((setG_ne (by omega)).trans ((setG_ne (by omega)).trans ((setG_ne (by omega)).trans ((setG_ne (by omega)).trans ((setG_ne (by omega)).trans ((setG_ne (by omega)).trans ((setG_ne (by omega)).trans ((setG_ne (by omega)).trans ((setG_ne (by omega)).trans (setG_ne (by omega))))))))))))))) wf_RX1_28 dX1_newCoil_17 rfl ?_
  refine aw_iconst (q := 21) dX1_newCoil_20 rfl ?_
  refine ae_iadd (q := 22) ((G i 13) + 1) (by omega) dX1_newCoil_21 rfl ?_
  refine p_mach_coilCount (q := 25) hi wf_RX1_28 dX1_newCoil_22 rfl ?_
  refine aw_aload_n (q := 26) 0 dX1_newCoil_25 rfl rfl rfl ?_
  refine g_mach_coilCount (q := 29) hi (v := (G i 13) + 1) (setG_same _ _ _ _) wf_RX1_28 dX1_newCoil_26 rfl ?_
  refine aw_iconst (q := 30) dX1_newCoil_29 rfl ?_
  refine ae_isub (q := 31) (G i 13) (by omega) dX1_newCoil_30 rfl ?_
  exact rt_i rfl (Nat.le_refl _) (Nat.le_refl _) (⟨by first | rfl | omega, rfl⟩) dX1_newCoil_31
set_option maxHeartbeats 4000000 in
set_option maxRecDepth 100000 in
theorem c_m_hasRoomForGoods {l : Launch} {D : va_G} {C : Nat → ClassId} {T : Nat → Nat} {ad : Int → Nat} (G : GG) {i : Int} (hi : 0 ≤ i ∧ i < 6) {c n : Int} (hc : 0 ≤ c ∧ c < 8) (hn : 0 ≤ n ∧ n ≤ 20) (hg : 0 ≤ G i (15 + 12 * c + 1) ∧ G i (15 + 12 * c + 1) ≤ 20) : MC l yX1_hasRoomForGoods cX1_hasRoomForGoods 3 (some .boolean) 0 0 0 0 D (tyC C) T [.ref (ad (17 * i)), .int (iI c), .int (iI n)] (cw ad C G) (RI ad C (fun r G1 => r = b2i (G i (15 + 12 * c + 1) + n ≤ 20) ∧ G1 = G)) := by
  refine mc_of (by decide +kernel) (Nat.le_of_ble_eq_true rfl) rfl ?_
  refine aw_aload_n (q := 1) 0 dX1_hasRoomForGoods_0 rfl rfl rfl ?_
  refine g_mach_coils (q := 4) hi wf_RX1_11 dX1_hasRoomForGoods_1 rfl ?_
  refine aw_iload_n (q := 5) 1 dX1_hasRoomForGoods_4 rfl rfl rfl ?_
  refine aw_coil (q := 6) hi hc dX1_hasRoomForGoods_5 rfl ?_
  refine g_coil_goods (q := 9) hi hc (v := (G i (15 + 12 * c + 1))) rfl wf_RX1_59 dX1_hasRoomForGoods_6 rfl ?_
  refine aw_iload_n (q := 10) 2 dX1_hasRoomForGoods_9 rfl rfl rfl ?_
  refine ae_iadd (q := 11) ((G i (15 + 12 * c + 1)) + n) (by omega) dX1_hasRoomForGoods_10 rfl ?_
  refine aw_bipush (q := 13) dX1_hasRoomForGoods_11 rfl (by decide) ?_
  refine aw_icmp_gt (q := 16) dX1_hasRoomForGoods_13 rfl (t := 20) (by decide) (by omega) (by omega) (fun h1 => ?_) (fun h2 => ?_)
  · refine aw_iconst (q := 21) dX1_hasRoomForGoods_20 rfl ?_
    exact rt_z rfl (by first | omega | exact b2i_r _) (Nat.le_refl _) (Nat.le_refl _) (⟨by first | exact (b2i_t (by omega)).symm | exact (b2i_f (by omega)).symm, rfl⟩) dX1_hasRoomForGoods_21
  · refine aw_iconst (q := 17) dX1_hasRoomForGoods_16 rfl ?_
    refine aw_goto (q := 21) dX1_hasRoomForGoods_17 (by decide) ?_
    exact rt_z rfl (by first | omega | exact b2i_r _) (Nat.le_refl _) (Nat.le_refl _) (⟨by first | exact (b2i_t (by omega)).symm | exact (b2i_f (by omega)).symm, rfl⟩) dX1_hasRoomForGoods_21
set_option maxHeartbeats 4000000 in
set_option maxRecDepth 100000 in
theorem c_m_addGoods {l : Launch} {D : va_G} {C : Nat → ClassId} {T : Nat → Nat} {ad : Int → Nat} (G : GG) {i : Int} (hi : 0 ≤ i ∧ i < 6) {c n : Int} (hc : 0 ≤ c ∧ c < 8) : MC l yX1_addGoods cX1_addGoods 3 (some .int) 0 0 0 0 D (tyC C) T [.ref (ad (17 * i)), .int (iI c), .int (iI n)] (cw ad C G) (RI ad C (fun r G1 => r = G i (15 + 12 * c + 1) + n ∧ G1 = setG G i (15 + 12 * c + 1) (G i (15 + 12 * c + 1) + n))) := by
  refine mc_of (by decide +kernel) (Nat.le_of_ble_eq_true rfl) rfl ?_
  refine aw_aload_n (q := 1) 0 dX1_addGoods_0 rfl rfl rfl ?_
  refine g_mach_coils (q := 4) hi wf_RX1_11 dX1_addGoods_1 rfl ?_
  refine aw_iload_n (q := 5) 1 dX1_addGoods_4 rfl rfl rfl ?_
  refine aw_coil (q := 6) hi hc dX1_addGoods_5 rfl ?_
  refine aw_dup (q := 7) dX1_addGoods_6 rfl rfl ?_
  refine g_coil_goods (q := 10) hi hc (v := (G i (15 + 12 * c + 1))) rfl wf_RX1_59 dX1_addGoods_7 rfl ?_
  refine aw_iload_n (q := 11) 2 dX1_addGoods_10 rfl rfl rfl ?_
  refine ae_iadd (q := 12) ((G i (15 + 12 * c + 1)) + n) (by omega) dX1_addGoods_11 rfl ?_
  refine p_coil_goods (q := 15) hi hc wf_RX1_59 dX1_addGoods_12 rfl ?_
  refine aw_aload_n (q := 16) 0 dX1_addGoods_15 rfl rfl rfl ?_
  refine g_mach_coils (q := 19) hi wf_RX1_11 dX1_addGoods_16 rfl ?_
  refine aw_iload_n (q := 20) 1 dX1_addGoods_19 rfl rfl rfl ?_
  refine aw_coil (q := 21) hi hc dX1_addGoods_20 rfl ?_
  refine g_coil_goods (q := 24) hi hc (v := (G i (15 + 12 * c + 1)) + n) (setG_same _ _ _ _) wf_RX1_59 dX1_addGoods_21 rfl ?_
  exact rt_i rfl (Nat.le_refl _) (Nat.le_refl _) (⟨rfl, rfl⟩) dX1_addGoods_24
set_option maxHeartbeats 4000000 in
set_option maxRecDepth 100000 in
theorem c_m_lookAt {l : Launch} {D : va_G} {C : Nat → ClassId} {T : Nat → Nat} {ad : Int → Nat} (G : GG) {i : Int} (hi : 0 ≤ i ∧ i < 6) {c : Int} (hc : 0 ≤ c ∧ c < 8) (hw : vf_n32 (FP.fadd (fB (G i (15 + 12 * c + 10))) 1056964608)) : MC l yX1_lookAt cX1_lookAt 2 (some .int) 0 0 0 0 D (tyC C) T [.ref (ad (17 * i)), .int (iI c)] (cw ad C G) (RI ad C (fun r G1 => r = G i (15 + 12 * c + 2) ∧ G1 = setG G i (15 + 12 * c + 10) (faddH (G i (15 + 12 * c + 10))))) := by
  refine mc_of (by decide +kernel) (Nat.le_of_ble_eq_true rfl) rfl ?_
  refine aw_aload_n (q := 1) 0 dX1_lookAt_0 rfl rfl rfl ?_
  refine g_mach_coils (q := 4) hi wf_RX1_11 dX1_lookAt_1 rfl ?_
  refine aw_iload_n (q := 5) 1 dX1_lookAt_4 rfl rfl rfl ?_
  refine aw_coil (q := 6) hi hc dX1_lookAt_5 rfl ?_
  refine aw_aload_n (q := 7) 0 dX1_lookAt_6 rfl rfl rfl ?_
  refine g_mach_coils (q := 10) hi wf_RX1_11 dX1_lookAt_7 rfl ?_
  refine aw_iload_n (q := 11) 1 dX1_lookAt_10 rfl rfl rfl ?_
  refine aw_coil (q := 12) hi hc dX1_lookAt_11 rfl ?_
  refine g_coil_wanted (q := 15) hi hc (v := (G i (15 + 12 * c + 10))) rfl wf_RX1_62 dX1_lookAt_12 rfl ?_
  refine aw_ldcf (q := 17) dX1_lookAt_15 rfl wk_RX1_66 ?_
  refine aw_fadd (q := 18) dX1_lookAt_17 rfl hw ?_
  refine p_coil_wanted (q := 21) hi hc (v := ((FP.fadd (fB ((G i (15 + 12 * c + 10)))) 1056964608).toNat : Int)) (fB_nat _) wf_RX1_62 dX1_lookAt_18 rfl ?_
  refine aw_aload_n (q := 22) 0 dX1_lookAt_21 rfl rfl rfl ?_
  refine g_mach_coils (q := 25) hi wf_RX1_11 dX1_lookAt_22 rfl ?_
  refine aw_iload_n (q := 26) 1 dX1_lookAt_25 rfl rfl rfl ?_
  refine aw_coil (q := 27) hi hc dX1_lookAt_26 rfl ?_
  refine g_coil_price (q := 30) hi hc (v := (G i (15 + 12 * c + 2))) (setG_ne (by omega)) wf_RX1_67 dX1_lookAt_27 rfl ?_
  exact rt_i rfl (Nat.le_refl _) (Nat.le_refl _) (⟨rfl, rfl⟩) dX1_lookAt_30
set_option maxHeartbeats 4000000 in
set_option maxRecDepth 100000 in
theorem c_m_hasTimeFor {l : Launch} {D : va_G} {C : Nat → ClassId} {T : Nat → Nat} {ad : Int → Nat} (G : GG) {i : Int} (hi : 0 ≤ i ∧ i < 6) {h : Int} (hh : 0 ≤ h ∧ h ≤ 48) (ht : 0 ≤ G i 10 ∧ G i 10 ≤ 200000) : MC l yX1_hasTimeFor cX1_hasTimeFor 2 (some .boolean) 0 0 0 0 D (tyC C) T [.ref (ad (17 * i)), .int (iI h)] (cw ad C G) (RI ad C (fun r G1 => r = b2i (G i 10 + h ≤ 100000) ∧ G1 = G)) := by
  refine mc_of (by decide +kernel) (Nat.le_of_ble_eq_true rfl) rfl ?_
  refine aw_aload_n (q := 1) 0 dX1_hasTimeFor_0 rfl rfl rfl ?_
  refine g_mach_hour (q := 4) hi (v := (G i 10)) rfl wf_RX1_32 dX1_hasTimeFor_1 rfl ?_
  refine aw_iload_n (q := 5) 1 dX1_hasTimeFor_4 rfl rfl rfl ?_
  refine ae_iadd (q := 6) ((G i 10) + h) (by omega) dX1_hasTimeFor_5 rfl ?_
  refine aw_ldc (q := 8) (x := 100000) dX1_hasTimeFor_6 rfl wk_RX1_102 (by decide) ?_
  refine aw_icmp_gt (q := 11) dX1_hasTimeFor_8 rfl (t := 15) (by decide) (by omega) (by omega) (fun h1 => ?_) (fun h2 => ?_)
  · refine aw_iconst (q := 16) dX1_hasTimeFor_15 rfl ?_
    exact rt_z rfl (by first | omega | exact b2i_r _) (Nat.le_refl _) (Nat.le_refl _) (⟨by first | exact (b2i_t (by omega)).symm | exact (b2i_f (by omega)).symm, rfl⟩) dX1_hasTimeFor_16
  · refine aw_iconst (q := 12) dX1_hasTimeFor_11 rfl ?_
    refine aw_goto (q := 16) dX1_hasTimeFor_12 (by decide) ?_
    exact rt_z rfl (by first | omega | exact b2i_r _) (Nat.le_refl _) (Nat.le_refl _) (⟨by first | exact (b2i_t (by omega)).symm | exact (b2i_f (by omega)).symm, rfl⟩) dX1_hasTimeFor_16
set_option maxHeartbeats 4000000 in
set_option maxRecDepth 100000 in
theorem L_sumOfFacts {l : Launch} {D : va_G} {C : Nat → ClassId} {T : Nat → Nat} {ad : Int → Nat} (G : GG) {i k : Int} (hi : 0 ≤ i ∧ i < 6) (hk : 0 ≤ k ∧ k < 10) (h8 : 0 ≤ G i 13 ∧ G i 13 ≤ 8) : ∀ (n : Nat) (c : Int), 0 ≤ c → c ≤ G i 13 → G i 13 - c < n → AW l RX1 "sumOfFacts" cX1_sumOfFacts 4 (some .int) (fun _ => True) { frames := 1, cells := 0, slots := 0, locals := 21 } (hvE D (RI ad C (fun r G1 => r = sumF (G i) k (G i 13).toNat ∧ G1 = G)) (cw ad C G) 0 0) D (tyC C) (hvZ T (cw ad C G)) (cw ad C G) 4 [(0, .ref (ad (17 * i))), (1, .int (iI k)), (2, .int (iI ((sumF (G i) k c.toNat)))), (3, .int (iI c))] [] (cw ad C G) 0 0 := by
  intro n
  induction n with
  | zero => intro c hc hd hn; exact absurd hn (by omega)
  | succ n ih =>
    intro c hc hd hn
    refine aw_iload_n (q := 5) 3 dX1_sumOfFacts_4 rfl rfl rfl ?_
    refine aw_aload_n (q := 6) 0 dX1_sumOfFacts_5 rfl rfl rfl ?_
    refine g_mach_coilCount (q := 9) hi (v := (G i 13)) rfl wf_RX1_28 dX1_sumOfFacts_6 rfl ?_
    refine aw_icmp_ge (q := 12) dX1_sumOfFacts_9 rfl (t := 31) (by decide) (by omega) (by omega) (fun h1 => ?_) (fun h2 => ?_)
    · refine aw_iload_n (q := 32) 2 dX1_sumOfFacts_31 rfl rfl rfl ?_
      exact rt_i rfl (Nat.le_refl _) (Nat.le_refl _) (⟨by rw [show c = G i 13 by omega], rfl⟩) dX1_sumOfFacts_32
    · refine aw_iload_n (q := 13) 2 dX1_sumOfFacts_12 rfl rfl rfl ?_
      refine aw_aload_n (q := 14) 0 dX1_sumOfFacts_13 rfl rfl rfl ?_
      refine g_mach_coils (q := 17) hi wf_RX1_11 dX1_sumOfFacts_14 rfl ?_
      refine aw_iload_n (q := 18) 3 dX1_sumOfFacts_17 rfl rfl rfl ?_
      refine aw_coil (q := 19) hi ⟨by omega, by omega⟩ dX1_sumOfFacts_18 rfl ?_
      refine aw_iload_n (q := 20) 1 dX1_sumOfFacts_19 rfl rfl rfl ?_
      refine cv_I (q := 23) (CC := "") (id := 17 * i + 9 + c) (As := [.int (iI k)]) 1 (c_coil_fact (T := T) (D := D) (ad := ad) G hi ⟨by omega, by omega⟩ hk) (fun _ h => h) (by omega) (cell_coil ad C _ hi ⟨by omega, by omega⟩) rfl wc_X0_fact wm_RX1_149 wi_X0_fact ws_X0_fact wn_X0 (by decide) rfl ⟨Nat.le_of_ble_eq_true rfl, Nat.le_of_ble_eq_true rfl⟩ ⟨Nat.le_of_ble_eq_true rfl, Nat.le_of_ble_eq_true rfl⟩ (Nat.le_of_ble_eq_true rfl) dX1_sumOfFacts_20 rfl (fun r9 G9 h9 => ?_)
      rw [h9.1, h9.2]
      refine ae_iadd (q := 24) ((sumF (G i) k c.toNat) + (G i (15 + 12 * c + k))) (by omega) dX1_sumOfFacts_23 rfl ?_
      refine aw_istore_n (q := 25) (lv2 := [(0, .ref (ad (17 * i))), (1, .int (iI k)), (2, .int (iI ((sumF (G i) k c.toNat) + (G i (15 + 12 * c + k))))), (3, .int (iI c))]) [1, 2, 0, 3] dX1_sumOfFacts_24 rfl rfl (by decide) rfl rfl ?_
      refine ae_iinc (q := 28) (lv2 := [(0, .ref (ad (17 * i))), (1, .int (iI k)), (2, .int (iI ((sumF (G i) k c.toNat) + (G i (15 + 12 * c + k))))), (3, .int (iI (c + 1)))]) 3 [1, 2, 3, 0] (c + 1) (by omega) dX1_sumOfFacts_25 rfl rfl (by decide) rfl ?_
      refine aw_goto (q := 4) dX1_sumOfFacts_28 (by decide) ?_
      have hi9 := ih (c + 1) (by omega) (by omega) (by omega)
      rw [sumF_succ (G i) k hc] at hi9
      exact hi9
set_option maxHeartbeats 4000000 in
set_option maxRecDepth 100000 in
theorem c_m_sumOfFacts {l : Launch} {D : va_G} {C : Nat → ClassId} {T : Nat → Nat} {ad : Int → Nat} (G : GG) {i k : Int} (hi : 0 ≤ i ∧ i < 6) (hk : 0 ≤ k ∧ k < 10) (h8 : 0 ≤ G i 13 ∧ G i 13 ≤ 8) : MC l yX1_sumOfFacts cX1_sumOfFacts 4 (some .int) 1 21 0 0 D (tyC C) T [.ref (ad (17 * i)), .int (iI k)] (cw ad C G) (RI ad C (fun r G1 => r = sumF (G i) k (G i 13).toNat ∧ G1 = G)) := by
  refine mc_of (by decide +kernel) (Nat.le_of_ble_eq_true rfl) rfl ?_
  refine aw_iconst (q := 1) dX1_sumOfFacts_0 rfl ?_
  refine aw_istore_n (q := 2) (lv2 := [(0, .ref (ad (17 * i))), (1, .int (iI k)), (2, .int (iI 0))]) [1, 2, 0] dX1_sumOfFacts_1 rfl rfl (by decide) rfl rfl ?_
  refine aw_iconst (q := 3) dX1_sumOfFacts_2 rfl ?_
  refine aw_istore_n (q := 4) (lv2 := [(0, .ref (ad (17 * i))), (1, .int (iI k)), (2, .int (iI 0)), (3, .int (iI 0))]) [1, 2, 3, 0] dX1_sumOfFacts_3 rfl rfl (by decide) rfl rfl ?_
  exact L_sumOfFacts G hi hk h8 9 0 (by omega) (by omega) (by omega)
/-- value(what), off a page -/
def numF (g : Int → Int) (k : Int) : Int := if k = 0 then g 13 else if k = 1 then g 10 else if k = 2 then worthF g 5 else if k = 3 then g 9 else if k = 4 then g 14 else if k = 5 then g 311 else if k = 6 then g 11 else if k = 7 then sumF g 6 (g 13).toNat else if k = 8 then sumF g 7 (g 13).toNat else if k = 9 then g 12 else sumF g 1 (g 13).toNat
set_option maxHeartbeats 4000000 in
set_option maxRecDepth 100000 in
theorem c_m_number0 {l : Launch} {D : va_G} {C : Nat → ClassId} {T : Nat → Nat} {ad : Int → Nat} (G : GG) {i : Int} (hi : 0 ≤ i ∧ i < 6) (h8 : 0 ≤ G i 13 ∧ G i 13 ≤ 8) (ht : ∀ k : Int, 0 ≤ k → k < 4 → 0 ≤ G i (5 + k) ∧ G i (5 + k) ≤ 10000) : MC l yX1_number cX1_number 2 (some .int) 2 44 0 0 D (tyC C) T [.ref (ad (17 * i)), .int (iI 0)] (cw ad C G) (RI ad C (fun r G1 => r = numF (G i) 0 ∧ G1 = G)) := by
  refine mc_of (by decide +kernel) (Nat.le_of_ble_eq_true rfl) rfl ?_
  refine aw_iload_n (q := 1) 1 dX1_number_0 rfl rfl rfl ?_
  refine ae_tab 55 (t := 56) (by omega) dX1_number_1 (by decide) (by decide) rfl (by decide) ?_
  refine aw_aload_n (q := 57) 0 dX1_number_56 rfl rfl rfl ?_
  refine g_mach_coilCount (q := 60) hi (v := (G i 13)) rfl wf_RX1_28 dX1_number_57 rfl ?_
  exact rt_i rfl (Nat.le_refl _) (Nat.le_refl _) (⟨rfl, rfl⟩) dX1_number_60
set_option maxHeartbeats 4000000 in
set_option maxRecDepth 100000 in
theorem c_m_number1 {l : Launch} {D : va_G} {C : Nat → ClassId} {T : Nat → Nat} {ad : Int → Nat} (G : GG) {i : Int} (hi : 0 ≤ i ∧ i < 6) (h8 : 0 ≤ G i 13 ∧ G i 13 ≤ 8) (ht : ∀ k : Int, 0 ≤ k → k < 4 → 0 ≤ G i (5 + k) ∧ G i (5 + k) ≤ 10000) : MC l yX1_number cX1_number 2 (some .int) 2 44 0 0 D (tyC C) T [.ref (ad (17 * i)), .int (iI 1)] (cw ad C G) (RI ad C (fun r G1 => r = numF (G i) 1 ∧ G1 = G)) := by
  refine mc_of (by decide +kernel) (Nat.le_of_ble_eq_true rfl) rfl ?_
  refine aw_iload_n (q := 1) 1 dX1_number_0 rfl rfl rfl ?_
  refine ae_tab 60 (t := 61) (by omega) dX1_number_1 (by decide) (by decide) rfl (by decide) ?_
  refine aw_aload_n (q := 62) 0 dX1_number_61 rfl rfl rfl ?_
  refine g_mach_hour (q := 65) hi (v := (G i 10)) rfl wf_RX1_32 dX1_number_62 rfl ?_
  exact rt_i rfl (Nat.le_refl _) (Nat.le_refl _) (⟨rfl, rfl⟩) dX1_number_65
set_option maxHeartbeats 4000000 in
set_option maxRecDepth 100000 in
theorem c_m_number2 {l : Launch} {D : va_G} {C : Nat → ClassId} {T : Nat → Nat} {ad : Int → Nat} (G : GG) {i : Int} (hi : 0 ≤ i ∧ i < 6) (h8 : 0 ≤ G i 13 ∧ G i 13 ≤ 8) (ht : ∀ k : Int, 0 ≤ k → k < 4 → 0 ≤ G i (5 + k) ∧ G i (5 + k) ≤ 10000) : MC l yX1_number cX1_number 2 (some .int) 2 44 0 0 D (tyC C) T [.ref (ad (17 * i)), .int (iI 2)] (cw ad C G) (RI ad C (fun r G1 => r = numF (G i) 2 ∧ G1 = G)) := by
  refine mc_of (by decide +kernel) (Nat.le_of_ble_eq_true rfl) rfl ?_
  refine aw_iload_n (q := 1) 1 dX1_number_0 rfl rfl rfl ?_
  refine ae_tab 65 (t := 66) (by omega) dX1_number_1 (by decide) (by decide) rfl (by decide) ?_
  refine aw_aload_n (q := 67) 0 dX1_number_66 rfl rfl rfl ?_
  refine g_mach_till (q := 70) hi wf_RX1_24 dX1_number_67 rfl ?_
  refine g_till_tubes (q := 73) hi wf_RX1_133 dX1_number_70 rfl ?_
  refine csN_I (q := 76) (As := [.ref (ad (17 * i + 4))]) 1 RX5 (c_worth (T := T) (D := D) G (ar_tubes ad C hi) ht) (fun _ h => h) wc_X5_worth (by decide) wt_X5_worth wn_X5 (by decide) rfl ⟨Nat.le_of_ble_eq_true rfl, Nat.le_of_ble_eq_true rfl⟩ ⟨Nat.le_of_ble_eq_true rfl, Nat.le_of_ble_eq_true rfl⟩ (Nat.le_of_ble_eq_true rfl) dX1_number_73 rfl (fun r9 G9 h9 => ?_)
  rw [h9.1, h9.2]
  exact rt_i rfl (Nat.le_refl _) (Nat.le_refl _) (⟨rfl, rfl⟩) dX1_number_76
set_option maxHeartbeats 4000000 in
set_option maxRecDepth 100000 in
theorem c_m_number3 {l : Launch} {D : va_G} {C : Nat → ClassId} {T : Nat → Nat} {ad : Int → Nat} (G : GG) {i : Int} (hi : 0 ≤ i ∧ i < 6) (h8 : 0 ≤ G i 13 ∧ G i 13 ≤ 8) (ht : ∀ k : Int, 0 ≤ k → k < 4 → 0 ≤ G i (5 + k) ∧ G i (5 + k) ≤ 10000) : MC l yX1_number cX1_number 2 (some .int) 2 44 0 0 D (tyC C) T [.ref (ad (17 * i)), .int (iI 3)] (cw ad C G) (RI ad C (fun r G1 => r = numF (G i) 3 ∧ G1 = G)) := by
  refine mc_of (by decide +kernel) (Nat.le_of_ble_eq_true rfl) rfl ?_
  refine aw_iload_n (q := 1) 1 dX1_number_0 rfl rfl rfl ?_
  refine ae_tab 76 (t := 77) (by omega) dX1_number_1 (by decide) (by decide) rfl (by decide) ?_
  refine aw_aload_n (q := 78) 0 dX1_number_77 rfl rfl rfl ?_
  refine g_mach_till (q := 81) hi wf_RX1_24 dX1_number_78 rfl ?_
  refine g_till_box (q := 84) hi (v := (G i 9)) rfl wf_RX1_136 dX1_number_81 rfl ?_
  exact rt_i rfl (Nat.le_refl _) (Nat.le_refl _) (⟨rfl, rfl⟩) dX1_number_84
set_option maxHeartbeats 4000000 in
set_option maxRecDepth 100000 in
theorem c_m_number4 {l : Launch} {D : va_G} {C : Nat → ClassId} {T : Nat → Nat} {ad : Int → Nat} (G : GG) {i : Int} (hi : 0 ≤ i ∧ i < 6) (h8 : 0 ≤ G i 13 ∧ G i 13 ≤ 8) (ht : ∀ k : Int, 0 ≤ k → k < 4 → 0 ≤ G i (5 + k) ∧ G i (5 + k) ≤ 10000) : MC l yX1_number cX1_number 2 (some .int) 2 44 0 0 D (tyC C) T [.ref (ad (17 * i)), .int (iI 4)] (cw ad C G) (RI ad C (fun r G1 => r = numF (G i) 4 ∧ G1 = G)) := by
  refine mc_of (by decide +kernel) (Nat.le_of_ble_eq_true rfl) rfl ?_
  refine aw_iload_n (q := 1) 1 dX1_number_0 rfl rfl rfl ?_
  refine ae_tab 84 (t := 85) (by omega) dX1_number_1 (by decide) (by decide) rfl (by decide) ?_
  refine aw_aload_n (q := 86) 0 dX1_number_85 rfl rfl rfl ?_
  refine g_mach_till (q := 89) hi wf_RX1_24 dX1_number_86 rfl ?_
  refine g_till_promiseCount (q := 92) hi (v := (G i 14)) rfl wf_RX1_139 dX1_number_89 rfl ?_
  exact rt_i rfl (Nat.le_refl _) (Nat.le_refl _) (⟨rfl, rfl⟩) dX1_number_92
set_option maxHeartbeats 4000000 in
set_option maxRecDepth 100000 in
theorem c_m_number5 {l : Launch} {D : va_G} {C : Nat → ClassId} {T : Nat → Nat} {ad : Int → Nat} (G : GG) {i : Int} (hi : 0 ≤ i ∧ i < 6) (h8 : 0 ≤ G i 13 ∧ G i 13 ≤ 8) (ht : ∀ k : Int, 0 ≤ k → k < 4 → 0 ≤ G i (5 + k) ∧ G i (5 + k) ≤ 10000) : MC l yX1_number cX1_number 2 (some .int) 2 44 0 0 D (tyC C) T [.ref (ad (17 * i)), .int (iI 5)] (cw ad C G) (RI ad C (fun r G1 => r = numF (G i) 5 ∧ G1 = G)) := by
  refine mc_of (by decide +kernel) (Nat.le_of_ble_eq_true rfl) rfl ?_
  refine aw_iload_n (q := 1) 1 dX1_number_0 rfl rfl rfl ?_
  refine ae_tab 92 (t := 93) (by omega) dX1_number_1 (by decide) (by decide) rfl (by decide) ?_
  refine aw_aload_n (q := 94) 0 dX1_number_93 rfl rfl rfl ?_
  refine g_mach_till (q := 97) hi wf_RX1_24 dX1_number_94 rfl ?_
  refine g_till_promiseSum (q := 100) hi (v := (G i 311)) rfl wf_RX1_78 dX1_number_97 rfl ?_
  exact rt_i rfl (Nat.le_refl _) (Nat.le_refl _) (⟨rfl, rfl⟩) dX1_number_100
set_option maxHeartbeats 4000000 in
set_option maxRecDepth 100000 in
theorem c_m_number6 {l : Launch} {D : va_G} {C : Nat → ClassId} {T : Nat → Nat} {ad : Int → Nat} (G : GG) {i : Int} (hi : 0 ≤ i ∧ i < 6) (h8 : 0 ≤ G i 13 ∧ G i 13 ≤ 8) (ht : ∀ k : Int, 0 ≤ k → k < 4 → 0 ≤ G i (5 + k) ∧ G i (5 + k) ≤ 10000) : MC l yX1_number cX1_number 2 (some .int) 2 44 0 0 D (tyC C) T [.ref (ad (17 * i)), .int (iI 6)] (cw ad C G) (RI ad C (fun r G1 => r = numF (G i) 6 ∧ G1 = G)) := by
  refine mc_of (by decide +kernel) (Nat.le_of_ble_eq_true rfl) rfl ?_
  refine aw_iload_n (q := 1) 1 dX1_number_0 rfl rfl rfl ?_
  refine ae_tab 100 (t := 101) (by omega) dX1_number_1 (by decide) (by decide) rfl (by decide) ?_
  refine aw_aload_n (q := 102) 0 dX1_number_101 rfl rfl rfl ?_
  refine g_mach_till (q := 105) hi wf_RX1_24 dX1_number_102 rfl ?_
  refine g_till_promisesPaid (q := 108) hi (v := (G i 11)) rfl wf_RX1_142 dX1_number_105 rfl ?_
  exact rt_i rfl (Nat.le_refl _) (Nat.le_refl _) (⟨rfl, rfl⟩) dX1_number_108
set_option maxHeartbeats 4000000 in
set_option maxRecDepth 100000 in
theorem c_m_number7 {l : Launch} {D : va_G} {C : Nat → ClassId} {T : Nat → Nat} {ad : Int → Nat} (G : GG) {i : Int} (hi : 0 ≤ i ∧ i < 6) (h8 : 0 ≤ G i 13 ∧ G i 13 ≤ 8) (ht : ∀ k : Int, 0 ≤ k → k < 4 → 0 ≤ G i (5 + k) ∧ G i (5 + k) ≤ 10000) : MC l yX1_number cX1_number 2 (some .int) 2 44 0 0 D (tyC C) T [.ref (ad (17 * i)), .int (iI 7)] (cw ad C G) (RI ad C (fun r G1 => r = numF (G i) 7 ∧ G1 = G)) := by
  refine mc_of (by decide +kernel) (Nat.le_of_ble_eq_true rfl) rfl ?_
  refine aw_iload_n (q := 1) 1 dX1_number_0 rfl rfl rfl ?_
  refine ae_tab 108 (t := 109) (by omega) dX1_number_1 (by decide) (by decide) rfl (by decide) ?_
  refine aw_aload_n (q := 110) 0 dX1_number_109 rfl rfl rfl ?_
  refine aw_bipush (q := 112) dX1_number_110 rfl (by decide) ?_
  refine cv_I (q := 115) (CC := "") (id := 17 * i) (As := [.int (iI 6)]) 1 (c_m_sumOfFacts (T := T) (D := D) (ad := ad) G hi (by omega) h8) (fun _ h => h) (by omega) (cell_mach ad C _ hi) rfl wc_X1_sumOfFacts wm_RX1_145 wi_X1_sumOfFacts ws_X1_sumOfFacts wn_X1 (by decide) rfl ⟨Nat.le_of_ble_eq_true rfl, Nat.le_of_ble_eq_true rfl⟩ ⟨Nat.le_of_ble_eq_true rfl, Nat.le_of_ble_eq_true rfl⟩ (Nat.le_of_ble_eq_true rfl) dX1_number_112 rfl (fun r9 G9 h9 => ?_)
  rw [h9.1, h9.2]
  exact rt_i rfl (Nat.le_refl _) (Nat.le_refl _) (⟨rfl, rfl⟩) dX1_number_115
set_option maxHeartbeats 4000000 in
set_option maxRecDepth 100000 in
theorem c_m_number8 {l : Launch} {D : va_G} {C : Nat → ClassId} {T : Nat → Nat} {ad : Int → Nat} (G : GG) {i : Int} (hi : 0 ≤ i ∧ i < 6) (h8 : 0 ≤ G i 13 ∧ G i 13 ≤ 8) (ht : ∀ k : Int, 0 ≤ k → k < 4 → 0 ≤ G i (5 + k) ∧ G i (5 + k) ≤ 10000) : MC l yX1_number cX1_number 2 (some .int) 2 44 0 0 D (tyC C) T [.ref (ad (17 * i)), .int (iI 8)] (cw ad C G) (RI ad C (fun r G1 => r = numF (G i) 8 ∧ G1 = G)) := by
  refine mc_of (by decide +kernel) (Nat.le_of_ble_eq_true rfl) rfl ?_
  refine aw_iload_n (q := 1) 1 dX1_number_0 rfl rfl rfl ?_
  refine ae_tab 115 (t := 116) (by omega) dX1_number_1 (by decide) (by decide) rfl (by decide) ?_
  refine aw_aload_n (q := 117) 0 dX1_number_116 rfl rfl rfl ?_
  refine aw_bipush (q := 119) dX1_number_117 rfl (by decide) ?_
  refine cv_I (q := 122) (CC := "") (id := 17 * i) (As := [.int (iI 7)]) 1 (c_m_sumOfFacts (T := T) (D := D) (ad := ad) G hi (by omega) h8) (fun _ h => h) (by omega) (cell_mach ad C _ hi) rfl wc_X1_sumOfFacts wm_RX1_145 wi_X1_sumOfFacts ws_X1_sumOfFacts wn_X1 (by decide) rfl ⟨Nat.le_of_ble_eq_true rfl, Nat.le_of_ble_eq_true rfl⟩ ⟨Nat.le_of_ble_eq_true rfl, Nat.le_of_ble_eq_true rfl⟩ (Nat.le_of_ble_eq_true rfl) dX1_number_119 rfl (fun r9 G9 h9 => ?_)
  rw [h9.1, h9.2]
  exact rt_i rfl (Nat.le_refl _) (Nat.le_refl _) (⟨rfl, rfl⟩) dX1_number_122
set_option maxHeartbeats 4000000 in
set_option maxRecDepth 100000 in
theorem c_m_number9 {l : Launch} {D : va_G} {C : Nat → ClassId} {T : Nat → Nat} {ad : Int → Nat} (G : GG) {i : Int} (hi : 0 ≤ i ∧ i < 6) (h8 : 0 ≤ G i 13 ∧ G i 13 ≤ 8) (ht : ∀ k : Int, 0 ≤ k → k < 4 → 0 ≤ G i (5 + k) ∧ G i (5 + k) ≤ 10000) : MC l yX1_number cX1_number 2 (some .int) 2 44 0 0 D (tyC C) T [.ref (ad (17 * i)), .int (iI 9)] (cw ad C G) (RI ad C (fun r G1 => r = numF (G i) 9 ∧ G1 = G)) := by
  refine mc_of (by decide +kernel) (Nat.le_of_ble_eq_true rfl) rfl ?_
  refine aw_iload_n (q := 1) 1 dX1_number_0 rfl rfl rfl ?_
  refine ae_tab 122 (t := 123) (by omega) dX1_number_1 (by decide) (by decide) rfl (by decide) ?_
  refine aw_aload_n (q := 124) 0 dX1_number_123 rfl rfl rfl ?_
  refine g_mach_fines (q := 127) hi (v := (G i 12)) rfl wf_RX1_35 dX1_number_124 rfl ?_
  exact rt_i rfl (Nat.le_refl _) (Nat.le_refl _) (⟨rfl, rfl⟩) dX1_number_127
set_option maxHeartbeats 4000000 in
set_option maxRecDepth 100000 in
theorem c_m_number10 {l : Launch} {D : va_G} {C : Nat → ClassId} {T : Nat → Nat} {ad : Int → Nat} (G : GG) {i : Int} (hi : 0 ≤ i ∧ i < 6) (h8 : 0 ≤ G i 13 ∧ G i 13 ≤ 8) (ht : ∀ k : Int, 0 ≤ k → k < 4 → 0 ≤ G i (5 + k) ∧ G i (5 + k) ≤ 10000) : MC l yX1_number cX1_number 2 (some .int) 2 44 0 0 D (tyC C) T [.ref (ad (17 * i)), .int (iI 10)] (cw ad C G) (RI ad C (fun r G1 => r = numF (G i) 10 ∧ G1 = G)) := by
  refine mc_of (by decide +kernel) (Nat.le_of_ble_eq_true rfl) rfl ?_
  refine aw_iload_n (q := 1) 1 dX1_number_0 rfl rfl rfl ?_
  refine ae_tabD (t := 128) (by omega) dX1_number_1 (by decide) (by decide) ?_
  refine aw_aload_n (q := 129) 0 dX1_number_128 rfl rfl rfl ?_
  refine aw_iconst (q := 130) dX1_number_129 rfl ?_
  refine cv_I (q := 133) (CC := "") (id := 17 * i) (As := [.int (iI 1)]) 1 (c_m_sumOfFacts (T := T) (D := D) (ad := ad) G hi (by omega) h8) (fun _ h => h) (by omega) (cell_mach ad C _ hi) rfl wc_X1_sumOfFacts wm_RX1_145 wi_X1_sumOfFacts ws_X1_sumOfFacts wn_X1 (by decide) rfl ⟨Nat.le_of_ble_eq_true rfl, Nat.le_of_ble_eq_true rfl⟩ ⟨Nat.le_of_ble_eq_true rfl, Nat.le_of_ble_eq_true rfl⟩ (Nat.le_of_ble_eq_true rfl) dX1_number_130 rfl (fun r9 G9 h9 => ?_)
  rw [h9.1, h9.2]
  exact rt_i rfl (Nat.le_refl _) (Nat.le_refl _) (⟨rfl, rfl⟩) dX1_number_133
theorem c_m_number {l : Launch} {D : va_G} {C : Nat → ClassId} {T : Nat → Nat} {ad : Int → Nat} (G : GG) {i k : Int} (hi : 0 ≤ i ∧ i < 6) (h8 : 0 ≤ G i 13 ∧ G i 13 ≤ 8) (ht : ∀ k : Int, 0 ≤ k → k < 4 → 0 ≤ G i (5 + k) ∧ G i (5 + k) ≤ 10000) (hk : 0 ≤ k ∧ k < 11) : MC l yX1_number cX1_number 2 (some .int) 2 44 0 0 D (tyC C) T [.ref (ad (17 * i)), .int (iI k)] (cw ad C G) (RI ad C (fun r G1 => r = numF (G i) k ∧ G1 = G)) := by
  have h : k = 0 ∨ k = 1 ∨ k = 2 ∨ k = 3 ∨ k = 4 ∨ k = 5 ∨ k = 6 ∨ k = 7 ∨ k = 8 ∨ k = 9 ∨ k = 10 := by omega
  rcases h with rfl | rfl | rfl | rfl | rfl | rfl | rfl | rfl | rfl | rfl | rfl
  · exact c_m_number0 G hi h8 ht
  · exact c_m_number1 G hi h8 ht
  · exact c_m_number2 G hi h8 ht
  · exact c_m_number3 G hi h8 ht
  · exact c_m_number4 G hi h8 ht
  · exact c_m_number5 G hi h8 ht
  · exact c_m_number6 G hi h8 ht
  · exact c_m_number7 G hi h8 ht
  · exact c_m_number8 G hi h8 ht
  · exact c_m_number9 G hi h8 ht
  · exact c_m_number10 G hi h8 ht
