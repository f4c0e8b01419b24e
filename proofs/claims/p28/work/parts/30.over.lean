def hoursR (g : Row) : Nat → Row
  | 0 => g
  | n + 1 => hourR (hoursR g n)
theorem hoursR_succ (g : Row) {c : Int} (h : 0 ≤ c) : hoursR g (c + 1).toNat = hourR (hoursR g c.toNat) := by
  rw [show (c + 1).toNat = c.toNat + 1 by omega]
  rfl
theorem okH_hours {g : Row} (o : okH g) : ∀ n : Nat, okH (hoursR g n)
  | 0 => o
  | n + 1 => okH_hour (okH_hours o n)
set_option maxHeartbeats 4000000 in
set_option maxRecDepth 100000 in
theorem L_hours {l : Launch} {D : va_G} {C : Nat → ClassId} {T : Nat → Nat} {ad : Int → Nat} (G : GG) {i h : Int} (hi : 0 ≤ i ∧ i < 6) (o : okH (G i)) (hh : 0 ≤ h ∧ h ≤ 48) : ∀ (n : Nat) (c : Int), 0 ≤ c → c ≤ h → h - c < n → AW l RX1 "passHours" cX1_passHours 4 (some .int) (fun _ => True) { frames := 4, cells := 0, slots := 0, locals := 100 } (hvE D (RI ad C (fun r G1 => r = hoursR (G i) h.toNat 12 - G i 12 ∧ G1 = onR G i (hoursR (G i) h.toNat))) (cw ad C G) 0 0) D (tyC C) (hvZ T (cw ad C G)) (cw ad C G) 7 [(0, .ref (ad (17 * i))), (1, .int (iI h)), (2, .int (iI (G i 12))), (3, .int (iI c))] [] (cw ad C ((onR G i (hoursR (G i) c.toNat)))) 0 0 := by
  intro n
  induction n with
  | zero => intro c hc hd hn; exact absurd hn (by omega)
  | succ n ih =>
    intro c hc hd hn
    refine aw_iload_n (q := 8) 3 dX1_passHours_7 rfl rfl rfl ?_
    refine aw_iload_n (q := 9) 1 dX1_passHours_8 rfl rfl rfl ?_
    refine aw_icmp_ge (q := 12) dX1_passHours_9 rfl (t := 22) (by decide) (by omega) (by omega) (fun h1 => ?_) (fun h2 => ?_)
    · refine aw_aload_n (q := 23) 0 dX1_passHours_22 rfl rfl rfl ?_
      refine g_mach_fines (q := 26) hi (v := (hoursR (G i) c.toNat 12)) (congrFun (onR_at _ _ _) _) wf_RX1_35 dX1_passHours_23 rfl ?_
      refine aw_iload_n (q := 27) 2 dX1_passHours_26 rfl rfl rfl ?_
      refine ae_isub (q := 28) ((hoursR (G i) c.toNat 12) - (G i 12)) (by omega) dX1_passHours_27 rfl ?_
      exact rt_i rfl (Nat.le_refl _) (Nat.le_refl _) (by rw [show h = c by omega]; exact ⟨rfl, rfl⟩) dX1_passHours_28
    · refine aw_aload_n (q := 13) 0 dX1_passHours_12 rfl rfl rfl ?_
      refine cv_V (q := 16) (CC := "") (id := 17 * i) (As := []) 0 ((by have := c_m_passHour (l := l) (T := T) (D := D) (C := C) (ad := ad) (onR G i (hoursR (G i) c.toNat)) hi (by rw [onR_at]; exact okH_hours o _); rw [onR_at, onR_onR] at this; exact this)) (fun _ h => h) (by omega) (cell_mach ad C _ hi) rfl wc_X1_passHour wm_RX1_103 wi_X1_passHour ws_X1_passHour wn_X1 (by decide) rfl ⟨Nat.le_of_ble_eq_true rfl, Nat.le_of_ble_eq_true rfl⟩ ⟨Nat.le_of_ble_eq_true rfl, Nat.le_of_ble_eq_true rfl⟩ (Nat.le_of_ble_eq_true rfl) dX1_passHours_13 rfl (fun G9 h9 => ?_)
      rw [h9]
      refine ae_iinc (q := 19) (lv2 := [(0, .ref (ad (17 * i))), (1, .int (iI h)), (2, .int (iI (G i 12))), (3, .int (iI (c + 1)))]) 3 [1, 2, 3, 0] (c + 1) (by omega) dX1_passHours_16 rfl rfl (by decide) rfl ?_
      refine aw_goto (q := 7) dX1_passHours_19 (by decide) ?_
      have hi9 := ih (c + 1) (by omega) (by omega) (by omega)
      rw [hoursR_succ _ hc] at hi9
      exact hi9
set_option maxHeartbeats 4000000 in
set_option maxRecDepth 100000 in
theorem c_m_passHours {l : Launch} {D : va_G} {C : Nat → ClassId} {T : Nat → Nat} {ad : Int → Nat} (G : GG) {i h : Int} (hi : 0 ≤ i ∧ i < 6) (o : okH (G i)) (hh : 0 ≤ h ∧ h ≤ 48) : MC l yX1_passHours cX1_passHours 4 (some .int) 4 100 0 0 D (tyC C) T [.ref (ad (17 * i)), .int (iI h)] (cw ad C G) (RI ad C (fun r G1 => r = hoursR (G i) h.toNat 12 - G i 12 ∧ G1 = onR G i (hoursR (G i) h.toNat))) := by
  refine mc_of (by decide +kernel) (Nat.le_of_ble_eq_true rfl) rfl ?_
  refine aw_aload_n (q := 1) 0 dX1_passHours_0 rfl rfl rfl ?_
  refine g_mach_fines (q := 4) hi (v := (G i 12)) rfl wf_RX1_35 dX1_passHours_1 rfl ?_
  refine aw_istore_n (q := 5) (lv2 := [(0, .ref (ad (17 * i))), (1, .int (iI h)), (2, .int (iI (G i 12)))]) [1, 2, 0] dX1_passHours_4 rfl rfl (by decide) rfl rfl ?_
  refine aw_iconst (q := 6) dX1_passHours_5 rfl ?_
  refine aw_istore_n (q := 7) (lv2 := [(0, .ref (ad (17 * i))), (1, .int (iI h)), (2, .int (iI (G i 12))), (3, .int (iI 0))]) [1, 2, 3, 0] dX1_passHours_6 rfl rfl (by decide) rfl rfl ?_
  have hi9 := L_hours (l := l) (D := D) (C := C) (T := T) (ad := ad) G hi o hh 60 0 (by omega) (by omega) (by omega)
  rw [show hoursR (G i) (0 : Int).toNat = G i from rfl, onR_id] at hi9
  exact hi9
set_option maxHeartbeats 4000000 in
set_option maxRecDepth 100000 in
theorem L_over {l : Launch} {D : va_G} {C : Nat → ClassId} {T : Nat → Nat} {ad : Int → Nat} (G : GG) {i j : Int} (hi : 0 ≤ i ∧ i < 6) (hj : 0 ≤ j ∧ j < 6) (hij : i ≠ j) (h8 : 0 ≤ G j 13 ∧ G j 13 ≤ 8) (hz : ∀ d : Int, 0 ≤ d → d < G j 13 → (G j (15 + 12 * d + 11) = 0 ∨ G j (15 + 12 * d + 11) = 1)) : ∀ (n : Nat) (c : Int), 0 ≤ c → c ≤ G j 13 → G j 13 - c < n → AW l RX1 "takeOver" cX1_takeOver 3 none (fun _ => True) { frames := 2, cells := 0, slots := 0, locals := 57 } (hvE D (RV ad C (overP G i j)) (cw ad C G) 0 0) D (tyC C) (hvZ T (cw ad C G)) (cw ad C G) 2 [(0, .ref (ad (17 * i))), (1, .ref (ad (17 * j))), (2, .int (iI c))] [] (cw ad C ((cpG G i 15 (12 * c) j 15))) 0 0 := by
  intro n
  induction n with
  | zero => intro c hc hd hn; exact absurd hn (by omega)
  | succ n ih =>
    intro c hc hd hn
    refine aw_iload_n (q := 3) 2 dX1_takeOver_2 rfl rfl rfl ?_
    refine aw_aload_n (q := 4) 1 dX1_takeOver_3 rfl rfl rfl ?_
    refine g_mach_coilCount (q := 7) hj (v := (G j 13)) (cpG_ne (by omega)) wf_RX1_28 dX1_takeOver_4 rfl ?_
    refine aw_icmp_ge (q := 10) dX1_takeOver_7 rfl (t := 31) (by decide) (by omega) (by omega) (fun h1 => ?_) (fun h2 => ?_)
    · refine aw_aload_n (q := 32) 1 dX1_takeOver_31 rfl rfl rfl ?_
      refine g_mach_settings (q := 35) hj wf_RX1_17 dX1_takeOver_32 rfl ?_
      refine aw_iconst (q := 36) dX1_takeOver_35 rfl ?_
      refine aw_aload_n (q := 37) 0 dX1_takeOver_36 rfl rfl rfl ?_
      refine g_mach_settings (q := 40) hi wf_RX1_17 dX1_takeOver_37 rfl ?_
      refine aw_iconst (q := 41) dX1_takeOver_40 rfl ?_
      refine aw_iconst (q := 42) dX1_takeOver_41 rfl ?_
      refine aw_ccopy (q := 45) (ar_sets ad C hj) (ar_sets ad C hi) wm_RX1_46 wcopy_n wcopy_s wSys_i (by omega) (by decide) (Nat.le_of_ble_eq_true rfl) (Nat.le_of_ble_eq_true rfl) dX1_takeOver_42 rfl ?_
      refine aw_aload_n (q := 46) 0 dX1_takeOver_45 rfl rfl rfl ?_
      refine g_mach_till (q := 49) hi wf_RX1_24 dX1_takeOver_46 rfl ?_
      refine aw_aload_n (q := 50) 1 dX1_takeOver_49 rfl rfl rfl ?_
      refine g_mach_till (q := 53) hj wf_RX1_24 dX1_takeOver_50 rfl ?_
      refine cv_V (q := 56) (CC := "") (id := 17 * i + 3) (As := [.ref (ad (17 * j + 3))]) 1 (c_till_takeOver (T := T) (D := D) (ad := ad) (cpG ((cpG G i 15 (12 * c) j 15)) i (0 + 0) 5 j (0 + 0)) hi hj hij) (fun _ h => h) (by omega) (cell_till ad C _ hi) rfl wc_X4_takeOver wm_RX1_52 wi_X4_takeOver ws_X4_takeOver wn_X4 (by decide) rfl ⟨Nat.le_of_ble_eq_true rfl, Nat.le_of_ble_eq_true rfl⟩ ⟨Nat.le_of_ble_eq_true rfl, Nat.le_of_ble_eq_true rfl⟩ (Nat.le_of_ble_eq_true rfl) dX1_takeOver_53 rfl (fun G9 h9 => ?_)
      rw [h9]
      refine aw_aload_n (q := 57) 0 dX1_takeOver_56 rfl rfl rfl ?_
      refine aw_aload_n (q := 58) 1 dX1_takeOver_57 rfl rfl rfl ?_
      refine g_mach_coilCount (q := 61) hj (v := (G j 13)) (((setG_ne (by omega)).trans ((setG_ne (by omega)).trans ((setG_ne (by omega)).trans ((setG_ne (by omega)).trans ((cpG_ne (by omega)).trans ((cpG_ne (by omega)).trans ((cpG_ne (by omega)).trans (cpG_ne (by omega)))))))))) wf_RX1_28 dX1_takeOver_58 rfl ?_
      refine p_mach_coilCount (q := 64) hi wf_RX1_28 dX1_takeOver_61 rfl ?_
      refine aw_aload_n (q := 65) 0 dX1_takeOver_64 rfl rfl rfl ?_
      refine aw_aload_n (q := 66) 1 dX1_takeOver_65 rfl rfl rfl ?_
      refine g_mach_hour (q := 69) hj (v := (G j 10)) ((setG_ne (by omega)).trans (((setG_ne (by omega)).trans ((setG_ne (by omega)).trans ((setG_ne (by omega)).trans ((setG_ne (by omega)).trans ((cpG_ne (by omega)).trans ((cpG_ne (by omega)).trans ((cpG_ne (by omega)).trans (cpG_ne (by omega))))))))))) wf_RX1_32 dX1_takeOver_66 rfl ?_
      refine p_mach_hour (q := 72) hi wf_RX1_32 dX1_takeOver_69 rfl ?_
      refine aw_aload_n (q := 73) 0 dX1_takeOver_72 rfl rfl rfl ?_
      refine aw_aload_n (q := 74) 1 dX1_takeOver_73 rfl rfl rfl ?_
      refine g_mach_fines (q := 77) hj (v := (G j 12)) ((setG_ne (by omega)).trans ((setG_ne (by omega)).trans (((setG_ne (by omega)).trans ((setG_ne (by omega)).trans ((setG_ne (by omega)).trans ((setG_ne (by omega)).trans ((cpG_ne (by omega)).trans ((cpG_ne (by omega)).trans ((cpG_ne (by omega)).trans (cpG_ne (by omega)))))))))))) wf_RX1_35 dX1_takeOver_74 rfl ?_
      refine p_mach_fines (q := 80) hi wf_RX1_35 dX1_takeOver_77 rfl ?_
      exact rt_v rfl (Nat.le_refl _) (Nat.le_refl _) (by
          obtain ⟨K, hK⟩ : ∃ K, K = cpG (cpG G i 15 (12 * c) j 15) i (0 + 0) 5 j (0 + 0) := ⟨_, rfl⟩
          rw [← hK]
          have kj : ∀ y, K j y = G j y := fun y => by rw [hK]; exact (cpG_ne (by omega)).trans (cpG_ne (by omega))
          have ks : ∀ y : Int, 0 ≤ y → y < 5 → K i y = G j y := fun y z0 z1 => by rw [hK]; exact (cpG_in (by omega)).trans ((cpG_ne (by omega)).trans (congrArg (G j) (by omega)))
          have kc : ∀ y : Int, 15 ≤ y → y < 15 + 12 * c → K i y = G j y := fun y z0 z1 => by rw [hK]; exact (cpG_ne (by omega)).trans ((cpG_in (by omega)).trans (congrArg (G j) (by omega)))
          have kx : ∀ x y, x ≠ i → K x y = G x y := fun x y z => by rw [hK]; exact (cpG_ne (by omega)).trans (cpG_ne (by omega))
          have ec : c = G j 13 := by omega
          unfold tillOver
          refine ⟨fun y z0 z1 => ?_, fun y z0 z1 => ?_, fun y z0 z1 => ?_, fun x y z => ?_⟩
          · rcases (by omega : y < 5 ∨ (5 ≤ y ∧ y < 9) ∨ y = 9 ∨ y = 10 ∨ y = 11 ∨ y = 12 ∨ y = 13 ∨ y = 14) with h | h | rfl | rfl | rfl | rfl | rfl | rfl
            · rw [setG_ne (by omega), setG_ne (by omega), setG_ne (by omega), setG_ne (by omega), setG_ne (by omega), setG_ne (by omega), setG_ne (by omega), cpG_ne (by omega), cpG_ne (by omega)]; exact ks y z0 h
            · rw [setG_ne (by omega), setG_ne (by omega), setG_ne (by omega), setG_ne (by omega), setG_ne (by omega), setG_ne (by omega), setG_ne (by omega), cpG_ne (by omega), cpG_in (by omega), kj]; exact congrArg (G j) (by omega)
            · rw [setG_ne (by omega), setG_ne (by omega), setG_ne (by omega), setG_ne (by omega), setG_ne (by omega), setG_ne (by omega), setG_same, kj]
            · rw [setG_ne (by omega), setG_same]
            · rw [setG_ne (by omega), setG_ne (by omega), setG_ne (by omega), setG_same, kj]
            · rw [setG_same]
            · rw [setG_ne (by omega), setG_ne (by omega), setG_same]
            · rw [setG_ne (by omega), setG_ne (by omega), setG_ne (by omega), setG_ne (by omega), setG_ne (by omega), setG_same, kj]
          · rw [setG_ne (by omega), setG_ne (by omega), setG_ne (by omega), setG_ne (by omega), setG_ne (by omega), setG_ne (by omega), setG_ne (by omega), cpG_ne (by omega), cpG_ne (by omega)]; exact kc y z0 (by omega)
          · by_cases h : y = 311
            · rw [h, setG_ne (by omega), setG_ne (by omega), setG_ne (by omega), setG_ne (by omega), setG_same, kj]
            · rw [setG_ne (by omega), setG_ne (by omega), setG_ne (by omega), setG_ne (by omega), setG_ne (by omega), setG_ne (by omega), setG_ne (by omega), cpG_in (by omega), cpG_ne (by omega), kj]; exact congrArg (G j) (by omega)
          · rw [setG_ne (by omega), setG_ne (by omega), setG_ne (by omega), setG_ne (by omega), setG_ne (by omega), setG_ne (by omega), setG_ne (by omega), cpG_ne (by omega), cpG_ne (by omega)]; exact kx x y z) dX1_takeOver_80
    · have hc8 : 0 ≤ c ∧ c < 8 := by omega
      refine aw_aload_n (q := 11) 0 dX1_takeOver_10 rfl rfl rfl ?_
      refine g_mach_coils (q := 14) hi wf_RX1_11 dX1_takeOver_11 rfl ?_
      refine aw_iload_n (q := 15) 2 dX1_takeOver_14 rfl rfl rfl ?_
      refine aw_coil (q := 16) hi hc8 dX1_takeOver_15 rfl ?_
      refine aw_aload_n (q := 17) 1 dX1_takeOver_16 rfl rfl rfl ?_
      refine g_mach_coils (q := 20) hj wf_RX1_11 dX1_takeOver_17 rfl ?_
      refine aw_iload_n (q := 21) 2 dX1_takeOver_20 rfl rfl rfl ?_
      refine aw_coil (q := 22) hj hc8 dX1_takeOver_21 rfl ?_
      refine cv_V (q := 25) (CC := "") (id := 17 * i + 9 + c) (As := [.ref (ad (17 * j + 9 + c))]) 1 ((by have := c_coil_takeOver (l := l) (T := T) (D := D) (C := C) (ad := ad) (cpG G i 15 (12 * c) j 15) hi hc8 hj hij (by rw [cpG_ne (by omega)]; exact hz c hc (by omega)); rw [show (15 : Int) + 12 * c = 15 + (12 * c) from rfl, cpG_more hij (by omega) (by omega) (show 12 * c + 12 = 12 * (c + 1) by omega)] at this; exact this)) (fun _ h => h) (by omega) (cell_coil ad C _ hi hc8) rfl wc_X0_takeOver wm_RX1_42 wi_X0_takeOver ws_X0_takeOver wn_X0 (by decide) rfl ⟨Nat.le_of_ble_eq_true rfl, Nat.le_of_ble_eq_true rfl⟩ ⟨Nat.le_of_ble_eq_true rfl, Nat.le_of_ble_eq_true rfl⟩ (Nat.le_of_ble_eq_true rfl) dX1_takeOver_22 rfl (fun G9 h9 => ?_)
      rw [h9]
      refine ae_iinc (q := 28) (lv2 := [(0, .ref (ad (17 * i))), (1, .ref (ad (17 * j))), (2, .int (iI (c + 1)))]) 2 [1, 2, 0] (c + 1) (by omega) dX1_takeOver_25 rfl rfl (by decide) rfl ?_
      refine aw_goto (q := 2) dX1_takeOver_28 (by decide) ?_
      exact ih (c + 1) (by omega) (by omega) (by omega)
set_option maxHeartbeats 4000000 in
set_option maxRecDepth 100000 in
theorem c_m_takeOver {l : Launch} {D : va_G} {C : Nat → ClassId} {T : Nat → Nat} {ad : Int → Nat} (G : GG) {i j : Int} (hi : 0 ≤ i ∧ i < 6) (hj : 0 ≤ j ∧ j < 6) (hij : i ≠ j) (h8 : 0 ≤ G j 13 ∧ G j 13 ≤ 8) (hz : ∀ d : Int, 0 ≤ d → d < G j 13 → (G j (15 + 12 * d + 11) = 0 ∨ G j (15 + 12 * d + 11) = 1)) : MC l yX1_takeOver cX1_takeOver 3 none 2 57 0 0 D (tyC C) T [.ref (ad (17 * i)), .ref (ad (17 * j))] (cw ad C G) (RV ad C (overP G i j)) := by
  refine mc_of (by decide +kernel) (Nat.le_of_ble_eq_true rfl) rfl ?_
  refine aw_iconst (q := 1) dX1_takeOver_0 rfl ?_
  refine aw_istore_n (q := 2) (lv2 := [(0, .ref (ad (17 * i))), (1, .ref (ad (17 * j))), (2, .int (iI 0))]) [1, 2, 0] dX1_takeOver_1 rfl rfl (by decide) rfl rfl ?_
  have hi9 := L_over (l := l) (D := D) (C := C) (T := T) (ad := ad) G hi hj hij h8 hz 60 0 (by omega) (by omega) (by omega)
  rw [show (12 : Int) * 0 = 0 from rfl, cpG_0] at hi9
  exact hi9
