def watchG (G : GG) (i c : Int) : GG := onR G i (rWatch (G i) c)
theorem okC_fineArgs {g : Row} {c : Int} (o : okC g c) : (0 ≤ g (15 + 12 * c + 2) ∧ g (15 + 12 * c + 2) ≤ 1000) ∧ (0 ≤ g (15 + 12 * c + 3) ∧ g (15 + 12 * c + 3) ≤ 1000) ∧ (0 ≤ g (15 + 12 * c + 4) ∧ g (15 + 12 * c + 4) ≤ 1000) ∧ (0 ≤ g (15 + 12 * c + 5) ∧ g (15 + 12 * c + 5) ≤ 1000) := by
  obtain ⟨a1, a2, a3, a4, a5, a6, -⟩ := o
  exact ⟨by omega, by omega, by omega, by omega⟩
abbrev fArgs (g : Row) (c : Int) : Prop := (0 ≤ g (15 + 12 * c + 2) ∧ g (15 + 12 * c + 2) ≤ 1000) ∧ (0 ≤ g (15 + 12 * c + 3) ∧ g (15 + 12 * c + 3) ≤ 1000) ∧ (0 ≤ g (15 + 12 * c + 4) ∧ g (15 + 12 * c + 4) ≤ 1000) ∧ (0 ≤ g (15 + 12 * c + 5) ∧ g (15 + 12 * c + 5) ≤ 1000)
theorem fArgs_up {g : Row} {c d v : Int} (o : fArgs g c) : fArgs (up g (15 + 12 * d + 9) v) c := by
  unfold fArgs
  rw [up_n (by omega), up_n (by omega), up_n (by omega), up_n (by omega)]
  exact o
theorem fArgs_fine {g : Row} {c d fi : Int} (h : c ≠ d) (o : fArgs g c) : fArgs (rFine g d fi) c := by
  unfold fArgs
  rw [rFine_ne (by omega) (by omega), rFine_ne (by omega) (by omega), rFine_ne (by omega) (by omega), rFine_ne (by omega) (by omega)]
  exact o
theorem rFine_4 {g : Row} {c fi : Int} (hc : 0 ≤ c) : rFine g c fi 4 = g 4 := rFine_ne (by omega) (by omega)
set_option maxHeartbeats 4000000 in
set_option maxRecDepth 100000 in
theorem c_m_watch {l : Launch} {D : va_G} {C : Nat → ClassId} {T : Nat → Nat} {ad : Int → Nat} (G : GG) {i c : Int} (hi : 0 ≤ i ∧ i < 6) (hc : 0 ≤ c ∧ c < 7) (oc : okC (G i) c) (on : okC (G i) (c + 1)) (hf : 0 ≤ G i 4 ∧ G i 4 ≤ 1000 ∧ G i 4 % 5 = 0) : MC l yX1_watch cX1_watch 3 none 2 57 0 0 D (tyC C) T [.ref (ad (17 * i)), .ref (ad (17 * i + 9 + c)), .ref (ad (17 * i + 9 + (c + 1)))] (cw ad C G) (RV ad C (fun G1 => G1 = watchG G i c)) := by
  refine mc_of (by decide +kernel) (Nat.le_of_ble_eq_true rfl) rfl ?_
  have hc8 : 0 ≤ c ∧ c < 8 := by omega
  have r9 : 0 ≤ G i (15 + 12 * c + 9) ∧ G i (15 + 12 * c + 9) ≤ 1 := oc.2.2.2.2.2.2.1
  have r11 := oc.2.2.2.2.2.2.2.2.1
  have s11 := on.2.2.2.2.2.2.2.2.1
  have k0 := oc.2.2.2.2.2.2.2.2.2.2.2.2
  have k1 := on.2.2.2.2.2.2.2.2.2.2.2.2
  refine aw_aload_n (q := 1) 1 dX1_watch_0 rfl rfl rfl ?_
  refine g_coil_kind (q := 4) hi hc8 (v := (G i (15 + 12 * c))) rfl wf_RX1_120 dX1_watch_1 rfl ?_
  refine aw_aload_n (q := 5) 2 dX1_watch_4 rfl rfl rfl ?_
  refine g_coil_kind (q := 8) hi (by omega) (v := (G i (15 + 12 * (c + 1)))) rfl wf_RX1_120 dX1_watch_5 rfl ?_
  refine aw_icmp_eq (q := 11) dX1_watch_8 rfl (t := 12) (by decide) (by omega) (by omega) (fun h1 => ?_) (fun h2 => ?_)
  · refine aw_aload_n (q := 13) 1 dX1_watch_12 rfl rfl rfl ?_
    refine aw_aload_n (q := 14) 1 dX1_watch_13 rfl rfl rfl ?_
    refine g_coil_hasRaised (q := 17) hi hc8 (v := (G i (15 + 12 * c + 11))) rfl wf_RX1_123 dX1_watch_14 rfl ?_
    refine aw_if_eq (q := 20) dX1_watch_17 rfl (t := 36) (by decide) (by omega) (fun h3 => ?_) (fun h4 => ?_)
    · refine aw_iconst (q := 37) dX1_watch_36 rfl ?_
      refine p_coil_commonRaises (q := 40) hi hc8 wf_RX1_127 dX1_watch_37 rfl ?_
      refine aw_aload_n (q := 41) 1 dX1_watch_40 rfl rfl rfl ?_
      refine g_coil_commonRaises (q := 44) hi hc8 (v := 0) (setG_same _ _ _ _) wf_RX1_127 dX1_watch_41 rfl ?_
      refine aw_iconst (q := 45) dX1_watch_44 rfl ?_
      refine aw_icmp_ne (q := 48) dX1_watch_45 rfl (t := 83) (by decide) (by omega) (by omega) (fun _ => ?_) (fun h => absurd h (by omega))
      exact rt_v rfl (Nat.le_refl _) (Nat.le_refl _) (by
          have ec : rCom (G i) c = 0 := by unfold rCom; first | (rw [if_pos ⟨by omega, by omega⟩]; done) | (rw [if_neg (by rintro ⟨z1, z2⟩; omega)])
          unfold watchG rWatch
          rw [if_pos (by omega), if_neg (by omega), ec, setG_row]) dX1_watch_83
    · refine aw_aload_n (q := 21) 2 dX1_watch_20 rfl rfl rfl ?_
      refine g_coil_hasRaised (q := 24) hi (by omega) (v := (G i (15 + 12 * (c + 1) + 11))) rfl wf_RX1_123 dX1_watch_21 rfl ?_
      refine aw_if_eq (q := 27) dX1_watch_24 rfl (t := 36) (by decide) (by omega) (fun h5 => ?_) (fun h6 => ?_)
      · refine aw_iconst (q := 37) dX1_watch_36 rfl ?_
        refine p_coil_commonRaises (q := 40) hi hc8 wf_RX1_127 dX1_watch_37 rfl ?_
        refine aw_aload_n (q := 41) 1 dX1_watch_40 rfl rfl rfl ?_
        refine g_coil_commonRaises (q := 44) hi hc8 (v := 0) (setG_same _ _ _ _) wf_RX1_127 dX1_watch_41 rfl ?_
        refine aw_iconst (q := 45) dX1_watch_44 rfl ?_
        refine aw_icmp_ne (q := 48) dX1_watch_45 rfl (t := 83) (by decide) (by omega) (by omega) (fun _ => ?_) (fun h => absurd h (by omega))
        exact rt_v rfl (Nat.le_refl _) (Nat.le_refl _) (by
            have ec : rCom (G i) c = 0 := by unfold rCom; first | (rw [if_pos ⟨by omega, by omega⟩]; done) | (rw [if_neg (by rintro ⟨z1, z2⟩; omega)])
            unfold watchG rWatch
            rw [if_pos (by omega), if_neg (by omega), ec, setG_row]) dX1_watch_83
      · refine aw_aload_n (q := 28) 1 dX1_watch_27 rfl rfl rfl ?_
        refine g_coil_commonRaises (q := 31) hi hc8 (v := (G i (15 + 12 * c + 9))) rfl wf_RX1_127 dX1_watch_28 rfl ?_
        refine aw_iconst (q := 32) dX1_watch_31 rfl ?_
        refine ae_iadd (q := 33) ((G i (15 + 12 * c + 9)) + 1) (by omega) dX1_watch_32 rfl ?_
        refine aw_goto (q := 37) dX1_watch_33 (by decide) ?_
        refine p_coil_commonRaises (q := 40) hi hc8 wf_RX1_127 dX1_watch_37 rfl ?_
        refine aw_aload_n (q := 41) 1 dX1_watch_40 rfl rfl rfl ?_
        refine g_coil_commonRaises (q := 44) hi hc8 (v := (G i (15 + 12 * c + 9)) + 1) (setG_same _ _ _ _) wf_RX1_127 dX1_watch_41 rfl ?_
        refine aw_iconst (q := 45) dX1_watch_44 rfl ?_
        refine aw_icmp_ne (q := 48) dX1_watch_45 rfl (t := 83) (by decide) (by omega) (by omega) (fun h7 => ?_) (fun h8 => ?_)
        · exact rt_v rfl (Nat.le_refl _) (Nat.le_refl _) (by
              have ec : rCom (G i) c = ((G i (15 + 12 * c + 9)) + 1) := by unfold rCom; first | (rw [if_pos ⟨by omega, by omega⟩]; done) | (rw [if_neg (by rintro ⟨z1, z2⟩; omega)])
              unfold watchG rWatch
              rw [if_pos (by omega), if_neg (by omega), ec, setG_row]) dX1_watch_83
        · refine aw_aload_n (q := 49) 1 dX1_watch_48 rfl rfl rfl ?_
          refine aw_aload_n (q := 50) 0 dX1_watch_49 rfl rfl rfl ?_
          refine g_mach_settings (q := 53) hi wf_RX1_17 dX1_watch_50 rfl ?_
          refine aw_iconst (q := 54) dX1_watch_53 rfl ?_
          refine aw_cial (q := 55) (v := (G i 4)) 4 (ar_sets ad C hi) (by omega) (by omega) (setG_ne (by omega)) dX1_watch_54 rfl ?_
          refine cv_V (q := 58) (CC := "") (id := 17 * i + 9 + c) (As := [.int (iI (G i 4))]) 1 ((by have := c_coil_payFine (l := l) (T := T) (D := D) (C := C) (ad := ad) (setG G i (15 + 12 * c + 9) ((G i (15 + 12 * c + 9)) + 1)) hi hc8 (fi := G i 4) (by omega) (by rw [setG_row, onR_at]; exact fArgs_up (okC_fineArgs oc)); rw [coilFine_row, setG_row, onR_at, onR_onR] at this; rw [setG_row]; exact this)) (fun _ h => h) (by omega) (cell_coil ad C _ hi hc8) rfl wc_X0_payFine wm_RX1_130 wi_X0_payFine ws_X0_payFine wn_X0 (by decide) rfl ⟨Nat.le_of_ble_eq_true rfl, Nat.le_of_ble_eq_true rfl⟩ ⟨Nat.le_of_ble_eq_true rfl, Nat.le_of_ble_eq_true rfl⟩ (Nat.le_of_ble_eq_true rfl) dX1_watch_55 rfl (fun G9 h9 => ?_)
          rw [h9]
          refine aw_aload_n (q := 59) 2 dX1_watch_58 rfl rfl rfl ?_
          refine aw_aload_n (q := 60) 0 dX1_watch_59 rfl rfl rfl ?_
          refine g_mach_settings (q := 63) hi wf_RX1_17 dX1_watch_60 rfl ?_
          refine aw_iconst (q := 64) dX1_watch_63 rfl ?_
          refine aw_cial (q := 65) (v := (G i 4)) 4 (ar_sets ad C hi) (by omega) (by omega) (((congrFun (onR_at _ _ _) _).trans ((rFine_ne (by omega) (by omega)).trans (up_n (by omega))))) dX1_watch_64 rfl ?_
          refine cv_V (q := 68) (CC := "") (id := 17 * i + 9 + (c + 1)) (As := [.int (iI (G i 4))]) 1 ((by have := c_coil_payFine (l := l) (T := T) (D := D) (C := C) (ad := ad) (onR G i (rFine (up (G i) (15 + 12 * c + 9) ((G i (15 + 12 * c + 9)) + 1)) c (G i 4))) hi (c := c + 1) (by omega) (fi := G i 4) (by omega) (by rw [onR_at]; exact fArgs_fine (by omega) (fArgs_up (okC_fineArgs on))); rw [coilFine_row, onR_at, onR_onR] at this; exact this)) (fun _ h => h) (by omega) (cell_coil ad C _ hi (by omega)) rfl wc_X0_payFine wm_RX1_130 wi_X0_payFine ws_X0_payFine wn_X0 (by decide) rfl ⟨Nat.le_of_ble_eq_true rfl, Nat.le_of_ble_eq_true rfl⟩ ⟨Nat.le_of_ble_eq_true rfl, Nat.le_of_ble_eq_true rfl⟩ (Nat.le_of_ble_eq_true rfl) dX1_watch_65 rfl (fun G9 h9 => ?_)
          rw [h9]
          refine aw_aload_n (q := 69) 1 dX1_watch_68 rfl rfl rfl ?_
          refine aw_iconst (q := 70) dX1_watch_69 rfl ?_
          refine p_coil_commonRaises (q := 73) hi hc8 wf_RX1_127 dX1_watch_70 rfl ?_
          refine aw_aload_n (q := 74) 0 dX1_watch_73 rfl rfl rfl ?_
          refine aw_dup (q := 75) dX1_watch_74 rfl rfl ?_
          refine g_mach_fines (q := 78) hi (v := (G i 12)) ((setG_ne (by omega)).trans (((congrFun (onR_at _ _ _) _).trans ((rFine_ne (by omega) (by omega)).trans ((rFine_ne (by omega) (by omega)).trans (up_n (by omega))))))) wf_RX1_35 dX1_watch_75 rfl ?_
          refine aw_iconst (q := 79) dX1_watch_78 rfl ?_
          refine ae_iadd (q := 80) ((G i 12) + 1) (by omega) dX1_watch_79 rfl ?_
          refine p_mach_fines (q := 83) hi wf_RX1_35 dX1_watch_80 rfl ?_
          exact rt_v rfl (Nat.le_refl _) (Nat.le_refl _) (by
              have ec : rCom (G i) c = G i (15 + 12 * c + 9) + 1 := by unfold rCom; rw [if_pos ⟨by omega, by omega⟩]
              unfold watchG rWatch
              rw [if_pos (by omega), if_pos (by omega), ec, setG_onR, setG_onR]) dX1_watch_83
  · exact rt_v rfl (Nat.le_refl _) (Nat.le_refl _) (by unfold watchG rWatch; rw [if_neg (by assumption), onR_id]) dX1_watch_11
