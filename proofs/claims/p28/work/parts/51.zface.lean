/-! the face where it does not throw -/
set_option maxHeartbeats 4000000 in
set_option maxRecDepth 100000 in
theorem z_set0 {l : Launch} {D : va_G} {C : Nat → ClassId} {T : Nat → Nat} {ad : Int → Nat} (hst : l.stackTraces = false) (G : GG) {v : Int} (o : okM G) (hv : -2147483648 ≤ v ∧ v ≤ 2147483647) (hok : (1 ≤ v ∧ v ≤ 100 ∧ v % 1 = 0)) : MC l yX5_set cX5_set 3 (some .int) 6 99 0 0 D (tyC C) T [.ref (ad 102), .int (iI 0), .int (iI v)] (cw ad C G) (RI ad C (fun r G1 => (1 ≤ v ∧ v ≤ 100 ∧ v % 1 = 0) ∧ ∃ H, saveP G H ∧ r = G 0 0 ∧ G1 = setG H 0 0 v)) := by
  refine mc_of (by decide +kernel) (Nat.le_of_ble_eq_true rfl) rfl ?_
  have m13 := o.1.2.1
  have m14 := o.2.1.1
  have m10 := o.2.2.2.1
  refine aw_iload_n (q := 1) 1 dX5_set_0 rfl rfl rfl ?_
  refine aw_iconst (q := 2) dX5_set_1 rfl ?_
  refine aw_iconst (q := 3) dX5_set_2 rfl ?_
  refine cs_I (q := 6) (As := [.int (iI 0), .int (iI 0), .int (iI 4)]) 3 (c_isBetween (T := T) (D := D) (ad := ad) G (by omega) (by omega) (by omega)) (fun _ h => h) wc_X5_isBetween wm_RX5_38 wt_X5_isBetween wn_X5 (by decide) rfl ⟨Nat.le_of_ble_eq_true rfl, Nat.le_of_ble_eq_true rfl⟩ ⟨Nat.le_of_ble_eq_true rfl, Nat.le_of_ble_eq_true rfl⟩ (Nat.le_of_ble_eq_true rfl) dX5_set_3 rfl (fun r9 G9 h9 => ?_)
  rw [h9.1, h9.2]
  refine aw_ifb_ne (q := 9) dX5_set_6 rfl (t := 19) (by decide) (fun h1 => ?_) (fun h2 => ?_)
  · refine aw_iload_n (q := 20) 2 dX5_set_19 rfl rfl rfl ?_
    refine ae_gets (q := 23) 4 (by decide) (fun _ h => h) wf_RX5_49 dX5_set_20 rfl ?_
    refine aw_iload_n (q := 24) 1 dX5_set_23 rfl rfl rfl ?_
    refine ae_ti (q := 25) 4 1 (by decide) (by decide) (fun _ h => h) (by decide) dX5_set_24 rfl ?_
    refine ae_gets (q := 28) 2 (by decide) (fun _ h => h) wf_RX5_52 dX5_set_25 rfl ?_
    refine aw_iload_n (q := 29) 1 dX5_set_28 rfl rfl rfl ?_
    refine ae_ti (q := 30) 2 1 (by decide) (by decide) (fun _ h => h) (by decide) dX5_set_29 rfl ?_
    refine ae_gets (q := 33) 3 (by decide) (fun _ h => h) wf_RX5_55 dX5_set_30 rfl ?_
    refine aw_iload_n (q := 34) 1 dX5_set_33 rfl rfl rfl ?_
    refine ae_ti (q := 35) 3 100 (by decide) (by decide) (fun _ h => h) (by decide) dX5_set_34 rfl ?_
    refine cs_I (q := 38) (As := [.int (iI v), .int (iI 1), .int (iI 1), .int (iI 100)]) 4 (c_isStep1 (T := T) (D := D) (ad := ad) G (by omega) (by omega) (by omega)) (fun _ h => h) wc_X5_isStepBetween wm_RX5_58 wt_X5_isStepBetween wn_X5 (by decide) rfl ⟨Nat.le_of_ble_eq_true rfl, Nat.le_of_ble_eq_true rfl⟩ ⟨Nat.le_of_ble_eq_true rfl, Nat.le_of_ble_eq_true rfl⟩ (Nat.le_of_ble_eq_true rfl) dX5_set_35 rfl (fun r9 G9 h9 => ?_)
    rw [h9.1, h9.2]
    refine aw_ifb_ne (q := 41) dX5_set_38 rfl (t := 51) (by decide) (fun h3 => ?_) (fun h4 => ?_)
    · refine aw_aload_n (q := 52) 0 dX5_set_51 rfl rfl rfl ?_
      refine cv_V (q := 55) (CC := "") (id := 102) (As := []) 0 (c_save (T := T) (D := D) (ad := ad) G o.2.2.2.2 o.1.2.1 (okC_z o)) (fun _ h => h) (by omega) (cell_102 ad C _) rfl wc_X5_save wm_RX5_64 wi_X5_save ws_X5_save wn_X5 (by decide) rfl ⟨Nat.le_of_ble_eq_true rfl, Nat.le_of_ble_eq_true rfl⟩ ⟨Nat.le_of_ble_eq_true rfl, Nat.le_of_ble_eq_true rfl⟩ (Nat.le_of_ble_eq_true rfl) dX5_set_52 rfl (fun H8 s8 => ?_)
      refine aw_aload_n (q := 56) 0 dX5_set_55 rfl rfl rfl ?_
      refine g_cp_machine (q := 59) wf_RX5_10 dX5_set_56 rfl ?_
      refine aw_iload_n (q := 60) 1 dX5_set_59 rfl rfl rfl ?_
      refine aw_iload_n (q := 61) 2 dX5_set_60 rfl rfl rfl ?_
      refine cv_I (q := 64) (CC := "") (id := 0) (As := [.int (iI 0), .int (iI v)]) 2 (c_m_changeSetting (T := T) (D := D) (ad := ad) H8 (i := 0) (by omega) (by omega)) (fun _ h => h) (by omega) (cell_mach ad C _ (i := 0) (by omega)) rfl wc_X1_changeSetting wm_RX5_67 wi_X1_changeSetting ws_X1_changeSetting wn_X1 (by decide) rfl ⟨Nat.le_of_ble_eq_true rfl, Nat.le_of_ble_eq_true rfl⟩ ⟨Nat.le_of_ble_eq_true rfl, Nat.le_of_ble_eq_true rfl⟩ (Nat.le_of_ble_eq_true rfl) dX5_set_61 rfl (fun r9 G9 h9 => ?_)
      rw [h9.1, h9.2]
      exact (rt_i rfl (Nat.zero_le _) (Nat.zero_le _) (⟨by omega, H8, s8, saveP_ne o.2.2.2.2 s8 (by omega), rfl⟩) dX5_set_64)
    · exact (by omega : False).elim
  · exact (by omega : False).elim
set_option maxHeartbeats 4000000 in
set_option maxRecDepth 100000 in
theorem z_set1 {l : Launch} {D : va_G} {C : Nat → ClassId} {T : Nat → Nat} {ad : Int → Nat} (hst : l.stackTraces = false) (G : GG) {v : Int} (o : okM G) (hv : -2147483648 ≤ v ∧ v ≤ 2147483647) (hok : (0 ≤ v ∧ v ≤ 100 ∧ v % 1 = 0)) : MC l yX5_set cX5_set 3 (some .int) 6 99 0 0 D (tyC C) T [.ref (ad 102), .int (iI 1), .int (iI v)] (cw ad C G) (RI ad C (fun r G1 => (0 ≤ v ∧ v ≤ 100 ∧ v % 1 = 0) ∧ ∃ H, saveP G H ∧ r = G 0 1 ∧ G1 = setG H 0 1 v)) := by
  refine mc_of (by decide +kernel) (Nat.le_of_ble_eq_true rfl) rfl ?_
  have m13 := o.1.2.1
  have m14 := o.2.1.1
  have m10 := o.2.2.2.1
  refine aw_iload_n (q := 1) 1 dX5_set_0 rfl rfl rfl ?_
  refine aw_iconst (q := 2) dX5_set_1 rfl ?_
  refine aw_iconst (q := 3) dX5_set_2 rfl ?_
  refine cs_I (q := 6) (As := [.int (iI 1), .int (iI 0), .int (iI 4)]) 3 (c_isBetween (T := T) (D := D) (ad := ad) G (by omega) (by omega) (by omega)) (fun _ h => h) wc_X5_isBetween wm_RX5_38 wt_X5_isBetween wn_X5 (by decide) rfl ⟨Nat.le_of_ble_eq_true rfl, Nat.le_of_ble_eq_true rfl⟩ ⟨Nat.le_of_ble_eq_true rfl, Nat.le_of_ble_eq_true rfl⟩ (Nat.le_of_ble_eq_true rfl) dX5_set_3 rfl (fun r9 G9 h9 => ?_)
  rw [h9.1, h9.2]
  refine aw_ifb_ne (q := 9) dX5_set_6 rfl (t := 19) (by decide) (fun h1 => ?_) (fun h2 => ?_)
  · refine aw_iload_n (q := 20) 2 dX5_set_19 rfl rfl rfl ?_
    refine ae_gets (q := 23) 4 (by decide) (fun _ h => h) wf_RX5_49 dX5_set_20 rfl ?_
    refine aw_iload_n (q := 24) 1 dX5_set_23 rfl rfl rfl ?_
    refine ae_ti (q := 25) 4 1 (by decide) (by decide) (fun _ h => h) (by decide) dX5_set_24 rfl ?_
    refine ae_gets (q := 28) 2 (by decide) (fun _ h => h) wf_RX5_52 dX5_set_25 rfl ?_
    refine aw_iload_n (q := 29) 1 dX5_set_28 rfl rfl rfl ?_
    refine ae_ti (q := 30) 2 0 (by decide) (by decide) (fun _ h => h) (by decide) dX5_set_29 rfl ?_
    refine ae_gets (q := 33) 3 (by decide) (fun _ h => h) wf_RX5_55 dX5_set_30 rfl ?_
    refine aw_iload_n (q := 34) 1 dX5_set_33 rfl rfl rfl ?_
    refine ae_ti (q := 35) 3 100 (by decide) (by decide) (fun _ h => h) (by decide) dX5_set_34 rfl ?_
    refine cs_I (q := 38) (As := [.int (iI v), .int (iI 1), .int (iI 0), .int (iI 100)]) 4 (c_isStep1 (T := T) (D := D) (ad := ad) G (by omega) (by omega) (by omega)) (fun _ h => h) wc_X5_isStepBetween wm_RX5_58 wt_X5_isStepBetween wn_X5 (by decide) rfl ⟨Nat.le_of_ble_eq_true rfl, Nat.le_of_ble_eq_true rfl⟩ ⟨Nat.le_of_ble_eq_true rfl, Nat.le_of_ble_eq_true rfl⟩ (Nat.le_of_ble_eq_true rfl) dX5_set_35 rfl (fun r9 G9 h9 => ?_)
    rw [h9.1, h9.2]
    refine aw_ifb_ne (q := 41) dX5_set_38 rfl (t := 51) (by decide) (fun h3 => ?_) (fun h4 => ?_)
    · refine aw_aload_n (q := 52) 0 dX5_set_51 rfl rfl rfl ?_
      refine cv_V (q := 55) (CC := "") (id := 102) (As := []) 0 (c_save (T := T) (D := D) (ad := ad) G o.2.2.2.2 o.1.2.1 (okC_z o)) (fun _ h => h) (by omega) (cell_102 ad C _) rfl wc_X5_save wm_RX5_64 wi_X5_save ws_X5_save wn_X5 (by decide) rfl ⟨Nat.le_of_ble_eq_true rfl, Nat.le_of_ble_eq_true rfl⟩ ⟨Nat.le_of_ble_eq_true rfl, Nat.le_of_ble_eq_true rfl⟩ (Nat.le_of_ble_eq_true rfl) dX5_set_52 rfl (fun H8 s8 => ?_)
      refine aw_aload_n (q := 56) 0 dX5_set_55 rfl rfl rfl ?_
      refine g_cp_machine (q := 59) wf_RX5_10 dX5_set_56 rfl ?_
      refine aw_iload_n (q := 60) 1 dX5_set_59 rfl rfl rfl ?_
      refine aw_iload_n (q := 61) 2 dX5_set_60 rfl rfl rfl ?_
      refine cv_I (q := 64) (CC := "") (id := 0) (As := [.int (iI 1), .int (iI v)]) 2 (c_m_changeSetting (T := T) (D := D) (ad := ad) H8 (i := 0) (by omega) (by omega)) (fun _ h => h) (by omega) (cell_mach ad C _ (i := 0) (by omega)) rfl wc_X1_changeSetting wm_RX5_67 wi_X1_changeSetting ws_X1_changeSetting wn_X1 (by decide) rfl ⟨Nat.le_of_ble_eq_true rfl, Nat.le_of_ble_eq_true rfl⟩ ⟨Nat.le_of_ble_eq_true rfl, Nat.le_of_ble_eq_true rfl⟩ (Nat.le_of_ble_eq_true rfl) dX5_set_61 rfl (fun r9 G9 h9 => ?_)
      rw [h9.1, h9.2]
      exact (rt_i rfl (Nat.zero_le _) (Nat.zero_le _) (⟨by omega, H8, s8, saveP_ne o.2.2.2.2 s8 (by omega), rfl⟩) dX5_set_64)
    · exact (by omega : False).elim
  · exact (by omega : False).elim
set_option maxHeartbeats 4000000 in
set_option maxRecDepth 100000 in
theorem z_set2 {l : Launch} {D : va_G} {C : Nat → ClassId} {T : Nat → Nat} {ad : Int → Nat} (hst : l.stackTraces = false) (G : GG) {v : Int} (o : okM G) (hv : -2147483648 ≤ v ∧ v ≤ 2147483647) (hok : (0 ≤ v ∧ v ≤ 100 ∧ v % 1 = 0)) : MC l yX5_set cX5_set 3 (some .int) 6 99 0 0 D (tyC C) T [.ref (ad 102), .int (iI 2), .int (iI v)] (cw ad C G) (RI ad C (fun r G1 => (0 ≤ v ∧ v ≤ 100 ∧ v % 1 = 0) ∧ ∃ H, saveP G H ∧ r = G 0 2 ∧ G1 = setG H 0 2 v)) := by
  refine mc_of (by decide +kernel) (Nat.le_of_ble_eq_true rfl) rfl ?_
  have m13 := o.1.2.1
  have m14 := o.2.1.1
  have m10 := o.2.2.2.1
  refine aw_iload_n (q := 1) 1 dX5_set_0 rfl rfl rfl ?_
  refine aw_iconst (q := 2) dX5_set_1 rfl ?_
  refine aw_iconst (q := 3) dX5_set_2 rfl ?_
  refine cs_I (q := 6) (As := [.int (iI 2), .int (iI 0), .int (iI 4)]) 3 (c_isBetween (T := T) (D := D) (ad := ad) G (by omega) (by omega) (by omega)) (fun _ h => h) wc_X5_isBetween wm_RX5_38 wt_X5_isBetween wn_X5 (by decide) rfl ⟨Nat.le_of_ble_eq_true rfl, Nat.le_of_ble_eq_true rfl⟩ ⟨Nat.le_of_ble_eq_true rfl, Nat.le_of_ble_eq_true rfl⟩ (Nat.le_of_ble_eq_true rfl) dX5_set_3 rfl (fun r9 G9 h9 => ?_)
  rw [h9.1, h9.2]
  refine aw_ifb_ne (q := 9) dX5_set_6 rfl (t := 19) (by decide) (fun h1 => ?_) (fun h2 => ?_)
  · refine aw_iload_n (q := 20) 2 dX5_set_19 rfl rfl rfl ?_
    refine ae_gets (q := 23) 4 (by decide) (fun _ h => h) wf_RX5_49 dX5_set_20 rfl ?_
    refine aw_iload_n (q := 24) 1 dX5_set_23 rfl rfl rfl ?_
    refine ae_ti (q := 25) 4 1 (by decide) (by decide) (fun _ h => h) (by decide) dX5_set_24 rfl ?_
    refine ae_gets (q := 28) 2 (by decide) (fun _ h => h) wf_RX5_52 dX5_set_25 rfl ?_
    refine aw_iload_n (q := 29) 1 dX5_set_28 rfl rfl rfl ?_
    refine ae_ti (q := 30) 2 0 (by decide) (by decide) (fun _ h => h) (by decide) dX5_set_29 rfl ?_
    refine ae_gets (q := 33) 3 (by decide) (fun _ h => h) wf_RX5_55 dX5_set_30 rfl ?_
    refine aw_iload_n (q := 34) 1 dX5_set_33 rfl rfl rfl ?_
    refine ae_ti (q := 35) 3 100 (by decide) (by decide) (fun _ h => h) (by decide) dX5_set_34 rfl ?_
    refine cs_I (q := 38) (As := [.int (iI v), .int (iI 1), .int (iI 0), .int (iI 100)]) 4 (c_isStep1 (T := T) (D := D) (ad := ad) G (by omega) (by omega) (by omega)) (fun _ h => h) wc_X5_isStepBetween wm_RX5_58 wt_X5_isStepBetween wn_X5 (by decide) rfl ⟨Nat.le_of_ble_eq_true rfl, Nat.le_of_ble_eq_true rfl⟩ ⟨Nat.le_of_ble_eq_true rfl, Nat.le_of_ble_eq_true rfl⟩ (Nat.le_of_ble_eq_true rfl) dX5_set_35 rfl (fun r9 G9 h9 => ?_)
    rw [h9.1, h9.2]
    refine aw_ifb_ne (q := 41) dX5_set_38 rfl (t := 51) (by decide) (fun h3 => ?_) (fun h4 => ?_)
    · refine aw_aload_n (q := 52) 0 dX5_set_51 rfl rfl rfl ?_
      refine cv_V (q := 55) (CC := "") (id := 102) (As := []) 0 (c_save (T := T) (D := D) (ad := ad) G o.2.2.2.2 o.1.2.1 (okC_z o)) (fun _ h => h) (by omega) (cell_102 ad C _) rfl wc_X5_save wm_RX5_64 wi_X5_save ws_X5_save wn_X5 (by decide) rfl ⟨Nat.le_of_ble_eq_true rfl, Nat.le_of_ble_eq_true rfl⟩ ⟨Nat.le_of_ble_eq_true rfl, Nat.le_of_ble_eq_true rfl⟩ (Nat.le_of_ble_eq_true rfl) dX5_set_52 rfl (fun H8 s8 => ?_)
      refine aw_aload_n (q := 56) 0 dX5_set_55 rfl rfl rfl ?_
      refine g_cp_machine (q := 59) wf_RX5_10 dX5_set_56 rfl ?_
      refine aw_iload_n (q := 60) 1 dX5_set_59 rfl rfl rfl ?_
      refine aw_iload_n (q := 61) 2 dX5_set_60 rfl rfl rfl ?_
      refine cv_I (q := 64) (CC := "") (id := 0) (As := [.int (iI 2), .int (iI v)]) 2 (c_m_changeSetting (T := T) (D := D) (ad := ad) H8 (i := 0) (by omega) (by omega)) (fun _ h => h) (by omega) (cell_mach ad C _ (i := 0) (by omega)) rfl wc_X1_changeSetting wm_RX5_67 wi_X1_changeSetting ws_X1_changeSetting wn_X1 (by decide) rfl ⟨Nat.le_of_ble_eq_true rfl, Nat.le_of_ble_eq_true rfl⟩ ⟨Nat.le_of_ble_eq_true rfl, Nat.le_of_ble_eq_true rfl⟩ (Nat.le_of_ble_eq_true rfl) dX5_set_61 rfl (fun r9 G9 h9 => ?_)
      rw [h9.1, h9.2]
      exact (rt_i rfl (Nat.zero_le _) (Nat.zero_le _) (⟨by omega, H8, s8, saveP_ne o.2.2.2.2 s8 (by omega), rfl⟩) dX5_set_64)
    · exact (by omega : False).elim
  · exact (by omega : False).elim
set_option maxHeartbeats 4000000 in
set_option maxRecDepth 100000 in
theorem z_set3 {l : Launch} {D : va_G} {C : Nat → ClassId} {T : Nat → Nat} {ad : Int → Nat} (hst : l.stackTraces = false) (G : GG) {v : Int} (o : okM G) (hv : -2147483648 ≤ v ∧ v ≤ 2147483647) (hok : (0 ≤ v ∧ v ≤ 1000 ∧ v % 1 = 0)) : MC l yX5_set cX5_set 3 (some .int) 6 99 0 0 D (tyC C) T [.ref (ad 102), .int (iI 3), .int (iI v)] (cw ad C G) (RI ad C (fun r G1 => (0 ≤ v ∧ v ≤ 1000 ∧ v % 1 = 0) ∧ ∃ H, saveP G H ∧ r = G 0 3 ∧ G1 = setG H 0 3 v)) := by
  refine mc_of (by decide +kernel) (Nat.le_of_ble_eq_true rfl) rfl ?_
  have m13 := o.1.2.1
  have m14 := o.2.1.1
  have m10 := o.2.2.2.1
  refine aw_iload_n (q := 1) 1 dX5_set_0 rfl rfl rfl ?_
  refine aw_iconst (q := 2) dX5_set_1 rfl ?_
  refine aw_iconst (q := 3) dX5_set_2 rfl ?_
  refine cs_I (q := 6) (As := [.int (iI 3), .int (iI 0), .int (iI 4)]) 3 (c_isBetween (T := T) (D := D) (ad := ad) G (by omega) (by omega) (by omega)) (fun _ h => h) wc_X5_isBetween wm_RX5_38 wt_X5_isBetween wn_X5 (by decide) rfl ⟨Nat.le_of_ble_eq_true rfl, Nat.le_of_ble_eq_true rfl⟩ ⟨Nat.le_of_ble_eq_true rfl, Nat.le_of_ble_eq_true rfl⟩ (Nat.le_of_ble_eq_true rfl) dX5_set_3 rfl (fun r9 G9 h9 => ?_)
  rw [h9.1, h9.2]
  refine aw_ifb_ne (q := 9) dX5_set_6 rfl (t := 19) (by decide) (fun h1 => ?_) (fun h2 => ?_)
  · refine aw_iload_n (q := 20) 2 dX5_set_19 rfl rfl rfl ?_
    refine ae_gets (q := 23) 4 (by decide) (fun _ h => h) wf_RX5_49 dX5_set_20 rfl ?_
    refine aw_iload_n (q := 24) 1 dX5_set_23 rfl rfl rfl ?_
    refine ae_ti (q := 25) 4 1 (by decide) (by decide) (fun _ h => h) (by decide) dX5_set_24 rfl ?_
    refine ae_gets (q := 28) 2 (by decide) (fun _ h => h) wf_RX5_52 dX5_set_25 rfl ?_
    refine aw_iload_n (q := 29) 1 dX5_set_28 rfl rfl rfl ?_
    refine ae_ti (q := 30) 2 0 (by decide) (by decide) (fun _ h => h) (by decide) dX5_set_29 rfl ?_
    refine ae_gets (q := 33) 3 (by decide) (fun _ h => h) wf_RX5_55 dX5_set_30 rfl ?_
    refine aw_iload_n (q := 34) 1 dX5_set_33 rfl rfl rfl ?_
    refine ae_ti (q := 35) 3 1000 (by decide) (by decide) (fun _ h => h) (by decide) dX5_set_34 rfl ?_
    refine cs_I (q := 38) (As := [.int (iI v), .int (iI 1), .int (iI 0), .int (iI 1000)]) 4 (c_isStep1 (T := T) (D := D) (ad := ad) G (by omega) (by omega) (by omega)) (fun _ h => h) wc_X5_isStepBetween wm_RX5_58 wt_X5_isStepBetween wn_X5 (by decide) rfl ⟨Nat.le_of_ble_eq_true rfl, Nat.le_of_ble_eq_true rfl⟩ ⟨Nat.le_of_ble_eq_true rfl, Nat.le_of_ble_eq_true rfl⟩ (Nat.le_of_ble_eq_true rfl) dX5_set_35 rfl (fun r9 G9 h9 => ?_)
    rw [h9.1, h9.2]
    refine aw_ifb_ne (q := 41) dX5_set_38 rfl (t := 51) (by decide) (fun h3 => ?_) (fun h4 => ?_)
    · refine aw_aload_n (q := 52) 0 dX5_set_51 rfl rfl rfl ?_
      refine cv_V (q := 55) (CC := "") (id := 102) (As := []) 0 (c_save (T := T) (D := D) (ad := ad) G o.2.2.2.2 o.1.2.1 (okC_z o)) (fun _ h => h) (by omega) (cell_102 ad C _) rfl wc_X5_save wm_RX5_64 wi_X5_save ws_X5_save wn_X5 (by decide) rfl ⟨Nat.le_of_ble_eq_true rfl, Nat.le_of_ble_eq_true rfl⟩ ⟨Nat.le_of_ble_eq_true rfl, Nat.le_of_ble_eq_true rfl⟩ (Nat.le_of_ble_eq_true rfl) dX5_set_52 rfl (fun H8 s8 => ?_)
      refine aw_aload_n (q := 56) 0 dX5_set_55 rfl rfl rfl ?_
      refine g_cp_machine (q := 59) wf_RX5_10 dX5_set_56 rfl ?_
      refine aw_iload_n (q := 60) 1 dX5_set_59 rfl rfl rfl ?_
      refine aw_iload_n (q := 61) 2 dX5_set_60 rfl rfl rfl ?_
      refine cv_I (q := 64) (CC := "") (id := 0) (As := [.int (iI 3), .int (iI v)]) 2 (c_m_changeSetting (T := T) (D := D) (ad := ad) H8 (i := 0) (by omega) (by omega)) (fun _ h => h) (by omega) (cell_mach ad C _ (i := 0) (by omega)) rfl wc_X1_changeSetting wm_RX5_67 wi_X1_changeSetting ws_X1_changeSetting wn_X1 (by decide) rfl ⟨Nat.le_of_ble_eq_true rfl, Nat.le_of_ble_eq_true rfl⟩ ⟨Nat.le_of_ble_eq_true rfl, Nat.le_of_ble_eq_true rfl⟩ (Nat.le_of_ble_eq_true rfl) dX5_set_61 rfl (fun r9 G9 h9 => ?_)
      rw [h9.1, h9.2]
      exact (rt_i rfl (Nat.zero_le _) (Nat.zero_le _) (⟨by omega, H8, s8, saveP_ne o.2.2.2.2 s8 (by omega), rfl⟩) dX5_set_64)
    · exact (by omega : False).elim
  · exact (by omega : False).elim
set_option maxHeartbeats 4000000 in
set_option maxRecDepth 100000 in
theorem z_set4 {l : Launch} {D : va_G} {C : Nat → ClassId} {T : Nat → Nat} {ad : Int → Nat} (hst : l.stackTraces = false) (G : GG) {v : Int} (o : okM G) (hv : -2147483648 ≤ v ∧ v ≤ 2147483647) (hok : (0 ≤ v ∧ v ≤ 100 ∧ v % 5 = 0)) : MC l yX5_set cX5_set 3 (some .int) 6 99 0 0 D (tyC C) T [.ref (ad 102), .int (iI 4), .int (iI v)] (cw ad C G) (RI ad C (fun r G1 => (0 ≤ v ∧ v ≤ 100 ∧ v % 5 = 0) ∧ ∃ H, saveP G H ∧ r = G 0 4 ∧ G1 = setG H 0 4 v)) := by
  refine mc_of (by decide +kernel) (Nat.le_of_ble_eq_true rfl) rfl ?_
  have m13 := o.1.2.1
  have m14 := o.2.1.1
  have m10 := o.2.2.2.1
  refine aw_iload_n (q := 1) 1 dX5_set_0 rfl rfl rfl ?_
  refine aw_iconst (q := 2) dX5_set_1 rfl ?_
  refine aw_iconst (q := 3) dX5_set_2 rfl ?_
  refine cs_I (q := 6) (As := [.int (iI 4), .int (iI 0), .int (iI 4)]) 3 (c_isBetween (T := T) (D := D) (ad := ad) G (by omega) (by omega) (by omega)) (fun _ h => h) wc_X5_isBetween wm_RX5_38 wt_X5_isBetween wn_X5 (by decide) rfl ⟨Nat.le_of_ble_eq_true rfl, Nat.le_of_ble_eq_true rfl⟩ ⟨Nat.le_of_ble_eq_true rfl, Nat.le_of_ble_eq_true rfl⟩ (Nat.le_of_ble_eq_true rfl) dX5_set_3 rfl (fun r9 G9 h9 => ?_)
  rw [h9.1, h9.2]
  refine aw_ifb_ne (q := 9) dX5_set_6 rfl (t := 19) (by decide) (fun h1 => ?_) (fun h2 => ?_)
  · refine aw_iload_n (q := 20) 2 dX5_set_19 rfl rfl rfl ?_
    refine ae_gets (q := 23) 4 (by decide) (fun _ h => h) wf_RX5_49 dX5_set_20 rfl ?_
    refine aw_iload_n (q := 24) 1 dX5_set_23 rfl rfl rfl ?_
    refine ae_ti (q := 25) 4 5 (by decide) (by decide) (fun _ h => h) (by decide) dX5_set_24 rfl ?_
    refine ae_gets (q := 28) 2 (by decide) (fun _ h => h) wf_RX5_52 dX5_set_25 rfl ?_
    refine aw_iload_n (q := 29) 1 dX5_set_28 rfl rfl rfl ?_
    refine ae_ti (q := 30) 2 0 (by decide) (by decide) (fun _ h => h) (by decide) dX5_set_29 rfl ?_
    refine ae_gets (q := 33) 3 (by decide) (fun _ h => h) wf_RX5_55 dX5_set_30 rfl ?_
    refine aw_iload_n (q := 34) 1 dX5_set_33 rfl rfl rfl ?_
    refine ae_ti (q := 35) 3 100 (by decide) (by decide) (fun _ h => h) (by decide) dX5_set_34 rfl ?_
    refine cs_I (q := 38) (As := [.int (iI v), .int (iI 5), .int (iI 0), .int (iI 100)]) 4 (c_isStep5 (T := T) (D := D) (ad := ad) G (by omega) (by omega) (by omega)) (fun _ h => h) wc_X5_isStepBetween wm_RX5_58 wt_X5_isStepBetween wn_X5 (by decide) rfl ⟨Nat.le_of_ble_eq_true rfl, Nat.le_of_ble_eq_true rfl⟩ ⟨Nat.le_of_ble_eq_true rfl, Nat.le_of_ble_eq_true rfl⟩ (Nat.le_of_ble_eq_true rfl) dX5_set_35 rfl (fun r9 G9 h9 => ?_)
    rw [h9.1, h9.2]
    refine aw_ifb_ne (q := 41) dX5_set_38 rfl (t := 51) (by decide) (fun h3 => ?_) (fun h4 => ?_)
    · refine aw_aload_n (q := 52) 0 dX5_set_51 rfl rfl rfl ?_
      refine cv_V (q := 55) (CC := "") (id := 102) (As := []) 0 (c_save (T := T) (D := D) (ad := ad) G o.2.2.2.2 o.1.2.1 (okC_z o)) (fun _ h => h) (by omega) (cell_102 ad C _) rfl wc_X5_save wm_RX5_64 wi_X5_save ws_X5_save wn_X5 (by decide) rfl ⟨Nat.le_of_ble_eq_true rfl, Nat.le_of_ble_eq_true rfl⟩ ⟨Nat.le_of_ble_eq_true rfl, Nat.le_of_ble_eq_true rfl⟩ (Nat.le_of_ble_eq_true rfl) dX5_set_52 rfl (fun H8 s8 => ?_)
      refine aw_aload_n (q := 56) 0 dX5_set_55 rfl rfl rfl ?_
      refine g_cp_machine (q := 59) wf_RX5_10 dX5_set_56 rfl ?_
      refine aw_iload_n (q := 60) 1 dX5_set_59 rfl rfl rfl ?_
      refine aw_iload_n (q := 61) 2 dX5_set_60 rfl rfl rfl ?_
      refine cv_I (q := 64) (CC := "") (id := 0) (As := [.int (iI 4), .int (iI v)]) 2 (c_m_changeSetting (T := T) (D := D) (ad := ad) H8 (i := 0) (by omega) (by omega)) (fun _ h => h) (by omega) (cell_mach ad C _ (i := 0) (by omega)) rfl wc_X1_changeSetting wm_RX5_67 wi_X1_changeSetting ws_X1_changeSetting wn_X1 (by decide) rfl ⟨Nat.le_of_ble_eq_true rfl, Nat.le_of_ble_eq_true rfl⟩ ⟨Nat.le_of_ble_eq_true rfl, Nat.le_of_ble_eq_true rfl⟩ (Nat.le_of_ble_eq_true rfl) dX5_set_61 rfl (fun r9 G9 h9 => ?_)
      rw [h9.1, h9.2]
      exact (rt_i rfl (Nat.zero_le _) (Nat.zero_le _) (⟨by omega, H8, s8, saveP_ne o.2.2.2.2 s8 (by omega), rfl⟩) dX5_set_64)
    · exact (by omega : False).elim
  · exact (by omega : False).elim
set_option maxHeartbeats 4000000 in
set_option maxRecDepth 100000 in
theorem z_addCoil {l : Launch} {D : va_G} {C : Nat → ClassId} {T : Nat → Nat} {ad : Int → Nat} (hst : l.stackTraces = false) (G : GG) {a b c : Int} (o : okM G) (ha : -2147483648 ≤ a ∧ a ≤ 2147483647) (hb : -2147483648 ≤ b ∧ b ≤ 2147483647) (hc : -2147483648 ≤ c ∧ c ≤ 2147483647) (hok : ((0 ≤ a ∧ a ≤ 5) ∧ (5 ≤ b ∧ b ≤ 500 ∧ b % 5 = 0) ∧ (b ≤ c ∧ c ≤ 500 ∧ c % 5 = 0) ∧ (G 0 13 < 8))) : MC l yX5_addCoil cX5_addCoil 4 (some .int) 6 99 0 0 D (tyC C) T [.ref (ad 102), .int (iI a), .int (iI b), .int (iI c)] (cw ad C G) (RI ad C (fun r G1 => ((0 ≤ a ∧ a ≤ 5) ∧ (5 ≤ b ∧ b ≤ 500 ∧ b % 5 = 0) ∧ (b ≤ c ∧ c ≤ 500 ∧ c % 5 = 0) ∧ (G 0 13 < 8)) ∧ ∃ H, saveP G H ∧ r = G 0 13 ∧ G1 = setG (coilBegin H 0 (G 0 13) a b c) 0 13 (G 0 13 + 1))) := by
  refine mc_of (by decide +kernel) (Nat.le_of_ble_eq_true rfl) rfl ?_
  have m13 := o.1.2.1
  have m14 := o.2.1.1
  have m10 := o.2.2.2.1
  refine aw_iload_n (q := 1) 1 dX5_addCoil_0 rfl rfl rfl ?_
  refine aw_iconst (q := 2) dX5_addCoil_1 rfl ?_
  refine aw_iconst (q := 3) dX5_addCoil_2 rfl ?_
  refine cs_I (q := 6) (As := [.int (iI a), .int (iI 0), .int (iI 5)]) 3 (c_isBetween (T := T) (D := D) (ad := ad) G (by omega) (by omega) (by omega)) (fun _ h => h) wc_X5_isBetween wm_RX5_38 wt_X5_isBetween wn_X5 (by decide) rfl ⟨Nat.le_of_ble_eq_true rfl, Nat.le_of_ble_eq_true rfl⟩ ⟨Nat.le_of_ble_eq_true rfl, Nat.le_of_ble_eq_true rfl⟩ (Nat.le_of_ble_eq_true rfl) dX5_addCoil_3 rfl (fun r9 G9 h9 => ?_)
  rw [h9.1, h9.2]
  refine aw_ifb_ne (q := 9) dX5_addCoil_6 rfl (t := 19) (by decide) (fun h1 => ?_) (fun h2 => ?_)
  · refine aw_iload_n (q := 20) 2 dX5_addCoil_19 rfl rfl rfl ?_
    refine aw_iconst (q := 21) dX5_addCoil_20 rfl ?_
    refine aw_iconst (q := 22) dX5_addCoil_21 rfl ?_
    refine aw_sipush (q := 25) dX5_addCoil_22 rfl (by decide) ?_
    refine cs_I (q := 28) (As := [.int (iI b), .int (iI 5), .int (iI 5), .int (iI 500)]) 4 (c_isStep5 (T := T) (D := D) (ad := ad) G (by omega) (by omega) (by omega)) (fun _ h => h) wc_X5_isStepBetween wm_RX5_58 wt_X5_isStepBetween wn_X5 (by decide) rfl ⟨Nat.le_of_ble_eq_true rfl, Nat.le_of_ble_eq_true rfl⟩ ⟨Nat.le_of_ble_eq_true rfl, Nat.le_of_ble_eq_true rfl⟩ (Nat.le_of_ble_eq_true rfl) dX5_addCoil_25 rfl (fun r9 G9 h9 => ?_)
    rw [h9.1, h9.2]
    refine aw_ifb_ne (q := 31) dX5_addCoil_28 rfl (t := 41) (by decide) (fun h3 => ?_) (fun h4 => ?_)
    · refine aw_iload_n (q := 42) 3 dX5_addCoil_41 rfl rfl rfl ?_
      refine aw_iconst (q := 43) dX5_addCoil_42 rfl ?_
      refine aw_iload_n (q := 44) 2 dX5_addCoil_43 rfl rfl rfl ?_
      refine aw_sipush (q := 47) dX5_addCoil_44 rfl (by decide) ?_
      refine cs_I (q := 50) (As := [.int (iI c), .int (iI 5), .int (iI b), .int (iI 500)]) 4 (c_isStep5 (T := T) (D := D) (ad := ad) G (by omega) (by omega) (by omega)) (fun _ h => h) wc_X5_isStepBetween wm_RX5_58 wt_X5_isStepBetween wn_X5 (by decide) rfl ⟨Nat.le_of_ble_eq_true rfl, Nat.le_of_ble_eq_true rfl⟩ ⟨Nat.le_of_ble_eq_true rfl, Nat.le_of_ble_eq_true rfl⟩ (Nat.le_of_ble_eq_true rfl) dX5_addCoil_47 rfl (fun r9 G9 h9 => ?_)
      rw [h9.1, h9.2]
      refine aw_ifb_ne (q := 53) dX5_addCoil_50 rfl (t := 63) (by decide) (fun h5 => ?_) (fun h6 => ?_)
      · refine aw_aload_n (q := 64) 0 dX5_addCoil_63 rfl rfl rfl ?_
        refine g_cp_machine (q := 67) wf_RX5_10 dX5_addCoil_64 rfl ?_
        refine cv_I (q := 70) (CC := "") (id := 0) (As := []) 0 (c_m_hasRoomForCoil (T := T) (D := D) (ad := ad) G (i := 0) (by omega) m13) (fun _ h => h) (by omega) (cell_mach ad C _ (i := 0) (by omega)) rfl wc_X1_hasRoomForCoil wm_RX5_77 wi_X1_hasRoomForCoil ws_X1_hasRoomForCoil wn_X1 (by decide) rfl ⟨Nat.le_of_ble_eq_true rfl, Nat.le_of_ble_eq_true rfl⟩ ⟨Nat.le_of_ble_eq_true rfl, Nat.le_of_ble_eq_true rfl⟩ (Nat.le_of_ble_eq_true rfl) dX5_addCoil_67 rfl (fun r9 G9 h9 => ?_)
        rw [h9.1, h9.2]
        refine aw_ifb_ne (q := 73) dX5_addCoil_70 rfl (t := 83) (by decide) (fun h7 => ?_) (fun h8 => ?_)
        · refine aw_aload_n (q := 84) 0 dX5_addCoil_83 rfl rfl rfl ?_
          refine cv_V (q := 87) (CC := "") (id := 102) (As := []) 0 (c_save (T := T) (D := D) (ad := ad) G o.2.2.2.2 o.1.2.1 (okC_z o)) (fun _ h => h) (by omega) (cell_102 ad C _) rfl wc_X5_save wm_RX5_64 wi_X5_save ws_X5_save wn_X5 (by decide) rfl ⟨Nat.le_of_ble_eq_true rfl, Nat.le_of_ble_eq_true rfl⟩ ⟨Nat.le_of_ble_eq_true rfl, Nat.le_of_ble_eq_true rfl⟩ (Nat.le_of_ble_eq_true rfl) dX5_addCoil_84 rfl (fun H8 s8 => ?_)
          refine aw_aload_n (q := 88) 0 dX5_addCoil_87 rfl rfl rfl ?_
          refine g_cp_machine (q := 91) wf_RX5_10 dX5_addCoil_88 rfl ?_
          refine aw_iload_n (q := 92) 1 dX5_addCoil_91 rfl rfl rfl ?_
          refine aw_iload_n (q := 93) 2 dX5_addCoil_92 rfl rfl rfl ?_
          refine aw_iload_n (q := 94) 3 dX5_addCoil_93 rfl rfl rfl ?_
          refine cv_I (q := 97) (CC := "") (id := 0) (As := [.int (iI a), .int (iI b), .int (iI c)]) 3 (c_m_newCoil (T := T) (D := D) (ad := ad) H8 (i := 0) (by omega) (by rw [saveP_ne o.2.2.2.2 s8 (by omega)]; omega)) (fun _ h => h) (by omega) (cell_mach ad C _ (i := 0) (by omega)) rfl wc_X1_newCoil wm_RX5_86 wi_X1_newCoil ws_X1_newCoil wn_X1 (by decide) rfl ⟨Nat.le_of_ble_eq_true rfl, Nat.le_of_ble_eq_true rfl⟩ ⟨Nat.le_of_ble_eq_true rfl, Nat.le_of_ble_eq_true rfl⟩ (Nat.le_of_ble_eq_true rfl) dX5_addCoil_94 rfl (fun r9 G9 h9 => ?_)
          rw [h9.1, h9.2]
          exact (rt_i rfl (Nat.zero_le _) (Nat.zero_le _) (⟨⟨by omega, by omega, by omega, by omega⟩, H8, s8, saveP_ne o.2.2.2.2 s8 (by omega), by rw [show H8 0 13 = G 0 13 from saveP_ne o.2.2.2.2 s8 (by omega)]⟩) dX5_addCoil_97)
        · exact (by omega : False).elim
      · exact (by omega : False).elim
    · exact (by omega : False).elim
  · exact (by omega : False).elim
set_option maxHeartbeats 4000000 in
set_option maxRecDepth 100000 in
theorem z_look {l : Launch} {D : va_G} {C : Nat → ClassId} {T : Nat → Nat} {ad : Int → Nat} (hst : l.stackTraces = false) (G : GG) {c : Int} (o : okM G) (hc : -2147483648 ≤ c ∧ c ≤ 2147483647) (hok : (0 ≤ c ∧ c < G 0 13)) : MC l yX5_look cX5_look 2 (some .int) 6 99 0 0 D (tyC C) T [.ref (ad 102), .int (iI c)] (cw ad C G) (RI ad C (fun r G1 => (0 ≤ c ∧ c < G 0 13) ∧ ∃ H, saveP G H ∧ r = G 0 (15 + 12 * c + 2) ∧ G1 = setG H 0 (15 + 12 * c + 10) (faddH (G 0 (15 + 12 * c + 10))))) := by
  refine mc_of (by decide +kernel) (Nat.le_of_ble_eq_true rfl) rfl ?_
  have m13 := o.1.2.1
  have m14 := o.2.1.1
  have m10 := o.2.2.2.1
  refine aw_aload_n (q := 1) 0 dX5_look_0 rfl rfl rfl ?_
  refine g_cp_machine (q := 4) wf_RX5_10 dX5_look_1 rfl ?_
  refine aw_iload_n (q := 5) 1 dX5_look_4 rfl rfl rfl ?_
  refine cv_I (q := 8) (CC := "") (id := 0) (As := [.int (iI c)]) 1 (c_m_hasCoil (T := T) (D := D) (ad := ad) G (i := 0) (by omega) (by omega) o.1.2.1) (fun _ h => h) (by omega) (cell_mach ad C _ (i := 0) (by omega)) rfl wc_X1_hasCoil wm_RX5_90 wi_X1_hasCoil ws_X1_hasCoil wn_X1 (by decide) rfl ⟨Nat.le_of_ble_eq_true rfl, Nat.le_of_ble_eq_true rfl⟩ ⟨Nat.le_of_ble_eq_true rfl, Nat.le_of_ble_eq_true rfl⟩ (Nat.le_of_ble_eq_true rfl) dX5_look_5 rfl (fun r9 G9 h9 => ?_)
  rw [h9.1, h9.2]
  refine aw_ifb_ne (q := 11) dX5_look_8 rfl (t := 21) (by decide) (fun h1 => ?_) (fun h2 => ?_)
  · refine aw_aload_n (q := 22) 0 dX5_look_21 rfl rfl rfl ?_
    refine cv_V (q := 25) (CC := "") (id := 102) (As := []) 0 (c_save (T := T) (D := D) (ad := ad) G o.2.2.2.2 o.1.2.1 (okC_z o)) (fun _ h => h) (by omega) (cell_102 ad C _) rfl wc_X5_save wm_RX5_64 wi_X5_save ws_X5_save wn_X5 (by decide) rfl ⟨Nat.le_of_ble_eq_true rfl, Nat.le_of_ble_eq_true rfl⟩ ⟨Nat.le_of_ble_eq_true rfl, Nat.le_of_ble_eq_true rfl⟩ (Nat.le_of_ble_eq_true rfl) dX5_look_22 rfl (fun H8 s8 => ?_)
    refine aw_aload_n (q := 26) 0 dX5_look_25 rfl rfl rfl ?_
    refine g_cp_machine (q := 29) wf_RX5_10 dX5_look_26 rfl ?_
    refine aw_iload_n (q := 30) 1 dX5_look_29 rfl rfl rfl ?_
    refine cv_I (q := 33) (CC := "") (id := 0) (As := [.int (iI c)]) 1 (c_m_lookAt (T := T) (D := D) (ad := ad) H8 (i := 0) (by omega) (by omega) (by rw [saveP_ne o.2.2.2.2 s8 (by omega)]; exact (fw_addH (o.1.2.2 c (by omega) (by omega)).2.2.2.2.2.2.2.1).1)) (fun _ h => h) (by omega) (cell_mach ad C _ (i := 0) (by omega)) rfl wc_X1_lookAt wm_RX5_136 wi_X1_lookAt ws_X1_lookAt wn_X1 (by decide) rfl ⟨Nat.le_of_ble_eq_true rfl, Nat.le_of_ble_eq_true rfl⟩ ⟨Nat.le_of_ble_eq_true rfl, Nat.le_of_ble_eq_true rfl⟩ (Nat.le_of_ble_eq_true rfl) dX5_look_30 rfl (fun r9 G9 h9 => ?_)
    rw [h9.1, h9.2]
    exact (rt_i rfl (Nat.zero_le _) (Nat.zero_le _) (⟨⟨by omega, by omega⟩, H8, s8, saveP_ne o.2.2.2.2 s8 (by omega), by rw [show H8 0 (15 + 12 * c + 10) = G 0 (15 + 12 * c + 10) from saveP_ne o.2.2.2.2 s8 (by omega)]⟩) dX5_look_33)
  · exact (by omega : False).elim
set_option maxHeartbeats 4000000 in
set_option maxRecDepth 100000 in
theorem z_pass {l : Launch} {D : va_G} {C : Nat → ClassId} {T : Nat → Nat} {ad : Int → Nat} (hst : l.stackTraces = false) (G : GG) {h : Int} (o : okM G) (hh : -2147483648 ≤ h ∧ h ≤ 2147483647) (hok : ((1 ≤ h ∧ h ≤ 48) ∧ (G 0 10 + h ≤ 100000))) : MC l yX5_pass cX5_pass 2 (some .int) 6 123 0 0 D (tyC C) T [.ref (ad 102), .int (iI h)] (cw ad C G) (RI ad C (fun r G1 => ((1 ≤ h ∧ h ≤ 48) ∧ (G 0 10 + h ≤ 100000)) ∧ ∃ H, saveP G H ∧ r = hoursR (G 0) h.toNat 12 - G 0 12 ∧ G1 = onR H 0 (hoursR (G 0) h.toNat))) := by
  refine mc_of (by decide +kernel) (Nat.le_of_ble_eq_true rfl) rfl ?_
  have m13 := o.1.2.1
  have m14 := o.2.1.1
  have m10 := o.2.2.2.1
  refine aw_iload_n (q := 1) 1 dX5_pass_0 rfl rfl rfl ?_
  refine aw_iconst (q := 2) dX5_pass_1 rfl ?_
  refine aw_bipush (q := 4) dX5_pass_2 rfl (by decide) ?_
  refine cs_I (q := 7) (As := [.int (iI h), .int (iI 1), .int (iI 48)]) 3 (c_isBetween (T := T) (D := D) (ad := ad) G (by omega) (by omega) (by omega)) (fun _ h => h) wc_X5_isBetween wm_RX5_38 wt_X5_isBetween wn_X5 (by decide) rfl ⟨Nat.le_of_ble_eq_true rfl, Nat.le_of_ble_eq_true rfl⟩ ⟨Nat.le_of_ble_eq_true rfl, Nat.le_of_ble_eq_true rfl⟩ (Nat.le_of_ble_eq_true rfl) dX5_pass_4 rfl (fun r9 G9 h9 => ?_)
  rw [h9.1, h9.2]
  refine aw_ifb_ne (q := 10) dX5_pass_7 rfl (t := 20) (by decide) (fun h1 => ?_) (fun h2 => ?_)
  · refine aw_aload_n (q := 21) 0 dX5_pass_20 rfl rfl rfl ?_
    refine g_cp_machine (q := 24) wf_RX5_10 dX5_pass_21 rfl ?_
    refine aw_iload_n (q := 25) 1 dX5_pass_24 rfl rfl rfl ?_
    refine cv_I (q := 28) (CC := "") (id := 0) (As := [.int (iI h)]) 1 (c_m_hasTimeFor (T := T) (D := D) (ad := ad) G (i := 0) (by omega) (by omega) (by omega)) (fun _ h => h) (by omega) (cell_mach ad C _ (i := 0) (by omega)) rfl wc_X1_hasTimeFor wm_RX5_142 wi_X1_hasTimeFor ws_X1_hasTimeFor wn_X1 (by decide) rfl ⟨Nat.le_of_ble_eq_true rfl, Nat.le_of_ble_eq_true rfl⟩ ⟨Nat.le_of_ble_eq_true rfl, Nat.le_of_ble_eq_true rfl⟩ (Nat.le_of_ble_eq_true rfl) dX5_pass_25 rfl (fun r9 G9 h9 => ?_)
    rw [h9.1, h9.2]
    refine aw_ifb_ne (q := 31) dX5_pass_28 rfl (t := 41) (by decide) (fun h3 => ?_) (fun h4 => ?_)
    · refine aw_aload_n (q := 42) 0 dX5_pass_41 rfl rfl rfl ?_
      refine cv_V (q := 45) (CC := "") (id := 102) (As := []) 0 (c_save (T := T) (D := D) (ad := ad) G o.2.2.2.2 o.1.2.1 (okC_z o)) (fun _ h => h) (by omega) (cell_102 ad C _) rfl wc_X5_save wm_RX5_64 wi_X5_save ws_X5_save wn_X5 (by decide) rfl ⟨Nat.le_of_ble_eq_true rfl, Nat.le_of_ble_eq_true rfl⟩ ⟨Nat.le_of_ble_eq_true rfl, Nat.le_of_ble_eq_true rfl⟩ (Nat.le_of_ble_eq_true rfl) dX5_pass_42 rfl (fun H8 s8 => ?_)
      refine aw_aload_n (q := 46) 0 dX5_pass_45 rfl rfl rfl ?_
      refine g_cp_machine (q := 49) wf_RX5_10 dX5_pass_46 rfl ?_
      refine aw_iload_n (q := 50) 1 dX5_pass_49 rfl rfl rfl ?_
      refine cv_I (q := 53) (CC := "") (id := 0) (As := [.int (iI h)]) 1 (c_m_passHours (T := T) (D := D) (ad := ad) H8 (i := 0) (by omega) (by rw [saveP_row o.2.2.2.2 s8]; exact o.1) (by omega)) (fun _ h => h) (by omega) (cell_mach ad C _ (i := 0) (by omega)) rfl wc_X1_passHours wm_RX5_147 wi_X1_passHours ws_X1_passHours wn_X1 (by decide) rfl ⟨Nat.le_of_ble_eq_true rfl, Nat.le_of_ble_eq_true rfl⟩ ⟨Nat.le_of_ble_eq_true rfl, Nat.le_of_ble_eq_true rfl⟩ (Nat.le_of_ble_eq_true rfl) dX5_pass_50 rfl (fun r9 G9 h9 => ?_)
      exact (rt_i rfl (Nat.zero_le _) (Nat.zero_le _) (⟨⟨by omega, by omega⟩, H8, s8, h9.1.trans (by rw [saveP_row o.2.2.2.2 s8]), h9.2.trans (by rw [saveP_row o.2.2.2.2 s8])⟩) dX5_pass_53)
    · exact (by omega : False).elim
  · exact (by omega : False).elim
set_option maxHeartbeats 4000000 in
set_option maxRecDepth 100000 in
theorem z_coilV {l : Launch} {D : va_G} {C : Nat → ClassId} {T : Nat → Nat} {ad : Int → Nat} (hst : l.stackTraces = false) (G : GG) {c k : Int} (o : okM G) (hc : -2147483648 ≤ c ∧ c ≤ 2147483647) (hk : -2147483648 ≤ k ∧ k ≤ 2147483647) (hok : ((0 ≤ c ∧ c < G 0 13) ∧ (0 ≤ k ∧ k ≤ 9))) : MC l yX5_coil cX5_coil 3 (some .int) 6 95 0 0 D (tyC C) T [.ref (ad 102), .int (iI c), .int (iI k)] (cw ad C G) (RI ad C (fun r G1 => ((0 ≤ c ∧ c < G 0 13) ∧ (0 ≤ k ∧ k ≤ 9)) ∧ r = G 0 (15 + 12 * c + k) ∧ G1 = G)) := by
  refine mc_of (by decide +kernel) (Nat.le_of_ble_eq_true rfl) rfl ?_
  have m13 := o.1.2.1
  have m14 := o.2.1.1
  have m10 := o.2.2.2.1
  refine aw_aload_n (q := 1) 0 dX5_coil_0 rfl rfl rfl ?_
  refine g_cp_machine (q := 4) wf_RX5_10 dX5_coil_1 rfl ?_
  refine aw_iload_n (q := 5) 1 dX5_coil_4 rfl rfl rfl ?_
  refine cv_I (q := 8) (CC := "") (id := 0) (As := [.int (iI c)]) 1 (c_m_hasCoil (T := T) (D := D) (ad := ad) G (i := 0) (by omega) (by omega) o.1.2.1) (fun _ h => h) (by omega) (cell_mach ad C _ (i := 0) (by omega)) rfl wc_X1_hasCoil wm_RX5_90 wi_X1_hasCoil ws_X1_hasCoil wn_X1 (by decide) rfl ⟨Nat.le_of_ble_eq_true rfl, Nat.le_of_ble_eq_true rfl⟩ ⟨Nat.le_of_ble_eq_true rfl, Nat.le_of_ble_eq_true rfl⟩ (Nat.le_of_ble_eq_true rfl) dX5_coil_5 rfl (fun r9 G9 h9 => ?_)
  rw [h9.1, h9.2]
  refine aw_ifb_ne (q := 11) dX5_coil_8 rfl (t := 21) (by decide) (fun h1 => ?_) (fun h2 => ?_)
  · refine aw_iload_n (q := 22) 2 dX5_coil_21 rfl rfl rfl ?_
    refine aw_iconst (q := 23) dX5_coil_22 rfl ?_
    refine aw_bipush (q := 25) dX5_coil_23 rfl (by decide) ?_
    refine cs_I (q := 28) (As := [.int (iI k), .int (iI 0), .int (iI 9)]) 3 (c_isBetween (T := T) (D := D) (ad := ad) G (by omega) (by omega) (by omega)) (fun _ h => h) wc_X5_isBetween wm_RX5_38 wt_X5_isBetween wn_X5 (by decide) rfl ⟨Nat.le_of_ble_eq_true rfl, Nat.le_of_ble_eq_true rfl⟩ ⟨Nat.le_of_ble_eq_true rfl, Nat.le_of_ble_eq_true rfl⟩ (Nat.le_of_ble_eq_true rfl) dX5_coil_25 rfl (fun r9 G9 h9 => ?_)
    rw [h9.1, h9.2]
    refine aw_ifb_ne (q := 31) dX5_coil_28 rfl (t := 41) (by decide) (fun h3 => ?_) (fun h4 => ?_)
    · refine aw_aload_n (q := 42) 0 dX5_coil_41 rfl rfl rfl ?_
      refine g_cp_machine (q := 45) wf_RX5_10 dX5_coil_42 rfl ?_
      refine g_mach_coils (q := 48) (i := 0) (by omega) wf_RX5_156 dX5_coil_45 rfl ?_
      refine aw_iload_n (q := 49) 1 dX5_coil_48 rfl rfl rfl ?_
      refine aw_coil (q := 50) (i := 0) (by omega) (by omega) dX5_coil_49 rfl ?_
      refine aw_iload_n (q := 51) 2 dX5_coil_50 rfl rfl rfl ?_
      refine cv_I (q := 54) (CC := "") (id := 17 * 0 + 9 + c) (As := [.int (iI k)]) 1 (c_coil_fact (T := T) (D := D) (ad := ad) G (i := 0) (by omega) (by omega) (by omega)) (fun _ h => h) (by omega) (cell_coil ad C _ (i := 0) (c := c) (by omega) (by omega)) rfl wc_X0_fact wm_RX5_160 wi_X0_fact ws_X0_fact wn_X0 (by decide) rfl ⟨Nat.le_of_ble_eq_true rfl, Nat.le_of_ble_eq_true rfl⟩ ⟨Nat.le_of_ble_eq_true rfl, Nat.le_of_ble_eq_true rfl⟩ (Nat.le_of_ble_eq_true rfl) dX5_coil_51 rfl (fun r9 G9 h9 => ?_)
      rw [h9.1, h9.2]
      exact (rt_i rfl (Nat.zero_le _) (Nat.zero_le _) (⟨⟨by omega, by omega⟩, rfl, rfl⟩) dX5_coil_54)
    · exact (by omega : False).elim
  · exact (by omega : False).elim
set_option maxHeartbeats 4000000 in
set_option maxRecDepth 100000 in
theorem z_demand {l : Launch} {D : va_G} {C : Nat → ClassId} {T : Nat → Nat} {ad : Int → Nat} (hst : l.stackTraces = false) (G : GG) {c : Int} (o : okM G) (hc : -2147483648 ≤ c ∧ c ≤ 2147483647) (hok : (0 ≤ c ∧ c < G 0 13)) : MC l yX5_demand cX5_demand 2 (some .float) 6 95 0 0 D (tyC C) T [.ref (ad 102), .int (iI c)] (cw ad C G) (RF ad C (fun r G1 => (0 ≤ c ∧ c < G 0 13) ∧ r = fB (G 0 (15 + 12 * c + 10)) ∧ G1 = G)) := by
  refine mc_of (by decide +kernel) (Nat.le_of_ble_eq_true rfl) rfl ?_
  have m13 := o.1.2.1
  have m14 := o.2.1.1
  have m10 := o.2.2.2.1
  refine aw_aload_n (q := 1) 0 dX5_demand_0 rfl rfl rfl ?_
  refine g_cp_machine (q := 4) wf_RX5_10 dX5_demand_1 rfl ?_
  refine aw_iload_n (q := 5) 1 dX5_demand_4 rfl rfl rfl ?_
  refine cv_I (q := 8) (CC := "") (id := 0) (As := [.int (iI c)]) 1 (c_m_hasCoil (T := T) (D := D) (ad := ad) G (i := 0) (by omega) (by omega) o.1.2.1) (fun _ h => h) (by omega) (cell_mach ad C _ (i := 0) (by omega)) rfl wc_X1_hasCoil wm_RX5_90 wi_X1_hasCoil ws_X1_hasCoil wn_X1 (by decide) rfl ⟨Nat.le_of_ble_eq_true rfl, Nat.le_of_ble_eq_true rfl⟩ ⟨Nat.le_of_ble_eq_true rfl, Nat.le_of_ble_eq_true rfl⟩ (Nat.le_of_ble_eq_true rfl) dX5_demand_5 rfl (fun r9 G9 h9 => ?_)
  rw [h9.1, h9.2]
  refine aw_ifb_ne (q := 11) dX5_demand_8 rfl (t := 21) (by decide) (fun h1 => ?_) (fun h2 => ?_)
  · refine aw_aload_n (q := 22) 0 dX5_demand_21 rfl rfl rfl ?_
    refine g_cp_machine (q := 25) wf_RX5_10 dX5_demand_22 rfl ?_
    refine g_mach_coils (q := 28) (i := 0) (by omega) wf_RX5_156 dX5_demand_25 rfl ?_
    refine aw_iload_n (q := 29) 1 dX5_demand_28 rfl rfl rfl ?_
    refine aw_coil (q := 30) (i := 0) (by omega) (by omega) dX5_demand_29 rfl ?_
    refine g_coil_wanted (q := 33) (i := 0) (c := c) (by omega) (by omega) (v := (G 0 (15 + 12 * c + 10))) rfl wf_RX5_165 dX5_demand_30 rfl ?_
    exact (rt_f rfl (Nat.zero_le _) (Nat.zero_le _) (⟨⟨by omega, by omega⟩, rfl, rfl⟩) dX5_demand_33)
  · exact (by omega : False).elim
set_option maxHeartbeats 4000000 in
set_option maxRecDepth 100000 in
theorem z_tubeV {l : Launch} {D : va_G} {C : Nat → ClassId} {T : Nat → Nat} {ad : Int → Nat} (hst : l.stackTraces = false) (G : GG) {t : Int} (o : okM G) (ht : -2147483648 ≤ t ∧ t ≤ 2147483647) (hok : (0 ≤ t ∧ t ≤ 3)) : MC l yX5_tube cX5_tube 2 (some .int) 6 95 0 0 D (tyC C) T [.ref (ad 102), .int (iI t)] (cw ad C G) (RI ad C (fun r G1 => (0 ≤ t ∧ t ≤ 3) ∧ r = G 0 (5 + t) ∧ G1 = G)) := by
  refine mc_of (by decide +kernel) (Nat.le_of_ble_eq_true rfl) rfl ?_
  have m13 := o.1.2.1
  have m14 := o.2.1.1
  have m10 := o.2.2.2.1
  refine aw_iload_n (q := 1) 1 dX5_tube_0 rfl rfl rfl ?_
  refine aw_iconst (q := 2) dX5_tube_1 rfl ?_
  refine aw_iconst (q := 3) dX5_tube_2 rfl ?_
  refine cs_I (q := 6) (As := [.int (iI t), .int (iI 0), .int (iI 3)]) 3 (c_isBetween (T := T) (D := D) (ad := ad) G (by omega) (by omega) (by omega)) (fun _ h => h) wc_X5_isBetween wm_RX5_38 wt_X5_isBetween wn_X5 (by decide) rfl ⟨Nat.le_of_ble_eq_true rfl, Nat.le_of_ble_eq_true rfl⟩ ⟨Nat.le_of_ble_eq_true rfl, Nat.le_of_ble_eq_true rfl⟩ (Nat.le_of_ble_eq_true rfl) dX5_tube_3 rfl (fun r9 G9 h9 => ?_)
  rw [h9.1, h9.2]
  refine aw_ifb_ne (q := 9) dX5_tube_6 rfl (t := 19) (by decide) (fun h1 => ?_) (fun h2 => ?_)
  · refine aw_aload_n (q := 20) 0 dX5_tube_19 rfl rfl rfl ?_
    refine g_cp_machine (q := 23) wf_RX5_10 dX5_tube_20 rfl ?_
    refine g_mach_till (q := 26) (i := 0) (by omega) wf_RX5_114 dX5_tube_23 rfl ?_
    refine g_till_tubes (q := 29) (i := 0) (by omega) wf_RX5_169 dX5_tube_26 rfl ?_
    refine aw_iload_n (q := 30) 1 dX5_tube_29 rfl rfl rfl ?_
    refine aw_cial (q := 31) (v := (G 0 (5 + t))) (5 + t) (ar_tubes ad C (i := 0) (by omega)) (by omega) (by omega) rfl dX5_tube_30 rfl ?_
    exact (rt_i rfl (Nat.zero_le _) (Nat.zero_le _) (⟨⟨by omega, by omega⟩, rfl, rfl⟩) dX5_tube_31)
  · exact (by omega : False).elim
set_option maxHeartbeats 4000000 in
set_option maxRecDepth 100000 in
theorem z_value {l : Launch} {D : va_G} {C : Nat → ClassId} {T : Nat → Nat} {ad : Int → Nat} (hst : l.stackTraces = false) (G : GG) {k : Int} (o : okM G) (hk : -2147483648 ≤ k ∧ k ≤ 2147483647) (hok : (0 ≤ k ∧ k ≤ 10)) : MC l yX5_value cX5_value 2 (some .int) 6 95 0 0 D (tyC C) T [.ref (ad 102), .int (iI k)] (cw ad C G) (RI ad C (fun r G1 => (0 ≤ k ∧ k ≤ 10) ∧ r = numF (G 0) k ∧ G1 = G)) := by
  refine mc_of (by decide +kernel) (Nat.le_of_ble_eq_true rfl) rfl ?_
  have m13 := o.1.2.1
  have m14 := o.2.1.1
  have m10 := o.2.2.2.1
  refine aw_iload_n (q := 1) 1 dX5_value_0 rfl rfl rfl ?_
  refine aw_iconst (q := 2) dX5_value_1 rfl ?_
  refine aw_bipush (q := 4) dX5_value_2 rfl (by decide) ?_
  refine cs_I (q := 7) (As := [.int (iI k), .int (iI 0), .int (iI 10)]) 3 (c_isBetween (T := T) (D := D) (ad := ad) G (by omega) (by omega) (by omega)) (fun _ h => h) wc_X5_isBetween wm_RX5_38 wt_X5_isBetween wn_X5 (by decide) rfl ⟨Nat.le_of_ble_eq_true rfl, Nat.le_of_ble_eq_true rfl⟩ ⟨Nat.le_of_ble_eq_true rfl, Nat.le_of_ble_eq_true rfl⟩ (Nat.le_of_ble_eq_true rfl) dX5_value_4 rfl (fun r9 G9 h9 => ?_)
  rw [h9.1, h9.2]
  refine aw_ifb_ne (q := 10) dX5_value_7 rfl (t := 20) (by decide) (fun h1 => ?_) (fun h2 => ?_)
  · refine aw_aload_n (q := 21) 0 dX5_value_20 rfl rfl rfl ?_
    refine g_cp_machine (q := 24) wf_RX5_10 dX5_value_21 rfl ?_
    refine aw_iload_n (q := 25) 1 dX5_value_24 rfl rfl rfl ?_
    refine cv_I (q := 28) (CC := "") (id := 0) (As := [.int (iI k)]) 1 (c_m_number (T := T) (D := D) (ad := ad) G (i := 0) (by omega) m13 (fun k z0 z1 => by have := o.2.1.2.2 k z0 z1; omega) (by omega)) (fun _ h => h) (by omega) (cell_mach ad C _ (i := 0) (by omega)) rfl wc_X1_number wm_RX5_172 wi_X1_number ws_X1_number wn_X1 (by decide) rfl ⟨Nat.le_of_ble_eq_true rfl, Nat.le_of_ble_eq_true rfl⟩ ⟨Nat.le_of_ble_eq_true rfl, Nat.le_of_ble_eq_true rfl⟩ (Nat.le_of_ble_eq_true rfl) dX5_value_25 rfl (fun r9 G9 h9 => ?_)
    rw [h9.1, h9.2]
    exact (rt_i rfl (Nat.zero_le _) (Nat.zero_le _) (⟨⟨by omega, by omega⟩, rfl, rfl⟩) dX5_value_28)
  · exact (by omega : False).elim
set_option maxHeartbeats 4000000 in
set_option maxRecDepth 100000 in
theorem z_setting {l : Launch} {D : va_G} {C : Nat → ClassId} {T : Nat → Nat} {ad : Int → Nat} (hst : l.stackTraces = false) (G : GG) {w : Int} (o : okM G) (hw : -2147483648 ≤ w ∧ w ≤ 2147483647) (hok : (0 ≤ w ∧ w ≤ 4)) : MC l yX5_setting cX5_setting 2 (some .int) 6 95 0 0 D (tyC C) T [.ref (ad 102), .int (iI w)] (cw ad C G) (RI ad C (fun r G1 => (0 ≤ w ∧ w ≤ 4) ∧ r = G 0 w ∧ G1 = G)) := by
  refine mc_of (by decide +kernel) (Nat.le_of_ble_eq_true rfl) rfl ?_
  have m13 := o.1.2.1
  have m14 := o.2.1.1
  have m10 := o.2.2.2.1
  refine aw_iload_n (q := 1) 1 dX5_setting_0 rfl rfl rfl ?_
  refine aw_iconst (q := 2) dX5_setting_1 rfl ?_
  refine aw_iconst (q := 3) dX5_setting_2 rfl ?_
  refine cs_I (q := 6) (As := [.int (iI w), .int (iI 0), .int (iI 4)]) 3 (c_isBetween (T := T) (D := D) (ad := ad) G (by omega) (by omega) (by omega)) (fun _ h => h) wc_X5_isBetween wm_RX5_38 wt_X5_isBetween wn_X5 (by decide) rfl ⟨Nat.le_of_ble_eq_true rfl, Nat.le_of_ble_eq_true rfl⟩ ⟨Nat.le_of_ble_eq_true rfl, Nat.le_of_ble_eq_true rfl⟩ (Nat.le_of_ble_eq_true rfl) dX5_setting_3 rfl (fun r9 G9 h9 => ?_)
  rw [h9.1, h9.2]
  refine aw_ifb_ne (q := 9) dX5_setting_6 rfl (t := 19) (by decide) (fun h1 => ?_) (fun h2 => ?_)
  · refine aw_aload_n (q := 20) 0 dX5_setting_19 rfl rfl rfl ?_
    refine g_cp_machine (q := 23) wf_RX5_10 dX5_setting_20 rfl ?_
    refine g_mach_settings (q := 26) (i := 0) (by omega) wf_RX5_175 dX5_setting_23 rfl ?_
    refine aw_iload_n (q := 27) 1 dX5_setting_26 rfl rfl rfl ?_
    refine aw_cial (q := 28) (v := (G 0 w)) w (ar_sets ad C (i := 0) (by omega)) (by omega) (by omega) rfl dX5_setting_27 rfl ?_
    exact (rt_i rfl (Nat.zero_le _) (Nat.zero_le _) (⟨⟨by omega, by omega⟩, rfl, rfl⟩) dX5_setting_28)
  · exact (by omega : False).elim
set_option maxHeartbeats 4000000 in
set_option maxRecDepth 100000 in
theorem z_promise {l : Launch} {D : va_G} {C : Nat → ClassId} {T : Nat → Nat} {ad : Int → Nat} (hst : l.stackTraces = false) (G : GG) {p : Int} (o : okM G) (hp : -2147483648 ≤ p ∧ p ≤ 2147483647) (hok : (0 ≤ p ∧ p ≤ G 0 14 - 1)) : MC l yX5_promise cX5_promise 2 (some .int) 6 95 0 0 D (tyC C) T [.ref (ad 102), .int (iI p)] (cw ad C G) (RI ad C (fun r G1 => (0 ≤ p ∧ p ≤ G 0 14 - 1) ∧ r = G 0 (111 + p) ∧ G1 = G)) := by
  refine mc_of (by decide +kernel) (Nat.le_of_ble_eq_true rfl) rfl ?_
  have m13 := o.1.2.1
  have m14 := o.2.1.1
  have m10 := o.2.2.2.1
  refine aw_iload_n (q := 1) 1 dX5_promise_0 rfl rfl rfl ?_
  refine aw_iconst (q := 2) dX5_promise_1 rfl ?_
  refine aw_aload_n (q := 3) 0 dX5_promise_2 rfl rfl rfl ?_
  refine g_cp_machine (q := 6) wf_RX5_10 dX5_promise_3 rfl ?_
  refine g_mach_till (q := 9) (i := 0) (by omega) wf_RX5_114 dX5_promise_6 rfl ?_
  refine g_till_promiseCount (q := 12) (i := 0) (by omega) (v := (G 0 14)) rfl wf_RX5_178 dX5_promise_9 rfl ?_
  refine aw_iconst (q := 13) dX5_promise_12 rfl ?_
  refine ae_isub (q := 14) ((G 0 14) - 1) (by omega) dX5_promise_13 rfl ?_
  refine cs_I (q := 17) (As := [.int (iI p), .int (iI 0), .int (iI ((G 0 14) - 1))]) 3 (c_isBetween (T := T) (D := D) (ad := ad) G (by omega) (by omega) (by omega)) (fun _ h => h) wc_X5_isBetween wm_RX5_38 wt_X5_isBetween wn_X5 (by decide) rfl ⟨Nat.le_of_ble_eq_true rfl, Nat.le_of_ble_eq_true rfl⟩ ⟨Nat.le_of_ble_eq_true rfl, Nat.le_of_ble_eq_true rfl⟩ (Nat.le_of_ble_eq_true rfl) dX5_promise_14 rfl (fun r9 G9 h9 => ?_)
  rw [h9.1, h9.2]
  refine aw_ifb_ne (q := 20) dX5_promise_17 rfl (t := 30) (by decide) (fun h1 => ?_) (fun h2 => ?_)
  · refine aw_aload_n (q := 31) 0 dX5_promise_30 rfl rfl rfl ?_
    refine g_cp_machine (q := 34) wf_RX5_10 dX5_promise_31 rfl ?_
    refine g_mach_till (q := 37) (i := 0) (by omega) wf_RX5_114 dX5_promise_34 rfl ?_
    refine g_till_promises (q := 40) (i := 0) (by omega) wf_RX5_183 dX5_promise_37 rfl ?_
    refine aw_iload_n (q := 41) 1 dX5_promise_40 rfl rfl rfl ?_
    refine aw_cial (q := 42) (v := (G 0 (111 + p))) (111 + p) (ar_prom ad C (i := 0) (by omega)) (by omega) (by omega) rfl dX5_promise_41 rfl ?_
    exact (rt_i rfl (Nat.zero_le _) (Nat.zero_le _) (⟨⟨by omega, by omega⟩, rfl, rfl⟩) dX5_promise_42)
  · exact (by omega : False).elim

set_option maxHeartbeats 4000000 in
set_option maxRecDepth 100000 in
theorem z_change0 {l : Launch} {D : va_G} {C : Nat → ClassId} {T : Nat → Nat} {ad : Int → Nat} (hst : l.stackTraces = false) (G : GG) {a : Int} (o : okM G) (ha : -2147483648 ≤ a ∧ a ≤ 2147483647) (hok : (0 ≤ a ∧ a ≤ 2000)) : MC l yX5_change cX5_change 3 (some .int) 6 106 0 0 D (tyC C) T [.ref (ad 102), .int (iI a), .int (iI 0)] (cw ad C G) (RI ad C (fun r G1 => (0 ≤ a ∧ a ≤ 2000) ∧ r = chF (G 0 5) (G 0 6) (G 0 7) (G 0 8) a 0 ∧ sameB (scr 0) G G1)) := by
  refine mc_of (by decide +kernel) (Nat.le_of_ble_eq_true rfl) rfl ?_
  have m13 := o.1.2.1
  have m14 := o.2.1.1
  have m10 := o.2.2.2.1
  have s0 : sameB (scr 0) G G := sameB.rf
  have q5 := o.2.1.2.2 0 (by omega) (by omega)
  have q6 := o.2.1.2.2 1 (by omega) (by omega)
  have q7 := o.2.1.2.2 2 (by omega) (by omega)
  have q8 := o.2.1.2.2 3 (by omega) (by omega)
  refine aw_iload_n (q := 1) 1 dX5_change_0 rfl rfl rfl ?_
  refine aw_iconst (q := 2) dX5_change_1 rfl ?_
  refine aw_sipush (q := 5) dX5_change_2 rfl (by decide) ?_
  refine cs_I (q := 8) (As := [.int (iI a), .int (iI 0), .int (iI 2000)]) 3 (c_isBetween (T := T) (D := D) (ad := ad) G (by omega) (by omega) (by omega)) (fun _ h => h) wc_X5_isBetween wm_RX5_38 wt_X5_isBetween wn_X5 (by decide) rfl ⟨Nat.le_of_ble_eq_true rfl, Nat.le_of_ble_eq_true rfl⟩ ⟨Nat.le_of_ble_eq_true rfl, Nat.le_of_ble_eq_true rfl⟩ (Nat.le_of_ble_eq_true rfl) dX5_change_5 rfl (fun r9 G9 h9 => ?_)
  rw [h9.1, h9.2]
  refine aw_ifb_ne (q := 11) dX5_change_8 rfl (t := 21) (by decide) (fun h1 => ?_) (fun h2 => ?_)
  · refine aw_iload_n (q := 22) 2 dX5_change_21 rfl rfl rfl ?_
    refine aw_iconst (q := 23) dX5_change_22 rfl ?_
    refine aw_iconst (q := 24) dX5_change_23 rfl ?_
    refine cs_I (q := 27) (As := [.int (iI 0), .int (iI 0), .int (iI 3)]) 3 (c_isBetween (T := T) (D := D) (ad := ad) G (by omega) (by omega) (by omega)) (fun _ h => h) wc_X5_isBetween wm_RX5_38 wt_X5_isBetween wn_X5 (by decide) rfl ⟨Nat.le_of_ble_eq_true rfl, Nat.le_of_ble_eq_true rfl⟩ ⟨Nat.le_of_ble_eq_true rfl, Nat.le_of_ble_eq_true rfl⟩ (Nat.le_of_ble_eq_true rfl) dX5_change_24 rfl (fun r9 G9 h9 => ?_)
    rw [h9.1, h9.2]
    refine aw_ifb_ne (q := 30) dX5_change_27 rfl (t := 40) (by decide) (fun h3 => ?_) (fun h4 => ?_)
    · refine aw_aload_n (q := 41) 0 dX5_change_40 rfl rfl rfl ?_
      refine g_cp_machine (q := 44) wf_RX5_10 dX5_change_41 rfl ?_
      refine g_mach_till (q := 47) (i := 0) (by omega) wf_RX5_114 dX5_change_44 rfl ?_
      refine aw_iload_n (q := 48) 1 dX5_change_47 rfl rfl rfl ?_
      refine cv_I (q := 51) (CC := "") (id := 3) (As := [.int (iI a)]) 1 (c_till_canPay (T := T) (D := D) (ad := ad) G (i := 0) (by omega) (by omega) (fun k z0 z1 => by rw [s0 _ _ (by omega)]; exact o.2.1.2.2 k z0 z1)) (fun _ h => h) (by omega) (cell_till ad C _ (i := 0) (by omega)) rfl wc_X4_canPay wm_RX5_188 wi_X4_canPay ws_X4_canPay wn_X4 (by decide) rfl ⟨Nat.le_of_ble_eq_true rfl, Nat.le_of_ble_eq_true rfl⟩ ⟨Nat.le_of_ble_eq_true rfl, Nat.le_of_ble_eq_true rfl⟩ (Nat.le_of_ble_eq_true rfl) dX5_change_48 rfl (fun r9 K1 h9 => ?_)
      obtain ⟨hr1, ha1, hb1, hc1, hd1, hs1⟩ := h9
      rw [s0 0 5 (by omega), s0 0 6 (by omega), s0 0 7 (by omega), s0 0 8 (by omega)] at hr1
      rw [s0 0 5 (by omega), s0 0 6 (by omega), s0 0 7 (by omega), s0 0 8 (by omega)] at ha1
      rw [s0 0 5 (by omega), s0 0 6 (by omega), s0 0 7 (by omega), s0 0 8 (by omega)] at hb1
      rw [s0 0 5 (by omega), s0 0 6 (by omega), s0 0 7 (by omega), s0 0 8 (by omega)] at hc1
      rw [s0 0 5 (by omega), s0 0 6 (by omega), s0 0 7 (by omega), s0 0 8 (by omega)] at hd1
      have sK1 : sameB (scr 0) G K1 := s0.tr hs1
      subst hr1
      refine aw_ifb_eq (q := 54) dX5_change_51 rfl (t := 72) (by decide) (fun h5 => ?_) (fun h6 => ?_)
      · refine aw_iconst (q := 73) dX5_change_72 rfl ?_
        exact (rt_i rfl (Nat.zero_le _) (Nat.zero_le _) (⟨⟨by omega, by omega⟩, by unfold chF; first | exact (if_pos (by assumption)).symm | exact (if_neg (by assumption)).symm, sK1⟩) dX5_change_73)
      · refine aw_aload_n (q := 55) 0 dX5_change_54 rfl rfl rfl ?_
        refine g_cp_machine (q := 58) wf_RX5_10 dX5_change_55 rfl ?_
        refine g_mach_till (q := 61) (i := 0) (by omega) wf_RX5_114 dX5_change_58 rfl ?_
        refine g_till_payment (q := 64) (i := 0) (by omega) wf_RX5_191 dX5_change_61 rfl ?_
        refine g_pay_taken (q := 67) (i := 0) (by omega) wf_RX5_195 dX5_change_64 rfl ?_
        refine aw_iload_n (q := 68) 2 dX5_change_67 rfl rfl rfl ?_
        refine aw_cial (q := 69) (v := (c0F (G 0 5) (G 0 6) (G 0 7) (G 0 8) a)) 316 (ar_taken ad C (i := 0) (by omega)) (by omega) (by omega) (ha1) dX5_change_68 rfl ?_
        refine aw_goto (q := 73) dX5_change_69 (by decide) ?_
        exact (rt_i rfl (Nat.zero_le _) (Nat.zero_le _) (⟨⟨by omega, by omega⟩, by unfold chF; first | exact (if_pos (by assumption)).symm | exact (if_neg (by assumption)).symm, sK1⟩) dX5_change_73)
    · exact (by omega : False).elim
  · exact (by omega : False).elim
set_option maxHeartbeats 4000000 in
set_option maxRecDepth 100000 in
theorem z_change1 {l : Launch} {D : va_G} {C : Nat → ClassId} {T : Nat → Nat} {ad : Int → Nat} (hst : l.stackTraces = false) (G : GG) {a : Int} (o : okM G) (ha : -2147483648 ≤ a ∧ a ≤ 2147483647) (hok : (0 ≤ a ∧ a ≤ 2000)) : MC l yX5_change cX5_change 3 (some .int) 6 106 0 0 D (tyC C) T [.ref (ad 102), .int (iI a), .int (iI 1)] (cw ad C G) (RI ad C (fun r G1 => (0 ≤ a ∧ a ≤ 2000) ∧ r = chF (G 0 5) (G 0 6) (G 0 7) (G 0 8) a 1 ∧ sameB (scr 0) G G1)) := by
  refine mc_of (by decide +kernel) (Nat.le_of_ble_eq_true rfl) rfl ?_
  have m13 := o.1.2.1
  have m14 := o.2.1.1
  have m10 := o.2.2.2.1
  have s0 : sameB (scr 0) G G := sameB.rf
  have q5 := o.2.1.2.2 0 (by omega) (by omega)
  have q6 := o.2.1.2.2 1 (by omega) (by omega)
  have q7 := o.2.1.2.2 2 (by omega) (by omega)
  have q8 := o.2.1.2.2 3 (by omega) (by omega)
  refine aw_iload_n (q := 1) 1 dX5_change_0 rfl rfl rfl ?_
  refine aw_iconst (q := 2) dX5_change_1 rfl ?_
  refine aw_sipush (q := 5) dX5_change_2 rfl (by decide) ?_
  refine cs_I (q := 8) (As := [.int (iI a), .int (iI 0), .int (iI 2000)]) 3 (c_isBetween (T := T) (D := D) (ad := ad) G (by omega) (by omega) (by omega)) (fun _ h => h) wc_X5_isBetween wm_RX5_38 wt_X5_isBetween wn_X5 (by decide) rfl ⟨Nat.le_of_ble_eq_true rfl, Nat.le_of_ble_eq_true rfl⟩ ⟨Nat.le_of_ble_eq_true rfl, Nat.le_of_ble_eq_true rfl⟩ (Nat.le_of_ble_eq_true rfl) dX5_change_5 rfl (fun r9 G9 h9 => ?_)
  rw [h9.1, h9.2]
  refine aw_ifb_ne (q := 11) dX5_change_8 rfl (t := 21) (by decide) (fun h1 => ?_) (fun h2 => ?_)
  · refine aw_iload_n (q := 22) 2 dX5_change_21 rfl rfl rfl ?_
    refine aw_iconst (q := 23) dX5_change_22 rfl ?_
    refine aw_iconst (q := 24) dX5_change_23 rfl ?_
    refine cs_I (q := 27) (As := [.int (iI 1), .int (iI 0), .int (iI 3)]) 3 (c_isBetween (T := T) (D := D) (ad := ad) G (by omega) (by omega) (by omega)) (fun _ h => h) wc_X5_isBetween wm_RX5_38 wt_X5_isBetween wn_X5 (by decide) rfl ⟨Nat.le_of_ble_eq_true rfl, Nat.le_of_ble_eq_true rfl⟩ ⟨Nat.le_of_ble_eq_true rfl, Nat.le_of_ble_eq_true rfl⟩ (Nat.le_of_ble_eq_true rfl) dX5_change_24 rfl (fun r9 G9 h9 => ?_)
    rw [h9.1, h9.2]
    refine aw_ifb_ne (q := 30) dX5_change_27 rfl (t := 40) (by decide) (fun h3 => ?_) (fun h4 => ?_)
    · refine aw_aload_n (q := 41) 0 dX5_change_40 rfl rfl rfl ?_
      refine g_cp_machine (q := 44) wf_RX5_10 dX5_change_41 rfl ?_
      refine g_mach_till (q := 47) (i := 0) (by omega) wf_RX5_114 dX5_change_44 rfl ?_
      refine aw_iload_n (q := 48) 1 dX5_change_47 rfl rfl rfl ?_
      refine cv_I (q := 51) (CC := "") (id := 3) (As := [.int (iI a)]) 1 (c_till_canPay (T := T) (D := D) (ad := ad) G (i := 0) (by omega) (by omega) (fun k z0 z1 => by rw [s0 _ _ (by omega)]; exact o.2.1.2.2 k z0 z1)) (fun _ h => h) (by omega) (cell_till ad C _ (i := 0) (by omega)) rfl wc_X4_canPay wm_RX5_188 wi_X4_canPay ws_X4_canPay wn_X4 (by decide) rfl ⟨Nat.le_of_ble_eq_true rfl, Nat.le_of_ble_eq_true rfl⟩ ⟨Nat.le_of_ble_eq_true rfl, Nat.le_of_ble_eq_true rfl⟩ (Nat.le_of_ble_eq_true rfl) dX5_change_48 rfl (fun r9 K2 h9 => ?_)
      obtain ⟨hr2, ha2, hb2, hc2, hd2, hs2⟩ := h9
      rw [s0 0 5 (by omega), s0 0 6 (by omega), s0 0 7 (by omega), s0 0 8 (by omega)] at hr2
      rw [s0 0 5 (by omega), s0 0 6 (by omega), s0 0 7 (by omega), s0 0 8 (by omega)] at ha2
      rw [s0 0 5 (by omega), s0 0 6 (by omega), s0 0 7 (by omega), s0 0 8 (by omega)] at hb2
      rw [s0 0 5 (by omega), s0 0 6 (by omega), s0 0 7 (by omega), s0 0 8 (by omega)] at hc2
      rw [s0 0 5 (by omega), s0 0 6 (by omega), s0 0 7 (by omega), s0 0 8 (by omega)] at hd2
      have sK2 : sameB (scr 0) G K2 := s0.tr hs2
      subst hr2
      refine aw_ifb_eq (q := 54) dX5_change_51 rfl (t := 72) (by decide) (fun h5 => ?_) (fun h6 => ?_)
      · refine aw_iconst (q := 73) dX5_change_72 rfl ?_
        exact (rt_i rfl (Nat.zero_le _) (Nat.zero_le _) (⟨⟨by omega, by omega⟩, by unfold chF; first | exact (if_pos (by assumption)).symm | exact (if_neg (by assumption)).symm, sK2⟩) dX5_change_73)
      · refine aw_aload_n (q := 55) 0 dX5_change_54 rfl rfl rfl ?_
        refine g_cp_machine (q := 58) wf_RX5_10 dX5_change_55 rfl ?_
        refine g_mach_till (q := 61) (i := 0) (by omega) wf_RX5_114 dX5_change_58 rfl ?_
        refine g_till_payment (q := 64) (i := 0) (by omega) wf_RX5_191 dX5_change_61 rfl ?_
        refine g_pay_taken (q := 67) (i := 0) (by omega) wf_RX5_195 dX5_change_64 rfl ?_
        refine aw_iload_n (q := 68) 2 dX5_change_67 rfl rfl rfl ?_
        refine aw_cial (q := 69) (v := (c1F (G 0 5) (G 0 6) (G 0 7) (G 0 8) a)) 317 (ar_taken ad C (i := 0) (by omega)) (by omega) (by omega) (hb2) dX5_change_68 rfl ?_
        refine aw_goto (q := 73) dX5_change_69 (by decide) ?_
        exact (rt_i rfl (Nat.zero_le _) (Nat.zero_le _) (⟨⟨by omega, by omega⟩, by unfold chF; first | exact (if_pos (by assumption)).symm | exact (if_neg (by assumption)).symm, sK2⟩) dX5_change_73)
    · exact (by omega : False).elim
  · exact (by omega : False).elim
set_option maxHeartbeats 4000000 in
set_option maxRecDepth 100000 in
theorem z_change2 {l : Launch} {D : va_G} {C : Nat → ClassId} {T : Nat → Nat} {ad : Int → Nat} (hst : l.stackTraces = false) (G : GG) {a : Int} (o : okM G) (ha : -2147483648 ≤ a ∧ a ≤ 2147483647) (hok : (0 ≤ a ∧ a ≤ 2000)) : MC l yX5_change cX5_change 3 (some .int) 6 106 0 0 D (tyC C) T [.ref (ad 102), .int (iI a), .int (iI 2)] (cw ad C G) (RI ad C (fun r G1 => (0 ≤ a ∧ a ≤ 2000) ∧ r = chF (G 0 5) (G 0 6) (G 0 7) (G 0 8) a 2 ∧ sameB (scr 0) G G1)) := by
  refine mc_of (by decide +kernel) (Nat.le_of_ble_eq_true rfl) rfl ?_
  have m13 := o.1.2.1
  have m14 := o.2.1.1
  have m10 := o.2.2.2.1
  have s0 : sameB (scr 0) G G := sameB.rf
  have q5 := o.2.1.2.2 0 (by omega) (by omega)
  have q6 := o.2.1.2.2 1 (by omega) (by omega)
  have q7 := o.2.1.2.2 2 (by omega) (by omega)
  have q8 := o.2.1.2.2 3 (by omega) (by omega)
  refine aw_iload_n (q := 1) 1 dX5_change_0 rfl rfl rfl ?_
  refine aw_iconst (q := 2) dX5_change_1 rfl ?_
  refine aw_sipush (q := 5) dX5_change_2 rfl (by decide) ?_
  refine cs_I (q := 8) (As := [.int (iI a), .int (iI 0), .int (iI 2000)]) 3 (c_isBetween (T := T) (D := D) (ad := ad) G (by omega) (by omega) (by omega)) (fun _ h => h) wc_X5_isBetween wm_RX5_38 wt_X5_isBetween wn_X5 (by decide) rfl ⟨Nat.le_of_ble_eq_true rfl, Nat.le_of_ble_eq_true rfl⟩ ⟨Nat.le_of_ble_eq_true rfl, Nat.le_of_ble_eq_true rfl⟩ (Nat.le_of_ble_eq_true rfl) dX5_change_5 rfl (fun r9 G9 h9 => ?_)
  rw [h9.1, h9.2]
  refine aw_ifb_ne (q := 11) dX5_change_8 rfl (t := 21) (by decide) (fun h1 => ?_) (fun h2 => ?_)
  · refine aw_iload_n (q := 22) 2 dX5_change_21 rfl rfl rfl ?_
    refine aw_iconst (q := 23) dX5_change_22 rfl ?_
    refine aw_iconst (q := 24) dX5_change_23 rfl ?_
    refine cs_I (q := 27) (As := [.int (iI 2), .int (iI 0), .int (iI 3)]) 3 (c_isBetween (T := T) (D := D) (ad := ad) G (by omega) (by omega) (by omega)) (fun _ h => h) wc_X5_isBetween wm_RX5_38 wt_X5_isBetween wn_X5 (by decide) rfl ⟨Nat.le_of_ble_eq_true rfl, Nat.le_of_ble_eq_true rfl⟩ ⟨Nat.le_of_ble_eq_true rfl, Nat.le_of_ble_eq_true rfl⟩ (Nat.le_of_ble_eq_true rfl) dX5_change_24 rfl (fun r9 G9 h9 => ?_)
    rw [h9.1, h9.2]
    refine aw_ifb_ne (q := 30) dX5_change_27 rfl (t := 40) (by decide) (fun h3 => ?_) (fun h4 => ?_)
    · refine aw_aload_n (q := 41) 0 dX5_change_40 rfl rfl rfl ?_
      refine g_cp_machine (q := 44) wf_RX5_10 dX5_change_41 rfl ?_
      refine g_mach_till (q := 47) (i := 0) (by omega) wf_RX5_114 dX5_change_44 rfl ?_
      refine aw_iload_n (q := 48) 1 dX5_change_47 rfl rfl rfl ?_
      refine cv_I (q := 51) (CC := "") (id := 3) (As := [.int (iI a)]) 1 (c_till_canPay (T := T) (D := D) (ad := ad) G (i := 0) (by omega) (by omega) (fun k z0 z1 => by rw [s0 _ _ (by omega)]; exact o.2.1.2.2 k z0 z1)) (fun _ h => h) (by omega) (cell_till ad C _ (i := 0) (by omega)) rfl wc_X4_canPay wm_RX5_188 wi_X4_canPay ws_X4_canPay wn_X4 (by decide) rfl ⟨Nat.le_of_ble_eq_true rfl, Nat.le_of_ble_eq_true rfl⟩ ⟨Nat.le_of_ble_eq_true rfl, Nat.le_of_ble_eq_true rfl⟩ (Nat.le_of_ble_eq_true rfl) dX5_change_48 rfl (fun r9 K3 h9 => ?_)
      obtain ⟨hr3, ha3, hb3, hc3, hd3, hs3⟩ := h9
      rw [s0 0 5 (by omega), s0 0 6 (by omega), s0 0 7 (by omega), s0 0 8 (by omega)] at hr3
      rw [s0 0 5 (by omega), s0 0 6 (by omega), s0 0 7 (by omega), s0 0 8 (by omega)] at ha3
      rw [s0 0 5 (by omega), s0 0 6 (by omega), s0 0 7 (by omega), s0 0 8 (by omega)] at hb3
      rw [s0 0 5 (by omega), s0 0 6 (by omega), s0 0 7 (by omega), s0 0 8 (by omega)] at hc3
      rw [s0 0 5 (by omega), s0 0 6 (by omega), s0 0 7 (by omega), s0 0 8 (by omega)] at hd3
      have sK3 : sameB (scr 0) G K3 := s0.tr hs3
      subst hr3
      refine aw_ifb_eq (q := 54) dX5_change_51 rfl (t := 72) (by decide) (fun h5 => ?_) (fun h6 => ?_)
      · refine aw_iconst (q := 73) dX5_change_72 rfl ?_
        exact (rt_i rfl (Nat.zero_le _) (Nat.zero_le _) (⟨⟨by omega, by omega⟩, by unfold chF; first | exact (if_pos (by assumption)).symm | exact (if_neg (by assumption)).symm, sK3⟩) dX5_change_73)
      · refine aw_aload_n (q := 55) 0 dX5_change_54 rfl rfl rfl ?_
        refine g_cp_machine (q := 58) wf_RX5_10 dX5_change_55 rfl ?_
        refine g_mach_till (q := 61) (i := 0) (by omega) wf_RX5_114 dX5_change_58 rfl ?_
        refine g_till_payment (q := 64) (i := 0) (by omega) wf_RX5_191 dX5_change_61 rfl ?_
        refine g_pay_taken (q := 67) (i := 0) (by omega) wf_RX5_195 dX5_change_64 rfl ?_
        refine aw_iload_n (q := 68) 2 dX5_change_67 rfl rfl rfl ?_
        refine aw_cial (q := 69) (v := (c2F (G 0 5) (G 0 6) (G 0 7) (G 0 8) a)) 318 (ar_taken ad C (i := 0) (by omega)) (by omega) (by omega) (hc3) dX5_change_68 rfl ?_
        refine aw_goto (q := 73) dX5_change_69 (by decide) ?_
        exact (rt_i rfl (Nat.zero_le _) (Nat.zero_le _) (⟨⟨by omega, by omega⟩, by unfold chF; first | exact (if_pos (by assumption)).symm | exact (if_neg (by assumption)).symm, sK3⟩) dX5_change_73)
    · exact (by omega : False).elim
  · exact (by omega : False).elim
set_option maxHeartbeats 4000000 in
set_option maxRecDepth 100000 in
theorem z_change3 {l : Launch} {D : va_G} {C : Nat → ClassId} {T : Nat → Nat} {ad : Int → Nat} (hst : l.stackTraces = false) (G : GG) {a : Int} (o : okM G) (ha : -2147483648 ≤ a ∧ a ≤ 2147483647) (hok : (0 ≤ a ∧ a ≤ 2000)) : MC l yX5_change cX5_change 3 (some .int) 6 106 0 0 D (tyC C) T [.ref (ad 102), .int (iI a), .int (iI 3)] (cw ad C G) (RI ad C (fun r G1 => (0 ≤ a ∧ a ≤ 2000) ∧ r = chF (G 0 5) (G 0 6) (G 0 7) (G 0 8) a 3 ∧ sameB (scr 0) G G1)) := by
  refine mc_of (by decide +kernel) (Nat.le_of_ble_eq_true rfl) rfl ?_
  have m13 := o.1.2.1
  have m14 := o.2.1.1
  have m10 := o.2.2.2.1
  have s0 : sameB (scr 0) G G := sameB.rf
  have q5 := o.2.1.2.2 0 (by omega) (by omega)
  have q6 := o.2.1.2.2 1 (by omega) (by omega)
  have q7 := o.2.1.2.2 2 (by omega) (by omega)
  have q8 := o.2.1.2.2 3 (by omega) (by omega)
  refine aw_iload_n (q := 1) 1 dX5_change_0 rfl rfl rfl ?_
  refine aw_iconst (q := 2) dX5_change_1 rfl ?_
  refine aw_sipush (q := 5) dX5_change_2 rfl (by decide) ?_
  refine cs_I (q := 8) (As := [.int (iI a), .int (iI 0), .int (iI 2000)]) 3 (c_isBetween (T := T) (D := D) (ad := ad) G (by omega) (by omega) (by omega)) (fun _ h => h) wc_X5_isBetween wm_RX5_38 wt_X5_isBetween wn_X5 (by decide) rfl ⟨Nat.le_of_ble_eq_true rfl, Nat.le_of_ble_eq_true rfl⟩ ⟨Nat.le_of_ble_eq_true rfl, Nat.le_of_ble_eq_true rfl⟩ (Nat.le_of_ble_eq_true rfl) dX5_change_5 rfl (fun r9 G9 h9 => ?_)
  rw [h9.1, h9.2]
  refine aw_ifb_ne (q := 11) dX5_change_8 rfl (t := 21) (by decide) (fun h1 => ?_) (fun h2 => ?_)
  · refine aw_iload_n (q := 22) 2 dX5_change_21 rfl rfl rfl ?_
    refine aw_iconst (q := 23) dX5_change_22 rfl ?_
    refine aw_iconst (q := 24) dX5_change_23 rfl ?_
    refine cs_I (q := 27) (As := [.int (iI 3), .int (iI 0), .int (iI 3)]) 3 (c_isBetween (T := T) (D := D) (ad := ad) G (by omega) (by omega) (by omega)) (fun _ h => h) wc_X5_isBetween wm_RX5_38 wt_X5_isBetween wn_X5 (by decide) rfl ⟨Nat.le_of_ble_eq_true rfl, Nat.le_of_ble_eq_true rfl⟩ ⟨Nat.le_of_ble_eq_true rfl, Nat.le_of_ble_eq_true rfl⟩ (Nat.le_of_ble_eq_true rfl) dX5_change_24 rfl (fun r9 G9 h9 => ?_)
    rw [h9.1, h9.2]
    refine aw_ifb_ne (q := 30) dX5_change_27 rfl (t := 40) (by decide) (fun h3 => ?_) (fun h4 => ?_)
    · refine aw_aload_n (q := 41) 0 dX5_change_40 rfl rfl rfl ?_
      refine g_cp_machine (q := 44) wf_RX5_10 dX5_change_41 rfl ?_
      refine g_mach_till (q := 47) (i := 0) (by omega) wf_RX5_114 dX5_change_44 rfl ?_
      refine aw_iload_n (q := 48) 1 dX5_change_47 rfl rfl rfl ?_
      refine cv_I (q := 51) (CC := "") (id := 3) (As := [.int (iI a)]) 1 (c_till_canPay (T := T) (D := D) (ad := ad) G (i := 0) (by omega) (by omega) (fun k z0 z1 => by rw [s0 _ _ (by omega)]; exact o.2.1.2.2 k z0 z1)) (fun _ h => h) (by omega) (cell_till ad C _ (i := 0) (by omega)) rfl wc_X4_canPay wm_RX5_188 wi_X4_canPay ws_X4_canPay wn_X4 (by decide) rfl ⟨Nat.le_of_ble_eq_true rfl, Nat.le_of_ble_eq_true rfl⟩ ⟨Nat.le_of_ble_eq_true rfl, Nat.le_of_ble_eq_true rfl⟩ (Nat.le_of_ble_eq_true rfl) dX5_change_48 rfl (fun r9 K4 h9 => ?_)
      obtain ⟨hr4, ha4, hb4, hc4, hd4, hs4⟩ := h9
      rw [s0 0 5 (by omega), s0 0 6 (by omega), s0 0 7 (by omega), s0 0 8 (by omega)] at hr4
      rw [s0 0 5 (by omega), s0 0 6 (by omega), s0 0 7 (by omega), s0 0 8 (by omega)] at ha4
      rw [s0 0 5 (by omega), s0 0 6 (by omega), s0 0 7 (by omega), s0 0 8 (by omega)] at hb4
      rw [s0 0 5 (by omega), s0 0 6 (by omega), s0 0 7 (by omega), s0 0 8 (by omega)] at hc4
      rw [s0 0 5 (by omega), s0 0 6 (by omega), s0 0 7 (by omega), s0 0 8 (by omega)] at hd4
      have sK4 : sameB (scr 0) G K4 := s0.tr hs4
      subst hr4
      refine aw_ifb_eq (q := 54) dX5_change_51 rfl (t := 72) (by decide) (fun h5 => ?_) (fun h6 => ?_)
      · refine aw_iconst (q := 73) dX5_change_72 rfl ?_
        exact (rt_i rfl (Nat.zero_le _) (Nat.zero_le _) (⟨⟨by omega, by omega⟩, by unfold chF; first | exact (if_pos (by assumption)).symm | exact (if_neg (by assumption)).symm, sK4⟩) dX5_change_73)
      · refine aw_aload_n (q := 55) 0 dX5_change_54 rfl rfl rfl ?_
        refine g_cp_machine (q := 58) wf_RX5_10 dX5_change_55 rfl ?_
        refine g_mach_till (q := 61) (i := 0) (by omega) wf_RX5_114 dX5_change_58 rfl ?_
        refine g_till_payment (q := 64) (i := 0) (by omega) wf_RX5_191 dX5_change_61 rfl ?_
        refine g_pay_taken (q := 67) (i := 0) (by omega) wf_RX5_195 dX5_change_64 rfl ?_
        refine aw_iload_n (q := 68) 2 dX5_change_67 rfl rfl rfl ?_
        refine aw_cial (q := 69) (v := (c3F (G 0 5) (G 0 6) (G 0 7) (G 0 8) a)) 319 (ar_taken ad C (i := 0) (by omega)) (by omega) (by omega) (hd4) dX5_change_68 rfl ?_
        refine aw_goto (q := 73) dX5_change_69 (by decide) ?_
        exact (rt_i rfl (Nat.zero_le _) (Nat.zero_le _) (⟨⟨by omega, by omega⟩, by unfold chF; first | exact (if_pos (by assumption)).symm | exact (if_neg (by assumption)).symm, sK4⟩) dX5_change_73)
    · exact (by omega : False).elim
  · exact (by omega : False).elim
set_option maxHeartbeats 4000000 in
set_option maxRecDepth 100000 in
theorem z_coinFor {l : Launch} {D : va_G} {C : Nat → ClassId} {T : Nat → Nat} {ad : Int → Nat} (hst : l.stackTraces = false) (G : GG) {a : Int} (o : okM G) (ha : -2147483648 ≤ a ∧ a ≤ 2147483647) (hok : (0 ≤ a ∧ a ≤ 2000)) : MC l yX5_coinFor cX5_coinFor 3 (some .int) 6 107 0 0 D (tyC C) T [.ref (ad 102), .int (iI a)] (cw ad C G) (RI ad C (fun r G1 => (0 ≤ a ∧ a ≤ 2000) ∧ r = cfF (G 0 5) (G 0 6) (G 0 7) (G 0 8) a ∧ sameB (scr 0) G G1)) := by
  refine mc_of (by decide +kernel) (Nat.le_of_ble_eq_true rfl) rfl ?_
  have m13 := o.1.2.1
  have m14 := o.2.1.1
  have m10 := o.2.2.2.1
  have s0 : sameB (scr 0) G G := sameB.rf
  have q5 := o.2.1.2.2 0 (by omega) (by omega)
  have q6 := o.2.1.2.2 1 (by omega) (by omega)
  have q7 := o.2.1.2.2 2 (by omega) (by omega)
  have q8 := o.2.1.2.2 3 (by omega) (by omega)
  refine aw_iload_n (q := 1) 1 dX5_coinFor_0 rfl rfl rfl ?_
  refine aw_iconst (q := 2) dX5_coinFor_1 rfl ?_
  refine aw_sipush (q := 5) dX5_coinFor_2 rfl (by decide) ?_
  refine cs_I (q := 8) (As := [.int (iI a), .int (iI 0), .int (iI 2000)]) 3 (c_isBetween (T := T) (D := D) (ad := ad) G (by omega) (by omega) (by omega)) (fun _ h => h) wc_X5_isBetween wm_RX5_38 wt_X5_isBetween wn_X5 (by decide) rfl ⟨Nat.le_of_ble_eq_true rfl, Nat.le_of_ble_eq_true rfl⟩ ⟨Nat.le_of_ble_eq_true rfl, Nat.le_of_ble_eq_true rfl⟩ (Nat.le_of_ble_eq_true rfl) dX5_coinFor_5 rfl (fun r9 G9 h9 => ?_)
  rw [h9.1, h9.2]
  refine aw_ifb_ne (q := 11) dX5_coinFor_8 rfl (t := 21) (by decide) (fun h1 => ?_) (fun h2 => ?_)
  · refine aw_aload_n (q := 22) 0 dX5_coinFor_21 rfl rfl rfl ?_
    refine g_cp_machine (q := 25) wf_RX5_10 dX5_coinFor_22 rfl ?_
    refine g_mach_till (q := 28) (i := 0) (by omega) wf_RX5_114 dX5_coinFor_25 rfl ?_
    refine aw_iload_n (q := 29) 1 dX5_coinFor_28 rfl rfl rfl ?_
    refine cv_I (q := 32) (CC := "") (id := 3) (As := [.int (iI a)]) 1 (c_till_canPay (T := T) (D := D) (ad := ad) G (i := 0) (by omega) (by omega) (fun k z0 z1 => by rw [s0 _ _ (by omega)]; exact o.2.1.2.2 k z0 z1)) (fun _ h => h) (by omega) (cell_till ad C _ (i := 0) (by omega)) rfl wc_X4_canPay wm_RX5_188 wi_X4_canPay ws_X4_canPay wn_X4 (by decide) rfl ⟨Nat.le_of_ble_eq_true rfl, Nat.le_of_ble_eq_true rfl⟩ ⟨Nat.le_of_ble_eq_true rfl, Nat.le_of_ble_eq_true rfl⟩ (Nat.le_of_ble_eq_true rfl) dX5_coinFor_29 rfl (fun r9 K5 h9 => ?_)
    obtain ⟨hr5, ha5, hb5, hc5, hd5, hs5⟩ := h9
    rw [s0 0 5 (by omega), s0 0 6 (by omega), s0 0 7 (by omega), s0 0 8 (by omega)] at hr5
    rw [s0 0 5 (by omega), s0 0 6 (by omega), s0 0 7 (by omega), s0 0 8 (by omega)] at ha5
    rw [s0 0 5 (by omega), s0 0 6 (by omega), s0 0 7 (by omega), s0 0 8 (by omega)] at hb5
    rw [s0 0 5 (by omega), s0 0 6 (by omega), s0 0 7 (by omega), s0 0 8 (by omega)] at hc5
    rw [s0 0 5 (by omega), s0 0 6 (by omega), s0 0 7 (by omega), s0 0 8 (by omega)] at hd5
    have sK5 : sameB (scr 0) G K5 := s0.tr hs5
    subst hr5
    refine aw_ifb_eq (q := 35) dX5_coinFor_32 rfl (t := 37) (by decide) (fun h3 => ?_) (fun h4 => ?_)
    · refine aw_iconst (q := 38) dX5_coinFor_37 rfl ?_
      refine aw_istore_n (q := 39) (lv2 := [(0, .ref (ad 102)), (1, .int (iI a)), (2, .int (iI 0))]) [1, 2, 0] dX5_coinFor_38 rfl rfl (by decide) rfl rfl ?_
      refine aw_iload_n (q := 40) 2 dX5_coinFor_39 rfl rfl rfl ?_
      refine aw_iconst (q := 41) dX5_coinFor_40 rfl ?_
      refine aw_icmp_ge (q := 44) dX5_coinFor_41 rfl (t := 67) (by decide) (by omega) (by omega) (fun h => absurd h (by omega)) (fun _ => ?_)
      refine aw_aload_n (q := 45) 0 dX5_coinFor_44 rfl rfl rfl ?_
      refine g_cp_machine (q := 48) wf_RX5_10 dX5_coinFor_45 rfl ?_
      refine g_mach_till (q := 51) (i := 0) (by omega) wf_RX5_114 dX5_coinFor_48 rfl ?_
      refine aw_iload_n (q := 52) 1 dX5_coinFor_51 rfl rfl rfl ?_
      refine aw_iload_n (q := 53) 2 dX5_coinFor_52 rfl rfl rfl ?_
      refine cv_I (q := 56) (CC := "") (id := 3) (As := [.int (iI a), .int (iI 0)]) 2 (c_till_withCoin0 (T := T) (D := D) (ad := ad) K5 (i := 0) (by omega) (by omega) (fun k z0 z1 => by rw [sK5 _ _ (by omega)]; exact o.2.1.2.2 k z0 z1)) (fun _ h => h) (by omega) (cell_till ad C _ (i := 0) (by omega)) rfl wc_X4_canPayWithCoin wm_RX5_202 wi_X4_canPayWithCoin ws_X4_canPayWithCoin wn_X4 (by decide) rfl ⟨Nat.le_of_ble_eq_true rfl, Nat.le_of_ble_eq_true rfl⟩ ⟨Nat.le_of_ble_eq_true rfl, Nat.le_of_ble_eq_true rfl⟩ (Nat.le_of_ble_eq_true rfl) dX5_coinFor_53 rfl (fun r9 K6 h9 => ?_)
      obtain ⟨hr6, ha6, hb6, hc6, hd6, hs6⟩ := h9
      rw [sK5 0 5 (by omega), sK5 0 6 (by omega), sK5 0 7 (by omega), sK5 0 8 (by omega)] at hr6
      rw [sK5 0 5 (by omega), sK5 0 6 (by omega), sK5 0 7 (by omega), sK5 0 8 (by omega)] at ha6
      rw [sK5 0 5 (by omega), sK5 0 6 (by omega), sK5 0 7 (by omega), sK5 0 8 (by omega)] at hb6
      rw [sK5 0 5 (by omega), sK5 0 6 (by omega), sK5 0 7 (by omega), sK5 0 8 (by omega)] at hc6
      rw [sK5 0 5 (by omega), sK5 0 6 (by omega), sK5 0 7 (by omega), sK5 0 8 (by omega)] at hd6
      have sK6 : sameB (scr 0) G K6 := sK5.tr hs6
      subst hr6
      refine aw_ifb_eq (q := 59) dX5_coinFor_56 rfl (t := 61) (by decide) (fun h5 => ?_) (fun h6 => ?_)
      · refine ae_iinc (q := 64) (lv2 := [(0, .ref (ad 102)), (1, .int (iI a)), (2, .int (iI 1))]) 2 [1, 2, 0] 1 (by omega) dX5_coinFor_61 rfl rfl (by decide) rfl ?_
        refine aw_goto (q := 39) dX5_coinFor_64 (by decide) ?_
        refine aw_iload_n (q := 40) 2 dX5_coinFor_39 rfl rfl rfl ?_
        refine aw_iconst (q := 41) dX5_coinFor_40 rfl ?_
        refine aw_icmp_ge (q := 44) dX5_coinFor_41 rfl (t := 67) (by decide) (by omega) (by omega) (fun h => absurd h (by omega)) (fun _ => ?_)
        refine aw_aload_n (q := 45) 0 dX5_coinFor_44 rfl rfl rfl ?_
        refine g_cp_machine (q := 48) wf_RX5_10 dX5_coinFor_45 rfl ?_
        refine g_mach_till (q := 51) (i := 0) (by omega) wf_RX5_114 dX5_coinFor_48 rfl ?_
        refine aw_iload_n (q := 52) 1 dX5_coinFor_51 rfl rfl rfl ?_
        refine aw_iload_n (q := 53) 2 dX5_coinFor_52 rfl rfl rfl ?_
        refine cv_I (q := 56) (CC := "") (id := 3) (As := [.int (iI a), .int (iI 1)]) 2 (c_till_withCoin1 (T := T) (D := D) (ad := ad) K6 (i := 0) (by omega) (by omega) (fun k z0 z1 => by rw [sK6 _ _ (by omega)]; exact o.2.1.2.2 k z0 z1)) (fun _ h => h) (by omega) (cell_till ad C _ (i := 0) (by omega)) rfl wc_X4_canPayWithCoin wm_RX5_202 wi_X4_canPayWithCoin ws_X4_canPayWithCoin wn_X4 (by decide) rfl ⟨Nat.le_of_ble_eq_true rfl, Nat.le_of_ble_eq_true rfl⟩ ⟨Nat.le_of_ble_eq_true rfl, Nat.le_of_ble_eq_true rfl⟩ (Nat.le_of_ble_eq_true rfl) dX5_coinFor_53 rfl (fun r9 K7 h9 => ?_)
        obtain ⟨hr7, ha7, hb7, hc7, hd7, hs7⟩ := h9
        rw [sK6 0 5 (by omega), sK6 0 6 (by omega), sK6 0 7 (by omega), sK6 0 8 (by omega)] at hr7
        rw [sK6 0 5 (by omega), sK6 0 6 (by omega), sK6 0 7 (by omega), sK6 0 8 (by omega)] at ha7
        rw [sK6 0 5 (by omega), sK6 0 6 (by omega), sK6 0 7 (by omega), sK6 0 8 (by omega)] at hb7
        rw [sK6 0 5 (by omega), sK6 0 6 (by omega), sK6 0 7 (by omega), sK6 0 8 (by omega)] at hc7
        rw [sK6 0 5 (by omega), sK6 0 6 (by omega), sK6 0 7 (by omega), sK6 0 8 (by omega)] at hd7
        have sK7 : sameB (scr 0) G K7 := sK6.tr hs7
        subst hr7
        refine aw_ifb_eq (q := 59) dX5_coinFor_56 rfl (t := 61) (by decide) (fun h7 => ?_) (fun h8 => ?_)
        · refine ae_iinc (q := 64) (lv2 := [(0, .ref (ad 102)), (1, .int (iI a)), (2, .int (iI 2))]) 2 [1, 2, 0] 2 (by omega) dX5_coinFor_61 rfl rfl (by decide) rfl ?_
          refine aw_goto (q := 39) dX5_coinFor_64 (by decide) ?_
          refine aw_iload_n (q := 40) 2 dX5_coinFor_39 rfl rfl rfl ?_
          refine aw_iconst (q := 41) dX5_coinFor_40 rfl ?_
          refine aw_icmp_ge (q := 44) dX5_coinFor_41 rfl (t := 67) (by decide) (by omega) (by omega) (fun h => absurd h (by omega)) (fun _ => ?_)
          refine aw_aload_n (q := 45) 0 dX5_coinFor_44 rfl rfl rfl ?_
          refine g_cp_machine (q := 48) wf_RX5_10 dX5_coinFor_45 rfl ?_
          refine g_mach_till (q := 51) (i := 0) (by omega) wf_RX5_114 dX5_coinFor_48 rfl ?_
          refine aw_iload_n (q := 52) 1 dX5_coinFor_51 rfl rfl rfl ?_
          refine aw_iload_n (q := 53) 2 dX5_coinFor_52 rfl rfl rfl ?_
          refine cv_I (q := 56) (CC := "") (id := 3) (As := [.int (iI a), .int (iI 2)]) 2 (c_till_withCoin2 (T := T) (D := D) (ad := ad) K7 (i := 0) (by omega) (by omega) (fun k z0 z1 => by rw [sK7 _ _ (by omega)]; exact o.2.1.2.2 k z0 z1)) (fun _ h => h) (by omega) (cell_till ad C _ (i := 0) (by omega)) rfl wc_X4_canPayWithCoin wm_RX5_202 wi_X4_canPayWithCoin ws_X4_canPayWithCoin wn_X4 (by decide) rfl ⟨Nat.le_of_ble_eq_true rfl, Nat.le_of_ble_eq_true rfl⟩ ⟨Nat.le_of_ble_eq_true rfl, Nat.le_of_ble_eq_true rfl⟩ (Nat.le_of_ble_eq_true rfl) dX5_coinFor_53 rfl (fun r9 K8 h9 => ?_)
          obtain ⟨hr8, ha8, hb8, hc8, hd8, hs8⟩ := h9
          rw [sK7 0 5 (by omega), sK7 0 6 (by omega), sK7 0 7 (by omega), sK7 0 8 (by omega)] at hr8
          rw [sK7 0 5 (by omega), sK7 0 6 (by omega), sK7 0 7 (by omega), sK7 0 8 (by omega)] at ha8
          rw [sK7 0 5 (by omega), sK7 0 6 (by omega), sK7 0 7 (by omega), sK7 0 8 (by omega)] at hb8
          rw [sK7 0 5 (by omega), sK7 0 6 (by omega), sK7 0 7 (by omega), sK7 0 8 (by omega)] at hc8
          rw [sK7 0 5 (by omega), sK7 0 6 (by omega), sK7 0 7 (by omega), sK7 0 8 (by omega)] at hd8
          have sK8 : sameB (scr 0) G K8 := sK7.tr hs8
          subst hr8
          refine aw_ifb_eq (q := 59) dX5_coinFor_56 rfl (t := 61) (by decide) (fun h9 => ?_) (fun h10 => ?_)
          · refine ae_iinc (q := 64) (lv2 := [(0, .ref (ad 102)), (1, .int (iI a)), (2, .int (iI 3))]) 2 [1, 2, 0] 3 (by omega) dX5_coinFor_61 rfl rfl (by decide) rfl ?_
            refine aw_goto (q := 39) dX5_coinFor_64 (by decide) ?_
            refine aw_iload_n (q := 40) 2 dX5_coinFor_39 rfl rfl rfl ?_
            refine aw_iconst (q := 41) dX5_coinFor_40 rfl ?_
            refine aw_icmp_ge (q := 44) dX5_coinFor_41 rfl (t := 67) (by decide) (by omega) (by omega) (fun h => absurd h (by omega)) (fun _ => ?_)
            refine aw_aload_n (q := 45) 0 dX5_coinFor_44 rfl rfl rfl ?_
            refine g_cp_machine (q := 48) wf_RX5_10 dX5_coinFor_45 rfl ?_
            refine g_mach_till (q := 51) (i := 0) (by omega) wf_RX5_114 dX5_coinFor_48 rfl ?_
            refine aw_iload_n (q := 52) 1 dX5_coinFor_51 rfl rfl rfl ?_
            refine aw_iload_n (q := 53) 2 dX5_coinFor_52 rfl rfl rfl ?_
            refine cv_I (q := 56) (CC := "") (id := 3) (As := [.int (iI a), .int (iI 3)]) 2 (c_till_withCoin3 (T := T) (D := D) (ad := ad) K8 (i := 0) (by omega) (by omega) (fun k z0 z1 => by rw [sK8 _ _ (by omega)]; exact o.2.1.2.2 k z0 z1)) (fun _ h => h) (by omega) (cell_till ad C _ (i := 0) (by omega)) rfl wc_X4_canPayWithCoin wm_RX5_202 wi_X4_canPayWithCoin ws_X4_canPayWithCoin wn_X4 (by decide) rfl ⟨Nat.le_of_ble_eq_true rfl, Nat.le_of_ble_eq_true rfl⟩ ⟨Nat.le_of_ble_eq_true rfl, Nat.le_of_ble_eq_true rfl⟩ (Nat.le_of_ble_eq_true rfl) dX5_coinFor_53 rfl (fun r9 K9 h9 => ?_)
            obtain ⟨hr9, ha9, hb9, hc9, hd9, hs9⟩ := h9
            rw [sK8 0 5 (by omega), sK8 0 6 (by omega), sK8 0 7 (by omega), sK8 0 8 (by omega)] at hr9
            rw [sK8 0 5 (by omega), sK8 0 6 (by omega), sK8 0 7 (by omega), sK8 0 8 (by omega)] at ha9
            rw [sK8 0 5 (by omega), sK8 0 6 (by omega), sK8 0 7 (by omega), sK8 0 8 (by omega)] at hb9
            rw [sK8 0 5 (by omega), sK8 0 6 (by omega), sK8 0 7 (by omega), sK8 0 8 (by omega)] at hc9
            rw [sK8 0 5 (by omega), sK8 0 6 (by omega), sK8 0 7 (by omega), sK8 0 8 (by omega)] at hd9
            have sK9 : sameB (scr 0) G K9 := sK8.tr hs9
            subst hr9
            refine aw_ifb_eq (q := 59) dX5_coinFor_56 rfl (t := 61) (by decide) (fun h11 => ?_) (fun h12 => ?_)
            · refine ae_iinc (q := 64) (lv2 := [(0, .ref (ad 102)), (1, .int (iI a)), (2, .int (iI 4))]) 2 [1, 2, 0] 4 (by omega) dX5_coinFor_61 rfl rfl (by decide) rfl ?_
              refine aw_goto (q := 39) dX5_coinFor_64 (by decide) ?_
              refine aw_iload_n (q := 40) 2 dX5_coinFor_39 rfl rfl rfl ?_
              refine aw_iconst (q := 41) dX5_coinFor_40 rfl ?_
              refine aw_icmp_ge (q := 44) dX5_coinFor_41 rfl (t := 67) (by decide) (by omega) (by omega) (fun _ => ?_) (fun h => absurd h (by omega))
              refine aw_iconst (q := 68) dX5_coinFor_67 rfl ?_
              exact (rt_i rfl (Nat.zero_le _) (Nat.zero_le _) (⟨⟨by omega, by omega⟩, by unfold cfF; repeat (first | exact (if_pos (by assumption)).symm | exact (if_neg (by assumption)).symm | rw [if_neg (by assumption)]), sK9⟩) dX5_coinFor_68)
            · refine aw_iload_n (q := 60) 2 dX5_coinFor_59 rfl rfl rfl ?_
              exact (rt_i rfl (Nat.zero_le _) (Nat.zero_le _) (⟨⟨by omega, by omega⟩, by unfold cfF; repeat (first | exact (if_pos (by assumption)).symm | exact (if_neg (by assumption)).symm | rw [if_neg (by assumption)]), sK9⟩) dX5_coinFor_60)
          · refine aw_iload_n (q := 60) 2 dX5_coinFor_59 rfl rfl rfl ?_
            exact (rt_i rfl (Nat.zero_le _) (Nat.zero_le _) (⟨⟨by omega, by omega⟩, by unfold cfF; repeat (first | exact (if_pos (by assumption)).symm | exact (if_neg (by assumption)).symm | rw [if_neg (by assumption)]), sK8⟩) dX5_coinFor_60)
        · refine aw_iload_n (q := 60) 2 dX5_coinFor_59 rfl rfl rfl ?_
          exact (rt_i rfl (Nat.zero_le _) (Nat.zero_le _) (⟨⟨by omega, by omega⟩, by unfold cfF; repeat (first | exact (if_pos (by assumption)).symm | exact (if_neg (by assumption)).symm | rw [if_neg (by assumption)]), sK7⟩) dX5_coinFor_60)
      · refine aw_iload_n (q := 60) 2 dX5_coinFor_59 rfl rfl rfl ?_
        exact (rt_i rfl (Nat.zero_le _) (Nat.zero_le _) (⟨⟨by omega, by omega⟩, by unfold cfF; repeat (first | exact (if_pos (by assumption)).symm | exact (if_neg (by assumption)).symm | rw [if_neg (by assumption)]), sK6⟩) dX5_coinFor_60)
    · refine aw_iconst (q := 36) dX5_coinFor_35 rfl ?_
      exact (rt_i rfl (Nat.zero_le _) (Nat.zero_le _) (⟨⟨by omega, by omega⟩, by unfold cfF; repeat (first | exact (if_pos (by assumption)).symm | exact (if_neg (by assumption)).symm | rw [if_neg (by assumption)]), sK5⟩) dX5_coinFor_36)
  · exact (by omega : False).elim
set_option maxHeartbeats 4000000 in
set_option maxRecDepth 100000 in
theorem LZ_most {l : Launch} {D : va_G} {C : Nat → ClassId} {T : Nat → Nat} {ad : Int → Nat} (G : GG) {b : Int} (o : okM G) (hb : 0 ≤ b ∧ b ≤ 2000) : ∀ (n : Nat) (c : Int) (K : GG), 0 ≤ c → c ≤ 2000 → c % 5 = 0 → c < n → sameB (scr 0) G K → mpF (G 0 5) (G 0 6) (G 0 7) (G 0 8) (c / 5).toNat = mpF (G 0 5) (G 0 6) (G 0 7) (G 0 8) (b / 5).toNat → AW l RX5 "mostPayable" cX5_mostPayable 3 (some .int) (fun _ => True) { frames := 6, cells := 0, slots := 0, locals := 106 } (hvE D (RI ad C (fun r G1 => (0 ≤ b ∧ b ≤ 2000) ∧ r = mpF (G 0 5) (G 0 6) (G 0 7) (G 0 8) (b / 5).toNat ∧ sameB (scr 0) G G1)) (cw ad C G) 0 0) D (tyC C) (hvZ T (cw ad C G)) (cw ad C G) 27 [(0, .ref (ad 102)), (1, .int (iI b)), (2, .int (iI c))] [] (cw ad C K) 0 0 := by
  intro n
  induction n with
  | zero => intro c K hc hd h5 hn sK hE; exact absurd hn (by omega)
  | succ n ih =>
    intro c K hc hd h5 hn sK hE
    refine aw_iload_n (q := 28) 2 dX5_mostPayable_27 rfl rfl rfl ?_
    refine aw_if_le (q := 31) dX5_mostPayable_28 rfl (t := 51) (by decide) (by omega) (fun h1 => ?_) (fun h2 => ?_)
    · refine aw_iload_n (q := 52) 2 dX5_mostPayable_51 rfl rfl rfl ?_
      exact (rt_i rfl (Nat.zero_le _) (Nat.zero_le _) (⟨⟨by omega, by omega⟩, by rw [show (c / 5).toNat = 0 by omega] at hE; rw [← hE]; show c = 0; omega, sK⟩) dX5_mostPayable_52)
    · refine aw_aload_n (q := 32) 0 dX5_mostPayable_31 rfl rfl rfl ?_
      refine g_cp_machine (q := 35) wf_RX5_10 dX5_mostPayable_32 rfl ?_
      refine g_mach_till (q := 38) (i := 0) (by omega) wf_RX5_114 dX5_mostPayable_35 rfl ?_
      refine aw_iload_n (q := 39) 2 dX5_mostPayable_38 rfl rfl rfl ?_
      refine cv_I (q := 42) (CC := "") (id := 3) (As := [.int (iI c)]) 1 (c_till_canPay (T := T) (D := D) (ad := ad) K (i := 0) (by omega) (by omega) (fun k z0 z1 => by rw [sK _ _ (by omega)]; exact o.2.1.2.2 k z0 z1)) (fun _ h => h) (by omega) (cell_till ad C _ (i := 0) (by omega)) rfl wc_X4_canPay wm_RX5_188 wi_X4_canPay ws_X4_canPay wn_X4 (by decide) rfl ⟨Nat.le_of_ble_eq_true rfl, Nat.le_of_ble_eq_true rfl⟩ ⟨Nat.le_of_ble_eq_true rfl, Nat.le_of_ble_eq_true rfl⟩ (Nat.le_of_ble_eq_true rfl) dX5_mostPayable_39 rfl (fun r9 K10 h9 => ?_)
      obtain ⟨hr10, ha10, hb10, hc10, hd10, hs10⟩ := h9
      rw [sK 0 5 (by omega), sK 0 6 (by omega), sK 0 7 (by omega), sK 0 8 (by omega)] at hr10
      rw [sK 0 5 (by omega), sK 0 6 (by omega), sK 0 7 (by omega), sK 0 8 (by omega)] at ha10
      rw [sK 0 5 (by omega), sK 0 6 (by omega), sK 0 7 (by omega), sK 0 8 (by omega)] at hb10
      rw [sK 0 5 (by omega), sK 0 6 (by omega), sK 0 7 (by omega), sK 0 8 (by omega)] at hc10
      rw [sK 0 5 (by omega), sK 0 6 (by omega), sK 0 7 (by omega), sK 0 8 (by omega)] at hd10
      have sK10 : sameB (scr 0) G K10 := sK.tr hs10
      subst hr10
      refine aw_ifb_ne (q := 45) dX5_mostPayable_42 rfl (t := 51) (by decide) (fun h3 => ?_) (fun h4 => ?_)
      · refine aw_iload_n (q := 52) 2 dX5_mostPayable_51 rfl rfl rfl ?_
        exact (rt_i rfl (Nat.zero_le _) (Nat.zero_le _) (⟨⟨by omega, by omega⟩, by rw [mpF_1 (by omega) (by assumption)] at hE; exact hE, sK10⟩) dX5_mostPayable_52)
      · refine ae_iinc (q := 48) (lv2 := [(0, .ref (ad 102)), (1, .int (iI b)), (2, .int (iI (c - 5)))]) 2 [1, 2, 0] (c - 5) (by omega) dX5_mostPayable_45 rfl rfl (by decide) rfl ?_
        refine aw_goto (q := 27) dX5_mostPayable_48 (by decide) ?_
        exact ih (c - 5) K10 (by omega) (by omega) (by omega) (by omega) sK10 (by rw [mpF_0 (by omega) (by assumption)] at hE; exact hE)
set_option maxHeartbeats 4000000 in
set_option maxRecDepth 100000 in
theorem z_mostPayable {l : Launch} {D : va_G} {C : Nat → ClassId} {T : Nat → Nat} {ad : Int → Nat} (hst : l.stackTraces = false) (G : GG) {b : Int} (o : okM G) (hb : -2147483648 ≤ b ∧ b ≤ 2147483647) (hok : (0 ≤ b ∧ b ≤ 2000)) : MC l yX5_mostPayable cX5_mostPayable 3 (some .int) 6 106 0 0 D (tyC C) T [.ref (ad 102), .int (iI b)] (cw ad C G) (RI ad C (fun r G1 => (0 ≤ b ∧ b ≤ 2000) ∧ r = mpF (G 0 5) (G 0 6) (G 0 7) (G 0 8) (b / 5).toNat ∧ sameB (scr 0) G G1)) := by
  refine mc_of (by decide +kernel) (Nat.le_of_ble_eq_true rfl) rfl ?_
  have m13 := o.1.2.1
  have m14 := o.2.1.1
  have m10 := o.2.2.2.1
  have s0 : sameB (scr 0) G G := sameB.rf
  have q5 := o.2.1.2.2 0 (by omega) (by omega)
  have q6 := o.2.1.2.2 1 (by omega) (by omega)
  have q7 := o.2.1.2.2 2 (by omega) (by omega)
  have q8 := o.2.1.2.2 3 (by omega) (by omega)
  refine aw_iload_n (q := 1) 1 dX5_mostPayable_0 rfl rfl rfl ?_
  refine aw_iconst (q := 2) dX5_mostPayable_1 rfl ?_
  refine aw_sipush (q := 5) dX5_mostPayable_2 rfl (by decide) ?_
  refine cs_I (q := 8) (As := [.int (iI b), .int (iI 0), .int (iI 2000)]) 3 (c_isBetween (T := T) (D := D) (ad := ad) G (by omega) (by omega) (by omega)) (fun _ h => h) wc_X5_isBetween wm_RX5_38 wt_X5_isBetween wn_X5 (by decide) rfl ⟨Nat.le_of_ble_eq_true rfl, Nat.le_of_ble_eq_true rfl⟩ ⟨Nat.le_of_ble_eq_true rfl, Nat.le_of_ble_eq_true rfl⟩ (Nat.le_of_ble_eq_true rfl) dX5_mostPayable_5 rfl (fun r9 G9 h9 => ?_)
  rw [h9.1, h9.2]
  refine aw_ifb_ne (q := 11) dX5_mostPayable_8 rfl (t := 21) (by decide) (fun h1 => ?_) (fun h2 => ?_)
  · refine aw_iload_n (q := 22) 1 dX5_mostPayable_21 rfl rfl rfl ?_
    refine aw_iload_n (q := 23) 1 dX5_mostPayable_22 rfl rfl rfl ?_
    refine aw_iconst (q := 24) dX5_mostPayable_23 rfl ?_
    obtain ⟨d1, hd1⟩ : ∃ z, (b % 5) = z := ⟨_, rfl⟩
    refine aw_rem5 (q := 25) (z := d1) (by omega) (by omega) hd1 dX5_mostPayable_24 rfl ?_
    refine ae_isub (q := 26) (b - d1) (by omega) dX5_mostPayable_25 rfl ?_
    refine aw_istore_n (q := 27) (lv2 := [(0, .ref (ad 102)), (1, .int (iI b)), (2, .int (iI (b - d1)))]) [1, 2, 0] dX5_mostPayable_26 rfl rfl (by decide) rfl rfl ?_
    exact LZ_most G o (by omega) 3000 _ G (by omega) (by omega) (by omega) (by omega) s0 (congrArg (fun z : Int => mpF (G 0 5) (G 0 6) (G 0 7) (G 0 8) z.toNat) (by omega))
  · exact (by omega : False).elim
set_option maxHeartbeats 4000000 in
set_option maxRecDepth 100000 in
theorem z_priceIn {l : Launch} {D : va_G} {C : Nat → ClassId} {T : Nat → Nat} {ad : Int → Nat} (hst : l.stackTraces = false) (G : GG) {c h : Int} (o : okM G) (hc : -2147483648 ≤ c ∧ c ≤ 2147483647) (hh : -2147483648 ≤ h ∧ h ≤ 2147483647) (hok : ((0 ≤ c ∧ c < G 0 13) ∧ (0 ≤ h ∧ h ≤ 48))) : MC l yX5_priceIn cX5_priceIn 3 (some .int) 6 123 0 0 D (tyC C) T [.ref (ad 102), .int (iI c), .int (iI h)] (cw ad C G) (RI ad C (fun r G1 => ((0 ≤ c ∧ c < G 0 13) ∧ (0 ≤ h ∧ h ≤ 48)) ∧ ∃ K, overP G 1 0 K ∧ r = hoursR (K 1) h.toNat (15 + 12 * c + 2) ∧ G1 = onR K 1 (hoursR (K 1) h.toNat))) := by
  refine mc_of (by decide +kernel) (Nat.le_of_ble_eq_true rfl) rfl ?_
  have m13 := o.1.2.1
  have m14 := o.2.1.1
  have m10 := o.2.2.2.1
  have s0 : sameB (scr 0) G G := sameB.rf
  have q5 := o.2.1.2.2 0 (by omega) (by omega)
  have q6 := o.2.1.2.2 1 (by omega) (by omega)
  have q7 := o.2.1.2.2 2 (by omega) (by omega)
  have q8 := o.2.1.2.2 3 (by omega) (by omega)
  refine aw_aload_n (q := 1) 0 dX5_priceIn_0 rfl rfl rfl ?_
  refine g_cp_machine (q := 4) wf_RX5_10 dX5_priceIn_1 rfl ?_
  refine aw_iload_n (q := 5) 1 dX5_priceIn_4 rfl rfl rfl ?_
  refine cv_I (q := 8) (CC := "") (id := 0) (As := [.int (iI c)]) 1 (c_m_hasCoil (T := T) (D := D) (ad := ad) G (i := 0) (by omega) (by omega) o.1.2.1) (fun _ h => h) (by omega) (cell_mach ad C _ (i := 0) (by omega)) rfl wc_X1_hasCoil wm_RX5_90 wi_X1_hasCoil ws_X1_hasCoil wn_X1 (by decide) rfl ⟨Nat.le_of_ble_eq_true rfl, Nat.le_of_ble_eq_true rfl⟩ ⟨Nat.le_of_ble_eq_true rfl, Nat.le_of_ble_eq_true rfl⟩ (Nat.le_of_ble_eq_true rfl) dX5_priceIn_5 rfl (fun r9 G9 h9 => ?_)
  rw [h9.1, h9.2]
  refine aw_ifb_ne (q := 11) dX5_priceIn_8 rfl (t := 21) (by decide) (fun h1 => ?_) (fun h2 => ?_)
  · refine aw_iload_n (q := 22) 2 dX5_priceIn_21 rfl rfl rfl ?_
    refine aw_iconst (q := 23) dX5_priceIn_22 rfl ?_
    refine aw_bipush (q := 25) dX5_priceIn_23 rfl (by decide) ?_
    refine cs_I (q := 28) (As := [.int (iI h), .int (iI 0), .int (iI 48)]) 3 (c_isBetween (T := T) (D := D) (ad := ad) G (by omega) (by omega) (by omega)) (fun _ h => h) wc_X5_isBetween wm_RX5_38 wt_X5_isBetween wn_X5 (by decide) rfl ⟨Nat.le_of_ble_eq_true rfl, Nat.le_of_ble_eq_true rfl⟩ ⟨Nat.le_of_ble_eq_true rfl, Nat.le_of_ble_eq_true rfl⟩ (Nat.le_of_ble_eq_true rfl) dX5_priceIn_25 rfl (fun r9 G9 h9 => ?_)
    rw [h9.1, h9.2]
    refine aw_ifb_ne (q := 31) dX5_priceIn_28 rfl (t := 41) (by decide) (fun h3 => ?_) (fun h4 => ?_)
    · refine aw_aload_n (q := 42) 0 dX5_priceIn_41 rfl rfl rfl ?_
      refine g_cp_trial (q := 45) wf_RX5_16 dX5_priceIn_42 rfl ?_
      refine aw_aload_n (q := 46) 0 dX5_priceIn_45 rfl rfl rfl ?_
      refine g_cp_machine (q := 49) wf_RX5_10 dX5_priceIn_46 rfl ?_
      refine cv_V (q := 52) (CC := "") (id := 17) (As := [.ref (ad 0)]) 1 (c_m_takeOver (T := T) (D := D) (ad := ad) G (i := 1) (j := 0) (by omega) (by omega) (by omega) m13 (okC_z o)) (fun _ h => h) (by omega) (cell_mach ad C _ (i := 1) (by omega)) rfl wc_X1_takeOver wm_RX5_205 wi_X1_takeOver ws_X1_takeOver wn_X1 (by decide) rfl ⟨Nat.le_of_ble_eq_true rfl, Nat.le_of_ble_eq_true rfl⟩ ⟨Nat.le_of_ble_eq_true rfl, Nat.le_of_ble_eq_true rfl⟩ (Nat.le_of_ble_eq_true rfl) dX5_priceIn_49 rfl (fun K k9 => ?_)
      have kO : okH (K 1) := okH_over k9 o.1
      refine aw_aload_n (q := 53) 0 dX5_priceIn_52 rfl rfl rfl ?_
      refine g_cp_trial (q := 56) wf_RX5_16 dX5_priceIn_53 rfl ?_
      refine aw_iload_n (q := 57) 2 dX5_priceIn_56 rfl rfl rfl ?_
      refine cv_I (q := 60) (CC := "") (id := 17) (As := [.int (iI h)]) 1 (c_m_passHours (T := T) (D := D) (ad := ad) K (i := 1) (by omega) kO (by omega)) (fun _ h => h) (by omega) (cell_mach ad C _ (i := 1) (by omega)) rfl wc_X1_passHours wm_RX5_147 wi_X1_passHours ws_X1_passHours wn_X1 (by decide) rfl ⟨Nat.le_of_ble_eq_true rfl, Nat.le_of_ble_eq_true rfl⟩ ⟨Nat.le_of_ble_eq_true rfl, Nat.le_of_ble_eq_true rfl⟩ (Nat.le_of_ble_eq_true rfl) dX5_priceIn_57 rfl (fun r9 G9 h9 => ?_)
      refine aw_pop (q := 61) dX5_priceIn_60 rfl rfl ?_
      refine aw_aload_n (q := 62) 0 dX5_priceIn_61 rfl rfl rfl ?_
      refine g_cp_trial (q := 65) wf_RX5_16 dX5_priceIn_62 rfl ?_
      refine g_mach_coils (q := 68) (i := 1) (by omega) wf_RX5_156 dX5_priceIn_65 rfl ?_
      refine aw_iload_n (q := 69) 1 dX5_priceIn_68 rfl rfl rfl ?_
      refine aw_coil (q := 70) (i := 1) (by omega) (by omega) dX5_priceIn_69 rfl ?_
      refine g_coil_price (q := 73) (i := 1) (c := c) (by omega) (by omega) (v := (G9 1 (15 + 12 * c + 2))) rfl wf_RX5_209 dX5_priceIn_70 rfl ?_
      exact (rt_i rfl (Nat.zero_le _) (Nat.zero_le _) (⟨⟨by omega, by omega⟩, K, k9, by rw [h9.2]; exact congrFun (onR_at _ _ _) _, h9.2⟩) dX5_priceIn_73)
    · exact (by omega : False).elim
  · exact (by omega : False).elim
set_option maxHeartbeats 4000000 in
set_option maxRecDepth 100000 in
theorem LZ_row {l : Launch} {D : va_G} {C : Nat → ClassId} {T : Nat → Nat} {ad : Int → Nat} (G : GG) {c b d : Int} {Pq : Int → GG → Prop}  : ∀ (n : Nat) (m : Int) (K : GG), 0 ≤ m → m ≤ 20 → 20 - m < n → okN K 1 → (0 ≤ c ∧ c < K 1 13) → (∀ k : Int, 0 ≤ k → k < 4 → 0 ≤ K 10 k ∧ K 10 k ≤ 9) → (∀ r G1, salesP 1 c (20 - m).toNat K (r - m) G1 → Pq r G1) → AW l RX5 "salesInARow" cX5_salesInARow 5 (some .int) (fun _ => True) { frames := 6, cells := 0, slots := 0, locals := 151 } (hvE D (RI ad C Pq) (cw ad C G) 0 0) D (tyC C) (hvZ T (cw ad C G)) (cw ad C G) 56 [(0, .ref (ad 102)), (1, .int (iI c)), (2, .int (iI b)), (3, .int (iI d)), (4, .int (iI m))] [] (cw ad C K) 0 0 := by
  intro n
  induction n with
  | zero => intro m K hm hd hn oK hcc kc hQ; exact absurd hn (by omega)
  | succ n ih =>
    intro m K hm hd hn oK hcc kc hQ
    have h8 := oK.1.2.1
    have oc : okC (K 1) c := oK.1.2.2 c (by omega) (by omega)
    have oc1 := oc.1
    have oc2 := oc.2.1
    have oc3 := oc.2.2.1
    have oc4 := oc.2.2.2.1
    have oc5 := oc.2.2.2.2.1
    have ol := oK.1.1.2.2.2.1
    have os := okR_5 oK.2.1.1.1 oK.2.2
    have os2 := oK.2.2.2.2
    have op := oK.2.1.1
    refine aw_iload (q := 58) 4 dX5_salesInARow_56 rfl rfl ?_
    refine aw_bipush (q := 60) dX5_salesInARow_58 rfl (by decide) ?_
    refine aw_icmp_ge (q := 63) dX5_salesInARow_60 rfl (t := 97) (by decide) (by omega) (by omega) (fun h1 => ?_) (fun h2 => ?_)
    · refine aw_iload (q := 99) 4 dX5_salesInARow_97 rfl rfl ?_
      exact (rt_i rfl (Nat.zero_le _) (Nat.zero_le _) (hQ _ _ (by rw [show (20 - m).toNat = 0 by omega]; exact ⟨by omega, rfl⟩)) dX5_salesInARow_99)
    · refine aw_aload_n (q := 64) 0 dX5_salesInARow_63 rfl rfl rfl ?_
      refine g_cp_trial (q := 67) wf_RX5_16 dX5_salesInARow_64 rfl ?_
      refine aw_iload_n (q := 68) 1 dX5_salesInARow_67 rfl rfl rfl ?_
      refine aw_aload_n (q := 69) 0 dX5_salesInARow_68 rfl rfl rfl ?_
      refine g_cp_coinsIn (q := 72) wf_RX5_34 dX5_salesInARow_69 rfl ?_
      refine cv_I (q := 75) (CC := "") (id := 17) (As := [.int (iI c), .ref (ad 107)]) 2 (c_m_canSell (T := T) (D := D) (ad := ad) K (i := 1) (by omega) (by omega) oK.2.1.2.2 (ar_107 ad C) (by omega) kc (by omega) oc1 (by omega) (by omega)) (fun _ h => h) (by omega) (cell_mach ad C _ (i := 1) (by omega)) rfl wc_X1_canSell wm_RX5_126 wi_X1_canSell ws_X1_canSell wn_X1 (by decide) rfl ⟨Nat.le_of_ble_eq_true rfl, Nat.le_of_ble_eq_true rfl⟩ ⟨Nat.le_of_ble_eq_true rfl, Nat.le_of_ble_eq_true rfl⟩ (Nat.le_of_ble_eq_true rfl) dX5_salesInARow_72 rfl (fun r9 K1 h9 => ?_)
      obtain ⟨hr9, s1⟩ := h9
      subst hr9
      refine aw_ifb_eq (q := 78) dX5_salesInARow_75 rfl (t := 97) (by decide) (fun h3 => ?_) (fun h4 => ?_)
      · refine aw_iload (q := 99) 4 dX5_salesInARow_97 rfl rfl ?_
        exact (rt_i rfl (Nat.zero_le _) (Nat.zero_le _) (hQ _ _ (by rw [show (20 - m).toNat = (20 - (m + 1)).toNat + 1 by omega]; exact Or.inl ⟨by assumption, by omega, s1⟩)) dX5_salesInARow_99)
      · refine aw_aload_n (q := 79) 0 dX5_salesInARow_78 rfl rfl rfl ?_
        refine g_cp_trial (q := 82) wf_RX5_16 dX5_salesInARow_79 rfl ?_
        refine aw_iload_n (q := 83) 1 dX5_salesInARow_82 rfl rfl rfl ?_
        refine aw_aload_n (q := 84) 0 dX5_salesInARow_83 rfl rfl rfl ?_
        refine g_cp_coinsIn (q := 87) wf_RX5_34 dX5_salesInARow_84 rfl ?_
        have hcan : canSellP K 1 c 10 := by assumption
        have o1 : okN K1 1 := okN_congr (fun y z => s1 _ _ (by omega)) oK
        have r8 : ∀ y : Int, y < 312 → K1 1 y = K 1 y := fun y z => s1 _ _ (by omega)
        have r10 : ∀ y : Int, K1 10 y = K 10 y := fun y => s1 _ _ (by omega)
        have cg := canSell_congr (G := K) (H := K1) (i := 1) (c := c) (pg := 10) (by omega) r8 r10
        have oc8 : okC (K1 1) c := o1.1.2.2 c (by omega) (by rw [r8 13 (by omega)]; omega)
        have hc8 : ∀ k : Int, 0 ≤ k → k < 4 → 0 ≤ K1 10 k ∧ K1 10 k ≤ 9 := fun k z0 z1 => by rw [r10]; exact kc k z0 z1
        have hn8 := room_sale (G := K1) (i := 1) (c := c) (pg := 10) (by omega) oc8 o1.1.1 o1.2.1 ⟨okR_5 o1.2.1.1.1 o1.2.2, o1.2.2.2.2⟩ hc8 (cg.2.2.mpr hcan)
        have p81 := oc8.1
        have p82 := oc8.2.1
        have p83 := oc8.2.2.1
        have p84 := oc8.2.2.2.1
        have p85 := oc8.2.2.2.2.1
        refine cv_I (q := 90) (CC := "") (id := 17) (As := [.int (iI c), .ref (ad 107)]) 2 (c_m_sell (T := T) (D := D) (ad := ad) K1 (i := 1) (by omega) (by omega) o1.2.1 (ar_107 ad C) (by omega) hc8 (by omega) p81 (cg.2.2.mpr hcan).2.1 hn8 (fw_add1 oc8.2.2.2.2.2.2.2.1).1) (fun _ h => h) (by omega) (cell_mach ad C _ (i := 1) (by omega)) rfl wc_X1_sell wm_RX5_132 wi_X1_sell ws_X1_sell wn_X1 (by decide) rfl ⟨Nat.le_of_ble_eq_true rfl, Nat.le_of_ble_eq_true rfl⟩ ⟨Nat.le_of_ble_eq_true rfl, Nat.le_of_ble_eq_true rfl⟩ (Nat.le_of_ble_eq_true rfl) dX5_salesInARow_87 rfl (fun r9 G9 h9 => ?_)
        refine aw_pop (q := 91) dX5_salesInARow_90 rfl rfl ?_
        refine ae_iinc (q := 94) (lv2 := [(0, .ref (ad 102)), (1, .int (iI c)), (2, .int (iI b)), (3, .int (iI d)), (4, .int (iI (m + 1)))]) 4 [1, 2, 3, 4, 0] (m + 1) (by omega) dX5_salesInARow_91 rfl rfl (by decide) rfl ?_
        refine aw_goto (q := 56) dX5_salesInARow_94 (by decide) ?_
        exact ih (m + 1) G9 (by omega) (by omega) (by omega) (okN_sell (by rw [r8 13 (by omega)]; omega) o1 hc8 (cg.2.2.mpr hcan) h9) (by rw [sell_ne h9 (by omega) (by omega), r8 13 (by omega)]; omega) (fun k z0 z1 => by rw [sell_ne h9 (by omega) (by omega)]; exact hc8 k z0 z1) (fun r G1 z => hQ r G1 (by
                rw [show (20 - m).toNat = (20 - (m + 1)).toNat + 1 by omega]
                exact Or.inr ⟨hcan, K1, G9, _, s1, h9, by rw [show r - m - 1 = r - (m + 1) by omega]; exact z⟩))
set_option maxHeartbeats 4000000 in
set_option maxRecDepth 100000 in
theorem z_salesInARow {l : Launch} {D : va_G} {C : Nat → ClassId} {T : Nat → Nat} {ad : Int → Nat} (hst : l.stackTraces = false) (G : GG) {c b d : Int} (o : okM G) (oN : okN G 0) (hc : -2147483648 ≤ c ∧ c ≤ 2147483647) (hb : -2147483648 ≤ b ∧ b ≤ 2147483647) (hd : -2147483648 ≤ d ∧ d ≤ 2147483647) (hok : ((0 ≤ c ∧ c < G 0 13) ∧ ((0 ≤ b ∧ b ≤ 9) ∧ (0 ≤ d ∧ d ≤ 9)))) : MC l yX5_salesInARow cX5_salesInARow 5 (some .int) 6 151 0 0 D (tyC C) T [.ref (ad 102), .int (iI c), .int (iI b), .int (iI d)] (cw ad C G) (RI ad C (fun r G1 => ((0 ≤ c ∧ c < G 0 13) ∧ ((0 ≤ b ∧ b ≤ 9) ∧ (0 ≤ d ∧ d ≤ 9))) ∧ ∃ K2, overP (cinG G 0 b 0 d) 1 0 K2 ∧ salesP 1 c 20 K2 r G1)) := by
  refine mc_of (by decide +kernel) (Nat.le_of_ble_eq_true rfl) rfl ?_
  have m13 := o.1.2.1
  have m14 := o.2.1.1
  have m10 := o.2.2.2.1
  refine aw_aload_n (q := 1) 0 dX5_salesInARow_0 rfl rfl rfl ?_
  refine g_cp_machine (q := 4) wf_RX5_10 dX5_salesInARow_1 rfl ?_
  refine aw_iload_n (q := 5) 1 dX5_salesInARow_4 rfl rfl rfl ?_
  refine cv_I (q := 8) (CC := "") (id := 0) (As := [.int (iI c)]) 1 (c_m_hasCoil (T := T) (D := D) (ad := ad) G (i := 0) (by omega) (by omega) o.1.2.1) (fun _ h => h) (by omega) (cell_mach ad C _ (i := 0) (by omega)) rfl wc_X1_hasCoil wm_RX5_90 wi_X1_hasCoil ws_X1_hasCoil wn_X1 (by decide) rfl ⟨Nat.le_of_ble_eq_true rfl, Nat.le_of_ble_eq_true rfl⟩ ⟨Nat.le_of_ble_eq_true rfl, Nat.le_of_ble_eq_true rfl⟩ (Nat.le_of_ble_eq_true rfl) dX5_salesInARow_5 rfl (fun r9 G9 h9 => ?_)
  rw [h9.1, h9.2]
  refine aw_ifb_ne (q := 11) dX5_salesInARow_8 rfl (t := 21) (by decide) (fun h1 => ?_) (fun h2 => ?_)
  · refine aw_aload_n (q := 22) 0 dX5_salesInARow_21 rfl rfl rfl ?_
    refine aw_iconst (q := 23) dX5_salesInARow_22 rfl ?_
    refine aw_iload_n (q := 24) 2 dX5_salesInARow_23 rfl rfl rfl ?_
    refine aw_iconst (q := 25) dX5_salesInARow_24 rfl ?_
    refine aw_iload_n (q := 26) 3 dX5_salesInARow_25 rfl rfl rfl ?_
    refine cv_I (q := 29) (CC := "") (id := 102) (As := [.int (iI 0), .int (iI b), .int (iI 0), .int (iI d)]) 4 (c_holdOut (T := T) (D := D) (ad := ad) G (by omega) (by omega) (by omega) (by omega)) (fun _ h => h) (by omega) (cell_102 ad C _) rfl wc_X5_holdOut wm_RX5_123 wi_X5_holdOut ws_X5_holdOut wn_X5 (by decide) rfl ⟨Nat.le_of_ble_eq_true rfl, Nat.le_of_ble_eq_true rfl⟩ ⟨Nat.le_of_ble_eq_true rfl, Nat.le_of_ble_eq_true rfl⟩ (Nat.le_of_ble_eq_true rfl) dX5_salesInARow_26 rfl (fun r9 G9 h9 => ?_)
    rw [h9.1, h9.2]
    refine aw_ifb_ne (q := 32) dX5_salesInARow_29 rfl (t := 42) (by decide) (fun h3 => ?_) (fun h4 => ?_)
    · obtain ⟨K, hK⟩ : ∃ K, K = cinG G 0 b 0 d := ⟨_, rfl⟩
      rw [← hK]
      have kn : ∀ x y : Int, x ≠ 10 → K x y = G x y := fun x y h => by rw [hK]; exact cinG_ne h
      have k0 : K 10 0 = 0 := by rw [hK]; exact cinG_0 ..
      have k1 : K 10 1 = b := by rw [hK]; exact cinG_1 ..
      have k2 : K 10 2 = 0 := by rw [hK]; exact cinG_2 ..
      have k3 : K 10 3 = d := by rw [hK]; exact cinG_3 ..
      have kc : ∀ k : Int, 0 ≤ k → k < 4 → 0 ≤ K 10 k ∧ K 10 k ≤ 9 := fun k z0 z1 => by
        have z : k = 0 ∨ k = 1 ∨ k = 2 ∨ k = 3 := by omega
        rcases z with rfl | rfl | rfl | rfl
        · rw [k0]; omega
        · rw [k1]; omega
        · rw [k2]; omega
        · rw [k3]; omega
      have oK : okM K := okM_congr (fun y _ => kn _ _ (by omega)) (fun y => kn _ _ (by omega)) o
      have nK : okN K 0 := okN_congr (fun y _ => kn _ _ (by omega)) oN
      have e13 : K 0 13 = G 0 13 := kn _ _ (by omega)
      refine aw_aload_n (q := 43) 0 dX5_salesInARow_42 rfl rfl rfl ?_
      refine g_cp_trial (q := 46) wf_RX5_16 dX5_salesInARow_43 rfl ?_
      refine aw_aload_n (q := 47) 0 dX5_salesInARow_46 rfl rfl rfl ?_
      refine g_cp_machine (q := 50) wf_RX5_10 dX5_salesInARow_47 rfl ?_
      refine cv_V (q := 53) (CC := "") (id := 17) (As := [.ref (ad 0)]) 1 (c_m_takeOver (T := T) (D := D) (ad := ad) K (i := 1) (j := 0) (by omega) (by omega) (by omega) oK.1.2.1 (okC_z oK)) (fun _ h => h) (by omega) (cell_mach ad C _ (i := 1) (by omega)) rfl wc_X1_takeOver wm_RX5_205 wi_X1_takeOver ws_X1_takeOver wn_X1 (by decide) rfl ⟨Nat.le_of_ble_eq_true rfl, Nat.le_of_ble_eq_true rfl⟩ ⟨Nat.le_of_ble_eq_true rfl, Nat.le_of_ble_eq_true rfl⟩ (Nat.le_of_ble_eq_true rfl) dX5_salesInARow_50 rfl (fun K2 k9 => ?_)
      refine aw_iconst (q := 54) dX5_salesInARow_53 rfl ?_
      refine aw_istore (q := 56) (lv2 := [(0, .ref (ad 102)), (1, .int (iI c)), (2, .int (iI b)), (3, .int (iI d)), (4, .int (iI 0))]) [1, 2, 3, 4, 0] dX5_salesInARow_54 rfl (by decide) rfl rfl ?_
      exact LZ_row G 22 0 K2 (by omega) (by omega) (by omega) (okN_over k9 nK) (by rw [k9.1 13 (by omega) (by omega)]; omega) (fun k z0 z1 => by rw [k9.2.2.2 10 k (by omega)]; exact kc k z0 z1) (fun r G1 z => ⟨⟨by omega, by omega⟩, K2, k9, by have z2 : salesP 1 c 20 K2 (r - 0) G1 := z; rw [Int.sub_zero] at z2; exact z2⟩)
    · exact (by omega : False).elim
  · exact (by omega : False).elim

