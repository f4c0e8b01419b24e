/-! class CoilPrices: the face -/
/-- what always holds of the machine's page -/
def okM (G : GG) : Prop := okH (G 0) ∧ okP G 0 ∧ (5 * G 0 14 ≤ G 0 311 ∧ G 0 311 ≤ 1000) ∧ (0 ≤ G 0 10 ∧ G 0 10 ≤ 100000) ∧ okV G
def stp (w v : Int) : Prop := tbV 2 w.toNat ≤ v ∧ v ≤ tbV 3 w.toNat ∧ v % tbV 4 w.toNat = 0
theorem okC_z {G : GG} (o : okM G) : ∀ d : Int, 0 ≤ d → d < G 0 13 → (G 0 (15 + 12 * d + 11) = 0 ∨ G 0 (15 + 12 * d + 11) = 1) := fun d z0 z1 => (o.1.2.2 d z0 z1).2.2.2.2.2.2.2.2.1
set_option maxHeartbeats 4000000 in
set_option maxRecDepth 100000 in
theorem c_set0 {l : Launch} {D : va_G} {C : Nat → ClassId} {T : Nat → Nat} {ad : Int → Nat} (hst : l.stackTraces = false) (G : GG) {v : Int} (o : okM G) (hv : -2147483648 ≤ v ∧ v ≤ 2147483647) : MX l yX5_set cX5_set 3 (some .int) 6 99 1 6 D (tyC C) T [.ref (ad 102), .int (iI 0), .int (iI v)] (cw ad C G) (RI ad C (fun r G1 => (1 ≤ v ∧ v ≤ 100 ∧ v % 1 = 0) ∧ ∃ H, saveP G H ∧ r = G 0 0 ∧ G1 = setG H 0 0 v)) (RX ad C (fun E G1 => G1 = G ∧ ((E = xIA ∧ ¬ (1 ≤ v ∧ v ≤ 100 ∧ v % 1 = 0))))) := by
  refine mx_of (by decide +kernel) (Nat.le_of_ble_eq_true rfl) rfl ?_
  have m13 := o.1.2.1
  have m14 := o.2.1.1
  have m10 := o.2.2.2.1
  refine aw_iload_n (q := 1) 1 dX5_set_0 rfl rfl rfl ?_
  refine aw_iconst (q := 2) dX5_set_1 rfl ?_
  refine aw_iconst (q := 3) dX5_set_2 rfl ?_
  refine cs_I (q := 6) (As := [.int (iI 0), .int (iI 0), .int (iI 4)]) 3 (c_isBetween (T := T) (D := D) (ad := ad) G (by omega) (by omega) (by omega)) (fun _ h => h) wc_X5_isBetween wm_RX5_38 wt_X5_isBetween wn_X5 (by decide) rfl ⟨Nat.le_of_ble_eq_true rfl, Nat.le_of_ble_eq_true rfl⟩ ⟨Nat.le_of_ble_eq_true rfl, Nat.le_of_ble_eq_true rfl⟩ (Nat.le_of_ble_eq_true rfl) dX5_set_3 rfl (fun r9 G9 h9 => ?_)
  rw [h9.1, h9.2]
  refine aw_ifb_ne (q := 9) dX5_set_6 rfl (t := 19) (by decide) (fun h1 => ?_) (fun h2 => ?_)
  · refine aw_iload_n (q := 20) 2 dX5_set_19 rfl rfl rfl ?_
    refine ae_gets (q := 23) 4 (by decide) (fun _ h => h) wf_RX5_49 dX5_set_20 rfl ?_
    refine aw_iload_n (q := 24) 1 dX5_set_23 rfl rfl rfl ?_
    refine ae_ti (q := 25) 4 1 (by decide) (by decide) (fun _ h => h) (by decide) dX5_set_24 rfl ?_
    refine ae_gets (q := 28) 2 (by decide) (fun _ h => h) wf_RX5_52 dX5_set_25 rfl ?_
    refine aw_iload_n (q := 29) 1 dX5_set_28 rfl rfl rfl ?_
    refine ae_ti (q := 30) 2 1 (by decide) (by decide) (fun _ h => h) (by decide) dX5_set_29 rfl ?_
    refine ae_gets (q := 33) 3 (by decide) (fun _ h => h) wf_RX5_55 dX5_set_30 rfl ?_
    refine aw_iload_n (q := 34) 1 dX5_set_33 rfl rfl rfl ?_
    refine ae_ti (q := 35) 3 100 (by decide) (by decide) (fun _ h => h) (by decide) dX5_set_34 rfl ?_
    refine cs_I (q := 38) (As := [.int (iI v), .int (iI 1), .int (iI 1), .int (iI 100)]) 4 (c_isStep1 (T := T) (D := D) (ad := ad) G (by omega) (by omega) (by omega)) (fun _ h => h) wc_X5_isStepBetween wm_RX5_58 wt_X5_isStepBetween wn_X5 (by decide) rfl ⟨Nat.le_of_ble_eq_true rfl, Nat.le_of_ble_eq_true rfl⟩ ⟨Nat.le_of_ble_eq_true rfl, Nat.le_of_ble_eq_true rfl⟩ (Nat.le_of_ble_eq_true rfl) dX5_set_35 rfl (fun r9 G9 h9 => ?_)
    rw [h9.1, h9.2]
    refine aw_ifb_ne (q := 41) dX5_set_38 rfl (t := 51) (by decide) (fun h3 => ?_) (fun h4 => ?_)
    · refine aw_aload_n (q := 52) 0 dX5_set_51 rfl rfl rfl ?_
      refine cv_V (q := 55) (CC := "") (id := 102) (As := []) 0 (c_save (T := T) (D := D) (ad := ad) G o.2.2.2.2 o.1.2.1 (okC_z o)) (fun _ h => h) (by omega) (cell_102 ad C _) rfl wc_X5_save wm_RX5_64 wi_X5_save ws_X5_save wn_X5 (by decide) rfl ⟨Nat.le_of_ble_eq_true rfl, Nat.le_of_ble_eq_true rfl⟩ ⟨Nat.le_of_ble_eq_true rfl, Nat.le_of_ble_eq_true rfl⟩ (Nat.le_of_ble_eq_true rfl) dX5_set_52 rfl (fun H8 s8 => ?_)
      refine aw_aload_n (q := 56) 0 dX5_set_55 rfl rfl rfl ?_
      refine g_cp_machine (q := 59) wf_RX5_10 dX5_set_56 rfl ?_
      refine aw_iload_n (q := 60) 1 dX5_set_59 rfl rfl rfl ?_
      refine aw_iload_n (q := 61) 2 dX5_set_60 rfl rfl rfl ?_
      refine cv_I (q := 64) (CC := "") (id := 0) (As := [.int (iI 0), .int (iI v)]) 2 (c_m_changeSetting (T := T) (D := D) (ad := ad) H8 (i := 0) (by omega) (by omega)) (fun _ h => h) (by omega) (cell_mach ad C _ (i := 0) (by omega)) rfl wc_X1_changeSetting wm_RX5_67 wi_X1_changeSetting ws_X1_changeSetting wn_X1 (by decide) rfl ⟨Nat.le_of_ble_eq_true rfl, Nat.le_of_ble_eq_true rfl⟩ ⟨Nat.le_of_ble_eq_true rfl, Nat.le_of_ble_eq_true rfl⟩ (Nat.le_of_ble_eq_true rfl) dX5_set_61 rfl (fun r9 G9 h9 => ?_)
      rw [h9.1, h9.2]
      exact ax_of (rt_i rfl (Nat.zero_le _) (Nat.zero_le _) (⟨by omega, H8, s8, saveP_ne o.2.2.2.2 s8 (by omega), rfl⟩) dX5_set_64)
    · exact aw_throwS (text := strT 62) (fun _ h => h) hst (fun _ h => h) th_42_46 (by decide +kernel) dX5_set_41 dX5_set_44 dX5_set_45 dX5_set_47 dX5_set_50 (Nat.le_of_ble_eq_true rfl) (Nat.le_of_ble_eq_true rfl) (Nat.le_of_ble_eq_true rfl) (Nat.le_of_ble_eq_true rfl) (Nat.le_of_ble_eq_true rfl) (Nat.le_of_ble_eq_true rfl) ⟨_, rfl, ⟨rfl, by first | exact ⟨rfl, by omega⟩ | exact Or.inl ⟨rfl, by omega⟩ | exact Or.inr ⟨rfl, by omega⟩ | exact Or.inr (Or.inl ⟨rfl, by omega⟩) | exact Or.inr (Or.inr ⟨rfl, by omega⟩)⟩⟩
  · exact aw_throwS (text := strT 44) (fun _ h => h) hst (fun _ h => h) th_42_46 (by decide +kernel) dX5_set_9 dX5_set_12 dX5_set_13 dX5_set_15 dX5_set_18 (Nat.le_of_ble_eq_true rfl) (Nat.le_of_ble_eq_true rfl) (Nat.le_of_ble_eq_true rfl) (Nat.le_of_ble_eq_true rfl) (Nat.le_of_ble_eq_true rfl) (Nat.le_of_ble_eq_true rfl) ⟨_, rfl, ⟨rfl, by first | exact ⟨rfl, by omega⟩ | exact Or.inl ⟨rfl, by omega⟩ | exact Or.inr ⟨rfl, by omega⟩ | exact Or.inr (Or.inl ⟨rfl, by omega⟩) | exact Or.inr (Or.inr ⟨rfl, by omega⟩)⟩⟩
set_option maxHeartbeats 4000000 in
set_option maxRecDepth 100000 in
theorem c_set1 {l : Launch} {D : va_G} {C : Nat → ClassId} {T : Nat → Nat} {ad : Int → Nat} (hst : l.stackTraces = false) (G : GG) {v : Int} (o : okM G) (hv : -2147483648 ≤ v ∧ v ≤ 2147483647) : MX l yX5_set cX5_set 3 (some .int) 6 99 1 6 D (tyC C) T [.ref (ad 102), .int (iI 1), .int (iI v)] (cw ad C G) (RI ad C (fun r G1 => (0 ≤ v ∧ v ≤ 100 ∧ v % 1 = 0) ∧ ∃ H, saveP G H ∧ r = G 0 1 ∧ G1 = setG H 0 1 v)) (RX ad C (fun E G1 => G1 = G ∧ ((E = xIA ∧ ¬ (0 ≤ v ∧ v ≤ 100 ∧ v % 1 = 0))))) := by
  refine mx_of (by decide +kernel) (Nat.le_of_ble_eq_true rfl) rfl ?_
  have m13 := o.1.2.1
  have m14 := o.2.1.1
  have m10 := o.2.2.2.1
  refine aw_iload_n (q := 1) 1 dX5_set_0 rfl rfl rfl ?_
  refine aw_iconst (q := 2) dX5_set_1 rfl ?_
  refine aw_iconst (q := 3) dX5_set_2 rfl ?_
  refine cs_I (q := 6) (As := [.int (iI 1), .int (iI 0), .int (iI 4)]) 3 (c_isBetween (T := T) (D := D) (ad := ad) G (by omega) (by omega) (by omega)) (fun _ h => h) wc_X5_isBetween wm_RX5_38 wt_X5_isBetween wn_X5 (by decide) rfl ⟨Nat.le_of_ble_eq_true rfl, Nat.le_of_ble_eq_true rfl⟩ ⟨Nat.le_of_ble_eq_true rfl, Nat.le_of_ble_eq_true rfl⟩ (Nat.le_of_ble_eq_true rfl) dX5_set_3 rfl (fun r9 G9 h9 => ?_)
  rw [h9.1, h9.2]
  refine aw_ifb_ne (q := 9) dX5_set_6 rfl (t := 19) (by decide) (fun h1 => ?_) (fun h2 => ?_)
  · refine aw_iload_n (q := 20) 2 dX5_set_19 rfl rfl rfl ?_
    refine ae_gets (q := 23) 4 (by decide) (fun _ h => h) wf_RX5_49 dX5_set_20 rfl ?_
    refine aw_iload_n (q := 24) 1 dX5_set_23 rfl rfl rfl ?_
    refine ae_ti (q := 25) 4 1 (by decide) (by decide) (fun _ h => h) (by decide) dX5_set_24 rfl ?_
    refine ae_gets (q := 28) 2 (by decide) (fun _ h => h) wf_RX5_52 dX5_set_25 rfl ?_
    refine aw_iload_n (q := 29) 1 dX5_set_28 rfl rfl rfl ?_
    refine ae_ti (q := 30) 2 0 (by decide) (by decide) (fun _ h => h) (by decide) dX5_set_29 rfl ?_
    refine ae_gets (q := 33) 3 (by decide) (fun _ h => h) wf_RX5_55 dX5_set_30 rfl ?_
    refine aw_iload_n (q := 34) 1 dX5_set_33 rfl rfl rfl ?_
    refine ae_ti (q := 35) 3 100 (by decide) (by decide) (fun _ h => h) (by decide) dX5_set_34 rfl ?_
    refine cs_I (q := 38) (As := [.int (iI v), .int (iI 1), .int (iI 0), .int (iI 100)]) 4 (c_isStep1 (T := T) (D := D) (ad := ad) G (by omega) (by omega) (by omega)) (fun _ h => h) wc_X5_isStepBetween wm_RX5_58 wt_X5_isStepBetween wn_X5 (by decide) rfl ⟨Nat.le_of_ble_eq_true rfl, Nat.le_of_ble_eq_true rfl⟩ ⟨Nat.le_of_ble_eq_true rfl, Nat.le_of_ble_eq_true rfl⟩ (Nat.le_of_ble_eq_true rfl) dX5_set_35 rfl (fun r9 G9 h9 => ?_)
    rw [h9.1, h9.2]
    refine aw_ifb_ne (q := 41) dX5_set_38 rfl (t := 51) (by decide) (fun h3 => ?_) (fun h4 => ?_)
    · refine aw_aload_n (q := 52) 0 dX5_set_51 rfl rfl rfl ?_
      refine cv_V (q := 55) (CC := "") (id := 102) (As := []) 0 (c_save (T := T) (D := D) (ad := ad) G o.2.2.2.2 o.1.2.1 (okC_z o)) (fun _ h => h) (by omega) (cell_102 ad C _) rfl wc_X5_save wm_RX5_64 wi_X5_save ws_X5_save wn_X5 (by decide) rfl ⟨Nat.le_of_ble_eq_true rfl, Nat.le_of_ble_eq_true rfl⟩ ⟨Nat.le_of_ble_eq_true rfl, Nat.le_of_ble_eq_true rfl⟩ (Nat.le_of_ble_eq_true rfl) dX5_set_52 rfl (fun H8 s8 => ?_)
      refine aw_aload_n (q := 56) 0 dX5_set_55 rfl rfl rfl ?_
      refine g_cp_machine (q := 59) wf_RX5_10 dX5_set_56 rfl ?_
      refine aw_iload_n (q := 60) 1 dX5_set_59 rfl rfl rfl ?_
      refine aw_iload_n (q := 61) 2 dX5_set_60 rfl rfl rfl ?_
      refine cv_I (q := 64) (CC := "") (id := 0) (As := [.int (iI 1), .int (iI v)]) 2 (c_m_changeSetting (T := T) (D := D) (ad := ad) H8 (i := 0) (by omega) (by omega)) (fun _ h => h) (by omega) (cell_mach ad C _ (i := 0) (by omega)) rfl wc_X1_changeSetting wm_RX5_67 wi_X1_changeSetting ws_X1_changeSetting wn_X1 (by decide) rfl ⟨Nat.le_of_ble_eq_true rfl, Nat.le_of_ble_eq_true rfl⟩ ⟨Nat.le_of_ble_eq_true rfl, Nat.le_of_ble_eq_true rfl⟩ (Nat.le_of_ble_eq_true rfl) dX5_set_61 rfl (fun r9 G9 h9 => ?_)
      rw [h9.1, h9.2]
      exact ax_of (rt_i rfl (Nat.zero_le _) (Nat.zero_le _) (⟨by omega, H8, s8, saveP_ne o.2.2.2.2 s8 (by omega), rfl⟩) dX5_set_64)
    · exact aw_throwS (text := strT 62) (fun _ h => h) hst (fun _ h => h) th_42_46 (by decide +kernel) dX5_set_41 dX5_set_44 dX5_set_45 dX5_set_47 dX5_set_50 (Nat.le_of_ble_eq_true rfl) (Nat.le_of_ble_eq_true rfl) (Nat.le_of_ble_eq_true rfl) (Nat.le_of_ble_eq_true rfl) (Nat.le_of_ble_eq_true rfl) (Nat.le_of_ble_eq_true rfl) ⟨_, rfl, ⟨rfl, by first | exact ⟨rfl, by omega⟩ | exact Or.inl ⟨rfl, by omega⟩ | exact Or.inr ⟨rfl, by omega⟩ | exact Or.inr (Or.inl ⟨rfl, by omega⟩) | exact Or.inr (Or.inr ⟨rfl, by omega⟩)⟩⟩
  · exact aw_throwS (text := strT 44) (fun _ h => h) hst (fun _ h => h) th_42_46 (by decide +kernel) dX5_set_9 dX5_set_12 dX5_set_13 dX5_set_15 dX5_set_18 (Nat.le_of_ble_eq_true rfl) (Nat.le_of_ble_eq_true rfl) (Nat.le_of_ble_eq_true rfl) (Nat.le_of_ble_eq_true rfl) (Nat.le_of_ble_eq_true rfl) (Nat.le_of_ble_eq_true rfl) ⟨_, rfl, ⟨rfl, by first | exact ⟨rfl, by omega⟩ | exact Or.inl ⟨rfl, by omega⟩ | exact Or.inr ⟨rfl, by omega⟩ | exact Or.inr (Or.inl ⟨rfl, by omega⟩) | exact Or.inr (Or.inr ⟨rfl, by omega⟩)⟩⟩
set_option maxHeartbeats 4000000 in
set_option maxRecDepth 100000 in
theorem c_set2 {l : Launch} {D : va_G} {C : Nat → ClassId} {T : Nat → Nat} {ad : Int → Nat} (hst : l.stackTraces = false) (G : GG) {v : Int} (o : okM G) (hv : -2147483648 ≤ v ∧ v ≤ 2147483647) : MX l yX5_set cX5_set 3 (some .int) 6 99 1 6 D (tyC C) T [.ref (ad 102), .int (iI 2), .int (iI v)] (cw ad C G) (RI ad C (fun r G1 => (0 ≤ v ∧ v ≤ 100 ∧ v % 1 = 0) ∧ ∃ H, saveP G H ∧ r = G 0 2 ∧ G1 = setG H 0 2 v)) (RX ad C (fun E G1 => G1 = G ∧ ((E = xIA ∧ ¬ (0 ≤ v ∧ v ≤ 100 ∧ v % 1 = 0))))) := by
  refine mx_of (by decide +kernel) (Nat.le_of_ble_eq_true rfl) rfl ?_
  have m13 := o.1.2.1
  have m14 := o.2.1.1
  have m10 := o.2.2.2.1
  refine aw_iload_n (q := 1) 1 dX5_set_0 rfl rfl rfl ?_
  refine aw_iconst (q := 2) dX5_set_1 rfl ?_
  refine aw_iconst (q := 3) dX5_set_2 rfl ?_
  refine cs_I (q := 6) (As := [.int (iI 2), .int (iI 0), .int (iI 4)]) 3 (c_isBetween (T := T) (D := D) (ad := ad) G (by omega) (by omega) (by omega)) (fun _ h => h) wc_X5_isBetween wm_RX5_38 wt_X5_isBetween wn_X5 (by decide) rfl ⟨Nat.le_of_ble_eq_true rfl, Nat.le_of_ble_eq_true rfl⟩ ⟨Nat.le_of_ble_eq_true rfl, Nat.le_of_ble_eq_true rfl⟩ (Nat.le_of_ble_eq_true rfl) dX5_set_3 rfl (fun r9 G9 h9 => ?_)
  rw [h9.1, h9.2]
  refine aw_ifb_ne (q := 9) dX5_set_6 rfl (t := 19) (by decide) (fun h1 => ?_) (fun h2 => ?_)
  · refine aw_iload_n (q := 20) 2 dX5_set_19 rfl rfl rfl ?_
    refine ae_gets (q := 23) 4 (by decide) (fun _ h => h) wf_RX5_49 dX5_set_20 rfl ?_
    refine aw_iload_n (q := 24) 1 dX5_set_23 rfl rfl rfl ?_
    refine ae_ti (q := 25) 4 1 (by decide) (by decide) (fun _ h => h) (by decide) dX5_set_24 rfl ?_
    refine ae_gets (q := 28) 2 (by decide) (fun _ h => h) wf_RX5_52 dX5_set_25 rfl ?_
    refine aw_iload_n (q := 29) 1 dX5_set_28 rfl rfl rfl ?_
    refine ae_ti (q := 30) 2 0 (by decide) (by decide) (fun _ h => h) (by decide) dX5_set_29 rfl ?_
    refine ae_gets (q := 33) 3 (by decide) (fun _ h => h) wf_RX5_55 dX5_set_30 rfl ?_
    refine aw_iload_n (q := 34) 1 dX5_set_33 rfl rfl rfl ?_
    refine ae_ti (q := 35) 3 100 (by decide) (by decide) (fun _ h => h) (by decide) dX5_set_34 rfl ?_
    refine cs_I (q := 38) (As := [.int (iI v), .int (iI 1), .int (iI 0), .int (iI 100)]) 4 (c_isStep1 (T := T) (D := D) (ad := ad) G (by omega) (by omega) (by omega)) (fun _ h => h) wc_X5_isStepBetween wm_RX5_58 wt_X5_isStepBetween wn_X5 (by decide) rfl ⟨Nat.le_of_ble_eq_true rfl, Nat.le_of_ble_eq_true rfl⟩ ⟨Nat.le_of_ble_eq_true rfl, Nat.le_of_ble_eq_true rfl⟩ (Nat.le_of_ble_eq_true rfl) dX5_set_35 rfl (fun r9 G9 h9 => ?_)
    rw [h9.1, h9.2]
    refine aw_ifb_ne (q := 41) dX5_set_38 rfl (t := 51) (by decide) (fun h3 => ?_) (fun h4 => ?_)
    · refine aw_aload_n (q := 52) 0 dX5_set_51 rfl rfl rfl ?_
      refine cv_V (q := 55) (CC := "") (id := 102) (As := []) 0 (c_save (T := T) (D := D) (ad := ad) G o.2.2.2.2 o.1.2.1 (okC_z o)) (fun _ h => h) (by omega) (cell_102 ad C _) rfl wc_X5_save wm_RX5_64 wi_X5_save ws_X5_save wn_X5 (by decide) rfl ⟨Nat.le_of_ble_eq_true rfl, Nat.le_of_ble_eq_true rfl⟩ ⟨Nat.le_of_ble_eq_true rfl, Nat.le_of_ble_eq_true rfl⟩ (Nat.le_of_ble_eq_true rfl) dX5_set_52 rfl (fun H8 s8 => ?_)
      refine aw_aload_n (q := 56) 0 dX5_set_55 rfl rfl rfl ?_
      refine g_cp_machine (q := 59) wf_RX5_10 dX5_set_56 rfl ?_
      refine aw_iload_n (q := 60) 1 dX5_set_59 rfl rfl rfl ?_
      refine aw_iload_n (q := 61) 2 dX5_set_60 rfl rfl rfl ?_
      refine cv_I (q := 64) (CC := "") (id := 0) (As := [.int (iI 2), .int (iI v)]) 2 (c_m_changeSetting (T := T) (D := D) (ad := ad) H8 (i := 0) (by omega) (by omega)) (fun _ h => h) (by omega) (cell_mach ad C _ (i := 0) (by omega)) rfl wc_X1_changeSetting wm_RX5_67 wi_X1_changeSetting ws_X1_changeSetting wn_X1 (by decide) rfl ⟨Nat.le_of_ble_eq_true rfl, Nat.le_of_ble_eq_true rfl⟩ ⟨Nat.le_of_ble_eq_true rfl, Nat.le_of_ble_eq_true rfl⟩ (Nat.le_of_ble_eq_true rfl) dX5_set_61 rfl (fun r9 G9 h9 => ?_)
      rw [h9.1, h9.2]
      exact ax_of (rt_i rfl (Nat.zero_le _) (Nat.zero_le _) (⟨by omega, H8, s8, saveP_ne o.2.2.2.2 s8 (by omega), rfl⟩) dX5_set_64)
    · exact aw_throwS (text := strT 62) (fun _ h => h) hst (fun _ h => h) th_42_46 (by decide +kernel) dX5_set_41 dX5_set_44 dX5_set_45 dX5_set_47 dX5_set_50 (Nat.le_of_ble_eq_true rfl) (Nat.le_of_ble_eq_true rfl) (Nat.le_of_ble_eq_true rfl) (Nat.le_of_ble_eq_true rfl) (Nat.le_of_ble_eq_true rfl) (Nat.le_of_ble_eq_true rfl) ⟨_, rfl, ⟨rfl, by first | exact ⟨rfl, by omega⟩ | exact Or.inl ⟨rfl, by omega⟩ | exact Or.inr ⟨rfl, by omega⟩ | exact Or.inr (Or.inl ⟨rfl, by omega⟩) | exact Or.inr (Or.inr ⟨rfl, by omega⟩)⟩⟩
  · exact aw_throwS (text := strT 44) (fun _ h => h) hst (fun _ h => h) th_42_46 (by decide +kernel) dX5_set_9 dX5_set_12 dX5_set_13 dX5_set_15 dX5_set_18 (Nat.le_of_ble_eq_true rfl) (Nat.le_of_ble_eq_true rfl) (Nat.le_of_ble_eq_true rfl) (Nat.le_of_ble_eq_true rfl) (Nat.le_of_ble_eq_true rfl) (Nat.le_of_ble_eq_true rfl) ⟨_, rfl, ⟨rfl, by first | exact ⟨rfl, by omega⟩ | exact Or.inl ⟨rfl, by omega⟩ | exact Or.inr ⟨rfl, by omega⟩ | exact Or.inr (Or.inl ⟨rfl, by omega⟩) | exact Or.inr (Or.inr ⟨rfl, by omega⟩)⟩⟩
set_option maxHeartbeats 4000000 in
set_option maxRecDepth 100000 in
theorem c_set3 {l : Launch} {D : va_G} {C : Nat → ClassId} {T : Nat → Nat} {ad : Int → Nat} (hst : l.stackTraces = false) (G : GG) {v : Int} (o : okM G) (hv : -2147483648 ≤ v ∧ v ≤ 2147483647) : MX l yX5_set cX5_set 3 (some .int) 6 99 1 6 D (tyC C) T [.ref (ad 102), .int (iI 3), .int (iI v)] (cw ad C G) (RI ad C (fun r G1 => (0 ≤ v ∧ v ≤ 1000 ∧ v % 1 = 0) ∧ ∃ H, saveP G H ∧ r = G 0 3 ∧ G1 = setG H 0 3 v)) (RX ad C (fun E G1 => G1 = G ∧ ((E = xIA ∧ ¬ (0 ≤ v ∧ v ≤ 1000 ∧ v % 1 = 0))))) := by
  refine mx_of (by decide +kernel) (Nat.le_of_ble_eq_true rfl) rfl ?_
  have m13 := o.1.2.1
  have m14 := o.2.1.1
  have m10 := o.2.2.2.1
  refine aw_iload_n (q := 1) 1 dX5_set_0 rfl rfl rfl ?_
  refine aw_iconst (q := 2) dX5_set_1 rfl ?_
  refine aw_iconst (q := 3) dX5_set_2 rfl ?_
  refine cs_I (q := 6) (As := [.int (iI 3), .int (iI 0), .int (iI 4)]) 3 (c_isBetween (T := T) (D := D) (ad := ad) G (by omega) (by omega) (by omega)) (fun _ h => h) wc_X5_isBetween wm_RX5_38 wt_X5_isBetween wn_X5 (by decide) rfl ⟨Nat.le_of_ble_eq_true rfl, Nat.le_of_ble_eq_true rfl⟩ ⟨Nat.le_of_ble_eq_true rfl, Nat.le_of_ble_eq_true rfl⟩ (Nat.le_of_ble_eq_true rfl) dX5_set_3 rfl (fun r9 G9 h9 => ?_)
  rw [h9.1, h9.2]
  refine aw_ifb_ne (q := 9) dX5_set_6 rfl (t := 19) (by decide) (fun h1 => ?_) (fun h2 => ?_)
  · refine aw_iload_n (q := 20) 2 dX5_set_19 rfl rfl rfl ?_
    refine ae_gets (q := 23) 4 (by decide) (fun _ h => h) wf_RX5_49 dX5_set_20 rfl ?_
    refine aw_iload_n (q := 24) 1 dX5_set_23 rfl rfl rfl ?_
    refine ae_ti (q := 25) 4 1 (by decide) (by decide) (fun _ h => h) (by decide) dX5_set_24 rfl ?_
    refine ae_gets (q := 28) 2 (by decide) (fun _ h => h) wf_RX5_52 dX5_set_25 rfl ?_
    refine aw_iload_n (q := 29) 1 dX5_set_28 rfl rfl rfl ?_
    refine ae_ti (q := 30) 2 0 (by decide) (by decide) (fun _ h => h) (by decide) dX5_set_29 rfl ?_
    refine ae_gets (q := 33) 3 (by decide) (fun _ h => h) wf_RX5_55 dX5_set_30 rfl ?_
    refine aw_iload_n (q := 34) 1 dX5_set_33 rfl rfl rfl ?_
    refine ae_ti (q := 35) 3 1000 (by decide) (by decide) (fun _ h => h) (by decide) dX5_set_34 rfl ?_
    refine cs_I (q := 38) (As := [.int (iI v), .int (iI 1), .int (iI 0), .int (iI 1000)]) 4 (c_isStep1 (T := T) (D := D) (ad := ad) G (by omega) (by omega) (by omega)) (fun _ h => h) wc_X5_isStepBetween wm_RX5_58 wt_X5_isStepBetween wn_X5 (by decide) rfl ⟨Nat.le_of_ble_eq_true rfl, Nat.le_of_ble_eq_true rfl⟩ ⟨Nat.le_of_ble_eq_true rfl, Nat.le_of_ble_eq_true rfl⟩ (Nat.le_of_ble_eq_true rfl) dX5_set_35 rfl (fun r9 G9 h9 => ?_)
    rw [h9.1, h9.2]
    refine aw_ifb_ne (q := 41) dX5_set_38 rfl (t := 51) (by decide) (fun h3 => ?_) (fun h4 => ?_)
    · refine aw_aload_n (q := 52) 0 dX5_set_51 rfl rfl rfl ?_
      refine cv_V (q := 55) (CC := "") (id := 102) (As := []) 0 (c_save (T := T) (D := D) (ad := ad) G o.2.2.2.2 o.1.2.1 (okC_z o)) (fun _ h => h) (by omega) (cell_102 ad C _) rfl wc_X5_save wm_RX5_64 wi_X5_save ws_X5_save wn_X5 (by decide) rfl ⟨Nat.le_of_ble_eq_true rfl, Nat.le_of_ble_eq_true rfl⟩ ⟨Nat.le_of_ble_eq_true rfl, Nat.le_of_ble_eq_true rfl⟩ (Nat.le_of_ble_eq_true rfl) dX5_set_52 rfl (fun H8 s8 => ?_)
      refine aw_aload_n (q := 56) 0 dX5_set_55 rfl rfl rfl ?_
      refine g_cp_machine (q := 59) wf_RX5_10 dX5_set_56 rfl ?_
      refine aw_iload_n (q := 60) 1 dX5_set_59 rfl rfl rfl ?_
      refine aw_iload_n (q := 61) 2 dX5_set_60 rfl rfl rfl ?_
      refine cv_I (q := 64) (CC := "") (id := 0) (As := [.int (iI 3), .int (iI v)]) 2 (c_m_changeSetting (T := T) (D := D) (ad := ad) H8 (i := 0) (by omega) (by omega)) (fun _ h => h) (by omega) (cell_mach ad C _ (i := 0) (by omega)) rfl wc_X1_changeSetting wm_RX5_67 wi_X1_changeSetting ws_X1_changeSetting wn_X1 (by decide) rfl ⟨Nat.le_of_ble_eq_true rfl, Nat.le_of_ble_eq_true rfl⟩ ⟨Nat.le_of_ble_eq_true rfl, Nat.le_of_ble_eq_true rfl⟩ (Nat.le_of_ble_eq_true rfl) dX5_set_61 rfl (fun r9 G9 h9 => ?_)
      rw [h9.1, h9.2]
      exact ax_of (rt_i rfl (Nat.zero_le _) (Nat.zero_le _) (⟨by omega, H8, s8, saveP_ne o.2.2.2.2 s8 (by omega), rfl⟩) dX5_set_64)
    · exact aw_throwS (text := strT 62) (fun _ h => h) hst (fun _ h => h) th_42_46 (by decide +kernel) dX5_set_41 dX5_set_44 dX5_set_45 dX5_set_47 dX5_set_50 (Nat.le_of_ble_eq_true rfl) (Nat.le_of_ble_eq_true rfl) (Nat.le_of_ble_eq_true rfl) (Nat.le_of_ble_eq_true rfl) (Nat.le_of_ble_eq_true rfl) (Nat.le_of_ble_eq_true rfl) ⟨_, rfl, ⟨rfl, by first | exact ⟨rfl, by omega⟩ | exact Or.inl ⟨rfl, by omega⟩ | exact Or.inr ⟨rfl, by omega⟩ | exact Or.inr (Or.inl ⟨rfl, by omega⟩) | exact Or.inr (Or.inr ⟨rfl, by omega⟩)⟩⟩
  · exact aw_throwS (text := strT 44) (fun _ h => h) hst (fun _ h => h) th_42_46 (by decide +kernel) dX5_set_9 dX5_set_12 dX5_set_13 dX5_set_15 dX5_set_18 (Nat.le_of_ble_eq_true rfl) (Nat.le_of_ble_eq_true rfl) (Nat.le_of_ble_eq_true rfl) (Nat.le_of_ble_eq_true rfl) (Nat.le_of_ble_eq_true rfl) (Nat.le_of_ble_eq_true rfl) ⟨_, rfl, ⟨rfl, by first | exact ⟨rfl, by omega⟩ | exact Or.inl ⟨rfl, by omega⟩ | exact Or.inr ⟨rfl, by omega⟩ | exact Or.inr (Or.inl ⟨rfl, by omega⟩) | exact Or.inr (Or.inr ⟨rfl, by omega⟩)⟩⟩
set_option maxHeartbeats 4000000 in
set_option maxRecDepth 100000 in
theorem c_set4 {l : Launch} {D : va_G} {C : Nat → ClassId} {T : Nat → Nat} {ad : Int → Nat} (hst : l.stackTraces = false) (G : GG) {v : Int} (o : okM G) (hv : -2147483648 ≤ v ∧ v ≤ 2147483647) : MX l yX5_set cX5_set 3 (some .int) 6 99 1 6 D (tyC C) T [.ref (ad 102), .int (iI 4), .int (iI v)] (cw ad C G) (RI ad C (fun r G1 => (0 ≤ v ∧ v ≤ 100 ∧ v % 5 = 0) ∧ ∃ H, saveP G H ∧ r = G 0 4 ∧ G1 = setG H 0 4 v)) (RX ad C (fun E G1 => G1 = G ∧ ((E = xIA ∧ ¬ (0 ≤ v ∧ v ≤ 100 ∧ v % 5 = 0))))) := by
  refine mx_of (by decide +kernel) (Nat.le_of_ble_eq_true rfl) rfl ?_
  have m13 := o.1.2.1
  have m14 := o.2.1.1
  have m10 := o.2.2.2.1
  refine aw_iload_n (q := 1) 1 dX5_set_0 rfl rfl rfl ?_
  refine aw_iconst (q := 2) dX5_set_1 rfl ?_
  refine aw_iconst (q := 3) dX5_set_2 rfl ?_
  refine cs_I (q := 6) (As := [.int (iI 4), .int (iI 0), .int (iI 4)]) 3 (c_isBetween (T := T) (D := D) (ad := ad) G (by omega) (by omega) (by omega)) (fun _ h => h) wc_X5_isBetween wm_RX5_38 wt_X5_isBetween wn_X5 (by decide) rfl ⟨Nat.le_of_ble_eq_true rfl, Nat.le_of_ble_eq_true rfl⟩ ⟨Nat.le_of_ble_eq_true rfl, Nat.le_of_ble_eq_true rfl⟩ (Nat.le_of_ble_eq_true rfl) dX5_set_3 rfl (fun r9 G9 h9 => ?_)
  rw [h9.1, h9.2]
  refine aw_ifb_ne (q := 9) dX5_set_6 rfl (t := 19) (by decide) (fun h1 => ?_) (fun h2 => ?_)
  · refine aw_iload_n (q := 20) 2 dX5_set_19 rfl rfl rfl ?_
    refine ae_gets (q := 23) 4 (by decide) (fun _ h => h) wf_RX5_49 dX5_set_20 rfl ?_
    refine aw_iload_n (q := 24) 1 dX5_set_23 rfl rfl rfl ?_
    refine ae_ti (q := 25) 4 5 (by decide) (by decide) (fun _ h => h) (by decide) dX5_set_24 rfl ?_
    refine ae_gets (q := 28) 2 (by decide) (fun _ h => h) wf_RX5_52 dX5_set_25 rfl ?_
    refine aw_iload_n (q := 29) 1 dX5_set_28 rfl rfl rfl ?_
    refine ae_ti (q := 30) 2 0 (by decide) (by decide) (fun _ h => h) (by decide) dX5_set_29 rfl ?_
    refine ae_gets (q := 33) 3 (by decide) (fun _ h => h) wf_RX5_55 dX5_set_30 rfl ?_
    refine aw_iload_n (q := 34) 1 dX5_set_33 rfl rfl rfl ?_
    refine ae_ti (q := 35) 3 100 (by decide) (by decide) (fun _ h => h) (by decide) dX5_set_34 rfl ?_
    refine cs_I (q := 38) (As := [.int (iI v), .int (iI 5), .int (iI 0), .int (iI 100)]) 4 (c_isStep5 (T := T) (D := D) (ad := ad) G (by omega) (by omega) (by omega)) (fun _ h => h) wc_X5_isStepBetween wm_RX5_58 wt_X5_isStepBetween wn_X5 (by decide) rfl ⟨Nat.le_of_ble_eq_true rfl, Nat.le_of_ble_eq_true rfl⟩ ⟨Nat.le_of_ble_eq_true rfl, Nat.le_of_ble_eq_true rfl⟩ (Nat.le_of_ble_eq_true rfl) dX5_set_35 rfl (fun r9 G9 h9 => ?_)
    rw [h9.1, h9.2]
    refine aw_ifb_ne (q := 41) dX5_set_38 rfl (t := 51) (by decide) (fun h3 => ?_) (fun h4 => ?_)
    · refine aw_aload_n (q := 52) 0 dX5_set_51 rfl rfl rfl ?_
      refine cv_V (q := 55) (CC := "") (id := 102) (As := []) 0 (c_save (T := T) (D := D) (ad := ad) G o.2.2.2.2 o.1.2.1 (okC_z o)) (fun _ h => h) (by omega) (cell_102 ad C _) rfl wc_X5_save wm_RX5_64 wi_X5_save ws_X5_save wn_X5 (by decide) rfl ⟨Nat.le_of_ble_eq_true rfl, Nat.le_of_ble_eq_true rfl⟩ ⟨Nat.le_of_ble_eq_true rfl, Nat.le_of_ble_eq_true rfl⟩ (Nat.le_of_ble_eq_true rfl) dX5_set_52 rfl (fun H8 s8 => ?_)
      refine aw_aload_n (q := 56) 0 dX5_set_55 rfl rfl rfl ?_
      refine g_cp_machine (q := 59) wf_RX5_10 dX5_set_56 rfl ?_
      refine aw_iload_n (q := 60) 1 dX5_set_59 rfl rfl rfl ?_
      refine aw_iload_n (q := 61) 2 dX5_set_60 rfl rfl rfl ?_
      refine cv_I (q := 64) (CC := "") (id := 0) (As := [.int (iI 4), .int (iI v)]) 2 (c_m_changeSetting (T := T) (D := D) (ad := ad) H8 (i := 0) (by omega) (by omega)) (fun _ h => h) (by omega) (cell_mach ad C _ (i := 0) (by omega)) rfl wc_X1_changeSetting wm_RX5_67 wi_X1_changeSetting ws_X1_changeSetting wn_X1 (by decide) rfl ⟨Nat.le_of_ble_eq_true rfl, Nat.le_of_ble_eq_true rfl⟩ ⟨Nat.le_of_ble_eq_true rfl, Nat.le_of_ble_eq_true rfl⟩ (Nat.le_of_ble_eq_true rfl) dX5_set_61 rfl (fun r9 G9 h9 => ?_)
      rw [h9.1, h9.2]
      exact ax_of (rt_i rfl (Nat.zero_le _) (Nat.zero_le _) (⟨by omega, H8, s8, saveP_ne o.2.2.2.2 s8 (by omega), rfl⟩) dX5_set_64)
    · exact aw_throwS (text := strT 62) (fun _ h => h) hst (fun _ h => h) th_42_46 (by decide +kernel) dX5_set_41 dX5_set_44 dX5_set_45 dX5_set_47 dX5_set_50 (Nat.le_of_ble_eq_true rfl) (Nat.le_of_ble_eq_true rfl) (Nat.le_of_ble_eq_true rfl) (Nat.le_of_ble_eq_true rfl) (Nat.le_of_ble_eq_true rfl) (Nat.le_of_ble_eq_true rfl) ⟨_, rfl, ⟨rfl, by first | exact ⟨rfl, by omega⟩ | exact Or.inl ⟨rfl, by omega⟩ | exact Or.inr ⟨rfl, by omega⟩ | exact Or.inr (Or.inl ⟨rfl, by omega⟩) | exact Or.inr (Or.inr ⟨rfl, by omega⟩)⟩⟩
  · exact aw_throwS (text := strT 44) (fun _ h => h) hst (fun _ h => h) th_42_46 (by decide +kernel) dX5_set_9 dX5_set_12 dX5_set_13 dX5_set_15 dX5_set_18 (Nat.le_of_ble_eq_true rfl) (Nat.le_of_ble_eq_true rfl) (Nat.le_of_ble_eq_true rfl) (Nat.le_of_ble_eq_true rfl) (Nat.le_of_ble_eq_true rfl) (Nat.le_of_ble_eq_true rfl) ⟨_, rfl, ⟨rfl, by first | exact ⟨rfl, by omega⟩ | exact Or.inl ⟨rfl, by omega⟩ | exact Or.inr ⟨rfl, by omega⟩ | exact Or.inr (Or.inl ⟨rfl, by omega⟩) | exact Or.inr (Or.inr ⟨rfl, by omega⟩)⟩⟩
set_option maxHeartbeats 4000000 in
set_option maxRecDepth 100000 in
theorem c_setN {l : Launch} {D : va_G} {C : Nat → ClassId} {T : Nat → Nat} {ad : Int → Nat} (hst : l.stackTraces = false) (G : GG) {w v : Int} (o : okM G) (hw : -2147483648 ≤ w ∧ w ≤ 2147483647) (hv : -2147483648 ≤ v ∧ v ≤ 2147483647) (hn : ¬ (0 ≤ w ∧ w ≤ 4)) : MX l yX5_set cX5_set 3 (some .int) 6 99 1 6 D (tyC C) T [.ref (ad 102), .int (iI w), .int (iI v)] (cw ad C G) (RI ad C (fun r G1 => False)) (RX ad C (fun E G1 => G1 = G ∧ E = xIA)) := by
  refine mx_of (by decide +kernel) (Nat.le_of_ble_eq_true rfl) rfl ?_
  have m13 := o.1.2.1
  have m14 := o.2.1.1
  have m10 := o.2.2.2.1
  refine aw_iload_n (q := 1) 1 dX5_set_0 rfl rfl rfl ?_
  refine aw_iconst (q := 2) dX5_set_1 rfl ?_
  refine aw_iconst (q := 3) dX5_set_2 rfl ?_
  refine cs_I (q := 6) (As := [.int (iI w), .int (iI 0), .int (iI 4)]) 3 (c_isBetween (T := T) (D := D) (ad := ad) G (by omega) (by omega) (by omega)) (fun _ h => h) wc_X5_isBetween wm_RX5_38 wt_X5_isBetween wn_X5 (by decide) rfl ⟨Nat.le_of_ble_eq_true rfl, Nat.le_of_ble_eq_true rfl⟩ ⟨Nat.le_of_ble_eq_true rfl, Nat.le_of_ble_eq_true rfl⟩ (Nat.le_of_ble_eq_true rfl) dX5_set_3 rfl (fun r9 G9 h9 => ?_)
  rw [h9.1, h9.2]
  refine aw_ifb_ne (q := 9) dX5_set_6 rfl (t := 19) (by decide) (fun h1 => ?_) (fun h2 => ?_)
  · exact (by omega : False).elim
  · exact aw_throwS (text := strT 44) (fun _ h => h) hst (fun _ h => h) th_42_46 (by decide +kernel) dX5_set_9 dX5_set_12 dX5_set_13 dX5_set_15 dX5_set_18 (Nat.le_of_ble_eq_true rfl) (Nat.le_of_ble_eq_true rfl) (Nat.le_of_ble_eq_true rfl) (Nat.le_of_ble_eq_true rfl) (Nat.le_of_ble_eq_true rfl) (Nat.le_of_ble_eq_true rfl) ⟨_, rfl, ⟨rfl, rfl⟩⟩
theorem okP_row {G H : GG} (h : H 0 = G 0) (o : okP G 0) : okP H 0 := by
  unfold okP at *
  rw [h]
  exact o
theorem saveP_row {G H : GG} (o : okV G) (h : saveP G H) : H 0 = G 0 := funext fun y => saveP_ne o h (by omega)
set_option maxHeartbeats 4000000 in
set_option maxRecDepth 100000 in
theorem c_addCoil {l : Launch} {D : va_G} {C : Nat → ClassId} {T : Nat → Nat} {ad : Int → Nat} (hst : l.stackTraces = false) (G : GG) {a b c : Int} (o : okM G) (ha : -2147483648 ≤ a ∧ a ≤ 2147483647) (hb : -2147483648 ≤ b ∧ b ≤ 2147483647) (hc : -2147483648 ≤ c ∧ c ≤ 2147483647) : MX l yX5_addCoil cX5_addCoil 4 (some .int) 6 99 1 6 D (tyC C) T [.ref (ad 102), .int (iI a), .int (iI b), .int (iI c)] (cw ad C G) (RI ad C (fun r G1 => ((0 ≤ a ∧ a ≤ 5) ∧ (5 ≤ b ∧ b ≤ 500 ∧ b % 5 = 0) ∧ (b ≤ c ∧ c ≤ 500 ∧ c % 5 = 0) ∧ (G 0 13 < 8)) ∧ ∃ H, saveP G H ∧ r = G 0 13 ∧ G1 = setG (coilBegin H 0 (G 0 13) a b c) 0 13 (G 0 13 + 1))) (RX ad C (fun E G1 => G1 = G ∧ ((E = xIA ∧ ¬ ((0 ≤ a ∧ a ≤ 5) ∧ (5 ≤ b ∧ b ≤ 500 ∧ b % 5 = 0) ∧ (b ≤ c ∧ c ≤ 500 ∧ c % 5 = 0))) ∨ (E = xIS ∧ ((0 ≤ a ∧ a ≤ 5) ∧ (5 ≤ b ∧ b ≤ 500 ∧ b % 5 = 0) ∧ (b ≤ c ∧ c ≤ 500 ∧ c % 5 = 0)) ∧ ¬ (G 0 13 < 8))))) := by
  refine mx_of (by decide +kernel) (Nat.le_of_ble_eq_true rfl) rfl ?_
  have m13 := o.1.2.1
  have m14 := o.2.1.1
  have m10 := o.2.2.2.1
  refine aw_iload_n (q := 1) 1 dX5_addCoil_0 rfl rfl rfl ?_
  refine aw_iconst (q := 2) dX5_addCoil_1 rfl ?_
  refine aw_iconst (q := 3) dX5_addCoil_2 rfl ?_
  refine cs_I (q := 6) (As := [.int (iI a), .int (iI 0), .int (iI 5)]) 3 (c_isBetween (T := T) (D := D) (ad := ad) G (by omega) (by omega) (by omega)) (fun _ h => h) wc_X5_isBetween wm_RX5_38 wt_X5_isBetween wn_X5 (by decide) rfl ⟨Nat.le_of_ble_eq_true rfl, Nat.le_of_ble_eq_true rfl⟩ ⟨Nat.le_of_ble_eq_true rfl, Nat.le_of_ble_eq_true rfl⟩ (Nat.le_of_ble_eq_true rfl) dX5_addCoil_3 rfl (fun r9 G9 h9 => ?_)
  rw [h9.1, h9.2]
  refine aw_ifb_ne (q := 9) dX5_addCoil_6 rfl (t := 19) (by decide) (fun h1 => ?_) (fun h2 => ?_)
  · refine aw_iload_n (q := 20) 2 dX5_addCoil_19 rfl rfl rfl ?_
    refine aw_iconst (q := 21) dX5_addCoil_20 rfl ?_
    refine aw_iconst (q := 22) dX5_addCoil_21 rfl ?_
    refine aw_sipush (q := 25) dX5_addCoil_22 rfl (by decide) ?_
    refine cs_I (q := 28) (As := [.int (iI b), .int (iI 5), .int (iI 5), .int (iI 500)]) 4 (c_isStep5 (T := T) (D := D) (ad := ad) G (by omega) (by omega) (by omega)) (fun _ h => h) wc_X5_isStepBetween wm_RX5_58 wt_X5_isStepBetween wn_X5 (by decide) rfl ⟨Nat.le_of_ble_eq_true rfl, Nat.le_of_ble_eq_true rfl⟩ ⟨Nat.le_of_ble_eq_true rfl, Nat.le_of_ble_eq_true rfl⟩ (Nat.le_of_ble_eq_true rfl) dX5_addCoil_25 rfl (fun r9 G9 h9 => ?_)
    rw [h9.1, h9.2]
    refine aw_ifb_ne (q := 31) dX5_addCoil_28 rfl (t := 41) (by decide) (fun h3 => ?_) (fun h4 => ?_)
    · refine aw_iload_n (q := 42) 3 dX5_addCoil_41 rfl rfl rfl ?_
      refine aw_iconst (q := 43) dX5_addCoil_42 rfl ?_
      refine aw_iload_n (q := 44) 2 dX5_addCoil_43 rfl rfl rfl ?_
      refine aw_sipush (q := 47) dX5_addCoil_44 rfl (by decide) ?_
      refine cs_I (q := 50) (As := [.int (iI c), .int (iI 5), .int (iI b), .int (iI 500)]) 4 (c_isStep5 (T := T) (D := D) (ad := ad) G (by omega) (by omega) (by omega)) (fun _ h => h) wc_X5_isStepBetween wm_RX5_58 wt_X5_isStepBetween wn_X5 (by decide) rfl ⟨Nat.le_of_ble_eq_true rfl, Nat.le_of_ble_eq_true rfl⟩ ⟨Nat.le_of_ble_eq_true rfl, Nat.le_of_ble_eq_true rfl⟩ (Nat.le_of_ble_eq_true rfl) dX5_addCoil_47 rfl (fun r9 G9 h9 => ?_)
      rw [h9.1, h9.2]
      refine aw_ifb_ne (q := 53) dX5_addCoil_50 rfl (t := 63) (by decide) (fun h5 => ?_) (fun h6 => ?_)
      · refine aw_aload_n (q := 64) 0 dX5_addCoil_63 rfl rfl rfl ?_
        refine g_cp_machine (q := 67) wf_RX5_10 dX5_addCoil_64 rfl ?_
        refine cv_I (q := 70) (CC := "") (id := 0) (As := []) 0 (c_m_hasRoomForCoil (T := T) (D := D) (ad := ad) G (i := 0) (by omega) m13) (fun _ h => h) (by omega) (cell_mach ad C _ (i := 0) (by omega)) rfl wc_X1_hasRoomForCoil wm_RX5_77 wi_X1_hasRoomForCoil ws_X1_hasRoomForCoil wn_X1 (by decide) rfl ⟨Nat.le_of_ble_eq_true rfl, Nat.le_of_ble_eq_true rfl⟩ ⟨Nat.le_of_ble_eq_true rfl, Nat.le_of_ble_eq_true rfl⟩ (Nat.le_of_ble_eq_true rfl) dX5_addCoil_67 rfl (fun r9 G9 h9 => ?_)
        rw [h9.1, h9.2]
        refine aw_ifb_ne (q := 73) dX5_addCoil_70 rfl (t := 83) (by decide) (fun h7 => ?_) (fun h8 => ?_)
        · refine aw_aload_n (q := 84) 0 dX5_addCoil_83 rfl rfl rfl ?_
          refine cv_V (q := 87) (CC := "") (id := 102) (As := []) 0 (c_save (T := T) (D := D) (ad := ad) G o.2.2.2.2 o.1.2.1 (okC_z o)) (fun _ h => h) (by omega) (cell_102 ad C _) rfl wc_X5_save wm_RX5_64 wi_X5_save ws_X5_save wn_X5 (by decide) rfl ⟨Nat.le_of_ble_eq_true rfl, Nat.le_of_ble_eq_true rfl⟩ ⟨Nat.le_of_ble_eq_true rfl, Nat.le_of_ble_eq_true rfl⟩ (Nat.le_of_ble_eq_true rfl) dX5_addCoil_84 rfl (fun H8 s8 => ?_)
          refine aw_aload_n (q := 88) 0 dX5_addCoil_87 rfl rfl rfl ?_
          refine g_cp_machine (q := 91) wf_RX5_10 dX5_addCoil_88 rfl ?_
          refine aw_iload_n (q := 92) 1 dX5_addCoil_91 rfl rfl rfl ?_
          refine aw_iload_n (q := 93) 2 dX5_addCoil_92 rfl rfl rfl ?_
          refine aw_iload_n (q := 94) 3 dX5_addCoil_93 rfl rfl rfl ?_
          refine cv_I (q := 97) (CC := "") (id := 0) (As := [.int (iI a), .int (iI b), .int (iI c)]) 3 (c_m_newCoil (T := T) (D := D) (ad := ad) H8 (i := 0) (by omega) (by rw [saveP_ne o.2.2.2.2 s8 (by omega)]; omega)) (fun _ h => h) (by omega) (cell_mach ad C _ (i := 0) (by omega)) rfl wc_X1_newCoil wm_RX5_86 wi_X1_newCoil ws_X1_newCoil wn_X1 (by decide) rfl ⟨Nat.le_of_ble_eq_true rfl, Nat.le_of_ble_eq_true rfl⟩ ⟨Nat.le_of_ble_eq_true rfl, Nat.le_of_ble_eq_true rfl⟩ (Nat.le_of_ble_eq_true rfl) dX5_addCoil_94 rfl (fun r9 G9 h9 => ?_)
          rw [h9.1, h9.2]
          exact ax_of (rt_i rfl (Nat.zero_le _) (Nat.zero_le _) (⟨⟨by omega, by omega, by omega, by omega⟩, H8, s8, saveP_ne o.2.2.2.2 s8 (by omega), by rw [show H8 0 13 = G 0 13 from saveP_ne o.2.2.2.2 s8 (by omega)]⟩) dX5_addCoil_97)
        · exact aw_throwS (text := strT 83) (fun _ h => h) hst (fun _ h => h) th_81_85 (by decide +kernel) dX5_addCoil_73 dX5_addCoil_76 dX5_addCoil_77 dX5_addCoil_79 dX5_addCoil_82 (Nat.le_of_ble_eq_true rfl) (Nat.le_of_ble_eq_true rfl) (Nat.le_of_ble_eq_true rfl) (Nat.le_of_ble_eq_true rfl) (Nat.le_of_ble_eq_true rfl) (Nat.le_of_ble_eq_true rfl) ⟨_, rfl, ⟨rfl, by first | exact ⟨rfl, by omega⟩ | exact Or.inl ⟨rfl, by omega⟩ | exact Or.inr ⟨rfl, by omega⟩ | exact Or.inr (Or.inl ⟨rfl, by omega⟩) | exact Or.inr (Or.inr ⟨rfl, by omega⟩)⟩⟩
      · exact aw_throwS (text := strT 75) (fun _ h => h) hst (fun _ h => h) th_42_46 (by decide +kernel) dX5_addCoil_53 dX5_addCoil_56 dX5_addCoil_57 dX5_addCoil_59 dX5_addCoil_62 (Nat.le_of_ble_eq_true rfl) (Nat.le_of_ble_eq_true rfl) (Nat.le_of_ble_eq_true rfl) (Nat.le_of_ble_eq_true rfl) (Nat.le_of_ble_eq_true rfl) (Nat.le_of_ble_eq_true rfl) ⟨_, rfl, ⟨rfl, by first | exact ⟨rfl, by omega⟩ | exact Or.inl ⟨rfl, by omega⟩ | exact Or.inr ⟨rfl, by omega⟩ | exact Or.inr (Or.inl ⟨rfl, by omega⟩) | exact Or.inr (Or.inr ⟨rfl, by omega⟩)⟩⟩
    · exact aw_throwS (text := strT 73) (fun _ h => h) hst (fun _ h => h) th_42_46 (by decide +kernel) dX5_addCoil_31 dX5_addCoil_34 dX5_addCoil_35 dX5_addCoil_37 dX5_addCoil_40 (Nat.le_of_ble_eq_true rfl) (Nat.le_of_ble_eq_true rfl) (Nat.le_of_ble_eq_true rfl) (Nat.le_of_ble_eq_true rfl) (Nat.le_of_ble_eq_true rfl) (Nat.le_of_ble_eq_true rfl) ⟨_, rfl, ⟨rfl, by first | exact ⟨rfl, by omega⟩ | exact Or.inl ⟨rfl, by omega⟩ | exact Or.inr ⟨rfl, by omega⟩ | exact Or.inr (Or.inl ⟨rfl, by omega⟩) | exact Or.inr (Or.inr ⟨rfl, by omega⟩)⟩⟩
  · exact aw_throwS (text := strT 71) (fun _ h => h) hst (fun _ h => h) th_42_46 (by decide +kernel) dX5_addCoil_9 dX5_addCoil_12 dX5_addCoil_13 dX5_addCoil_15 dX5_addCoil_18 (Nat.le_of_ble_eq_true rfl) (Nat.le_of_ble_eq_true rfl) (Nat.le_of_ble_eq_true rfl) (Nat.le_of_ble_eq_true rfl) (Nat.le_of_ble_eq_true rfl) (Nat.le_of_ble_eq_true rfl) ⟨_, rfl, ⟨rfl, by first | exact ⟨rfl, by omega⟩ | exact Or.inl ⟨rfl, by omega⟩ | exact Or.inr ⟨rfl, by omega⟩ | exact Or.inr (Or.inl ⟨rfl, by omega⟩) | exact Or.inr (Or.inr ⟨rfl, by omega⟩)⟩⟩
set_option maxHeartbeats 4000000 in
set_option maxRecDepth 100000 in
theorem c_stock {l : Launch} {D : va_G} {C : Nat → ClassId} {T : Nat → Nat} {ad : Int → Nat} (hst : l.stackTraces = false) (G : GG) {c n : Int} (o : okM G) (hc : -2147483648 ≤ c ∧ c ≤ 2147483647) (hn : -2147483648 ≤ n ∧ n ≤ 2147483647) : MX l yX5_stock cX5_stock 3 (some .int) 6 99 1 6 D (tyC C) T [.ref (ad 102), .int (iI c), .int (iI n)] (cw ad C G) (RI ad C (fun r G1 => ((0 ≤ c ∧ c < G 0 13) ∧ (1 ≤ n ∧ n ≤ 20) ∧ (G 0 (15 + 12 * c + 1) + n ≤ 20)) ∧ ∃ H, saveP G H ∧ r = G 0 (15 + 12 * c + 1) + n ∧ G1 = setG H 0 (15 + 12 * c + 1) (G 0 (15 + 12 * c + 1) + n))) (RX ad C (fun E G1 => G1 = G ∧ ((E = xIB ∧ ¬ (0 ≤ c ∧ c < G 0 13)) ∨ (E = xIA ∧ (0 ≤ c ∧ c < G 0 13) ∧ ¬ (1 ≤ n ∧ n ≤ 20)) ∨ (E = xIS ∧ ((0 ≤ c ∧ c < G 0 13) ∧ (1 ≤ n ∧ n ≤ 20)) ∧ ¬ (G 0 (15 + 12 * c + 1) + n ≤ 20))))) := by
  refine mx_of (by decide +kernel) (Nat.le_of_ble_eq_true rfl) rfl ?_
  have m13 := o.1.2.1
  have m14 := o.2.1.1
  have m10 := o.2.2.2.1
  refine aw_aload_n (q := 1) 0 dX5_stock_0 rfl rfl rfl ?_
  refine g_cp_machine (q := 4) wf_RX5_10 dX5_stock_1 rfl ?_
  refine aw_iload_n (q := 5) 1 dX5_stock_4 rfl rfl rfl ?_
  refine cv_I (q := 8) (CC := "") (id := 0) (As := [.int (iI c)]) 1 (c_m_hasCoil (T := T) (D := D) (ad := ad) G (i := 0) (by omega) (by omega) o.1.2.1) (fun _ h => h) (by omega) (cell_mach ad C _ (i := 0) (by omega)) rfl wc_X1_hasCoil wm_RX5_90 wi_X1_hasCoil ws_X1_hasCoil wn_X1 (by decide) rfl ⟨Nat.le_of_ble_eq_true rfl, Nat.le_of_ble_eq_true rfl⟩ ⟨Nat.le_of_ble_eq_true rfl, Nat.le_of_ble_eq_true rfl⟩ (Nat.le_of_ble_eq_true rfl) dX5_stock_5 rfl (fun r9 G9 h9 => ?_)
  rw [h9.1, h9.2]
  refine aw_ifb_ne (q := 11) dX5_stock_8 rfl (t := 21) (by decide) (fun h1 => ?_) (fun h2 => ?_)
  · refine aw_iload_n (q := 22) 2 dX5_stock_21 rfl rfl rfl ?_
    refine aw_iconst (q := 23) dX5_stock_22 rfl ?_
    refine aw_bipush (q := 25) dX5_stock_23 rfl (by decide) ?_
    refine cs_I (q := 28) (As := [.int (iI n), .int (iI 1), .int (iI 20)]) 3 (c_isBetween (T := T) (D := D) (ad := ad) G (by omega) (by omega) (by omega)) (fun _ h => h) wc_X5_isBetween wm_RX5_38 wt_X5_isBetween wn_X5 (by decide) rfl ⟨Nat.le_of_ble_eq_true rfl, Nat.le_of_ble_eq_true rfl⟩ ⟨Nat.le_of_ble_eq_true rfl, Nat.le_of_ble_eq_true rfl⟩ (Nat.le_of_ble_eq_true rfl) dX5_stock_25 rfl (fun r9 G9 h9 => ?_)
    rw [h9.1, h9.2]
    refine aw_ifb_ne (q := 31) dX5_stock_28 rfl (t := 41) (by decide) (fun h3 => ?_) (fun h4 => ?_)
    · refine aw_aload_n (q := 42) 0 dX5_stock_41 rfl rfl rfl ?_
      refine g_cp_machine (q := 45) wf_RX5_10 dX5_stock_42 rfl ?_
      refine aw_iload_n (q := 46) 1 dX5_stock_45 rfl rfl rfl ?_
      refine aw_iload_n (q := 47) 2 dX5_stock_46 rfl rfl rfl ?_
      refine cv_I (q := 50) (CC := "") (id := 0) (As := [.int (iI c), .int (iI n)]) 2 (c_m_hasRoomForGoods (T := T) (D := D) (ad := ad) G (i := 0) (by omega) (by omega) (by omega) (o.1.2.2 c (by omega) (by omega)).1) (fun _ h => h) (by omega) (cell_mach ad C _ (i := 0) (by omega)) rfl wc_X1_hasRoomForGoods wm_RX5_101 wi_X1_hasRoomForGoods ws_X1_hasRoomForGoods wn_X1 (by decide) rfl ⟨Nat.le_of_ble_eq_true rfl, Nat.le_of_ble_eq_true rfl⟩ ⟨Nat.le_of_ble_eq_true rfl, Nat.le_of_ble_eq_true rfl⟩ (Nat.le_of_ble_eq_true rfl) dX5_stock_47 rfl (fun r9 G9 h9 => ?_)
      rw [h9.1, h9.2]
      refine aw_ifb_ne (q := 53) dX5_stock_50 rfl (t := 63) (by decide) (fun h5 => ?_) (fun h6 => ?_)
      · refine aw_aload_n (q := 64) 0 dX5_stock_63 rfl rfl rfl ?_
        refine cv_V (q := 67) (CC := "") (id := 102) (As := []) 0 (c_save (T := T) (D := D) (ad := ad) G o.2.2.2.2 o.1.2.1 (okC_z o)) (fun _ h => h) (by omega) (cell_102 ad C _) rfl wc_X5_save wm_RX5_64 wi_X5_save ws_X5_save wn_X5 (by decide) rfl ⟨Nat.le_of_ble_eq_true rfl, Nat.le_of_ble_eq_true rfl⟩ ⟨Nat.le_of_ble_eq_true rfl, Nat.le_of_ble_eq_true rfl⟩ (Nat.le_of_ble_eq_true rfl) dX5_stock_64 rfl (fun H8 s8 => ?_)
        refine aw_aload_n (q := 68) 0 dX5_stock_67 rfl rfl rfl ?_
        refine g_cp_machine (q := 71) wf_RX5_10 dX5_stock_68 rfl ?_
        refine aw_iload_n (q := 72) 1 dX5_stock_71 rfl rfl rfl ?_
        refine aw_iload_n (q := 73) 2 dX5_stock_72 rfl rfl rfl ?_
        refine cv_I (q := 76) (CC := "") (id := 0) (As := [.int (iI c), .int (iI n)]) 2 (c_m_addGoods (T := T) (D := D) (ad := ad) H8 (i := 0) (by omega) (by omega)) (fun _ h => h) (by omega) (cell_mach ad C _ (i := 0) (by omega)) rfl wc_X1_addGoods wm_RX5_107 wi_X1_addGoods ws_X1_addGoods wn_X1 (by decide) rfl ⟨Nat.le_of_ble_eq_true rfl, Nat.le_of_ble_eq_true rfl⟩ ⟨Nat.le_of_ble_eq_true rfl, Nat.le_of_ble_eq_true rfl⟩ (Nat.le_of_ble_eq_true rfl) dX5_stock_73 rfl (fun r9 G9 h9 => ?_)
        rw [h9.1, h9.2]
        exact ax_of (rt_i rfl (Nat.zero_le _) (Nat.zero_le _) (⟨⟨by omega, by omega, by omega⟩, H8, s8, by rw [show H8 0 (15 + 12 * c + 1) = G 0 (15 + 12 * c + 1) from saveP_ne o.2.2.2.2 s8 (by omega)], by rw [show H8 0 (15 + 12 * c + 1) = G 0 (15 + 12 * c + 1) from saveP_ne o.2.2.2.2 s8 (by omega)]⟩) dX5_stock_76)
      · exact aw_throwS (text := strT 105) (fun _ h => h) hst (fun _ h => h) th_81_85 (by decide +kernel) dX5_stock_53 dX5_stock_56 dX5_stock_57 dX5_stock_59 dX5_stock_62 (Nat.le_of_ble_eq_true rfl) (Nat.le_of_ble_eq_true rfl) (Nat.le_of_ble_eq_true rfl) (Nat.le_of_ble_eq_true rfl) (Nat.le_of_ble_eq_true rfl) (Nat.le_of_ble_eq_true rfl) ⟨_, rfl, ⟨rfl, by first | exact ⟨rfl, by omega⟩ | exact Or.inl ⟨rfl, by omega⟩ | exact Or.inr ⟨rfl, by omega⟩ | exact Or.inr (Or.inl ⟨rfl, by omega⟩) | exact Or.inr (Or.inr ⟨rfl, by omega⟩)⟩⟩
    · exact aw_throwS (text := strT 99) (fun _ h => h) hst (fun _ h => h) th_42_46 (by decide +kernel) dX5_stock_31 dX5_stock_34 dX5_stock_35 dX5_stock_37 dX5_stock_40 (Nat.le_of_ble_eq_true rfl) (Nat.le_of_ble_eq_true rfl) (Nat.le_of_ble_eq_true rfl) (Nat.le_of_ble_eq_true rfl) (Nat.le_of_ble_eq_true rfl) (Nat.le_of_ble_eq_true rfl) ⟨_, rfl, ⟨rfl, by first | exact ⟨rfl, by omega⟩ | exact Or.inl ⟨rfl, by omega⟩ | exact Or.inr ⟨rfl, by omega⟩ | exact Or.inr (Or.inl ⟨rfl, by omega⟩) | exact Or.inr (Or.inr ⟨rfl, by omega⟩)⟩⟩
  · exact aw_throwS (text := strT 96) (fun _ h => h) hst (fun _ h => h) th_94_98 (by decide +kernel) dX5_stock_11 dX5_stock_14 dX5_stock_15 dX5_stock_17 dX5_stock_20 (Nat.le_of_ble_eq_true rfl) (Nat.le_of_ble_eq_true rfl) (Nat.le_of_ble_eq_true rfl) (Nat.le_of_ble_eq_true rfl) (Nat.le_of_ble_eq_true rfl) (Nat.le_of_ble_eq_true rfl) ⟨_, rfl, ⟨rfl, by first | exact ⟨rfl, by omega⟩ | exact Or.inl ⟨rfl, by omega⟩ | exact Or.inr ⟨rfl, by omega⟩ | exact Or.inr (Or.inl ⟨rfl, by omega⟩) | exact Or.inr (Or.inr ⟨rfl, by omega⟩)⟩⟩
set_option maxHeartbeats 4000000 in
set_option maxRecDepth 100000 in
theorem c_fill {l : Launch} {D : va_G} {C : Nat → ClassId} {T : Nat → Nat} {ad : Int → Nat} (hst : l.stackTraces = false) (G : GG) {t n : Int} (o : okM G) (ht : -2147483648 ≤ t ∧ t ≤ 2147483647) (hn : -2147483648 ≤ n ∧ n ≤ 2147483647) : MX l yX5_fill cX5_fill 3 (some .int) 6 150 1 6 D (tyC C) T [.ref (ad 102), .int (iI t), .int (iI n)] (cw ad C G) (RI ad C (fun r G1 => ((0 ≤ t ∧ t ≤ 3) ∧ (1 ≤ n ∧ n ≤ 30)) ∧ ∃ H, saveP G H ∧ r = min n (30 - G 0 (5 + t)) ∧ keepP (fillG H 0 t n) 0 (kpG (fillG H 0 t n) 0) G1)) (RX ad C (fun E G1 => G1 = G ∧ ((E = xIB ∧ ¬ (0 ≤ t ∧ t ≤ 3)) ∨ (E = xIA ∧ (0 ≤ t ∧ t ≤ 3) ∧ ¬ (1 ≤ n ∧ n ≤ 30))))) := by
  refine mx_of (by decide +kernel) (Nat.le_of_ble_eq_true rfl) rfl ?_
  have m13 := o.1.2.1
  have m14 := o.2.1.1
  have m10 := o.2.2.2.1
  refine aw_iload_n (q := 1) 1 dX5_fill_0 rfl rfl rfl ?_
  refine aw_iconst (q := 2) dX5_fill_1 rfl ?_
  refine aw_iconst (q := 3) dX5_fill_2 rfl ?_
  refine cs_I (q := 6) (As := [.int (iI t), .int (iI 0), .int (iI 3)]) 3 (c_isBetween (T := T) (D := D) (ad := ad) G (by omega) (by omega) (by omega)) (fun _ h => h) wc_X5_isBetween wm_RX5_38 wt_X5_isBetween wn_X5 (by decide) rfl ⟨Nat.le_of_ble_eq_true rfl, Nat.le_of_ble_eq_true rfl⟩ ⟨Nat.le_of_ble_eq_true rfl, Nat.le_of_ble_eq_true rfl⟩ (Nat.le_of_ble_eq_true rfl) dX5_fill_3 rfl (fun r9 G9 h9 => ?_)
  rw [h9.1, h9.2]
  refine aw_ifb_ne (q := 9) dX5_fill_6 rfl (t := 19) (by decide) (fun h1 => ?_) (fun h2 => ?_)
  · refine aw_iload_n (q := 20) 2 dX5_fill_19 rfl rfl rfl ?_
    refine aw_iconst (q := 21) dX5_fill_20 rfl ?_
    refine aw_bipush (q := 23) dX5_fill_21 rfl (by decide) ?_
    refine cs_I (q := 26) (As := [.int (iI n), .int (iI 1), .int (iI 30)]) 3 (c_isBetween (T := T) (D := D) (ad := ad) G (by omega) (by omega) (by omega)) (fun _ h => h) wc_X5_isBetween wm_RX5_38 wt_X5_isBetween wn_X5 (by decide) rfl ⟨Nat.le_of_ble_eq_true rfl, Nat.le_of_ble_eq_true rfl⟩ ⟨Nat.le_of_ble_eq_true rfl, Nat.le_of_ble_eq_true rfl⟩ (Nat.le_of_ble_eq_true rfl) dX5_fill_23 rfl (fun r9 G9 h9 => ?_)
    rw [h9.1, h9.2]
    refine aw_ifb_ne (q := 29) dX5_fill_26 rfl (t := 39) (by decide) (fun h3 => ?_) (fun h4 => ?_)
    · refine aw_aload_n (q := 40) 0 dX5_fill_39 rfl rfl rfl ?_
      refine cv_V (q := 43) (CC := "") (id := 102) (As := []) 0 (c_save (T := T) (D := D) (ad := ad) G o.2.2.2.2 o.1.2.1 (okC_z o)) (fun _ h => h) (by omega) (cell_102 ad C _) rfl wc_X5_save wm_RX5_64 wi_X5_save ws_X5_save wn_X5 (by decide) rfl ⟨Nat.le_of_ble_eq_true rfl, Nat.le_of_ble_eq_true rfl⟩ ⟨Nat.le_of_ble_eq_true rfl, Nat.le_of_ble_eq_true rfl⟩ (Nat.le_of_ble_eq_true rfl) dX5_fill_40 rfl (fun H8 s8 => ?_)
      refine aw_aload_n (q := 44) 0 dX5_fill_43 rfl rfl rfl ?_
      refine g_cp_machine (q := 47) wf_RX5_10 dX5_fill_44 rfl ?_
      refine g_mach_till (q := 50) (i := 0) (by omega) wf_RX5_114 dX5_fill_47 rfl ?_
      refine aw_iload_n (q := 51) 1 dX5_fill_50 rfl rfl rfl ?_
      refine aw_iload_n (q := 52) 2 dX5_fill_51 rfl rfl rfl ?_
      refine cv_I (q := 55) (CC := "") (id := 3) (As := [.int (iI t), .int (iI n)]) 2 (c_till_fillTube (T := T) (D := D) (ad := ad) H8 (i := 0) (by omega) (by omega) (by omega) (okP_row (saveP_row o.2.2.2.2 s8) o.2.1)) (fun _ h => h) (by omega) (cell_till ad C _ (i := 0) (by omega)) rfl wc_X4_fillTube wm_RX5_118 wi_X4_fillTube ws_X4_fillTube wn_X4 (by decide) rfl ⟨Nat.le_of_ble_eq_true rfl, Nat.le_of_ble_eq_true rfl⟩ ⟨Nat.le_of_ble_eq_true rfl, Nat.le_of_ble_eq_true rfl⟩ (Nat.le_of_ble_eq_true rfl) dX5_fill_52 rfl (fun r9 G9 h9 => ?_)
      exact ax_of (rt_i rfl (Nat.zero_le _) (Nat.zero_le _) (⟨⟨by omega, by omega⟩, H8, s8, h9.1.trans (by rw [show H8 0 (5 + t) = G 0 (5 + t) from saveP_ne o.2.2.2.2 s8 (by omega)]), h9.2⟩) dX5_fill_55)
    · exact aw_throwS (text := strT 112) (fun _ h => h) hst (fun _ h => h) th_42_46 (by decide +kernel) dX5_fill_29 dX5_fill_32 dX5_fill_33 dX5_fill_35 dX5_fill_38 (Nat.le_of_ble_eq_true rfl) (Nat.le_of_ble_eq_true rfl) (Nat.le_of_ble_eq_true rfl) (Nat.le_of_ble_eq_true rfl) (Nat.le_of_ble_eq_true rfl) (Nat.le_of_ble_eq_true rfl) ⟨_, rfl, ⟨rfl, by first | exact ⟨rfl, by omega⟩ | exact Or.inl ⟨rfl, by omega⟩ | exact Or.inr ⟨rfl, by omega⟩ | exact Or.inr (Or.inl ⟨rfl, by omega⟩) | exact Or.inr (Or.inr ⟨rfl, by omega⟩)⟩⟩
  · exact aw_throwS (text := strT 110) (fun _ h => h) hst (fun _ h => h) th_94_98 (by decide +kernel) dX5_fill_9 dX5_fill_12 dX5_fill_13 dX5_fill_15 dX5_fill_18 (Nat.le_of_ble_eq_true rfl) (Nat.le_of_ble_eq_true rfl) (Nat.le_of_ble_eq_true rfl) (Nat.le_of_ble_eq_true rfl) (Nat.le_of_ble_eq_true rfl) (Nat.le_of_ble_eq_true rfl) ⟨_, rfl, ⟨rfl, by first | exact ⟨rfl, by omega⟩ | exact Or.inl ⟨rfl, by omega⟩ | exact Or.inr ⟨rfl, by omega⟩ | exact Or.inr (Or.inl ⟨rfl, by omega⟩) | exact Or.inr (Or.inr ⟨rfl, by omega⟩)⟩⟩
set_option maxHeartbeats 4000000 in
set_option maxRecDepth 100000 in
theorem c_look {l : Launch} {D : va_G} {C : Nat → ClassId} {T : Nat → Nat} {ad : Int → Nat} (hst : l.stackTraces = false) (G : GG) {c : Int} (o : okM G) (hc : -2147483648 ≤ c ∧ c ≤ 2147483647) : MX l yX5_look cX5_look 2 (some .int) 6 99 1 6 D (tyC C) T [.ref (ad 102), .int (iI c)] (cw ad C G) (RI ad C (fun r G1 => (0 ≤ c ∧ c < G 0 13) ∧ ∃ H, saveP G H ∧ r = G 0 (15 + 12 * c + 2) ∧ G1 = setG H 0 (15 + 12 * c + 10) (faddH (G 0 (15 + 12 * c + 10))))) (RX ad C (fun E G1 => G1 = G ∧ ((E = xIB ∧ ¬ (0 ≤ c ∧ c < G 0 13))))) := by
  refine mx_of (by decide +kernel) (Nat.le_of_ble_eq_true rfl) rfl ?_
  have m13 := o.1.2.1
  have m14 := o.2.1.1
  have m10 := o.2.2.2.1
  refine aw_aload_n (q := 1) 0 dX5_look_0 rfl rfl rfl ?_
  refine g_cp_machine (q := 4) wf_RX5_10 dX5_look_1 rfl ?_
  refine aw_iload_n (q := 5) 1 dX5_look_4 rfl rfl rfl ?_
  refine cv_I (q := 8) (CC := "") (id := 0) (As := [.int (iI c)]) 1 (c_m_hasCoil (T := T) (D := D) (ad := ad) G (i := 0) (by omega) (by omega) o.1.2.1) (fun _ h => h) (by omega) (cell_mach ad C _ (i := 0) (by omega)) rfl wc_X1_hasCoil wm_RX5_90 wi_X1_hasCoil ws_X1_hasCoil wn_X1 (by decide) rfl ⟨Nat.le_of_ble_eq_true rfl, Nat.le_of_ble_eq_true rfl⟩ ⟨Nat.le_of_ble_eq_true rfl, Nat.le_of_ble_eq_true rfl⟩ (Nat.le_of_ble_eq_true rfl) dX5_look_5 rfl (fun r9 G9 h9 => ?_)
  rw [h9.1, h9.2]
  refine aw_ifb_ne (q := 11) dX5_look_8 rfl (t := 21) (by decide) (fun h1 => ?_) (fun h2 => ?_)
  · refine aw_aload_n (q := 22) 0 dX5_look_21 rfl rfl rfl ?_
    refine cv_V (q := 25) (CC := "") (id := 102) (As := []) 0 (c_save (T := T) (D := D) (ad := ad) G o.2.2.2.2 o.1.2.1 (okC_z o)) (fun _ h => h) (by omega) (cell_102 ad C _) rfl wc_X5_save wm_RX5_64 wi_X5_save ws_X5_save wn_X5 (by decide) rfl ⟨Nat.le_of_ble_eq_true rfl, Nat.le_of_ble_eq_true rfl⟩ ⟨Nat.le_of_ble_eq_true rfl, Nat.le_of_ble_eq_true rfl⟩ (Nat.le_of_ble_eq_true rfl) dX5_look_22 rfl (fun H8 s8 => ?_)
    refine aw_aload_n (q := 26) 0 dX5_look_25 rfl rfl rfl ?_
    refine g_cp_machine (q := 29) wf_RX5_10 dX5_look_26 rfl ?_
    refine aw_iload_n (q := 30) 1 dX5_look_29 rfl rfl rfl ?_
    refine cv_I (q := 33) (CC := "") (id := 0) (As := [.int (iI c)]) 1 (c_m_lookAt (T := T) (D := D) (ad := ad) H8 (i := 0) (by omega) (by omega) (by rw [saveP_ne o.2.2.2.2 s8 (by omega)]; exact (fw_addH (o.1.2.2 c (by omega) (by omega)).2.2.2.2.2.2.2.1).1)) (fun _ h => h) (by omega) (cell_mach ad C _ (i := 0) (by omega)) rfl wc_X1_lookAt wm_RX5_136 wi_X1_lookAt ws_X1_lookAt wn_X1 (by decide) rfl ⟨Nat.le_of_ble_eq_true rfl, Nat.le_of_ble_eq_true rfl⟩ ⟨Nat.le_of_ble_eq_true rfl, Nat.le_of_ble_eq_true rfl⟩ (Nat.le_of_ble_eq_true rfl) dX5_look_30 rfl (fun r9 G9 h9 => ?_)
    rw [h9.1, h9.2]
    exact ax_of (rt_i rfl (Nat.zero_le _) (Nat.zero_le _) (⟨⟨by omega, by omega⟩, H8, s8, saveP_ne o.2.2.2.2 s8 (by omega), by rw [show H8 0 (15 + 12 * c + 10) = G 0 (15 + 12 * c + 10) from saveP_ne o.2.2.2.2 s8 (by omega)]⟩) dX5_look_33)
  · exact aw_throwS (text := strT 96) (fun _ h => h) hst (fun _ h => h) th_94_98 (by decide +kernel) dX5_look_11 dX5_look_14 dX5_look_15 dX5_look_17 dX5_look_20 (Nat.le_of_ble_eq_true rfl) (Nat.le_of_ble_eq_true rfl) (Nat.le_of_ble_eq_true rfl) (Nat.le_of_ble_eq_true rfl) (Nat.le_of_ble_eq_true rfl) (Nat.le_of_ble_eq_true rfl) ⟨_, rfl, ⟨rfl, by first | exact ⟨rfl, by omega⟩ | exact Or.inl ⟨rfl, by omega⟩ | exact Or.inr ⟨rfl, by omega⟩ | exact Or.inr (Or.inl ⟨rfl, by omega⟩) | exact Or.inr (Or.inr ⟨rfl, by omega⟩)⟩⟩
set_option maxHeartbeats 4000000 in
set_option maxRecDepth 100000 in
theorem c_pass {l : Launch} {D : va_G} {C : Nat → ClassId} {T : Nat → Nat} {ad : Int → Nat} (hst : l.stackTraces = false) (G : GG) {h : Int} (o : okM G) (hh : -2147483648 ≤ h ∧ h ≤ 2147483647) : MX l yX5_pass cX5_pass 2 (some .int) 6 123 1 6 D (tyC C) T [.ref (ad 102), .int (iI h)] (cw ad C G) (RI ad C (fun r G1 => ((1 ≤ h ∧ h ≤ 48) ∧ (G 0 10 + h ≤ 100000)) ∧ ∃ H, saveP G H ∧ r = hoursR (G 0) h.toNat 12 - G 0 12 ∧ G1 = onR H 0 (hoursR (G 0) h.toNat))) (RX ad C (fun E G1 => G1 = G ∧ ((E = xIA ∧ ¬ (1 ≤ h ∧ h ≤ 48)) ∨ (E = xIS ∧ (1 ≤ h ∧ h ≤ 48) ∧ ¬ (G 0 10 + h ≤ 100000))))) := by
  refine mx_of (by decide +kernel) (Nat.le_of_ble_eq_true rfl) rfl ?_
  have m13 := o.1.2.1
  have m14 := o.2.1.1
  have m10 := o.2.2.2.1
  refine aw_iload_n (q := 1) 1 dX5_pass_0 rfl rfl rfl ?_
  refine aw_iconst (q := 2) dX5_pass_1 rfl ?_
  refine aw_bipush (q := 4) dX5_pass_2 rfl (by decide) ?_
  refine cs_I (q := 7) (As := [.int (iI h), .int (iI 1), .int (iI 48)]) 3 (c_isBetween (T := T) (D := D) (ad := ad) G (by omega) (by omega) (by omega)) (fun _ h => h) wc_X5_isBetween wm_RX5_38 wt_X5_isBetween wn_X5 (by decide) rfl ⟨Nat.le_of_ble_eq_true rfl, Nat.le_of_ble_eq_true rfl⟩ ⟨Nat.le_of_ble_eq_true rfl, Nat.le_of_ble_eq_true rfl⟩ (Nat.le_of_ble_eq_true rfl) dX5_pass_4 rfl (fun r9 G9 h9 => ?_)
  rw [h9.1, h9.2]
  refine aw_ifb_ne (q := 10) dX5_pass_7 rfl (t := 20) (by decide) (fun h1 => ?_) (fun h2 => ?_)
  · refine aw_aload_n (q := 21) 0 dX5_pass_20 rfl rfl rfl ?_
    refine g_cp_machine (q := 24) wf_RX5_10 dX5_pass_21 rfl ?_
    refine aw_iload_n (q := 25) 1 dX5_pass_24 rfl rfl rfl ?_
    refine cv_I (q := 28) (CC := "") (id := 0) (As := [.int (iI h)]) 1 (c_m_hasTimeFor (T := T) (D := D) (ad := ad) G (i := 0) (by omega) (by omega) (by omega)) (fun _ h => h) (by omega) (cell_mach ad C _ (i := 0) (by omega)) rfl wc_X1_hasTimeFor wm_RX5_142 wi_X1_hasTimeFor ws_X1_hasTimeFor wn_X1 (by decide) rfl ⟨Nat.le_of_ble_eq_true rfl, Nat.le_of_ble_eq_true rfl⟩ ⟨Nat.le_of_ble_eq_true rfl, Nat.le_of_ble_eq_true rfl⟩ (Nat.le_of_ble_eq_true rfl) dX5_pass_25 rfl (fun r9 G9 h9 => ?_)
    rw [h9.1, h9.2]
    refine aw_ifb_ne (q := 31) dX5_pass_28 rfl (t := 41) (by decide) (fun h3 => ?_) (fun h4 => ?_)
    · refine aw_aload_n (q := 42) 0 dX5_pass_41 rfl rfl rfl ?_
      refine cv_V (q := 45) (CC := "") (id := 102) (As := []) 0 (c_save (T := T) (D := D) (ad := ad) G o.2.2.2.2 o.1.2.1 (okC_z o)) (fun _ h => h) (by omega) (cell_102 ad C _) rfl wc_X5_save wm_RX5_64 wi_X5_save ws_X5_save wn_X5 (by decide) rfl ⟨Nat.le_of_ble_eq_true rfl, Nat.le_of_ble_eq_true rfl⟩ ⟨Nat.le_of_ble_eq_true rfl, Nat.le_of_ble_eq_true rfl⟩ (Nat.le_of_ble_eq_true rfl) dX5_pass_42 rfl (fun H8 s8 => ?_)
      refine aw_aload_n (q := 46) 0 dX5_pass_45 rfl rfl rfl ?_
      refine g_cp_machine (q := 49) wf_RX5_10 dX5_pass_46 rfl ?_
      refine aw_iload_n (q := 50) 1 dX5_pass_49 rfl rfl rfl ?_
      refine cv_I (q := 53) (CC := "") (id := 0) (As := [.int (iI h)]) 1 (c_m_passHours (T := T) (D := D) (ad := ad) H8 (i := 0) (by omega) (by rw [saveP_row o.2.2.2.2 s8]; exact o.1) (by omega)) (fun _ h => h) (by omega) (cell_mach ad C _ (i := 0) (by omega)) rfl wc_X1_passHours wm_RX5_147 wi_X1_passHours ws_X1_passHours wn_X1 (by decide) rfl ⟨Nat.le_of_ble_eq_true rfl, Nat.le_of_ble_eq_true rfl⟩ ⟨Nat.le_of_ble_eq_true rfl, Nat.le_of_ble_eq_true rfl⟩ (Nat.le_of_ble_eq_true rfl) dX5_pass_50 rfl (fun r9 G9 h9 => ?_)
      exact ax_of (rt_i rfl (Nat.zero_le _) (Nat.zero_le _) (⟨⟨by omega, by omega⟩, H8, s8, h9.1.trans (by rw [saveP_row o.2.2.2.2 s8]), h9.2.trans (by rw [saveP_row o.2.2.2.2 s8])⟩) dX5_pass_53)
    · exact aw_throwS (text := strT 145) (fun _ h => h) hst (fun _ h => h) th_81_85 (by decide +kernel) dX5_pass_31 dX5_pass_34 dX5_pass_35 dX5_pass_37 dX5_pass_40 (Nat.le_of_ble_eq_true rfl) (Nat.le_of_ble_eq_true rfl) (Nat.le_of_ble_eq_true rfl) (Nat.le_of_ble_eq_true rfl) (Nat.le_of_ble_eq_true rfl) (Nat.le_of_ble_eq_true rfl) ⟨_, rfl, ⟨rfl, by first | exact ⟨rfl, by omega⟩ | exact Or.inl ⟨rfl, by omega⟩ | exact Or.inr ⟨rfl, by omega⟩ | exact Or.inr (Or.inl ⟨rfl, by omega⟩) | exact Or.inr (Or.inr ⟨rfl, by omega⟩)⟩⟩
  · exact aw_throwS (text := strT 140) (fun _ h => h) hst (fun _ h => h) th_42_46 (by decide +kernel) dX5_pass_10 dX5_pass_13 dX5_pass_14 dX5_pass_16 dX5_pass_19 (Nat.le_of_ble_eq_true rfl) (Nat.le_of_ble_eq_true rfl) (Nat.le_of_ble_eq_true rfl) (Nat.le_of_ble_eq_true rfl) (Nat.le_of_ble_eq_true rfl) (Nat.le_of_ble_eq_true rfl) ⟨_, rfl, ⟨rfl, by first | exact ⟨rfl, by omega⟩ | exact Or.inl ⟨rfl, by omega⟩ | exact Or.inr ⟨rfl, by omega⟩ | exact Or.inr (Or.inl ⟨rfl, by omega⟩) | exact Or.inr (Or.inr ⟨rfl, by omega⟩)⟩⟩
set_option maxHeartbeats 4000000 in
set_option maxRecDepth 100000 in
theorem c_emptyBox {l : Launch} {D : va_G} {C : Nat → ClassId} {T : Nat → Nat} {ad : Int → Nat} (G : GG) (o : okM G) : MC l yX5_emptyBox cX5_emptyBox 1 (some .int) 4 99 0 0 D (tyC C) T [.ref (ad 102)] (cw ad C G) (RI ad C (fun r G1 => ∃ H, saveP G H ∧ r = G 0 9 ∧ G1 = setG H 0 9 0)) := by
  refine mc_of (by decide +kernel) (Nat.le_of_ble_eq_true rfl) rfl ?_
  have m13 := o.1.2.1
  have m14 := o.2.1.1
  have m10 := o.2.2.2.1
  refine aw_aload_n (q := 1) 0 dX5_emptyBox_0 rfl rfl rfl ?_
  refine cv_V (q := 4) (CC := "") (id := 102) (As := []) 0 (c_save (T := T) (D := D) (ad := ad) G o.2.2.2.2 o.1.2.1 (okC_z o)) (fun _ h => h) (by omega) (cell_102 ad C _) rfl wc_X5_save wm_RX5_64 wi_X5_save ws_X5_save wn_X5 (by decide) rfl ⟨Nat.le_of_ble_eq_true rfl, Nat.le_of_ble_eq_true rfl⟩ ⟨Nat.le_of_ble_eq_true rfl, Nat.le_of_ble_eq_true rfl⟩ (Nat.le_of_ble_eq_true rfl) dX5_emptyBox_1 rfl (fun H8 s8 => ?_)
  refine aw_aload_n (q := 5) 0 dX5_emptyBox_4 rfl rfl rfl ?_
  refine g_cp_machine (q := 8) wf_RX5_10 dX5_emptyBox_5 rfl ?_
  refine g_mach_till (q := 11) (i := 0) (by omega) wf_RX5_114 dX5_emptyBox_8 rfl ?_
  refine cv_I (q := 14) (CC := "") (id := 3) (As := []) 0 (c_till_takeBox (T := T) (D := D) (ad := ad) H8 (i := 0) (by omega)) (fun _ h => h) (by omega) (cell_till ad C _ (i := 0) (by omega)) rfl wc_X4_takeBox wm_RX5_150 wi_X4_takeBox ws_X4_takeBox wn_X4 (by decide) rfl ⟨Nat.le_of_ble_eq_true rfl, Nat.le_of_ble_eq_true rfl⟩ ⟨Nat.le_of_ble_eq_true rfl, Nat.le_of_ble_eq_true rfl⟩ (Nat.le_of_ble_eq_true rfl) dX5_emptyBox_11 rfl (fun r9 G9 h9 => ?_)
  rw [h9.1, h9.2]
  exact rt_i rfl (Nat.le_refl _) (Nat.le_refl _) (⟨H8, s8, saveP_ne o.2.2.2.2 s8 (by omega), rfl⟩) dX5_emptyBox_14
set_option maxHeartbeats 4000000 in
set_option maxRecDepth 100000 in
theorem c_coilV {l : Launch} {D : va_G} {C : Nat → ClassId} {T : Nat → Nat} {ad : Int → Nat} (hst : l.stackTraces = false) (G : GG) {c k : Int} (o : okM G) (hc : -2147483648 ≤ c ∧ c ≤ 2147483647) (hk : -2147483648 ≤ k ∧ k ≤ 2147483647) : MX l yX5_coil cX5_coil 3 (some .int) 6 95 1 6 D (tyC C) T [.ref (ad 102), .int (iI c), .int (iI k)] (cw ad C G) (RI ad C (fun r G1 => ((0 ≤ c ∧ c < G 0 13) ∧ (0 ≤ k ∧ k ≤ 9)) ∧ r = G 0 (15 + 12 * c + k) ∧ G1 = G)) (RX ad C (fun E G1 => G1 = G ∧ ((E = xIB ∧ ¬ (0 ≤ c ∧ c < G 0 13)) ∨ (E = xIA ∧ (0 ≤ c ∧ c < G 0 13) ∧ ¬ (0 ≤ k ∧ k ≤ 9))))) := by
  refine mx_of (by decide +kernel) (Nat.le_of_ble_eq_true rfl) rfl ?_
  have m13 := o.1.2.1
  have m14 := o.2.1.1
  have m10 := o.2.2.2.1
  refine aw_aload_n (q := 1) 0 dX5_coil_0 rfl rfl rfl ?_
  refine g_cp_machine (q := 4) wf_RX5_10 dX5_coil_1 rfl ?_
  refine aw_iload_n (q := 5) 1 dX5_coil_4 rfl rfl rfl ?_
  refine cv_I (q := 8) (CC := "") (id := 0) (As := [.int (iI c)]) 1 (c_m_hasCoil (T := T) (D := D) (ad := ad) G (i := 0) (by omega) (by omega) o.1.2.1) (fun _ h => h) (by omega) (cell_mach ad C _ (i := 0) (by omega)) rfl wc_X1_hasCoil wm_RX5_90 wi_X1_hasCoil ws_X1_hasCoil wn_X1 (by decide) rfl ⟨Nat.le_of_ble_eq_true rfl, Nat.le_of_ble_eq_true rfl⟩ ⟨Nat.le_of_ble_eq_true rfl, Nat.le_of_ble_eq_true rfl⟩ (Nat.le_of_ble_eq_true rfl) dX5_coil_5 rfl (fun r9 G9 h9 => ?_)
  rw [h9.1, h9.2]
  refine aw_ifb_ne (q := 11) dX5_coil_8 rfl (t := 21) (by decide) (fun h1 => ?_) (fun h2 => ?_)
  · refine aw_iload_n (q := 22) 2 dX5_coil_21 rfl rfl rfl ?_
    refine aw_iconst (q := 23) dX5_coil_22 rfl ?_
    refine aw_bipush (q := 25) dX5_coil_23 rfl (by decide) ?_
    refine cs_I (q := 28) (As := [.int (iI k), .int (iI 0), .int (iI 9)]) 3 (c_isBetween (T := T) (D := D) (ad := ad) G (by omega) (by omega) (by omega)) (fun _ h => h) wc_X5_isBetween wm_RX5_38 wt_X5_isBetween wn_X5 (by decide) rfl ⟨Nat.le_of_ble_eq_true rfl, Nat.le_of_ble_eq_true rfl⟩ ⟨Nat.le_of_ble_eq_true rfl, Nat.le_of_ble_eq_true rfl⟩ (Nat.le_of_ble_eq_true rfl) dX5_coil_25 rfl (fun r9 G9 h9 => ?_)
    rw [h9.1, h9.2]
    refine aw_ifb_ne (q := 31) dX5_coil_28 rfl (t := 41) (by decide) (fun h3 => ?_) (fun h4 => ?_)
    · refine aw_aload_n (q := 42) 0 dX5_coil_41 rfl rfl rfl ?_
      refine g_cp_machine (q := 45) wf_RX5_10 dX5_coil_42 rfl ?_
      refine g_mach_coils (q := 48) (i := 0) (by omega) wf_RX5_156 dX5_coil_45 rfl ?_
      refine aw_iload_n (q := 49) 1 dX5_coil_48 rfl rfl rfl ?_
      refine aw_coil (q := 50) (i := 0) (by omega) (by omega) dX5_coil_49 rfl ?_
      refine aw_iload_n (q := 51) 2 dX5_coil_50 rfl rfl rfl ?_
      refine cv_I (q := 54) (CC := "") (id := 17 * 0 + 9 + c) (As := [.int (iI k)]) 1 (c_coil_fact (T := T) (D := D) (ad := ad) G (i := 0) (by omega) (by omega) (by omega)) (fun _ h => h) (by omega) (cell_coil ad C _ (i := 0) (c := c) (by omega) (by omega)) rfl wc_X0_fact wm_RX5_160 wi_X0_fact ws_X0_fact wn_X0 (by decide) rfl ⟨Nat.le_of_ble_eq_true rfl, Nat.le_of_ble_eq_true rfl⟩ ⟨Nat.le_of_ble_eq_true rfl, Nat.le_of_ble_eq_true rfl⟩ (Nat.le_of_ble_eq_true rfl) dX5_coil_51 rfl (fun r9 G9 h9 => ?_)
      rw [h9.1, h9.2]
      exact ax_of (rt_i rfl (Nat.zero_le _) (Nat.zero_le _) (⟨⟨by omega, by omega⟩, rfl, rfl⟩) dX5_coil_54)
    · exact aw_throwS (text := strT 154) (fun _ h => h) hst (fun _ h => h) th_42_46 (by decide +kernel) dX5_coil_31 dX5_coil_34 dX5_coil_35 dX5_coil_37 dX5_coil_40 (Nat.le_of_ble_eq_true rfl) (Nat.le_of_ble_eq_true rfl) (Nat.le_of_ble_eq_true rfl) (Nat.le_of_ble_eq_true rfl) (Nat.le_of_ble_eq_true rfl) (Nat.le_of_ble_eq_true rfl) ⟨_, rfl, ⟨rfl, by first | exact ⟨rfl, by omega⟩ | exact Or.inl ⟨rfl, by omega⟩ | exact Or.inr ⟨rfl, by omega⟩ | exact Or.inr (Or.inl ⟨rfl, by omega⟩) | exact Or.inr (Or.inr ⟨rfl, by omega⟩)⟩⟩
  · exact aw_throwS (text := strT 96) (fun _ h => h) hst (fun _ h => h) th_94_98 (by decide +kernel) dX5_coil_11 dX5_coil_14 dX5_coil_15 dX5_coil_17 dX5_coil_20 (Nat.le_of_ble_eq_true rfl) (Nat.le_of_ble_eq_true rfl) (Nat.le_of_ble_eq_true rfl) (Nat.le_of_ble_eq_true rfl) (Nat.le_of_ble_eq_true rfl) (Nat.le_of_ble_eq_true rfl) ⟨_, rfl, ⟨rfl, by first | exact ⟨rfl, by omega⟩ | exact Or.inl ⟨rfl, by omega⟩ | exact Or.inr ⟨rfl, by omega⟩ | exact Or.inr (Or.inl ⟨rfl, by omega⟩) | exact Or.inr (Or.inr ⟨rfl, by omega⟩)⟩⟩
set_option maxHeartbeats 4000000 in
set_option maxRecDepth 100000 in
theorem c_demand {l : Launch} {D : va_G} {C : Nat → ClassId} {T : Nat → Nat} {ad : Int → Nat} (hst : l.stackTraces = false) (G : GG) {c : Int} (o : okM G) (hc : -2147483648 ≤ c ∧ c ≤ 2147483647) : MX l yX5_demand cX5_demand 2 (some .float) 6 95 1 6 D (tyC C) T [.ref (ad 102), .int (iI c)] (cw ad C G) (RF ad C (fun r G1 => (0 ≤ c ∧ c < G 0 13) ∧ r = fB (G 0 (15 + 12 * c + 10)) ∧ G1 = G)) (RX ad C (fun E G1 => G1 = G ∧ ((E = xIB ∧ ¬ (0 ≤ c ∧ c < G 0 13))))) := by
  refine mx_of (by decide +kernel) (Nat.le_of_ble_eq_true rfl) rfl ?_
  have m13 := o.1.2.1
  have m14 := o.2.1.1
  have m10 := o.2.2.2.1
  refine aw_aload_n (q := 1) 0 dX5_demand_0 rfl rfl rfl ?_
  refine g_cp_machine (q := 4) wf_RX5_10 dX5_demand_1 rfl ?_
  refine aw_iload_n (q := 5) 1 dX5_demand_4 rfl rfl rfl ?_
  refine cv_I (q := 8) (CC := "") (id := 0) (As := [.int (iI c)]) 1 (c_m_hasCoil (T := T) (D := D) (ad := ad) G (i := 0) (by omega) (by omega) o.1.2.1) (fun _ h => h) (by omega) (cell_mach ad C _ (i := 0) (by omega)) rfl wc_X1_hasCoil wm_RX5_90 wi_X1_hasCoil ws_X1_hasCoil wn_X1 (by decide) rfl ⟨Nat.le_of_ble_eq_true rfl, Nat.le_of_ble_eq_true rfl⟩ ⟨Nat.le_of_ble_eq_true rfl, Nat.le_of_ble_eq_true rfl⟩ (Nat.le_of_ble_eq_true rfl) dX5_demand_5 rfl (fun r9 G9 h9 => ?_)
  rw [h9.1, h9.2]
  refine aw_ifb_ne (q := 11) dX5_demand_8 rfl (t := 21) (by decide) (fun h1 => ?_) (fun h2 => ?_)
  · refine aw_aload_n (q := 22) 0 dX5_demand_21 rfl rfl rfl ?_
    refine g_cp_machine (q := 25) wf_RX5_10 dX5_demand_22 rfl ?_
    refine g_mach_coils (q := 28) (i := 0) (by omega) wf_RX5_156 dX5_demand_25 rfl ?_
    refine aw_iload_n (q := 29) 1 dX5_demand_28 rfl rfl rfl ?_
    refine aw_coil (q := 30) (i := 0) (by omega) (by omega) dX5_demand_29 rfl ?_
    refine g_coil_wanted (q := 33) (i := 0) (c := c) (by omega) (by omega) (v := (G 0 (15 + 12 * c + 10))) rfl wf_RX5_165 dX5_demand_30 rfl ?_
    exact ax_of (rt_f rfl (Nat.zero_le _) (Nat.zero_le _) (⟨⟨by omega, by omega⟩, rfl, rfl⟩) dX5_demand_33)
  · exact aw_throwS (text := strT 96) (fun _ h => h) hst (fun _ h => h) th_94_98 (by decide +kernel) dX5_demand_11 dX5_demand_14 dX5_demand_15 dX5_demand_17 dX5_demand_20 (Nat.le_of_ble_eq_true rfl) (Nat.le_of_ble_eq_true rfl) (Nat.le_of_ble_eq_true rfl) (Nat.le_of_ble_eq_true rfl) (Nat.le_of_ble_eq_true rfl) (Nat.le_of_ble_eq_true rfl) ⟨_, rfl, ⟨rfl, by first | exact ⟨rfl, by omega⟩ | exact Or.inl ⟨rfl, by omega⟩ | exact Or.inr ⟨rfl, by omega⟩ | exact Or.inr (Or.inl ⟨rfl, by omega⟩) | exact Or.inr (Or.inr ⟨rfl, by omega⟩)⟩⟩
set_option maxHeartbeats 4000000 in
set_option maxRecDepth 100000 in
theorem c_tubeV {l : Launch} {D : va_G} {C : Nat → ClassId} {T : Nat → Nat} {ad : Int → Nat} (hst : l.stackTraces = false) (G : GG) {t : Int} (o : okM G) (ht : -2147483648 ≤ t ∧ t ≤ 2147483647) : MX l yX5_tube cX5_tube 2 (some .int) 6 95 1 6 D (tyC C) T [.ref (ad 102), .int (iI t)] (cw ad C G) (RI ad C (fun r G1 => (0 ≤ t ∧ t ≤ 3) ∧ r = G 0 (5 + t) ∧ G1 = G)) (RX ad C (fun E G1 => G1 = G ∧ ((E = xIB ∧ ¬ (0 ≤ t ∧ t ≤ 3))))) := by
  refine mx_of (by decide +kernel) (Nat.le_of_ble_eq_true rfl) rfl ?_
  have m13 := o.1.2.1
  have m14 := o.2.1.1
  have m10 := o.2.2.2.1
  refine aw_iload_n (q := 1) 1 dX5_tube_0 rfl rfl rfl ?_
  refine aw_iconst (q := 2) dX5_tube_1 rfl ?_
  refine aw_iconst (q := 3) dX5_tube_2 rfl ?_
  refine cs_I (q := 6) (As := [.int (iI t), .int (iI 0), .int (iI 3)]) 3 (c_isBetween (T := T) (D := D) (ad := ad) G (by omega) (by omega) (by omega)) (fun _ h => h) wc_X5_isBetween wm_RX5_38 wt_X5_isBetween wn_X5 (by decide) rfl ⟨Nat.le_of_ble_eq_true rfl, Nat.le_of_ble_eq_true rfl⟩ ⟨Nat.le_of_ble_eq_true rfl, Nat.le_of_ble_eq_true rfl⟩ (Nat.le_of_ble_eq_true rfl) dX5_tube_3 rfl (fun r9 G9 h9 => ?_)
  rw [h9.1, h9.2]
  refine aw_ifb_ne (q := 9) dX5_tube_6 rfl (t := 19) (by decide) (fun h1 => ?_) (fun h2 => ?_)
  · refine aw_aload_n (q := 20) 0 dX5_tube_19 rfl rfl rfl ?_
    refine g_cp_machine (q := 23) wf_RX5_10 dX5_tube_20 rfl ?_
    refine g_mach_till (q := 26) (i := 0) (by omega) wf_RX5_114 dX5_tube_23 rfl ?_
    refine g_till_tubes (q := 29) (i := 0) (by omega) wf_RX5_169 dX5_tube_26 rfl ?_
    refine aw_iload_n (q := 30) 1 dX5_tube_29 rfl rfl rfl ?_
    refine aw_cial (q := 31) (v := (G 0 (5 + t))) (5 + t) (ar_tubes ad C (i := 0) (by omega)) (by omega) (by omega) rfl dX5_tube_30 rfl ?_
    exact ax_of (rt_i rfl (Nat.zero_le _) (Nat.zero_le _) (⟨⟨by omega, by omega⟩, rfl, rfl⟩) dX5_tube_31)
  · exact aw_throwS (text := strT 110) (fun _ h => h) hst (fun _ h => h) th_94_98 (by decide +kernel) dX5_tube_9 dX5_tube_12 dX5_tube_13 dX5_tube_15 dX5_tube_18 (Nat.le_of_ble_eq_true rfl) (Nat.le_of_ble_eq_true rfl) (Nat.le_of_ble_eq_true rfl) (Nat.le_of_ble_eq_true rfl) (Nat.le_of_ble_eq_true rfl) (Nat.le_of_ble_eq_true rfl) ⟨_, rfl, ⟨rfl, by first | exact ⟨rfl, by omega⟩ | exact Or.inl ⟨rfl, by omega⟩ | exact Or.inr ⟨rfl, by omega⟩ | exact Or.inr (Or.inl ⟨rfl, by omega⟩) | exact Or.inr (Or.inr ⟨rfl, by omega⟩)⟩⟩
set_option maxHeartbeats 4000000 in
set_option maxRecDepth 100000 in
theorem c_value {l : Launch} {D : va_G} {C : Nat → ClassId} {T : Nat → Nat} {ad : Int → Nat} (hst : l.stackTraces = false) (G : GG) {k : Int} (o : okM G) (hk : -2147483648 ≤ k ∧ k ≤ 2147483647) : MX l yX5_value cX5_value 2 (some .int) 6 95 1 6 D (tyC C) T [.ref (ad 102), .int (iI k)] (cw ad C G) (RI ad C (fun r G1 => (0 ≤ k ∧ k ≤ 10) ∧ r = numF (G 0) k ∧ G1 = G)) (RX ad C (fun E G1 => G1 = G ∧ ((E = xIA ∧ ¬ (0 ≤ k ∧ k ≤ 10))))) := by
  refine mx_of (by decide +kernel) (Nat.le_of_ble_eq_true rfl) rfl ?_
  have m13 := o.1.2.1
  have m14 := o.2.1.1
  have m10 := o.2.2.2.1
  refine aw_iload_n (q := 1) 1 dX5_value_0 rfl rfl rfl ?_
  refine aw_iconst (q := 2) dX5_value_1 rfl ?_
  refine aw_bipush (q := 4) dX5_value_2 rfl (by decide) ?_
  refine cs_I (q := 7) (As := [.int (iI k), .int (iI 0), .int (iI 10)]) 3 (c_isBetween (T := T) (D := D) (ad := ad) G (by omega) (by omega) (by omega)) (fun _ h => h) wc_X5_isBetween wm_RX5_38 wt_X5_isBetween wn_X5 (by decide) rfl ⟨Nat.le_of_ble_eq_true rfl, Nat.le_of_ble_eq_true rfl⟩ ⟨Nat.le_of_ble_eq_true rfl, Nat.le_of_ble_eq_true rfl⟩ (Nat.le_of_ble_eq_true rfl) dX5_value_4 rfl (fun r9 G9 h9 => ?_)
  rw [h9.1, h9.2]
  refine aw_ifb_ne (q := 10) dX5_value_7 rfl (t := 20) (by decide) (fun h1 => ?_) (fun h2 => ?_)
  · refine aw_aload_n (q := 21) 0 dX5_value_20 rfl rfl rfl ?_
    refine g_cp_machine (q := 24) wf_RX5_10 dX5_value_21 rfl ?_
    refine aw_iload_n (q := 25) 1 dX5_value_24 rfl rfl rfl ?_
    refine cv_I (q := 28) (CC := "") (id := 0) (As := [.int (iI k)]) 1 (c_m_number (T := T) (D := D) (ad := ad) G (i := 0) (by omega) m13 (fun k z0 z1 => by have := o.2.1.2.2 k z0 z1; omega) (by omega)) (fun _ h => h) (by omega) (cell_mach ad C _ (i := 0) (by omega)) rfl wc_X1_number wm_RX5_172 wi_X1_number ws_X1_number wn_X1 (by decide) rfl ⟨Nat.le_of_ble_eq_true rfl, Nat.le_of_ble_eq_true rfl⟩ ⟨Nat.le_of_ble_eq_true rfl, Nat.le_of_ble_eq_true rfl⟩ (Nat.le_of_ble_eq_true rfl) dX5_value_25 rfl (fun r9 G9 h9 => ?_)
    rw [h9.1, h9.2]
    exact ax_of (rt_i rfl (Nat.zero_le _) (Nat.zero_le _) (⟨⟨by omega, by omega⟩, rfl, rfl⟩) dX5_value_28)
  · exact aw_throwS (text := strT 154) (fun _ h => h) hst (fun _ h => h) th_42_46 (by decide +kernel) dX5_value_10 dX5_value_13 dX5_value_14 dX5_value_16 dX5_value_19 (Nat.le_of_ble_eq_true rfl) (Nat.le_of_ble_eq_true rfl) (Nat.le_of_ble_eq_true rfl) (Nat.le_of_ble_eq_true rfl) (Nat.le_of_ble_eq_true rfl) (Nat.le_of_ble_eq_true rfl) ⟨_, rfl, ⟨rfl, by first | exact ⟨rfl, by omega⟩ | exact Or.inl ⟨rfl, by omega⟩ | exact Or.inr ⟨rfl, by omega⟩ | exact Or.inr (Or.inl ⟨rfl, by omega⟩) | exact Or.inr (Or.inr ⟨rfl, by omega⟩)⟩⟩
set_option maxHeartbeats 4000000 in
set_option maxRecDepth 100000 in
theorem c_setting {l : Launch} {D : va_G} {C : Nat → ClassId} {T : Nat → Nat} {ad : Int → Nat} (hst : l.stackTraces = false) (G : GG) {w : Int} (o : okM G) (hw : -2147483648 ≤ w ∧ w ≤ 2147483647) : MX l yX5_setting cX5_setting 2 (some .int) 6 95 1 6 D (tyC C) T [.ref (ad 102), .int (iI w)] (cw ad C G) (RI ad C (fun r G1 => (0 ≤ w ∧ w ≤ 4) ∧ r = G 0 w ∧ G1 = G)) (RX ad C (fun E G1 => G1 = G ∧ ((E = xIA ∧ ¬ (0 ≤ w ∧ w ≤ 4))))) := by
  refine mx_of (by decide +kernel) (Nat.le_of_ble_eq_true rfl) rfl ?_
  have m13 := o.1.2.1
  have m14 := o.2.1.1
  have m10 := o.2.2.2.1
  refine aw_iload_n (q := 1) 1 dX5_setting_0 rfl rfl rfl ?_
  refine aw_iconst (q := 2) dX5_setting_1 rfl ?_
  refine aw_iconst (q := 3) dX5_setting_2 rfl ?_
  refine cs_I (q := 6) (As := [.int (iI w), .int (iI 0), .int (iI 4)]) 3 (c_isBetween (T := T) (D := D) (ad := ad) G (by omega) (by omega) (by omega)) (fun _ h => h) wc_X5_isBetween wm_RX5_38 wt_X5_isBetween wn_X5 (by decide) rfl ⟨Nat.le_of_ble_eq_true rfl, Nat.le_of_ble_eq_true rfl⟩ ⟨Nat.le_of_ble_eq_true rfl, Nat.le_of_ble_eq_true rfl⟩ (Nat.le_of_ble_eq_true rfl) dX5_setting_3 rfl (fun r9 G9 h9 => ?_)
  rw [h9.1, h9.2]
  refine aw_ifb_ne (q := 9) dX5_setting_6 rfl (t := 19) (by decide) (fun h1 => ?_) (fun h2 => ?_)
  · refine aw_aload_n (q := 20) 0 dX5_setting_19 rfl rfl rfl ?_
    refine g_cp_machine (q := 23) wf_RX5_10 dX5_setting_20 rfl ?_
    refine g_mach_settings (q := 26) (i := 0) (by omega) wf_RX5_175 dX5_setting_23 rfl ?_
    refine aw_iload_n (q := 27) 1 dX5_setting_26 rfl rfl rfl ?_
    refine aw_cial (q := 28) (v := (G 0 w)) w (ar_sets ad C (i := 0) (by omega)) (by omega) (by omega) rfl dX5_setting_27 rfl ?_
    exact ax_of (rt_i rfl (Nat.zero_le _) (Nat.zero_le _) (⟨⟨by omega, by omega⟩, rfl, rfl⟩) dX5_setting_28)
  · exact aw_throwS (text := strT 44) (fun _ h => h) hst (fun _ h => h) th_42_46 (by decide +kernel) dX5_setting_9 dX5_setting_12 dX5_setting_13 dX5_setting_15 dX5_setting_18 (Nat.le_of_ble_eq_true rfl) (Nat.le_of_ble_eq_true rfl) (Nat.le_of_ble_eq_true rfl) (Nat.le_of_ble_eq_true rfl) (Nat.le_of_ble_eq_true rfl) (Nat.le_of_ble_eq_true rfl) ⟨_, rfl, ⟨rfl, by first | exact ⟨rfl, by omega⟩ | exact Or.inl ⟨rfl, by omega⟩ | exact Or.inr ⟨rfl, by omega⟩ | exact Or.inr (Or.inl ⟨rfl, by omega⟩) | exact Or.inr (Or.inr ⟨rfl, by omega⟩)⟩⟩
set_option maxHeartbeats 4000000 in
set_option maxRecDepth 100000 in
theorem c_promise {l : Launch} {D : va_G} {C : Nat → ClassId} {T : Nat → Nat} {ad : Int → Nat} (hst : l.stackTraces = false) (G : GG) {p : Int} (o : okM G) (hp : -2147483648 ≤ p ∧ p ≤ 2147483647) : MX l yX5_promise cX5_promise 2 (some .int) 6 95 1 6 D (tyC C) T [.ref (ad 102), .int (iI p)] (cw ad C G) (RI ad C (fun r G1 => (0 ≤ p ∧ p ≤ G 0 14 - 1) ∧ r = G 0 (111 + p) ∧ G1 = G)) (RX ad C (fun E G1 => G1 = G ∧ ((E = xIB ∧ ¬ (0 ≤ p ∧ p ≤ G 0 14 - 1))))) := by
  refine mx_of (by decide +kernel) (Nat.le_of_ble_eq_true rfl) rfl ?_
  have m13 := o.1.2.1
  have m14 := o.2.1.1
  have m10 := o.2.2.2.1
  refine aw_iload_n (q := 1) 1 dX5_promise_0 rfl rfl rfl ?_
  refine aw_iconst (q := 2) dX5_promise_1 rfl ?_
  refine aw_aload_n (q := 3) 0 dX5_promise_2 rfl rfl rfl ?_
  refine g_cp_machine (q := 6) wf_RX5_10 dX5_promise_3 rfl ?_
  refine g_mach_till (q := 9) (i := 0) (by omega) wf_RX5_114 dX5_promise_6 rfl ?_
  refine g_till_promiseCount (q := 12) (i := 0) (by omega) (v := (G 0 14)) rfl wf_RX5_178 dX5_promise_9 rfl ?_
  refine aw_iconst (q := 13) dX5_promise_12 rfl ?_
  refine ae_isub (q := 14) ((G 0 14) - 1) (by omega) dX5_promise_13 rfl ?_
  refine cs_I (q := 17) (As := [.int (iI p), .int (iI 0), .int (iI ((G 0 14) - 1))]) 3 (c_isBetween (T := T) (D := D) (ad := ad) G (by omega) (by omega) (by omega)) (fun _ h => h) wc_X5_isBetween wm_RX5_38 wt_X5_isBetween wn_X5 (by decide) rfl ⟨Nat.le_of_ble_eq_true rfl, Nat.le_of_ble_eq_true rfl⟩ ⟨Nat.le_of_ble_eq_true rfl, Nat.le_of_ble_eq_true rfl⟩ (Nat.le_of_ble_eq_true rfl) dX5_promise_14 rfl (fun r9 G9 h9 => ?_)
  rw [h9.1, h9.2]
  refine aw_ifb_ne (q := 20) dX5_promise_17 rfl (t := 30) (by decide) (fun h1 => ?_) (fun h2 => ?_)
  · refine aw_aload_n (q := 31) 0 dX5_promise_30 rfl rfl rfl ?_
    refine g_cp_machine (q := 34) wf_RX5_10 dX5_promise_31 rfl ?_
    refine g_mach_till (q := 37) (i := 0) (by omega) wf_RX5_114 dX5_promise_34 rfl ?_
    refine g_till_promises (q := 40) (i := 0) (by omega) wf_RX5_183 dX5_promise_37 rfl ?_
    refine aw_iload_n (q := 41) 1 dX5_promise_40 rfl rfl rfl ?_
    refine aw_cial (q := 42) (v := (G 0 (111 + p))) (111 + p) (ar_prom ad C (i := 0) (by omega)) (by omega) (by omega) rfl dX5_promise_41 rfl ?_
    exact ax_of (rt_i rfl (Nat.zero_le _) (Nat.zero_le _) (⟨⟨by omega, by omega⟩, rfl, rfl⟩) dX5_promise_42)
  · exact aw_throwS (text := strT 181) (fun _ h => h) hst (fun _ h => h) th_94_98 (by decide +kernel) dX5_promise_20 dX5_promise_23 dX5_promise_24 dX5_promise_26 dX5_promise_29 (Nat.le_of_ble_eq_true rfl) (Nat.le_of_ble_eq_true rfl) (Nat.le_of_ble_eq_true rfl) (Nat.le_of_ble_eq_true rfl) (Nat.le_of_ble_eq_true rfl) (Nat.le_of_ble_eq_true rfl) ⟨_, rfl, ⟨rfl, by first | exact ⟨rfl, by omega⟩ | exact Or.inl ⟨rfl, by omega⟩ | exact Or.inr ⟨rfl, by omega⟩ | exact Or.inr (Or.inl ⟨rfl, by omega⟩) | exact Or.inr (Or.inr ⟨rfl, by omega⟩)⟩⟩
