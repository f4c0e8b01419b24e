/-! class CoilPrices: an order obeyed -/
/-- the fields of an order that was read without an error -/
def ordP (G : GG) : Prop := (-1 ≤ G 7 2 ∧ G 7 2 ≤ 127) ∧ (G 7 2 = 115 → (0 ≤ G 7 3 ∧ G 7 3 ≤ 7) ∧ (1 ≤ G 7 4 ∧ G 7 4 ≤ 20)) ∧ (G 7 2 = 98 → (0 ≤ G 7 3 ∧ G 7 3 ≤ 7) ∧ ∀ k : Int, 0 ≤ k → k < 4 → 0 ≤ G 9 k ∧ G 9 k ≤ 9) ∧ (G 7 2 = 102 → (0 ≤ G 7 3 ∧ G 7 3 ≤ 3) ∧ (1 ≤ G 7 4 ∧ G 7 4 ≤ 30)) ∧ (G 7 2 = 104 → 1 ≤ G 7 4 ∧ G 7 4 ≤ 48)
def obeyP (G : GG) (r : Int) (G1 : GG) : Prop :=
  (G 7 2 = 115 ∧ ((¬ (G 7 3 < G 0 13 ∧ G 0 (15 + 12 * G 7 3 + 1) + G 7 4 ≤ 20) ∧ r = 0 ∧ G1 = G) ∨ ((G 7 3 < G 0 13 ∧ G 0 (15 + 12 * G 7 3 + 1) + G 7 4 ≤ 20) ∧ r = 1 ∧ G1 = setG G 0 (15 + 12 * G 7 3 + 1) (G 0 (15 + 12 * G 7 3 + 1) + G 7 4)))) ∨
  (G 7 2 = 98 ∧ ((¬ G 7 3 < G 0 13 ∧ r = 0 ∧ G1 = G) ∨ (G 7 3 < G 0 13 ∧ ¬ canSellP G 0 (G 7 3) 9 ∧ r = 0 ∧ sameB (scr 0) G G1) ∨ (G 7 3 < G 0 13 ∧ canSellP G 0 (G 7 3) 9 ∧ r = 1 ∧ ∃ K x, sameB (scr 0) G K ∧ sellP K 0 (G 7 3) 9 x G1))) ∨
  (G 7 2 = 102 ∧ r = 1 ∧ keepP (fillG G 0 (G 7 3) (G 7 4)) 0 (kpG (fillG G 0 (G 7 3) (G 7 4)) 0) G1) ∨
  (G 7 2 = 104 ∧ ((¬ G 0 10 + G 7 4 ≤ 100000 ∧ r = 0 ∧ G1 = G) ∨ (G 0 10 + G 7 4 ≤ 100000 ∧ r = 1 ∧ G1 = onR G 0 (hoursR (G 0) (G 7 4).toNat)))) ∨
  ((G 7 2 ≠ 98 ∧ G 7 2 ≠ 102 ∧ G 7 2 ≠ 104 ∧ G 7 2 ≠ 115) ∧ r = 0 ∧ G1 = G)
set_option maxHeartbeats 4000000 in
set_option maxRecDepth 100000 in
theorem c_obey {l : Launch} {D : va_G} {C : Nat → ClassId} {T : Nat → Nat} {ad : Int → Nat} (G : GG) (o : okN G 0) (h10 : 0 ≤ G 0 10 ∧ G 0 10 ≤ 100000) (ob : ordP G) : MC l yX5_obey cX5_obey 3 (some .boolean) 6 151 0 0 D (tyC C) T [.ref (ad 102)] (cw ad C G) (RI ad C (fun r G1 => obeyP G r G1)) := by
  refine mc_of (by decide +kernel) (Nat.le_of_ble_eq_true rfl) rfl ?_
  have m13 := o.1.2.1
  have f0 := ob.1
  refine aw_aload_n (q := 1) 0 dX5_obey_0 rfl rfl rfl ?_
  refine g_cp_text (q := 4) wf_RX5_30 dX5_obey_1 rfl ?_
  refine g_text_place (q := 7) (v := (G 7 3)) rfl wf_RX5_251 dX5_obey_4 rfl ?_
  refine aw_istore_n (q := 8) (lv2 := [(0, .ref (ad 102)), (1, .int (iI (G 7 3)))]) [1, 0] dX5_obey_7 rfl rfl (by decide) rfl rfl ?_
  refine aw_aload_n (q := 9) 0 dX5_obey_8 rfl rfl rfl ?_
  refine g_cp_text (q := 12) wf_RX5_30 dX5_obey_9 rfl ?_
  refine g_text_number (q := 15) (v := (G 7 4)) rfl wf_RX5_254 dX5_obey_12 rfl ?_
  refine aw_istore_n (q := 16) (lv2 := [(0, .ref (ad 102)), (1, .int (iI (G 7 3))), (2, .int (iI (G 7 4)))]) [1, 2, 0] dX5_obey_15 rfl rfl (by decide) rfl rfl ?_
  refine aw_aload_n (q := 17) 0 dX5_obey_16 rfl rfl rfl ?_
  refine g_cp_text (q := 20) wf_RX5_30 dX5_obey_17 rfl ?_
  refine g_text_letter (q := 23) (v := (G 7 2)) rfl wf_RX5_256 dX5_obey_20 rfl ?_
  refine ae_lkp4 101 150 165 64 189 (by omega) dX5_obey_23 (by decide) rfl rfl rfl rfl rfl (fun h1 => ?_) (fun h2 => ?_) (fun h3 => ?_) (fun h4 => ?_) (fun h5 => ?_)
  · have f1 := (ob.2.2.1 (by assumption)).1
    have f2 := (ob.2.2.1 (by assumption)).2
    refine aw_aload_n (q := 102) 0 dX5_obey_101 rfl rfl rfl ?_
    refine g_cp_machine (q := 105) wf_RX5_10 dX5_obey_102 rfl ?_
    refine aw_iload_n (q := 106) 1 dX5_obey_105 rfl rfl rfl ?_
    refine cv_I (q := 109) (CC := "") (id := 0) (As := [.int (iI (G 7 3))]) 1 (c_m_hasCoil (T := T) (D := D) (ad := ad) G (i := 0) (by omega) (by omega) o.1.2.1) (fun _ h => h) (by omega) (cell_mach ad C _ (i := 0) (by omega)) rfl wc_X1_hasCoil wm_RX5_90 wi_X1_hasCoil ws_X1_hasCoil wn_X1 (by decide) rfl ⟨Nat.le_of_ble_eq_true rfl, Nat.le_of_ble_eq_true rfl⟩ ⟨Nat.le_of_ble_eq_true rfl, Nat.le_of_ble_eq_true rfl⟩ (Nat.le_of_ble_eq_true rfl) dX5_obey_106 rfl (fun r9 G9 h9 => ?_)
    rw [h9.1, h9.2]
    refine aw_ifb_eq (q := 112) dX5_obey_109 rfl (t := 130) (by decide) (fun h6 => ?_) (fun h7 => ?_)
    · refine aw_iconst (q := 131) dX5_obey_130 rfl ?_
      exact rt_z rfl (by first | omega | exact b2i_r _) (Nat.le_refl _) (Nat.le_refl _) (Or.inr (Or.inl ⟨by assumption, Or.inl ⟨by omega, rfl, rfl⟩⟩)) dX5_obey_131
    · refine aw_aload_n (q := 113) 0 dX5_obey_112 rfl rfl rfl ?_
      refine g_cp_machine (q := 116) wf_RX5_10 dX5_obey_113 rfl ?_
      refine aw_iload_n (q := 117) 1 dX5_obey_116 rfl rfl rfl ?_
      refine aw_aload_n (q := 118) 0 dX5_obey_117 rfl rfl rfl ?_
      refine g_cp_text (q := 121) wf_RX5_30 dX5_obey_118 rfl ?_
      refine g_text_coins (q := 124) wf_RX5_259 dX5_obey_121 rfl ?_
      have oc : okC (G 0) (G 7 3) := o.1.2.2 (G 7 3) (by omega) (by omega)
      have oc1 := oc.1
      have oc2 := oc.2.1
      have oc3 := oc.2.2.1
      have oc4 := oc.2.2.2.1
      have oc5 := oc.2.2.2.2.1
      have ol := o.1.1.2.2.2.1
      have os := okR_5 o.2.1.1.1 o.2.2
      have os2 := o.2.2.2.2
      have op := o.2.1.1
      refine cv_I (q := 127) (CC := "") (id := 0) (As := [.int (iI (G 7 3)), .ref (ad 106)]) 2 (c_m_canSell (T := T) (D := D) (ad := ad) G (i := 0) (by omega) (by omega) o.2.1.2.2 (ar_106 ad C) (by omega) f2 (by omega) oc1 (by omega) (by omega)) (fun _ h => h) (by omega) (cell_mach ad C _ (i := 0) (by omega)) rfl wc_X1_canSell wm_RX5_126 wi_X1_canSell ws_X1_canSell wn_X1 (by decide) rfl ⟨Nat.le_of_ble_eq_true rfl, Nat.le_of_ble_eq_true rfl⟩ ⟨Nat.le_of_ble_eq_true rfl, Nat.le_of_ble_eq_true rfl⟩ (Nat.le_of_ble_eq_true rfl) dX5_obey_124 rfl (fun r9 K1 h9 => ?_)
      obtain ⟨hr9, s1⟩ := h9
      subst hr9
      refine aw_ifb_ne (q := 130) dX5_obey_127 rfl (t := 132) (by decide) (fun h8 => ?_) (fun h9 => ?_)
      · refine aw_aload_n (q := 133) 0 dX5_obey_132 rfl rfl rfl ?_
        refine g_cp_machine (q := 136) wf_RX5_10 dX5_obey_133 rfl ?_
        refine aw_iload_n (q := 137) 1 dX5_obey_136 rfl rfl rfl ?_
        refine aw_aload_n (q := 138) 0 dX5_obey_137 rfl rfl rfl ?_
        refine g_cp_text (q := 141) wf_RX5_30 dX5_obey_138 rfl ?_
        refine g_text_coins (q := 144) wf_RX5_259 dX5_obey_141 rfl ?_
        have hcan : canSellP G 0 (G 7 3) 9 := by assumption
        have o1 : okN K1 0 := okN_congr (fun y z => s1 _ _ (by omega)) o
        have r8 : ∀ y : Int, y < 312 → K1 0 y = G 0 y := fun y z => s1 _ _ (by omega)
        have r10 : ∀ y : Int, K1 9 y = G 9 y := fun y => s1 _ _ (by omega)
        have cg := canSell_congr (G := G) (H := K1) (i := 0) (c := G 7 3) (pg := 9) (by omega) r8 r10
        have oc8 : okC (K1 0) (G 7 3) := o1.1.2.2 (G 7 3) (by omega) (by rw [r8 13 (by omega)]; omega)
        have hc8 : ∀ k : Int, 0 ≤ k → k < 4 → 0 ≤ K1 9 k ∧ K1 9 k ≤ 9 := fun k z0 z1 => by rw [r10]; exact f2 k z0 z1
        have hn8 := room_sale (G := K1) (i := 0) (c := G 7 3) (pg := 9) (by omega) oc8 o1.1.1 o1.2.1 ⟨okR_5 o1.2.1.1.1 o1.2.2, o1.2.2.2.2⟩ hc8 (cg.2.2.mpr hcan)
        have p81 := oc8.1
        have p82 := oc8.2.1
        have p83 := oc8.2.2.1
        have p84 := oc8.2.2.2.1
        have p85 := oc8.2.2.2.2.1
        refine cv_I (q := 147) (CC := "") (id := 0) (As := [.int (iI (G 7 3)), .ref (ad 106)]) 2 (c_m_sell (T := T) (D := D) (ad := ad) K1 (i := 0) (by omega) (by omega) o1.2.1 (ar_106 ad C) (by omega) hc8 (by omega) p81 (cg.2.2.mpr hcan).2.1 hn8 (fw_add1 oc8.2.2.2.2.2.2.2.1).1) (fun _ h => h) (by omega) (cell_mach ad C _ (i := 0) (by omega)) rfl wc_X1_sell wm_RX5_132 wi_X1_sell ws_X1_sell wn_X1 (by decide) rfl ⟨Nat.le_of_ble_eq_true rfl, Nat.le_of_ble_eq_true rfl⟩ ⟨Nat.le_of_ble_eq_true rfl, Nat.le_of_ble_eq_true rfl⟩ (Nat.le_of_ble_eq_true rfl) dX5_obey_144 rfl (fun r9 G9 h9 => ?_)
        refine aw_pop (q := 148) dX5_obey_147 rfl rfl ?_
        refine aw_iconst (q := 149) dX5_obey_148 rfl ?_
        exact rt_z rfl (by first | omega | exact b2i_r _) (Nat.le_refl _) (Nat.le_refl _) (Or.inr (Or.inl ⟨by assumption, Or.inr (Or.inr ⟨by omega, hcan, rfl, K1, _, s1, h9⟩)⟩)) dX5_obey_149
      · refine aw_iconst (q := 131) dX5_obey_130 rfl ?_
        exact rt_z rfl (by first | omega | exact b2i_r _) (Nat.le_refl _) (Nat.le_refl _) (Or.inr (Or.inl ⟨by assumption, Or.inr (Or.inl ⟨by omega, by assumption, rfl, s1⟩)⟩)) dX5_obey_131
  · have f1 := (ob.2.2.2.1 (by assumption)).1
    have f2 := (ob.2.2.2.1 (by assumption)).2
    refine aw_aload_n (q := 151) 0 dX5_obey_150 rfl rfl rfl ?_
    refine g_cp_machine (q := 154) wf_RX5_10 dX5_obey_151 rfl ?_
    refine g_mach_till (q := 157) (i := 0) (by omega) wf_RX5_114 dX5_obey_154 rfl ?_
    refine aw_iload_n (q := 158) 1 dX5_obey_157 rfl rfl rfl ?_
    refine aw_iload_n (q := 159) 2 dX5_obey_158 rfl rfl rfl ?_
    refine cv_I (q := 162) (CC := "") (id := 3) (As := [.int (iI (G 7 3)), .int (iI (G 7 4))]) 2 (c_till_fillTube (T := T) (D := D) (ad := ad) G (i := 0) (by omega) (by omega) (by omega) o.2.1) (fun _ h => h) (by omega) (cell_till ad C _ (i := 0) (by omega)) rfl wc_X4_fillTube wm_RX5_118 wi_X4_fillTube ws_X4_fillTube wn_X4 (by decide) rfl ⟨Nat.le_of_ble_eq_true rfl, Nat.le_of_ble_eq_true rfl⟩ ⟨Nat.le_of_ble_eq_true rfl, Nat.le_of_ble_eq_true rfl⟩ (Nat.le_of_ble_eq_true rfl) dX5_obey_159 rfl (fun r9 G9 h9 => ?_)
    refine aw_pop (q := 163) dX5_obey_162 rfl rfl ?_
    refine aw_iconst (q := 164) dX5_obey_163 rfl ?_
    exact rt_z rfl (by first | omega | exact b2i_r _) (Nat.le_refl _) (Nat.le_refl _) (Or.inr (Or.inr (Or.inl ⟨by assumption, rfl, h9.2⟩))) dX5_obey_164
  · have f1 := ob.2.2.2.2 (by assumption)
    refine aw_aload_n (q := 166) 0 dX5_obey_165 rfl rfl rfl ?_
    refine g_cp_machine (q := 169) wf_RX5_10 dX5_obey_166 rfl ?_
    refine aw_iload_n (q := 170) 2 dX5_obey_169 rfl rfl rfl ?_
    refine cv_I (q := 173) (CC := "") (id := 0) (As := [.int (iI (G 7 4))]) 1 (c_m_hasTimeFor (T := T) (D := D) (ad := ad) G (i := 0) (by omega) (by omega) (by omega)) (fun _ h => h) (by omega) (cell_mach ad C _ (i := 0) (by omega)) rfl wc_X1_hasTimeFor wm_RX5_142 wi_X1_hasTimeFor ws_X1_hasTimeFor wn_X1 (by decide) rfl ⟨Nat.le_of_ble_eq_true rfl, Nat.le_of_ble_eq_true rfl⟩ ⟨Nat.le_of_ble_eq_true rfl, Nat.le_of_ble_eq_true rfl⟩ (Nat.le_of_ble_eq_true rfl) dX5_obey_170 rfl (fun r9 G9 h9 => ?_)
    rw [h9.1, h9.2]
    refine aw_ifb_ne (q := 176) dX5_obey_173 rfl (t := 178) (by decide) (fun h10 => ?_) (fun h11 => ?_)
    · refine aw_aload_n (q := 179) 0 dX5_obey_178 rfl rfl rfl ?_
      refine g_cp_machine (q := 182) wf_RX5_10 dX5_obey_179 rfl ?_
      refine aw_iload_n (q := 183) 2 dX5_obey_182 rfl rfl rfl ?_
      refine cv_I (q := 186) (CC := "") (id := 0) (As := [.int (iI (G 7 4))]) 1 (c_m_passHours (T := T) (D := D) (ad := ad) G (i := 0) (by omega) o.1 (by omega)) (fun _ h => h) (by omega) (cell_mach ad C _ (i := 0) (by omega)) rfl wc_X1_passHours wm_RX5_147 wi_X1_passHours ws_X1_passHours wn_X1 (by decide) rfl ⟨Nat.le_of_ble_eq_true rfl, Nat.le_of_ble_eq_true rfl⟩ ⟨Nat.le_of_ble_eq_true rfl, Nat.le_of_ble_eq_true rfl⟩ (Nat.le_of_ble_eq_true rfl) dX5_obey_183 rfl (fun r9 G9 h9 => ?_)
      refine aw_pop (q := 187) dX5_obey_186 rfl rfl ?_
      refine aw_iconst (q := 188) dX5_obey_187 rfl ?_
      exact rt_z rfl (by first | omega | exact b2i_r _) (Nat.le_refl _) (Nat.le_refl _) (Or.inr (Or.inr (Or.inr (Or.inl ⟨by assumption, Or.inr ⟨by assumption, rfl, h9.2⟩⟩)))) dX5_obey_188
    · refine aw_iconst (q := 177) dX5_obey_176 rfl ?_
      exact rt_z rfl (by first | omega | exact b2i_r _) (Nat.le_refl _) (Nat.le_refl _) (Or.inr (Or.inr (Or.inr (Or.inl ⟨by assumption, Or.inl ⟨by assumption, rfl, rfl⟩⟩)))) dX5_obey_177
  · have f1 := (ob.2.1 (by assumption)).1
    have f2 := (ob.2.1 (by assumption)).2
    refine aw_aload_n (q := 65) 0 dX5_obey_64 rfl rfl rfl ?_
    refine g_cp_machine (q := 68) wf_RX5_10 dX5_obey_65 rfl ?_
    refine aw_iload_n (q := 69) 1 dX5_obey_68 rfl rfl rfl ?_
    refine cv_I (q := 72) (CC := "") (id := 0) (As := [.int (iI (G 7 3))]) 1 (c_m_hasCoil (T := T) (D := D) (ad := ad) G (i := 0) (by omega) (by omega) o.1.2.1) (fun _ h => h) (by omega) (cell_mach ad C _ (i := 0) (by omega)) rfl wc_X1_hasCoil wm_RX5_90 wi_X1_hasCoil ws_X1_hasCoil wn_X1 (by decide) rfl ⟨Nat.le_of_ble_eq_true rfl, Nat.le_of_ble_eq_true rfl⟩ ⟨Nat.le_of_ble_eq_true rfl, Nat.le_of_ble_eq_true rfl⟩ (Nat.le_of_ble_eq_true rfl) dX5_obey_69 rfl (fun r9 G9 h9 => ?_)
    rw [h9.1, h9.2]
    refine aw_ifb_eq (q := 75) dX5_obey_72 rfl (t := 87) (by decide) (fun h12 => ?_) (fun h13 => ?_)
    · refine aw_iconst (q := 88) dX5_obey_87 rfl ?_
      exact rt_z rfl (by first | omega | exact b2i_r _) (Nat.le_refl _) (Nat.le_refl _) (Or.inl ⟨by assumption, Or.inl ⟨by intro z; first | omega | exact absurd z.2 (by assumption), rfl, rfl⟩⟩) dX5_obey_88
    · refine aw_aload_n (q := 76) 0 dX5_obey_75 rfl rfl rfl ?_
      refine g_cp_machine (q := 79) wf_RX5_10 dX5_obey_76 rfl ?_
      refine aw_iload_n (q := 80) 1 dX5_obey_79 rfl rfl rfl ?_
      refine aw_iload_n (q := 81) 2 dX5_obey_80 rfl rfl rfl ?_
      refine cv_I (q := 84) (CC := "") (id := 0) (As := [.int (iI (G 7 3)), .int (iI (G 7 4))]) 2 (c_m_hasRoomForGoods (T := T) (D := D) (ad := ad) G (i := 0) (by omega) (by omega) (by omega) (o.1.2.2 (G 7 3) (by omega) (by omega)).1) (fun _ h => h) (by omega) (cell_mach ad C _ (i := 0) (by omega)) rfl wc_X1_hasRoomForGoods wm_RX5_101 wi_X1_hasRoomForGoods ws_X1_hasRoomForGoods wn_X1 (by decide) rfl ⟨Nat.le_of_ble_eq_true rfl, Nat.le_of_ble_eq_true rfl⟩ ⟨Nat.le_of_ble_eq_true rfl, Nat.le_of_ble_eq_true rfl⟩ (Nat.le_of_ble_eq_true rfl) dX5_obey_81 rfl (fun r9 G9 h9 => ?_)
      rw [h9.1, h9.2]
      refine aw_ifb_ne (q := 87) dX5_obey_84 rfl (t := 89) (by decide) (fun h14 => ?_) (fun h15 => ?_)
      · refine aw_aload_n (q := 90) 0 dX5_obey_89 rfl rfl rfl ?_
        refine g_cp_machine (q := 93) wf_RX5_10 dX5_obey_90 rfl ?_
        refine aw_iload_n (q := 94) 1 dX5_obey_93 rfl rfl rfl ?_
        refine aw_iload_n (q := 95) 2 dX5_obey_94 rfl rfl rfl ?_
        refine cv_I (q := 98) (CC := "") (id := 0) (As := [.int (iI (G 7 3)), .int (iI (G 7 4))]) 2 (c_m_addGoods (T := T) (D := D) (ad := ad) G (i := 0) (by omega) (by omega)) (fun _ h => h) (by omega) (cell_mach ad C _ (i := 0) (by omega)) rfl wc_X1_addGoods wm_RX5_107 wi_X1_addGoods ws_X1_addGoods wn_X1 (by decide) rfl ⟨Nat.le_of_ble_eq_true rfl, Nat.le_of_ble_eq_true rfl⟩ ⟨Nat.le_of_ble_eq_true rfl, Nat.le_of_ble_eq_true rfl⟩ (Nat.le_of_ble_eq_true rfl) dX5_obey_95 rfl (fun r9 G9 h9 => ?_)
        rw [h9.1, h9.2]
        refine aw_pop (q := 99) dX5_obey_98 rfl rfl ?_
        refine aw_iconst (q := 100) dX5_obey_99 rfl ?_
        exact rt_z rfl (by first | omega | exact b2i_r _) (Nat.le_refl _) (Nat.le_refl _) (Or.inl ⟨by assumption, Or.inr ⟨⟨by omega, by assumption⟩, rfl, rfl⟩⟩) dX5_obey_100
      · refine aw_iconst (q := 88) dX5_obey_87 rfl ?_
        exact rt_z rfl (by first | omega | exact b2i_r _) (Nat.le_refl _) (Nat.le_refl _) (Or.inl ⟨by assumption, Or.inl ⟨by intro z; first | omega | exact absurd z.2 (by assumption), rfl, rfl⟩⟩) dX5_obey_88
  · refine aw_iconst (q := 190) dX5_obey_189 rfl ?_
    exact rt_z rfl (by first | omega | exact b2i_r _) (Nat.le_refl _) (Nat.le_refl _) (Or.inr (Or.inr (Or.inr (Or.inr ⟨by omega, rfl, rfl⟩)))) dX5_obey_190
