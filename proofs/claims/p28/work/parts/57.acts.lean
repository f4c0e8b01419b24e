/-! the law's acts -/
theorem n_set {l : Launch} {D : va_G} {C : Nat → ClassId} {T : Nat → Nat} {ad : Int → Nat} (hst : l.stackTraces = false) {t : Int} {G K : GG} (ht : t ≤ 1000) (o : okI t G) (e : eq0 G K) {w v : Int} (hw : 0 ≤ w ∧ w ≤ 4) (h0 : w = 0 → 1 ≤ v ∧ v ≤ 100) (h1 : w = 1 ∨ w = 2 → 0 ≤ v ∧ v ≤ 100) (h3 : w = 3 → 0 ≤ v ∧ v ≤ 1000) (h4 : w = 4 → 0 ≤ v ∧ v ≤ 100 ∧ v % 5 = 0) : MC l yX5_set cX5_set 3 (some .int) 6 99 0 0 D (tyC C) T [.ref (ad 102), .int (iI w), .int (iI v)] (cw ad C K) (RI ad C (fun r G1 => r = G 0 w ∧ okI t G1 ∧ G1 0 w = v)) := by
  rcases (by omega : w = 0 ∨ w = 1 ∨ w = 2 ∨ w = 3 ∨ w = 4) with rfl | rfl | rfl | rfl | rfl
  · exact n_set0 hst ht o e (by omega)
  · exact n_set1 hst ht o e (by omega)
  · exact n_set2 hst ht o e (by omega)
  · exact n_set3 hst ht o e (by omega)
  · exact n_set4 hst ht o e (by omega)
set_option maxHeartbeats 4000000 in
set_option maxRecDepth 100000 in
theorem AA_acts {l : Launch} {D : va_G} {C : Nat → ClassId} {T : Nat → Nat} {ad : Int → Nat} (hst : l.stackTraces = false) {t : Int} {G K : GG} (ht : 0 ≤ t ∧ t ≤ 900) (o : okI t G) (e : eq0 G K) {x y hw : Int} (hw0 : 0 ≤ hw ∧ hw < 16) (h0 : hw = 0) (h8 : G 0 13 < 8) : AW l RL "acts" cL_acts 11 (some .boolean) (fun _ => True) { frames := 9, cells := 4, slots := 24, locals := 264 } (hvE D (RI ad C (fun r G1 => r = 1 ∧ okI (t + 1) G1 ∧ (hw = 0 → G 0 13 < 8 → G1 0 13 = G 0 13 + 1 ∧ G1 0 (15 + 12 * G 0 13 + 1) = 0))) (cw ad C K) 4 24) D (tyC C) (hvZ T (cw ad C K)) (cw ad C K) 25 [(0, .ref (ad 102)), (1, .int (iI x)), (2, .int (iI y)), (3, .int (iI hw)), (4, .int (iI (G 0 13)))] [] (cw ad C K) 0 0 := by
  have o8 := o.1.1.2.1
  refine aw_iconst (q := 26) dL_acts_25 rfl ?_
  refine aw_iconst (q := 27) dL_acts_26 rfl ?_
  refine aw_iload_n (q := 28) 2 dL_acts_27 rfl rfl rfl ?_
  refine aw_bipush (q := 30) dL_acts_28 rfl (by decide) ?_
  refine cs_I (q := 33) (As := [.int (iI y), .int (iI 30)]) 2 (c_low (T := T) (D := D) (ad := ad) K (by omega)) (fun _ h => h) wc_L_low wm_RL_75 wt_L_low wn_L (by decide) rfl ⟨Nat.le_of_ble_eq_true rfl, Nat.le_of_ble_eq_true rfl⟩ ⟨Nat.le_of_ble_eq_true rfl, Nat.le_of_ble_eq_true rfl⟩ (Nat.le_of_ble_eq_true rfl) dL_acts_30 rfl (fun r9 G9 h9 => ?_)
  obtain ⟨rfl, h9⟩ := h9
  rw [h9]
  clear h9
  have hww1 := lowF_r y (n := 30) (by omega)
  generalize lowF y 30 = w1 at *
  refine ae_imul (q := 34) (5 * w1) (by omega) dL_acts_33 rfl ?_
  refine ae_iadd (q := 35) (5 * w1 + 5) (by omega) dL_acts_34 rfl ?_
  refine aw_istore (q := 37) (lv2 := [(0, .ref (ad 102)), (1, .int (iI x)), (2, .int (iI y)), (3, .int (iI hw)), (4, .int (iI (G 0 13))), (5, .int (iI (5 * w1 + 5)))]) [1, 2, 3, 4, 5, 0] dL_acts_35 rfl (by decide) rfl rfl ?_
  refine aw_iload_n (q := 38) 2 dL_acts_37 rfl rfl rfl ?_
  refine aw_iconst (q := 39) dL_acts_38 rfl ?_
  refine aw_ishr (q := 40) dL_acts_39 rfl ?_
  refine aw_iconst (q := 41) dL_acts_40 rfl ?_
  refine cs_I (q := 44) (As := [.int (iI (shF y 5)), .int (iI 3)]) 2 (c_low (T := T) (D := D) (ad := ad) K (by omega)) (fun _ h => h) wc_L_low wm_RL_75 wt_L_low wn_L (by decide) rfl ⟨Nat.le_of_ble_eq_true rfl, Nat.le_of_ble_eq_true rfl⟩ ⟨Nat.le_of_ble_eq_true rfl, Nat.le_of_ble_eq_true rfl⟩ (Nat.le_of_ble_eq_true rfl) dL_acts_41 rfl (fun r9 G9 h9 => ?_)
  obtain ⟨rfl, h9⟩ := h9
  rw [h9]
  clear h9
  have hww2 := lowF_r (shF y 5) (n := 3) (by omega)
  generalize lowF (shF y 5) 3 = w2 at *
  refine aw_istore (q := 46) (lv2 := [(0, .ref (ad 102)), (1, .int (iI x)), (2, .int (iI y)), (3, .int (iI hw)), (4, .int (iI (G 0 13))), (5, .int (iI (5 * w1 + 5))), (6, .int (iI w2))]) [1, 2, 3, 4, 5, 6, 0] dL_acts_44 rfl (by decide) rfl rfl ?_
  refine aw_aload_n (q := 47) 0 dL_acts_46 rfl rfl rfl ?_
  refine aw_iload (q := 49) 6 dL_acts_47 rfl rfl ?_
  refine aw_iload (q := 51) 5 dL_acts_49 rfl rfl ?_
  refine aw_iload (q := 53) 5 dL_acts_51 rfl rfl ?_
  refine aw_iconst (q := 54) dL_acts_53 rfl ?_
  refine aw_iload_n (q := 55) 2 dL_acts_54 rfl rfl rfl ?_
  refine aw_bipush (q := 57) dL_acts_55 rfl (by decide) ?_
  refine aw_ishr (q := 58) dL_acts_57 rfl ?_
  refine aw_bipush (q := 60) dL_acts_58 rfl (by decide) ?_
  refine cs_I (q := 63) (As := [.int (iI (shF y 7)), .int (iI 20)]) 2 (c_low (T := T) (D := D) (ad := ad) K (by omega)) (fun _ h => h) wc_L_low wm_RL_75 wt_L_low wn_L (by decide) rfl ⟨Nat.le_of_ble_eq_true rfl, Nat.le_of_ble_eq_true rfl⟩ ⟨Nat.le_of_ble_eq_true rfl, Nat.le_of_ble_eq_true rfl⟩ (Nat.le_of_ble_eq_true rfl) dL_acts_60 rfl (fun r9 G9 h9 => ?_)
  obtain ⟨rfl, h9⟩ := h9
  rw [h9]
  clear h9
  have hww3 := lowF_r (shF y 7) (n := 20) (by omega)
  generalize lowF (shF y 7) 20 = w3 at *
  refine ae_imul (q := 64) (5 * w3) (by omega) dL_acts_63 rfl ?_
  refine ae_iadd (q := 65) (5 * w1 + 5 * w3 + 5) (by omega) dL_acts_64 rfl ?_
  refine cv_I (q := 68) (CC := "") (id := 102) (As := [.int (iI w2), .int (iI (5 * w1 + 5)), .int (iI (5 * w1 + 5 * w3 + 5))]) 3 (n_addCoil (D := D) (C := C) (T := T) (ad := ad) hst (G := G) (K := K) (by omega) o e (a := w2) (b := (5 * w1 + 5)) (c := (5 * w1 + 5 * w3 + 5)) (by omega) (by omega) (by omega) (by omega) (by omega)) (fun _ h => h) (by omega) (cell_102 ad C _) rfl wc_X5_addCoil wm_RL_92 wi_X5_addCoil ws_X5_addCoil wn_X5 (by decide) rfl ⟨Nat.le_of_ble_eq_true rfl, Nat.le_of_ble_eq_true rfl⟩ ⟨Nat.le_of_ble_eq_true rfl, Nat.le_of_ble_eq_true rfl⟩ (Nat.le_of_ble_eq_true rfl) dL_acts_65 rfl (fun r1 A h9 => ?_)
  obtain ⟨rfl, oA, a13, a0, a1, a2, a10⟩ := h9
  refine aw_iload (q := 70) 4 dL_acts_68 rfl rfl ?_
  refine aw_same_ne (q := 73) rfl dL_acts_70 rfl (t := 112) (by decide) ?_
  refine aw_aload_n (q := 74) 0 dL_acts_73 rfl rfl rfl ?_
  refine aw_iload (q := 76) 4 dL_acts_74 rfl rfl ?_
  refine aw_iconst (q := 77) dL_acts_76 rfl ?_
  refine cv_I (q := 80) (CC := "") (id := 102) (As := [.int (iI (G 0 13)), .int (iI 0)]) 2 (n_coil (D := D) (C := C) (T := T) (ad := ad) hst (G := A) (K := A) (by omega) oA eq0.rf (c := (G 0 13)) (k := 0) (by omega) (by omega)) (fun _ h => h) (by omega) (cell_102 ad C _) rfl wc_X5_coil wm_RL_39 wi_X5_coil ws_X5_coil wn_X5 (by decide) rfl ⟨Nat.le_of_ble_eq_true rfl, Nat.le_of_ble_eq_true rfl⟩ ⟨Nat.le_of_ble_eq_true rfl, Nat.le_of_ble_eq_true rfl⟩ (Nat.le_of_ble_eq_true rfl) dL_acts_77 rfl (fun r9 G9 h9 => ?_)
  rw [h9.1, h9.2]
  clear h9
  refine aw_iload (q := 82) 6 dL_acts_80 rfl rfl ?_
  refine aw_same_ne (q := 85) a0 dL_acts_82 rfl (t := 112) (by decide) ?_
  refine aw_aload_n (q := 86) 0 dL_acts_85 rfl rfl rfl ?_
  refine aw_iload (q := 88) 4 dL_acts_86 rfl rfl ?_
  refine aw_iconst (q := 89) dL_acts_88 rfl ?_
  refine cv_I (q := 92) (CC := "") (id := 102) (As := [.int (iI (G 0 13)), .int (iI 2)]) 2 (n_coil (D := D) (C := C) (T := T) (ad := ad) hst (G := A) (K := A) (by omega) oA eq0.rf (c := (G 0 13)) (k := 2) (by omega) (by omega)) (fun _ h => h) (by omega) (cell_102 ad C _) rfl wc_X5_coil wm_RL_39 wi_X5_coil ws_X5_coil wn_X5 (by decide) rfl ⟨Nat.le_of_ble_eq_true rfl, Nat.le_of_ble_eq_true rfl⟩ ⟨Nat.le_of_ble_eq_true rfl, Nat.le_of_ble_eq_true rfl⟩ (Nat.le_of_ble_eq_true rfl) dL_acts_89 rfl (fun r9 G9 h9 => ?_)
  rw [h9.1, h9.2]
  clear h9
  refine aw_iload (q := 94) 5 dL_acts_92 rfl rfl ?_
  refine aw_same_ne (q := 97) a2 dL_acts_94 rfl (t := 112) (by decide) ?_
  refine aw_aload_n (q := 98) 0 dL_acts_97 rfl rfl rfl ?_
  refine aw_iload (q := 100) 4 dL_acts_98 rfl rfl ?_
  refine cv_F (q := 103) (CC := "") (id := 102) (As := [.int (iI (G 0 13))]) 1 (n_demand (D := D) (C := C) (T := T) (ad := ad) hst (G := A) (K := A) (by omega) oA eq0.rf (c := (G 0 13)) (by omega)) (fun _ h => h) (by omega) (cell_102 ad C _) rfl wc_X5_demand wm_RL_45 wi_X5_demand ws_X5_demand wn_X5 (by decide) rfl ⟨Nat.le_of_ble_eq_true rfl, Nat.le_of_ble_eq_true rfl⟩ ⟨Nat.le_of_ble_eq_true rfl, Nat.le_of_ble_eq_true rfl⟩ (Nat.le_of_ble_eq_true rfl) dL_acts_100 rfl (fun r9 G9 h9 => ?_)
  rw [h9.1, h9.2]
  clear h9
  refine aw_fconst0 (q := 104) dL_acts_103 rfl ?_
  refine aw_fcmp (q := 105) dL_acts_104 rfl ?_
  refine aw_ifW_ne (q := 108) dL_acts_105 rfl (t := 112) (by decide) (fun h => (h (by rw [a10]; exact okW_eq fw_0)).elim) (fun h1 => ?_)
  refine aw_iconst (q := 109) dL_acts_108 rfl ?_
  refine aw_goto (q := 113) dL_acts_109 (by decide) ?_
  exact rt_z rfl (by omega) (Nat.le_of_ble_eq_true rfl) (Nat.le_of_ble_eq_true rfl) (⟨rfl, okI_mono (by omega) oA, fun _ _ => ⟨a13, a1⟩⟩) dL_acts_113
set_option maxHeartbeats 4000000 in
set_option maxRecDepth 100000 in
theorem AS_acts {l : Launch} {D : va_G} {C : Nat → ClassId} {T : Nat → Nat} {ad : Int → Nat} (hst : l.stackTraces = false) {t : Int} {G K : GG} (ht : 0 ≤ t ∧ t ≤ 900) (o : okI t G) (e : eq0 G K) {x y hw : Int} (hw0 : 0 ≤ hw ∧ hw < 16) (h0 : hw = 0 → 8 ≤ G 0 13) : AW l RL "acts" cL_acts 11 (some .boolean) (fun _ => True) { frames := 9, cells := 4, slots := 24, locals := 264 } (hvE D (RI ad C (fun r G1 => r = 1 ∧ okI (t + 1) G1 ∧ (hw = 0 → G 0 13 < 8 → G1 0 13 = G 0 13 + 1 ∧ G1 0 (15 + 12 * G 0 13 + 1) = 0))) (cw ad C K) 4 24) D (tyC C) (hvZ T (cw ad C K)) (cw ad C K) 124 [(0, .ref (ad 102)), (1, .int (iI x)), (2, .int (iI y)), (3, .int (iI hw)), (4, .int (iI (G 0 13)))] [] (cw ad C K) 0 0 := by
  have o8 := o.1.1.2.1
  refine aw_iload_n (q := 125) 2 dL_acts_124 rfl rfl rfl ?_
  refine aw_iload (q := 127) 4 dL_acts_125 rfl rfl ?_
  refine aw_iconst (q := 128) dL_acts_127 rfl ?_
  refine ae_iadd (q := 129) ((G 0 13) + 1) (by omega) dL_acts_128 rfl ?_
  refine cs_I (q := 132) (As := [.int (iI y), .int (iI ((G 0 13) + 1))]) 2 (c_low (T := T) (D := D) (ad := ad) K (by omega)) (fun _ h => h) wc_L_low wm_RL_75 wt_L_low wn_L (by decide) rfl ⟨Nat.le_of_ble_eq_true rfl, Nat.le_of_ble_eq_true rfl⟩ ⟨Nat.le_of_ble_eq_true rfl, Nat.le_of_ble_eq_true rfl⟩ (Nat.le_of_ble_eq_true rfl) dL_acts_129 rfl (fun r9 G9 h9 => ?_)
  obtain ⟨rfl, h9⟩ := h9
  rw [h9]
  clear h9
  have hww1 := lowF_r y (n := ((G 0 13) + 1)) (by omega)
  generalize lowF y ((G 0 13) + 1) = w1 at *
  refine aw_istore (q := 134) (lv2 := [(0, .ref (ad 102)), (1, .int (iI x)), (2, .int (iI y)), (3, .int (iI hw)), (4, .int (iI (G 0 13))), (5, .int (iI w1))]) [1, 2, 3, 4, 5, 0] dL_acts_132 rfl (by decide) rfl rfl ?_
  refine aw_iconst (q := 135) dL_acts_134 rfl ?_
  refine aw_iload_n (q := 136) 2 dL_acts_135 rfl rfl rfl ?_
  refine aw_iconst (q := 137) dL_acts_136 rfl ?_
  refine aw_ishr (q := 138) dL_acts_137 rfl ?_
  refine aw_bipush (q := 140) dL_acts_138 rfl (by decide) ?_
  refine cs_I (q := 143) (As := [.int (iI (shF y 4)), .int (iI 20)]) 2 (c_low (T := T) (D := D) (ad := ad) K (by omega)) (fun _ h => h) wc_L_low wm_RL_75 wt_L_low wn_L (by decide) rfl ⟨Nat.le_of_ble_eq_true rfl, Nat.le_of_ble_eq_true rfl⟩ ⟨Nat.le_of_ble_eq_true rfl, Nat.le_of_ble_eq_true rfl⟩ (Nat.le_of_ble_eq_true rfl) dL_acts_140 rfl (fun r9 G9 h9 => ?_)
  obtain ⟨rfl, h9⟩ := h9
  rw [h9]
  clear h9
  have hww2 := lowF_r (shF y 4) (n := 20) (by omega)
  generalize lowF (shF y 4) 20 = w2 at *
  refine ae_iadd (q := 144) (w2 + 1) (by omega) dL_acts_143 rfl ?_
  refine aw_istore (q := 146) (lv2 := [(0, .ref (ad 102)), (1, .int (iI x)), (2, .int (iI y)), (3, .int (iI hw)), (4, .int (iI (G 0 13))), (5, .int (iI w1)), (6, .int (iI (w2 + 1)))]) [1, 2, 3, 4, 5, 6, 0] dL_acts_144 rfl (by decide) rfl rfl ?_
  by_cases hk : w1 = G 0 13
  · refine aw_aload_n (q := 147) 0 dL_acts_146 rfl rfl rfl ?_
    refine aw_iload (q := 149) 5 dL_acts_147 rfl rfl ?_
    refine aw_iconst (q := 150) dL_acts_149 rfl ?_
    refine ch_I (As := [.ref (ad 102), .int (iI w1), .int (iI 1)]) 3 (n_coilC (D := D) (C := C) (T := T) (ad := ad) hst (G := G) (K := K) (by omega) o e (a0 := w1) (a1 := 1) (by omega) (by omega)) (fun _ h => h) wcw_L_coil wm_RL_63 wt_L_coil wn_L (by decide) rfl ⟨Nat.le_of_ble_eq_true rfl, Nat.le_of_ble_eq_true rfl⟩ ⟨Nat.le_of_ble_eq_true rfl, Nat.le_of_ble_eq_true rfl⟩ (Nat.le_of_ble_eq_true rfl) dL_acts_150 rfl (fun r9 G9 h9 => ?_)
    have hr9 : r9 = -903 ∧ G9 = K := by
      rcases h9 with ⟨z, -⟩ | ⟨z, -, zz⟩
      · omega
      · exact ⟨z, zz⟩
    rw [hr9.1, hr9.2]
    clear hr9 h9
    refine aw_istore (q := 155) (lv2 := [(0, .ref (ad 102)), (1, .int (iI x)), (2, .int (iI y)), (3, .int (iI hw)), (4, .int (iI (G 0 13))), (5, .int (iI w1)), (6, .int (iI (w2 + 1))), (7, .int (iI (-903)))]) [1, 2, 3, 4, 5, 6, 7, 0] dL_acts_153 rfl (by decide) rfl rfl ?_
    refine aw_aload_n (q := 156) 0 dL_acts_155 rfl rfl rfl ?_
    refine aw_iload (q := 158) 5 dL_acts_156 rfl rfl ?_
    refine aw_iload (q := 160) 6 dL_acts_158 rfl rfl ?_
    refine ch_I (As := [.ref (ad 102), .int (iI w1), .int (iI (w2 + 1))]) 3 (n_stock (D := D) (C := C) (T := T) (ad := ad) hst (G := G) (K := K) (by omega) o e (a0 := w1) (a1 := (w2 + 1)) (by omega) (by omega)) (fun _ h => h) wcw_L_stock wm_RL_95 wt_L_stock wn_L (by decide) rfl ⟨Nat.le_of_ble_eq_true rfl, Nat.le_of_ble_eq_true rfl⟩ ⟨Nat.le_of_ble_eq_true rfl, Nat.le_of_ble_eq_true rfl⟩ (Nat.le_of_ble_eq_true rfl) dL_acts_160 rfl (fun r9 A h9 => ?_)
    have hr9 : r9 = -903 ∧ eq0 G A := by
      rcases h9 with ⟨z, -⟩ | ⟨z, -, zz⟩ | ⟨-, z, -⟩
      · omega
      · exact ⟨z, zz⟩
      · omega
    obtain ⟨rfl, eA⟩ := hr9
    refine aw_istore (q := 165) (lv2 := [(0, .ref (ad 102)), (1, .int (iI x)), (2, .int (iI y)), (3, .int (iI hw)), (4, .int (iI (G 0 13))), (5, .int (iI w1)), (6, .int (iI (w2 + 1))), (7, .int (iI (-903))), (8, .int (iI (-903)))]) [1, 2, 3, 4, 5, 6, 7, 8, 0] dL_acts_163 rfl (by decide) rfl rfl ?_
    refine aw_iload (q := 167) 5 dL_acts_165 rfl rfl ?_
    refine aw_iload (q := 169) 4 dL_acts_167 rfl rfl ?_
    refine aw_icmp_ne (q := 172) dL_acts_169 rfl (t := 188) (by decide) (by omega) (by omega) (fun h => ((by omega : False)).elim) (fun h51 => ?_)
    refine aw_iload (q := 174) 8 dL_acts_172 rfl rfl ?_
    refine aw_sipush (q := 177) dL_acts_174 rfl (by decide) ?_
    refine aw_icmp_ne (q := 180) dL_acts_177 rfl (t := 184) (by decide) (by omega) (by omega) (fun h => absurd h (by omega)) (fun _ => ?_)
    refine aw_iconst (q := 181) dL_acts_180 rfl ?_
    refine aw_goto (q := 241) dL_acts_181 (by decide) ?_
    exact rt_z rfl (by omega) (Nat.le_of_ble_eq_true rfl) (Nat.le_of_ble_eq_true rfl) (⟨rfl, okI_mono (by omega) (eA.I o), fun z z2 => absurd (h0 z) (by omega)⟩) dL_acts_241
  · refine aw_aload_n (q := 147) 0 dL_acts_146 rfl rfl rfl ?_
    refine aw_iload (q := 149) 5 dL_acts_147 rfl rfl ?_
    refine aw_iconst (q := 150) dL_acts_149 rfl ?_
    refine ch_I (As := [.ref (ad 102), .int (iI w1), .int (iI 1)]) 3 (n_coilC (D := D) (C := C) (T := T) (ad := ad) hst (G := G) (K := K) (by omega) o e (a0 := w1) (a1 := 1) (by omega) (by omega)) (fun _ h => h) wcw_L_coil wm_RL_63 wt_L_coil wn_L (by decide) rfl ⟨Nat.le_of_ble_eq_true rfl, Nat.le_of_ble_eq_true rfl⟩ ⟨Nat.le_of_ble_eq_true rfl, Nat.le_of_ble_eq_true rfl⟩ (Nat.le_of_ble_eq_true rfl) dL_acts_150 rfl (fun r9 G9 h9 => ?_)
    have hr9 : r9 = G 0 (15 + 12 * w1 + 1) ∧ G9 = K := by
      rcases h9 with ⟨-, z, zz⟩ | ⟨-, z, -⟩
      · exact ⟨z, zz⟩
      · omega
    rw [hr9.1, hr9.2]
    clear hr9 h9
    refine aw_istore (q := 155) (lv2 := [(0, .ref (ad 102)), (1, .int (iI x)), (2, .int (iI y)), (3, .int (iI hw)), (4, .int (iI (G 0 13))), (5, .int (iI w1)), (6, .int (iI (w2 + 1))), (7, .int (iI ((G 0 (15 + 12 * w1 + 1)))))]) [1, 2, 3, 4, 5, 6, 7, 0] dL_acts_153 rfl (by decide) rfl rfl ?_
    refine aw_aload_n (q := 156) 0 dL_acts_155 rfl rfl rfl ?_
    refine aw_iload (q := 158) 5 dL_acts_156 rfl rfl ?_
    refine aw_iload (q := 160) 6 dL_acts_158 rfl rfl ?_
    refine ch_I (As := [.ref (ad 102), .int (iI w1), .int (iI (w2 + 1))]) 3 (n_stock (D := D) (C := C) (T := T) (ad := ad) hst (G := G) (K := K) (by omega) o e (a0 := w1) (a1 := (w2 + 1)) (by omega) (by omega)) (fun _ h => h) wcw_L_stock wm_RL_95 wt_L_stock wn_L (by decide) rfl ⟨Nat.le_of_ble_eq_true rfl, Nat.le_of_ble_eq_true rfl⟩ ⟨Nat.le_of_ble_eq_true rfl, Nat.le_of_ble_eq_true rfl⟩ (Nat.le_of_ble_eq_true rfl) dL_acts_160 rfl (fun r9 A h9 => ?_)
    have oc1 := (o.1.1.2.2 w1 (by omega) (by omega)).1
    rcases h9 with ⟨-, h20, rfl, oA, -⟩ | ⟨-, z, -⟩ | ⟨rfl, -, h20, eA⟩
    · rw [show G 0 (15 + 12 * w1 + 1) + (w2 + 1) = (G 0 (15 + 12 * w1 + 1)) + w2 + 1 from by omega]
      refine aw_istore (q := 165) (lv2 := [(0, .ref (ad 102)), (1, .int (iI x)), (2, .int (iI y)), (3, .int (iI hw)), (4, .int (iI (G 0 13))), (5, .int (iI w1)), (6, .int (iI (w2 + 1))), (7, .int (iI ((G 0 (15 + 12 * w1 + 1))))), (8, .int (iI ((G 0 (15 + 12 * w1 + 1)) + w2 + 1)))]) [1, 2, 3, 4, 5, 6, 7, 8, 0] dL_acts_163 rfl (by decide) rfl rfl ?_
      refine aw_iload (q := 167) 5 dL_acts_165 rfl rfl ?_
      refine aw_iload (q := 169) 4 dL_acts_167 rfl rfl ?_
      refine aw_icmp_ne (q := 172) dL_acts_169 rfl (t := 188) (by decide) (by omega) (by omega) (fun h201 => ?_) (fun h => ((by omega : False)).elim)
      refine aw_iload (q := 190) 7 dL_acts_188 rfl rfl ?_
      refine aw_iload (q := 192) 6 dL_acts_190 rfl rfl ?_
      refine ae_iadd (q := 193) ((G 0 (15 + 12 * w1 + 1)) + w2 + 1) (by omega) dL_acts_192 rfl ?_
      refine aw_bipush (q := 195) dL_acts_193 rfl (by decide) ?_
      refine aw_icmp_le (q := 198) dL_acts_195 rfl (t := 226) (by decide) (by omega) (by omega) (fun h202 => ?_) (fun h => ((by omega : False)).elim)
      refine aw_iload (q := 228) 8 dL_acts_226 rfl rfl ?_
      refine aw_iload (q := 230) 7 dL_acts_228 rfl rfl ?_
      refine aw_iload (q := 232) 6 dL_acts_230 rfl rfl ?_
      refine ae_iadd (q := 233) ((G 0 (15 + 12 * w1 + 1)) + w2 + 1) (by omega) dL_acts_232 rfl ?_
      refine aw_same_ne (q := 236) (by omega) dL_acts_233 rfl (t := 240) (by decide) ?_
      refine aw_iconst (q := 237) dL_acts_236 rfl ?_
      refine aw_goto (q := 241) dL_acts_237 (by decide) ?_
      exact rt_z rfl (by omega) (Nat.le_of_ble_eq_true rfl) (Nat.le_of_ble_eq_true rfl) (⟨rfl, okI_mono (by omega) oA, fun z z2 => absurd (h0 z) (by omega)⟩) dL_acts_241
    · exact absurd (⟨by omega, by omega⟩ : 0 ≤ w1 ∧ w1 < G 0 13) z
    · refine aw_istore (q := 165) (lv2 := [(0, .ref (ad 102)), (1, .int (iI x)), (2, .int (iI y)), (3, .int (iI hw)), (4, .int (iI (G 0 13))), (5, .int (iI w1)), (6, .int (iI (w2 + 1))), (7, .int (iI ((G 0 (15 + 12 * w1 + 1))))), (8, .int (iI (-902)))]) [1, 2, 3, 4, 5, 6, 7, 8, 0] dL_acts_163 rfl (by decide) rfl rfl ?_
      refine aw_iload (q := 167) 5 dL_acts_165 rfl rfl ?_
      refine aw_iload (q := 169) 4 dL_acts_167 rfl rfl ?_
      refine aw_icmp_ne (q := 172) dL_acts_169 rfl (t := 188) (by decide) (by omega) (by omega) (fun h301 => ?_) (fun h => ((by omega : False)).elim)
      refine aw_iload (q := 190) 7 dL_acts_188 rfl rfl ?_
      refine aw_iload (q := 192) 6 dL_acts_190 rfl rfl ?_
      refine ae_iadd (q := 193) ((G 0 (15 + 12 * w1 + 1)) + w2 + 1) (by omega) dL_acts_192 rfl ?_
      refine aw_bipush (q := 195) dL_acts_193 rfl (by decide) ?_
      refine aw_icmp_le (q := 198) dL_acts_195 rfl (t := 226) (by decide) (by omega) (by omega) (fun h => ((by omega : False)).elim) (fun h302 => ?_)
      refine aw_iload (q := 200) 8 dL_acts_198 rfl rfl ?_
      refine aw_sipush (q := 203) dL_acts_200 rfl (by decide) ?_
      refine aw_icmp_ne (q := 206) dL_acts_203 rfl (t := 222) (by decide) (by omega) (by omega) (fun h => absurd h (by omega)) (fun _ => ?_)
      refine aw_aload_n (q := 207) 0 dL_acts_206 rfl rfl rfl ?_
      refine aw_iload (q := 209) 5 dL_acts_207 rfl rfl ?_
      refine aw_iconst (q := 210) dL_acts_209 rfl ?_
      refine cv_I (q := 213) (CC := "") (id := 102) (As := [.int (iI w1), .int (iI 1)]) 2 (n_coil (D := D) (C := C) (T := T) (ad := ad) hst (G := G) (K := A) (by omega) o eA (c := w1) (k := 1) (by omega) (by omega)) (fun _ h => h) (by omega) (cell_102 ad C _) rfl wc_X5_coil wm_RL_39 wi_X5_coil ws_X5_coil wn_X5 (by decide) rfl ⟨Nat.le_of_ble_eq_true rfl, Nat.le_of_ble_eq_true rfl⟩ ⟨Nat.le_of_ble_eq_true rfl, Nat.le_of_ble_eq_true rfl⟩ (Nat.le_of_ble_eq_true rfl) dL_acts_210 rfl (fun r9 G9 h9 => ?_)
      rw [h9.1, h9.2]
      clear h9
      refine aw_iload (q := 215) 7 dL_acts_213 rfl rfl ?_
      refine aw_same_ne (q := 218) rfl dL_acts_215 rfl (t := 222) (by decide) ?_
      refine aw_iconst (q := 219) dL_acts_218 rfl ?_
      refine aw_goto (q := 241) dL_acts_219 (by decide) ?_
      exact rt_z rfl (by omega) (Nat.le_of_ble_eq_true rfl) (Nat.le_of_ble_eq_true rfl) (⟨rfl, okI_mono (by omega) (eA.I o), fun z z2 => absurd (h0 z) (by omega)⟩) dL_acts_241
set_option maxHeartbeats 4000000 in
set_option maxRecDepth 100000 in
theorem AB_acts {l : Launch} {D : va_G} {C : Nat → ClassId} {T : Nat → Nat} {ad : Int → Nat} (hst : l.stackTraces = false) {t : Int} {G K : GG} (ht : 0 ≤ t ∧ t ≤ 900) (o : okI t G) (e : eq0 G K) {x y hw : Int} (hw0 : 0 ≤ hw ∧ hw < 16) (h0 : 3 ≤ hw) (h13 : 1 ≤ G 0 13) : AW l RL "acts" cL_acts 11 (some .boolean) (fun _ => True) { frames := 9, cells := 4, slots := 24, locals := 264 } (hvE D (RI ad C (fun r G1 => r = 1 ∧ okI (t + 1) G1 ∧ (hw = 0 → G 0 13 < 8 → G1 0 13 = G 0 13 + 1 ∧ G1 0 (15 + 12 * G 0 13 + 1) = 0))) (cw ad C K) 4 24) D (tyC C) (hvZ T (cw ad C K)) (cw ad C K) 248 [(0, .ref (ad 102)), (1, .int (iI x)), (2, .int (iI y)), (3, .int (iI hw)), (4, .int (iI (G 0 13)))] [] (cw ad C K) 0 0 := by
  have o8 := o.1.1.2.1
  refine aw_aload_n (q := 249) 0 dL_acts_248 rfl rfl rfl ?_
  refine aw_iload_n (q := 250) 2 dL_acts_249 rfl rfl rfl ?_
  refine aw_iload (q := 252) 4 dL_acts_250 rfl rfl ?_
  refine cs_I (q := 255) (As := [.int (iI y), .int (iI (G 0 13))]) 2 (c_low (T := T) (D := D) (ad := ad) K (by omega)) (fun _ h => h) wc_L_low wm_RL_75 wt_L_low wn_L (by decide) rfl ⟨Nat.le_of_ble_eq_true rfl, Nat.le_of_ble_eq_true rfl⟩ ⟨Nat.le_of_ble_eq_true rfl, Nat.le_of_ble_eq_true rfl⟩ (Nat.le_of_ble_eq_true rfl) dL_acts_252 rfl (fun r9 G9 h9 => ?_)
  obtain ⟨rfl, h9⟩ := h9
  rw [h9]
  clear h9
  have hww1 := lowF_r y (n := (G 0 13)) (by omega)
  generalize lowF y (G 0 13) = w1 at *
  refine aw_iload_n (q := 256) 2 dL_acts_255 rfl rfl rfl ?_
  refine aw_iconst (q := 257) dL_acts_256 rfl ?_
  refine aw_ishr (q := 258) dL_acts_257 rfl ?_
  refine cm_I (As := [.ref (ad 102), .int (iI w1), .int (iI (shF y 3))]) 3 (c_sells (D := D) (C := C) (T := T) (ad := ad) hst (G := G) (K := K) ht o e (by omega)) (fun _ h => h) wc_L_sells wm_RL_97 wt_L_sells wn_L (by decide) rfl ⟨Nat.le_of_ble_eq_true rfl, Nat.le_of_ble_eq_true rfl⟩ ⟨Nat.le_of_ble_eq_true rfl, Nat.le_of_ble_eq_true rfl⟩ (Nat.le_of_ble_eq_true rfl) dL_acts_258 rfl (fun r1 A h9 => ?_)
  obtain ⟨rfl, oA⟩ := h9
  exact rt_z rfl (by omega) (Nat.le_of_ble_eq_true rfl) (Nat.le_of_ble_eq_true rfl) (⟨rfl, oA, fun z _ => absurd z (by omega)⟩) dL_acts_261
set_option maxHeartbeats 4000000 in
set_option maxRecDepth 100000 in
theorem AF_acts {l : Launch} {D : va_G} {C : Nat → ClassId} {T : Nat → Nat} {ad : Int → Nat} (hst : l.stackTraces = false) {t : Int} {G K : GG} (ht : 0 ≤ t ∧ t ≤ 900) (o : okI t G) (e : eq0 G K) {x y hw : Int} (hw0 : 0 ≤ hw ∧ hw < 16) (h0 : 8 ≤ hw) : AW l RL "acts" cL_acts 11 (some .boolean) (fun _ => True) { frames := 9, cells := 4, slots := 24, locals := 264 } (hvE D (RI ad C (fun r G1 => r = 1 ∧ okI (t + 1) G1 ∧ (hw = 0 → G 0 13 < 8 → G1 0 13 = G 0 13 + 1 ∧ G1 0 (15 + 12 * G 0 13 + 1) = 0))) (cw ad C K) 4 24) D (tyC C) (hvZ T (cw ad C K)) (cw ad C K) 268 [(0, .ref (ad 102)), (1, .int (iI x)), (2, .int (iI y)), (3, .int (iI hw)), (4, .int (iI (G 0 13)))] [] (cw ad C K) 0 0 := by
  have o8 := o.1.1.2.1
  refine aw_iload_n (q := 269) 2 dL_acts_268 rfl rfl rfl ?_
  refine aw_iconst (q := 270) dL_acts_269 rfl ?_
  refine cs_I (q := 273) (As := [.int (iI y), .int (iI 5)]) 2 (c_low (T := T) (D := D) (ad := ad) K (by omega)) (fun _ h => h) wc_L_low wm_RL_75 wt_L_low wn_L (by decide) rfl ⟨Nat.le_of_ble_eq_true rfl, Nat.le_of_ble_eq_true rfl⟩ ⟨Nat.le_of_ble_eq_true rfl, Nat.le_of_ble_eq_true rfl⟩ (Nat.le_of_ble_eq_true rfl) dL_acts_270 rfl (fun r9 G9 h9 => ?_)
  obtain ⟨rfl, h9⟩ := h9
  rw [h9]
  clear h9
  have hww1 := lowF_r y (n := 5) (by omega)
  generalize lowF y 5 = w1 at *
  refine aw_istore (q := 275) (lv2 := [(0, .ref (ad 102)), (1, .int (iI x)), (2, .int (iI y)), (3, .int (iI hw)), (4, .int (iI (G 0 13))), (5, .int (iI w1))]) [1, 2, 3, 4, 5, 0] dL_acts_273 rfl (by decide) rfl rfl ?_
  refine aw_iconst (q := 276) dL_acts_275 rfl ?_
  refine aw_iload_n (q := 277) 2 dL_acts_276 rfl rfl rfl ?_
  refine aw_iconst (q := 278) dL_acts_277 rfl ?_
  refine aw_ishr (q := 279) dL_acts_278 rfl ?_
  refine aw_bipush (q := 281) dL_acts_279 rfl (by decide) ?_
  refine cs_I (q := 284) (As := [.int (iI (shF y 3)), .int (iI 30)]) 2 (c_low (T := T) (D := D) (ad := ad) K (by omega)) (fun _ h => h) wc_L_low wm_RL_75 wt_L_low wn_L (by decide) rfl ⟨Nat.le_of_ble_eq_true rfl, Nat.le_of_ble_eq_true rfl⟩ ⟨Nat.le_of_ble_eq_true rfl, Nat.le_of_ble_eq_true rfl⟩ (Nat.le_of_ble_eq_true rfl) dL_acts_281 rfl (fun r9 G9 h9 => ?_)
  obtain ⟨rfl, h9⟩ := h9
  rw [h9]
  clear h9
  have hww2 := lowF_r (shF y 3) (n := 30) (by omega)
  generalize lowF (shF y 3) 30 = w2 at *
  refine ae_iadd (q := 285) (w2 + 1) (by omega) dL_acts_284 rfl ?_
  refine aw_istore (q := 287) (lv2 := [(0, .ref (ad 102)), (1, .int (iI x)), (2, .int (iI y)), (3, .int (iI hw)), (4, .int (iI (G 0 13))), (5, .int (iI w1)), (6, .int (iI (w2 + 1)))]) [1, 2, 3, 4, 5, 6, 0] dL_acts_285 rfl (by decide) rfl rfl ?_
  refine aw_aload_n (q := 288) 0 dL_acts_287 rfl rfl rfl ?_
  refine aw_iconst (q := 289) dL_acts_288 rfl ?_
  refine cv_I (q := 292) (CC := "") (id := 102) (As := [.int (iI 2)]) 1 (n_v2 (D := D) (C := C) (T := T) (ad := ad) hst (G := G) (K := K) (by omega) o e ) (fun _ h => h) (by omega) (cell_102 ad C _) rfl wc_X5_value wm_RL_42 wi_X5_value ws_X5_value wn_X5 (by decide) rfl ⟨Nat.le_of_ble_eq_true rfl, Nat.le_of_ble_eq_true rfl⟩ ⟨Nat.le_of_ble_eq_true rfl, Nat.le_of_ble_eq_true rfl⟩ (Nat.le_of_ble_eq_true rfl) dL_acts_289 rfl (fun r9 G9 h9 => ?_)
  rw [h9.1, h9.2]
  clear h9
  refine aw_istore (q := 294) (lv2 := [(0, .ref (ad 102)), (1, .int (iI x)), (2, .int (iI y)), (3, .int (iI hw)), (4, .int (iI (G 0 13))), (5, .int (iI w1)), (6, .int (iI (w2 + 1))), (7, .int (iI ((worthF (G 0) 5))))]) [1, 2, 3, 4, 5, 6, 7, 0] dL_acts_292 rfl (by decide) rfl rfl ?_
  refine aw_aload_n (q := 295) 0 dL_acts_294 rfl rfl rfl ?_
  refine aw_bipush (q := 297) dL_acts_295 rfl (by decide) ?_
  refine cv_I (q := 300) (CC := "") (id := 102) (As := [.int (iI 6)]) 1 (n_v6 (D := D) (C := C) (T := T) (ad := ad) hst (G := G) (K := K) (by omega) o e ) (fun _ h => h) (by omega) (cell_102 ad C _) rfl wc_X5_value wm_RL_42 wi_X5_value ws_X5_value wn_X5 (by decide) rfl ⟨Nat.le_of_ble_eq_true rfl, Nat.le_of_ble_eq_true rfl⟩ ⟨Nat.le_of_ble_eq_true rfl, Nat.le_of_ble_eq_true rfl⟩ (Nat.le_of_ble_eq_true rfl) dL_acts_297 rfl (fun r9 G9 h9 => ?_)
  rw [h9.1, h9.2]
  clear h9
  refine aw_istore (q := 302) (lv2 := [(0, .ref (ad 102)), (1, .int (iI x)), (2, .int (iI y)), (3, .int (iI hw)), (4, .int (iI (G 0 13))), (5, .int (iI w1)), (6, .int (iI (w2 + 1))), (7, .int (iI ((worthF (G 0) 5)))), (8, .int (iI (G 0 11)))]) [1, 2, 3, 4, 5, 6, 7, 8, 0] dL_acts_300 rfl (by decide) rfl rfl ?_
  refine aw_iload (q := 304) 5 dL_acts_302 rfl rfl ?_
  refine aw_iconst (q := 305) dL_acts_304 rfl ?_
  refine aw_icmp_ge (q := 308) dL_acts_305 rfl (t := 317) (by decide) (by omega) (by omega) (fun h1 => ?_) (fun h2 => ?_)
  · refine aw_iconst (q := 318) dL_acts_317 rfl ?_
    refine aw_istore (q := 320) (lv2 := [(0, .ref (ad 102)), (1, .int (iI x)), (2, .int (iI y)), (3, .int (iI hw)), (4, .int (iI (G 0 13))), (5, .int (iI w1)), (6, .int (iI (w2 + 1))), (7, .int (iI ((worthF (G 0) 5)))), (8, .int (iI (G 0 11))), (9, .int (iI 0))]) [1, 2, 3, 4, 5, 6, 7, 8, 9, 0] dL_acts_318 rfl (by decide) rfl rfl ?_
    refine aw_aload_n (q := 321) 0 dL_acts_320 rfl rfl rfl ?_
    refine aw_iload (q := 323) 5 dL_acts_321 rfl rfl ?_
    refine aw_iload (q := 325) 6 dL_acts_323 rfl rfl ?_
    refine ch_I (As := [.ref (ad 102), .int (iI w1), .int (iI (w2 + 1))]) 3 (n_fill (D := D) (C := C) (T := T) (ad := ad) hst (G := G) (K := K) (by omega) o e (a0 := w1) (a1 := (w2 + 1)) (by omega) (by omega)) (fun _ h => h) wcw_L_fill wm_RL_101 wt_L_fill wn_L (by decide) rfl ⟨Nat.le_of_ble_eq_true rfl, Nat.le_of_ble_eq_true rfl⟩ ⟨Nat.le_of_ble_eq_true rfl, Nat.le_of_ble_eq_true rfl⟩ (Nat.le_of_ble_eq_true rfl) dL_acts_325 rfl (fun r9 A h9 => ?_)
    have hr9 : r9 = -903 ∧ eq0 G A := by
      rcases h9 with ⟨z, -⟩ | ⟨z, -, zz⟩
      · omega
      · exact ⟨z, zz⟩
    obtain ⟨rfl, eA⟩ := hr9
    refine aw_istore (q := 330) (lv2 := [(0, .ref (ad 102)), (1, .int (iI x)), (2, .int (iI y)), (3, .int (iI hw)), (4, .int (iI (G 0 13))), (5, .int (iI w1)), (6, .int (iI (w2 + 1))), (7, .int (iI ((worthF (G 0) 5)))), (8, .int (iI (G 0 11))), (9, .int (iI 0)), (10, .int (iI (-903)))]) [1, 2, 3, 4, 5, 6, 7, 8, 9, 10, 0] dL_acts_328 rfl (by decide) rfl rfl ?_
    refine aw_iload (q := 332) 5 dL_acts_330 rfl rfl ?_
    refine aw_iconst (q := 333) dL_acts_332 rfl ?_
    refine aw_icmp_ne (q := 336) dL_acts_333 rfl (t := 352) (by decide) (by omega) (by omega) (fun h => ((by omega : False)).elim) (fun h3 => ?_)
    refine aw_iload (q := 338) 10 dL_acts_336 rfl rfl ?_
    refine aw_sipush (q := 341) dL_acts_338 rfl (by decide) ?_
    refine aw_icmp_ne (q := 344) dL_acts_341 rfl (t := 348) (by decide) (by omega) (by omega) (fun h => absurd h (by omega)) (fun _ => ?_)
    refine aw_iconst (q := 345) dL_acts_344 rfl ?_
    refine aw_goto (q := 433) dL_acts_345 (by decide) ?_
    exact rt_z rfl (by omega) (Nat.le_of_ble_eq_true rfl) (Nat.le_of_ble_eq_true rfl) (⟨rfl, okI_mono (by omega) (eA.I o), fun z _ => absurd z (by omega)⟩) dL_acts_433
  · refine aw_aload_n (q := 309) 0 dL_acts_308 rfl rfl rfl ?_
    refine aw_iload (q := 311) 5 dL_acts_309 rfl rfl ?_
    refine cv_I (q := 314) (CC := "") (id := 102) (As := [.int (iI w1)]) 1 (n_tube (D := D) (C := C) (T := T) (ad := ad) hst (G := G) (K := K) (by omega) o e (c := w1) (by omega)) (fun _ h => h) (by omega) (cell_102 ad C _) rfl wc_X5_tube wm_RL_52 wi_X5_tube ws_X5_tube wn_X5 (by decide) rfl ⟨Nat.le_of_ble_eq_true rfl, Nat.le_of_ble_eq_true rfl⟩ ⟨Nat.le_of_ble_eq_true rfl, Nat.le_of_ble_eq_true rfl⟩ (Nat.le_of_ble_eq_true rfl) dL_acts_311 rfl (fun r9 G9 h9 => ?_)
    rw [h9.1, h9.2]
    clear h9
    refine aw_goto (q := 318) dL_acts_314 (by decide) ?_
    refine aw_istore (q := 320) (lv2 := [(0, .ref (ad 102)), (1, .int (iI x)), (2, .int (iI y)), (3, .int (iI hw)), (4, .int (iI (G 0 13))), (5, .int (iI w1)), (6, .int (iI (w2 + 1))), (7, .int (iI ((worthF (G 0) 5)))), (8, .int (iI (G 0 11))), (9, .int (iI ((G 0 (5 + w1)))))]) [1, 2, 3, 4, 5, 6, 7, 8, 9, 0] dL_acts_318 rfl (by decide) rfl rfl ?_
    refine aw_aload_n (q := 321) 0 dL_acts_320 rfl rfl rfl ?_
    refine aw_iload (q := 323) 5 dL_acts_321 rfl rfl ?_
    refine aw_iload (q := 325) 6 dL_acts_323 rfl rfl ?_
    refine ch_I (As := [.ref (ad 102), .int (iI w1), .int (iI (w2 + 1))]) 3 (n_fill (D := D) (C := C) (T := T) (ad := ad) hst (G := G) (K := K) (by omega) o e (a0 := w1) (a1 := (w2 + 1)) (by omega) (by omega)) (fun _ h => h) wcw_L_fill wm_RL_101 wt_L_fill wn_L (by decide) rfl ⟨Nat.le_of_ble_eq_true rfl, Nat.le_of_ble_eq_true rfl⟩ ⟨Nat.le_of_ble_eq_true rfl, Nat.le_of_ble_eq_true rfl⟩ (Nat.le_of_ble_eq_true rfl) dL_acts_325 rfl (fun rf A h9 => ?_)
    have hr9 : rf = min (w2 + 1) (30 - G 0 (5 + w1)) ∧ okI t A ∧ worthF (A 0) 5 = worthF (G 0) 5 + rf * wthF w1 - (A 0 11 - G 0 11) ∧ (A 0 14 = 0 ∨ ¬ canF (A 0 5) (A 0 6) (A 0 7) (A 0 8) (A 0 111)) := by
      rcases h9 with ⟨-, z1, z2, z3, z4⟩ | ⟨-, z, -⟩
      · exact ⟨z1, z2, by rw [z1]; exact z3, z4⟩
      · omega
    obtain ⟨hr9, oA, hmon, sp⟩ := hr9
    have q9 : 0 ≤ G 0 (5 + w1) ∧ G 0 (5 + w1) ≤ 30 := o.1.2.1.2.2 w1 (by omega) (by omega)
    have ap : 0 < A 0 14 → 5 ≤ A 0 111 ∧ A 0 111 % 5 = 0 ∧ A 0 111 ≤ 1000 := fun z => prom_le oA (m := 0) (by omega)
    have a14 := oA.1.2.1.1
    refine aw_istore (q := 330) (lv2 := [(0, .ref (ad 102)), (1, .int (iI x)), (2, .int (iI y)), (3, .int (iI hw)), (4, .int (iI (G 0 13))), (5, .int (iI w1)), (6, .int (iI (w2 + 1))), (7, .int (iI ((worthF (G 0) 5)))), (8, .int (iI (G 0 11))), (9, .int (iI ((G 0 (5 + w1))))), (10, .int (iI rf))]) [1, 2, 3, 4, 5, 6, 7, 8, 9, 10, 0] dL_acts_328 rfl (by decide) rfl rfl ?_
    refine aw_iload (q := 332) 5 dL_acts_330 rfl rfl ?_
    refine aw_iconst (q := 333) dL_acts_332 rfl ?_
    refine aw_icmp_ne (q := 336) dL_acts_333 rfl (t := 352) (by decide) (by omega) (by omega) (fun h4 => ?_) (fun h => ((by omega : False)).elim)
    refine aw_iload (q := 354) 10 dL_acts_352 rfl rfl ?_
    refine aw_bipush (q := 356) dL_acts_354 rfl (by decide) ?_
    refine aw_iload (q := 358) 9 dL_acts_356 rfl rfl ?_
    refine ae_isub (q := 359) (30 - (G 0 (5 + w1))) (by omega) dL_acts_358 rfl ?_
    refine aw_iload (q := 361) 6 dL_acts_359 rfl rfl ?_
    refine aw_icmp_ge (q := 364) dL_acts_361 rfl (t := 372) (by decide) (by omega) (by omega) (fun h5 => ?_) (fun h6 => ?_)
    · refine aw_iload (q := 374) 6 dL_acts_372 rfl rfl ?_
      refine aw_same_ne (q := 377) (by omega) dL_acts_374 rfl (t := 432) (by decide) ?_
      refine aw_aload_n (q := 378) 0 dL_acts_377 rfl rfl rfl ?_
      refine aw_iconst (q := 379) dL_acts_378 rfl ?_
      refine cv_I (q := 382) (CC := "") (id := 102) (As := [.int (iI 2)]) 1 (n_v2 (D := D) (C := C) (T := T) (ad := ad) hst (G := A) (K := A) (by omega) oA eq0.rf ) (fun _ h => h) (by omega) (cell_102 ad C _) rfl wc_X5_value wm_RL_42 wi_X5_value ws_X5_value wn_X5 (by decide) rfl ⟨Nat.le_of_ble_eq_true rfl, Nat.le_of_ble_eq_true rfl⟩ ⟨Nat.le_of_ble_eq_true rfl, Nat.le_of_ble_eq_true rfl⟩ (Nat.le_of_ble_eq_true rfl) dL_acts_379 rfl (fun r9 G9 h9 => ?_)
      rw [h9.1, h9.2]
      clear h9
      refine aw_iload (q := 384) 7 dL_acts_382 rfl rfl ?_
      refine aw_iload (q := 386) 10 dL_acts_384 rfl rfl ?_
      refine aw_iload (q := 388) 5 dL_acts_386 rfl rfl ?_
      refine cs_I (q := 391) (As := [.int (iI w1)]) 1 (c_worthL (T := T) (D := D) (ad := ad) A (by omega)) (fun _ h => h) wc_L_worth wm_RL_55 wt_L_worth wn_L (by decide) rfl ⟨Nat.le_of_ble_eq_true rfl, Nat.le_of_ble_eq_true rfl⟩ ⟨Nat.le_of_ble_eq_true rfl, Nat.le_of_ble_eq_true rfl⟩ (Nat.le_of_ble_eq_true rfl) dL_acts_388 rfl (fun r9 G9 h9 => ?_)
      rw [h9.1, h9.2]
      clear h9
      refine ae_imul (q := 392) ((rf * (wthF w1))) rfl dL_acts_391 rfl ?_
      refine ae_iadd (q := 393) ((worthF (G 0) 5) + (rf * (wthF w1))) (by omega) dL_acts_392 rfl ?_
      refine aw_aload_n (q := 394) 0 dL_acts_393 rfl rfl rfl ?_
      refine aw_bipush (q := 396) dL_acts_394 rfl (by decide) ?_
      refine cv_I (q := 399) (CC := "") (id := 102) (As := [.int (iI 6)]) 1 (n_v6 (D := D) (C := C) (T := T) (ad := ad) hst (G := A) (K := A) (by omega) oA eq0.rf ) (fun _ h => h) (by omega) (cell_102 ad C _) rfl wc_X5_value wm_RL_42 wi_X5_value ws_X5_value wn_X5 (by decide) rfl ⟨Nat.le_of_ble_eq_true rfl, Nat.le_of_ble_eq_true rfl⟩ ⟨Nat.le_of_ble_eq_true rfl, Nat.le_of_ble_eq_true rfl⟩ (Nat.le_of_ble_eq_true rfl) dL_acts_396 rfl (fun r9 G9 h9 => ?_)
      rw [h9.1, h9.2]
      clear h9
      refine aw_iload (q := 401) 8 dL_acts_399 rfl rfl ?_
      refine ae_isub (q := 402) ((A 0 11) - (G 0 11)) (by omega) dL_acts_401 rfl ?_
      refine ae_isub (q := 403) ((worthF (G 0) 5) + (rf * (wthF w1)) + (G 0 11) - (A 0 11)) (by omega) dL_acts_402 rfl ?_
      refine aw_same_ne (q := 406) (by omega) dL_acts_403 rfl (t := 432) (by decide) ?_
      refine aw_aload_n (q := 407) 0 dL_acts_406 rfl rfl rfl ?_
      refine aw_iconst (q := 408) dL_acts_407 rfl ?_
      refine cv_I (q := 411) (CC := "") (id := 102) (As := [.int (iI 4)]) 1 (n_v4 (D := D) (C := C) (T := T) (ad := ad) hst (G := A) (K := A) (by omega) oA eq0.rf ) (fun _ h => h) (by omega) (cell_102 ad C _) rfl wc_X5_value wm_RL_42 wi_X5_value ws_X5_value wn_X5 (by decide) rfl ⟨Nat.le_of_ble_eq_true rfl, Nat.le_of_ble_eq_true rfl⟩ ⟨Nat.le_of_ble_eq_true rfl, Nat.le_of_ble_eq_true rfl⟩ (Nat.le_of_ble_eq_true rfl) dL_acts_408 rfl (fun r9 G9 h9 => ?_)
      rw [h9.1, h9.2]
      clear h9
      refine aw_if_eq (q := 414) dL_acts_411 rfl (t := 428) (by decide) (by omega) (fun h7 => ?_) (fun h8 => ?_)
      · refine aw_iconst (q := 429) dL_acts_428 rfl ?_
        refine aw_goto (q := 433) dL_acts_429 (by decide) ?_
        exact rt_z rfl (by omega) (Nat.le_of_ble_eq_true rfl) (Nat.le_of_ble_eq_true rfl) (⟨rfl, okI_mono (by omega) (oA), fun z _ => absurd z (by omega)⟩) dL_acts_433
      · refine aw_aload_n (q := 415) 0 dL_acts_414 rfl rfl rfl ?_
        refine aw_aload_n (q := 416) 0 dL_acts_415 rfl rfl rfl ?_
        refine aw_iconst (q := 417) dL_acts_416 rfl ?_
        refine cv_I (q := 420) (CC := "") (id := 102) (As := [.int (iI 0)]) 1 (n_promise0 (D := D) (C := C) (T := T) (ad := ad) hst (G := A) (K := A) (by omega) oA eq0.rf (by omega)) (fun _ h => h) (by omega) (cell_102 ad C _) rfl wc_X5_promise wm_RL_36 wi_X5_promise ws_X5_promise wn_X5 (by decide) rfl ⟨Nat.le_of_ble_eq_true rfl, Nat.le_of_ble_eq_true rfl⟩ ⟨Nat.le_of_ble_eq_true rfl, Nat.le_of_ble_eq_true rfl⟩ (Nat.le_of_ble_eq_true rfl) dL_acts_417 rfl (fun r9 G9 h9 => ?_)
        rw [h9.1, h9.2]
        clear h9
        refine aw_iconst (q := 421) dL_acts_420 rfl ?_
        refine cv_I (q := 424) (CC := "") (id := 102) (As := [.int (iI (A 0 111)), .int (iI 0)]) 2 (n_change0 (D := D) (C := C) (T := T) (ad := ad) hst (G := A) (K := A) (by omega) oA eq0.rf (a := (A 0 111)) (by have := ap (by omega); omega)) (fun _ h => h) (by omega) (cell_102 ad C _) rfl wc_X5_change wm_RL_66 wi_X5_change ws_X5_change wn_X5 (by decide) rfl ⟨Nat.le_of_ble_eq_true rfl, Nat.le_of_ble_eq_true rfl⟩ ⟨Nat.le_of_ble_eq_true rfl, Nat.le_of_ble_eq_true rfl⟩ (Nat.le_of_ble_eq_true rfl) dL_acts_421 rfl (fun r2 K1 h9 => ?_)
        obtain ⟨rfl, e1⟩ := h9
        rw [ch_no (by rcases sp with z | z; exact absurd z (by omega); exact z)]
        refine aw_iconst (q := 425) dL_acts_424 rfl ?_
        refine aw_icmp_ne (q := 428) dL_acts_425 rfl (t := 432) (by decide) (by omega) (by omega) (fun h => absurd h (by omega)) (fun _ => ?_)
        refine aw_iconst (q := 429) dL_acts_428 rfl ?_
        refine aw_goto (q := 433) dL_acts_429 (by decide) ?_
        exact rt_z rfl (by omega) (Nat.le_of_ble_eq_true rfl) (Nat.le_of_ble_eq_true rfl) (⟨rfl, okI_mono (by omega) (e1.I oA), fun z _ => absurd z (by omega)⟩) dL_acts_433
    · refine aw_bipush (q := 366) dL_acts_364 rfl (by decide) ?_
      refine aw_iload (q := 368) 9 dL_acts_366 rfl rfl ?_
      refine ae_isub (q := 369) (30 - (G 0 (5 + w1))) (by omega) dL_acts_368 rfl ?_
      refine aw_goto (q := 374) dL_acts_369 (by decide) ?_
      refine aw_same_ne (q := 377) (by omega) dL_acts_374 rfl (t := 432) (by decide) ?_
      refine aw_aload_n (q := 378) 0 dL_acts_377 rfl rfl rfl ?_
      refine aw_iconst (q := 379) dL_acts_378 rfl ?_
      refine cv_I (q := 382) (CC := "") (id := 102) (As := [.int (iI 2)]) 1 (n_v2 (D := D) (C := C) (T := T) (ad := ad) hst (G := A) (K := A) (by omega) oA eq0.rf ) (fun _ h => h) (by omega) (cell_102 ad C _) rfl wc_X5_value wm_RL_42 wi_X5_value ws_X5_value wn_X5 (by decide) rfl ⟨Nat.le_of_ble_eq_true rfl, Nat.le_of_ble_eq_true rfl⟩ ⟨Nat.le_of_ble_eq_true rfl, Nat.le_of_ble_eq_true rfl⟩ (Nat.le_of_ble_eq_true rfl) dL_acts_379 rfl (fun r9 G9 h9 => ?_)
      rw [h9.1, h9.2]
      clear h9
      refine aw_iload (q := 384) 7 dL_acts_382 rfl rfl ?_
      refine aw_iload (q := 386) 10 dL_acts_384 rfl rfl ?_
      refine aw_iload (q := 388) 5 dL_acts_386 rfl rfl ?_
      refine cs_I (q := 391) (As := [.int (iI w1)]) 1 (c_worthL (T := T) (D := D) (ad := ad) A (by omega)) (fun _ h => h) wc_L_worth wm_RL_55 wt_L_worth wn_L (by decide) rfl ⟨Nat.le_of_ble_eq_true rfl, Nat.le_of_ble_eq_true rfl⟩ ⟨Nat.le_of_ble_eq_true rfl, Nat.le_of_ble_eq_true rfl⟩ (Nat.le_of_ble_eq_true rfl) dL_acts_388 rfl (fun r9 G9 h9 => ?_)
      rw [h9.1, h9.2]
      clear h9
      refine ae_imul (q := 392) ((rf * (wthF w1))) rfl dL_acts_391 rfl ?_
      refine ae_iadd (q := 393) ((worthF (G 0) 5) + (rf * (wthF w1))) (by omega) dL_acts_392 rfl ?_
      refine aw_aload_n (q := 394) 0 dL_acts_393 rfl rfl rfl ?_
      refine aw_bipush (q := 396) dL_acts_394 rfl (by decide) ?_
      refine cv_I (q := 399) (CC := "") (id := 102) (As := [.int (iI 6)]) 1 (n_v6 (D := D) (C := C) (T := T) (ad := ad) hst (G := A) (K := A) (by omega) oA eq0.rf ) (fun _ h => h) (by omega) (cell_102 ad C _) rfl wc_X5_value wm_RL_42 wi_X5_value ws_X5_value wn_X5 (by decide) rfl ⟨Nat.le_of_ble_eq_true rfl, Nat.le_of_ble_eq_true rfl⟩ ⟨Nat.le_of_ble_eq_true rfl, Nat.le_of_ble_eq_true rfl⟩ (Nat.le_of_ble_eq_true rfl) dL_acts_396 rfl (fun r9 G9 h9 => ?_)
      rw [h9.1, h9.2]
      clear h9
      refine aw_iload (q := 401) 8 dL_acts_399 rfl rfl ?_
      refine ae_isub (q := 402) ((A 0 11) - (G 0 11)) (by omega) dL_acts_401 rfl ?_
      refine ae_isub (q := 403) ((worthF (G 0) 5) + (rf * (wthF w1)) + (G 0 11) - (A 0 11)) (by omega) dL_acts_402 rfl ?_
      refine aw_same_ne (q := 406) (by omega) dL_acts_403 rfl (t := 432) (by decide) ?_
      refine aw_aload_n (q := 407) 0 dL_acts_406 rfl rfl rfl ?_
      refine aw_iconst (q := 408) dL_acts_407 rfl ?_
      refine cv_I (q := 411) (CC := "") (id := 102) (As := [.int (iI 4)]) 1 (n_v4 (D := D) (C := C) (T := T) (ad := ad) hst (G := A) (K := A) (by omega) oA eq0.rf ) (fun _ h => h) (by omega) (cell_102 ad C _) rfl wc_X5_value wm_RL_42 wi_X5_value ws_X5_value wn_X5 (by decide) rfl ⟨Nat.le_of_ble_eq_true rfl, Nat.le_of_ble_eq_true rfl⟩ ⟨Nat.le_of_ble_eq_true rfl, Nat.le_of_ble_eq_true rfl⟩ (Nat.le_of_ble_eq_true rfl) dL_acts_408 rfl (fun r9 G9 h9 => ?_)
      rw [h9.1, h9.2]
      clear h9
      refine aw_if_eq (q := 414) dL_acts_411 rfl (t := 428) (by decide) (by omega) (fun h9 => ?_) (fun h10 => ?_)
      · refine aw_iconst (q := 429) dL_acts_428 rfl ?_
        refine aw_goto (q := 433) dL_acts_429 (by decide) ?_
        exact rt_z rfl (by omega) (Nat.le_of_ble_eq_true rfl) (Nat.le_of_ble_eq_true rfl) (⟨rfl, okI_mono (by omega) (oA), fun z _ => absurd z (by omega)⟩) dL_acts_433
      · refine aw_aload_n (q := 415) 0 dL_acts_414 rfl rfl rfl ?_
        refine aw_aload_n (q := 416) 0 dL_acts_415 rfl rfl rfl ?_
        refine aw_iconst (q := 417) dL_acts_416 rfl ?_
        refine cv_I (q := 420) (CC := "") (id := 102) (As := [.int (iI 0)]) 1 (n_promise0 (D := D) (C := C) (T := T) (ad := ad) hst (G := A) (K := A) (by omega) oA eq0.rf (by omega)) (fun _ h => h) (by omega) (cell_102 ad C _) rfl wc_X5_promise wm_RL_36 wi_X5_promise ws_X5_promise wn_X5 (by decide) rfl ⟨Nat.le_of_ble_eq_true rfl, Nat.le_of_ble_eq_true rfl⟩ ⟨Nat.le_of_ble_eq_true rfl, Nat.le_of_ble_eq_true rfl⟩ (Nat.le_of_ble_eq_true rfl) dL_acts_417 rfl (fun r9 G9 h9 => ?_)
        rw [h9.1, h9.2]
        clear h9
        refine aw_iconst (q := 421) dL_acts_420 rfl ?_
        refine cv_I (q := 424) (CC := "") (id := 102) (As := [.int (iI (A 0 111)), .int (iI 0)]) 2 (n_change0 (D := D) (C := C) (T := T) (ad := ad) hst (G := A) (K := A) (by omega) oA eq0.rf (a := (A 0 111)) (by have := ap (by omega); omega)) (fun _ h => h) (by omega) (cell_102 ad C _) rfl wc_X5_change wm_RL_66 wi_X5_change ws_X5_change wn_X5 (by decide) rfl ⟨Nat.le_of_ble_eq_true rfl, Nat.le_of_ble_eq_true rfl⟩ ⟨Nat.le_of_ble_eq_true rfl, Nat.le_of_ble_eq_true rfl⟩ (Nat.le_of_ble_eq_true rfl) dL_acts_421 rfl (fun r2 K2 h9 => ?_)
        obtain ⟨rfl, e2⟩ := h9
        rw [ch_no (by rcases sp with z | z; exact absurd z (by omega); exact z)]
        refine aw_iconst (q := 425) dL_acts_424 rfl ?_
        refine aw_icmp_ne (q := 428) dL_acts_425 rfl (t := 432) (by decide) (by omega) (by omega) (fun h => absurd h (by omega)) (fun _ => ?_)
        refine aw_iconst (q := 429) dL_acts_428 rfl ?_
        refine aw_goto (q := 433) dL_acts_429 (by decide) ?_
        exact rt_z rfl (by omega) (Nat.le_of_ble_eq_true rfl) (Nat.le_of_ble_eq_true rfl) (⟨rfl, okI_mono (by omega) (e2.I oA), fun z _ => absurd z (by omega)⟩) dL_acts_433
set_option maxHeartbeats 4000000 in
set_option maxRecDepth 100000 in
theorem AL_acts {l : Launch} {D : va_G} {C : Nat → ClassId} {T : Nat → Nat} {ad : Int → Nat} (hst : l.stackTraces = false) {t : Int} {G K : GG} (ht : 0 ≤ t ∧ t ≤ 900) (o : okI t G) (e : eq0 G K) {x y hw : Int} (hw0 : 0 ≤ hw ∧ hw < 16) (h0 : 8 ≤ hw) (h13 : 1 ≤ G 0 13) : AW l RL "acts" cL_acts 11 (some .boolean) (fun _ => True) { frames := 9, cells := 4, slots := 24, locals := 264 } (hvE D (RI ad C (fun r G1 => r = 1 ∧ okI (t + 1) G1 ∧ (hw = 0 → G 0 13 < 8 → G1 0 13 = G 0 13 + 1 ∧ G1 0 (15 + 12 * G 0 13 + 1) = 0))) (cw ad C K) 4 24) D (tyC C) (hvZ T (cw ad C K)) (cw ad C K) 440 [(0, .ref (ad 102)), (1, .int (iI x)), (2, .int (iI y)), (3, .int (iI hw)), (4, .int (iI (G 0 13)))] [] (cw ad C K) 0 0 := by
  have o8 := o.1.1.2.1
  refine aw_iload_n (q := 441) 2 dL_acts_440 rfl rfl rfl ?_
  refine aw_iload (q := 443) 4 dL_acts_441 rfl rfl ?_
  refine cs_I (q := 446) (As := [.int (iI y), .int (iI (G 0 13))]) 2 (c_low (T := T) (D := D) (ad := ad) K (by omega)) (fun _ h => h) wc_L_low wm_RL_75 wt_L_low wn_L (by decide) rfl ⟨Nat.le_of_ble_eq_true rfl, Nat.le_of_ble_eq_true rfl⟩ ⟨Nat.le_of_ble_eq_true rfl, Nat.le_of_ble_eq_true rfl⟩ (Nat.le_of_ble_eq_true rfl) dL_acts_443 rfl (fun r9 G9 h9 => ?_)
  obtain ⟨rfl, h9⟩ := h9
  rw [h9]
  clear h9
  have hww1 := lowF_r y (n := (G 0 13)) (by omega)
  generalize lowF y (G 0 13) = w1 at *
  refine aw_istore (q := 448) (lv2 := [(0, .ref (ad 102)), (1, .int (iI x)), (2, .int (iI y)), (3, .int (iI hw)), (4, .int (iI (G 0 13))), (5, .int (iI w1))]) [1, 2, 3, 4, 5, 0] dL_acts_446 rfl (by decide) rfl rfl ?_
  refine aw_aload_n (q := 449) 0 dL_acts_448 rfl rfl rfl ?_
  refine aw_iload (q := 451) 5 dL_acts_449 rfl rfl ?_
  refine cv_F (q := 454) (CC := "") (id := 102) (As := [.int (iI w1)]) 1 (n_demand (D := D) (C := C) (T := T) (ad := ad) hst (G := G) (K := K) (by omega) o e (c := w1) (by omega)) (fun _ h => h) (by omega) (cell_102 ad C _) rfl wc_X5_demand wm_RL_45 wi_X5_demand ws_X5_demand wn_X5 (by decide) rfl ⟨Nat.le_of_ble_eq_true rfl, Nat.le_of_ble_eq_true rfl⟩ ⟨Nat.le_of_ble_eq_true rfl, Nat.le_of_ble_eq_true rfl⟩ (Nat.le_of_ble_eq_true rfl) dL_acts_451 rfl (fun r9 G9 h9 => ?_)
  rw [h9.1, h9.2]
  clear h9
  refine aw_fstore (q := 456) (lv2 := [(0, .ref (ad 102)), (1, .int (iI x)), (2, .int (iI y)), (3, .int (iI hw)), (4, .int (iI (G 0 13))), (5, .int (iI w1)), (6, .float ((fB (G 0 (15 + 12 * w1 + 10)))))]) [1, 2, 3, 4, 5, 6, 0] dL_acts_454 rfl (by decide) rfl rfl ?_
  refine aw_aload_n (q := 457) 0 dL_acts_456 rfl rfl rfl ?_
  refine aw_iload (q := 459) 5 dL_acts_457 rfl rfl ?_
  refine cv_I (q := 462) (CC := "") (id := 102) (As := [.int (iI w1)]) 1 (n_look (D := D) (C := C) (T := T) (ad := ad) hst (G := G) (K := K) (by omega) o e (c := w1) (by omega)) (fun _ h => h) (by omega) (cell_102 ad C _) rfl wc_X5_look wm_RL_103 wi_X5_look ws_X5_look wn_X5 (by decide) rfl ⟨Nat.le_of_ble_eq_true rfl, Nat.le_of_ble_eq_true rfl⟩ ⟨Nat.le_of_ble_eq_true rfl, Nat.le_of_ble_eq_true rfl⟩ (Nat.le_of_ble_eq_true rfl) dL_acts_459 rfl (fun r1 A h9 => ?_)
  obtain ⟨rfl, oA, a13, a2, a10⟩ := h9
  have ow := (o.1.1.2.2 w1 (by omega) (by omega)).2.2.2.2.2.2.2.1
  refine aw_aload_n (q := 463) 0 dL_acts_462 rfl rfl rfl ?_
  refine aw_iload (q := 465) 5 dL_acts_463 rfl rfl ?_
  refine aw_iconst (q := 466) dL_acts_465 rfl ?_
  refine cv_I (q := 469) (CC := "") (id := 102) (As := [.int (iI w1), .int (iI 2)]) 2 (n_coil (D := D) (C := C) (T := T) (ad := ad) hst (G := A) (K := A) (by omega) oA eq0.rf (c := w1) (k := 2) (by omega) (by omega)) (fun _ h => h) (by omega) (cell_102 ad C _) rfl wc_X5_coil wm_RL_39 wi_X5_coil ws_X5_coil wn_X5 (by decide) rfl ⟨Nat.le_of_ble_eq_true rfl, Nat.le_of_ble_eq_true rfl⟩ ⟨Nat.le_of_ble_eq_true rfl, Nat.le_of_ble_eq_true rfl⟩ (Nat.le_of_ble_eq_true rfl) dL_acts_466 rfl (fun r9 G9 h9 => ?_)
  rw [h9.1, h9.2]
  clear h9
  refine aw_same_ne (q := 472) a2.symm dL_acts_469 rfl (t := 491) (by decide) ?_
  refine aw_aload_n (q := 473) 0 dL_acts_472 rfl rfl rfl ?_
  refine aw_iload (q := 475) 5 dL_acts_473 rfl rfl ?_
  refine cv_F (q := 478) (CC := "") (id := 102) (As := [.int (iI w1)]) 1 (n_demand (D := D) (C := C) (T := T) (ad := ad) hst (G := A) (K := A) (by omega) oA eq0.rf (c := w1) (by omega)) (fun _ h => h) (by omega) (cell_102 ad C _) rfl wc_X5_demand wm_RL_45 wi_X5_demand ws_X5_demand wn_X5 (by decide) rfl ⟨Nat.le_of_ble_eq_true rfl, Nat.le_of_ble_eq_true rfl⟩ ⟨Nat.le_of_ble_eq_true rfl, Nat.le_of_ble_eq_true rfl⟩ (Nat.le_of_ble_eq_true rfl) dL_acts_475 rfl (fun r9 G9 h9 => ?_)
  rw [h9.1, h9.2]
  clear h9
  refine aw_fload (q := 480) 6 dL_acts_478 rfl rfl ?_
  refine aw_ldcf (q := 482) dL_acts_480 rfl wk_RL_106 ?_
  refine aw_fadd (q := 483) dL_acts_482 rfl (fw_addH ow).1 ?_
  refine aw_fcmp (q := 484) dL_acts_483 rfl ?_
  refine aw_ifW_ne (q := 487) dL_acts_484 rfl (t := 491) (by decide) (fun h => (h (by rw [a10, show FP.fadd (fB (G 0 (15 + 12 * w1 + 10))) 1056964608 = fB (faddH (G 0 (15 + 12 * w1 + 10))) from (fB_nat _).symm]; exact okW_eq (fw_addH ow).2)).elim) (fun h1 => ?_)
  refine aw_iconst (q := 488) dL_acts_487 rfl ?_
  refine aw_goto (q := 492) dL_acts_488 (by decide) ?_
  exact rt_z rfl (by omega) (Nat.le_of_ble_eq_true rfl) (Nat.le_of_ble_eq_true rfl) (⟨rfl, okI_mono (by omega) oA, fun z _ => absurd z (by omega)⟩) dL_acts_492
set_option maxHeartbeats 4000000 in
set_option maxRecDepth 100000 in
theorem AT_acts {l : Launch} {D : va_G} {C : Nat → ClassId} {T : Nat → Nat} {ad : Int → Nat} (hst : l.stackTraces = false) {t : Int} {G K : GG} (ht : 0 ≤ t ∧ t ≤ 900) (o : okI t G) (e : eq0 G K) {x y hw : Int} (hw0 : 0 ≤ hw ∧ hw < 16) (h0 : 8 ≤ hw) : AW l RL "acts" cL_acts 11 (some .boolean) (fun _ => True) { frames := 9, cells := 4, slots := 24, locals := 264 } (hvE D (RI ad C (fun r G1 => r = 1 ∧ okI (t + 1) G1 ∧ (hw = 0 → G 0 13 < 8 → G1 0 13 = G 0 13 + 1 ∧ G1 0 (15 + 12 * G 0 13 + 1) = 0))) (cw ad C K) 4 24) D (tyC C) (hvZ T (cw ad C K)) (cw ad C K) 499 [(0, .ref (ad 102)), (1, .int (iI x)), (2, .int (iI y)), (3, .int (iI hw)), (4, .int (iI (G 0 13)))] [] (cw ad C K) 0 0 := by
  have o8 := o.1.1.2.1
  refine aw_iload_n (q := 500) 2 dL_acts_499 rfl rfl rfl ?_
  refine aw_iconst (q := 501) dL_acts_500 rfl ?_
  refine cs_I (q := 504) (As := [.int (iI y), .int (iI 5)]) 2 (c_low (T := T) (D := D) (ad := ad) K (by omega)) (fun _ h => h) wc_L_low wm_RL_75 wt_L_low wn_L (by decide) rfl ⟨Nat.le_of_ble_eq_true rfl, Nat.le_of_ble_eq_true rfl⟩ ⟨Nat.le_of_ble_eq_true rfl, Nat.le_of_ble_eq_true rfl⟩ (Nat.le_of_ble_eq_true rfl) dL_acts_501 rfl (fun r9 G9 h9 => ?_)
  obtain ⟨rfl, h9⟩ := h9
  rw [h9]
  clear h9
  have hww1 := lowF_r y (n := 5) (by omega)
  generalize lowF y 5 = w1 at *
  refine aw_istore (q := 506) (lv2 := [(0, .ref (ad 102)), (1, .int (iI x)), (2, .int (iI y)), (3, .int (iI hw)), (4, .int (iI (G 0 13))), (5, .int (iI w1))]) [1, 2, 3, 4, 5, 0] dL_acts_504 rfl (by decide) rfl rfl ?_
  refine aw_iload (q := 508) 5 dL_acts_506 rfl rfl ?_
  refine aw_if_ne (q := 511) dL_acts_508 rfl (t := 524) (by decide) (by omega) (fun h1 => ?_) (fun h2 => ?_)
  · refine aw_iload (q := 526) 5 dL_acts_524 rfl rfl ?_
    refine aw_iconst (q := 527) dL_acts_526 rfl ?_
    refine aw_icmp_ne (q := 530) dL_acts_527 rfl (t := 542) (by decide) (by omega) (by omega) (fun h3 => ?_) (fun h4 => ?_)
    · refine aw_iload (q := 544) 5 dL_acts_542 rfl rfl ?_
      refine aw_iconst (q := 545) dL_acts_544 rfl ?_
      refine aw_icmp_ne (q := 548) dL_acts_545 rfl (t := 561) (by decide) (by omega) (by omega) (fun h5 => ?_) (fun h6 => ?_)
      · refine aw_iload_n (q := 562) 2 dL_acts_561 rfl rfl rfl ?_
        refine aw_iconst (q := 563) dL_acts_562 rfl ?_
        refine aw_ishr (q := 564) dL_acts_563 rfl ?_
        refine aw_bipush (q := 566) dL_acts_564 rfl (by decide) ?_
        refine cs_I (q := 569) (As := [.int (iI (shF y 3)), .int (iI 101)]) 2 (c_low (T := T) (D := D) (ad := ad) K (by omega)) (fun _ h => h) wc_L_low wm_RL_75 wt_L_low wn_L (by decide) rfl ⟨Nat.le_of_ble_eq_true rfl, Nat.le_of_ble_eq_true rfl⟩ ⟨Nat.le_of_ble_eq_true rfl, Nat.le_of_ble_eq_true rfl⟩ (Nat.le_of_ble_eq_true rfl) dL_acts_566 rfl (fun r9 G9 h9 => ?_)
        obtain ⟨rfl, h9⟩ := h9
        rw [h9]
        clear h9
        have hww2 := lowF_r (shF y 3) (n := 101) (by omega)
        generalize lowF (shF y 3) 101 = w2 at *
        refine aw_istore (q := 571) (lv2 := [(0, .ref (ad 102)), (1, .int (iI x)), (2, .int (iI y)), (3, .int (iI hw)), (4, .int (iI (G 0 13))), (5, .int (iI w1)), (6, .int (iI w2))]) [1, 2, 3, 4, 5, 6, 0] dL_acts_569 rfl (by decide) rfl rfl ?_
        refine aw_aload_n (q := 572) 0 dL_acts_571 rfl rfl rfl ?_
        refine aw_iload (q := 574) 5 dL_acts_572 rfl rfl ?_
        refine cv_I (q := 577) (CC := "") (id := 102) (As := [.int (iI w1)]) 1 (n_setting (D := D) (C := C) (T := T) (ad := ad) hst (G := G) (K := K) (by omega) o e (w := w1) (by omega)) (fun _ h => h) (by omega) (cell_102 ad C _) rfl wc_X5_setting wm_RL_85 wi_X5_setting ws_X5_setting wn_X5 (by decide) rfl ⟨Nat.le_of_ble_eq_true rfl, Nat.le_of_ble_eq_true rfl⟩ ⟨Nat.le_of_ble_eq_true rfl, Nat.le_of_ble_eq_true rfl⟩ (Nat.le_of_ble_eq_true rfl) dL_acts_574 rfl (fun r9 G9 h9 => ?_)
        rw [h9.1, h9.2]
        clear h9
        refine aw_istore (q := 579) (lv2 := [(0, .ref (ad 102)), (1, .int (iI x)), (2, .int (iI y)), (3, .int (iI hw)), (4, .int (iI (G 0 13))), (5, .int (iI w1)), (6, .int (iI w2)), (7, .int (iI (G 0 w1)))]) [1, 2, 3, 4, 5, 6, 7, 0] dL_acts_577 rfl (by decide) rfl rfl ?_
        refine aw_aload_n (q := 580) 0 dL_acts_579 rfl rfl rfl ?_
        refine aw_iload (q := 582) 5 dL_acts_580 rfl rfl ?_
        refine aw_iload (q := 584) 6 dL_acts_582 rfl rfl ?_
        refine cv_I (q := 587) (CC := "") (id := 102) (As := [.int (iI w1), .int (iI w2)]) 2 (n_set (D := D) (C := C) (T := T) (ad := ad) hst (G := G) (K := K) (by omega) o e (w := w1) (v := w2) (by omega) (fun _ => by omega) (fun _ => by omega) (fun _ => by omega) (fun _ => by omega)) (fun _ h => h) (by omega) (cell_102 ad C _) rfl wc_X5_set wm_RL_107 wi_X5_set ws_X5_set wn_X5 (by decide) rfl ⟨Nat.le_of_ble_eq_true rfl, Nat.le_of_ble_eq_true rfl⟩ ⟨Nat.le_of_ble_eq_true rfl, Nat.le_of_ble_eq_true rfl⟩ (Nat.le_of_ble_eq_true rfl) dL_acts_584 rfl (fun r1 A h9 => ?_)
        obtain ⟨rfl, oA, av⟩ := h9
        refine aw_iload (q := 589) 7 dL_acts_587 rfl rfl ?_
        refine aw_same_ne (q := 592) rfl dL_acts_589 rfl (t := 607) (by decide) ?_
        refine aw_aload_n (q := 593) 0 dL_acts_592 rfl rfl rfl ?_
        refine aw_iload (q := 595) 5 dL_acts_593 rfl rfl ?_
        refine cv_I (q := 598) (CC := "") (id := 102) (As := [.int (iI w1)]) 1 (n_setting (D := D) (C := C) (T := T) (ad := ad) hst (G := A) (K := A) (by omega) oA eq0.rf (w := w1) (by omega)) (fun _ h => h) (by omega) (cell_102 ad C _) rfl wc_X5_setting wm_RL_85 wi_X5_setting ws_X5_setting wn_X5 (by decide) rfl ⟨Nat.le_of_ble_eq_true rfl, Nat.le_of_ble_eq_true rfl⟩ ⟨Nat.le_of_ble_eq_true rfl, Nat.le_of_ble_eq_true rfl⟩ (Nat.le_of_ble_eq_true rfl) dL_acts_595 rfl (fun r9 G9 h9 => ?_)
        rw [h9.1, h9.2]
        clear h9
        refine aw_iload (q := 600) 6 dL_acts_598 rfl rfl ?_
        refine aw_same_ne (q := 603) av dL_acts_600 rfl (t := 607) (by decide) ?_
        refine aw_iconst (q := 604) dL_acts_603 rfl ?_
        refine aw_goto (q := 608) dL_acts_604 (by decide) ?_
        exact rt_z rfl (by omega) (Nat.le_of_ble_eq_true rfl) (Nat.le_of_ble_eq_true rfl) (⟨rfl, okI_mono (by omega) oA, fun z _ => absurd z (by omega)⟩) dL_acts_608
      · refine aw_iconst (q := 549) dL_acts_548 rfl ?_
        refine aw_iload_n (q := 550) 2 dL_acts_549 rfl rfl rfl ?_
        refine aw_iconst (q := 551) dL_acts_550 rfl ?_
        refine aw_ishr (q := 552) dL_acts_551 rfl ?_
        refine aw_bipush (q := 554) dL_acts_552 rfl (by decide) ?_
        refine cs_I (q := 557) (As := [.int (iI (shF y 3)), .int (iI 21)]) 2 (c_low (T := T) (D := D) (ad := ad) K (by omega)) (fun _ h => h) wc_L_low wm_RL_75 wt_L_low wn_L (by decide) rfl ⟨Nat.le_of_ble_eq_true rfl, Nat.le_of_ble_eq_true rfl⟩ ⟨Nat.le_of_ble_eq_true rfl, Nat.le_of_ble_eq_true rfl⟩ (Nat.le_of_ble_eq_true rfl) dL_acts_554 rfl (fun r9 G9 h9 => ?_)
        obtain ⟨rfl, h9⟩ := h9
        rw [h9]
        clear h9
        have hww3 := lowF_r (shF y 3) (n := 21) (by omega)
        generalize lowF (shF y 3) 21 = w3 at *
        refine ae_imul (q := 558) (5 * w3) (by omega) dL_acts_557 rfl ?_
        refine aw_goto (q := 569) dL_acts_558 (by decide) ?_
        refine aw_istore (q := 571) (lv2 := [(0, .ref (ad 102)), (1, .int (iI x)), (2, .int (iI y)), (3, .int (iI hw)), (4, .int (iI (G 0 13))), (5, .int (iI w1)), (6, .int (iI (5 * w3)))]) [1, 2, 3, 4, 5, 6, 0] dL_acts_569 rfl (by decide) rfl rfl ?_
        refine aw_aload_n (q := 572) 0 dL_acts_571 rfl rfl rfl ?_
        refine aw_iload (q := 574) 5 dL_acts_572 rfl rfl ?_
        refine cv_I (q := 577) (CC := "") (id := 102) (As := [.int (iI w1)]) 1 (n_setting (D := D) (C := C) (T := T) (ad := ad) hst (G := G) (K := K) (by omega) o e (w := w1) (by omega)) (fun _ h => h) (by omega) (cell_102 ad C _) rfl wc_X5_setting wm_RL_85 wi_X5_setting ws_X5_setting wn_X5 (by decide) rfl ⟨Nat.le_of_ble_eq_true rfl, Nat.le_of_ble_eq_true rfl⟩ ⟨Nat.le_of_ble_eq_true rfl, Nat.le_of_ble_eq_true rfl⟩ (Nat.le_of_ble_eq_true rfl) dL_acts_574 rfl (fun r9 G9 h9 => ?_)
        rw [h9.1, h9.2]
        clear h9
        refine aw_istore (q := 579) (lv2 := [(0, .ref (ad 102)), (1, .int (iI x)), (2, .int (iI y)), (3, .int (iI hw)), (4, .int (iI (G 0 13))), (5, .int (iI w1)), (6, .int (iI (5 * w3))), (7, .int (iI (G 0 w1)))]) [1, 2, 3, 4, 5, 6, 7, 0] dL_acts_577 rfl (by decide) rfl rfl ?_
        refine aw_aload_n (q := 580) 0 dL_acts_579 rfl rfl rfl ?_
        refine aw_iload (q := 582) 5 dL_acts_580 rfl rfl ?_
        refine aw_iload (q := 584) 6 dL_acts_582 rfl rfl ?_
        refine cv_I (q := 587) (CC := "") (id := 102) (As := [.int (iI w1), .int (iI (5 * w3))]) 2 (n_set (D := D) (C := C) (T := T) (ad := ad) hst (G := G) (K := K) (by omega) o e (w := w1) (v := (5 * w3)) (by omega) (fun _ => by omega) (fun _ => by omega) (fun _ => by omega) (fun _ => by omega)) (fun _ h => h) (by omega) (cell_102 ad C _) rfl wc_X5_set wm_RL_107 wi_X5_set ws_X5_set wn_X5 (by decide) rfl ⟨Nat.le_of_ble_eq_true rfl, Nat.le_of_ble_eq_true rfl⟩ ⟨Nat.le_of_ble_eq_true rfl, Nat.le_of_ble_eq_true rfl⟩ (Nat.le_of_ble_eq_true rfl) dL_acts_584 rfl (fun r1 A h9 => ?_)
        obtain ⟨rfl, oA, av⟩ := h9
        refine aw_iload (q := 589) 7 dL_acts_587 rfl rfl ?_
        refine aw_same_ne (q := 592) rfl dL_acts_589 rfl (t := 607) (by decide) ?_
        refine aw_aload_n (q := 593) 0 dL_acts_592 rfl rfl rfl ?_
        refine aw_iload (q := 595) 5 dL_acts_593 rfl rfl ?_
        refine cv_I (q := 598) (CC := "") (id := 102) (As := [.int (iI w1)]) 1 (n_setting (D := D) (C := C) (T := T) (ad := ad) hst (G := A) (K := A) (by omega) oA eq0.rf (w := w1) (by omega)) (fun _ h => h) (by omega) (cell_102 ad C _) rfl wc_X5_setting wm_RL_85 wi_X5_setting ws_X5_setting wn_X5 (by decide) rfl ⟨Nat.le_of_ble_eq_true rfl, Nat.le_of_ble_eq_true rfl⟩ ⟨Nat.le_of_ble_eq_true rfl, Nat.le_of_ble_eq_true rfl⟩ (Nat.le_of_ble_eq_true rfl) dL_acts_595 rfl (fun r9 G9 h9 => ?_)
        rw [h9.1, h9.2]
        clear h9
        refine aw_iload (q := 600) 6 dL_acts_598 rfl rfl ?_
        refine aw_same_ne (q := 603) av dL_acts_600 rfl (t := 607) (by decide) ?_
        refine aw_iconst (q := 604) dL_acts_603 rfl ?_
        refine aw_goto (q := 608) dL_acts_604 (by decide) ?_
        exact rt_z rfl (by omega) (Nat.le_of_ble_eq_true rfl) (Nat.le_of_ble_eq_true rfl) (⟨rfl, okI_mono (by omega) oA, fun z _ => absurd z (by omega)⟩) dL_acts_608
    · refine aw_iload_n (q := 531) 2 dL_acts_530 rfl rfl rfl ?_
      refine aw_iconst (q := 532) dL_acts_531 rfl ?_
      refine aw_ishr (q := 533) dL_acts_532 rfl ?_
      refine aw_sipush (q := 536) dL_acts_533 rfl (by decide) ?_
      refine cs_I (q := 539) (As := [.int (iI (shF y 3)), .int (iI 300)]) 2 (c_low (T := T) (D := D) (ad := ad) K (by omega)) (fun _ h => h) wc_L_low wm_RL_75 wt_L_low wn_L (by decide) rfl ⟨Nat.le_of_ble_eq_true rfl, Nat.le_of_ble_eq_true rfl⟩ ⟨Nat.le_of_ble_eq_true rfl, Nat.le_of_ble_eq_true rfl⟩ (Nat.le_of_ble_eq_true rfl) dL_acts_536 rfl (fun r9 G9 h9 => ?_)
      obtain ⟨rfl, h9⟩ := h9
      rw [h9]
      clear h9
      have hww4 := lowF_r (shF y 3) (n := 300) (by omega)
      generalize lowF (shF y 3) 300 = w4 at *
      refine aw_goto (q := 569) dL_acts_539 (by decide) ?_
      refine aw_istore (q := 571) (lv2 := [(0, .ref (ad 102)), (1, .int (iI x)), (2, .int (iI y)), (3, .int (iI hw)), (4, .int (iI (G 0 13))), (5, .int (iI w1)), (6, .int (iI w4))]) [1, 2, 3, 4, 5, 6, 0] dL_acts_569 rfl (by decide) rfl rfl ?_
      refine aw_aload_n (q := 572) 0 dL_acts_571 rfl rfl rfl ?_
      refine aw_iload (q := 574) 5 dL_acts_572 rfl rfl ?_
      refine cv_I (q := 577) (CC := "") (id := 102) (As := [.int (iI w1)]) 1 (n_setting (D := D) (C := C) (T := T) (ad := ad) hst (G := G) (K := K) (by omega) o e (w := w1) (by omega)) (fun _ h => h) (by omega) (cell_102 ad C _) rfl wc_X5_setting wm_RL_85 wi_X5_setting ws_X5_setting wn_X5 (by decide) rfl ⟨Nat.le_of_ble_eq_true rfl, Nat.le_of_ble_eq_true rfl⟩ ⟨Nat.le_of_ble_eq_true rfl, Nat.le_of_ble_eq_true rfl⟩ (Nat.le_of_ble_eq_true rfl) dL_acts_574 rfl (fun r9 G9 h9 => ?_)
      rw [h9.1, h9.2]
      clear h9
      refine aw_istore (q := 579) (lv2 := [(0, .ref (ad 102)), (1, .int (iI x)), (2, .int (iI y)), (3, .int (iI hw)), (4, .int (iI (G 0 13))), (5, .int (iI w1)), (6, .int (iI w4)), (7, .int (iI (G 0 w1)))]) [1, 2, 3, 4, 5, 6, 7, 0] dL_acts_577 rfl (by decide) rfl rfl ?_
      refine aw_aload_n (q := 580) 0 dL_acts_579 rfl rfl rfl ?_
      refine aw_iload (q := 582) 5 dL_acts_580 rfl rfl ?_
      refine aw_iload (q := 584) 6 dL_acts_582 rfl rfl ?_
      refine cv_I (q := 587) (CC := "") (id := 102) (As := [.int (iI w1), .int (iI w4)]) 2 (n_set (D := D) (C := C) (T := T) (ad := ad) hst (G := G) (K := K) (by omega) o e (w := w1) (v := w4) (by omega) (fun _ => by omega) (fun _ => by omega) (fun _ => by omega) (fun _ => by omega)) (fun _ h => h) (by omega) (cell_102 ad C _) rfl wc_X5_set wm_RL_107 wi_X5_set ws_X5_set wn_X5 (by decide) rfl ⟨Nat.le_of_ble_eq_true rfl, Nat.le_of_ble_eq_true rfl⟩ ⟨Nat.le_of_ble_eq_true rfl, Nat.le_of_ble_eq_true rfl⟩ (Nat.le_of_ble_eq_true rfl) dL_acts_584 rfl (fun r1 A h9 => ?_)
      obtain ⟨rfl, oA, av⟩ := h9
      refine aw_iload (q := 589) 7 dL_acts_587 rfl rfl ?_
      refine aw_same_ne (q := 592) rfl dL_acts_589 rfl (t := 607) (by decide) ?_
      refine aw_aload_n (q := 593) 0 dL_acts_592 rfl rfl rfl ?_
      refine aw_iload (q := 595) 5 dL_acts_593 rfl rfl ?_
      refine cv_I (q := 598) (CC := "") (id := 102) (As := [.int (iI w1)]) 1 (n_setting (D := D) (C := C) (T := T) (ad := ad) hst (G := A) (K := A) (by omega) oA eq0.rf (w := w1) (by omega)) (fun _ h => h) (by omega) (cell_102 ad C _) rfl wc_X5_setting wm_RL_85 wi_X5_setting ws_X5_setting wn_X5 (by decide) rfl ⟨Nat.le_of_ble_eq_true rfl, Nat.le_of_ble_eq_true rfl⟩ ⟨Nat.le_of_ble_eq_true rfl, Nat.le_of_ble_eq_true rfl⟩ (Nat.le_of_ble_eq_true rfl) dL_acts_595 rfl (fun r9 G9 h9 => ?_)
      rw [h9.1, h9.2]
      clear h9
      refine aw_iload (q := 600) 6 dL_acts_598 rfl rfl ?_
      refine aw_same_ne (q := 603) av dL_acts_600 rfl (t := 607) (by decide) ?_
      refine aw_iconst (q := 604) dL_acts_603 rfl ?_
      refine aw_goto (q := 608) dL_acts_604 (by decide) ?_
      exact rt_z rfl (by omega) (Nat.le_of_ble_eq_true rfl) (Nat.le_of_ble_eq_true rfl) (⟨rfl, okI_mono (by omega) oA, fun z _ => absurd z (by omega)⟩) dL_acts_608
  · refine aw_iconst (q := 512) dL_acts_511 rfl ?_
    refine aw_iload_n (q := 513) 2 dL_acts_512 rfl rfl rfl ?_
    refine aw_iconst (q := 514) dL_acts_513 rfl ?_
    refine aw_ishr (q := 515) dL_acts_514 rfl ?_
    refine aw_bipush (q := 517) dL_acts_515 rfl (by decide) ?_
    refine cs_I (q := 520) (As := [.int (iI (shF y 3)), .int (iI 40)]) 2 (c_low (T := T) (D := D) (ad := ad) K (by omega)) (fun _ h => h) wc_L_low wm_RL_75 wt_L_low wn_L (by decide) rfl ⟨Nat.le_of_ble_eq_true rfl, Nat.le_of_ble_eq_true rfl⟩ ⟨Nat.le_of_ble_eq_true rfl, Nat.le_of_ble_eq_true rfl⟩ (Nat.le_of_ble_eq_true rfl) dL_acts_517 rfl (fun r9 G9 h9 => ?_)
    obtain ⟨rfl, h9⟩ := h9
    rw [h9]
    clear h9
    have hww5 := lowF_r (shF y 3) (n := 40) (by omega)
    generalize lowF (shF y 3) 40 = w5 at *
    refine ae_iadd (q := 521) (w5 + 1) (by omega) dL_acts_520 rfl ?_
    refine aw_goto (q := 569) dL_acts_521 (by decide) ?_
    refine aw_istore (q := 571) (lv2 := [(0, .ref (ad 102)), (1, .int (iI x)), (2, .int (iI y)), (3, .int (iI hw)), (4, .int (iI (G 0 13))), (5, .int (iI w1)), (6, .int (iI (w5 + 1)))]) [1, 2, 3, 4, 5, 6, 0] dL_acts_569 rfl (by decide) rfl rfl ?_
    refine aw_aload_n (q := 572) 0 dL_acts_571 rfl rfl rfl ?_
    refine aw_iload (q := 574) 5 dL_acts_572 rfl rfl ?_
    refine cv_I (q := 577) (CC := "") (id := 102) (As := [.int (iI w1)]) 1 (n_setting (D := D) (C := C) (T := T) (ad := ad) hst (G := G) (K := K) (by omega) o e (w := w1) (by omega)) (fun _ h => h) (by omega) (cell_102 ad C _) rfl wc_X5_setting wm_RL_85 wi_X5_setting ws_X5_setting wn_X5 (by decide) rfl ⟨Nat.le_of_ble_eq_true rfl, Nat.le_of_ble_eq_true rfl⟩ ⟨Nat.le_of_ble_eq_true rfl, Nat.le_of_ble_eq_true rfl⟩ (Nat.le_of_ble_eq_true rfl) dL_acts_574 rfl (fun r9 G9 h9 => ?_)
    rw [h9.1, h9.2]
    clear h9
    refine aw_istore (q := 579) (lv2 := [(0, .ref (ad 102)), (1, .int (iI x)), (2, .int (iI y)), (3, .int (iI hw)), (4, .int (iI (G 0 13))), (5, .int (iI w1)), (6, .int (iI (w5 + 1))), (7, .int (iI (G 0 w1)))]) [1, 2, 3, 4, 5, 6, 7, 0] dL_acts_577 rfl (by decide) rfl rfl ?_
    refine aw_aload_n (q := 580) 0 dL_acts_579 rfl rfl rfl ?_
    refine aw_iload (q := 582) 5 dL_acts_580 rfl rfl ?_
    refine aw_iload (q := 584) 6 dL_acts_582 rfl rfl ?_
    refine cv_I (q := 587) (CC := "") (id := 102) (As := [.int (iI w1), .int (iI (w5 + 1))]) 2 (n_set (D := D) (C := C) (T := T) (ad := ad) hst (G := G) (K := K) (by omega) o e (w := w1) (v := (w5 + 1)) (by omega) (fun _ => by omega) (fun _ => by omega) (fun _ => by omega) (fun _ => by omega)) (fun _ h => h) (by omega) (cell_102 ad C _) rfl wc_X5_set wm_RL_107 wi_X5_set ws_X5_set wn_X5 (by decide) rfl ⟨Nat.le_of_ble_eq_true rfl, Nat.le_of_ble_eq_true rfl⟩ ⟨Nat.le_of_ble_eq_true rfl, Nat.le_of_ble_eq_true rfl⟩ (Nat.le_of_ble_eq_true rfl) dL_acts_584 rfl (fun r1 A h9 => ?_)
    obtain ⟨rfl, oA, av⟩ := h9
    refine aw_iload (q := 589) 7 dL_acts_587 rfl rfl ?_
    refine aw_same_ne (q := 592) rfl dL_acts_589 rfl (t := 607) (by decide) ?_
    refine aw_aload_n (q := 593) 0 dL_acts_592 rfl rfl rfl ?_
    refine aw_iload (q := 595) 5 dL_acts_593 rfl rfl ?_
    refine cv_I (q := 598) (CC := "") (id := 102) (As := [.int (iI w1)]) 1 (n_setting (D := D) (C := C) (T := T) (ad := ad) hst (G := A) (K := A) (by omega) oA eq0.rf (w := w1) (by omega)) (fun _ h => h) (by omega) (cell_102 ad C _) rfl wc_X5_setting wm_RL_85 wi_X5_setting ws_X5_setting wn_X5 (by decide) rfl ⟨Nat.le_of_ble_eq_true rfl, Nat.le_of_ble_eq_true rfl⟩ ⟨Nat.le_of_ble_eq_true rfl, Nat.le_of_ble_eq_true rfl⟩ (Nat.le_of_ble_eq_true rfl) dL_acts_595 rfl (fun r9 G9 h9 => ?_)
    rw [h9.1, h9.2]
    clear h9
    refine aw_iload (q := 600) 6 dL_acts_598 rfl rfl ?_
    refine aw_same_ne (q := 603) av dL_acts_600 rfl (t := 607) (by decide) ?_
    refine aw_iconst (q := 604) dL_acts_603 rfl ?_
    refine aw_goto (q := 608) dL_acts_604 (by decide) ?_
    exact rt_z rfl (by omega) (Nat.le_of_ble_eq_true rfl) (Nat.le_of_ble_eq_true rfl) (⟨rfl, okI_mono (by omega) oA, fun z _ => absurd z (by omega)⟩) dL_acts_608
set_option maxHeartbeats 4000000 in
set_option maxRecDepth 100000 in
theorem AE_acts {l : Launch} {D : va_G} {C : Nat → ClassId} {T : Nat → Nat} {ad : Int → Nat} (hst : l.stackTraces = false) {t : Int} {G K : GG} (ht : 0 ≤ t ∧ t ≤ 900) (o : okI t G) (e : eq0 G K) {x y hw : Int} (hw0 : 0 ≤ hw ∧ hw < 16) (h0 : 8 ≤ hw) : AW l RL "acts" cL_acts 11 (some .boolean) (fun _ => True) { frames := 9, cells := 4, slots := 24, locals := 264 } (hvE D (RI ad C (fun r G1 => r = 1 ∧ okI (t + 1) G1 ∧ (hw = 0 → G 0 13 < 8 → G1 0 13 = G 0 13 + 1 ∧ G1 0 (15 + 12 * G 0 13 + 1) = 0))) (cw ad C K) 4 24) D (tyC C) (hvZ T (cw ad C K)) (cw ad C K) 615 [(0, .ref (ad 102)), (1, .int (iI x)), (2, .int (iI y)), (3, .int (iI hw)), (4, .int (iI (G 0 13)))] [] (cw ad C K) 0 0 := by
  have o8 := o.1.1.2.1
  refine aw_aload_n (q := 616) 0 dL_acts_615 rfl rfl rfl ?_
  refine aw_iconst (q := 617) dL_acts_616 rfl ?_
  refine cv_I (q := 620) (CC := "") (id := 102) (As := [.int (iI 3)]) 1 (n_v3 (D := D) (C := C) (T := T) (ad := ad) hst (G := G) (K := K) (by omega) o e ) (fun _ h => h) (by omega) (cell_102 ad C _) rfl wc_X5_value wm_RL_42 wi_X5_value ws_X5_value wn_X5 (by decide) rfl ⟨Nat.le_of_ble_eq_true rfl, Nat.le_of_ble_eq_true rfl⟩ ⟨Nat.le_of_ble_eq_true rfl, Nat.le_of_ble_eq_true rfl⟩ (Nat.le_of_ble_eq_true rfl) dL_acts_617 rfl (fun r9 G9 h9 => ?_)
  rw [h9.1, h9.2]
  clear h9
  refine aw_istore (q := 622) (lv2 := [(0, .ref (ad 102)), (1, .int (iI x)), (2, .int (iI y)), (3, .int (iI hw)), (4, .int (iI (G 0 13))), (5, .int (iI (G 0 9)))]) [1, 2, 3, 4, 5, 0] dL_acts_620 rfl (by decide) rfl rfl ?_
  refine aw_aload_n (q := 623) 0 dL_acts_622 rfl rfl rfl ?_
  refine cv_I (q := 626) (CC := "") (id := 102) (As := []) 0 (n_emptyBox (D := D) (C := C) (T := T) (ad := ad) (G := G) (K := K) (by omega) o e) (fun _ h => h) (by omega) (cell_102 ad C _) rfl wc_X5_emptyBox wm_RL_110 wi_X5_emptyBox ws_X5_emptyBox wn_X5 (by decide) rfl ⟨Nat.le_of_ble_eq_true rfl, Nat.le_of_ble_eq_true rfl⟩ ⟨Nat.le_of_ble_eq_true rfl, Nat.le_of_ble_eq_true rfl⟩ (Nat.le_of_ble_eq_true rfl) dL_acts_623 rfl (fun r1 A h9 => ?_)
  obtain ⟨rfl, oA, a9⟩ := h9
  refine aw_iload (q := 628) 5 dL_acts_626 rfl rfl ?_
  refine aw_same_ne (q := 631) rfl dL_acts_628 rfl (t := 643) (by decide) ?_
  refine aw_aload_n (q := 632) 0 dL_acts_631 rfl rfl rfl ?_
  refine aw_iconst (q := 633) dL_acts_632 rfl ?_
  refine cv_I (q := 636) (CC := "") (id := 102) (As := [.int (iI 3)]) 1 (n_v3 (D := D) (C := C) (T := T) (ad := ad) hst (G := A) (K := A) (by omega) oA eq0.rf ) (fun _ h => h) (by omega) (cell_102 ad C _) rfl wc_X5_value wm_RL_42 wi_X5_value ws_X5_value wn_X5 (by decide) rfl ⟨Nat.le_of_ble_eq_true rfl, Nat.le_of_ble_eq_true rfl⟩ ⟨Nat.le_of_ble_eq_true rfl, Nat.le_of_ble_eq_true rfl⟩ (Nat.le_of_ble_eq_true rfl) dL_acts_633 rfl (fun r9 G9 h9 => ?_)
  rw [h9.1, h9.2]
  clear h9
  refine aw_if_ne (q := 639) dL_acts_636 rfl (t := 643) (by decide) (by omega) (fun h => ((by omega : False)).elim) (fun h1 => ?_)
  refine aw_iconst (q := 640) dL_acts_639 rfl ?_
  refine aw_goto (q := 644) dL_acts_640 (by decide) ?_
  exact rt_z rfl (by omega) (Nat.le_of_ble_eq_true rfl) (Nat.le_of_ble_eq_true rfl) (⟨rfl, okI_mono (by omega) oA, fun z _ => absurd z (by omega)⟩) dL_acts_644
set_option maxHeartbeats 4000000 in
set_option maxRecDepth 100000 in
theorem AP_acts {l : Launch} {D : va_G} {C : Nat → ClassId} {T : Nat → Nat} {ad : Int → Nat} (hst : l.stackTraces = false) {t : Int} {G K : GG} (ht : 0 ≤ t ∧ t ≤ 900) (o : okI t G) (e : eq0 G K) {x y hw : Int} (hw0 : 0 ≤ hw ∧ hw < 16) (h0 : 8 ≤ hw) : AW l RL "acts" cL_acts 11 (some .boolean) (fun _ => True) { frames := 9, cells := 4, slots := 24, locals := 264 } (hvE D (RI ad C (fun r G1 => r = 1 ∧ okI (t + 1) G1 ∧ (hw = 0 → G 0 13 < 8 → G1 0 13 = G 0 13 + 1 ∧ G1 0 (15 + 12 * G 0 13 + 1) = 0))) (cw ad C K) 4 24) D (tyC C) (hvZ T (cw ad C K)) (cw ad C K) 651 [(0, .ref (ad 102)), (1, .int (iI x)), (2, .int (iI y)), (3, .int (iI hw)), (4, .int (iI (G 0 13)))] [] (cw ad C K) 0 0 := by
  have o8 := o.1.1.2.1
  refine aw_aload_n (q := 652) 0 dL_acts_651 rfl rfl rfl ?_
  refine aw_iload_n (q := 653) 2 dL_acts_652 rfl rfl rfl ?_
  refine aw_sipush (q := 656) dL_acts_653 rfl (by decide) ?_
  refine cs_I (q := 659) (As := [.int (iI y), .int (iI 480)]) 2 (c_low (T := T) (D := D) (ad := ad) K (by omega)) (fun _ h => h) wc_L_low wm_RL_75 wt_L_low wn_L (by decide) rfl ⟨Nat.le_of_ble_eq_true rfl, Nat.le_of_ble_eq_true rfl⟩ ⟨Nat.le_of_ble_eq_true rfl, Nat.le_of_ble_eq_true rfl⟩ (Nat.le_of_ble_eq_true rfl) dL_acts_656 rfl (fun r9 G9 h9 => ?_)
  obtain ⟨rfl, h9⟩ := h9
  rw [h9]
  clear h9
  have hww1 := lowF_r y (n := 480) (by omega)
  generalize lowF y 480 = w1 at *
  refine cs_I (q := 662) (As := [.ref (ad 102), .int (iI w1)]) 2 (c_pays (D := D) (C := C) (T := T) (ad := ad) hst (G := G) (K := K) (by omega) o e (a := w1) (by omega)) (fun _ h => h) wc_L_pays wm_RL_113 wt_L_pays wn_L (by decide) rfl ⟨Nat.le_of_ble_eq_true rfl, Nat.le_of_ble_eq_true rfl⟩ ⟨Nat.le_of_ble_eq_true rfl, Nat.le_of_ble_eq_true rfl⟩ (Nat.le_of_ble_eq_true rfl) dL_acts_659 rfl (fun r1 K1 h9 => ?_)
  obtain ⟨rfl, e1⟩ := h9
  refine aw_if_eq (q := 665) dL_acts_662 rfl (t := 688) (by decide) (by omega) (fun h => absurd h (by omega)) (fun _ => ?_)
  refine aw_aload_n (q := 666) 0 dL_acts_665 rfl rfl rfl ?_
  refine aw_iconst (q := 667) dL_acts_666 rfl ?_
  refine aw_iload_n (q := 668) 2 dL_acts_667 rfl rfl rfl ?_
  refine aw_bipush (q := 670) dL_acts_668 rfl (by decide) ?_
  refine aw_ishr (q := 671) dL_acts_670 rfl ?_
  refine aw_sipush (q := 674) dL_acts_671 rfl (by decide) ?_
  refine cs_I (q := 677) (As := [.int (iI (shF y 9)), .int (iI 200)]) 2 (c_low (T := T) (D := D) (ad := ad) K1 (by omega)) (fun _ h => h) wc_L_low wm_RL_75 wt_L_low wn_L (by decide) rfl ⟨Nat.le_of_ble_eq_true rfl, Nat.le_of_ble_eq_true rfl⟩ ⟨Nat.le_of_ble_eq_true rfl, Nat.le_of_ble_eq_true rfl⟩ (Nat.le_of_ble_eq_true rfl) dL_acts_674 rfl (fun r9 G9 h9 => ?_)
  obtain ⟨rfl, h9⟩ := h9
  rw [h9]
  clear h9
  have hww2 := lowF_r (shF y 9) (n := 200) (by omega)
  generalize lowF (shF y 9) 200 = w2 at *
  refine ae_imul (q := 678) (5 * w2) (by omega) dL_acts_677 rfl ?_
  refine cs_I (q := 681) (As := [.ref (ad 102), .int (iI (5 * w2))]) 2 (c_pays (D := D) (C := C) (T := T) (ad := ad) hst (G := G) (K := K1) (by omega) o e1 (a := (5 * w2)) (by omega)) (fun _ h => h) wc_L_pays wm_RL_113 wt_L_pays wn_L (by decide) rfl ⟨Nat.le_of_ble_eq_true rfl, Nat.le_of_ble_eq_true rfl⟩ ⟨Nat.le_of_ble_eq_true rfl, Nat.le_of_ble_eq_true rfl⟩ (Nat.le_of_ble_eq_true rfl) dL_acts_678 rfl (fun r1 K2 h9 => ?_)
  obtain ⟨rfl, e2⟩ := h9
  refine aw_if_eq (q := 684) dL_acts_681 rfl (t := 688) (by decide) (by omega) (fun h => absurd h (by omega)) (fun _ => ?_)
  refine aw_iconst (q := 685) dL_acts_684 rfl ?_
  refine aw_goto (q := 689) dL_acts_685 (by decide) ?_
  exact rt_z rfl (by omega) (Nat.le_of_ble_eq_true rfl) (Nat.le_of_ble_eq_true rfl) (⟨rfl, okI_mono (by omega) (e2.I o), fun z _ => absurd z (by omega)⟩) dL_acts_689
set_option maxHeartbeats 4000000 in
set_option maxRecDepth 100000 in
theorem AU_acts {l : Launch} {D : va_G} {C : Nat → ClassId} {T : Nat → Nat} {ad : Int → Nat} (hst : l.stackTraces = false) {t : Int} {G K : GG} (ht : 0 ≤ t ∧ t ≤ 900) (o : okI t G) (e : eq0 G K) {x y hw : Int} (hw0 : 0 ≤ hw ∧ hw < 16) (h0 : 8 ≤ hw) : AW l RL "acts" cL_acts 11 (some .boolean) (fun _ => True) { frames := 9, cells := 4, slots := 24, locals := 264 } (hvE D (RI ad C (fun r G1 => r = 1 ∧ okI (t + 1) G1 ∧ (hw = 0 → G 0 13 < 8 → G1 0 13 = G 0 13 + 1 ∧ G1 0 (15 + 12 * G 0 13 + 1) = 0))) (cw ad C K) 4 24) D (tyC C) (hvZ T (cw ad C K)) (cw ad C K) 696 [(0, .ref (ad 102)), (1, .int (iI x)), (2, .int (iI y)), (3, .int (iI hw)), (4, .int (iI (G 0 13)))] [] (cw ad C K) 0 0 := by
  have o8 := o.1.1.2.1
  refine aw_aload_n (q := 697) 0 dL_acts_696 rfl rfl rfl ?_
  refine aw_iconst (q := 698) dL_acts_697 rfl ?_
  refine cv_I (q := 701) (CC := "") (id := 102) (As := [.int (iI 2)]) 1 (n_v2 (D := D) (C := C) (T := T) (ad := ad) hst (G := G) (K := K) (by omega) o e ) (fun _ h => h) (by omega) (cell_102 ad C _) rfl wc_X5_value wm_RL_42 wi_X5_value ws_X5_value wn_X5 (by decide) rfl ⟨Nat.le_of_ble_eq_true rfl, Nat.le_of_ble_eq_true rfl⟩ ⟨Nat.le_of_ble_eq_true rfl, Nat.le_of_ble_eq_true rfl⟩ (Nat.le_of_ble_eq_true rfl) dL_acts_698 rfl (fun r9 G9 h9 => ?_)
  rw [h9.1, h9.2]
  clear h9
  refine aw_istore (q := 703) (lv2 := [(0, .ref (ad 102)), (1, .int (iI x)), (2, .int (iI y)), (3, .int (iI hw)), (4, .int (iI (G 0 13))), (5, .int (iI ((worthF (G 0) 5))))]) [1, 2, 3, 4, 5, 0] dL_acts_701 rfl (by decide) rfl rfl ?_
  refine aw_aload_n (q := 704) 0 dL_acts_703 rfl rfl rfl ?_
  refine aw_bipush (q := 706) dL_acts_704 rfl (by decide) ?_
  refine cv_I (q := 709) (CC := "") (id := 102) (As := [.int (iI 7)]) 1 (n_v7 (D := D) (C := C) (T := T) (ad := ad) hst (G := G) (K := K) (by omega) o e ) (fun _ h => h) (by omega) (cell_102 ad C _) rfl wc_X5_value wm_RL_42 wi_X5_value ws_X5_value wn_X5 (by decide) rfl ⟨Nat.le_of_ble_eq_true rfl, Nat.le_of_ble_eq_true rfl⟩ ⟨Nat.le_of_ble_eq_true rfl, Nat.le_of_ble_eq_true rfl⟩ (Nat.le_of_ble_eq_true rfl) dL_acts_706 rfl (fun r9 G9 h9 => ?_)
  rw [h9.1, h9.2]
  clear h9
  refine aw_istore (q := 711) (lv2 := [(0, .ref (ad 102)), (1, .int (iI x)), (2, .int (iI y)), (3, .int (iI hw)), (4, .int (iI (G 0 13))), (5, .int (iI ((worthF (G 0) 5)))), (6, .int (iI ((sumF (G 0) 6 (G 0 13).toNat))))]) [1, 2, 3, 4, 5, 6, 0] dL_acts_709 rfl (by decide) rfl rfl ?_
  refine aw_aload_n (q := 712) 0 dL_acts_711 rfl rfl rfl ?_
  refine aw_iconst (q := 713) dL_acts_712 rfl ?_
  refine cv_I (q := 716) (CC := "") (id := 102) (As := [.int (iI 1)]) 1 (n_v1 (D := D) (C := C) (T := T) (ad := ad) hst (G := G) (K := K) (by omega) o e ) (fun _ h => h) (by omega) (cell_102 ad C _) rfl wc_X5_value wm_RL_42 wi_X5_value ws_X5_value wn_X5 (by decide) rfl ⟨Nat.le_of_ble_eq_true rfl, Nat.le_of_ble_eq_true rfl⟩ ⟨Nat.le_of_ble_eq_true rfl, Nat.le_of_ble_eq_true rfl⟩ (Nat.le_of_ble_eq_true rfl) dL_acts_713 rfl (fun r9 G9 h9 => ?_)
  rw [h9.1, h9.2]
  clear h9
  refine aw_istore (q := 718) (lv2 := [(0, .ref (ad 102)), (1, .int (iI x)), (2, .int (iI y)), (3, .int (iI hw)), (4, .int (iI (G 0 13))), (5, .int (iI ((worthF (G 0) 5)))), (6, .int (iI ((sumF (G 0) 6 (G 0 13).toNat)))), (7, .int (iI (G 0 10)))]) [1, 2, 3, 4, 5, 6, 7, 0] dL_acts_716 rfl (by decide) rfl rfl ?_
  refine aw_aload_n (q := 719) 0 dL_acts_718 rfl rfl rfl ?_
  refine aw_iconst (q := 720) dL_acts_719 rfl ?_
  refine aw_iload_n (q := 721) 2 dL_acts_720 rfl rfl rfl ?_
  refine aw_bipush (q := 723) dL_acts_721 rfl (by decide) ?_
  refine cs_I (q := 726) (As := [.int (iI y), .int (iI 48)]) 2 (c_low (T := T) (D := D) (ad := ad) K (by omega)) (fun _ h => h) wc_L_low wm_RL_75 wt_L_low wn_L (by decide) rfl ⟨Nat.le_of_ble_eq_true rfl, Nat.le_of_ble_eq_true rfl⟩ ⟨Nat.le_of_ble_eq_true rfl, Nat.le_of_ble_eq_true rfl⟩ (Nat.le_of_ble_eq_true rfl) dL_acts_723 rfl (fun r9 G9 h9 => ?_)
  obtain ⟨rfl, h9⟩ := h9
  rw [h9]
  clear h9
  have hww1 := lowF_r y (n := 48) (by omega)
  generalize lowF y 48 = w1 at *
  refine ae_iadd (q := 727) (w1 + 1) (by omega) dL_acts_726 rfl ?_
  refine ch_I (As := [.ref (ad 102), .int (iI (w1 + 1))]) 2 (n_passC (D := D) (C := C) (T := T) (ad := ad) hst (G := G) (K := K) (by omega) o e (a0 := (w1 + 1)) (by omega) (by omega)) (fun _ h => h) wcw_L_pass wm_RL_117 wt_L_pass wn_L (by decide) rfl ⟨Nat.le_of_ble_eq_true rfl, Nat.le_of_ble_eq_true rfl⟩ ⟨Nat.le_of_ble_eq_true rfl, Nat.le_of_ble_eq_true rfl⟩ (Nat.le_of_ble_eq_true rfl) dL_acts_727 rfl (fun r1 A h9 => ?_)
  have hr9 : (0 ≤ r1 ∧ r1 ≤ 1000) ∧ okI (t + 1) A ∧ ∃ H, saveP K H ∧ ∀ x y : Int, x ≠ 0 → A x y = H x y := by
    rcases h9 with ⟨-, z1, z2, z3⟩ | ⟨-, z, -⟩
    · have := hours_12 o.1.1 (w1 + 1).toNat
      exact ⟨by omega, z2, z3⟩
    · omega
  obtain ⟨hr1, oA, S, hS, hAS⟩ := hr9
  refine aw_if_lt (q := 733) dL_acts_730 rfl (t := 798) (by decide) (by omega) (fun h => ((by omega : False)).elim) (fun h1 => ?_)
  refine aw_aload_n (q := 734) 0 dL_acts_733 rfl rfl rfl ?_
  refine ch_I (As := [.ref (ad 102)]) 1 (n_undo (D := D) (C := C) (T := T) (ad := ad) hst (G := K) (A := A) (t2 := t + 1) (by omega) (by omega) (e.I o) oA hS (fun x y hx => hAS x y (by omega))) (fun _ h => h) wcw_L_undo wm_RL_119 wt_L_undo wn_L (by decide) rfl ⟨Nat.le_of_ble_eq_true rfl, Nat.le_of_ble_eq_true rfl⟩ ⟨Nat.le_of_ble_eq_true rfl, Nat.le_of_ble_eq_true rfl⟩ (Nat.le_of_ble_eq_true rfl) dL_acts_734 rfl (fun r2 B h9 => ?_)
  obtain ⟨hr2, oB, hB⟩ := h9
  have e13 := e.1 13 (by omega)
  have b10 : B 0 10 = G 0 10 := (hB 10 (by omega)).trans (e.1 10 (by omega))
  have b13 : B 0 13 = G 0 13 := (hB 13 (by omega)).trans e13
  have bw : worthF (B 0) 5 = worthF (G 0) 5 := by
    show 5 * B 0 5 + 10 * B 0 6 + 20 * B 0 7 + 50 * B 0 8 = 5 * G 0 5 + 10 * G 0 6 + 20 * G 0 7 + 50 * G 0 8
    rw [(hB 5 (by omega)).trans (e.1 5 (by omega)), (hB 6 (by omega)).trans (e.1 6 (by omega)), (hB 7 (by omega)).trans (e.1 7 (by omega)), (hB 8 (by omega)).trans (e.1 8 (by omega))]
  have bs : sumF (B 0) 6 (B 0 13).toNat = sumF (G 0) 6 (G 0 13).toNat := by
    rw [b13]
    exact sumF_congr _ (fun d d0 d1 => (hB _ (by omega)).trans (e.1 _ (by omega)))
  refine aw_if_lt (q := 740) dL_acts_737 rfl (t := 798) (by decide) (by omega) (fun h => ((by omega : False)).elim) (fun h2 => ?_)
  refine aw_aload_n (q := 741) 0 dL_acts_740 rfl rfl rfl ?_
  refine aw_iconst (q := 742) dL_acts_741 rfl ?_
  refine cv_I (q := 745) (CC := "") (id := 102) (As := [.int (iI 1)]) 1 (n_v1 (D := D) (C := C) (T := T) (ad := ad) hst (G := B) (K := B) (by omega) oB eq0.rf ) (fun _ h => h) (by omega) (cell_102 ad C _) rfl wc_X5_value wm_RL_42 wi_X5_value ws_X5_value wn_X5 (by decide) rfl ⟨Nat.le_of_ble_eq_true rfl, Nat.le_of_ble_eq_true rfl⟩ ⟨Nat.le_of_ble_eq_true rfl, Nat.le_of_ble_eq_true rfl⟩ (Nat.le_of_ble_eq_true rfl) dL_acts_742 rfl (fun r9 G9 h9 => ?_)
  rw [h9.1, h9.2]
  clear h9
  refine aw_iload (q := 747) 7 dL_acts_745 rfl rfl ?_
  refine aw_same_ne (q := 750) b10 dL_acts_747 rfl (t := 798) (by decide) ?_
  refine aw_aload_n (q := 751) 0 dL_acts_750 rfl rfl rfl ?_
  refine aw_bipush (q := 753) dL_acts_751 rfl (by decide) ?_
  refine cv_I (q := 756) (CC := "") (id := 102) (As := [.int (iI 7)]) 1 (n_v7 (D := D) (C := C) (T := T) (ad := ad) hst (G := B) (K := B) (by omega) oB eq0.rf ) (fun _ h => h) (by omega) (cell_102 ad C _) rfl wc_X5_value wm_RL_42 wi_X5_value ws_X5_value wn_X5 (by decide) rfl ⟨Nat.le_of_ble_eq_true rfl, Nat.le_of_ble_eq_true rfl⟩ ⟨Nat.le_of_ble_eq_true rfl, Nat.le_of_ble_eq_true rfl⟩ (Nat.le_of_ble_eq_true rfl) dL_acts_753 rfl (fun r9 G9 h9 => ?_)
  rw [h9.1, h9.2]
  clear h9
  refine aw_iload (q := 758) 6 dL_acts_756 rfl rfl ?_
  refine aw_same_ne (q := 761) bs dL_acts_758 rfl (t := 798) (by decide) ?_
  refine aw_aload_n (q := 762) 0 dL_acts_761 rfl rfl rfl ?_
  refine aw_iconst (q := 763) dL_acts_762 rfl ?_
  refine cv_I (q := 766) (CC := "") (id := 102) (As := [.int (iI 2)]) 1 (n_v2 (D := D) (C := C) (T := T) (ad := ad) hst (G := B) (K := B) (by omega) oB eq0.rf ) (fun _ h => h) (by omega) (cell_102 ad C _) rfl wc_X5_value wm_RL_42 wi_X5_value ws_X5_value wn_X5 (by decide) rfl ⟨Nat.le_of_ble_eq_true rfl, Nat.le_of_ble_eq_true rfl⟩ ⟨Nat.le_of_ble_eq_true rfl, Nat.le_of_ble_eq_true rfl⟩ (Nat.le_of_ble_eq_true rfl) dL_acts_763 rfl (fun r9 G9 h9 => ?_)
  rw [h9.1, h9.2]
  clear h9
  refine aw_iload (q := 768) 5 dL_acts_766 rfl rfl ?_
  refine aw_same_ne (q := 771) bw dL_acts_768 rfl (t := 798) (by decide) ?_
  refine aw_aload_n (q := 772) 0 dL_acts_771 rfl rfl rfl ?_
  refine aw_iconst (q := 773) dL_acts_772 rfl ?_
  refine ch_I (As := [.ref (ad 102), .int (iI 0)]) 2 (n_passC (D := D) (C := C) (T := T) (ad := ad) hst (G := B) (K := B) (by omega) oB eq0.rf (a0 := 0) (by omega) (by omega)) (fun _ h => h) wcw_L_pass wm_RL_117 wt_L_pass wn_L (by decide) rfl ⟨Nat.le_of_ble_eq_true rfl, Nat.le_of_ble_eq_true rfl⟩ ⟨Nat.le_of_ble_eq_true rfl, Nat.le_of_ble_eq_true rfl⟩ (Nat.le_of_ble_eq_true rfl) dL_acts_773 rfl (fun r9 P1 h9 => ?_)
  have hr9 : r9 = -901 ∧ eq0 B P1 := by
    rcases h9 with ⟨z, -⟩ | ⟨z, -, zz⟩
    · omega
    · exact ⟨z, zz⟩
  obtain ⟨rfl, f1⟩ := hr9
  refine aw_sipush (q := 779) dL_acts_776 rfl (by decide) ?_
  refine aw_icmp_ne (q := 782) dL_acts_779 rfl (t := 798) (by decide) (by omega) (by omega) (fun h => absurd h (by omega)) (fun _ => ?_)
  refine aw_aload_n (q := 783) 0 dL_acts_782 rfl rfl rfl ?_
  refine aw_bipush (q := 785) dL_acts_783 rfl (by decide) ?_
  refine ch_I (As := [.ref (ad 102), .int (iI 49)]) 2 (n_passC (D := D) (C := C) (T := T) (ad := ad) hst (G := B) (K := P1) (by omega) oB f1 (a0 := 49) (by omega) (by omega)) (fun _ h => h) wcw_L_pass wm_RL_117 wt_L_pass wn_L (by decide) rfl ⟨Nat.le_of_ble_eq_true rfl, Nat.le_of_ble_eq_true rfl⟩ ⟨Nat.le_of_ble_eq_true rfl, Nat.le_of_ble_eq_true rfl⟩ (Nat.le_of_ble_eq_true rfl) dL_acts_785 rfl (fun r9 P2 h9 => ?_)
  have hr9 : r9 = -901 ∧ eq0 B P2 := by
    rcases h9 with ⟨z, -⟩ | ⟨z, -, zz⟩
    · omega
    · exact ⟨z, zz⟩
  obtain ⟨rfl, f2⟩ := hr9
  refine aw_sipush (q := 791) dL_acts_788 rfl (by decide) ?_
  refine aw_icmp_ne (q := 794) dL_acts_791 rfl (t := 798) (by decide) (by omega) (by omega) (fun h => absurd h (by omega)) (fun _ => ?_)
  refine aw_iconst (q := 795) dL_acts_794 rfl ?_
  refine aw_goto (q := 799) dL_acts_795 (by decide) ?_
  exact rt_z rfl (by omega) (Nat.le_of_ble_eq_true rfl) (Nat.le_of_ble_eq_true rfl) (⟨rfl, okI_mono (by omega) (f2.I oB), fun z _ => absurd z (by omega)⟩) dL_acts_799
set_option maxHeartbeats 4000000 in
set_option maxRecDepth 100000 in
theorem AH_acts {l : Launch} {D : va_G} {C : Nat → ClassId} {T : Nat → Nat} {ad : Int → Nat} (hst : l.stackTraces = false) {t : Int} {G K : GG} (ht : 0 ≤ t ∧ t ≤ 900) (o : okI t G) (e : eq0 G K) {x y hw : Int} (hw0 : 0 ≤ hw ∧ hw < 16) (h0 : 8 ≤ hw) (h13 : 1 ≤ G 0 13) : AW l RL "acts" cL_acts 11 (some .boolean) (fun _ => True) { frames := 9, cells := 4, slots := 24, locals := 264 } (hvE D (RI ad C (fun r G1 => r = 1 ∧ okI (t + 1) G1 ∧ (hw = 0 → G 0 13 < 8 → G1 0 13 = G 0 13 + 1 ∧ G1 0 (15 + 12 * G 0 13 + 1) = 0))) (cw ad C K) 4 24) D (tyC C) (hvZ T (cw ad C K)) (cw ad C K) 800 [(0, .ref (ad 102)), (1, .int (iI x)), (2, .int (iI y)), (3, .int (iI hw)), (4, .int (iI (G 0 13)))] [] (cw ad C K) 0 0 := by
  have o8 := o.1.1.2.1
  refine aw_aload_n (q := 801) 0 dL_acts_800 rfl rfl rfl ?_
  refine aw_iload_n (q := 802) 1 dL_acts_801 rfl rfl rfl ?_
  refine aw_iconst (q := 803) dL_acts_802 rfl ?_
  refine aw_ishr (q := 804) dL_acts_803 rfl ?_
  refine aw_iload_n (q := 805) 2 dL_acts_804 rfl rfl rfl ?_
  refine cs_I (q := 808) (As := [.ref (ad 102), .int (iI (shF x 4)), .int (iI y)]) 3 (c_hours (D := D) (C := C) (T := T) (ad := ad) hst (G := G) (K := K) ht o e h13) (fun _ h => h) wc_L_hours wm_RL_122 wt_L_hours wn_L (by decide) rfl ⟨Nat.le_of_ble_eq_true rfl, Nat.le_of_ble_eq_true rfl⟩ ⟨Nat.le_of_ble_eq_true rfl, Nat.le_of_ble_eq_true rfl⟩ (Nat.le_of_ble_eq_true rfl) dL_acts_805 rfl (fun r1 A h9 => ?_)
  obtain ⟨rfl, oA⟩ := h9
  exact rt_z rfl (by omega) (Nat.le_of_ble_eq_true rfl) (Nat.le_of_ble_eq_true rfl) (⟨rfl, oA, fun z _ => absurd z (by omega)⟩) dL_acts_808
set_option maxHeartbeats 4000000 in
set_option maxRecDepth 100000 in
theorem c_acts {l : Launch} {D : va_G} {C : Nat → ClassId} {T : Nat → Nat} {ad : Int → Nat} (hst : l.stackTraces = false) {t : Int} {G K : GG} (ht : 0 ≤ t ∧ t ≤ 900) (o : okI t G) (e : eq0 G K) {x y : Int} : MC l yL_acts cL_acts 11 (some .boolean) 9 264 4 24 D (tyC C) T [.ref (ad 102), .int (iI x), .int (iI y)] (cw ad C K) (RI ad C (fun r G1 => r = 1 ∧ okI (t + 1) G1 ∧ (lowF x 16 = 0 → G 0 13 < 8 → G1 0 13 = G 0 13 + 1 ∧ G1 0 (15 + 12 * G 0 13 + 1) = 0))) := by
  refine mc_of (by decide +kernel) (Nat.le_of_ble_eq_true rfl) rfl ?_
  have o8 := o.1.1.2.1
  refine aw_iload_n (q := 1) 1 dL_acts_0 rfl rfl rfl ?_
  refine aw_bipush (q := 3) dL_acts_1 rfl (by decide) ?_
  refine cs_I (q := 6) (As := [.int (iI x), .int (iI 16)]) 2 (c_low (T := T) (D := D) (ad := ad) K (by omega)) (fun _ h => h) wc_L_low wm_RL_75 wt_L_low wn_L (by decide) rfl ⟨Nat.le_of_ble_eq_true rfl, Nat.le_of_ble_eq_true rfl⟩ ⟨Nat.le_of_ble_eq_true rfl, Nat.le_of_ble_eq_true rfl⟩ (Nat.le_of_ble_eq_true rfl) dL_acts_3 rfl (fun r9 G9 h9 => ?_)
  obtain ⟨rfl, h9⟩ := h9
  rw [h9]
  clear h9
  have hww1 := lowF_r x (n := 16) (by omega)
  generalize lowF x 16 = w1 at *
  refine aw_istore_n (q := 7) (lv2 := [(0, .ref (ad 102)), (1, .int (iI x)), (2, .int (iI y)), (3, .int (iI w1))]) [1, 2, 3, 0] dL_acts_6 rfl rfl (by decide) rfl rfl ?_
  refine aw_aload_n (q := 8) 0 dL_acts_7 rfl rfl rfl ?_
  refine aw_iconst (q := 9) dL_acts_8 rfl ?_
  refine cv_I (q := 12) (CC := "") (id := 102) (As := [.int (iI 0)]) 1 (n_v0 (D := D) (C := C) (T := T) (ad := ad) hst (G := G) (K := K) (by omega) o e ) (fun _ h => h) (by omega) (cell_102 ad C _) rfl wc_X5_value wm_RL_42 wi_X5_value ws_X5_value wn_X5 (by decide) rfl ⟨Nat.le_of_ble_eq_true rfl, Nat.le_of_ble_eq_true rfl⟩ ⟨Nat.le_of_ble_eq_true rfl, Nat.le_of_ble_eq_true rfl⟩ (Nat.le_of_ble_eq_true rfl) dL_acts_9 rfl (fun r9 G9 h9 => ?_)
  rw [h9.1, h9.2]
  clear h9
  refine aw_istore (q := 14) (lv2 := [(0, .ref (ad 102)), (1, .int (iI x)), (2, .int (iI y)), (3, .int (iI w1)), (4, .int (iI (G 0 13)))]) [1, 2, 3, 4, 0] dL_acts_12 rfl (by decide) rfl rfl ?_
  refine aw_iload_n (q := 15) 3 dL_acts_14 rfl rfl rfl ?_
  refine aw_if_ne (q := 18) dL_acts_15 rfl (t := 114) (by decide) (by omega) (fun h1 => ?_) (fun h2 => ?_)
  · refine aw_iload (q := 116) 4 dL_acts_114 rfl rfl ?_
    refine aw_if_eq (q := 119) dL_acts_116 rfl (t := 124) (by decide) (by omega) (fun h3 => ?_) (fun h4 => ?_)
    · exact AS_acts hst ht o e hww1 (by omega)
    · refine aw_iload_n (q := 120) 3 dL_acts_119 rfl rfl rfl ?_
      refine aw_iconst (q := 121) dL_acts_120 rfl ?_
      refine aw_icmp_ge (q := 124) dL_acts_121 rfl (t := 242) (by decide) (by omega) (by omega) (fun h5 => ?_) (fun h6 => ?_)
      · refine aw_iload_n (q := 243) 3 dL_acts_242 rfl rfl rfl ?_
        refine aw_bipush (q := 245) dL_acts_243 rfl (by decide) ?_
        refine aw_icmp_ge (q := 248) dL_acts_245 rfl (t := 262) (by decide) (by omega) (by omega) (fun h7 => ?_) (fun h8 => ?_)
        · refine aw_iload_n (q := 263) 3 dL_acts_262 rfl rfl rfl ?_
          refine aw_bipush (q := 265) dL_acts_263 rfl (by decide) ?_
          refine aw_icmp_ge (q := 268) dL_acts_265 rfl (t := 434) (by decide) (by omega) (by omega) (fun h9 => ?_) (fun h10 => ?_)
          · refine aw_iload_n (q := 435) 3 dL_acts_434 rfl rfl rfl ?_
            refine aw_bipush (q := 437) dL_acts_435 rfl (by decide) ?_
            refine aw_icmp_ne (q := 440) dL_acts_437 rfl (t := 493) (by decide) (by omega) (by omega) (fun h11 => ?_) (fun h12 => ?_)
            · refine aw_iload_n (q := 494) 3 dL_acts_493 rfl rfl rfl ?_
              refine aw_bipush (q := 496) dL_acts_494 rfl (by decide) ?_
              refine aw_icmp_ne (q := 499) dL_acts_496 rfl (t := 609) (by decide) (by omega) (by omega) (fun h13 => ?_) (fun h14 => ?_)
              · refine aw_iload_n (q := 610) 3 dL_acts_609 rfl rfl rfl ?_
                refine aw_bipush (q := 612) dL_acts_610 rfl (by decide) ?_
                refine aw_icmp_ne (q := 615) dL_acts_612 rfl (t := 645) (by decide) (by omega) (by omega) (fun h15 => ?_) (fun h16 => ?_)
                · refine aw_iload_n (q := 646) 3 dL_acts_645 rfl rfl rfl ?_
                  refine aw_bipush (q := 648) dL_acts_646 rfl (by decide) ?_
                  refine aw_icmp_ne (q := 651) dL_acts_648 rfl (t := 690) (by decide) (by omega) (by omega) (fun h17 => ?_) (fun h18 => ?_)
                  · refine aw_iload_n (q := 691) 3 dL_acts_690 rfl rfl rfl ?_
                    refine aw_bipush (q := 693) dL_acts_691 rfl (by decide) ?_
                    refine aw_icmp_ne (q := 696) dL_acts_693 rfl (t := 800) (by decide) (by omega) (by omega) (fun h19 => ?_) (fun h20 => ?_)
                    · exact AH_acts hst ht o e hww1 (by omega) (by omega)
                    · exact AU_acts hst ht o e hww1 (by omega)
                  · exact AP_acts hst ht o e hww1 (by omega)
                · exact AE_acts hst ht o e hww1 (by omega)
              · exact AT_acts hst ht o e hww1 (by omega)
            · exact AL_acts hst ht o e hww1 (by omega) (by omega)
          · exact AF_acts hst ht o e hww1 (by omega)
        · exact AB_acts hst ht o e hww1 (by omega) (by omega)
      · exact AS_acts hst ht o e hww1 (by omega)
  · refine aw_iload (q := 20) 4 dL_acts_18 rfl rfl ?_
    refine aw_bipush (q := 22) dL_acts_20 rfl (by decide) ?_
    refine aw_icmp_ge (q := 25) dL_acts_22 rfl (t := 114) (by decide) (by omega) (by omega) (fun h21 => ?_) (fun h22 => ?_)
    · refine aw_iload (q := 116) 4 dL_acts_114 rfl rfl ?_
      refine aw_if_eq (q := 119) dL_acts_116 rfl (t := 124) (by decide) (by omega) (fun h23 => ?_) (fun h24 => ?_)
      · exact AS_acts hst ht o e hww1 (by omega)
      · refine aw_iload_n (q := 120) 3 dL_acts_119 rfl rfl rfl ?_
        refine aw_iconst (q := 121) dL_acts_120 rfl ?_
        refine aw_icmp_ge (q := 124) dL_acts_121 rfl (t := 242) (by decide) (by omega) (by omega) (fun h25 => ?_) (fun h26 => ?_)
        · refine aw_iload_n (q := 243) 3 dL_acts_242 rfl rfl rfl ?_
          refine aw_bipush (q := 245) dL_acts_243 rfl (by decide) ?_
          refine aw_icmp_ge (q := 248) dL_acts_245 rfl (t := 262) (by decide) (by omega) (by omega) (fun h27 => ?_) (fun h28 => ?_)
          · refine aw_iload_n (q := 263) 3 dL_acts_262 rfl rfl rfl ?_
            refine aw_bipush (q := 265) dL_acts_263 rfl (by decide) ?_
            refine aw_icmp_ge (q := 268) dL_acts_265 rfl (t := 434) (by decide) (by omega) (by omega) (fun h29 => ?_) (fun h30 => ?_)
            · refine aw_iload_n (q := 435) 3 dL_acts_434 rfl rfl rfl ?_
              refine aw_bipush (q := 437) dL_acts_435 rfl (by decide) ?_
              refine aw_icmp_ne (q := 440) dL_acts_437 rfl (t := 493) (by decide) (by omega) (by omega) (fun h31 => ?_) (fun h32 => ?_)
              · refine aw_iload_n (q := 494) 3 dL_acts_493 rfl rfl rfl ?_
                refine aw_bipush (q := 496) dL_acts_494 rfl (by decide) ?_
                refine aw_icmp_ne (q := 499) dL_acts_496 rfl (t := 609) (by decide) (by omega) (by omega) (fun h33 => ?_) (fun h34 => ?_)
                · refine aw_iload_n (q := 610) 3 dL_acts_609 rfl rfl rfl ?_
                  refine aw_bipush (q := 612) dL_acts_610 rfl (by decide) ?_
                  refine aw_icmp_ne (q := 615) dL_acts_612 rfl (t := 645) (by decide) (by omega) (by omega) (fun h35 => ?_) (fun h36 => ?_)
                  · refine aw_iload_n (q := 646) 3 dL_acts_645 rfl rfl rfl ?_
                    refine aw_bipush (q := 648) dL_acts_646 rfl (by decide) ?_
                    refine aw_icmp_ne (q := 651) dL_acts_648 rfl (t := 690) (by decide) (by omega) (by omega) (fun h37 => ?_) (fun h38 => ?_)
                    · refine aw_iload_n (q := 691) 3 dL_acts_690 rfl rfl rfl ?_
                      refine aw_bipush (q := 693) dL_acts_691 rfl (by decide) ?_
                      refine aw_icmp_ne (q := 696) dL_acts_693 rfl (t := 800) (by decide) (by omega) (by omega) (fun h39 => ?_) (fun h40 => ?_)
                      · exact AH_acts hst ht o e hww1 (by omega) (by omega)
                      · exact AU_acts hst ht o e hww1 (by omega)
                    · exact AP_acts hst ht o e hww1 (by omega)
                  · exact AE_acts hst ht o e hww1 (by omega)
                · exact AT_acts hst ht o e hww1 (by omega)
              · exact AL_acts hst ht o e hww1 (by omega) (by omega)
            · exact AF_acts hst ht o e hww1 (by omega)
          · exact AB_acts hst ht o e hww1 (by omega) (by omega)
        · exact AS_acts hst ht o e hww1 (by omega)
    · exact AA_acts hst ht o e hww1 (by omega) (by omega)
