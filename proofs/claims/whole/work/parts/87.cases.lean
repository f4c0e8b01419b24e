/-! cases of the law -/
set_option maxHeartbeats 4000000 in
set_option maxRecDepth 100000 in
/-- tube -/
theorem case_10 {l : Launch} {D : va_G} {C : Nat → ClassId} {T : Nat → Nat} {ad : Int → Nat} {b L : Nat} {xs : Nat → Int32} {nm : String} (hst : l.stackTraces = false) (hL : L ≤ 3072) : lawStep l D C T ad b L xs nm relR 10 := by
  intro G i k n hG h0 h6 hk hn kk
  show AW _ _ _ _ _ _ _ _ _ _ _ _ _ 819 _ _ _ _ _
  refine aw_aload_n (q := 820) 1 dL_law_819 rfl rfl rfl ?_
  refine aw_aload_n (q := 821) 0 dL_law_820 rfl rfl rfl ?_
  refine aw_iload (q := 823) 5 dL_law_821 rfl rfl ?_
  refine aw_iconst (q := 824) dL_law_823 rfl ?_
  refine ae_iadd (q := 825) (i + 1) rfl dL_law_824 rfl ?_
  refine aw_sld (q := 826) ⟨by omega, by omega⟩ hL (fun s h => h.2) dL_law_825 rfl ?_
  refine aw_aload_n (q := 827) 3 dL_law_826 rfl rfl rfl ?_
  refine aw_callSW (q := 830) (As := [.ref (ad 102), .int (iI (xs (i + 1).toNat).toInt), .ref (ad 118)]) (st := []) 3 (cL_h_tube (T := T) (D := D) (ad := ad) G (c_tubeV hst G (relR_M hG) (iI_rng (xs (i + 1).toNat))) (by
    intro E G1 h
    rcases h with ⟨-, rfl, -⟩ <;> simp) (by decide) (by decide) (by decide) (by decide)) (fun _ h => h.1) wcw_L_tube wm_RL_126 wt_L_tube wn_L (by decide) rfl ⟨Nat.le_of_ble_eq_true rfl, Nat.le_of_ble_eq_true rfl⟩ ⟨by show k + 1 ≤ 601024; omega, by show n + 6 ≤ 7293034; omega⟩ (Nat.le_of_ble_eq_true rfl) dL_law_827 rfl ?_
  rintro v9 w9 ⟨kc, A, rfl, rfl, h9⟩
  refine aw_istore (q := 832) (lv2 := (6, .int (iI kc)) :: lawLv b ad i) [0, 1, 2, 3, 4, 5, 6] dL_law_830 rfl (by decide) rfl rfl ?_
  have hkc : 0 ≤ kc ∧ kc ≤ 3 := by
    rcases h9 with ⟨h, -⟩ | ⟨h, -⟩ <;> omega
  have h2 : (kc = 0 ∧ ∃ a G2, ((0 ≤ (xs (i + 1).toNat).toInt ∧ (xs (i + 1).toNat).toInt ≤ 3) ∧ a = G 0 (5 + (xs (i + 1).toNat).toInt) ∧ G2 = G) ∧ A = setG G2 21 0 (wI a)) ∨ (kc = 1 ∧ A = G ∧ ¬ (0 ≤ (xs (i + 1).toNat).toInt ∧ (xs (i + 1).toNat).toInt ≤ 3)) := by
    rcases h9 with h | ⟨hk, hx⟩
    · exact Or.inl h
    · exact Or.inr (⟨hk, hx.1, hx.2.2⟩)
  obtain ⟨oN, oH, oP, oR, oX, h4, o10, htu, h13, h14, h6x⟩ := aOk hG (k_tube hG h2)
  refine aw_aload_n (q := 833) 3 dL_law_832 rfl rfl rfl ?_
  refine aw_aload_n (q := 834) 1 dL_law_833 rfl rfl rfl ?_
  refine aw_iload (q := 836) 6 dL_law_834 rfl rfl ?_
  refine aw_iconst (q := 837) dL_law_836 rfl ?_
  refine ae_iadd (q := 838) (i + 1) rfl dL_law_837 rfl ?_
  refine aw_sld (q := 839) ⟨by omega, by omega⟩ hL (fun s h => h.2) dL_law_838 rfl ?_
  refine cv_I (q := 842) (CC := "") (id := 108) (As := [.int (iI (xs (i + 1).toNat).toInt)]) 1 (c_tubeM A (iI_rng (xs (i + 1).toNat))) (fun _ h => h.1) (by omega) (cell_108 ad C _) rfl wc_X6_tube wm_RL_128 wi_X6_tube ws_X6_tube wn_X6 (by decide) rfl ⟨Nat.le_of_ble_eq_true rfl, Nat.le_of_ble_eq_true rfl⟩ ⟨by show k + 1 ≤ 601024; omega, by show n + 6 ≤ 7293034; omega⟩ (Nat.le_of_ble_eq_true rfl) dL_law_839 rfl (fun r2 B h8 => ?_)
  refine aw_istore (q := 844) (lv2 := (7, .int (iI r2)) :: (6, .int (iI kc)) :: lawLv b ad i) [0, 1, 2, 3, 4, 5, 6, 7] dL_law_842 rfl (by decide) rfl rfl ?_
  exact law_tail (p := 844) (by omega) (by omega) dL_law_844 dL_law_845 dL_law_848 dL_law_850 dL_law_855 dL_law_857 dL_law_860 dL_law_861 dL_law_862 dL_law_863 dL_law_865 dL_law_866 dL_law_867 dL_law_872 (by decide) hkc (f_tube hG h2 h8) (fun rB => kk B rB)
set_option maxHeartbeats 4000000 in
set_option maxRecDepth 100000 in
/-- value -/
theorem case_11 {l : Launch} {D : va_G} {C : Nat → ClassId} {T : Nat → Nat} {ad : Int → Nat} {b L : Nat} {xs : Nat → Int32} {nm : String} (hst : l.stackTraces = false) (hL : L ≤ 3072) : lawStep l D C T ad b L xs nm relR 11 := by
  intro G i k n hG h0 h6 hk hn kk
  show AW _ _ _ _ _ _ _ _ _ _ _ _ _ 875 _ _ _ _ _
  refine aw_aload_n (q := 876) 1 dL_law_875 rfl rfl rfl ?_
  refine aw_aload_n (q := 877) 0 dL_law_876 rfl rfl rfl ?_
  refine aw_iload (q := 879) 5 dL_law_877 rfl rfl ?_
  refine aw_iconst (q := 880) dL_law_879 rfl ?_
  refine ae_iadd (q := 881) (i + 1) rfl dL_law_880 rfl ?_
  refine aw_sld (q := 882) ⟨by omega, by omega⟩ hL (fun s h => h.2) dL_law_881 rfl ?_
  refine aw_aload_n (q := 883) 3 dL_law_882 rfl rfl rfl ?_
  refine aw_callSW (q := 886) (As := [.ref (ad 102), .int (iI (xs (i + 1).toNat).toInt), .ref (ad 118)]) (st := []) 3 (cL_h_value (T := T) (D := D) (ad := ad) G (c_value hst G (relR_M hG) (iI_rng (xs (i + 1).toNat))) (by
    intro E G1 h
    rcases h with ⟨-, rfl, -⟩ <;> simp) (by decide) (by decide) (by decide) (by decide)) (fun _ h => h.1) wcw_L_value wm_RL_129 wt_L_value wn_L (by decide) rfl ⟨Nat.le_of_ble_eq_true rfl, Nat.le_of_ble_eq_true rfl⟩ ⟨by show k + 1 ≤ 601024; omega, by show n + 6 ≤ 7293034; omega⟩ (Nat.le_of_ble_eq_true rfl) dL_law_883 rfl ?_
  rintro v9 w9 ⟨kc, A, rfl, rfl, h9⟩
  refine aw_istore (q := 888) (lv2 := (6, .int (iI kc)) :: lawLv b ad i) [0, 1, 2, 3, 4, 5, 6] dL_law_886 rfl (by decide) rfl rfl ?_
  have hkc : 0 ≤ kc ∧ kc ≤ 3 := by
    rcases h9 with ⟨h, -⟩ | ⟨h, -⟩ <;> omega
  have h2 : (kc = 0 ∧ ∃ a G2, ((0 ≤ (xs (i + 1).toNat).toInt ∧ (xs (i + 1).toNat).toInt ≤ 10) ∧ a = numF (G 0) (xs (i + 1).toNat).toInt ∧ G2 = G) ∧ A = setG G2 21 0 (wI a)) ∨ (kc = 1 ∧ A = G ∧ ¬ (0 ≤ (xs (i + 1).toNat).toInt ∧ (xs (i + 1).toNat).toInt ≤ 10)) := by
    rcases h9 with h | ⟨hk, hx⟩
    · exact Or.inl h
    · exact Or.inr (⟨hk, hx.1, hx.2.2⟩)
  obtain ⟨oN, oH, oP, oR, oX, h4, o10, htu, h13, h14, h6x⟩ := aOk hG (k_value hG h2)
  refine aw_aload_n (q := 889) 3 dL_law_888 rfl rfl rfl ?_
  refine aw_aload_n (q := 890) 1 dL_law_889 rfl rfl rfl ?_
  refine aw_iload (q := 892) 6 dL_law_890 rfl rfl ?_
  refine aw_iconst (q := 893) dL_law_892 rfl ?_
  refine ae_iadd (q := 894) (i + 1) rfl dL_law_893 rfl ?_
  refine aw_sld (q := 895) ⟨by omega, by omega⟩ hL (fun s h => h.2) dL_law_894 rfl ?_
  refine cv_I (q := 898) (CC := "") (id := 108) (As := [.int (iI (xs (i + 1).toNat).toInt)]) 1 (c_valueM A h13 h14 (iI_rng (xs (i + 1).toNat))) (fun _ h => h.1) (by omega) (cell_108 ad C _) rfl wc_X6_value wm_RL_131 wi_X6_value ws_X6_value wn_X6 (by decide) rfl ⟨Nat.le_of_ble_eq_true rfl, Nat.le_of_ble_eq_true rfl⟩ ⟨by show k + 1 ≤ 601024; omega, by show n + 6 ≤ 7293034; omega⟩ (Nat.le_of_ble_eq_true rfl) dL_law_895 rfl (fun r2 B h8 => ?_)
  refine aw_istore (q := 900) (lv2 := (7, .int (iI r2)) :: (6, .int (iI kc)) :: lawLv b ad i) [0, 1, 2, 3, 4, 5, 6, 7] dL_law_898 rfl (by decide) rfl rfl ?_
  exact law_tail (p := 900) (by omega) (by omega) dL_law_900 dL_law_901 dL_law_904 dL_law_906 dL_law_911 dL_law_913 dL_law_916 dL_law_917 dL_law_918 dL_law_919 dL_law_921 dL_law_922 dL_law_923 dL_law_928 (by decide) hkc (f_value hG h2 h8) (fun rB => kk B rB)
set_option maxHeartbeats 4000000 in
set_option maxRecDepth 100000 in
/-- setting -/
theorem case_12 {l : Launch} {D : va_G} {C : Nat → ClassId} {T : Nat → Nat} {ad : Int → Nat} {b L : Nat} {xs : Nat → Int32} {nm : String} (hst : l.stackTraces = false) (hL : L ≤ 3072) : lawStep l D C T ad b L xs nm relR 12 := by
  intro G i k n hG h0 h6 hk hn kk
  show AW _ _ _ _ _ _ _ _ _ _ _ _ _ 931 _ _ _ _ _
  refine aw_aload_n (q := 932) 1 dL_law_931 rfl rfl rfl ?_
  refine aw_aload_n (q := 933) 0 dL_law_932 rfl rfl rfl ?_
  refine aw_iload (q := 935) 5 dL_law_933 rfl rfl ?_
  refine aw_iconst (q := 936) dL_law_935 rfl ?_
  refine ae_iadd (q := 937) (i + 1) rfl dL_law_936 rfl ?_
  refine aw_sld (q := 938) ⟨by omega, by omega⟩ hL (fun s h => h.2) dL_law_937 rfl ?_
  refine aw_aload_n (q := 939) 3 dL_law_938 rfl rfl rfl ?_
  refine aw_callSW (q := 942) (As := [.ref (ad 102), .int (iI (xs (i + 1).toNat).toInt), .ref (ad 118)]) (st := []) 3 (cL_h_setting (T := T) (D := D) (ad := ad) G (c_setting hst G (relR_M hG) (iI_rng (xs (i + 1).toNat))) (by
    intro E G1 h
    rcases h with ⟨-, rfl, -⟩ <;> simp) (by decide) (by decide) (by decide) (by decide)) (fun _ h => h.1) wcw_L_setting wm_RL_132 wt_L_setting wn_L (by decide) rfl ⟨Nat.le_of_ble_eq_true rfl, Nat.le_of_ble_eq_true rfl⟩ ⟨by show k + 1 ≤ 601024; omega, by show n + 6 ≤ 7293034; omega⟩ (Nat.le_of_ble_eq_true rfl) dL_law_939 rfl ?_
  rintro v9 w9 ⟨kc, A, rfl, rfl, h9⟩
  refine aw_istore (q := 944) (lv2 := (6, .int (iI kc)) :: lawLv b ad i) [0, 1, 2, 3, 4, 5, 6] dL_law_942 rfl (by decide) rfl rfl ?_
  have hkc : 0 ≤ kc ∧ kc ≤ 3 := by
    rcases h9 with ⟨h, -⟩ | ⟨h, -⟩ <;> omega
  have h2 : (kc = 0 ∧ ∃ a G2, ((0 ≤ (xs (i + 1).toNat).toInt ∧ (xs (i + 1).toNat).toInt ≤ 4) ∧ a = G 0 (xs (i + 1).toNat).toInt ∧ G2 = G) ∧ A = setG G2 21 0 (wI a)) ∨ (kc = 1 ∧ A = G ∧ ¬ (0 ≤ (xs (i + 1).toNat).toInt ∧ (xs (i + 1).toNat).toInt ≤ 4)) := by
    rcases h9 with h | ⟨hk, hx⟩
    · exact Or.inl h
    · exact Or.inr (⟨hk, hx.1, hx.2.2⟩)
  obtain ⟨oN, oH, oP, oR, oX, h4, o10, htu, h13, h14, h6x⟩ := aOk hG (k_setting hG h2)
  refine aw_aload_n (q := 945) 3 dL_law_944 rfl rfl rfl ?_
  refine aw_aload_n (q := 946) 1 dL_law_945 rfl rfl rfl ?_
  refine aw_iload (q := 948) 6 dL_law_946 rfl rfl ?_
  refine aw_iconst (q := 949) dL_law_948 rfl ?_
  refine ae_iadd (q := 950) (i + 1) rfl dL_law_949 rfl ?_
  refine aw_sld (q := 951) ⟨by omega, by omega⟩ hL (fun s h => h.2) dL_law_950 rfl ?_
  refine cv_I (q := 954) (CC := "") (id := 108) (As := [.int (iI (xs (i + 1).toNat).toInt)]) 1 (c_settingM A (iI_rng (xs (i + 1).toNat))) (fun _ h => h.1) (by omega) (cell_108 ad C _) rfl wc_X6_setting wm_RL_134 wi_X6_setting ws_X6_setting wn_X6 (by decide) rfl ⟨Nat.le_of_ble_eq_true rfl, Nat.le_of_ble_eq_true rfl⟩ ⟨by show k + 1 ≤ 601024; omega, by show n + 6 ≤ 7293034; omega⟩ (Nat.le_of_ble_eq_true rfl) dL_law_951 rfl (fun r2 B h8 => ?_)
  refine aw_istore (q := 956) (lv2 := (7, .int (iI r2)) :: (6, .int (iI kc)) :: lawLv b ad i) [0, 1, 2, 3, 4, 5, 6, 7] dL_law_954 rfl (by decide) rfl rfl ?_
  exact law_tail (p := 956) (by omega) (by omega) dL_law_956 dL_law_957 dL_law_960 dL_law_962 dL_law_967 dL_law_969 dL_law_972 dL_law_973 dL_law_974 dL_law_975 dL_law_977 dL_law_978 dL_law_979 dL_law_984 (by decide) hkc (f_setting hG h2 h8) (fun rB => kk B rB)
set_option maxHeartbeats 4000000 in
set_option maxRecDepth 100000 in
/-- promise -/
theorem case_13 {l : Launch} {D : va_G} {C : Nat → ClassId} {T : Nat → Nat} {ad : Int → Nat} {b L : Nat} {xs : Nat → Int32} {nm : String} (hst : l.stackTraces = false) (hL : L ≤ 3072) : lawStep l D C T ad b L xs nm relR 13 := by
  intro G i k n hG h0 h6 hk hn kk
  show AW _ _ _ _ _ _ _ _ _ _ _ _ _ 987 _ _ _ _ _
  refine aw_aload_n (q := 988) 1 dL_law_987 rfl rfl rfl ?_
  refine aw_aload_n (q := 989) 0 dL_law_988 rfl rfl rfl ?_
  refine aw_iload (q := 991) 5 dL_law_989 rfl rfl ?_
  refine aw_iconst (q := 992) dL_law_991 rfl ?_
  refine ae_iadd (q := 993) (i + 1) rfl dL_law_992 rfl ?_
  refine aw_sld (q := 994) ⟨by omega, by omega⟩ hL (fun s h => h.2) dL_law_993 rfl ?_
  refine aw_aload_n (q := 995) 3 dL_law_994 rfl rfl rfl ?_
  refine aw_callSW (q := 998) (As := [.ref (ad 102), .int (iI (xs (i + 1).toNat).toInt), .ref (ad 118)]) (st := []) 3 (cL_h_promise (T := T) (D := D) (ad := ad) G (c_promise hst G (relR_M hG) (iI_rng (xs (i + 1).toNat))) (by
    intro E G1 h
    rcases h with ⟨-, rfl, -⟩ <;> simp) (by decide) (by decide) (by decide) (by decide)) (fun _ h => h.1) wcw_L_promise wm_RL_135 wt_L_promise wn_L (by decide) rfl ⟨Nat.le_of_ble_eq_true rfl, Nat.le_of_ble_eq_true rfl⟩ ⟨by show k + 1 ≤ 601024; omega, by show n + 6 ≤ 7293034; omega⟩ (Nat.le_of_ble_eq_true rfl) dL_law_995 rfl ?_
  rintro v9 w9 ⟨kc, A, rfl, rfl, h9⟩
  refine aw_istore (q := 1000) (lv2 := (6, .int (iI kc)) :: lawLv b ad i) [0, 1, 2, 3, 4, 5, 6] dL_law_998 rfl (by decide) rfl rfl ?_
  have hkc : 0 ≤ kc ∧ kc ≤ 3 := by
    rcases h9 with ⟨h, -⟩ | ⟨h, -⟩ <;> omega
  have h2 : (kc = 0 ∧ ∃ a G2, ((0 ≤ (xs (i + 1).toNat).toInt ∧ (xs (i + 1).toNat).toInt ≤ G 0 14 - 1) ∧ a = G 0 (111 + (xs (i + 1).toNat).toInt) ∧ G2 = G) ∧ A = setG G2 21 0 (wI a)) ∨ (kc = 1 ∧ A = G ∧ ¬ (0 ≤ (xs (i + 1).toNat).toInt ∧ (xs (i + 1).toNat).toInt ≤ G 0 14 - 1)) := by
    rcases h9 with h | ⟨hk, hx⟩
    · exact Or.inl h
    · exact Or.inr (⟨hk, hx.1, hx.2.2⟩)
  obtain ⟨oN, oH, oP, oR, oX, h4, o10, htu, h13, h14, h6x⟩ := aOk hG (k_promise hG h2)
  refine aw_aload_n (q := 1001) 3 dL_law_1000 rfl rfl rfl ?_
  refine aw_aload_n (q := 1002) 1 dL_law_1001 rfl rfl rfl ?_
  refine aw_iload (q := 1004) 6 dL_law_1002 rfl rfl ?_
  refine aw_iconst (q := 1005) dL_law_1004 rfl ?_
  refine ae_iadd (q := 1006) (i + 1) rfl dL_law_1005 rfl ?_
  refine aw_sld (q := 1007) ⟨by omega, by omega⟩ hL (fun s h => h.2) dL_law_1006 rfl ?_
  refine cv_I (q := 1010) (CC := "") (id := 108) (As := [.int (iI (xs (i + 1).toNat).toInt)]) 1 (c_promiseM A h14 (iI_rng (xs (i + 1).toNat))) (fun _ h => h.1) (by omega) (cell_108 ad C _) rfl wc_X6_promise wm_RL_137 wi_X6_promise ws_X6_promise wn_X6 (by decide) rfl ⟨Nat.le_of_ble_eq_true rfl, Nat.le_of_ble_eq_true rfl⟩ ⟨by show k + 1 ≤ 601024; omega, by show n + 6 ≤ 7293034; omega⟩ (Nat.le_of_ble_eq_true rfl) dL_law_1007 rfl (fun r2 B h8 => ?_)
  refine aw_istore (q := 1012) (lv2 := (7, .int (iI r2)) :: (6, .int (iI kc)) :: lawLv b ad i) [0, 1, 2, 3, 4, 5, 6, 7] dL_law_1010 rfl (by decide) rfl rfl ?_
  exact law_tail (p := 1012) (by omega) (by omega) dL_law_1012 dL_law_1013 dL_law_1016 dL_law_1018 dL_law_1023 dL_law_1025 dL_law_1028 dL_law_1029 dL_law_1030 dL_law_1031 dL_law_1033 dL_law_1034 dL_law_1035 dL_law_1040 (by decide) hkc (f_promise hG h2 h8) (fun rB => kk B rB)
set_option maxHeartbeats 4000000 in
set_option maxRecDepth 100000 in
/-- change -/
theorem case_14 {l : Launch} {D : va_G} {C : Nat → ClassId} {T : Nat → Nat} {ad : Int → Nat} {b L : Nat} {xs : Nat → Int32} {nm : String} (hst : l.stackTraces = false) (hL : L ≤ 3072) : lawStep l D C T ad b L xs nm relR 14 := by
  intro G i k n hG h0 h6 hk hn kk
  show AW _ _ _ _ _ _ _ _ _ _ _ _ _ 1043 _ _ _ _ _
  refine aw_aload_n (q := 1044) 1 dL_law_1043 rfl rfl rfl ?_
  refine aw_aload_n (q := 1045) 0 dL_law_1044 rfl rfl rfl ?_
  refine aw_iload (q := 1047) 5 dL_law_1045 rfl rfl ?_
  refine aw_iconst (q := 1048) dL_law_1047 rfl ?_
  refine ae_iadd (q := 1049) (i + 1) rfl dL_law_1048 rfl ?_
  refine aw_sld (q := 1050) ⟨by omega, by omega⟩ hL (fun s h => h.2) dL_law_1049 rfl ?_
  refine aw_aload_n (q := 1051) 0 dL_law_1050 rfl rfl rfl ?_
  refine aw_iload (q := 1053) 5 dL_law_1051 rfl rfl ?_
  refine aw_iconst (q := 1054) dL_law_1053 rfl ?_
  refine ae_iadd (q := 1055) (i + 2) rfl dL_law_1054 rfl ?_
  refine aw_sld (q := 1056) ⟨by omega, by omega⟩ hL (fun s h => h.2) dL_law_1055 rfl ?_
  refine aw_aload_n (q := 1057) 3 dL_law_1056 rfl rfl rfl ?_
  refine aw_callSW (q := 1060) (As := [.ref (ad 102), .int (iI (xs (i + 1).toNat).toInt), .int (iI (xs (i + 2).toNat).toInt), .ref (ad 118)]) (st := []) 4 (cL_h_change (T := T) (D := D) (ad := ad) G (c_changeU hst G (relR_M hG) (iI_rng (xs (i + 1).toNat)) (iI_rng (xs (i + 2).toNat))) (by
    intro E G1 h
    rcases h with ⟨-, ⟨rfl, -⟩ | ⟨rfl, -⟩⟩ <;> simp) (by decide) (by decide) (by decide) (by decide)) (fun _ h => h.1) wcw_L_change wm_RL_138 wt_L_change wn_L (by decide) rfl ⟨Nat.le_of_ble_eq_true rfl, Nat.le_of_ble_eq_true rfl⟩ ⟨by show k + 1 ≤ 601024; omega, by show n + 6 ≤ 7293034; omega⟩ (Nat.le_of_ble_eq_true rfl) dL_law_1057 rfl ?_
  rintro v9 w9 ⟨kc, A, rfl, rfl, h9⟩
  refine aw_istore (q := 1062) (lv2 := (6, .int (iI kc)) :: lawLv b ad i) [0, 1, 2, 3, 4, 5, 6] dL_law_1060 rfl (by decide) rfl rfl ?_
  have hkc : 0 ≤ kc ∧ kc ≤ 3 := by
    rcases h9 with ⟨h, -⟩ | ⟨h, -⟩ | ⟨h, -⟩ <;> omega
  have h2 : (kc = 0 ∧ ∃ a G2, (((0 ≤ (xs (i + 1).toNat).toInt ∧ (xs (i + 1).toNat).toInt ≤ 2000) ∧ (0 ≤ (xs (i + 2).toNat).toInt ∧ (xs (i + 2).toNat).toInt ≤ 3)) ∧ a = chF (G 0 5) (G 0 6) (G 0 7) (G 0 8) (xs (i + 1).toNat).toInt (xs (i + 2).toNat).toInt ∧ sameB (scr 0) G G2) ∧ A = setG G2 21 0 (wI a)) ∨ (kc = 1 ∧ A = G ∧ ¬ (0 ≤ (xs (i + 1).toNat).toInt ∧ (xs (i + 1).toNat).toInt ≤ 2000)) ∨ (kc = 2 ∧ A = G ∧ (0 ≤ (xs (i + 1).toNat).toInt ∧ (xs (i + 1).toNat).toInt ≤ 2000) ∧ ¬ (0 ≤ (xs (i + 2).toNat).toInt ∧ (xs (i + 2).toNat).toInt ≤ 3)) := by
    rcases h9 with h | ⟨hk, hx⟩ | ⟨hk, hx⟩
    · exact Or.inl h
    · obtain ⟨hA, hx⟩ := hx
      rcases hx with ⟨q, z⟩ | ⟨q, z⟩ <;> first | exact Or.inr (Or.inl (⟨hk, hA, z⟩)) | exact absurd q (by decide)
    · obtain ⟨hA, hx⟩ := hx
      rcases hx with ⟨q, z⟩ | ⟨q, z⟩ <;> first | exact Or.inr (Or.inr (⟨hk, hA, z⟩)) | exact absurd q (by decide)
  obtain ⟨oN, oH, oP, oR, oX, h4, o10, htu, h13, h14, h6x⟩ := aOk hG (k_change hG h2)
  refine aw_aload_n (q := 1063) 3 dL_law_1062 rfl rfl rfl ?_
  refine aw_aload_n (q := 1064) 1 dL_law_1063 rfl rfl rfl ?_
  refine aw_iload (q := 1066) 6 dL_law_1064 rfl rfl ?_
  refine aw_iconst (q := 1067) dL_law_1066 rfl ?_
  refine ae_iadd (q := 1068) (i + 1) rfl dL_law_1067 rfl ?_
  refine aw_sld (q := 1069) ⟨by omega, by omega⟩ hL (fun s h => h.2) dL_law_1068 rfl ?_
  refine aw_aload_n (q := 1070) 1 dL_law_1069 rfl rfl rfl ?_
  refine aw_iload (q := 1072) 6 dL_law_1070 rfl rfl ?_
  refine aw_iconst (q := 1073) dL_law_1072 rfl ?_
  refine ae_iadd (q := 1074) (i + 2) rfl dL_law_1073 rfl ?_
  refine aw_sld (q := 1075) ⟨by omega, by omega⟩ hL (fun s h => h.2) dL_law_1074 rfl ?_
  refine cv_I (q := 1078) (CC := "") (id := 108) (As := [.int (iI (xs (i + 1).toNat).toInt), .int (iI (xs (i + 2).toNat).toInt)]) 2 (c_changeM A htu (iI_rng (xs (i + 1).toNat)) (iI_rng (xs (i + 2).toNat))) (fun _ h => h.1) (by omega) (cell_108 ad C _) rfl wc_X6_change wm_RL_140 wi_X6_change ws_X6_change wn_X6 (by decide) rfl ⟨Nat.le_of_ble_eq_true rfl, Nat.le_of_ble_eq_true rfl⟩ ⟨by show k + 1 ≤ 601024; omega, by show n + 6 ≤ 7293034; omega⟩ (Nat.le_of_ble_eq_true rfl) dL_law_1075 rfl (fun r2 B h8 => ?_)
  refine aw_istore (q := 1080) (lv2 := (7, .int (iI r2)) :: (6, .int (iI kc)) :: lawLv b ad i) [0, 1, 2, 3, 4, 5, 6, 7] dL_law_1078 rfl (by decide) rfl rfl ?_
  exact law_tail (p := 1080) (by omega) (by omega) dL_law_1080 dL_law_1081 dL_law_1084 dL_law_1086 dL_law_1091 dL_law_1093 dL_law_1096 dL_law_1097 dL_law_1098 dL_law_1099 dL_law_1101 dL_law_1102 dL_law_1103 dL_law_1108 (by decide) hkc (f_change hG h2 h8) (fun rB => kk B rB)
