/-! cases of the law -/
set_option maxHeartbeats 4000000 in
set_option maxRecDepth 100000 in
/-- mostPayable -/
theorem case_15 {l : Launch} {D : va_G} {C : Nat → ClassId} {T : Nat → Nat} {ad : Int → Nat} {b L : Nat} {xs : Nat → Int32} {nm : String} (hst : l.stackTraces = false) (hL : L ≤ 3072) : lawStep l D C T ad b L xs nm relR 15 := by
  intro G i k n hG h0 h6 hk hn kk
  show AW _ _ _ _ _ _ _ _ _ _ _ _ _ 1111 _ _ _ _ _
  refine aw_aload_n (q := 1112) 1 dL_law_1111 rfl rfl rfl ?_
  refine aw_aload_n (q := 1113) 0 dL_law_1112 rfl rfl rfl ?_
  refine aw_iload (q := 1115) 5 dL_law_1113 rfl rfl ?_
  refine aw_iconst (q := 1116) dL_law_1115 rfl ?_
  refine ae_iadd (q := 1117) (i + 1) rfl dL_law_1116 rfl ?_
  refine aw_sld (q := 1118) ⟨by omega, by omega⟩ hL (fun s h => h.2) dL_law_1117 rfl ?_
  refine aw_aload_n (q := 1119) 3 dL_law_1118 rfl rfl rfl ?_
  refine aw_callSW (q := 1122) (As := [.ref (ad 102), .int (iI (xs (i + 1).toNat).toInt), .ref (ad 118)]) (st := []) 3 (cL_h_mostPayable (T := T) (D := D) (ad := ad) G (c_mostPayable hst G (relR_M hG) (iI_rng (xs (i + 1).toNat))) (by
    intro E G1 h
    rcases h with ⟨-, rfl, -⟩ <;> simp) (by decide) (by decide) (by decide) (by decide)) (fun _ h => h.1) wcw_L_mostPayable wm_RL_141 wt_L_mostPayable wn_L (by decide) rfl ⟨Nat.le_of_ble_eq_true rfl, Nat.le_of_ble_eq_true rfl⟩ ⟨by show k + 1 ≤ 601024; omega, by show n + 6 ≤ 7293034; omega⟩ (Nat.le_of_ble_eq_true rfl) dL_law_1119 rfl ?_
  rintro v9 w9 ⟨kc, A, rfl, rfl, h9⟩
  refine aw_istore (q := 1124) (lv2 := (6, .int (iI kc)) :: lawLv b ad i) [0, 1, 2, 3, 4, 5, 6] dL_law_1122 rfl (by decide) rfl rfl ?_
  have hkc : 0 ≤ kc ∧ kc ≤ 3 := by
    rcases h9 with ⟨h, -⟩ | ⟨h, -⟩ <;> omega
  have h2 : (kc = 0 ∧ ∃ a G2, ((0 ≤ (xs (i + 1).toNat).toInt ∧ (xs (i + 1).toNat).toInt ≤ 2000) ∧ a = mpF (G 0 5) (G 0 6) (G 0 7) (G 0 8) ((xs (i + 1).toNat).toInt / 5).toNat ∧ sameB (scr 0) G G2) ∧ A = setG G2 21 0 (wI a)) ∨ (kc = 1 ∧ A = G ∧ ¬ (0 ≤ (xs (i + 1).toNat).toInt ∧ (xs (i + 1).toNat).toInt ≤ 2000)) := by
    rcases h9 with h | ⟨hk, hx⟩
    · exact Or.inl h
    · exact Or.inr (⟨hk, hx.1, hx.2.2⟩)
  obtain ⟨oN, oH, oP, oR, oX, h4, o10, htu, h13, h14, h6x⟩ := aOk hG (k_most hG h2)
  refine aw_aload_n (q := 1125) 3 dL_law_1124 rfl rfl rfl ?_
  refine aw_aload_n (q := 1126) 1 dL_law_1125 rfl rfl rfl ?_
  refine aw_iload (q := 1128) 6 dL_law_1126 rfl rfl ?_
  refine aw_iconst (q := 1129) dL_law_1128 rfl ?_
  refine ae_iadd (q := 1130) (i + 1) rfl dL_law_1129 rfl ?_
  refine aw_sld (q := 1131) ⟨by omega, by omega⟩ hL (fun s h => h.2) dL_law_1130 rfl ?_
  refine cv_I (q := 1134) (CC := "") (id := 108) (As := [.int (iI (xs (i + 1).toNat).toInt)]) 1 (c_mostPayableM A htu (iI_rng (xs (i + 1).toNat))) (fun _ h => h.1) (by omega) (cell_108 ad C _) rfl wc_X6_mostPayable wm_RL_143 wi_X6_mostPayable ws_X6_mostPayable wn_X6 (by decide) rfl ⟨Nat.le_of_ble_eq_true rfl, Nat.le_of_ble_eq_true rfl⟩ ⟨by show k + 1 ≤ 601024; omega, by show n + 6 ≤ 7293034; omega⟩ (Nat.le_of_ble_eq_true rfl) dL_law_1131 rfl (fun r2 B h8 => ?_)
  refine aw_istore (q := 1136) (lv2 := (7, .int (iI r2)) :: (6, .int (iI kc)) :: lawLv b ad i) [0, 1, 2, 3, 4, 5, 6, 7] dL_law_1134 rfl (by decide) rfl rfl ?_
  exact law_tail (p := 1136) (by omega) (by omega) dL_law_1136 dL_law_1137 dL_law_1140 dL_law_1142 dL_law_1147 dL_law_1149 dL_law_1152 dL_law_1153 dL_law_1154 dL_law_1155 dL_law_1157 dL_law_1158 dL_law_1159 dL_law_1164 (by decide) hkc (f_most hG h2 h8) (fun rB => kk B rB)
set_option maxHeartbeats 4000000 in
set_option maxRecDepth 100000 in
/-- coinFor -/
theorem case_16 {l : Launch} {D : va_G} {C : Nat → ClassId} {T : Nat → Nat} {ad : Int → Nat} {b L : Nat} {xs : Nat → Int32} {nm : String} (hst : l.stackTraces = false) (hL : L ≤ 3072) : lawStep l D C T ad b L xs nm relR 16 := by
  intro G i k n hG h0 h6 hk hn kk
  show AW _ _ _ _ _ _ _ _ _ _ _ _ _ 1167 _ _ _ _ _
  refine aw_aload_n (q := 1168) 1 dL_law_1167 rfl rfl rfl ?_
  refine aw_aload_n (q := 1169) 0 dL_law_1168 rfl rfl rfl ?_
  refine aw_iload (q := 1171) 5 dL_law_1169 rfl rfl ?_
  refine aw_iconst (q := 1172) dL_law_1171 rfl ?_
  refine ae_iadd (q := 1173) (i + 1) rfl dL_law_1172 rfl ?_
  refine aw_sld (q := 1174) ⟨by omega, by omega⟩ hL (fun s h => h.2) dL_law_1173 rfl ?_
  refine aw_aload_n (q := 1175) 3 dL_law_1174 rfl rfl rfl ?_
  refine aw_callSW (q := 1178) (As := [.ref (ad 102), .int (iI (xs (i + 1).toNat).toInt), .ref (ad 118)]) (st := []) 3 (cL_h_coinFor (T := T) (D := D) (ad := ad) G (c_coinFor hst G (relR_M hG) (iI_rng (xs (i + 1).toNat))) (by
    intro E G1 h
    rcases h with ⟨-, rfl, -⟩ <;> simp) (by decide) (by decide) (by decide) (by decide)) (fun _ h => h.1) wcw_L_coinFor wm_RL_144 wt_L_coinFor wn_L (by decide) rfl ⟨Nat.le_of_ble_eq_true rfl, Nat.le_of_ble_eq_true rfl⟩ ⟨by show k + 1 ≤ 601024; omega, by show n + 6 ≤ 7293034; omega⟩ (Nat.le_of_ble_eq_true rfl) dL_law_1175 rfl ?_
  rintro v9 w9 ⟨kc, A, rfl, rfl, h9⟩
  refine aw_istore (q := 1180) (lv2 := (6, .int (iI kc)) :: lawLv b ad i) [0, 1, 2, 3, 4, 5, 6] dL_law_1178 rfl (by decide) rfl rfl ?_
  have hkc : 0 ≤ kc ∧ kc ≤ 3 := by
    rcases h9 with ⟨h, -⟩ | ⟨h, -⟩ <;> omega
  have h2 : (kc = 0 ∧ ∃ a G2, ((0 ≤ (xs (i + 1).toNat).toInt ∧ (xs (i + 1).toNat).toInt ≤ 2000) ∧ a = cfF (G 0 5) (G 0 6) (G 0 7) (G 0 8) (xs (i + 1).toNat).toInt ∧ sameB (scr 0) G G2) ∧ A = setG G2 21 0 (wI a)) ∨ (kc = 1 ∧ A = G ∧ ¬ (0 ≤ (xs (i + 1).toNat).toInt ∧ (xs (i + 1).toNat).toInt ≤ 2000)) := by
    rcases h9 with h | ⟨hk, hx⟩
    · exact Or.inl h
    · exact Or.inr (⟨hk, hx.1, hx.2.2⟩)
  obtain ⟨oN, oH, oP, oR, oX, h4, o10, htu, h13, h14, h6x⟩ := aOk hG (k_coinFor hG h2)
  refine aw_aload_n (q := 1181) 3 dL_law_1180 rfl rfl rfl ?_
  refine aw_aload_n (q := 1182) 1 dL_law_1181 rfl rfl rfl ?_
  refine aw_iload (q := 1184) 6 dL_law_1182 rfl rfl ?_
  refine aw_iconst (q := 1185) dL_law_1184 rfl ?_
  refine ae_iadd (q := 1186) (i + 1) rfl dL_law_1185 rfl ?_
  refine aw_sld (q := 1187) ⟨by omega, by omega⟩ hL (fun s h => h.2) dL_law_1186 rfl ?_
  refine cv_I (q := 1190) (CC := "") (id := 108) (As := [.int (iI (xs (i + 1).toNat).toInt)]) 1 (c_coinForM A htu (iI_rng (xs (i + 1).toNat))) (fun _ h => h.1) (by omega) (cell_108 ad C _) rfl wc_X6_coinFor wm_RL_146 wi_X6_coinFor ws_X6_coinFor wn_X6 (by decide) rfl ⟨Nat.le_of_ble_eq_true rfl, Nat.le_of_ble_eq_true rfl⟩ ⟨by show k + 1 ≤ 601024; omega, by show n + 6 ≤ 7293034; omega⟩ (Nat.le_of_ble_eq_true rfl) dL_law_1187 rfl (fun r2 B h8 => ?_)
  refine aw_istore (q := 1192) (lv2 := (7, .int (iI r2)) :: (6, .int (iI kc)) :: lawLv b ad i) [0, 1, 2, 3, 4, 5, 6, 7] dL_law_1190 rfl (by decide) rfl rfl ?_
  exact law_tail (p := 1192) (by omega) (by omega) dL_law_1192 dL_law_1193 dL_law_1196 dL_law_1198 dL_law_1203 dL_law_1205 dL_law_1208 dL_law_1209 dL_law_1210 dL_law_1211 dL_law_1213 dL_law_1214 dL_law_1215 dL_law_1220 (by decide) hkc (f_coinFor hG h2 h8) (fun rB => kk B rB)
set_option maxHeartbeats 4000000 in
set_option maxRecDepth 100000 in
/-- priceIn -/
theorem case_17 {l : Launch} {D : va_G} {C : Nat → ClassId} {T : Nat → Nat} {ad : Int → Nat} {b L : Nat} {xs : Nat → Int32} {nm : String} (hst : l.stackTraces = false) (hL : L ≤ 3072) : lawStep l D C T ad b L xs nm relR 17 := by
  intro G i k n hG h0 h6 hk hn kk
  show AW _ _ _ _ _ _ _ _ _ _ _ _ _ 1223 _ _ _ _ _
  refine aw_aload_n (q := 1224) 1 dL_law_1223 rfl rfl rfl ?_
  refine aw_aload_n (q := 1225) 0 dL_law_1224 rfl rfl rfl ?_
  refine aw_iload (q := 1227) 5 dL_law_1225 rfl rfl ?_
  refine aw_iconst (q := 1228) dL_law_1227 rfl ?_
  refine ae_iadd (q := 1229) (i + 1) rfl dL_law_1228 rfl ?_
  refine aw_sld (q := 1230) ⟨by omega, by omega⟩ hL (fun s h => h.2) dL_law_1229 rfl ?_
  refine aw_aload_n (q := 1231) 0 dL_law_1230 rfl rfl rfl ?_
  refine aw_iload (q := 1233) 5 dL_law_1231 rfl rfl ?_
  refine aw_iconst (q := 1234) dL_law_1233 rfl ?_
  refine ae_iadd (q := 1235) (i + 2) rfl dL_law_1234 rfl ?_
  refine aw_sld (q := 1236) ⟨by omega, by omega⟩ hL (fun s h => h.2) dL_law_1235 rfl ?_
  refine aw_aload_n (q := 1237) 3 dL_law_1236 rfl rfl rfl ?_
  refine aw_callSW (q := 1240) (As := [.ref (ad 102), .int (iI (xs (i + 1).toNat).toInt), .int (iI (xs (i + 2).toNat).toInt), .ref (ad 118)]) (st := []) 4 (cL_h_priceIn (T := T) (D := D) (ad := ad) G (c_priceIn hst G (relR_M hG) (iI_rng (xs (i + 1).toNat)) (iI_rng (xs (i + 2).toNat))) (by
    intro E G1 h
    rcases h with ⟨-, ⟨rfl, -⟩ | ⟨rfl, -⟩⟩ <;> simp) (by decide) (by decide) (by decide) (by decide)) (fun _ h => h.1) wcw_L_priceIn wm_RL_147 wt_L_priceIn wn_L (by decide) rfl ⟨Nat.le_of_ble_eq_true rfl, Nat.le_of_ble_eq_true rfl⟩ ⟨by show k + 1 ≤ 601024; omega, by show n + 6 ≤ 7293034; omega⟩ (Nat.le_of_ble_eq_true rfl) dL_law_1237 rfl ?_
  rintro v9 w9 ⟨kc, A, rfl, rfl, h9⟩
  refine aw_istore (q := 1242) (lv2 := (6, .int (iI kc)) :: lawLv b ad i) [0, 1, 2, 3, 4, 5, 6] dL_law_1240 rfl (by decide) rfl rfl ?_
  have hkc : 0 ≤ kc ∧ kc ≤ 3 := by
    rcases h9 with ⟨h, -⟩ | ⟨h, -⟩ | ⟨h, -⟩ <;> omega
  have h2 : (kc = 0 ∧ ∃ a G2, (((0 ≤ (xs (i + 1).toNat).toInt ∧ (xs (i + 1).toNat).toInt < G 0 13) ∧ (0 ≤ (xs (i + 2).toNat).toInt ∧ (xs (i + 2).toNat).toInt ≤ 48)) ∧ ∃ K, overP G 1 0 K ∧ a = hoursR (K 1) (xs (i + 2).toNat).toInt.toNat (15 + 12 * (xs (i + 1).toNat).toInt + 2) ∧ G2 = onR K 1 (hoursR (K 1) (xs (i + 2).toNat).toInt.toNat)) ∧ A = setG G2 21 0 (wI a)) ∨ (kc = 1 ∧ A = G ∧ ¬ (0 ≤ (xs (i + 1).toNat).toInt ∧ (xs (i + 1).toNat).toInt < G 0 13)) ∨ (kc = 2 ∧ A = G ∧ (0 ≤ (xs (i + 1).toNat).toInt ∧ (xs (i + 1).toNat).toInt < G 0 13) ∧ ¬ (0 ≤ (xs (i + 2).toNat).toInt ∧ (xs (i + 2).toNat).toInt ≤ 48)) := by
    rcases h9 with h | ⟨hk, hx⟩ | ⟨hk, hx⟩
    · exact Or.inl h
    · obtain ⟨hA, hx⟩ := hx
      rcases hx with ⟨q, z⟩ | ⟨q, z⟩ <;> first | exact Or.inr (Or.inl (⟨hk, hA, z⟩)) | exact absurd q (by decide)
    · obtain ⟨hA, hx⟩ := hx
      rcases hx with ⟨q, z⟩ | ⟨q, z⟩ <;> first | exact Or.inr (Or.inr (⟨hk, hA, z⟩)) | exact absurd q (by decide)
  obtain ⟨oN, oH, oP, oR, oX, h4, o10, htu, h13, h14, h6x⟩ := aOk hG (k_priceIn hG h2)
  refine aw_aload_n (q := 1243) 3 dL_law_1242 rfl rfl rfl ?_
  refine aw_aload_n (q := 1244) 1 dL_law_1243 rfl rfl rfl ?_
  refine aw_iload (q := 1246) 6 dL_law_1244 rfl rfl ?_
  refine aw_iconst (q := 1247) dL_law_1246 rfl ?_
  refine ae_iadd (q := 1248) (i + 1) rfl dL_law_1247 rfl ?_
  refine aw_sld (q := 1249) ⟨by omega, by omega⟩ hL (fun s h => h.2) dL_law_1248 rfl ?_
  refine aw_aload_n (q := 1250) 1 dL_law_1249 rfl rfl rfl ?_
  refine aw_iload (q := 1252) 6 dL_law_1250 rfl rfl ?_
  refine aw_iconst (q := 1253) dL_law_1252 rfl ?_
  refine ae_iadd (q := 1254) (i + 2) rfl dL_law_1253 rfl ?_
  refine aw_sld (q := 1255) ⟨by omega, by omega⟩ hL (fun s h => h.2) dL_law_1254 rfl ?_
  refine cv_I (q := 1258) (CC := "") (id := 108) (As := [.int (iI (xs (i + 1).toNat).toInt), .int (iI (xs (i + 2).toNat).toInt)]) 2 (c_priceInM A oH (iI_rng (xs (i + 1).toNat)) (iI_rng (xs (i + 2).toNat))) (fun _ h => h.1) (by omega) (cell_108 ad C _) rfl wc_X6_priceIn wm_RL_149 wi_X6_priceIn ws_X6_priceIn wn_X6 (by decide) rfl ⟨Nat.le_of_ble_eq_true rfl, Nat.le_of_ble_eq_true rfl⟩ ⟨by show k + 1 ≤ 601024; omega, by show n + 6 ≤ 7293034; omega⟩ (Nat.le_of_ble_eq_true rfl) dL_law_1255 rfl (fun r2 B h8 => ?_)
  refine aw_istore (q := 1260) (lv2 := (7, .int (iI r2)) :: (6, .int (iI kc)) :: lawLv b ad i) [0, 1, 2, 3, 4, 5, 6, 7] dL_law_1258 rfl (by decide) rfl rfl ?_
  exact law_tail (p := 1260) (by omega) (by omega) dL_law_1260 dL_law_1261 dL_law_1264 dL_law_1266 dL_law_1271 dL_law_1273 dL_law_1276 dL_law_1277 dL_law_1278 dL_law_1279 dL_law_1281 dL_law_1282 dL_law_1283 dL_law_1288 (by decide) hkc (f_priceIn hG h2 h8) (fun rB => kk B rB)
set_option maxHeartbeats 4000000 in
set_option maxRecDepth 100000 in
/-- salesInARow -/
theorem case_18 {l : Launch} {D : va_G} {C : Nat → ClassId} {T : Nat → Nat} {ad : Int → Nat} {b L : Nat} {xs : Nat → Int32} {nm : String} (hst : l.stackTraces = false) (hL : L ≤ 3072) : lawStep l D C T ad b L xs nm relR 18 := by
  intro G i k n hG h0 h6 hk hn kk
  show AW _ _ _ _ _ _ _ _ _ _ _ _ _ 1291 _ _ _ _ _
  refine aw_aload_n (q := 1292) 1 dL_law_1291 rfl rfl rfl ?_
  refine aw_aload_n (q := 1293) 0 dL_law_1292 rfl rfl rfl ?_
  refine aw_iload (q := 1295) 5 dL_law_1293 rfl rfl ?_
  refine aw_iconst (q := 1296) dL_law_1295 rfl ?_
  refine ae_iadd (q := 1297) (i + 1) rfl dL_law_1296 rfl ?_
  refine aw_sld (q := 1298) ⟨by omega, by omega⟩ hL (fun s h => h.2) dL_law_1297 rfl ?_
  refine aw_aload_n (q := 1299) 0 dL_law_1298 rfl rfl rfl ?_
  refine aw_iload (q := 1301) 5 dL_law_1299 rfl rfl ?_
  refine aw_iconst (q := 1302) dL_law_1301 rfl ?_
  refine ae_iadd (q := 1303) (i + 2) rfl dL_law_1302 rfl ?_
  refine aw_sld (q := 1304) ⟨by omega, by omega⟩ hL (fun s h => h.2) dL_law_1303 rfl ?_
  refine aw_aload_n (q := 1305) 0 dL_law_1304 rfl rfl rfl ?_
  refine aw_iload (q := 1307) 5 dL_law_1305 rfl rfl ?_
  refine aw_iconst (q := 1308) dL_law_1307 rfl ?_
  refine ae_iadd (q := 1309) (i + 3) rfl dL_law_1308 rfl ?_
  refine aw_sld (q := 1310) ⟨by omega, by omega⟩ hL (fun s h => h.2) dL_law_1309 rfl ?_
  refine aw_aload_n (q := 1311) 3 dL_law_1310 rfl rfl rfl ?_
  refine aw_callSW (q := 1314) (As := [.ref (ad 102), .int (iI (xs (i + 1).toNat).toInt), .int (iI (xs (i + 2).toNat).toInt), .int (iI (xs (i + 3).toNat).toInt), .ref (ad 118)]) (st := []) 5 (cL_h_salesInARow (T := T) (D := D) (ad := ad) G (c_salesInARow hst G (relR_M hG) hG.1 (iI_rng (xs (i + 1).toNat)) (iI_rng (xs (i + 2).toNat)) (iI_rng (xs (i + 3).toNat))) (by
    intro E G1 h
    rcases h with ⟨rfl, -⟩ | ⟨rfl, -⟩ <;> simp) (by decide) (by decide) (by decide) (by decide)) (fun _ h => h.1) wcw_L_salesInARow wm_RL_150 wt_L_salesInARow wn_L (by decide) rfl ⟨Nat.le_of_ble_eq_true rfl, Nat.le_of_ble_eq_true rfl⟩ ⟨by show k + 1 ≤ 601024; omega, by show n + 6 ≤ 7293034; omega⟩ (Nat.le_of_ble_eq_true rfl) dL_law_1311 rfl ?_
  rintro v9 w9 ⟨kc, A, rfl, rfl, h9⟩
  refine aw_istore (q := 1316) (lv2 := (6, .int (iI kc)) :: lawLv b ad i) [0, 1, 2, 3, 4, 5, 6] dL_law_1314 rfl (by decide) rfl rfl ?_
  have hkc : 0 ≤ kc ∧ kc ≤ 3 := by
    rcases h9 with ⟨h, -⟩ | ⟨h, -⟩ | ⟨h, -⟩ <;> omega
  have h2 : (kc = 0 ∧ ∃ a G2, (((0 ≤ (xs (i + 1).toNat).toInt ∧ (xs (i + 1).toNat).toInt < G 0 13) ∧ ((0 ≤ (xs (i + 2).toNat).toInt ∧ (xs (i + 2).toNat).toInt ≤ 9) ∧ (0 ≤ (xs (i + 3).toNat).toInt ∧ (xs (i + 3).toNat).toInt ≤ 9))) ∧ ∃ K2, overP (cinG G 0 (xs (i + 2).toNat).toInt 0 (xs (i + 3).toNat).toInt) 1 0 K2 ∧ salesP 1 (xs (i + 1).toNat).toInt 20 K2 a G2) ∧ A = setG G2 21 0 (wI a)) ∨ (kc = 1 ∧ A = G ∧ ¬ (0 ≤ (xs (i + 1).toNat).toInt ∧ (xs (i + 1).toNat).toInt < G 0 13)) ∨ (kc = 2 ∧ A = cinG G 0 (xs (i + 2).toNat).toInt 0 (xs (i + 3).toNat).toInt ∧ (0 ≤ (xs (i + 1).toNat).toInt ∧ (xs (i + 1).toNat).toInt < G 0 13) ∧ ¬ ((0 ≤ (xs (i + 2).toNat).toInt ∧ (xs (i + 2).toNat).toInt ≤ 9) ∧ (0 ≤ (xs (i + 3).toNat).toInt ∧ (xs (i + 3).toNat).toInt ≤ 9))) := by
    rcases h9 with h | ⟨hk, hx⟩ | ⟨hk, hx⟩
    · exact Or.inl h
    · rcases hx with ⟨q, z⟩ | ⟨q, z⟩ <;> first | exact Or.inr (Or.inl (⟨hk, z⟩)) | exact absurd q (by decide)
    · rcases hx with ⟨q, z⟩ | ⟨q, z⟩ <;> first | exact Or.inr (Or.inr (⟨hk, z⟩)) | exact absurd q (by decide)
  obtain ⟨oN, oH, oP, oR, oX, h4, o10, htu, h13, h14, h6x⟩ := aOk hG (k_sales hG h2)
  refine aw_aload_n (q := 1317) 3 dL_law_1316 rfl rfl rfl ?_
  refine aw_aload_n (q := 1318) 1 dL_law_1317 rfl rfl rfl ?_
  refine aw_iload (q := 1320) 6 dL_law_1318 rfl rfl ?_
  refine aw_iconst (q := 1321) dL_law_1320 rfl ?_
  refine ae_iadd (q := 1322) (i + 1) rfl dL_law_1321 rfl ?_
  refine aw_sld (q := 1323) ⟨by omega, by omega⟩ hL (fun s h => h.2) dL_law_1322 rfl ?_
  refine aw_aload_n (q := 1324) 1 dL_law_1323 rfl rfl rfl ?_
  refine aw_iload (q := 1326) 6 dL_law_1324 rfl rfl ?_
  refine aw_iconst (q := 1327) dL_law_1326 rfl ?_
  refine ae_iadd (q := 1328) (i + 2) rfl dL_law_1327 rfl ?_
  refine aw_sld (q := 1329) ⟨by omega, by omega⟩ hL (fun s h => h.2) dL_law_1328 rfl ?_
  refine aw_aload_n (q := 1330) 1 dL_law_1329 rfl rfl rfl ?_
  refine aw_iload (q := 1332) 6 dL_law_1330 rfl rfl ?_
  refine aw_iconst (q := 1333) dL_law_1332 rfl ?_
  refine ae_iadd (q := 1334) (i + 3) rfl dL_law_1333 rfl ?_
  refine aw_sld (q := 1335) ⟨by omega, by omega⟩ hL (fun s h => h.2) dL_law_1334 rfl ?_
  refine cv_I (q := 1338) (CC := "") (id := 108) (As := [.int (iI (xs (i + 1).toNat).toInt), .int (iI (xs (i + 2).toNat).toInt), .int (iI (xs (i + 3).toNat).toInt)]) 3 (c_salesM A oN (iI_rng (xs (i + 1).toNat)) (iI_rng (xs (i + 2).toNat)) (iI_rng (xs (i + 3).toNat))) (fun _ h => h.1) (by omega) (cell_108 ad C _) rfl wc_X6_salesInARow wm_RL_152 wi_X6_salesInARow ws_X6_salesInARow wn_X6 (by decide) rfl ⟨Nat.le_of_ble_eq_true rfl, Nat.le_of_ble_eq_true rfl⟩ ⟨by show k + 1 ≤ 601024; omega, by show n + 6 ≤ 7293034; omega⟩ (Nat.le_of_ble_eq_true rfl) dL_law_1335 rfl (fun r2 B h8 => ?_)
  refine aw_istore (q := 1340) (lv2 := (7, .int (iI r2)) :: (6, .int (iI kc)) :: lawLv b ad i) [0, 1, 2, 3, 4, 5, 6, 7] dL_law_1338 rfl (by decide) rfl rfl ?_
  exact law_tail (p := 1340) (by omega) (by omega) dL_law_1340 dL_law_1341 dL_law_1344 dL_law_1346 dL_law_1351 dL_law_1353 dL_law_1356 dL_law_1357 dL_law_1358 dL_law_1359 dL_law_1361 dL_law_1362 dL_law_1363 dL_law_1368 (by decide) hkc (f_sales hG h2 h8) (fun rB => kk B rB)
set_option maxHeartbeats 4000000 in
set_option maxRecDepth 100000 in
/-- append -/
theorem case_20 {l : Launch} {D : va_G} {C : Nat → ClassId} {T : Nat → Nat} {ad : Int → Nat} {b L : Nat} {xs : Nat → Int32} {nm : String} (hst : l.stackTraces = false) (hL : L ≤ 3072) : lawStep l D C T ad b L xs nm relR 20 := by
  intro G i k n hG h0 h6 hk hn kk
  show AW _ _ _ _ _ _ _ _ _ _ _ _ _ 1384 _ _ _ _ _
  refine aw_aload_n (q := 1385) 1 dL_law_1384 rfl rfl rfl ?_
  refine aw_aload_n (q := 1386) 0 dL_law_1385 rfl rfl rfl ?_
  refine aw_iload (q := 1388) 5 dL_law_1386 rfl rfl ?_
  refine aw_iconst (q := 1389) dL_law_1388 rfl ?_
  refine ae_iadd (q := 1390) (i + 1) rfl dL_law_1389 rfl ?_
  refine aw_sld (q := 1391) ⟨by omega, by omega⟩ hL (fun s h => h.2) dL_law_1390 rfl ?_
  refine aw_aload_n (q := 1392) 3 dL_law_1391 rfl rfl rfl ?_
  refine aw_callSW (q := 1395) (As := [.ref (ad 102), .int (iI (xs (i + 1).toNat).toInt), .ref (ad 118)]) (st := []) 3 (cL_h_append (T := T) (D := D) (ad := ad) G (c_append hst G (relR_M hG) hG.2.2.2.1 (iI_rng (xs (i + 1).toNat))) (by
    intro E G1 h
    rcases h with ⟨-, ⟨rfl, -⟩ | ⟨rfl, -⟩⟩ <;> simp) (by decide) (by decide) (by decide) (by decide)) (fun _ h => h.1) wcw_L_append wm_RL_157 wt_L_append wn_L (by decide) rfl ⟨Nat.le_of_ble_eq_true rfl, Nat.le_of_ble_eq_true rfl⟩ ⟨by show k + 1 ≤ 601024; omega, by show n + 6 ≤ 7293034; omega⟩ (Nat.le_of_ble_eq_true rfl) dL_law_1392 rfl ?_
  rintro v9 w9 ⟨kc, A, rfl, rfl, h9⟩
  refine aw_istore (q := 1397) (lv2 := (6, .int (iI kc)) :: lawLv b ad i) [0, 1, 2, 3, 4, 5, 6] dL_law_1395 rfl (by decide) rfl rfl ?_
  have hkc : 0 ≤ kc ∧ kc ≤ 3 := by
    rcases h9 with ⟨h, -⟩ | ⟨h, -⟩ | ⟨h, -⟩ <;> omega
  have h2 : (kc = 0 ∧ ∃ a G2, (((0 ≤ (xs (i + 1).toNat).toInt ∧ (xs (i + 1).toNat).toInt ≤ 127) ∧ (G 7 1 < 100)) ∧ a = G 7 1 + 1 ∧ G2 = setG (setG G 8 (G 7 1) (xs (i + 1).toNat).toInt) 7 1 (G 7 1 + 1)) ∧ A = setG G2 21 0 (wI a)) ∨ (kc = 1 ∧ A = G ∧ ¬ (0 ≤ (xs (i + 1).toNat).toInt ∧ (xs (i + 1).toNat).toInt ≤ 127)) ∨ (kc = 2 ∧ A = G ∧ (0 ≤ (xs (i + 1).toNat).toInt ∧ (xs (i + 1).toNat).toInt ≤ 127) ∧ ¬ (G 7 1 < 100)) := by
    rcases h9 with h | ⟨hk, hx⟩ | ⟨hk, hx⟩
    · exact Or.inl h
    · obtain ⟨hA, hx⟩ := hx
      rcases hx with ⟨q, z⟩ | ⟨q, z⟩ <;> first | exact Or.inr (Or.inl (⟨hk, hA, z⟩)) | exact absurd q (by decide)
    · obtain ⟨hA, hx⟩ := hx
      rcases hx with ⟨q, z⟩ | ⟨q, z⟩ <;> first | exact Or.inr (Or.inr (⟨hk, hA, z⟩)) | exact absurd q (by decide)
  obtain ⟨oN, oH, oP, oR, oX, h4, o10, htu, h13, h14, h6x⟩ := aOk hG (k_append hG h2)
  refine aw_aload_n (q := 1398) 3 dL_law_1397 rfl rfl rfl ?_
  refine aw_aload_n (q := 1399) 1 dL_law_1398 rfl rfl rfl ?_
  refine aw_iload (q := 1401) 6 dL_law_1399 rfl rfl ?_
  refine aw_iconst (q := 1402) dL_law_1401 rfl ?_
  refine ae_iadd (q := 1403) (i + 1) rfl dL_law_1402 rfl ?_
  refine aw_sld (q := 1404) ⟨by omega, by omega⟩ hL (fun s h => h.2) dL_law_1403 rfl ?_
  refine cv_I (q := 1407) (CC := "") (id := 108) (As := [.int (iI (xs (i + 1).toNat).toInt)]) 1 (c_appendM A h6x (iI_rng (xs (i + 1).toNat))) (fun _ h => h.1) (by omega) (cell_108 ad C _) rfl wc_X6_append wm_RL_159 wi_X6_append ws_X6_append wn_X6 (by decide) rfl ⟨Nat.le_of_ble_eq_true rfl, Nat.le_of_ble_eq_true rfl⟩ ⟨by show k + 1 ≤ 601024; omega, by show n + 6 ≤ 7293034; omega⟩ (Nat.le_of_ble_eq_true rfl) dL_law_1404 rfl (fun r2 B h8 => ?_)
  refine aw_istore (q := 1409) (lv2 := (7, .int (iI r2)) :: (6, .int (iI kc)) :: lawLv b ad i) [0, 1, 2, 3, 4, 5, 6, 7] dL_law_1407 rfl (by decide) rfl rfl ?_
  exact law_tail (p := 1409) (by omega) (by omega) dL_law_1409 dL_law_1410 dL_law_1413 dL_law_1415 dL_law_1420 dL_law_1422 dL_law_1425 dL_law_1426 dL_law_1427 dL_law_1428 dL_law_1430 dL_law_1431 dL_law_1432 dL_law_1437 (by decide) hkc (f_append hG h2 h8) (fun rB => kk B rB)
set_option maxHeartbeats 4000000 in
set_option maxRecDepth 100000 in
/-- undo -/
theorem case_23 {l : Launch} {D : va_G} {C : Nat → ClassId} {T : Nat → Nat} {ad : Int → Nat} {b L : Nat} {xs : Nat → Int32} {nm : String} (hst : l.stackTraces = false) (hL : L ≤ 3072) : lawStep l D C T ad b L xs nm relR 23 := by
  intro G i k n hG h0 h6 hk hn kk
  show AW _ _ _ _ _ _ _ _ _ _ _ _ _ 1466 _ _ _ _ _
  refine aw_aload_n (q := 1467) 1 dL_law_1466 rfl rfl rfl ?_
  refine aw_aload_n (q := 1468) 3 dL_law_1467 rfl rfl rfl ?_
  refine aw_callSW (q := 1471) (As := [.ref (ad 102), .ref (ad 118)]) (st := []) 2 (cL_h_undo (T := T) (D := D) (ad := ad) G (zz := 0) (c_undo hst G (relR_M hG) (relR_s hG)) (by
    intro E G1 h
    rcases h with ⟨-, rfl, -⟩ <;> simp) (by decide) (by decide) (by decide) (by decide)) (fun _ h => h.1) wcw_L_undo wm_RL_168 wt_L_undo wn_L (by decide) rfl ⟨Nat.le_of_ble_eq_true rfl, Nat.le_of_ble_eq_true rfl⟩ ⟨by show k + 1 ≤ 601024; omega, by show n + 6 ≤ 7293034; omega⟩ (Nat.le_of_ble_eq_true rfl) dL_law_1468 rfl ?_
  rintro v9 w9 ⟨kc, A, rfl, rfl, h9⟩
  refine aw_istore (q := 1473) (lv2 := (6, .int (iI kc)) :: lawLv b ad i) [0, 1, 2, 3, 4, 5, 6] dL_law_1471 rfl (by decide) rfl rfl ?_
  have hkc : 0 ≤ kc ∧ kc ≤ 3 := by
    rcases h9 with ⟨h, -⟩ | ⟨h, -⟩ <;> omega
  have h2 : (kc = 0 ∧ ∃ a G2, ((1 ≤ G 6 0) ∧ a = G 6 0 - 1 ∧ overP (setG G 6 0 (G 6 0 - 1)) 0 (G 6 (G 6 0 + 9)) G2) ∧ A = setG G2 21 0 (wI a)) ∨ (kc = 1 ∧ A = G ∧ ¬ (1 ≤ G 6 0)) := by
    rcases h9 with h | ⟨hk, hx⟩
    · exact Or.inl h
    · exact Or.inr (⟨hk, hx.1, hx.2.2⟩)
  obtain ⟨oN, oH, oP, oR, oX, h4, o10, htu, h13, h14, h6x⟩ := aOk hG (k_undo hG h2)
  refine aw_aload_n (q := 1474) 3 dL_law_1473 rfl rfl rfl ?_
  refine cv_I (q := 1477) (CC := "") (id := 108) (As := []) 0 (c_undoM A h4) (fun _ h => h.1) (by omega) (cell_108 ad C _) rfl wc_X6_undo wm_RL_171 wi_X6_undo ws_X6_undo wn_X6 (by decide) rfl ⟨Nat.le_of_ble_eq_true rfl, Nat.le_of_ble_eq_true rfl⟩ ⟨by show k + 1 ≤ 601024; omega, by show n + 6 ≤ 7293034; omega⟩ (Nat.le_of_ble_eq_true rfl) dL_law_1474 rfl (fun r2 B h8 => ?_)
  refine aw_istore (q := 1479) (lv2 := (7, .int (iI r2)) :: (6, .int (iI kc)) :: lawLv b ad i) [0, 1, 2, 3, 4, 5, 6, 7] dL_law_1477 rfl (by decide) rfl rfl ?_
  exact law_tail (p := 1479) (by omega) (by omega) dL_law_1479 dL_law_1480 dL_law_1483 dL_law_1485 dL_law_1490 dL_law_1492 dL_law_1495 dL_law_1496 dL_law_1497 dL_law_1498 dL_law_1500 dL_law_1501 dL_law_1502 dL_law_1507 (by decide) hkc (f_undo hG h2 h8) (fun rB => kk B rB)
