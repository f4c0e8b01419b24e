/-! cases of the law -/
set_option maxHeartbeats 4000000 in
set_option maxRecDepth 100000 in
/-- set -/
theorem case_0 {l : Launch} {D : va_G} {C : Nat → ClassId} {T : Nat → Nat} {ad : Int → Nat} {b L : Nat} {xs : Nat → Int32} {nm : String} (hst : l.stackTraces = false) (hL : L ≤ 3072) : lawStep l D C T ad b L xs nm relR 0 := by
  intro G i k n hG h0 h6 hk hn kk
  show AW _ _ _ _ _ _ _ _ _ _ _ _ _ 160 _ _ _ _ _
  refine aw_aload_n (q := 161) 1 dL_law_160 rfl rfl rfl ?_
  refine aw_aload_n (q := 162) 0 dL_law_161 rfl rfl rfl ?_
  refine aw_iload (q := 164) 5 dL_law_162 rfl rfl ?_
  refine aw_iconst (q := 165) dL_law_164 rfl ?_
  refine ae_iadd (q := 166) (i + 1) rfl dL_law_165 rfl ?_
  refine aw_sld (q := 167) ⟨by omega, by omega⟩ hL (fun s h => h.2) dL_law_166 rfl ?_
  refine aw_aload_n (q := 168) 0 dL_law_167 rfl rfl rfl ?_
  refine aw_iload (q := 170) 5 dL_law_168 rfl rfl ?_
  refine aw_iconst (q := 171) dL_law_170 rfl ?_
  refine ae_iadd (q := 172) (i + 2) rfl dL_law_171 rfl ?_
  refine aw_sld (q := 173) ⟨by omega, by omega⟩ hL (fun s h => h.2) dL_law_172 rfl ?_
  refine aw_aload_n (q := 174) 3 dL_law_173 rfl rfl rfl ?_
  refine aw_callSW (q := 177) (As := [.ref (ad 102), .int (iI (xs (i + 1).toNat).toInt), .int (iI (xs (i + 2).toNat).toInt), .ref (ad 118)]) (st := []) 4 (cL_h_set (T := T) (D := D) (ad := ad) G (c_setU hst G (relR_M hG) (iI_rng (xs (i + 1).toNat)) (iI_rng (xs (i + 2).toNat))) (by
    intro E G1 h
    rcases h with ⟨-, rfl, -⟩ <;> simp) (by decide) (by decide) (by decide) (by decide)) (fun _ h => h.1) wcw_L_set wm_RL_85 wt_L_set wn_L (by decide) rfl ⟨Nat.le_of_ble_eq_true rfl, Nat.le_of_ble_eq_true rfl⟩ ⟨by show k + 1 ≤ 601024; omega, by show n + 6 ≤ 7293034; omega⟩ (Nat.le_of_ble_eq_true rfl) dL_law_174 rfl ?_
  rintro v9 w9 ⟨kc, A, rfl, rfl, h9⟩
  refine aw_istore (q := 179) (lv2 := (6, .int (iI kc)) :: lawLv b ad i) [0, 1, 2, 3, 4, 5, 6] dL_law_177 rfl (by decide) rfl rfl ?_
  have hkc : 0 ≤ kc ∧ kc ≤ 3 := by
    rcases h9 with ⟨h, -⟩ | ⟨h, -⟩ <;> omega
  have h2 : (kc = 0 ∧ ∃ a G2, ((stpP (xs (i + 1).toNat).toInt (xs (i + 2).toNat).toInt) ∧ ∃ H, saveP G H ∧ a = G 0 (xs (i + 1).toNat).toInt ∧ G2 = setG H 0 (xs (i + 1).toNat).toInt (xs (i + 2).toNat).toInt) ∧ A = setG G2 21 0 (wI a)) ∨ (kc = 1 ∧ A = G ∧ ¬ (stpP (xs (i + 1).toNat).toInt (xs (i + 2).toNat).toInt)) := by
    rcases h9 with h | ⟨hk, hx⟩
    · exact Or.inl h
    · exact Or.inr (⟨hk, hx.1, hx.2.2⟩)
  obtain ⟨oN, oH, oP, oR, oX, h4, o10, htu, h13, h14, h6x⟩ := aOk hG (k_set hG h2)
  refine aw_aload_n (q := 180) 3 dL_law_179 rfl rfl rfl ?_
  refine aw_aload_n (q := 181) 1 dL_law_180 rfl rfl rfl ?_
  refine aw_iload (q := 183) 6 dL_law_181 rfl rfl ?_
  refine aw_iconst (q := 184) dL_law_183 rfl ?_
  refine ae_iadd (q := 185) (i + 1) rfl dL_law_184 rfl ?_
  refine aw_sld (q := 186) ⟨by omega, by omega⟩ hL (fun s h => h.2) dL_law_185 rfl ?_
  refine aw_aload_n (q := 187) 1 dL_law_186 rfl rfl rfl ?_
  refine aw_iload (q := 189) 6 dL_law_187 rfl rfl ?_
  refine aw_iconst (q := 190) dL_law_189 rfl ?_
  refine ae_iadd (q := 191) (i + 2) rfl dL_law_190 rfl ?_
  refine aw_sld (q := 192) ⟨by omega, by omega⟩ hL (fun s h => h.2) dL_law_191 rfl ?_
  refine cv_I (q := 195) (CC := "") (id := 108) (As := [.int (iI (xs (i + 1).toNat).toInt), .int (iI (xs (i + 2).toNat).toInt)]) 2 (c_setMU A h4 (iI_rng (xs (i + 1).toNat)) (iI_rng (xs (i + 2).toNat))) (fun _ h => h.1) (by omega) (cell_108 ad C _) rfl wc_X6_set wm_RL_90 wi_X6_set ws_X6_set wn_X6 (by decide) rfl ⟨Nat.le_of_ble_eq_true rfl, Nat.le_of_ble_eq_true rfl⟩ ⟨by show k + 1 ≤ 601024; omega, by show n + 6 ≤ 7293034; omega⟩ (Nat.le_of_ble_eq_true rfl) dL_law_192 rfl (fun r2 B h8 => ?_)
  refine aw_istore (q := 197) (lv2 := (7, .int (iI r2)) :: (6, .int (iI kc)) :: lawLv b ad i) [0, 1, 2, 3, 4, 5, 6, 7] dL_law_195 rfl (by decide) rfl rfl ?_
  exact law_tail (p := 197) (by omega) (by omega) dL_law_197 dL_law_198 dL_law_201 dL_law_203 dL_law_208 dL_law_210 dL_law_213 dL_law_214 dL_law_215 dL_law_216 dL_law_218 dL_law_219 dL_law_220 dL_law_225 (by decide) hkc (f_set stpP_ok hG h2 h8) (fun rB => kk B rB)
set_option maxHeartbeats 4000000 in
set_option maxRecDepth 100000 in
/-- addCoil -/
theorem case_1 {l : Launch} {D : va_G} {C : Nat → ClassId} {T : Nat → Nat} {ad : Int → Nat} {b L : Nat} {xs : Nat → Int32} {nm : String} (hst : l.stackTraces = false) (hL : L ≤ 3072) : lawStep l D C T ad b L xs nm relR 1 := by
  intro G i k n hG h0 h6 hk hn kk
  show AW _ _ _ _ _ _ _ _ _ _ _ _ _ 228 _ _ _ _ _
  refine aw_aload_n (q := 229) 1 dL_law_228 rfl rfl rfl ?_
  refine aw_aload_n (q := 230) 0 dL_law_229 rfl rfl rfl ?_
  refine aw_iload (q := 232) 5 dL_law_230 rfl rfl ?_
  refine aw_iconst (q := 233) dL_law_232 rfl ?_
  refine ae_iadd (q := 234) (i + 1) rfl dL_law_233 rfl ?_
  refine aw_sld (q := 235) ⟨by omega, by omega⟩ hL (fun s h => h.2) dL_law_234 rfl ?_
  refine aw_aload_n (q := 236) 0 dL_law_235 rfl rfl rfl ?_
  refine aw_iload (q := 238) 5 dL_law_236 rfl rfl ?_
  refine aw_iconst (q := 239) dL_law_238 rfl ?_
  refine ae_iadd (q := 240) (i + 2) rfl dL_law_239 rfl ?_
  refine aw_sld (q := 241) ⟨by omega, by omega⟩ hL (fun s h => h.2) dL_law_240 rfl ?_
  refine aw_aload_n (q := 242) 0 dL_law_241 rfl rfl rfl ?_
  refine aw_iload (q := 244) 5 dL_law_242 rfl rfl ?_
  refine aw_iconst (q := 245) dL_law_244 rfl ?_
  refine ae_iadd (q := 246) (i + 3) rfl dL_law_245 rfl ?_
  refine aw_sld (q := 247) ⟨by omega, by omega⟩ hL (fun s h => h.2) dL_law_246 rfl ?_
  refine aw_aload_n (q := 248) 3 dL_law_247 rfl rfl rfl ?_
  refine aw_callSW (q := 251) (As := [.ref (ad 102), .int (iI (xs (i + 1).toNat).toInt), .int (iI (xs (i + 2).toNat).toInt), .int (iI (xs (i + 3).toNat).toInt), .ref (ad 118)]) (st := []) 5 (cL_h_addCoil (T := T) (D := D) (ad := ad) G (c_addCoil hst G (relR_M hG) (iI_rng (xs (i + 1).toNat)) (iI_rng (xs (i + 2).toNat)) (iI_rng (xs (i + 3).toNat))) (by
    intro E G1 h
    rcases h with ⟨-, ⟨rfl, -⟩ | ⟨rfl, -⟩⟩ <;> simp) (by decide) (by decide) (by decide) (by decide)) (fun _ h => h.1) wcw_L_addCoil wm_RL_94 wt_L_addCoil wn_L (by decide) rfl ⟨Nat.le_of_ble_eq_true rfl, Nat.le_of_ble_eq_true rfl⟩ ⟨by show k + 1 ≤ 601024; omega, by show n + 6 ≤ 7293034; omega⟩ (Nat.le_of_ble_eq_true rfl) dL_law_248 rfl ?_
  rintro v9 w9 ⟨kc, A, rfl, rfl, h9⟩
  refine aw_istore (q := 253) (lv2 := (6, .int (iI kc)) :: lawLv b ad i) [0, 1, 2, 3, 4, 5, 6] dL_law_251 rfl (by decide) rfl rfl ?_
  have hkc : 0 ≤ kc ∧ kc ≤ 3 := by
    rcases h9 with ⟨h, -⟩ | ⟨h, -⟩ | ⟨h, -⟩ <;> omega
  have h2 : (kc = 0 ∧ ∃ a G2, (((0 ≤ (xs (i + 1).toNat).toInt ∧ (xs (i + 1).toNat).toInt ≤ 5) ∧ (5 ≤ (xs (i + 2).toNat).toInt ∧ (xs (i + 2).toNat).toInt ≤ 500 ∧ (xs (i + 2).toNat).toInt % 5 = 0) ∧ ((xs (i + 2).toNat).toInt ≤ (xs (i + 3).toNat).toInt ∧ (xs (i + 3).toNat).toInt ≤ 500 ∧ (xs (i + 3).toNat).toInt % 5 = 0) ∧ (G 0 13 < 8)) ∧ ∃ H, saveP G H ∧ a = G 0 13 ∧ G2 = setG (coilBegin H 0 (G 0 13) (xs (i + 1).toNat).toInt (xs (i + 2).toNat).toInt (xs (i + 3).toNat).toInt) 0 13 (G 0 13 + 1)) ∧ A = setG G2 21 0 (wI a)) ∨ (kc = 1 ∧ A = G ∧ ¬ ((0 ≤ (xs (i + 1).toNat).toInt ∧ (xs (i + 1).toNat).toInt ≤ 5) ∧ (5 ≤ (xs (i + 2).toNat).toInt ∧ (xs (i + 2).toNat).toInt ≤ 500 ∧ (xs (i + 2).toNat).toInt % 5 = 0) ∧ ((xs (i + 2).toNat).toInt ≤ (xs (i + 3).toNat).toInt ∧ (xs (i + 3).toNat).toInt ≤ 500 ∧ (xs (i + 3).toNat).toInt % 5 = 0))) ∨ (kc = 2 ∧ A = G ∧ ((0 ≤ (xs (i + 1).toNat).toInt ∧ (xs (i + 1).toNat).toInt ≤ 5) ∧ (5 ≤ (xs (i + 2).toNat).toInt ∧ (xs (i + 2).toNat).toInt ≤ 500 ∧ (xs (i + 2).toNat).toInt % 5 = 0) ∧ ((xs (i + 2).toNat).toInt ≤ (xs (i + 3).toNat).toInt ∧ (xs (i + 3).toNat).toInt ≤ 500 ∧ (xs (i + 3).toNat).toInt % 5 = 0)) ∧ ¬ (G 0 13 < 8)) := by
    rcases h9 with h | ⟨hk, hx⟩ | ⟨hk, hx⟩
    · exact Or.inl h
    · obtain ⟨hA, hx⟩ := hx
      rcases hx with ⟨q, z⟩ | ⟨q, z⟩ <;> first | exact Or.inr (Or.inl (⟨hk, hA, z⟩)) | exact absurd q (by decide)
    · obtain ⟨hA, hx⟩ := hx
      rcases hx with ⟨q, z⟩ | ⟨q, z⟩ <;> first | exact Or.inr (Or.inr (⟨hk, hA, z⟩)) | exact absurd q (by decide)
  obtain ⟨oN, oH, oP, oR, oX, h4, o10, htu, h13, h14, h6x⟩ := aOk hG (k_add hG h2)
  refine aw_aload_n (q := 254) 3 dL_law_253 rfl rfl rfl ?_
  refine aw_aload_n (q := 255) 1 dL_law_254 rfl rfl rfl ?_
  refine aw_iload (q := 257) 6 dL_law_255 rfl rfl ?_
  refine aw_iconst (q := 258) dL_law_257 rfl ?_
  refine ae_iadd (q := 259) (i + 1) rfl dL_law_258 rfl ?_
  refine aw_sld (q := 260) ⟨by omega, by omega⟩ hL (fun s h => h.2) dL_law_259 rfl ?_
  refine aw_aload_n (q := 261) 1 dL_law_260 rfl rfl rfl ?_
  refine aw_iload (q := 263) 6 dL_law_261 rfl rfl ?_
  refine aw_iconst (q := 264) dL_law_263 rfl ?_
  refine ae_iadd (q := 265) (i + 2) rfl dL_law_264 rfl ?_
  refine aw_sld (q := 266) ⟨by omega, by omega⟩ hL (fun s h => h.2) dL_law_265 rfl ?_
  refine aw_aload_n (q := 267) 1 dL_law_266 rfl rfl rfl ?_
  refine aw_iload (q := 269) 6 dL_law_267 rfl rfl ?_
  refine aw_iconst (q := 270) dL_law_269 rfl ?_
  refine ae_iadd (q := 271) (i + 3) rfl dL_law_270 rfl ?_
  refine aw_sld (q := 272) ⟨by omega, by omega⟩ hL (fun s h => h.2) dL_law_271 rfl ?_
  refine cv_I (q := 275) (CC := "") (id := 108) (As := [.int (iI (xs (i + 1).toNat).toInt), .int (iI (xs (i + 2).toNat).toInt), .int (iI (xs (i + 3).toNat).toInt)]) 3 (c_addCoilM A h4 oH (iI_rng (xs (i + 1).toNat)) (iI_rng (xs (i + 2).toNat)) (iI_rng (xs (i + 3).toNat))) (fun _ h => h.1) (by omega) (cell_108 ad C _) rfl wc_X6_addCoil wm_RL_97 wi_X6_addCoil ws_X6_addCoil wn_X6 (by decide) rfl ⟨Nat.le_of_ble_eq_true rfl, Nat.le_of_ble_eq_true rfl⟩ ⟨by show k + 1 ≤ 601024; omega, by show n + 6 ≤ 7293034; omega⟩ (Nat.le_of_ble_eq_true rfl) dL_law_272 rfl (fun r2 B h8 => ?_)
  refine aw_istore (q := 277) (lv2 := (7, .int (iI r2)) :: (6, .int (iI kc)) :: lawLv b ad i) [0, 1, 2, 3, 4, 5, 6, 7] dL_law_275 rfl (by decide) rfl rfl ?_
  exact law_tail (p := 277) (by omega) (by omega) dL_law_277 dL_law_278 dL_law_281 dL_law_283 dL_law_288 dL_law_290 dL_law_293 dL_law_294 dL_law_295 dL_law_296 dL_law_298 dL_law_299 dL_law_300 dL_law_305 (by decide) hkc (f_add hG h2 h8) (fun rB => kk B rB)
set_option maxHeartbeats 4000000 in
set_option maxRecDepth 100000 in
/-- stock -/
theorem case_2 {l : Launch} {D : va_G} {C : Nat → ClassId} {T : Nat → Nat} {ad : Int → Nat} {b L : Nat} {xs : Nat → Int32} {nm : String} (hst : l.stackTraces = false) (hL : L ≤ 3072) : lawStep l D C T ad b L xs nm relR 2 := by
  intro G i k n hG h0 h6 hk hn kk
  show AW _ _ _ _ _ _ _ _ _ _ _ _ _ 308 _ _ _ _ _
  refine aw_aload_n (q := 309) 1 dL_law_308 rfl rfl rfl ?_
  refine aw_aload_n (q := 310) 0 dL_law_309 rfl rfl rfl ?_
  refine aw_iload (q := 312) 5 dL_law_310 rfl rfl ?_
  refine aw_iconst (q := 313) dL_law_312 rfl ?_
  refine ae_iadd (q := 314) (i + 1) rfl dL_law_313 rfl ?_
  refine aw_sld (q := 315) ⟨by omega, by omega⟩ hL (fun s h => h.2) dL_law_314 rfl ?_
  refine aw_aload_n (q := 316) 0 dL_law_315 rfl rfl rfl ?_
  refine aw_iload (q := 318) 5 dL_law_316 rfl rfl ?_
  refine aw_iconst (q := 319) dL_law_318 rfl ?_
  refine ae_iadd (q := 320) (i + 2) rfl dL_law_319 rfl ?_
  refine aw_sld (q := 321) ⟨by omega, by omega⟩ hL (fun s h => h.2) dL_law_320 rfl ?_
  refine aw_aload_n (q := 322) 3 dL_law_321 rfl rfl rfl ?_
  refine aw_callSW (q := 325) (As := [.ref (ad 102), .int (iI (xs (i + 1).toNat).toInt), .int (iI (xs (i + 2).toNat).toInt), .ref (ad 118)]) (st := []) 4 (cL_h_stock (T := T) (D := D) (ad := ad) G (c_stock hst G (relR_M hG) (iI_rng (xs (i + 1).toNat)) (iI_rng (xs (i + 2).toNat))) (by
    intro E G1 h
    rcases h with ⟨-, ⟨rfl, -⟩ | ⟨rfl, -⟩ | ⟨rfl, -⟩⟩ <;> simp) (by decide) (by decide) (by decide) (by decide)) (fun _ h => h.1) wcw_L_stock wm_RL_98 wt_L_stock wn_L (by decide) rfl ⟨Nat.le_of_ble_eq_true rfl, Nat.le_of_ble_eq_true rfl⟩ ⟨by show k + 1 ≤ 601024; omega, by show n + 6 ≤ 7293034; omega⟩ (Nat.le_of_ble_eq_true rfl) dL_law_322 rfl ?_
  rintro v9 w9 ⟨kc, A, rfl, rfl, h9⟩
  refine aw_istore (q := 327) (lv2 := (6, .int (iI kc)) :: lawLv b ad i) [0, 1, 2, 3, 4, 5, 6] dL_law_325 rfl (by decide) rfl rfl ?_
  have hkc : 0 ≤ kc ∧ kc ≤ 3 := by
    rcases h9 with ⟨h, -⟩ | ⟨h, -⟩ | ⟨h, -⟩ | ⟨h, -⟩ <;> omega
  have h2 : (kc = 0 ∧ ∃ a G2, (((0 ≤ (xs (i + 1).toNat).toInt ∧ (xs (i + 1).toNat).toInt < G 0 13) ∧ (1 ≤ (xs (i + 2).toNat).toInt ∧ (xs (i + 2).toNat).toInt ≤ 20) ∧ (G 0 (15 + 12 * (xs (i + 1).toNat).toInt + 1) + (xs (i + 2).toNat).toInt ≤ 20)) ∧ ∃ H, saveP G H ∧ a = G 0 (15 + 12 * (xs (i + 1).toNat).toInt + 1) + (xs (i + 2).toNat).toInt ∧ G2 = setG H 0 (15 + 12 * (xs (i + 1).toNat).toInt + 1) (G 0 (15 + 12 * (xs (i + 1).toNat).toInt + 1) + (xs (i + 2).toNat).toInt)) ∧ A = setG G2 21 0 (wI a)) ∨ (kc = 1 ∧ A = G ∧ ¬ (0 ≤ (xs (i + 1).toNat).toInt ∧ (xs (i + 1).toNat).toInt < G 0 13)) ∨ (kc = 2 ∧ A = G ∧ (0 ≤ (xs (i + 1).toNat).toInt ∧ (xs (i + 1).toNat).toInt < G 0 13) ∧ ¬ (1 ≤ (xs (i + 2).toNat).toInt ∧ (xs (i + 2).toNat).toInt ≤ 20)) ∨ (kc = 3 ∧ A = G ∧ ((0 ≤ (xs (i + 1).toNat).toInt ∧ (xs (i + 1).toNat).toInt < G 0 13) ∧ (1 ≤ (xs (i + 2).toNat).toInt ∧ (xs (i + 2).toNat).toInt ≤ 20)) ∧ ¬ (G 0 (15 + 12 * (xs (i + 1).toNat).toInt + 1) + (xs (i + 2).toNat).toInt ≤ 20)) := by
    rcases h9 with h | ⟨hk, hx⟩ | ⟨hk, hx⟩ | ⟨hk, hx⟩
    · exact Or.inl h
    · obtain ⟨hA, hx⟩ := hx
      rcases hx with ⟨q, z⟩ | ⟨q, z⟩ | ⟨q, z⟩ <;> first | exact Or.inr (Or.inl (⟨hk, hA, z⟩)) | exact absurd q (by decide)
    · obtain ⟨hA, hx⟩ := hx
      rcases hx with ⟨q, z⟩ | ⟨q, z⟩ | ⟨q, z⟩ <;> first | exact Or.inr (Or.inr (Or.inl (⟨hk, hA, z⟩))) | exact absurd q (by decide)
    · obtain ⟨hA, hx⟩ := hx
      rcases hx with ⟨q, z⟩ | ⟨q, z⟩ | ⟨q, z⟩ <;> first | exact Or.inr (Or.inr (Or.inr (⟨hk, hA, z⟩))) | exact absurd q (by decide)
  obtain ⟨oN, oH, oP, oR, oX, h4, o10, htu, h13, h14, h6x⟩ := aOk hG (k_stock hG h2)
  refine aw_aload_n (q := 328) 3 dL_law_327 rfl rfl rfl ?_
  refine aw_aload_n (q := 329) 1 dL_law_328 rfl rfl rfl ?_
  refine aw_iload (q := 331) 6 dL_law_329 rfl rfl ?_
  refine aw_iconst (q := 332) dL_law_331 rfl ?_
  refine ae_iadd (q := 333) (i + 1) rfl dL_law_332 rfl ?_
  refine aw_sld (q := 334) ⟨by omega, by omega⟩ hL (fun s h => h.2) dL_law_333 rfl ?_
  refine aw_aload_n (q := 335) 1 dL_law_334 rfl rfl rfl ?_
  refine aw_iload (q := 337) 6 dL_law_335 rfl rfl ?_
  refine aw_iconst (q := 338) dL_law_337 rfl ?_
  refine ae_iadd (q := 339) (i + 2) rfl dL_law_338 rfl ?_
  refine aw_sld (q := 340) ⟨by omega, by omega⟩ hL (fun s h => h.2) dL_law_339 rfl ?_
  refine cv_I (q := 343) (CC := "") (id := 108) (As := [.int (iI (xs (i + 1).toNat).toInt), .int (iI (xs (i + 2).toNat).toInt)]) 2 (c_stockM A h4 oH (iI_rng (xs (i + 1).toNat)) (iI_rng (xs (i + 2).toNat))) (fun _ h => h.1) (by omega) (cell_108 ad C _) rfl wc_X6_stock wm_RL_100 wi_X6_stock ws_X6_stock wn_X6 (by decide) rfl ⟨Nat.le_of_ble_eq_true rfl, Nat.le_of_ble_eq_true rfl⟩ ⟨by show k + 1 ≤ 601024; omega, by show n + 6 ≤ 7293034; omega⟩ (Nat.le_of_ble_eq_true rfl) dL_law_340 rfl (fun r2 B h8 => ?_)
  refine aw_istore (q := 345) (lv2 := (7, .int (iI r2)) :: (6, .int (iI kc)) :: lawLv b ad i) [0, 1, 2, 3, 4, 5, 6, 7] dL_law_343 rfl (by decide) rfl rfl ?_
  exact law_tail (p := 345) (by omega) (by omega) dL_law_345 dL_law_346 dL_law_349 dL_law_351 dL_law_356 dL_law_358 dL_law_361 dL_law_362 dL_law_363 dL_law_364 dL_law_366 dL_law_367 dL_law_368 dL_law_373 (by decide) hkc (f_stock hG h2 h8) (fun rB => kk B rB)
set_option maxHeartbeats 4000000 in
set_option maxRecDepth 100000 in
/-- fill -/
theorem case_3 {l : Launch} {D : va_G} {C : Nat → ClassId} {T : Nat → Nat} {ad : Int → Nat} {b L : Nat} {xs : Nat → Int32} {nm : String} (hst : l.stackTraces = false) (hL : L ≤ 3072) : lawStep l D C T ad b L xs nm relR 3 := by
  intro G i k n hG h0 h6 hk hn kk
  show AW _ _ _ _ _ _ _ _ _ _ _ _ _ 376 _ _ _ _ _
  refine aw_aload_n (q := 377) 1 dL_law_376 rfl rfl rfl ?_
  refine aw_aload_n (q := 378) 0 dL_law_377 rfl rfl rfl ?_
  refine aw_iload (q := 380) 5 dL_law_378 rfl rfl ?_
  refine aw_iconst (q := 381) dL_law_380 rfl ?_
  refine ae_iadd (q := 382) (i + 1) rfl dL_law_381 rfl ?_
  refine aw_sld (q := 383) ⟨by omega, by omega⟩ hL (fun s h => h.2) dL_law_382 rfl ?_
  refine aw_aload_n (q := 384) 0 dL_law_383 rfl rfl rfl ?_
  refine aw_iload (q := 386) 5 dL_law_384 rfl rfl ?_
  refine aw_iconst (q := 387) dL_law_386 rfl ?_
  refine ae_iadd (q := 388) (i + 2) rfl dL_law_387 rfl ?_
  refine aw_sld (q := 389) ⟨by omega, by omega⟩ hL (fun s h => h.2) dL_law_388 rfl ?_
  refine aw_aload_n (q := 390) 3 dL_law_389 rfl rfl rfl ?_
  refine aw_callSW (q := 393) (As := [.ref (ad 102), .int (iI (xs (i + 1).toNat).toInt), .int (iI (xs (i + 2).toNat).toInt), .ref (ad 118)]) (st := []) 4 (cL_h_fill (T := T) (D := D) (ad := ad) G (c_fill hst G (relR_M hG) (iI_rng (xs (i + 1).toNat)) (iI_rng (xs (i + 2).toNat))) (by
    intro E G1 h
    rcases h with ⟨-, ⟨rfl, -⟩ | ⟨rfl, -⟩⟩ <;> simp) (by decide) (by decide) (by decide) (by decide)) (fun _ h => h.1) wcw_L_fill wm_RL_101 wt_L_fill wn_L (by decide) rfl ⟨Nat.le_of_ble_eq_true rfl, Nat.le_of_ble_eq_true rfl⟩ ⟨by show k + 1 ≤ 601024; omega, by show n + 6 ≤ 7293034; omega⟩ (Nat.le_of_ble_eq_true rfl) dL_law_390 rfl ?_
  rintro v9 w9 ⟨kc, A, rfl, rfl, h9⟩
  refine aw_istore (q := 395) (lv2 := (6, .int (iI kc)) :: lawLv b ad i) [0, 1, 2, 3, 4, 5, 6] dL_law_393 rfl (by decide) rfl rfl ?_
  have hkc : 0 ≤ kc ∧ kc ≤ 3 := by
    rcases h9 with ⟨h, -⟩ | ⟨h, -⟩ | ⟨h, -⟩ <;> omega
  have h2 : (kc = 0 ∧ ∃ a G2, (((0 ≤ (xs (i + 1).toNat).toInt ∧ (xs (i + 1).toNat).toInt ≤ 3) ∧ (1 ≤ (xs (i + 2).toNat).toInt ∧ (xs (i + 2).toNat).toInt ≤ 30)) ∧ ∃ H, saveP G H ∧ a = min (xs (i + 2).toNat).toInt (30 - G 0 (5 + (xs (i + 1).toNat).toInt)) ∧ keepP (fillG H 0 (xs (i + 1).toNat).toInt (xs (i + 2).toNat).toInt) 0 (kpG (fillG H 0 (xs (i + 1).toNat).toInt (xs (i + 2).toNat).toInt) 0) G2) ∧ A = setG G2 21 0 (wI a)) ∨ (kc = 1 ∧ A = G ∧ ¬ (0 ≤ (xs (i + 1).toNat).toInt ∧ (xs (i + 1).toNat).toInt ≤ 3)) ∨ (kc = 2 ∧ A = G ∧ (0 ≤ (xs (i + 1).toNat).toInt ∧ (xs (i + 1).toNat).toInt ≤ 3) ∧ ¬ (1 ≤ (xs (i + 2).toNat).toInt ∧ (xs (i + 2).toNat).toInt ≤ 30)) := by
    rcases h9 with h | ⟨hk, hx⟩ | ⟨hk, hx⟩
    · exact Or.inl h
    · obtain ⟨hA, hx⟩ := hx
      rcases hx with ⟨q, z⟩ | ⟨q, z⟩ <;> first | exact Or.inr (Or.inl (⟨hk, hA, z⟩)) | exact absurd q (by decide)
    · obtain ⟨hA, hx⟩ := hx
      rcases hx with ⟨q, z⟩ | ⟨q, z⟩ <;> first | exact Or.inr (Or.inr (⟨hk, hA, z⟩)) | exact absurd q (by decide)
  obtain ⟨oN, oH, oP, oR, oX, h4, o10, htu, h13, h14, h6x⟩ := aOk hG (k_fill hG h2)
  refine aw_aload_n (q := 396) 3 dL_law_395 rfl rfl rfl ?_
  refine aw_aload_n (q := 397) 1 dL_law_396 rfl rfl rfl ?_
  refine aw_iload (q := 399) 6 dL_law_397 rfl rfl ?_
  refine aw_iconst (q := 400) dL_law_399 rfl ?_
  refine ae_iadd (q := 401) (i + 1) rfl dL_law_400 rfl ?_
  refine aw_sld (q := 402) ⟨by omega, by omega⟩ hL (fun s h => h.2) dL_law_401 rfl ?_
  refine aw_aload_n (q := 403) 1 dL_law_402 rfl rfl rfl ?_
  refine aw_iload (q := 405) 6 dL_law_403 rfl rfl ?_
  refine aw_iconst (q := 406) dL_law_405 rfl ?_
  refine ae_iadd (q := 407) (i + 2) rfl dL_law_406 rfl ?_
  refine aw_sld (q := 408) ⟨by omega, by omega⟩ hL (fun s h => h.2) dL_law_407 rfl ?_
  refine cv_I (q := 411) (CC := "") (id := 108) (As := [.int (iI (xs (i + 1).toNat).toInt), .int (iI (xs (i + 2).toNat).toInt)]) 2 (c_fillM A h4 oP (iI_rng (xs (i + 1).toNat)) (iI_rng (xs (i + 2).toNat))) (fun _ h => h.1) (by omega) (cell_108 ad C _) rfl wc_X6_fill wm_RL_103 wi_X6_fill ws_X6_fill wn_X6 (by decide) rfl ⟨Nat.le_of_ble_eq_true rfl, Nat.le_of_ble_eq_true rfl⟩ ⟨by show k + 1 ≤ 601024; omega, by show n + 6 ≤ 7293034; omega⟩ (Nat.le_of_ble_eq_true rfl) dL_law_408 rfl (fun r2 B h8 => ?_)
  refine aw_istore (q := 413) (lv2 := (7, .int (iI r2)) :: (6, .int (iI kc)) :: lawLv b ad i) [0, 1, 2, 3, 4, 5, 6, 7] dL_law_411 rfl (by decide) rfl rfl ?_
  exact law_tail (p := 413) (by omega) (by omega) dL_law_413 dL_law_414 dL_law_417 dL_law_419 dL_law_424 dL_law_426 dL_law_429 dL_law_430 dL_law_431 dL_law_432 dL_law_434 dL_law_435 dL_law_436 dL_law_441 (by decide) hkc (f_fill hG h2 h8) (fun rB => kk B rB)
