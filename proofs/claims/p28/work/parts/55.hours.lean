/-! the law's hours -/
set_option maxHeartbeats 4000000 in
set_option maxRecDepth 100000 in
theorem LE_hours {l : Launch} {D : va_G} {C : Nat → ClassId} {T : Nat → Nat} {ad : Int → Nat} (hst : l.stackTraces = false) {t : Int} {G0 A : GG} (ht : t + 1 ≤ 1000) (o : okI (t + 1) A) {x y w n p p0 nw fi ra ba hr de mo : Int} (hw : 0 ≤ w ∧ w < A 0 13) (hn : 1 ≤ n ∧ n ≤ 12) (hp : A 0 (15 + 12 * w + 2) = p) (hnw : 0 ≤ A 0 (15 + 12 * w + 2) ∧ A 0 (15 + 12 * w + 2) ≤ 1000) (hd : A 0 (15 + 12 * w + 10) = fadeN de (A 0 2) n.toNat) (hde : okW de) (hr0 : 0 ≤ ra ∧ ra ≤ 100000) (h8 : ra ≤ A 0 (15 + 12 * w + 8) ∧ A 0 (15 + 12 * w + 8) ≤ ra + n) (hb : 0 ≤ ba ∧ ba ≤ 3) (h81 : 0 < ba → n = 1 → A 0 (15 + 12 * w + 8) = ra) (hmo : worthF (A 0) 5 = mo) : AW l RL "hours" cL_hours 16 (some .boolean) (fun _ => True) { frames := 7, cells := 0, slots := 0, locals := 145 } (hvE D (RI ad C (fun r G1 => r = 1 ∧ okI (t + 1) G1)) (cw ad C G0) 0 0) D (tyC C) (hvZ T (cw ad C G0)) (cw ad C G0) 190 [(0, .ref (ad 102)), (1, .int (iI x)), (2, .int (iI y)), (3, .int (iI w)), (4, .int (iI n)), (5, .int (iI p)), (6, .int (iI p0)), (7, .int (iI nw)), (8, .int (iI fi)), (9, .int (iI ra)), (10, .int (iI ba)), (11, .int (iI hr)), (12, .float ((fB de))), (13, .int (iI mo)), (14, .float ((fB (fadeN de (A 0 2) n.toNat)))), (15, .int (iI n))] [] (cw ad C A) 0 0 := by
  refine aw_aload_n (q := 191) 0 dL_hours_190 rfl rfl rfl ?_
  refine aw_iload_n (q := 192) 3 dL_hours_191 rfl rfl rfl ?_
  refine aw_iconst (q := 193) dL_hours_192 rfl ?_
  refine cv_I (q := 196) (CC := "") (id := 102) (As := [.int (iI w), .int (iI 2)]) 2 (n_coil (D := D) (C := C) (T := T) (ad := ad) hst (G := A) (K := A) ht o eq0.rf (c := w) (k := 2) (by omega) (by omega)) (fun _ h => h) (by omega) (cell_102 ad C _) rfl wc_X5_coil wm_RL_39 wi_X5_coil ws_X5_coil wn_X5 (by decide) rfl ⟨Nat.le_of_ble_eq_true rfl, Nat.le_of_ble_eq_true rfl⟩ ⟨Nat.le_of_ble_eq_true rfl, Nat.le_of_ble_eq_true rfl⟩ (Nat.le_of_ble_eq_true rfl) dL_hours_193 rfl (fun r9 G9 h9 => ?_)
  rw [h9.1, h9.2]
  clear h9
  refine aw_iload (q := 198) 5 dL_hours_196 rfl rfl ?_
  refine aw_same_ne (q := 201) hp dL_hours_198 rfl (t := 276) (by decide) ?_
  refine aw_aload_n (q := 202) 0 dL_hours_201 rfl rfl rfl ?_
  refine aw_iload_n (q := 203) 3 dL_hours_202 rfl rfl rfl ?_
  refine cv_F (q := 206) (CC := "") (id := 102) (As := [.int (iI w)]) 1 (n_demand (D := D) (C := C) (T := T) (ad := ad) hst (G := A) (K := A) ht o eq0.rf (c := w) (by omega)) (fun _ h => h) (by omega) (cell_102 ad C _) rfl wc_X5_demand wm_RL_45 wi_X5_demand ws_X5_demand wn_X5 (by decide) rfl ⟨Nat.le_of_ble_eq_true rfl, Nat.le_of_ble_eq_true rfl⟩ ⟨Nat.le_of_ble_eq_true rfl, Nat.le_of_ble_eq_true rfl⟩ (Nat.le_of_ble_eq_true rfl) dL_hours_203 rfl (fun r9 G9 h9 => ?_)
  rw [h9.1, h9.2]
  clear h9
  refine aw_fload (q := 208) 14 dL_hours_206 rfl rfl ?_
  refine aw_fcmp (q := 209) dL_hours_208 rfl ?_
  refine aw_ifW_ne (q := 212) dL_hours_209 rfl (t := 276) (by decide) (fun h => (h (by rw [hd]; exact okW_eq (fadeN_ok hde o.1.1.1.2.2.1 _))).elim) (fun h1 => ?_)
  refine aw_aload_n (q := 213) 0 dL_hours_212 rfl rfl rfl ?_
  refine aw_iload_n (q := 214) 3 dL_hours_213 rfl rfl rfl ?_
  refine aw_bipush (q := 216) dL_hours_214 rfl (by decide) ?_
  refine cv_I (q := 219) (CC := "") (id := 102) (As := [.int (iI w), .int (iI 8)]) 2 (n_coil (D := D) (C := C) (T := T) (ad := ad) hst (G := A) (K := A) ht o eq0.rf (c := w) (k := 8) (by omega) (by omega)) (fun _ h => h) (by omega) (cell_102 ad C _) rfl wc_X5_coil wm_RL_39 wi_X5_coil ws_X5_coil wn_X5 (by decide) rfl ⟨Nat.le_of_ble_eq_true rfl, Nat.le_of_ble_eq_true rfl⟩ ⟨Nat.le_of_ble_eq_true rfl, Nat.le_of_ble_eq_true rfl⟩ (Nat.le_of_ble_eq_true rfl) dL_hours_216 rfl (fun r9 G9 h9 => ?_)
  rw [h9.1, h9.2]
  clear h9
  refine aw_iload (q := 221) 9 dL_hours_219 rfl rfl ?_
  refine ae_isub (q := 222) ((A 0 (15 + 12 * w + 8)) - ra) (by omega) dL_hours_221 rfl ?_
  refine aw_iload (q := 224) 4 dL_hours_222 rfl rfl ?_
  refine aw_icmp_gt (q := 227) dL_hours_224 rfl (t := 276) (by decide) (by omega) (by omega) (fun h => ((by omega : False)).elim) (fun h2 => ?_)
  refine aw_aload_n (q := 228) 0 dL_hours_227 rfl rfl rfl ?_
  refine aw_iload_n (q := 229) 3 dL_hours_228 rfl rfl rfl ?_
  refine aw_bipush (q := 231) dL_hours_229 rfl (by decide) ?_
  refine cv_I (q := 234) (CC := "") (id := 102) (As := [.int (iI w), .int (iI 8)]) 2 (n_coil (D := D) (C := C) (T := T) (ad := ad) hst (G := A) (K := A) ht o eq0.rf (c := w) (k := 8) (by omega) (by omega)) (fun _ h => h) (by omega) (cell_102 ad C _) rfl wc_X5_coil wm_RL_39 wi_X5_coil ws_X5_coil wn_X5 (by decide) rfl ⟨Nat.le_of_ble_eq_true rfl, Nat.le_of_ble_eq_true rfl⟩ ⟨Nat.le_of_ble_eq_true rfl, Nat.le_of_ble_eq_true rfl⟩ (Nat.le_of_ble_eq_true rfl) dL_hours_231 rfl (fun r9 G9 h9 => ?_)
  rw [h9.1, h9.2]
  clear h9
  refine aw_iload (q := 236) 9 dL_hours_234 rfl rfl ?_
  refine aw_icmp_lt (q := 239) dL_hours_236 rfl (t := 276) (by decide) (by omega) (by omega) (fun h => ((by omega : False)).elim) (fun h3 => ?_)
  refine aw_iload (q := 241) 10 dL_hours_239 rfl rfl ?_
  refine aw_if_eq (q := 244) dL_hours_241 rfl (t := 262) (by decide) (by omega) (fun h4 => ?_) (fun h5 => ?_)
  · refine aw_aload_n (q := 263) 0 dL_hours_262 rfl rfl rfl ?_
    refine aw_iconst (q := 264) dL_hours_263 rfl ?_
    refine cv_I (q := 267) (CC := "") (id := 102) (As := [.int (iI 2)]) 1 (n_v2 (D := D) (C := C) (T := T) (ad := ad) hst (G := A) (K := A) ht o eq0.rf ) (fun _ h => h) (by omega) (cell_102 ad C _) rfl wc_X5_value wm_RL_42 wi_X5_value ws_X5_value wn_X5 (by decide) rfl ⟨Nat.le_of_ble_eq_true rfl, Nat.le_of_ble_eq_true rfl⟩ ⟨Nat.le_of_ble_eq_true rfl, Nat.le_of_ble_eq_true rfl⟩ (Nat.le_of_ble_eq_true rfl) dL_hours_264 rfl (fun r9 G9 h9 => ?_)
    rw [h9.1, h9.2]
    clear h9
    refine aw_iload (q := 269) 13 dL_hours_267 rfl rfl ?_
    refine aw_same_ne (q := 272) hmo dL_hours_269 rfl (t := 276) (by decide) ?_
    refine aw_iconst (q := 273) dL_hours_272 rfl ?_
    refine aw_goto (q := 277) dL_hours_273 (by decide) ?_
    exact rt_z rfl (by omega) (Nat.le_of_ble_eq_true rfl) (Nat.le_of_ble_eq_true rfl) (⟨rfl, o⟩) dL_hours_277
  · refine aw_iload (q := 246) 4 dL_hours_244 rfl rfl ?_
    refine aw_iconst (q := 247) dL_hours_246 rfl ?_
    refine aw_icmp_gt (q := 250) dL_hours_247 rfl (t := 262) (by decide) (by omega) (by omega) (fun h6 => ?_) (fun h7 => ?_)
    · refine aw_aload_n (q := 263) 0 dL_hours_262 rfl rfl rfl ?_
      refine aw_iconst (q := 264) dL_hours_263 rfl ?_
      refine cv_I (q := 267) (CC := "") (id := 102) (As := [.int (iI 2)]) 1 (n_v2 (D := D) (C := C) (T := T) (ad := ad) hst (G := A) (K := A) ht o eq0.rf ) (fun _ h => h) (by omega) (cell_102 ad C _) rfl wc_X5_value wm_RL_42 wi_X5_value ws_X5_value wn_X5 (by decide) rfl ⟨Nat.le_of_ble_eq_true rfl, Nat.le_of_ble_eq_true rfl⟩ ⟨Nat.le_of_ble_eq_true rfl, Nat.le_of_ble_eq_true rfl⟩ (Nat.le_of_ble_eq_true rfl) dL_hours_264 rfl (fun r9 G9 h9 => ?_)
      rw [h9.1, h9.2]
      clear h9
      refine aw_iload (q := 269) 13 dL_hours_267 rfl rfl ?_
      refine aw_same_ne (q := 272) hmo dL_hours_269 rfl (t := 276) (by decide) ?_
      refine aw_iconst (q := 273) dL_hours_272 rfl ?_
      refine aw_goto (q := 277) dL_hours_273 (by decide) ?_
      exact rt_z rfl (by omega) (Nat.le_of_ble_eq_true rfl) (Nat.le_of_ble_eq_true rfl) (⟨rfl, o⟩) dL_hours_277
    · refine aw_aload_n (q := 251) 0 dL_hours_250 rfl rfl rfl ?_
      refine aw_iload_n (q := 252) 3 dL_hours_251 rfl rfl rfl ?_
      refine aw_bipush (q := 254) dL_hours_252 rfl (by decide) ?_
      refine cv_I (q := 257) (CC := "") (id := 102) (As := [.int (iI w), .int (iI 8)]) 2 (n_coil (D := D) (C := C) (T := T) (ad := ad) hst (G := A) (K := A) ht o eq0.rf (c := w) (k := 8) (by omega) (by omega)) (fun _ h => h) (by omega) (cell_102 ad C _) rfl wc_X5_coil wm_RL_39 wi_X5_coil ws_X5_coil wn_X5 (by decide) rfl ⟨Nat.le_of_ble_eq_true rfl, Nat.le_of_ble_eq_true rfl⟩ ⟨Nat.le_of_ble_eq_true rfl, Nat.le_of_ble_eq_true rfl⟩ (Nat.le_of_ble_eq_true rfl) dL_hours_254 rfl (fun r9 G9 h9 => ?_)
      rw [h9.1, h9.2]
      clear h9
      refine aw_iload (q := 259) 9 dL_hours_257 rfl rfl ?_
      refine aw_same_ne (q := 262) (by omega) dL_hours_259 rfl (t := 276) (by decide) ?_
      refine aw_aload_n (q := 263) 0 dL_hours_262 rfl rfl rfl ?_
      refine aw_iconst (q := 264) dL_hours_263 rfl ?_
      refine cv_I (q := 267) (CC := "") (id := 102) (As := [.int (iI 2)]) 1 (n_v2 (D := D) (C := C) (T := T) (ad := ad) hst (G := A) (K := A) ht o eq0.rf ) (fun _ h => h) (by omega) (cell_102 ad C _) rfl wc_X5_value wm_RL_42 wi_X5_value ws_X5_value wn_X5 (by decide) rfl ⟨Nat.le_of_ble_eq_true rfl, Nat.le_of_ble_eq_true rfl⟩ ⟨Nat.le_of_ble_eq_true rfl, Nat.le_of_ble_eq_true rfl⟩ (Nat.le_of_ble_eq_true rfl) dL_hours_264 rfl (fun r9 G9 h9 => ?_)
      rw [h9.1, h9.2]
      clear h9
      refine aw_iload (q := 269) 13 dL_hours_267 rfl rfl ?_
      refine aw_same_ne (q := 272) hmo dL_hours_269 rfl (t := 276) (by decide) ?_
      refine aw_iconst (q := 273) dL_hours_272 rfl ?_
      refine aw_goto (q := 277) dL_hours_273 (by decide) ?_
      exact rt_z rfl (by omega) (Nat.le_of_ble_eq_true rfl) (Nat.le_of_ble_eq_true rfl) (⟨rfl, o⟩) dL_hours_277
set_option maxHeartbeats 4000000 in
set_option maxRecDepth 100000 in
theorem LH_hours {l : Launch} {D : va_G} {C : Nat → ClassId} {T : Nat → Nat} {ad : Int → Nat} (hst : l.stackTraces = false) {t : Int} {G0 A : GG} (ht : t + 1 ≤ 1000) (o : okI (t + 1) A) {x y w n p p0 nw fi ra ba hr de mo : Int} (hw : 0 ≤ w ∧ w < A 0 13) (hn : 1 ≤ n ∧ n ≤ 12) (hp : A 0 (15 + 12 * w + 2) = p) (hnw : 0 ≤ A 0 (15 + 12 * w + 2) ∧ A 0 (15 + 12 * w + 2) ≤ 1000) (hd : A 0 (15 + 12 * w + 10) = fadeN de (A 0 2) n.toNat) (hde : okW de) (hr0 : 0 ≤ ra ∧ ra ≤ 100000) (h8 : ra ≤ A 0 (15 + 12 * w + 8) ∧ A 0 (15 + 12 * w + 8) ≤ ra + n) (hb : 0 ≤ ba ∧ ba ≤ 3) (h81 : 0 < ba → n = 1 → A 0 (15 + 12 * w + 8) = ra) (hmo : worthF (A 0) 5 = mo) : ∀ (m : Nat) (i : Int), 0 ≤ i → i ≤ n → n - i < m → AW l RL "hours" cL_hours 16 (some .boolean) (fun _ => True) { frames := 7, cells := 0, slots := 0, locals := 145 } (hvE D (RI ad C (fun r G1 => r = 1 ∧ okI (t + 1) G1)) (cw ad C G0) 0 0) D (tyC C) (hvZ T (cw ad C G0)) (cw ad C G0) 163 [(0, .ref (ad 102)), (1, .int (iI x)), (2, .int (iI y)), (3, .int (iI w)), (4, .int (iI n)), (5, .int (iI p)), (6, .int (iI p0)), (7, .int (iI nw)), (8, .int (iI fi)), (9, .int (iI ra)), (10, .int (iI ba)), (11, .int (iI hr)), (12, .float ((fB de))), (13, .int (iI mo)), (14, .float ((fB (fadeN de (A 0 2) i.toNat)))), (15, .int (iI i))] [] (cw ad C A) 0 0 := by
  intro m
  induction m with
  | zero => intro i h1 h2 h3; omega
  | succ m ih =>
    intro i h1 h2 h3
    have hx := fadeN_ok hde o.1.1.1.2.2.1 i.toNat
    have hf := fw_fade hx o.1.1.1.2.2.1
    refine aw_iload (q := 165) 15 dL_hours_163 rfl rfl ?_
    refine aw_iload (q := 167) 4 dL_hours_165 rfl rfl ?_
    refine aw_icmp_ge (q := 170) dL_hours_167 rfl (t := 190) (by decide) (by omega) (by omega) (fun h1 => ?_) (fun h2 => ?_)
    · have hin : i = n := by omega
      subst hin
      exact LE_hours hst ht o hw hn hp hnw hd hde hr0 h8 hb h81 hmo
    · refine aw_fload (q := 172) 14 dL_hours_170 rfl rfl ?_
      refine aw_aload_n (q := 173) 0 dL_hours_172 rfl rfl rfl ?_
      refine aw_iconst (q := 174) dL_hours_173 rfl ?_
      refine cv_I (q := 177) (CC := "") (id := 102) (As := [.int (iI 2)]) 1 (n_setting (D := D) (C := C) (T := T) (ad := ad) hst (G := A) (K := A) ht o eq0.rf (w := 2) (by omega)) (fun _ h => h) (by omega) (cell_102 ad C _) rfl wc_X5_setting wm_RL_85 wi_X5_setting ws_X5_setting wn_X5 (by decide) rfl ⟨Nat.le_of_ble_eq_true rfl, Nat.le_of_ble_eq_true rfl⟩ ⟨Nat.le_of_ble_eq_true rfl, Nat.le_of_ble_eq_true rfl⟩ (Nat.le_of_ble_eq_true rfl) dL_hours_174 rfl (fun r9 G9 h9 => ?_)
      rw [h9.1, h9.2]
      clear h9
      refine aw_i2f (q := 178) dL_hours_177 rfl ?_
      refine aw_fmul (q := 179) dL_hours_178 rfl hf.1 ?_
      refine aw_ldcf (q := 181) dL_hours_179 rfl wk_RL_91 ?_
      refine aw_fdiv (q := 182) dL_hours_181 rfl hf.2.1 ?_
      refine aw_fstore (q := 184) (lv2 := [(0, .ref (ad 102)), (1, .int (iI x)), (2, .int (iI y)), (3, .int (iI w)), (4, .int (iI n)), (5, .int (iI p)), (6, .int (iI p0)), (7, .int (iI nw)), (8, .int (iI fi)), (9, .int (iI ra)), (10, .int (iI ba)), (11, .int (iI hr)), (12, .float ((fB de))), (13, .int (iI mo)), (14, .float (FP.fdiv (FP.fmul ((fB (fadeN de (A 0 2) i.toNat))) (FP.i2f (iI (A 0 2)))) 1120403456)), (15, .int (iI i))]) [1, 2, 3, 4, 5, 6, 7, 8, 9, 10, 11, 12, 13, 14, 0, 15] dL_hours_182 rfl (by decide) rfl rfl ?_
      refine ae_iinc (q := 187) (lv2 := [(0, .ref (ad 102)), (1, .int (iI x)), (2, .int (iI y)), (3, .int (iI w)), (4, .int (iI n)), (5, .int (iI p)), (6, .int (iI p0)), (7, .int (iI nw)), (8, .int (iI fi)), (9, .int (iI ra)), (10, .int (iI ba)), (11, .int (iI hr)), (12, .float ((fB de))), (13, .int (iI mo)), (14, .float (FP.fdiv (FP.fmul ((fB (fadeN de (A 0 2) i.toNat))) (FP.i2f (iI (A 0 2)))) 1120403456)), (15, .int (iI (i + 1)))]) 15 [1, 2, 3, 4, 5, 6, 7, 8, 9, 10, 11, 12, 13, 14, 15, 0] (i + 1) (by omega) dL_hours_184 rfl rfl (by decide) rfl ?_
      refine aw_goto (q := 163) dL_hours_187 (by decide) ?_
      rw [show FP.fdiv (FP.fmul (fB (fadeN de (A 0 2) i.toNat)) (FP.i2f (iI (A 0 2)))) 1120403456 = fB (fadeN de (A 0 2) (i + 1).toNat) from by
            rw [show (i + 1).toNat = i.toNat + 1 by omega]
            exact (fB_nat _).symm]
      exact ih (i + 1) (by omega) (by omega) (by omega)
set_option maxHeartbeats 4000000 in
set_option maxRecDepth 100000 in
theorem c_hours {l : Launch} {D : va_G} {C : Nat → ClassId} {T : Nat → Nat} {ad : Int → Nat} (hst : l.stackTraces = false) {t : Int} {G K : GG} {x y : Int} (ht0 : 0 ≤ t ∧ t ≤ 900) (o : okI t G) (e : eq0 G K) (h13 : 1 ≤ G 0 13) : MC l yL_hours cL_hours 16 (some .boolean) 7 145 0 0 D (tyC C) T [.ref (ad 102), .int (iI x), .int (iI y)] (cw ad C K) (RI ad C (fun r G1 => r = 1 ∧ okI (t + 1) G1)) := by
  refine mc_of (by decide +kernel) (Nat.le_of_ble_eq_true rfl) rfl ?_
  have ht : t ≤ 1000 := by omega
  have o8 := o.1.1.2.1
  have o10 := o.2.2.1
  refine aw_iload_n (q := 1) 1 dL_hours_0 rfl rfl rfl ?_
  refine aw_aload_n (q := 2) 0 dL_hours_1 rfl rfl rfl ?_
  refine aw_iconst (q := 3) dL_hours_2 rfl ?_
  refine cv_I (q := 6) (CC := "") (id := 102) (As := [.int (iI 0)]) 1 (n_v0 (D := D) (C := C) (T := T) (ad := ad) hst (G := G) (K := K) ht o e ) (fun _ h => h) (by omega) (cell_102 ad C _) rfl wc_X5_value wm_RL_42 wi_X5_value ws_X5_value wn_X5 (by decide) rfl ⟨Nat.le_of_ble_eq_true rfl, Nat.le_of_ble_eq_true rfl⟩ ⟨Nat.le_of_ble_eq_true rfl, Nat.le_of_ble_eq_true rfl⟩ (Nat.le_of_ble_eq_true rfl) dL_hours_3 rfl (fun r9 G9 h9 => ?_)
  rw [h9.1, h9.2]
  clear h9
  refine cs_I (q := 9) (As := [.int (iI x), .int (iI (G 0 13))]) 2 (c_low (T := T) (D := D) (ad := ad) K (by omega)) (fun _ h => h) wc_L_low wm_RL_75 wt_L_low wn_L (by decide) rfl ⟨Nat.le_of_ble_eq_true rfl, Nat.le_of_ble_eq_true rfl⟩ ⟨Nat.le_of_ble_eq_true rfl, Nat.le_of_ble_eq_true rfl⟩ (Nat.le_of_ble_eq_true rfl) dL_hours_6 rfl (fun r9 G9 h9 => ?_)
  obtain ⟨rfl, h9⟩ := h9
  rw [h9]
  clear h9
  have hww1 := lowF_r x (n := (G 0 13)) (by omega)
  generalize lowF x (G 0 13) = w1 at *
  refine aw_istore_n (q := 10) (lv2 := [(0, .ref (ad 102)), (1, .int (iI x)), (2, .int (iI y)), (3, .int (iI w1))]) [1, 2, 3, 0] dL_hours_9 rfl rfl (by decide) rfl rfl ?_
  refine aw_iconst (q := 11) dL_hours_10 rfl ?_
  refine aw_iload_n (q := 12) 2 dL_hours_11 rfl rfl rfl ?_
  refine aw_bipush (q := 14) dL_hours_12 rfl (by decide) ?_
  refine cs_I (q := 17) (As := [.int (iI y), .int (iI 12)]) 2 (c_low (T := T) (D := D) (ad := ad) K (by omega)) (fun _ h => h) wc_L_low wm_RL_75 wt_L_low wn_L (by decide) rfl ⟨Nat.le_of_ble_eq_true rfl, Nat.le_of_ble_eq_true rfl⟩ ⟨Nat.le_of_ble_eq_true rfl, Nat.le_of_ble_eq_true rfl⟩ (Nat.le_of_ble_eq_true rfl) dL_hours_14 rfl (fun r9 G9 h9 => ?_)
  obtain ⟨rfl, h9⟩ := h9
  rw [h9]
  clear h9
  have hww2 := lowF_r y (n := 12) (by omega)
  generalize lowF y 12 = w2 at *
  refine ae_iadd (q := 18) (w2 + 1) (by omega) dL_hours_17 rfl ?_
  refine aw_istore (q := 20) (lv2 := [(0, .ref (ad 102)), (1, .int (iI x)), (2, .int (iI y)), (3, .int (iI w1)), (4, .int (iI (w2 + 1)))]) [1, 2, 3, 4, 0] dL_hours_18 rfl (by decide) rfl rfl ?_
  refine aw_aload_n (q := 21) 0 dL_hours_20 rfl rfl rfl ?_
  refine aw_iload_n (q := 22) 3 dL_hours_21 rfl rfl rfl ?_
  refine aw_iload (q := 24) 4 dL_hours_22 rfl rfl ?_
  refine cv_I (q := 27) (CC := "") (id := 102) (As := [.int (iI w1), .int (iI (w2 + 1))]) 2 (n_priceIn (D := D) (C := C) (T := T) (ad := ad) hst (G := G) (K := K) ht o e (c := w1) (h0 := (w2 + 1)) (by omega) (by omega)) (fun _ h => h) (by omega) (cell_102 ad C _) rfl wc_X5_priceIn wm_RL_88 wi_X5_priceIn ws_X5_priceIn wn_X5 (by decide) rfl ⟨Nat.le_of_ble_eq_true rfl, Nat.le_of_ble_eq_true rfl⟩ ⟨Nat.le_of_ble_eq_true rfl, Nat.le_of_ble_eq_true rfl⟩ (Nat.le_of_ble_eq_true rfl) dL_hours_24 rfl (fun p1 K1 h9 => ?_)
  obtain ⟨hp1, e1⟩ := h9
  have hc := hours_coil o.1.1 (d := w1) (by omega) (w2 + 1).toNat
  have hc1 := hours_coil o.1.1 (d := w1) (by omega) (1 : Int).toNat
  have oc := o.1.1.2.2 w1 (by omega) (by omega)
  have ox := o.2.2.2 w1 (by omega) (by omega)
  have oc3 := oc.2.1
  have oc2 := oc.2.2.1
  have oc24 := oc.2.2.2.1
  have oc4 := oc.2.2.2.2.1
  have oc5 := oc.2.2.2.2.2.1
  have ocw := oc.2.2.2.2.2.2.2.1
  have ox8 := ox.2.2.2.1
  obtain ⟨hca, hcb, -, hcd, -⟩ := hc
  obtain ⟨-, -, hc2, -, -⟩ := hc1
  have hc2 := hc2 (by decide)
  have hq1 := (okH_hours o.1.1 (1 : Int).toNat).2.2 w1 (by omega) (by rw [hours_ne o.1.1 (by omega) _]; omega)
  have hq2 := hq1.2.1
  have hq3 := hq1.2.2.1
  refine aw_istore (q := 29) (lv2 := [(0, .ref (ad 102)), (1, .int (iI x)), (2, .int (iI y)), (3, .int (iI w1)), (4, .int (iI (w2 + 1))), (5, .int (iI p1))]) [1, 2, 3, 4, 5, 0] dL_hours_27 rfl (by decide) rfl rfl ?_
  refine aw_aload_n (q := 30) 0 dL_hours_29 rfl rfl rfl ?_
  refine aw_iload_n (q := 31) 3 dL_hours_30 rfl rfl rfl ?_
  refine aw_iconst (q := 32) dL_hours_31 rfl ?_
  refine cv_I (q := 35) (CC := "") (id := 102) (As := [.int (iI w1), .int (iI 1)]) 2 (n_priceIn (D := D) (C := C) (T := T) (ad := ad) hst (G := G) (K := K1) ht o e1 (c := w1) (h0 := 1) (by omega) (by omega)) (fun _ h => h) (by omega) (cell_102 ad C _) rfl wc_X5_priceIn wm_RL_88 wi_X5_priceIn ws_X5_priceIn wn_X5 (by decide) rfl ⟨Nat.le_of_ble_eq_true rfl, Nat.le_of_ble_eq_true rfl⟩ ⟨Nat.le_of_ble_eq_true rfl, Nat.le_of_ble_eq_true rfl⟩ (Nat.le_of_ble_eq_true rfl) dL_hours_32 rfl (fun p2 K2 h9 => ?_)
  obtain ⟨hp2, e2⟩ := h9
  refine aw_istore (q := 37) (lv2 := [(0, .ref (ad 102)), (1, .int (iI x)), (2, .int (iI y)), (3, .int (iI w1)), (4, .int (iI (w2 + 1))), (5, .int (iI p1)), (6, .int (iI p2))]) [1, 2, 3, 4, 5, 6, 0] dL_hours_35 rfl (by decide) rfl rfl ?_
  refine aw_aload_n (q := 38) 0 dL_hours_37 rfl rfl rfl ?_
  refine aw_iload_n (q := 39) 3 dL_hours_38 rfl rfl rfl ?_
  refine aw_iconst (q := 40) dL_hours_39 rfl ?_
  refine cv_I (q := 43) (CC := "") (id := 102) (As := [.int (iI w1), .int (iI 2)]) 2 (n_coil (D := D) (C := C) (T := T) (ad := ad) hst (G := G) (K := K2) ht o e2 (c := w1) (k := 2) (by omega) (by omega)) (fun _ h => h) (by omega) (cell_102 ad C _) rfl wc_X5_coil wm_RL_39 wi_X5_coil ws_X5_coil wn_X5 (by decide) rfl ⟨Nat.le_of_ble_eq_true rfl, Nat.le_of_ble_eq_true rfl⟩ ⟨Nat.le_of_ble_eq_true rfl, Nat.le_of_ble_eq_true rfl⟩ (Nat.le_of_ble_eq_true rfl) dL_hours_40 rfl (fun r9 G9 h9 => ?_)
  rw [h9.1, h9.2]
  clear h9
  refine aw_istore (q := 45) (lv2 := [(0, .ref (ad 102)), (1, .int (iI x)), (2, .int (iI y)), (3, .int (iI w1)), (4, .int (iI (w2 + 1))), (5, .int (iI p1)), (6, .int (iI p2)), (7, .int (iI ((G 0 (15 + 12 * w1 + 2)))))]) [1, 2, 3, 4, 5, 6, 7, 0] dL_hours_43 rfl (by decide) rfl rfl ?_
  refine aw_aload_n (q := 46) 0 dL_hours_45 rfl rfl rfl ?_
  refine aw_bipush (q := 48) dL_hours_46 rfl (by decide) ?_
  refine cv_I (q := 51) (CC := "") (id := 102) (As := [.int (iI 9)]) 1 (n_v9 (D := D) (C := C) (T := T) (ad := ad) hst (G := G) (K := K2) ht o e2 ) (fun _ h => h) (by omega) (cell_102 ad C _) rfl wc_X5_value wm_RL_42 wi_X5_value ws_X5_value wn_X5 (by decide) rfl ⟨Nat.le_of_ble_eq_true rfl, Nat.le_of_ble_eq_true rfl⟩ ⟨Nat.le_of_ble_eq_true rfl, Nat.le_of_ble_eq_true rfl⟩ (Nat.le_of_ble_eq_true rfl) dL_hours_48 rfl (fun r9 G9 h9 => ?_)
  rw [h9.1, h9.2]
  clear h9
  refine aw_istore (q := 53) (lv2 := [(0, .ref (ad 102)), (1, .int (iI x)), (2, .int (iI y)), (3, .int (iI w1)), (4, .int (iI (w2 + 1))), (5, .int (iI p1)), (6, .int (iI p2)), (7, .int (iI ((G 0 (15 + 12 * w1 + 2))))), (8, .int (iI (G 0 12)))]) [1, 2, 3, 4, 5, 6, 7, 8, 0] dL_hours_51 rfl (by decide) rfl rfl ?_
  refine aw_aload_n (q := 54) 0 dL_hours_53 rfl rfl rfl ?_
  refine aw_iload_n (q := 55) 3 dL_hours_54 rfl rfl rfl ?_
  refine aw_bipush (q := 57) dL_hours_55 rfl (by decide) ?_
  refine cv_I (q := 60) (CC := "") (id := 102) (As := [.int (iI w1), .int (iI 8)]) 2 (n_coil (D := D) (C := C) (T := T) (ad := ad) hst (G := G) (K := K2) ht o e2 (c := w1) (k := 8) (by omega) (by omega)) (fun _ h => h) (by omega) (cell_102 ad C _) rfl wc_X5_coil wm_RL_39 wi_X5_coil ws_X5_coil wn_X5 (by decide) rfl ⟨Nat.le_of_ble_eq_true rfl, Nat.le_of_ble_eq_true rfl⟩ ⟨Nat.le_of_ble_eq_true rfl, Nat.le_of_ble_eq_true rfl⟩ (Nat.le_of_ble_eq_true rfl) dL_hours_57 rfl (fun r9 G9 h9 => ?_)
  rw [h9.1, h9.2]
  clear h9
  refine aw_istore (q := 62) (lv2 := [(0, .ref (ad 102)), (1, .int (iI x)), (2, .int (iI y)), (3, .int (iI w1)), (4, .int (iI (w2 + 1))), (5, .int (iI p1)), (6, .int (iI p2)), (7, .int (iI ((G 0 (15 + 12 * w1 + 2))))), (8, .int (iI (G 0 12))), (9, .int (iI ((G 0 (15 + 12 * w1 + 8)))))]) [1, 2, 3, 4, 5, 6, 7, 8, 9, 0] dL_hours_60 rfl (by decide) rfl rfl ?_
  refine aw_aload_n (q := 63) 0 dL_hours_62 rfl rfl rfl ?_
  refine aw_iload_n (q := 64) 3 dL_hours_63 rfl rfl rfl ?_
  refine aw_iconst (q := 65) dL_hours_64 rfl ?_
  refine cv_I (q := 68) (CC := "") (id := 102) (As := [.int (iI w1), .int (iI 5)]) 2 (n_coil (D := D) (C := C) (T := T) (ad := ad) hst (G := G) (K := K2) ht o e2 (c := w1) (k := 5) (by omega) (by omega)) (fun _ h => h) (by omega) (cell_102 ad C _) rfl wc_X5_coil wm_RL_39 wi_X5_coil ws_X5_coil wn_X5 (by decide) rfl ⟨Nat.le_of_ble_eq_true rfl, Nat.le_of_ble_eq_true rfl⟩ ⟨Nat.le_of_ble_eq_true rfl, Nat.le_of_ble_eq_true rfl⟩ (Nat.le_of_ble_eq_true rfl) dL_hours_65 rfl (fun r9 G9 h9 => ?_)
  rw [h9.1, h9.2]
  clear h9
  refine aw_istore (q := 70) (lv2 := [(0, .ref (ad 102)), (1, .int (iI x)), (2, .int (iI y)), (3, .int (iI w1)), (4, .int (iI (w2 + 1))), (5, .int (iI p1)), (6, .int (iI p2)), (7, .int (iI ((G 0 (15 + 12 * w1 + 2))))), (8, .int (iI (G 0 12))), (9, .int (iI ((G 0 (15 + 12 * w1 + 8))))), (10, .int (iI ((G 0 (15 + 12 * w1 + 5)))))]) [1, 2, 3, 4, 5, 6, 7, 8, 9, 10, 0] dL_hours_68 rfl (by decide) rfl rfl ?_
  refine aw_aload_n (q := 71) 0 dL_hours_70 rfl rfl rfl ?_
  refine aw_iconst (q := 72) dL_hours_71 rfl ?_
  refine cv_I (q := 75) (CC := "") (id := 102) (As := [.int (iI 1)]) 1 (n_v1 (D := D) (C := C) (T := T) (ad := ad) hst (G := G) (K := K2) ht o e2 ) (fun _ h => h) (by omega) (cell_102 ad C _) rfl wc_X5_value wm_RL_42 wi_X5_value ws_X5_value wn_X5 (by decide) rfl ⟨Nat.le_of_ble_eq_true rfl, Nat.le_of_ble_eq_true rfl⟩ ⟨Nat.le_of_ble_eq_true rfl, Nat.le_of_ble_eq_true rfl⟩ (Nat.le_of_ble_eq_true rfl) dL_hours_72 rfl (fun r9 G9 h9 => ?_)
  rw [h9.1, h9.2]
  clear h9
  refine aw_istore (q := 77) (lv2 := [(0, .ref (ad 102)), (1, .int (iI x)), (2, .int (iI y)), (3, .int (iI w1)), (4, .int (iI (w2 + 1))), (5, .int (iI p1)), (6, .int (iI p2)), (7, .int (iI ((G 0 (15 + 12 * w1 + 2))))), (8, .int (iI (G 0 12))), (9, .int (iI ((G 0 (15 + 12 * w1 + 8))))), (10, .int (iI ((G 0 (15 + 12 * w1 + 5))))), (11, .int (iI (G 0 10)))]) [1, 2, 3, 4, 5, 6, 7, 8, 9, 10, 11, 0] dL_hours_75 rfl (by decide) rfl rfl ?_
  refine aw_aload_n (q := 78) 0 dL_hours_77 rfl rfl rfl ?_
  refine aw_iload_n (q := 79) 3 dL_hours_78 rfl rfl rfl ?_
  refine cv_F (q := 82) (CC := "") (id := 102) (As := [.int (iI w1)]) 1 (n_demand (D := D) (C := C) (T := T) (ad := ad) hst (G := G) (K := K2) ht o e2 (c := w1) (by omega)) (fun _ h => h) (by omega) (cell_102 ad C _) rfl wc_X5_demand wm_RL_45 wi_X5_demand ws_X5_demand wn_X5 (by decide) rfl ⟨Nat.le_of_ble_eq_true rfl, Nat.le_of_ble_eq_true rfl⟩ ⟨Nat.le_of_ble_eq_true rfl, Nat.le_of_ble_eq_true rfl⟩ (Nat.le_of_ble_eq_true rfl) dL_hours_79 rfl (fun r9 G9 h9 => ?_)
  rw [h9.1, h9.2]
  clear h9
  refine aw_fstore (q := 84) (lv2 := [(0, .ref (ad 102)), (1, .int (iI x)), (2, .int (iI y)), (3, .int (iI w1)), (4, .int (iI (w2 + 1))), (5, .int (iI p1)), (6, .int (iI p2)), (7, .int (iI ((G 0 (15 + 12 * w1 + 2))))), (8, .int (iI (G 0 12))), (9, .int (iI ((G 0 (15 + 12 * w1 + 8))))), (10, .int (iI ((G 0 (15 + 12 * w1 + 5))))), (11, .int (iI (G 0 10))), (12, .float ((fB (G 0 (15 + 12 * w1 + 10)))))]) [1, 2, 3, 4, 5, 6, 7, 8, 9, 10, 11, 12, 0] dL_hours_82 rfl (by decide) rfl rfl ?_
  refine aw_aload_n (q := 85) 0 dL_hours_84 rfl rfl rfl ?_
  refine aw_iconst (q := 86) dL_hours_85 rfl ?_
  refine cv_I (q := 89) (CC := "") (id := 102) (As := [.int (iI 2)]) 1 (n_v2 (D := D) (C := C) (T := T) (ad := ad) hst (G := G) (K := K2) ht o e2 ) (fun _ h => h) (by omega) (cell_102 ad C _) rfl wc_X5_value wm_RL_42 wi_X5_value ws_X5_value wn_X5 (by decide) rfl ⟨Nat.le_of_ble_eq_true rfl, Nat.le_of_ble_eq_true rfl⟩ ⟨Nat.le_of_ble_eq_true rfl, Nat.le_of_ble_eq_true rfl⟩ (Nat.le_of_ble_eq_true rfl) dL_hours_86 rfl (fun r9 G9 h9 => ?_)
  rw [h9.1, h9.2]
  clear h9
  refine aw_istore (q := 91) (lv2 := [(0, .ref (ad 102)), (1, .int (iI x)), (2, .int (iI y)), (3, .int (iI w1)), (4, .int (iI (w2 + 1))), (5, .int (iI p1)), (6, .int (iI p2)), (7, .int (iI ((G 0 (15 + 12 * w1 + 2))))), (8, .int (iI (G 0 12))), (9, .int (iI ((G 0 (15 + 12 * w1 + 8))))), (10, .int (iI ((G 0 (15 + 12 * w1 + 5))))), (11, .int (iI (G 0 10))), (12, .float ((fB (G 0 (15 + 12 * w1 + 10))))), (13, .int (iI ((worthF (G 0) 5))))]) [1, 2, 3, 4, 5, 6, 7, 8, 9, 10, 11, 12, 13, 0] dL_hours_89 rfl (by decide) rfl rfl ?_
  refine aw_aload_n (q := 92) 0 dL_hours_91 rfl rfl rfl ?_
  refine aw_iload_n (q := 93) 3 dL_hours_92 rfl rfl rfl ?_
  refine aw_iconst (q := 94) dL_hours_93 rfl ?_
  refine cv_I (q := 97) (CC := "") (id := 102) (As := [.int (iI w1), .int (iI 0)]) 2 (n_priceIn (D := D) (C := C) (T := T) (ad := ad) hst (G := G) (K := K2) ht o e2 (c := w1) (h0 := 0) (by omega) (by omega)) (fun _ h => h) (by omega) (cell_102 ad C _) rfl wc_X5_priceIn wm_RL_88 wi_X5_priceIn ws_X5_priceIn wn_X5 (by decide) rfl ⟨Nat.le_of_ble_eq_true rfl, Nat.le_of_ble_eq_true rfl⟩ ⟨Nat.le_of_ble_eq_true rfl, Nat.le_of_ble_eq_true rfl⟩ (Nat.le_of_ble_eq_true rfl) dL_hours_94 rfl (fun p3 K3 h9 => ?_)
  obtain ⟨rfl, e3⟩ := h9
  rw [show hoursR (G 0) (0 : Int).toNat = G 0 from rfl]
  refine aw_iload (q := 99) 7 dL_hours_97 rfl rfl ?_
  refine aw_icmp_ne (q := 102) dL_hours_99 rfl (t := 154) (by decide) (by omega) (by omega) (fun h => absurd h (by omega)) (fun _ => ?_)
  refine aw_iload (q := 104) 10 dL_hours_102 rfl rfl ?_
  refine aw_if_le (q := 107) dL_hours_104 rfl (t := 114) (by decide) (by omega) (fun h1 => ?_) (fun h2 => ?_)
  · refine aw_iload (q := 116) 6 dL_hours_114 rfl rfl ?_
    refine aw_iload (q := 118) 7 dL_hours_116 rfl rfl ?_
    refine aw_iconst (q := 119) dL_hours_118 rfl ?_
    refine ae_iadd (q := 120) ((G 0 (15 + 12 * w1 + 2)) + 5) (by omega) dL_hours_119 rfl ?_
    refine aw_icmp_gt (q := 123) dL_hours_120 rfl (t := 154) (by decide) (by omega) (by omega) (fun h => ((by have := hc2.1; omega : False)).elim) (fun h3 => ?_)
    refine aw_aload_n (q := 124) 0 dL_hours_123 rfl rfl rfl ?_
    refine aw_iload (q := 126) 4 dL_hours_124 rfl rfl ?_
    refine cv_I (q := 129) (CC := "") (id := 102) (As := [.int (iI (w2 + 1))]) 1 (n_pass (D := D) (C := C) (T := T) (ad := ad) hst (G := G) (K := K3) ht o e3 (h0 := (w2 + 1)) (by omega) (by omega)) (fun _ h => h) (by omega) (cell_102 ad C _) rfl wc_X5_pass wm_RL_28 wi_X5_pass ws_X5_pass wn_X5 (by decide) rfl ⟨Nat.le_of_ble_eq_true rfl, Nat.le_of_ble_eq_true rfl⟩ ⟨Nat.le_of_ble_eq_true rfl, Nat.le_of_ble_eq_true rfl⟩ (Nat.le_of_ble_eq_true rfl) dL_hours_126 rfl (fun r1 A h9 => ?_)
    obtain ⟨hr1, oA, hA, -⟩ := h9
    have hA12 := hA 12 (by omega)
    have hA10 := (hA 10 (by omega)).trans (hours_10 o.1.1 (w2 + 1).toNat)
    have hA13 := (hA 13 (by omega)).trans (hours_ne o.1.1 (by omega) (w2 + 1).toNat)
    have hA2 := (hA 2 (by omega)).trans (hours_ne o.1.1 (by omega) (w2 + 1).toNat)
    have hw5 : worthF (A 0) 5 = worthF (G 0) 5 := by
      show 5 * A 0 5 + 10 * A 0 6 + 20 * A 0 7 + 50 * A 0 8 = 5 * G 0 5 + 10 * G 0 6 + 20 * G 0 7 + 50 * G 0 8
      rw [(hA 5 (by omega)).trans (hours_ne o.1.1 (by omega) (w2 + 1).toNat), (hA 6 (by omega)).trans (hours_ne o.1.1 (by omega) (w2 + 1).toNat), (hA 7 (by omega)).trans (hours_ne o.1.1 (by omega) (w2 + 1).toNat), (hA 8 (by omega)).trans (hours_ne o.1.1 (by omega) (w2 + 1).toNat)]
    have f12 := hours_12 o.1.1 (w2 + 1).toNat
    refine aw_aload_n (q := 130) 0 dL_hours_129 rfl rfl rfl ?_
    refine aw_bipush (q := 132) dL_hours_130 rfl (by decide) ?_
    refine cv_I (q := 135) (CC := "") (id := 102) (As := [.int (iI 9)]) 1 (n_v9 (D := D) (C := C) (T := T) (ad := ad) hst (G := A) (K := A) (by omega) oA eq0.rf ) (fun _ h => h) (by omega) (cell_102 ad C _) rfl wc_X5_value wm_RL_42 wi_X5_value ws_X5_value wn_X5 (by decide) rfl ⟨Nat.le_of_ble_eq_true rfl, Nat.le_of_ble_eq_true rfl⟩ ⟨Nat.le_of_ble_eq_true rfl, Nat.le_of_ble_eq_true rfl⟩ (Nat.le_of_ble_eq_true rfl) dL_hours_132 rfl (fun r9 G9 h9 => ?_)
    rw [h9.1, h9.2]
    clear h9
    refine aw_iload (q := 137) 8 dL_hours_135 rfl rfl ?_
    refine ae_isub (q := 138) ((A 0 12) - (G 0 12)) (by omega) dL_hours_137 rfl ?_
    refine aw_same_ne (q := 141) (by omega) dL_hours_138 rfl (t := 154) (by decide) ?_
    refine aw_aload_n (q := 142) 0 dL_hours_141 rfl rfl rfl ?_
    refine aw_iconst (q := 143) dL_hours_142 rfl ?_
    refine cv_I (q := 146) (CC := "") (id := 102) (As := [.int (iI 1)]) 1 (n_v1 (D := D) (C := C) (T := T) (ad := ad) hst (G := A) (K := A) (by omega) oA eq0.rf ) (fun _ h => h) (by omega) (cell_102 ad C _) rfl wc_X5_value wm_RL_42 wi_X5_value ws_X5_value wn_X5 (by decide) rfl ⟨Nat.le_of_ble_eq_true rfl, Nat.le_of_ble_eq_true rfl⟩ ⟨Nat.le_of_ble_eq_true rfl, Nat.le_of_ble_eq_true rfl⟩ (Nat.le_of_ble_eq_true rfl) dL_hours_143 rfl (fun r9 G9 h9 => ?_)
    rw [h9.1, h9.2]
    clear h9
    refine aw_iload (q := 148) 11 dL_hours_146 rfl rfl ?_
    refine aw_iload (q := 150) 4 dL_hours_148 rfl rfl ?_
    refine ae_iadd (q := 151) ((G 0 10) + w2 + 1) (by omega) dL_hours_150 rfl ?_
    refine aw_same_eq (q := 154) (by omega) dL_hours_151 rfl (t := 156) (by decide) ?_
    refine aw_fload (q := 158) 12 dL_hours_156 rfl rfl ?_
    refine aw_fstore (q := 160) (lv2 := [(0, .ref (ad 102)), (1, .int (iI x)), (2, .int (iI y)), (3, .int (iI w1)), (4, .int (iI (w2 + 1))), (5, .int (iI p1)), (6, .int (iI p2)), (7, .int (iI ((G 0 (15 + 12 * w1 + 2))))), (8, .int (iI (G 0 12))), (9, .int (iI ((G 0 (15 + 12 * w1 + 8))))), (10, .int (iI ((G 0 (15 + 12 * w1 + 5))))), (11, .int (iI (G 0 10))), (12, .float ((fB (G 0 (15 + 12 * w1 + 10))))), (13, .int (iI ((worthF (G 0) 5)))), (14, .float ((fB (G 0 (15 + 12 * w1 + 10)))))]) [1, 2, 3, 4, 5, 6, 7, 8, 9, 10, 11, 12, 13, 14, 0] dL_hours_158 rfl (by decide) rfl rfl ?_
    refine aw_iconst (q := 161) dL_hours_160 rfl ?_
    refine aw_istore (q := 163) (lv2 := [(0, .ref (ad 102)), (1, .int (iI x)), (2, .int (iI y)), (3, .int (iI w1)), (4, .int (iI (w2 + 1))), (5, .int (iI p1)), (6, .int (iI p2)), (7, .int (iI ((G 0 (15 + 12 * w1 + 2))))), (8, .int (iI (G 0 12))), (9, .int (iI ((G 0 (15 + 12 * w1 + 8))))), (10, .int (iI ((G 0 (15 + 12 * w1 + 5))))), (11, .int (iI (G 0 10))), (12, .float ((fB (G 0 (15 + 12 * w1 + 10))))), (13, .int (iI ((worthF (G 0) 5)))), (14, .float ((fB (G 0 (15 + 12 * w1 + 10))))), (15, .int (iI 0))]) [1, 2, 3, 4, 5, 6, 7, 8, 9, 10, 11, 12, 13, 14, 15, 0] dL_hours_161 rfl (by decide) rfl rfl ?_
    exact LH_hours (x := x) (y := y) (w := w1) (n := (w2 + 1)) (p := p1) (p0 := p2) (nw := (G 0 (15 + 12 * w1 + 2))) (fi := (G 0 12)) (ra := (G 0 (15 + 12 * w1 + 8))) (ba := (G 0 (15 + 12 * w1 + 5))) (hr := (G 0 10)) (de := (G 0 (15 + 12 * w1 + 10))) (mo := worthF (G 0) 5) hst (by omega) oA (by omega) (by omega) ((hA _ (by omega)).trans hp1.symm) (by have oc9 := oA.1.1.2.2 w1 (by omega) (by omega); have q1 := oc9.2.1; have q2 := oc9.2.2.1; have q3 := oc9.2.2.2.1; have q4 := oc9.2.2.2.2.1; omega) (by rw [hA _ (by omega), hcd, hA2]) ocw (by omega) (by rw [hA _ (by omega)]; omega) (by omega) (fun z1 z2 => by rw [hA _ (by omega), show (w2 + 1).toNat = (1 : Int).toNat by omega]; exact (hc2.2 z1).1) hw5 14 0 (by omega) (by omega) (by omega)
  · refine aw_iload (q := 109) 6 dL_hours_107 rfl rfl ?_
    refine aw_iload (q := 111) 7 dL_hours_109 rfl rfl ?_
    refine aw_icmp_gt (q := 114) dL_hours_111 rfl (t := 154) (by decide) (by omega) (by omega) (fun h => ((by have := (hc2.2 (by omega)).2; omega : False)).elim) (fun h4 => ?_)
    refine aw_iload (q := 116) 6 dL_hours_114 rfl rfl ?_
    refine aw_iload (q := 118) 7 dL_hours_116 rfl rfl ?_
    refine aw_iconst (q := 119) dL_hours_118 rfl ?_
    refine ae_iadd (q := 120) ((G 0 (15 + 12 * w1 + 2)) + 5) (by omega) dL_hours_119 rfl ?_
    refine aw_icmp_gt (q := 123) dL_hours_120 rfl (t := 154) (by decide) (by omega) (by omega) (fun h => ((by have := hc2.1; omega : False)).elim) (fun h5 => ?_)
    refine aw_aload_n (q := 124) 0 dL_hours_123 rfl rfl rfl ?_
    refine aw_iload (q := 126) 4 dL_hours_124 rfl rfl ?_
    refine cv_I (q := 129) (CC := "") (id := 102) (As := [.int (iI (w2 + 1))]) 1 (n_pass (D := D) (C := C) (T := T) (ad := ad) hst (G := G) (K := K3) ht o e3 (h0 := (w2 + 1)) (by omega) (by omega)) (fun _ h => h) (by omega) (cell_102 ad C _) rfl wc_X5_pass wm_RL_28 wi_X5_pass ws_X5_pass wn_X5 (by decide) rfl ⟨Nat.le_of_ble_eq_true rfl, Nat.le_of_ble_eq_true rfl⟩ ⟨Nat.le_of_ble_eq_true rfl, Nat.le_of_ble_eq_true rfl⟩ (Nat.le_of_ble_eq_true rfl) dL_hours_126 rfl (fun r1 A h9 => ?_)
    obtain ⟨hr1, oA, hA, -⟩ := h9
    have hA12 := hA 12 (by omega)
    have hA10 := (hA 10 (by omega)).trans (hours_10 o.1.1 (w2 + 1).toNat)
    have hA13 := (hA 13 (by omega)).trans (hours_ne o.1.1 (by omega) (w2 + 1).toNat)
    have hA2 := (hA 2 (by omega)).trans (hours_ne o.1.1 (by omega) (w2 + 1).toNat)
    have hw5 : worthF (A 0) 5 = worthF (G 0) 5 := by
      show 5 * A 0 5 + 10 * A 0 6 + 20 * A 0 7 + 50 * A 0 8 = 5 * G 0 5 + 10 * G 0 6 + 20 * G 0 7 + 50 * G 0 8
      rw [(hA 5 (by omega)).trans (hours_ne o.1.1 (by omega) (w2 + 1).toNat), (hA 6 (by omega)).trans (hours_ne o.1.1 (by omega) (w2 + 1).toNat), (hA 7 (by omega)).trans (hours_ne o.1.1 (by omega) (w2 + 1).toNat), (hA 8 (by omega)).trans (hours_ne o.1.1 (by omega) (w2 + 1).toNat)]
    have f12 := hours_12 o.1.1 (w2 + 1).toNat
    refine aw_aload_n (q := 130) 0 dL_hours_129 rfl rfl rfl ?_
    refine aw_bipush (q := 132) dL_hours_130 rfl (by decide) ?_
    refine cv_I (q := 135) (CC := "") (id := 102) (As := [.int (iI 9)]) 1 (n_v9 (D := D) (C := C) (T := T) (ad := ad) hst (G := A) (K := A) (by omega) oA eq0.rf ) (fun _ h => h) (by omega) (cell_102 ad C _) rfl wc_X5_value wm_RL_42 wi_X5_value ws_X5_value wn_X5 (by decide) rfl ⟨Nat.le_of_ble_eq_true rfl, Nat.le_of_ble_eq_true rfl⟩ ⟨Nat.le_of_ble_eq_true rfl, Nat.le_of_ble_eq_true rfl⟩ (Nat.le_of_ble_eq_true rfl) dL_hours_132 rfl (fun r9 G9 h9 => ?_)
    rw [h9.1, h9.2]
    clear h9
    refine aw_iload (q := 137) 8 dL_hours_135 rfl rfl ?_
    refine ae_isub (q := 138) ((A 0 12) - (G 0 12)) (by omega) dL_hours_137 rfl ?_
    refine aw_same_ne (q := 141) (by omega) dL_hours_138 rfl (t := 154) (by decide) ?_
    refine aw_aload_n (q := 142) 0 dL_hours_141 rfl rfl rfl ?_
    refine aw_iconst (q := 143) dL_hours_142 rfl ?_
    refine cv_I (q := 146) (CC := "") (id := 102) (As := [.int (iI 1)]) 1 (n_v1 (D := D) (C := C) (T := T) (ad := ad) hst (G := A) (K := A) (by omega) oA eq0.rf ) (fun _ h => h) (by omega) (cell_102 ad C _) rfl wc_X5_value wm_RL_42 wi_X5_value ws_X5_value wn_X5 (by decide) rfl ⟨Nat.le_of_ble_eq_true rfl, Nat.le_of_ble_eq_true rfl⟩ ⟨Nat.le_of_ble_eq_true rfl, Nat.le_of_ble_eq_true rfl⟩ (Nat.le_of_ble_eq_true rfl) dL_hours_143 rfl (fun r9 G9 h9 => ?_)
    rw [h9.1, h9.2]
    clear h9
    refine aw_iload (q := 148) 11 dL_hours_146 rfl rfl ?_
    refine aw_iload (q := 150) 4 dL_hours_148 rfl rfl ?_
    refine ae_iadd (q := 151) ((G 0 10) + w2 + 1) (by omega) dL_hours_150 rfl ?_
    refine aw_same_eq (q := 154) (by omega) dL_hours_151 rfl (t := 156) (by decide) ?_
    refine aw_fload (q := 158) 12 dL_hours_156 rfl rfl ?_
    refine aw_fstore (q := 160) (lv2 := [(0, .ref (ad 102)), (1, .int (iI x)), (2, .int (iI y)), (3, .int (iI w1)), (4, .int (iI (w2 + 1))), (5, .int (iI p1)), (6, .int (iI p2)), (7, .int (iI ((G 0 (15 + 12 * w1 + 2))))), (8, .int (iI (G 0 12))), (9, .int (iI ((G 0 (15 + 12 * w1 + 8))))), (10, .int (iI ((G 0 (15 + 12 * w1 + 5))))), (11, .int (iI (G 0 10))), (12, .float ((fB (G 0 (15 + 12 * w1 + 10))))), (13, .int (iI ((worthF (G 0) 5)))), (14, .float ((fB (G 0 (15 + 12 * w1 + 10)))))]) [1, 2, 3, 4, 5, 6, 7, 8, 9, 10, 11, 12, 13, 14, 0] dL_hours_158 rfl (by decide) rfl rfl ?_
    refine aw_iconst (q := 161) dL_hours_160 rfl ?_
    refine aw_istore (q := 163) (lv2 := [(0, .ref (ad 102)), (1, .int (iI x)), (2, .int (iI y)), (3, .int (iI w1)), (4, .int (iI (w2 + 1))), (5, .int (iI p1)), (6, .int (iI p2)), (7, .int (iI ((G 0 (15 + 12 * w1 + 2))))), (8, .int (iI (G 0 12))), (9, .int (iI ((G 0 (15 + 12 * w1 + 8))))), (10, .int (iI ((G 0 (15 + 12 * w1 + 5))))), (11, .int (iI (G 0 10))), (12, .float ((fB (G 0 (15 + 12 * w1 + 10))))), (13, .int (iI ((worthF (G 0) 5)))), (14, .float ((fB (G 0 (15 + 12 * w1 + 10))))), (15, .int (iI 0))]) [1, 2, 3, 4, 5, 6, 7, 8, 9, 10, 11, 12, 13, 14, 15, 0] dL_hours_161 rfl (by decide) rfl rfl ?_
    exact LH_hours (x := x) (y := y) (w := w1) (n := (w2 + 1)) (p := p1) (p0 := p2) (nw := (G 0 (15 + 12 * w1 + 2))) (fi := (G 0 12)) (ra := (G 0 (15 + 12 * w1 + 8))) (ba := (G 0 (15 + 12 * w1 + 5))) (hr := (G 0 10)) (de := (G 0 (15 + 12 * w1 + 10))) (mo := worthF (G 0) 5) hst (by omega) oA (by omega) (by omega) ((hA _ (by omega)).trans hp1.symm) (by have oc9 := oA.1.1.2.2 w1 (by omega) (by omega); have q1 := oc9.2.1; have q2 := oc9.2.2.1; have q3 := oc9.2.2.2.1; have q4 := oc9.2.2.2.2.1; omega) (by rw [hA _ (by omega), hcd, hA2]) ocw (by omega) (by rw [hA _ (by omega)]; omega) (by omega) (fun z1 z2 => by rw [hA _ (by omega), show (w2 + 1).toNat = (1 : Int).toNat by omega]; exact (hc2.2 z1).1) hw5 14 0 (by omega) (by omega) (by omega)
