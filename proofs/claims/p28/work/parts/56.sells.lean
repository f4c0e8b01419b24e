/-! the law's sells -/
theorem sumQ_at {q : Int → Int} {m : Int} : ∀ n : Nat, (∀ j : Int, 0 ≤ j → j < n → 0 ≤ q j) → 0 ≤ m → m < n → q m ≤ sumQ q n
  | 0, _, h0, h1 => by omega
  | n + 1, hq, h0, h1 => by
    show q m ≤ sumQ q n + q n
    have hn := hq (n : Int) (by omega) (by omega)
    by_cases z : m = (n : Int)
    · subst z
      have hs : 0 * ((n : Nat) : Int) ≤ sumQ q n := sumQ_ge n (fun j j0 j1 => hq j j0 (by omega))
      omega
    · have := sumQ_at (q := q) (m := m) n (fun j j0 j1 => hq j j0 (by omega)) h0 (by omega)
      omega
theorem prom_le {t : Int} {G : GG} (o : okI t G) {m : Int} (h : 0 ≤ m ∧ m < G 0 14) : 5 ≤ G 0 (111 + m) ∧ G 0 (111 + m) % 5 = 0 ∧ G 0 (111 + m) ≤ 1000 := by
  obtain ⟨r1, r2, r3⟩ := o.1.2.2
  have h5 := r1 m h.1 h.2
  have hs := sumQ_at (q := prm G 0) (m := m) (G 0 14).toNat (fun j j0 j1 => by have := (r1 j j0 (by omega)).1; show 0 ≤ G 0 (111 + j); omega) h.1 (by omega)
  have e : prm G 0 m = G 0 (111 + m) := rfl
  omega
theorem n_promise0 {l : Launch} {D : va_G} {C : Nat → ClassId} {T : Nat → Nat} {ad : Int → Nat} (hst : l.stackTraces = false) {t : Int} {G K : GG} (ht : t ≤ 1000) (o : okI t G) (e : eq0 G K) (h : 0 < G 0 14) : MC l yX5_promise cX5_promise 2 (some .int) 6 95 0 0 D (tyC C) T [.ref (ad 102), .int (iI 0)] (cw ad C K) (RI ad C (fun r G1 => r = G 0 111 ∧ G1 = K)) := mc_ri (n_promise hst ht o e (by omega)) (fun r G1 h => ⟨h.1, h.2⟩)
set_option maxHeartbeats 4000000 in
set_option maxRecDepth 100000 in
theorem SB_sells {l : Launch} {D : va_G} {C : Nat → ClassId} {T : Nat → Nat} {ad : Int → Nat} (hst : l.stackTraces = false) {t : Int} {G K0 K : GG} (ht : 0 ≤ t ∧ t ≤ 900) (o : okI t G) {k y f te tw fi pu ro : Int} (hk : 0 ≤ k ∧ k < G 0 13) (hf : 0 ≤ f ∧ f ≤ 9) (hte : 0 ≤ te ∧ te ≤ 3) (htw : 0 ≤ tw ∧ tw ≤ 3) (hfi : 0 ≤ fi ∧ fi ≤ 4) (hpu : 5 * f + 10 * te + 20 * tw + 50 * fi = pu) (e : eq0 G K) (hro : ro = -1 ∨ (0 ≤ ro ∧ ro ≤ G 0 (15 + 12 * k + 1) ∧ (1 ≤ ro ↔ canSellP (cinG G f te tw fi) 0 k 10))) : AW l RL "sells" cL_sells 19 (some .boolean) (fun _ => True) { frames := 8, cells := 1, slots := 6, locals := 226 } (hvE D (RI ad C (fun r G1 => r = 1 ∧ okI (t + 1) G1)) (cw ad C K0) 1 6) D (tyC C) (hvZ T (cw ad C K0)) (cw ad C K0) 167 [(0, .ref (ad 102)), (1, .int (iI k)), (2, .int (iI y)), (3, .int (iI f)), (4, .int (iI te)), (5, .int (iI tw)), (6, .int (iI fi)), (7, .int (iI pu)), (8, .int (iI ((G 0 (15 + 12 * k + 2))))), (9, .int (iI ((G 0 (15 + 12 * k + 1))))), (10, .int (iI ((G 0 (15 + 12 * k + 6))))), (11, .int (iI ((G 0 (15 + 12 * k + 7))))), (12, .int (iI ((worthF (G 0) 5) + (G 0 9)))), (13, .int (iI (G 0 11))), (14, .int (iI (G 0 311))), (15, .float ((fB (G 0 (15 + 12 * k + 10))))), (16, .int (iI ro))] [] (cw ad C K) 0 0 := by
  have o8 := o.1.1.2.1
  have oc := o.1.1.2.2 k hk.1 hk.2
  have oc1 := oc.1
  have oc3 := oc.2.1
  have oc2 := oc.2.2.1
  have oc24 := oc.2.2.2.1
  have oc4 := oc.2.2.2.2.1
  have ocw := oc.2.2.2.2.2.2.2.1
  have os3 := o.1.1.1.2.2.2.1
  have oR := okR_5 o.1.2.1.1.1 o.1.2.2
  have o14 := o.1.2.1.1
  have o311 := o.1.2.2.2.2
  refine aw_aload_n (q := 168) 0 dL_sells_167 rfl rfl rfl ?_
  refine aw_iload_n (q := 169) 1 dL_sells_168 rfl rfl rfl ?_
  refine aw_iload_n (q := 170) 3 dL_sells_169 rfl rfl rfl ?_
  refine aw_iload (q := 172) 4 dL_sells_170 rfl rfl ?_
  refine aw_iload (q := 174) 5 dL_sells_172 rfl rfl ?_
  refine aw_iload (q := 176) 6 dL_sells_174 rfl rfl ?_
  refine ch_I (As := [.ref (ad 102), .int (iI k), .int (iI f), .int (iI te), .int (iI tw), .int (iI fi)]) 6 (n_buy (D := D) (C := C) (T := T) (ad := ad) hst (G := G) (K := K) (by omega) o e (a0 := k) (a1 := f) (a2 := te) (a3 := tw) (a4 := fi) hk hf (by omega) (by omega) (by omega)) (fun _ h => h) wcw_L_buy wm_RL_82 wt_L_buy wn_L (by decide) rfl ⟨Nat.le_of_ble_eq_true rfl, Nat.le_of_ble_eq_true rfl⟩ ⟨Nat.le_of_ble_eq_true rfl, Nat.le_of_ble_eq_true rfl⟩ (Nat.le_of_ble_eq_true rfl) dL_sells_176 rfl (fun r1 A h9 => ?_)
  rcases h9 with ⟨hcan, oA, hs⟩ | ⟨rfl, hcan, eA⟩
  · obtain ⟨s1, s2, s13, s5, sg, ss, su, sd, sm, sp⟩ := hs
    have hro1 : ro ≠ 0 ∧ ro ≤ G 0 (15 + 12 * k + 1) := by
      rcases hro with z | ⟨z1, z2, z3⟩
      · exact ⟨by omega, by omega⟩
      · have := z3.mpr hcan
        exact ⟨by omega, z2⟩
    have e3 := s5 3 (by omega) (by omega)
    have aR := okR_5 oA.1.2.1.1.1 oA.1.2.2
    have a14 := oA.1.2.1.1
    have a311 := oA.1.2.2.2.2
    have ap : 0 < A 0 14 → 5 ≤ A 0 111 ∧ A 0 111 % 5 = 0 ∧ A 0 111 ≤ 1000 := fun z => prom_le oA (m := 0) (by omega)
    have hp5 : putF f te tw fi = pu := hpu
    rw [hp5] at s1 sm
    rcases sm with ⟨hr, hmon, how⟩ | ⟨hr, hmon, how, hlim⟩
    · refine aw_istore (q := 181) (lv2 := [(0, .ref (ad 102)), (1, .int (iI k)), (2, .int (iI y)), (3, .int (iI f)), (4, .int (iI te)), (5, .int (iI tw)), (6, .int (iI fi)), (7, .int (iI pu)), (8, .int (iI ((G 0 (15 + 12 * k + 2))))), (9, .int (iI ((G 0 (15 + 12 * k + 1))))), (10, .int (iI ((G 0 (15 + 12 * k + 6))))), (11, .int (iI ((G 0 (15 + 12 * k + 7))))), (12, .int (iI ((worthF (G 0) 5) + (G 0 9)))), (13, .int (iI (G 0 11))), (14, .int (iI (G 0 311))), (15, .float ((fB (G 0 (15 + 12 * k + 10))))), (16, .int (iI ro)), (17, .int (iI r1))]) [1, 2, 3, 4, 5, 6, 7, 8, 9, 10, 11, 12, 13, 14, 15, 16, 17, 0] dL_sells_179 rfl (by decide) rfl rfl ?_
      refine aw_iload (q := 183) 17 dL_sells_181 rfl rfl ?_
      refine aw_sipush (q := 186) dL_sells_183 rfl (by decide) ?_
      refine aw_icmp_ne (q := 189) dL_sells_186 rfl (t := 277) (by decide) (by omega) (by omega) (fun h11 => ?_) (fun h => ((by omega : False)).elim)
      refine aw_iload (q := 279) 17 dL_sells_277 rfl rfl ?_
      refine aw_if_ge (q := 282) dL_sells_279 rfl (t := 290) (by decide) (by omega) (fun h12 => ?_) (fun h => ((by omega : False)).elim)
      refine aw_iload (q := 292) 17 dL_sells_290 rfl rfl ?_
      refine aw_istore (q := 294) (lv2 := [(0, .ref (ad 102)), (1, .int (iI k)), (2, .int (iI y)), (3, .int (iI f)), (4, .int (iI te)), (5, .int (iI tw)), (6, .int (iI fi)), (7, .int (iI pu)), (8, .int (iI ((G 0 (15 + 12 * k + 2))))), (9, .int (iI ((G 0 (15 + 12 * k + 1))))), (10, .int (iI ((G 0 (15 + 12 * k + 6))))), (11, .int (iI ((G 0 (15 + 12 * k + 7))))), (12, .int (iI ((worthF (G 0) 5) + (G 0 9)))), (13, .int (iI (G 0 11))), (14, .int (iI (G 0 311))), (15, .float ((fB (G 0 (15 + 12 * k + 10))))), (16, .int (iI ro)), (17, .int (iI r1)), (18, .int (iI r1))]) [1, 2, 3, 4, 5, 6, 7, 8, 9, 10, 11, 12, 13, 14, 15, 16, 17, 18, 0] dL_sells_292 rfl (by decide) rfl rfl ?_
      refine aw_iload (q := 296) 16 dL_sells_294 rfl rfl ?_
      refine aw_if_eq (q := 299) dL_sells_296 rfl (t := 493) (by decide) (by omega) (fun h => ((by omega : False)).elim) (fun h13 => ?_)
      refine aw_iload (q := 301) 16 dL_sells_299 rfl rfl ?_
      refine aw_iload (q := 303) 9 dL_sells_301 rfl rfl ?_
      refine aw_icmp_gt (q := 306) dL_sells_303 rfl (t := 493) (by decide) (by omega) (by omega) (fun h => ((by omega : False)).elim) (fun h14 => ?_)
      refine aw_iload (q := 308) 18 dL_sells_306 rfl rfl ?_
      refine aw_iload (q := 310) 7 dL_sells_308 rfl rfl ?_
      refine aw_iload (q := 312) 8 dL_sells_310 rfl rfl ?_
      refine ae_isub (q := 313) (pu - (G 0 (15 + 12 * k + 2))) (by omega) dL_sells_312 rfl ?_
      refine aw_same_ne (q := 316) (by omega) dL_sells_313 rfl (t := 493) (by decide) ?_
      refine aw_iload (q := 318) 9 dL_sells_316 rfl rfl ?_
      refine aw_if_le (q := 321) dL_sells_318 rfl (t := 493) (by decide) (by omega) (fun h => ((by omega : False)).elim) (fun h15 => ?_)
      refine aw_aload_n (q := 322) 0 dL_sells_321 rfl rfl rfl ?_
      refine aw_iload_n (q := 323) 1 dL_sells_322 rfl rfl rfl ?_
      refine aw_iconst (q := 324) dL_sells_323 rfl ?_
      refine cv_I (q := 327) (CC := "") (id := 102) (As := [.int (iI k), .int (iI 1)]) 2 (n_coil (D := D) (C := C) (T := T) (ad := ad) hst (G := A) (K := A) (by omega) oA eq0.rf (c := k) (k := 1) (by omega) (by omega)) (fun _ h => h) (by omega) (cell_102 ad C _) rfl wc_X5_coil wm_RL_39 wi_X5_coil ws_X5_coil wn_X5 (by decide) rfl ⟨Nat.le_of_ble_eq_true rfl, Nat.le_of_ble_eq_true rfl⟩ ⟨Nat.le_of_ble_eq_true rfl, Nat.le_of_ble_eq_true rfl⟩ (Nat.le_of_ble_eq_true rfl) dL_sells_324 rfl (fun r9 G9 h9 => ?_)
      rw [h9.1, h9.2]
      clear h9
      refine aw_iload (q := 329) 9 dL_sells_327 rfl rfl ?_
      refine aw_iconst (q := 330) dL_sells_329 rfl ?_
      refine ae_isub (q := 331) ((G 0 (15 + 12 * k + 1)) - 1) (by omega) dL_sells_330 rfl ?_
      refine aw_same_ne (q := 334) (by omega) dL_sells_331 rfl (t := 493) (by decide) ?_
      refine aw_aload_n (q := 335) 0 dL_sells_334 rfl rfl rfl ?_
      refine aw_iload_n (q := 336) 1 dL_sells_335 rfl rfl rfl ?_
      refine aw_bipush (q := 338) dL_sells_336 rfl (by decide) ?_
      refine cv_I (q := 341) (CC := "") (id := 102) (As := [.int (iI k), .int (iI 6)]) 2 (n_coil (D := D) (C := C) (T := T) (ad := ad) hst (G := A) (K := A) (by omega) oA eq0.rf (c := k) (k := 6) (by omega) (by omega)) (fun _ h => h) (by omega) (cell_102 ad C _) rfl wc_X5_coil wm_RL_39 wi_X5_coil ws_X5_coil wn_X5 (by decide) rfl ⟨Nat.le_of_ble_eq_true rfl, Nat.le_of_ble_eq_true rfl⟩ ⟨Nat.le_of_ble_eq_true rfl, Nat.le_of_ble_eq_true rfl⟩ (Nat.le_of_ble_eq_true rfl) dL_sells_338 rfl (fun r9 G9 h9 => ?_)
      rw [h9.1, h9.2]
      clear h9
      refine aw_iload (q := 343) 10 dL_sells_341 rfl rfl ?_
      refine aw_iconst (q := 344) dL_sells_343 rfl ?_
      refine ae_iadd (q := 345) ((G 0 (15 + 12 * k + 6)) + 1) (by omega) dL_sells_344 rfl ?_
      refine aw_same_ne (q := 348) (by omega) dL_sells_345 rfl (t := 493) (by decide) ?_
      refine aw_aload_n (q := 349) 0 dL_sells_348 rfl rfl rfl ?_
      refine aw_iload_n (q := 350) 1 dL_sells_349 rfl rfl rfl ?_
      refine aw_bipush (q := 352) dL_sells_350 rfl (by decide) ?_
      refine cv_I (q := 355) (CC := "") (id := 102) (As := [.int (iI k), .int (iI 7)]) 2 (n_coil (D := D) (C := C) (T := T) (ad := ad) hst (G := A) (K := A) (by omega) oA eq0.rf (c := k) (k := 7) (by omega) (by omega)) (fun _ h => h) (by omega) (cell_102 ad C _) rfl wc_X5_coil wm_RL_39 wi_X5_coil ws_X5_coil wn_X5 (by decide) rfl ⟨Nat.le_of_ble_eq_true rfl, Nat.le_of_ble_eq_true rfl⟩ ⟨Nat.le_of_ble_eq_true rfl, Nat.le_of_ble_eq_true rfl⟩ (Nat.le_of_ble_eq_true rfl) dL_sells_352 rfl (fun r9 G9 h9 => ?_)
      rw [h9.1, h9.2]
      clear h9
      refine aw_iload (q := 357) 11 dL_sells_355 rfl rfl ?_
      refine aw_iload (q := 359) 8 dL_sells_357 rfl rfl ?_
      refine ae_iadd (q := 360) ((G 0 (15 + 12 * k + 7)) + (G 0 (15 + 12 * k + 2))) (by omega) dL_sells_359 rfl ?_
      refine aw_same_ne (q := 363) (by omega) dL_sells_360 rfl (t := 493) (by decide) ?_
      refine aw_aload_n (q := 364) 0 dL_sells_363 rfl rfl rfl ?_
      refine aw_iload_n (q := 365) 1 dL_sells_364 rfl rfl rfl ?_
      refine cv_F (q := 368) (CC := "") (id := 102) (As := [.int (iI k)]) 1 (n_demand (D := D) (C := C) (T := T) (ad := ad) hst (G := A) (K := A) (by omega) oA eq0.rf (c := k) (by omega)) (fun _ h => h) (by omega) (cell_102 ad C _) rfl wc_X5_demand wm_RL_45 wi_X5_demand ws_X5_demand wn_X5 (by decide) rfl ⟨Nat.le_of_ble_eq_true rfl, Nat.le_of_ble_eq_true rfl⟩ ⟨Nat.le_of_ble_eq_true rfl, Nat.le_of_ble_eq_true rfl⟩ (Nat.le_of_ble_eq_true rfl) dL_sells_365 rfl (fun r9 G9 h9 => ?_)
      rw [h9.1, h9.2]
      clear h9
      refine aw_fload (q := 370) 15 dL_sells_368 rfl rfl ?_
      refine aw_fconst1 (q := 371) dL_sells_370 rfl ?_
      refine aw_fadd (q := 372) dL_sells_371 rfl (fw_add1 ocw).1 ?_
      refine aw_fcmp (q := 373) dL_sells_372 rfl ?_
      refine aw_ifW_ne (q := 376) dL_sells_373 rfl (t := 493) (by decide) (fun h => (h (by rw [sd, show FP.fadd (fB (G 0 (15 + 12 * k + 10))) FP.fconst1 = fB (fadd1 (G 0 (15 + 12 * k + 10))) from (fB_nat _).symm]; exact okW_eq (fw_add1 ocw).2)).elim) (fun h16 => ?_)
      refine aw_aload_n (q := 377) 0 dL_sells_376 rfl rfl rfl ?_
      refine aw_iconst (q := 378) dL_sells_377 rfl ?_
      refine cv_I (q := 381) (CC := "") (id := 102) (As := [.int (iI 2)]) 1 (n_v2 (D := D) (C := C) (T := T) (ad := ad) hst (G := A) (K := A) (by omega) oA eq0.rf ) (fun _ h => h) (by omega) (cell_102 ad C _) rfl wc_X5_value wm_RL_42 wi_X5_value ws_X5_value wn_X5 (by decide) rfl ⟨Nat.le_of_ble_eq_true rfl, Nat.le_of_ble_eq_true rfl⟩ ⟨Nat.le_of_ble_eq_true rfl, Nat.le_of_ble_eq_true rfl⟩ (Nat.le_of_ble_eq_true rfl) dL_sells_378 rfl (fun r9 G9 h9 => ?_)
      rw [h9.1, h9.2]
      clear h9
      refine aw_aload_n (q := 382) 0 dL_sells_381 rfl rfl rfl ?_
      refine aw_iconst (q := 383) dL_sells_382 rfl ?_
      refine cv_I (q := 386) (CC := "") (id := 102) (As := [.int (iI 3)]) 1 (n_v3 (D := D) (C := C) (T := T) (ad := ad) hst (G := A) (K := A) (by omega) oA eq0.rf ) (fun _ h => h) (by omega) (cell_102 ad C _) rfl wc_X5_value wm_RL_42 wi_X5_value ws_X5_value wn_X5 (by decide) rfl ⟨Nat.le_of_ble_eq_true rfl, Nat.le_of_ble_eq_true rfl⟩ ⟨Nat.le_of_ble_eq_true rfl, Nat.le_of_ble_eq_true rfl⟩ (Nat.le_of_ble_eq_true rfl) dL_sells_383 rfl (fun r9 G9 h9 => ?_)
      rw [h9.1, h9.2]
      clear h9
      refine ae_iadd (q := 387) ((worthF (A 0) 5) + (A 0 9)) (by omega) dL_sells_386 rfl ?_
      refine aw_iload (q := 389) 12 dL_sells_387 rfl rfl ?_
      refine aw_iload (q := 391) 7 dL_sells_389 rfl rfl ?_
      refine ae_iadd (q := 392) ((worthF (G 0) 5) + (G 0 9) + pu) (by omega) dL_sells_391 rfl ?_
      refine aw_iload (q := 394) 17 dL_sells_392 rfl rfl ?_
      refine aw_if_ge (q := 397) dL_sells_394 rfl (t := 401) (by decide) (by omega) (fun h17 => ?_) (fun h => ((by omega : False)).elim)
      refine aw_iload (q := 403) 18 dL_sells_401 rfl rfl ?_
      refine ae_isub (q := 404) ((worthF (G 0) 5) + (G 0 9) + pu - r1) (by omega) dL_sells_403 rfl ?_
      refine aw_aload_n (q := 405) 0 dL_sells_404 rfl rfl rfl ?_
      refine aw_bipush (q := 407) dL_sells_405 rfl (by decide) ?_
      refine cv_I (q := 410) (CC := "") (id := 102) (As := [.int (iI 6)]) 1 (n_v6 (D := D) (C := C) (T := T) (ad := ad) hst (G := A) (K := A) (by omega) oA eq0.rf ) (fun _ h => h) (by omega) (cell_102 ad C _) rfl wc_X5_value wm_RL_42 wi_X5_value ws_X5_value wn_X5 (by decide) rfl ⟨Nat.le_of_ble_eq_true rfl, Nat.le_of_ble_eq_true rfl⟩ ⟨Nat.le_of_ble_eq_true rfl, Nat.le_of_ble_eq_true rfl⟩ (Nat.le_of_ble_eq_true rfl) dL_sells_407 rfl (fun r9 G9 h9 => ?_)
      rw [h9.1, h9.2]
      clear h9
      refine aw_iload (q := 412) 13 dL_sells_410 rfl rfl ?_
      refine ae_isub (q := 413) ((A 0 11) - (G 0 11)) (by omega) dL_sells_412 rfl ?_
      refine ae_isub (q := 414) ((worthF (G 0) 5) + (G 0 9) + pu + (G 0 11) - r1 - (A 0 11)) (by omega) dL_sells_413 rfl ?_
      refine aw_same_ne (q := 417) (by omega) dL_sells_414 rfl (t := 493) (by decide) ?_
      refine aw_aload_n (q := 418) 0 dL_sells_417 rfl rfl rfl ?_
      refine aw_iconst (q := 419) dL_sells_418 rfl ?_
      refine cv_I (q := 422) (CC := "") (id := 102) (As := [.int (iI 5)]) 1 (n_v5 (D := D) (C := C) (T := T) (ad := ad) hst (G := A) (K := A) (by omega) oA eq0.rf ) (fun _ h => h) (by omega) (cell_102 ad C _) rfl wc_X5_value wm_RL_42 wi_X5_value ws_X5_value wn_X5 (by decide) rfl ⟨Nat.le_of_ble_eq_true rfl, Nat.le_of_ble_eq_true rfl⟩ ⟨Nat.le_of_ble_eq_true rfl, Nat.le_of_ble_eq_true rfl⟩ (Nat.le_of_ble_eq_true rfl) dL_sells_419 rfl (fun r9 G9 h9 => ?_)
      rw [h9.1, h9.2]
      clear h9
      refine aw_iload (q := 424) 14 dL_sells_422 rfl rfl ?_
      refine aw_iload (q := 426) 17 dL_sells_424 rfl rfl ?_
      refine aw_if_ge (q := 429) dL_sells_426 rfl (t := 434) (by decide) (by omega) (fun h18 => ?_) (fun h => ((by omega : False)).elim)
      refine aw_iconst (q := 435) dL_sells_434 rfl ?_
      refine ae_iadd (q := 436) (G 0 311) (by omega) dL_sells_435 rfl ?_
      refine aw_aload_n (q := 437) 0 dL_sells_436 rfl rfl rfl ?_
      refine aw_bipush (q := 439) dL_sells_437 rfl (by decide) ?_
      refine cv_I (q := 442) (CC := "") (id := 102) (As := [.int (iI 6)]) 1 (n_v6 (D := D) (C := C) (T := T) (ad := ad) hst (G := A) (K := A) (by omega) oA eq0.rf ) (fun _ h => h) (by omega) (cell_102 ad C _) rfl wc_X5_value wm_RL_42 wi_X5_value ws_X5_value wn_X5 (by decide) rfl ⟨Nat.le_of_ble_eq_true rfl, Nat.le_of_ble_eq_true rfl⟩ ⟨Nat.le_of_ble_eq_true rfl, Nat.le_of_ble_eq_true rfl⟩ (Nat.le_of_ble_eq_true rfl) dL_sells_439 rfl (fun r9 G9 h9 => ?_)
      rw [h9.1, h9.2]
      clear h9
      refine aw_iload (q := 444) 13 dL_sells_442 rfl rfl ?_
      refine ae_isub (q := 445) ((A 0 11) - (G 0 11)) (by omega) dL_sells_444 rfl ?_
      refine ae_isub (q := 446) ((G 0 311) + (G 0 11) - (A 0 11)) (by omega) dL_sells_445 rfl ?_
      refine aw_same_ne (q := 449) (by omega) dL_sells_446 rfl (t := 493) (by decide) ?_
      refine aw_iload (q := 451) 17 dL_sells_449 rfl rfl ?_
      refine aw_if_ge (q := 454) dL_sells_451 rfl (t := 467) (by decide) (by omega) (fun h19 => ?_) (fun h => ((by omega : False)).elim)
      refine aw_aload_n (q := 468) 0 dL_sells_467 rfl rfl rfl ?_
      refine aw_iconst (q := 469) dL_sells_468 rfl ?_
      refine cv_I (q := 472) (CC := "") (id := 102) (As := [.int (iI 4)]) 1 (n_v4 (D := D) (C := C) (T := T) (ad := ad) hst (G := A) (K := A) (by omega) oA eq0.rf ) (fun _ h => h) (by omega) (cell_102 ad C _) rfl wc_X5_value wm_RL_42 wi_X5_value ws_X5_value wn_X5 (by decide) rfl ⟨Nat.le_of_ble_eq_true rfl, Nat.le_of_ble_eq_true rfl⟩ ⟨Nat.le_of_ble_eq_true rfl, Nat.le_of_ble_eq_true rfl⟩ (Nat.le_of_ble_eq_true rfl) dL_sells_469 rfl (fun r9 G9 h9 => ?_)
      rw [h9.1, h9.2]
      clear h9
      refine aw_if_eq (q := 475) dL_sells_472 rfl (t := 489) (by decide) (by omega) (fun h20 => ?_) (fun h21 => ?_)
      · refine aw_iconst (q := 490) dL_sells_489 rfl ?_
        refine aw_goto (q := 494) dL_sells_490 (by decide) ?_
        exact rt_z rfl (by omega) (Nat.le_of_ble_eq_true rfl) (Nat.le_of_ble_eq_true rfl) (⟨rfl, oA⟩) dL_sells_494
      · refine aw_aload_n (q := 476) 0 dL_sells_475 rfl rfl rfl ?_
        refine aw_aload_n (q := 477) 0 dL_sells_476 rfl rfl rfl ?_
        refine aw_iconst (q := 478) dL_sells_477 rfl ?_
        refine cv_I (q := 481) (CC := "") (id := 102) (As := [.int (iI 0)]) 1 (n_promise0 (D := D) (C := C) (T := T) (ad := ad) hst (G := A) (K := A) (by omega) oA eq0.rf (by omega)) (fun _ h => h) (by omega) (cell_102 ad C _) rfl wc_X5_promise wm_RL_36 wi_X5_promise ws_X5_promise wn_X5 (by decide) rfl ⟨Nat.le_of_ble_eq_true rfl, Nat.le_of_ble_eq_true rfl⟩ ⟨Nat.le_of_ble_eq_true rfl, Nat.le_of_ble_eq_true rfl⟩ (Nat.le_of_ble_eq_true rfl) dL_sells_478 rfl (fun r9 G9 h9 => ?_)
        rw [h9.1, h9.2]
        clear h9
        refine aw_iconst (q := 482) dL_sells_481 rfl ?_
        refine cv_I (q := 485) (CC := "") (id := 102) (As := [.int (iI (A 0 111)), .int (iI 0)]) 2 (n_change0 (D := D) (C := C) (T := T) (ad := ad) hst (G := A) (K := A) (by omega) oA eq0.rf (a := (A 0 111)) (by have := ap (by omega); omega)) (fun _ h => h) (by omega) (cell_102 ad C _) rfl wc_X5_change wm_RL_66 wi_X5_change ws_X5_change wn_X5 (by decide) rfl ⟨Nat.le_of_ble_eq_true rfl, Nat.le_of_ble_eq_true rfl⟩ ⟨Nat.le_of_ble_eq_true rfl, Nat.le_of_ble_eq_true rfl⟩ (Nat.le_of_ble_eq_true rfl) dL_sells_482 rfl (fun r2 K1 h9 => ?_)
        obtain ⟨rfl, e1⟩ := h9
        rw [ch_no (by rcases sp with z | z; exact absurd z (by omega); exact z)]
        refine aw_iconst (q := 486) dL_sells_485 rfl ?_
        refine aw_icmp_ne (q := 489) dL_sells_486 rfl (t := 493) (by decide) (by omega) (by omega) (fun h => absurd h (by omega)) (fun _ => ?_)
        refine aw_iconst (q := 490) dL_sells_489 rfl ?_
        refine aw_goto (q := 494) dL_sells_490 (by decide) ?_
        exact rt_z rfl (by omega) (Nat.le_of_ble_eq_true rfl) (Nat.le_of_ble_eq_true rfl) (⟨rfl, e1.I oA⟩) dL_sells_494
    · refine aw_istore (q := 181) (lv2 := [(0, .ref (ad 102)), (1, .int (iI k)), (2, .int (iI y)), (3, .int (iI f)), (4, .int (iI te)), (5, .int (iI tw)), (6, .int (iI fi)), (7, .int (iI pu)), (8, .int (iI ((G 0 (15 + 12 * k + 2))))), (9, .int (iI ((G 0 (15 + 12 * k + 1))))), (10, .int (iI ((G 0 (15 + 12 * k + 6))))), (11, .int (iI ((G 0 (15 + 12 * k + 7))))), (12, .int (iI ((worthF (G 0) 5) + (G 0 9)))), (13, .int (iI (G 0 11))), (14, .int (iI (G 0 311))), (15, .float ((fB (G 0 (15 + 12 * k + 10))))), (16, .int (iI ro)), (17, .int (iI r1))]) [1, 2, 3, 4, 5, 6, 7, 8, 9, 10, 11, 12, 13, 14, 15, 16, 17, 0] dL_sells_179 rfl (by decide) rfl rfl ?_
      refine aw_iload (q := 183) 17 dL_sells_181 rfl rfl ?_
      refine aw_sipush (q := 186) dL_sells_183 rfl (by decide) ?_
      refine aw_icmp_ne (q := 189) dL_sells_186 rfl (t := 277) (by decide) (by omega) (by omega) (fun h101 => ?_) (fun h => ((by omega : False)).elim)
      refine aw_iload (q := 279) 17 dL_sells_277 rfl rfl ?_
      refine aw_if_ge (q := 282) dL_sells_279 rfl (t := 290) (by decide) (by omega) (fun h => ((by omega : False)).elim) (fun h102 => ?_)
      refine aw_bipush (q := 284) dL_sells_282 rfl (by decide) ?_
      refine aw_iload (q := 286) 17 dL_sells_284 rfl rfl ?_
      refine ae_isub (q := 287) (-r1 - 10) (by omega) dL_sells_286 rfl ?_
      refine aw_goto (q := 292) dL_sells_287 (by decide) ?_
      refine aw_istore (q := 294) (lv2 := [(0, .ref (ad 102)), (1, .int (iI k)), (2, .int (iI y)), (3, .int (iI f)), (4, .int (iI te)), (5, .int (iI tw)), (6, .int (iI fi)), (7, .int (iI pu)), (8, .int (iI ((G 0 (15 + 12 * k + 2))))), (9, .int (iI ((G 0 (15 + 12 * k + 1))))), (10, .int (iI ((G 0 (15 + 12 * k + 6))))), (11, .int (iI ((G 0 (15 + 12 * k + 7))))), (12, .int (iI ((worthF (G 0) 5) + (G 0 9)))), (13, .int (iI (G 0 11))), (14, .int (iI (G 0 311))), (15, .float ((fB (G 0 (15 + 12 * k + 10))))), (16, .int (iI ro)), (17, .int (iI r1)), (18, .int (iI (-r1 - 10)))]) [1, 2, 3, 4, 5, 6, 7, 8, 9, 10, 11, 12, 13, 14, 15, 16, 17, 18, 0] dL_sells_292 rfl (by decide) rfl rfl ?_
      refine aw_iload (q := 296) 16 dL_sells_294 rfl rfl ?_
      refine aw_if_eq (q := 299) dL_sells_296 rfl (t := 493) (by decide) (by omega) (fun h => ((by omega : False)).elim) (fun h103 => ?_)
      refine aw_iload (q := 301) 16 dL_sells_299 rfl rfl ?_
      refine aw_iload (q := 303) 9 dL_sells_301 rfl rfl ?_
      refine aw_icmp_gt (q := 306) dL_sells_303 rfl (t := 493) (by decide) (by omega) (by omega) (fun h => ((by omega : False)).elim) (fun h104 => ?_)
      refine aw_iload (q := 308) 18 dL_sells_306 rfl rfl ?_
      refine aw_iload (q := 310) 7 dL_sells_308 rfl rfl ?_
      refine aw_iload (q := 312) 8 dL_sells_310 rfl rfl ?_
      refine ae_isub (q := 313) (pu - (G 0 (15 + 12 * k + 2))) (by omega) dL_sells_312 rfl ?_
      refine aw_same_ne (q := 316) (by omega) dL_sells_313 rfl (t := 493) (by decide) ?_
      refine aw_iload (q := 318) 9 dL_sells_316 rfl rfl ?_
      refine aw_if_le (q := 321) dL_sells_318 rfl (t := 493) (by decide) (by omega) (fun h => ((by omega : False)).elim) (fun h105 => ?_)
      refine aw_aload_n (q := 322) 0 dL_sells_321 rfl rfl rfl ?_
      refine aw_iload_n (q := 323) 1 dL_sells_322 rfl rfl rfl ?_
      refine aw_iconst (q := 324) dL_sells_323 rfl ?_
      refine cv_I (q := 327) (CC := "") (id := 102) (As := [.int (iI k), .int (iI 1)]) 2 (n_coil (D := D) (C := C) (T := T) (ad := ad) hst (G := A) (K := A) (by omega) oA eq0.rf (c := k) (k := 1) (by omega) (by omega)) (fun _ h => h) (by omega) (cell_102 ad C _) rfl wc_X5_coil wm_RL_39 wi_X5_coil ws_X5_coil wn_X5 (by decide) rfl ⟨Nat.le_of_ble_eq_true rfl, Nat.le_of_ble_eq_true rfl⟩ ⟨Nat.le_of_ble_eq_true rfl, Nat.le_of_ble_eq_true rfl⟩ (Nat.le_of_ble_eq_true rfl) dL_sells_324 rfl (fun r9 G9 h9 => ?_)
      rw [h9.1, h9.2]
      clear h9
      refine aw_iload (q := 329) 9 dL_sells_327 rfl rfl ?_
      refine aw_iconst (q := 330) dL_sells_329 rfl ?_
      refine ae_isub (q := 331) ((G 0 (15 + 12 * k + 1)) - 1) (by omega) dL_sells_330 rfl ?_
      refine aw_same_ne (q := 334) (by omega) dL_sells_331 rfl (t := 493) (by decide) ?_
      refine aw_aload_n (q := 335) 0 dL_sells_334 rfl rfl rfl ?_
      refine aw_iload_n (q := 336) 1 dL_sells_335 rfl rfl rfl ?_
      refine aw_bipush (q := 338) dL_sells_336 rfl (by decide) ?_
      refine cv_I (q := 341) (CC := "") (id := 102) (As := [.int (iI k), .int (iI 6)]) 2 (n_coil (D := D) (C := C) (T := T) (ad := ad) hst (G := A) (K := A) (by omega) oA eq0.rf (c := k) (k := 6) (by omega) (by omega)) (fun _ h => h) (by omega) (cell_102 ad C _) rfl wc_X5_coil wm_RL_39 wi_X5_coil ws_X5_coil wn_X5 (by decide) rfl ⟨Nat.le_of_ble_eq_true rfl, Nat.le_of_ble_eq_true rfl⟩ ⟨Nat.le_of_ble_eq_true rfl, Nat.le_of_ble_eq_true rfl⟩ (Nat.le_of_ble_eq_true rfl) dL_sells_338 rfl (fun r9 G9 h9 => ?_)
      rw [h9.1, h9.2]
      clear h9
      refine aw_iload (q := 343) 10 dL_sells_341 rfl rfl ?_
      refine aw_iconst (q := 344) dL_sells_343 rfl ?_
      refine ae_iadd (q := 345) ((G 0 (15 + 12 * k + 6)) + 1) (by omega) dL_sells_344 rfl ?_
      refine aw_same_ne (q := 348) (by omega) dL_sells_345 rfl (t := 493) (by decide) ?_
      refine aw_aload_n (q := 349) 0 dL_sells_348 rfl rfl rfl ?_
      refine aw_iload_n (q := 350) 1 dL_sells_349 rfl rfl rfl ?_
      refine aw_bipush (q := 352) dL_sells_350 rfl (by decide) ?_
      refine cv_I (q := 355) (CC := "") (id := 102) (As := [.int (iI k), .int (iI 7)]) 2 (n_coil (D := D) (C := C) (T := T) (ad := ad) hst (G := A) (K := A) (by omega) oA eq0.rf (c := k) (k := 7) (by omega) (by omega)) (fun _ h => h) (by omega) (cell_102 ad C _) rfl wc_X5_coil wm_RL_39 wi_X5_coil ws_X5_coil wn_X5 (by decide) rfl ⟨Nat.le_of_ble_eq_true rfl, Nat.le_of_ble_eq_true rfl⟩ ⟨Nat.le_of_ble_eq_true rfl, Nat.le_of_ble_eq_true rfl⟩ (Nat.le_of_ble_eq_true rfl) dL_sells_352 rfl (fun r9 G9 h9 => ?_)
      rw [h9.1, h9.2]
      clear h9
      refine aw_iload (q := 357) 11 dL_sells_355 rfl rfl ?_
      refine aw_iload (q := 359) 8 dL_sells_357 rfl rfl ?_
      refine ae_iadd (q := 360) ((G 0 (15 + 12 * k + 7)) + (G 0 (15 + 12 * k + 2))) (by omega) dL_sells_359 rfl ?_
      refine aw_same_ne (q := 363) (by omega) dL_sells_360 rfl (t := 493) (by decide) ?_
      refine aw_aload_n (q := 364) 0 dL_sells_363 rfl rfl rfl ?_
      refine aw_iload_n (q := 365) 1 dL_sells_364 rfl rfl rfl ?_
      refine cv_F (q := 368) (CC := "") (id := 102) (As := [.int (iI k)]) 1 (n_demand (D := D) (C := C) (T := T) (ad := ad) hst (G := A) (K := A) (by omega) oA eq0.rf (c := k) (by omega)) (fun _ h => h) (by omega) (cell_102 ad C _) rfl wc_X5_demand wm_RL_45 wi_X5_demand ws_X5_demand wn_X5 (by decide) rfl ⟨Nat.le_of_ble_eq_true rfl, Nat.le_of_ble_eq_true rfl⟩ ⟨Nat.le_of_ble_eq_true rfl, Nat.le_of_ble_eq_true rfl⟩ (Nat.le_of_ble_eq_true rfl) dL_sells_365 rfl (fun r9 G9 h9 => ?_)
      rw [h9.1, h9.2]
      clear h9
      refine aw_fload (q := 370) 15 dL_sells_368 rfl rfl ?_
      refine aw_fconst1 (q := 371) dL_sells_370 rfl ?_
      refine aw_fadd (q := 372) dL_sells_371 rfl (fw_add1 ocw).1 ?_
      refine aw_fcmp (q := 373) dL_sells_372 rfl ?_
      refine aw_ifW_ne (q := 376) dL_sells_373 rfl (t := 493) (by decide) (fun h => (h (by rw [sd, show FP.fadd (fB (G 0 (15 + 12 * k + 10))) FP.fconst1 = fB (fadd1 (G 0 (15 + 12 * k + 10))) from (fB_nat _).symm]; exact okW_eq (fw_add1 ocw).2)).elim) (fun h106 => ?_)
      refine aw_aload_n (q := 377) 0 dL_sells_376 rfl rfl rfl ?_
      refine aw_iconst (q := 378) dL_sells_377 rfl ?_
      refine cv_I (q := 381) (CC := "") (id := 102) (As := [.int (iI 2)]) 1 (n_v2 (D := D) (C := C) (T := T) (ad := ad) hst (G := A) (K := A) (by omega) oA eq0.rf ) (fun _ h => h) (by omega) (cell_102 ad C _) rfl wc_X5_value wm_RL_42 wi_X5_value ws_X5_value wn_X5 (by decide) rfl ⟨Nat.le_of_ble_eq_true rfl, Nat.le_of_ble_eq_true rfl⟩ ⟨Nat.le_of_ble_eq_true rfl, Nat.le_of_ble_eq_true rfl⟩ (Nat.le_of_ble_eq_true rfl) dL_sells_378 rfl (fun r9 G9 h9 => ?_)
      rw [h9.1, h9.2]
      clear h9
      refine aw_aload_n (q := 382) 0 dL_sells_381 rfl rfl rfl ?_
      refine aw_iconst (q := 383) dL_sells_382 rfl ?_
      refine cv_I (q := 386) (CC := "") (id := 102) (As := [.int (iI 3)]) 1 (n_v3 (D := D) (C := C) (T := T) (ad := ad) hst (G := A) (K := A) (by omega) oA eq0.rf ) (fun _ h => h) (by omega) (cell_102 ad C _) rfl wc_X5_value wm_RL_42 wi_X5_value ws_X5_value wn_X5 (by decide) rfl ⟨Nat.le_of_ble_eq_true rfl, Nat.le_of_ble_eq_true rfl⟩ ⟨Nat.le_of_ble_eq_true rfl, Nat.le_of_ble_eq_true rfl⟩ (Nat.le_of_ble_eq_true rfl) dL_sells_383 rfl (fun r9 G9 h9 => ?_)
      rw [h9.1, h9.2]
      clear h9
      refine ae_iadd (q := 387) ((worthF (A 0) 5) + (A 0 9)) (by omega) dL_sells_386 rfl ?_
      refine aw_iload (q := 389) 12 dL_sells_387 rfl rfl ?_
      refine aw_iload (q := 391) 7 dL_sells_389 rfl rfl ?_
      refine ae_iadd (q := 392) ((worthF (G 0) 5) + (G 0 9) + pu) (by omega) dL_sells_391 rfl ?_
      refine aw_iload (q := 394) 17 dL_sells_392 rfl rfl ?_
      refine aw_if_ge (q := 397) dL_sells_394 rfl (t := 401) (by decide) (by omega) (fun h => ((by omega : False)).elim) (fun h107 => ?_)
      refine aw_iconst (q := 398) dL_sells_397 rfl ?_
      refine aw_goto (q := 403) dL_sells_398 (by decide) ?_
      refine ae_isub (q := 404) ((worthF (G 0) 5) + (G 0 9) + pu) (by omega) dL_sells_403 rfl ?_
      refine aw_aload_n (q := 405) 0 dL_sells_404 rfl rfl rfl ?_
      refine aw_bipush (q := 407) dL_sells_405 rfl (by decide) ?_
      refine cv_I (q := 410) (CC := "") (id := 102) (As := [.int (iI 6)]) 1 (n_v6 (D := D) (C := C) (T := T) (ad := ad) hst (G := A) (K := A) (by omega) oA eq0.rf ) (fun _ h => h) (by omega) (cell_102 ad C _) rfl wc_X5_value wm_RL_42 wi_X5_value ws_X5_value wn_X5 (by decide) rfl ⟨Nat.le_of_ble_eq_true rfl, Nat.le_of_ble_eq_true rfl⟩ ⟨Nat.le_of_ble_eq_true rfl, Nat.le_of_ble_eq_true rfl⟩ (Nat.le_of_ble_eq_true rfl) dL_sells_407 rfl (fun r9 G9 h9 => ?_)
      rw [h9.1, h9.2]
      clear h9
      refine aw_iload (q := 412) 13 dL_sells_410 rfl rfl ?_
      refine ae_isub (q := 413) ((A 0 11) - (G 0 11)) (by omega) dL_sells_412 rfl ?_
      refine ae_isub (q := 414) ((worthF (G 0) 5) + (G 0 9) + pu + (G 0 11) - (A 0 11)) (by omega) dL_sells_413 rfl ?_
      refine aw_same_ne (q := 417) (by omega) dL_sells_414 rfl (t := 493) (by decide) ?_
      refine aw_aload_n (q := 418) 0 dL_sells_417 rfl rfl rfl ?_
      refine aw_iconst (q := 419) dL_sells_418 rfl ?_
      refine cv_I (q := 422) (CC := "") (id := 102) (As := [.int (iI 5)]) 1 (n_v5 (D := D) (C := C) (T := T) (ad := ad) hst (G := A) (K := A) (by omega) oA eq0.rf ) (fun _ h => h) (by omega) (cell_102 ad C _) rfl wc_X5_value wm_RL_42 wi_X5_value ws_X5_value wn_X5 (by decide) rfl ⟨Nat.le_of_ble_eq_true rfl, Nat.le_of_ble_eq_true rfl⟩ ⟨Nat.le_of_ble_eq_true rfl, Nat.le_of_ble_eq_true rfl⟩ (Nat.le_of_ble_eq_true rfl) dL_sells_419 rfl (fun r9 G9 h9 => ?_)
      rw [h9.1, h9.2]
      clear h9
      refine aw_iload (q := 424) 14 dL_sells_422 rfl rfl ?_
      refine aw_iload (q := 426) 17 dL_sells_424 rfl rfl ?_
      refine aw_if_ge (q := 429) dL_sells_426 rfl (t := 434) (by decide) (by omega) (fun h => ((by omega : False)).elim) (fun h108 => ?_)
      refine aw_iload (q := 431) 18 dL_sells_429 rfl rfl ?_
      refine aw_goto (q := 435) dL_sells_431 (by decide) ?_
      refine ae_iadd (q := 436) ((G 0 311) - r1 - 10) (by omega) dL_sells_435 rfl ?_
      refine aw_aload_n (q := 437) 0 dL_sells_436 rfl rfl rfl ?_
      refine aw_bipush (q := 439) dL_sells_437 rfl (by decide) ?_
      refine cv_I (q := 442) (CC := "") (id := 102) (As := [.int (iI 6)]) 1 (n_v6 (D := D) (C := C) (T := T) (ad := ad) hst (G := A) (K := A) (by omega) oA eq0.rf ) (fun _ h => h) (by omega) (cell_102 ad C _) rfl wc_X5_value wm_RL_42 wi_X5_value ws_X5_value wn_X5 (by decide) rfl ⟨Nat.le_of_ble_eq_true rfl, Nat.le_of_ble_eq_true rfl⟩ ⟨Nat.le_of_ble_eq_true rfl, Nat.le_of_ble_eq_true rfl⟩ (Nat.le_of_ble_eq_true rfl) dL_sells_439 rfl (fun r9 G9 h9 => ?_)
      rw [h9.1, h9.2]
      clear h9
      refine aw_iload (q := 444) 13 dL_sells_442 rfl rfl ?_
      refine ae_isub (q := 445) ((A 0 11) - (G 0 11)) (by omega) dL_sells_444 rfl ?_
      refine ae_isub (q := 446) ((G 0 311) + (G 0 11) - r1 - (A 0 11) - 10) (by omega) dL_sells_445 rfl ?_
      refine aw_same_ne (q := 449) (by omega) dL_sells_446 rfl (t := 493) (by decide) ?_
      refine aw_iload (q := 451) 17 dL_sells_449 rfl rfl ?_
      refine aw_if_ge (q := 454) dL_sells_451 rfl (t := 467) (by decide) (by omega) (fun h => ((by omega : False)).elim) (fun h109 => ?_)
      refine aw_aload_n (q := 455) 0 dL_sells_454 rfl rfl rfl ?_
      refine aw_iconst (q := 456) dL_sells_455 rfl ?_
      refine cv_I (q := 459) (CC := "") (id := 102) (As := [.int (iI 5)]) 1 (n_v5 (D := D) (C := C) (T := T) (ad := ad) hst (G := A) (K := A) (by omega) oA eq0.rf ) (fun _ h => h) (by omega) (cell_102 ad C _) rfl wc_X5_value wm_RL_42 wi_X5_value ws_X5_value wn_X5 (by decide) rfl ⟨Nat.le_of_ble_eq_true rfl, Nat.le_of_ble_eq_true rfl⟩ ⟨Nat.le_of_ble_eq_true rfl, Nat.le_of_ble_eq_true rfl⟩ (Nat.le_of_ble_eq_true rfl) dL_sells_456 rfl (fun r9 G9 h9 => ?_)
      rw [h9.1, h9.2]
      clear h9
      refine aw_aload_n (q := 460) 0 dL_sells_459 rfl rfl rfl ?_
      refine aw_iconst (q := 461) dL_sells_460 rfl ?_
      refine cv_I (q := 464) (CC := "") (id := 102) (As := [.int (iI 3)]) 1 (n_setting (D := D) (C := C) (T := T) (ad := ad) hst (G := A) (K := A) (by omega) oA eq0.rf (w := 3) (by omega)) (fun _ h => h) (by omega) (cell_102 ad C _) rfl wc_X5_setting wm_RL_85 wi_X5_setting ws_X5_setting wn_X5 (by decide) rfl ⟨Nat.le_of_ble_eq_true rfl, Nat.le_of_ble_eq_true rfl⟩ ⟨Nat.le_of_ble_eq_true rfl, Nat.le_of_ble_eq_true rfl⟩ (Nat.le_of_ble_eq_true rfl) dL_sells_461 rfl (fun r9 G9 h9 => ?_)
      rw [h9.1, h9.2]
      clear h9
      refine aw_icmp_gt (q := 467) dL_sells_464 rfl (t := 493) (by decide) (by omega) (by omega) (fun h => ((by omega : False)).elim) (fun h110 => ?_)
      refine aw_aload_n (q := 468) 0 dL_sells_467 rfl rfl rfl ?_
      refine aw_iconst (q := 469) dL_sells_468 rfl ?_
      refine cv_I (q := 472) (CC := "") (id := 102) (As := [.int (iI 4)]) 1 (n_v4 (D := D) (C := C) (T := T) (ad := ad) hst (G := A) (K := A) (by omega) oA eq0.rf ) (fun _ h => h) (by omega) (cell_102 ad C _) rfl wc_X5_value wm_RL_42 wi_X5_value ws_X5_value wn_X5 (by decide) rfl ⟨Nat.le_of_ble_eq_true rfl, Nat.le_of_ble_eq_true rfl⟩ ⟨Nat.le_of_ble_eq_true rfl, Nat.le_of_ble_eq_true rfl⟩ (Nat.le_of_ble_eq_true rfl) dL_sells_469 rfl (fun r9 G9 h9 => ?_)
      rw [h9.1, h9.2]
      clear h9
      refine aw_if_eq (q := 475) dL_sells_472 rfl (t := 489) (by decide) (by omega) (fun h111 => ?_) (fun h112 => ?_)
      · refine aw_iconst (q := 490) dL_sells_489 rfl ?_
        refine aw_goto (q := 494) dL_sells_490 (by decide) ?_
        exact rt_z rfl (by omega) (Nat.le_of_ble_eq_true rfl) (Nat.le_of_ble_eq_true rfl) (⟨rfl, oA⟩) dL_sells_494
      · refine aw_aload_n (q := 476) 0 dL_sells_475 rfl rfl rfl ?_
        refine aw_aload_n (q := 477) 0 dL_sells_476 rfl rfl rfl ?_
        refine aw_iconst (q := 478) dL_sells_477 rfl ?_
        refine cv_I (q := 481) (CC := "") (id := 102) (As := [.int (iI 0)]) 1 (n_promise0 (D := D) (C := C) (T := T) (ad := ad) hst (G := A) (K := A) (by omega) oA eq0.rf (by omega)) (fun _ h => h) (by omega) (cell_102 ad C _) rfl wc_X5_promise wm_RL_36 wi_X5_promise ws_X5_promise wn_X5 (by decide) rfl ⟨Nat.le_of_ble_eq_true rfl, Nat.le_of_ble_eq_true rfl⟩ ⟨Nat.le_of_ble_eq_true rfl, Nat.le_of_ble_eq_true rfl⟩ (Nat.le_of_ble_eq_true rfl) dL_sells_478 rfl (fun r9 G9 h9 => ?_)
        rw [h9.1, h9.2]
        clear h9
        refine aw_iconst (q := 482) dL_sells_481 rfl ?_
        refine cv_I (q := 485) (CC := "") (id := 102) (As := [.int (iI (A 0 111)), .int (iI 0)]) 2 (n_change0 (D := D) (C := C) (T := T) (ad := ad) hst (G := A) (K := A) (by omega) oA eq0.rf (a := (A 0 111)) (by have := ap (by omega); omega)) (fun _ h => h) (by omega) (cell_102 ad C _) rfl wc_X5_change wm_RL_66 wi_X5_change ws_X5_change wn_X5 (by decide) rfl ⟨Nat.le_of_ble_eq_true rfl, Nat.le_of_ble_eq_true rfl⟩ ⟨Nat.le_of_ble_eq_true rfl, Nat.le_of_ble_eq_true rfl⟩ (Nat.le_of_ble_eq_true rfl) dL_sells_482 rfl (fun r2 K1 h9 => ?_)
        obtain ⟨rfl, e1⟩ := h9
        rw [ch_no (by rcases sp with z | z; exact absurd z (by omega); exact z)]
        refine aw_iconst (q := 486) dL_sells_485 rfl ?_
        refine aw_icmp_ne (q := 489) dL_sells_486 rfl (t := 493) (by decide) (by omega) (by omega) (fun h => absurd h (by omega)) (fun _ => ?_)
        refine aw_iconst (q := 490) dL_sells_489 rfl ?_
        refine aw_goto (q := 494) dL_sells_490 (by decide) ?_
        exact rt_z rfl (by omega) (Nat.le_of_ble_eq_true rfl) (Nat.le_of_ble_eq_true rfl) (⟨rfl, e1.I oA⟩) dL_sells_494
  · have hro1 : ro < 1 := by
      rcases hro with z | ⟨z1, z2, z3⟩
      · omega
      · by_cases q : 1 ≤ ro
        · exact absurd (z3.mp q) hcan
        · omega
    have hns : 1 ≤ G 0 (15 + 12 * k + 1) → G 0 (15 + 12 * k + 2) ≤ pu → G 0 3 < G 0 311 + pu - G 0 (15 + 12 * k + 2) := fun z1 z2 => by
      by_cases q : G 0 3 < G 0 311 + pu - G 0 (15 + 12 * k + 2)
      · exact q
      · refine absurd (⟨?_, ?_, Or.inr ?_⟩ : canSellP (cinG G f te tw fi) 0 k 10) hcan
        · rw [cinG_ne (by omega)]; exact z1
        · show 0 ≤ worthF (cinG G f te tw fi 10) 0 - cinG G f te tw fi 0 (15 + 12 * k + 2)
          rw [cin_worth, cinG_ne (by omega)]
          show 0 ≤ 5 * f + 10 * te + 20 * tw + 50 * fi - _
          omega
        · show cinG G f te tw fi 0 311 + (worthF (cinG G f te tw fi 10) 0 - cinG G f te tw fi 0 (15 + 12 * k + 2)) ≤ cinG G f te tw fi 0 3
          rw [cin_worth, cinG_ne (by omega), cinG_ne (by omega), cinG_ne (by omega)]
          show G 0 311 + (5 * f + 10 * te + 20 * tw + 50 * fi - _) ≤ _
          omega
    refine aw_istore (q := 181) (lv2 := [(0, .ref (ad 102)), (1, .int (iI k)), (2, .int (iI y)), (3, .int (iI f)), (4, .int (iI te)), (5, .int (iI tw)), (6, .int (iI fi)), (7, .int (iI pu)), (8, .int (iI ((G 0 (15 + 12 * k + 2))))), (9, .int (iI ((G 0 (15 + 12 * k + 1))))), (10, .int (iI ((G 0 (15 + 12 * k + 6))))), (11, .int (iI ((G 0 (15 + 12 * k + 7))))), (12, .int (iI ((worthF (G 0) 5) + (G 0 9)))), (13, .int (iI (G 0 11))), (14, .int (iI (G 0 311))), (15, .float ((fB (G 0 (15 + 12 * k + 10))))), (16, .int (iI ro)), (17, .int (iI (-902)))]) [1, 2, 3, 4, 5, 6, 7, 8, 9, 10, 11, 12, 13, 14, 15, 16, 17, 0] dL_sells_179 rfl (by decide) rfl rfl ?_
    refine aw_iload (q := 183) 17 dL_sells_181 rfl rfl ?_
    refine aw_sipush (q := 186) dL_sells_183 rfl (by decide) ?_
    refine aw_icmp_ne (q := 189) dL_sells_186 rfl (t := 277) (by decide) (by omega) (by omega) (fun h => absurd h (by omega)) (fun _ => ?_)
    refine aw_iload (q := 191) 16 dL_sells_189 rfl rfl ?_
    refine aw_iconst (q := 192) dL_sells_191 rfl ?_
    refine aw_icmp_ge (q := 195) dL_sells_192 rfl (t := 275) (by decide) (by omega) (by omega) (fun h => ((by omega : False)).elim) (fun h301 => ?_)
    refine aw_iload (q := 197) 9 dL_sells_195 rfl rfl ?_
    refine aw_if_eq (q := 200) dL_sells_197 rfl (t := 223) (by decide) (by omega) (fun h302 => ?_) (fun h303 => ?_)
    · refine aw_aload_n (q := 224) 0 dL_sells_223 rfl rfl rfl ?_
      refine aw_iconst (q := 225) dL_sells_224 rfl ?_
      refine cv_I (q := 228) (CC := "") (id := 102) (As := [.int (iI 2)]) 1 (n_v2 (D := D) (C := C) (T := T) (ad := ad) hst (G := G) (K := A) (by omega) o eA ) (fun _ h => h) (by omega) (cell_102 ad C _) rfl wc_X5_value wm_RL_42 wi_X5_value ws_X5_value wn_X5 (by decide) rfl ⟨Nat.le_of_ble_eq_true rfl, Nat.le_of_ble_eq_true rfl⟩ ⟨Nat.le_of_ble_eq_true rfl, Nat.le_of_ble_eq_true rfl⟩ (Nat.le_of_ble_eq_true rfl) dL_sells_225 rfl (fun r9 G9 h9 => ?_)
      rw [h9.1, h9.2]
      clear h9
      refine aw_aload_n (q := 229) 0 dL_sells_228 rfl rfl rfl ?_
      refine aw_iconst (q := 230) dL_sells_229 rfl ?_
      refine cv_I (q := 233) (CC := "") (id := 102) (As := [.int (iI 3)]) 1 (n_v3 (D := D) (C := C) (T := T) (ad := ad) hst (G := G) (K := A) (by omega) o eA ) (fun _ h => h) (by omega) (cell_102 ad C _) rfl wc_X5_value wm_RL_42 wi_X5_value ws_X5_value wn_X5 (by decide) rfl ⟨Nat.le_of_ble_eq_true rfl, Nat.le_of_ble_eq_true rfl⟩ ⟨Nat.le_of_ble_eq_true rfl, Nat.le_of_ble_eq_true rfl⟩ (Nat.le_of_ble_eq_true rfl) dL_sells_230 rfl (fun r9 G9 h9 => ?_)
      rw [h9.1, h9.2]
      clear h9
      refine ae_iadd (q := 234) ((worthF (G 0) 5) + (G 0 9)) (by omega) dL_sells_233 rfl ?_
      refine aw_iload (q := 236) 12 dL_sells_234 rfl rfl ?_
      refine aw_same_ne (q := 239) rfl dL_sells_236 rfl (t := 275) (by decide) ?_
      refine aw_aload_n (q := 240) 0 dL_sells_239 rfl rfl rfl ?_
      refine aw_iload_n (q := 241) 1 dL_sells_240 rfl rfl rfl ?_
      refine aw_iconst (q := 242) dL_sells_241 rfl ?_
      refine cv_I (q := 245) (CC := "") (id := 102) (As := [.int (iI k), .int (iI 1)]) 2 (n_coil (D := D) (C := C) (T := T) (ad := ad) hst (G := G) (K := A) (by omega) o eA (c := k) (k := 1) (by omega) (by omega)) (fun _ h => h) (by omega) (cell_102 ad C _) rfl wc_X5_coil wm_RL_39 wi_X5_coil ws_X5_coil wn_X5 (by decide) rfl ⟨Nat.le_of_ble_eq_true rfl, Nat.le_of_ble_eq_true rfl⟩ ⟨Nat.le_of_ble_eq_true rfl, Nat.le_of_ble_eq_true rfl⟩ (Nat.le_of_ble_eq_true rfl) dL_sells_242 rfl (fun r9 G9 h9 => ?_)
      rw [h9.1, h9.2]
      clear h9
      refine aw_iload (q := 247) 9 dL_sells_245 rfl rfl ?_
      refine aw_same_ne (q := 250) rfl dL_sells_247 rfl (t := 275) (by decide) ?_
      refine aw_aload_n (q := 251) 0 dL_sells_250 rfl rfl rfl ?_
      refine aw_iconst (q := 252) dL_sells_251 rfl ?_
      refine cv_I (q := 255) (CC := "") (id := 102) (As := [.int (iI 5)]) 1 (n_v5 (D := D) (C := C) (T := T) (ad := ad) hst (G := G) (K := A) (by omega) o eA ) (fun _ h => h) (by omega) (cell_102 ad C _) rfl wc_X5_value wm_RL_42 wi_X5_value ws_X5_value wn_X5 (by decide) rfl ⟨Nat.le_of_ble_eq_true rfl, Nat.le_of_ble_eq_true rfl⟩ ⟨Nat.le_of_ble_eq_true rfl, Nat.le_of_ble_eq_true rfl⟩ (Nat.le_of_ble_eq_true rfl) dL_sells_252 rfl (fun r9 G9 h9 => ?_)
      rw [h9.1, h9.2]
      clear h9
      refine aw_iload (q := 257) 14 dL_sells_255 rfl rfl ?_
      refine aw_same_ne (q := 260) rfl dL_sells_257 rfl (t := 275) (by decide) ?_
      refine aw_aload_n (q := 261) 0 dL_sells_260 rfl rfl rfl ?_
      refine aw_iload_n (q := 262) 1 dL_sells_261 rfl rfl rfl ?_
      refine cv_F (q := 265) (CC := "") (id := 102) (As := [.int (iI k)]) 1 (n_demand (D := D) (C := C) (T := T) (ad := ad) hst (G := G) (K := A) (by omega) o eA (c := k) (by omega)) (fun _ h => h) (by omega) (cell_102 ad C _) rfl wc_X5_demand wm_RL_45 wi_X5_demand ws_X5_demand wn_X5 (by decide) rfl ⟨Nat.le_of_ble_eq_true rfl, Nat.le_of_ble_eq_true rfl⟩ ⟨Nat.le_of_ble_eq_true rfl, Nat.le_of_ble_eq_true rfl⟩ (Nat.le_of_ble_eq_true rfl) dL_sells_262 rfl (fun r9 G9 h9 => ?_)
      rw [h9.1, h9.2]
      clear h9
      refine aw_fload (q := 267) 15 dL_sells_265 rfl rfl ?_
      refine aw_fcmp (q := 268) dL_sells_267 rfl ?_
      refine aw_ifW_ne (q := 271) dL_sells_268 rfl (t := 275) (by decide) (fun h => (h (okW_eq ocw)).elim) (fun h304 => ?_)
      refine aw_iconst (q := 272) dL_sells_271 rfl ?_
      refine aw_goto (q := 276) dL_sells_272 (by decide) ?_
      exact rt_z rfl (by omega) (Nat.le_of_ble_eq_true rfl) (Nat.le_of_ble_eq_true rfl) (⟨rfl, okI_mono (by omega) (eA.I o)⟩) dL_sells_276
    · refine aw_iload (q := 202) 7 dL_sells_200 rfl rfl ?_
      refine aw_iload (q := 204) 8 dL_sells_202 rfl rfl ?_
      refine aw_icmp_lt (q := 207) dL_sells_204 rfl (t := 223) (by decide) (by omega) (by omega) (fun h305 => ?_) (fun h306 => ?_)
      · refine aw_aload_n (q := 224) 0 dL_sells_223 rfl rfl rfl ?_
        refine aw_iconst (q := 225) dL_sells_224 rfl ?_
        refine cv_I (q := 228) (CC := "") (id := 102) (As := [.int (iI 2)]) 1 (n_v2 (D := D) (C := C) (T := T) (ad := ad) hst (G := G) (K := A) (by omega) o eA ) (fun _ h => h) (by omega) (cell_102 ad C _) rfl wc_X5_value wm_RL_42 wi_X5_value ws_X5_value wn_X5 (by decide) rfl ⟨Nat.le_of_ble_eq_true rfl, Nat.le_of_ble_eq_true rfl⟩ ⟨Nat.le_of_ble_eq_true rfl, Nat.le_of_ble_eq_true rfl⟩ (Nat.le_of_ble_eq_true rfl) dL_sells_225 rfl (fun r9 G9 h9 => ?_)
        rw [h9.1, h9.2]
        clear h9
        refine aw_aload_n (q := 229) 0 dL_sells_228 rfl rfl rfl ?_
        refine aw_iconst (q := 230) dL_sells_229 rfl ?_
        refine cv_I (q := 233) (CC := "") (id := 102) (As := [.int (iI 3)]) 1 (n_v3 (D := D) (C := C) (T := T) (ad := ad) hst (G := G) (K := A) (by omega) o eA ) (fun _ h => h) (by omega) (cell_102 ad C _) rfl wc_X5_value wm_RL_42 wi_X5_value ws_X5_value wn_X5 (by decide) rfl ⟨Nat.le_of_ble_eq_true rfl, Nat.le_of_ble_eq_true rfl⟩ ⟨Nat.le_of_ble_eq_true rfl, Nat.le_of_ble_eq_true rfl⟩ (Nat.le_of_ble_eq_true rfl) dL_sells_230 rfl (fun r9 G9 h9 => ?_)
        rw [h9.1, h9.2]
        clear h9
        refine ae_iadd (q := 234) ((worthF (G 0) 5) + (G 0 9)) (by omega) dL_sells_233 rfl ?_
        refine aw_iload (q := 236) 12 dL_sells_234 rfl rfl ?_
        refine aw_same_ne (q := 239) rfl dL_sells_236 rfl (t := 275) (by decide) ?_
        refine aw_aload_n (q := 240) 0 dL_sells_239 rfl rfl rfl ?_
        refine aw_iload_n (q := 241) 1 dL_sells_240 rfl rfl rfl ?_
        refine aw_iconst (q := 242) dL_sells_241 rfl ?_
        refine cv_I (q := 245) (CC := "") (id := 102) (As := [.int (iI k), .int (iI 1)]) 2 (n_coil (D := D) (C := C) (T := T) (ad := ad) hst (G := G) (K := A) (by omega) o eA (c := k) (k := 1) (by omega) (by omega)) (fun _ h => h) (by omega) (cell_102 ad C _) rfl wc_X5_coil wm_RL_39 wi_X5_coil ws_X5_coil wn_X5 (by decide) rfl ⟨Nat.le_of_ble_eq_true rfl, Nat.le_of_ble_eq_true rfl⟩ ⟨Nat.le_of_ble_eq_true rfl, Nat.le_of_ble_eq_true rfl⟩ (Nat.le_of_ble_eq_true rfl) dL_sells_242 rfl (fun r9 G9 h9 => ?_)
        rw [h9.1, h9.2]
        clear h9
        refine aw_iload (q := 247) 9 dL_sells_245 rfl rfl ?_
        refine aw_same_ne (q := 250) rfl dL_sells_247 rfl (t := 275) (by decide) ?_
        refine aw_aload_n (q := 251) 0 dL_sells_250 rfl rfl rfl ?_
        refine aw_iconst (q := 252) dL_sells_251 rfl ?_
        refine cv_I (q := 255) (CC := "") (id := 102) (As := [.int (iI 5)]) 1 (n_v5 (D := D) (C := C) (T := T) (ad := ad) hst (G := G) (K := A) (by omega) o eA ) (fun _ h => h) (by omega) (cell_102 ad C _) rfl wc_X5_value wm_RL_42 wi_X5_value ws_X5_value wn_X5 (by decide) rfl ⟨Nat.le_of_ble_eq_true rfl, Nat.le_of_ble_eq_true rfl⟩ ⟨Nat.le_of_ble_eq_true rfl, Nat.le_of_ble_eq_true rfl⟩ (Nat.le_of_ble_eq_true rfl) dL_sells_252 rfl (fun r9 G9 h9 => ?_)
        rw [h9.1, h9.2]
        clear h9
        refine aw_iload (q := 257) 14 dL_sells_255 rfl rfl ?_
        refine aw_same_ne (q := 260) rfl dL_sells_257 rfl (t := 275) (by decide) ?_
        refine aw_aload_n (q := 261) 0 dL_sells_260 rfl rfl rfl ?_
        refine aw_iload_n (q := 262) 1 dL_sells_261 rfl rfl rfl ?_
        refine cv_F (q := 265) (CC := "") (id := 102) (As := [.int (iI k)]) 1 (n_demand (D := D) (C := C) (T := T) (ad := ad) hst (G := G) (K := A) (by omega) o eA (c := k) (by omega)) (fun _ h => h) (by omega) (cell_102 ad C _) rfl wc_X5_demand wm_RL_45 wi_X5_demand ws_X5_demand wn_X5 (by decide) rfl ⟨Nat.le_of_ble_eq_true rfl, Nat.le_of_ble_eq_true rfl⟩ ⟨Nat.le_of_ble_eq_true rfl, Nat.le_of_ble_eq_true rfl⟩ (Nat.le_of_ble_eq_true rfl) dL_sells_262 rfl (fun r9 G9 h9 => ?_)
        rw [h9.1, h9.2]
        clear h9
        refine aw_fload (q := 267) 15 dL_sells_265 rfl rfl ?_
        refine aw_fcmp (q := 268) dL_sells_267 rfl ?_
        refine aw_ifW_ne (q := 271) dL_sells_268 rfl (t := 275) (by decide) (fun h => (h (okW_eq ocw)).elim) (fun h307 => ?_)
        refine aw_iconst (q := 272) dL_sells_271 rfl ?_
        refine aw_goto (q := 276) dL_sells_272 (by decide) ?_
        exact rt_z rfl (by omega) (Nat.le_of_ble_eq_true rfl) (Nat.le_of_ble_eq_true rfl) (⟨rfl, okI_mono (by omega) (eA.I o)⟩) dL_sells_276
      · refine aw_iload (q := 209) 14 dL_sells_207 rfl rfl ?_
        refine aw_iload (q := 211) 7 dL_sells_209 rfl rfl ?_
        refine ae_iadd (q := 212) ((G 0 311) + pu) (by omega) dL_sells_211 rfl ?_
        refine aw_iload (q := 214) 8 dL_sells_212 rfl rfl ?_
        refine ae_isub (q := 215) ((G 0 311) + pu - (G 0 (15 + 12 * k + 2))) (by omega) dL_sells_214 rfl ?_
        refine aw_aload_n (q := 216) 0 dL_sells_215 rfl rfl rfl ?_
        refine aw_iconst (q := 217) dL_sells_216 rfl ?_
        refine cv_I (q := 220) (CC := "") (id := 102) (As := [.int (iI 3)]) 1 (n_setting (D := D) (C := C) (T := T) (ad := ad) hst (G := G) (K := A) (by omega) o eA (w := 3) (by omega)) (fun _ h => h) (by omega) (cell_102 ad C _) rfl wc_X5_setting wm_RL_85 wi_X5_setting ws_X5_setting wn_X5 (by decide) rfl ⟨Nat.le_of_ble_eq_true rfl, Nat.le_of_ble_eq_true rfl⟩ ⟨Nat.le_of_ble_eq_true rfl, Nat.le_of_ble_eq_true rfl⟩ (Nat.le_of_ble_eq_true rfl) dL_sells_217 rfl (fun r9 G9 h9 => ?_)
        rw [h9.1, h9.2]
        clear h9
        refine aw_icmp_le (q := 223) dL_sells_220 rfl (t := 275) (by decide) (by omega) (by omega) (fun h => ((by have := hns (by omega) (by omega); omega : False)).elim) (fun h308 => ?_)
        refine aw_aload_n (q := 224) 0 dL_sells_223 rfl rfl rfl ?_
        refine aw_iconst (q := 225) dL_sells_224 rfl ?_
        refine cv_I (q := 228) (CC := "") (id := 102) (As := [.int (iI 2)]) 1 (n_v2 (D := D) (C := C) (T := T) (ad := ad) hst (G := G) (K := A) (by omega) o eA ) (fun _ h => h) (by omega) (cell_102 ad C _) rfl wc_X5_value wm_RL_42 wi_X5_value ws_X5_value wn_X5 (by decide) rfl ⟨Nat.le_of_ble_eq_true rfl, Nat.le_of_ble_eq_true rfl⟩ ⟨Nat.le_of_ble_eq_true rfl, Nat.le_of_ble_eq_true rfl⟩ (Nat.le_of_ble_eq_true rfl) dL_sells_225 rfl (fun r9 G9 h9 => ?_)
        rw [h9.1, h9.2]
        clear h9
        refine aw_aload_n (q := 229) 0 dL_sells_228 rfl rfl rfl ?_
        refine aw_iconst (q := 230) dL_sells_229 rfl ?_
        refine cv_I (q := 233) (CC := "") (id := 102) (As := [.int (iI 3)]) 1 (n_v3 (D := D) (C := C) (T := T) (ad := ad) hst (G := G) (K := A) (by omega) o eA ) (fun _ h => h) (by omega) (cell_102 ad C _) rfl wc_X5_value wm_RL_42 wi_X5_value ws_X5_value wn_X5 (by decide) rfl ⟨Nat.le_of_ble_eq_true rfl, Nat.le_of_ble_eq_true rfl⟩ ⟨Nat.le_of_ble_eq_true rfl, Nat.le_of_ble_eq_true rfl⟩ (Nat.le_of_ble_eq_true rfl) dL_sells_230 rfl (fun r9 G9 h9 => ?_)
        rw [h9.1, h9.2]
        clear h9
        refine ae_iadd (q := 234) ((worthF (G 0) 5) + (G 0 9)) (by omega) dL_sells_233 rfl ?_
        refine aw_iload (q := 236) 12 dL_sells_234 rfl rfl ?_
        refine aw_same_ne (q := 239) rfl dL_sells_236 rfl (t := 275) (by decide) ?_
        refine aw_aload_n (q := 240) 0 dL_sells_239 rfl rfl rfl ?_
        refine aw_iload_n (q := 241) 1 dL_sells_240 rfl rfl rfl ?_
        refine aw_iconst (q := 242) dL_sells_241 rfl ?_
        refine cv_I (q := 245) (CC := "") (id := 102) (As := [.int (iI k), .int (iI 1)]) 2 (n_coil (D := D) (C := C) (T := T) (ad := ad) hst (G := G) (K := A) (by omega) o eA (c := k) (k := 1) (by omega) (by omega)) (fun _ h => h) (by omega) (cell_102 ad C _) rfl wc_X5_coil wm_RL_39 wi_X5_coil ws_X5_coil wn_X5 (by decide) rfl ⟨Nat.le_of_ble_eq_true rfl, Nat.le_of_ble_eq_true rfl⟩ ⟨Nat.le_of_ble_eq_true rfl, Nat.le_of_ble_eq_true rfl⟩ (Nat.le_of_ble_eq_true rfl) dL_sells_242 rfl (fun r9 G9 h9 => ?_)
        rw [h9.1, h9.2]
        clear h9
        refine aw_iload (q := 247) 9 dL_sells_245 rfl rfl ?_
        refine aw_same_ne (q := 250) rfl dL_sells_247 rfl (t := 275) (by decide) ?_
        refine aw_aload_n (q := 251) 0 dL_sells_250 rfl rfl rfl ?_
        refine aw_iconst (q := 252) dL_sells_251 rfl ?_
        refine cv_I (q := 255) (CC := "") (id := 102) (As := [.int (iI 5)]) 1 (n_v5 (D := D) (C := C) (T := T) (ad := ad) hst (G := G) (K := A) (by omega) o eA ) (fun _ h => h) (by omega) (cell_102 ad C _) rfl wc_X5_value wm_RL_42 wi_X5_value ws_X5_value wn_X5 (by decide) rfl ⟨Nat.le_of_ble_eq_true rfl, Nat.le_of_ble_eq_true rfl⟩ ⟨Nat.le_of_ble_eq_true rfl, Nat.le_of_ble_eq_true rfl⟩ (Nat.le_of_ble_eq_true rfl) dL_sells_252 rfl (fun r9 G9 h9 => ?_)
        rw [h9.1, h9.2]
        clear h9
        refine aw_iload (q := 257) 14 dL_sells_255 rfl rfl ?_
        refine aw_same_ne (q := 260) rfl dL_sells_257 rfl (t := 275) (by decide) ?_
        refine aw_aload_n (q := 261) 0 dL_sells_260 rfl rfl rfl ?_
        refine aw_iload_n (q := 262) 1 dL_sells_261 rfl rfl rfl ?_
        refine cv_F (q := 265) (CC := "") (id := 102) (As := [.int (iI k)]) 1 (n_demand (D := D) (C := C) (T := T) (ad := ad) hst (G := G) (K := A) (by omega) o eA (c := k) (by omega)) (fun _ h => h) (by omega) (cell_102 ad C _) rfl wc_X5_demand wm_RL_45 wi_X5_demand ws_X5_demand wn_X5 (by decide) rfl ⟨Nat.le_of_ble_eq_true rfl, Nat.le_of_ble_eq_true rfl⟩ ⟨Nat.le_of_ble_eq_true rfl, Nat.le_of_ble_eq_true rfl⟩ (Nat.le_of_ble_eq_true rfl) dL_sells_262 rfl (fun r9 G9 h9 => ?_)
        rw [h9.1, h9.2]
        clear h9
        refine aw_fload (q := 267) 15 dL_sells_265 rfl rfl ?_
        refine aw_fcmp (q := 268) dL_sells_267 rfl ?_
        refine aw_ifW_ne (q := 271) dL_sells_268 rfl (t := 275) (by decide) (fun h => (h (okW_eq ocw)).elim) (fun h309 => ?_)
        refine aw_iconst (q := 272) dL_sells_271 rfl ?_
        refine aw_goto (q := 276) dL_sells_272 (by decide) ?_
        exact rt_z rfl (by omega) (Nat.le_of_ble_eq_true rfl) (Nat.le_of_ble_eq_true rfl) (⟨rfl, okI_mono (by omega) (eA.I o)⟩) dL_sells_276
set_option maxHeartbeats 4000000 in
set_option maxRecDepth 100000 in
theorem SA_sells {l : Launch} {D : va_G} {C : Nat → ClassId} {T : Nat → Nat} {ad : Int → Nat} (hst : l.stackTraces = false) {t : Int} {G K : GG} (ht : 0 ≤ t ∧ t ≤ 900) (o : okI t G) (e : eq0 G K) {k y f : Int} (hk : 0 ≤ k ∧ k < G 0 13) (hf : 0 ≤ f ∧ f ≤ 9) : AW l RL "sells" cL_sells 19 (some .boolean) (fun _ => True) { frames := 8, cells := 1, slots := 6, locals := 226 } (hvE D (RI ad C (fun r G1 => r = 1 ∧ okI (t + 1) G1)) (cw ad C K) 1 6) D (tyC C) (hvZ T (cw ad C K)) (cw ad C K) 21 [(0, .ref (ad 102)), (1, .int (iI k)), (2, .int (iI y))] [.int (iI f)] (cw ad C K) 0 0 := by
  have o8 := o.1.1.2.1
  refine aw_istore_n (q := 22) (lv2 := [(0, .ref (ad 102)), (1, .int (iI k)), (2, .int (iI y)), (3, .int (iI f))]) [1, 2, 3, 0] dL_sells_21 rfl rfl (by decide) rfl rfl ?_
  refine aw_iload_n (q := 23) 2 dL_sells_22 rfl rfl rfl ?_
  refine aw_iconst (q := 24) dL_sells_23 rfl ?_
  refine aw_ishr (q := 25) dL_sells_24 rfl ?_
  refine aw_iconst (q := 26) dL_sells_25 rfl ?_
  refine cs_I (q := 29) (As := [.int (iI (shF y 4)), .int (iI 4)]) 2 (c_low (T := T) (D := D) (ad := ad) K (by omega)) (fun _ h => h) wc_L_low wm_RL_75 wt_L_low wn_L (by decide) rfl ⟨Nat.le_of_ble_eq_true rfl, Nat.le_of_ble_eq_true rfl⟩ ⟨Nat.le_of_ble_eq_true rfl, Nat.le_of_ble_eq_true rfl⟩ (Nat.le_of_ble_eq_true rfl) dL_sells_26 rfl (fun r9 G9 h9 => ?_)
  obtain ⟨rfl, h9⟩ := h9
  rw [h9]
  clear h9
  have hww1 := lowF_r (shF y 4) (n := 4) (by omega)
  generalize lowF (shF y 4) 4 = w1 at *
  refine aw_istore (q := 31) (lv2 := [(0, .ref (ad 102)), (1, .int (iI k)), (2, .int (iI y)), (3, .int (iI f)), (4, .int (iI w1))]) [1, 2, 3, 4, 0] dL_sells_29 rfl (by decide) rfl rfl ?_
  refine aw_iload_n (q := 32) 2 dL_sells_31 rfl rfl rfl ?_
  refine aw_bipush (q := 34) dL_sells_32 rfl (by decide) ?_
  refine aw_ishr (q := 35) dL_sells_34 rfl ?_
  refine aw_iconst (q := 36) dL_sells_35 rfl ?_
  refine cs_I (q := 39) (As := [.int (iI (shF y 7)), .int (iI 4)]) 2 (c_low (T := T) (D := D) (ad := ad) K (by omega)) (fun _ h => h) wc_L_low wm_RL_75 wt_L_low wn_L (by decide) rfl ⟨Nat.le_of_ble_eq_true rfl, Nat.le_of_ble_eq_true rfl⟩ ⟨Nat.le_of_ble_eq_true rfl, Nat.le_of_ble_eq_true rfl⟩ (Nat.le_of_ble_eq_true rfl) dL_sells_36 rfl (fun r9 G9 h9 => ?_)
  obtain ⟨rfl, h9⟩ := h9
  rw [h9]
  clear h9
  have hww2 := lowF_r (shF y 7) (n := 4) (by omega)
  generalize lowF (shF y 7) 4 = w2 at *
  refine aw_istore (q := 41) (lv2 := [(0, .ref (ad 102)), (1, .int (iI k)), (2, .int (iI y)), (3, .int (iI f)), (4, .int (iI w1)), (5, .int (iI w2))]) [1, 2, 3, 4, 5, 0] dL_sells_39 rfl (by decide) rfl rfl ?_
  refine aw_iload_n (q := 42) 2 dL_sells_41 rfl rfl rfl ?_
  refine aw_bipush (q := 44) dL_sells_42 rfl (by decide) ?_
  refine aw_ishr (q := 45) dL_sells_44 rfl ?_
  refine aw_iconst (q := 46) dL_sells_45 rfl ?_
  refine cs_I (q := 49) (As := [.int (iI (shF y 10)), .int (iI 5)]) 2 (c_low (T := T) (D := D) (ad := ad) K (by omega)) (fun _ h => h) wc_L_low wm_RL_75 wt_L_low wn_L (by decide) rfl ⟨Nat.le_of_ble_eq_true rfl, Nat.le_of_ble_eq_true rfl⟩ ⟨Nat.le_of_ble_eq_true rfl, Nat.le_of_ble_eq_true rfl⟩ (Nat.le_of_ble_eq_true rfl) dL_sells_46 rfl (fun r9 G9 h9 => ?_)
  obtain ⟨rfl, h9⟩ := h9
  rw [h9]
  clear h9
  have hww3 := lowF_r (shF y 10) (n := 5) (by omega)
  generalize lowF (shF y 10) 5 = w3 at *
  refine aw_istore (q := 51) (lv2 := [(0, .ref (ad 102)), (1, .int (iI k)), (2, .int (iI y)), (3, .int (iI f)), (4, .int (iI w1)), (5, .int (iI w2)), (6, .int (iI w3))]) [1, 2, 3, 4, 5, 6, 0] dL_sells_49 rfl (by decide) rfl rfl ?_
  refine aw_iconst (q := 52) dL_sells_51 rfl ?_
  refine aw_iload_n (q := 53) 3 dL_sells_52 rfl rfl rfl ?_
  refine ae_imul (q := 54) (5 * f) (by omega) dL_sells_53 rfl ?_
  refine aw_bipush (q := 56) dL_sells_54 rfl (by decide) ?_
  refine aw_iload (q := 58) 4 dL_sells_56 rfl rfl ?_
  refine ae_imul (q := 59) (10 * w1) (by omega) dL_sells_58 rfl ?_
  refine ae_iadd (q := 60) (5 * f + 10 * w1) (by omega) dL_sells_59 rfl ?_
  refine aw_bipush (q := 62) dL_sells_60 rfl (by decide) ?_
  refine aw_iload (q := 64) 5 dL_sells_62 rfl rfl ?_
  refine ae_imul (q := 65) (20 * w2) (by omega) dL_sells_64 rfl ?_
  refine ae_iadd (q := 66) (5 * f + 10 * w1 + 20 * w2) (by omega) dL_sells_65 rfl ?_
  refine aw_bipush (q := 68) dL_sells_66 rfl (by decide) ?_
  refine aw_iload (q := 70) 6 dL_sells_68 rfl rfl ?_
  refine ae_imul (q := 71) (50 * w3) (by omega) dL_sells_70 rfl ?_
  refine ae_iadd (q := 72) (5 * f + 10 * w1 + 20 * w2 + 50 * w3) (by omega) dL_sells_71 rfl ?_
  refine aw_istore (q := 74) (lv2 := [(0, .ref (ad 102)), (1, .int (iI k)), (2, .int (iI y)), (3, .int (iI f)), (4, .int (iI w1)), (5, .int (iI w2)), (6, .int (iI w3)), (7, .int (iI (5 * f + 10 * w1 + 20 * w2 + 50 * w3)))]) [1, 2, 3, 4, 5, 6, 7, 0] dL_sells_72 rfl (by decide) rfl rfl ?_
  refine aw_aload_n (q := 75) 0 dL_sells_74 rfl rfl rfl ?_
  refine aw_iload_n (q := 76) 1 dL_sells_75 rfl rfl rfl ?_
  refine aw_iconst (q := 77) dL_sells_76 rfl ?_
  refine cv_I (q := 80) (CC := "") (id := 102) (As := [.int (iI k), .int (iI 2)]) 2 (n_coil (D := D) (C := C) (T := T) (ad := ad) hst (G := G) (K := K) (by omega) o e (c := k) (k := 2) (by omega) (by omega)) (fun _ h => h) (by omega) (cell_102 ad C _) rfl wc_X5_coil wm_RL_39 wi_X5_coil ws_X5_coil wn_X5 (by decide) rfl ⟨Nat.le_of_ble_eq_true rfl, Nat.le_of_ble_eq_true rfl⟩ ⟨Nat.le_of_ble_eq_true rfl, Nat.le_of_ble_eq_true rfl⟩ (Nat.le_of_ble_eq_true rfl) dL_sells_77 rfl (fun r9 G9 h9 => ?_)
  rw [h9.1, h9.2]
  clear h9
  refine aw_istore (q := 82) (lv2 := [(0, .ref (ad 102)), (1, .int (iI k)), (2, .int (iI y)), (3, .int (iI f)), (4, .int (iI w1)), (5, .int (iI w2)), (6, .int (iI w3)), (7, .int (iI (5 * f + 10 * w1 + 20 * w2 + 50 * w3))), (8, .int (iI ((G 0 (15 + 12 * k + 2)))))]) [1, 2, 3, 4, 5, 6, 7, 8, 0] dL_sells_80 rfl (by decide) rfl rfl ?_
  refine aw_aload_n (q := 83) 0 dL_sells_82 rfl rfl rfl ?_
  refine aw_iload_n (q := 84) 1 dL_sells_83 rfl rfl rfl ?_
  refine aw_iconst (q := 85) dL_sells_84 rfl ?_
  refine cv_I (q := 88) (CC := "") (id := 102) (As := [.int (iI k), .int (iI 1)]) 2 (n_coil (D := D) (C := C) (T := T) (ad := ad) hst (G := G) (K := K) (by omega) o e (c := k) (k := 1) (by omega) (by omega)) (fun _ h => h) (by omega) (cell_102 ad C _) rfl wc_X5_coil wm_RL_39 wi_X5_coil ws_X5_coil wn_X5 (by decide) rfl ⟨Nat.le_of_ble_eq_true rfl, Nat.le_of_ble_eq_true rfl⟩ ⟨Nat.le_of_ble_eq_true rfl, Nat.le_of_ble_eq_true rfl⟩ (Nat.le_of_ble_eq_true rfl) dL_sells_85 rfl (fun r9 G9 h9 => ?_)
  rw [h9.1, h9.2]
  clear h9
  refine aw_istore (q := 90) (lv2 := [(0, .ref (ad 102)), (1, .int (iI k)), (2, .int (iI y)), (3, .int (iI f)), (4, .int (iI w1)), (5, .int (iI w2)), (6, .int (iI w3)), (7, .int (iI (5 * f + 10 * w1 + 20 * w2 + 50 * w3))), (8, .int (iI ((G 0 (15 + 12 * k + 2))))), (9, .int (iI ((G 0 (15 + 12 * k + 1)))))]) [1, 2, 3, 4, 5, 6, 7, 8, 9, 0] dL_sells_88 rfl (by decide) rfl rfl ?_
  refine aw_aload_n (q := 91) 0 dL_sells_90 rfl rfl rfl ?_
  refine aw_iload_n (q := 92) 1 dL_sells_91 rfl rfl rfl ?_
  refine aw_bipush (q := 94) dL_sells_92 rfl (by decide) ?_
  refine cv_I (q := 97) (CC := "") (id := 102) (As := [.int (iI k), .int (iI 6)]) 2 (n_coil (D := D) (C := C) (T := T) (ad := ad) hst (G := G) (K := K) (by omega) o e (c := k) (k := 6) (by omega) (by omega)) (fun _ h => h) (by omega) (cell_102 ad C _) rfl wc_X5_coil wm_RL_39 wi_X5_coil ws_X5_coil wn_X5 (by decide) rfl ⟨Nat.le_of_ble_eq_true rfl, Nat.le_of_ble_eq_true rfl⟩ ⟨Nat.le_of_ble_eq_true rfl, Nat.le_of_ble_eq_true rfl⟩ (Nat.le_of_ble_eq_true rfl) dL_sells_94 rfl (fun r9 G9 h9 => ?_)
  rw [h9.1, h9.2]
  clear h9
  refine aw_istore (q := 99) (lv2 := [(0, .ref (ad 102)), (1, .int (iI k)), (2, .int (iI y)), (3, .int (iI f)), (4, .int (iI w1)), (5, .int (iI w2)), (6, .int (iI w3)), (7, .int (iI (5 * f + 10 * w1 + 20 * w2 + 50 * w3))), (8, .int (iI ((G 0 (15 + 12 * k + 2))))), (9, .int (iI ((G 0 (15 + 12 * k + 1))))), (10, .int (iI ((G 0 (15 + 12 * k + 6)))))]) [1, 2, 3, 4, 5, 6, 7, 8, 9, 10, 0] dL_sells_97 rfl (by decide) rfl rfl ?_
  refine aw_aload_n (q := 100) 0 dL_sells_99 rfl rfl rfl ?_
  refine aw_iload_n (q := 101) 1 dL_sells_100 rfl rfl rfl ?_
  refine aw_bipush (q := 103) dL_sells_101 rfl (by decide) ?_
  refine cv_I (q := 106) (CC := "") (id := 102) (As := [.int (iI k), .int (iI 7)]) 2 (n_coil (D := D) (C := C) (T := T) (ad := ad) hst (G := G) (K := K) (by omega) o e (c := k) (k := 7) (by omega) (by omega)) (fun _ h => h) (by omega) (cell_102 ad C _) rfl wc_X5_coil wm_RL_39 wi_X5_coil ws_X5_coil wn_X5 (by decide) rfl ⟨Nat.le_of_ble_eq_true rfl, Nat.le_of_ble_eq_true rfl⟩ ⟨Nat.le_of_ble_eq_true rfl, Nat.le_of_ble_eq_true rfl⟩ (Nat.le_of_ble_eq_true rfl) dL_sells_103 rfl (fun r9 G9 h9 => ?_)
  rw [h9.1, h9.2]
  clear h9
  refine aw_istore (q := 108) (lv2 := [(0, .ref (ad 102)), (1, .int (iI k)), (2, .int (iI y)), (3, .int (iI f)), (4, .int (iI w1)), (5, .int (iI w2)), (6, .int (iI w3)), (7, .int (iI (5 * f + 10 * w1 + 20 * w2 + 50 * w3))), (8, .int (iI ((G 0 (15 + 12 * k + 2))))), (9, .int (iI ((G 0 (15 + 12 * k + 1))))), (10, .int (iI ((G 0 (15 + 12 * k + 6))))), (11, .int (iI ((G 0 (15 + 12 * k + 7)))))]) [1, 2, 3, 4, 5, 6, 7, 8, 9, 10, 11, 0] dL_sells_106 rfl (by decide) rfl rfl ?_
  refine aw_aload_n (q := 109) 0 dL_sells_108 rfl rfl rfl ?_
  refine aw_iconst (q := 110) dL_sells_109 rfl ?_
  refine cv_I (q := 113) (CC := "") (id := 102) (As := [.int (iI 2)]) 1 (n_v2 (D := D) (C := C) (T := T) (ad := ad) hst (G := G) (K := K) (by omega) o e ) (fun _ h => h) (by omega) (cell_102 ad C _) rfl wc_X5_value wm_RL_42 wi_X5_value ws_X5_value wn_X5 (by decide) rfl ⟨Nat.le_of_ble_eq_true rfl, Nat.le_of_ble_eq_true rfl⟩ ⟨Nat.le_of_ble_eq_true rfl, Nat.le_of_ble_eq_true rfl⟩ (Nat.le_of_ble_eq_true rfl) dL_sells_110 rfl (fun r9 G9 h9 => ?_)
  rw [h9.1, h9.2]
  clear h9
  refine aw_aload_n (q := 114) 0 dL_sells_113 rfl rfl rfl ?_
  refine aw_iconst (q := 115) dL_sells_114 rfl ?_
  refine cv_I (q := 118) (CC := "") (id := 102) (As := [.int (iI 3)]) 1 (n_v3 (D := D) (C := C) (T := T) (ad := ad) hst (G := G) (K := K) (by omega) o e ) (fun _ h => h) (by omega) (cell_102 ad C _) rfl wc_X5_value wm_RL_42 wi_X5_value ws_X5_value wn_X5 (by decide) rfl ⟨Nat.le_of_ble_eq_true rfl, Nat.le_of_ble_eq_true rfl⟩ ⟨Nat.le_of_ble_eq_true rfl, Nat.le_of_ble_eq_true rfl⟩ (Nat.le_of_ble_eq_true rfl) dL_sells_115 rfl (fun r9 G9 h9 => ?_)
  rw [h9.1, h9.2]
  clear h9
  refine ae_iadd (q := 119) ((worthF (G 0) 5) + (G 0 9)) (by omega) dL_sells_118 rfl ?_
  refine aw_istore (q := 121) (lv2 := [(0, .ref (ad 102)), (1, .int (iI k)), (2, .int (iI y)), (3, .int (iI f)), (4, .int (iI w1)), (5, .int (iI w2)), (6, .int (iI w3)), (7, .int (iI (5 * f + 10 * w1 + 20 * w2 + 50 * w3))), (8, .int (iI ((G 0 (15 + 12 * k + 2))))), (9, .int (iI ((G 0 (15 + 12 * k + 1))))), (10, .int (iI ((G 0 (15 + 12 * k + 6))))), (11, .int (iI ((G 0 (15 + 12 * k + 7))))), (12, .int (iI ((worthF (G 0) 5) + (G 0 9))))]) [1, 2, 3, 4, 5, 6, 7, 8, 9, 10, 11, 12, 0] dL_sells_119 rfl (by decide) rfl rfl ?_
  refine aw_aload_n (q := 122) 0 dL_sells_121 rfl rfl rfl ?_
  refine aw_bipush (q := 124) dL_sells_122 rfl (by decide) ?_
  refine cv_I (q := 127) (CC := "") (id := 102) (As := [.int (iI 6)]) 1 (n_v6 (D := D) (C := C) (T := T) (ad := ad) hst (G := G) (K := K) (by omega) o e ) (fun _ h => h) (by omega) (cell_102 ad C _) rfl wc_X5_value wm_RL_42 wi_X5_value ws_X5_value wn_X5 (by decide) rfl ⟨Nat.le_of_ble_eq_true rfl, Nat.le_of_ble_eq_true rfl⟩ ⟨Nat.le_of_ble_eq_true rfl, Nat.le_of_ble_eq_true rfl⟩ (Nat.le_of_ble_eq_true rfl) dL_sells_124 rfl (fun r9 G9 h9 => ?_)
  rw [h9.1, h9.2]
  clear h9
  refine aw_istore (q := 129) (lv2 := [(0, .ref (ad 102)), (1, .int (iI k)), (2, .int (iI y)), (3, .int (iI f)), (4, .int (iI w1)), (5, .int (iI w2)), (6, .int (iI w3)), (7, .int (iI (5 * f + 10 * w1 + 20 * w2 + 50 * w3))), (8, .int (iI ((G 0 (15 + 12 * k + 2))))), (9, .int (iI ((G 0 (15 + 12 * k + 1))))), (10, .int (iI ((G 0 (15 + 12 * k + 6))))), (11, .int (iI ((G 0 (15 + 12 * k + 7))))), (12, .int (iI ((worthF (G 0) 5) + (G 0 9)))), (13, .int (iI (G 0 11)))]) [1, 2, 3, 4, 5, 6, 7, 8, 9, 10, 11, 12, 13, 0] dL_sells_127 rfl (by decide) rfl rfl ?_
  refine aw_aload_n (q := 130) 0 dL_sells_129 rfl rfl rfl ?_
  refine aw_iconst (q := 131) dL_sells_130 rfl ?_
  refine cv_I (q := 134) (CC := "") (id := 102) (As := [.int (iI 5)]) 1 (n_v5 (D := D) (C := C) (T := T) (ad := ad) hst (G := G) (K := K) (by omega) o e ) (fun _ h => h) (by omega) (cell_102 ad C _) rfl wc_X5_value wm_RL_42 wi_X5_value ws_X5_value wn_X5 (by decide) rfl ⟨Nat.le_of_ble_eq_true rfl, Nat.le_of_ble_eq_true rfl⟩ ⟨Nat.le_of_ble_eq_true rfl, Nat.le_of_ble_eq_true rfl⟩ (Nat.le_of_ble_eq_true rfl) dL_sells_131 rfl (fun r9 G9 h9 => ?_)
  rw [h9.1, h9.2]
  clear h9
  refine aw_istore (q := 136) (lv2 := [(0, .ref (ad 102)), (1, .int (iI k)), (2, .int (iI y)), (3, .int (iI f)), (4, .int (iI w1)), (5, .int (iI w2)), (6, .int (iI w3)), (7, .int (iI (5 * f + 10 * w1 + 20 * w2 + 50 * w3))), (8, .int (iI ((G 0 (15 + 12 * k + 2))))), (9, .int (iI ((G 0 (15 + 12 * k + 1))))), (10, .int (iI ((G 0 (15 + 12 * k + 6))))), (11, .int (iI ((G 0 (15 + 12 * k + 7))))), (12, .int (iI ((worthF (G 0) 5) + (G 0 9)))), (13, .int (iI (G 0 11))), (14, .int (iI (G 0 311)))]) [1, 2, 3, 4, 5, 6, 7, 8, 9, 10, 11, 12, 13, 14, 0] dL_sells_134 rfl (by decide) rfl rfl ?_
  refine aw_aload_n (q := 137) 0 dL_sells_136 rfl rfl rfl ?_
  refine aw_iload_n (q := 138) 1 dL_sells_137 rfl rfl rfl ?_
  refine cv_F (q := 141) (CC := "") (id := 102) (As := [.int (iI k)]) 1 (n_demand (D := D) (C := C) (T := T) (ad := ad) hst (G := G) (K := K) (by omega) o e (c := k) (by omega)) (fun _ h => h) (by omega) (cell_102 ad C _) rfl wc_X5_demand wm_RL_45 wi_X5_demand ws_X5_demand wn_X5 (by decide) rfl ⟨Nat.le_of_ble_eq_true rfl, Nat.le_of_ble_eq_true rfl⟩ ⟨Nat.le_of_ble_eq_true rfl, Nat.le_of_ble_eq_true rfl⟩ (Nat.le_of_ble_eq_true rfl) dL_sells_138 rfl (fun r9 G9 h9 => ?_)
  rw [h9.1, h9.2]
  clear h9
  refine aw_fstore (q := 143) (lv2 := [(0, .ref (ad 102)), (1, .int (iI k)), (2, .int (iI y)), (3, .int (iI f)), (4, .int (iI w1)), (5, .int (iI w2)), (6, .int (iI w3)), (7, .int (iI (5 * f + 10 * w1 + 20 * w2 + 50 * w3))), (8, .int (iI ((G 0 (15 + 12 * k + 2))))), (9, .int (iI ((G 0 (15 + 12 * k + 1))))), (10, .int (iI ((G 0 (15 + 12 * k + 6))))), (11, .int (iI ((G 0 (15 + 12 * k + 7))))), (12, .int (iI ((worthF (G 0) 5) + (G 0 9)))), (13, .int (iI (G 0 11))), (14, .int (iI (G 0 311))), (15, .float ((fB (G 0 (15 + 12 * k + 10)))))]) [1, 2, 3, 4, 5, 6, 7, 8, 9, 10, 11, 12, 13, 14, 15, 0] dL_sells_141 rfl (by decide) rfl rfl ?_
  refine aw_iload_n (q := 144) 3 dL_sells_143 rfl rfl rfl ?_
  refine aw_if_ne (q := 147) dL_sells_144 rfl (t := 164) (by decide) (by omega) (fun h1 => ?_) (fun h2 => ?_)
  · refine aw_iconst (q := 165) dL_sells_164 rfl ?_
    refine aw_istore (q := 167) (lv2 := [(0, .ref (ad 102)), (1, .int (iI k)), (2, .int (iI y)), (3, .int (iI f)), (4, .int (iI w1)), (5, .int (iI w2)), (6, .int (iI w3)), (7, .int (iI (5 * f + 10 * w1 + 20 * w2 + 50 * w3))), (8, .int (iI ((G 0 (15 + 12 * k + 2))))), (9, .int (iI ((G 0 (15 + 12 * k + 1))))), (10, .int (iI ((G 0 (15 + 12 * k + 6))))), (11, .int (iI ((G 0 (15 + 12 * k + 7))))), (12, .int (iI ((worthF (G 0) 5) + (G 0 9)))), (13, .int (iI (G 0 11))), (14, .int (iI (G 0 311))), (15, .float ((fB (G 0 (15 + 12 * k + 10))))), (16, .int (iI (-1)))]) [1, 2, 3, 4, 5, 6, 7, 8, 9, 10, 11, 12, 13, 14, 15, 16, 0] dL_sells_165 rfl (by decide) rfl rfl ?_
    exact SB_sells hst ht o hk hf (by omega) (by omega) (by omega) (by omega) e (Or.inl rfl)
  · refine aw_iload (q := 149) 5 dL_sells_147 rfl rfl ?_
    refine aw_if_ne (q := 152) dL_sells_149 rfl (t := 164) (by decide) (by omega) (fun h3 => ?_) (fun h4 => ?_)
    · refine aw_iconst (q := 165) dL_sells_164 rfl ?_
      refine aw_istore (q := 167) (lv2 := [(0, .ref (ad 102)), (1, .int (iI k)), (2, .int (iI y)), (3, .int (iI f)), (4, .int (iI w1)), (5, .int (iI w2)), (6, .int (iI w3)), (7, .int (iI (5 * f + 10 * w1 + 20 * w2 + 50 * w3))), (8, .int (iI ((G 0 (15 + 12 * k + 2))))), (9, .int (iI ((G 0 (15 + 12 * k + 1))))), (10, .int (iI ((G 0 (15 + 12 * k + 6))))), (11, .int (iI ((G 0 (15 + 12 * k + 7))))), (12, .int (iI ((worthF (G 0) 5) + (G 0 9)))), (13, .int (iI (G 0 11))), (14, .int (iI (G 0 311))), (15, .float ((fB (G 0 (15 + 12 * k + 10))))), (16, .int (iI (-1)))]) [1, 2, 3, 4, 5, 6, 7, 8, 9, 10, 11, 12, 13, 14, 15, 16, 0] dL_sells_165 rfl (by decide) rfl rfl ?_
      exact SB_sells hst ht o hk hf (by omega) (by omega) (by omega) (by omega) e (Or.inl rfl)
    · refine aw_aload_n (q := 153) 0 dL_sells_152 rfl rfl rfl ?_
      refine aw_iload_n (q := 154) 1 dL_sells_153 rfl rfl rfl ?_
      refine aw_iload (q := 156) 4 dL_sells_154 rfl rfl ?_
      refine aw_iload (q := 158) 6 dL_sells_156 rfl rfl ?_
      refine cv_I (q := 161) (CC := "") (id := 102) (As := [.int (iI k), .int (iI w1), .int (iI w3)]) 3 (n_row (D := D) (C := C) (T := T) (ad := ad) hst (G := G) (K := K) (by omega) o e (c := k) (b := w1) (d := w3) hk (by omega) (by omega)) (fun _ h => h) (by omega) (cell_102 ad C _) rfl wc_X5_salesInARow wm_RL_78 wi_X5_salesInARow ws_X5_salesInARow wn_X5 (by decide) rfl ⟨Nat.le_of_ble_eq_true rfl, Nat.le_of_ble_eq_true rfl⟩ ⟨Nat.le_of_ble_eq_true rfl, Nat.le_of_ble_eq_true rfl⟩ (Nat.le_of_ble_eq_true rfl) dL_sells_158 rfl (fun ro K1 h9 => ?_)
      obtain ⟨e1, hr1, hr2⟩ := h9
      refine aw_goto (q := 165) dL_sells_161 (by decide) ?_
      refine aw_istore (q := 167) (lv2 := [(0, .ref (ad 102)), (1, .int (iI k)), (2, .int (iI y)), (3, .int (iI f)), (4, .int (iI w1)), (5, .int (iI w2)), (6, .int (iI w3)), (7, .int (iI (5 * f + 10 * w1 + 20 * w2 + 50 * w3))), (8, .int (iI ((G 0 (15 + 12 * k + 2))))), (9, .int (iI ((G 0 (15 + 12 * k + 1))))), (10, .int (iI ((G 0 (15 + 12 * k + 6))))), (11, .int (iI ((G 0 (15 + 12 * k + 7))))), (12, .int (iI ((worthF (G 0) 5) + (G 0 9)))), (13, .int (iI (G 0 11))), (14, .int (iI (G 0 311))), (15, .float ((fB (G 0 (15 + 12 * k + 10))))), (16, .int (iI ro))]) [1, 2, 3, 4, 5, 6, 7, 8, 9, 10, 11, 12, 13, 14, 15, 16, 0] dL_sells_165 rfl (by decide) rfl rfl ?_
      have hf0 : f = 0 := by omega
      have hw0 : w2 = 0 := by omega
      subst hf0 hw0
      exact SB_sells hst ht o hk (by omega) (by omega) (by omega) (by omega) (by omega) e1 (Or.inr ⟨hr1.1, hr1.2.2, hr2⟩)
set_option maxHeartbeats 4000000 in
set_option maxRecDepth 100000 in
theorem c_sells {l : Launch} {D : va_G} {C : Nat → ClassId} {T : Nat → Nat} {ad : Int → Nat} (hst : l.stackTraces = false) {t : Int} {G K : GG} (ht : 0 ≤ t ∧ t ≤ 900) (o : okI t G) (e : eq0 G K) {k y : Int} (hk : 0 ≤ k ∧ k < G 0 13) : MC l yL_sells cL_sells 19 (some .boolean) 8 226 1 6 D (tyC C) T [.ref (ad 102), .int (iI k), .int (iI y)] (cw ad C K) (RI ad C (fun r G1 => r = 1 ∧ okI (t + 1) G1)) := by
  refine mc_of (by decide +kernel) (Nat.le_of_ble_eq_true rfl) rfl ?_
  refine aw_iload_n (q := 1) 2 dL_sells_0 rfl rfl rfl ?_
  refine aw_iload_n (q := 2) 2 dL_sells_1 rfl rfl rfl ?_
  refine aw_bipush (q := 4) dL_sells_2 rfl (by decide) ?_
  refine aw_ishr (q := 5) dL_sells_4 rfl ?_
  refine aw_iconst (q := 6) dL_sells_5 rfl ?_
  refine cs_I (q := 9) (As := [.int (iI (shF y 20)), .int (iI 3)]) 2 (c_low (T := T) (D := D) (ad := ad) K (by omega)) (fun _ h => h) wc_L_low wm_RL_75 wt_L_low wn_L (by decide) rfl ⟨Nat.le_of_ble_eq_true rfl, Nat.le_of_ble_eq_true rfl⟩ ⟨Nat.le_of_ble_eq_true rfl, Nat.le_of_ble_eq_true rfl⟩ (Nat.le_of_ble_eq_true rfl) dL_sells_6 rfl (fun r9 G9 h9 => ?_)
  obtain ⟨rfl, h9⟩ := h9
  rw [h9]
  clear h9
  have hww1 := lowF_r (shF y 20) (n := 3) (by omega)
  generalize lowF (shF y 20) 3 = w1 at *
  refine aw_if_ne (q := 12) dL_sells_9 rfl (t := 17) (by decide) (by omega) (fun h1 => ?_) (fun h2 => ?_)
  · refine aw_iconst (q := 18) dL_sells_17 rfl ?_
    refine cs_I (q := 21) (As := [.int (iI y), .int (iI 2)]) 2 (c_low (T := T) (D := D) (ad := ad) K (by omega)) (fun _ h => h) wc_L_low wm_RL_75 wt_L_low wn_L (by decide) rfl ⟨Nat.le_of_ble_eq_true rfl, Nat.le_of_ble_eq_true rfl⟩ ⟨Nat.le_of_ble_eq_true rfl, Nat.le_of_ble_eq_true rfl⟩ (Nat.le_of_ble_eq_true rfl) dL_sells_18 rfl (fun r9 G9 h9 => ?_)
    obtain ⟨rfl, h9⟩ := h9
    rw [h9]
    clear h9
    have hww2 := lowF_r y (n := 2) (by omega)
    generalize lowF y 2 = w2 at *
    exact SA_sells hst ht o e hk (by omega)
  · refine aw_bipush (q := 14) dL_sells_12 rfl (by decide) ?_
    refine aw_goto (q := 18) dL_sells_14 (by decide) ?_
    refine cs_I (q := 21) (As := [.int (iI y), .int (iI 10)]) 2 (c_low (T := T) (D := D) (ad := ad) K (by omega)) (fun _ h => h) wc_L_low wm_RL_75 wt_L_low wn_L (by decide) rfl ⟨Nat.le_of_ble_eq_true rfl, Nat.le_of_ble_eq_true rfl⟩ ⟨Nat.le_of_ble_eq_true rfl, Nat.le_of_ble_eq_true rfl⟩ (Nat.le_of_ble_eq_true rfl) dL_sells_18 rfl (fun r9 G9 h9 => ?_)
    obtain ⟨rfl, h9⟩ := h9
    rw [h9]
    clear h9
    have hww3 := lowF_r y (n := 10) (by omega)
    generalize lowF y 10 = w3 at *
    exact SA_sells hst ht o e hk (by omega)
