/-! the law's holds -/
theorem okW_cmp {x y : Int} (hx : okW x) (hy : okW y) : (x ≤ y → Op.cmpValue (FP.fcmp (fB x) (fB y)) .l ≤ 0) ∧ (Op.cmpValue (FP.fcmp (fB x) (fB y)) .l ≤ 0 → x ≤ y) ∧ (y ≤ x → ¬ Op.cmpValue (FP.fcmp (fB x) (fB y)) .l < 0) := by
  obtain ⟨a1, a2⟩ := fl_x hx
  obtain ⟨b1, b2⟩ := fl_x hy
  have x0 := hx.1
  have y0 := hy.1
  rw [fl_cmp (by omega) (by omega), a1, b1]
  rcases Int.lt_trichotomy x y with z | z | z
  · rw [Int.compare_eq_lt.mpr (by omega)]
    exact ⟨fun _ => by decide, fun _ => by omega, fun q => by omega⟩
  · rw [Int.compare_eq_eq.mpr (by omega)]
    exact ⟨fun _ => by decide, fun _ => by omega, fun _ => by decide⟩
  · rw [Int.compare_eq_gt.mpr (by omega)]
    exact ⟨fun q => by omega, fun q => absurd q (by decide), fun _ => by decide⟩
theorem fav_spec {g : Row} {N : Int} (ok : ∀ d : Int, 0 ≤ d → d < N → okW (g (15 + 12 * d + 10))) : ∀ n : Nat, 1 ≤ n → (n : Int) ≤ N → (0 ≤ (fvF g n).1 ∧ (fvF g n).1 < n) ∧ (fvF g n).2 = fB (g (15 + 12 * (fvF g n).1 + 10)) ∧ ∀ d : Int, 0 ≤ d → d < n → g (15 + 12 * d + 10) ≤ g (15 + 12 * (fvF g n).1 + 10)
  | 0, h, _ => absurd h (by decide)
  | n + 1, _, hN => by
    have e : fvF g (n + 1) = if fcl (fB (g (15 + 12 * (n : Int) + 10))) (fvF g n).2 ≤ 0 then fvF g n else ((n : Int), fB (g (15 + 12 * (n : Int) + 10))) := rfl
    have okn := ok (n : Int) (by omega) (by omega)
    by_cases h0 : n = 0
    · subst h0
      have hn : ¬ fcl (fB (g (15 + 12 * ((0 : Nat) : Int) + 10))) (fvF g 0).2 ≤ 0 := fw_neg _ okn
      rw [e, if_neg hn]
      refine ⟨⟨by show (0 : Int) ≤ ((0 : Nat) : Int); omega, by show ((0 : Nat) : Int) < ((0 + 1 : Nat) : Int); omega⟩, rfl, fun d d0 d1 => ?_⟩
      have hd : d = ((0 : Nat) : Int) := by omega
      subst hd
      exact Int.le_refl _
    · obtain ⟨i1, i2, i3⟩ := fav_spec ok n (by omega) (by omega)
      have okf := ok (fvF g n).1 i1.1 (by omega)
      have cm := okW_cmp okn okf
      by_cases hc : fcl (fB (g (15 + 12 * (n : Int) + 10))) (fvF g n).2 ≤ 0
      · rw [e, if_pos hc]
        rw [i2] at hc
        refine ⟨⟨i1.1, by omega⟩, i2, fun d d0 d1 => ?_⟩
        by_cases hd : d = (n : Int)
        · subst hd
          exact cm.2.1 hc
        · exact i3 d d0 (by omega)
      · rw [e, if_neg hc]
        rw [i2] at hc
        have hlt : g (15 + 12 * (fvF g n).1 + 10) ≤ g (15 + 12 * (n : Int) + 10) := by
          by_cases q : g (15 + 12 * (n : Int) + 10) ≤ g (15 + 12 * (fvF g n).1 + 10)
          · exact absurd (cm.1 q) hc
          · omega
        refine ⟨⟨by show (0 : Int) ≤ (n : Int); omega, by show (n : Int) < ((n + 1 : Nat) : Int); omega⟩, rfl, fun d d0 d1 => ?_⟩
        show g (15 + 12 * d + 10) ≤ g (15 + 12 * (n : Int) + 10)
        by_cases hd : d = (n : Int)
        · subst hd
          exact Int.le_refl _
        · exact Int.le_trans (i3 d d0 (by omega)) hlt
theorem fav_0 (g : Row) {n : Int} (h : n ≤ 0) : (fvF g n.toNat).1 = -1 := by
  rw [show n.toNat = 0 by omega]
  rfl
def sm (s0 s1 s2 s3 : Int) : Nat → Int32 := fun j => if j = 0 then iI s0 else if j = 1 then iI s1 else if j = 2 then iI s2 else if j = 3 then iI s3 else iI 0
theorem sm_z : (fun _ => iI 0 : Nat → Int32) = sm 0 0 0 0 := by
  funext j
  unfold sm
  (repeat' split) <;> rfl
theorem sm_u0 {s0 s1 s2 s3 v : Int} : upd (sm s0 s1 s2 s3) 0 (iI v) = sm v s1 s2 s3 := by
  funext j
  unfold upd sm
  by_cases h : j = 0
  · rw [if_pos h, if_pos h]
  · rw [if_neg h, if_neg h, if_neg h]
theorem sm_u1 {s0 s1 s2 s3 v : Int} : upd (sm s0 s1 s2 s3) 1 (iI v) = sm s0 v s2 s3 := by
  funext j
  unfold upd sm
  by_cases h : j = 1
  · subst h; rfl
  · rw [if_neg h, if_neg h, if_neg h]
theorem sm_u2 {s0 s1 s2 s3 v : Int} : upd (sm s0 s1 s2 s3) 2 (iI v) = sm s0 s1 v s3 := by
  funext j
  unfold upd sm
  by_cases h : j = 2
  · subst h; rfl
  · rw [if_neg h, if_neg h, if_neg h]
theorem sm_u3 {s0 s1 s2 s3 v : Int} : upd (sm s0 s1 s2 s3) 3 (iI v) = sm s0 s1 s2 v := by
  funext j
  unfold upd sm
  by_cases h : j = 3
  · subst h; rfl
  · rw [if_neg h, if_neg h, if_neg h]
def smC (C : Nat → ClassId) (a : Nat) (s0 s1 s2 s3 : Int) : va_W := [(a, .inl (C 0, 4, .inl (sm s0 s1 s2 s3)))]
theorem cw_len (ad : Int → Nat) (C : Nat → ClassId) (G : GG) : (cw ad C G).length = 108 := by simp [cw]
theorem sm_at {ad : Int → Nat} {C : Nat → ClassId} {G : GG} {a : Nat} {s0 s1 s2 s3 : Int} : (cw ad C G ++ smC C a s0 s1 s2 s3)[108]? = some (a, .inl (C 0, 4, .inl (sm s0 s1 s2 s3))) := by
  have h := va_at_r (a := cw ad C G) (b := smC C a s0 s1 s2 s3) (k := 0) rfl
  rw [cw_len] at h
  exact h
section SM
variable {l : Launch} {own nm : String} {cc : ByteArray} {nL : Nat} {ret : Option FieldType} {X : Code → Prop} {R : Room} {E : List Frame → Array Value → State → State → Prop} {D : va_G} {C : Nat → ClassId} {Z : State → Prop} {w0 : va_W} {pc q : Nat} {lv : List (Nat × Value)} {st : List Value} {k n : Nat} {ad : Int → Nat} {G : GG} {a : Nat} {s0 s1 s2 s3 : Int}
theorem sm_ld {i v : Int} (hi : 0 ≤ i ∧ i < 4) (hv : sm s0 s1 s2 s3 i.toNat = iI v) (d : decode cc pc = .ok (.iaload, 1)) (hq : pc + 1 = q)
    (kk : AW l own nm cc nL ret X R E D (tyC C) Z w0 q lv (.int (iI v) :: st) (cw ad C G ++ smC C a s0 s1 s2 s3) k n) : AW l own nm cc nL ret X R E D (tyC C) Z w0 pc lv (.int (iI i) :: .ref a :: st) (cw ad C G ++ smC C a s0 s1 s2 s3) k n := by
  refine aw_iald 108 0 sm_at rfl (iI_in (n := 4) hi (by omega)) d hq ?_
  rw [iI_nat (by omega), hv]
  exact kk
theorem sm_st {i v t0 t1 t2 t3 : Int} (hi : 0 ≤ i ∧ i < 4) (hv : upd (sm s0 s1 s2 s3) i.toNat (iI v) = sm t0 t1 t2 t3) (d : decode cc pc = .ok (.iastore, 1)) (hq : pc + 1 = q)
    (kk : AW l own nm cc nL ret X R E D (tyC C) Z w0 q lv st (cw ad C G ++ smC C a t0 t1 t2 t3) k n) : AW l own nm cc nL ret X R E D (tyC C) Z w0 pc lv (.int (iI v) :: .int (iI i) :: .ref a :: st) (cw ad C G ++ smC C a s0 s1 s2 s3) k n := by
  refine aw_iast 108 0 sm_at rfl (iI_in (n := 4) hi (by omega)) d hq ?_
  rw [iI_nat (by omega), hv]
  have e : (cw ad C G ++ smC C a s0 s1 s2 s3).set 108 (a, .inl (C 0, 4, .inl (sm t0 t1 t2 t3))) = cw ad C G ++ smC C a t0 t1 t2 t3 := by
    refine (List.set_append_right _ _ (Nat.le_of_eq (cw_len ad C G))).trans ?_
    rw [cw_len]
    rfl
  rw [e]
  exact kk
theorem aw_rem5g {ty : List (ClassId × FieldType)} {ws : va_W} {x y z : Int} (hx : 0 ≤ x ∧ x ≤ 2147483647) (hy : 0 < y ∧ y ≤ 2147483647) (hz : x % y = z) (d : decode cc pc = .ok (.irem, 1)) (hq : pc + 1 = q)
    (kk : AW l own nm cc nL ret X R E D ty Z w0 q lv (.int (iI z) :: st) ws k n) : AW l own nm cc nL ret X R E D ty Z w0 pc lv (.int (iI y) :: .int (iI x) :: st) ws k n := by
  refine aw_iremR d hq (fun h => ?_) ?_
  · rw [show (0 : Int32) = iI 0 from by decide, iI_inj (by omega) (by omega)] at h; omega
  · rw [iI_div hx hy, iI_mul, iI_sub, show x - x / y * y = z from by rw [← hz]; have := Int.mul_ediv_add_emod x y; rw [Int.mul_comm] at this; omega]; exact kk
theorem aw_drop {ty : List (ClassId × FieldType)} {ws r : va_W} (kk : AW l own nm cc nL ret X R E D ty Z w0 pc lv st ws k n) : AW l own nm cc nL ret X R E D ty Z w0 pc lv st (ws ++ r) k n :=
  fun p e s m args below meth c hC hK hZ H locs ls hP hD hS hl => kk p e s m args below meth c hC hK hZ H locs ls (va_P_l hP) (va_D_l hD) hS hl
theorem aw_less {ty : List (ClassId × FieldType)} {ws : va_W} {lv2 : List (Nat × Value)} (hs : ∀ q ∈ lv2, q ∈ lv)
    (kk : AW l own nm cc nL ret X R E D ty Z w0 pc lv2 st ws k n) : AW l own nm cc nL ret X R E D ty Z w0 pc lv st ws k n :=
  fun p e s m args below meth c hC hK hZ H locs ls hP hD hS hl => kk p e s m args below meth c hC hK hZ H locs ls hP hD hS ⟨hl.1, hl.2.1, fun q hq => hl.2.2 q (hs q hq)⟩
theorem aw_ifW_gt {ty : List (ClassId × FieldType)} {ws : va_W} {x : Int32} {off : Int} {t : Nat} (d : decode cc pc = .ok (.ifCond .gt off, 3)) (hq : pc + 3 = q) (ht : (pc : Int) + off = (t : Int)) (kt : 0 < x → AW l own nm cc nL ret X R E D ty Z w0 t lv st ws k n) (kf : ¬ 0 < x → AW l own nm cc nL ret X R E D ty Z w0 q lv st ws k n) : AW l own nm cc nL ret X R E D ty Z w0 pc lv (.int x :: st) ws k n := by
  subst hq
  intro p e s m args below meth c hC hK hZ H locs ls hP hD hS hl
  obtain ⟨hx, hb, hml, hown, hts, hr, hlk, hnm, hX⟩ := id hC
  exact lv_if_gt hx hb d ht (fun h => kt h p e s m args below meth c hC hK hZ H locs ls hP hD hS hl) (fun h => kf h p e s m args below meth c hC hK hZ H locs ls hP hD hS hl)
end SM
set_option maxHeartbeats 4000000 in
set_option maxRecDepth 100000 in
theorem LP_holds {l : Launch} {D : va_G} {C : Nat → ClassId} {T : Nat → Nat} {ad : Int → Nat} (hst : l.stackTraces = false) {t : Int} {G : GG} (ht : t ≤ 1000) (o : okI t G) {a : Nat} {mo : Int} (hmo : worthF (G 0) 5 = mo) : ∀ (m : Nat) (c : Int), 0 ≤ c → c ≤ G 0 14 → G 0 14 - c < m → AW l RL "holds" cL_holds 7 (some .boolean) (fun _ => True) { frames := 8, cells := 3, slots := 16, locals := 223 } (hvE D (RI ad C (fun r G1 => r = 1 ∧ G1 = G)) (cw ad C G) 3 16) D (tyC C) (hvZ T (cw ad C G)) (cw ad C G) 279 [(0, .ref (ad 102)), (1, .ref a), (2, .int (iI (G 0 13))), (3, .int (iI mo)), (4, .int (iI c))] [] (cw ad C G ++ smC C a ((sumF (G 0) 1 ((G 0 13)).toNat)) ((sumF (G 0) 6 ((G 0 13)).toNat)) ((sumF (G 0) 7 ((G 0 13)).toNat)) ((sumQ (prm G 0) (c).toNat))) 1 4 := by
  intro m
  induction m with
  | zero => intro c h1 h2 h3; omega
  | succ m ih =>
    intro c h1 h2 h3
    have o8 := o.1.1.2.1
    have o14 := o.1.2.1.1
    have h311 := o.1.2.2.2.1
    have pl : c < G 0 14 → 5 ≤ G 0 (111 + c) ∧ G 0 (111 + c) % 5 = 0 ∧ G 0 (111 + c) ≤ 1000 := fun z => prom_le o ⟨h1, z⟩
    refine aw_iload (q := 281) 4 dL_holds_279 rfl rfl ?_
    refine aw_aload_n (q := 282) 0 dL_holds_281 rfl rfl rfl ?_
    refine aw_iconst (q := 283) dL_holds_282 rfl ?_
    refine fv_I (CC := "") (id := 102) (As := [.int (iI 4)]) 1 (n_v4 (D := D) (C := C) (T := T) (ad := ad) hst (G := G) (K := G) ht o eq0.rf ) (fun _ h => h) (by omega) (cell_102 ad C _) rfl wc_X5_value wm_RL_42 wi_X5_value ws_X5_value wn_X5 (by decide) rfl ⟨Nat.le_of_ble_eq_true rfl, Nat.le_of_ble_eq_true rfl⟩ ⟨Nat.le_of_ble_eq_true rfl, Nat.le_of_ble_eq_true rfl⟩ (Nat.le_of_ble_eq_true rfl) dL_holds_283 rfl (fun r9 G9 h9 => ?_)
    rw [h9.1, h9.2]
    clear h9
    refine aw_icmp_ge (q := 289) dL_holds_286 rfl (t := 330) (by decide) (by first | omega | (have := pl (by omega); omega)) (by first | omega | (have := pl (by omega); omega)) (fun h21 => ?_) (fun h22 => ?_)
    · refine aw_aload_n (q := 331) 0 dL_holds_330 rfl rfl rfl ?_
      refine aw_aload_n (q := 332) 0 dL_holds_331 rfl rfl rfl ?_
      refine aw_iconst (q := 333) dL_holds_332 rfl ?_
      refine fv_I (CC := "") (id := 102) (As := [.int (iI 4)]) 1 (n_v4 (D := D) (C := C) (T := T) (ad := ad) hst (G := G) (K := G) ht o eq0.rf ) (fun _ h => h) (by omega) (cell_102 ad C _) rfl wc_X5_value wm_RL_42 wi_X5_value ws_X5_value wn_X5 (by decide) rfl ⟨Nat.le_of_ble_eq_true rfl, Nat.le_of_ble_eq_true rfl⟩ ⟨Nat.le_of_ble_eq_true rfl, Nat.le_of_ble_eq_true rfl⟩ (Nat.le_of_ble_eq_true rfl) dL_holds_333 rfl (fun r9 G9 h9 => ?_)
      rw [h9.1, h9.2]
      clear h9
      refine fh_I (As := [.ref (ad 102), .int (iI (G 0 14))]) 2 (n_promiseC (D := D) (C := C) (T := T) (ad := ad) hst (G := G) (K := G) ht o eq0.rf (a0 := (G 0 14)) (by omega)) (fun _ h => h) wcw_L_promise wm_RL_60 wt_L_promise wn_L (by decide) rfl ⟨Nat.le_of_ble_eq_true rfl, Nat.le_of_ble_eq_true rfl⟩ ⟨Nat.le_of_ble_eq_true rfl, Nat.le_of_ble_eq_true rfl⟩ (Nat.le_of_ble_eq_true rfl) dL_holds_336 rfl (fun r9 G9 h9 => ?_)
      have hr9 : r9 = -903 ∧ G9 = G := by
        rcases h9 with ⟨-, z, -⟩ | ⟨z, -, zz⟩
        · omega
        · exact ⟨z, zz⟩
      rw [hr9.1, hr9.2]
      clear hr9 h9
      refine aw_sipush (q := 342) dL_holds_339 rfl (by decide) ?_
      refine aw_icmp_ne (q := 345) dL_holds_342 rfl (t := 429) (by decide) (by first | omega | (have := pl (by omega); omega)) (by first | omega | (have := pl (by omega); omega)) (fun h => absurd h (by omega)) (fun _ => ?_)
      refine aw_aload_n (q := 346) 0 dL_holds_345 rfl rfl rfl ?_
      refine aw_iconst (q := 347) dL_holds_346 rfl ?_
      refine fv_I (CC := "") (id := 102) (As := [.int (iI 2)]) 1 (n_v2 (D := D) (C := C) (T := T) (ad := ad) hst (G := G) (K := G) ht o eq0.rf ) (fun _ h => h) (by omega) (cell_102 ad C _) rfl wc_X5_value wm_RL_42 wi_X5_value ws_X5_value wn_X5 (by decide) rfl ⟨Nat.le_of_ble_eq_true rfl, Nat.le_of_ble_eq_true rfl⟩ ⟨Nat.le_of_ble_eq_true rfl, Nat.le_of_ble_eq_true rfl⟩ (Nat.le_of_ble_eq_true rfl) dL_holds_347 rfl (fun r9 G9 h9 => ?_)
      rw [h9.1, h9.2]
      clear h9
      refine aw_iload_n (q := 351) 3 dL_holds_350 rfl rfl rfl ?_
      refine aw_same_ne (q := 354) hmo dL_holds_351 rfl (t := 429) (by decide) ?_
      refine aw_aload_n (q := 355) 0 dL_holds_354 rfl rfl rfl ?_
      refine aw_iconst (q := 356) dL_holds_355 rfl ?_
      refine fv_I (CC := "") (id := 102) (As := [.int (iI 5)]) 1 (n_v5 (D := D) (C := C) (T := T) (ad := ad) hst (G := G) (K := G) ht o eq0.rf ) (fun _ h => h) (by omega) (cell_102 ad C _) rfl wc_X5_value wm_RL_42 wi_X5_value ws_X5_value wn_X5 (by decide) rfl ⟨Nat.le_of_ble_eq_true rfl, Nat.le_of_ble_eq_true rfl⟩ ⟨Nat.le_of_ble_eq_true rfl, Nat.le_of_ble_eq_true rfl⟩ (Nat.le_of_ble_eq_true rfl) dL_holds_356 rfl (fun r9 G9 h9 => ?_)
      rw [h9.1, h9.2]
      clear h9
      refine aw_aload_n (q := 360) 1 dL_holds_359 rfl rfl rfl ?_
      refine aw_iconst (q := 361) dL_holds_360 rfl ?_
      refine sm_ld (i := 3) (v := ((sumQ (prm G 0) (c).toNat))) (by decide) rfl dL_holds_361 rfl ?_
      refine aw_same_ne (q := 365) (by rw [show c = G 0 14 by omega]; exact h311) dL_holds_362 rfl (t := 429) (by decide) ?_
      refine aw_aload_n (q := 366) 0 dL_holds_365 rfl rfl rfl ?_
      refine aw_bipush (q := 368) dL_holds_366 rfl (by decide) ?_
      refine fv_I (CC := "") (id := 102) (As := [.int (iI 7)]) 1 (n_v7 (D := D) (C := C) (T := T) (ad := ad) hst (G := G) (K := G) ht o eq0.rf ) (fun _ h => h) (by omega) (cell_102 ad C _) rfl wc_X5_value wm_RL_42 wi_X5_value ws_X5_value wn_X5 (by decide) rfl ⟨Nat.le_of_ble_eq_true rfl, Nat.le_of_ble_eq_true rfl⟩ ⟨Nat.le_of_ble_eq_true rfl, Nat.le_of_ble_eq_true rfl⟩ (Nat.le_of_ble_eq_true rfl) dL_holds_368 rfl (fun r9 G9 h9 => ?_)
      rw [h9.1, h9.2]
      clear h9
      refine aw_aload_n (q := 372) 1 dL_holds_371 rfl rfl rfl ?_
      refine aw_iconst (q := 373) dL_holds_372 rfl ?_
      refine sm_ld (i := 1) (v := ((sumF (G 0) 6 ((G 0 13)).toNat))) (by decide) rfl dL_holds_373 rfl ?_
      refine aw_same_ne (q := 377) rfl dL_holds_374 rfl (t := 429) (by decide) ?_
      refine aw_aload_n (q := 378) 0 dL_holds_377 rfl rfl rfl ?_
      refine aw_bipush (q := 380) dL_holds_378 rfl (by decide) ?_
      refine fv_I (CC := "") (id := 102) (As := [.int (iI 8)]) 1 (n_v8 (D := D) (C := C) (T := T) (ad := ad) hst (G := G) (K := G) ht o eq0.rf ) (fun _ h => h) (by omega) (cell_102 ad C _) rfl wc_X5_value wm_RL_42 wi_X5_value ws_X5_value wn_X5 (by decide) rfl ⟨Nat.le_of_ble_eq_true rfl, Nat.le_of_ble_eq_true rfl⟩ ⟨Nat.le_of_ble_eq_true rfl, Nat.le_of_ble_eq_true rfl⟩ (Nat.le_of_ble_eq_true rfl) dL_holds_380 rfl (fun r9 G9 h9 => ?_)
      rw [h9.1, h9.2]
      clear h9
      refine aw_aload_n (q := 384) 1 dL_holds_383 rfl rfl rfl ?_
      refine aw_iconst (q := 385) dL_holds_384 rfl ?_
      refine sm_ld (i := 2) (v := ((sumF (G 0) 7 ((G 0 13)).toNat))) (by decide) rfl dL_holds_385 rfl ?_
      refine aw_same_ne (q := 389) rfl dL_holds_386 rfl (t := 429) (by decide) ?_
      refine aw_aload_n (q := 390) 0 dL_holds_389 rfl rfl rfl ?_
      refine aw_bipush (q := 392) dL_holds_390 rfl (by decide) ?_
      refine fv_I (CC := "") (id := 102) (As := [.int (iI 10)]) 1 (n_v10 (D := D) (C := C) (T := T) (ad := ad) hst (G := G) (K := G) ht o eq0.rf ) (fun _ h => h) (by omega) (cell_102 ad C _) rfl wc_X5_value wm_RL_42 wi_X5_value ws_X5_value wn_X5 (by decide) rfl ⟨Nat.le_of_ble_eq_true rfl, Nat.le_of_ble_eq_true rfl⟩ ⟨Nat.le_of_ble_eq_true rfl, Nat.le_of_ble_eq_true rfl⟩ (Nat.le_of_ble_eq_true rfl) dL_holds_392 rfl (fun r9 G9 h9 => ?_)
      rw [h9.1, h9.2]
      clear h9
      refine aw_aload_n (q := 396) 1 dL_holds_395 rfl rfl rfl ?_
      refine aw_iconst (q := 397) dL_holds_396 rfl ?_
      refine sm_ld (i := 0) (v := ((sumF (G 0) 1 ((G 0 13)).toNat))) (by decide) rfl dL_holds_397 rfl ?_
      refine aw_same_ne (q := 401) rfl dL_holds_398 rfl (t := 429) (by decide) ?_
      refine aw_iload_n (q := 402) 2 dL_holds_401 rfl rfl rfl ?_
      refine aw_if_gt (q := 405) dL_holds_402 rfl (t := 413) (by decide) (by first | omega | (have := pl (by omega); omega)) (fun h23 => ?_) (fun h24 => ?_)
      · refine aw_aload_n (q := 414) 0 dL_holds_413 rfl rfl rfl ?_
        refine aw_iload_n (q := 415) 2 dL_holds_414 rfl rfl rfl ?_
        refine aw_iconst (q := 416) dL_holds_415 rfl ?_
        refine fh_I (As := [.ref (ad 102), .int (iI (G 0 13)), .int (iI 0)]) 3 (n_coilC (D := D) (C := C) (T := T) (ad := ad) hst (G := G) (K := G) ht o eq0.rf (a0 := (G 0 13)) (a1 := 0) (by omega) (by omega)) (fun _ h => h) wcw_L_coil wm_RL_63 wt_L_coil wn_L (by decide) rfl ⟨Nat.le_of_ble_eq_true rfl, Nat.le_of_ble_eq_true rfl⟩ ⟨Nat.le_of_ble_eq_true rfl, Nat.le_of_ble_eq_true rfl⟩ (Nat.le_of_ble_eq_true rfl) dL_holds_416 rfl (fun r9 G9 h9 => ?_)
        have hr9 : r9 = -903 ∧ G9 = G := by
          rcases h9 with ⟨z, -⟩ | ⟨z, -, zz⟩
          · omega
          · exact ⟨z, zz⟩
        rw [hr9.1, hr9.2]
        clear hr9 h9
        refine aw_sipush (q := 422) dL_holds_419 rfl (by decide) ?_
        refine aw_icmp_ne (q := 425) dL_holds_422 rfl (t := 429) (by decide) (by first | omega | (have := pl (by omega); omega)) (by first | omega | (have := pl (by omega); omega)) (fun h => absurd h (by omega)) (fun _ => ?_)
        refine aw_iconst (q := 426) dL_holds_425 rfl ?_
        refine aw_goto (q := 430) dL_holds_426 (by decide) ?_
        exact aw_drop (rt_z rfl (by omega) (Nat.le_of_ble_eq_true rfl) (Nat.le_of_ble_eq_true rfl) (⟨rfl, rfl⟩) dL_holds_430)
      · refine aw_aload_n (q := 406) 0 dL_holds_405 rfl rfl rfl ?_
        refine fv_I (CC := "") (id := 102) (As := []) 0 (c_favorite (D := D) (C := C) (T := T) (ad := ad) G o8) (fun _ h => h) (by omega) (cell_102 ad C _) rfl wc_X5_favorite wm_RL_49 wi_X5_favorite ws_X5_favorite wn_X5 (by decide) rfl ⟨Nat.le_of_ble_eq_true rfl, Nat.le_of_ble_eq_true rfl⟩ ⟨Nat.le_of_ble_eq_true rfl, Nat.le_of_ble_eq_true rfl⟩ (Nat.le_of_ble_eq_true rfl) dL_holds_406 rfl (fun r9 G9 h9 => ?_)
        rw [h9.1, h9.2]
        clear h9
        refine aw_iconst (q := 410) dL_holds_409 rfl ?_
        refine aw_same_ne (q := 413) (fav_0 (G 0) (by omega)) dL_holds_410 rfl (t := 429) (by decide) ?_
        refine aw_aload_n (q := 414) 0 dL_holds_413 rfl rfl rfl ?_
        refine aw_iload_n (q := 415) 2 dL_holds_414 rfl rfl rfl ?_
        refine aw_iconst (q := 416) dL_holds_415 rfl ?_
        refine fh_I (As := [.ref (ad 102), .int (iI (G 0 13)), .int (iI 0)]) 3 (n_coilC (D := D) (C := C) (T := T) (ad := ad) hst (G := G) (K := G) ht o eq0.rf (a0 := (G 0 13)) (a1 := 0) (by omega) (by omega)) (fun _ h => h) wcw_L_coil wm_RL_63 wt_L_coil wn_L (by decide) rfl ⟨Nat.le_of_ble_eq_true rfl, Nat.le_of_ble_eq_true rfl⟩ ⟨Nat.le_of_ble_eq_true rfl, Nat.le_of_ble_eq_true rfl⟩ (Nat.le_of_ble_eq_true rfl) dL_holds_416 rfl (fun r9 G9 h9 => ?_)
        have hr9 : r9 = -903 ∧ G9 = G := by
          rcases h9 with ⟨z, -⟩ | ⟨z, -, zz⟩
          · omega
          · exact ⟨z, zz⟩
        rw [hr9.1, hr9.2]
        clear hr9 h9
        refine aw_sipush (q := 422) dL_holds_419 rfl (by decide) ?_
        refine aw_icmp_ne (q := 425) dL_holds_422 rfl (t := 429) (by decide) (by first | omega | (have := pl (by omega); omega)) (by first | omega | (have := pl (by omega); omega)) (fun h => absurd h (by omega)) (fun _ => ?_)
        refine aw_iconst (q := 426) dL_holds_425 rfl ?_
        refine aw_goto (q := 430) dL_holds_426 (by decide) ?_
        exact aw_drop (rt_z rfl (by omega) (Nat.le_of_ble_eq_true rfl) (Nat.le_of_ble_eq_true rfl) (⟨rfl, rfl⟩) dL_holds_430)
    · refine aw_aload_n (q := 290) 1 dL_holds_289 rfl rfl rfl ?_
      refine aw_iconst (q := 291) dL_holds_290 rfl ?_
      refine aw_dup2 (q := 292) dL_holds_291 rfl rfl rfl ?_
      refine sm_ld (i := 3) (v := ((sumQ (prm G 0) (c).toNat))) (by decide) rfl dL_holds_292 rfl ?_
      refine aw_aload_n (q := 294) 0 dL_holds_293 rfl rfl rfl ?_
      refine aw_iload (q := 296) 4 dL_holds_294 rfl rfl ?_
      refine fv_I (CC := "") (id := 102) (As := [.int (iI c)]) 1 (n_promise (D := D) (C := C) (T := T) (ad := ad) hst (G := G) (K := G) ht o eq0.rf (p := c) (by omega)) (fun _ h => h) (by omega) (cell_102 ad C _) rfl wc_X5_promise wm_RL_36 wi_X5_promise ws_X5_promise wn_X5 (by decide) rfl ⟨Nat.le_of_ble_eq_true rfl, Nat.le_of_ble_eq_true rfl⟩ ⟨Nat.le_of_ble_eq_true rfl, Nat.le_of_ble_eq_true rfl⟩ (Nat.le_of_ble_eq_true rfl) dL_holds_296 rfl (fun r9 G9 h9 => ?_)
      rw [h9.1, h9.2]
      clear h9
      refine ae_iadd (q := 300) ((sumQ (prm G 0) (c).toNat) + (G 0 (111 + c))) (by omega) dL_holds_299 rfl ?_
      refine sm_st (i := 3) (by decide) sm_u3 dL_holds_300 rfl ?_
      refine aw_aload_n (q := 302) 0 dL_holds_301 rfl rfl rfl ?_
      refine aw_iload (q := 304) 4 dL_holds_302 rfl rfl ?_
      refine fv_I (CC := "") (id := 102) (As := [.int (iI c)]) 1 (n_promise (D := D) (C := C) (T := T) (ad := ad) hst (G := G) (K := G) ht o eq0.rf (p := c) (by omega)) (fun _ h => h) (by omega) (cell_102 ad C _) rfl wc_X5_promise wm_RL_36 wi_X5_promise ws_X5_promise wn_X5 (by decide) rfl ⟨Nat.le_of_ble_eq_true rfl, Nat.le_of_ble_eq_true rfl⟩ ⟨Nat.le_of_ble_eq_true rfl, Nat.le_of_ble_eq_true rfl⟩ (Nat.le_of_ble_eq_true rfl) dL_holds_304 rfl (fun r9 G9 h9 => ?_)
      rw [h9.1, h9.2]
      clear h9
      refine aw_iconst (q := 308) dL_holds_307 rfl ?_
      refine aw_icmp_lt (q := 311) dL_holds_308 rfl (t := 322) (by decide) (by first | omega | (have := pl (by omega); omega)) (by first | omega | (have := pl (by omega); omega)) (fun h => ((by have := pl (by omega); omega : False)).elim) (fun h25 => ?_)
      refine aw_aload_n (q := 312) 0 dL_holds_311 rfl rfl rfl ?_
      refine aw_iload (q := 314) 4 dL_holds_312 rfl rfl ?_
      refine fv_I (CC := "") (id := 102) (As := [.int (iI c)]) 1 (n_promise (D := D) (C := C) (T := T) (ad := ad) hst (G := G) (K := G) ht o eq0.rf (p := c) (by omega)) (fun _ h => h) (by omega) (cell_102 ad C _) rfl wc_X5_promise wm_RL_36 wi_X5_promise ws_X5_promise wn_X5 (by decide) rfl ⟨Nat.le_of_ble_eq_true rfl, Nat.le_of_ble_eq_true rfl⟩ ⟨Nat.le_of_ble_eq_true rfl, Nat.le_of_ble_eq_true rfl⟩ (Nat.le_of_ble_eq_true rfl) dL_holds_314 rfl (fun r9 G9 h9 => ?_)
      rw [h9.1, h9.2]
      clear h9
      refine aw_iconst (q := 318) dL_holds_317 rfl ?_
      obtain ⟨d1, hd1⟩ : ∃ z, (((G 0 (111 + c))) % 5) = z := ⟨_, rfl⟩
      refine aw_rem5g (q := 319) (z := d1) (by have := pl (by omega); omega) (by omega) hd1 dL_holds_318 rfl ?_
      refine aw_if_eq (q := 322) dL_holds_319 rfl (t := 324) (by decide) (by first | omega | (have := pl (by omega); omega)) (fun h26 => ?_) (fun h => ((by have := pl (by omega); omega : False)).elim)
      refine ae_iinc (q := 327) (lv2 := [(0, .ref (ad 102)), (1, .ref a), (2, .int (iI (G 0 13))), (3, .int (iI mo)), (4, .int (iI (c + 1)))]) 4 [1, 2, 3, 4, 0] (c + 1) (by omega) dL_holds_324 rfl rfl (by decide) rfl ?_
      refine aw_goto (q := 279) dL_holds_327 (by decide) ?_
      rw [show (sumQ (prm G 0) (c).toNat) + (G 0 (111 + c)) = sumQ (prm G 0) (c + 1).toNat from (sumQ_succ (prm G 0) h1).symm]
      exact ih (c + 1) (by omega) (by omega) (by omega)
set_option maxHeartbeats 4000000 in
set_option maxRecDepth 100000 in
theorem LC_holds {l : Launch} {D : va_G} {C : Nat → ClassId} {T : Nat → Nat} {ad : Int → Nat} (hst : l.stackTraces = false) {t : Int} {G : GG} (ht : t ≤ 1000) (o : okI t G) {a : Nat} : ∀ (m : Nat) (c : Int), 0 ≤ c → c ≤ G 0 13 → G 0 13 - c < m → AW l RL "holds" cL_holds 7 (some .boolean) (fun _ => True) { frames := 8, cells := 3, slots := 16, locals := 223 } (hvE D (RI ad C (fun r G1 => r = 1 ∧ G1 = G)) (cw ad C G) 3 16) D (tyC C) (hvZ T (cw ad C G)) (cw ad C G) 12 [(0, .ref (ad 102)), (1, .ref a), (2, .int (iI (G 0 13))), (3, .int (iI c))] [] (cw ad C G ++ smC C a ((sumF (G 0) 1 (c).toNat)) ((sumF (G 0) 6 (c).toNat)) ((sumF (G 0) 7 (c).toNat)) 0) 1 4 := by
  intro m
  induction m with
  | zero => intro c h1 h2 h3; omega
  | succ m ih =>
    intro c h1 h2 h3
    have o8 := o.1.1.2.1
    have q5 : 0 ≤ G 0 5 ∧ G 0 5 ≤ 30 := o.1.2.1.2.2 0 (by omega) (by omega)
    have q6 : 0 ≤ G 0 6 ∧ G 0 6 ≤ 30 := o.1.2.1.2.2 1 (by omega) (by omega)
    have q7 : 0 ≤ G 0 7 ∧ G 0 7 ≤ 30 := o.1.2.1.2.2 2 (by omega) (by omega)
    have q8 : 0 ≤ G 0 8 ∧ G 0 8 ≤ 30 := o.1.2.1.2.2 3 (by omega) (by omega)
    have o14 := o.1.2.1.1
    by_cases hcn : c < G 0 13
    · obtain ⟨oc1, oc3, oc2, oc24, oc4, oc5, oc9, ocw, -, ocp, -⟩ := o.1.1.2.2 c h1 hcn
      obtain ⟨ox6, oxm, ox7, ox8, ox9⟩ := o.2.2.2 c h1 hcn
      have oxn : 0 ≤ G 0 (15 + 12 * c + 6) * G 0 (15 + 12 * c + 3) := Int.mul_nonneg ox6.1 (by omega)
      obtain ⟨f1, f2, f3⟩ := fav_spec (g := G 0) (N := G 0 13) (fun d d0 d1 => (o.1.1.2.2 d d0 d1).2.2.2.2.2.2.2.1) (G 0 13).toNat (by omega) (by omega)
      have f3 := f3 c h1 (by omega)
      obtain ⟨fv, hfv⟩ : ∃ z, (fvF (G 0) (G 0 13).toNat).1 = z := ⟨_, rfl⟩
      rw [hfv] at f1 f3
      have okf := (o.1.1.2.2 fv f1.1 (by omega)).2.2.2.2.2.2.2.1
      refine aw_iload_n (q := 13) 3 dL_holds_12 rfl rfl rfl ?_
      refine aw_iload_n (q := 14) 2 dL_holds_13 rfl rfl rfl ?_
      refine aw_icmp_ge (q := 17) dL_holds_14 rfl (t := 222) (by decide) (by omega) (by omega) (fun h => ((by omega : False)).elim) (fun h21 => ?_)
      refine aw_aload_n (q := 18) 0 dL_holds_17 rfl rfl rfl ?_
      refine aw_iload_n (q := 19) 3 dL_holds_18 rfl rfl rfl ?_
      refine aw_iconst (q := 20) dL_holds_19 rfl ?_
      refine fv_I (CC := "") (id := 102) (As := [.int (iI c), .int (iI 2)]) 2 (n_coil (D := D) (C := C) (T := T) (ad := ad) hst (G := G) (K := G) ht o eq0.rf (c := c) (k := 2) (by omega) (by omega)) (fun _ h => h) (by omega) (cell_102 ad C _) rfl wc_X5_coil wm_RL_39 wi_X5_coil ws_X5_coil wn_X5 (by decide) rfl ⟨Nat.le_of_ble_eq_true rfl, Nat.le_of_ble_eq_true rfl⟩ ⟨Nat.le_of_ble_eq_true rfl, Nat.le_of_ble_eq_true rfl⟩ (Nat.le_of_ble_eq_true rfl) dL_holds_20 rfl (fun r9 G9 h9 => ?_)
      rw [h9.1, h9.2]
      clear h9
      refine aw_istore (q := 25) (lv2 := [(0, .ref (ad 102)), (1, .ref a), (2, .int (iI (G 0 13))), (3, .int (iI c)), (4, .int (iI ((G 0 (15 + 12 * c + 2)))))]) [1, 2, 3, 4, 0] dL_holds_23 rfl (by decide) rfl rfl ?_
      refine aw_aload_n (q := 26) 0 dL_holds_25 rfl rfl rfl ?_
      refine aw_iload_n (q := 27) 3 dL_holds_26 rfl rfl rfl ?_
      refine aw_iconst (q := 28) dL_holds_27 rfl ?_
      refine fv_I (CC := "") (id := 102) (As := [.int (iI c), .int (iI 5)]) 2 (n_coil (D := D) (C := C) (T := T) (ad := ad) hst (G := G) (K := G) ht o eq0.rf (c := c) (k := 5) (by omega) (by omega)) (fun _ h => h) (by omega) (cell_102 ad C _) rfl wc_X5_coil wm_RL_39 wi_X5_coil ws_X5_coil wn_X5 (by decide) rfl ⟨Nat.le_of_ble_eq_true rfl, Nat.le_of_ble_eq_true rfl⟩ ⟨Nat.le_of_ble_eq_true rfl, Nat.le_of_ble_eq_true rfl⟩ (Nat.le_of_ble_eq_true rfl) dL_holds_28 rfl (fun r9 G9 h9 => ?_)
      rw [h9.1, h9.2]
      clear h9
      refine aw_istore (q := 33) (lv2 := [(0, .ref (ad 102)), (1, .ref a), (2, .int (iI (G 0 13))), (3, .int (iI c)), (4, .int (iI ((G 0 (15 + 12 * c + 2))))), (5, .int (iI ((G 0 (15 + 12 * c + 5)))))]) [1, 2, 3, 4, 5, 0] dL_holds_31 rfl (by decide) rfl rfl ?_
      refine aw_aload_n (q := 34) 0 dL_holds_33 rfl rfl rfl ?_
      refine aw_iload_n (q := 35) 3 dL_holds_34 rfl rfl rfl ?_
      refine aw_bipush (q := 37) dL_holds_35 rfl (by decide) ?_
      refine fv_I (CC := "") (id := 102) (As := [.int (iI c), .int (iI 9)]) 2 (n_coil (D := D) (C := C) (T := T) (ad := ad) hst (G := G) (K := G) ht o eq0.rf (c := c) (k := 9) (by omega) (by omega)) (fun _ h => h) (by omega) (cell_102 ad C _) rfl wc_X5_coil wm_RL_39 wi_X5_coil ws_X5_coil wn_X5 (by decide) rfl ⟨Nat.le_of_ble_eq_true rfl, Nat.le_of_ble_eq_true rfl⟩ ⟨Nat.le_of_ble_eq_true rfl, Nat.le_of_ble_eq_true rfl⟩ (Nat.le_of_ble_eq_true rfl) dL_holds_37 rfl (fun r9 G9 h9 => ?_)
      rw [h9.1, h9.2]
      clear h9
      refine aw_istore (q := 42) (lv2 := [(0, .ref (ad 102)), (1, .ref a), (2, .int (iI (G 0 13))), (3, .int (iI c)), (4, .int (iI ((G 0 (15 + 12 * c + 2))))), (5, .int (iI ((G 0 (15 + 12 * c + 5))))), (6, .int (iI ((G 0 (15 + 12 * c + 9)))))]) [1, 2, 3, 4, 5, 6, 0] dL_holds_40 rfl (by decide) rfl rfl ?_
      refine aw_aload_n (q := 43) 1 dL_holds_42 rfl rfl rfl ?_
      refine aw_iconst (q := 44) dL_holds_43 rfl ?_
      refine aw_dup2 (q := 45) dL_holds_44 rfl rfl rfl ?_
      refine sm_ld (i := 0) (v := ((sumF (G 0) 1 (c).toNat))) (by decide) rfl dL_holds_45 rfl ?_
      refine aw_aload_n (q := 47) 0 dL_holds_46 rfl rfl rfl ?_
      refine aw_iload_n (q := 48) 3 dL_holds_47 rfl rfl rfl ?_
      refine aw_iconst (q := 49) dL_holds_48 rfl ?_
      refine fv_I (CC := "") (id := 102) (As := [.int (iI c), .int (iI 1)]) 2 (n_coil (D := D) (C := C) (T := T) (ad := ad) hst (G := G) (K := G) ht o eq0.rf (c := c) (k := 1) (by omega) (by omega)) (fun _ h => h) (by omega) (cell_102 ad C _) rfl wc_X5_coil wm_RL_39 wi_X5_coil ws_X5_coil wn_X5 (by decide) rfl ⟨Nat.le_of_ble_eq_true rfl, Nat.le_of_ble_eq_true rfl⟩ ⟨Nat.le_of_ble_eq_true rfl, Nat.le_of_ble_eq_true rfl⟩ (Nat.le_of_ble_eq_true rfl) dL_holds_49 rfl (fun r9 G9 h9 => ?_)
      rw [h9.1, h9.2]
      clear h9
      refine ae_iadd (q := 53) ((sumF (G 0) 1 (c).toNat) + (G 0 (15 + 12 * c + 1))) (by omega) dL_holds_52 rfl ?_
      refine sm_st (i := 0) (by decide) sm_u0 dL_holds_53 rfl ?_
      refine aw_aload_n (q := 55) 1 dL_holds_54 rfl rfl rfl ?_
      refine aw_iconst (q := 56) dL_holds_55 rfl ?_
      refine aw_dup2 (q := 57) dL_holds_56 rfl rfl rfl ?_
      refine sm_ld (i := 1) (v := ((sumF (G 0) 6 (c).toNat))) (by decide) rfl dL_holds_57 rfl ?_
      refine aw_aload_n (q := 59) 0 dL_holds_58 rfl rfl rfl ?_
      refine aw_iload_n (q := 60) 3 dL_holds_59 rfl rfl rfl ?_
      refine aw_bipush (q := 62) dL_holds_60 rfl (by decide) ?_
      refine fv_I (CC := "") (id := 102) (As := [.int (iI c), .int (iI 6)]) 2 (n_coil (D := D) (C := C) (T := T) (ad := ad) hst (G := G) (K := G) ht o eq0.rf (c := c) (k := 6) (by omega) (by omega)) (fun _ h => h) (by omega) (cell_102 ad C _) rfl wc_X5_coil wm_RL_39 wi_X5_coil ws_X5_coil wn_X5 (by decide) rfl ⟨Nat.le_of_ble_eq_true rfl, Nat.le_of_ble_eq_true rfl⟩ ⟨Nat.le_of_ble_eq_true rfl, Nat.le_of_ble_eq_true rfl⟩ (Nat.le_of_ble_eq_true rfl) dL_holds_62 rfl (fun r9 G9 h9 => ?_)
      rw [h9.1, h9.2]
      clear h9
      refine ae_iadd (q := 66) ((sumF (G 0) 6 (c).toNat) + (G 0 (15 + 12 * c + 6))) (by omega) dL_holds_65 rfl ?_
      refine sm_st (i := 1) (by decide) sm_u1 dL_holds_66 rfl ?_
      refine aw_aload_n (q := 68) 1 dL_holds_67 rfl rfl rfl ?_
      refine aw_iconst (q := 69) dL_holds_68 rfl ?_
      refine aw_dup2 (q := 70) dL_holds_69 rfl rfl rfl ?_
      refine sm_ld (i := 2) (v := ((sumF (G 0) 7 (c).toNat))) (by decide) rfl dL_holds_70 rfl ?_
      refine aw_aload_n (q := 72) 0 dL_holds_71 rfl rfl rfl ?_
      refine aw_iload_n (q := 73) 3 dL_holds_72 rfl rfl rfl ?_
      refine aw_bipush (q := 75) dL_holds_73 rfl (by decide) ?_
      refine fv_I (CC := "") (id := 102) (As := [.int (iI c), .int (iI 7)]) 2 (n_coil (D := D) (C := C) (T := T) (ad := ad) hst (G := G) (K := G) ht o eq0.rf (c := c) (k := 7) (by omega) (by omega)) (fun _ h => h) (by omega) (cell_102 ad C _) rfl wc_X5_coil wm_RL_39 wi_X5_coil ws_X5_coil wn_X5 (by decide) rfl ⟨Nat.le_of_ble_eq_true rfl, Nat.le_of_ble_eq_true rfl⟩ ⟨Nat.le_of_ble_eq_true rfl, Nat.le_of_ble_eq_true rfl⟩ (Nat.le_of_ble_eq_true rfl) dL_holds_75 rfl (fun r9 G9 h9 => ?_)
      rw [h9.1, h9.2]
      clear h9
      refine ae_iadd (q := 79) ((sumF (G 0) 7 (c).toNat) + (G 0 (15 + 12 * c + 7))) (by omega) dL_holds_78 rfl ?_
      refine sm_st (i := 2) (by decide) sm_u2 dL_holds_79 rfl ?_
      refine aw_iload (q := 82) 4 dL_holds_80 rfl rfl ?_
      refine aw_iconst (q := 83) dL_holds_82 rfl ?_
      obtain ⟨d1, hd1⟩ : ∃ z, (((G 0 (15 + 12 * c + 2))) % 5) = z := ⟨_, rfl⟩
      refine aw_rem5g (q := 84) (z := d1) (by omega) (by omega) hd1 dL_holds_83 rfl ?_
      refine aw_if_ne (q := 87) dL_holds_84 rfl (t := 214) (by decide) (by omega) (fun h => ((by omega : False)).elim) (fun h22 => ?_)
      refine aw_iload (q := 89) 4 dL_holds_87 rfl rfl ?_
      refine aw_aload_n (q := 90) 0 dL_holds_89 rfl rfl rfl ?_
      refine aw_iload_n (q := 91) 3 dL_holds_90 rfl rfl rfl ?_
      refine aw_iconst (q := 92) dL_holds_91 rfl ?_
      refine fv_I (CC := "") (id := 102) (As := [.int (iI c), .int (iI 3)]) 2 (n_coil (D := D) (C := C) (T := T) (ad := ad) hst (G := G) (K := G) ht o eq0.rf (c := c) (k := 3) (by omega) (by omega)) (fun _ h => h) (by omega) (cell_102 ad C _) rfl wc_X5_coil wm_RL_39 wi_X5_coil ws_X5_coil wn_X5 (by decide) rfl ⟨Nat.le_of_ble_eq_true rfl, Nat.le_of_ble_eq_true rfl⟩ ⟨Nat.le_of_ble_eq_true rfl, Nat.le_of_ble_eq_true rfl⟩ (Nat.le_of_ble_eq_true rfl) dL_holds_92 rfl (fun r9 G9 h9 => ?_)
      rw [h9.1, h9.2]
      clear h9
      refine aw_icmp_lt (q := 98) dL_holds_95 rfl (t := 214) (by decide) (by omega) (by omega) (fun h => ((by omega : False)).elim) (fun h23 => ?_)
      refine aw_iload (q := 100) 4 dL_holds_98 rfl rfl ?_
      refine aw_aload_n (q := 101) 0 dL_holds_100 rfl rfl rfl ?_
      refine aw_iload_n (q := 102) 3 dL_holds_101 rfl rfl rfl ?_
      refine aw_iconst (q := 103) dL_holds_102 rfl ?_
      refine fv_I (CC := "") (id := 102) (As := [.int (iI c), .int (iI 4)]) 2 (n_coil (D := D) (C := C) (T := T) (ad := ad) hst (G := G) (K := G) ht o eq0.rf (c := c) (k := 4) (by omega) (by omega)) (fun _ h => h) (by omega) (cell_102 ad C _) rfl wc_X5_coil wm_RL_39 wi_X5_coil ws_X5_coil wn_X5 (by decide) rfl ⟨Nat.le_of_ble_eq_true rfl, Nat.le_of_ble_eq_true rfl⟩ ⟨Nat.le_of_ble_eq_true rfl, Nat.le_of_ble_eq_true rfl⟩ (Nat.le_of_ble_eq_true rfl) dL_holds_103 rfl (fun r9 G9 h9 => ?_)
      rw [h9.1, h9.2]
      clear h9
      refine aw_icmp_gt (q := 109) dL_holds_106 rfl (t := 214) (by decide) (by omega) (by omega) (fun h => ((by omega : False)).elim) (fun h24 => ?_)
      refine aw_aload_n (q := 110) 0 dL_holds_109 rfl rfl rfl ?_
      refine aw_iload_n (q := 111) 3 dL_holds_110 rfl rfl rfl ?_
      refine aw_iconst (q := 112) dL_holds_111 rfl ?_
      refine fv_I (CC := "") (id := 102) (As := [.int (iI c), .int (iI 1)]) 2 (n_coil (D := D) (C := C) (T := T) (ad := ad) hst (G := G) (K := G) ht o eq0.rf (c := c) (k := 1) (by omega) (by omega)) (fun _ h => h) (by omega) (cell_102 ad C _) rfl wc_X5_coil wm_RL_39 wi_X5_coil ws_X5_coil wn_X5 (by decide) rfl ⟨Nat.le_of_ble_eq_true rfl, Nat.le_of_ble_eq_true rfl⟩ ⟨Nat.le_of_ble_eq_true rfl, Nat.le_of_ble_eq_true rfl⟩ (Nat.le_of_ble_eq_true rfl) dL_holds_112 rfl (fun r9 G9 h9 => ?_)
      rw [h9.1, h9.2]
      clear h9
      refine aw_if_lt (q := 118) dL_holds_115 rfl (t := 214) (by decide) (by omega) (fun h => ((by omega : False)).elim) (fun h25 => ?_)
      refine aw_aload_n (q := 119) 0 dL_holds_118 rfl rfl rfl ?_
      refine aw_iload_n (q := 120) 3 dL_holds_119 rfl rfl rfl ?_
      refine aw_iconst (q := 121) dL_holds_120 rfl ?_
      refine fv_I (CC := "") (id := 102) (As := [.int (iI c), .int (iI 1)]) 2 (n_coil (D := D) (C := C) (T := T) (ad := ad) hst (G := G) (K := G) ht o eq0.rf (c := c) (k := 1) (by omega) (by omega)) (fun _ h => h) (by omega) (cell_102 ad C _) rfl wc_X5_coil wm_RL_39 wi_X5_coil ws_X5_coil wn_X5 (by decide) rfl ⟨Nat.le_of_ble_eq_true rfl, Nat.le_of_ble_eq_true rfl⟩ ⟨Nat.le_of_ble_eq_true rfl, Nat.le_of_ble_eq_true rfl⟩ (Nat.le_of_ble_eq_true rfl) dL_holds_121 rfl (fun r9 G9 h9 => ?_)
      rw [h9.1, h9.2]
      clear h9
      refine aw_bipush (q := 126) dL_holds_124 rfl (by decide) ?_
      refine aw_icmp_gt (q := 129) dL_holds_126 rfl (t := 214) (by decide) (by omega) (by omega) (fun h => ((by omega : False)).elim) (fun h26 => ?_)
      refine aw_iload (q := 131) 5 dL_holds_129 rfl rfl ?_
      refine aw_if_lt (q := 134) dL_holds_131 rfl (t := 214) (by decide) (by omega) (fun h => ((by omega : False)).elim) (fun h27 => ?_)
      refine aw_iload (q := 136) 5 dL_holds_134 rfl rfl ?_
      refine aw_iconst (q := 137) dL_holds_136 rfl ?_
      refine aw_icmp_gt (q := 140) dL_holds_137 rfl (t := 214) (by decide) (by omega) (by omega) (fun h => ((by omega : False)).elim) (fun h28 => ?_)
      refine aw_iload (q := 142) 6 dL_holds_140 rfl rfl ?_
      refine aw_if_lt (q := 145) dL_holds_142 rfl (t := 214) (by decide) (by omega) (fun h => ((by omega : False)).elim) (fun h29 => ?_)
      refine aw_iload (q := 147) 6 dL_holds_145 rfl rfl ?_
      refine aw_iconst (q := 148) dL_holds_147 rfl ?_
      refine aw_icmp_gt (q := 151) dL_holds_148 rfl (t := 214) (by decide) (by omega) (by omega) (fun h => ((by omega : False)).elim) (fun h30 => ?_)
      refine aw_iload_n (q := 152) 3 dL_holds_151 rfl rfl rfl ?_
      refine aw_iload_n (q := 153) 2 dL_holds_152 rfl rfl rfl ?_
      refine aw_iconst (q := 154) dL_holds_153 rfl ?_
      refine ae_isub (q := 155) ((G 0 13) - 1) (by omega) dL_holds_154 rfl ?_
      refine aw_icmp_ne (q := 158) dL_holds_155 rfl (t := 163) (by decide) (by omega) (by omega) (fun h31 => ?_) (fun h32 => ?_)
      · refine aw_aload_n (q := 164) 0 dL_holds_163 rfl rfl rfl ?_
        refine aw_iload_n (q := 165) 3 dL_holds_164 rfl rfl rfl ?_
        refine fv_F (CC := "") (id := 102) (As := [.int (iI c)]) 1 (n_demand (D := D) (C := C) (T := T) (ad := ad) hst (G := G) (K := G) ht o eq0.rf (c := c) (by omega)) (fun _ h => h) (by omega) (cell_102 ad C _) rfl wc_X5_demand wm_RL_45 wi_X5_demand ws_X5_demand wn_X5 (by decide) rfl ⟨Nat.le_of_ble_eq_true rfl, Nat.le_of_ble_eq_true rfl⟩ ⟨Nat.le_of_ble_eq_true rfl, Nat.le_of_ble_eq_true rfl⟩ (Nat.le_of_ble_eq_true rfl) dL_holds_165 rfl (fun r9 G9 h9 => ?_)
        rw [h9.1, h9.2]
        clear h9
        refine aw_fconst0 (q := 169) dL_holds_168 rfl ?_
        refine aw_fcmp (q := 170) dL_holds_169 rfl ?_
        refine aw_ifW_lt (q := 173) dL_holds_170 rfl (t := 214) (by decide) (fun h => ((okW_cmp ocw fw_0).2.2 ocw.1 h).elim) (fun h33 => ?_)
        refine aw_aload_n (q := 174) 0 dL_holds_173 rfl rfl rfl ?_
        refine aw_iload_n (q := 175) 3 dL_holds_174 rfl rfl rfl ?_
        refine fv_F (CC := "") (id := 102) (As := [.int (iI c)]) 1 (n_demand (D := D) (C := C) (T := T) (ad := ad) hst (G := G) (K := G) ht o eq0.rf (c := c) (by omega)) (fun _ h => h) (by omega) (cell_102 ad C _) rfl wc_X5_demand wm_RL_45 wi_X5_demand ws_X5_demand wn_X5 (by decide) rfl ⟨Nat.le_of_ble_eq_true rfl, Nat.le_of_ble_eq_true rfl⟩ ⟨Nat.le_of_ble_eq_true rfl, Nat.le_of_ble_eq_true rfl⟩ (Nat.le_of_ble_eq_true rfl) dL_holds_175 rfl (fun r9 G9 h9 => ?_)
        rw [h9.1, h9.2]
        clear h9
        refine aw_aload_n (q := 179) 0 dL_holds_178 rfl rfl rfl ?_
        refine aw_aload_n (q := 180) 0 dL_holds_179 rfl rfl rfl ?_
        refine fv_I (CC := "") (id := 102) (As := []) 0 (c_favorite (D := D) (C := C) (T := T) (ad := ad) G o8) (fun _ h => h) (by omega) (cell_102 ad C _) rfl wc_X5_favorite wm_RL_49 wi_X5_favorite ws_X5_favorite wn_X5 (by decide) rfl ⟨Nat.le_of_ble_eq_true rfl, Nat.le_of_ble_eq_true rfl⟩ ⟨Nat.le_of_ble_eq_true rfl, Nat.le_of_ble_eq_true rfl⟩ (Nat.le_of_ble_eq_true rfl) dL_holds_180 rfl (fun r9 G9 h9 => ?_)
        rw [h9.1, h9.2, hfv]
        clear h9
        refine fv_F (CC := "") (id := 102) (As := [.int (iI fv)]) 1 (n_demand (D := D) (C := C) (T := T) (ad := ad) hst (G := G) (K := G) ht o eq0.rf (c := fv) (by omega)) (fun _ h => h) (by omega) (cell_102 ad C _) rfl wc_X5_demand wm_RL_45 wi_X5_demand ws_X5_demand wn_X5 (by decide) rfl ⟨Nat.le_of_ble_eq_true rfl, Nat.le_of_ble_eq_true rfl⟩ ⟨Nat.le_of_ble_eq_true rfl, Nat.le_of_ble_eq_true rfl⟩ (Nat.le_of_ble_eq_true rfl) dL_holds_183 rfl (fun r9 G9 h9 => ?_)
        rw [h9.1, h9.2]
        clear h9
        refine aw_fcmp (q := 187) dL_holds_186 rfl ?_
        refine aw_ifW_gt (q := 190) dL_holds_187 rfl (t := 214) (by decide) (fun h => (Int32.not_lt.mpr ((okW_cmp ocw okf).1 f3) h).elim) (fun h34 => ?_)
        refine aw_aload_n (q := 191) 0 dL_holds_190 rfl rfl rfl ?_
        refine aw_iload_n (q := 192) 3 dL_holds_191 rfl rfl rfl ?_
        refine aw_bipush (q := 194) dL_holds_192 rfl (by decide) ?_
        refine fv_I (CC := "") (id := 102) (As := [.int (iI c), .int (iI 7)]) 2 (n_coil (D := D) (C := C) (T := T) (ad := ad) hst (G := G) (K := G) ht o eq0.rf (c := c) (k := 7) (by omega) (by omega)) (fun _ h => h) (by omega) (cell_102 ad C _) rfl wc_X5_coil wm_RL_39 wi_X5_coil ws_X5_coil wn_X5 (by decide) rfl ⟨Nat.le_of_ble_eq_true rfl, Nat.le_of_ble_eq_true rfl⟩ ⟨Nat.le_of_ble_eq_true rfl, Nat.le_of_ble_eq_true rfl⟩ (Nat.le_of_ble_eq_true rfl) dL_holds_194 rfl (fun r9 G9 h9 => ?_)
        rw [h9.1, h9.2]
        clear h9
        refine aw_aload_n (q := 198) 0 dL_holds_197 rfl rfl rfl ?_
        refine aw_iload_n (q := 199) 3 dL_holds_198 rfl rfl rfl ?_
        refine aw_bipush (q := 201) dL_holds_199 rfl (by decide) ?_
        refine fv_I (CC := "") (id := 102) (As := [.int (iI c), .int (iI 6)]) 2 (n_coil (D := D) (C := C) (T := T) (ad := ad) hst (G := G) (K := G) ht o eq0.rf (c := c) (k := 6) (by omega) (by omega)) (fun _ h => h) (by omega) (cell_102 ad C _) rfl wc_X5_coil wm_RL_39 wi_X5_coil ws_X5_coil wn_X5 (by decide) rfl ⟨Nat.le_of_ble_eq_true rfl, Nat.le_of_ble_eq_true rfl⟩ ⟨Nat.le_of_ble_eq_true rfl, Nat.le_of_ble_eq_true rfl⟩ (Nat.le_of_ble_eq_true rfl) dL_holds_201 rfl (fun r9 G9 h9 => ?_)
        rw [h9.1, h9.2]
        clear h9
        refine aw_aload_n (q := 205) 0 dL_holds_204 rfl rfl rfl ?_
        refine aw_iload_n (q := 206) 3 dL_holds_205 rfl rfl rfl ?_
        refine aw_iconst (q := 207) dL_holds_206 rfl ?_
        refine fv_I (CC := "") (id := 102) (As := [.int (iI c), .int (iI 3)]) 2 (n_coil (D := D) (C := C) (T := T) (ad := ad) hst (G := G) (K := G) ht o eq0.rf (c := c) (k := 3) (by omega) (by omega)) (fun _ h => h) (by omega) (cell_102 ad C _) rfl wc_X5_coil wm_RL_39 wi_X5_coil ws_X5_coil wn_X5 (by decide) rfl ⟨Nat.le_of_ble_eq_true rfl, Nat.le_of_ble_eq_true rfl⟩ ⟨Nat.le_of_ble_eq_true rfl, Nat.le_of_ble_eq_true rfl⟩ (Nat.le_of_ble_eq_true rfl) dL_holds_207 rfl (fun r9 G9 h9 => ?_)
        rw [h9.1, h9.2]
        clear h9
        refine ae_imul (q := 211) ((((G 0 (15 + 12 * c + 6))) * ((G 0 (15 + 12 * c + 3))))) rfl dL_holds_210 rfl ?_
        refine aw_icmp_ge (q := 214) dL_holds_211 rfl (t := 216) (by decide) (by omega) (by omega) (fun h35 => ?_) (fun h => ((by omega : False)).elim)
        refine ae_iinc (q := 219) (lv2 := [(0, .ref (ad 102)), (1, .ref a), (2, .int (iI (G 0 13))), (3, .int (iI (c + 1))), (4, .int (iI ((G 0 (15 + 12 * c + 2))))), (5, .int (iI ((G 0 (15 + 12 * c + 5))))), (6, .int (iI ((G 0 (15 + 12 * c + 9)))))]) 3 [1, 2, 3, 0, 4, 5, 6] (c + 1) (by omega) dL_holds_216 rfl rfl (by decide) rfl ?_
        refine aw_goto (q := 12) dL_holds_219 (by decide) ?_
        rw [show (sumF (G 0) 1 (c).toNat) + (G 0 (15 + 12 * c + 1)) = (sumF (G 0) 1 (c + 1).toNat) from (sumF_succ (G 0) 1 h1).symm]
        rw [show (sumF (G 0) 6 (c).toNat) + (G 0 (15 + 12 * c + 6)) = (sumF (G 0) 6 (c + 1).toNat) from (sumF_succ (G 0) 6 h1).symm]
        rw [show (sumF (G 0) 7 (c).toNat) + (G 0 (15 + 12 * c + 7)) = (sumF (G 0) 7 (c + 1).toNat) from (sumF_succ (G 0) 7 h1).symm]
        refine aw_less (lv2 := [(0, .ref (ad 102)), (1, .ref a), (2, .int (iI (G 0 13))), (3, .int (iI (c + 1)))]) (fun q hq => by simp only [List.mem_cons, List.mem_nil_iff, or_false] at hq ⊢; rcases hq with rfl | rfl | rfl | rfl <;> simp) ?_
        exact ih (c + 1) (by omega) (by omega) (by omega)
      · refine aw_iload (q := 160) 6 dL_holds_158 rfl rfl ?_
        refine aw_if_ne (q := 163) dL_holds_160 rfl (t := 214) (by decide) (by omega) (fun h => ((by have := ox9 (by omega); omega : False)).elim) (fun h36 => ?_)
        refine aw_aload_n (q := 164) 0 dL_holds_163 rfl rfl rfl ?_
        refine aw_iload_n (q := 165) 3 dL_holds_164 rfl rfl rfl ?_
        refine fv_F (CC := "") (id := 102) (As := [.int (iI c)]) 1 (n_demand (D := D) (C := C) (T := T) (ad := ad) hst (G := G) (K := G) ht o eq0.rf (c := c) (by omega)) (fun _ h => h) (by omega) (cell_102 ad C _) rfl wc_X5_demand wm_RL_45 wi_X5_demand ws_X5_demand wn_X5 (by decide) rfl ⟨Nat.le_of_ble_eq_true rfl, Nat.le_of_ble_eq_true rfl⟩ ⟨Nat.le_of_ble_eq_true rfl, Nat.le_of_ble_eq_true rfl⟩ (Nat.le_of_ble_eq_true rfl) dL_holds_165 rfl (fun r9 G9 h9 => ?_)
        rw [h9.1, h9.2]
        clear h9
        refine aw_fconst0 (q := 169) dL_holds_168 rfl ?_
        refine aw_fcmp (q := 170) dL_holds_169 rfl ?_
        refine aw_ifW_lt (q := 173) dL_holds_170 rfl (t := 214) (by decide) (fun h => ((okW_cmp ocw fw_0).2.2 ocw.1 h).elim) (fun h37 => ?_)
        refine aw_aload_n (q := 174) 0 dL_holds_173 rfl rfl rfl ?_
        refine aw_iload_n (q := 175) 3 dL_holds_174 rfl rfl rfl ?_
        refine fv_F (CC := "") (id := 102) (As := [.int (iI c)]) 1 (n_demand (D := D) (C := C) (T := T) (ad := ad) hst (G := G) (K := G) ht o eq0.rf (c := c) (by omega)) (fun _ h => h) (by omega) (cell_102 ad C _) rfl wc_X5_demand wm_RL_45 wi_X5_demand ws_X5_demand wn_X5 (by decide) rfl ⟨Nat.le_of_ble_eq_true rfl, Nat.le_of_ble_eq_true rfl⟩ ⟨Nat.le_of_ble_eq_true rfl, Nat.le_of_ble_eq_true rfl⟩ (Nat.le_of_ble_eq_true rfl) dL_holds_175 rfl (fun r9 G9 h9 => ?_)
        rw [h9.1, h9.2]
        clear h9
        refine aw_aload_n (q := 179) 0 dL_holds_178 rfl rfl rfl ?_
        refine aw_aload_n (q := 180) 0 dL_holds_179 rfl rfl rfl ?_
        refine fv_I (CC := "") (id := 102) (As := []) 0 (c_favorite (D := D) (C := C) (T := T) (ad := ad) G o8) (fun _ h => h) (by omega) (cell_102 ad C _) rfl wc_X5_favorite wm_RL_49 wi_X5_favorite ws_X5_favorite wn_X5 (by decide) rfl ⟨Nat.le_of_ble_eq_true rfl, Nat.le_of_ble_eq_true rfl⟩ ⟨Nat.le_of_ble_eq_true rfl, Nat.le_of_ble_eq_true rfl⟩ (Nat.le_of_ble_eq_true rfl) dL_holds_180 rfl (fun r9 G9 h9 => ?_)
        rw [h9.1, h9.2, hfv]
        clear h9
        refine fv_F (CC := "") (id := 102) (As := [.int (iI fv)]) 1 (n_demand (D := D) (C := C) (T := T) (ad := ad) hst (G := G) (K := G) ht o eq0.rf (c := fv) (by omega)) (fun _ h => h) (by omega) (cell_102 ad C _) rfl wc_X5_demand wm_RL_45 wi_X5_demand ws_X5_demand wn_X5 (by decide) rfl ⟨Nat.le_of_ble_eq_true rfl, Nat.le_of_ble_eq_true rfl⟩ ⟨Nat.le_of_ble_eq_true rfl, Nat.le_of_ble_eq_true rfl⟩ (Nat.le_of_ble_eq_true rfl) dL_holds_183 rfl (fun r9 G9 h9 => ?_)
        rw [h9.1, h9.2]
        clear h9
        refine aw_fcmp (q := 187) dL_holds_186 rfl ?_
        refine aw_ifW_gt (q := 190) dL_holds_187 rfl (t := 214) (by decide) (fun h => (Int32.not_lt.mpr ((okW_cmp ocw okf).1 f3) h).elim) (fun h38 => ?_)
        refine aw_aload_n (q := 191) 0 dL_holds_190 rfl rfl rfl ?_
        refine aw_iload_n (q := 192) 3 dL_holds_191 rfl rfl rfl ?_
        refine aw_bipush (q := 194) dL_holds_192 rfl (by decide) ?_
        refine fv_I (CC := "") (id := 102) (As := [.int (iI c), .int (iI 7)]) 2 (n_coil (D := D) (C := C) (T := T) (ad := ad) hst (G := G) (K := G) ht o eq0.rf (c := c) (k := 7) (by omega) (by omega)) (fun _ h => h) (by omega) (cell_102 ad C _) rfl wc_X5_coil wm_RL_39 wi_X5_coil ws_X5_coil wn_X5 (by decide) rfl ⟨Nat.le_of_ble_eq_true rfl, Nat.le_of_ble_eq_true rfl⟩ ⟨Nat.le_of_ble_eq_true rfl, Nat.le_of_ble_eq_true rfl⟩ (Nat.le_of_ble_eq_true rfl) dL_holds_194 rfl (fun r9 G9 h9 => ?_)
        rw [h9.1, h9.2]
        clear h9
        refine aw_aload_n (q := 198) 0 dL_holds_197 rfl rfl rfl ?_
        refine aw_iload_n (q := 199) 3 dL_holds_198 rfl rfl rfl ?_
        refine aw_bipush (q := 201) dL_holds_199 rfl (by decide) ?_
        refine fv_I (CC := "") (id := 102) (As := [.int (iI c), .int (iI 6)]) 2 (n_coil (D := D) (C := C) (T := T) (ad := ad) hst (G := G) (K := G) ht o eq0.rf (c := c) (k := 6) (by omega) (by omega)) (fun _ h => h) (by omega) (cell_102 ad C _) rfl wc_X5_coil wm_RL_39 wi_X5_coil ws_X5_coil wn_X5 (by decide) rfl ⟨Nat.le_of_ble_eq_true rfl, Nat.le_of_ble_eq_true rfl⟩ ⟨Nat.le_of_ble_eq_true rfl, Nat.le_of_ble_eq_true rfl⟩ (Nat.le_of_ble_eq_true rfl) dL_holds_201 rfl (fun r9 G9 h9 => ?_)
        rw [h9.1, h9.2]
        clear h9
        refine aw_aload_n (q := 205) 0 dL_holds_204 rfl rfl rfl ?_
        refine aw_iload_n (q := 206) 3 dL_holds_205 rfl rfl rfl ?_
        refine aw_iconst (q := 207) dL_holds_206 rfl ?_
        refine fv_I (CC := "") (id := 102) (As := [.int (iI c), .int (iI 3)]) 2 (n_coil (D := D) (C := C) (T := T) (ad := ad) hst (G := G) (K := G) ht o eq0.rf (c := c) (k := 3) (by omega) (by omega)) (fun _ h => h) (by omega) (cell_102 ad C _) rfl wc_X5_coil wm_RL_39 wi_X5_coil ws_X5_coil wn_X5 (by decide) rfl ⟨Nat.le_of_ble_eq_true rfl, Nat.le_of_ble_eq_true rfl⟩ ⟨Nat.le_of_ble_eq_true rfl, Nat.le_of_ble_eq_true rfl⟩ (Nat.le_of_ble_eq_true rfl) dL_holds_207 rfl (fun r9 G9 h9 => ?_)
        rw [h9.1, h9.2]
        clear h9
        refine ae_imul (q := 211) ((((G 0 (15 + 12 * c + 6))) * ((G 0 (15 + 12 * c + 3))))) rfl dL_holds_210 rfl ?_
        refine aw_icmp_ge (q := 214) dL_holds_211 rfl (t := 216) (by decide) (by omega) (by omega) (fun h39 => ?_) (fun h => ((by omega : False)).elim)
        refine ae_iinc (q := 219) (lv2 := [(0, .ref (ad 102)), (1, .ref a), (2, .int (iI (G 0 13))), (3, .int (iI (c + 1))), (4, .int (iI ((G 0 (15 + 12 * c + 2))))), (5, .int (iI ((G 0 (15 + 12 * c + 5))))), (6, .int (iI ((G 0 (15 + 12 * c + 9)))))]) 3 [1, 2, 3, 0, 4, 5, 6] (c + 1) (by omega) dL_holds_216 rfl rfl (by decide) rfl ?_
        refine aw_goto (q := 12) dL_holds_219 (by decide) ?_
        rw [show (sumF (G 0) 1 (c).toNat) + (G 0 (15 + 12 * c + 1)) = (sumF (G 0) 1 (c + 1).toNat) from (sumF_succ (G 0) 1 h1).symm]
        rw [show (sumF (G 0) 6 (c).toNat) + (G 0 (15 + 12 * c + 6)) = (sumF (G 0) 6 (c + 1).toNat) from (sumF_succ (G 0) 6 h1).symm]
        rw [show (sumF (G 0) 7 (c).toNat) + (G 0 (15 + 12 * c + 7)) = (sumF (G 0) 7 (c + 1).toNat) from (sumF_succ (G 0) 7 h1).symm]
        refine aw_less (lv2 := [(0, .ref (ad 102)), (1, .ref a), (2, .int (iI (G 0 13))), (3, .int (iI (c + 1)))]) (fun q hq => by simp only [List.mem_cons, List.mem_nil_iff, or_false] at hq ⊢; rcases hq with rfl | rfl | rfl | rfl <;> simp) ?_
        exact ih (c + 1) (by omega) (by omega) (by omega)
    · have hce : c = G 0 13 := by omega
      subst hce
      refine aw_iload_n (q := 13) 3 dL_holds_12 rfl rfl rfl ?_
      refine aw_iload_n (q := 14) 2 dL_holds_13 rfl rfl rfl ?_
      refine aw_icmp_ge (q := 17) dL_holds_14 rfl (t := 222) (by decide) (by omega) (by omega) (fun _ => ?_) (fun h => absurd h (by omega))
      refine aw_iconst (q := 223) dL_holds_222 rfl ?_
      refine aw_istore_n (q := 224) (lv2 := [(0, .ref (ad 102)), (1, .ref a), (2, .int (iI (G 0 13))), (3, .int (iI 0))]) [1, 2, 3, 0] dL_holds_223 rfl rfl (by decide) rfl rfl ?_
      refine aw_iconst (q := 225) dL_holds_224 rfl ?_
      refine aw_istore (q := 227) (lv2 := [(0, .ref (ad 102)), (1, .ref a), (2, .int (iI (G 0 13))), (3, .int (iI 0)), (4, .int (iI 0))]) [1, 2, 3, 4, 0] dL_holds_225 rfl (by decide) rfl rfl ?_
      refine aw_iload (q := 229) 4 dL_holds_227 rfl rfl ?_
      refine aw_iconst (q := 230) dL_holds_229 rfl ?_
      refine aw_icmp_ge (q := 233) dL_holds_230 rfl (t := 276) (by decide) (by omega) (by omega) (fun h => absurd h (by omega)) (fun _ => ?_)
      refine aw_iload_n (q := 234) 3 dL_holds_233 rfl rfl rfl ?_
      refine aw_aload_n (q := 235) 0 dL_holds_234 rfl rfl rfl ?_
      refine aw_iload (q := 237) 4 dL_holds_235 rfl rfl ?_
      refine fv_I (CC := "") (id := 102) (As := [.int (iI 0)]) 1 (n_tube0 (D := D) (C := C) (T := T) (ad := ad) hst (G := G) (K := G) ht o eq0.rf ) (fun _ h => h) (by omega) (cell_102 ad C _) rfl wc_X5_tube wm_RL_52 wi_X5_tube ws_X5_tube wn_X5 (by decide) rfl ⟨Nat.le_of_ble_eq_true rfl, Nat.le_of_ble_eq_true rfl⟩ ⟨Nat.le_of_ble_eq_true rfl, Nat.le_of_ble_eq_true rfl⟩ (Nat.le_of_ble_eq_true rfl) dL_holds_237 rfl (fun r9 G9 h9 => ?_)
      rw [h9.1, h9.2]
      clear h9
      refine aw_iload (q := 242) 4 dL_holds_240 rfl rfl ?_
      refine fs_I (As := [.int (iI 0)]) 1 (c_worth0 (T := T) (D := D) (ad := ad) G) (fun _ h => h) wc_L_worth wm_RL_55 wt_L_worth wn_L (by decide) rfl ⟨Nat.le_of_ble_eq_true rfl, Nat.le_of_ble_eq_true rfl⟩ ⟨Nat.le_of_ble_eq_true rfl, Nat.le_of_ble_eq_true rfl⟩ (Nat.le_of_ble_eq_true rfl) dL_holds_242 rfl (fun r9 G9 h9 => ?_)
      rw [h9.1, h9.2]
      clear h9
      refine ae_imul (q := 246) (5 * (G 0 5)) (by omega) dL_holds_245 rfl ?_
      refine ae_iadd (q := 247) (5 * (G 0 5)) (by omega) dL_holds_246 rfl ?_
      refine aw_istore_n (q := 248) (lv2 := [(0, .ref (ad 102)), (1, .ref a), (2, .int (iI (G 0 13))), (3, .int (iI (5 * (G 0 5)))), (4, .int (iI 0))]) [1, 2, 3, 0, 4] dL_holds_247 rfl rfl (by decide) rfl rfl ?_
      refine aw_aload_n (q := 249) 0 dL_holds_248 rfl rfl rfl ?_
      refine aw_iload (q := 251) 4 dL_holds_249 rfl rfl ?_
      refine fv_I (CC := "") (id := 102) (As := [.int (iI 0)]) 1 (n_tube0 (D := D) (C := C) (T := T) (ad := ad) hst (G := G) (K := G) ht o eq0.rf ) (fun _ h => h) (by omega) (cell_102 ad C _) rfl wc_X5_tube wm_RL_52 wi_X5_tube ws_X5_tube wn_X5 (by decide) rfl ⟨Nat.le_of_ble_eq_true rfl, Nat.le_of_ble_eq_true rfl⟩ ⟨Nat.le_of_ble_eq_true rfl, Nat.le_of_ble_eq_true rfl⟩ (Nat.le_of_ble_eq_true rfl) dL_holds_251 rfl (fun r9 G9 h9 => ?_)
      rw [h9.1, h9.2]
      clear h9
      refine aw_if_lt (q := 257) dL_holds_254 rfl (t := 268) (by decide) (by omega) (fun h => ((by omega : False)).elim) (fun h201 => ?_)
      refine aw_aload_n (q := 258) 0 dL_holds_257 rfl rfl rfl ?_
      refine aw_iload (q := 260) 4 dL_holds_258 rfl rfl ?_
      refine fv_I (CC := "") (id := 102) (As := [.int (iI 0)]) 1 (n_tube0 (D := D) (C := C) (T := T) (ad := ad) hst (G := G) (K := G) ht o eq0.rf ) (fun _ h => h) (by omega) (cell_102 ad C _) rfl wc_X5_tube wm_RL_52 wi_X5_tube ws_X5_tube wn_X5 (by decide) rfl ⟨Nat.le_of_ble_eq_true rfl, Nat.le_of_ble_eq_true rfl⟩ ⟨Nat.le_of_ble_eq_true rfl, Nat.le_of_ble_eq_true rfl⟩ (Nat.le_of_ble_eq_true rfl) dL_holds_260 rfl (fun r9 G9 h9 => ?_)
      rw [h9.1, h9.2]
      clear h9
      refine aw_bipush (q := 265) dL_holds_263 rfl (by decide) ?_
      refine aw_icmp_le (q := 268) dL_holds_265 rfl (t := 270) (by decide) (by omega) (by omega) (fun h202 => ?_) (fun h => ((by omega : False)).elim)
      refine ae_iinc (q := 273) (lv2 := [(0, .ref (ad 102)), (1, .ref a), (2, .int (iI (G 0 13))), (3, .int (iI (5 * (G 0 5)))), (4, .int (iI 1))]) 4 [1, 2, 3, 4, 0] 1 (by omega) dL_holds_270 rfl rfl (by decide) rfl ?_
      refine aw_goto (q := 227) dL_holds_273 (by decide) ?_
      refine aw_iload (q := 229) 4 dL_holds_227 rfl rfl ?_
      refine aw_iconst (q := 230) dL_holds_229 rfl ?_
      refine aw_icmp_ge (q := 233) dL_holds_230 rfl (t := 276) (by decide) (by omega) (by omega) (fun h => absurd h (by omega)) (fun _ => ?_)
      refine aw_iload_n (q := 234) 3 dL_holds_233 rfl rfl rfl ?_
      refine aw_aload_n (q := 235) 0 dL_holds_234 rfl rfl rfl ?_
      refine aw_iload (q := 237) 4 dL_holds_235 rfl rfl ?_
      refine fv_I (CC := "") (id := 102) (As := [.int (iI 1)]) 1 (n_tube1 (D := D) (C := C) (T := T) (ad := ad) hst (G := G) (K := G) ht o eq0.rf ) (fun _ h => h) (by omega) (cell_102 ad C _) rfl wc_X5_tube wm_RL_52 wi_X5_tube ws_X5_tube wn_X5 (by decide) rfl ⟨Nat.le_of_ble_eq_true rfl, Nat.le_of_ble_eq_true rfl⟩ ⟨Nat.le_of_ble_eq_true rfl, Nat.le_of_ble_eq_true rfl⟩ (Nat.le_of_ble_eq_true rfl) dL_holds_237 rfl (fun r9 G9 h9 => ?_)
      rw [h9.1, h9.2]
      clear h9
      refine aw_iload (q := 242) 4 dL_holds_240 rfl rfl ?_
      refine fs_I (As := [.int (iI 1)]) 1 (c_worth1 (T := T) (D := D) (ad := ad) G) (fun _ h => h) wc_L_worth wm_RL_55 wt_L_worth wn_L (by decide) rfl ⟨Nat.le_of_ble_eq_true rfl, Nat.le_of_ble_eq_true rfl⟩ ⟨Nat.le_of_ble_eq_true rfl, Nat.le_of_ble_eq_true rfl⟩ (Nat.le_of_ble_eq_true rfl) dL_holds_242 rfl (fun r9 G9 h9 => ?_)
      rw [h9.1, h9.2]
      clear h9
      refine ae_imul (q := 246) (10 * (G 0 6)) (by omega) dL_holds_245 rfl ?_
      refine ae_iadd (q := 247) (5 * (G 0 5) + 10 * (G 0 6)) (by omega) dL_holds_246 rfl ?_
      refine aw_istore_n (q := 248) (lv2 := [(0, .ref (ad 102)), (1, .ref a), (2, .int (iI (G 0 13))), (3, .int (iI (5 * (G 0 5) + 10 * (G 0 6)))), (4, .int (iI 1))]) [1, 2, 3, 0, 4] dL_holds_247 rfl rfl (by decide) rfl rfl ?_
      refine aw_aload_n (q := 249) 0 dL_holds_248 rfl rfl rfl ?_
      refine aw_iload (q := 251) 4 dL_holds_249 rfl rfl ?_
      refine fv_I (CC := "") (id := 102) (As := [.int (iI 1)]) 1 (n_tube1 (D := D) (C := C) (T := T) (ad := ad) hst (G := G) (K := G) ht o eq0.rf ) (fun _ h => h) (by omega) (cell_102 ad C _) rfl wc_X5_tube wm_RL_52 wi_X5_tube ws_X5_tube wn_X5 (by decide) rfl ⟨Nat.le_of_ble_eq_true rfl, Nat.le_of_ble_eq_true rfl⟩ ⟨Nat.le_of_ble_eq_true rfl, Nat.le_of_ble_eq_true rfl⟩ (Nat.le_of_ble_eq_true rfl) dL_holds_251 rfl (fun r9 G9 h9 => ?_)
      rw [h9.1, h9.2]
      clear h9
      refine aw_if_lt (q := 257) dL_holds_254 rfl (t := 268) (by decide) (by omega) (fun h => ((by omega : False)).elim) (fun h203 => ?_)
      refine aw_aload_n (q := 258) 0 dL_holds_257 rfl rfl rfl ?_
      refine aw_iload (q := 260) 4 dL_holds_258 rfl rfl ?_
      refine fv_I (CC := "") (id := 102) (As := [.int (iI 1)]) 1 (n_tube1 (D := D) (C := C) (T := T) (ad := ad) hst (G := G) (K := G) ht o eq0.rf ) (fun _ h => h) (by omega) (cell_102 ad C _) rfl wc_X5_tube wm_RL_52 wi_X5_tube ws_X5_tube wn_X5 (by decide) rfl ⟨Nat.le_of_ble_eq_true rfl, Nat.le_of_ble_eq_true rfl⟩ ⟨Nat.le_of_ble_eq_true rfl, Nat.le_of_ble_eq_true rfl⟩ (Nat.le_of_ble_eq_true rfl) dL_holds_260 rfl (fun r9 G9 h9 => ?_)
      rw [h9.1, h9.2]
      clear h9
      refine aw_bipush (q := 265) dL_holds_263 rfl (by decide) ?_
      refine aw_icmp_le (q := 268) dL_holds_265 rfl (t := 270) (by decide) (by omega) (by omega) (fun h204 => ?_) (fun h => ((by omega : False)).elim)
      refine ae_iinc (q := 273) (lv2 := [(0, .ref (ad 102)), (1, .ref a), (2, .int (iI (G 0 13))), (3, .int (iI (5 * (G 0 5) + 10 * (G 0 6)))), (4, .int (iI 2))]) 4 [1, 2, 3, 4, 0] 2 (by omega) dL_holds_270 rfl rfl (by decide) rfl ?_
      refine aw_goto (q := 227) dL_holds_273 (by decide) ?_
      refine aw_iload (q := 229) 4 dL_holds_227 rfl rfl ?_
      refine aw_iconst (q := 230) dL_holds_229 rfl ?_
      refine aw_icmp_ge (q := 233) dL_holds_230 rfl (t := 276) (by decide) (by omega) (by omega) (fun h => absurd h (by omega)) (fun _ => ?_)
      refine aw_iload_n (q := 234) 3 dL_holds_233 rfl rfl rfl ?_
      refine aw_aload_n (q := 235) 0 dL_holds_234 rfl rfl rfl ?_
      refine aw_iload (q := 237) 4 dL_holds_235 rfl rfl ?_
      refine fv_I (CC := "") (id := 102) (As := [.int (iI 2)]) 1 (n_tube2 (D := D) (C := C) (T := T) (ad := ad) hst (G := G) (K := G) ht o eq0.rf ) (fun _ h => h) (by omega) (cell_102 ad C _) rfl wc_X5_tube wm_RL_52 wi_X5_tube ws_X5_tube wn_X5 (by decide) rfl ⟨Nat.le_of_ble_eq_true rfl, Nat.le_of_ble_eq_true rfl⟩ ⟨Nat.le_of_ble_eq_true rfl, Nat.le_of_ble_eq_true rfl⟩ (Nat.le_of_ble_eq_true rfl) dL_holds_237 rfl (fun r9 G9 h9 => ?_)
      rw [h9.1, h9.2]
      clear h9
      refine aw_iload (q := 242) 4 dL_holds_240 rfl rfl ?_
      refine fs_I (As := [.int (iI 2)]) 1 (c_worth2 (T := T) (D := D) (ad := ad) G) (fun _ h => h) wc_L_worth wm_RL_55 wt_L_worth wn_L (by decide) rfl ⟨Nat.le_of_ble_eq_true rfl, Nat.le_of_ble_eq_true rfl⟩ ⟨Nat.le_of_ble_eq_true rfl, Nat.le_of_ble_eq_true rfl⟩ (Nat.le_of_ble_eq_true rfl) dL_holds_242 rfl (fun r9 G9 h9 => ?_)
      rw [h9.1, h9.2]
      clear h9
      refine ae_imul (q := 246) (20 * (G 0 7)) (by omega) dL_holds_245 rfl ?_
      refine ae_iadd (q := 247) (5 * (G 0 5) + 10 * (G 0 6) + 20 * (G 0 7)) (by omega) dL_holds_246 rfl ?_
      refine aw_istore_n (q := 248) (lv2 := [(0, .ref (ad 102)), (1, .ref a), (2, .int (iI (G 0 13))), (3, .int (iI (5 * (G 0 5) + 10 * (G 0 6) + 20 * (G 0 7)))), (4, .int (iI 2))]) [1, 2, 3, 0, 4] dL_holds_247 rfl rfl (by decide) rfl rfl ?_
      refine aw_aload_n (q := 249) 0 dL_holds_248 rfl rfl rfl ?_
      refine aw_iload (q := 251) 4 dL_holds_249 rfl rfl ?_
      refine fv_I (CC := "") (id := 102) (As := [.int (iI 2)]) 1 (n_tube2 (D := D) (C := C) (T := T) (ad := ad) hst (G := G) (K := G) ht o eq0.rf ) (fun _ h => h) (by omega) (cell_102 ad C _) rfl wc_X5_tube wm_RL_52 wi_X5_tube ws_X5_tube wn_X5 (by decide) rfl ⟨Nat.le_of_ble_eq_true rfl, Nat.le_of_ble_eq_true rfl⟩ ⟨Nat.le_of_ble_eq_true rfl, Nat.le_of_ble_eq_true rfl⟩ (Nat.le_of_ble_eq_true rfl) dL_holds_251 rfl (fun r9 G9 h9 => ?_)
      rw [h9.1, h9.2]
      clear h9
      refine aw_if_lt (q := 257) dL_holds_254 rfl (t := 268) (by decide) (by omega) (fun h => ((by omega : False)).elim) (fun h205 => ?_)
      refine aw_aload_n (q := 258) 0 dL_holds_257 rfl rfl rfl ?_
      refine aw_iload (q := 260) 4 dL_holds_258 rfl rfl ?_
      refine fv_I (CC := "") (id := 102) (As := [.int (iI 2)]) 1 (n_tube2 (D := D) (C := C) (T := T) (ad := ad) hst (G := G) (K := G) ht o eq0.rf ) (fun _ h => h) (by omega) (cell_102 ad C _) rfl wc_X5_tube wm_RL_52 wi_X5_tube ws_X5_tube wn_X5 (by decide) rfl ⟨Nat.le_of_ble_eq_true rfl, Nat.le_of_ble_eq_true rfl⟩ ⟨Nat.le_of_ble_eq_true rfl, Nat.le_of_ble_eq_true rfl⟩ (Nat.le_of_ble_eq_true rfl) dL_holds_260 rfl (fun r9 G9 h9 => ?_)
      rw [h9.1, h9.2]
      clear h9
      refine aw_bipush (q := 265) dL_holds_263 rfl (by decide) ?_
      refine aw_icmp_le (q := 268) dL_holds_265 rfl (t := 270) (by decide) (by omega) (by omega) (fun h206 => ?_) (fun h => ((by omega : False)).elim)
      refine ae_iinc (q := 273) (lv2 := [(0, .ref (ad 102)), (1, .ref a), (2, .int (iI (G 0 13))), (3, .int (iI (5 * (G 0 5) + 10 * (G 0 6) + 20 * (G 0 7)))), (4, .int (iI 3))]) 4 [1, 2, 3, 4, 0] 3 (by omega) dL_holds_270 rfl rfl (by decide) rfl ?_
      refine aw_goto (q := 227) dL_holds_273 (by decide) ?_
      refine aw_iload (q := 229) 4 dL_holds_227 rfl rfl ?_
      refine aw_iconst (q := 230) dL_holds_229 rfl ?_
      refine aw_icmp_ge (q := 233) dL_holds_230 rfl (t := 276) (by decide) (by omega) (by omega) (fun h => absurd h (by omega)) (fun _ => ?_)
      refine aw_iload_n (q := 234) 3 dL_holds_233 rfl rfl rfl ?_
      refine aw_aload_n (q := 235) 0 dL_holds_234 rfl rfl rfl ?_
      refine aw_iload (q := 237) 4 dL_holds_235 rfl rfl ?_
      refine fv_I (CC := "") (id := 102) (As := [.int (iI 3)]) 1 (n_tube3 (D := D) (C := C) (T := T) (ad := ad) hst (G := G) (K := G) ht o eq0.rf ) (fun _ h => h) (by omega) (cell_102 ad C _) rfl wc_X5_tube wm_RL_52 wi_X5_tube ws_X5_tube wn_X5 (by decide) rfl ⟨Nat.le_of_ble_eq_true rfl, Nat.le_of_ble_eq_true rfl⟩ ⟨Nat.le_of_ble_eq_true rfl, Nat.le_of_ble_eq_true rfl⟩ (Nat.le_of_ble_eq_true rfl) dL_holds_237 rfl (fun r9 G9 h9 => ?_)
      rw [h9.1, h9.2]
      clear h9
      refine aw_iload (q := 242) 4 dL_holds_240 rfl rfl ?_
      refine fs_I (As := [.int (iI 3)]) 1 (c_worth3 (T := T) (D := D) (ad := ad) G) (fun _ h => h) wc_L_worth wm_RL_55 wt_L_worth wn_L (by decide) rfl ⟨Nat.le_of_ble_eq_true rfl, Nat.le_of_ble_eq_true rfl⟩ ⟨Nat.le_of_ble_eq_true rfl, Nat.le_of_ble_eq_true rfl⟩ (Nat.le_of_ble_eq_true rfl) dL_holds_242 rfl (fun r9 G9 h9 => ?_)
      rw [h9.1, h9.2]
      clear h9
      refine ae_imul (q := 246) (50 * (G 0 8)) (by omega) dL_holds_245 rfl ?_
      refine ae_iadd (q := 247) (5 * (G 0 5) + 10 * (G 0 6) + 20 * (G 0 7) + 50 * (G 0 8)) (by omega) dL_holds_246 rfl ?_
      refine aw_istore_n (q := 248) (lv2 := [(0, .ref (ad 102)), (1, .ref a), (2, .int (iI (G 0 13))), (3, .int (iI (5 * (G 0 5) + 10 * (G 0 6) + 20 * (G 0 7) + 50 * (G 0 8)))), (4, .int (iI 3))]) [1, 2, 3, 0, 4] dL_holds_247 rfl rfl (by decide) rfl rfl ?_
      refine aw_aload_n (q := 249) 0 dL_holds_248 rfl rfl rfl ?_
      refine aw_iload (q := 251) 4 dL_holds_249 rfl rfl ?_
      refine fv_I (CC := "") (id := 102) (As := [.int (iI 3)]) 1 (n_tube3 (D := D) (C := C) (T := T) (ad := ad) hst (G := G) (K := G) ht o eq0.rf ) (fun _ h => h) (by omega) (cell_102 ad C _) rfl wc_X5_tube wm_RL_52 wi_X5_tube ws_X5_tube wn_X5 (by decide) rfl ⟨Nat.le_of_ble_eq_true rfl, Nat.le_of_ble_eq_true rfl⟩ ⟨Nat.le_of_ble_eq_true rfl, Nat.le_of_ble_eq_true rfl⟩ (Nat.le_of_ble_eq_true rfl) dL_holds_251 rfl (fun r9 G9 h9 => ?_)
      rw [h9.1, h9.2]
      clear h9
      refine aw_if_lt (q := 257) dL_holds_254 rfl (t := 268) (by decide) (by omega) (fun h => ((by omega : False)).elim) (fun h207 => ?_)
      refine aw_aload_n (q := 258) 0 dL_holds_257 rfl rfl rfl ?_
      refine aw_iload (q := 260) 4 dL_holds_258 rfl rfl ?_
      refine fv_I (CC := "") (id := 102) (As := [.int (iI 3)]) 1 (n_tube3 (D := D) (C := C) (T := T) (ad := ad) hst (G := G) (K := G) ht o eq0.rf ) (fun _ h => h) (by omega) (cell_102 ad C _) rfl wc_X5_tube wm_RL_52 wi_X5_tube ws_X5_tube wn_X5 (by decide) rfl ⟨Nat.le_of_ble_eq_true rfl, Nat.le_of_ble_eq_true rfl⟩ ⟨Nat.le_of_ble_eq_true rfl, Nat.le_of_ble_eq_true rfl⟩ (Nat.le_of_ble_eq_true rfl) dL_holds_260 rfl (fun r9 G9 h9 => ?_)
      rw [h9.1, h9.2]
      clear h9
      refine aw_bipush (q := 265) dL_holds_263 rfl (by decide) ?_
      refine aw_icmp_le (q := 268) dL_holds_265 rfl (t := 270) (by decide) (by omega) (by omega) (fun h208 => ?_) (fun h => ((by omega : False)).elim)
      refine ae_iinc (q := 273) (lv2 := [(0, .ref (ad 102)), (1, .ref a), (2, .int (iI (G 0 13))), (3, .int (iI (5 * (G 0 5) + 10 * (G 0 6) + 20 * (G 0 7) + 50 * (G 0 8)))), (4, .int (iI 4))]) 4 [1, 2, 3, 4, 0] 4 (by omega) dL_holds_270 rfl rfl (by decide) rfl ?_
      refine aw_goto (q := 227) dL_holds_273 (by decide) ?_
      refine aw_iload (q := 229) 4 dL_holds_227 rfl rfl ?_
      refine aw_iconst (q := 230) dL_holds_229 rfl ?_
      refine aw_icmp_ge (q := 233) dL_holds_230 rfl (t := 276) (by decide) (by omega) (by omega) (fun _ => ?_) (fun h => absurd h (by omega))
      refine aw_iconst (q := 277) dL_holds_276 rfl ?_
      refine aw_istore (q := 279) (lv2 := [(0, .ref (ad 102)), (1, .ref a), (2, .int (iI (G 0 13))), (3, .int (iI (5 * (G 0 5) + 10 * (G 0 6) + 20 * (G 0 7) + 50 * (G 0 8)))), (4, .int (iI 0))]) [1, 2, 3, 4, 0] dL_holds_277 rfl (by decide) rfl rfl ?_
      exact LP_holds hst ht o (mo := (5 * (G 0 5) + 10 * (G 0 6) + 20 * (G 0 7) + 50 * (G 0 8))) (by show 5 * G 0 5 + 10 * G 0 6 + 20 * G 0 7 + 50 * G 0 8 = _; omega) 1001 0 (by omega) (by omega) (by omega)
set_option maxHeartbeats 4000000 in
set_option maxRecDepth 100000 in
theorem c_holds {l : Launch} {D : va_G} {C : Nat → ClassId} {T : Nat → Nat} {ad : Int → Nat} (hst : l.stackTraces = false) {t : Int} {G : GG} (ht : t ≤ 1000) (o : okI t G) : MC l yL_holds cL_holds 7 (some .boolean) 8 223 3 16 D (tyC C) T [.ref (ad 102)] (cw ad C G) (RI ad C (fun r G1 => r = 1 ∧ G1 = G)) := by
  refine mc_of (by decide +kernel) (Nat.le_of_ble_eq_true rfl) rfl ?_
  have o8 := o.1.1.2.1
  refine aw_iconst (q := 1) dL_holds_0 rfl ?_
  refine aw_newa (q := 3) (t := .int) (a0 := (4, .inl (fun _ => iI 0))) (N := 4) 0 rfl rfl wa_int (fun _ => rfl) (by decide) (by decide) (by decide) (Nat.le_of_ble_eq_true rfl) (Nat.le_of_ble_eq_true rfl) dL_holds_1 rfl (fun a => ?_)
  rw [sm_z]
  change AW _ _ _ _ _ _ _ _ _ _ _ _ _ _ _ _ (cw ad C G ++ smC C a 0 0 0 0) _ _
  refine aw_astore_n (q := 4) (lv2 := [(0, .ref (ad 102)), (1, .ref a)]) [1, 0] dL_holds_3 rfl rfl (by decide) rfl rfl ?_
  refine aw_aload_n (q := 5) 0 dL_holds_4 rfl rfl rfl ?_
  refine aw_iconst (q := 6) dL_holds_5 rfl ?_
  refine fv_I (CC := "") (id := 102) (As := [.int (iI 0)]) 1 (n_v0 (D := D) (C := C) (T := T) (ad := ad) hst (G := G) (K := G) ht o eq0.rf ) (fun _ h => h) (by omega) (cell_102 ad C _) rfl wc_X5_value wm_RL_42 wi_X5_value ws_X5_value wn_X5 (by decide) rfl ⟨Nat.le_of_ble_eq_true rfl, Nat.le_of_ble_eq_true rfl⟩ ⟨Nat.le_of_ble_eq_true rfl, Nat.le_of_ble_eq_true rfl⟩ (Nat.le_of_ble_eq_true rfl) dL_holds_6 rfl (fun r9 G9 h9 => ?_)
  rw [h9.1, h9.2]
  clear h9
  refine aw_istore_n (q := 10) (lv2 := [(0, .ref (ad 102)), (1, .ref a), (2, .int (iI (G 0 13)))]) [1, 2, 0] dL_holds_9 rfl rfl (by decide) rfl rfl ?_
  refine aw_iconst (q := 11) dL_holds_10 rfl ?_
  refine aw_istore_n (q := 12) (lv2 := [(0, .ref (ad 102)), (1, .ref a), (2, .int (iI (G 0 13))), (3, .int (iI 0))]) [1, 2, 3, 0] dL_holds_11 rfl rfl (by decide) rfl rfl ?_
  exact LC_holds hst ht o 10 0 (by omega) (by omega) (by omega)
