/-! class CoilPricesModel: carryOut -/
/-- the place of the first fault; -1 if there is none -/
def synE (B : Int → Int) (len : Int) : Nat → Int → Int
  | 0, _ => -1
  | n + 1, p => if p < len then (if okOrd B p then synE B len n (nxt B p) else flt B p) else -1
def coM (B : Int → Int) (len : Int) : Nat → GG → Int → GG → Prop
  | 0, _, _, _ => False
  | f + 1, K, r, H => (¬ K 11 13 < len ∧ r = 0 ∧ H = K) ∨ (K 11 13 < len ∧ ∃ L a M, sameB roS_ K L ∧ L 11 14 = B (K 11 13) ∧ ordV B (K 11 13) L ∧ L 11 13 = nxt B (K 11 13) ∧ doesM L a M ∧ ((¬ M 11 8 = 0 ∧ r = 0 ∧ H = M) ∨ (M 11 8 = 0 ∧ coM B len f M (r - 1) H)))
theorem doesM_fr {G H : GG} {r : Int} (h : doesM G r H) : sameB (fun x y => x = 12 ∨ x = 14 ∨ x = 17 ∨ (x = 11 ∧ y = 8)) G H := by
  intro x y z
  rcases h with ⟨-, h⟩ | ⟨-, h⟩ | ⟨-, h⟩ | ⟨-, h⟩
  · rcases h with ⟨-, -, rfl⟩ | ⟨-, -, -, rfl⟩ | ⟨-, -, -, -, rfl⟩ | ⟨-, -, -, -, rfl⟩ <;> exact setG_ne (by omega)
  · rcases h with ⟨-, -, rfl⟩ | ⟨-, -, -, rfl⟩ | ⟨-, -, -, k⟩
    · exact setG_ne (by omega)
    · exact setG_ne (by omega)
    · exact (k.2.2.2.2.2.2.2 x y (by omega)).trans (setG_ne (by omega))
  · rcases h with ⟨-, -, rfl⟩ | ⟨-, -, -, rfl⟩ | ⟨-, -, -, rfl⟩
    · exact setG_ne (by omega)
    · exact setG_ne (by omega)
    · exact onR_ne (by omega)
  · rcases h with ⟨-, -, rfl⟩ | ⟨-, h⟩
    · exact setG_ne (by omega)
    · exact h.1 x y z
theorem doesM_8 {G H : GG} {r : Int} (h8 : G 11 8 = 0) (h : doesM G r H) : 0 ≤ H 11 8 ∧ H 11 8 ≤ 3 := by
  rcases h with ⟨-, h⟩ | ⟨-, h⟩ | ⟨-, h⟩ | ⟨-, h⟩
  · exact stockB_8 h8 h
  · exact fillB_8 h8 h
  · exact passB_8 h8 h
  · rcases h with ⟨-, -, rfl⟩ | ⟨-, h⟩
    · rw [setG_same]; omega
    · exact buyB_8 h8 h
theorem keepM_10 {S H : GG} {r : Int × Int × Int × Int × Int} (h : keepM S r H) : H 12 10 = S 12 10 := h.2.2.2.2.2.2.2 12 10 (by omega)
/-- what holds through an order -/
theorem doesM_ok {G H : GG} {r : Int} (oX : ordX G) (oN : okN12 G) (o10 : 0 ≤ G 12 10 ∧ G 12 10 ≤ 100000) (h8 : H 11 8 = 0) (h : doesM G r H) : okN12 H ∧ (0 ≤ H 12 10 ∧ H 12 10 ≤ 100000) := by
  have oH := okN12_H oN
  have o13 := oH.2.1
  rcases h with ⟨a, h⟩ | ⟨a, h⟩ | ⟨a, h⟩ | ⟨a, h⟩
  · rcases h with ⟨-, -, rfl⟩ | ⟨-, -, -, rfl⟩ | ⟨-, -, -, -, rfl⟩ | ⟨c, d, e, -, rfl⟩
    · rw [setG_same] at h8; omega
    · rw [setG_same] at h8; omega
    · rw [setG_same] at h8; omega
    · have oc := (oH.2.2 _ c.1 c.2).1
      exact ⟨okN12_goods (by omega) (by omega) oN, by rw [setG_ne (by omega)]; exact o10⟩
  · rcases h with ⟨-, -, rfl⟩ | ⟨-, -, -, rfl⟩ | ⟨c, d, -, k⟩
    · rw [setG_same] at h8; omega
    · rw [setG_same] at h8; omega
    · exact ⟨okN12_fill (by omega) (by omega) oN k, by rw [keepM_10 k, show fillG G 12 (G 11 17) (G 11 15) 12 10 = G 12 10 from setG_ne (by omega)]; exact o10⟩
  · rcases h with ⟨-, -, rfl⟩ | ⟨-, -, -, rfl⟩ | ⟨c, d, -, rfl⟩
    · rw [setG_same] at h8; omega
    · rw [setG_same] at h8; omega
    · refine ⟨okN12_hours oN _, ?_⟩
      rw [onR_at, hours_10 oH]
      omega
  · rcases h with ⟨-, -, rfl⟩ | ⟨c, h⟩
    · rw [setG_same] at h8; omega
    · have hco : ∀ k : Int, 0 ≤ k → k < 4 → 0 ≤ G 18 k ∧ G 18 k ≤ 9 := by
        rcases oX with ⟨q, -⟩ | ⟨q, -⟩ | ⟨q, -⟩ | ⟨-, -, q⟩
        · omega
        · omega
        · omega
        · exact q
      rcases h.2 with ⟨-, -, q, -⟩ | ⟨q1, -, -, S, q2, q3⟩
      · omega
      · exact ⟨okN12_sell c oN hco q1 q2 q3, by rw [sellM_ne q2 q3 (by omega) (by omega)]; exact o10⟩
theorem fNum_b (B : Int → Int) (p : Int) : p ≤ fNum B p ∧ fNum B p ≤ p + 2 := by
  have q := nQ_b B p
  unfold fNum
  split
  · omega
  · split <;> omega
theorem fCo_b (B : Int → Int) (p : Int) : p ≤ fCo B p ∧ fCo B p ≤ p + 7 := by
  unfold fCo
  repeat (split; omega)
  omega
theorem flt_b (B : Int → Int) (p : Int) : p ≤ flt B p ∧ flt B p ≤ p + 12 := by
  have a1 := fNum_b B (p + 3)
  have a2 := fNum_b B (p + 1)
  have a3 := fCo_b B (p + 2)
  have a4 := nQ_b B (p + 3)
  have a5 := nQ_b B (p + 1)
  unfold flt
  split
  · unfold flSt; split; omega; split; omega; split <;> omega
  · split
    · unfold flBu; split; omega; split <;> omega
    · split
      · unfold flSt; split; omega; split; omega; split <;> omega
      · split
        · unfold flHr; split <;> omega
        · omega
set_option maxHeartbeats 4000000 in
set_option maxRecDepth 100000 in
theorem L_car1 {l : Launch} {D : va_G} {C : Nat → ClassId} {T : Nat → Nat} {ad : Int → Nat} (G : GG) (o : okX G) : ∀ (f : Nat) (p : Int) (K : GG), (0 ≤ p ∧ p ≤ 100) → 101 - p < f → K 11 13 = p → sameB (fun x y => (x = 11 ∧ y = 7) ∨ roS_ x y) G K → K 11 7 = 0 → synE (bM G) (G 11 6) f p = synE (bM G) (G 11 6) 102 0 → (∀ K1 : GG, sameB (fun x y => (x = 11 ∧ y = 7) ∨ roS_ x y) G K1 → K1 11 7 = 0 → synE (bM G) (G 11 6) 102 0 = -1 → AW l RX6 "carryOut" cX6_carryOut 4 (some .int) (fun _ => True) { frames := 6, cells := 0, slots := 0, locals := 146 } (hvE D (RI ad C (fun r G1 => (¬ synE (bM G) (G 11 6) 102 0 = -1 ∧ r = -10 - synE (bM G) (G 11 6) 102 0 ∧ G1 11 7 = 0 ∧ quiet G G1) ∨ (synE (bM G) (G 11 6) 102 0 = -1 ∧ ∃ H8 H, (∀ y, H8 12 y = G 12 y) ∧ H8 11 13 = 0 ∧ H8 11 8 = 0 ∧ coM (bM G) (G 11 6) 102 H8 r H ∧ (∀ y, G1 12 y = H 12 y) ∧ G1 11 7 = 0 ∧ svR G G1 ∧ sameB (fun x y => quS x y ∨ x = 15 ∨ (x = 11 ∧ y = 4)) G G1))) (cw ad C G) 0 0) D (tyC C) (hvZ T (cw ad C G)) (cw ad C G) 36 [(0, .ref (ad 108))] [] (cw ad C K1) 0 0) → AW l RX6 "carryOut" cX6_carryOut 4 (some .int) (fun _ => True) { frames := 6, cells := 0, slots := 0, locals := 146 } (hvE D (RI ad C (fun r G1 => (¬ synE (bM G) (G 11 6) 102 0 = -1 ∧ r = -10 - synE (bM G) (G 11 6) 102 0 ∧ G1 11 7 = 0 ∧ quiet G G1) ∨ (synE (bM G) (G 11 6) 102 0 = -1 ∧ ∃ H8 H, (∀ y, H8 12 y = G 12 y) ∧ H8 11 13 = 0 ∧ H8 11 8 = 0 ∧ coM (bM G) (G 11 6) 102 H8 r H ∧ (∀ y, G1 12 y = H 12 y) ∧ G1 11 7 = 0 ∧ svR G G1 ∧ sameB (fun x y => quS x y ∨ x = 15 ∨ (x = 11 ∧ y = 4)) G G1))) (cw ad C G) 0 0) D (tyC C) (hvZ T (cw ad C G)) (cw ad C G) 10 [(0, .ref (ad 108))] [] (cw ad C K) 0 0 := by
  intro f
  induction f with
  | zero => intro p K hk hn; exact absurd hn (by omega)
  | succ f ih =>
    intro p K hk hn hp hs h7 hE kO
    have o1 := o.1
    refine aw_aload_n (q := 11) 0 dX6_carryOut_10 rfl rfl rfl ?_
    refine g_mod_at (q := 14) (v := p) (hp) wf_RX6_169 dX6_carryOut_11 rfl ?_
    refine aw_aload_n (q := 15) 0 dX6_carryOut_14 rfl rfl rfl ?_
    refine g_mod_length (q := 18) (v := (G 11 6)) ((hs 11 6 (by omega))) wf_RX6_166 dX6_carryOut_15 rfl ?_
    refine aw_icmp_ge (q := 21) dX6_carryOut_18 rfl (t := 36) (by decide) (by omega) (by omega) (fun y1 => ?_) (fun y2 => ?_)
    · exact kO K hs h7 (by rw [← hE]; exact if_neg (by omega))
    · refine aw_aload_n (q := 22) 0 dX6_carryOut_21 rfl rfl rfl ?_
      refine cv_I (q := 25) (CC := "") (id := 108) (As := []) 0 (c_roM (T := T) (D := D) (ad := ad) K (okX_congr (hs 11 6 (by omega)) (fun y => hs 16 y (by omega)) o) hp (by omega) (by omega)) (fun _ h => h) (by omega) (cell_108 ad C _) rfl wc_X6_readOrder wm_RX6_203 wi_X6_readOrder ws_X6_readOrder wn_X6 (by decide) rfl ⟨Nat.le_of_ble_eq_true rfl, Nat.le_of_ble_eq_true rfl⟩ ⟨Nat.le_of_ble_eq_true rfl, Nat.le_of_ble_eq_true rfl⟩ (Nat.le_of_ble_eq_true rfl) dX6_carryOut_22 rfl (fun r9 L h9 => ?_)
      have hB : bM K = bM G := funext (bM_congr (H := K) (G := G) (hs 11 6 (by omega)) (fun y => hs 16 y (by omega)))
      obtain ⟨fL, h9⟩ := h9
      rw [hB] at h9
      have fL2 : sameB (fun x y => (x = 11 ∧ y = 7) ∨ roS_ x y) G L := fun x y z => (fL x y (by omega)).trans (hs x y (by omega))
      rcases h9 with ⟨q1, rfl, q2, q3, q4⟩ | ⟨q1, rfl, q2⟩
      · refine aw_if_ne (q := 28) dX6_carryOut_25 rfl (t := 10) (by decide) (by omega) (fun _ => ?_) (fun h => absurd h (by omega))
        have e9 := okOrd_nxt o (by omega) q1
        refine ih (nxt (bM G) p) L (by omega) (by omega) q2 fL2 ((fL 11 7 (by omega)).trans h7) ?_ kO
        rw [← hE]
        show _ = (if p < G 11 6 then (if okOrd (bM G) p then synE (bM G) (G 11 6) f (nxt (bM G) p) else flt (bM G) p) else -1)
        rw [if_pos (by omega), if_pos q1]
      · refine aw_if_ne (q := 28) dX6_carryOut_25 rfl (t := 10) (by decide) (by omega) (fun h => absurd h (by omega)) (fun _ => ?_)
        refine aw_bipush (q := 30) dX6_carryOut_28 rfl (by decide) ?_
        refine aw_aload_n (q := 31) 0 dX6_carryOut_30 rfl rfl rfl ?_
        refine g_mod_at (q := 34) (v := (flt (bM G) p)) (q2) wf_RX6_169 dX6_carryOut_31 rfl ?_
        refine ae_isub (q := 35) (-(flt (bM G) p) - 10) (by omega) dX6_carryOut_34 rfl ?_
        exact rt_i rfl (Nat.le_refl _) (Nat.le_refl _) (by
            have e9 : synE (bM G) (G 11 6) 102 0 = flt (bM G) p := by
              rw [← hE]
              show (if p < G 11 6 then (if okOrd (bM G) p then synE (bM G) (G 11 6) f (nxt (bM G) p) else flt (bM G) p) else -1) = _
              rw [if_pos (by omega), if_neg q1]
            have b9 := flt_b (bM G) p
            rw [e9]
            exact Or.inl ⟨by omega, by omega, (fL 11 7 (by omega)).trans h7, fun y _ _ => fL2 12 y (by omega), fun x y z => fL2 x y (by omega)⟩) dX6_carryOut_35
set_option maxHeartbeats 4000000 in
set_option maxRecDepth 100000 in
theorem L_car2 {l : Launch} {D : va_G} {C : Nat → ClassId} {T : Nat → Nat} {ad : Int → Nat} (G : GG) (o : okX G) (K0 : GG) : ∀ (f : Nat) (p n : Int) (K : GG), (0 ≤ p ∧ p ≤ 100) → 101 - p < f → K 11 13 = p → okN12 K → (0 ≤ K 12 10 ∧ K 12 10 ≤ 100000) → K 11 8 = 0 → K 11 6 = G 11 6 → bM K = bM G → synE (bM G) (G 11 6) f p = -1 → sameB (fun x y => x = 12 ∨ x = 14 ∨ x = 17 ∨ (x = 11 ∧ y = 8) ∨ roS_ x y) K0 K → (∀ (r : Int) (K1 : GG), sameB (fun x y => x = 12 ∨ x = 14 ∨ x = 17 ∨ (x = 11 ∧ y = 8) ∨ roS_ x y) K0 K1 → coM (bM G) (G 11 6) f K r K1 → (0 ≤ K1 11 8 ∧ K1 11 8 ≤ 3) → AW l RX6 "carryOut" cX6_carryOut 4 (some .int) (fun _ => True) { frames := 6, cells := 0, slots := 0, locals := 146 } (hvE D (RI ad C (fun r G1 => (¬ synE (bM G) (G 11 6) 102 0 = -1 ∧ r = -10 - synE (bM G) (G 11 6) 102 0 ∧ G1 11 7 = 0 ∧ quiet G G1) ∨ (synE (bM G) (G 11 6) 102 0 = -1 ∧ ∃ H8 H, (∀ y, H8 12 y = G 12 y) ∧ H8 11 13 = 0 ∧ H8 11 8 = 0 ∧ coM (bM G) (G 11 6) 102 H8 r H ∧ (∀ y, G1 12 y = H 12 y) ∧ G1 11 7 = 0 ∧ svR G G1 ∧ sameB (fun x y => quS x y ∨ x = 15 ∨ (x = 11 ∧ y = 4)) G G1))) (cw ad C G) 0 0) D (tyC C) (hvZ T (cw ad C G)) (cw ad C G) 97 [(0, .ref (ad 108)), (1, .int (iI (n + r)))] [] (cw ad C K1) 0 0) → AW l RX6 "carryOut" cX6_carryOut 4 (some .int) (fun _ => True) { frames := 6, cells := 0, slots := 0, locals := 146 } (hvE D (RI ad C (fun r G1 => (¬ synE (bM G) (G 11 6) 102 0 = -1 ∧ r = -10 - synE (bM G) (G 11 6) 102 0 ∧ G1 11 7 = 0 ∧ quiet G G1) ∨ (synE (bM G) (G 11 6) 102 0 = -1 ∧ ∃ H8 H, (∀ y, H8 12 y = G 12 y) ∧ H8 11 13 = 0 ∧ H8 11 8 = 0 ∧ coM (bM G) (G 11 6) 102 H8 r H ∧ (∀ y, G1 12 y = H 12 y) ∧ G1 11 7 = 0 ∧ svR G G1 ∧ sameB (fun x y => quS x y ∨ x = 15 ∨ (x = 11 ∧ y = 4)) G G1))) (cw ad C G) 0 0) D (tyC C) (hvZ T (cw ad C G)) (cw ad C G) 47 [(0, .ref (ad 108)), (1, .int (iI n))] [] (cw ad C K) 0 0 := by
  intro f
  induction f with
  | zero => intro p n K hk hn; exact absurd hn (by omega)
  | succ f ih =>
    intro p n K hk hn hp oN o10 h8 h6 hBK hE hs kO
    have o1 := o.1
    have oK : okX K := by
      refine ⟨by rw [h6]; exact o1, fun k z0 z1 => ?_⟩
      have e9 := congrFun hBK k
      unfold bM at e9
      rw [if_pos z1, if_pos (by omega)] at e9
      rw [e9]
      exact o.2 k z0 (by omega)
    refine aw_aload_n (q := 48) 0 dX6_carryOut_47 rfl rfl rfl ?_
    refine g_mod_at (q := 51) (v := p) (hp) wf_RX6_169 dX6_carryOut_48 rfl ?_
    refine aw_aload_n (q := 52) 0 dX6_carryOut_51 rfl rfl rfl ?_
    refine g_mod_length (q := 55) (v := (G 11 6)) (h6) wf_RX6_166 dX6_carryOut_52 rfl ?_
    refine aw_icmp_ge (q := 58) dX6_carryOut_55 rfl (t := 97) (by decide) (by omega) (by omega) (fun y1 => ?_) (fun y2 => ?_)
    · have e9 := kO 0 K hs (Or.inl ⟨by rw [hp]; omega, rfl, rfl⟩) (by omega)
      rw [Int.add_zero] at e9
      exact e9
    · refine aw_aload_n (q := 59) 0 dX6_carryOut_58 rfl rfl rfl ?_
      refine g_mod_code (q := 62) (v := 0) (h8) wf_RX6_52 dX6_carryOut_59 rfl ?_
      refine aw_if_ne (q := 65) dX6_carryOut_62 rfl (t := 97) (by decide) (by omega) (fun h => absurd h (by omega)) (fun _ => ?_)
      refine aw_aload_n (q := 66) 0 dX6_carryOut_65 rfl rfl rfl ?_
      refine cv_I (q := 69) (CC := "") (id := 108) (As := []) 0 (c_roM (T := T) (D := D) (ad := ad) K oK hp (by omega) (by omega)) (fun _ h => h) (by omega) (cell_108 ad C _) rfl wc_X6_readOrder wm_RX6_203 wi_X6_readOrder ws_X6_readOrder wn_X6 (by decide) rfl ⟨Nat.le_of_ble_eq_true rfl, Nat.le_of_ble_eq_true rfl⟩ ⟨Nat.le_of_ble_eq_true rfl, Nat.le_of_ble_eq_true rfl⟩ (Nat.le_of_ble_eq_true rfl) dX6_carryOut_66 rfl (fun r9 L h9 => ?_)
      have hB : bM K = bM G := hBK
      obtain ⟨fL, h9⟩ := h9
      rw [hB] at h9
      have hE2 : synE (bM G) (G 11 6) (f + 1) p = -1 := hE
      have q0 : okOrd (bM G) p := by
        by_cases z : okOrd (bM G) p
        · exact z
        · exfalso
          have e9 : (if p < G 11 6 then (if okOrd (bM G) p then synE (bM G) (G 11 6) f (nxt (bM G) p) else flt (bM G) p) else -1) = -1 := hE
          rw [if_pos (by omega), if_neg z] at e9
          have b9 := flt_b (bM G) p
          omega
      have hE3 : synE (bM G) (G 11 6) f (nxt (bM G) p) = -1 := by
        have e9 : (if p < G 11 6 then (if okOrd (bM G) p then synE (bM G) (G 11 6) f (nxt (bM G) p) else flt (bM G) p) else -1) = -1 := hE
        rw [if_pos (by omega), if_pos q0] at e9
        exact e9
      rcases h9 with ⟨q1, rfl, q2, q3, q4⟩ | ⟨q1, -, -⟩
      · have oL : okN12 L := okN12_of (G := L) (H := sh K) (i := 12) oN (fun y hy => (fL 12 y (by omega)).trans (sh_ne (by omega)).symm)
        have oX := ordX_of q0 q3 q4
        refine aw_istore_n (q := 70) (lv2 := [(0, .ref (ad 108)), (1, .int (iI n)), (2, .int (iI 1))]) [1, 2, 0] dX6_carryOut_69 rfl rfl (by decide) rfl rfl ?_
        refine aw_aload_n (q := 71) 0 dX6_carryOut_70 rfl rfl rfl ?_
        refine cv_I (q := 74) (CC := "") (id := 108) (As := []) 0 (c_does (T := T) (D := D) (ad := ad) L oX oL (by rw [fL 12 10 (by omega)]; exact o10)) (fun _ h => h) (by omega) (cell_108 ad C _) rfl wc_X6_does wm_RX6_206 wi_X6_does ws_X6_does wn_X6 (by decide) rfl ⟨Nat.le_of_ble_eq_true rfl, Nat.le_of_ble_eq_true rfl⟩ ⟨Nat.le_of_ble_eq_true rfl, Nat.le_of_ble_eq_true rfl⟩ (Nat.le_of_ble_eq_true rfl) dX6_carryOut_71 rfl (fun a9 M h9 => ?_)
        refine aw_istore_n (q := 75) (lv2 := [(0, .ref (ad 108)), (1, .int (iI n)), (2, .int (iI 1)), (3, .int (iI a9))]) [1, 2, 3, 0] dX6_carryOut_74 rfl rfl (by decide) rfl rfl ?_
        have m8 := doesM_8 ((fL 11 8 (by omega)).trans h8) h9
        have fM := doesM_fr h9
        have fK : sameB (fun x y => x = 12 ∨ x = 14 ∨ x = 17 ∨ (x = 11 ∧ y = 8) ∨ roS_ x y) K M := fun x y z => (fM x y (by omega)).trans (fL x y (by omega))
        have pM : M 11 13 = nxt (bM G) p := (fM 11 13 (by omega)).trans q2
        have e8 := okOrd_nxt o (by omega) q0
        by_cases z8 : M 11 8 = 0
        · have oM := doesM_ok oX oL (by rw [fL 12 10 (by omega)]; exact o10) z8 h9
          refine aw_iload_n (q := 76) 1 dX6_carryOut_75 rfl rfl rfl ?_
          refine aw_iload_n (q := 77) 2 dX6_carryOut_76 rfl rfl rfl ?_
          refine aw_if_eq (q := 80) dX6_carryOut_77 rfl (t := 91) (by decide) (by omega) (fun h => absurd h (by omega)) (fun _ => ?_)
          refine aw_aload_n (q := 81) 0 dX6_carryOut_80 rfl rfl rfl ?_
          refine g_mod_code (q := 84) (v := 0) (z8) wf_RX6_52 dX6_carryOut_81 rfl ?_
          refine aw_if_ne (q := 87) dX6_carryOut_84 rfl (t := 91) (by decide) (by omega) (fun h => absurd h (by omega)) (fun _ => ?_)
          refine aw_iconst (q := 88) dX6_carryOut_87 rfl ?_
          refine aw_goto (q := 92) dX6_carryOut_88 (by decide) ?_
          refine ae_iadd (q := 93) (n + 1) (by omega) dX6_carryOut_92 rfl ?_
          refine aw_istore_n (q := 94) (lv2 := [(0, .ref (ad 108)), (1, .int (iI (n + 1))), (2, .int (iI 1)), (3, .int (iI a9))]) [1, 0, 2, 3] dX6_carryOut_93 rfl rfl (by decide) rfl rfl ?_
          refine aw_goto (q := 47) dX6_carryOut_94 (by decide) ?_
          refine aw_sub [0, 1] rfl ?_
          refine ih (nxt (bM G) p) (n + 1) M (by omega) (by omega) pM oM.1 oM.2 z8 ((fK 11 6 (by omega)).trans h6) ((funext (bM_congr (H := M) (G := K) (fK 11 6 (by omega)) (fun y => fK 16 y (by omega)))).trans hB) hE3 (fun x y z => (fK x y z).trans (hs x y z)) (fun r K1 f1 c1 g8 => ?_)
          have e9 := kO (r + 1) K1 f1 (Or.inr ⟨by rw [hp]; omega, L, a9, M, fL, by rw [hp]; exact q3, by rw [hp]; exact q4, by rw [hp]; exact q2, h9, Or.inr ⟨z8, by rw [show r + 1 - 1 = r by omega]; exact c1⟩⟩) g8
          rw [show n + (r + 1) = n + 1 + r by omega] at e9
          exact e9
        · obtain ⟨v8, hv8⟩ : ∃ v, M 11 8 = v := ⟨_, rfl⟩
          refine aw_iload_n (q := 76) 1 dX6_carryOut_75 rfl rfl rfl ?_
          refine aw_iload_n (q := 77) 2 dX6_carryOut_76 rfl rfl rfl ?_
          refine aw_if_eq (q := 80) dX6_carryOut_77 rfl (t := 91) (by decide) (by omega) (fun h => absurd h (by omega)) (fun _ => ?_)
          refine aw_aload_n (q := 81) 0 dX6_carryOut_80 rfl rfl rfl ?_
          refine g_mod_code (q := 84) (v := v8) (hv8) wf_RX6_52 dX6_carryOut_81 rfl ?_
          refine aw_if_ne (q := 87) dX6_carryOut_84 rfl (t := 91) (by decide) (by omega) (fun y501 => ?_) (fun y502 => ?_)
          · refine aw_iconst (q := 92) dX6_carryOut_91 rfl ?_
            refine ae_iadd (q := 93) n (by omega) dX6_carryOut_92 rfl ?_
            refine aw_istore_n (q := 94) (lv2 := [(0, .ref (ad 108)), (1, .int (iI n)), (2, .int (iI 1)), (3, .int (iI a9))]) [1, 0, 2, 3] dX6_carryOut_93 rfl rfl (by decide) rfl rfl ?_
            refine aw_goto (q := 47) dX6_carryOut_94 (by decide) ?_
            refine aw_aload_n (q := 48) 0 dX6_carryOut_47 rfl rfl rfl ?_
            refine g_mod_at (q := 51) (v := (nxt (bM G) p)) (pM) wf_RX6_169 dX6_carryOut_48 rfl ?_
            refine aw_aload_n (q := 52) 0 dX6_carryOut_51 rfl rfl rfl ?_
            refine g_mod_length (q := 55) (v := (G 11 6)) (((fK 11 6 (by omega)).trans h6)) wf_RX6_166 dX6_carryOut_52 rfl ?_
            refine aw_icmp_ge (q := 58) dX6_carryOut_55 rfl (t := 97) (by decide) (by omega) (by omega) (fun y701 => ?_) (fun y702 => ?_)
            · refine aw_sub [0, 1] rfl ?_
              have e9 := kO 0 M (fun x y z => (fK x y z).trans (hs x y z)) (Or.inr ⟨by rw [hp]; omega, L, a9, M, fL, by rw [hp]; exact q3, by rw [hp]; exact q4, by rw [hp]; exact q2, h9, Or.inl ⟨z8, rfl, rfl⟩⟩) (by omega)
              rw [Int.add_zero] at e9
              exact e9
            · refine aw_aload_n (q := 59) 0 dX6_carryOut_58 rfl rfl rfl ?_
              refine g_mod_code (q := 62) (v := v8) (hv8) wf_RX6_52 dX6_carryOut_59 rfl ?_
              refine aw_if_ne (q := 65) dX6_carryOut_62 rfl (t := 97) (by decide) (by omega) (fun y703 => ?_) (fun y704 => ?_)
              · refine aw_sub [0, 1] rfl ?_
                have e9 := kO 0 M (fun x y z => (fK x y z).trans (hs x y z)) (Or.inr ⟨by rw [hp]; omega, L, a9, M, fL, by rw [hp]; exact q3, by rw [hp]; exact q4, by rw [hp]; exact q2, h9, Or.inl ⟨z8, rfl, rfl⟩⟩) (by omega)
                rw [Int.add_zero] at e9
                exact e9
              · exact (by omega : False).elim
          · exact (by omega : False).elim
      · exact absurd q0 q1
set_option maxHeartbeats 4000000 in
set_option maxRecDepth 100000 in
theorem c_carryOutM {l : Launch} {D : va_G} {C : Nat → ClassId} {T : Nat → Nat} {ad : Int → Nat} (G : GG) (o : okX G) (oN : okN12 G) (o10 : 0 ≤ G 12 10 ∧ G 12 10 ≤ 100000) (h4 : 0 ≤ G 11 4 ∧ G 11 4 ≤ 4) : MC l yX6_carryOut cX6_carryOut 4 (some .int) 6 146 0 0 D (tyC C) T [.ref (ad 108)] (cw ad C G) (RI ad C (fun r G1 => (¬ synE (bM G) (G 11 6) 102 0 = -1 ∧ r = -10 - synE (bM G) (G 11 6) 102 0 ∧ G1 11 7 = 0 ∧ quiet G G1) ∨ (synE (bM G) (G 11 6) 102 0 = -1 ∧ ∃ H8 H, (∀ y, H8 12 y = G 12 y) ∧ H8 11 13 = 0 ∧ H8 11 8 = 0 ∧ coM (bM G) (G 11 6) 102 H8 r H ∧ (∀ y, G1 12 y = H 12 y) ∧ G1 11 7 = 0 ∧ svR G G1 ∧ sameB (fun x y => quS x y ∨ x = 15 ∨ (x = 11 ∧ y = 4)) G G1))) := by
  refine mc_of (by decide +kernel) (Nat.le_of_ble_eq_true rfl) rfl ?_
  have o1 := o.1
  refine aw_aload_n (q := 1) 0 dX6_carryOut_0 rfl rfl rfl ?_
  refine aw_iconst (q := 2) dX6_carryOut_1 rfl ?_
  refine p_mod_thrown (q := 5) wf_RX6_38 dX6_carryOut_2 rfl ?_
  refine aw_aload_n (q := 6) 0 dX6_carryOut_5 rfl rfl rfl ?_
  refine aw_iconst (q := 7) dX6_carryOut_6 rfl ?_
  refine p_mod_at (q := 10) wf_RX6_169 dX6_carryOut_7 rfl ?_
  refine L_car1 (l := l) (T := T) (D := D) (C := C) (ad := ad) G o 102 0 _ (by omega) (by omega) (setG_same _ _ _ _) (fun x y z => (setG_ne (by omega)).trans (setG_ne (by omega))) ((setG_ne (by omega)).trans (setG_same _ _ _ _)) rfl (fun K1 hs1 g7 hE => ?_)
  refine aw_aload_n (q := 37) 0 dX6_carryOut_36 rfl rfl rfl ?_
  refine cv_V (q := 40) (CC := "") (id := 108) (As := []) 0 (c_holdM (T := T) (D := D) (ad := ad) K1) (fun _ h => h) (by omega) (cell_108 ad C _) rfl wc_X6_hold wm_RX6_76 wi_X6_hold ws_X6_hold wn_X6 (by decide) rfl ⟨Nat.le_of_ble_eq_true rfl, Nat.le_of_ble_eq_true rfl⟩ ⟨Nat.le_of_ble_eq_true rfl, Nat.le_of_ble_eq_true rfl⟩ (Nat.le_of_ble_eq_true rfl) dX6_carryOut_37 rfl (fun H8 s8 => ?_)
  refine aw_aload_n (q := 41) 0 dX6_carryOut_40 rfl rfl rfl ?_
  refine aw_iconst (q := 42) dX6_carryOut_41 rfl ?_
  refine p_mod_at (q := 45) wf_RX6_169 dX6_carryOut_42 rfl ?_
  refine aw_iconst (q := 46) dX6_carryOut_45 rfl ?_
  refine aw_istore_n (q := 47) (lv2 := [(0, .ref (ad 108)), (1, .int (iI 0))]) [1, 0] dX6_carryOut_46 rfl rfl (by decide) rfl rfl ?_
  obtain ⟨z8, z13, zz⟩ := s8
  obtain ⟨K2, hK2, k13, kz⟩ : ∃ K2 : GG, (setG H8 11 13 0) = K2 ∧ K2 11 13 = 0 ∧ sameB (fun x y => x = 11 ∧ y = 13) H8 K2 := ⟨_, rfl, setG_same _ _ _ _, fun x y z => setG_ne (by omega)⟩
  rw [hK2]
  have z4 : K2 11 4 = G 11 4 := (kz 11 4 (by omega)).trans ((zz 11 4 (by omega)).trans (hs1 11 4 (by omega)))
  have y12 : ∀ y, K2 12 y = G 12 y := fun y => (kz 12 y (by omega)).trans ((zz 12 y (by omega)).trans (hs1 12 y (by omega)))
  have y16 : ∀ y, K2 16 y = G 16 y := fun y => (kz 16 y (by omega)).trans ((zz 16 y (by omega)).trans (hs1 16 y (by omega)))
  have y6 : K2 11 6 = G 11 6 := (kz 11 6 (by omega)).trans ((zz 11 6 (by omega)).trans (hs1 11 6 (by omega)))
  have y8 : K2 11 8 = 0 := (kz 11 8 (by omega)).trans z8
  refine L_car2 (l := l) (T := T) (D := D) (C := C) (ad := ad) G o K2 102 0 0 K2 (by omega) (by omega) k13 (okN12_of (G := K2) (H := sh G) (i := 12) oN (fun y hy => (y12 y).trans (sh_ne (by omega)).symm)) (by rw [y12]; exact o10) y8 y6 (funext (bM_congr (H := K2) (G := G) y6 y16)) hE (fun _ _ _ => rfl) (fun r K9 fK c9 b9 => ?_)
  rw [show (0 : Int) + r = r by omega]
  refine aw_aload_n (q := 98) 0 dX6_carryOut_97 rfl rfl rfl ?_
  refine aw_iconst (q := 99) dX6_carryOut_98 rfl ?_
  refine p_mod_code (q := 102) wf_RX6_52 dX6_carryOut_99 rfl ?_
  refine aw_aload_n (q := 103) 0 dX6_carryOut_102 rfl rfl rfl ?_
  refine aw_iload_n (q := 104) 1 dX6_carryOut_103 rfl rfl rfl ?_
  refine cv_I (q := 107) (CC := "") (id := 108) (As := [.int (iI r)]) 1 (c_ends (T := T) (D := D) (ad := ad) (setG K9 11 8 0) (a := r) (by rw [show (setG K9 11 8 0) 11 4 = G 11 4 from (setG_ne (by omega)).trans ((fK 11 4 (by omega)).trans z4)]; omega) (by rw [setG_same]; omega)) (fun _ h => h) (by omega) (cell_108 ad C _) rfl wc_X6_ends wm_RX6_85 wi_X6_ends ws_X6_ends wn_X6 (by decide) rfl ⟨Nat.le_of_ble_eq_true rfl, Nat.le_of_ble_eq_true rfl⟩ ⟨Nat.le_of_ble_eq_true rfl, Nat.le_of_ble_eq_true rfl⟩ (Nat.le_of_ble_eq_true rfl) dX6_carryOut_104 rfl (fun rA HA hA => ?_)
  exact rt_i rfl (Nat.le_refl _) (Nat.le_refl _) (by
      have hh : ∀ x y, ¬ (x = 12 ∨ x = 13 ∨ x = 14 ∨ x = 17 ∨ x = 18 ∨ x = 11) → K9 x y = G x y := fun x y z => (fK x y (by omega)).trans ((kz x y (by omega)).trans ((zz x y (by omega)).trans (hs1 x y (by omega))))
      have a13 : ∀ y : Int, 0 ≤ y → y < 311 → K9 13 y = G 12 y := fun y z0 z1 => (fK 13 y (by omega)).trans ((kz 13 y (by omega)).trans ((z13 y z0 z1).trans (hs1 12 y (by omega))))
      rcases hA with ⟨b1, -, -⟩ | ⟨b1, b2, b3, b4, b5⟩
      · exact absurd (setG_same _ _ _ _) b1
      · refine Or.inr ⟨hE, K2, K9, y12, k13, y8, by rw [b2]; exact c9, fun y => (b5 12 y (by omega)).trans (setG_ne (by omega)), b3, ?_, fun x y z => ?_⟩
        · obtain ⟨d, n, c1, c2, c3, c4⟩ := b4
          have e4 : setG K9 11 8 0 11 4 = G 11 4 := (setG_ne (by omega)).trans ((fK 11 4 (by omega)).trans z4)
          refine ⟨d, n, by omega, c2, fun y z0 z1 => ?_, fun k y z0 z1 z2 z3 => ?_⟩
          · rw [c3 y z0 z1, setG_ne (by omega), a13 y z0 z1]
          · rw [c4 k y z0 z1 z2 z3, setG_ne (by omega), hh 15 _ (by omega)]
        · by_cases e : x = 11
          · have e6 : y = 6 := by omega
            rw [e, e6]
            exact (b5 11 6 (by omega)).trans ((setG_ne (by omega)).trans ((fK 11 6 (by omega)).trans y6))
          · exact (b5 x y (by omega)).trans ((setG_ne (by omega)).trans (hh x y (by omega)))) dX6_carryOut_107
