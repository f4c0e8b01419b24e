/-! class CoilPricesModel: tubes and promises -/
def shG (H : GG) (k : Int) : GG := fun x y => if x = 12 ∧ 111 ≤ y ∧ y < 111 + k then H 12 (y + 1) else H x y
theorem shG_0 (H : GG) : shG H 0 = H := by
  funext x y
  unfold shG
  rw [if_neg (by omega)]
theorem shG_ne {H : GG} {k x y : Int} (h : ¬ (x = 12 ∧ 111 ≤ y ∧ y < 111 + k)) : shG H k x y = H x y := if_neg h
theorem shG_in {H : GG} {k y : Int} (h : 111 ≤ y ∧ y < 111 + k) : shG H k 12 y = H 12 (y + 1) := if_pos ⟨rfl, h⟩
theorem shG_succ (H : GG) {k : Int} (hk : 0 ≤ k) : setG (shG H k) 12 (111 + k) (H 12 (112 + k)) = shG H (k + 1) := by
  funext x y
  unfold setG shG
  by_cases h : x = 12 ∧ y = 111 + k
  · rw [if_pos h, if_pos (by omega), h.2]
    congr 1
    omega
  · rw [if_neg h]
    by_cases h2 : x = 12 ∧ 111 ≤ y ∧ y < 111 + k
    · rw [if_pos h2, if_pos (by omega)]
    · rw [if_neg h2, if_neg (by omega)]
abbrev kmS : Int → Int → Prop := fun x y => (x = 12 ∧ ((5 ≤ y ∧ y < 9) ∨ y = 11 ∨ y = 14 ∨ (111 ≤ y ∧ y < 311))) ∨ (x = 17 ∧ 0 ≤ y ∧ y < 4)
def keepM (G : GG) (r : Int × Int × Int × Int × Int) (G1 : GG) : Prop := G1 12 5 = r.2.1 ∧ G1 12 6 = r.2.2.1 ∧ G1 12 7 = r.2.2.2.1 ∧ G1 12 8 = r.2.2.2.2 ∧ G1 12 14 = G 12 14 - r.1 ∧ G1 12 11 = G 12 11 + sumQ (prm G 12) r.1.toNat ∧ (∀ m : Int, 0 ≤ m → m < G 12 14 - r.1 → G1 12 (111 + m) = G 12 (111 + r.1 + m)) ∧ sameB kmS G G1
def kmI (G : GG) (j t0 t1 t2 t3 : Int) (K : GG) : Prop := K 12 5 = t0 ∧ K 12 6 = t1 ∧ K 12 7 = t2 ∧ K 12 8 = t3 ∧ K 12 14 = G 12 14 - j ∧ K 12 11 = G 12 11 + sumQ (prm G 12) j.toNat ∧ (∀ m : Int, 0 ≤ m → m < G 12 14 - j → K 12 (111 + m) = G 12 (111 + j + m)) ∧ sameB kmS G K
def tkM (G G1 : GG) : Prop := G1 12 5 = G 12 5 - G 17 0 ∧ G1 12 6 = G 12 6 - G 17 1 ∧ G1 12 7 = G 12 7 - G 17 2 ∧ G1 12 8 = G 12 8 - G 17 3 ∧ sameB (fun x y => x = 12 ∧ 5 ≤ y ∧ y < 9) G G1
set_option maxHeartbeats 4000000 in
set_option maxRecDepth 100000 in
theorem c_takes {l : Launch} {D : va_G} {C : Nat → ClassId} {T : Nat → Nat} {ad : Int → Nat} (G : GG)  : MC l yX6_takes cX6_takes 2 none 0 0 0 0 D (tyC C) T [.ref (ad 108)] (cw ad C G) (RV ad C (tkM G)) := by
  refine mc_of (by decide +kernel) (Nat.le_of_ble_eq_true rfl) rfl ?_
  refine aw_iconst (q := 1) dX6_takes_0 rfl ?_
  refine aw_istore_n (q := 2) (lv2 := [(0, .ref (ad 108)), (1, .int (iI 0))]) [1, 0] dX6_takes_1 rfl rfl (by decide) rfl rfl ?_
  refine aw_iload_n (q := 3) 1 dX6_takes_2 rfl rfl rfl ?_
  refine aw_iconst (q := 4) dX6_takes_3 rfl ?_
  refine aw_icmp_ge (q := 7) dX6_takes_4 rfl (t := 30) (by decide) (by omega) (by omega) (fun h => absurd h (by omega)) (fun _ => ?_)
  refine aw_aload_n (q := 8) 0 dX6_takes_7 rfl rfl rfl ?_
  refine g_mod_p (q := 11) wf_RX6_7 dX6_takes_8 rfl ?_
  refine aw_iconst (q := 12) dX6_takes_11 rfl ?_
  refine aw_iload_n (q := 13) 1 dX6_takes_12 rfl rfl rfl ?_
  refine ae_iadd (q := 14) 5 (by omega) dX6_takes_13 rfl ?_
  refine aw_dup2 (q := 15) dX6_takes_14 rfl rfl rfl ?_
  refine aw_cial (q := 16) (v := (G 12 5)) 5 (ar_109 ad C) (by omega) (by omega) rfl dX6_takes_15 rfl ?_
  refine aw_aload_n (q := 17) 0 dX6_takes_16 rfl rfl rfl ?_
  refine g_mod_coins (q := 20) wf_RX6_25 dX6_takes_17 rfl ?_
  refine aw_iload_n (q := 21) 1 dX6_takes_20 rfl rfl rfl ?_
  refine aw_cial (q := 22) (v := (G 17 0)) 0 (ar_114 ad C) (by omega) (by omega) rfl dX6_takes_21 rfl ?_
  refine ae_isub (q := 23) ((G 12 5) - (G 17 0)) (by omega) dX6_takes_22 rfl ?_
  refine aw_cias (q := 24) 5 (ar_109 ad C) (by omega) (by omega) dX6_takes_23 rfl ?_
  refine ae_iinc (q := 27) (lv2 := [(0, .ref (ad 108)), (1, .int (iI 1))]) 1 [1, 0] 1 (by omega) dX6_takes_24 rfl rfl (by decide) rfl ?_
  refine aw_goto (q := 2) dX6_takes_27 (by decide) ?_
  refine aw_iload_n (q := 3) 1 dX6_takes_2 rfl rfl rfl ?_
  refine aw_iconst (q := 4) dX6_takes_3 rfl ?_
  refine aw_icmp_ge (q := 7) dX6_takes_4 rfl (t := 30) (by decide) (by omega) (by omega) (fun h => absurd h (by omega)) (fun _ => ?_)
  refine aw_aload_n (q := 8) 0 dX6_takes_7 rfl rfl rfl ?_
  refine g_mod_p (q := 11) wf_RX6_7 dX6_takes_8 rfl ?_
  refine aw_iconst (q := 12) dX6_takes_11 rfl ?_
  refine aw_iload_n (q := 13) 1 dX6_takes_12 rfl rfl rfl ?_
  refine ae_iadd (q := 14) 6 (by omega) dX6_takes_13 rfl ?_
  refine aw_dup2 (q := 15) dX6_takes_14 rfl rfl rfl ?_
  refine aw_cial (q := 16) (v := (G 12 6)) 6 (ar_109 ad C) (by omega) (by omega) (setG_ne (by omega)) dX6_takes_15 rfl ?_
  refine aw_aload_n (q := 17) 0 dX6_takes_16 rfl rfl rfl ?_
  refine g_mod_coins (q := 20) wf_RX6_25 dX6_takes_17 rfl ?_
  refine aw_iload_n (q := 21) 1 dX6_takes_20 rfl rfl rfl ?_
  refine aw_cial (q := 22) (v := (G 17 1)) 1 (ar_114 ad C) (by omega) (by omega) (setG_ne (by omega)) dX6_takes_21 rfl ?_
  refine ae_isub (q := 23) ((G 12 6) - (G 17 1)) (by omega) dX6_takes_22 rfl ?_
  refine aw_cias (q := 24) 6 (ar_109 ad C) (by omega) (by omega) dX6_takes_23 rfl ?_
  refine ae_iinc (q := 27) (lv2 := [(0, .ref (ad 108)), (1, .int (iI 2))]) 1 [1, 0] 2 (by omega) dX6_takes_24 rfl rfl (by decide) rfl ?_
  refine aw_goto (q := 2) dX6_takes_27 (by decide) ?_
  refine aw_iload_n (q := 3) 1 dX6_takes_2 rfl rfl rfl ?_
  refine aw_iconst (q := 4) dX6_takes_3 rfl ?_
  refine aw_icmp_ge (q := 7) dX6_takes_4 rfl (t := 30) (by decide) (by omega) (by omega) (fun h => absurd h (by omega)) (fun _ => ?_)
  refine aw_aload_n (q := 8) 0 dX6_takes_7 rfl rfl rfl ?_
  refine g_mod_p (q := 11) wf_RX6_7 dX6_takes_8 rfl ?_
  refine aw_iconst (q := 12) dX6_takes_11 rfl ?_
  refine aw_iload_n (q := 13) 1 dX6_takes_12 rfl rfl rfl ?_
  refine ae_iadd (q := 14) 7 (by omega) dX6_takes_13 rfl ?_
  refine aw_dup2 (q := 15) dX6_takes_14 rfl rfl rfl ?_
  refine aw_cial (q := 16) (v := (G 12 7)) 7 (ar_109 ad C) (by omega) (by omega) ((setG_ne (by omega)).trans (setG_ne (by omega))) dX6_takes_15 rfl ?_
  refine aw_aload_n (q := 17) 0 dX6_takes_16 rfl rfl rfl ?_
  refine g_mod_coins (q := 20) wf_RX6_25 dX6_takes_17 rfl ?_
  refine aw_iload_n (q := 21) 1 dX6_takes_20 rfl rfl rfl ?_
  refine aw_cial (q := 22) (v := (G 17 2)) 2 (ar_114 ad C) (by omega) (by omega) ((setG_ne (by omega)).trans (setG_ne (by omega))) dX6_takes_21 rfl ?_
  refine ae_isub (q := 23) ((G 12 7) - (G 17 2)) (by omega) dX6_takes_22 rfl ?_
  refine aw_cias (q := 24) 7 (ar_109 ad C) (by omega) (by omega) dX6_takes_23 rfl ?_
  refine ae_iinc (q := 27) (lv2 := [(0, .ref (ad 108)), (1, .int (iI 3))]) 1 [1, 0] 3 (by omega) dX6_takes_24 rfl rfl (by decide) rfl ?_
  refine aw_goto (q := 2) dX6_takes_27 (by decide) ?_
  refine aw_iload_n (q := 3) 1 dX6_takes_2 rfl rfl rfl ?_
  refine aw_iconst (q := 4) dX6_takes_3 rfl ?_
  refine aw_icmp_ge (q := 7) dX6_takes_4 rfl (t := 30) (by decide) (by omega) (by omega) (fun h => absurd h (by omega)) (fun _ => ?_)
  refine aw_aload_n (q := 8) 0 dX6_takes_7 rfl rfl rfl ?_
  refine g_mod_p (q := 11) wf_RX6_7 dX6_takes_8 rfl ?_
  refine aw_iconst (q := 12) dX6_takes_11 rfl ?_
  refine aw_iload_n (q := 13) 1 dX6_takes_12 rfl rfl rfl ?_
  refine ae_iadd (q := 14) 8 (by omega) dX6_takes_13 rfl ?_
  refine aw_dup2 (q := 15) dX6_takes_14 rfl rfl rfl ?_
  refine aw_cial (q := 16) (v := (G 12 8)) 8 (ar_109 ad C) (by omega) (by omega) ((setG_ne (by omega)).trans ((setG_ne (by omega)).trans (setG_ne (by omega)))) dX6_takes_15 rfl ?_
  refine aw_aload_n (q := 17) 0 dX6_takes_16 rfl rfl rfl ?_
  refine g_mod_coins (q := 20) wf_RX6_25 dX6_takes_17 rfl ?_
  refine aw_iload_n (q := 21) 1 dX6_takes_20 rfl rfl rfl ?_
  refine aw_cial (q := 22) (v := (G 17 3)) 3 (ar_114 ad C) (by omega) (by omega) ((setG_ne (by omega)).trans ((setG_ne (by omega)).trans (setG_ne (by omega)))) dX6_takes_21 rfl ?_
  refine ae_isub (q := 23) ((G 12 8) - (G 17 3)) (by omega) dX6_takes_22 rfl ?_
  refine aw_cias (q := 24) 8 (ar_109 ad C) (by omega) (by omega) dX6_takes_23 rfl ?_
  refine ae_iinc (q := 27) (lv2 := [(0, .ref (ad 108)), (1, .int (iI 4))]) 1 [1, 0] 4 (by omega) dX6_takes_24 rfl rfl (by decide) rfl ?_
  refine aw_goto (q := 2) dX6_takes_27 (by decide) ?_
  refine aw_iload_n (q := 3) 1 dX6_takes_2 rfl rfl rfl ?_
  refine aw_iconst (q := 4) dX6_takes_3 rfl ?_
  refine aw_icmp_ge (q := 7) dX6_takes_4 rfl (t := 30) (by decide) (by omega) (by omega) (fun _ => ?_) (fun h => absurd h (by omega))
  exact rt_v rfl (Nat.le_refl _) (Nat.le_refl _) (⟨((((setG_ne (by omega)).trans ((setG_ne (by omega)).trans ((setG_ne (by omega)).trans (setG_same _ _ _ _)))) : _ = (G 12 5) - (G 17 0)).trans (by omega)), ((((setG_ne (by omega)).trans ((setG_ne (by omega)).trans (setG_same _ _ _ _))) : _ = (G 12 6) - (G 17 1)).trans (by omega)), ((((setG_ne (by omega)).trans (setG_same _ _ _ _)) : _ = (G 12 7) - (G 17 2)).trans (by omega)), (((setG_same _ _ _ _) : _ = (G 12 8) - (G 17 3)).trans (by omega)), (fun x y z => ((setG_ne (by omega)).trans ((setG_ne (by omega)).trans ((setG_ne (by omega)).trans (setG_ne (by omega))))))⟩) dX6_takes_30
set_option maxHeartbeats 4000000 in
set_option maxRecDepth 100000 in
theorem L_owed {l : Launch} {D : va_G} {C : Nat → ClassId} {T : Nat → Nat} {ad : Int → Nat} (G : GG) (h14 : 0 ≤ G 12 14 ∧ G 12 14 ≤ 200) : ∀ (n : Nat) (k : Int), (0 ≤ k ∧ k ≤ G 12 14) → G 12 14 - k < n → AW l RX6 "owed" cX6_owed 3 (some .int) (fun _ => True) { frames := 0, cells := 0, slots := 0, locals := 0 } (hvE D (RI ad C (fun r G1 => r = sumQ (prm G 12) (G 12 14).toNat ∧ G1 = G)) (cw ad C G) 0 0) D (tyC C) (hvZ T (cw ad C G)) (cw ad C G) 4 [(0, .ref (ad 108)), (1, .int (iI ((sumQ (prm G 12) k.toNat)))), (2, .int (iI k))] [] (cw ad C G) 0 0 := by
  intro n
  induction n with
  | zero => intro k hk hn; exact absurd hn (by omega)
  | succ n ih =>
    intro k hk hn
    refine aw_iload_n (q := 5) 2 dX6_owed_4 rfl rfl rfl ?_
    refine aw_aload_n (q := 6) 0 dX6_owed_5 rfl rfl rfl ?_
    refine g_mod_p (q := 9) wf_RX6_7 dX6_owed_6 rfl ?_
    refine aw_bipush (q := 11) dX6_owed_9 rfl (by decide) ?_
    refine aw_cial (q := 12) (v := (G 12 14)) 14 (ar_109 ad C) (by omega) (by omega) rfl dX6_owed_11 rfl ?_
    refine aw_icmp_ge (q := 15) dX6_owed_12 rfl (t := 33) (by decide) (by omega) (by omega) (fun y1 => ?_) (fun y2 => ?_)
    · refine aw_iload_n (q := 34) 1 dX6_owed_33 rfl rfl rfl ?_
      exact rt_i rfl (Nat.le_refl _) (Nat.le_refl _) (⟨by rw [show k = G 12 14 by omega], rfl⟩) dX6_owed_34
    · refine aw_iload_n (q := 16) 1 dX6_owed_15 rfl rfl rfl ?_
      refine aw_aload_n (q := 17) 0 dX6_owed_16 rfl rfl rfl ?_
      refine g_mod_p (q := 20) wf_RX6_7 dX6_owed_17 rfl ?_
      refine aw_bipush (q := 22) dX6_owed_20 rfl (by decide) ?_
      refine aw_iload_n (q := 23) 2 dX6_owed_22 rfl rfl rfl ?_
      refine ae_iadd (q := 24) (111 + k) (by omega) dX6_owed_23 rfl ?_
      refine aw_cial (q := 25) (v := (G 12 (111 + k))) (111 + k) (ar_109 ad C) (by omega) (by omega) rfl dX6_owed_24 rfl ?_
      refine ae_iadd (q := 26) ((sumQ (prm G 12) k.toNat) + (G 12 (111 + k))) (by omega) dX6_owed_25 rfl ?_
      refine aw_istore_n (q := 27) (lv2 := [(0, .ref (ad 108)), (1, .int (iI ((sumQ (prm G 12) k.toNat) + (G 12 (111 + k))))), (2, .int (iI k))]) [1, 0, 2] dX6_owed_26 rfl rfl (by decide) rfl rfl ?_
      refine ae_iinc (q := 30) (lv2 := [(0, .ref (ad 108)), (1, .int (iI ((sumQ (prm G 12) k.toNat) + (G 12 (111 + k))))), (2, .int (iI (k + 1)))]) 2 [1, 2, 0] (k + 1) (by omega) dX6_owed_27 rfl rfl (by decide) rfl ?_
      refine aw_goto (q := 4) dX6_owed_30 (by decide) ?_
      have h9 := ih (k + 1) (by omega) (by omega)
      rw [sumQ_succ _ hk.1] at h9
      exact h9
set_option maxHeartbeats 4000000 in
set_option maxRecDepth 100000 in
theorem c_owed {l : Launch} {D : va_G} {C : Nat → ClassId} {T : Nat → Nat} {ad : Int → Nat} (G : GG) (h14 : 0 ≤ G 12 14 ∧ G 12 14 ≤ 200) : MC l yX6_owed cX6_owed 3 (some .int) 0 0 0 0 D (tyC C) T [.ref (ad 108)] (cw ad C G) (RI ad C (fun r G1 => r = sumQ (prm G 12) (G 12 14).toNat ∧ G1 = G)) := by
  refine mc_of (by decide +kernel) (Nat.le_of_ble_eq_true rfl) rfl ?_
  refine aw_iconst (q := 1) dX6_owed_0 rfl ?_
  refine aw_istore_n (q := 2) (lv2 := [(0, .ref (ad 108)), (1, .int (iI 0))]) [1, 0] dX6_owed_1 rfl rfl (by decide) rfl rfl ?_
  refine aw_iconst (q := 3) dX6_owed_2 rfl ?_
  refine aw_istore_n (q := 4) (lv2 := [(0, .ref (ad 108)), (1, .int (iI 0)), (2, .int (iI 0))]) [1, 2, 0] dX6_owed_3 rfl rfl (by decide) rfl rfl ?_
  exact L_owed (l := l) (D := D) (T := T) (C := C) (ad := ad) G h14 201 0 (by omega) (by omega)
set_option maxHeartbeats 4000000 in
set_option maxRecDepth 100000 in
theorem c_worthM0 {l : Launch} {D : va_G} {C : Nat → ClassId} {T : Nat → Nat} {ad : Int → Nat} (G : GG)  : MC l yX6_worth cX6_worth 1 (some .int) 0 0 0 0 D (tyC C) T [.int (iI 0)] (cw ad C G) (RI ad C (fun r G1 => r = 5 ∧ G1 = G)) := by
  refine mc_of (by decide +kernel) (Nat.le_of_ble_eq_true rfl) rfl ?_
  refine aw_iload_n (q := 1) 0 dX6_worth_0 rfl rfl rfl ?_
  refine aw_if_ne (q := 4) dX6_worth_1 rfl (t := 8) (by decide) (by omega) (fun h => absurd h (by omega)) (fun _ => ?_)
  refine aw_iconst (q := 5) dX6_worth_4 rfl ?_
  refine aw_goto (q := 30) dX6_worth_5 (by decide) ?_
  exact rt_i rfl (Nat.le_refl _) (Nat.le_refl _) (⟨rfl, rfl⟩) dX6_worth_30
set_option maxHeartbeats 4000000 in
set_option maxRecDepth 100000 in
theorem c_worthM1 {l : Launch} {D : va_G} {C : Nat → ClassId} {T : Nat → Nat} {ad : Int → Nat} (G : GG)  : MC l yX6_worth cX6_worth 1 (some .int) 0 0 0 0 D (tyC C) T [.int (iI 1)] (cw ad C G) (RI ad C (fun r G1 => r = 10 ∧ G1 = G)) := by
  refine mc_of (by decide +kernel) (Nat.le_of_ble_eq_true rfl) rfl ?_
  refine aw_iload_n (q := 1) 0 dX6_worth_0 rfl rfl rfl ?_
  refine aw_if_ne (q := 4) dX6_worth_1 rfl (t := 8) (by decide) (by omega) (fun _ => ?_) (fun h => absurd h (by omega))
  refine aw_iload_n (q := 9) 0 dX6_worth_8 rfl rfl rfl ?_
  refine aw_iconst (q := 10) dX6_worth_9 rfl ?_
  refine aw_icmp_ne (q := 13) dX6_worth_10 rfl (t := 18) (by decide) (by omega) (by omega) (fun h => absurd h (by omega)) (fun _ => ?_)
  refine aw_bipush (q := 15) dX6_worth_13 rfl (by decide) ?_
  refine aw_goto (q := 30) dX6_worth_15 (by decide) ?_
  exact rt_i rfl (Nat.le_refl _) (Nat.le_refl _) (⟨rfl, rfl⟩) dX6_worth_30
set_option maxHeartbeats 4000000 in
set_option maxRecDepth 100000 in
theorem c_worthM2 {l : Launch} {D : va_G} {C : Nat → ClassId} {T : Nat → Nat} {ad : Int → Nat} (G : GG)  : MC l yX6_worth cX6_worth 1 (some .int) 0 0 0 0 D (tyC C) T [.int (iI 2)] (cw ad C G) (RI ad C (fun r G1 => r = 20 ∧ G1 = G)) := by
  refine mc_of (by decide +kernel) (Nat.le_of_ble_eq_true rfl) rfl ?_
  refine aw_iload_n (q := 1) 0 dX6_worth_0 rfl rfl rfl ?_
  refine aw_if_ne (q := 4) dX6_worth_1 rfl (t := 8) (by decide) (by omega) (fun _ => ?_) (fun h => absurd h (by omega))
  refine aw_iload_n (q := 9) 0 dX6_worth_8 rfl rfl rfl ?_
  refine aw_iconst (q := 10) dX6_worth_9 rfl ?_
  refine aw_icmp_ne (q := 13) dX6_worth_10 rfl (t := 18) (by decide) (by omega) (by omega) (fun _ => ?_) (fun h => absurd h (by omega))
  refine aw_iload_n (q := 19) 0 dX6_worth_18 rfl rfl rfl ?_
  refine aw_iconst (q := 20) dX6_worth_19 rfl ?_
  refine aw_icmp_ne (q := 23) dX6_worth_20 rfl (t := 28) (by decide) (by omega) (by omega) (fun h => absurd h (by omega)) (fun _ => ?_)
  refine aw_bipush (q := 25) dX6_worth_23 rfl (by decide) ?_
  refine aw_goto (q := 30) dX6_worth_25 (by decide) ?_
  exact rt_i rfl (Nat.le_refl _) (Nat.le_refl _) (⟨rfl, rfl⟩) dX6_worth_30
set_option maxHeartbeats 4000000 in
set_option maxRecDepth 100000 in
theorem c_worthM3 {l : Launch} {D : va_G} {C : Nat → ClassId} {T : Nat → Nat} {ad : Int → Nat} (G : GG)  : MC l yX6_worth cX6_worth 1 (some .int) 0 0 0 0 D (tyC C) T [.int (iI 3)] (cw ad C G) (RI ad C (fun r G1 => r = 50 ∧ G1 = G)) := by
  refine mc_of (by decide +kernel) (Nat.le_of_ble_eq_true rfl) rfl ?_
  refine aw_iload_n (q := 1) 0 dX6_worth_0 rfl rfl rfl ?_
  refine aw_if_ne (q := 4) dX6_worth_1 rfl (t := 8) (by decide) (by omega) (fun _ => ?_) (fun h => absurd h (by omega))
  refine aw_iload_n (q := 9) 0 dX6_worth_8 rfl rfl rfl ?_
  refine aw_iconst (q := 10) dX6_worth_9 rfl ?_
  refine aw_icmp_ne (q := 13) dX6_worth_10 rfl (t := 18) (by decide) (by omega) (by omega) (fun _ => ?_) (fun h => absurd h (by omega))
  refine aw_iload_n (q := 19) 0 dX6_worth_18 rfl rfl rfl ?_
  refine aw_iconst (q := 20) dX6_worth_19 rfl ?_
  refine aw_icmp_ne (q := 23) dX6_worth_20 rfl (t := 28) (by decide) (by omega) (by omega) (fun _ => ?_) (fun h => absurd h (by omega))
  refine aw_bipush (q := 30) dX6_worth_28 rfl (by decide) ?_
  exact rt_i rfl (Nat.le_refl _) (Nat.le_refl _) (⟨rfl, rfl⟩) dX6_worth_30
def putsG (G : GG) (t w v : Int) : GG := setG (setG G 12 (5 + t) (G 12 (5 + t) + min v (30 - G 12 (5 + t)))) 12 9 (G 12 9 + (v - min v (30 - G 12 (5 + t))) * w)
theorem putsG_of {G : GG} {t w v a A B : Int} (ha : a = 5 + t) (h1 : A = G 12 a + min v (30 - G 12 a)) (h2 : B = G 12 9 + (v - min v (30 - G 12 a)) * w) : setG (setG G 12 a A) 12 9 B = putsG G t w v := by
  subst ha h1 h2
  rfl
set_option maxHeartbeats 4000000 in
set_option maxRecDepth 100000 in
theorem c_puts0 {l : Launch} {D : va_G} {C : Nat → ClassId} {T : Nat → Nat} {ad : Int → Nat} (G : GG) {v : Int} (hv : 0 ≤ v ∧ v ≤ 9) (ht : 0 ≤ G 12 5 ∧ G 12 5 ≤ 30) : MC l yX6_puts cX6_puts 4 none 1 20 0 0 D (tyC C) T [.ref (ad 108), .int (iI 0), .int (iI v)] (cw ad C G) (RV ad C (fun G1 => G1 = putsG G 0 5 v)) := by
  refine mc_of (by decide +kernel) (Nat.le_of_ble_eq_true rfl) rfl ?_
  refine aw_bipush (q := 2) dX6_puts_0 rfl (by decide) ?_
  refine aw_aload_n (q := 3) 0 dX6_puts_2 rfl rfl rfl ?_
  refine g_mod_p (q := 6) wf_RX6_7 dX6_puts_3 rfl ?_
  refine aw_iconst (q := 7) dX6_puts_6 rfl ?_
  refine aw_iload_n (q := 8) 1 dX6_puts_7 rfl rfl rfl ?_
  refine ae_iadd (q := 9) 5 (by omega) dX6_puts_8 rfl ?_
  refine aw_cial (q := 10) (v := (G 12 5)) 5 (ar_109 ad C) (by omega) (by omega) rfl dX6_puts_9 rfl ?_
  refine ae_isub (q := 11) (30 - (G 12 5)) (by omega) dX6_puts_10 rfl ?_
  refine aw_iload_n (q := 12) 2 dX6_puts_11 rfl rfl rfl ?_
  refine aw_icmp_ge (q := 15) dX6_puts_12 rfl (t := 29) (by decide) (by omega) (by omega) (fun y1 => ?_) (fun y2 => ?_)
  · refine aw_iload_n (q := 30) 2 dX6_puts_29 rfl rfl rfl ?_
    refine aw_istore_n (q := 31) (lv2 := [(0, .ref (ad 108)), (1, .int (iI 0)), (2, .int (iI v)), (3, .int (iI v))]) [1, 2, 3, 0] dX6_puts_30 rfl rfl (by decide) rfl rfl ?_
    refine aw_aload_n (q := 32) 0 dX6_puts_31 rfl rfl rfl ?_
    refine g_mod_p (q := 35) wf_RX6_7 dX6_puts_32 rfl ?_
    refine aw_iconst (q := 36) dX6_puts_35 rfl ?_
    refine aw_iload_n (q := 37) 1 dX6_puts_36 rfl rfl rfl ?_
    refine ae_iadd (q := 38) 5 (by omega) dX6_puts_37 rfl ?_
    refine aw_dup2 (q := 39) dX6_puts_38 rfl rfl rfl ?_
    refine aw_cial (q := 40) (v := (G 12 5)) 5 (ar_109 ad C) (by omega) (by omega) rfl dX6_puts_39 rfl ?_
    refine aw_iload_n (q := 41) 3 dX6_puts_40 rfl rfl rfl ?_
    refine ae_iadd (q := 42) ((G 12 5) + v) (by omega) dX6_puts_41 rfl ?_
    refine aw_cias (q := 43) 5 (ar_109 ad C) (by omega) (by omega) dX6_puts_42 rfl ?_
    refine aw_aload_n (q := 44) 0 dX6_puts_43 rfl rfl rfl ?_
    refine g_mod_p (q := 47) wf_RX6_7 dX6_puts_44 rfl ?_
    refine aw_bipush (q := 49) dX6_puts_47 rfl (by decide) ?_
    refine aw_dup2 (q := 50) dX6_puts_49 rfl rfl rfl ?_
    refine aw_cial (q := 51) (v := (G 12 9)) 9 (ar_109 ad C) (by omega) (by omega) (setG_ne (by omega)) dX6_puts_50 rfl ?_
    refine aw_iload_n (q := 52) 2 dX6_puts_51 rfl rfl rfl ?_
    refine aw_iload_n (q := 53) 3 dX6_puts_52 rfl rfl rfl ?_
    refine ae_isub (q := 54) 0 (by omega) dX6_puts_53 rfl ?_
    refine aw_iload_n (q := 55) 1 dX6_puts_54 rfl rfl rfl ?_
    refine cs_I (q := 58) (As := [.int (iI 0)]) 1 (c_worthM0 (T := T) (D := D) (ad := ad) (setG G 12 5 ((G 12 5) + v))) (fun _ h => h) wc_X6_worth wm_RX6_72 wt_X6_worth wn_X6 (by decide) rfl ⟨Nat.le_of_ble_eq_true rfl, Nat.le_of_ble_eq_true rfl⟩ ⟨Nat.le_of_ble_eq_true rfl, Nat.le_of_ble_eq_true rfl⟩ (Nat.le_of_ble_eq_true rfl) dX6_puts_55 rfl (fun r9 G9 h9 => ?_)
    rw [h9.1, h9.2]
    refine ae_imul (q := 59) 0 (by omega) dX6_puts_58 rfl ?_
    refine ae_iadd (q := 60) (G 12 9) (by omega) dX6_puts_59 rfl ?_
    refine aw_cias (q := 61) 9 (ar_109 ad C) (by omega) (by omega) dX6_puts_60 rfl ?_
    exact rt_v rfl (Nat.le_refl _) (Nat.le_refl _) (putsG_of (t := 0) (w := 5) (by omega) (by omega) (by omega)) dX6_puts_61
  · refine aw_bipush (q := 17) dX6_puts_15 rfl (by decide) ?_
    refine aw_aload_n (q := 18) 0 dX6_puts_17 rfl rfl rfl ?_
    refine g_mod_p (q := 21) wf_RX6_7 dX6_puts_18 rfl ?_
    refine aw_iconst (q := 22) dX6_puts_21 rfl ?_
    refine aw_iload_n (q := 23) 1 dX6_puts_22 rfl rfl rfl ?_
    refine ae_iadd (q := 24) 5 (by omega) dX6_puts_23 rfl ?_
    refine aw_cial (q := 25) (v := (G 12 5)) 5 (ar_109 ad C) (by omega) (by omega) rfl dX6_puts_24 rfl ?_
    refine ae_isub (q := 26) (30 - (G 12 5)) (by omega) dX6_puts_25 rfl ?_
    refine aw_goto (q := 30) dX6_puts_26 (by decide) ?_
    refine aw_istore_n (q := 31) (lv2 := [(0, .ref (ad 108)), (1, .int (iI 0)), (2, .int (iI v)), (3, .int (iI (30 - (G 12 5))))]) [1, 2, 3, 0] dX6_puts_30 rfl rfl (by decide) rfl rfl ?_
    refine aw_aload_n (q := 32) 0 dX6_puts_31 rfl rfl rfl ?_
    refine g_mod_p (q := 35) wf_RX6_7 dX6_puts_32 rfl ?_
    refine aw_iconst (q := 36) dX6_puts_35 rfl ?_
    refine aw_iload_n (q := 37) 1 dX6_puts_36 rfl rfl rfl ?_
    refine ae_iadd (q := 38) 5 (by omega) dX6_puts_37 rfl ?_
    refine aw_dup2 (q := 39) dX6_puts_38 rfl rfl rfl ?_
    refine aw_cial (q := 40) (v := (G 12 5)) 5 (ar_109 ad C) (by omega) (by omega) rfl dX6_puts_39 rfl ?_
    refine aw_iload_n (q := 41) 3 dX6_puts_40 rfl rfl rfl ?_
    refine ae_iadd (q := 42) 30 (by omega) dX6_puts_41 rfl ?_
    refine aw_cias (q := 43) 5 (ar_109 ad C) (by omega) (by omega) dX6_puts_42 rfl ?_
    refine aw_aload_n (q := 44) 0 dX6_puts_43 rfl rfl rfl ?_
    refine g_mod_p (q := 47) wf_RX6_7 dX6_puts_44 rfl ?_
    refine aw_bipush (q := 49) dX6_puts_47 rfl (by decide) ?_
    refine aw_dup2 (q := 50) dX6_puts_49 rfl rfl rfl ?_
    refine aw_cial (q := 51) (v := (G 12 9)) 9 (ar_109 ad C) (by omega) (by omega) (setG_ne (by omega)) dX6_puts_50 rfl ?_
    refine aw_iload_n (q := 52) 2 dX6_puts_51 rfl rfl rfl ?_
    refine aw_iload_n (q := 53) 3 dX6_puts_52 rfl rfl rfl ?_
    refine ae_isub (q := 54) (v + (G 12 5) - 30) (by omega) dX6_puts_53 rfl ?_
    refine aw_iload_n (q := 55) 1 dX6_puts_54 rfl rfl rfl ?_
    refine cs_I (q := 58) (As := [.int (iI 0)]) 1 (c_worthM0 (T := T) (D := D) (ad := ad) (setG G 12 5 30)) (fun _ h => h) wc_X6_worth wm_RX6_72 wt_X6_worth wn_X6 (by decide) rfl ⟨Nat.le_of_ble_eq_true rfl, Nat.le_of_ble_eq_true rfl⟩ ⟨Nat.le_of_ble_eq_true rfl, Nat.le_of_ble_eq_true rfl⟩ (Nat.le_of_ble_eq_true rfl) dX6_puts_55 rfl (fun r9 G9 h9 => ?_)
    rw [h9.1, h9.2]
    refine ae_imul (q := 59) (5 * v + 5 * (G 12 5) - 150) (by omega) dX6_puts_58 rfl ?_
    refine ae_iadd (q := 60) ((G 12 9) + 5 * v + 5 * (G 12 5) - 150) (by omega) dX6_puts_59 rfl ?_
    refine aw_cias (q := 61) 9 (ar_109 ad C) (by omega) (by omega) dX6_puts_60 rfl ?_
    exact rt_v rfl (Nat.le_refl _) (Nat.le_refl _) (putsG_of (t := 0) (w := 5) (by omega) (by omega) (by omega)) dX6_puts_61
set_option maxHeartbeats 4000000 in
set_option maxRecDepth 100000 in
theorem c_puts1 {l : Launch} {D : va_G} {C : Nat → ClassId} {T : Nat → Nat} {ad : Int → Nat} (G : GG) {v : Int} (hv : 0 ≤ v ∧ v ≤ 9) (ht : 0 ≤ G 12 6 ∧ G 12 6 ≤ 30) : MC l yX6_puts cX6_puts 4 none 1 20 0 0 D (tyC C) T [.ref (ad 108), .int (iI 1), .int (iI v)] (cw ad C G) (RV ad C (fun G1 => G1 = putsG G 1 10 v)) := by
  refine mc_of (by decide +kernel) (Nat.le_of_ble_eq_true rfl) rfl ?_
  refine aw_bipush (q := 2) dX6_puts_0 rfl (by decide) ?_
  refine aw_aload_n (q := 3) 0 dX6_puts_2 rfl rfl rfl ?_
  refine g_mod_p (q := 6) wf_RX6_7 dX6_puts_3 rfl ?_
  refine aw_iconst (q := 7) dX6_puts_6 rfl ?_
  refine aw_iload_n (q := 8) 1 dX6_puts_7 rfl rfl rfl ?_
  refine ae_iadd (q := 9) 6 (by omega) dX6_puts_8 rfl ?_
  refine aw_cial (q := 10) (v := (G 12 6)) 6 (ar_109 ad C) (by omega) (by omega) rfl dX6_puts_9 rfl ?_
  refine ae_isub (q := 11) (30 - (G 12 6)) (by omega) dX6_puts_10 rfl ?_
  refine aw_iload_n (q := 12) 2 dX6_puts_11 rfl rfl rfl ?_
  refine aw_icmp_ge (q := 15) dX6_puts_12 rfl (t := 29) (by decide) (by omega) (by omega) (fun y1 => ?_) (fun y2 => ?_)
  · refine aw_iload_n (q := 30) 2 dX6_puts_29 rfl rfl rfl ?_
    refine aw_istore_n (q := 31) (lv2 := [(0, .ref (ad 108)), (1, .int (iI 1)), (2, .int (iI v)), (3, .int (iI v))]) [1, 2, 3, 0] dX6_puts_30 rfl rfl (by decide) rfl rfl ?_
    refine aw_aload_n (q := 32) 0 dX6_puts_31 rfl rfl rfl ?_
    refine g_mod_p (q := 35) wf_RX6_7 dX6_puts_32 rfl ?_
    refine aw_iconst (q := 36) dX6_puts_35 rfl ?_
    refine aw_iload_n (q := 37) 1 dX6_puts_36 rfl rfl rfl ?_
    refine ae_iadd (q := 38) 6 (by omega) dX6_puts_37 rfl ?_
    refine aw_dup2 (q := 39) dX6_puts_38 rfl rfl rfl ?_
    refine aw_cial (q := 40) (v := (G 12 6)) 6 (ar_109 ad C) (by omega) (by omega) rfl dX6_puts_39 rfl ?_
    refine aw_iload_n (q := 41) 3 dX6_puts_40 rfl rfl rfl ?_
    refine ae_iadd (q := 42) ((G 12 6) + v) (by omega) dX6_puts_41 rfl ?_
    refine aw_cias (q := 43) 6 (ar_109 ad C) (by omega) (by omega) dX6_puts_42 rfl ?_
    refine aw_aload_n (q := 44) 0 dX6_puts_43 rfl rfl rfl ?_
    refine g_mod_p (q := 47) wf_RX6_7 dX6_puts_44 rfl ?_
    refine aw_bipush (q := 49) dX6_puts_47 rfl (by decide) ?_
    refine aw_dup2 (q := 50) dX6_puts_49 rfl rfl rfl ?_
    refine aw_cial (q := 51) (v := (G 12 9)) 9 (ar_109 ad C) (by omega) (by omega) (setG_ne (by omega)) dX6_puts_50 rfl ?_
    refine aw_iload_n (q := 52) 2 dX6_puts_51 rfl rfl rfl ?_
    refine aw_iload_n (q := 53) 3 dX6_puts_52 rfl rfl rfl ?_
    refine ae_isub (q := 54) 0 (by omega) dX6_puts_53 rfl ?_
    refine aw_iload_n (q := 55) 1 dX6_puts_54 rfl rfl rfl ?_
    refine cs_I (q := 58) (As := [.int (iI 1)]) 1 (c_worthM1 (T := T) (D := D) (ad := ad) (setG G 12 6 ((G 12 6) + v))) (fun _ h => h) wc_X6_worth wm_RX6_72 wt_X6_worth wn_X6 (by decide) rfl ⟨Nat.le_of_ble_eq_true rfl, Nat.le_of_ble_eq_true rfl⟩ ⟨Nat.le_of_ble_eq_true rfl, Nat.le_of_ble_eq_true rfl⟩ (Nat.le_of_ble_eq_true rfl) dX6_puts_55 rfl (fun r9 G9 h9 => ?_)
    rw [h9.1, h9.2]
    refine ae_imul (q := 59) 0 (by omega) dX6_puts_58 rfl ?_
    refine ae_iadd (q := 60) (G 12 9) (by omega) dX6_puts_59 rfl ?_
    refine aw_cias (q := 61) 9 (ar_109 ad C) (by omega) (by omega) dX6_puts_60 rfl ?_
    exact rt_v rfl (Nat.le_refl _) (Nat.le_refl _) (putsG_of (t := 1) (w := 10) (by omega) (by omega) (by omega)) dX6_puts_61
  · refine aw_bipush (q := 17) dX6_puts_15 rfl (by decide) ?_
    refine aw_aload_n (q := 18) 0 dX6_puts_17 rfl rfl rfl ?_
    refine g_mod_p (q := 21) wf_RX6_7 dX6_puts_18 rfl ?_
    refine aw_iconst (q := 22) dX6_puts_21 rfl ?_
    refine aw_iload_n (q := 23) 1 dX6_puts_22 rfl rfl rfl ?_
    refine ae_iadd (q := 24) 6 (by omega) dX6_puts_23 rfl ?_
    refine aw_cial (q := 25) (v := (G 12 6)) 6 (ar_109 ad C) (by omega) (by omega) rfl dX6_puts_24 rfl ?_
    refine ae_isub (q := 26) (30 - (G 12 6)) (by omega) dX6_puts_25 rfl ?_
    refine aw_goto (q := 30) dX6_puts_26 (by decide) ?_
    refine aw_istore_n (q := 31) (lv2 := [(0, .ref (ad 108)), (1, .int (iI 1)), (2, .int (iI v)), (3, .int (iI (30 - (G 12 6))))]) [1, 2, 3, 0] dX6_puts_30 rfl rfl (by decide) rfl rfl ?_
    refine aw_aload_n (q := 32) 0 dX6_puts_31 rfl rfl rfl ?_
    refine g_mod_p (q := 35) wf_RX6_7 dX6_puts_32 rfl ?_
    refine aw_iconst (q := 36) dX6_puts_35 rfl ?_
    refine aw_iload_n (q := 37) 1 dX6_puts_36 rfl rfl rfl ?_
    refine ae_iadd (q := 38) 6 (by omega) dX6_puts_37 rfl ?_
    refine aw_dup2 (q := 39) dX6_puts_38 rfl rfl rfl ?_
    refine aw_cial (q := 40) (v := (G 12 6)) 6 (ar_109 ad C) (by omega) (by omega) rfl dX6_puts_39 rfl ?_
    refine aw_iload_n (q := 41) 3 dX6_puts_40 rfl rfl rfl ?_
    refine ae_iadd (q := 42) 30 (by omega) dX6_puts_41 rfl ?_
    refine aw_cias (q := 43) 6 (ar_109 ad C) (by omega) (by omega) dX6_puts_42 rfl ?_
    refine aw_aload_n (q := 44) 0 dX6_puts_43 rfl rfl rfl ?_
    refine g_mod_p (q := 47) wf_RX6_7 dX6_puts_44 rfl ?_
    refine aw_bipush (q := 49) dX6_puts_47 rfl (by decide) ?_
    refine aw_dup2 (q := 50) dX6_puts_49 rfl rfl rfl ?_
    refine aw_cial (q := 51) (v := (G 12 9)) 9 (ar_109 ad C) (by omega) (by omega) (setG_ne (by omega)) dX6_puts_50 rfl ?_
    refine aw_iload_n (q := 52) 2 dX6_puts_51 rfl rfl rfl ?_
    refine aw_iload_n (q := 53) 3 dX6_puts_52 rfl rfl rfl ?_
    refine ae_isub (q := 54) (v + (G 12 6) - 30) (by omega) dX6_puts_53 rfl ?_
    refine aw_iload_n (q := 55) 1 dX6_puts_54 rfl rfl rfl ?_
    refine cs_I (q := 58) (As := [.int (iI 1)]) 1 (c_worthM1 (T := T) (D := D) (ad := ad) (setG G 12 6 30)) (fun _ h => h) wc_X6_worth wm_RX6_72 wt_X6_worth wn_X6 (by decide) rfl ⟨Nat.le_of_ble_eq_true rfl, Nat.le_of_ble_eq_true rfl⟩ ⟨Nat.le_of_ble_eq_true rfl, Nat.le_of_ble_eq_true rfl⟩ (Nat.le_of_ble_eq_true rfl) dX6_puts_55 rfl (fun r9 G9 h9 => ?_)
    rw [h9.1, h9.2]
    refine ae_imul (q := 59) (10 * v + 10 * (G 12 6) - 300) (by omega) dX6_puts_58 rfl ?_
    refine ae_iadd (q := 60) ((G 12 9) + 10 * v + 10 * (G 12 6) - 300) (by omega) dX6_puts_59 rfl ?_
    refine aw_cias (q := 61) 9 (ar_109 ad C) (by omega) (by omega) dX6_puts_60 rfl ?_
    exact rt_v rfl (Nat.le_refl _) (Nat.le_refl _) (putsG_of (t := 1) (w := 10) (by omega) (by omega) (by omega)) dX6_puts_61
set_option maxHeartbeats 4000000 in
set_option maxRecDepth 100000 in
theorem c_puts2 {l : Launch} {D : va_G} {C : Nat → ClassId} {T : Nat → Nat} {ad : Int → Nat} (G : GG) {v : Int} (hv : 0 ≤ v ∧ v ≤ 9) (ht : 0 ≤ G 12 7 ∧ G 12 7 ≤ 30) : MC l yX6_puts cX6_puts 4 none 1 20 0 0 D (tyC C) T [.ref (ad 108), .int (iI 2), .int (iI v)] (cw ad C G) (RV ad C (fun G1 => G1 = putsG G 2 20 v)) := by
  refine mc_of (by decide +kernel) (Nat.le_of_ble_eq_true rfl) rfl ?_
  refine aw_bipush (q := 2) dX6_puts_0 rfl (by decide) ?_
  refine aw_aload_n (q := 3) 0 dX6_puts_2 rfl rfl rfl ?_
  refine g_mod_p (q := 6) wf_RX6_7 dX6_puts_3 rfl ?_
  refine aw_iconst (q := 7) dX6_puts_6 rfl ?_
  refine aw_iload_n (q := 8) 1 dX6_puts_7 rfl rfl rfl ?_
  refine ae_iadd (q := 9) 7 (by omega) dX6_puts_8 rfl ?_
  refine aw_cial (q := 10) (v := (G 12 7)) 7 (ar_109 ad C) (by omega) (by omega) rfl dX6_puts_9 rfl ?_
  refine ae_isub (q := 11) (30 - (G 12 7)) (by omega) dX6_puts_10 rfl ?_
  refine aw_iload_n (q := 12) 2 dX6_puts_11 rfl rfl rfl ?_
  refine aw_icmp_ge (q := 15) dX6_puts_12 rfl (t := 29) (by decide) (by omega) (by omega) (fun y1 => ?_) (fun y2 => ?_)
  · refine aw_iload_n (q := 30) 2 dX6_puts_29 rfl rfl rfl ?_
    refine aw_istore_n (q := 31) (lv2 := [(0, .ref (ad 108)), (1, .int (iI 2)), (2, .int (iI v)), (3, .int (iI v))]) [1, 2, 3, 0] dX6_puts_30 rfl rfl (by decide) rfl rfl ?_
    refine aw_aload_n (q := 32) 0 dX6_puts_31 rfl rfl rfl ?_
    refine g_mod_p (q := 35) wf_RX6_7 dX6_puts_32 rfl ?_
    refine aw_iconst (q := 36) dX6_puts_35 rfl ?_
    refine aw_iload_n (q := 37) 1 dX6_puts_36 rfl rfl rfl ?_
    refine ae_iadd (q := 38) 7 (by omega) dX6_puts_37 rfl ?_
    refine aw_dup2 (q := 39) dX6_puts_38 rfl rfl rfl ?_
    refine aw_cial (q := 40) (v := (G 12 7)) 7 (ar_109 ad C) (by omega) (by omega) rfl dX6_puts_39 rfl ?_
    refine aw_iload_n (q := 41) 3 dX6_puts_40 rfl rfl rfl ?_
    refine ae_iadd (q := 42) ((G 12 7) + v) (by omega) dX6_puts_41 rfl ?_
    refine aw_cias (q := 43) 7 (ar_109 ad C) (by omega) (by omega) dX6_puts_42 rfl ?_
    refine aw_aload_n (q := 44) 0 dX6_puts_43 rfl rfl rfl ?_
    refine g_mod_p (q := 47) wf_RX6_7 dX6_puts_44 rfl ?_
    refine aw_bipush (q := 49) dX6_puts_47 rfl (by decide) ?_
    refine aw_dup2 (q := 50) dX6_puts_49 rfl rfl rfl ?_
    refine aw_cial (q := 51) (v := (G 12 9)) 9 (ar_109 ad C) (by omega) (by omega) (setG_ne (by omega)) dX6_puts_50 rfl ?_
    refine aw_iload_n (q := 52) 2 dX6_puts_51 rfl rfl rfl ?_
    refine aw_iload_n (q := 53) 3 dX6_puts_52 rfl rfl rfl ?_
    refine ae_isub (q := 54) 0 (by omega) dX6_puts_53 rfl ?_
    refine aw_iload_n (q := 55) 1 dX6_puts_54 rfl rfl rfl ?_
    refine cs_I (q := 58) (As := [.int (iI 2)]) 1 (c_worthM2 (T := T) (D := D) (ad := ad) (setG G 12 7 ((G 12 7) + v))) (fun _ h => h) wc_X6_worth wm_RX6_72 wt_X6_worth wn_X6 (by decide) rfl ⟨Nat.le_of_ble_eq_true rfl, Nat.le_of_ble_eq_true rfl⟩ ⟨Nat.le_of_ble_eq_true rfl, Nat.le_of_ble_eq_true rfl⟩ (Nat.le_of_ble_eq_true rfl) dX6_puts_55 rfl (fun r9 G9 h9 => ?_)
    rw [h9.1, h9.2]
    refine ae_imul (q := 59) 0 (by omega) dX6_puts_58 rfl ?_
    refine ae_iadd (q := 60) (G 12 9) (by omega) dX6_puts_59 rfl ?_
    refine aw_cias (q := 61) 9 (ar_109 ad C) (by omega) (by omega) dX6_puts_60 rfl ?_
    exact rt_v rfl (Nat.le_refl _) (Nat.le_refl _) (putsG_of (t := 2) (w := 20) (by omega) (by omega) (by omega)) dX6_puts_61
  · refine aw_bipush (q := 17) dX6_puts_15 rfl (by decide) ?_
    refine aw_aload_n (q := 18) 0 dX6_puts_17 rfl rfl rfl ?_
    refine g_mod_p (q := 21) wf_RX6_7 dX6_puts_18 rfl ?_
    refine aw_iconst (q := 22) dX6_puts_21 rfl ?_
    refine aw_iload_n (q := 23) 1 dX6_puts_22 rfl rfl rfl ?_
    refine ae_iadd (q := 24) 7 (by omega) dX6_puts_23 rfl ?_
    refine aw_cial (q := 25) (v := (G 12 7)) 7 (ar_109 ad C) (by omega) (by omega) rfl dX6_puts_24 rfl ?_
    refine ae_isub (q := 26) (30 - (G 12 7)) (by omega) dX6_puts_25 rfl ?_
    refine aw_goto (q := 30) dX6_puts_26 (by decide) ?_
    refine aw_istore_n (q := 31) (lv2 := [(0, .ref (ad 108)), (1, .int (iI 2)), (2, .int (iI v)), (3, .int (iI (30 - (G 12 7))))]) [1, 2, 3, 0] dX6_puts_30 rfl rfl (by decide) rfl rfl ?_
    refine aw_aload_n (q := 32) 0 dX6_puts_31 rfl rfl rfl ?_
    refine g_mod_p (q := 35) wf_RX6_7 dX6_puts_32 rfl ?_
    refine aw_iconst (q := 36) dX6_puts_35 rfl ?_
    refine aw_iload_n (q := 37) 1 dX6_puts_36 rfl rfl rfl ?_
    refine ae_iadd (q := 38) 7 (by omega) dX6_puts_37 rfl ?_
    refine aw_dup2 (q := 39) dX6_puts_38 rfl rfl rfl ?_
    refine aw_cial (q := 40) (v := (G 12 7)) 7 (ar_109 ad C) (by omega) (by omega) rfl dX6_puts_39 rfl ?_
    refine aw_iload_n (q := 41) 3 dX6_puts_40 rfl rfl rfl ?_
    refine ae_iadd (q := 42) 30 (by omega) dX6_puts_41 rfl ?_
    refine aw_cias (q := 43) 7 (ar_109 ad C) (by omega) (by omega) dX6_puts_42 rfl ?_
    refine aw_aload_n (q := 44) 0 dX6_puts_43 rfl rfl rfl ?_
    refine g_mod_p (q := 47) wf_RX6_7 dX6_puts_44 rfl ?_
    refine aw_bipush (q := 49) dX6_puts_47 rfl (by decide) ?_
    refine aw_dup2 (q := 50) dX6_puts_49 rfl rfl rfl ?_
    refine aw_cial (q := 51) (v := (G 12 9)) 9 (ar_109 ad C) (by omega) (by omega) (setG_ne (by omega)) dX6_puts_50 rfl ?_
    refine aw_iload_n (q := 52) 2 dX6_puts_51 rfl rfl rfl ?_
    refine aw_iload_n (q := 53) 3 dX6_puts_52 rfl rfl rfl ?_
    refine ae_isub (q := 54) (v + (G 12 7) - 30) (by omega) dX6_puts_53 rfl ?_
    refine aw_iload_n (q := 55) 1 dX6_puts_54 rfl rfl rfl ?_
    refine cs_I (q := 58) (As := [.int (iI 2)]) 1 (c_worthM2 (T := T) (D := D) (ad := ad) (setG G 12 7 30)) (fun _ h => h) wc_X6_worth wm_RX6_72 wt_X6_worth wn_X6 (by decide) rfl ⟨Nat.le_of_ble_eq_true rfl, Nat.le_of_ble_eq_true rfl⟩ ⟨Nat.le_of_ble_eq_true rfl, Nat.le_of_ble_eq_true rfl⟩ (Nat.le_of_ble_eq_true rfl) dX6_puts_55 rfl (fun r9 G9 h9 => ?_)
    rw [h9.1, h9.2]
    refine ae_imul (q := 59) (20 * v + 20 * (G 12 7) - 600) (by omega) dX6_puts_58 rfl ?_
    refine ae_iadd (q := 60) ((G 12 9) + 20 * v + 20 * (G 12 7) - 600) (by omega) dX6_puts_59 rfl ?_
    refine aw_cias (q := 61) 9 (ar_109 ad C) (by omega) (by omega) dX6_puts_60 rfl ?_
    exact rt_v rfl (Nat.le_refl _) (Nat.le_refl _) (putsG_of (t := 2) (w := 20) (by omega) (by omega) (by omega)) dX6_puts_61
set_option maxHeartbeats 4000000 in
set_option maxRecDepth 100000 in
theorem c_puts3 {l : Launch} {D : va_G} {C : Nat → ClassId} {T : Nat → Nat} {ad : Int → Nat} (G : GG) {v : Int} (hv : 0 ≤ v ∧ v ≤ 9) (ht : 0 ≤ G 12 8 ∧ G 12 8 ≤ 30) : MC l yX6_puts cX6_puts 4 none 1 20 0 0 D (tyC C) T [.ref (ad 108), .int (iI 3), .int (iI v)] (cw ad C G) (RV ad C (fun G1 => G1 = putsG G 3 50 v)) := by
  refine mc_of (by decide +kernel) (Nat.le_of_ble_eq_true rfl) rfl ?_
  refine aw_bipush (q := 2) dX6_puts_0 rfl (by decide) ?_
  refine aw_aload_n (q := 3) 0 dX6_puts_2 rfl rfl rfl ?_
  refine g_mod_p (q := 6) wf_RX6_7 dX6_puts_3 rfl ?_
  refine aw_iconst (q := 7) dX6_puts_6 rfl ?_
  refine aw_iload_n (q := 8) 1 dX6_puts_7 rfl rfl rfl ?_
  refine ae_iadd (q := 9) 8 (by omega) dX6_puts_8 rfl ?_
  refine aw_cial (q := 10) (v := (G 12 8)) 8 (ar_109 ad C) (by omega) (by omega) rfl dX6_puts_9 rfl ?_
  refine ae_isub (q := 11) (30 - (G 12 8)) (by omega) dX6_puts_10 rfl ?_
  refine aw_iload_n (q := 12) 2 dX6_puts_11 rfl rfl rfl ?_
  refine aw_icmp_ge (q := 15) dX6_puts_12 rfl (t := 29) (by decide) (by omega) (by omega) (fun y1 => ?_) (fun y2 => ?_)
  · refine aw_iload_n (q := 30) 2 dX6_puts_29 rfl rfl rfl ?_
    refine aw_istore_n (q := 31) (lv2 := [(0, .ref (ad 108)), (1, .int (iI 3)), (2, .int (iI v)), (3, .int (iI v))]) [1, 2, 3, 0] dX6_puts_30 rfl rfl (by decide) rfl rfl ?_
    refine aw_aload_n (q := 32) 0 dX6_puts_31 rfl rfl rfl ?_
    refine g_mod_p (q := 35) wf_RX6_7 dX6_puts_32 rfl ?_
    refine aw_iconst (q := 36) dX6_puts_35 rfl ?_
    refine aw_iload_n (q := 37) 1 dX6_puts_36 rfl rfl rfl ?_
    refine ae_iadd (q := 38) 8 (by omega) dX6_puts_37 rfl ?_
    refine aw_dup2 (q := 39) dX6_puts_38 rfl rfl rfl ?_
    refine aw_cial (q := 40) (v := (G 12 8)) 8 (ar_109 ad C) (by omega) (by omega) rfl dX6_puts_39 rfl ?_
    refine aw_iload_n (q := 41) 3 dX6_puts_40 rfl rfl rfl ?_
    refine ae_iadd (q := 42) ((G 12 8) + v) (by omega) dX6_puts_41 rfl ?_
    refine aw_cias (q := 43) 8 (ar_109 ad C) (by omega) (by omega) dX6_puts_42 rfl ?_
    refine aw_aload_n (q := 44) 0 dX6_puts_43 rfl rfl rfl ?_
    refine g_mod_p (q := 47) wf_RX6_7 dX6_puts_44 rfl ?_
    refine aw_bipush (q := 49) dX6_puts_47 rfl (by decide) ?_
    refine aw_dup2 (q := 50) dX6_puts_49 rfl rfl rfl ?_
    refine aw_cial (q := 51) (v := (G 12 9)) 9 (ar_109 ad C) (by omega) (by omega) (setG_ne (by omega)) dX6_puts_50 rfl ?_
    refine aw_iload_n (q := 52) 2 dX6_puts_51 rfl rfl rfl ?_
    refine aw_iload_n (q := 53) 3 dX6_puts_52 rfl rfl rfl ?_
    refine ae_isub (q := 54) 0 (by omega) dX6_puts_53 rfl ?_
    refine aw_iload_n (q := 55) 1 dX6_puts_54 rfl rfl rfl ?_
    refine cs_I (q := 58) (As := [.int (iI 3)]) 1 (c_worthM3 (T := T) (D := D) (ad := ad) (setG G 12 8 ((G 12 8) + v))) (fun _ h => h) wc_X6_worth wm_RX6_72 wt_X6_worth wn_X6 (by decide) rfl ⟨Nat.le_of_ble_eq_true rfl, Nat.le_of_ble_eq_true rfl⟩ ⟨Nat.le_of_ble_eq_true rfl, Nat.le_of_ble_eq_true rfl⟩ (Nat.le_of_ble_eq_true rfl) dX6_puts_55 rfl (fun r9 G9 h9 => ?_)
    rw [h9.1, h9.2]
    refine ae_imul (q := 59) 0 (by omega) dX6_puts_58 rfl ?_
    refine ae_iadd (q := 60) (G 12 9) (by omega) dX6_puts_59 rfl ?_
    refine aw_cias (q := 61) 9 (ar_109 ad C) (by omega) (by omega) dX6_puts_60 rfl ?_
    exact rt_v rfl (Nat.le_refl _) (Nat.le_refl _) (putsG_of (t := 3) (w := 50) (by omega) (by omega) (by omega)) dX6_puts_61
  · refine aw_bipush (q := 17) dX6_puts_15 rfl (by decide) ?_
    refine aw_aload_n (q := 18) 0 dX6_puts_17 rfl rfl rfl ?_
    refine g_mod_p (q := 21) wf_RX6_7 dX6_puts_18 rfl ?_
    refine aw_iconst (q := 22) dX6_puts_21 rfl ?_
    refine aw_iload_n (q := 23) 1 dX6_puts_22 rfl rfl rfl ?_
    refine ae_iadd (q := 24) 8 (by omega) dX6_puts_23 rfl ?_
    refine aw_cial (q := 25) (v := (G 12 8)) 8 (ar_109 ad C) (by omega) (by omega) rfl dX6_puts_24 rfl ?_
    refine ae_isub (q := 26) (30 - (G 12 8)) (by omega) dX6_puts_25 rfl ?_
    refine aw_goto (q := 30) dX6_puts_26 (by decide) ?_
    refine aw_istore_n (q := 31) (lv2 := [(0, .ref (ad 108)), (1, .int (iI 3)), (2, .int (iI v)), (3, .int (iI (30 - (G 12 8))))]) [1, 2, 3, 0] dX6_puts_30 rfl rfl (by decide) rfl rfl ?_
    refine aw_aload_n (q := 32) 0 dX6_puts_31 rfl rfl rfl ?_
    refine g_mod_p (q := 35) wf_RX6_7 dX6_puts_32 rfl ?_
    refine aw_iconst (q := 36) dX6_puts_35 rfl ?_
    refine aw_iload_n (q := 37) 1 dX6_puts_36 rfl rfl rfl ?_
    refine ae_iadd (q := 38) 8 (by omega) dX6_puts_37 rfl ?_
    refine aw_dup2 (q := 39) dX6_puts_38 rfl rfl rfl ?_
    refine aw_cial (q := 40) (v := (G 12 8)) 8 (ar_109 ad C) (by omega) (by omega) rfl dX6_puts_39 rfl ?_
    refine aw_iload_n (q := 41) 3 dX6_puts_40 rfl rfl rfl ?_
    refine ae_iadd (q := 42) 30 (by omega) dX6_puts_41 rfl ?_
    refine aw_cias (q := 43) 8 (ar_109 ad C) (by omega) (by omega) dX6_puts_42 rfl ?_
    refine aw_aload_n (q := 44) 0 dX6_puts_43 rfl rfl rfl ?_
    refine g_mod_p (q := 47) wf_RX6_7 dX6_puts_44 rfl ?_
    refine aw_bipush (q := 49) dX6_puts_47 rfl (by decide) ?_
    refine aw_dup2 (q := 50) dX6_puts_49 rfl rfl rfl ?_
    refine aw_cial (q := 51) (v := (G 12 9)) 9 (ar_109 ad C) (by omega) (by omega) (setG_ne (by omega)) dX6_puts_50 rfl ?_
    refine aw_iload_n (q := 52) 2 dX6_puts_51 rfl rfl rfl ?_
    refine aw_iload_n (q := 53) 3 dX6_puts_52 rfl rfl rfl ?_
    refine ae_isub (q := 54) (v + (G 12 8) - 30) (by omega) dX6_puts_53 rfl ?_
    refine aw_iload_n (q := 55) 1 dX6_puts_54 rfl rfl rfl ?_
    refine cs_I (q := 58) (As := [.int (iI 3)]) 1 (c_worthM3 (T := T) (D := D) (ad := ad) (setG G 12 8 30)) (fun _ h => h) wc_X6_worth wm_RX6_72 wt_X6_worth wn_X6 (by decide) rfl ⟨Nat.le_of_ble_eq_true rfl, Nat.le_of_ble_eq_true rfl⟩ ⟨Nat.le_of_ble_eq_true rfl, Nat.le_of_ble_eq_true rfl⟩ (Nat.le_of_ble_eq_true rfl) dX6_puts_55 rfl (fun r9 G9 h9 => ?_)
    rw [h9.1, h9.2]
    refine ae_imul (q := 59) (50 * v + 50 * (G 12 8) - 1500) (by omega) dX6_puts_58 rfl ?_
    refine ae_iadd (q := 60) ((G 12 9) + 50 * v + 50 * (G 12 8) - 1500) (by omega) dX6_puts_59 rfl ?_
    refine aw_cias (q := 61) 9 (ar_109 ad C) (by omega) (by omega) dX6_puts_60 rfl ?_
    exact rt_v rfl (Nat.le_refl _) (Nat.le_refl _) (putsG_of (t := 3) (w := 50) (by omega) (by omega) (by omega)) dX6_puts_61
set_option maxHeartbeats 4000000 in
set_option maxRecDepth 100000 in
theorem L_km_60 {l : Launch} {D : va_G} {C : Nat → ClassId} {T : Nat → Nat} {ad : Int → Nat} (G H : GG) {R9 : Int × Int × Int × Int × Int} {m : Int} (hm : H 12 14 = m) (hm2 : 0 ≤ m ∧ m ≤ 199) (kO : AW l RX6 "keepsPromises" cX6_keepsPromises 2 none (fun _ => True) { frames := 1, cells := 0, slots := 0, locals := 34 } (hvE D (RV ad C (keepM G R9)) (cw ad C G) 0 0) D (tyC C) (hvZ T (cw ad C G)) (cw ad C G) 0 [(0, .ref (ad 108))] [] (cw ad C ((shG H m))) 0 0) : ∀ (n : Nat) (k : Int), (0 ≤ k ∧ k ≤ m) → m - k < n → AW l RX6 "keepsPromises" cX6_keepsPromises 2 none (fun _ => True) { frames := 1, cells := 0, slots := 0, locals := 34 } (hvE D (RV ad C (keepM G R9)) (cw ad C G) 0 0) D (tyC C) (hvZ T (cw ad C G)) (cw ad C G) 60 [(0, .ref (ad 108)), (1, .int (iI k))] [] (cw ad C ((shG H k))) 0 0 := by
  intro n
  induction n with
  | zero => intro k hk hn; exact absurd hn (by omega)
  | succ n ih =>
    intro k hk hn
    refine aw_iload_n (q := 61) 1 dX6_keepsPromises_60 rfl rfl rfl ?_
    refine aw_aload_n (q := 62) 0 dX6_keepsPromises_61 rfl rfl rfl ?_
    refine g_mod_p (q := 65) wf_RX6_7 dX6_keepsPromises_62 rfl ?_
    refine aw_bipush (q := 67) dX6_keepsPromises_65 rfl (by decide) ?_
    refine aw_cial (q := 68) (v := m) 14 (ar_109 ad C) (by omega) (by omega) (((shG_ne (by omega)).trans hm)) dX6_keepsPromises_67 rfl ?_
    refine aw_icmp_ge (q := 71) dX6_keepsPromises_68 rfl (t := 97) (by decide) (by omega) (by omega) (fun y1 => ?_) (fun y2 => ?_)
    · refine aw_goto (q := 0) dX6_keepsPromises_97 (by decide) ?_
      refine aw_sub [0] rfl ?_
      rw [show k = m by omega]
      exact kO
    · refine aw_aload_n (q := 72) 0 dX6_keepsPromises_71 rfl rfl rfl ?_
      refine g_mod_p (q := 75) wf_RX6_7 dX6_keepsPromises_72 rfl ?_
      refine aw_bipush (q := 77) dX6_keepsPromises_75 rfl (by decide) ?_
      refine aw_iload_n (q := 78) 1 dX6_keepsPromises_77 rfl rfl rfl ?_
      refine ae_iadd (q := 79) (111 + k) (by omega) dX6_keepsPromises_78 rfl ?_
      refine aw_aload_n (q := 80) 0 dX6_keepsPromises_79 rfl rfl rfl ?_
      refine g_mod_p (q := 83) wf_RX6_7 dX6_keepsPromises_80 rfl ?_
      refine aw_bipush (q := 85) dX6_keepsPromises_83 rfl (by decide) ?_
      refine aw_iload_n (q := 86) 1 dX6_keepsPromises_85 rfl rfl rfl ?_
      refine ae_iadd (q := 87) (111 + k) (by omega) dX6_keepsPromises_86 rfl ?_
      refine aw_iconst (q := 88) dX6_keepsPromises_87 rfl ?_
      refine ae_iadd (q := 89) (k + 112) (by omega) dX6_keepsPromises_88 rfl ?_
      refine aw_cial (q := 90) (v := (H 12 (112 + k))) (k + 112) (ar_109 ad C) (by omega) (by omega) (((shG_ne (by omega)).trans (congrArg (H 12) (by omega)))) dX6_keepsPromises_89 rfl ?_
      refine aw_cias (q := 91) (111 + k) (ar_109 ad C) (by omega) (by omega) dX6_keepsPromises_90 rfl ?_
      refine ae_iinc (q := 94) (lv2 := [(0, .ref (ad 108)), (1, .int (iI (k + 1)))]) 1 [1, 0] (k + 1) (by omega) dX6_keepsPromises_91 rfl rfl (by decide) rfl ?_
      refine aw_goto (q := 60) dX6_keepsPromises_94 (by decide) ?_
      rw [shG_succ H hk.1]
      exact ih (k + 1) (by omega) (by omega)
set_option maxHeartbeats 4000000 in
set_option maxRecDepth 100000 in
theorem L_km {l : Launch} {D : va_G} {C : Nat → ClassId} {T : Nat → Nat} {ad : Int → Nat} (G : GG) (ho : okP G 12) (R9 : Int × Int × Int × Int × Int) : ∀ (n : Nat) (j t0 t1 t2 t3 : Int) (K : GG), (0 ≤ j ∧ j ≤ G 12 14) → G 12 14 - j < n → (0 ≤ t0 ∧ t0 ≤ 30 ∧ 0 ≤ t1 ∧ t1 ≤ 30 ∧ 0 ≤ t2 ∧ t2 ≤ 30 ∧ 0 ≤ t3 ∧ t3 ≤ 30) → kmI G j t0 t1 t2 t3 K → kp (prm G 12) (G 12 14) n j t0 t1 t2 t3 = R9 → AW l RX6 "keepsPromises" cX6_keepsPromises 2 none (fun _ => True) { frames := 1, cells := 0, slots := 0, locals := 34 } (hvE D (RV ad C (keepM G R9)) (cw ad C G) 0 0) D (tyC C) (hvZ T (cw ad C G)) (cw ad C G) 0 [(0, .ref (ad 108))] [] (cw ad C K) 0 0 := by
  intro n
  induction n with
  | zero => intro j t0 t1 t2 t3 K hj hn; exact absurd hn (by omega)
  | succ n ih =>
    intro j t0 t1 t2 t3 K hj hn ht hI hk
    obtain ⟨hcnt, hq, -⟩ := ho
    obtain ⟨e5, e6, e7, e8, e14, e11, hI7, hs⟩ := hI
    have e111 : 0 < G 12 14 - j → K 12 111 = G 12 (111 + j) := fun z => by have h9 := hI7 0 (by omega) z; rw [Int.add_zero, Int.add_zero] at h9; exact h9
    have htK : ∀ k : Int, 0 ≤ k → k < 4 → 0 ≤ K 12 (5 + k) ∧ K 12 (5 + k) ≤ 30 := fun k z0 z1 => by
      rcases (by omega : k = 0 ∨ k = 1 ∨ k = 2 ∨ k = 3) with rfl | rfl | rfl | rfl
      · show 0 ≤ K 12 5 ∧ K 12 5 ≤ 30; rw [e5]; omega
      · show 0 ≤ K 12 6 ∧ K 12 6 ≤ 30; rw [e6]; omega
      · show 0 ≤ K 12 7 ∧ K 12 7 ≤ 30; rw [e7]; omega
      · show 0 ≤ K 12 8 ∧ K 12 8 ≤ 30; rw [e8]; omega
    refine aw_aload_n (q := 1) 0 dX6_keepsPromises_0 rfl rfl rfl ?_
    refine g_mod_p (q := 4) wf_RX6_7 dX6_keepsPromises_1 rfl ?_
    refine aw_bipush (q := 6) dX6_keepsPromises_4 rfl (by decide) ?_
    refine aw_cial (q := 7) (v := (G 12 14 - j)) 14 (ar_109 ad C) (by omega) (by omega) (e14) dX6_keepsPromises_6 rfl ?_
    refine aw_if_le (q := 10) dX6_keepsPromises_7 rfl (t := 100) (by decide) (by omega) (fun y1 => ?_) (fun y2 => ?_)
    · exact rt_v rfl (Nat.le_refl _) (Nat.le_refl _) (by
          have e9 := kp_f (q := prm G 12) (cnt := G 12 14) (n := n) (j := j) (t0 := t0) (t1 := t1) (t2 := t2) (t3 := t3) (fun q => absurd q.1 (by omega))
          rw [e9] at hk
          subst hk
          exact ⟨e5, e6, e7, e8, e14, e11, fun m z0 z1 => (hI7 m z0 z1), hs⟩) dX6_keepsPromises_100
    · refine aw_aload_n (q := 11) 0 dX6_keepsPromises_10 rfl rfl rfl ?_
      refine aw_aload_n (q := 12) 0 dX6_keepsPromises_11 rfl rfl rfl ?_
      refine g_mod_p (q := 15) wf_RX6_7 dX6_keepsPromises_12 rfl ?_
      refine aw_bipush (q := 17) dX6_keepsPromises_15 rfl (by decide) ?_
      refine aw_cial (q := 18) (v := (G 12 (111 + j))) 111 (ar_109 ad C) (by omega) (by omega) ((e111 (by omega))) dX6_keepsPromises_17 rfl ?_
      refine aw_iconst (q := 19) dX6_keepsPromises_18 rfl ?_
      refine aw_iconst (q := 20) dX6_keepsPromises_19 rfl ?_
      refine cv_I (q := 23) (CC := "") (id := 108) (As := [.int (iI ((G 12 (111 + j)))), .int (iI (-1)), .int (iI 0)]) 3 (c_py0 (T := T) (D := D) (ad := ad) K (by have := hq j (by omega) (by omega); omega) htK) (fun _ h => h) (by omega) (cell_108 ad C _) rfl wc_X6_pays wm_RX6_66 wi_X6_pays ws_X6_pays wn_X6 (by decide) rfl ⟨Nat.le_of_ble_eq_true rfl, Nat.le_of_ble_eq_true rfl⟩ ⟨Nat.le_of_ble_eq_true rfl, Nat.le_of_ble_eq_true rfl⟩ (Nat.le_of_ble_eq_true rfl) dX6_keepsPromises_20 rfl (fun r1 K1 h9 => ?_)
      obtain ⟨hr1, hc1, hs1⟩ := h9
      rw [e5, e6, e7, e8] at hr1 hc1
      subst hr1
      have cb := cF_b (h0 := t0) (h1 := t1) (h2 := t2) (h3 := t3) (a := G 12 (111 + j)) (by omega) (by omega) (by omega) (by omega) (hq j (by omega) (by omega)).1
      refine aw_ifb_eq (q := 26) dX6_keepsPromises_23 rfl (t := 100) (by decide) (fun y3 => ?_) (fun y4 => ?_)
      · exact rt_v rfl (Nat.le_refl _) (Nat.le_refl _) (by
            have e9 := kp_f (q := prm G 12) (cnt := G 12 14) (n := n) (j := j) (t0 := t0) (t1 := t1) (t2 := t2) (t3 := t3) (fun q => by have := q.2; contradiction)
            rw [e9] at hk
            subst hk
            exact ⟨(hs1 12 5 (by omega)).trans e5, (hs1 12 6 (by omega)).trans e6, (hs1 12 7 (by omega)).trans e7, (hs1 12 8 (by omega)).trans e8, (hs1 12 14 (by omega)).trans e14, (hs1 12 11 (by omega)).trans e11, fun m z0 z1 => (hs1 12 (111 + m) (by omega)).trans (hI7 m z0 z1), (fun x y z => (hs1 x y (by omega)).trans (hs x y z))⟩) dX6_keepsPromises_100
      · refine aw_aload_n (q := 27) 0 dX6_keepsPromises_26 rfl rfl rfl ?_
        refine cv_V (q := 30) (CC := "") (id := 108) (As := []) 0 (c_takes (T := T) (D := D) (ad := ad) K1) (fun _ h => h) (by omega) (cell_108 ad C _) rfl wc_X6_takes wm_RX6_69 wi_X6_takes ws_X6_takes wn_X6 (by decide) rfl ⟨Nat.le_of_ble_eq_true rfl, Nat.le_of_ble_eq_true rfl⟩ ⟨Nat.le_of_ble_eq_true rfl, Nat.le_of_ble_eq_true rfl⟩ (Nat.le_of_ble_eq_true rfl) dX6_keepsPromises_27 rfl (fun K2 h8 => ?_)
        obtain ⟨g0, g1, g2, g3, hs2⟩ := h8
        obtain ⟨f0, f1, f2, f3⟩ := hc1 (by assumption)
        refine aw_aload_n (q := 31) 0 dX6_keepsPromises_30 rfl rfl rfl ?_
        refine g_mod_p (q := 34) wf_RX6_7 dX6_keepsPromises_31 rfl ?_
        refine aw_bipush (q := 36) dX6_keepsPromises_34 rfl (by decide) ?_
        refine aw_dup2 (q := 37) dX6_keepsPromises_36 rfl rfl rfl ?_
        refine aw_cial (q := 38) (v := (G 12 11 + sumQ (prm G 12) j.toNat)) 11 (ar_109 ad C) (by omega) (by omega) (((hs2 12 11 (by omega)).trans ((hs1 12 11 (by omega)).trans e11))) dX6_keepsPromises_37 rfl ?_
        refine aw_aload_n (q := 39) 0 dX6_keepsPromises_38 rfl rfl rfl ?_
        refine g_mod_p (q := 42) wf_RX6_7 dX6_keepsPromises_39 rfl ?_
        refine aw_bipush (q := 44) dX6_keepsPromises_42 rfl (by decide) ?_
        refine aw_cial (q := 45) (v := (G 12 (111 + j))) 111 (ar_109 ad C) (by omega) (by omega) (((hs2 12 111 (by omega)).trans ((hs1 12 111 (by omega)).trans (e111 (by omega))))) dX6_keepsPromises_44 rfl ?_
        refine ae_iadd (q := 46) ((G 12 11 + sumQ (prm G 12) j.toNat) + (G 12 (111 + j))) (by omega) dX6_keepsPromises_45 rfl ?_
        refine aw_cias (q := 47) 11 (ar_109 ad C) (by omega) (by omega) dX6_keepsPromises_46 rfl ?_
        refine aw_aload_n (q := 48) 0 dX6_keepsPromises_47 rfl rfl rfl ?_
        refine g_mod_p (q := 51) wf_RX6_7 dX6_keepsPromises_48 rfl ?_
        refine aw_bipush (q := 53) dX6_keepsPromises_51 rfl (by decide) ?_
        refine aw_dup2 (q := 54) dX6_keepsPromises_53 rfl rfl rfl ?_
        refine aw_cial (q := 55) (v := (G 12 14 - j)) 14 (ar_109 ad C) (by omega) (by omega) ((setG_ne (by omega)).trans (((hs2 12 14 (by omega)).trans ((hs1 12 14 (by omega)).trans e14)))) dX6_keepsPromises_54 rfl ?_
        refine aw_iconst (q := 56) dX6_keepsPromises_55 rfl ?_
        refine ae_isub (q := 57) ((G 12 14 - j) - 1) (by omega) dX6_keepsPromises_56 rfl ?_
        refine aw_cias (q := 58) 14 (ar_109 ad C) (by omega) (by omega) dX6_keepsPromises_57 rfl ?_
        refine aw_iconst (q := 59) dX6_keepsPromises_58 rfl ?_
        refine aw_istore_n (q := 60) (lv2 := [(0, .ref (ad 108)), (1, .int (iI 0))]) [1, 0] dX6_keepsPromises_59 rfl rfl (by decide) rfl rfl ?_
        have hz := shG_0 (setG (setG K2 12 11 ((G 12 11 + sumQ (prm G 12) j.toNat) + (G 12 (111 + j)))) 12 14 ((G 12 14 - j) - 1))
        have e9 : (setG (setG K2 12 11 ((G 12 11 + sumQ (prm G 12) j.toNat) + (G 12 (111 + j)))) 12 14 ((G 12 14 - j) - 1)) 12 14 = G 12 14 - (j + 1) := ((setG_same _ _ _ _)).trans (by omega)
        rw [← hz]
        refine L_km_60 G _ e9 (by omega) ?_ 201 0 (by omega) (by omega)
        refine ih (j + 1) (t0 - c0F t0 t1 t2 t3 (G 12 (111 + j))) (t1 - c1F t0 t1 t2 t3 (G 12 (111 + j))) (t2 - c2F t0 t1 t2 t3 (G 12 (111 + j))) (t3 - c3F t0 t1 t2 t3 (G 12 (111 + j))) _ (by omega) (by omega) (by omega) ⟨(shG_ne (by omega)).trans ((setG_ne (by omega)).trans ((setG_ne (by omega)).trans (by rw [g0, f0, hs1 12 5 (by omega), e5]))), (shG_ne (by omega)).trans ((setG_ne (by omega)).trans ((setG_ne (by omega)).trans (by rw [g1, f1, hs1 12 6 (by omega), e6]))), (shG_ne (by omega)).trans ((setG_ne (by omega)).trans ((setG_ne (by omega)).trans (by rw [g2, f2, hs1 12 7 (by omega), e7]))), (shG_ne (by omega)).trans ((setG_ne (by omega)).trans ((setG_ne (by omega)).trans (by rw [g3, f3, hs1 12 8 (by omega), e8]))), ?_, ?_, fun m z0 z1 => ?_, fun x y z => (shG_ne (by omega)).trans ((setG_ne (by omega)).trans ((setG_ne (by omega)).trans ((hs2 x y (by omega)).trans ((hs1 x y (by omega)).trans (hs x y z)))))⟩ ?_
        · exact (shG_ne (by omega)).trans e9
        · rw [sumQ_succ _ (by omega)]; refine (shG_ne (by omega)).trans ((setG_ne (by omega)).trans ((setG_same _ _ _ _).trans ?_)); show _ = G 12 11 + (_ + G 12 (111 + j)); omega
        · refine (shG_in (by omega)).trans ((setG_ne (by omega)).trans ((setG_ne (by omega)).trans ((hs2 12 _ (by omega)).trans ((hs1 12 _ (by omega)).trans ?_)))); rw [show (111 : Int) + m + 1 = 111 + (m + 1) by omega, hI7 (m + 1) (by omega) (by omega)]; exact congrArg (G 12) (by omega)
        · rw [← hk, kp_t ⟨by omega, by assumption⟩]
set_option maxHeartbeats 4000000 in
set_option maxRecDepth 100000 in
theorem c_keepsM {l : Launch} {D : va_G} {C : Nat → ClassId} {T : Nat → Nat} {ad : Int → Nat} (G : GG) (ho : okP G 12) : MC l yX6_keepsPromises cX6_keepsPromises 2 none 1 34 0 0 D (tyC C) T [.ref (ad 108)] (cw ad C G) (RV ad C (keepM G (kpG G 12))) := by
  refine mc_of (by decide +kernel) (Nat.le_of_ble_eq_true rfl) rfl ?_
  have t0 : 0 ≤ G 12 5 ∧ G 12 5 ≤ 30 := ho.2.2 0 (by omega) (by omega)
  have t1 : 0 ≤ G 12 6 ∧ G 12 6 ≤ 30 := ho.2.2 1 (by omega) (by omega)
  have t2 : 0 ≤ G 12 7 ∧ G 12 7 ≤ 30 := ho.2.2 2 (by omega) (by omega)
  have t3 : 0 ≤ G 12 8 ∧ G 12 8 ≤ 30 := ho.2.2 3 (by omega) (by omega)
  have h14 := ho.1
  exact L_km G ho _ 201 0 _ _ _ _ G (by omega) (by omega) (by omega) ⟨rfl, rfl, rfl, rfl, by omega, by show _ = G 12 11 + 0; omega, fun m z0 z1 => congrArg (G 12) (by omega), fun _ _ _ => rfl⟩ rfl
