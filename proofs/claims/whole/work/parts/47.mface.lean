/-! class CoilPricesModel: what changes the page -/
def shS (H : GG) (k : Int) : GG := fun x y => if x = 15 ∧ 0 ≤ y ∧ y < k then H 15 (y + 311) else H x y
theorem shS_0 (H : GG) : shS H 0 = H := by
  funext x y
  unfold shS
  rw [if_neg (by omega)]
theorem shS_ne {H : GG} {k x y : Int} (h : ¬ (x = 15 ∧ 0 ≤ y ∧ y < k)) : shS H k x y = H x y := if_neg h
theorem shS_in {H : GG} {k y : Int} (h : 0 ≤ y ∧ y < k) : shS H k 15 y = H 15 (y + 311) := if_pos ⟨rfl, h⟩
theorem shS_succ (H : GG) {k : Int} (hk : 0 ≤ k) : setG (shS H k) 15 k (H 15 (k + 311)) = shS H (k + 1) := by
  funext x y
  unfold setG shS
  by_cases h : x = 15 ∧ y = k
  · rw [if_pos h, if_pos (by omega), h.2]
  · rw [if_neg h]
    by_cases h2 : x = 15 ∧ 0 ≤ y ∧ y < k
    · rw [if_pos h2, if_pos (by omega)]
    · rw [if_neg h2, if_neg (by omega)]
def holdP (G G1 : GG) : Prop := G1 11 8 = 0 ∧ (∀ y : Int, 0 ≤ y → y < 311 → G1 13 y = G 12 y) ∧ sameB (fun x y => x = 13 ∨ (x = 11 ∧ y = 8)) G G1
/-- the state in the page that was set aside is saved -/
def svM (G G1 : GG) : Prop := ∃ d n : Int, ((G 11 4 = 4 ∧ d = 1 ∧ n = 3) ∨ (G 11 4 < 4 ∧ d = 0 ∧ n = G 11 4)) ∧ G1 11 4 = n + 1 ∧ (∀ y : Int, 0 ≤ y → y < 311 → G1 15 (311 * n + y) = G 13 y) ∧ ∀ k y : Int, 0 ≤ k → k < n → 0 ≤ y → y < 311 → G1 15 (311 * k + y) = G 15 (311 * (k + d) + y)
def endsP (G : GG) (a r : Int) (G1 : GG) : Prop := (¬ G 11 8 = 0 ∧ r = 0 ∧ G1 = setG G 11 7 (G 11 8)) ∨ (G 11 8 = 0 ∧ r = a ∧ G1 11 7 = 0 ∧ svM G G1 ∧ sameB (fun x y => x = 15 ∨ (x = 11 ∧ (y = 4 ∨ y = 7))) G G1)
abbrev bdS : Int → Int → Prop := fun x y => x = 12 ∨ x = 14 ∨ x = 17 ∨ x = 18 ∨ x = 20 ∨ (x = 11 ∧ y = 8)
abbrev outS0 : Int → Int → Prop := fun x y => x = 12 ∨ x = 13 ∨ x = 14 ∨ x = 17 ∨ x = 18 ∨ x = 20 ∨ (x = 11 ∧ y ≠ 4 ∧ y ≠ 6)
/-- G's page is saved in G1 -/
def svR (G G1 : GG) : Prop := ∃ d n : Int, ((G 11 4 = 4 ∧ d = 1 ∧ n = 3) ∨ (G 11 4 < 4 ∧ d = 0 ∧ n = G 11 4)) ∧ G1 11 4 = n + 1 ∧ (∀ y : Int, 0 ≤ y → y < 311 → G1 15 (311 * n + y) = G 12 y) ∧ ∀ k y : Int, 0 ≤ k → k < n → 0 ≤ y → y < 311 → G1 15 (311 * k + y) = G 15 (311 * (k + d) + y)
/-- the end of a call that may be refused: H is the heap behind its body, a the body's answer -/
def finM (G H : GG) (a r : Int) (G1 : GG) : Prop := (∀ y, G1 12 y = H 12 y) ∧ ((¬ H 11 8 = 0 ∧ r = 0 ∧ G1 11 7 = H 11 8 ∧ sameB outS0 G G1) ∨ (H 11 8 = 0 ∧ r = a ∧ G1 11 7 = 0 ∧ svR G G1 ∧ sameB (fun x y => outS0 x y ∨ x = 15 ∨ (x = 11 ∧ y = 4)) G G1))
def faceM (G : GG) (B : GG → Int → GG → Prop) (r : Int) (G1 : GG) : Prop := ∃ (H8 H : GG) (a : Int), (∀ y, H8 12 y = G 12 y) ∧ H8 11 8 = 0 ∧ B H8 a H ∧ finM G H a r G1
theorem fin_of {G H8 H G1 : GG} {a r : Int} (s8 : holdP G H8) (fr : sameB bdS H8 H) (hA : endsP H a r G1) : finM G H a r G1 := by
  obtain ⟨a1, a2, a3⟩ := s8
  have e4 : H 11 4 = G 11 4 := (fr 11 4 (by omega)).trans (a3 11 4 (by omega))
  rcases hA with ⟨b1, b2, rfl⟩ | ⟨b1, b2, b3, b4, b5⟩
  · refine ⟨fun y => setG_ne (by omega), Or.inl ⟨b1, b2, setG_same _ _ _ _, fun x y z => ?_⟩⟩
    exact (setG_ne (by omega)).trans ((fr x y (by omega)).trans (a3 x y (by omega)))
  · refine ⟨fun y => b5 12 y (by omega), Or.inr ⟨b1, b2, b3, ?_, fun x y z => ?_⟩⟩
    · obtain ⟨d, n, c1, c2, c3, c4⟩ := b4
      refine ⟨d, n, by omega, c2, fun y z0 z1 => ?_, fun k y z0 z1 z2 z3 => ?_⟩
      · rw [c3 y z0 z1, fr 13 y (by omega), a2 y z0 z1]
      · rw [c4 k y z0 z1 z2 z3, fr 15 _ (by omega), a3 15 _ (by omega)]
    · exact (b5 x y (by omega)).trans ((fr x y (by omega)).trans (a3 x y (by omega)))
theorem fin_to {G H8 H G1 : GG} {B : GG → Int → GG → Prop} {a r : Int} (s8 : holdP G H8) (hB : B H8 a H) (fr : sameB bdS H8 H) (hA : endsP H a r G1) : faceM G B r G1 :=
  ⟨H8, H, a, fun y => s8.2.2 12 y (by omega), s8.1, hB, fin_of s8 fr hA⟩
theorem hold_row {G H8 : GG} (s8 : holdP G H8) : H8 12 = G 12 := funext fun y => s8.2.2 12 y (by omega)
theorem okP_row12 {G H : GG} (h : H 12 = G 12) (o : okP G 12) : okP H 12 := by
  unfold okP at *
  rw [h]
  exact o
set_option maxHeartbeats 4000000 in
set_option maxRecDepth 100000 in
theorem c_holdM {l : Launch} {D : va_G} {C : Nat → ClassId} {T : Nat → Nat} {ad : Int → Nat} (G : GG)  : MC l yX6_hold cX6_hold 1 none 1 24 0 0 D (tyC C) T [.ref (ad 108)] (cw ad C G) (RV ad C (holdP G)) := by
  refine mc_of (by decide +kernel) (Nat.le_of_ble_eq_true rfl) rfl ?_
  refine aw_aload_n (q := 1) 0 dX6_hold_0 rfl rfl rfl ?_
  refine aw_iconst (q := 2) dX6_hold_1 rfl ?_
  refine p_mod_code (q := 5) wf_RX6_52 dX6_hold_2 rfl ?_
  refine aw_aload_n (q := 6) 0 dX6_hold_5 rfl rfl rfl ?_
  refine g_mod_p (q := 9) wf_RX6_7 dX6_hold_6 rfl ?_
  refine aw_iconst (q := 10) dX6_hold_9 rfl ?_
  refine aw_aload_n (q := 11) 0 dX6_hold_10 rfl rfl rfl ?_
  refine g_mod_aside (q := 14) wf_RX6_13 dX6_hold_11 rfl ?_
  refine aw_iconst (q := 15) dX6_hold_14 rfl ?_
  refine cs_V (q := 18) (As := [.ref (ad 109), .int (iI 0), .ref (ad 110), .int (iI 0)]) 4 (c_bring (T := T) (D := D) (setG G 11 8 0) (ar_109 ad C) (ar_110 ad C) (by omega) (by omega) (by omega) (by omega)) (fun _ h => h) wc_X6_bring wm_RX6_55 wt_X6_bring wn_X6 (by decide) rfl ⟨Nat.le_of_ble_eq_true rfl, Nat.le_of_ble_eq_true rfl⟩ ⟨Nat.le_of_ble_eq_true rfl, Nat.le_of_ble_eq_true rfl⟩ (Nat.le_of_ble_eq_true rfl) dX6_hold_15 rfl (fun G9 h9 => ?_)
  rw [h9]
  exact rt_v rfl (Nat.le_refl _) (Nat.le_refl _) (⟨(cpG_ne (by omega)).trans (setG_same _ _ _ _), fun y z0 z1 => (cpG_in (by omega)).trans ((setG_ne (by omega)).trans (congrArg (G 12) (by omega))), fun x y z => (cpG_ne (by omega)).trans (setG_ne (by omega))⟩) dX6_hold_18
set_option maxHeartbeats 4000000 in
set_option maxRecDepth 100000 in
theorem L_ends {l : Launch} {D : va_G} {C : Nat → ClassId} {T : Nat → Nat} {ad : Int → Nat} (G K : GG) (hKe : K = setG G 11 7 (G 11 8)) {a : Int} (h8 : G 11 8 = 0) (h4 : G 11 4 = 4) : ∀ (n : Nat) (k : Int), (0 ≤ k ∧ k ≤ 933) → 933 - k < n → AW l RX6 "ends" cX6_ends 3 (some .int) (fun _ => True) { frames := 1, cells := 0, slots := 0, locals := 24 } (hvE D (RI ad C (fun r G1 => endsP G a r G1)) (cw ad C G) 0 0) D (tyC C) (hvZ T (cw ad C G)) (cw ad C G) 27 [(0, .ref (ad 108)), (1, .int (iI a)), (2, .int (iI k))] [] (cw ad C ((shS K k))) 0 0 := by
  intro n
  induction n with
  | zero => intro k hk hn; exact absurd hn (by omega)
  | succ n ih =>
    intro k hk hn
    refine aw_iload_n (q := 28) 2 dX6_ends_27 rfl rfl rfl ?_
    refine aw_sipush (q := 31) dX6_ends_28 rfl (by decide) ?_
    refine aw_icmp_ge (q := 34) dX6_ends_31 rfl (t := 56) (by decide) (by omega) (by omega) (fun y1 => ?_) (fun y2 => ?_)
    · refine aw_aload_n (q := 57) 0 dX6_ends_56 rfl rfl rfl ?_
      refine aw_dup (q := 58) dX6_ends_57 rfl rfl ?_
      refine g_mod_states (q := 61) (v := 4) (((shS_ne (by omega)).trans (by rw [hKe]; exact (setG_ne (by omega)).trans h4))) wf_RX6_59 dX6_ends_58 rfl ?_
      refine aw_iconst (q := 62) dX6_ends_61 rfl ?_
      refine ae_isub (q := 63) 3 (by omega) dX6_ends_62 rfl ?_
      refine p_mod_states (q := 66) wf_RX6_59 dX6_ends_63 rfl ?_
      refine aw_aload_n (q := 67) 0 dX6_ends_66 rfl rfl rfl ?_
      refine g_mod_aside (q := 70) wf_RX6_13 dX6_ends_67 rfl ?_
      refine aw_iconst (q := 71) dX6_ends_70 rfl ?_
      refine aw_aload_n (q := 72) 0 dX6_ends_71 rfl rfl rfl ?_
      refine g_mod_saved (q := 75) wf_RX6_19 dX6_ends_72 rfl ?_
      refine aw_sipush (q := 78) dX6_ends_75 rfl (by decide) ?_
      refine aw_aload_n (q := 79) 0 dX6_ends_78 rfl rfl rfl ?_
      refine g_mod_states (q := 82) (v := 3) (setG_same _ _ _ _) wf_RX6_59 dX6_ends_79 rfl ?_
      refine ae_imul (q := 83) 933 (by omega) dX6_ends_82 rfl ?_
      refine cs_V (q := 86) (As := [.ref (ad 110), .int (iI 0), .ref (ad 112), .int (iI 933)]) 4 (c_bring (T := T) (D := D) (setG ((shS K k)) 11 4 3) (ar_110 ad C) (ar_112 ad C) (by omega) (by omega) (by omega) (by omega)) (fun _ h => h) wc_X6_bring wm_RX6_55 wt_X6_bring wn_X6 (by decide) rfl ⟨Nat.le_of_ble_eq_true rfl, Nat.le_of_ble_eq_true rfl⟩ ⟨Nat.le_of_ble_eq_true rfl, Nat.le_of_ble_eq_true rfl⟩ (Nat.le_of_ble_eq_true rfl) dX6_ends_83 rfl (fun G9 h9 => ?_)
      rw [h9]
      refine aw_aload_n (q := 87) 0 dX6_ends_86 rfl rfl rfl ?_
      refine aw_dup (q := 88) dX6_ends_87 rfl rfl ?_
      refine g_mod_states (q := 91) (v := 3) ((if_neg (by omega)).trans (setG_same _ _ _ _)) wf_RX6_59 dX6_ends_88 rfl ?_
      refine aw_iconst (q := 92) dX6_ends_91 rfl ?_
      refine ae_iadd (q := 93) 4 (by omega) dX6_ends_92 rfl ?_
      refine p_mod_states (q := 96) wf_RX6_59 dX6_ends_93 rfl ?_
      refine aw_iload_n (q := 97) 1 dX6_ends_96 rfl rfl rfl ?_
      exact rt_i rfl (Nat.le_refl _) (Nat.le_refl _) (by
          rw [show k = 933 by omega, hKe]
          refine Or.inr ⟨h8, rfl, ?_, ⟨1, 3, Or.inl ⟨h4, rfl, rfl⟩, setG_same _ _ _ _, fun y z0 z1 => ?_, fun k2 y z0 z1 z2 z3 => ?_⟩, fun x y z => ?_⟩
          · exact (setG_ne (by omega)).trans ((cpG_ne (by omega)).trans ((setG_ne (by omega)).trans ((shS_ne (by omega)).trans ((setG_same _ _ _ _).trans h8))))
          · exact (setG_ne (by omega)).trans ((cpG_in (by omega)).trans ((setG_ne (by omega)).trans ((shS_ne (by omega)).trans ((setG_ne (by omega)).trans (congrArg (G 13) (by omega))))))
          · refine (setG_ne (by omega)).trans ((cpG_ne (by omega)).trans ((setG_ne (by omega)).trans ((shS_in (by omega)).trans ((setG_ne (by omega)).trans (congrArg (G 15) (by omega))))))
          · exact (setG_ne (by omega)).trans ((cpG_ne (by omega)).trans ((setG_ne (by omega)).trans ((shS_ne (by omega)).trans (setG_ne (by omega)))))) dX6_ends_97
    · refine aw_aload_n (q := 35) 0 dX6_ends_34 rfl rfl rfl ?_
      refine g_mod_saved (q := 38) wf_RX6_19 dX6_ends_35 rfl ?_
      refine aw_iload_n (q := 39) 2 dX6_ends_38 rfl rfl rfl ?_
      refine aw_aload_n (q := 40) 0 dX6_ends_39 rfl rfl rfl ?_
      refine g_mod_saved (q := 43) wf_RX6_19 dX6_ends_40 rfl ?_
      refine aw_iload_n (q := 44) 2 dX6_ends_43 rfl rfl rfl ?_
      refine aw_sipush (q := 47) dX6_ends_44 rfl (by decide) ?_
      refine ae_iadd (q := 48) (k + 311) (by omega) dX6_ends_47 rfl ?_
      refine aw_cial (q := 49) (v := (K 15 (k + 311))) (k + 311) (ar_112 ad C) (by omega) (by omega) ((shS_ne (by omega))) dX6_ends_48 rfl ?_
      refine aw_cias (q := 50) k (ar_112 ad C) (by omega) (by omega) dX6_ends_49 rfl ?_
      refine ae_iinc (q := 53) (lv2 := [(0, .ref (ad 108)), (1, .int (iI a)), (2, .int (iI (k + 1)))]) 2 [1, 2, 0] (k + 1) (by omega) dX6_ends_50 rfl rfl (by decide) rfl ?_
      refine aw_goto (q := 27) dX6_ends_53 (by decide) ?_
      rw [shS_succ _ hk.1]
      exact ih (k + 1) (by omega) (by omega)
set_option maxHeartbeats 4000000 in
set_option maxRecDepth 100000 in
theorem c_ends {l : Launch} {D : va_G} {C : Nat → ClassId} {T : Nat → Nat} {ad : Int → Nat} (G : GG) {a : Int} (h4 : 0 ≤ G 11 4 ∧ G 11 4 ≤ 4) (hc8 : -2147483648 ≤ G 11 8 ∧ G 11 8 ≤ 2147483647) : MC l yX6_ends cX6_ends 3 (some .int) 1 24 0 0 D (tyC C) T [.ref (ad 108), .int (iI a)] (cw ad C G) (RI ad C (fun r G1 => endsP G a r G1)) := by
  refine mc_of (by decide +kernel) (Nat.le_of_ble_eq_true rfl) rfl ?_
  refine aw_aload_n (q := 1) 0 dX6_ends_0 rfl rfl rfl ?_
  refine aw_aload_n (q := 2) 0 dX6_ends_1 rfl rfl rfl ?_
  refine g_mod_code (q := 5) (v := (G 11 8)) rfl wf_RX6_52 dX6_ends_2 rfl ?_
  refine p_mod_thrown (q := 8) wf_RX6_38 dX6_ends_5 rfl ?_
  refine aw_aload_n (q := 9) 0 dX6_ends_8 rfl rfl rfl ?_
  refine g_mod_code (q := 12) (v := (G 11 8)) (setG_ne (by omega)) wf_RX6_52 dX6_ends_9 rfl ?_
  refine aw_if_eq (q := 15) dX6_ends_12 rfl (t := 17) (by decide) hc8 (fun y1 => ?_) (fun y2 => ?_)
  · refine aw_aload_n (q := 18) 0 dX6_ends_17 rfl rfl rfl ?_
    refine g_mod_states (q := 21) (v := (G 11 4)) (setG_ne (by omega)) wf_RX6_59 dX6_ends_18 rfl ?_
    refine aw_iconst (q := 22) dX6_ends_21 rfl ?_
    refine aw_icmp_ne (q := 25) dX6_ends_22 rfl (t := 66) (by decide) (by omega) (by omega) (fun y3 => ?_) (fun y4 => ?_)
    · refine aw_aload_n (q := 67) 0 dX6_ends_66 rfl rfl rfl ?_
      refine g_mod_aside (q := 70) wf_RX6_13 dX6_ends_67 rfl ?_
      refine aw_iconst (q := 71) dX6_ends_70 rfl ?_
      refine aw_aload_n (q := 72) 0 dX6_ends_71 rfl rfl rfl ?_
      refine g_mod_saved (q := 75) wf_RX6_19 dX6_ends_72 rfl ?_
      refine aw_sipush (q := 78) dX6_ends_75 rfl (by decide) ?_
      refine aw_aload_n (q := 79) 0 dX6_ends_78 rfl rfl rfl ?_
      refine g_mod_states (q := 82) (v := (G 11 4)) (setG_ne (by omega)) wf_RX6_59 dX6_ends_79 rfl ?_
      refine ae_imul (q := 83) (311 * (G 11 4)) (by omega) dX6_ends_82 rfl ?_
      refine cs_V (q := 86) (As := [.ref (ad 110), .int (iI 0), .ref (ad 112), .int (iI (311 * (G 11 4)))]) 4 (c_bring (T := T) (D := D) (setG G 11 7 (G 11 8)) (ar_110 ad C) (ar_112 ad C) (by omega) (by omega) (by omega) (by omega)) (fun _ h => h) wc_X6_bring wm_RX6_55 wt_X6_bring wn_X6 (by decide) rfl ⟨Nat.le_of_ble_eq_true rfl, Nat.le_of_ble_eq_true rfl⟩ ⟨Nat.le_of_ble_eq_true rfl, Nat.le_of_ble_eq_true rfl⟩ (Nat.le_of_ble_eq_true rfl) dX6_ends_83 rfl (fun G9 h9 => ?_)
      rw [h9]
      refine aw_aload_n (q := 87) 0 dX6_ends_86 rfl rfl rfl ?_
      refine aw_dup (q := 88) dX6_ends_87 rfl rfl ?_
      refine g_mod_states (q := 91) (v := (G 11 4)) ((if_neg (by omega)).trans (setG_ne (by omega))) wf_RX6_59 dX6_ends_88 rfl ?_
      refine aw_iconst (q := 92) dX6_ends_91 rfl ?_
      refine ae_iadd (q := 93) ((G 11 4) + 1) (by omega) dX6_ends_92 rfl ?_
      refine p_mod_states (q := 96) wf_RX6_59 dX6_ends_93 rfl ?_
      refine aw_iload_n (q := 97) 1 dX6_ends_96 rfl rfl rfl ?_
      exact rt_i rfl (Nat.le_refl _) (Nat.le_refl _) (by
          refine Or.inr ⟨by omega, rfl, ?_, ⟨0, G 11 4, Or.inr ⟨by omega, rfl, rfl⟩, setG_same _ _ _ _, fun y z0 z1 => ?_, fun k2 y z0 z1 z2 z3 => ?_⟩, fun x y z => ?_⟩
          · exact (setG_ne (by omega)).trans ((cpG_ne (by omega)).trans ((setG_same _ _ _ _).trans (by omega)))
          · exact (setG_ne (by omega)).trans ((cpG_in (by omega)).trans ((setG_ne (by omega)).trans (congrArg (G 13) (by omega))))
          · exact (setG_ne (by omega)).trans ((cpG_ne (by omega)).trans ((setG_ne (by omega)).trans (congrArg (G 15) (by omega))))
          · exact (setG_ne (by omega)).trans ((cpG_ne (by omega)).trans (setG_ne (by omega)))) dX6_ends_97
    · refine aw_iconst (q := 26) dX6_ends_25 rfl ?_
      refine aw_istore_n (q := 27) (lv2 := [(0, .ref (ad 108)), (1, .int (iI a)), (2, .int (iI 0))]) [1, 2, 0] dX6_ends_26 rfl rfl (by decide) rfl rfl ?_
      have h9 := L_ends (l := l) (D := D) (T := T) (C := C) (ad := ad) G _ rfl (a := a) (by omega) (by omega) 934 0 (by omega) (by omega)
      rw [shS_0] at h9
      exact h9
  · refine aw_iconst (q := 16) dX6_ends_15 rfl ?_
    exact rt_i rfl (Nat.le_refl _) (Nat.le_refl _) (Or.inl ⟨by omega, rfl, rfl⟩) dX6_ends_16
