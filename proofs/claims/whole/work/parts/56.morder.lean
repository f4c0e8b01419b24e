/-! class CoilPricesModel: an order is read -/
abbrev okSt (B : Int → Int) (p d m : Int) : Prop := (48 ≤ B (p + 1) ∧ B (p + 1) ≤ d) ∧ B (p + 2) = 120 ∧ okNum B (p + 3) m ∧ B (nQ B (p + 3)) = 59
abbrev okBu (B : Int → Int) (p : Int) : Prop := (48 ≤ B (p + 1) ∧ B (p + 1) ≤ 55) ∧ okCo B (p + 2) ∧ B (p + 10) = 59
abbrev okHr (B : Int → Int) (p : Int) : Prop := okNum B (p + 1) 48 ∧ B (nQ B (p + 1)) = 59
def flSt (B : Int → Int) (p d m : Int) : Int := if ¬ (48 ≤ B (p + 1) ∧ B (p + 1) ≤ d) then p + 1 else if ¬ B (p + 2) = 120 then p + 2 else if ¬ okNum B (p + 3) m then fNum B (p + 3) else nQ B (p + 3)
def flBu (B : Int → Int) (p : Int) : Int := if ¬ (48 ≤ B (p + 1) ∧ B (p + 1) ≤ 55) then p + 1 else if ¬ okCo B (p + 2) then fCo B (p + 2) else p + 10
def flHr (B : Int → Int) (p : Int) : Int := if ¬ okNum B (p + 1) 48 then fNum B (p + 1) else nQ B (p + 1)
abbrev okOrd (B : Int → Int) (p : Int) : Prop := (B p = 115 ∧ okSt B p 55 20) ∨ (B p = 98 ∧ okBu B p) ∨ (B p = 102 ∧ okSt B p 51 30) ∨ (B p = 104 ∧ okHr B p)
def flt (B : Int → Int) (p : Int) : Int := if B p = 115 then flSt B p 55 20 else if B p = 98 then flBu B p else if B p = 102 then flSt B p 51 30 else if B p = 104 then flHr B p else p
def nxt (B : Int → Int) (p : Int) : Int := if B p = 115 then nQ B (p + 3) + 1 else if B p = 98 then p + 11 else if B p = 102 then nQ B (p + 3) + 1 else nQ B (p + 1) + 1
theorem nQ_b (B : Int → Int) (p : Int) : p + 1 ≤ nQ B p ∧ nQ B p ≤ p + 2 := by
  unfold nQ
  split <;> omega
abbrev roS_ : Int → Int → Prop := fun x y => (x = 11 ∧ 13 ≤ y ∧ y ≤ 17) ∨ (x = 18 ∧ 0 ≤ y ∧ y < 4)
set_option maxHeartbeats 4000000 in
set_option maxRecDepth 100000 in
theorem c_readCoinsM {l : Launch} {D : va_G} {C : Nat → ClassId} {T : Nat → Nat} {ad : Int → Nat} (G : GG) (o : okX G) {p : Int} (hp : G 11 13 = p) (h0 : 0 ≤ p) (h1 : p ≤ 150) : MC l yX6_readCoins cX6_readCoins 2 (some .boolean) 2 44 0 0 D (tyC C) T [.ref (ad 108)] (cw ad C G) (RI ad C (fun r G1 => (okCo (bM G) p ∧ r = 1 ∧ G1 11 13 = p + 8 ∧ (G1 18 0 = bM G (p + 1) - 48 ∧ G1 18 1 = bM G (p + 3) - 48 ∧ G1 18 2 = bM G (p + 5) - 48 ∧ G1 18 3 = bM G (p + 7) - 48) ∧ sameB (fun x y => (x = 11 ∧ (y = 13 ∨ y = 16)) ∨ (x = 18 ∧ 0 ≤ y ∧ y < 4)) G G1) ∨ (¬ okCo (bM G) p ∧ r = 0 ∧ G1 11 13 = fCo (bM G) p ∧ sameB (fun x y => (x = 11 ∧ (y = 13 ∨ y = 16)) ∨ (x = 18 ∧ 0 ≤ y ∧ y < 4)) G G1))) := by
  refine mc_of (by decide +kernel) (Nat.le_of_ble_eq_true rfl) rfl ?_
  have o1 := o.1
  refine aw_iconst (q := 1) dX6_readCoins_0 rfl ?_
  refine aw_istore_n (q := 2) (lv2 := [(0, .ref (ad 108)), (1, .int (iI 0))]) [1, 0] dX6_readCoins_1 rfl rfl (by decide) rfl rfl ?_
  refine aw_iload_n (q := 3) 1 dX6_readCoins_2 rfl rfl rfl ?_
  refine aw_iconst (q := 4) dX6_readCoins_3 rfl ?_
  refine aw_icmp_ge (q := 7) dX6_readCoins_4 rfl (t := 43) (by decide) (by omega) (by omega) (fun h => absurd h (by omega)) (fun _ => ?_)
  refine aw_aload_n (q := 8) 0 dX6_readCoins_7 rfl rfl rfl ?_
  refine aw_bipush (q := 10) dX6_readCoins_8 rfl (by decide) ?_
  by_cases q1 : bM G p = 44
  · refine cv_I (q := 13) (CC := "") (id := 108) (As := [.int (iI 44)]) 1 (c_passesY (T := T) (D := D) (ad := ad) G (okX_congr (rfl) (fun y => rfl) o) (p := p) ((hp)) (by omega) (by omega) (c := 44) (by omega) (by rw [bM_congr (H := G) (G := G) (rfl) (fun y => rfl)]; exact q1)) (fun _ h => h) (by omega) (cell_108 ad C _) rfl wc_X6_passes wm_RX6_184 wi_X6_passes ws_X6_passes wn_X6 (by decide) rfl ⟨Nat.le_of_ble_eq_true rfl, Nat.le_of_ble_eq_true rfl⟩ ⟨Nat.le_of_ble_eq_true rfl, Nat.le_of_ble_eq_true rfl⟩ (Nat.le_of_ble_eq_true rfl) dX6_readCoins_10 rfl (fun r9 G9 h9 => ?_)
    rw [h9.1, h9.2]
    clear h9
    have l1 := bM_lt o (p := p) (by omega)
    refine aw_if_eq (q := 16) dX6_readCoins_13 rfl (t := 25) (by decide) (by omega) (fun h => absurd h (by omega)) (fun _ => ?_)
    refine aw_aload_n (q := 17) 0 dX6_readCoins_16 rfl rfl rfl ?_
    refine aw_bipush (q := 19) dX6_readCoins_17 rfl (by decide) ?_
    by_cases q2 : (48 ≤ bM G (p + 1) ∧ bM G (p + 1) ≤ 57)
    · refine cv_I (q := 22) (CC := "") (id := 108) (As := [.int (iI 57)]) 1 (c_readDigitMY (T := T) (D := D) (ad := ad) (setG G 11 13 (p + 1)) (okX_congr ((setG_ne (by omega))) (fun y => (setG_ne (by omega))) o) (p := p + 1) ((setG_same _ _ _ _)) (by omega) (by omega) (m := 57) (by omega) (by rw [bM_congr (H := (setG G 11 13 (p + 1))) (G := G) ((setG_ne (by omega))) (fun y => (setG_ne (by omega)))]; exact q2)) (fun _ h => h) (by omega) (cell_108 ad C _) rfl wc_X6_readDigit wm_RX6_187 wi_X6_readDigit ws_X6_readDigit wn_X6 (by decide) rfl ⟨Nat.le_of_ble_eq_true rfl, Nat.le_of_ble_eq_true rfl⟩ ⟨Nat.le_of_ble_eq_true rfl, Nat.le_of_ble_eq_true rfl⟩ (Nat.le_of_ble_eq_true rfl) dX6_readCoins_19 rfl (fun r9 G9 h9 => ?_)
      rw [bM_congr (H := (setG G 11 13 (p + 1))) (G := G) ((setG_ne (by omega))) (fun y => (setG_ne (by omega)))] at h9
      rw [h9.1, h9.2]
      clear h9
      rw [show (p + 1 + 1 : Int) = p + 2 by omega]
      have l2 := bM_lt o (p := p + 1) (by omega)
      refine aw_if_ne (q := 25) dX6_readCoins_22 rfl (t := 27) (by decide) (by omega) (fun _ => ?_) (fun h => absurd h (by omega))
      refine aw_aload_n (q := 28) 0 dX6_readCoins_27 rfl rfl rfl ?_
      refine g_mod_put (q := 31) wf_RX6_28 dX6_readCoins_28 rfl ?_
      refine aw_iload_n (q := 32) 1 dX6_readCoins_31 rfl rfl rfl ?_
      refine aw_aload_n (q := 33) 0 dX6_readCoins_32 rfl rfl rfl ?_
      refine g_mod_digit (q := 36) (v := (bM G (p + 1) - 48)) ((setG_ne (by omega)).trans (setG_same _ _ _ _)) wf_RX6_175 dX6_readCoins_33 rfl ?_
      refine aw_cias (q := 37) 0 (ar_115 ad C) (by omega) (by omega) dX6_readCoins_36 rfl ?_
      refine ae_iinc (q := 40) (lv2 := [(0, .ref (ad 108)), (1, .int (iI 1))]) 1 [1, 0] 1 (by omega) dX6_readCoins_37 rfl rfl (by decide) rfl ?_
      refine aw_goto (q := 2) dX6_readCoins_40 (by decide) ?_
      refine aw_iload_n (q := 3) 1 dX6_readCoins_2 rfl rfl rfl ?_
      refine aw_iconst (q := 4) dX6_readCoins_3 rfl ?_
      refine aw_icmp_ge (q := 7) dX6_readCoins_4 rfl (t := 43) (by decide) (by omega) (by omega) (fun h => absurd h (by omega)) (fun _ => ?_)
      refine aw_aload_n (q := 8) 0 dX6_readCoins_7 rfl rfl rfl ?_
      refine aw_bipush (q := 10) dX6_readCoins_8 rfl (by decide) ?_
      by_cases q3 : bM G (p + 2) = 44
      · refine cv_I (q := 13) (CC := "") (id := 108) (As := [.int (iI 44)]) 1 (c_passesY (T := T) (D := D) (ad := ad) (setG (setG (setG (setG G 11 13 (p + 1)) 11 16 ((bM G (p + 1) - 48))) 11 13 (p + 2)) 18 0 ((bM G (p + 1) - 48))) (okX_congr (((setG_ne (by omega)).trans ((setG_ne (by omega)).trans ((setG_ne (by omega)).trans (setG_ne (by omega)))))) (fun y => ((setG_ne (by omega)).trans ((setG_ne (by omega)).trans ((setG_ne (by omega)).trans (setG_ne (by omega)))))) o) (p := p + 2) (((setG_ne (by omega)).trans (setG_same _ _ _ _))) (by omega) (by omega) (c := 44) (by omega) (by rw [bM_congr (H := (setG (setG (setG (setG G 11 13 (p + 1)) 11 16 ((bM G (p + 1) - 48))) 11 13 (p + 2)) 18 0 ((bM G (p + 1) - 48)))) (G := G) (((setG_ne (by omega)).trans ((setG_ne (by omega)).trans ((setG_ne (by omega)).trans (setG_ne (by omega)))))) (fun y => ((setG_ne (by omega)).trans ((setG_ne (by omega)).trans ((setG_ne (by omega)).trans (setG_ne (by omega))))))]; exact q3)) (fun _ h => h) (by omega) (cell_108 ad C _) rfl wc_X6_passes wm_RX6_184 wi_X6_passes ws_X6_passes wn_X6 (by decide) rfl ⟨Nat.le_of_ble_eq_true rfl, Nat.le_of_ble_eq_true rfl⟩ ⟨Nat.le_of_ble_eq_true rfl, Nat.le_of_ble_eq_true rfl⟩ (Nat.le_of_ble_eq_true rfl) dX6_readCoins_10 rfl (fun r9 G9 h9 => ?_)
        rw [h9.1, h9.2]
        clear h9
        rw [show (p + 2 + 1 : Int) = p + 3 by omega]
        have l3 := bM_lt o (p := p + 2) (by omega)
        refine aw_if_eq (q := 16) dX6_readCoins_13 rfl (t := 25) (by decide) (by omega) (fun h => absurd h (by omega)) (fun _ => ?_)
        refine aw_aload_n (q := 17) 0 dX6_readCoins_16 rfl rfl rfl ?_
        refine aw_bipush (q := 19) dX6_readCoins_17 rfl (by decide) ?_
        by_cases q4 : (48 ≤ bM G (p + 3) ∧ bM G (p + 3) ≤ 57)
        · refine cv_I (q := 22) (CC := "") (id := 108) (As := [.int (iI 57)]) 1 (c_readDigitMY (T := T) (D := D) (ad := ad) (setG (setG (setG (setG (setG G 11 13 (p + 1)) 11 16 ((bM G (p + 1) - 48))) 11 13 (p + 2)) 18 0 ((bM G (p + 1) - 48))) 11 13 (p + 3)) (okX_congr (((setG_ne (by omega)).trans ((setG_ne (by omega)).trans ((setG_ne (by omega)).trans ((setG_ne (by omega)).trans (setG_ne (by omega))))))) (fun y => ((setG_ne (by omega)).trans ((setG_ne (by omega)).trans ((setG_ne (by omega)).trans ((setG_ne (by omega)).trans (setG_ne (by omega))))))) o) (p := p + 3) ((setG_same _ _ _ _)) (by omega) (by omega) (m := 57) (by omega) (by rw [bM_congr (H := (setG (setG (setG (setG (setG G 11 13 (p + 1)) 11 16 ((bM G (p + 1) - 48))) 11 13 (p + 2)) 18 0 ((bM G (p + 1) - 48))) 11 13 (p + 3))) (G := G) (((setG_ne (by omega)).trans ((setG_ne (by omega)).trans ((setG_ne (by omega)).trans ((setG_ne (by omega)).trans (setG_ne (by omega))))))) (fun y => ((setG_ne (by omega)).trans ((setG_ne (by omega)).trans ((setG_ne (by omega)).trans ((setG_ne (by omega)).trans (setG_ne (by omega)))))))]; exact q4)) (fun _ h => h) (by omega) (cell_108 ad C _) rfl wc_X6_readDigit wm_RX6_187 wi_X6_readDigit ws_X6_readDigit wn_X6 (by decide) rfl ⟨Nat.le_of_ble_eq_true rfl, Nat.le_of_ble_eq_true rfl⟩ ⟨Nat.le_of_ble_eq_true rfl, Nat.le_of_ble_eq_true rfl⟩ (Nat.le_of_ble_eq_true rfl) dX6_readCoins_19 rfl (fun r9 G9 h9 => ?_)
          rw [bM_congr (H := (setG (setG (setG (setG (setG G 11 13 (p + 1)) 11 16 ((bM G (p + 1) - 48))) 11 13 (p + 2)) 18 0 ((bM G (p + 1) - 48))) 11 13 (p + 3))) (G := G) (((setG_ne (by omega)).trans ((setG_ne (by omega)).trans ((setG_ne (by omega)).trans ((setG_ne (by omega)).trans (setG_ne (by omega))))))) (fun y => ((setG_ne (by omega)).trans ((setG_ne (by omega)).trans ((setG_ne (by omega)).trans ((setG_ne (by omega)).trans (setG_ne (by omega)))))))] at h9
          rw [h9.1, h9.2]
          clear h9
          rw [show (p + 3 + 1 : Int) = p + 4 by omega]
          have l4 := bM_lt o (p := p + 3) (by omega)
          refine aw_if_ne (q := 25) dX6_readCoins_22 rfl (t := 27) (by decide) (by omega) (fun _ => ?_) (fun h => absurd h (by omega))
          refine aw_aload_n (q := 28) 0 dX6_readCoins_27 rfl rfl rfl ?_
          refine g_mod_put (q := 31) wf_RX6_28 dX6_readCoins_28 rfl ?_
          refine aw_iload_n (q := 32) 1 dX6_readCoins_31 rfl rfl rfl ?_
          refine aw_aload_n (q := 33) 0 dX6_readCoins_32 rfl rfl rfl ?_
          refine g_mod_digit (q := 36) (v := (bM G (p + 3) - 48)) ((setG_ne (by omega)).trans (setG_same _ _ _ _)) wf_RX6_175 dX6_readCoins_33 rfl ?_
          refine aw_cias (q := 37) 1 (ar_115 ad C) (by omega) (by omega) dX6_readCoins_36 rfl ?_
          refine ae_iinc (q := 40) (lv2 := [(0, .ref (ad 108)), (1, .int (iI 2))]) 1 [1, 0] 2 (by omega) dX6_readCoins_37 rfl rfl (by decide) rfl ?_
          refine aw_goto (q := 2) dX6_readCoins_40 (by decide) ?_
          refine aw_iload_n (q := 3) 1 dX6_readCoins_2 rfl rfl rfl ?_
          refine aw_iconst (q := 4) dX6_readCoins_3 rfl ?_
          refine aw_icmp_ge (q := 7) dX6_readCoins_4 rfl (t := 43) (by decide) (by omega) (by omega) (fun h => absurd h (by omega)) (fun _ => ?_)
          refine aw_aload_n (q := 8) 0 dX6_readCoins_7 rfl rfl rfl ?_
          refine aw_bipush (q := 10) dX6_readCoins_8 rfl (by decide) ?_
          by_cases q5 : bM G (p + 4) = 44
          · refine cv_I (q := 13) (CC := "") (id := 108) (As := [.int (iI 44)]) 1 (c_passesY (T := T) (D := D) (ad := ad) (setG (setG (setG (setG (setG (setG (setG (setG G 11 13 (p + 1)) 11 16 ((bM G (p + 1) - 48))) 11 13 (p + 2)) 18 0 ((bM G (p + 1) - 48))) 11 13 (p + 3)) 11 16 ((bM G (p + 3) - 48))) 11 13 (p + 4)) 18 1 ((bM G (p + 3) - 48))) (okX_congr (((setG_ne (by omega)).trans ((setG_ne (by omega)).trans ((setG_ne (by omega)).trans ((setG_ne (by omega)).trans ((setG_ne (by omega)).trans ((setG_ne (by omega)).trans ((setG_ne (by omega)).trans (setG_ne (by omega)))))))))) (fun y => ((setG_ne (by omega)).trans ((setG_ne (by omega)).trans ((setG_ne (by omega)).trans ((setG_ne (by omega)).trans ((setG_ne (by omega)).trans ((setG_ne (by omega)).trans ((setG_ne (by omega)).trans (setG_ne (by omega)))))))))) o) (p := p + 4) (((setG_ne (by omega)).trans (setG_same _ _ _ _))) (by omega) (by omega) (c := 44) (by omega) (by rw [bM_congr (H := (setG (setG (setG (setG (setG (setG (setG (setG G 11 13 (p + 1)) 11 16 ((bM G (p + 1) - 48))) 11 13 (p + 2)) 18 0 ((bM G (p + 1) - 48))) 11 13 (p + 3)) 11 16 ((bM G (p + 3) - 48))) 11 13 (p + 4)) 18 1 ((bM G (p + 3) - 48)))) (G := G) (((setG_ne (by omega)).trans ((setG_ne (by omega)).trans ((setG_ne (by omega)).trans ((setG_ne (by omega)).trans ((setG_ne (by omega)).trans ((setG_ne (by omega)).trans ((setG_ne (by omega)).trans (setG_ne (by omega)))))))))) (fun y => ((setG_ne (by omega)).trans ((setG_ne (by omega)).trans ((setG_ne (by omega)).trans ((setG_ne (by omega)).trans ((setG_ne (by omega)).trans ((setG_ne (by omega)).trans ((setG_ne (by omega)).trans (setG_ne (by omega))))))))))]; exact q5)) (fun _ h => h) (by omega) (cell_108 ad C _) rfl wc_X6_passes wm_RX6_184 wi_X6_passes ws_X6_passes wn_X6 (by decide) rfl ⟨Nat.le_of_ble_eq_true rfl, Nat.le_of_ble_eq_true rfl⟩ ⟨Nat.le_of_ble_eq_true rfl, Nat.le_of_ble_eq_true rfl⟩ (Nat.le_of_ble_eq_true rfl) dX6_readCoins_10 rfl (fun r9 G9 h9 => ?_)
            rw [h9.1, h9.2]
            clear h9
            rw [show (p + 4 + 1 : Int) = p + 5 by omega]
            have l5 := bM_lt o (p := p + 4) (by omega)
            refine aw_if_eq (q := 16) dX6_readCoins_13 rfl (t := 25) (by decide) (by omega) (fun h => absurd h (by omega)) (fun _ => ?_)
            refine aw_aload_n (q := 17) 0 dX6_readCoins_16 rfl rfl rfl ?_
            refine aw_bipush (q := 19) dX6_readCoins_17 rfl (by decide) ?_
            by_cases q6 : (48 ≤ bM G (p + 5) ∧ bM G (p + 5) ≤ 57)
            · refine cv_I (q := 22) (CC := "") (id := 108) (As := [.int (iI 57)]) 1 (c_readDigitMY (T := T) (D := D) (ad := ad) (setG (setG (setG (setG (setG (setG (setG (setG (setG G 11 13 (p + 1)) 11 16 ((bM G (p + 1) - 48))) 11 13 (p + 2)) 18 0 ((bM G (p + 1) - 48))) 11 13 (p + 3)) 11 16 ((bM G (p + 3) - 48))) 11 13 (p + 4)) 18 1 ((bM G (p + 3) - 48))) 11 13 (p + 5)) (okX_congr (((setG_ne (by omega)).trans ((setG_ne (by omega)).trans ((setG_ne (by omega)).trans ((setG_ne (by omega)).trans ((setG_ne (by omega)).trans ((setG_ne (by omega)).trans ((setG_ne (by omega)).trans ((setG_ne (by omega)).trans (setG_ne (by omega))))))))))) (fun y => ((setG_ne (by omega)).trans ((setG_ne (by omega)).trans ((setG_ne (by omega)).trans ((setG_ne (by omega)).trans ((setG_ne (by omega)).trans ((setG_ne (by omega)).trans ((setG_ne (by omega)).trans ((setG_ne (by omega)).trans (setG_ne (by omega))))))))))) o) (p := p + 5) ((setG_same _ _ _ _)) (by omega) (by omega) (m := 57) (by omega) (by rw [bM_congr (H := (setG (setG (setG (setG (setG (setG (setG (setG (setG G 11 13 (p + 1)) 11 16 ((bM G (p + 1) - 48))) 11 13 (p + 2)) 18 0 ((bM G (p + 1) - 48))) 11 13 (p + 3)) 11 16 ((bM G (p + 3) - 48))) 11 13 (p + 4)) 18 1 ((bM G (p + 3) - 48))) 11 13 (p + 5))) (G := G) (((setG_ne (by omega)).trans ((setG_ne (by omega)).trans ((setG_ne (by omega)).trans ((setG_ne (by omega)).trans ((setG_ne (by omega)).trans ((setG_ne (by omega)).trans ((setG_ne (by omega)).trans ((setG_ne (by omega)).trans (setG_ne (by omega))))))))))) (fun y => ((setG_ne (by omega)).trans ((setG_ne (by omega)).trans ((setG_ne (by omega)).trans ((setG_ne (by omega)).trans ((setG_ne (by omega)).trans ((setG_ne (by omega)).trans ((setG_ne (by omega)).trans ((setG_ne (by omega)).trans (setG_ne (by omega)))))))))))]; exact q6)) (fun _ h => h) (by omega) (cell_108 ad C _) rfl wc_X6_readDigit wm_RX6_187 wi_X6_readDigit ws_X6_readDigit wn_X6 (by decide) rfl ⟨Nat.le_of_ble_eq_true rfl, Nat.le_of_ble_eq_true rfl⟩ ⟨Nat.le_of_ble_eq_true rfl, Nat.le_of_ble_eq_true rfl⟩ (Nat.le_of_ble_eq_true rfl) dX6_readCoins_19 rfl (fun r9 G9 h9 => ?_)
              rw [bM_congr (H := (setG (setG (setG (setG (setG (setG (setG (setG (setG G 11 13 (p + 1)) 11 16 ((bM G (p + 1) - 48))) 11 13 (p + 2)) 18 0 ((bM G (p + 1) - 48))) 11 13 (p + 3)) 11 16 ((bM G (p + 3) - 48))) 11 13 (p + 4)) 18 1 ((bM G (p + 3) - 48))) 11 13 (p + 5))) (G := G) (((setG_ne (by omega)).trans ((setG_ne (by omega)).trans ((setG_ne (by omega)).trans ((setG_ne (by omega)).trans ((setG_ne (by omega)).trans ((setG_ne (by omega)).trans ((setG_ne (by omega)).trans ((setG_ne (by omega)).trans (setG_ne (by omega))))))))))) (fun y => ((setG_ne (by omega)).trans ((setG_ne (by omega)).trans ((setG_ne (by omega)).trans ((setG_ne (by omega)).trans ((setG_ne (by omega)).trans ((setG_ne (by omega)).trans ((setG_ne (by omega)).trans ((setG_ne (by omega)).trans (setG_ne (by omega)))))))))))] at h9
              rw [h9.1, h9.2]
              clear h9
              rw [show (p + 5 + 1 : Int) = p + 6 by omega]
              have l6 := bM_lt o (p := p + 5) (by omega)
              refine aw_if_ne (q := 25) dX6_readCoins_22 rfl (t := 27) (by decide) (by omega) (fun _ => ?_) (fun h => absurd h (by omega))
              refine aw_aload_n (q := 28) 0 dX6_readCoins_27 rfl rfl rfl ?_
              refine g_mod_put (q := 31) wf_RX6_28 dX6_readCoins_28 rfl ?_
              refine aw_iload_n (q := 32) 1 dX6_readCoins_31 rfl rfl rfl ?_
              refine aw_aload_n (q := 33) 0 dX6_readCoins_32 rfl rfl rfl ?_
              refine g_mod_digit (q := 36) (v := (bM G (p + 5) - 48)) ((setG_ne (by omega)).trans (setG_same _ _ _ _)) wf_RX6_175 dX6_readCoins_33 rfl ?_
              refine aw_cias (q := 37) 2 (ar_115 ad C) (by omega) (by omega) dX6_readCoins_36 rfl ?_
              refine ae_iinc (q := 40) (lv2 := [(0, .ref (ad 108)), (1, .int (iI 3))]) 1 [1, 0] 3 (by omega) dX6_readCoins_37 rfl rfl (by decide) rfl ?_
              refine aw_goto (q := 2) dX6_readCoins_40 (by decide) ?_
              refine aw_iload_n (q := 3) 1 dX6_readCoins_2 rfl rfl rfl ?_
              refine aw_iconst (q := 4) dX6_readCoins_3 rfl ?_
              refine aw_icmp_ge (q := 7) dX6_readCoins_4 rfl (t := 43) (by decide) (by omega) (by omega) (fun h => absurd h (by omega)) (fun _ => ?_)
              refine aw_aload_n (q := 8) 0 dX6_readCoins_7 rfl rfl rfl ?_
              refine aw_bipush (q := 10) dX6_readCoins_8 rfl (by decide) ?_
              by_cases q7 : bM G (p + 6) = 44
              · refine cv_I (q := 13) (CC := "") (id := 108) (As := [.int (iI 44)]) 1 (c_passesY (T := T) (D := D) (ad := ad) (setG (setG (setG (setG (setG (setG (setG (setG (setG (setG (setG (setG G 11 13 (p + 1)) 11 16 ((bM G (p + 1) - 48))) 11 13 (p + 2)) 18 0 ((bM G (p + 1) - 48))) 11 13 (p + 3)) 11 16 ((bM G (p + 3) - 48))) 11 13 (p + 4)) 18 1 ((bM G (p + 3) - 48))) 11 13 (p + 5)) 11 16 ((bM G (p + 5) - 48))) 11 13 (p + 6)) 18 2 ((bM G (p + 5) - 48))) (okX_congr (((setG_ne (by omega)).trans ((setG_ne (by omega)).trans ((setG_ne (by omega)).trans ((setG_ne (by omega)).trans ((setG_ne (by omega)).trans ((setG_ne (by omega)).trans ((setG_ne (by omega)).trans ((setG_ne (by omega)).trans ((setG_ne (by omega)).trans ((setG_ne (by omega)).trans ((setG_ne (by omega)).trans (setG_ne (by omega)))))))))))))) (fun y => ((setG_ne (by omega)).trans ((setG_ne (by omega)).trans ((setG_ne (by omega)).trans ((setG_ne (by omega)).trans ((setG_ne (by omega)).trans ((setG_ne (by omega)).trans ((setG_ne (by omega)).trans ((setG_ne (by omega)).trans ((setG_ne (by omega)).trans ((setG_ne (by omega)).trans ((setG_ne (by omega)).trans (setG_ne (by omega)))))))))))))) o) (p := p + 6) (((setG_ne (by omega)).trans (setG_same _ _ _ _))) (by omega) (by omega) (c := 44) (by omega) (by rw [bM_congr (H := (setG (setG (setG (setG (setG (setG (setG (setG (setG (setG (setG (setG G 11 13 (p + 1)) 11 16 ((bM G (p + 1) - 48))) 11 13 (p + 2)) 18 0 ((bM G (p + 1) - 48))) 11 13 (p + 3)) 11 16 ((bM G (p + 3) - 48))) 11 13 (p + 4)) 18 1 ((bM G (p + 3) - 48))) 11 13 (p + 5)) 11 16 ((bM G (p + 5) - 48))) 11 13 (p + 6)) 18 2 ((bM G (p + 5) - 48)))) (G := G) (((setG_ne (by omega)).trans ((setG_ne (by omega)).trans ((setG_ne (by omega)).trans ((setG_ne (by omega)).trans ((setG_ne (by omega)).trans ((setG_ne (by omega)).trans ((setG_ne (by omega)).trans ((setG_ne (by omega)).trans ((setG_ne (by omega)).trans ((setG_ne (by omega)).trans ((setG_ne (by omega)).trans (setG_ne (by omega)))))))))))))) (fun y => ((setG_ne (by omega)).trans ((setG_ne (by omega)).trans ((setG_ne (by omega)).trans ((setG_ne (by omega)).trans ((setG_ne (by omega)).trans ((setG_ne (by omega)).trans ((setG_ne (by omega)).trans ((setG_ne (by omega)).trans ((setG_ne (by omega)).trans ((setG_ne (by omega)).trans ((setG_ne (by omega)).trans (setG_ne (by omega))))))))))))))]; exact q7)) (fun _ h => h) (by omega) (cell_108 ad C _) rfl wc_X6_passes wm_RX6_184 wi_X6_passes ws_X6_passes wn_X6 (by decide) rfl ⟨Nat.le_of_ble_eq_true rfl, Nat.le_of_ble_eq_true rfl⟩ ⟨Nat.le_of_ble_eq_true rfl, Nat.le_of_ble_eq_true rfl⟩ (Nat.le_of_ble_eq_true rfl) dX6_readCoins_10 rfl (fun r9 G9 h9 => ?_)
                rw [h9.1, h9.2]
                clear h9
                rw [show (p + 6 + 1 : Int) = p + 7 by omega]
                have l7 := bM_lt o (p := p + 6) (by omega)
                refine aw_if_eq (q := 16) dX6_readCoins_13 rfl (t := 25) (by decide) (by omega) (fun h => absurd h (by omega)) (fun _ => ?_)
                refine aw_aload_n (q := 17) 0 dX6_readCoins_16 rfl rfl rfl ?_
                refine aw_bipush (q := 19) dX6_readCoins_17 rfl (by decide) ?_
                by_cases q8 : (48 ≤ bM G (p + 7) ∧ bM G (p + 7) ≤ 57)
                · refine cv_I (q := 22) (CC := "") (id := 108) (As := [.int (iI 57)]) 1 (c_readDigitMY (T := T) (D := D) (ad := ad) (setG (setG (setG (setG (setG (setG (setG (setG (setG (setG (setG (setG (setG G 11 13 (p + 1)) 11 16 ((bM G (p + 1) - 48))) 11 13 (p + 2)) 18 0 ((bM G (p + 1) - 48))) 11 13 (p + 3)) 11 16 ((bM G (p + 3) - 48))) 11 13 (p + 4)) 18 1 ((bM G (p + 3) - 48))) 11 13 (p + 5)) 11 16 ((bM G (p + 5) - 48))) 11 13 (p + 6)) 18 2 ((bM G (p + 5) - 48))) 11 13 (p + 7)) (okX_congr (((setG_ne (by omega)).trans ((setG_ne (by omega)).trans ((setG_ne (by omega)).trans ((setG_ne (by omega)).trans ((setG_ne (by omega)).trans ((setG_ne (by omega)).trans ((setG_ne (by omega)).trans ((setG_ne (by omega)).trans ((setG_ne (by omega)).trans ((setG_ne (by omega)).trans ((setG_ne (by omega)).trans ((setG_ne (by omega)).trans (setG_ne (by omega))))))))))))))) (fun y => ((setG_ne (by omega)).trans ((setG_ne (by omega)).trans ((setG_ne (by omega)).trans ((setG_ne (by omega)).trans ((setG_ne (by omega)).trans ((setG_ne (by omega)).trans ((setG_ne (by omega)).trans ((setG_ne (by omega)).trans ((setG_ne (by omega)).trans ((setG_ne (by omega)).trans ((setG_ne (by omega)).trans ((setG_ne (by omega)).trans (setG_ne (by omega))))))))))))))) o) (p := p + 7) ((setG_same _ _ _ _)) (by omega) (by omega) (m := 57) (by omega) (by rw [bM_congr (H := (setG (setG (setG (setG (setG (setG (setG (setG (setG (setG (setG (setG (setG G 11 13 (p + 1)) 11 16 ((bM G (p + 1) - 48))) 11 13 (p + 2)) 18 0 ((bM G (p + 1) - 48))) 11 13 (p + 3)) 11 16 ((bM G (p + 3) - 48))) 11 13 (p + 4)) 18 1 ((bM G (p + 3) - 48))) 11 13 (p + 5)) 11 16 ((bM G (p + 5) - 48))) 11 13 (p + 6)) 18 2 ((bM G (p + 5) - 48))) 11 13 (p + 7))) (G := G) (((setG_ne (by omega)).trans ((setG_ne (by omega)).trans ((setG_ne (by omega)).trans ((setG_ne (by omega)).trans ((setG_ne (by omega)).trans ((setG_ne (by omega)).trans ((setG_ne (by omega)).trans ((setG_ne (by omega)).trans ((setG_ne (by omega)).trans ((setG_ne (by omega)).trans ((setG_ne (by omega)).trans ((setG_ne (by omega)).trans (setG_ne (by omega))))))))))))))) (fun y => ((setG_ne (by omega)).trans ((setG_ne (by omega)).trans ((setG_ne (by omega)).trans ((setG_ne (by omega)).trans ((setG_ne (by omega)).trans ((setG_ne (by omega)).trans ((setG_ne (by omega)).trans ((setG_ne (by omega)).trans ((setG_ne (by omega)).trans ((setG_ne (by omega)).trans ((setG_ne (by omega)).trans ((setG_ne (by omega)).trans (setG_ne (by omega)))))))))))))))]; exact q8)) (fun _ h => h) (by omega) (cell_108 ad C _) rfl wc_X6_readDigit wm_RX6_187 wi_X6_readDigit ws_X6_readDigit wn_X6 (by decide) rfl ⟨Nat.le_of_ble_eq_true rfl, Nat.le_of_ble_eq_true rfl⟩ ⟨Nat.le_of_ble_eq_true rfl, Nat.le_of_ble_eq_true rfl⟩ (Nat.le_of_ble_eq_true rfl) dX6_readCoins_19 rfl (fun r9 G9 h9 => ?_)
                  rw [bM_congr (H := (setG (setG (setG (setG (setG (setG (setG (setG (setG (setG (setG (setG (setG G 11 13 (p + 1)) 11 16 ((bM G (p + 1) - 48))) 11 13 (p + 2)) 18 0 ((bM G (p + 1) - 48))) 11 13 (p + 3)) 11 16 ((bM G (p + 3) - 48))) 11 13 (p + 4)) 18 1 ((bM G (p + 3) - 48))) 11 13 (p + 5)) 11 16 ((bM G (p + 5) - 48))) 11 13 (p + 6)) 18 2 ((bM G (p + 5) - 48))) 11 13 (p + 7))) (G := G) (((setG_ne (by omega)).trans ((setG_ne (by omega)).trans ((setG_ne (by omega)).trans ((setG_ne (by omega)).trans ((setG_ne (by omega)).trans ((setG_ne (by omega)).trans ((setG_ne (by omega)).trans ((setG_ne (by omega)).trans ((setG_ne (by omega)).trans ((setG_ne (by omega)).trans ((setG_ne (by omega)).trans ((setG_ne (by omega)).trans (setG_ne (by omega))))))))))))))) (fun y => ((setG_ne (by omega)).trans ((setG_ne (by omega)).trans ((setG_ne (by omega)).trans ((setG_ne (by omega)).trans ((setG_ne (by omega)).trans ((setG_ne (by omega)).trans ((setG_ne (by omega)).trans ((setG_ne (by omega)).trans ((setG_ne (by omega)).trans ((setG_ne (by omega)).trans ((setG_ne (by omega)).trans ((setG_ne (by omega)).trans (setG_ne (by omega)))))))))))))))] at h9
                  rw [h9.1, h9.2]
                  clear h9
                  rw [show (p + 7 + 1 : Int) = p + 8 by omega]
                  have l8 := bM_lt o (p := p + 7) (by omega)
                  refine aw_if_ne (q := 25) dX6_readCoins_22 rfl (t := 27) (by decide) (by omega) (fun _ => ?_) (fun h => absurd h (by omega))
                  refine aw_aload_n (q := 28) 0 dX6_readCoins_27 rfl rfl rfl ?_
                  refine g_mod_put (q := 31) wf_RX6_28 dX6_readCoins_28 rfl ?_
                  refine aw_iload_n (q := 32) 1 dX6_readCoins_31 rfl rfl rfl ?_
                  refine aw_aload_n (q := 33) 0 dX6_readCoins_32 rfl rfl rfl ?_
                  refine g_mod_digit (q := 36) (v := (bM G (p + 7) - 48)) ((setG_ne (by omega)).trans (setG_same _ _ _ _)) wf_RX6_175 dX6_readCoins_33 rfl ?_
                  refine aw_cias (q := 37) 3 (ar_115 ad C) (by omega) (by omega) dX6_readCoins_36 rfl ?_
                  refine ae_iinc (q := 40) (lv2 := [(0, .ref (ad 108)), (1, .int (iI 4))]) 1 [1, 0] 4 (by omega) dX6_readCoins_37 rfl rfl (by decide) rfl ?_
                  refine aw_goto (q := 2) dX6_readCoins_40 (by decide) ?_
                  refine aw_iload_n (q := 3) 1 dX6_readCoins_2 rfl rfl rfl ?_
                  refine aw_iconst (q := 4) dX6_readCoins_3 rfl ?_
                  refine aw_icmp_ge (q := 7) dX6_readCoins_4 rfl (t := 43) (by decide) (by omega) (by omega) (fun _ => ?_) (fun h => absurd h (by omega))
                  refine aw_iconst (q := 44) dX6_readCoins_43 rfl ?_
                  exact rt_z rfl (by first | omega | exact b2i_r _) (Nat.le_refl _) (Nat.le_refl _) (Or.inl ⟨⟨⟨by assumption, by omega⟩, ⟨by assumption, by omega⟩, ⟨by assumption, by omega⟩, ⟨by assumption, by omega⟩⟩, rfl, ((setG_ne (by omega)).trans (setG_same _ _ _ _)), ⟨(((setG_ne (by omega)).trans ((setG_ne (by omega)).trans ((setG_ne (by omega)).trans ((setG_ne (by omega)).trans ((setG_ne (by omega)).trans ((setG_ne (by omega)).trans ((setG_ne (by omega)).trans ((setG_ne (by omega)).trans ((setG_ne (by omega)).trans ((setG_ne (by omega)).trans ((setG_ne (by omega)).trans ((setG_ne (by omega)).trans (setG_same _ _ _ _)))))))))))))), (((setG_ne (by omega)).trans ((setG_ne (by omega)).trans ((setG_ne (by omega)).trans ((setG_ne (by omega)).trans ((setG_ne (by omega)).trans ((setG_ne (by omega)).trans ((setG_ne (by omega)).trans ((setG_ne (by omega)).trans (setG_same _ _ _ _)))))))))), (((setG_ne (by omega)).trans ((setG_ne (by omega)).trans ((setG_ne (by omega)).trans ((setG_ne (by omega)).trans (setG_same _ _ _ _)))))), ((setG_same _ _ _ _))⟩, fun x y z => ((setG_ne (by omega)).trans ((setG_ne (by omega)).trans ((setG_ne (by omega)).trans ((setG_ne (by omega)).trans ((setG_ne (by omega)).trans ((setG_ne (by omega)).trans ((setG_ne (by omega)).trans ((setG_ne (by omega)).trans ((setG_ne (by omega)).trans ((setG_ne (by omega)).trans ((setG_ne (by omega)).trans ((setG_ne (by omega)).trans ((setG_ne (by omega)).trans ((setG_ne (by omega)).trans ((setG_ne (by omega)).trans (setG_ne (by omega)))))))))))))))))⟩) dX6_readCoins_44
                · refine cv_I (q := 22) (CC := "") (id := 108) (As := [.int (iI 57)]) 1 (c_readDigitMN (T := T) (D := D) (ad := ad) (setG (setG (setG (setG (setG (setG (setG (setG (setG (setG (setG (setG (setG G 11 13 (p + 1)) 11 16 ((bM G (p + 1) - 48))) 11 13 (p + 2)) 18 0 ((bM G (p + 1) - 48))) 11 13 (p + 3)) 11 16 ((bM G (p + 3) - 48))) 11 13 (p + 4)) 18 1 ((bM G (p + 3) - 48))) 11 13 (p + 5)) 11 16 ((bM G (p + 5) - 48))) 11 13 (p + 6)) 18 2 ((bM G (p + 5) - 48))) 11 13 (p + 7)) (okX_congr (((setG_ne (by omega)).trans ((setG_ne (by omega)).trans ((setG_ne (by omega)).trans ((setG_ne (by omega)).trans ((setG_ne (by omega)).trans ((setG_ne (by omega)).trans ((setG_ne (by omega)).trans ((setG_ne (by omega)).trans ((setG_ne (by omega)).trans ((setG_ne (by omega)).trans ((setG_ne (by omega)).trans ((setG_ne (by omega)).trans (setG_ne (by omega))))))))))))))) (fun y => ((setG_ne (by omega)).trans ((setG_ne (by omega)).trans ((setG_ne (by omega)).trans ((setG_ne (by omega)).trans ((setG_ne (by omega)).trans ((setG_ne (by omega)).trans ((setG_ne (by omega)).trans ((setG_ne (by omega)).trans ((setG_ne (by omega)).trans ((setG_ne (by omega)).trans ((setG_ne (by omega)).trans ((setG_ne (by omega)).trans (setG_ne (by omega))))))))))))))) o) (p := p + 7) ((setG_same _ _ _ _)) (by omega) (by omega) (m := 57) (by omega) (by rw [bM_congr (H := (setG (setG (setG (setG (setG (setG (setG (setG (setG (setG (setG (setG (setG G 11 13 (p + 1)) 11 16 ((bM G (p + 1) - 48))) 11 13 (p + 2)) 18 0 ((bM G (p + 1) - 48))) 11 13 (p + 3)) 11 16 ((bM G (p + 3) - 48))) 11 13 (p + 4)) 18 1 ((bM G (p + 3) - 48))) 11 13 (p + 5)) 11 16 ((bM G (p + 5) - 48))) 11 13 (p + 6)) 18 2 ((bM G (p + 5) - 48))) 11 13 (p + 7))) (G := G) (((setG_ne (by omega)).trans ((setG_ne (by omega)).trans ((setG_ne (by omega)).trans ((setG_ne (by omega)).trans ((setG_ne (by omega)).trans ((setG_ne (by omega)).trans ((setG_ne (by omega)).trans ((setG_ne (by omega)).trans ((setG_ne (by omega)).trans ((setG_ne (by omega)).trans ((setG_ne (by omega)).trans ((setG_ne (by omega)).trans (setG_ne (by omega))))))))))))))) (fun y => ((setG_ne (by omega)).trans ((setG_ne (by omega)).trans ((setG_ne (by omega)).trans ((setG_ne (by omega)).trans ((setG_ne (by omega)).trans ((setG_ne (by omega)).trans ((setG_ne (by omega)).trans ((setG_ne (by omega)).trans ((setG_ne (by omega)).trans ((setG_ne (by omega)).trans ((setG_ne (by omega)).trans ((setG_ne (by omega)).trans (setG_ne (by omega)))))))))))))))]; exact q8)) (fun _ h => h) (by omega) (cell_108 ad C _) rfl wc_X6_readDigit wm_RX6_187 wi_X6_readDigit ws_X6_readDigit wn_X6 (by decide) rfl ⟨Nat.le_of_ble_eq_true rfl, Nat.le_of_ble_eq_true rfl⟩ ⟨Nat.le_of_ble_eq_true rfl, Nat.le_of_ble_eq_true rfl⟩ (Nat.le_of_ble_eq_true rfl) dX6_readCoins_19 rfl (fun r9 G9 h9 => ?_)
                  rw [bM_congr (H := (setG (setG (setG (setG (setG (setG (setG (setG (setG (setG (setG (setG (setG G 11 13 (p + 1)) 11 16 ((bM G (p + 1) - 48))) 11 13 (p + 2)) 18 0 ((bM G (p + 1) - 48))) 11 13 (p + 3)) 11 16 ((bM G (p + 3) - 48))) 11 13 (p + 4)) 18 1 ((bM G (p + 3) - 48))) 11 13 (p + 5)) 11 16 ((bM G (p + 5) - 48))) 11 13 (p + 6)) 18 2 ((bM G (p + 5) - 48))) 11 13 (p + 7))) (G := G) (((setG_ne (by omega)).trans ((setG_ne (by omega)).trans ((setG_ne (by omega)).trans ((setG_ne (by omega)).trans ((setG_ne (by omega)).trans ((setG_ne (by omega)).trans ((setG_ne (by omega)).trans ((setG_ne (by omega)).trans ((setG_ne (by omega)).trans ((setG_ne (by omega)).trans ((setG_ne (by omega)).trans ((setG_ne (by omega)).trans (setG_ne (by omega))))))))))))))) (fun y => ((setG_ne (by omega)).trans ((setG_ne (by omega)).trans ((setG_ne (by omega)).trans ((setG_ne (by omega)).trans ((setG_ne (by omega)).trans ((setG_ne (by omega)).trans ((setG_ne (by omega)).trans ((setG_ne (by omega)).trans ((setG_ne (by omega)).trans ((setG_ne (by omega)).trans ((setG_ne (by omega)).trans ((setG_ne (by omega)).trans (setG_ne (by omega)))))))))))))))] at h9
                  rw [h9.1, h9.2]
                  clear h9
                  refine aw_if_ne (q := 25) dX6_readCoins_22 rfl (t := 27) (by decide) (by omega) (fun h => absurd h (by omega)) (fun _ => ?_)
                  refine aw_iconst (q := 26) dX6_readCoins_25 rfl ?_
                  exact rt_z rfl (by first | omega | exact b2i_r _) (Nat.le_refl _) (Nat.le_refl _) (Or.inr ⟨by intro q; omega, rfl, (((setG_ne (by omega)).trans (setG_same _ _ _ _))).trans (by unfold fCo; repeat (first | rw [if_pos (by omega)] | rw [if_neg (by omega)])), fun x y z => ((setG_ne (by omega)).trans ((setG_ne (by omega)).trans ((setG_ne (by omega)).trans ((setG_ne (by omega)).trans ((setG_ne (by omega)).trans ((setG_ne (by omega)).trans ((setG_ne (by omega)).trans ((setG_ne (by omega)).trans ((setG_ne (by omega)).trans ((setG_ne (by omega)).trans ((setG_ne (by omega)).trans ((setG_ne (by omega)).trans ((setG_ne (by omega)).trans (setG_ne (by omega)))))))))))))))⟩) dX6_readCoins_26
              · refine cv_I (q := 13) (CC := "") (id := 108) (As := [.int (iI 44)]) 1 (c_passesN (T := T) (D := D) (ad := ad) (setG (setG (setG (setG (setG (setG (setG (setG (setG (setG (setG (setG G 11 13 (p + 1)) 11 16 ((bM G (p + 1) - 48))) 11 13 (p + 2)) 18 0 ((bM G (p + 1) - 48))) 11 13 (p + 3)) 11 16 ((bM G (p + 3) - 48))) 11 13 (p + 4)) 18 1 ((bM G (p + 3) - 48))) 11 13 (p + 5)) 11 16 ((bM G (p + 5) - 48))) 11 13 (p + 6)) 18 2 ((bM G (p + 5) - 48))) (okX_congr (((setG_ne (by omega)).trans ((setG_ne (by omega)).trans ((setG_ne (by omega)).trans ((setG_ne (by omega)).trans ((setG_ne (by omega)).trans ((setG_ne (by omega)).trans ((setG_ne (by omega)).trans ((setG_ne (by omega)).trans ((setG_ne (by omega)).trans ((setG_ne (by omega)).trans ((setG_ne (by omega)).trans (setG_ne (by omega)))))))))))))) (fun y => ((setG_ne (by omega)).trans ((setG_ne (by omega)).trans ((setG_ne (by omega)).trans ((setG_ne (by omega)).trans ((setG_ne (by omega)).trans ((setG_ne (by omega)).trans ((setG_ne (by omega)).trans ((setG_ne (by omega)).trans ((setG_ne (by omega)).trans ((setG_ne (by omega)).trans ((setG_ne (by omega)).trans (setG_ne (by omega)))))))))))))) o) (p := p + 6) (((setG_ne (by omega)).trans (setG_same _ _ _ _))) (by omega) (by omega) (c := 44) (by omega) (by rw [bM_congr (H := (setG (setG (setG (setG (setG (setG (setG (setG (setG (setG (setG (setG G 11 13 (p + 1)) 11 16 ((bM G (p + 1) - 48))) 11 13 (p + 2)) 18 0 ((bM G (p + 1) - 48))) 11 13 (p + 3)) 11 16 ((bM G (p + 3) - 48))) 11 13 (p + 4)) 18 1 ((bM G (p + 3) - 48))) 11 13 (p + 5)) 11 16 ((bM G (p + 5) - 48))) 11 13 (p + 6)) 18 2 ((bM G (p + 5) - 48)))) (G := G) (((setG_ne (by omega)).trans ((setG_ne (by omega)).trans ((setG_ne (by omega)).trans ((setG_ne (by omega)).trans ((setG_ne (by omega)).trans ((setG_ne (by omega)).trans ((setG_ne (by omega)).trans ((setG_ne (by omega)).trans ((setG_ne (by omega)).trans ((setG_ne (by omega)).trans ((setG_ne (by omega)).trans (setG_ne (by omega)))))))))))))) (fun y => ((setG_ne (by omega)).trans ((setG_ne (by omega)).trans ((setG_ne (by omega)).trans ((setG_ne (by omega)).trans ((setG_ne (by omega)).trans ((setG_ne (by omega)).trans ((setG_ne (by omega)).trans ((setG_ne (by omega)).trans ((setG_ne (by omega)).trans ((setG_ne (by omega)).trans ((setG_ne (by omega)).trans (setG_ne (by omega))))))))))))))]; exact q7)) (fun _ h => h) (by omega) (cell_108 ad C _) rfl wc_X6_passes wm_RX6_184 wi_X6_passes ws_X6_passes wn_X6 (by decide) rfl ⟨Nat.le_of_ble_eq_true rfl, Nat.le_of_ble_eq_true rfl⟩ ⟨Nat.le_of_ble_eq_true rfl, Nat.le_of_ble_eq_true rfl⟩ (Nat.le_of_ble_eq_true rfl) dX6_readCoins_10 rfl (fun r9 G9 h9 => ?_)
                rw [h9.1, h9.2]
                clear h9
                refine aw_if_eq (q := 16) dX6_readCoins_13 rfl (t := 25) (by decide) (by omega) (fun _ => ?_) (fun h => absurd h (by omega))
                refine aw_iconst (q := 26) dX6_readCoins_25 rfl ?_
                exact rt_z rfl (by first | omega | exact b2i_r _) (Nat.le_refl _) (Nat.le_refl _) (Or.inr ⟨by intro q; omega, rfl, (((setG_ne (by omega)).trans (setG_same _ _ _ _))).trans (by unfold fCo; repeat (first | rw [if_pos (by omega)] | rw [if_neg (by omega)])), fun x y z => ((setG_ne (by omega)).trans ((setG_ne (by omega)).trans ((setG_ne (by omega)).trans ((setG_ne (by omega)).trans ((setG_ne (by omega)).trans ((setG_ne (by omega)).trans ((setG_ne (by omega)).trans ((setG_ne (by omega)).trans ((setG_ne (by omega)).trans ((setG_ne (by omega)).trans ((setG_ne (by omega)).trans (setG_ne (by omega)))))))))))))⟩) dX6_readCoins_26
            · refine cv_I (q := 22) (CC := "") (id := 108) (As := [.int (iI 57)]) 1 (c_readDigitMN (T := T) (D := D) (ad := ad) (setG (setG (setG (setG (setG (setG (setG (setG (setG G 11 13 (p + 1)) 11 16 ((bM G (p + 1) - 48))) 11 13 (p + 2)) 18 0 ((bM G (p + 1) - 48))) 11 13 (p + 3)) 11 16 ((bM G (p + 3) - 48))) 11 13 (p + 4)) 18 1 ((bM G (p + 3) - 48))) 11 13 (p + 5)) (okX_congr (((setG_ne (by omega)).trans ((setG_ne (by omega)).trans ((setG_ne (by omega)).trans ((setG_ne (by omega)).trans ((setG_ne (by omega)).trans ((setG_ne (by omega)).trans ((setG_ne (by omega)).trans ((setG_ne (by omega)).trans (setG_ne (by omega))))))))))) (fun y => ((setG_ne (by omega)).trans ((setG_ne (by omega)).trans ((setG_ne (by omega)).trans ((setG_ne (by omega)).trans ((setG_ne (by omega)).trans ((setG_ne (by omega)).trans ((setG_ne (by omega)).trans ((setG_ne (by omega)).trans (setG_ne (by omega))))))))))) o) (p := p + 5) ((setG_same _ _ _ _)) (by omega) (by omega) (m := 57) (by omega) (by rw [bM_congr (H := (setG (setG (setG (setG (setG (setG (setG (setG (setG G 11 13 (p + 1)) 11 16 ((bM G (p + 1) - 48))) 11 13 (p + 2)) 18 0 ((bM G (p + 1) - 48))) 11 13 (p + 3)) 11 16 ((bM G (p + 3) - 48))) 11 13 (p + 4)) 18 1 ((bM G (p + 3) - 48))) 11 13 (p + 5))) (G := G) (((setG_ne (by omega)).trans ((setG_ne (by omega)).trans ((setG_ne (by omega)).trans ((setG_ne (by omega)).trans ((setG_ne (by omega)).trans ((setG_ne (by omega)).trans ((setG_ne (by omega)).trans ((setG_ne (by omega)).trans (setG_ne (by omega))))))))))) (fun y => ((setG_ne (by omega)).trans ((setG_ne (by omega)).trans ((setG_ne (by omega)).trans ((setG_ne (by omega)).trans ((setG_ne (by omega)).trans ((setG_ne (by omega)).trans ((setG_ne (by omega)).trans ((setG_ne (by omega)).trans (setG_ne (by omega)))))))))))]; exact q6)) (fun _ h => h) (by omega) (cell_108 ad C _) rfl wc_X6_readDigit wm_RX6_187 wi_X6_readDigit ws_X6_readDigit wn_X6 (by decide) rfl ⟨Nat.le_of_ble_eq_true rfl, Nat.le_of_ble_eq_true rfl⟩ ⟨Nat.le_of_ble_eq_true rfl, Nat.le_of_ble_eq_true rfl⟩ (Nat.le_of_ble_eq_true rfl) dX6_readCoins_19 rfl (fun r9 G9 h9 => ?_)
              rw [bM_congr (H := (setG (setG (setG (setG (setG (setG (setG (setG (setG G 11 13 (p + 1)) 11 16 ((bM G (p + 1) - 48))) 11 13 (p + 2)) 18 0 ((bM G (p + 1) - 48))) 11 13 (p + 3)) 11 16 ((bM G (p + 3) - 48))) 11 13 (p + 4)) 18 1 ((bM G (p + 3) - 48))) 11 13 (p + 5))) (G := G) (((setG_ne (by omega)).trans ((setG_ne (by omega)).trans ((setG_ne (by omega)).trans ((setG_ne (by omega)).trans ((setG_ne (by omega)).trans ((setG_ne (by omega)).trans ((setG_ne (by omega)).trans ((setG_ne (by omega)).trans (setG_ne (by omega))))))))))) (fun y => ((setG_ne (by omega)).trans ((setG_ne (by omega)).trans ((setG_ne (by omega)).trans ((setG_ne (by omega)).trans ((setG_ne (by omega)).trans ((setG_ne (by omega)).trans ((setG_ne (by omega)).trans ((setG_ne (by omega)).trans (setG_ne (by omega)))))))))))] at h9
              rw [h9.1, h9.2]
              clear h9
              refine aw_if_ne (q := 25) dX6_readCoins_22 rfl (t := 27) (by decide) (by omega) (fun h => absurd h (by omega)) (fun _ => ?_)
              refine aw_iconst (q := 26) dX6_readCoins_25 rfl ?_
              exact rt_z rfl (by first | omega | exact b2i_r _) (Nat.le_refl _) (Nat.le_refl _) (Or.inr ⟨by intro q; omega, rfl, (((setG_ne (by omega)).trans (setG_same _ _ _ _))).trans (by unfold fCo; repeat (first | rw [if_pos (by omega)] | rw [if_neg (by omega)])), fun x y z => ((setG_ne (by omega)).trans ((setG_ne (by omega)).trans ((setG_ne (by omega)).trans ((setG_ne (by omega)).trans ((setG_ne (by omega)).trans ((setG_ne (by omega)).trans ((setG_ne (by omega)).trans ((setG_ne (by omega)).trans ((setG_ne (by omega)).trans (setG_ne (by omega)))))))))))⟩) dX6_readCoins_26
          · refine cv_I (q := 13) (CC := "") (id := 108) (As := [.int (iI 44)]) 1 (c_passesN (T := T) (D := D) (ad := ad) (setG (setG (setG (setG (setG (setG (setG (setG G 11 13 (p + 1)) 11 16 ((bM G (p + 1) - 48))) 11 13 (p + 2)) 18 0 ((bM G (p + 1) - 48))) 11 13 (p + 3)) 11 16 ((bM G (p + 3) - 48))) 11 13 (p + 4)) 18 1 ((bM G (p + 3) - 48))) (okX_congr (((setG_ne (by omega)).trans ((setG_ne (by omega)).trans ((setG_ne (by omega)).trans ((setG_ne (by omega)).trans ((setG_ne (by omega)).trans ((setG_ne (by omega)).trans ((setG_ne (by omega)).trans (setG_ne (by omega)))))))))) (fun y => ((setG_ne (by omega)).trans ((setG_ne (by omega)).trans ((setG_ne (by omega)).trans ((setG_ne (by omega)).trans ((setG_ne (by omega)).trans ((setG_ne (by omega)).trans ((setG_ne (by omega)).trans (setG_ne (by omega)))))))))) o) (p := p + 4) (((setG_ne (by omega)).trans (setG_same _ _ _ _))) (by omega) (by omega) (c := 44) (by omega) (by rw [bM_congr (H := (setG (setG (setG (setG (setG (setG (setG (setG G 11 13 (p + 1)) 11 16 ((bM G (p + 1) - 48))) 11 13 (p + 2)) 18 0 ((bM G (p + 1) - 48))) 11 13 (p + 3)) 11 16 ((bM G (p + 3) - 48))) 11 13 (p + 4)) 18 1 ((bM G (p + 3) - 48)))) (G := G) (((setG_ne (by omega)).trans ((setG_ne (by omega)).trans ((setG_ne (by omega)).trans ((setG_ne (by omega)).trans ((setG_ne (by omega)).trans ((setG_ne (by omega)).trans ((setG_ne (by omega)).trans (setG_ne (by omega)))))))))) (fun y => ((setG_ne (by omega)).trans ((setG_ne (by omega)).trans ((setG_ne (by omega)).trans ((setG_ne (by omega)).trans ((setG_ne (by omega)).trans ((setG_ne (by omega)).trans ((setG_ne (by omega)).trans (setG_ne (by omega))))))))))]; exact q5)) (fun _ h => h) (by omega) (cell_108 ad C _) rfl wc_X6_passes wm_RX6_184 wi_X6_passes ws_X6_passes wn_X6 (by decide) rfl ⟨Nat.le_of_ble_eq_true rfl, Nat.le_of_ble_eq_true rfl⟩ ⟨Nat.le_of_ble_eq_true rfl, Nat.le_of_ble_eq_true rfl⟩ (Nat.le_of_ble_eq_true rfl) dX6_readCoins_10 rfl (fun r9 G9 h9 => ?_)
            rw [h9.1, h9.2]
            clear h9
            refine aw_if_eq (q := 16) dX6_readCoins_13 rfl (t := 25) (by decide) (by omega) (fun _ => ?_) (fun h => absurd h (by omega))
            refine aw_iconst (q := 26) dX6_readCoins_25 rfl ?_
            exact rt_z rfl (by first | omega | exact b2i_r _) (Nat.le_refl _) (Nat.le_refl _) (Or.inr ⟨by intro q; omega, rfl, (((setG_ne (by omega)).trans (setG_same _ _ _ _))).trans (by unfold fCo; repeat (first | rw [if_pos (by omega)] | rw [if_neg (by omega)])), fun x y z => ((setG_ne (by omega)).trans ((setG_ne (by omega)).trans ((setG_ne (by omega)).trans ((setG_ne (by omega)).trans ((setG_ne (by omega)).trans ((setG_ne (by omega)).trans ((setG_ne (by omega)).trans (setG_ne (by omega)))))))))⟩) dX6_readCoins_26
        · refine cv_I (q := 22) (CC := "") (id := 108) (As := [.int (iI 57)]) 1 (c_readDigitMN (T := T) (D := D) (ad := ad) (setG (setG (setG (setG (setG G 11 13 (p + 1)) 11 16 ((bM G (p + 1) - 48))) 11 13 (p + 2)) 18 0 ((bM G (p + 1) - 48))) 11 13 (p + 3)) (okX_congr (((setG_ne (by omega)).trans ((setG_ne (by omega)).trans ((setG_ne (by omega)).trans ((setG_ne (by omega)).trans (setG_ne (by omega))))))) (fun y => ((setG_ne (by omega)).trans ((setG_ne (by omega)).trans ((setG_ne (by omega)).trans ((setG_ne (by omega)).trans (setG_ne (by omega))))))) o) (p := p + 3) ((setG_same _ _ _ _)) (by omega) (by omega) (m := 57) (by omega) (by rw [bM_congr (H := (setG (setG (setG (setG (setG G 11 13 (p + 1)) 11 16 ((bM G (p + 1) - 48))) 11 13 (p + 2)) 18 0 ((bM G (p + 1) - 48))) 11 13 (p + 3))) (G := G) (((setG_ne (by omega)).trans ((setG_ne (by omega)).trans ((setG_ne (by omega)).trans ((setG_ne (by omega)).trans (setG_ne (by omega))))))) (fun y => ((setG_ne (by omega)).trans ((setG_ne (by omega)).trans ((setG_ne (by omega)).trans ((setG_ne (by omega)).trans (setG_ne (by omega)))))))]; exact q4)) (fun _ h => h) (by omega) (cell_108 ad C _) rfl wc_X6_readDigit wm_RX6_187 wi_X6_readDigit ws_X6_readDigit wn_X6 (by decide) rfl ⟨Nat.le_of_ble_eq_true rfl, Nat.le_of_ble_eq_true rfl⟩ ⟨Nat.le_of_ble_eq_true rfl, Nat.le_of_ble_eq_true rfl⟩ (Nat.le_of_ble_eq_true rfl) dX6_readCoins_19 rfl (fun r9 G9 h9 => ?_)
          rw [bM_congr (H := (setG (setG (setG (setG (setG G 11 13 (p + 1)) 11 16 ((bM G (p + 1) - 48))) 11 13 (p + 2)) 18 0 ((bM G (p + 1) - 48))) 11 13 (p + 3))) (G := G) (((setG_ne (by omega)).trans ((setG_ne (by omega)).trans ((setG_ne (by omega)).trans ((setG_ne (by omega)).trans (setG_ne (by omega))))))) (fun y => ((setG_ne (by omega)).trans ((setG_ne (by omega)).trans ((setG_ne (by omega)).trans ((setG_ne (by omega)).trans (setG_ne (by omega)))))))] at h9
          rw [h9.1, h9.2]
          clear h9
          refine aw_if_ne (q := 25) dX6_readCoins_22 rfl (t := 27) (by decide) (by omega) (fun h => absurd h (by omega)) (fun _ => ?_)
          refine aw_iconst (q := 26) dX6_readCoins_25 rfl ?_
          exact rt_z rfl (by first | omega | exact b2i_r _) (Nat.le_refl _) (Nat.le_refl _) (Or.inr ⟨by intro q; omega, rfl, (((setG_ne (by omega)).trans (setG_same _ _ _ _))).trans (by unfold fCo; repeat (first | rw [if_pos (by omega)] | rw [if_neg (by omega)])), fun x y z => ((setG_ne (by omega)).trans ((setG_ne (by omega)).trans ((setG_ne (by omega)).trans ((setG_ne (by omega)).trans ((setG_ne (by omega)).trans (setG_ne (by omega)))))))⟩) dX6_readCoins_26
      · refine cv_I (q := 13) (CC := "") (id := 108) (As := [.int (iI 44)]) 1 (c_passesN (T := T) (D := D) (ad := ad) (setG (setG (setG (setG G 11 13 (p + 1)) 11 16 ((bM G (p + 1) - 48))) 11 13 (p + 2)) 18 0 ((bM G (p + 1) - 48))) (okX_congr (((setG_ne (by omega)).trans ((setG_ne (by omega)).trans ((setG_ne (by omega)).trans (setG_ne (by omega)))))) (fun y => ((setG_ne (by omega)).trans ((setG_ne (by omega)).trans ((setG_ne (by omega)).trans (setG_ne (by omega)))))) o) (p := p + 2) (((setG_ne (by omega)).trans (setG_same _ _ _ _))) (by omega) (by omega) (c := 44) (by omega) (by rw [bM_congr (H := (setG (setG (setG (setG G 11 13 (p + 1)) 11 16 ((bM G (p + 1) - 48))) 11 13 (p + 2)) 18 0 ((bM G (p + 1) - 48)))) (G := G) (((setG_ne (by omega)).trans ((setG_ne (by omega)).trans ((setG_ne (by omega)).trans (setG_ne (by omega)))))) (fun y => ((setG_ne (by omega)).trans ((setG_ne (by omega)).trans ((setG_ne (by omega)).trans (setG_ne (by omega))))))]; exact q3)) (fun _ h => h) (by omega) (cell_108 ad C _) rfl wc_X6_passes wm_RX6_184 wi_X6_passes ws_X6_passes wn_X6 (by decide) rfl ⟨Nat.le_of_ble_eq_true rfl, Nat.le_of_ble_eq_true rfl⟩ ⟨Nat.le_of_ble_eq_true rfl, Nat.le_of_ble_eq_true rfl⟩ (Nat.le_of_ble_eq_true rfl) dX6_readCoins_10 rfl (fun r9 G9 h9 => ?_)
        rw [h9.1, h9.2]
        clear h9
        refine aw_if_eq (q := 16) dX6_readCoins_13 rfl (t := 25) (by decide) (by omega) (fun _ => ?_) (fun h => absurd h (by omega))
        refine aw_iconst (q := 26) dX6_readCoins_25 rfl ?_
        exact rt_z rfl (by first | omega | exact b2i_r _) (Nat.le_refl _) (Nat.le_refl _) (Or.inr ⟨by intro q; omega, rfl, (((setG_ne (by omega)).trans (setG_same _ _ _ _))).trans (by unfold fCo; repeat (first | rw [if_pos (by omega)] | rw [if_neg (by omega)])), fun x y z => ((setG_ne (by omega)).trans ((setG_ne (by omega)).trans ((setG_ne (by omega)).trans (setG_ne (by omega)))))⟩) dX6_readCoins_26
    · refine cv_I (q := 22) (CC := "") (id := 108) (As := [.int (iI 57)]) 1 (c_readDigitMN (T := T) (D := D) (ad := ad) (setG G 11 13 (p + 1)) (okX_congr ((setG_ne (by omega))) (fun y => (setG_ne (by omega))) o) (p := p + 1) ((setG_same _ _ _ _)) (by omega) (by omega) (m := 57) (by omega) (by rw [bM_congr (H := (setG G 11 13 (p + 1))) (G := G) ((setG_ne (by omega))) (fun y => (setG_ne (by omega)))]; exact q2)) (fun _ h => h) (by omega) (cell_108 ad C _) rfl wc_X6_readDigit wm_RX6_187 wi_X6_readDigit ws_X6_readDigit wn_X6 (by decide) rfl ⟨Nat.le_of_ble_eq_true rfl, Nat.le_of_ble_eq_true rfl⟩ ⟨Nat.le_of_ble_eq_true rfl, Nat.le_of_ble_eq_true rfl⟩ (Nat.le_of_ble_eq_true rfl) dX6_readCoins_19 rfl (fun r9 G9 h9 => ?_)
      rw [bM_congr (H := (setG G 11 13 (p + 1))) (G := G) ((setG_ne (by omega))) (fun y => (setG_ne (by omega)))] at h9
      rw [h9.1, h9.2]
      clear h9
      refine aw_if_ne (q := 25) dX6_readCoins_22 rfl (t := 27) (by decide) (by omega) (fun h => absurd h (by omega)) (fun _ => ?_)
      refine aw_iconst (q := 26) dX6_readCoins_25 rfl ?_
      exact rt_z rfl (by first | omega | exact b2i_r _) (Nat.le_refl _) (Nat.le_refl _) (Or.inr ⟨by intro q; omega, rfl, (((setG_ne (by omega)).trans (setG_same _ _ _ _))).trans (by unfold fCo; repeat (first | rw [if_pos (by omega)] | rw [if_neg (by omega)])), fun x y z => ((setG_ne (by omega)).trans (setG_ne (by omega)))⟩) dX6_readCoins_26
  · refine cv_I (q := 13) (CC := "") (id := 108) (As := [.int (iI 44)]) 1 (c_passesN (T := T) (D := D) (ad := ad) G (okX_congr (rfl) (fun y => rfl) o) (p := p) ((hp)) (by omega) (by omega) (c := 44) (by omega) (by rw [bM_congr (H := G) (G := G) (rfl) (fun y => rfl)]; exact q1)) (fun _ h => h) (by omega) (cell_108 ad C _) rfl wc_X6_passes wm_RX6_184 wi_X6_passes ws_X6_passes wn_X6 (by decide) rfl ⟨Nat.le_of_ble_eq_true rfl, Nat.le_of_ble_eq_true rfl⟩ ⟨Nat.le_of_ble_eq_true rfl, Nat.le_of_ble_eq_true rfl⟩ (Nat.le_of_ble_eq_true rfl) dX6_readCoins_10 rfl (fun r9 G9 h9 => ?_)
    rw [h9.1, h9.2]
    clear h9
    refine aw_if_eq (q := 16) dX6_readCoins_13 rfl (t := 25) (by decide) (by omega) (fun _ => ?_) (fun h => absurd h (by omega))
    refine aw_iconst (q := 26) dX6_readCoins_25 rfl ?_
    exact rt_z rfl (by first | omega | exact b2i_r _) (Nat.le_refl _) (Nat.le_refl _) (Or.inr ⟨by intro q; omega, rfl, ((hp)).trans (by unfold fCo; repeat (first | rw [if_pos (by omega)] | rw [if_neg (by omega)])), fun x y z => rfl⟩) dX6_readCoins_26
theorem c_readCoinsMY {l : Launch} {D : va_G} {C : Nat → ClassId} {T : Nat → Nat} {ad : Int → Nat} (G : GG) (o : okX G) {p : Int} (hp : G 11 13 = p) (h0 : 0 ≤ p) (h1 : p ≤ 150) (hq : okCo (bM G) p) : MC l yX6_readCoins cX6_readCoins 2 (some .boolean) 2 44 0 0 D (tyC C) T [.ref (ad 108)] (cw ad C G) (RI ad C (fun r G1 => r = 1 ∧ G1 11 13 = p + 8 ∧ (G1 18 0 = bM G (p + 1) - 48 ∧ G1 18 1 = bM G (p + 3) - 48 ∧ G1 18 2 = bM G (p + 5) - 48 ∧ G1 18 3 = bM G (p + 7) - 48) ∧ sameB (fun x y => (x = 11 ∧ (y = 13 ∨ y = 16)) ∨ (x = 18 ∧ 0 ≤ y ∧ y < 4)) G G1)) :=
  (c_readCoinsM G o hp h0 h1).mono (fun v w e => by obtain ⟨r, G1, e1, e2, e3⟩ := e; exact ⟨r, G1, e1, e2, by rcases e3 with e3 | e3 <;> first | exact (absurd hq e3.1) | exact absurd e3.1 hq | exact e3.2⟩)
theorem c_readCoinsMN {l : Launch} {D : va_G} {C : Nat → ClassId} {T : Nat → Nat} {ad : Int → Nat} (G : GG) (o : okX G) {p : Int} (hp : G 11 13 = p) (h0 : 0 ≤ p) (h1 : p ≤ 150) (hq : ¬ okCo (bM G) p) : MC l yX6_readCoins cX6_readCoins 2 (some .boolean) 2 44 0 0 D (tyC C) T [.ref (ad 108)] (cw ad C G) (RI ad C (fun r G1 => r = 0 ∧ G1 11 13 = fCo (bM G) p ∧ sameB (fun x y => (x = 11 ∧ (y = 13 ∨ y = 16)) ∨ (x = 18 ∧ 0 ≤ y ∧ y < 4)) G G1)) :=
  (c_readCoinsM G o hp h0 h1).mono (fun v w e => by obtain ⟨r, G1, e1, e2, e3⟩ := e; exact ⟨r, G1, e1, e2, by rcases e3 with e3 | e3 <;> first | exact (absurd hq e3.1) | exact absurd e3.1 hq | exact e3.2⟩)
set_option maxHeartbeats 4000000 in
set_option maxRecDepth 100000 in
theorem c_order115 {l : Launch} {D : va_G} {C : Nat → ClassId} {T : Nat → Nat} {ad : Int → Nat} (G : GG) (o : okX G) {p : Int} (hp : G 11 13 = p) (h0 : 0 ≤ p) (h1 : p ≤ 100) (hL : bM G p = 115) : MC l yX6_readOrder cX6_readOrder 2 (some .boolean) 3 65 0 0 D (tyC C) T [.ref (ad 108)] (cw ad C G) (RI ad C (fun r G1 => ((okSt (bM G) p 55 20 ∧ r = 1 ∧ G1 11 13 = nQ (bM G) (p + 3) + 1 ∧ G1 11 14 = 115 ∧ G1 11 17 = bM G (p + 1) - 48 ∧ G1 11 15 = nV (bM G) (p + 3)) ∨ (¬ okSt (bM G) p 55 20 ∧ r = 0 ∧ G1 11 13 = flSt (bM G) p 55 20)) ∧ sameB roS_ G G1)) := by
  refine mc_of (by decide +kernel) (Nat.le_of_ble_eq_true rfl) rfl ?_
  have o1 := o.1
  refine aw_aload_n (q := 1) 0 dX6_readOrder_0 rfl rfl rfl ?_
  refine aw_aload_n (q := 2) 0 dX6_readOrder_1 rfl rfl rfl ?_
  refine cv_I (q := 5) (CC := "") (id := 108) (As := []) 0 (c_here (T := T) (D := D) (ad := ad) G o (by rw [hp]; omega)) (fun _ h => h) (by omega) (cell_108 ad C _) rfl wc_X6_here wm_RX6_172 wi_X6_here ws_X6_here wn_X6 (by decide) rfl ⟨Nat.le_of_ble_eq_true rfl, Nat.le_of_ble_eq_true rfl⟩ ⟨Nat.le_of_ble_eq_true rfl, Nat.le_of_ble_eq_true rfl⟩ (Nat.le_of_ble_eq_true rfl) dX6_readOrder_2 rfl (fun r9 G9 h9 => ?_)
  obtain ⟨e9, g9⟩ := h9
  rw [e9.trans ((congrArg (bM G) hp).trans hL), g9]
  clear e9 g9
  have b0 := bM_r o h0
  refine p_mod_letter (q := 8) wf_RX6_190 dX6_readOrder_5 rfl ?_
  refine aw_aload_n (q := 9) 0 dX6_readOrder_8 rfl rfl rfl ?_
  refine g_mod_letter (q := 12) (v := 115) (setG_same _ _ _ _) wf_RX6_190 dX6_readOrder_9 rfl ?_
  refine aw_bipush (q := 14) dX6_readOrder_12 rfl (by decide) ?_
  refine aw_icmp_eq (q := 17) dX6_readOrder_14 rfl (t := 46) (by decide) (by omega) (by omega) (fun _ => ?_) (fun h => absurd h (by omega))
  refine aw_aload_n (q := 47) 0 dX6_readOrder_46 rfl rfl rfl ?_
  refine aw_dup (q := 48) dX6_readOrder_47 rfl rfl ?_
  refine g_mod_at (q := 51) (v := p) ((setG_ne (by omega)).trans (hp)) wf_RX6_169 dX6_readOrder_48 rfl ?_
  refine aw_iconst (q := 52) dX6_readOrder_51 rfl ?_
  refine ae_iadd (q := 53) (p + 1) (by omega) dX6_readOrder_52 rfl ?_
  refine p_mod_at (q := 56) wf_RX6_169 dX6_readOrder_53 rfl ?_
  refine aw_aload_n (q := 57) 0 dX6_readOrder_56 rfl rfl rfl ?_
  refine g_mod_letter (q := 60) (v := 115) ((setG_ne (by omega)).trans (setG_same _ _ _ _)) wf_RX6_190 dX6_readOrder_57 rfl ?_
  refine aw_bipush (q := 62) dX6_readOrder_60 rfl (by decide) ?_
  refine aw_icmp_eq (q := 65) dX6_readOrder_62 rfl (t := 98) (by decide) (by omega) (by omega) (fun h => absurd h (by omega)) (fun _ => ?_)
  refine aw_aload_n (q := 66) 0 dX6_readOrder_65 rfl rfl rfl ?_
  refine aw_aload_n (q := 67) 0 dX6_readOrder_66 rfl rfl rfl ?_
  refine g_mod_letter (q := 70) (v := 115) ((setG_ne (by omega)).trans (setG_same _ _ _ _)) wf_RX6_190 dX6_readOrder_67 rfl ?_
  refine aw_bipush (q := 72) dX6_readOrder_70 rfl (by decide) ?_
  refine aw_icmp_ne (q := 75) dX6_readOrder_72 rfl (t := 80) (by decide) (by omega) (by omega) (fun _ => ?_) (fun h => absurd h (by omega))
  refine aw_bipush (q := 82) dX6_readOrder_80 rfl (by decide) ?_
  by_cases q1 : (48 ≤ bM G (p + 1) ∧ bM G (p + 1) ≤ 55)
  · refine cv_I (q := 85) (CC := "") (id := 108) (As := [.int (iI 55)]) 1 (c_readDigitMY (T := T) (D := D) (ad := ad) (setG (setG G 11 14 115) 11 13 (p + 1)) (okX_congr (((setG_ne (by omega)).trans (setG_ne (by omega)))) (fun y => ((setG_ne (by omega)).trans (setG_ne (by omega)))) o) (p := p + 1) ((setG_same _ _ _ _)) (by omega) (by omega) (m := 55) (by omega) (by rw [bM_congr (H := (setG (setG G 11 14 115) 11 13 (p + 1))) (G := G) (((setG_ne (by omega)).trans (setG_ne (by omega)))) (fun y => ((setG_ne (by omega)).trans (setG_ne (by omega))))]; exact q1)) (fun _ h => h) (by omega) (cell_108 ad C _) rfl wc_X6_readDigit wm_RX6_187 wi_X6_readDigit ws_X6_readDigit wn_X6 (by decide) rfl ⟨Nat.le_of_ble_eq_true rfl, Nat.le_of_ble_eq_true rfl⟩ ⟨Nat.le_of_ble_eq_true rfl, Nat.le_of_ble_eq_true rfl⟩ (Nat.le_of_ble_eq_true rfl) dX6_readOrder_82 rfl (fun r9 G9 h9 => ?_)
    rw [bM_congr (H := (setG (setG G 11 14 115) 11 13 (p + 1))) (G := G) (((setG_ne (by omega)).trans (setG_ne (by omega)))) (fun y => ((setG_ne (by omega)).trans (setG_ne (by omega))))] at h9
    rw [h9.1, h9.2]
    clear h9
    rw [show (p + 1 + 1 : Int) = p + 2 by omega]
    have l17 := bM_lt o (p := p + 1) (by omega)
    refine aw_if_ne (q := 88) dX6_readOrder_85 rfl (t := 90) (by decide) (by omega) (fun _ => ?_) (fun h => absurd h (by omega))
    refine aw_aload_n (q := 91) 0 dX6_readOrder_90 rfl rfl rfl ?_
    refine aw_aload_n (q := 92) 0 dX6_readOrder_91 rfl rfl rfl ?_
    refine g_mod_digit (q := 95) (v := (bM G (p + 1) - 48)) ((setG_ne (by omega)).trans (setG_same _ _ _ _)) wf_RX6_175 dX6_readOrder_92 rfl ?_
    refine p_mod_which (q := 98) wf_RX6_193 dX6_readOrder_95 rfl ?_
    refine aw_aload_n (q := 99) 0 dX6_readOrder_98 rfl rfl rfl ?_
    refine g_mod_letter (q := 102) (v := 115) ((setG_ne (by omega)).trans ((setG_ne (by omega)).trans ((setG_ne (by omega)).trans ((setG_ne (by omega)).trans (setG_same _ _ _ _))))) wf_RX6_190 dX6_readOrder_99 rfl ?_
    refine aw_bipush (q := 104) dX6_readOrder_102 rfl (by decide) ?_
    refine aw_icmp_ne (q := 107) dX6_readOrder_104 rfl (t := 114) (by decide) (by omega) (by omega) (fun _ => ?_) (fun h => absurd h (by omega))
    refine aw_aload_n (q := 115) 0 dX6_readOrder_114 rfl rfl rfl ?_
    refine g_mod_letter (q := 118) (v := 115) ((setG_ne (by omega)).trans ((setG_ne (by omega)).trans ((setG_ne (by omega)).trans ((setG_ne (by omega)).trans (setG_same _ _ _ _))))) wf_RX6_190 dX6_readOrder_115 rfl ?_
    refine aw_bipush (q := 120) dX6_readOrder_118 rfl (by decide) ?_
    refine aw_icmp_eq (q := 123) dX6_readOrder_120 rfl (t := 132) (by decide) (by omega) (by omega) (fun h => absurd h (by omega)) (fun _ => ?_)
    refine aw_aload_n (q := 124) 0 dX6_readOrder_123 rfl rfl rfl ?_
    refine aw_bipush (q := 126) dX6_readOrder_124 rfl (by decide) ?_
    by_cases q2 : bM G (p + 2) = 120
    · refine cv_I (q := 129) (CC := "") (id := 108) (As := [.int (iI 120)]) 1 (c_passesY (T := T) (D := D) (ad := ad) (setG (setG (setG (setG (setG G 11 14 115) 11 13 (p + 1)) 11 16 ((bM G (p + 1) - 48))) 11 13 (p + 2)) 11 17 ((bM G (p + 1) - 48))) (okX_congr (((setG_ne (by omega)).trans ((setG_ne (by omega)).trans ((setG_ne (by omega)).trans ((setG_ne (by omega)).trans (setG_ne (by omega))))))) (fun y => ((setG_ne (by omega)).trans ((setG_ne (by omega)).trans ((setG_ne (by omega)).trans ((setG_ne (by omega)).trans (setG_ne (by omega))))))) o) (p := p + 2) (((setG_ne (by omega)).trans (setG_same _ _ _ _))) (by omega) (by omega) (c := 120) (by omega) (by rw [bM_congr (H := (setG (setG (setG (setG (setG G 11 14 115) 11 13 (p + 1)) 11 16 ((bM G (p + 1) - 48))) 11 13 (p + 2)) 11 17 ((bM G (p + 1) - 48)))) (G := G) (((setG_ne (by omega)).trans ((setG_ne (by omega)).trans ((setG_ne (by omega)).trans ((setG_ne (by omega)).trans (setG_ne (by omega))))))) (fun y => ((setG_ne (by omega)).trans ((setG_ne (by omega)).trans ((setG_ne (by omega)).trans ((setG_ne (by omega)).trans (setG_ne (by omega)))))))]; exact q2)) (fun _ h => h) (by omega) (cell_108 ad C _) rfl wc_X6_passes wm_RX6_184 wi_X6_passes ws_X6_passes wn_X6 (by decide) rfl ⟨Nat.le_of_ble_eq_true rfl, Nat.le_of_ble_eq_true rfl⟩ ⟨Nat.le_of_ble_eq_true rfl, Nat.le_of_ble_eq_true rfl⟩ (Nat.le_of_ble_eq_true rfl) dX6_readOrder_126 rfl (fun r9 G9 h9 => ?_)
      rw [h9.1, h9.2]
      clear h9
      rw [show (p + 2 + 1 : Int) = p + 3 by omega]
      have l18 := bM_lt o (p := p + 2) (by omega)
      refine aw_if_eq (q := 132) dX6_readOrder_129 rfl (t := 173) (by decide) (by omega) (fun h => absurd h (by omega)) (fun _ => ?_)
      refine aw_aload_n (q := 133) 0 dX6_readOrder_132 rfl rfl rfl ?_
      refine aw_aload_n (q := 134) 0 dX6_readOrder_133 rfl rfl rfl ?_
      refine g_mod_letter (q := 137) (v := 115) ((setG_ne (by omega)).trans ((setG_ne (by omega)).trans ((setG_ne (by omega)).trans ((setG_ne (by omega)).trans ((setG_ne (by omega)).trans (setG_same _ _ _ _)))))) wf_RX6_190 dX6_readOrder_134 rfl ?_
      refine aw_bipush (q := 139) dX6_readOrder_137 rfl (by decide) ?_
      refine aw_icmp_ne (q := 142) dX6_readOrder_139 rfl (t := 147) (by decide) (by omega) (by omega) (fun h => absurd h (by omega)) (fun _ => ?_)
      refine aw_bipush (q := 144) dX6_readOrder_142 rfl (by decide) ?_
      refine aw_goto (q := 163) dX6_readOrder_144 (by decide) ?_
      by_cases q3 : okNum (bM G) (p + 3) 20
      · refine cv_I (q := 166) (CC := "") (id := 108) (As := [.int (iI 20)]) 1 (c_readNumberMY (T := T) (D := D) (ad := ad) (setG (setG (setG (setG (setG (setG G 11 14 115) 11 13 (p + 1)) 11 16 ((bM G (p + 1) - 48))) 11 13 (p + 2)) 11 17 ((bM G (p + 1) - 48))) 11 13 (p + 3)) (okX_congr (((setG_ne (by omega)).trans ((setG_ne (by omega)).trans ((setG_ne (by omega)).trans ((setG_ne (by omega)).trans ((setG_ne (by omega)).trans (setG_ne (by omega)))))))) (fun y => ((setG_ne (by omega)).trans ((setG_ne (by omega)).trans ((setG_ne (by omega)).trans ((setG_ne (by omega)).trans ((setG_ne (by omega)).trans (setG_ne (by omega)))))))) o) (p := p + 3) ((setG_same _ _ _ _)) (by omega) (by omega) (m := 20) (by omega) (by rw [show bM (setG (setG (setG (setG (setG (setG G 11 14 115) 11 13 (p + 1)) 11 16 ((bM G (p + 1) - 48))) 11 13 (p + 2)) 11 17 ((bM G (p + 1) - 48))) 11 13 (p + 3)) = bM G from funext (bM_congr (H := (setG (setG (setG (setG (setG (setG G 11 14 115) 11 13 (p + 1)) 11 16 ((bM G (p + 1) - 48))) 11 13 (p + 2)) 11 17 ((bM G (p + 1) - 48))) 11 13 (p + 3))) (G := G) (((setG_ne (by omega)).trans ((setG_ne (by omega)).trans ((setG_ne (by omega)).trans ((setG_ne (by omega)).trans ((setG_ne (by omega)).trans (setG_ne (by omega)))))))) (fun y => ((setG_ne (by omega)).trans ((setG_ne (by omega)).trans ((setG_ne (by omega)).trans ((setG_ne (by omega)).trans ((setG_ne (by omega)).trans (setG_ne (by omega)))))))))]; exact q3)) (fun _ h => h) (by omega) (cell_108 ad C _) rfl wc_X6_readNumber wm_RX6_200 wi_X6_readNumber ws_X6_readNumber wn_X6 (by decide) rfl ⟨Nat.le_of_ble_eq_true rfl, Nat.le_of_ble_eq_true rfl⟩ ⟨Nat.le_of_ble_eq_true rfl, Nat.le_of_ble_eq_true rfl⟩ (Nat.le_of_ble_eq_true rfl) dX6_readOrder_163 rfl (fun r9 N h9 => ?_)
        obtain ⟨r1, eV, eA, fN⟩ := h9
        rw [r1]
        rw [show bM (setG (setG (setG (setG (setG (setG G 11 14 115) 11 13 (p + 1)) 11 16 ((bM G (p + 1) - 48))) 11 13 (p + 2)) 11 17 ((bM G (p + 1) - 48))) 11 13 (p + 3)) = bM G from funext (bM_congr (H := (setG (setG (setG (setG (setG (setG G 11 14 115) 11 13 (p + 1)) 11 16 ((bM G (p + 1) - 48))) 11 13 (p + 2)) 11 17 ((bM G (p + 1) - 48))) 11 13 (p + 3))) (G := G) (((setG_ne (by omega)).trans ((setG_ne (by omega)).trans ((setG_ne (by omega)).trans ((setG_ne (by omega)).trans ((setG_ne (by omega)).trans (setG_ne (by omega)))))))) (fun y => ((setG_ne (by omega)).trans ((setG_ne (by omega)).trans ((setG_ne (by omega)).trans ((setG_ne (by omega)).trans ((setG_ne (by omega)).trans (setG_ne (by omega)))))))))] at eV eA
        have nq := nQ_b (bM G) (p + 3)
        refine aw_if_eq (q := 169) dX6_readOrder_166 rfl (t := 173) (by decide) (by omega) (fun h => absurd h (by omega)) (fun _ => ?_)
        refine aw_iconst (q := 170) dX6_readOrder_169 rfl ?_
        refine aw_goto (q := 174) dX6_readOrder_170 (by decide) ?_
        refine aw_istore_n (q := 175) (lv2 := [(0, .ref (ad 108)), (1, .int (iI 1))]) [1, 0] dX6_readOrder_174 rfl rfl (by decide) rfl rfl ?_
        refine aw_iload_n (q := 176) 1 dX6_readOrder_175 rfl rfl rfl ?_
        refine aw_if_eq (q := 179) dX6_readOrder_176 rfl (t := 192) (by decide) (by omega) (fun h => absurd h (by omega)) (fun _ => ?_)
        refine aw_aload_n (q := 180) 0 dX6_readOrder_179 rfl rfl rfl ?_
        refine aw_bipush (q := 182) dX6_readOrder_180 rfl (by decide) ?_
        by_cases q4 : bM G ((nQ (bM G) (p + 3))) = 59
        · refine cv_I (q := 185) (CC := "") (id := 108) (As := [.int (iI 59)]) 1 (c_passesY (T := T) (D := D) (ad := ad) N (okX_congr (((fN 11 6 (by omega)).trans (((setG_ne (by omega)).trans ((setG_ne (by omega)).trans ((setG_ne (by omega)).trans ((setG_ne (by omega)).trans ((setG_ne (by omega)).trans (setG_ne (by omega)))))))))) (fun y => ((fN 16 y (by omega)).trans (((setG_ne (by omega)).trans ((setG_ne (by omega)).trans ((setG_ne (by omega)).trans ((setG_ne (by omega)).trans ((setG_ne (by omega)).trans (setG_ne (by omega)))))))))) o) (p := (nQ (bM G) (p + 3))) ((eA)) (by omega) (by omega) (c := 59) (by omega) (by rw [bM_congr (H := N) (G := G) (((fN 11 6 (by omega)).trans (((setG_ne (by omega)).trans ((setG_ne (by omega)).trans ((setG_ne (by omega)).trans ((setG_ne (by omega)).trans ((setG_ne (by omega)).trans (setG_ne (by omega)))))))))) (fun y => ((fN 16 y (by omega)).trans (((setG_ne (by omega)).trans ((setG_ne (by omega)).trans ((setG_ne (by omega)).trans ((setG_ne (by omega)).trans ((setG_ne (by omega)).trans (setG_ne (by omega))))))))))]; exact q4)) (fun _ h => h) (by omega) (cell_108 ad C _) rfl wc_X6_passes wm_RX6_184 wi_X6_passes ws_X6_passes wn_X6 (by decide) rfl ⟨Nat.le_of_ble_eq_true rfl, Nat.le_of_ble_eq_true rfl⟩ ⟨Nat.le_of_ble_eq_true rfl, Nat.le_of_ble_eq_true rfl⟩ (Nat.le_of_ble_eq_true rfl) dX6_readOrder_182 rfl (fun r9 G9 h9 => ?_)
          rw [h9.1, h9.2]
          clear h9
          have l19 := bM_lt o (p := (nQ (bM G) (p + 3))) (by omega)
          refine aw_if_eq (q := 188) dX6_readOrder_185 rfl (t := 192) (by decide) (by omega) (fun h => absurd h (by omega)) (fun _ => ?_)
          refine aw_iconst (q := 189) dX6_readOrder_188 rfl ?_
          refine aw_goto (q := 193) dX6_readOrder_189 (by decide) ?_
          exact rt_z rfl (by first | omega | exact b2i_r _) (Nat.le_refl _) (Nat.le_refl _) (⟨Or.inl ⟨⟨by omega, by assumption, by assumption, by assumption⟩, rfl, (setG_same _ _ _ _), (((setG_ne (by omega)).trans (((fN _ _ (by omega)).trans (((setG_ne (by omega)).trans ((setG_ne (by omega)).trans ((setG_ne (by omega)).trans ((setG_ne (by omega)).trans ((setG_ne (by omega)).trans (setG_same _ _ _ _))))))))))), (((setG_ne (by omega)).trans (((fN _ _ (by omega)).trans (((setG_ne (by omega)).trans (setG_same _ _ _ _))))))), (((setG_ne (by omega)).trans (eV)))⟩, fun x y z => ((setG_ne (by omega)).trans ((fN x y (by omega)).trans (((setG_ne (by omega)).trans ((setG_ne (by omega)).trans ((setG_ne (by omega)).trans ((setG_ne (by omega)).trans ((setG_ne (by omega)).trans (setG_ne (by omega))))))))))⟩) dX6_readOrder_193
        · refine cv_I (q := 185) (CC := "") (id := 108) (As := [.int (iI 59)]) 1 (c_passesN (T := T) (D := D) (ad := ad) N (okX_congr (((fN 11 6 (by omega)).trans (((setG_ne (by omega)).trans ((setG_ne (by omega)).trans ((setG_ne (by omega)).trans ((setG_ne (by omega)).trans ((setG_ne (by omega)).trans (setG_ne (by omega)))))))))) (fun y => ((fN 16 y (by omega)).trans (((setG_ne (by omega)).trans ((setG_ne (by omega)).trans ((setG_ne (by omega)).trans ((setG_ne (by omega)).trans ((setG_ne (by omega)).trans (setG_ne (by omega)))))))))) o) (p := (nQ (bM G) (p + 3))) ((eA)) (by omega) (by omega) (c := 59) (by omega) (by rw [bM_congr (H := N) (G := G) (((fN 11 6 (by omega)).trans (((setG_ne (by omega)).trans ((setG_ne (by omega)).trans ((setG_ne (by omega)).trans ((setG_ne (by omega)).trans ((setG_ne (by omega)).trans (setG_ne (by omega)))))))))) (fun y => ((fN 16 y (by omega)).trans (((setG_ne (by omega)).trans ((setG_ne (by omega)).trans ((setG_ne (by omega)).trans ((setG_ne (by omega)).trans ((setG_ne (by omega)).trans (setG_ne (by omega))))))))))]; exact q4)) (fun _ h => h) (by omega) (cell_108 ad C _) rfl wc_X6_passes wm_RX6_184 wi_X6_passes ws_X6_passes wn_X6 (by decide) rfl ⟨Nat.le_of_ble_eq_true rfl, Nat.le_of_ble_eq_true rfl⟩ ⟨Nat.le_of_ble_eq_true rfl, Nat.le_of_ble_eq_true rfl⟩ (Nat.le_of_ble_eq_true rfl) dX6_readOrder_182 rfl (fun r9 G9 h9 => ?_)
          rw [h9.1, h9.2]
          clear h9
          refine aw_if_eq (q := 188) dX6_readOrder_185 rfl (t := 192) (by decide) (by omega) (fun _ => ?_) (fun h => absurd h (by omega))
          refine aw_iconst (q := 193) dX6_readOrder_192 rfl ?_
          exact rt_z rfl (by first | omega | exact b2i_r _) (Nat.le_refl _) (Nat.le_refl _) (⟨Or.inr ⟨by intro q; first | exact absurd q.1 (by assumption) | exact absurd q.2.1 (by assumption) | exact absurd q.2.2.1 (by assumption) | exact absurd q.2.2.2 (by assumption) | exact absurd q.2.2 (by assumption) | exact absurd q.2 (by assumption) | omega, rfl, ((eA)).trans (by unfold flSt; repeat (first | rw [if_pos (by assumption)] | rw [if_neg (fun z => z (by assumption))]))⟩, fun x y z => ((fN x y (by omega)).trans (((setG_ne (by omega)).trans ((setG_ne (by omega)).trans ((setG_ne (by omega)).trans ((setG_ne (by omega)).trans ((setG_ne (by omega)).trans (setG_ne (by omega)))))))))⟩) dX6_readOrder_193
      · refine cv_I (q := 166) (CC := "") (id := 108) (As := [.int (iI 20)]) 1 (c_readNumberMN (T := T) (D := D) (ad := ad) (setG (setG (setG (setG (setG (setG G 11 14 115) 11 13 (p + 1)) 11 16 ((bM G (p + 1) - 48))) 11 13 (p + 2)) 11 17 ((bM G (p + 1) - 48))) 11 13 (p + 3)) (okX_congr (((setG_ne (by omega)).trans ((setG_ne (by omega)).trans ((setG_ne (by omega)).trans ((setG_ne (by omega)).trans ((setG_ne (by omega)).trans (setG_ne (by omega)))))))) (fun y => ((setG_ne (by omega)).trans ((setG_ne (by omega)).trans ((setG_ne (by omega)).trans ((setG_ne (by omega)).trans ((setG_ne (by omega)).trans (setG_ne (by omega)))))))) o) (p := p + 3) ((setG_same _ _ _ _)) (by omega) (by omega) (m := 20) (by omega) (by rw [show bM (setG (setG (setG (setG (setG (setG G 11 14 115) 11 13 (p + 1)) 11 16 ((bM G (p + 1) - 48))) 11 13 (p + 2)) 11 17 ((bM G (p + 1) - 48))) 11 13 (p + 3)) = bM G from funext (bM_congr (H := (setG (setG (setG (setG (setG (setG G 11 14 115) 11 13 (p + 1)) 11 16 ((bM G (p + 1) - 48))) 11 13 (p + 2)) 11 17 ((bM G (p + 1) - 48))) 11 13 (p + 3))) (G := G) (((setG_ne (by omega)).trans ((setG_ne (by omega)).trans ((setG_ne (by omega)).trans ((setG_ne (by omega)).trans ((setG_ne (by omega)).trans (setG_ne (by omega)))))))) (fun y => ((setG_ne (by omega)).trans ((setG_ne (by omega)).trans ((setG_ne (by omega)).trans ((setG_ne (by omega)).trans ((setG_ne (by omega)).trans (setG_ne (by omega)))))))))]; exact q3)) (fun _ h => h) (by omega) (cell_108 ad C _) rfl wc_X6_readNumber wm_RX6_200 wi_X6_readNumber ws_X6_readNumber wn_X6 (by decide) rfl ⟨Nat.le_of_ble_eq_true rfl, Nat.le_of_ble_eq_true rfl⟩ ⟨Nat.le_of_ble_eq_true rfl, Nat.le_of_ble_eq_true rfl⟩ (Nat.le_of_ble_eq_true rfl) dX6_readOrder_163 rfl (fun r9 N h9 => ?_)
        obtain ⟨r1, eA, fN⟩ := h9
        rw [r1]
        rw [show bM (setG (setG (setG (setG (setG (setG G 11 14 115) 11 13 (p + 1)) 11 16 ((bM G (p + 1) - 48))) 11 13 (p + 2)) 11 17 ((bM G (p + 1) - 48))) 11 13 (p + 3)) = bM G from funext (bM_congr (H := (setG (setG (setG (setG (setG (setG G 11 14 115) 11 13 (p + 1)) 11 16 ((bM G (p + 1) - 48))) 11 13 (p + 2)) 11 17 ((bM G (p + 1) - 48))) 11 13 (p + 3))) (G := G) (((setG_ne (by omega)).trans ((setG_ne (by omega)).trans ((setG_ne (by omega)).trans ((setG_ne (by omega)).trans ((setG_ne (by omega)).trans (setG_ne (by omega)))))))) (fun y => ((setG_ne (by omega)).trans ((setG_ne (by omega)).trans ((setG_ne (by omega)).trans ((setG_ne (by omega)).trans ((setG_ne (by omega)).trans (setG_ne (by omega)))))))))] at eA
        have nq := nQ_b (bM G) (p + 3)
        refine aw_if_eq (q := 169) dX6_readOrder_166 rfl (t := 173) (by decide) (by omega) (fun _ => ?_) (fun h => absurd h (by omega))
        refine aw_iconst (q := 174) dX6_readOrder_173 rfl ?_
        refine aw_istore_n (q := 175) (lv2 := [(0, .ref (ad 108)), (1, .int (iI 0))]) [1, 0] dX6_readOrder_174 rfl rfl (by decide) rfl rfl ?_
        refine aw_iload_n (q := 176) 1 dX6_readOrder_175 rfl rfl rfl ?_
        refine aw_if_eq (q := 179) dX6_readOrder_176 rfl (t := 192) (by decide) (by omega) (fun _ => ?_) (fun h => absurd h (by omega))
        refine aw_iconst (q := 193) dX6_readOrder_192 rfl ?_
        exact rt_z rfl (by first | omega | exact b2i_r _) (Nat.le_refl _) (Nat.le_refl _) (⟨Or.inr ⟨by intro q; first | exact absurd q.1 (by assumption) | exact absurd q.2.1 (by assumption) | exact absurd q.2.2.1 (by assumption) | exact absurd q.2.2.2 (by assumption) | exact absurd q.2.2 (by assumption) | exact absurd q.2 (by assumption) | omega, rfl, ((eA)).trans (by unfold flSt; repeat (first | rw [if_pos (by assumption)] | rw [if_neg (fun z => z (by assumption))]))⟩, fun x y z => ((fN x y (by omega)).trans (((setG_ne (by omega)).trans ((setG_ne (by omega)).trans ((setG_ne (by omega)).trans ((setG_ne (by omega)).trans ((setG_ne (by omega)).trans (setG_ne (by omega)))))))))⟩) dX6_readOrder_193
    · refine cv_I (q := 129) (CC := "") (id := 108) (As := [.int (iI 120)]) 1 (c_passesN (T := T) (D := D) (ad := ad) (setG (setG (setG (setG (setG G 11 14 115) 11 13 (p + 1)) 11 16 ((bM G (p + 1) - 48))) 11 13 (p + 2)) 11 17 ((bM G (p + 1) - 48))) (okX_congr (((setG_ne (by omega)).trans ((setG_ne (by omega)).trans ((setG_ne (by omega)).trans ((setG_ne (by omega)).trans (setG_ne (by omega))))))) (fun y => ((setG_ne (by omega)).trans ((setG_ne (by omega)).trans ((setG_ne (by omega)).trans ((setG_ne (by omega)).trans (setG_ne (by omega))))))) o) (p := p + 2) (((setG_ne (by omega)).trans (setG_same _ _ _ _))) (by omega) (by omega) (c := 120) (by omega) (by rw [bM_congr (H := (setG (setG (setG (setG (setG G 11 14 115) 11 13 (p + 1)) 11 16 ((bM G (p + 1) - 48))) 11 13 (p + 2)) 11 17 ((bM G (p + 1) - 48)))) (G := G) (((setG_ne (by omega)).trans ((setG_ne (by omega)).trans ((setG_ne (by omega)).trans ((setG_ne (by omega)).trans (setG_ne (by omega))))))) (fun y => ((setG_ne (by omega)).trans ((setG_ne (by omega)).trans ((setG_ne (by omega)).trans ((setG_ne (by omega)).trans (setG_ne (by omega)))))))]; exact q2)) (fun _ h => h) (by omega) (cell_108 ad C _) rfl wc_X6_passes wm_RX6_184 wi_X6_passes ws_X6_passes wn_X6 (by decide) rfl ⟨Nat.le_of_ble_eq_true rfl, Nat.le_of_ble_eq_true rfl⟩ ⟨Nat.le_of_ble_eq_true rfl, Nat.le_of_ble_eq_true rfl⟩ (Nat.le_of_ble_eq_true rfl) dX6_readOrder_126 rfl (fun r9 G9 h9 => ?_)
      rw [h9.1, h9.2]
      clear h9
      refine aw_if_eq (q := 132) dX6_readOrder_129 rfl (t := 173) (by decide) (by omega) (fun _ => ?_) (fun h => absurd h (by omega))
      refine aw_iconst (q := 174) dX6_readOrder_173 rfl ?_
      refine aw_istore_n (q := 175) (lv2 := [(0, .ref (ad 108)), (1, .int (iI 0))]) [1, 0] dX6_readOrder_174 rfl rfl (by decide) rfl rfl ?_
      refine aw_iload_n (q := 176) 1 dX6_readOrder_175 rfl rfl rfl ?_
      refine aw_if_eq (q := 179) dX6_readOrder_176 rfl (t := 192) (by decide) (by omega) (fun _ => ?_) (fun h => absurd h (by omega))
      refine aw_iconst (q := 193) dX6_readOrder_192 rfl ?_
      exact rt_z rfl (by first | omega | exact b2i_r _) (Nat.le_refl _) (Nat.le_refl _) (⟨Or.inr ⟨by intro q; first | exact absurd q.1 (by assumption) | exact absurd q.2.1 (by assumption) | exact absurd q.2.2.1 (by assumption) | exact absurd q.2.2.2 (by assumption) | exact absurd q.2.2 (by assumption) | exact absurd q.2 (by assumption) | omega, rfl, (((setG_ne (by omega)).trans (setG_same _ _ _ _))).trans (by unfold flSt; repeat (first | rw [if_pos (by assumption)] | rw [if_neg (fun z => z (by assumption))]))⟩, fun x y z => ((setG_ne (by omega)).trans ((setG_ne (by omega)).trans ((setG_ne (by omega)).trans ((setG_ne (by omega)).trans (setG_ne (by omega))))))⟩) dX6_readOrder_193
  · refine cv_I (q := 85) (CC := "") (id := 108) (As := [.int (iI 55)]) 1 (c_readDigitMN (T := T) (D := D) (ad := ad) (setG (setG G 11 14 115) 11 13 (p + 1)) (okX_congr (((setG_ne (by omega)).trans (setG_ne (by omega)))) (fun y => ((setG_ne (by omega)).trans (setG_ne (by omega)))) o) (p := p + 1) ((setG_same _ _ _ _)) (by omega) (by omega) (m := 55) (by omega) (by rw [bM_congr (H := (setG (setG G 11 14 115) 11 13 (p + 1))) (G := G) (((setG_ne (by omega)).trans (setG_ne (by omega)))) (fun y => ((setG_ne (by omega)).trans (setG_ne (by omega))))]; exact q1)) (fun _ h => h) (by omega) (cell_108 ad C _) rfl wc_X6_readDigit wm_RX6_187 wi_X6_readDigit ws_X6_readDigit wn_X6 (by decide) rfl ⟨Nat.le_of_ble_eq_true rfl, Nat.le_of_ble_eq_true rfl⟩ ⟨Nat.le_of_ble_eq_true rfl, Nat.le_of_ble_eq_true rfl⟩ (Nat.le_of_ble_eq_true rfl) dX6_readOrder_82 rfl (fun r9 G9 h9 => ?_)
    rw [bM_congr (H := (setG (setG G 11 14 115) 11 13 (p + 1))) (G := G) (((setG_ne (by omega)).trans (setG_ne (by omega)))) (fun y => ((setG_ne (by omega)).trans (setG_ne (by omega))))] at h9
    rw [h9.1, h9.2]
    clear h9
    refine aw_if_ne (q := 88) dX6_readOrder_85 rfl (t := 90) (by decide) (by omega) (fun h => absurd h (by omega)) (fun _ => ?_)
    refine aw_iconst (q := 89) dX6_readOrder_88 rfl ?_
    exact rt_z rfl (by first | omega | exact b2i_r _) (Nat.le_refl _) (Nat.le_refl _) (⟨Or.inr ⟨by intro q; first | exact absurd q.1 (by assumption) | exact absurd q.2.1 (by assumption) | exact absurd q.2.2.1 (by assumption) | exact absurd q.2.2.2 (by assumption) | exact absurd q.2.2 (by assumption) | exact absurd q.2 (by assumption) | omega, rfl, (((setG_ne (by omega)).trans (setG_same _ _ _ _))).trans (by unfold flSt; repeat (first | rw [if_pos (by assumption)] | rw [if_neg (fun z => z (by assumption))]))⟩, fun x y z => ((setG_ne (by omega)).trans ((setG_ne (by omega)).trans (setG_ne (by omega))))⟩) dX6_readOrder_89
set_option maxHeartbeats 4000000 in
set_option maxRecDepth 100000 in
theorem c_order98 {l : Launch} {D : va_G} {C : Nat → ClassId} {T : Nat → Nat} {ad : Int → Nat} (G : GG) (o : okX G) {p : Int} (hp : G 11 13 = p) (h0 : 0 ≤ p) (h1 : p ≤ 100) (hL : bM G p = 98) : MC l yX6_readOrder cX6_readOrder 2 (some .boolean) 3 65 0 0 D (tyC C) T [.ref (ad 108)] (cw ad C G) (RI ad C (fun r G1 => ((okBu (bM G) p ∧ r = 1 ∧ G1 11 13 = p + 11 ∧ G1 11 14 = 98 ∧ G1 11 17 = bM G (p + 1) - 48 ∧ G1 18 0 = bM G (p + 3) - 48 ∧ G1 18 1 = bM G (p + 5) - 48 ∧ G1 18 2 = bM G (p + 7) - 48 ∧ G1 18 3 = bM G (p + 9) - 48) ∨ (¬ okBu (bM G) p ∧ r = 0 ∧ G1 11 13 = flBu (bM G) p)) ∧ sameB roS_ G G1)) := by
  refine mc_of (by decide +kernel) (Nat.le_of_ble_eq_true rfl) rfl ?_
  have o1 := o.1
  refine aw_aload_n (q := 1) 0 dX6_readOrder_0 rfl rfl rfl ?_
  refine aw_aload_n (q := 2) 0 dX6_readOrder_1 rfl rfl rfl ?_
  refine cv_I (q := 5) (CC := "") (id := 108) (As := []) 0 (c_here (T := T) (D := D) (ad := ad) G o (by rw [hp]; omega)) (fun _ h => h) (by omega) (cell_108 ad C _) rfl wc_X6_here wm_RX6_172 wi_X6_here ws_X6_here wn_X6 (by decide) rfl ⟨Nat.le_of_ble_eq_true rfl, Nat.le_of_ble_eq_true rfl⟩ ⟨Nat.le_of_ble_eq_true rfl, Nat.le_of_ble_eq_true rfl⟩ (Nat.le_of_ble_eq_true rfl) dX6_readOrder_2 rfl (fun r9 G9 h9 => ?_)
  obtain ⟨e9, g9⟩ := h9
  rw [e9.trans ((congrArg (bM G) hp).trans hL), g9]
  clear e9 g9
  have b0 := bM_r o h0
  refine p_mod_letter (q := 8) wf_RX6_190 dX6_readOrder_5 rfl ?_
  refine aw_aload_n (q := 9) 0 dX6_readOrder_8 rfl rfl rfl ?_
  refine g_mod_letter (q := 12) (v := 98) (setG_same _ _ _ _) wf_RX6_190 dX6_readOrder_9 rfl ?_
  refine aw_bipush (q := 14) dX6_readOrder_12 rfl (by decide) ?_
  refine aw_icmp_eq (q := 17) dX6_readOrder_14 rfl (t := 46) (by decide) (by omega) (by omega) (fun h => absurd h (by omega)) (fun _ => ?_)
  refine aw_aload_n (q := 18) 0 dX6_readOrder_17 rfl rfl rfl ?_
  refine g_mod_letter (q := 21) (v := 98) (setG_same _ _ _ _) wf_RX6_190 dX6_readOrder_18 rfl ?_
  refine aw_bipush (q := 23) dX6_readOrder_21 rfl (by decide) ?_
  refine aw_icmp_eq (q := 26) dX6_readOrder_23 rfl (t := 46) (by decide) (by omega) (by omega) (fun _ => ?_) (fun h => absurd h (by omega))
  refine aw_aload_n (q := 47) 0 dX6_readOrder_46 rfl rfl rfl ?_
  refine aw_dup (q := 48) dX6_readOrder_47 rfl rfl ?_
  refine g_mod_at (q := 51) (v := p) ((setG_ne (by omega)).trans (hp)) wf_RX6_169 dX6_readOrder_48 rfl ?_
  refine aw_iconst (q := 52) dX6_readOrder_51 rfl ?_
  refine ae_iadd (q := 53) (p + 1) (by omega) dX6_readOrder_52 rfl ?_
  refine p_mod_at (q := 56) wf_RX6_169 dX6_readOrder_53 rfl ?_
  refine aw_aload_n (q := 57) 0 dX6_readOrder_56 rfl rfl rfl ?_
  refine g_mod_letter (q := 60) (v := 98) ((setG_ne (by omega)).trans (setG_same _ _ _ _)) wf_RX6_190 dX6_readOrder_57 rfl ?_
  refine aw_bipush (q := 62) dX6_readOrder_60 rfl (by decide) ?_
  refine aw_icmp_eq (q := 65) dX6_readOrder_62 rfl (t := 98) (by decide) (by omega) (by omega) (fun h => absurd h (by omega)) (fun _ => ?_)
  refine aw_aload_n (q := 66) 0 dX6_readOrder_65 rfl rfl rfl ?_
  refine aw_aload_n (q := 67) 0 dX6_readOrder_66 rfl rfl rfl ?_
  refine g_mod_letter (q := 70) (v := 98) ((setG_ne (by omega)).trans (setG_same _ _ _ _)) wf_RX6_190 dX6_readOrder_67 rfl ?_
  refine aw_bipush (q := 72) dX6_readOrder_70 rfl (by decide) ?_
  refine aw_icmp_ne (q := 75) dX6_readOrder_72 rfl (t := 80) (by decide) (by omega) (by omega) (fun _ => ?_) (fun h => absurd h (by omega))
  refine aw_bipush (q := 82) dX6_readOrder_80 rfl (by decide) ?_
  by_cases q1 : (48 ≤ bM G (p + 1) ∧ bM G (p + 1) ≤ 55)
  · refine cv_I (q := 85) (CC := "") (id := 108) (As := [.int (iI 55)]) 1 (c_readDigitMY (T := T) (D := D) (ad := ad) (setG (setG G 11 14 98) 11 13 (p + 1)) (okX_congr (((setG_ne (by omega)).trans (setG_ne (by omega)))) (fun y => ((setG_ne (by omega)).trans (setG_ne (by omega)))) o) (p := p + 1) ((setG_same _ _ _ _)) (by omega) (by omega) (m := 55) (by omega) (by rw [bM_congr (H := (setG (setG G 11 14 98) 11 13 (p + 1))) (G := G) (((setG_ne (by omega)).trans (setG_ne (by omega)))) (fun y => ((setG_ne (by omega)).trans (setG_ne (by omega))))]; exact q1)) (fun _ h => h) (by omega) (cell_108 ad C _) rfl wc_X6_readDigit wm_RX6_187 wi_X6_readDigit ws_X6_readDigit wn_X6 (by decide) rfl ⟨Nat.le_of_ble_eq_true rfl, Nat.le_of_ble_eq_true rfl⟩ ⟨Nat.le_of_ble_eq_true rfl, Nat.le_of_ble_eq_true rfl⟩ (Nat.le_of_ble_eq_true rfl) dX6_readOrder_82 rfl (fun r9 G9 h9 => ?_)
    rw [bM_congr (H := (setG (setG G 11 14 98) 11 13 (p + 1))) (G := G) (((setG_ne (by omega)).trans (setG_ne (by omega)))) (fun y => ((setG_ne (by omega)).trans (setG_ne (by omega))))] at h9
    rw [h9.1, h9.2]
    clear h9
    rw [show (p + 1 + 1 : Int) = p + 2 by omega]
    have l23 := bM_lt o (p := p + 1) (by omega)
    refine aw_if_ne (q := 88) dX6_readOrder_85 rfl (t := 90) (by decide) (by omega) (fun _ => ?_) (fun h => absurd h (by omega))
    refine aw_aload_n (q := 91) 0 dX6_readOrder_90 rfl rfl rfl ?_
    refine aw_aload_n (q := 92) 0 dX6_readOrder_91 rfl rfl rfl ?_
    refine g_mod_digit (q := 95) (v := (bM G (p + 1) - 48)) ((setG_ne (by omega)).trans (setG_same _ _ _ _)) wf_RX6_175 dX6_readOrder_92 rfl ?_
    refine p_mod_which (q := 98) wf_RX6_193 dX6_readOrder_95 rfl ?_
    refine aw_aload_n (q := 99) 0 dX6_readOrder_98 rfl rfl rfl ?_
    refine g_mod_letter (q := 102) (v := 98) ((setG_ne (by omega)).trans ((setG_ne (by omega)).trans ((setG_ne (by omega)).trans ((setG_ne (by omega)).trans (setG_same _ _ _ _))))) wf_RX6_190 dX6_readOrder_99 rfl ?_
    refine aw_bipush (q := 104) dX6_readOrder_102 rfl (by decide) ?_
    refine aw_icmp_ne (q := 107) dX6_readOrder_104 rfl (t := 114) (by decide) (by omega) (by omega) (fun h => absurd h (by omega)) (fun _ => ?_)
    refine aw_aload_n (q := 108) 0 dX6_readOrder_107 rfl rfl rfl ?_
    by_cases q2 : okCo (bM G) (p + 2)
    · refine cv_I (q := 111) (CC := "") (id := 108) (As := []) 0 (c_readCoinsMY (T := T) (D := D) (ad := ad) (setG (setG (setG (setG (setG G 11 14 98) 11 13 (p + 1)) 11 16 ((bM G (p + 1) - 48))) 11 13 (p + 2)) 11 17 ((bM G (p + 1) - 48))) (okX_congr (((setG_ne (by omega)).trans ((setG_ne (by omega)).trans ((setG_ne (by omega)).trans ((setG_ne (by omega)).trans (setG_ne (by omega))))))) (fun y => ((setG_ne (by omega)).trans ((setG_ne (by omega)).trans ((setG_ne (by omega)).trans ((setG_ne (by omega)).trans (setG_ne (by omega))))))) o) (p := p + 2) (((setG_ne (by omega)).trans (setG_same _ _ _ _))) (by omega) (by omega) (by rw [show bM (setG (setG (setG (setG (setG G 11 14 98) 11 13 (p + 1)) 11 16 ((bM G (p + 1) - 48))) 11 13 (p + 2)) 11 17 ((bM G (p + 1) - 48))) = bM G from funext (bM_congr (H := (setG (setG (setG (setG (setG G 11 14 98) 11 13 (p + 1)) 11 16 ((bM G (p + 1) - 48))) 11 13 (p + 2)) 11 17 ((bM G (p + 1) - 48)))) (G := G) (((setG_ne (by omega)).trans ((setG_ne (by omega)).trans ((setG_ne (by omega)).trans ((setG_ne (by omega)).trans (setG_ne (by omega))))))) (fun y => ((setG_ne (by omega)).trans ((setG_ne (by omega)).trans ((setG_ne (by omega)).trans ((setG_ne (by omega)).trans (setG_ne (by omega))))))))]; exact q2)) (fun _ h => h) (by omega) (cell_108 ad C _) rfl wc_X6_readCoins wm_RX6_196 wi_X6_readCoins ws_X6_readCoins wn_X6 (by decide) rfl ⟨Nat.le_of_ble_eq_true rfl, Nat.le_of_ble_eq_true rfl⟩ ⟨Nat.le_of_ble_eq_true rfl, Nat.le_of_ble_eq_true rfl⟩ (Nat.le_of_ble_eq_true rfl) dX6_readOrder_108 rfl (fun r9 N h9 => ?_)
      obtain ⟨r1, eA, ⟨eC0, eC1, eC2, eC3⟩, fN⟩ := h9
      rw [r1]
      rw [show bM (setG (setG (setG (setG (setG G 11 14 98) 11 13 (p + 1)) 11 16 ((bM G (p + 1) - 48))) 11 13 (p + 2)) 11 17 ((bM G (p + 1) - 48))) = bM G from funext (bM_congr (H := (setG (setG (setG (setG (setG G 11 14 98) 11 13 (p + 1)) 11 16 ((bM G (p + 1) - 48))) 11 13 (p + 2)) 11 17 ((bM G (p + 1) - 48)))) (G := G) (((setG_ne (by omega)).trans ((setG_ne (by omega)).trans ((setG_ne (by omega)).trans ((setG_ne (by omega)).trans (setG_ne (by omega))))))) (fun y => ((setG_ne (by omega)).trans ((setG_ne (by omega)).trans ((setG_ne (by omega)).trans ((setG_ne (by omega)).trans (setG_ne (by omega))))))))] at eC0 eC1 eC2 eC3
      refine aw_goto (q := 174) dX6_readOrder_111 (by decide) ?_
      refine aw_istore_n (q := 175) (lv2 := [(0, .ref (ad 108)), (1, .int (iI 1))]) [1, 0] dX6_readOrder_174 rfl rfl (by decide) rfl rfl ?_
      refine aw_iload_n (q := 176) 1 dX6_readOrder_175 rfl rfl rfl ?_
      refine aw_if_eq (q := 179) dX6_readOrder_176 rfl (t := 192) (by decide) (by omega) (fun h => absurd h (by omega)) (fun _ => ?_)
      refine aw_aload_n (q := 180) 0 dX6_readOrder_179 rfl rfl rfl ?_
      refine aw_bipush (q := 182) dX6_readOrder_180 rfl (by decide) ?_
      by_cases q3 : bM G (p + 10) = 59
      · refine cv_I (q := 185) (CC := "") (id := 108) (As := [.int (iI 59)]) 1 (c_passesY (T := T) (D := D) (ad := ad) N (okX_congr (((fN 11 6 (by omega)).trans (((setG_ne (by omega)).trans ((setG_ne (by omega)).trans ((setG_ne (by omega)).trans ((setG_ne (by omega)).trans (setG_ne (by omega))))))))) (fun y => ((fN 16 y (by omega)).trans (((setG_ne (by omega)).trans ((setG_ne (by omega)).trans ((setG_ne (by omega)).trans ((setG_ne (by omega)).trans (setG_ne (by omega))))))))) o) (p := p + 10) (((eA.trans (by omega : (p + 2 + 8 : Int) = p + 10)))) (by omega) (by omega) (c := 59) (by omega) (by rw [bM_congr (H := N) (G := G) (((fN 11 6 (by omega)).trans (((setG_ne (by omega)).trans ((setG_ne (by omega)).trans ((setG_ne (by omega)).trans ((setG_ne (by omega)).trans (setG_ne (by omega))))))))) (fun y => ((fN 16 y (by omega)).trans (((setG_ne (by omega)).trans ((setG_ne (by omega)).trans ((setG_ne (by omega)).trans ((setG_ne (by omega)).trans (setG_ne (by omega)))))))))]; exact q3)) (fun _ h => h) (by omega) (cell_108 ad C _) rfl wc_X6_passes wm_RX6_184 wi_X6_passes ws_X6_passes wn_X6 (by decide) rfl ⟨Nat.le_of_ble_eq_true rfl, Nat.le_of_ble_eq_true rfl⟩ ⟨Nat.le_of_ble_eq_true rfl, Nat.le_of_ble_eq_true rfl⟩ (Nat.le_of_ble_eq_true rfl) dX6_readOrder_182 rfl (fun r9 G9 h9 => ?_)
        rw [h9.1, h9.2]
        clear h9
        rw [show (p + 10 + 1 : Int) = p + 11 by omega]
        have l24 := bM_lt o (p := p + 10) (by omega)
        refine aw_if_eq (q := 188) dX6_readOrder_185 rfl (t := 192) (by decide) (by omega) (fun h => absurd h (by omega)) (fun _ => ?_)
        refine aw_iconst (q := 189) dX6_readOrder_188 rfl ?_
        refine aw_goto (q := 193) dX6_readOrder_189 (by decide) ?_
        exact rt_z rfl (by first | omega | exact b2i_r _) (Nat.le_refl _) (Nat.le_refl _) (⟨Or.inl ⟨⟨by omega, by rw [show (p : Int) + 2 = p + 2 from rfl]; assumption, by assumption⟩, rfl, (setG_same _ _ _ _), (((setG_ne (by omega)).trans (((fN _ _ (by omega)).trans (((setG_ne (by omega)).trans ((setG_ne (by omega)).trans ((setG_ne (by omega)).trans ((setG_ne (by omega)).trans (setG_same _ _ _ _)))))))))), (((setG_ne (by omega)).trans (((fN _ _ (by omega)).trans ((setG_same _ _ _ _)))))), (((setG_ne (by omega)).trans (eC0)).trans (by congr 2; omega)), (((setG_ne (by omega)).trans (eC1)).trans (by congr 2; omega)), (((setG_ne (by omega)).trans (eC2)).trans (by congr 2; omega)), (((setG_ne (by omega)).trans (eC3)).trans (by congr 2; omega))⟩, fun x y z => ((setG_ne (by omega)).trans ((fN x y (by omega)).trans (((setG_ne (by omega)).trans ((setG_ne (by omega)).trans ((setG_ne (by omega)).trans ((setG_ne (by omega)).trans (setG_ne (by omega)))))))))⟩) dX6_readOrder_193
      · refine cv_I (q := 185) (CC := "") (id := 108) (As := [.int (iI 59)]) 1 (c_passesN (T := T) (D := D) (ad := ad) N (okX_congr (((fN 11 6 (by omega)).trans (((setG_ne (by omega)).trans ((setG_ne (by omega)).trans ((setG_ne (by omega)).trans ((setG_ne (by omega)).trans (setG_ne (by omega))))))))) (fun y => ((fN 16 y (by omega)).trans (((setG_ne (by omega)).trans ((setG_ne (by omega)).trans ((setG_ne (by omega)).trans ((setG_ne (by omega)).trans (setG_ne (by omega))))))))) o) (p := p + 10) (((eA.trans (by omega : (p + 2 + 8 : Int) = p + 10)))) (by omega) (by omega) (c := 59) (by omega) (by rw [bM_congr (H := N) (G := G) (((fN 11 6 (by omega)).trans (((setG_ne (by omega)).trans ((setG_ne (by omega)).trans ((setG_ne (by omega)).trans ((setG_ne (by omega)).trans (setG_ne (by omega))))))))) (fun y => ((fN 16 y (by omega)).trans (((setG_ne (by omega)).trans ((setG_ne (by omega)).trans ((setG_ne (by omega)).trans ((setG_ne (by omega)).trans (setG_ne (by omega)))))))))]; exact q3)) (fun _ h => h) (by omega) (cell_108 ad C _) rfl wc_X6_passes wm_RX6_184 wi_X6_passes ws_X6_passes wn_X6 (by decide) rfl ⟨Nat.le_of_ble_eq_true rfl, Nat.le_of_ble_eq_true rfl⟩ ⟨Nat.le_of_ble_eq_true rfl, Nat.le_of_ble_eq_true rfl⟩ (Nat.le_of_ble_eq_true rfl) dX6_readOrder_182 rfl (fun r9 G9 h9 => ?_)
        rw [h9.1, h9.2]
        clear h9
        refine aw_if_eq (q := 188) dX6_readOrder_185 rfl (t := 192) (by decide) (by omega) (fun _ => ?_) (fun h => absurd h (by omega))
        refine aw_iconst (q := 193) dX6_readOrder_192 rfl ?_
        exact rt_z rfl (by first | omega | exact b2i_r _) (Nat.le_refl _) (Nat.le_refl _) (⟨Or.inr ⟨by intro q; first | exact absurd q.1 (by assumption) | exact absurd q.2.1 (by assumption) | exact absurd q.2.2.1 (by assumption) | exact absurd q.2.2.2 (by assumption) | exact absurd q.2.2 (by assumption) | exact absurd q.2 (by assumption) | omega, rfl, (((eA.trans (by omega : (p + 2 + 8 : Int) = p + 10)))).trans (by unfold flBu; repeat (first | rw [if_pos (by assumption)] | rw [if_neg (fun z => z (by assumption))]))⟩, fun x y z => ((fN x y (by omega)).trans (((setG_ne (by omega)).trans ((setG_ne (by omega)).trans ((setG_ne (by omega)).trans ((setG_ne (by omega)).trans (setG_ne (by omega))))))))⟩) dX6_readOrder_193
    · refine cv_I (q := 111) (CC := "") (id := 108) (As := []) 0 (c_readCoinsMN (T := T) (D := D) (ad := ad) (setG (setG (setG (setG (setG G 11 14 98) 11 13 (p + 1)) 11 16 ((bM G (p + 1) - 48))) 11 13 (p + 2)) 11 17 ((bM G (p + 1) - 48))) (okX_congr (((setG_ne (by omega)).trans ((setG_ne (by omega)).trans ((setG_ne (by omega)).trans ((setG_ne (by omega)).trans (setG_ne (by omega))))))) (fun y => ((setG_ne (by omega)).trans ((setG_ne (by omega)).trans ((setG_ne (by omega)).trans ((setG_ne (by omega)).trans (setG_ne (by omega))))))) o) (p := p + 2) (((setG_ne (by omega)).trans (setG_same _ _ _ _))) (by omega) (by omega) (by rw [show bM (setG (setG (setG (setG (setG G 11 14 98) 11 13 (p + 1)) 11 16 ((bM G (p + 1) - 48))) 11 13 (p + 2)) 11 17 ((bM G (p + 1) - 48))) = bM G from funext (bM_congr (H := (setG (setG (setG (setG (setG G 11 14 98) 11 13 (p + 1)) 11 16 ((bM G (p + 1) - 48))) 11 13 (p + 2)) 11 17 ((bM G (p + 1) - 48)))) (G := G) (((setG_ne (by omega)).trans ((setG_ne (by omega)).trans ((setG_ne (by omega)).trans ((setG_ne (by omega)).trans (setG_ne (by omega))))))) (fun y => ((setG_ne (by omega)).trans ((setG_ne (by omega)).trans ((setG_ne (by omega)).trans ((setG_ne (by omega)).trans (setG_ne (by omega))))))))]; exact q2)) (fun _ h => h) (by omega) (cell_108 ad C _) rfl wc_X6_readCoins wm_RX6_196 wi_X6_readCoins ws_X6_readCoins wn_X6 (by decide) rfl ⟨Nat.le_of_ble_eq_true rfl, Nat.le_of_ble_eq_true rfl⟩ ⟨Nat.le_of_ble_eq_true rfl, Nat.le_of_ble_eq_true rfl⟩ (Nat.le_of_ble_eq_true rfl) dX6_readOrder_108 rfl (fun r9 N h9 => ?_)
      obtain ⟨r1, eA, fN⟩ := h9
      rw [r1]
      rw [show bM (setG (setG (setG (setG (setG G 11 14 98) 11 13 (p + 1)) 11 16 ((bM G (p + 1) - 48))) 11 13 (p + 2)) 11 17 ((bM G (p + 1) - 48))) = bM G from funext (bM_congr (H := (setG (setG (setG (setG (setG G 11 14 98) 11 13 (p + 1)) 11 16 ((bM G (p + 1) - 48))) 11 13 (p + 2)) 11 17 ((bM G (p + 1) - 48)))) (G := G) (((setG_ne (by omega)).trans ((setG_ne (by omega)).trans ((setG_ne (by omega)).trans ((setG_ne (by omega)).trans (setG_ne (by omega))))))) (fun y => ((setG_ne (by omega)).trans ((setG_ne (by omega)).trans ((setG_ne (by omega)).trans ((setG_ne (by omega)).trans (setG_ne (by omega))))))))] at eA
      refine aw_goto (q := 174) dX6_readOrder_111 (by decide) ?_
      refine aw_istore_n (q := 175) (lv2 := [(0, .ref (ad 108)), (1, .int (iI 0))]) [1, 0] dX6_readOrder_174 rfl rfl (by decide) rfl rfl ?_
      refine aw_iload_n (q := 176) 1 dX6_readOrder_175 rfl rfl rfl ?_
      refine aw_if_eq (q := 179) dX6_readOrder_176 rfl (t := 192) (by decide) (by omega) (fun _ => ?_) (fun h => absurd h (by omega))
      refine aw_iconst (q := 193) dX6_readOrder_192 rfl ?_
      exact rt_z rfl (by first | omega | exact b2i_r _) (Nat.le_refl _) (Nat.le_refl _) (⟨Or.inr ⟨by intro q; first | exact absurd q.1 (by assumption) | exact absurd q.2.1 (by assumption) | exact absurd q.2.2.1 (by assumption) | exact absurd q.2.2.2 (by assumption) | exact absurd q.2.2 (by assumption) | exact absurd q.2 (by assumption) | omega, rfl, ((eA)).trans (by unfold flBu; repeat (first | rw [if_pos (by assumption)] | rw [if_neg (fun z => z (by assumption))]))⟩, fun x y z => ((fN x y (by omega)).trans (((setG_ne (by omega)).trans ((setG_ne (by omega)).trans ((setG_ne (by omega)).trans ((setG_ne (by omega)).trans (setG_ne (by omega))))))))⟩) dX6_readOrder_193
  · refine cv_I (q := 85) (CC := "") (id := 108) (As := [.int (iI 55)]) 1 (c_readDigitMN (T := T) (D := D) (ad := ad) (setG (setG G 11 14 98) 11 13 (p + 1)) (okX_congr (((setG_ne (by omega)).trans (setG_ne (by omega)))) (fun y => ((setG_ne (by omega)).trans (setG_ne (by omega)))) o) (p := p + 1) ((setG_same _ _ _ _)) (by omega) (by omega) (m := 55) (by omega) (by rw [bM_congr (H := (setG (setG G 11 14 98) 11 13 (p + 1))) (G := G) (((setG_ne (by omega)).trans (setG_ne (by omega)))) (fun y => ((setG_ne (by omega)).trans (setG_ne (by omega))))]; exact q1)) (fun _ h => h) (by omega) (cell_108 ad C _) rfl wc_X6_readDigit wm_RX6_187 wi_X6_readDigit ws_X6_readDigit wn_X6 (by decide) rfl ⟨Nat.le_of_ble_eq_true rfl, Nat.le_of_ble_eq_true rfl⟩ ⟨Nat.le_of_ble_eq_true rfl, Nat.le_of_ble_eq_true rfl⟩ (Nat.le_of_ble_eq_true rfl) dX6_readOrder_82 rfl (fun r9 G9 h9 => ?_)
    rw [bM_congr (H := (setG (setG G 11 14 98) 11 13 (p + 1))) (G := G) (((setG_ne (by omega)).trans (setG_ne (by omega)))) (fun y => ((setG_ne (by omega)).trans (setG_ne (by omega))))] at h9
    rw [h9.1, h9.2]
    clear h9
    refine aw_if_ne (q := 88) dX6_readOrder_85 rfl (t := 90) (by decide) (by omega) (fun h => absurd h (by omega)) (fun _ => ?_)
    refine aw_iconst (q := 89) dX6_readOrder_88 rfl ?_
    exact rt_z rfl (by first | omega | exact b2i_r _) (Nat.le_refl _) (Nat.le_refl _) (⟨Or.inr ⟨by intro q; first | exact absurd q.1 (by assumption) | exact absurd q.2.1 (by assumption) | exact absurd q.2.2.1 (by assumption) | exact absurd q.2.2.2 (by assumption) | exact absurd q.2.2 (by assumption) | exact absurd q.2 (by assumption) | omega, rfl, (((setG_ne (by omega)).trans (setG_same _ _ _ _))).trans (by unfold flBu; repeat (first | rw [if_pos (by assumption)] | rw [if_neg (fun z => z (by assumption))]))⟩, fun x y z => ((setG_ne (by omega)).trans ((setG_ne (by omega)).trans (setG_ne (by omega))))⟩) dX6_readOrder_89
set_option maxHeartbeats 4000000 in
set_option maxRecDepth 100000 in
theorem c_order102 {l : Launch} {D : va_G} {C : Nat → ClassId} {T : Nat → Nat} {ad : Int → Nat} (G : GG) (o : okX G) {p : Int} (hp : G 11 13 = p) (h0 : 0 ≤ p) (h1 : p ≤ 100) (hL : bM G p = 102) : MC l yX6_readOrder cX6_readOrder 2 (some .boolean) 3 65 0 0 D (tyC C) T [.ref (ad 108)] (cw ad C G) (RI ad C (fun r G1 => ((okSt (bM G) p 51 30 ∧ r = 1 ∧ G1 11 13 = nQ (bM G) (p + 3) + 1 ∧ G1 11 14 = 102 ∧ G1 11 17 = bM G (p + 1) - 48 ∧ G1 11 15 = nV (bM G) (p + 3)) ∨ (¬ okSt (bM G) p 51 30 ∧ r = 0 ∧ G1 11 13 = flSt (bM G) p 51 30)) ∧ sameB roS_ G G1)) := by
  refine mc_of (by decide +kernel) (Nat.le_of_ble_eq_true rfl) rfl ?_
  have o1 := o.1
  refine aw_aload_n (q := 1) 0 dX6_readOrder_0 rfl rfl rfl ?_
  refine aw_aload_n (q := 2) 0 dX6_readOrder_1 rfl rfl rfl ?_
  refine cv_I (q := 5) (CC := "") (id := 108) (As := []) 0 (c_here (T := T) (D := D) (ad := ad) G o (by rw [hp]; omega)) (fun _ h => h) (by omega) (cell_108 ad C _) rfl wc_X6_here wm_RX6_172 wi_X6_here ws_X6_here wn_X6 (by decide) rfl ⟨Nat.le_of_ble_eq_true rfl, Nat.le_of_ble_eq_true rfl⟩ ⟨Nat.le_of_ble_eq_true rfl, Nat.le_of_ble_eq_true rfl⟩ (Nat.le_of_ble_eq_true rfl) dX6_readOrder_2 rfl (fun r9 G9 h9 => ?_)
  obtain ⟨e9, g9⟩ := h9
  rw [e9.trans ((congrArg (bM G) hp).trans hL), g9]
  clear e9 g9
  have b0 := bM_r o h0
  refine p_mod_letter (q := 8) wf_RX6_190 dX6_readOrder_5 rfl ?_
  refine aw_aload_n (q := 9) 0 dX6_readOrder_8 rfl rfl rfl ?_
  refine g_mod_letter (q := 12) (v := 102) (setG_same _ _ _ _) wf_RX6_190 dX6_readOrder_9 rfl ?_
  refine aw_bipush (q := 14) dX6_readOrder_12 rfl (by decide) ?_
  refine aw_icmp_eq (q := 17) dX6_readOrder_14 rfl (t := 46) (by decide) (by omega) (by omega) (fun h => absurd h (by omega)) (fun _ => ?_)
  refine aw_aload_n (q := 18) 0 dX6_readOrder_17 rfl rfl rfl ?_
  refine g_mod_letter (q := 21) (v := 102) (setG_same _ _ _ _) wf_RX6_190 dX6_readOrder_18 rfl ?_
  refine aw_bipush (q := 23) dX6_readOrder_21 rfl (by decide) ?_
  refine aw_icmp_eq (q := 26) dX6_readOrder_23 rfl (t := 46) (by decide) (by omega) (by omega) (fun h => absurd h (by omega)) (fun _ => ?_)
  refine aw_aload_n (q := 27) 0 dX6_readOrder_26 rfl rfl rfl ?_
  refine g_mod_letter (q := 30) (v := 102) (setG_same _ _ _ _) wf_RX6_190 dX6_readOrder_27 rfl ?_
  refine aw_bipush (q := 32) dX6_readOrder_30 rfl (by decide) ?_
  refine aw_icmp_eq (q := 35) dX6_readOrder_32 rfl (t := 46) (by decide) (by omega) (by omega) (fun _ => ?_) (fun h => absurd h (by omega))
  refine aw_aload_n (q := 47) 0 dX6_readOrder_46 rfl rfl rfl ?_
  refine aw_dup (q := 48) dX6_readOrder_47 rfl rfl ?_
  refine g_mod_at (q := 51) (v := p) ((setG_ne (by omega)).trans (hp)) wf_RX6_169 dX6_readOrder_48 rfl ?_
  refine aw_iconst (q := 52) dX6_readOrder_51 rfl ?_
  refine ae_iadd (q := 53) (p + 1) (by omega) dX6_readOrder_52 rfl ?_
  refine p_mod_at (q := 56) wf_RX6_169 dX6_readOrder_53 rfl ?_
  refine aw_aload_n (q := 57) 0 dX6_readOrder_56 rfl rfl rfl ?_
  refine g_mod_letter (q := 60) (v := 102) ((setG_ne (by omega)).trans (setG_same _ _ _ _)) wf_RX6_190 dX6_readOrder_57 rfl ?_
  refine aw_bipush (q := 62) dX6_readOrder_60 rfl (by decide) ?_
  refine aw_icmp_eq (q := 65) dX6_readOrder_62 rfl (t := 98) (by decide) (by omega) (by omega) (fun h => absurd h (by omega)) (fun _ => ?_)
  refine aw_aload_n (q := 66) 0 dX6_readOrder_65 rfl rfl rfl ?_
  refine aw_aload_n (q := 67) 0 dX6_readOrder_66 rfl rfl rfl ?_
  refine g_mod_letter (q := 70) (v := 102) ((setG_ne (by omega)).trans (setG_same _ _ _ _)) wf_RX6_190 dX6_readOrder_67 rfl ?_
  refine aw_bipush (q := 72) dX6_readOrder_70 rfl (by decide) ?_
  refine aw_icmp_ne (q := 75) dX6_readOrder_72 rfl (t := 80) (by decide) (by omega) (by omega) (fun h => absurd h (by omega)) (fun _ => ?_)
  refine aw_bipush (q := 77) dX6_readOrder_75 rfl (by decide) ?_
  refine aw_goto (q := 82) dX6_readOrder_77 (by decide) ?_
  by_cases q1 : (48 ≤ bM G (p + 1) ∧ bM G (p + 1) ≤ 51)
  · refine cv_I (q := 85) (CC := "") (id := 108) (As := [.int (iI 51)]) 1 (c_readDigitMY (T := T) (D := D) (ad := ad) (setG (setG G 11 14 102) 11 13 (p + 1)) (okX_congr (((setG_ne (by omega)).trans (setG_ne (by omega)))) (fun y => ((setG_ne (by omega)).trans (setG_ne (by omega)))) o) (p := p + 1) ((setG_same _ _ _ _)) (by omega) (by omega) (m := 51) (by omega) (by rw [bM_congr (H := (setG (setG G 11 14 102) 11 13 (p + 1))) (G := G) (((setG_ne (by omega)).trans (setG_ne (by omega)))) (fun y => ((setG_ne (by omega)).trans (setG_ne (by omega))))]; exact q1)) (fun _ h => h) (by omega) (cell_108 ad C _) rfl wc_X6_readDigit wm_RX6_187 wi_X6_readDigit ws_X6_readDigit wn_X6 (by decide) rfl ⟨Nat.le_of_ble_eq_true rfl, Nat.le_of_ble_eq_true rfl⟩ ⟨Nat.le_of_ble_eq_true rfl, Nat.le_of_ble_eq_true rfl⟩ (Nat.le_of_ble_eq_true rfl) dX6_readOrder_82 rfl (fun r9 G9 h9 => ?_)
    rw [bM_congr (H := (setG (setG G 11 14 102) 11 13 (p + 1))) (G := G) (((setG_ne (by omega)).trans (setG_ne (by omega)))) (fun y => ((setG_ne (by omega)).trans (setG_ne (by omega))))] at h9
    rw [h9.1, h9.2]
    clear h9
    rw [show (p + 1 + 1 : Int) = p + 2 by omega]
    have l27 := bM_lt o (p := p + 1) (by omega)
    refine aw_if_ne (q := 88) dX6_readOrder_85 rfl (t := 90) (by decide) (by omega) (fun _ => ?_) (fun h => absurd h (by omega))
    refine aw_aload_n (q := 91) 0 dX6_readOrder_90 rfl rfl rfl ?_
    refine aw_aload_n (q := 92) 0 dX6_readOrder_91 rfl rfl rfl ?_
    refine g_mod_digit (q := 95) (v := (bM G (p + 1) - 48)) ((setG_ne (by omega)).trans (setG_same _ _ _ _)) wf_RX6_175 dX6_readOrder_92 rfl ?_
    refine p_mod_which (q := 98) wf_RX6_193 dX6_readOrder_95 rfl ?_
    refine aw_aload_n (q := 99) 0 dX6_readOrder_98 rfl rfl rfl ?_
    refine g_mod_letter (q := 102) (v := 102) ((setG_ne (by omega)).trans ((setG_ne (by omega)).trans ((setG_ne (by omega)).trans ((setG_ne (by omega)).trans (setG_same _ _ _ _))))) wf_RX6_190 dX6_readOrder_99 rfl ?_
    refine aw_bipush (q := 104) dX6_readOrder_102 rfl (by decide) ?_
    refine aw_icmp_ne (q := 107) dX6_readOrder_104 rfl (t := 114) (by decide) (by omega) (by omega) (fun _ => ?_) (fun h => absurd h (by omega))
    refine aw_aload_n (q := 115) 0 dX6_readOrder_114 rfl rfl rfl ?_
    refine g_mod_letter (q := 118) (v := 102) ((setG_ne (by omega)).trans ((setG_ne (by omega)).trans ((setG_ne (by omega)).trans ((setG_ne (by omega)).trans (setG_same _ _ _ _))))) wf_RX6_190 dX6_readOrder_115 rfl ?_
    refine aw_bipush (q := 120) dX6_readOrder_118 rfl (by decide) ?_
    refine aw_icmp_eq (q := 123) dX6_readOrder_120 rfl (t := 132) (by decide) (by omega) (by omega) (fun h => absurd h (by omega)) (fun _ => ?_)
    refine aw_aload_n (q := 124) 0 dX6_readOrder_123 rfl rfl rfl ?_
    refine aw_bipush (q := 126) dX6_readOrder_124 rfl (by decide) ?_
    by_cases q2 : bM G (p + 2) = 120
    · refine cv_I (q := 129) (CC := "") (id := 108) (As := [.int (iI 120)]) 1 (c_passesY (T := T) (D := D) (ad := ad) (setG (setG (setG (setG (setG G 11 14 102) 11 13 (p + 1)) 11 16 ((bM G (p + 1) - 48))) 11 13 (p + 2)) 11 17 ((bM G (p + 1) - 48))) (okX_congr (((setG_ne (by omega)).trans ((setG_ne (by omega)).trans ((setG_ne (by omega)).trans ((setG_ne (by omega)).trans (setG_ne (by omega))))))) (fun y => ((setG_ne (by omega)).trans ((setG_ne (by omega)).trans ((setG_ne (by omega)).trans ((setG_ne (by omega)).trans (setG_ne (by omega))))))) o) (p := p + 2) (((setG_ne (by omega)).trans (setG_same _ _ _ _))) (by omega) (by omega) (c := 120) (by omega) (by rw [bM_congr (H := (setG (setG (setG (setG (setG G 11 14 102) 11 13 (p + 1)) 11 16 ((bM G (p + 1) - 48))) 11 13 (p + 2)) 11 17 ((bM G (p + 1) - 48)))) (G := G) (((setG_ne (by omega)).trans ((setG_ne (by omega)).trans ((setG_ne (by omega)).trans ((setG_ne (by omega)).trans (setG_ne (by omega))))))) (fun y => ((setG_ne (by omega)).trans ((setG_ne (by omega)).trans ((setG_ne (by omega)).trans ((setG_ne (by omega)).trans (setG_ne (by omega)))))))]; exact q2)) (fun _ h => h) (by omega) (cell_108 ad C _) rfl wc_X6_passes wm_RX6_184 wi_X6_passes ws_X6_passes wn_X6 (by decide) rfl ⟨Nat.le_of_ble_eq_true rfl, Nat.le_of_ble_eq_true rfl⟩ ⟨Nat.le_of_ble_eq_true rfl, Nat.le_of_ble_eq_true rfl⟩ (Nat.le_of_ble_eq_true rfl) dX6_readOrder_126 rfl (fun r9 G9 h9 => ?_)
      rw [h9.1, h9.2]
      clear h9
      rw [show (p + 2 + 1 : Int) = p + 3 by omega]
      have l28 := bM_lt o (p := p + 2) (by omega)
      refine aw_if_eq (q := 132) dX6_readOrder_129 rfl (t := 173) (by decide) (by omega) (fun h => absurd h (by omega)) (fun _ => ?_)
      refine aw_aload_n (q := 133) 0 dX6_readOrder_132 rfl rfl rfl ?_
      refine aw_aload_n (q := 134) 0 dX6_readOrder_133 rfl rfl rfl ?_
      refine g_mod_letter (q := 137) (v := 102) ((setG_ne (by omega)).trans ((setG_ne (by omega)).trans ((setG_ne (by omega)).trans ((setG_ne (by omega)).trans ((setG_ne (by omega)).trans (setG_same _ _ _ _)))))) wf_RX6_190 dX6_readOrder_134 rfl ?_
      refine aw_bipush (q := 139) dX6_readOrder_137 rfl (by decide) ?_
      refine aw_icmp_ne (q := 142) dX6_readOrder_139 rfl (t := 147) (by decide) (by omega) (by omega) (fun _ => ?_) (fun h => absurd h (by omega))
      refine aw_aload_n (q := 148) 0 dX6_readOrder_147 rfl rfl rfl ?_
      refine g_mod_letter (q := 151) (v := 102) ((setG_ne (by omega)).trans ((setG_ne (by omega)).trans ((setG_ne (by omega)).trans ((setG_ne (by omega)).trans ((setG_ne (by omega)).trans (setG_same _ _ _ _)))))) wf_RX6_190 dX6_readOrder_148 rfl ?_
      refine aw_bipush (q := 153) dX6_readOrder_151 rfl (by decide) ?_
      refine aw_icmp_ne (q := 156) dX6_readOrder_153 rfl (t := 161) (by decide) (by omega) (by omega) (fun h => absurd h (by omega)) (fun _ => ?_)
      refine aw_bipush (q := 158) dX6_readOrder_156 rfl (by decide) ?_
      refine aw_goto (q := 163) dX6_readOrder_158 (by decide) ?_
      by_cases q3 : okNum (bM G) (p + 3) 30
      · refine cv_I (q := 166) (CC := "") (id := 108) (As := [.int (iI 30)]) 1 (c_readNumberMY (T := T) (D := D) (ad := ad) (setG (setG (setG (setG (setG (setG G 11 14 102) 11 13 (p + 1)) 11 16 ((bM G (p + 1) - 48))) 11 13 (p + 2)) 11 17 ((bM G (p + 1) - 48))) 11 13 (p + 3)) (okX_congr (((setG_ne (by omega)).trans ((setG_ne (by omega)).trans ((setG_ne (by omega)).trans ((setG_ne (by omega)).trans ((setG_ne (by omega)).trans (setG_ne (by omega)))))))) (fun y => ((setG_ne (by omega)).trans ((setG_ne (by omega)).trans ((setG_ne (by omega)).trans ((setG_ne (by omega)).trans ((setG_ne (by omega)).trans (setG_ne (by omega)))))))) o) (p := p + 3) ((setG_same _ _ _ _)) (by omega) (by omega) (m := 30) (by omega) (by rw [show bM (setG (setG (setG (setG (setG (setG G 11 14 102) 11 13 (p + 1)) 11 16 ((bM G (p + 1) - 48))) 11 13 (p + 2)) 11 17 ((bM G (p + 1) - 48))) 11 13 (p + 3)) = bM G from funext (bM_congr (H := (setG (setG (setG (setG (setG (setG G 11 14 102) 11 13 (p + 1)) 11 16 ((bM G (p + 1) - 48))) 11 13 (p + 2)) 11 17 ((bM G (p + 1) - 48))) 11 13 (p + 3))) (G := G) (((setG_ne (by omega)).trans ((setG_ne (by omega)).trans ((setG_ne (by omega)).trans ((setG_ne (by omega)).trans ((setG_ne (by omega)).trans (setG_ne (by omega)))))))) (fun y => ((setG_ne (by omega)).trans ((setG_ne (by omega)).trans ((setG_ne (by omega)).trans ((setG_ne (by omega)).trans ((setG_ne (by omega)).trans (setG_ne (by omega)))))))))]; exact q3)) (fun _ h => h) (by omega) (cell_108 ad C _) rfl wc_X6_readNumber wm_RX6_200 wi_X6_readNumber ws_X6_readNumber wn_X6 (by decide) rfl ⟨Nat.le_of_ble_eq_true rfl, Nat.le_of_ble_eq_true rfl⟩ ⟨Nat.le_of_ble_eq_true rfl, Nat.le_of_ble_eq_true rfl⟩ (Nat.le_of_ble_eq_true rfl) dX6_readOrder_163 rfl (fun r9 N h9 => ?_)
        obtain ⟨r1, eV, eA, fN⟩ := h9
        rw [r1]
        rw [show bM (setG (setG (setG (setG (setG (setG G 11 14 102) 11 13 (p + 1)) 11 16 ((bM G (p + 1) - 48))) 11 13 (p + 2)) 11 17 ((bM G (p + 1) - 48))) 11 13 (p + 3)) = bM G from funext (bM_congr (H := (setG (setG (setG (setG (setG (setG G 11 14 102) 11 13 (p + 1)) 11 16 ((bM G (p + 1) - 48))) 11 13 (p + 2)) 11 17 ((bM G (p + 1) - 48))) 11 13 (p + 3))) (G := G) (((setG_ne (by omega)).trans ((setG_ne (by omega)).trans ((setG_ne (by omega)).trans ((setG_ne (by omega)).trans ((setG_ne (by omega)).trans (setG_ne (by omega)))))))) (fun y => ((setG_ne (by omega)).trans ((setG_ne (by omega)).trans ((setG_ne (by omega)).trans ((setG_ne (by omega)).trans ((setG_ne (by omega)).trans (setG_ne (by omega)))))))))] at eV eA
        have nq := nQ_b (bM G) (p + 3)
        refine aw_if_eq (q := 169) dX6_readOrder_166 rfl (t := 173) (by decide) (by omega) (fun h => absurd h (by omega)) (fun _ => ?_)
        refine aw_iconst (q := 170) dX6_readOrder_169 rfl ?_
        refine aw_goto (q := 174) dX6_readOrder_170 (by decide) ?_
        refine aw_istore_n (q := 175) (lv2 := [(0, .ref (ad 108)), (1, .int (iI 1))]) [1, 0] dX6_readOrder_174 rfl rfl (by decide) rfl rfl ?_
        refine aw_iload_n (q := 176) 1 dX6_readOrder_175 rfl rfl rfl ?_
        refine aw_if_eq (q := 179) dX6_readOrder_176 rfl (t := 192) (by decide) (by omega) (fun h => absurd h (by omega)) (fun _ => ?_)
        refine aw_aload_n (q := 180) 0 dX6_readOrder_179 rfl rfl rfl ?_
        refine aw_bipush (q := 182) dX6_readOrder_180 rfl (by decide) ?_
        by_cases q4 : bM G ((nQ (bM G) (p + 3))) = 59
        · refine cv_I (q := 185) (CC := "") (id := 108) (As := [.int (iI 59)]) 1 (c_passesY (T := T) (D := D) (ad := ad) N (okX_congr (((fN 11 6 (by omega)).trans (((setG_ne (by omega)).trans ((setG_ne (by omega)).trans ((setG_ne (by omega)).trans ((setG_ne (by omega)).trans ((setG_ne (by omega)).trans (setG_ne (by omega)))))))))) (fun y => ((fN 16 y (by omega)).trans (((setG_ne (by omega)).trans ((setG_ne (by omega)).trans ((setG_ne (by omega)).trans ((setG_ne (by omega)).trans ((setG_ne (by omega)).trans (setG_ne (by omega)))))))))) o) (p := (nQ (bM G) (p + 3))) ((eA)) (by omega) (by omega) (c := 59) (by omega) (by rw [bM_congr (H := N) (G := G) (((fN 11 6 (by omega)).trans (((setG_ne (by omega)).trans ((setG_ne (by omega)).trans ((setG_ne (by omega)).trans ((setG_ne (by omega)).trans ((setG_ne (by omega)).trans (setG_ne (by omega)))))))))) (fun y => ((fN 16 y (by omega)).trans (((setG_ne (by omega)).trans ((setG_ne (by omega)).trans ((setG_ne (by omega)).trans ((setG_ne (by omega)).trans ((setG_ne (by omega)).trans (setG_ne (by omega))))))))))]; exact q4)) (fun _ h => h) (by omega) (cell_108 ad C _) rfl wc_X6_passes wm_RX6_184 wi_X6_passes ws_X6_passes wn_X6 (by decide) rfl ⟨Nat.le_of_ble_eq_true rfl, Nat.le_of_ble_eq_true rfl⟩ ⟨Nat.le_of_ble_eq_true rfl, Nat.le_of_ble_eq_true rfl⟩ (Nat.le_of_ble_eq_true rfl) dX6_readOrder_182 rfl (fun r9 G9 h9 => ?_)
          rw [h9.1, h9.2]
          clear h9
          have l29 := bM_lt o (p := (nQ (bM G) (p + 3))) (by omega)
          refine aw_if_eq (q := 188) dX6_readOrder_185 rfl (t := 192) (by decide) (by omega) (fun h => absurd h (by omega)) (fun _ => ?_)
          refine aw_iconst (q := 189) dX6_readOrder_188 rfl ?_
          refine aw_goto (q := 193) dX6_readOrder_189 (by decide) ?_
          exact rt_z rfl (by first | omega | exact b2i_r _) (Nat.le_refl _) (Nat.le_refl _) (⟨Or.inl ⟨⟨by omega, by assumption, by assumption, by assumption⟩, rfl, (setG_same _ _ _ _), (((setG_ne (by omega)).trans (((fN _ _ (by omega)).trans (((setG_ne (by omega)).trans ((setG_ne (by omega)).trans ((setG_ne (by omega)).trans ((setG_ne (by omega)).trans ((setG_ne (by omega)).trans (setG_same _ _ _ _))))))))))), (((setG_ne (by omega)).trans (((fN _ _ (by omega)).trans (((setG_ne (by omega)).trans (setG_same _ _ _ _))))))), (((setG_ne (by omega)).trans (eV)))⟩, fun x y z => ((setG_ne (by omega)).trans ((fN x y (by omega)).trans (((setG_ne (by omega)).trans ((setG_ne (by omega)).trans ((setG_ne (by omega)).trans ((setG_ne (by omega)).trans ((setG_ne (by omega)).trans (setG_ne (by omega))))))))))⟩) dX6_readOrder_193
        · refine cv_I (q := 185) (CC := "") (id := 108) (As := [.int (iI 59)]) 1 (c_passesN (T := T) (D := D) (ad := ad) N (okX_congr (((fN 11 6 (by omega)).trans (((setG_ne (by omega)).trans ((setG_ne (by omega)).trans ((setG_ne (by omega)).trans ((setG_ne (by omega)).trans ((setG_ne (by omega)).trans (setG_ne (by omega)))))))))) (fun y => ((fN 16 y (by omega)).trans (((setG_ne (by omega)).trans ((setG_ne (by omega)).trans ((setG_ne (by omega)).trans ((setG_ne (by omega)).trans ((setG_ne (by omega)).trans (setG_ne (by omega)))))))))) o) (p := (nQ (bM G) (p + 3))) ((eA)) (by omega) (by omega) (c := 59) (by omega) (by rw [bM_congr (H := N) (G := G) (((fN 11 6 (by omega)).trans (((setG_ne (by omega)).trans ((setG_ne (by omega)).trans ((setG_ne (by omega)).trans ((setG_ne (by omega)).trans ((setG_ne (by omega)).trans (setG_ne (by omega)))))))))) (fun y => ((fN 16 y (by omega)).trans (((setG_ne (by omega)).trans ((setG_ne (by omega)).trans ((setG_ne (by omega)).trans ((setG_ne (by omega)).trans ((setG_ne (by omega)).trans (setG_ne (by omega))))))))))]; exact q4)) (fun _ h => h) (by omega) (cell_108 ad C _) rfl wc_X6_passes wm_RX6_184 wi_X6_passes ws_X6_passes wn_X6 (by decide) rfl ⟨Nat.le_of_ble_eq_true rfl, Nat.le_of_ble_eq_true rfl⟩ ⟨Nat.le_of_ble_eq_true rfl, Nat.le_of_ble_eq_true rfl⟩ (Nat.le_of_ble_eq_true rfl) dX6_readOrder_182 rfl (fun r9 G9 h9 => ?_)
          rw [h9.1, h9.2]
          clear h9
          refine aw_if_eq (q := 188) dX6_readOrder_185 rfl (t := 192) (by decide) (by omega) (fun _ => ?_) (fun h => absurd h (by omega))
          refine aw_iconst (q := 193) dX6_readOrder_192 rfl ?_
          exact rt_z rfl (by first | omega | exact b2i_r _) (Nat.le_refl _) (Nat.le_refl _) (⟨Or.inr ⟨by intro q; first | exact absurd q.1 (by assumption) | exact absurd q.2.1 (by assumption) | exact absurd q.2.2.1 (by assumption) | exact absurd q.2.2.2 (by assumption) | exact absurd q.2.2 (by assumption) | exact absurd q.2 (by assumption) | omega, rfl, ((eA)).trans (by unfold flSt; repeat (first | rw [if_pos (by assumption)] | rw [if_neg (fun z => z (by assumption))]))⟩, fun x y z => ((fN x y (by omega)).trans (((setG_ne (by omega)).trans ((setG_ne (by omega)).trans ((setG_ne (by omega)).trans ((setG_ne (by omega)).trans ((setG_ne (by omega)).trans (setG_ne (by omega)))))))))⟩) dX6_readOrder_193
      · refine cv_I (q := 166) (CC := "") (id := 108) (As := [.int (iI 30)]) 1 (c_readNumberMN (T := T) (D := D) (ad := ad) (setG (setG (setG (setG (setG (setG G 11 14 102) 11 13 (p + 1)) 11 16 ((bM G (p + 1) - 48))) 11 13 (p + 2)) 11 17 ((bM G (p + 1) - 48))) 11 13 (p + 3)) (okX_congr (((setG_ne (by omega)).trans ((setG_ne (by omega)).trans ((setG_ne (by omega)).trans ((setG_ne (by omega)).trans ((setG_ne (by omega)).trans (setG_ne (by omega)))))))) (fun y => ((setG_ne (by omega)).trans ((setG_ne (by omega)).trans ((setG_ne (by omega)).trans ((setG_ne (by omega)).trans ((setG_ne (by omega)).trans (setG_ne (by omega)))))))) o) (p := p + 3) ((setG_same _ _ _ _)) (by omega) (by omega) (m := 30) (by omega) (by rw [show bM (setG (setG (setG (setG (setG (setG G 11 14 102) 11 13 (p + 1)) 11 16 ((bM G (p + 1) - 48))) 11 13 (p + 2)) 11 17 ((bM G (p + 1) - 48))) 11 13 (p + 3)) = bM G from funext (bM_congr (H := (setG (setG (setG (setG (setG (setG G 11 14 102) 11 13 (p + 1)) 11 16 ((bM G (p + 1) - 48))) 11 13 (p + 2)) 11 17 ((bM G (p + 1) - 48))) 11 13 (p + 3))) (G := G) (((setG_ne (by omega)).trans ((setG_ne (by omega)).trans ((setG_ne (by omega)).trans ((setG_ne (by omega)).trans ((setG_ne (by omega)).trans (setG_ne (by omega)))))))) (fun y => ((setG_ne (by omega)).trans ((setG_ne (by omega)).trans ((setG_ne (by omega)).trans ((setG_ne (by omega)).trans ((setG_ne (by omega)).trans (setG_ne (by omega)))))))))]; exact q3)) (fun _ h => h) (by omega) (cell_108 ad C _) rfl wc_X6_readNumber wm_RX6_200 wi_X6_readNumber ws_X6_readNumber wn_X6 (by decide) rfl ⟨Nat.le_of_ble_eq_true rfl, Nat.le_of_ble_eq_true rfl⟩ ⟨Nat.le_of_ble_eq_true rfl, Nat.le_of_ble_eq_true rfl⟩ (Nat.le_of_ble_eq_true rfl) dX6_readOrder_163 rfl (fun r9 N h9 => ?_)
        obtain ⟨r1, eA, fN⟩ := h9
        rw [r1]
        rw [show bM (setG (setG (setG (setG (setG (setG G 11 14 102) 11 13 (p + 1)) 11 16 ((bM G (p + 1) - 48))) 11 13 (p + 2)) 11 17 ((bM G (p + 1) - 48))) 11 13 (p + 3)) = bM G from funext (bM_congr (H := (setG (setG (setG (setG (setG (setG G 11 14 102) 11 13 (p + 1)) 11 16 ((bM G (p + 1) - 48))) 11 13 (p + 2)) 11 17 ((bM G (p + 1) - 48))) 11 13 (p + 3))) (G := G) (((setG_ne (by omega)).trans ((setG_ne (by omega)).trans ((setG_ne (by omega)).trans ((setG_ne (by omega)).trans ((setG_ne (by omega)).trans (setG_ne (by omega)))))))) (fun y => ((setG_ne (by omega)).trans ((setG_ne (by omega)).trans ((setG_ne (by omega)).trans ((setG_ne (by omega)).trans ((setG_ne (by omega)).trans (setG_ne (by omega)))))))))] at eA
        have nq := nQ_b (bM G) (p + 3)
        refine aw_if_eq (q := 169) dX6_readOrder_166 rfl (t := 173) (by decide) (by omega) (fun _ => ?_) (fun h => absurd h (by omega))
        refine aw_iconst (q := 174) dX6_readOrder_173 rfl ?_
        refine aw_istore_n (q := 175) (lv2 := [(0, .ref (ad 108)), (1, .int (iI 0))]) [1, 0] dX6_readOrder_174 rfl rfl (by decide) rfl rfl ?_
        refine aw_iload_n (q := 176) 1 dX6_readOrder_175 rfl rfl rfl ?_
        refine aw_if_eq (q := 179) dX6_readOrder_176 rfl (t := 192) (by decide) (by omega) (fun _ => ?_) (fun h => absurd h (by omega))
        refine aw_iconst (q := 193) dX6_readOrder_192 rfl ?_
        exact rt_z rfl (by first | omega | exact b2i_r _) (Nat.le_refl _) (Nat.le_refl _) (⟨Or.inr ⟨by intro q; first | exact absurd q.1 (by assumption) | exact absurd q.2.1 (by assumption) | exact absurd q.2.2.1 (by assumption) | exact absurd q.2.2.2 (by assumption) | exact absurd q.2.2 (by assumption) | exact absurd q.2 (by assumption) | omega, rfl, ((eA)).trans (by unfold flSt; repeat (first | rw [if_pos (by assumption)] | rw [if_neg (fun z => z (by assumption))]))⟩, fun x y z => ((fN x y (by omega)).trans (((setG_ne (by omega)).trans ((setG_ne (by omega)).trans ((setG_ne (by omega)).trans ((setG_ne (by omega)).trans ((setG_ne (by omega)).trans (setG_ne (by omega)))))))))⟩) dX6_readOrder_193
    · refine cv_I (q := 129) (CC := "") (id := 108) (As := [.int (iI 120)]) 1 (c_passesN (T := T) (D := D) (ad := ad) (setG (setG (setG (setG (setG G 11 14 102) 11 13 (p + 1)) 11 16 ((bM G (p + 1) - 48))) 11 13 (p + 2)) 11 17 ((bM G (p + 1) - 48))) (okX_congr (((setG_ne (by omega)).trans ((setG_ne (by omega)).trans ((setG_ne (by omega)).trans ((setG_ne (by omega)).trans (setG_ne (by omega))))))) (fun y => ((setG_ne (by omega)).trans ((setG_ne (by omega)).trans ((setG_ne (by omega)).trans ((setG_ne (by omega)).trans (setG_ne (by omega))))))) o) (p := p + 2) (((setG_ne (by omega)).trans (setG_same _ _ _ _))) (by omega) (by omega) (c := 120) (by omega) (by rw [bM_congr (H := (setG (setG (setG (setG (setG G 11 14 102) 11 13 (p + 1)) 11 16 ((bM G (p + 1) - 48))) 11 13 (p + 2)) 11 17 ((bM G (p + 1) - 48)))) (G := G) (((setG_ne (by omega)).trans ((setG_ne (by omega)).trans ((setG_ne (by omega)).trans ((setG_ne (by omega)).trans (setG_ne (by omega))))))) (fun y => ((setG_ne (by omega)).trans ((setG_ne (by omega)).trans ((setG_ne (by omega)).trans ((setG_ne (by omega)).trans (setG_ne (by omega)))))))]; exact q2)) (fun _ h => h) (by omega) (cell_108 ad C _) rfl wc_X6_passes wm_RX6_184 wi_X6_passes ws_X6_passes wn_X6 (by decide) rfl ⟨Nat.le_of_ble_eq_true rfl, Nat.le_of_ble_eq_true rfl⟩ ⟨Nat.le_of_ble_eq_true rfl, Nat.le_of_ble_eq_true rfl⟩ (Nat.le_of_ble_eq_true rfl) dX6_readOrder_126 rfl (fun r9 G9 h9 => ?_)
      rw [h9.1, h9.2]
      clear h9
      refine aw_if_eq (q := 132) dX6_readOrder_129 rfl (t := 173) (by decide) (by omega) (fun _ => ?_) (fun h => absurd h (by omega))
      refine aw_iconst (q := 174) dX6_readOrder_173 rfl ?_
      refine aw_istore_n (q := 175) (lv2 := [(0, .ref (ad 108)), (1, .int (iI 0))]) [1, 0] dX6_readOrder_174 rfl rfl (by decide) rfl rfl ?_
      refine aw_iload_n (q := 176) 1 dX6_readOrder_175 rfl rfl rfl ?_
      refine aw_if_eq (q := 179) dX6_readOrder_176 rfl (t := 192) (by decide) (by omega) (fun _ => ?_) (fun h => absurd h (by omega))
      refine aw_iconst (q := 193) dX6_readOrder_192 rfl ?_
      exact rt_z rfl (by first | omega | exact b2i_r _) (Nat.le_refl _) (Nat.le_refl _) (⟨Or.inr ⟨by intro q; first | exact absurd q.1 (by assumption) | exact absurd q.2.1 (by assumption) | exact absurd q.2.2.1 (by assumption) | exact absurd q.2.2.2 (by assumption) | exact absurd q.2.2 (by assumption) | exact absurd q.2 (by assumption) | omega, rfl, (((setG_ne (by omega)).trans (setG_same _ _ _ _))).trans (by unfold flSt; repeat (first | rw [if_pos (by assumption)] | rw [if_neg (fun z => z (by assumption))]))⟩, fun x y z => ((setG_ne (by omega)).trans ((setG_ne (by omega)).trans ((setG_ne (by omega)).trans ((setG_ne (by omega)).trans (setG_ne (by omega))))))⟩) dX6_readOrder_193
  · refine cv_I (q := 85) (CC := "") (id := 108) (As := [.int (iI 51)]) 1 (c_readDigitMN (T := T) (D := D) (ad := ad) (setG (setG G 11 14 102) 11 13 (p + 1)) (okX_congr (((setG_ne (by omega)).trans (setG_ne (by omega)))) (fun y => ((setG_ne (by omega)).trans (setG_ne (by omega)))) o) (p := p + 1) ((setG_same _ _ _ _)) (by omega) (by omega) (m := 51) (by omega) (by rw [bM_congr (H := (setG (setG G 11 14 102) 11 13 (p + 1))) (G := G) (((setG_ne (by omega)).trans (setG_ne (by omega)))) (fun y => ((setG_ne (by omega)).trans (setG_ne (by omega))))]; exact q1)) (fun _ h => h) (by omega) (cell_108 ad C _) rfl wc_X6_readDigit wm_RX6_187 wi_X6_readDigit ws_X6_readDigit wn_X6 (by decide) rfl ⟨Nat.le_of_ble_eq_true rfl, Nat.le_of_ble_eq_true rfl⟩ ⟨Nat.le_of_ble_eq_true rfl, Nat.le_of_ble_eq_true rfl⟩ (Nat.le_of_ble_eq_true rfl) dX6_readOrder_82 rfl (fun r9 G9 h9 => ?_)
    rw [bM_congr (H := (setG (setG G 11 14 102) 11 13 (p + 1))) (G := G) (((setG_ne (by omega)).trans (setG_ne (by omega)))) (fun y => ((setG_ne (by omega)).trans (setG_ne (by omega))))] at h9
    rw [h9.1, h9.2]
    clear h9
    refine aw_if_ne (q := 88) dX6_readOrder_85 rfl (t := 90) (by decide) (by omega) (fun h => absurd h (by omega)) (fun _ => ?_)
    refine aw_iconst (q := 89) dX6_readOrder_88 rfl ?_
    exact rt_z rfl (by first | omega | exact b2i_r _) (Nat.le_refl _) (Nat.le_refl _) (⟨Or.inr ⟨by intro q; first | exact absurd q.1 (by assumption) | exact absurd q.2.1 (by assumption) | exact absurd q.2.2.1 (by assumption) | exact absurd q.2.2.2 (by assumption) | exact absurd q.2.2 (by assumption) | exact absurd q.2 (by assumption) | omega, rfl, (((setG_ne (by omega)).trans (setG_same _ _ _ _))).trans (by unfold flSt; repeat (first | rw [if_pos (by assumption)] | rw [if_neg (fun z => z (by assumption))]))⟩, fun x y z => ((setG_ne (by omega)).trans ((setG_ne (by omega)).trans (setG_ne (by omega))))⟩) dX6_readOrder_89
set_option maxHeartbeats 4000000 in
set_option maxRecDepth 100000 in
theorem c_order104 {l : Launch} {D : va_G} {C : Nat → ClassId} {T : Nat → Nat} {ad : Int → Nat} (G : GG) (o : okX G) {p : Int} (hp : G 11 13 = p) (h0 : 0 ≤ p) (h1 : p ≤ 100) (hL : bM G p = 104) : MC l yX6_readOrder cX6_readOrder 2 (some .boolean) 3 65 0 0 D (tyC C) T [.ref (ad 108)] (cw ad C G) (RI ad C (fun r G1 => ((okHr (bM G) p ∧ r = 1 ∧ G1 11 13 = nQ (bM G) (p + 1) + 1 ∧ G1 11 14 = 104 ∧ G1 11 15 = nV (bM G) (p + 1)) ∨ (¬ okHr (bM G) p ∧ r = 0 ∧ G1 11 13 = flHr (bM G) p)) ∧ sameB roS_ G G1)) := by
  refine mc_of (by decide +kernel) (Nat.le_of_ble_eq_true rfl) rfl ?_
  have o1 := o.1
  refine aw_aload_n (q := 1) 0 dX6_readOrder_0 rfl rfl rfl ?_
  refine aw_aload_n (q := 2) 0 dX6_readOrder_1 rfl rfl rfl ?_
  refine cv_I (q := 5) (CC := "") (id := 108) (As := []) 0 (c_here (T := T) (D := D) (ad := ad) G o (by rw [hp]; omega)) (fun _ h => h) (by omega) (cell_108 ad C _) rfl wc_X6_here wm_RX6_172 wi_X6_here ws_X6_here wn_X6 (by decide) rfl ⟨Nat.le_of_ble_eq_true rfl, Nat.le_of_ble_eq_true rfl⟩ ⟨Nat.le_of_ble_eq_true rfl, Nat.le_of_ble_eq_true rfl⟩ (Nat.le_of_ble_eq_true rfl) dX6_readOrder_2 rfl (fun r9 G9 h9 => ?_)
  obtain ⟨e9, g9⟩ := h9
  rw [e9.trans ((congrArg (bM G) hp).trans hL), g9]
  clear e9 g9
  have b0 := bM_r o h0
  refine p_mod_letter (q := 8) wf_RX6_190 dX6_readOrder_5 rfl ?_
  refine aw_aload_n (q := 9) 0 dX6_readOrder_8 rfl rfl rfl ?_
  refine g_mod_letter (q := 12) (v := 104) (setG_same _ _ _ _) wf_RX6_190 dX6_readOrder_9 rfl ?_
  refine aw_bipush (q := 14) dX6_readOrder_12 rfl (by decide) ?_
  refine aw_icmp_eq (q := 17) dX6_readOrder_14 rfl (t := 46) (by decide) (by omega) (by omega) (fun h => absurd h (by omega)) (fun _ => ?_)
  refine aw_aload_n (q := 18) 0 dX6_readOrder_17 rfl rfl rfl ?_
  refine g_mod_letter (q := 21) (v := 104) (setG_same _ _ _ _) wf_RX6_190 dX6_readOrder_18 rfl ?_
  refine aw_bipush (q := 23) dX6_readOrder_21 rfl (by decide) ?_
  refine aw_icmp_eq (q := 26) dX6_readOrder_23 rfl (t := 46) (by decide) (by omega) (by omega) (fun h => absurd h (by omega)) (fun _ => ?_)
  refine aw_aload_n (q := 27) 0 dX6_readOrder_26 rfl rfl rfl ?_
  refine g_mod_letter (q := 30) (v := 104) (setG_same _ _ _ _) wf_RX6_190 dX6_readOrder_27 rfl ?_
  refine aw_bipush (q := 32) dX6_readOrder_30 rfl (by decide) ?_
  refine aw_icmp_eq (q := 35) dX6_readOrder_32 rfl (t := 46) (by decide) (by omega) (by omega) (fun h => absurd h (by omega)) (fun _ => ?_)
  refine aw_aload_n (q := 36) 0 dX6_readOrder_35 rfl rfl rfl ?_
  refine g_mod_letter (q := 39) (v := 104) (setG_same _ _ _ _) wf_RX6_190 dX6_readOrder_36 rfl ?_
  refine aw_bipush (q := 41) dX6_readOrder_39 rfl (by decide) ?_
  refine aw_icmp_eq (q := 44) dX6_readOrder_41 rfl (t := 46) (by decide) (by omega) (by omega) (fun _ => ?_) (fun h => absurd h (by omega))
  refine aw_aload_n (q := 47) 0 dX6_readOrder_46 rfl rfl rfl ?_
  refine aw_dup (q := 48) dX6_readOrder_47 rfl rfl ?_
  refine g_mod_at (q := 51) (v := p) ((setG_ne (by omega)).trans (hp)) wf_RX6_169 dX6_readOrder_48 rfl ?_
  refine aw_iconst (q := 52) dX6_readOrder_51 rfl ?_
  refine ae_iadd (q := 53) (p + 1) (by omega) dX6_readOrder_52 rfl ?_
  refine p_mod_at (q := 56) wf_RX6_169 dX6_readOrder_53 rfl ?_
  refine aw_aload_n (q := 57) 0 dX6_readOrder_56 rfl rfl rfl ?_
  refine g_mod_letter (q := 60) (v := 104) ((setG_ne (by omega)).trans (setG_same _ _ _ _)) wf_RX6_190 dX6_readOrder_57 rfl ?_
  refine aw_bipush (q := 62) dX6_readOrder_60 rfl (by decide) ?_
  refine aw_icmp_eq (q := 65) dX6_readOrder_62 rfl (t := 98) (by decide) (by omega) (by omega) (fun _ => ?_) (fun h => absurd h (by omega))
  refine aw_aload_n (q := 99) 0 dX6_readOrder_98 rfl rfl rfl ?_
  refine g_mod_letter (q := 102) (v := 104) ((setG_ne (by omega)).trans (setG_same _ _ _ _)) wf_RX6_190 dX6_readOrder_99 rfl ?_
  refine aw_bipush (q := 104) dX6_readOrder_102 rfl (by decide) ?_
  refine aw_icmp_ne (q := 107) dX6_readOrder_104 rfl (t := 114) (by decide) (by omega) (by omega) (fun _ => ?_) (fun h => absurd h (by omega))
  refine aw_aload_n (q := 115) 0 dX6_readOrder_114 rfl rfl rfl ?_
  refine g_mod_letter (q := 118) (v := 104) ((setG_ne (by omega)).trans (setG_same _ _ _ _)) wf_RX6_190 dX6_readOrder_115 rfl ?_
  refine aw_bipush (q := 120) dX6_readOrder_118 rfl (by decide) ?_
  refine aw_icmp_eq (q := 123) dX6_readOrder_120 rfl (t := 132) (by decide) (by omega) (by omega) (fun _ => ?_) (fun h => absurd h (by omega))
  refine aw_aload_n (q := 133) 0 dX6_readOrder_132 rfl rfl rfl ?_
  refine aw_aload_n (q := 134) 0 dX6_readOrder_133 rfl rfl rfl ?_
  refine g_mod_letter (q := 137) (v := 104) ((setG_ne (by omega)).trans (setG_same _ _ _ _)) wf_RX6_190 dX6_readOrder_134 rfl ?_
  refine aw_bipush (q := 139) dX6_readOrder_137 rfl (by decide) ?_
  refine aw_icmp_ne (q := 142) dX6_readOrder_139 rfl (t := 147) (by decide) (by omega) (by omega) (fun _ => ?_) (fun h => absurd h (by omega))
  refine aw_aload_n (q := 148) 0 dX6_readOrder_147 rfl rfl rfl ?_
  refine g_mod_letter (q := 151) (v := 104) ((setG_ne (by omega)).trans (setG_same _ _ _ _)) wf_RX6_190 dX6_readOrder_148 rfl ?_
  refine aw_bipush (q := 153) dX6_readOrder_151 rfl (by decide) ?_
  refine aw_icmp_ne (q := 156) dX6_readOrder_153 rfl (t := 161) (by decide) (by omega) (by omega) (fun _ => ?_) (fun h => absurd h (by omega))
  refine aw_bipush (q := 163) dX6_readOrder_161 rfl (by decide) ?_
  by_cases q1 : okNum (bM G) (p + 1) 48
  · refine cv_I (q := 166) (CC := "") (id := 108) (As := [.int (iI 48)]) 1 (c_readNumberMY (T := T) (D := D) (ad := ad) (setG (setG G 11 14 104) 11 13 (p + 1)) (okX_congr (((setG_ne (by omega)).trans (setG_ne (by omega)))) (fun y => ((setG_ne (by omega)).trans (setG_ne (by omega)))) o) (p := p + 1) ((setG_same _ _ _ _)) (by omega) (by omega) (m := 48) (by omega) (by rw [show bM (setG (setG G 11 14 104) 11 13 (p + 1)) = bM G from funext (bM_congr (H := (setG (setG G 11 14 104) 11 13 (p + 1))) (G := G) (((setG_ne (by omega)).trans (setG_ne (by omega)))) (fun y => ((setG_ne (by omega)).trans (setG_ne (by omega)))))]; exact q1)) (fun _ h => h) (by omega) (cell_108 ad C _) rfl wc_X6_readNumber wm_RX6_200 wi_X6_readNumber ws_X6_readNumber wn_X6 (by decide) rfl ⟨Nat.le_of_ble_eq_true rfl, Nat.le_of_ble_eq_true rfl⟩ ⟨Nat.le_of_ble_eq_true rfl, Nat.le_of_ble_eq_true rfl⟩ (Nat.le_of_ble_eq_true rfl) dX6_readOrder_163 rfl (fun r9 N h9 => ?_)
    obtain ⟨r1, eV, eA, fN⟩ := h9
    rw [r1]
    rw [show bM (setG (setG G 11 14 104) 11 13 (p + 1)) = bM G from funext (bM_congr (H := (setG (setG G 11 14 104) 11 13 (p + 1))) (G := G) (((setG_ne (by omega)).trans (setG_ne (by omega)))) (fun y => ((setG_ne (by omega)).trans (setG_ne (by omega)))))] at eV eA
    have nq := nQ_b (bM G) (p + 1)
    refine aw_if_eq (q := 169) dX6_readOrder_166 rfl (t := 173) (by decide) (by omega) (fun h => absurd h (by omega)) (fun _ => ?_)
    refine aw_iconst (q := 170) dX6_readOrder_169 rfl ?_
    refine aw_goto (q := 174) dX6_readOrder_170 (by decide) ?_
    refine aw_istore_n (q := 175) (lv2 := [(0, .ref (ad 108)), (1, .int (iI 1))]) [1, 0] dX6_readOrder_174 rfl rfl (by decide) rfl rfl ?_
    refine aw_iload_n (q := 176) 1 dX6_readOrder_175 rfl rfl rfl ?_
    refine aw_if_eq (q := 179) dX6_readOrder_176 rfl (t := 192) (by decide) (by omega) (fun h => absurd h (by omega)) (fun _ => ?_)
    refine aw_aload_n (q := 180) 0 dX6_readOrder_179 rfl rfl rfl ?_
    refine aw_bipush (q := 182) dX6_readOrder_180 rfl (by decide) ?_
    by_cases q2 : bM G ((nQ (bM G) (p + 1))) = 59
    · refine cv_I (q := 185) (CC := "") (id := 108) (As := [.int (iI 59)]) 1 (c_passesY (T := T) (D := D) (ad := ad) N (okX_congr (((fN 11 6 (by omega)).trans (((setG_ne (by omega)).trans (setG_ne (by omega)))))) (fun y => ((fN 16 y (by omega)).trans (((setG_ne (by omega)).trans (setG_ne (by omega)))))) o) (p := (nQ (bM G) (p + 1))) ((eA)) (by omega) (by omega) (c := 59) (by omega) (by rw [bM_congr (H := N) (G := G) (((fN 11 6 (by omega)).trans (((setG_ne (by omega)).trans (setG_ne (by omega)))))) (fun y => ((fN 16 y (by omega)).trans (((setG_ne (by omega)).trans (setG_ne (by omega))))))]; exact q2)) (fun _ h => h) (by omega) (cell_108 ad C _) rfl wc_X6_passes wm_RX6_184 wi_X6_passes ws_X6_passes wn_X6 (by decide) rfl ⟨Nat.le_of_ble_eq_true rfl, Nat.le_of_ble_eq_true rfl⟩ ⟨Nat.le_of_ble_eq_true rfl, Nat.le_of_ble_eq_true rfl⟩ (Nat.le_of_ble_eq_true rfl) dX6_readOrder_182 rfl (fun r9 G9 h9 => ?_)
      rw [h9.1, h9.2]
      clear h9
      have l33 := bM_lt o (p := (nQ (bM G) (p + 1))) (by omega)
      refine aw_if_eq (q := 188) dX6_readOrder_185 rfl (t := 192) (by decide) (by omega) (fun h => absurd h (by omega)) (fun _ => ?_)
      refine aw_iconst (q := 189) dX6_readOrder_188 rfl ?_
      refine aw_goto (q := 193) dX6_readOrder_189 (by decide) ?_
      exact rt_z rfl (by first | omega | exact b2i_r _) (Nat.le_refl _) (Nat.le_refl _) (⟨Or.inl ⟨⟨by assumption, by assumption⟩, rfl, (setG_same _ _ _ _), (((setG_ne (by omega)).trans (((fN _ _ (by omega)).trans (((setG_ne (by omega)).trans (setG_same _ _ _ _))))))), (((setG_ne (by omega)).trans (eV)))⟩, fun x y z => ((setG_ne (by omega)).trans ((fN x y (by omega)).trans (((setG_ne (by omega)).trans (setG_ne (by omega))))))⟩) dX6_readOrder_193
    · refine cv_I (q := 185) (CC := "") (id := 108) (As := [.int (iI 59)]) 1 (c_passesN (T := T) (D := D) (ad := ad) N (okX_congr (((fN 11 6 (by omega)).trans (((setG_ne (by omega)).trans (setG_ne (by omega)))))) (fun y => ((fN 16 y (by omega)).trans (((setG_ne (by omega)).trans (setG_ne (by omega)))))) o) (p := (nQ (bM G) (p + 1))) ((eA)) (by omega) (by omega) (c := 59) (by omega) (by rw [bM_congr (H := N) (G := G) (((fN 11 6 (by omega)).trans (((setG_ne (by omega)).trans (setG_ne (by omega)))))) (fun y => ((fN 16 y (by omega)).trans (((setG_ne (by omega)).trans (setG_ne (by omega))))))]; exact q2)) (fun _ h => h) (by omega) (cell_108 ad C _) rfl wc_X6_passes wm_RX6_184 wi_X6_passes ws_X6_passes wn_X6 (by decide) rfl ⟨Nat.le_of_ble_eq_true rfl, Nat.le_of_ble_eq_true rfl⟩ ⟨Nat.le_of_ble_eq_true rfl, Nat.le_of_ble_eq_true rfl⟩ (Nat.le_of_ble_eq_true rfl) dX6_readOrder_182 rfl (fun r9 G9 h9 => ?_)
      rw [h9.1, h9.2]
      clear h9
      refine aw_if_eq (q := 188) dX6_readOrder_185 rfl (t := 192) (by decide) (by omega) (fun _ => ?_) (fun h => absurd h (by omega))
      refine aw_iconst (q := 193) dX6_readOrder_192 rfl ?_
      exact rt_z rfl (by first | omega | exact b2i_r _) (Nat.le_refl _) (Nat.le_refl _) (⟨Or.inr ⟨by intro q; first | exact absurd q.1 (by assumption) | exact absurd q.2.1 (by assumption) | exact absurd q.2.2.1 (by assumption) | exact absurd q.2.2.2 (by assumption) | exact absurd q.2.2 (by assumption) | exact absurd q.2 (by assumption) | omega, rfl, ((eA)).trans (by unfold flHr; repeat (first | rw [if_pos (by assumption)] | rw [if_neg (fun z => z (by assumption))]))⟩, fun x y z => ((fN x y (by omega)).trans (((setG_ne (by omega)).trans (setG_ne (by omega)))))⟩) dX6_readOrder_193
  · refine cv_I (q := 166) (CC := "") (id := 108) (As := [.int (iI 48)]) 1 (c_readNumberMN (T := T) (D := D) (ad := ad) (setG (setG G 11 14 104) 11 13 (p + 1)) (okX_congr (((setG_ne (by omega)).trans (setG_ne (by omega)))) (fun y => ((setG_ne (by omega)).trans (setG_ne (by omega)))) o) (p := p + 1) ((setG_same _ _ _ _)) (by omega) (by omega) (m := 48) (by omega) (by rw [show bM (setG (setG G 11 14 104) 11 13 (p + 1)) = bM G from funext (bM_congr (H := (setG (setG G 11 14 104) 11 13 (p + 1))) (G := G) (((setG_ne (by omega)).trans (setG_ne (by omega)))) (fun y => ((setG_ne (by omega)).trans (setG_ne (by omega)))))]; exact q1)) (fun _ h => h) (by omega) (cell_108 ad C _) rfl wc_X6_readNumber wm_RX6_200 wi_X6_readNumber ws_X6_readNumber wn_X6 (by decide) rfl ⟨Nat.le_of_ble_eq_true rfl, Nat.le_of_ble_eq_true rfl⟩ ⟨Nat.le_of_ble_eq_true rfl, Nat.le_of_ble_eq_true rfl⟩ (Nat.le_of_ble_eq_true rfl) dX6_readOrder_163 rfl (fun r9 N h9 => ?_)
    obtain ⟨r1, eA, fN⟩ := h9
    rw [r1]
    rw [show bM (setG (setG G 11 14 104) 11 13 (p + 1)) = bM G from funext (bM_congr (H := (setG (setG G 11 14 104) 11 13 (p + 1))) (G := G) (((setG_ne (by omega)).trans (setG_ne (by omega)))) (fun y => ((setG_ne (by omega)).trans (setG_ne (by omega)))))] at eA
    have nq := nQ_b (bM G) (p + 1)
    refine aw_if_eq (q := 169) dX6_readOrder_166 rfl (t := 173) (by decide) (by omega) (fun _ => ?_) (fun h => absurd h (by omega))
    refine aw_iconst (q := 174) dX6_readOrder_173 rfl ?_
    refine aw_istore_n (q := 175) (lv2 := [(0, .ref (ad 108)), (1, .int (iI 0))]) [1, 0] dX6_readOrder_174 rfl rfl (by decide) rfl rfl ?_
    refine aw_iload_n (q := 176) 1 dX6_readOrder_175 rfl rfl rfl ?_
    refine aw_if_eq (q := 179) dX6_readOrder_176 rfl (t := 192) (by decide) (by omega) (fun _ => ?_) (fun h => absurd h (by omega))
    refine aw_iconst (q := 193) dX6_readOrder_192 rfl ?_
    exact rt_z rfl (by first | omega | exact b2i_r _) (Nat.le_refl _) (Nat.le_refl _) (⟨Or.inr ⟨by intro q; first | exact absurd q.1 (by assumption) | exact absurd q.2.1 (by assumption) | exact absurd q.2.2.1 (by assumption) | exact absurd q.2.2.2 (by assumption) | exact absurd q.2.2 (by assumption) | exact absurd q.2 (by assumption) | omega, rfl, ((eA)).trans (by unfold flHr; repeat (first | rw [if_pos (by assumption)] | rw [if_neg (fun z => z (by assumption))]))⟩, fun x y z => ((fN x y (by omega)).trans (((setG_ne (by omega)).trans (setG_ne (by omega)))))⟩) dX6_readOrder_193
set_option maxHeartbeats 4000000 in
set_option maxRecDepth 100000 in
theorem c_orderN {l : Launch} {D : va_G} {C : Nat → ClassId} {T : Nat → Nat} {ad : Int → Nat} (G : GG) (o : okX G) {p : Int} (hp : G 11 13 = p) (h0 : 0 ≤ p) (h1 : p ≤ 100) (hL : ¬ bM G p = 115 ∧ ¬ bM G p = 98 ∧ ¬ bM G p = 102 ∧ ¬ bM G p = 104) : MC l yX6_readOrder cX6_readOrder 2 (some .boolean) 3 65 0 0 D (tyC C) T [.ref (ad 108)] (cw ad C G) (RI ad C (fun r G1 => r = 0 ∧ G1 11 13 = p ∧ sameB roS_ G G1)) := by
  refine mc_of (by decide +kernel) (Nat.le_of_ble_eq_true rfl) rfl ?_
  have o1 := o.1
  refine aw_aload_n (q := 1) 0 dX6_readOrder_0 rfl rfl rfl ?_
  refine aw_aload_n (q := 2) 0 dX6_readOrder_1 rfl rfl rfl ?_
  refine cv_I (q := 5) (CC := "") (id := 108) (As := []) 0 (c_here (T := T) (D := D) (ad := ad) G o (by rw [hp]; omega)) (fun _ h => h) (by omega) (cell_108 ad C _) rfl wc_X6_here wm_RX6_172 wi_X6_here ws_X6_here wn_X6 (by decide) rfl ⟨Nat.le_of_ble_eq_true rfl, Nat.le_of_ble_eq_true rfl⟩ ⟨Nat.le_of_ble_eq_true rfl, Nat.le_of_ble_eq_true rfl⟩ (Nat.le_of_ble_eq_true rfl) dX6_readOrder_2 rfl (fun r9 G9 h9 => ?_)
  obtain ⟨e9, g9⟩ := h9
  rw [e9.trans ((congrArg (bM G) hp)), g9]
  clear e9 g9
  have b0 := bM_r o h0
  refine p_mod_letter (q := 8) wf_RX6_190 dX6_readOrder_5 rfl ?_
  refine aw_aload_n (q := 9) 0 dX6_readOrder_8 rfl rfl rfl ?_
  refine g_mod_letter (q := 12) (v := (bM G p)) (setG_same _ _ _ _) wf_RX6_190 dX6_readOrder_9 rfl ?_
  refine aw_bipush (q := 14) dX6_readOrder_12 rfl (by decide) ?_
  refine aw_icmp_eq (q := 17) dX6_readOrder_14 rfl (t := 46) (by decide) (by omega) (by omega) (fun y1 => ?_) (fun y2 => ?_)
  · exact (by omega : False).elim
  · refine aw_aload_n (q := 18) 0 dX6_readOrder_17 rfl rfl rfl ?_
    refine g_mod_letter (q := 21) (v := (bM G p)) (setG_same _ _ _ _) wf_RX6_190 dX6_readOrder_18 rfl ?_
    refine aw_bipush (q := 23) dX6_readOrder_21 rfl (by decide) ?_
    refine aw_icmp_eq (q := 26) dX6_readOrder_23 rfl (t := 46) (by decide) (by omega) (by omega) (fun y3 => ?_) (fun y4 => ?_)
    · exact (by omega : False).elim
    · refine aw_aload_n (q := 27) 0 dX6_readOrder_26 rfl rfl rfl ?_
      refine g_mod_letter (q := 30) (v := (bM G p)) (setG_same _ _ _ _) wf_RX6_190 dX6_readOrder_27 rfl ?_
      refine aw_bipush (q := 32) dX6_readOrder_30 rfl (by decide) ?_
      refine aw_icmp_eq (q := 35) dX6_readOrder_32 rfl (t := 46) (by decide) (by omega) (by omega) (fun y5 => ?_) (fun y6 => ?_)
      · exact (by omega : False).elim
      · refine aw_aload_n (q := 36) 0 dX6_readOrder_35 rfl rfl rfl ?_
        refine g_mod_letter (q := 39) (v := (bM G p)) (setG_same _ _ _ _) wf_RX6_190 dX6_readOrder_36 rfl ?_
        refine aw_bipush (q := 41) dX6_readOrder_39 rfl (by decide) ?_
        refine aw_icmp_eq (q := 44) dX6_readOrder_41 rfl (t := 46) (by decide) (by omega) (by omega) (fun y7 => ?_) (fun y8 => ?_)
        · exact (by omega : False).elim
        · refine aw_iconst (q := 45) dX6_readOrder_44 rfl ?_
          exact rt_z rfl (by first | omega | exact b2i_r _) (Nat.le_refl _) (Nat.le_refl _) (⟨rfl, ((setG_ne (by omega)).trans (hp)), fun x y z => setG_ne (by omega)⟩) dX6_readOrder_45
