abbrev raisesC (G : GG) (i c ra : Int) : Prop := tenGe (G i (15 + 12 * c + 10)) ra ∧ G i (15 + 12 * c + 5) = 0 ∧ G i (15 + 12 * c + 2) < G i (15 + 12 * c + 4)
abbrev fallsC (G : GG) (i c fa : Int) : Prop := tenLt (G i (15 + 12 * c + 10)) fa ∧ G i (15 + 12 * c + 3) < G i (15 + 12 * c + 2)
def coilSet (G : GG) (i c ra fa : Int) : GG := if raisesC G i c ra then setG (setG (setG G i (15 + 12 * c + 11) 1) i (15 + 12 * c + 2) (G i (15 + 12 * c + 2) + 5)) i (15 + 12 * c + 8) (G i (15 + 12 * c + 8) + 1) else if fallsC G i c fa then setG (setG G i (15 + 12 * c + 11) 0) i (15 + 12 * c + 2) (G i (15 + 12 * c + 2) - 5) else setG G i (15 + 12 * c + 11) 0
def coilBan (G : GG) (i c : Int) : GG := if 0 < G i (15 + 12 * c + 5) then setG G i (15 + 12 * c + 5) (G i (15 + 12 * c + 5) - 1) else G
def coilFine (G : GG) (i c fi : Int) : GG := setG (setG G i (15 + 12 * c + 2) (max (G i (15 + 12 * c + 3)) (G i (15 + 12 * c + 2) - fi))) i (15 + 12 * c + 5) 3
def coilFade (G : GG) (i c p : Int) : GG := setG G i (15 + 12 * c + 10) (ffade (G i (15 + 12 * c + 10)) p)
def coilBegin (G : GG) (i c a b d : Int) : GG := setG (setG (setG (setG (setG (setG (setG (setG (setG (setG (setG (setG G i (15 + 12 * c) a) i (15 + 12 * c + 1) 0) i (15 + 12 * c + 2) b) i (15 + 12 * c + 3) b) i (15 + 12 * c + 4) d) i (15 + 12 * c + 5) 0) i (15 + 12 * c + 6) 0) i (15 + 12 * c + 7) 0) i (15 + 12 * c + 8) 0) i (15 + 12 * c + 9) 0) i (15 + 12 * c + 10) 0) i (15 + 12 * c + 11) 0
def coilSale (G : GG) (i c : Int) : GG := setG (setG (setG (setG G i (15 + 12 * c + 1) (G i (15 + 12 * c + 1) - 1)) i (15 + 12 * c + 10) (fadd1 (G i (15 + 12 * c + 10)))) i (15 + 12 * c + 6) (G i (15 + 12 * c + 6) + 1)) i (15 + 12 * c + 7) (G i (15 + 12 * c + 7) + G i (15 + 12 * c + 2))
theorem cp12 (G : GG) (i j d s : Int) : cpG G i d 12 j s = setG (setG (setG (setG (setG (setG (setG (setG (setG (setG (setG (setG G i d (G j s)) i (d + 1) (G j (s + 1))) i (d + 2) (G j (s + 2))) i (d + 3) (G j (s + 3))) i (d + 4) (G j (s + 4))) i (d + 5) (G j (s + 5))) i (d + 6) (G j (s + 6))) i (d + 7) (G j (s + 7))) i (d + 8) (G j (s + 8))) i (d + 9) (G j (s + 9))) i (d + 10) (G j (s + 10))) i (d + 11) (G j (s + 11)) := by
  rw [cpG_succ G i d j s (n := 11) (m := 12) (by omega) rfl, cpG_succ G i d j s (n := 10) (m := 11) (by omega) rfl, cpG_succ G i d j s (n := 9) (m := 10) (by omega) rfl, cpG_succ G i d j s (n := 8) (m := 9) (by omega) rfl, cpG_succ G i d j s (n := 7) (m := 8) (by omega) rfl, cpG_succ G i d j s (n := 6) (m := 7) (by omega) rfl, cpG_succ G i d j s (n := 5) (m := 6) (by omega) rfl, cpG_succ G i d j s (n := 4) (m := 5) (by omega) rfl, cpG_succ G i d j s (n := 3) (m := 4) (by omega) rfl, cpG_succ G i d j s (n := 2) (m := 3) (by omega) rfl, cpG_succ G i d j s (n := 1) (m := 2) (by omega) rfl, cpG_succ G i d j s (n := 0) (m := 1) (by omega) rfl, cpG_0, Int.add_zero, Int.add_zero]
set_option maxHeartbeats 4000000 in
set_option maxRecDepth 100000 in
theorem c_coil_takeOver {l : Launch} {D : va_G} {C : Nat → ClassId} {T : Nat → Nat} {ad : Int → Nat} (G : GG) {i c : Int} (hi : 0 ≤ i ∧ i < 6) (hc : 0 ≤ c ∧ c < 8) {j : Int} (hj : 0 ≤ j ∧ j < 6) (hij : i ≠ j) (hz : G j (15 + 12 * c + 11) = 0 ∨ G j (15 + 12 * c + 11) = 1) : MC l yX0_takeOver cX0_takeOver 2 none 0 0 0 0 D (tyC C) T [.ref (ad (17 * i + 9 + c)), .ref (ad (17 * j + 9 + c))] (cw ad C G) (RV ad C (fun G1 => G1 = cpG G i (15 + 12 * c) 12 j (15 + 12 * c))) := by
  refine mc_of (by decide +kernel) (Nat.le_of_ble_eq_true rfl) rfl ?_
  refine aw_aload_n (q := 1) 0 dX0_takeOver_0 rfl rfl rfl ?_
  refine aw_aload_n (q := 2) 1 dX0_takeOver_1 rfl rfl rfl ?_
  refine g_coil_kind (q := 5) hj hc (v := (G j (15 + 12 * c))) rfl wf_RX0_9 dX0_takeOver_2 rfl ?_
  refine p_coil_kind (q := 8) hi hc wf_RX0_9 dX0_takeOver_5 rfl ?_
  refine aw_aload_n (q := 9) 0 dX0_takeOver_8 rfl rfl rfl ?_
  refine aw_aload_n (q := 10) 1 dX0_takeOver_9 rfl rfl rfl ?_
  refine g_coil_goods (q := 13) hj hc (v := (G j (15 + 12 * c + 1))) (setG_ne (by omega)) wf_RX0_15 dX0_takeOver_10 rfl ?_
  refine p_coil_goods (q := 16) hi hc wf_RX0_15 dX0_takeOver_13 rfl ?_
  refine aw_aload_n (q := 17) 0 dX0_takeOver_16 rfl rfl rfl ?_
  refine aw_aload_n (q := 18) 1 dX0_takeOver_17 rfl rfl rfl ?_
  refine g_coil_price (q := 21) hj hc (v := (G j (15 + 12 * c + 2))) ((setG_ne (by omega)).trans (setG_ne (by omega))) wf_RX0_18 dX0_takeOver_18 rfl ?_
  refine p_coil_price (q := 24) hi hc wf_RX0_18 dX0_takeOver_21 rfl ?_
  refine aw_aload_n (q := 25) 0 dX0_takeOver_24 rfl rfl rfl ?_
  refine aw_aload_n (q := 26) 1 dX0_takeOver_25 rfl rfl rfl ?_
  refine g_coil_lowest (q := 29) hj hc (v := (G j (15 + 12 * c + 3))) ((setG_ne (by omega)).trans ((setG_ne (by omega)).trans (setG_ne (by omega)))) wf_RX0_21 dX0_takeOver_26 rfl ?_
  refine p_coil_lowest (q := 32) hi hc wf_RX0_21 dX0_takeOver_29 rfl ?_
  refine aw_aload_n (q := 33) 0 dX0_takeOver_32 rfl rfl rfl ?_
  refine aw_aload_n (q := 34) 1 dX0_takeOver_33 rfl rfl rfl ?_
  refine g_coil_highest (q := 37) hj hc (v := (G j (15 + 12 * c + 4))) ((setG_ne (by omega)).trans ((setG_ne (by omega)).trans ((setG_ne (by omega)).trans (setG_ne (by omega))))) wf_RX0_24 dX0_takeOver_34 rfl ?_
  refine p_coil_highest (q := 40) hi hc wf_RX0_24 dX0_takeOver_37 rfl ?_
  refine aw_aload_n (q := 41) 0 dX0_takeOver_40 rfl rfl rfl ?_
  refine aw_aload_n (q := 42) 1 dX0_takeOver_41 rfl rfl rfl ?_
  refine g_coil_banned (q := 45) hj hc (v := (G j (15 + 12 * c + 5))) ((setG_ne (by omega)).trans ((setG_ne (by omega)).trans ((setG_ne (by omega)).trans ((setG_ne (by omega)).trans (setG_ne (by omega)))))) wf_RX0_27 dX0_takeOver_42 rfl ?_
  refine p_coil_banned (q := 48) hi hc wf_RX0_27 dX0_takeOver_45 rfl ?_
  refine aw_aload_n (q := 49) 0 dX0_takeOver_48 rfl rfl rfl ?_
  refine aw_aload_n (q := 50) 1 dX0_takeOver_49 rfl rfl rfl ?_
  refine g_coil_sales (q := 53) hj hc (v := (G j (15 + 12 * c + 6))) ((setG_ne (by omega)).trans ((setG_ne (by omega)).trans ((setG_ne (by omega)).trans ((setG_ne (by omega)).trans ((setG_ne (by omega)).trans (setG_ne (by omega))))))) wf_RX0_30 dX0_takeOver_50 rfl ?_
  refine p_coil_sales (q := 56) hi hc wf_RX0_30 dX0_takeOver_53 rfl ?_
  refine aw_aload_n (q := 57) 0 dX0_takeOver_56 rfl rfl rfl ?_
  refine aw_aload_n (q := 58) 1 dX0_takeOver_57 rfl rfl rfl ?_
  refine g_coil_takings (q := 61) hj hc (v := (G j (15 + 12 * c + 7))) ((setG_ne (by omega)).trans ((setG_ne (by omega)).trans ((setG_ne (by omega)).trans ((setG_ne (by omega)).trans ((setG_ne (by omega)).trans ((setG_ne (by omega)).trans (setG_ne (by omega)))))))) wf_RX0_33 dX0_takeOver_58 rfl ?_
  refine p_coil_takings (q := 64) hi hc wf_RX0_33 dX0_takeOver_61 rfl ?_
  refine aw_aload_n (q := 65) 0 dX0_takeOver_64 rfl rfl rfl ?_
  refine aw_aload_n (q := 66) 1 dX0_takeOver_65 rfl rfl rfl ?_
  refine g_coil_raises (q := 69) hj hc (v := (G j (15 + 12 * c + 8))) ((setG_ne (by omega)).trans ((setG_ne (by omega)).trans ((setG_ne (by omega)).trans ((setG_ne (by omega)).trans ((setG_ne (by omega)).trans ((setG_ne (by omega)).trans ((setG_ne (by omega)).trans (setG_ne (by omega))))))))) wf_RX0_36 dX0_takeOver_66 rfl ?_
  refine p_coil_raises (q := 72) hi hc wf_RX0_36 dX0_takeOver_69 rfl ?_
  refine aw_aload_n (q := 73) 0 dX0_takeOver_72 rfl rfl rfl ?_
  refine aw_aload_n (q := 74) 1 dX0_takeOver_73 rfl rfl rfl ?_
  refine g_coil_commonRaises (q := 77) hj hc (v := (G j (15 + 12 * c + 9))) ((setG_ne (by omega)).trans ((setG_ne (by omega)).trans ((setG_ne (by omega)).trans ((setG_ne (by omega)).trans ((setG_ne (by omega)).trans ((setG_ne (by omega)).trans ((setG_ne (by omega)).trans ((setG_ne (by omega)).trans (setG_ne (by omega)))))))))) wf_RX0_39 dX0_takeOver_74 rfl ?_
  refine p_coil_commonRaises (q := 80) hi hc wf_RX0_39 dX0_takeOver_77 rfl ?_
  refine aw_aload_n (q := 81) 0 dX0_takeOver_80 rfl rfl rfl ?_
  refine aw_aload_n (q := 82) 1 dX0_takeOver_81 rfl rfl rfl ?_
  refine g_coil_wanted (q := 85) hj hc (v := (G j (15 + 12 * c + 10))) ((setG_ne (by omega)).trans ((setG_ne (by omega)).trans ((setG_ne (by omega)).trans ((setG_ne (by omega)).trans ((setG_ne (by omega)).trans ((setG_ne (by omega)).trans ((setG_ne (by omega)).trans ((setG_ne (by omega)).trans ((setG_ne (by omega)).trans (setG_ne (by omega))))))))))) wf_RX0_42 dX0_takeOver_82 rfl ?_
  refine p_coil_wanted (q := 88) hi hc (v := ((G j (15 + 12 * c + 10)))) rfl wf_RX0_42 dX0_takeOver_85 rfl ?_
  refine aw_aload_n (q := 89) 0 dX0_takeOver_88 rfl rfl rfl ?_
  refine aw_aload_n (q := 90) 1 dX0_takeOver_89 rfl rfl rfl ?_
  refine g_coil_hasRaised (q := 93) hj hc (v := (G j (15 + 12 * c + 11))) ((setG_ne (by omega)).trans ((setG_ne (by omega)).trans ((setG_ne (by omega)).trans ((setG_ne (by omega)).trans ((setG_ne (by omega)).trans ((setG_ne (by omega)).trans ((setG_ne (by omega)).trans ((setG_ne (by omega)).trans ((setG_ne (by omega)).trans ((setG_ne (by omega)).trans (setG_ne (by omega)))))))))))) wf_RX0_46 dX0_takeOver_90 rfl ?_
  refine p_coil_hasRaised (q := 96) hi hc hz wf_RX0_46 dX0_takeOver_93 rfl ?_
  exact rt_v rfl (Nat.le_refl _) (Nat.le_refl _) (by rw [cp12]) dX0_takeOver_96
set_option maxHeartbeats 4000000 in
set_option maxRecDepth 100000 in
theorem c_coil_begin {l : Launch} {D : va_G} {C : Nat → ClassId} {T : Nat → Nat} {ad : Int → Nat} (G : GG) {i c : Int} (hi : 0 ≤ i ∧ i < 6) (hc : 0 ≤ c ∧ c < 8) {a b d : Int} : MC l yX0_begin cX0_begin 4 none 0 0 0 0 D (tyC C) T [.ref (ad (17 * i + 9 + c)), .int (iI a), .int (iI b), .int (iI d)] (cw ad C G) (RV ad C (fun G1 => G1 = coilBegin G i c a b d)) := by
  refine mc_of (by decide +kernel) (Nat.le_of_ble_eq_true rfl) rfl ?_
  refine aw_aload_n (q := 1) 0 dX0_begin_0 rfl rfl rfl ?_
  refine aw_iload_n (q := 2) 1 dX0_begin_1 rfl rfl rfl ?_
  refine p_coil_kind (q := 5) hi hc wf_RX0_9 dX0_begin_2 rfl ?_
  refine aw_aload_n (q := 6) 0 dX0_begin_5 rfl rfl rfl ?_
  refine aw_iconst (q := 7) dX0_begin_6 rfl ?_
  refine p_coil_goods (q := 10) hi hc wf_RX0_15 dX0_begin_7 rfl ?_
  refine aw_aload_n (q := 11) 0 dX0_begin_10 rfl rfl rfl ?_
  refine aw_iload_n (q := 12) 2 dX0_begin_11 rfl rfl rfl ?_
  refine p_coil_price (q := 15) hi hc wf_RX0_18 dX0_begin_12 rfl ?_
  refine aw_aload_n (q := 16) 0 dX0_begin_15 rfl rfl rfl ?_
  refine aw_iload_n (q := 17) 2 dX0_begin_16 rfl rfl rfl ?_
  refine p_coil_lowest (q := 20) hi hc wf_RX0_21 dX0_begin_17 rfl ?_
  refine aw_aload_n (q := 21) 0 dX0_begin_20 rfl rfl rfl ?_
  refine aw_iload_n (q := 22) 3 dX0_begin_21 rfl rfl rfl ?_
  refine p_coil_highest (q := 25) hi hc wf_RX0_24 dX0_begin_22 rfl ?_
  refine aw_aload_n (q := 26) 0 dX0_begin_25 rfl rfl rfl ?_
  refine aw_iconst (q := 27) dX0_begin_26 rfl ?_
  refine p_coil_banned (q := 30) hi hc wf_RX0_27 dX0_begin_27 rfl ?_
  refine aw_aload_n (q := 31) 0 dX0_begin_30 rfl rfl rfl ?_
  refine aw_iconst (q := 32) dX0_begin_31 rfl ?_
  refine p_coil_sales (q := 35) hi hc wf_RX0_30 dX0_begin_32 rfl ?_
  refine aw_aload_n (q := 36) 0 dX0_begin_35 rfl rfl rfl ?_
  refine aw_iconst (q := 37) dX0_begin_36 rfl ?_
  refine p_coil_takings (q := 40) hi hc wf_RX0_33 dX0_begin_37 rfl ?_
  refine aw_aload_n (q := 41) 0 dX0_begin_40 rfl rfl rfl ?_
  refine aw_iconst (q := 42) dX0_begin_41 rfl ?_
  refine p_coil_raises (q := 45) hi hc wf_RX0_36 dX0_begin_42 rfl ?_
  refine aw_aload_n (q := 46) 0 dX0_begin_45 rfl rfl rfl ?_
  refine aw_iconst (q := 47) dX0_begin_46 rfl ?_
  refine p_coil_commonRaises (q := 50) hi hc wf_RX0_39 dX0_begin_47 rfl ?_
  refine aw_aload_n (q := 51) 0 dX0_begin_50 rfl rfl rfl ?_
  refine aw_fconst0 (q := 52) dX0_begin_51 rfl ?_
  refine p_coil_wanted (q := 55) hi hc (v := ((FP.fconst0).toNat : Int)) (fB_nat _) wf_RX0_42 dX0_begin_52 rfl ?_
  refine aw_aload_n (q := 56) 0 dX0_begin_55 rfl rfl rfl ?_
  refine aw_iconst (q := 57) dX0_begin_56 rfl ?_
  refine p_coil_hasRaised (q := 60) hi hc (by first | omega | exact b2i_r _) wf_RX0_46 dX0_begin_57 rfl ?_
  exact rt_v rfl (Nat.le_refl _) (Nat.le_refl _) (by unfold coilBegin; first | rfl | (simp only [Int.add_comm]; rfl)) dX0_begin_60
set_option maxHeartbeats 4000000 in
set_option maxRecDepth 100000 in
theorem c_coil_noteSale {l : Launch} {D : va_G} {C : Nat → ClassId} {T : Nat → Nat} {ad : Int → Nat} (G : GG) {i c : Int} (hi : 0 ≤ i ∧ i < 6) (hc : 0 ≤ c ∧ c < 8) (hw : vf_n32 (FP.fadd (fB (G i (15 + 12 * c + 10))) FP.fconst1)) : MC l yX0_noteSale cX0_noteSale 1 none 0 0 0 0 D (tyC C) T [.ref (ad (17 * i + 9 + c))] (cw ad C G) (RV ad C (fun G1 => G1 = coilSale G i c)) := by
  refine mc_of (by decide +kernel) (Nat.le_of_ble_eq_true rfl) rfl ?_
  refine aw_aload_n (q := 1) 0 dX0_noteSale_0 rfl rfl rfl ?_
  refine aw_dup (q := 2) dX0_noteSale_1 rfl rfl ?_
  refine g_coil_goods (q := 5) hi hc (v := (G i (15 + 12 * c + 1))) rfl wf_RX0_15 dX0_noteSale_2 rfl ?_
  refine aw_iconst (q := 6) dX0_noteSale_5 rfl ?_
  refine ae_isub (q := 7) ((G i (15 + 12 * c + 1)) - 1) (by omega) dX0_noteSale_6 rfl ?_
  refine p_coil_goods (q := 10) hi hc wf_RX0_15 dX0_noteSale_7 rfl ?_
  refine aw_aload_n (q := 11) 0 dX0_noteSale_10 rfl rfl rfl ?_
  refine aw_aload_n (q := 12) 0 dX0_noteSale_11 rfl rfl rfl ?_
  refine g_coil_wanted (q := 15) hi hc (v := (G i (15 + 12 * c + 10))) (setG_ne (by omega)) wf_RX0_42 dX0_noteSale_12 rfl ?_
  refine aw_fconst1 (q := 16) dX0_noteSale_15 rfl ?_
  refine aw_fadd (q := 17) dX0_noteSale_16 rfl hw ?_
  refine p_coil_wanted (q := 20) hi hc (v := ((FP.fadd (fB ((G i (15 + 12 * c + 10)))) (FP.fconst1)).toNat : Int)) (fB_nat _) wf_RX0_42 dX0_noteSale_17 rfl ?_
  refine aw_aload_n (q := 21) 0 dX0_noteSale_20 rfl rfl rfl ?_
  refine aw_dup (q := 22) dX0_noteSale_21 rfl rfl ?_
  refine g_coil_sales (q := 25) hi hc (v := (G i (15 + 12 * c + 6))) ((setG_ne (by omega)).trans (setG_ne (by omega))) wf_RX0_30 dX0_noteSale_22 rfl ?_
  refine aw_iconst (q := 26) dX0_noteSale_25 rfl ?_
  refine ae_iadd (q := 27) ((G i (15 + 12 * c + 6)) + 1) (by omega) dX0_noteSale_26 rfl ?_
  refine p_coil_sales (q := 30) hi hc wf_RX0_30 dX0_noteSale_27 rfl ?_
  refine aw_aload_n (q := 31) 0 dX0_noteSale_30 rfl rfl rfl ?_
  refine aw_dup (q := 32) dX0_noteSale_31 rfl rfl ?_
  refine g_coil_takings (q := 35) hi hc (v := (G i (15 + 12 * c + 7))) ((setG_ne (by omega)).trans ((setG_ne (by omega)).trans (setG_ne (by omega)))) wf_RX0_33 dX0_noteSale_32 rfl ?_
  refine aw_aload_n (q := 36) 0 dX0_noteSale_35 rfl rfl rfl ?_
  refine g_coil_price (q := 39) hi hc (v := (G i (15 + 12 * c + 2))) ((setG_ne (by omega)).trans ((setG_ne (by omega)).trans (setG_ne (by omega)))) wf_RX0_18 dX0_noteSale_36 rfl ?_
  refine ae_iadd (q := 40) ((G i (15 + 12 * c + 7)) + (G i (15 + 12 * c + 2))) (by omega) dX0_noteSale_39 rfl ?_
  refine p_coil_takings (q := 43) hi hc wf_RX0_33 dX0_noteSale_40 rfl ?_
  exact rt_v rfl (Nat.le_refl _) (Nat.le_refl _) (by unfold coilSale; first | rfl | (simp only [Int.add_comm]; rfl)) dX0_noteSale_43
set_option maxHeartbeats 4000000 in
set_option maxRecDepth 100000 in
theorem c_coil_setPrice {l : Launch} {D : va_G} {C : Nat → ClassId} {T : Nat → Nat} {ad : Int → Nat} (G : GG) {i c : Int} (hi : 0 ≤ i ∧ i < 6) (hc : 0 ≤ c ∧ c < 8) {ra fa : Int} (hw : vf_n32 (FP.fmul 1092616192 (fB (G i (15 + 12 * c + 10))))) (hg : (0 ≤ G i (15 + 12 * c + 2) ∧ G i (15 + 12 * c + 2) ≤ 1000) ∧ (0 ≤ G i (15 + 12 * c + 3) ∧ G i (15 + 12 * c + 3) ≤ 1000) ∧ (0 ≤ G i (15 + 12 * c + 4) ∧ G i (15 + 12 * c + 4) ≤ 1000) ∧ (0 ≤ G i (15 + 12 * c + 5) ∧ G i (15 + 12 * c + 5) ≤ 1000)) : MC l yX0_setPrice cX0_setPrice 4 none 0 0 0 0 D (tyC C) T [.ref (ad (17 * i + 9 + c)), .int (iI ra), .int (iI fa)] (cw ad C G) (RV ad C (fun G1 => G1 = coilSet G i c ra fa)) := by
  refine mc_of (by decide +kernel) (Nat.le_of_ble_eq_true rfl) rfl ?_
  refine aw_ldcf (q := 2) dX0_setPrice_0 rfl wk_RX0_50 ?_
  refine aw_aload_n (q := 3) 0 dX0_setPrice_2 rfl rfl rfl ?_
  refine g_coil_wanted (q := 6) hi hc (v := (G i (15 + 12 * c + 10))) rfl wf_RX0_42 dX0_setPrice_3 rfl ?_
  refine aw_fmul (q := 7) dX0_setPrice_6 rfl hw ?_
  refine aw_fstore_n (q := 8) (lv2 := [(0, .ref (ad (17 * i + 9 + c))), (1, .int (iI ra)), (2, .int (iI fa)), (3, .float (FP.fmul 1092616192 (fB ((G i (15 + 12 * c + 10))))))]) [1, 2, 3, 0] dX0_setPrice_7 rfl rfl (by decide) rfl rfl ?_
  refine aw_aload_n (q := 9) 0 dX0_setPrice_8 rfl rfl rfl ?_
  refine aw_fload_n (q := 10) 3 dX0_setPrice_9 rfl rfl rfl ?_
  refine aw_iload_n (q := 11) 1 dX0_setPrice_10 rfl rfl rfl ?_
  refine aw_i2f (q := 12) dX0_setPrice_11 rfl ?_
  refine aw_fcmp (q := 13) dX0_setPrice_12 rfl ?_
  refine aw_ifW_lt (q := 16) dX0_setPrice_13 rfl (t := 38) (by decide) (fun h1 => ?_) (fun h2 => ?_)
  · refine aw_iconst (q := 39) dX0_setPrice_38 rfl ?_
    refine p_coil_hasRaised (q := 42) hi hc (by first | omega | exact b2i_r _) wf_RX0_46 dX0_setPrice_39 rfl ?_
    refine aw_aload_n (q := 43) 0 dX0_setPrice_42 rfl rfl rfl ?_
    refine g_coil_hasRaised (q := 46) hi hc (v := 0) (setG_same _ _ _ _) wf_RX0_46 dX0_setPrice_43 rfl ?_
    refine aw_if_eq (q := 49) dX0_setPrice_46 rfl (t := 72) (by decide) (by omega) (fun _ => ?_) (fun h => absurd h (by omega))
    refine aw_fload_n (q := 73) 3 dX0_setPrice_72 rfl rfl rfl ?_
    refine aw_iload_n (q := 74) 2 dX0_setPrice_73 rfl rfl rfl ?_
    refine aw_i2f (q := 75) dX0_setPrice_74 rfl ?_
    refine aw_fcmp (q := 76) dX0_setPrice_75 rfl ?_
    refine aw_ifW_ge (q := 79) dX0_setPrice_76 rfl (t := 100) (by decide) (fun h3 => ?_) (fun h4 => ?_)
    · exact rt_v rfl (Nat.le_refl _) (Nat.le_refl _) (by unfold coilSet; refine ite_fin (fun z => ?_) (fun z => ite_fin (fun z2 => ?_) (fun z2 => ?_)) <;> first | rfl | (exfalso; first | omega | (exact z ⟨by assumption, by omega, by omega⟩) | (exact z2 ⟨by assumption, by omega⟩) | (have z3 := z.1; contradiction) | (have z3 := z2.1; contradiction) )) dX0_setPrice_100
    · refine aw_aload_n (q := 80) 0 dX0_setPrice_79 rfl rfl rfl ?_
      refine g_coil_price (q := 83) hi hc (v := (G i (15 + 12 * c + 2))) (setG_ne (by omega)) wf_RX0_18 dX0_setPrice_80 rfl ?_
      refine aw_aload_n (q := 84) 0 dX0_setPrice_83 rfl rfl rfl ?_
      refine g_coil_lowest (q := 87) hi hc (v := (G i (15 + 12 * c + 3))) (setG_ne (by omega)) wf_RX0_21 dX0_setPrice_84 rfl ?_
      refine aw_icmp_le (q := 90) dX0_setPrice_87 rfl (t := 100) (by decide) (by omega) (by omega) (fun h5 => ?_) (fun h6 => ?_)
      · exact rt_v rfl (Nat.le_refl _) (Nat.le_refl _) (by unfold coilSet; refine ite_fin (fun z => ?_) (fun z => ite_fin (fun z2 => ?_) (fun z2 => ?_)) <;> first | rfl | (exfalso; first | omega | (exact z ⟨by assumption, by omega, by omega⟩) | (exact z2 ⟨by assumption, by omega⟩) | (have z3 := z.1; contradiction) | (have z3 := z2.1; contradiction) )) dX0_setPrice_100
      · refine aw_aload_n (q := 91) 0 dX0_setPrice_90 rfl rfl rfl ?_
        refine aw_dup (q := 92) dX0_setPrice_91 rfl rfl ?_
        refine g_coil_price (q := 95) hi hc (v := (G i (15 + 12 * c + 2))) (setG_ne (by omega)) wf_RX0_18 dX0_setPrice_92 rfl ?_
        refine aw_iconst (q := 96) dX0_setPrice_95 rfl ?_
        refine ae_isub (q := 97) ((G i (15 + 12 * c + 2)) - 5) (by omega) dX0_setPrice_96 rfl ?_
        refine p_coil_price (q := 100) hi hc wf_RX0_18 dX0_setPrice_97 rfl ?_
        exact rt_v rfl (Nat.le_refl _) (Nat.le_refl _) (by unfold coilSet; refine ite_fin (fun z => ?_) (fun z => ite_fin (fun z2 => ?_) (fun z2 => ?_)) <;> first | rfl | (exfalso; first | omega | (exact z ⟨by assumption, by omega, by omega⟩) | (exact z2 ⟨by assumption, by omega⟩) | (have z3 := z.1; contradiction) | (have z3 := z2.1; contradiction) )) dX0_setPrice_100
  · refine aw_aload_n (q := 17) 0 dX0_setPrice_16 rfl rfl rfl ?_
    refine g_coil_banned (q := 20) hi hc (v := (G i (15 + 12 * c + 5))) rfl wf_RX0_27 dX0_setPrice_17 rfl ?_
    refine aw_if_ne (q := 23) dX0_setPrice_20 rfl (t := 38) (by decide) (by omega) (fun h7 => ?_) (fun h8 => ?_)
    · refine aw_iconst (q := 39) dX0_setPrice_38 rfl ?_
      refine p_coil_hasRaised (q := 42) hi hc (by first | omega | exact b2i_r _) wf_RX0_46 dX0_setPrice_39 rfl ?_
      refine aw_aload_n (q := 43) 0 dX0_setPrice_42 rfl rfl rfl ?_
      refine g_coil_hasRaised (q := 46) hi hc (v := 0) (setG_same _ _ _ _) wf_RX0_46 dX0_setPrice_43 rfl ?_
      refine aw_if_eq (q := 49) dX0_setPrice_46 rfl (t := 72) (by decide) (by omega) (fun _ => ?_) (fun h => absurd h (by omega))
      refine aw_fload_n (q := 73) 3 dX0_setPrice_72 rfl rfl rfl ?_
      refine aw_iload_n (q := 74) 2 dX0_setPrice_73 rfl rfl rfl ?_
      refine aw_i2f (q := 75) dX0_setPrice_74 rfl ?_
      refine aw_fcmp (q := 76) dX0_setPrice_75 rfl ?_
      refine aw_ifW_ge (q := 79) dX0_setPrice_76 rfl (t := 100) (by decide) (fun h9 => ?_) (fun h10 => ?_)
      · exact rt_v rfl (Nat.le_refl _) (Nat.le_refl _) (by unfold coilSet; refine ite_fin (fun z => ?_) (fun z => ite_fin (fun z2 => ?_) (fun z2 => ?_)) <;> first | rfl | (exfalso; first | omega | (exact z ⟨by assumption, by omega, by omega⟩) | (exact z2 ⟨by assumption, by omega⟩) | (have z3 := z.1; contradiction) | (have z3 := z2.1; contradiction) )) dX0_setPrice_100
      · refine aw_aload_n (q := 80) 0 dX0_setPrice_79 rfl rfl rfl ?_
        refine g_coil_price (q := 83) hi hc (v := (G i (15 + 12 * c + 2))) (setG_ne (by omega)) wf_RX0_18 dX0_setPrice_80 rfl ?_
        refine aw_aload_n (q := 84) 0 dX0_setPrice_83 rfl rfl rfl ?_
        refine g_coil_lowest (q := 87) hi hc (v := (G i (15 + 12 * c + 3))) (setG_ne (by omega)) wf_RX0_21 dX0_setPrice_84 rfl ?_
        refine aw_icmp_le (q := 90) dX0_setPrice_87 rfl (t := 100) (by decide) (by omega) (by omega) (fun h11 => ?_) (fun h12 => ?_)
        · exact rt_v rfl (Nat.le_refl _) (Nat.le_refl _) (by unfold coilSet; refine ite_fin (fun z => ?_) (fun z => ite_fin (fun z2 => ?_) (fun z2 => ?_)) <;> first | rfl | (exfalso; first | omega | (exact z ⟨by assumption, by omega, by omega⟩) | (exact z2 ⟨by assumption, by omega⟩) | (have z3 := z.1; contradiction) | (have z3 := z2.1; contradiction) )) dX0_setPrice_100
        · refine aw_aload_n (q := 91) 0 dX0_setPrice_90 rfl rfl rfl ?_
          refine aw_dup (q := 92) dX0_setPrice_91 rfl rfl ?_
          refine g_coil_price (q := 95) hi hc (v := (G i (15 + 12 * c + 2))) (setG_ne (by omega)) wf_RX0_18 dX0_setPrice_92 rfl ?_
          refine aw_iconst (q := 96) dX0_setPrice_95 rfl ?_
          refine ae_isub (q := 97) ((G i (15 + 12 * c + 2)) - 5) (by omega) dX0_setPrice_96 rfl ?_
          refine p_coil_price (q := 100) hi hc wf_RX0_18 dX0_setPrice_97 rfl ?_
          exact rt_v rfl (Nat.le_refl _) (Nat.le_refl _) (by unfold coilSet; refine ite_fin (fun z => ?_) (fun z => ite_fin (fun z2 => ?_) (fun z2 => ?_)) <;> first | rfl | (exfalso; first | omega | (exact z ⟨by assumption, by omega, by omega⟩) | (exact z2 ⟨by assumption, by omega⟩) | (have z3 := z.1; contradiction) | (have z3 := z2.1; contradiction) )) dX0_setPrice_100
    · refine aw_aload_n (q := 24) 0 dX0_setPrice_23 rfl rfl rfl ?_
      refine g_coil_price (q := 27) hi hc (v := (G i (15 + 12 * c + 2))) rfl wf_RX0_18 dX0_setPrice_24 rfl ?_
      refine aw_aload_n (q := 28) 0 dX0_setPrice_27 rfl rfl rfl ?_
      refine g_coil_highest (q := 31) hi hc (v := (G i (15 + 12 * c + 4))) rfl wf_RX0_24 dX0_setPrice_28 rfl ?_
      refine aw_icmp_ge (q := 34) dX0_setPrice_31 rfl (t := 38) (by decide) (by omega) (by omega) (fun h13 => ?_) (fun h14 => ?_)
      · refine aw_iconst (q := 39) dX0_setPrice_38 rfl ?_
        refine p_coil_hasRaised (q := 42) hi hc (by first | omega | exact b2i_r _) wf_RX0_46 dX0_setPrice_39 rfl ?_
        refine aw_aload_n (q := 43) 0 dX0_setPrice_42 rfl rfl rfl ?_
        refine g_coil_hasRaised (q := 46) hi hc (v := 0) (setG_same _ _ _ _) wf_RX0_46 dX0_setPrice_43 rfl ?_
        refine aw_if_eq (q := 49) dX0_setPrice_46 rfl (t := 72) (by decide) (by omega) (fun _ => ?_) (fun h => absurd h (by omega))
        refine aw_fload_n (q := 73) 3 dX0_setPrice_72 rfl rfl rfl ?_
        refine aw_iload_n (q := 74) 2 dX0_setPrice_73 rfl rfl rfl ?_
        refine aw_i2f (q := 75) dX0_setPrice_74 rfl ?_
        refine aw_fcmp (q := 76) dX0_setPrice_75 rfl ?_
        refine aw_ifW_ge (q := 79) dX0_setPrice_76 rfl (t := 100) (by decide) (fun h15 => ?_) (fun h16 => ?_)
        · exact rt_v rfl (Nat.le_refl _) (Nat.le_refl _) (by unfold coilSet; refine ite_fin (fun z => ?_) (fun z => ite_fin (fun z2 => ?_) (fun z2 => ?_)) <;> first | rfl | (exfalso; first | omega | (exact z ⟨by assumption, by omega, by omega⟩) | (exact z2 ⟨by assumption, by omega⟩) | (have z3 := z.1; contradiction) | (have z3 := z2.1; contradiction) )) dX0_setPrice_100
        · refine aw_aload_n (q := 80) 0 dX0_setPrice_79 rfl rfl rfl ?_
          refine g_coil_price (q := 83) hi hc (v := (G i (15 + 12 * c + 2))) (setG_ne (by omega)) wf_RX0_18 dX0_setPrice_80 rfl ?_
          refine aw_aload_n (q := 84) 0 dX0_setPrice_83 rfl rfl rfl ?_
          refine g_coil_lowest (q := 87) hi hc (v := (G i (15 + 12 * c + 3))) (setG_ne (by omega)) wf_RX0_21 dX0_setPrice_84 rfl ?_
          refine aw_icmp_le (q := 90) dX0_setPrice_87 rfl (t := 100) (by decide) (by omega) (by omega) (fun h17 => ?_) (fun h18 => ?_)
          · exact rt_v rfl (Nat.le_refl _) (Nat.le_refl _) (by unfold coilSet; refine ite_fin (fun z => ?_) (fun z => ite_fin (fun z2 => ?_) (fun z2 => ?_)) <;> first | rfl | (exfalso; first | omega | (exact z ⟨by assumption, by omega, by omega⟩) | (exact z2 ⟨by assumption, by omega⟩) | (have z3 := z.1; contradiction) | (have z3 := z2.1; contradiction) )) dX0_setPrice_100
          · refine aw_aload_n (q := 91) 0 dX0_setPrice_90 rfl rfl rfl ?_
            refine aw_dup (q := 92) dX0_setPrice_91 rfl rfl ?_
            refine g_coil_price (q := 95) hi hc (v := (G i (15 + 12 * c + 2))) (setG_ne (by omega)) wf_RX0_18 dX0_setPrice_92 rfl ?_
            refine aw_iconst (q := 96) dX0_setPrice_95 rfl ?_
            refine ae_isub (q := 97) ((G i (15 + 12 * c + 2)) - 5) (by omega) dX0_setPrice_96 rfl ?_
            refine p_coil_price (q := 100) hi hc wf_RX0_18 dX0_setPrice_97 rfl ?_
            exact rt_v rfl (Nat.le_refl _) (Nat.le_refl _) (by unfold coilSet; refine ite_fin (fun z => ?_) (fun z => ite_fin (fun z2 => ?_) (fun z2 => ?_)) <;> first | rfl | (exfalso; first | omega | (exact z ⟨by assumption, by omega, by omega⟩) | (exact z2 ⟨by assumption, by omega⟩) | (have z3 := z.1; contradiction) | (have z3 := z2.1; contradiction) )) dX0_setPrice_100
      · refine aw_iconst (q := 35) dX0_setPrice_34 rfl ?_
        refine aw_goto (q := 39) dX0_setPrice_35 (by decide) ?_
        refine p_coil_hasRaised (q := 42) hi hc (by first | omega | exact b2i_r _) wf_RX0_46 dX0_setPrice_39 rfl ?_
        refine aw_aload_n (q := 43) 0 dX0_setPrice_42 rfl rfl rfl ?_
        refine g_coil_hasRaised (q := 46) hi hc (v := 1) (setG_same _ _ _ _) wf_RX0_46 dX0_setPrice_43 rfl ?_
        refine aw_if_eq (q := 49) dX0_setPrice_46 rfl (t := 72) (by decide) (by omega) (fun h => absurd h (by omega)) (fun _ => ?_)
        refine aw_aload_n (q := 50) 0 dX0_setPrice_49 rfl rfl rfl ?_
        refine aw_dup (q := 51) dX0_setPrice_50 rfl rfl ?_
        refine g_coil_price (q := 54) hi hc (v := (G i (15 + 12 * c + 2))) (setG_ne (by omega)) wf_RX0_18 dX0_setPrice_51 rfl ?_
        refine aw_iconst (q := 55) dX0_setPrice_54 rfl ?_
        refine ae_iadd (q := 56) ((G i (15 + 12 * c + 2)) + 5) (by omega) dX0_setPrice_55 rfl ?_
        refine p_coil_price (q := 59) hi hc wf_RX0_18 dX0_setPrice_56 rfl ?_
        refine aw_aload_n (q := 60) 0 dX0_setPrice_59 rfl rfl rfl ?_
        refine aw_dup (q := 61) dX0_setPrice_60 rfl rfl ?_
        refine g_coil_raises (q := 64) hi hc (v := (G i (15 + 12 * c + 8))) ((setG_ne (by omega)).trans (setG_ne (by omega))) wf_RX0_36 dX0_setPrice_61 rfl ?_
        refine aw_iconst (q := 65) dX0_setPrice_64 rfl ?_
        refine ae_iadd (q := 66) ((G i (15 + 12 * c + 8)) + 1) (by omega) dX0_setPrice_65 rfl ?_
        refine p_coil_raises (q := 69) hi hc wf_RX0_36 dX0_setPrice_66 rfl ?_
        refine aw_goto (q := 100) dX0_setPrice_69 (by decide) ?_
        exact rt_v rfl (Nat.le_refl _) (Nat.le_refl _) (by unfold coilSet; refine ite_fin (fun z => ?_) (fun z => ite_fin (fun z2 => ?_) (fun z2 => ?_)) <;> first | rfl | (exfalso; first | omega | (exact z ⟨by assumption, by omega, by omega⟩) | (exact z2 ⟨by assumption, by omega⟩) | (have z3 := z.1; contradiction) | (have z3 := z2.1; contradiction) )) dX0_setPrice_100
set_option maxHeartbeats 4000000 in
set_option maxRecDepth 100000 in
theorem c_coil_shortenBan {l : Launch} {D : va_G} {C : Nat → ClassId} {T : Nat → Nat} {ad : Int → Nat} (G : GG) {i c : Int} (hi : 0 ≤ i ∧ i < 6) (hc : 0 ≤ c ∧ c < 8) (hg : (0 ≤ G i (15 + 12 * c + 2) ∧ G i (15 + 12 * c + 2) ≤ 1000) ∧ (0 ≤ G i (15 + 12 * c + 3) ∧ G i (15 + 12 * c + 3) ≤ 1000) ∧ (0 ≤ G i (15 + 12 * c + 4) ∧ G i (15 + 12 * c + 4) ≤ 1000) ∧ (0 ≤ G i (15 + 12 * c + 5) ∧ G i (15 + 12 * c + 5) ≤ 1000)) : MC l yX0_shortenBan cX0_shortenBan 1 none 0 0 0 0 D (tyC C) T [.ref (ad (17 * i + 9 + c))] (cw ad C G) (RV ad C (fun G1 => G1 = coilBan G i c)) := by
  refine mc_of (by decide +kernel) (Nat.le_of_ble_eq_true rfl) rfl ?_
  refine aw_aload_n (q := 1) 0 dX0_shortenBan_0 rfl rfl rfl ?_
  refine g_coil_banned (q := 4) hi hc (v := (G i (15 + 12 * c + 5))) rfl wf_RX0_27 dX0_shortenBan_1 rfl ?_
  refine aw_if_le (q := 7) dX0_shortenBan_4 rfl (t := 17) (by decide) (by omega) (fun h1 => ?_) (fun h2 => ?_)
  · exact rt_v rfl (Nat.le_refl _) (Nat.le_refl _) (by unfold coilBan; refine ite_fin (fun z => ?_) (fun z => ?_) <;> first | rfl | omega) dX0_shortenBan_17
  · refine aw_aload_n (q := 8) 0 dX0_shortenBan_7 rfl rfl rfl ?_
    refine aw_dup (q := 9) dX0_shortenBan_8 rfl rfl ?_
    refine g_coil_banned (q := 12) hi hc (v := (G i (15 + 12 * c + 5))) rfl wf_RX0_27 dX0_shortenBan_9 rfl ?_
    refine aw_iconst (q := 13) dX0_shortenBan_12 rfl ?_
    refine ae_isub (q := 14) ((G i (15 + 12 * c + 5)) - 1) (by omega) dX0_shortenBan_13 rfl ?_
    refine p_coil_banned (q := 17) hi hc wf_RX0_27 dX0_shortenBan_14 rfl ?_
    exact rt_v rfl (Nat.le_refl _) (Nat.le_refl _) (by unfold coilBan; refine ite_fin (fun z => ?_) (fun z => ?_) <;> first | rfl | omega) dX0_shortenBan_17
set_option maxHeartbeats 4000000 in
set_option maxRecDepth 100000 in
theorem c_coil_payFine {l : Launch} {D : va_G} {C : Nat → ClassId} {T : Nat → Nat} {ad : Int → Nat} (G : GG) {i c : Int} (hi : 0 ≤ i ∧ i < 6) (hc : 0 ≤ c ∧ c < 8) {fi : Int} (hf : 0 ≤ fi ∧ fi ≤ 1000) (hg : (0 ≤ G i (15 + 12 * c + 2) ∧ G i (15 + 12 * c + 2) ≤ 1000) ∧ (0 ≤ G i (15 + 12 * c + 3) ∧ G i (15 + 12 * c + 3) ≤ 1000) ∧ (0 ≤ G i (15 + 12 * c + 4) ∧ G i (15 + 12 * c + 4) ≤ 1000) ∧ (0 ≤ G i (15 + 12 * c + 5) ∧ G i (15 + 12 * c + 5) ≤ 1000)) : MC l yX0_payFine cX0_payFine 2 none 1 36 0 0 D (tyC C) T [.ref (ad (17 * i + 9 + c)), .int (iI fi)] (cw ad C G) (RV ad C (fun G1 => G1 = coilFine G i c fi)) := by
  refine mc_of (by decide +kernel) (Nat.le_of_ble_eq_true rfl) rfl ?_
  refine aw_aload_n (q := 1) 0 dX0_payFine_0 rfl rfl rfl ?_
  refine aw_aload_n (q := 2) 0 dX0_payFine_1 rfl rfl rfl ?_
  refine g_coil_lowest (q := 5) hi hc (v := (G i (15 + 12 * c + 3))) rfl wf_RX0_21 dX0_payFine_2 rfl ?_
  refine aw_aload_n (q := 6) 0 dX0_payFine_5 rfl rfl rfl ?_
  refine g_coil_price (q := 9) hi hc (v := (G i (15 + 12 * c + 2))) rfl wf_RX0_18 dX0_payFine_6 rfl ?_
  refine aw_iload_n (q := 10) 1 dX0_payFine_9 rfl rfl rfl ?_
  refine ae_isub (q := 11) ((G i (15 + 12 * c + 2)) - fi) (by omega) dX0_payFine_10 rfl ?_
  obtain ⟨m1, hm1⟩ : ∃ z, max ((G i (15 + 12 * c + 3))) ((G i (15 + 12 * c + 2)) - fi) = z := ⟨_, rfl⟩
  refine ae_max (q := 14) m1 hm1 wm_RX0_51 wMmax_s wMath_i wMmax_c (Nat.le_of_ble_eq_true rfl) (Nat.le_of_ble_eq_true rfl) (Nat.le_of_ble_eq_true rfl) (Nat.le_of_ble_eq_true rfl) (by omega) (by omega) dX0_payFine_11 rfl ?_
  refine p_coil_price (q := 17) hi hc wf_RX0_18 dX0_payFine_14 rfl ?_
  refine aw_aload_n (q := 18) 0 dX0_payFine_17 rfl rfl rfl ?_
  refine aw_iconst (q := 19) dX0_payFine_18 rfl ?_
  refine p_coil_banned (q := 22) hi hc wf_RX0_27 dX0_payFine_19 rfl ?_
  exact rt_v rfl (Nat.le_refl _) (Nat.le_refl _) (by subst hm1; rfl) dX0_payFine_22
set_option maxHeartbeats 4000000 in
set_option maxRecDepth 100000 in
theorem c_coil_fade {l : Launch} {D : va_G} {C : Nat → ClassId} {T : Nat → Nat} {ad : Int → Nat} (G : GG) {i c : Int} (hi : 0 ≤ i ∧ i < 6) (hc : 0 ≤ c ∧ c < 8) {p : Int} (hw : vf_n32 (FP.fmul (fB (G i (15 + 12 * c + 10))) (FP.i2f (iI p)))) (hw2 : vf_n32 (FP.fdiv (FP.fmul (fB (G i (15 + 12 * c + 10))) (FP.i2f (iI p))) 1120403456)) : MC l yX0_fade cX0_fade 2 none 0 0 0 0 D (tyC C) T [.ref (ad (17 * i + 9 + c)), .int (iI p)] (cw ad C G) (RV ad C (fun G1 => G1 = coilFade G i c p)) := by
  refine mc_of (by decide +kernel) (Nat.le_of_ble_eq_true rfl) rfl ?_
  refine aw_aload_n (q := 1) 0 dX0_fade_0 rfl rfl rfl ?_
  refine aw_aload_n (q := 2) 0 dX0_fade_1 rfl rfl rfl ?_
  refine g_coil_wanted (q := 5) hi hc (v := (G i (15 + 12 * c + 10))) rfl wf_RX0_42 dX0_fade_2 rfl ?_
  refine aw_iload_n (q := 6) 1 dX0_fade_5 rfl rfl rfl ?_
  refine aw_i2f (q := 7) dX0_fade_6 rfl ?_
  refine aw_fmul (q := 8) dX0_fade_7 rfl hw ?_
  refine aw_ldcf (q := 10) dX0_fade_8 rfl wk_RX0_57 ?_
  refine aw_fdiv (q := 11) dX0_fade_10 rfl hw2 ?_
  refine p_coil_wanted (q := 14) hi hc (v := ((FP.fdiv (FP.fmul (fB ((G i (15 + 12 * c + 10)))) (FP.i2f (iI p))) 1120403456).toNat : Int)) (fB_nat _) wf_RX0_42 dX0_fade_11 rfl ?_
  exact rt_v rfl (Nat.le_refl _) (Nat.le_refl _) (rfl) dX0_fade_14
set_option maxHeartbeats 4000000 in
set_option maxRecDepth 100000 in
theorem c_coil_fact0 {l : Launch} {D : va_G} {C : Nat → ClassId} {T : Nat → Nat} {ad : Int → Nat} (G : GG) {i c : Int} (hi : 0 ≤ i ∧ i < 6) (hc : 0 ≤ c ∧ c < 8) : MC l yX0_fact cX0_fact 2 (some .int) 0 0 0 0 D (tyC C) T [.ref (ad (17 * i + 9 + c)), .int (iI 0)] (cw ad C G) (RI ad C (fun r G1 => r = G i (15 + 12 * c + 0) ∧ G1 = G)) := by
  refine mc_of (by decide +kernel) (Nat.le_of_ble_eq_true rfl) rfl ?_
  refine aw_iload_n (q := 1) 1 dX0_fact_0 rfl rfl rfl ?_
  refine ae_tab 51 (t := 52) (by omega) dX0_fact_1 (by decide) (by decide) rfl (by decide) ?_
  refine aw_aload_n (q := 53) 0 dX0_fact_52 rfl rfl rfl ?_
  refine g_coil_kind (q := 56) hi hc (v := (G i (15 + 12 * c))) rfl wf_RX0_9 dX0_fact_53 rfl ?_
  exact rt_i rfl (Nat.le_refl _) (Nat.le_refl _) (⟨by first | rfl | (rw [Int.add_zero]), rfl⟩) dX0_fact_56
set_option maxHeartbeats 4000000 in
set_option maxRecDepth 100000 in
theorem c_coil_fact1 {l : Launch} {D : va_G} {C : Nat → ClassId} {T : Nat → Nat} {ad : Int → Nat} (G : GG) {i c : Int} (hi : 0 ≤ i ∧ i < 6) (hc : 0 ≤ c ∧ c < 8) : MC l yX0_fact cX0_fact 2 (some .int) 0 0 0 0 D (tyC C) T [.ref (ad (17 * i + 9 + c)), .int (iI 1)] (cw ad C G) (RI ad C (fun r G1 => r = G i (15 + 12 * c + 1) ∧ G1 = G)) := by
  refine mc_of (by decide +kernel) (Nat.le_of_ble_eq_true rfl) rfl ?_
  refine aw_iload_n (q := 1) 1 dX0_fact_0 rfl rfl rfl ?_
  refine ae_tab 56 (t := 57) (by omega) dX0_fact_1 (by decide) (by decide) rfl (by decide) ?_
  refine aw_aload_n (q := 58) 0 dX0_fact_57 rfl rfl rfl ?_
  refine g_coil_goods (q := 61) hi hc (v := (G i (15 + 12 * c + 1))) rfl wf_RX0_15 dX0_fact_58 rfl ?_
  exact rt_i rfl (Nat.le_refl _) (Nat.le_refl _) (⟨by first | rfl | (rw [Int.add_zero]), rfl⟩) dX0_fact_61
set_option maxHeartbeats 4000000 in
set_option maxRecDepth 100000 in
theorem c_coil_fact2 {l : Launch} {D : va_G} {C : Nat → ClassId} {T : Nat → Nat} {ad : Int → Nat} (G : GG) {i c : Int} (hi : 0 ≤ i ∧ i < 6) (hc : 0 ≤ c ∧ c < 8) : MC l yX0_fact cX0_fact 2 (some .int) 0 0 0 0 D (tyC C) T [.ref (ad (17 * i + 9 + c)), .int (iI 2)] (cw ad C G) (RI ad C (fun r G1 => r = G i (15 + 12 * c + 2) ∧ G1 = G)) := by
  refine mc_of (by decide +kernel) (Nat.le_of_ble_eq_true rfl) rfl ?_
  refine aw_iload_n (q := 1) 1 dX0_fact_0 rfl rfl rfl ?_
  refine ae_tab 61 (t := 62) (by omega) dX0_fact_1 (by decide) (by decide) rfl (by decide) ?_
  refine aw_aload_n (q := 63) 0 dX0_fact_62 rfl rfl rfl ?_
  refine g_coil_price (q := 66) hi hc (v := (G i (15 + 12 * c + 2))) rfl wf_RX0_18 dX0_fact_63 rfl ?_
  exact rt_i rfl (Nat.le_refl _) (Nat.le_refl _) (⟨by first | rfl | (rw [Int.add_zero]), rfl⟩) dX0_fact_66
set_option maxHeartbeats 4000000 in
set_option maxRecDepth 100000 in
theorem c_coil_fact3 {l : Launch} {D : va_G} {C : Nat → ClassId} {T : Nat → Nat} {ad : Int → Nat} (G : GG) {i c : Int} (hi : 0 ≤ i ∧ i < 6) (hc : 0 ≤ c ∧ c < 8) : MC l yX0_fact cX0_fact 2 (some .int) 0 0 0 0 D (tyC C) T [.ref (ad (17 * i + 9 + c)), .int (iI 3)] (cw ad C G) (RI ad C (fun r G1 => r = G i (15 + 12 * c + 3) ∧ G1 = G)) := by
  refine mc_of (by decide +kernel) (Nat.le_of_ble_eq_true rfl) rfl ?_
  refine aw_iload_n (q := 1) 1 dX0_fact_0 rfl rfl rfl ?_
  refine ae_tab 66 (t := 67) (by omega) dX0_fact_1 (by decide) (by decide) rfl (by decide) ?_
  refine aw_aload_n (q := 68) 0 dX0_fact_67 rfl rfl rfl ?_
  refine g_coil_lowest (q := 71) hi hc (v := (G i (15 + 12 * c + 3))) rfl wf_RX0_21 dX0_fact_68 rfl ?_
  exact rt_i rfl (Nat.le_refl _) (Nat.le_refl _) (⟨by first | rfl | (rw [Int.add_zero]), rfl⟩) dX0_fact_71
set_option maxHeartbeats 4000000 in
set_option maxRecDepth 100000 in
theorem c_coil_fact4 {l : Launch} {D : va_G} {C : Nat → ClassId} {T : Nat → Nat} {ad : Int → Nat} (G : GG) {i c : Int} (hi : 0 ≤ i ∧ i < 6) (hc : 0 ≤ c ∧ c < 8) : MC l yX0_fact cX0_fact 2 (some .int) 0 0 0 0 D (tyC C) T [.ref (ad (17 * i + 9 + c)), .int (iI 4)] (cw ad C G) (RI ad C (fun r G1 => r = G i (15 + 12 * c + 4) ∧ G1 = G)) := by
  refine mc_of (by decide +kernel) (Nat.le_of_ble_eq_true rfl) rfl ?_
  refine aw_iload_n (q := 1) 1 dX0_fact_0 rfl rfl rfl ?_
  refine ae_tab 71 (t := 72) (by omega) dX0_fact_1 (by decide) (by decide) rfl (by decide) ?_
  refine aw_aload_n (q := 73) 0 dX0_fact_72 rfl rfl rfl ?_
  refine g_coil_highest (q := 76) hi hc (v := (G i (15 + 12 * c + 4))) rfl wf_RX0_24 dX0_fact_73 rfl ?_
  exact rt_i rfl (Nat.le_refl _) (Nat.le_refl _) (⟨by first | rfl | (rw [Int.add_zero]), rfl⟩) dX0_fact_76
set_option maxHeartbeats 4000000 in
set_option maxRecDepth 100000 in
theorem c_coil_fact5 {l : Launch} {D : va_G} {C : Nat → ClassId} {T : Nat → Nat} {ad : Int → Nat} (G : GG) {i c : Int} (hi : 0 ≤ i ∧ i < 6) (hc : 0 ≤ c ∧ c < 8) : MC l yX0_fact cX0_fact 2 (some .int) 0 0 0 0 D (tyC C) T [.ref (ad (17 * i + 9 + c)), .int (iI 5)] (cw ad C G) (RI ad C (fun r G1 => r = G i (15 + 12 * c + 5) ∧ G1 = G)) := by
  refine mc_of (by decide +kernel) (Nat.le_of_ble_eq_true rfl) rfl ?_
  refine aw_iload_n (q := 1) 1 dX0_fact_0 rfl rfl rfl ?_
  refine ae_tab 76 (t := 77) (by omega) dX0_fact_1 (by decide) (by decide) rfl (by decide) ?_
  refine aw_aload_n (q := 78) 0 dX0_fact_77 rfl rfl rfl ?_
  refine g_coil_banned (q := 81) hi hc (v := (G i (15 + 12 * c + 5))) rfl wf_RX0_27 dX0_fact_78 rfl ?_
  exact rt_i rfl (Nat.le_refl _) (Nat.le_refl _) (⟨by first | rfl | (rw [Int.add_zero]), rfl⟩) dX0_fact_81
set_option maxHeartbeats 4000000 in
set_option maxRecDepth 100000 in
theorem c_coil_fact6 {l : Launch} {D : va_G} {C : Nat → ClassId} {T : Nat → Nat} {ad : Int → Nat} (G : GG) {i c : Int} (hi : 0 ≤ i ∧ i < 6) (hc : 0 ≤ c ∧ c < 8) : MC l yX0_fact cX0_fact 2 (some .int) 0 0 0 0 D (tyC C) T [.ref (ad (17 * i + 9 + c)), .int (iI 6)] (cw ad C G) (RI ad C (fun r G1 => r = G i (15 + 12 * c + 6) ∧ G1 = G)) := by
  refine mc_of (by decide +kernel) (Nat.le_of_ble_eq_true rfl) rfl ?_
  refine aw_iload_n (q := 1) 1 dX0_fact_0 rfl rfl rfl ?_
  refine ae_tab 81 (t := 82) (by omega) dX0_fact_1 (by decide) (by decide) rfl (by decide) ?_
  refine aw_aload_n (q := 83) 0 dX0_fact_82 rfl rfl rfl ?_
  refine g_coil_sales (q := 86) hi hc (v := (G i (15 + 12 * c + 6))) rfl wf_RX0_30 dX0_fact_83 rfl ?_
  exact rt_i rfl (Nat.le_refl _) (Nat.le_refl _) (⟨by first | rfl | (rw [Int.add_zero]), rfl⟩) dX0_fact_86
set_option maxHeartbeats 4000000 in
set_option maxRecDepth 100000 in
theorem c_coil_fact7 {l : Launch} {D : va_G} {C : Nat → ClassId} {T : Nat → Nat} {ad : Int → Nat} (G : GG) {i c : Int} (hi : 0 ≤ i ∧ i < 6) (hc : 0 ≤ c ∧ c < 8) : MC l yX0_fact cX0_fact 2 (some .int) 0 0 0 0 D (tyC C) T [.ref (ad (17 * i + 9 + c)), .int (iI 7)] (cw ad C G) (RI ad C (fun r G1 => r = G i (15 + 12 * c + 7) ∧ G1 = G)) := by
  refine mc_of (by decide +kernel) (Nat.le_of_ble_eq_true rfl) rfl ?_
  refine aw_iload_n (q := 1) 1 dX0_fact_0 rfl rfl rfl ?_
  refine ae_tab 86 (t := 87) (by omega) dX0_fact_1 (by decide) (by decide) rfl (by decide) ?_
  refine aw_aload_n (q := 88) 0 dX0_fact_87 rfl rfl rfl ?_
  refine g_coil_takings (q := 91) hi hc (v := (G i (15 + 12 * c + 7))) rfl wf_RX0_33 dX0_fact_88 rfl ?_
  exact rt_i rfl (Nat.le_refl _) (Nat.le_refl _) (⟨by first | rfl | (rw [Int.add_zero]), rfl⟩) dX0_fact_91
set_option maxHeartbeats 4000000 in
set_option maxRecDepth 100000 in
theorem c_coil_fact8 {l : Launch} {D : va_G} {C : Nat → ClassId} {T : Nat → Nat} {ad : Int → Nat} (G : GG) {i c : Int} (hi : 0 ≤ i ∧ i < 6) (hc : 0 ≤ c ∧ c < 8) : MC l yX0_fact cX0_fact 2 (some .int) 0 0 0 0 D (tyC C) T [.ref (ad (17 * i + 9 + c)), .int (iI 8)] (cw ad C G) (RI ad C (fun r G1 => r = G i (15 + 12 * c + 8) ∧ G1 = G)) := by
  refine mc_of (by decide +kernel) (Nat.le_of_ble_eq_true rfl) rfl ?_
  refine aw_iload_n (q := 1) 1 dX0_fact_0 rfl rfl rfl ?_
  refine ae_tab 91 (t := 92) (by omega) dX0_fact_1 (by decide) (by decide) rfl (by decide) ?_
  refine aw_aload_n (q := 93) 0 dX0_fact_92 rfl rfl rfl ?_
  refine g_coil_raises (q := 96) hi hc (v := (G i (15 + 12 * c + 8))) rfl wf_RX0_36 dX0_fact_93 rfl ?_
  exact rt_i rfl (Nat.le_refl _) (Nat.le_refl _) (⟨by first | rfl | (rw [Int.add_zero]), rfl⟩) dX0_fact_96
set_option maxHeartbeats 4000000 in
set_option maxRecDepth 100000 in
theorem c_coil_fact9 {l : Launch} {D : va_G} {C : Nat → ClassId} {T : Nat → Nat} {ad : Int → Nat} (G : GG) {i c : Int} (hi : 0 ≤ i ∧ i < 6) (hc : 0 ≤ c ∧ c < 8) : MC l yX0_fact cX0_fact 2 (some .int) 0 0 0 0 D (tyC C) T [.ref (ad (17 * i + 9 + c)), .int (iI 9)] (cw ad C G) (RI ad C (fun r G1 => r = G i (15 + 12 * c + 9) ∧ G1 = G)) := by
  refine mc_of (by decide +kernel) (Nat.le_of_ble_eq_true rfl) rfl ?_
  refine aw_iload_n (q := 1) 1 dX0_fact_0 rfl rfl rfl ?_
  refine ae_tabD (t := 97) (by omega) dX0_fact_1 (by decide) (by decide) ?_
  refine aw_aload_n (q := 98) 0 dX0_fact_97 rfl rfl rfl ?_
  refine g_coil_commonRaises (q := 101) hi hc (v := (G i (15 + 12 * c + 9))) rfl wf_RX0_39 dX0_fact_98 rfl ?_
  exact rt_i rfl (Nat.le_refl _) (Nat.le_refl _) (⟨by first | rfl | (rw [Int.add_zero]), rfl⟩) dX0_fact_101
theorem c_coil_fact {l : Launch} {D : va_G} {C : Nat → ClassId} {T : Nat → Nat} {ad : Int → Nat} (G : GG) {i c k : Int} (hi : 0 ≤ i ∧ i < 6) (hc : 0 ≤ c ∧ c < 8) (hk : 0 ≤ k ∧ k < 10) : MC l yX0_fact cX0_fact 2 (some .int) 0 0 0 0 D (tyC C) T [.ref (ad (17 * i + 9 + c)), .int (iI k)] (cw ad C G) (RI ad C (fun r G1 => r = G i (15 + 12 * c + k) ∧ G1 = G)) := by
  have h : k = 0 ∨ k = 1 ∨ k = 2 ∨ k = 3 ∨ k = 4 ∨ k = 5 ∨ k = 6 ∨ k = 7 ∨ k = 8 ∨ k = 9 := by omega
  rcases h with rfl | rfl | rfl | rfl | rfl | rfl | rfl | rfl | rfl | rfl
  · exact c_coil_fact0 G hi hc
  · exact c_coil_fact1 G hi hc
  · exact c_coil_fact2 G hi hc
  · exact c_coil_fact3 G hi hc
  · exact c_coil_fact4 G hi hc
  · exact c_coil_fact5 G hi hc
  · exact c_coil_fact6 G hi hc
  · exact c_coil_fact7 G hi hc
  · exact c_coil_fact8 G hi hc
  · exact c_coil_fact9 G hi hc
