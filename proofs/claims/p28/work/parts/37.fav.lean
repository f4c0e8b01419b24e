/-! class CoilPrices: favorite -/
abbrev fcl (x y : UInt32) : Int32 := Op.cmpValue (FP.fcmp x y) .l
def fvF (g : Row) : Nat → Int × UInt32
  | 0 => (-1, 3212836864)
  | n + 1 => if fcl (fB (g (15 + 12 * (n : Int) + 10))) (fvF g n).2 ≤ 0 then fvF g n else ((n : Int), fB (g (15 + 12 * (n : Int) + 10)))
theorem fvF_0 {g : Row} {c : Int} (hc : 0 ≤ c) (h : fcl (fB (g (15 + 12 * c + 10))) (fvF g c.toNat).2 ≤ 0) : fvF g (c + 1).toNat = fvF g c.toNat := by
  obtain ⟨n, rfl⟩ : ∃ n : Nat, c = n := ⟨c.toNat, by omega⟩
  rw [show ((n : Int) + 1).toNat = n + 1 by omega, show (n : Int).toNat = n by omega] at *
  exact if_pos h
theorem fvF_1 {g : Row} {c : Int} (hc : 0 ≤ c) (h : ¬ fcl (fB (g (15 + 12 * c + 10))) (fvF g c.toNat).2 ≤ 0) : fvF g (c + 1).toNat = (c, fB (g (15 + 12 * c + 10))) := by
  obtain ⟨n, rfl⟩ : ∃ n : Nat, c = n := ⟨c.toNat, by omega⟩
  rw [show ((n : Int) + 1).toNat = n + 1 by omega, show (n : Int).toNat = n by omega] at *
  exact if_neg h
theorem fvF_r (g : Row) : ∀ n : Nat, -1 ≤ (fvF g n).1 ∧ (fvF g n).1 < (n : Int) + 1
  | 0 => by show -1 ≤ (-1 : Int) ∧ (-1 : Int) < ((0 : Nat) : Int) + 1; omega
  | n + 1 => by
    have h := fvF_r g n
    show -1 ≤ (if fcl (fB (g (15 + 12 * (n : Int) + 10))) (fvF g n).2 ≤ 0 then fvF g n else ((n : Int), fB (g (15 + 12 * (n : Int) + 10)))).1 ∧ (if fcl (fB (g (15 + 12 * (n : Int) + 10))) (fvF g n).2 ≤ 0 then fvF g n else ((n : Int), fB (g (15 + 12 * (n : Int) + 10)))).1 < ((n + 1 : Nat) : Int) + 1
    split
    · omega
    · show -1 ≤ (n : Int) ∧ (n : Int) < ((n + 1 : Nat) : Int) + 1
      omega
set_option maxHeartbeats 4000000 in
set_option maxRecDepth 100000 in
theorem L_fav {l : Launch} {D : va_G} {C : Nat → ClassId} {T : Nat → Nat} {ad : Int → Nat} (G : GG) (h8 : 0 ≤ G 0 13 ∧ G 0 13 ≤ 8) : ∀ (n : Nat) (c : Int), 0 ≤ c → c ≤ G 0 13 → G 0 13 - c < n → AW l RX5 "favorite" cX5_favorite 4 (some .int) (fun _ => True) { frames := 0, cells := 0, slots := 0, locals := 0 } (hvE D (RI ad C (fun r G1 => r = (fvF (G 0) (G 0 13).toNat).1 ∧ G1 = G)) (cw ad C G) 0 0) D (tyC C) (hvZ T (cw ad C G)) (cw ad C G) 7 [(0, .ref (ad 102)), (1, .int (iI (((fvF (G 0) c.toNat).1)))), (2, .float ((fvF (G 0) c.toNat).2)), (3, .int (iI c))] [] (cw ad C G) 0 0 := by
  intro n
  induction n with
  | zero => intro c hc hd hn; exact absurd hn (by omega)
  | succ n ih =>
    intro c hc hd hn
    have hr := fvF_r (G 0) c.toNat
    refine aw_iload_n (q := 8) 3 dX5_favorite_7 rfl rfl rfl ?_
    refine aw_aload_n (q := 9) 0 dX5_favorite_8 rfl rfl rfl ?_
    refine g_cp_machine (q := 12) wf_RX5_10 dX5_favorite_9 rfl ?_
    refine g_mach_coilCount (q := 15) (i := 0) (by omega) (v := (G 0 13)) rfl wf_RX5_213 dX5_favorite_12 rfl ?_
    refine aw_icmp_ge (q := 18) dX5_favorite_15 rfl (t := 56) (by decide) (by omega) (by omega) (fun h1 => ?_) (fun h2 => ?_)
    · refine aw_iload_n (q := 57) 1 dX5_favorite_56 rfl rfl rfl ?_
      exact rt_i rfl (Nat.le_refl _) (Nat.le_refl _) (⟨by rw [show c = G 0 13 by omega], rfl⟩) dX5_favorite_57
    · refine aw_aload_n (q := 19) 0 dX5_favorite_18 rfl rfl rfl ?_
      refine g_cp_machine (q := 22) wf_RX5_10 dX5_favorite_19 rfl ?_
      refine g_mach_coils (q := 25) (i := 0) (by omega) wf_RX5_156 dX5_favorite_22 rfl ?_
      refine aw_iload_n (q := 26) 3 dX5_favorite_25 rfl rfl rfl ?_
      refine aw_coil (q := 27) (i := 0) (by omega) (by omega) dX5_favorite_26 rfl ?_
      refine g_coil_wanted (q := 30) (i := 0) (c := c) (by omega) (by omega) (v := (G 0 (15 + 12 * c + 10))) rfl wf_RX5_165 dX5_favorite_27 rfl ?_
      refine aw_fload_n (q := 31) 2 dX5_favorite_30 rfl rfl rfl ?_
      refine aw_fcmp (q := 32) dX5_favorite_31 rfl ?_
      refine aw_ifW_le (q := 35) dX5_favorite_32 rfl (t := 50) (by decide) (fun h3 => ?_) (fun h4 => ?_)
      · refine ae_iinc (q := 53) (lv2 := [(0, .ref (ad 102)), (1, .int (iI (((fvF (G 0) c.toNat).1)))), (2, .float ((fvF (G 0) c.toNat).2)), (3, .int (iI (c + 1)))]) 3 [1, 2, 3, 0] (c + 1) (by omega) dX5_favorite_50 rfl rfl (by decide) rfl ?_
        refine aw_goto (q := 7) dX5_favorite_53 (by decide) ?_
        have hi9 := ih (c + 1) (by omega) (by omega) (by omega)
        rw [fvF_0 hc (by assumption)] at hi9
        exact hi9
      · refine aw_aload_n (q := 36) 0 dX5_favorite_35 rfl rfl rfl ?_
        refine g_cp_machine (q := 39) wf_RX5_10 dX5_favorite_36 rfl ?_
        refine g_mach_coils (q := 42) (i := 0) (by omega) wf_RX5_156 dX5_favorite_39 rfl ?_
        refine aw_iload_n (q := 43) 3 dX5_favorite_42 rfl rfl rfl ?_
        refine aw_coil (q := 44) (i := 0) (by omega) (by omega) dX5_favorite_43 rfl ?_
        refine g_coil_wanted (q := 47) (i := 0) (c := c) (by omega) (by omega) (v := (G 0 (15 + 12 * c + 10))) rfl wf_RX5_165 dX5_favorite_44 rfl ?_
        refine aw_fstore_n (q := 48) (lv2 := [(0, .ref (ad 102)), (1, .int (iI (((fvF (G 0) c.toNat).1)))), (2, .float (fB ((G 0 (15 + 12 * c + 10))))), (3, .int (iI c))]) [1, 2, 0, 3] dX5_favorite_47 rfl rfl (by decide) rfl rfl ?_
        refine aw_iload_n (q := 49) 3 dX5_favorite_48 rfl rfl rfl ?_
        refine aw_istore_n (q := 50) (lv2 := [(0, .ref (ad 102)), (1, .int (iI c)), (2, .float (fB ((G 0 (15 + 12 * c + 10))))), (3, .int (iI c))]) [1, 0, 2, 3] dX5_favorite_49 rfl rfl (by decide) rfl rfl ?_
        refine ae_iinc (q := 53) (lv2 := [(0, .ref (ad 102)), (1, .int (iI c)), (2, .float (fB ((G 0 (15 + 12 * c + 10))))), (3, .int (iI (c + 1)))]) 3 [1, 2, 3, 0] (c + 1) (by omega) dX5_favorite_50 rfl rfl (by decide) rfl ?_
        refine aw_goto (q := 7) dX5_favorite_53 (by decide) ?_
        have hi9 := ih (c + 1) (by omega) (by omega) (by omega)
        rw [fvF_1 hc (by assumption)] at hi9
        exact hi9
set_option maxHeartbeats 4000000 in
set_option maxRecDepth 100000 in
theorem c_favorite {l : Launch} {D : va_G} {C : Nat → ClassId} {T : Nat → Nat} {ad : Int → Nat} (G : GG) (h8 : 0 ≤ G 0 13 ∧ G 0 13 ≤ 8) : MC l yX5_favorite cX5_favorite 4 (some .int) 0 0 0 0 D (tyC C) T [.ref (ad 102)] (cw ad C G) (RI ad C (fun r G1 => r = (fvF (G 0) (G 0 13).toNat).1 ∧ G1 = G)) := by
  refine mc_of (by decide +kernel) (Nat.le_of_ble_eq_true rfl) rfl ?_
  refine aw_iconst (q := 1) dX5_favorite_0 rfl ?_
  refine aw_istore_n (q := 2) (lv2 := [(0, .ref (ad 102)), (1, .int (iI (-1)))]) [1, 0] dX5_favorite_1 rfl rfl (by decide) rfl rfl ?_
  refine aw_ldcf (q := 4) dX5_favorite_2 rfl wk_RX5_212 ?_
  refine aw_fstore_n (q := 5) (lv2 := [(0, .ref (ad 102)), (1, .int (iI (-1))), (2, .float 3212836864)]) [1, 2, 0] dX5_favorite_4 rfl rfl (by decide) rfl rfl ?_
  refine aw_iconst (q := 6) dX5_favorite_5 rfl ?_
  refine aw_istore_n (q := 7) (lv2 := [(0, .ref (ad 102)), (1, .int (iI (-1))), (2, .float 3212836864), (3, .int (iI 0))]) [1, 2, 3, 0] dX5_favorite_6 rfl rfl (by decide) rfl rfl ?_
  exact L_fav G h8 9 0 (by omega) (by omega) (by omega)
