/-! class CoilPrices: carryOut -/
def coP : Nat → GG → Int → GG → Prop
  | 0, G, r, G1 => r = 0 ∧ G1 = G
  | n + 1, G, r, G1 => (roV G = 0 ∧ r = 0 ∧ G1 = roG G) ∨ (roV G ≠ 0 ∧ obeyP (roG G) 0 G1 ∧ r = 0) ∨ (roV G ≠ 0 ∧ ∃ H, obeyP (roG G) 1 H ∧ coP n H (r - 1) G1)
theorem obey_r {G H : GG} {r : Int} (h : obeyP G r H) : r = 0 ∨ r = 1 := by
  rcases h with ⟨-, h⟩ | ⟨-, h⟩ | ⟨-, h, -⟩ | ⟨-, h⟩ | ⟨-, h, -⟩
  · rcases h with ⟨-, h, -⟩ | ⟨-, h, -⟩ <;> omega
  · rcases h with ⟨-, h, -⟩ | ⟨-, -, h, -⟩ | ⟨-, -, h, -⟩ <;> omega
  · omega
  · rcases h with ⟨-, h, -⟩ | ⟨-, h, -⟩ <;> omega
  · omega
theorem er_ne {x y : Int} (h : x ≠ 7 ∧ x ≠ 9) : ∀ (n : Nat) (G : GG), erL n G x y = G x y
  | 0, _ => rfl
  | n + 1, G => by
    show (if G 7 6 < G 7 1 ∧ G 7 7 = -1 then (if roG G 7 7 = -1 then erL n (roG G) else roG G) else G) x y = G x y
    split
    · split
      · exact (er_ne h n (roG G)).trans (ro_ne h)
      · exact ro_ne h
    · rfl
theorem stR_ne {G : GG} {x y : Int} (h : x ≠ 7) : stR G x y = G x y := by
  unfold stR
  rw [setG_ne (by omega), setG_ne (by omega)]
set_option maxHeartbeats 4000000 in
set_option maxRecDepth 100000 in
theorem L_carry {l : Launch} {D : va_G} {C : Nat → ClassId} {T : Nat → Nat} {ad : Int → Nat} (G : GG) {e : Int} {Pq : Int → GG → Prop} : ∀ (n : Nat) (m : Int) (K : GG), 0 ≤ m → m ≤ 100 → 100 - m < n → okO K → (∀ r G1, coP (100 - m).toNat K (r - m) G1 → Pq r G1) → AW l RX5 "carryOut" cX5_carryOut 3 (some .int) (fun _ => True) { frames := 7, cells := 0, slots := 0, locals := 173 } (hvE D (RI ad C Pq) (cw ad C G) 0 0) D (tyC C) (hvZ T (cw ad C G)) (cw ad C G) 31 [(0, .ref (ad 102)), (1, .int (iI e)), (2, .int (iI m))] [] (cw ad C K) 0 0 := by
  intro n
  induction n with
  | zero => intro m K hm hd hn oK hQ; exact absurd hn (by omega)
  | succ n ih =>
    intro m K hm hd hn oK hQ
    refine aw_iload_n (q := 32) 2 dX5_carryOut_31 rfl rfl rfl ?_
    refine aw_bipush (q := 34) dX5_carryOut_32 rfl (by decide) ?_
    refine aw_icmp_ge (q := 37) dX5_carryOut_34 rfl (t := 60) (by decide) (by omega) (by omega) (fun h1 => ?_) (fun h2 => ?_)
    · refine aw_iload_n (q := 61) 2 dX5_carryOut_60 rfl rfl rfl ?_
      exact rt_i rfl (Nat.le_refl _) (Nat.le_refl _) (hQ _ _ (by rw [show (100 - m).toNat = 0 by omega]; exact ⟨by omega, rfl⟩)) dX5_carryOut_61
    · refine aw_aload_n (q := 38) 0 dX5_carryOut_37 rfl rfl rfl ?_
      refine g_cp_text (q := 41) wf_RX5_30 dX5_carryOut_38 rfl ?_
      refine cv_I (q := 44) (CC := "") (id := 104) (As := []) 0 (c_t_readOrder (T := T) (D := D) (ad := ad) K oK.2.2) (fun _ h => h) (by omega) (cell_104 ad C _) rfl wc_X2_readOrder wm_RX5_232 wi_X2_readOrder ws_X2_readOrder wn_X2 (by decide) rfl ⟨Nat.le_of_ble_eq_true rfl, Nat.le_of_ble_eq_true rfl⟩ ⟨Nat.le_of_ble_eq_true rfl, Nat.le_of_ble_eq_true rfl⟩ (Nat.le_of_ble_eq_true rfl) dX5_carryOut_41 rfl (fun r9 G9 h9 => ?_)
      rw [h9.1, h9.2]
      have := roV_r K
      refine aw_if_eq (q := 47) dX5_carryOut_44 rfl (t := 60) (by decide) (by omega) (fun h3 => ?_) (fun h4 => ?_)
      · refine aw_iload_n (q := 61) 2 dX5_carryOut_60 rfl rfl rfl ?_
        exact rt_i rfl (Nat.le_refl _) (Nat.le_refl _) (hQ _ _ (by rw [show (100 - m).toNat = (100 - (m + 1)).toNat + 1 by omega]; exact Or.inl ⟨by omega, by omega, rfl⟩)) dX5_carryOut_61
      · refine aw_aload_n (q := 48) 0 dX5_carryOut_47 rfl rfl rfl ?_
        refine cv_I (q := 51) (CC := "") (id := 102) (As := []) 0 (c_obey (T := T) (D := D) (ad := ad) (roG K) (okO_ro oK).1 (okO_ro oK).2.1 (ordP_ro oK.2.2 (by omega))) (fun _ h => h) (by omega) (cell_102 ad C _) rfl wc_X5_obey wm_RX5_235 wi_X5_obey ws_X5_obey wn_X5 (by decide) rfl ⟨Nat.le_of_ble_eq_true rfl, Nat.le_of_ble_eq_true rfl⟩ ⟨Nat.le_of_ble_eq_true rfl, Nat.le_of_ble_eq_true rfl⟩ (Nat.le_of_ble_eq_true rfl) dX5_carryOut_48 rfl (fun r8 H o9 => ?_)
        have rr := obey_r o9
        refine aw_if_eq (q := 54) dX5_carryOut_51 rfl (t := 60) (by decide) (by omega) (fun h5 => ?_) (fun h6 => ?_)
        · refine aw_iload_n (q := 61) 2 dX5_carryOut_60 rfl rfl rfl ?_
          exact rt_i rfl (Nat.le_refl _) (Nat.le_refl _) (hQ _ _ (by rw [show (100 - m).toNat = (100 - (m + 1)).toNat + 1 by omega]; rw [show r8 = 0 by omega] at o9; exact Or.inr (Or.inl ⟨by omega, o9, by omega⟩))) dX5_carryOut_61
        · refine ae_iinc (q := 57) (lv2 := [(0, .ref (ad 102)), (1, .int (iI e)), (2, .int (iI (m + 1)))]) 2 [1, 2, 0] (m + 1) (by omega) dX5_carryOut_54 rfl rfl (by decide) rfl ?_
          refine aw_goto (q := 31) dX5_carryOut_57 (by decide) ?_
          have e8 : r8 = 1 := by omega
          rw [e8] at o9
          exact ih (m + 1) H (by omega) (by omega) (by omega) (okO_obey (okO_ro oK) (ordP_ro oK.2.2 (by omega)) o9) (fun r G1 z => hQ r G1 (by
                  rw [show (100 - m).toNat = (100 - (m + 1)).toNat + 1 by omega]
                  exact Or.inr (Or.inr ⟨by omega, H, o9, by rw [show r - m - 1 = r - (m + 1) by omega]; exact z⟩)))
set_option maxHeartbeats 4000000 in
set_option maxRecDepth 100000 in
theorem c_carryOut {l : Launch} {D : va_G} {C : Nat → ClassId} {T : Nat → Nat} {ad : Int → Nat} (G : GG) (o : okM G) (oN : okN G 0) (t : okT G) : MC l yX5_carryOut cX5_carryOut 3 (some .int) 7 173 0 0 D (tyC C) T [.ref (ad 102)] (cw ad C G) (RI ad C (fun r G1 => ((erL 100 (stR G) 7 7) ≠ -1 ∧ r = -10 - (erL 100 (stR G) 7 7) ∧ G1 = (erL 100 (stR G))) ∨ ((erL 100 (stR G) 7 7) = -1 ∧ ∃ H, saveP (erL 100 (stR G)) H ∧ coP 100 (stR H) r G1))) := by
  refine mc_of (by decide +kernel) (Nat.le_of_ble_eq_true rfl) rfl ?_
  have tE : okT (erL 100 (stR G)) := okT_er 100 (okT_stR t)
  have ne : ∀ x y : Int, x ≠ 7 ∧ x ≠ 9 → erL 100 (stR G) x y = G x y := fun x y h => (er_ne h 100 _).trans (stR_ne h.1)
  have oE : okM (erL 100 (stR G)) := okM_congr (fun y _ => ne _ _ (by omega)) (fun y => ne _ _ (by omega)) o
  have t7 := tE.2.2.1
  refine aw_aload_n (q := 1) 0 dX5_carryOut_0 rfl rfl rfl ?_
  refine g_cp_text (q := 4) wf_RX5_30 dX5_carryOut_1 rfl ?_
  refine cv_I (q := 7) (CC := "") (id := 104) (As := []) 0 (c_t_errorPosition (T := T) (D := D) (ad := ad) G t) (fun _ h => h) (by omega) (cell_104 ad C _) rfl wc_X2_errorPosition wm_RX5_226 wi_X2_errorPosition ws_X2_errorPosition wn_X2 (by decide) rfl ⟨Nat.le_of_ble_eq_true rfl, Nat.le_of_ble_eq_true rfl⟩ ⟨Nat.le_of_ble_eq_true rfl, Nat.le_of_ble_eq_true rfl⟩ (Nat.le_of_ble_eq_true rfl) dX5_carryOut_4 rfl (fun r9 G9 h9 => ?_)
  rw [h9.1, h9.2]
  refine aw_istore_n (q := 8) (lv2 := [(0, .ref (ad 102)), (1, .int (iI ((erL 100 (stR G) 7 7))))]) [1, 0] dX5_carryOut_7 rfl rfl (by decide) rfl rfl ?_
  refine aw_iload_n (q := 9) 1 dX5_carryOut_8 rfl rfl rfl ?_
  refine aw_iconst (q := 10) dX5_carryOut_9 rfl ?_
  refine aw_icmp_eq (q := 13) dX5_carryOut_10 rfl (t := 18) (by decide) (by omega) (by omega) (fun h1 => ?_) (fun h2 => ?_)
  · refine aw_aload_n (q := 19) 0 dX5_carryOut_18 rfl rfl rfl ?_
    refine cv_V (q := 22) (CC := "") (id := 102) (As := []) 0 (c_save (T := T) (D := D) (ad := ad) (erL 100 (stR G)) oE.2.2.2.2 oE.1.2.1 (okC_z oE)) (fun _ h => h) (by omega) (cell_102 ad C _) rfl wc_X5_save wm_RX5_64 wi_X5_save ws_X5_save wn_X5 (by decide) rfl ⟨Nat.le_of_ble_eq_true rfl, Nat.le_of_ble_eq_true rfl⟩ ⟨Nat.le_of_ble_eq_true rfl, Nat.le_of_ble_eq_true rfl⟩ (Nat.le_of_ble_eq_true rfl) dX5_carryOut_19 rfl (fun H8 s8 => ?_)
    refine aw_aload_n (q := 23) 0 dX5_carryOut_22 rfl rfl rfl ?_
    refine g_cp_text (q := 26) wf_RX5_30 dX5_carryOut_23 rfl ?_
    refine cv_V (q := 29) (CC := "") (id := 104) (As := []) 0 (c_t_startReading (T := T) (D := D) (ad := ad) H8) (fun _ h => h) (by omega) (cell_104 ad C _) rfl wc_X2_startReading wm_RX5_229 wi_X2_startReading ws_X2_startReading wn_X2 (by decide) rfl ⟨Nat.le_of_ble_eq_true rfl, Nat.le_of_ble_eq_true rfl⟩ ⟨Nat.le_of_ble_eq_true rfl, Nat.le_of_ble_eq_true rfl⟩ (Nat.le_of_ble_eq_true rfl) dX5_carryOut_26 rfl (fun G9 h9 => ?_)
    rw [h9]
    refine aw_iconst (q := 30) dX5_carryOut_29 rfl ?_
    refine aw_istore_n (q := 31) (lv2 := [(0, .ref (ad 102)), (1, .int (iI ((erL 100 (stR G) 7 7)))), (2, .int (iI 0))]) [1, 2, 0] dX5_carryOut_30 rfl rfl (by decide) rfl rfl ?_
    have sn : ∀ x y : Int, ¬ (2 ≤ x ∧ x ≤ 6) → H8 x y = erL 100 (stR G) x y := fun x y h => saveP_ne oE.2.2.2.2 s8 h
    have oO : okO (stR H8) := ⟨okN_congr (fun y _ => (stR_ne (by omega)).trans ((sn _ _ (by omega)).trans (ne _ _ (by omega)))) oN, by rw [stR_ne (by omega), sn _ _ (by omega), ne _ _ (by omega)]; exact o.2.2.2.1, okT_stR (okT_congr (fun y => sn _ _ (by omega)) (fun y => sn _ _ (by omega)) tE)⟩
    exact L_carry G 102 0 (stR H8) (by omega) (by omega) (by omega) oO (fun r G1 z => Or.inr ⟨by omega, H8, s8, by have z2 : coP 100 (stR H8) (r - 0) G1 := z; rw [Int.sub_zero] at z2; exact z2⟩)
  · refine aw_bipush (q := 15) dX5_carryOut_13 rfl (by decide) ?_
    refine aw_iload_n (q := 16) 1 dX5_carryOut_15 rfl rfl rfl ?_
    refine ae_isub (q := 17) (-(erL 100 (stR G) 7 7) - 10) (by omega) dX5_carryOut_16 rfl ?_
    exact rt_i rfl (Nat.le_refl _) (Nat.le_refl _) (Or.inl ⟨by omega, by omega, rfl⟩) dX5_carryOut_17
