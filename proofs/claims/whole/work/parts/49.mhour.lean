/-! class CoilPricesModel: an hour -/
theorem fold4_up (g K : Row) (v : Int) : ∀ n : Nat, foldR (f4 g) (up K 12 v) n = up (foldR (f4 g) K n) 12 v
  | 0 => rfl
  | n + 1 => by
    show rFade (foldR (f4 g) (up K 12 v) n) n (g 2) = up (rFade (foldR (f4 g) K n) n (g 2)) 12 v
    rw [fold4_up g K v n]
    unfold rFade
    rw [up_n (by omega), up_comm _ (by omega)]
theorem fold4_12 (g K : Row) : ∀ n : Nat, foldR (f4 g) K n 12 = K 12
  | 0 => rfl
  | n + 1 => (up_n (by omega)).trans (fold4_12 g K n)
theorem hour_12 (g : Row) : hourR g 12 = h3R g 12 := (up_n (by omega)).trans (fold4_12 g _ _)
theorem hour_fin {G : GG} {h : Row} {fi : Int} (hh : h = h4R (G 12)) (hf : fi = h3R (G 12) 12 - G 12 12) : setG (setG (onR G 12 (up h 12 (G 12 12))) 12 10 (G 12 10 + 1)) 12 12 (G 12 12 + fi) = onR G 12 (hourR (G 12)) := by
  have e : h4R (G 12) 12 = h3R (G 12) 12 := fold4_12 _ _ _
  rw [setG_onR, setG_onR, up_comm (up h 12 (G 12 12)) (by omega), up_up, hh, up_id (y := 12) (by rw [e]; omega)]
  rfl
theorem rFine_up {g : Row} {c fi y v : Int} (h : y ≠ 15 + 12 * c + 2 ∧ y ≠ 15 + 12 * c + 3 ∧ y ≠ 15 + 12 * c + 5) : rFine (up g y v) c fi = up (rFine g c fi) y v := by
  unfold rFine
  rw [up_n (z := 15 + 12 * c + 3) (by omega), up_n (z := 15 + 12 * c + 2) (by omega), up_comm _ (y := y) (by omega), up_comm _ (y := y) (by omega)]
theorem watch_0 {h : Row} {c w : Int} (hne : ¬ h (15 + 12 * c) = h (15 + 12 * (c + 1))) : rWatch h c = h := if_neg hne
theorem watch_1 {h : Row} {c w v : Int} (hc : 0 ≤ c) (hk : h (15 + 12 * c) = h (15 + 12 * (c + 1))) (hv : v = rCom h c) (h2 : ¬ v = 2) : up (up h 12 w) (15 + 12 * c + 9) v = up (rWatch h c) 12 w := by
  unfold rWatch
  rw [if_pos hk, if_neg (by rw [← hv]; exact h2), ← hv, up_comm _ (by omega)]
theorem watch_2 {h : Row} {c w f : Int} (hc : 0 ≤ c) (hk : h (15 + 12 * c) = h (15 + 12 * (c + 1))) (hv : rCom h c = 2) (hf : h 4 = f) : rFine (rFine (up (up h 12 w) (15 + 12 * c + 9) 0) c f) (c + 1) f = up (rWatch h c) 12 w ∧ rWatch h c 12 = h 12 + 1 := by
  unfold rWatch
  rw [if_pos hk, if_pos hv, hf]
  refine ⟨?_, up_s _ _ _⟩
  rw [rFine_up (y := 15 + 12 * c + 9) (by omega), rFine_up (y := 12) (by omega), rFine_up (y := 15 + 12 * c + 9) (by omega), rFine_up (y := 12) (by omega), rFine_up (g := h) (y := 15 + 12 * c + 9) (by omega), rFine_up (y := 15 + 12 * c + 9) (by omega), up_up, up_comm _ (y := 12) (z := 15 + 12 * c + 9) (by omega), up_up]
theorem rWatch_12 {h : Row} {c : Int} (hc : 0 ≤ c) (h2 : ¬ rCom h c = 2) : rWatch h c 12 = h 12 := by
  unfold rWatch
  by_cases e : h (15 + 12 * c) = h (15 + 12 * (c + 1))
  · rw [if_pos e, if_neg h2]; exact up_n (by omega)
  · rw [if_neg e]
theorem com_1 {h : Row} {c : Int} (h1 : h (15 + 12 * c + 11) = 1) (h2 : h (15 + 12 * (c + 1) + 11) = 1) : rCom h c = h (15 + 12 * c + 9) + 1 := if_pos ⟨by omega, by omega⟩
theorem com_0 {h : Row} {c : Int} (hc : h (15 + 12 * c + 11) = 0 ∨ h (15 + 12 * (c + 1) + 11) = 0) : rCom h c = 0 := if_neg (fun q => by omega)
theorem ban_1 {h : Row} {G : GG} {c : Int} (hb : 0 < h (15 + 12 * c + 5)) : setG (onR G 12 h) 12 (15 + 12 * c + 5) (h (15 + 12 * c + 5) - 1) = onR G 12 (rBan h c) := by
  rw [setG_onR]
  unfold rBan
  rw [if_pos hb]
theorem ban_2 {h : Row} {G : GG} {c : Int} (hb : h (15 + 12 * c + 5) = 0) : setG (onR G 12 h) 12 (15 + 12 * c + 5) 0 = onR G 12 (rBan h c) := by
  rw [setG_onR, up_id hb]
  unfold rBan
  rw [if_neg (by omega)]
set_option maxHeartbeats 4000000 in
set_option maxRecDepth 100000 in
theorem M_hour4 {l : Launch} {D : va_G} {C : Nat → ClassId} {T : Nat → Nat} {ad : Int → Nat} (G : GG) (o : okH (G 12)) : ∀ (n : Nat) (c : Int) (h : Row) (fi : Int), 0 ≤ c → c ≤ G 12 13 → G 12 13 - c < n → h = foldR (f4 (G 12)) (h3R (G 12)) c.toNat → fi = h3R (G 12) 12 - G 12 12 → AW l RX6 "hour" cX6_hour 4 (some .int) (fun _ => True) { frames := 3, cells := 0, slots := 0, locals := 80 } (hvE D (RI ad C (fun r G1 => r = hourR (G 12) 12 - G 12 12 ∧ G1 = onR G 12 (hourR (G 12)))) (cw ad C G) 0 0) D (tyC C) (hvZ T (cw ad C G)) (cw ad C G) 187 [(0, .ref (ad 108)), (1, .int (iI fi)), (2, .int (iI c))] [] (cw ad C ((onR G 12 (up h 12 (G 12 12))))) 0 0 := by
  intro n
  induction n with
  | zero => intro c h fi hc hd hn; exact absurd hn (by have := o.2.1; omega)
  | succ n ih =>
    intro c h fi hc hd hn hh hf
    have o1 := o.2.1
    have hv : hInv (G 12) h := by rw [hh]; exact inv4 o c.toNat (by omega)
    refine aw_iload_n (q := 188) 2 dX6_hour_187 rfl rfl rfl ?_
    refine aw_aload_n (q := 189) 0 dX6_hour_188 rfl rfl rfl ?_
    refine g_mod_p (q := 192) wf_RX6_7 dX6_hour_189 rfl ?_
    refine aw_bipush (q := 194) dX6_hour_192 rfl (by decide) ?_
    refine aw_cial (q := 195) (v := (G 12 13)) 13 (ar_109 ad C) (by omega) (by omega) (((congrFun (onR_at _ _ _) _).trans ((up_n (by omega)).trans (hv.1 _ (by omega))))) dX6_hour_194 rfl ?_
    refine aw_icmp_ge (q := 198) dX6_hour_195 rfl (t := 235) (by decide) (by omega) (by omega) (fun y1 => ?_) (fun y2 => ?_)
    · refine aw_aload_n (q := 236) 0 dX6_hour_235 rfl rfl rfl ?_
      refine g_mod_p (q := 239) wf_RX6_7 dX6_hour_236 rfl ?_
      refine aw_bipush (q := 241) dX6_hour_239 rfl (by decide) ?_
      refine aw_dup2 (q := 242) dX6_hour_241 rfl rfl rfl ?_
      refine aw_cial (q := 243) (v := (G 12 10)) 10 (ar_109 ad C) (by omega) (by omega) (((congrFun (onR_at _ _ _) _).trans ((up_n (by omega)).trans (hv.1 _ (by omega))))) dX6_hour_242 rfl ?_
      refine aw_iconst (q := 244) dX6_hour_243 rfl ?_
      refine ae_iadd (q := 245) ((G 12 10) + 1) (by omega) dX6_hour_244 rfl ?_
      refine aw_cias (q := 246) 10 (ar_109 ad C) (by omega) (by omega) dX6_hour_245 rfl ?_
      refine aw_aload_n (q := 247) 0 dX6_hour_246 rfl rfl rfl ?_
      refine g_mod_p (q := 250) wf_RX6_7 dX6_hour_247 rfl ?_
      refine aw_bipush (q := 252) dX6_hour_250 rfl (by decide) ?_
      refine aw_dup2 (q := 253) dX6_hour_252 rfl rfl rfl ?_
      refine aw_cial (q := 254) (v := (G 12 12)) 12 (ar_109 ad C) (by omega) (by omega) ((setG_ne (by omega)).trans (((congrFun (onR_at _ _ _) _).trans (up_s _ _ _)))) dX6_hour_253 rfl ?_
      refine aw_iload_n (q := 255) 1 dX6_hour_254 rfl rfl rfl ?_
      refine ae_iadd (q := 256) ((G 12 12) + fi) (by omega) dX6_hour_255 rfl ?_
      refine aw_cias (q := 257) 12 (ar_109 ad C) (by omega) (by omega) dX6_hour_256 rfl ?_
      refine aw_iload_n (q := 258) 1 dX6_hour_257 rfl rfl rfl ?_
      exact rt_i rfl (Nat.le_refl _) (Nat.le_refl _) (⟨by rw [hour_12]; exact hf, hour_fin (by rw [hh]; show _ = foldR _ _ (G 12 13).toNat; rw [show c = G 12 13 by omega]) hf⟩) dX6_hour_258
    · have hc8 : 0 ≤ c ∧ c < 8 := by omega
      have okc := hv.2 c hc (by omega)
      have ok8 := okc.2.2.2.2.2.2.2.1
      refine aw_aload_n (q := 199) 0 dX6_hour_198 rfl rfl rfl ?_
      refine aw_iload_n (q := 200) 2 dX6_hour_199 rfl rfl rfl ?_
      refine aw_bipush (q := 202) dX6_hour_200 rfl (by decide) ?_
      refine aw_aload_n (q := 203) 0 dX6_hour_202 rfl rfl rfl ?_
      refine aw_iload_n (q := 204) 2 dX6_hour_203 rfl rfl rfl ?_
      refine aw_bipush (q := 206) dX6_hour_204 rfl (by decide) ?_
      refine cv_I (q := 209) (CC := "") (id := 108) (As := [.int (iI c), .int (iI 10)]) 2 (c_of (T := T) (D := D) (ad := ad) (onR G 12 (up h 12 (G 12 12))) (by omega) (by omega)) (fun _ h => h) (by omega) (cell_108 ad C _) rfl wc_X6_of wm_RX6_100 wi_X6_of ws_X6_of wn_X6 (by decide) rfl ⟨Nat.le_of_ble_eq_true rfl, Nat.le_of_ble_eq_true rfl⟩ ⟨Nat.le_of_ble_eq_true rfl, Nat.le_of_ble_eq_true rfl⟩ (Nat.le_of_ble_eq_true rfl) dX6_hour_206 rfl (fun r9 G9 h9 => ?_)
      obtain ⟨e9, g9⟩ := h9
      rw [e9.trans ((((congrFun (onR_at _ _ _) _).trans (up_n (by omega))))), g9]
      clear e9 g9
      refine cs_F (q := 212) (As := [.int (iI ((h (15 + 12 * c + 10))))]) 1 (c_real (T := T) (D := D) (ad := ad) (onR G 12 (up h 12 (G 12 12))) (x := (h (15 + 12 * c + 10))) ok8) (fun _ h => h) wc_X6_real wm_RX6_121 wt_X6_real wn_X6 (by decide) rfl ⟨Nat.le_of_ble_eq_true rfl, Nat.le_of_ble_eq_true rfl⟩ ⟨Nat.le_of_ble_eq_true rfl, Nat.le_of_ble_eq_true rfl⟩ (Nat.le_of_ble_eq_true rfl) dX6_hour_209 rfl (fun r9 G9 h9 => ?_)
      rw [h9.1, h9.2]
      clear h9
      refine aw_aload_n (q := 213) 0 dX6_hour_212 rfl rfl rfl ?_
      refine g_mod_p (q := 216) wf_RX6_7 dX6_hour_213 rfl ?_
      refine aw_iconst (q := 217) dX6_hour_216 rfl ?_
      refine aw_cial (q := 218) (v := (G 12 2)) 2 (ar_109 ad C) (by omega) (by omega) (((congrFun (onR_at _ _ _) _).trans ((up_n (by omega)).trans (hv.1 _ (by omega))))) dX6_hour_217 rfl ?_
      refine aw_i2f (q := 219) dX6_hour_218 rfl ?_
      refine aw_fmul (q := 220) dX6_hour_219 rfl (fw_fade ok8 o.1.2.2.1).1 ?_
      refine aw_ldcf (q := 222) dX6_hour_220 rfl wk_RX6_146 ?_
      refine aw_fdiv (q := 223) dX6_hour_222 rfl (fw_fade ok8 o.1.2.2.1).2.1 ?_
      rw [show FP.fdiv (FP.fmul (fB (h (15 + 12 * c + 10))) (FP.i2f (iI (G 12 2)))) 1120403456 = fB (ffade (h (15 + 12 * c + 10)) (G 12 2)) from (fB_nat _).symm]
      refine cs_I (q := 226) (As := [.float (fB (ffade (h (15 + 12 * c + 10)) (G 12 2)))]) 1 (c_bits (T := T) (D := D) (ad := ad) (onR G 12 (up h 12 (G 12 12))) (x := (ffade (h (15 + 12 * c + 10)) (G 12 2))) (fw_fade ok8 o.1.2.2.1).2.2) (fun _ h => h) wc_X6_bits wm_RX6_124 wt_X6_bits wn_X6 (by decide) rfl ⟨Nat.le_of_ble_eq_true rfl, Nat.le_of_ble_eq_true rfl⟩ ⟨Nat.le_of_ble_eq_true rfl, Nat.le_of_ble_eq_true rfl⟩ (Nat.le_of_ble_eq_true rfl) dX6_hour_223 rfl (fun r9 G9 h9 => ?_)
      rw [h9.1, h9.2]
      clear h9
      refine cv_V (q := 229) (CC := "") (id := 108) (As := [.int (iI c), .int (iI 10), .int (iI ((ffade (h (15 + 12 * c + 10)) (G 12 2))))]) 3 (c_lay (T := T) (D := D) (ad := ad) (onR G 12 (up h 12 (G 12 12))) (by omega) (by omega)) (fun _ h => h) (by omega) (cell_108 ad C _) rfl wc_X6_lay wm_RX6_92 wi_X6_lay ws_X6_lay wn_X6 (by decide) rfl ⟨Nat.le_of_ble_eq_true rfl, Nat.le_of_ble_eq_true rfl⟩ ⟨Nat.le_of_ble_eq_true rfl, Nat.le_of_ble_eq_true rfl⟩ (Nat.le_of_ble_eq_true rfl) dX6_hour_226 rfl (fun G9 h9 => ?_)
      rw [h9]
      clear h9
      refine ae_iinc (q := 232) (lv2 := [(0, .ref (ad 108)), (1, .int (iI fi)), (2, .int (iI (c + 1)))]) 2 [1, 2, 0] (c + 1) (by omega) dX6_hour_229 rfl rfl (by decide) rfl ?_
      refine aw_goto (q := 187) dX6_hour_232 (by decide) ?_
      rw [setG_onR, up_comm _ (by omega)]
      exact ih (c + 1) _ fi (by omega) (by omega) (by omega) (by rw [foldR_succ _ _ hc, ← hh]; rfl) hf
theorem fA12 {g : Row} {c w : Int} (hc : 0 ≤ c) (o : fArgs g c) : fArgs (up g 12 w) c := by
  unfold fArgs
  rw [up_n (by omega), up_n (by omega), up_n (by omega), up_n (by omega)]
  exact o
theorem fA_fine {g : Row} {c fi : Int} (o : fArgs g (c + 1)) : fArgs (rFine g c fi) (c + 1) := by
  unfold fArgs
  rw [rFine_ne (by omega) (by omega), rFine_ne (by omega) (by omega), rFine_ne (by omega) (by omega), rFine_ne (by omega) (by omega)]
  exact o
set_option maxHeartbeats 4000000 in
set_option maxRecDepth 100000 in
theorem M_hour3 {l : Launch} {D : va_G} {C : Nat → ClassId} {T : Nat → Nat} {ad : Int → Nat} (G : GG) (o : okH (G 12)) : ∀ (n : Nat) (c : Int) (h : Row) (fi : Int), 0 ≤ c → (c ≤ G 12 13 - 1 ∨ c = 0) → G 12 13 - c < n → h = foldR f3 (h2R (G 12)) c.toNat → fi = h 12 - G 12 12 → AW l RX6 "hour" cX6_hour 4 (some .int) (fun _ => True) { frames := 3, cells := 0, slots := 0, locals := 80 } (hvE D (RI ad C (fun r G1 => r = hourR (G 12) 12 - G 12 12 ∧ G1 = onR G 12 (hourR (G 12)))) (cw ad C G) 0 0) D (tyC C) (hvZ T (cw ad C G)) (cw ad C G) 74 [(0, .ref (ad 108)), (1, .int (iI fi)), (2, .int (iI c))] [] (cw ad C ((onR G 12 (up h 12 (G 12 12))))) 0 0 := by
  intro n
  induction n with
  | zero => intro c h fi hc hd hn; exact absurd hn (by have := o.2.1; omega)
  | succ n ih =>
    intro c h fi hc hd hn hh hf
    have o1 := o.2.1
    have hv : hInv (G 12) h := by
      rw [hh]
      by_cases z : c = 0
      · subst z; exact inv2' o
      · exact inv3 o c.toNat (by omega)
    refine aw_iload_n (q := 75) 2 dX6_hour_74 rfl rfl rfl ?_
    refine aw_iconst (q := 76) dX6_hour_75 rfl ?_
    refine ae_iadd (q := 77) (c + 1) (by omega) dX6_hour_76 rfl ?_
    refine aw_aload_n (q := 78) 0 dX6_hour_77 rfl rfl rfl ?_
    refine g_mod_p (q := 81) wf_RX6_7 dX6_hour_78 rfl ?_
    refine aw_bipush (q := 83) dX6_hour_81 rfl (by decide) ?_
    refine aw_cial (q := 84) (v := (G 12 13)) 13 (ar_109 ad C) (by omega) (by omega) (((congrFun (onR_at _ _ _) _).trans ((up_n (by omega)).trans (hv.1 _ (by omega))))) dX6_hour_83 rfl ?_
    refine aw_icmp_ge (q := 87) dX6_hour_84 rfl (t := 185) (by decide) (by omega) (by omega) (fun y1 => ?_) (fun y2 => ?_)
    · refine aw_iconst (q := 186) dX6_hour_185 rfl ?_
      refine aw_istore_n (q := 187) (lv2 := [(0, .ref (ad 108)), (1, .int (iI fi)), (2, .int (iI 0))]) [1, 2, 0] dX6_hour_186 rfl rfl (by decide) rfl rfl ?_
      have e9 : h = h3R (G 12) := by rw [hh]; unfold h3R; rw [show c.toNat = (G 12 13 - 1).toNat by omega]
      exact M_hour4 G o 9 0 h fi (by omega) (by omega) (by omega) e9 (by rw [hf, e9])
    · have hc8 : 0 ≤ c ∧ c < 8 := by omega
      have okc := hv.2 c hc (by omega)
      have ok8 := okc.2.2.2.2.2.2.2.1
      have okn := hv.2 (c + 1) (by omega) (by omega)
      have z1 := okc.2.2.2.2.2.2.2.2.1
      have z2 := okn.2.2.2.2.2.2.2.2.1
      have z3 := okc.2.2.2.2.2.2.1
      have z4 := okc.2.2.2.2.2.2.2.2.2.2.2.2
      have z5 := okn.2.2.2.2.2.2.2.2.2.2.2.2
      refine aw_aload_n (q := 88) 0 dX6_hour_87 rfl rfl rfl ?_
      refine aw_iload_n (q := 89) 2 dX6_hour_88 rfl rfl rfl ?_
      refine aw_iconst (q := 90) dX6_hour_89 rfl ?_
      refine cv_I (q := 93) (CC := "") (id := 108) (As := [.int (iI c), .int (iI 0)]) 2 (c_of (T := T) (D := D) (ad := ad) (onR G 12 (up h 12 (G 12 12))) (by omega) (by omega)) (fun _ h => h) (by omega) (cell_108 ad C _) rfl wc_X6_of wm_RX6_100 wi_X6_of ws_X6_of wn_X6 (by decide) rfl ⟨Nat.le_of_ble_eq_true rfl, Nat.le_of_ble_eq_true rfl⟩ ⟨Nat.le_of_ble_eq_true rfl, Nat.le_of_ble_eq_true rfl⟩ (Nat.le_of_ble_eq_true rfl) dX6_hour_90 rfl (fun r9 G9 h9 => ?_)
      obtain ⟨e9, g9⟩ := h9
      rw [e9.trans ((congrArg ((onR G 12 (up h 12 (G 12 12))) 12) (Int.add_zero _)).trans ((((congrFun (onR_at _ _ _) _).trans (up_n (by omega)))))), g9]
      clear e9 g9
      refine aw_aload_n (q := 94) 0 dX6_hour_93 rfl rfl rfl ?_
      refine aw_iload_n (q := 95) 2 dX6_hour_94 rfl rfl rfl ?_
      refine aw_iconst (q := 96) dX6_hour_95 rfl ?_
      refine ae_iadd (q := 97) (c + 1) (by omega) dX6_hour_96 rfl ?_
      refine aw_iconst (q := 98) dX6_hour_97 rfl ?_
      refine cv_I (q := 101) (CC := "") (id := 108) (As := [.int (iI (c + 1)), .int (iI 0)]) 2 (c_of (T := T) (D := D) (ad := ad) (onR G 12 (up h 12 (G 12 12))) (by omega) (by omega)) (fun _ h => h) (by omega) (cell_108 ad C _) rfl wc_X6_of wm_RX6_100 wi_X6_of ws_X6_of wn_X6 (by decide) rfl ⟨Nat.le_of_ble_eq_true rfl, Nat.le_of_ble_eq_true rfl⟩ ⟨Nat.le_of_ble_eq_true rfl, Nat.le_of_ble_eq_true rfl⟩ (Nat.le_of_ble_eq_true rfl) dX6_hour_98 rfl (fun r9 G9 h9 => ?_)
      obtain ⟨e9, g9⟩ := h9
      rw [e9.trans ((congrArg ((onR G 12 (up h 12 (G 12 12))) 12) (Int.add_zero _)).trans ((((congrFun (onR_at _ _ _) _).trans (up_n (by omega)))))), g9]
      clear e9 g9
      refine aw_icmp_ne (q := 104) dX6_hour_101 rfl (t := 179) (by decide) (by omega) (by omega) (fun y3 => ?_) (fun y4 => ?_)
      · refine ae_iinc (q := 182) (lv2 := [(0, .ref (ad 108)), (1, .int (iI fi)), (2, .int (iI (c + 1)))]) 2 [1, 2, 0] (c + 1) (by omega) dX6_hour_179 rfl rfl (by decide) rfl ?_
        refine aw_goto (q := 74) dX6_hour_182 (by decide) ?_
        refine aw_sub [0, 1, 2] rfl ?_
        have e9 : rWatch h c = h := watch_0 (w := 0) (by omega)
        have i9 := ih (c + 1) h fi (by omega) (by omega) (by omega) (by rw [foldR_succ _ _ hc, ← hh]; exact e9.symm) hf
        exact i9
      · refine aw_aload_n (q := 105) 0 dX6_hour_104 rfl rfl rfl ?_
        refine aw_iload_n (q := 106) 2 dX6_hour_105 rfl rfl rfl ?_
        refine aw_bipush (q := 108) dX6_hour_106 rfl (by decide) ?_
        refine cv_I (q := 111) (CC := "") (id := 108) (As := [.int (iI c), .int (iI 11)]) 2 (c_of (T := T) (D := D) (ad := ad) (onR G 12 (up h 12 (G 12 12))) (by omega) (by omega)) (fun _ h => h) (by omega) (cell_108 ad C _) rfl wc_X6_of wm_RX6_100 wi_X6_of ws_X6_of wn_X6 (by decide) rfl ⟨Nat.le_of_ble_eq_true rfl, Nat.le_of_ble_eq_true rfl⟩ ⟨Nat.le_of_ble_eq_true rfl, Nat.le_of_ble_eq_true rfl⟩ (Nat.le_of_ble_eq_true rfl) dX6_hour_108 rfl (fun r9 G9 h9 => ?_)
        obtain ⟨e9, g9⟩ := h9
        rw [e9.trans ((((congrFun (onR_at _ _ _) _).trans (up_n (by omega))))), g9]
        clear e9 g9
        refine aw_iconst (q := 112) dX6_hour_111 rfl ?_
        refine aw_icmp_ne (q := 115) dX6_hour_112 rfl (t := 140) (by decide) (by omega) (by omega) (fun y5 => ?_) (fun y6 => ?_)
        · refine aw_iconst (q := 141) dX6_hour_140 rfl ?_
          refine aw_istore_n (q := 142) (lv2 := [(0, .ref (ad 108)), (1, .int (iI fi)), (2, .int (iI c)), (3, .int (iI 0))]) [1, 2, 3, 0] dX6_hour_141 rfl rfl (by decide) rfl rfl ?_
          refine aw_aload_n (q := 143) 0 dX6_hour_142 rfl rfl rfl ?_
          refine aw_iload_n (q := 144) 2 dX6_hour_143 rfl rfl rfl ?_
          refine aw_bipush (q := 146) dX6_hour_144 rfl (by decide) ?_
          refine aw_iload_n (q := 147) 3 dX6_hour_146 rfl rfl rfl ?_
          refine aw_iconst (q := 148) dX6_hour_147 rfl ?_
          refine aw_icmp_ne (q := 151) dX6_hour_148 rfl (t := 155) (by decide) (by omega) (by omega) (fun _ => ?_) (fun h => absurd h (by omega))
          refine aw_iload_n (q := 156) 3 dX6_hour_155 rfl rfl rfl ?_
          refine cv_V (q := 159) (CC := "") (id := 108) (As := [.int (iI c), .int (iI 9), .int (iI 0)]) 3 (c_lay (T := T) (D := D) (ad := ad) (onR G 12 (up h 12 (G 12 12))) (by omega) (by omega)) (fun _ h => h) (by omega) (cell_108 ad C _) rfl wc_X6_lay wm_RX6_92 wi_X6_lay ws_X6_lay wn_X6 (by decide) rfl ⟨Nat.le_of_ble_eq_true rfl, Nat.le_of_ble_eq_true rfl⟩ ⟨Nat.le_of_ble_eq_true rfl, Nat.le_of_ble_eq_true rfl⟩ (Nat.le_of_ble_eq_true rfl) dX6_hour_156 rfl (fun G9 h9 => ?_)
          rw [h9]
          clear h9
          refine aw_iload_n (q := 160) 3 dX6_hour_159 rfl rfl rfl ?_
          refine aw_iconst (q := 161) dX6_hour_160 rfl ?_
          refine aw_icmp_ne (q := 164) dX6_hour_161 rfl (t := 179) (by decide) (by omega) (by omega) (fun _ => ?_) (fun h => absurd h (by omega))
          refine ae_iinc (q := 182) (lv2 := [(0, .ref (ad 108)), (1, .int (iI fi)), (2, .int (iI (c + 1))), (3, .int (iI 0))]) 2 [1, 2, 0, 3] (c + 1) (by omega) dX6_hour_179 rfl rfl (by decide) rfl ?_
          refine aw_goto (q := 74) dX6_hour_182 (by decide) ?_
          refine aw_sub [0, 1, 2] rfl ?_
          have e8 : 0 = rCom h c := by first | exact (com_1 (by omega) (by omega)).symm | exact (com_0 (by omega)).symm
          have e7 := rWatch_12 (h := h) (c := c) hc (by omega)
          rw [setG_onR, watch_1 hc (by omega) e8 (by omega)]
          exact ih (c + 1) _ fi (by omega) (by omega) (by omega) (by rw [foldR_succ _ _ hc, ← hh]) (by show _ = rWatch h c 12 - _; omega)
        · refine aw_aload_n (q := 116) 0 dX6_hour_115 rfl rfl rfl ?_
          refine aw_iload_n (q := 117) 2 dX6_hour_116 rfl rfl rfl ?_
          refine aw_iconst (q := 118) dX6_hour_117 rfl ?_
          refine ae_iadd (q := 119) (c + 1) (by omega) dX6_hour_118 rfl ?_
          refine aw_bipush (q := 121) dX6_hour_119 rfl (by decide) ?_
          refine cv_I (q := 124) (CC := "") (id := 108) (As := [.int (iI (c + 1)), .int (iI 11)]) 2 (c_of (T := T) (D := D) (ad := ad) (onR G 12 (up h 12 (G 12 12))) (by omega) (by omega)) (fun _ h => h) (by omega) (cell_108 ad C _) rfl wc_X6_of wm_RX6_100 wi_X6_of ws_X6_of wn_X6 (by decide) rfl ⟨Nat.le_of_ble_eq_true rfl, Nat.le_of_ble_eq_true rfl⟩ ⟨Nat.le_of_ble_eq_true rfl, Nat.le_of_ble_eq_true rfl⟩ (Nat.le_of_ble_eq_true rfl) dX6_hour_121 rfl (fun r9 G9 h9 => ?_)
          obtain ⟨e9, g9⟩ := h9
          rw [e9.trans ((((congrFun (onR_at _ _ _) _).trans (up_n (by omega))))), g9]
          clear e9 g9
          refine aw_iconst (q := 125) dX6_hour_124 rfl ?_
          refine aw_icmp_ne (q := 128) dX6_hour_125 rfl (t := 140) (by decide) (by omega) (by omega) (fun y7 => ?_) (fun y8 => ?_)
          · refine aw_iconst (q := 141) dX6_hour_140 rfl ?_
            refine aw_istore_n (q := 142) (lv2 := [(0, .ref (ad 108)), (1, .int (iI fi)), (2, .int (iI c)), (3, .int (iI 0))]) [1, 2, 3, 0] dX6_hour_141 rfl rfl (by decide) rfl rfl ?_
            refine aw_aload_n (q := 143) 0 dX6_hour_142 rfl rfl rfl ?_
            refine aw_iload_n (q := 144) 2 dX6_hour_143 rfl rfl rfl ?_
            refine aw_bipush (q := 146) dX6_hour_144 rfl (by decide) ?_
            refine aw_iload_n (q := 147) 3 dX6_hour_146 rfl rfl rfl ?_
            refine aw_iconst (q := 148) dX6_hour_147 rfl ?_
            refine aw_icmp_ne (q := 151) dX6_hour_148 rfl (t := 155) (by decide) (by omega) (by omega) (fun _ => ?_) (fun h => absurd h (by omega))
            refine aw_iload_n (q := 156) 3 dX6_hour_155 rfl rfl rfl ?_
            refine cv_V (q := 159) (CC := "") (id := 108) (As := [.int (iI c), .int (iI 9), .int (iI 0)]) 3 (c_lay (T := T) (D := D) (ad := ad) (onR G 12 (up h 12 (G 12 12))) (by omega) (by omega)) (fun _ h => h) (by omega) (cell_108 ad C _) rfl wc_X6_lay wm_RX6_92 wi_X6_lay ws_X6_lay wn_X6 (by decide) rfl ⟨Nat.le_of_ble_eq_true rfl, Nat.le_of_ble_eq_true rfl⟩ ⟨Nat.le_of_ble_eq_true rfl, Nat.le_of_ble_eq_true rfl⟩ (Nat.le_of_ble_eq_true rfl) dX6_hour_156 rfl (fun G9 h9 => ?_)
            rw [h9]
            clear h9
            refine aw_iload_n (q := 160) 3 dX6_hour_159 rfl rfl rfl ?_
            refine aw_iconst (q := 161) dX6_hour_160 rfl ?_
            refine aw_icmp_ne (q := 164) dX6_hour_161 rfl (t := 179) (by decide) (by omega) (by omega) (fun _ => ?_) (fun h => absurd h (by omega))
            refine ae_iinc (q := 182) (lv2 := [(0, .ref (ad 108)), (1, .int (iI fi)), (2, .int (iI (c + 1))), (3, .int (iI 0))]) 2 [1, 2, 0, 3] (c + 1) (by omega) dX6_hour_179 rfl rfl (by decide) rfl ?_
            refine aw_goto (q := 74) dX6_hour_182 (by decide) ?_
            refine aw_sub [0, 1, 2] rfl ?_
            have e8 : 0 = rCom h c := by first | exact (com_1 (by omega) (by omega)).symm | exact (com_0 (by omega)).symm
            have e7 := rWatch_12 (h := h) (c := c) hc (by omega)
            rw [setG_onR, watch_1 hc (by omega) e8 (by omega)]
            exact ih (c + 1) _ fi (by omega) (by omega) (by omega) (by rw [foldR_succ _ _ hc, ← hh]) (by show _ = rWatch h c 12 - _; omega)
          · refine aw_aload_n (q := 129) 0 dX6_hour_128 rfl rfl rfl ?_
            refine aw_iload_n (q := 130) 2 dX6_hour_129 rfl rfl rfl ?_
            refine aw_bipush (q := 132) dX6_hour_130 rfl (by decide) ?_
            refine cv_I (q := 135) (CC := "") (id := 108) (As := [.int (iI c), .int (iI 9)]) 2 (c_of (T := T) (D := D) (ad := ad) (onR G 12 (up h 12 (G 12 12))) (by omega) (by omega)) (fun _ h => h) (by omega) (cell_108 ad C _) rfl wc_X6_of wm_RX6_100 wi_X6_of ws_X6_of wn_X6 (by decide) rfl ⟨Nat.le_of_ble_eq_true rfl, Nat.le_of_ble_eq_true rfl⟩ ⟨Nat.le_of_ble_eq_true rfl, Nat.le_of_ble_eq_true rfl⟩ (Nat.le_of_ble_eq_true rfl) dX6_hour_132 rfl (fun r9 G9 h9 => ?_)
            obtain ⟨e9, g9⟩ := h9
            rw [e9.trans ((((congrFun (onR_at _ _ _) _).trans (up_n (by omega))))), g9]
            clear e9 g9
            refine aw_iconst (q := 136) dX6_hour_135 rfl ?_
            refine ae_iadd (q := 137) ((h (15 + 12 * c + 9)) + 1) (by omega) dX6_hour_136 rfl ?_
            refine aw_goto (q := 141) dX6_hour_137 (by decide) ?_
            refine aw_istore_n (q := 142) (lv2 := [(0, .ref (ad 108)), (1, .int (iI fi)), (2, .int (iI c)), (3, .int (iI ((h (15 + 12 * c + 9)) + 1)))]) [1, 2, 3, 0] dX6_hour_141 rfl rfl (by decide) rfl rfl ?_
            refine aw_aload_n (q := 143) 0 dX6_hour_142 rfl rfl rfl ?_
            refine aw_iload_n (q := 144) 2 dX6_hour_143 rfl rfl rfl ?_
            refine aw_bipush (q := 146) dX6_hour_144 rfl (by decide) ?_
            refine aw_iload_n (q := 147) 3 dX6_hour_146 rfl rfl rfl ?_
            refine aw_iconst (q := 148) dX6_hour_147 rfl ?_
            refine aw_icmp_ne (q := 151) dX6_hour_148 rfl (t := 155) (by decide) (by omega) (by omega) (fun y9 => ?_) (fun y10 => ?_)
            · refine aw_iload_n (q := 156) 3 dX6_hour_155 rfl rfl rfl ?_
              refine cv_V (q := 159) (CC := "") (id := 108) (As := [.int (iI c), .int (iI 9), .int (iI ((h (15 + 12 * c + 9)) + 1))]) 3 (c_lay (T := T) (D := D) (ad := ad) (onR G 12 (up h 12 (G 12 12))) (by omega) (by omega)) (fun _ h => h) (by omega) (cell_108 ad C _) rfl wc_X6_lay wm_RX6_92 wi_X6_lay ws_X6_lay wn_X6 (by decide) rfl ⟨Nat.le_of_ble_eq_true rfl, Nat.le_of_ble_eq_true rfl⟩ ⟨Nat.le_of_ble_eq_true rfl, Nat.le_of_ble_eq_true rfl⟩ (Nat.le_of_ble_eq_true rfl) dX6_hour_156 rfl (fun G9 h9 => ?_)
              rw [h9]
              clear h9
              refine aw_iload_n (q := 160) 3 dX6_hour_159 rfl rfl rfl ?_
              refine aw_iconst (q := 161) dX6_hour_160 rfl ?_
              refine aw_icmp_ne (q := 164) dX6_hour_161 rfl (t := 179) (by decide) (by omega) (by omega) (fun y11 => ?_) (fun y12 => ?_)
              · refine ae_iinc (q := 182) (lv2 := [(0, .ref (ad 108)), (1, .int (iI fi)), (2, .int (iI (c + 1))), (3, .int (iI ((h (15 + 12 * c + 9)) + 1)))]) 2 [1, 2, 0, 3] (c + 1) (by omega) dX6_hour_179 rfl rfl (by decide) rfl ?_
                refine aw_goto (q := 74) dX6_hour_182 (by decide) ?_
                refine aw_sub [0, 1, 2] rfl ?_
                have e8 : ((h (15 + 12 * c + 9)) + 1) = rCom h c := by first | exact (com_1 (by omega) (by omega)).symm | exact (com_0 (by omega)).symm
                have e7 := rWatch_12 (h := h) (c := c) hc (by omega)
                rw [setG_onR, watch_1 hc (by omega) e8 (by omega)]
                exact ih (c + 1) _ fi (by omega) (by omega) (by omega) (by rw [foldR_succ _ _ hc, ← hh]) (by show _ = rWatch h c 12 - _; omega)
              · exact (by omega : False).elim
            · refine aw_iconst (q := 152) dX6_hour_151 rfl ?_
              refine aw_goto (q := 156) dX6_hour_152 (by decide) ?_
              refine cv_V (q := 159) (CC := "") (id := 108) (As := [.int (iI c), .int (iI 9), .int (iI 0)]) 3 (c_lay (T := T) (D := D) (ad := ad) (onR G 12 (up h 12 (G 12 12))) (by omega) (by omega)) (fun _ h => h) (by omega) (cell_108 ad C _) rfl wc_X6_lay wm_RX6_92 wi_X6_lay ws_X6_lay wn_X6 (by decide) rfl ⟨Nat.le_of_ble_eq_true rfl, Nat.le_of_ble_eq_true rfl⟩ ⟨Nat.le_of_ble_eq_true rfl, Nat.le_of_ble_eq_true rfl⟩ (Nat.le_of_ble_eq_true rfl) dX6_hour_156 rfl (fun G9 h9 => ?_)
              rw [h9]
              clear h9
              refine aw_iload_n (q := 160) 3 dX6_hour_159 rfl rfl rfl ?_
              refine aw_iconst (q := 161) dX6_hour_160 rfl ?_
              refine aw_icmp_ne (q := 164) dX6_hour_161 rfl (t := 179) (by decide) (by omega) (by omega) (fun y13 => ?_) (fun y14 => ?_)
              · refine ae_iinc (q := 182) (lv2 := [(0, .ref (ad 108)), (1, .int (iI fi)), (2, .int (iI (c + 1))), (3, .int (iI ((h (15 + 12 * c + 9)) + 1)))]) 2 [1, 2, 0, 3] (c + 1) (by omega) dX6_hour_179 rfl rfl (by decide) rfl ?_
                refine aw_goto (q := 74) dX6_hour_182 (by decide) ?_
                refine aw_sub [0, 1, 2] rfl ?_
                have e8 : 0 = rCom h c := by first | exact (com_1 (by omega) (by omega)).symm | exact (com_0 (by omega)).symm
                have e7 := rWatch_12 (h := h) (c := c) hc (by omega)
                rw [setG_onR, watch_1 hc (by omega) e8 (by omega)]
                exact ih (c + 1) _ fi (by omega) (by omega) (by omega) (by rw [foldR_succ _ _ hc, ← hh]) (by show _ = rWatch h c 12 - _; omega)
              · refine aw_aload_n (q := 165) 0 dX6_hour_164 rfl rfl rfl ?_
                refine aw_iload_n (q := 166) 2 dX6_hour_165 rfl rfl rfl ?_
                refine cv_V (q := 169) (CC := "") (id := 108) (As := [.int (iI c)]) 1 ((by have := c_isFined (l := l) (T := T) (D := D) (C := C) (ad := ad) (onR G 12 (up (up h 12 (G 12 12)) (15 + 12 * c + 9) 0)) (c := c) hc8 (by rw [onR_at]; exact fArgs_up (fA12 (by omega) (okC_fineArgs okc))) (by rw [onR_at, up_n (by omega), up_n (by omega), hv.1 4 (by omega)]; have := o.1.2.2.2.2; omega); rw [onR_at, onR_onR, show (up (up h 12 (G 12 12)) (15 + 12 * c + 9) 0) 4 = G 12 4 from (up_n (by omega)).trans ((up_n (by omega)).trans (hv.1 4 (by omega))), ← setG_onR] at this; exact this)) (fun _ h => h) (by omega) (cell_108 ad C _) rfl wc_X6_isFined wm_RX6_143 wi_X6_isFined ws_X6_isFined wn_X6 (by decide) rfl ⟨Nat.le_of_ble_eq_true rfl, Nat.le_of_ble_eq_true rfl⟩ ⟨Nat.le_of_ble_eq_true rfl, Nat.le_of_ble_eq_true rfl⟩ (Nat.le_of_ble_eq_true rfl) dX6_hour_166 rfl (fun G9 h9 => ?_)
                rw [h9]
                clear h9
                refine aw_aload_n (q := 170) 0 dX6_hour_169 rfl rfl rfl ?_
                refine aw_iload_n (q := 171) 2 dX6_hour_170 rfl rfl rfl ?_
                refine aw_iconst (q := 172) dX6_hour_171 rfl ?_
                refine ae_iadd (q := 173) (c + 1) (by omega) dX6_hour_172 rfl ?_
                refine cv_V (q := 176) (CC := "") (id := 108) (As := [.int (iI (c + 1))]) 1 ((by have := c_isFined (l := l) (T := T) (D := D) (C := C) (ad := ad) (onR G 12 (rFine (up (up h 12 (G 12 12)) (15 + 12 * c + 9) 0) c (G 12 4))) (c := c + 1) (by omega) (by rw [onR_at]; exact fA_fine (fArgs_up (fA12 (by omega) (okC_fineArgs okn)))) (by rw [onR_at, rFine_ne (by omega) (by omega), up_n (by omega), up_n (by omega), hv.1 4 (by omega)]; have := o.1.2.2.2.2; omega); rw [onR_at, onR_onR, show (rFine (up (up h 12 (G 12 12)) (15 + 12 * c + 9) 0) c (G 12 4)) 4 = G 12 4 from (rFine_ne (by omega) (by omega)).trans ((up_n (by omega)).trans ((up_n (by omega)).trans (hv.1 4 (by omega))))] at this; exact this)) (fun _ h => h) (by omega) (cell_108 ad C _) rfl wc_X6_isFined wm_RX6_143 wi_X6_isFined ws_X6_isFined wn_X6 (by decide) rfl ⟨Nat.le_of_ble_eq_true rfl, Nat.le_of_ble_eq_true rfl⟩ ⟨Nat.le_of_ble_eq_true rfl, Nat.le_of_ble_eq_true rfl⟩ (Nat.le_of_ble_eq_true rfl) dX6_hour_173 rfl (fun G9 h9 => ?_)
                rw [h9]
                clear h9
                refine ae_iinc (q := 179) (lv2 := [(0, .ref (ad 108)), (1, .int (iI (fi + 1))), (2, .int (iI c)), (3, .int (iI ((h (15 + 12 * c + 9)) + 1)))]) 1 [1, 0, 2, 3] (fi + 1) (by omega) dX6_hour_176 rfl rfl (by decide) rfl ?_
                refine ae_iinc (q := 182) (lv2 := [(0, .ref (ad 108)), (1, .int (iI (fi + 1))), (2, .int (iI (c + 1))), (3, .int (iI ((h (15 + 12 * c + 9)) + 1)))]) 2 [1, 2, 0, 3] (c + 1) (by omega) dX6_hour_179 rfl rfl (by decide) rfl ?_
                refine aw_goto (q := 74) dX6_hour_182 (by decide) ?_
                refine aw_sub [0, 1, 2] rfl ?_
                have e8 : rCom h c = 2 := (com_1 (by omega) (by omega)).trans (by omega)
                have e7 := watch_2 (h := h) (c := c) (w := G 12 12) (f := G 12 4) hc (by omega) e8 (hv.1 4 (by omega))
                rw [e7.1]
                exact ih (c + 1) _ _ (by omega) (by omega) (by omega) (by rw [foldR_succ _ _ hc, ← hh]) (by show _ = rWatch h c 12 - _; rw [e7.2]; omega)
theorem h2_12 {g : Row} (o : okH g) : h2R g 12 = g 12 := by
  have a : ∀ n : Nat, foldR (f1 g) g n 12 = g 12 := by
    intro n
    induction n with
    | zero => rfl
    | succ n ih => exact ((rSet_spec _ n (g 0) (g 1)).1 12 (by omega) (by omega) (by omega)).trans ih
  have b : ∀ n : Nat, foldR f2 (h1R g) n 12 = g 12 := by
    intro n
    induction n with
    | zero => exact a _
    | succ n ih => exact (rBan_ne (by omega)).trans ih
  exact b _
set_option maxHeartbeats 4000000 in
set_option maxRecDepth 100000 in
theorem M_hour2 {l : Launch} {D : va_G} {C : Nat → ClassId} {T : Nat → Nat} {ad : Int → Nat} (G : GG) (o : okH (G 12)) : ∀ (n : Nat) (c : Int) (h : Row), 0 ≤ c → c ≤ G 12 13 → G 12 13 - c < n → h = foldR f2 (h1R (G 12)) c.toNat → AW l RX6 "hour" cX6_hour 4 (some .int) (fun _ => True) { frames := 3, cells := 0, slots := 0, locals := 80 } (hvE D (RI ad C (fun r G1 => r = hourR (G 12) 12 - G 12 12 ∧ G1 = onR G 12 (hourR (G 12)))) (cw ad C G) 0 0) D (tyC C) (hvZ T (cw ad C G)) (cw ad C G) 28 [(0, .ref (ad 108)), (1, .int (iI 0)), (2, .int (iI c))] [] (cw ad C ((onR G 12 h))) 0 0 := by
  intro n
  induction n with
  | zero => intro c h hc hd hn; exact absurd hn (by have := o.2.1; omega)
  | succ n ih =>
    intro c h hc hd hn hh
    have o1 := o.2.1
    have hv : hInv (G 12) h := by rw [hh]; exact inv2 o c.toNat (by omega)
    refine aw_iload_n (q := 29) 2 dX6_hour_28 rfl rfl rfl ?_
    refine aw_aload_n (q := 30) 0 dX6_hour_29 rfl rfl rfl ?_
    refine g_mod_p (q := 33) wf_RX6_7 dX6_hour_30 rfl ?_
    refine aw_bipush (q := 35) dX6_hour_33 rfl (by decide) ?_
    refine aw_cial (q := 36) (v := (G 12 13)) 13 (ar_109 ad C) (by omega) (by omega) (((congrFun (onR_at _ _ _) _).trans (hv.1 _ (by omega)))) dX6_hour_35 rfl ?_
    refine aw_icmp_ge (q := 39) dX6_hour_36 rfl (t := 72) (by decide) (by omega) (by omega) (fun y1 => ?_) (fun y2 => ?_)
    · refine aw_iconst (q := 73) dX6_hour_72 rfl ?_
      refine aw_istore_n (q := 74) (lv2 := [(0, .ref (ad 108)), (1, .int (iI 0)), (2, .int (iI 0))]) [1, 2, 0] dX6_hour_73 rfl rfl (by decide) rfl rfl ?_
      have e9 : h = h2R (G 12) := by rw [hh]; unfold h2R; rw [show c = G 12 13 by omega]
      have e8 : h 12 = G 12 12 := by rw [e9]; exact h2_12 o
      have e7 := M_hour3 (l := l) (T := T) (D := D) (C := C) (ad := ad) G o 9 0 h 0 (by omega) (by omega) (by omega) e9 (by omega)
      rw [up_id e8] at e7
      exact e7
    · have hc8 : 0 ≤ c ∧ c < 8 := by omega
      have okc := hv.2 c hc (by omega)
      have ok8 := okc.2.2.2.2.2.2.2.1
      have z1 := okc.2.2.2.2.2.1
      refine aw_aload_n (q := 40) 0 dX6_hour_39 rfl rfl rfl ?_
      refine aw_iload_n (q := 41) 2 dX6_hour_40 rfl rfl rfl ?_
      refine aw_iconst (q := 42) dX6_hour_41 rfl ?_
      refine aw_aload_n (q := 43) 0 dX6_hour_42 rfl rfl rfl ?_
      refine aw_iload_n (q := 44) 2 dX6_hour_43 rfl rfl rfl ?_
      refine aw_iconst (q := 45) dX6_hour_44 rfl ?_
      refine cv_I (q := 48) (CC := "") (id := 108) (As := [.int (iI c), .int (iI 5)]) 2 (c_of (T := T) (D := D) (ad := ad) (onR G 12 h) (by omega) (by omega)) (fun _ h => h) (by omega) (cell_108 ad C _) rfl wc_X6_of wm_RX6_100 wi_X6_of ws_X6_of wn_X6 (by decide) rfl ⟨Nat.le_of_ble_eq_true rfl, Nat.le_of_ble_eq_true rfl⟩ ⟨Nat.le_of_ble_eq_true rfl, Nat.le_of_ble_eq_true rfl⟩ (Nat.le_of_ble_eq_true rfl) dX6_hour_45 rfl (fun r9 G9 h9 => ?_)
      obtain ⟨e9, g9⟩ := h9
      rw [e9.trans (((congrFun (onR_at _ _ _) _))), g9]
      clear e9 g9
      refine aw_if_le (q := 51) dX6_hour_48 rfl (t := 62) (by decide) (by omega) (fun y3 => ?_) (fun y4 => ?_)
      · refine aw_iconst (q := 63) dX6_hour_62 rfl ?_
        refine cv_V (q := 66) (CC := "") (id := 108) (As := [.int (iI c), .int (iI 5), .int (iI 0)]) 3 (c_lay (T := T) (D := D) (ad := ad) (onR G 12 h) (by omega) (by omega)) (fun _ h => h) (by omega) (cell_108 ad C _) rfl wc_X6_lay wm_RX6_92 wi_X6_lay ws_X6_lay wn_X6 (by decide) rfl ⟨Nat.le_of_ble_eq_true rfl, Nat.le_of_ble_eq_true rfl⟩ ⟨Nat.le_of_ble_eq_true rfl, Nat.le_of_ble_eq_true rfl⟩ (Nat.le_of_ble_eq_true rfl) dX6_hour_63 rfl (fun G9 h9 => ?_)
        rw [h9]
        clear h9
        refine ae_iinc (q := 69) (lv2 := [(0, .ref (ad 108)), (1, .int (iI 0)), (2, .int (iI (c + 1)))]) 2 [1, 2, 0] (c + 1) (by omega) dX6_hour_66 rfl rfl (by decide) rfl ?_
        refine aw_goto (q := 28) dX6_hour_69 (by decide) ?_
        rw [ban_2 (by omega)]
        exact ih (c + 1) _ (by omega) (by omega) (by omega) (by rw [foldR_succ _ _ hc, ← hh])
      · refine aw_aload_n (q := 52) 0 dX6_hour_51 rfl rfl rfl ?_
        refine aw_iload_n (q := 53) 2 dX6_hour_52 rfl rfl rfl ?_
        refine aw_iconst (q := 54) dX6_hour_53 rfl ?_
        refine cv_I (q := 57) (CC := "") (id := 108) (As := [.int (iI c), .int (iI 5)]) 2 (c_of (T := T) (D := D) (ad := ad) (onR G 12 h) (by omega) (by omega)) (fun _ h => h) (by omega) (cell_108 ad C _) rfl wc_X6_of wm_RX6_100 wi_X6_of ws_X6_of wn_X6 (by decide) rfl ⟨Nat.le_of_ble_eq_true rfl, Nat.le_of_ble_eq_true rfl⟩ ⟨Nat.le_of_ble_eq_true rfl, Nat.le_of_ble_eq_true rfl⟩ (Nat.le_of_ble_eq_true rfl) dX6_hour_54 rfl (fun r9 G9 h9 => ?_)
        obtain ⟨e9, g9⟩ := h9
        rw [e9.trans (((congrFun (onR_at _ _ _) _))), g9]
        clear e9 g9
        refine aw_iconst (q := 58) dX6_hour_57 rfl ?_
        refine ae_isub (q := 59) ((h (15 + 12 * c + 5)) - 1) (by omega) dX6_hour_58 rfl ?_
        refine aw_goto (q := 63) dX6_hour_59 (by decide) ?_
        refine cv_V (q := 66) (CC := "") (id := 108) (As := [.int (iI c), .int (iI 5), .int (iI ((h (15 + 12 * c + 5)) - 1))]) 3 (c_lay (T := T) (D := D) (ad := ad) (onR G 12 h) (by omega) (by omega)) (fun _ h => h) (by omega) (cell_108 ad C _) rfl wc_X6_lay wm_RX6_92 wi_X6_lay ws_X6_lay wn_X6 (by decide) rfl ⟨Nat.le_of_ble_eq_true rfl, Nat.le_of_ble_eq_true rfl⟩ ⟨Nat.le_of_ble_eq_true rfl, Nat.le_of_ble_eq_true rfl⟩ (Nat.le_of_ble_eq_true rfl) dX6_hour_63 rfl (fun G9 h9 => ?_)
        rw [h9]
        clear h9
        refine ae_iinc (q := 69) (lv2 := [(0, .ref (ad 108)), (1, .int (iI 0)), (2, .int (iI (c + 1)))]) 2 [1, 2, 0] (c + 1) (by omega) dX6_hour_66 rfl rfl (by decide) rfl ?_
        refine aw_goto (q := 28) dX6_hour_69 (by decide) ?_
        rw [ban_1 (by omega)]
        exact ih (c + 1) _ (by omega) (by omega) (by omega) (by rw [foldR_succ _ _ hc, ← hh])
set_option maxHeartbeats 4000000 in
set_option maxRecDepth 100000 in
theorem M_hour1 {l : Launch} {D : va_G} {C : Nat → ClassId} {T : Nat → Nat} {ad : Int → Nat} (G : GG) (o : okH (G 12)) : ∀ (n : Nat) (c : Int) (h : Row), 0 ≤ c → c ≤ G 12 13 → G 12 13 - c < n → h = foldR (f1 (G 12)) (G 12) c.toNat → AW l RX6 "hour" cX6_hour 4 (some .int) (fun _ => True) { frames := 3, cells := 0, slots := 0, locals := 80 } (hvE D (RI ad C (fun r G1 => r = hourR (G 12) 12 - G 12 12 ∧ G1 = onR G 12 (hourR (G 12)))) (cw ad C G) 0 0) D (tyC C) (hvZ T (cw ad C G)) (cw ad C G) 4 [(0, .ref (ad 108)), (1, .int (iI 0)), (2, .int (iI c))] [] (cw ad C ((onR G 12 h))) 0 0 := by
  intro n
  induction n with
  | zero => intro c h hc hd hn; exact absurd hn (by have := o.2.1; omega)
  | succ n ih =>
    intro c h hc hd hn hh
    have o1 := o.2.1
    have hv : hInv (G 12) h := by rw [hh]; exact inv1 o c.toNat (by omega)
    refine aw_iload_n (q := 5) 2 dX6_hour_4 rfl rfl rfl ?_
    refine aw_aload_n (q := 6) 0 dX6_hour_5 rfl rfl rfl ?_
    refine g_mod_p (q := 9) wf_RX6_7 dX6_hour_6 rfl ?_
    refine aw_bipush (q := 11) dX6_hour_9 rfl (by decide) ?_
    refine aw_cial (q := 12) (v := (G 12 13)) 13 (ar_109 ad C) (by omega) (by omega) (((congrFun (onR_at _ _ _) _).trans (hv.1 _ (by omega)))) dX6_hour_11 rfl ?_
    refine aw_icmp_ge (q := 15) dX6_hour_12 rfl (t := 26) (by decide) (by omega) (by omega) (fun y1 => ?_) (fun y2 => ?_)
    · refine aw_iconst (q := 27) dX6_hour_26 rfl ?_
      refine aw_istore_n (q := 28) (lv2 := [(0, .ref (ad 108)), (1, .int (iI 0)), (2, .int (iI 0))]) [1, 2, 0] dX6_hour_27 rfl rfl (by decide) rfl rfl ?_
      exact M_hour2 G o 9 0 h (by omega) (by omega) (by omega) (by rw [hh]; show _ = foldR _ _ (G 12 13).toNat; rw [show c = G 12 13 by omega])
    · have hc8 : 0 ≤ c ∧ c < 8 := by omega
      have okc := hv.2 c hc (by omega)
      have ok8 := okc.2.2.2.2.2.2.2.1
      refine aw_aload_n (q := 16) 0 dX6_hour_15 rfl rfl rfl ?_
      refine aw_iload_n (q := 17) 2 dX6_hour_16 rfl rfl rfl ?_
      refine cv_V (q := 20) (CC := "") (id := 108) (As := [.int (iI c)]) 1 ((by have := c_setsPrice (l := l) (T := T) (D := D) (C := C) (ad := ad) (onR G 12 h) hc8 (by rw [onR_at]; exact ok8) (by rw [onR_at]; exact okC_fineArgs okc); rw [onR_at, onR_onR, hv.1 0 (by omega), hv.1 1 (by omega)] at this; exact this)) (fun _ h => h) (by omega) (cell_108 ad C _) rfl wc_X6_setsPrice wm_RX6_139 wi_X6_setsPrice ws_X6_setsPrice wn_X6 (by decide) rfl ⟨Nat.le_of_ble_eq_true rfl, Nat.le_of_ble_eq_true rfl⟩ ⟨Nat.le_of_ble_eq_true rfl, Nat.le_of_ble_eq_true rfl⟩ (Nat.le_of_ble_eq_true rfl) dX6_hour_17 rfl (fun G9 h9 => ?_)
      rw [h9]
      clear h9
      refine ae_iinc (q := 23) (lv2 := [(0, .ref (ad 108)), (1, .int (iI 0)), (2, .int (iI (c + 1)))]) 2 [1, 2, 0] (c + 1) (by omega) dX6_hour_20 rfl rfl (by decide) rfl ?_
      refine aw_goto (q := 4) dX6_hour_23 (by decide) ?_
      exact ih (c + 1) _ (by omega) (by omega) (by omega) (by rw [foldR_succ _ _ hc, ← hh])
set_option maxHeartbeats 4000000 in
set_option maxRecDepth 100000 in
theorem c_hourM {l : Launch} {D : va_G} {C : Nat → ClassId} {T : Nat → Nat} {ad : Int → Nat} (G : GG) (o : okH (G 12)) : MC l yX6_hour cX6_hour 4 (some .int) 3 80 0 0 D (tyC C) T [.ref (ad 108)] (cw ad C G) (RI ad C (fun r G1 => r = hourR (G 12) 12 - G 12 12 ∧ G1 = onR G 12 (hourR (G 12)))) := by
  refine mc_of (by decide +kernel) (Nat.le_of_ble_eq_true rfl) rfl ?_
  refine aw_iconst (q := 1) dX6_hour_0 rfl ?_
  refine aw_istore_n (q := 2) (lv2 := [(0, .ref (ad 108)), (1, .int (iI 0))]) [1, 0] dX6_hour_1 rfl rfl (by decide) rfl rfl ?_
  refine aw_iconst (q := 3) dX6_hour_2 rfl ?_
  refine aw_istore_n (q := 4) (lv2 := [(0, .ref (ad 108)), (1, .int (iI 0)), (2, .int (iI 0))]) [1, 2, 0] dX6_hour_3 rfl rfl (by decide) rfl rfl ?_
  have e9 := M_hour1 (l := l) (T := T) (D := D) (C := C) (ad := ad) G o 9 0 (G 12) (by omega) (by have := o.2.1; omega) (by have := o.2.1; omega) rfl
  rw [onR_id] at e9
  exact e9
