/-! numbers by name; the law's pays -/
theorem n_v0 {l : Launch} {D : va_G} {C : Nat → ClassId} {T : Nat → Nat} {ad : Int → Nat} (hst : l.stackTraces = false) {t : Int} {G K : GG} (ht : t ≤ 1000) (o : okI t G) (e : eq0 G K) : MC l yX5_value cX5_value 2 (some .int) 6 95 0 0 D (tyC C) T [.ref (ad 102), .int (iI 0)] (cw ad C K) (RI ad C (fun r G1 => r = (G 0 13) ∧ G1 = K)) := mc_ri (n_value hst ht o e (by omega)) (fun r G1 h => ⟨h.1, h.2⟩)
theorem n_v1 {l : Launch} {D : va_G} {C : Nat → ClassId} {T : Nat → Nat} {ad : Int → Nat} (hst : l.stackTraces = false) {t : Int} {G K : GG} (ht : t ≤ 1000) (o : okI t G) (e : eq0 G K) : MC l yX5_value cX5_value 2 (some .int) 6 95 0 0 D (tyC C) T [.ref (ad 102), .int (iI 1)] (cw ad C K) (RI ad C (fun r G1 => r = (G 0 10) ∧ G1 = K)) := mc_ri (n_value hst ht o e (by omega)) (fun r G1 h => ⟨h.1, h.2⟩)
theorem n_v2 {l : Launch} {D : va_G} {C : Nat → ClassId} {T : Nat → Nat} {ad : Int → Nat} (hst : l.stackTraces = false) {t : Int} {G K : GG} (ht : t ≤ 1000) (o : okI t G) (e : eq0 G K) : MC l yX5_value cX5_value 2 (some .int) 6 95 0 0 D (tyC C) T [.ref (ad 102), .int (iI 2)] (cw ad C K) (RI ad C (fun r G1 => r = (worthF (G 0) 5) ∧ G1 = K)) := mc_ri (n_value hst ht o e (by omega)) (fun r G1 h => ⟨h.1, h.2⟩)
theorem n_v3 {l : Launch} {D : va_G} {C : Nat → ClassId} {T : Nat → Nat} {ad : Int → Nat} (hst : l.stackTraces = false) {t : Int} {G K : GG} (ht : t ≤ 1000) (o : okI t G) (e : eq0 G K) : MC l yX5_value cX5_value 2 (some .int) 6 95 0 0 D (tyC C) T [.ref (ad 102), .int (iI 3)] (cw ad C K) (RI ad C (fun r G1 => r = (G 0 9) ∧ G1 = K)) := mc_ri (n_value hst ht o e (by omega)) (fun r G1 h => ⟨h.1, h.2⟩)
theorem n_v4 {l : Launch} {D : va_G} {C : Nat → ClassId} {T : Nat → Nat} {ad : Int → Nat} (hst : l.stackTraces = false) {t : Int} {G K : GG} (ht : t ≤ 1000) (o : okI t G) (e : eq0 G K) : MC l yX5_value cX5_value 2 (some .int) 6 95 0 0 D (tyC C) T [.ref (ad 102), .int (iI 4)] (cw ad C K) (RI ad C (fun r G1 => r = (G 0 14) ∧ G1 = K)) := mc_ri (n_value hst ht o e (by omega)) (fun r G1 h => ⟨h.1, h.2⟩)
theorem n_v5 {l : Launch} {D : va_G} {C : Nat → ClassId} {T : Nat → Nat} {ad : Int → Nat} (hst : l.stackTraces = false) {t : Int} {G K : GG} (ht : t ≤ 1000) (o : okI t G) (e : eq0 G K) : MC l yX5_value cX5_value 2 (some .int) 6 95 0 0 D (tyC C) T [.ref (ad 102), .int (iI 5)] (cw ad C K) (RI ad C (fun r G1 => r = (G 0 311) ∧ G1 = K)) := mc_ri (n_value hst ht o e (by omega)) (fun r G1 h => ⟨h.1, h.2⟩)
theorem n_v6 {l : Launch} {D : va_G} {C : Nat → ClassId} {T : Nat → Nat} {ad : Int → Nat} (hst : l.stackTraces = false) {t : Int} {G K : GG} (ht : t ≤ 1000) (o : okI t G) (e : eq0 G K) : MC l yX5_value cX5_value 2 (some .int) 6 95 0 0 D (tyC C) T [.ref (ad 102), .int (iI 6)] (cw ad C K) (RI ad C (fun r G1 => r = (G 0 11) ∧ G1 = K)) := mc_ri (n_value hst ht o e (by omega)) (fun r G1 h => ⟨h.1, h.2⟩)
theorem n_v7 {l : Launch} {D : va_G} {C : Nat → ClassId} {T : Nat → Nat} {ad : Int → Nat} (hst : l.stackTraces = false) {t : Int} {G K : GG} (ht : t ≤ 1000) (o : okI t G) (e : eq0 G K) : MC l yX5_value cX5_value 2 (some .int) 6 95 0 0 D (tyC C) T [.ref (ad 102), .int (iI 7)] (cw ad C K) (RI ad C (fun r G1 => r = (sumF (G 0) 6 (G 0 13).toNat) ∧ G1 = K)) := mc_ri (n_value hst ht o e (by omega)) (fun r G1 h => ⟨h.1, h.2⟩)
theorem n_v8 {l : Launch} {D : va_G} {C : Nat → ClassId} {T : Nat → Nat} {ad : Int → Nat} (hst : l.stackTraces = false) {t : Int} {G K : GG} (ht : t ≤ 1000) (o : okI t G) (e : eq0 G K) : MC l yX5_value cX5_value 2 (some .int) 6 95 0 0 D (tyC C) T [.ref (ad 102), .int (iI 8)] (cw ad C K) (RI ad C (fun r G1 => r = (sumF (G 0) 7 (G 0 13).toNat) ∧ G1 = K)) := mc_ri (n_value hst ht o e (by omega)) (fun r G1 h => ⟨h.1, h.2⟩)
theorem n_v9 {l : Launch} {D : va_G} {C : Nat → ClassId} {T : Nat → Nat} {ad : Int → Nat} (hst : l.stackTraces = false) {t : Int} {G K : GG} (ht : t ≤ 1000) (o : okI t G) (e : eq0 G K) : MC l yX5_value cX5_value 2 (some .int) 6 95 0 0 D (tyC C) T [.ref (ad 102), .int (iI 9)] (cw ad C K) (RI ad C (fun r G1 => r = (G 0 12) ∧ G1 = K)) := mc_ri (n_value hst ht o e (by omega)) (fun r G1 h => ⟨h.1, h.2⟩)
theorem n_v10 {l : Launch} {D : va_G} {C : Nat → ClassId} {T : Nat → Nat} {ad : Int → Nat} (hst : l.stackTraces = false) {t : Int} {G K : GG} (ht : t ≤ 1000) (o : okI t G) (e : eq0 G K) : MC l yX5_value cX5_value 2 (some .int) 6 95 0 0 D (tyC C) T [.ref (ad 102), .int (iI 10)] (cw ad C K) (RI ad C (fun r G1 => r = (sumF (G 0) 1 (G 0 13).toNat) ∧ G1 = K)) := mc_ri (n_value hst ht o e (by omega)) (fun r G1 h => ⟨h.1, h.2⟩)
theorem c_worth0 {l : Launch} {D : va_G} {C : Nat → ClassId} {T : Nat → Nat} {ad : Int → Nat} (G : GG) : MC l yL_worth cL_worth 1 (some .int) 0 0 0 0 D (tyC C) T [.int (iI 0)] (cw ad C G) (RI ad C (fun r G1 => r = 5 ∧ G1 = G)) := mc_ri (c_worthL G (by omega)) (fun r G1 h => ⟨h.1, h.2⟩)
theorem c_worth1 {l : Launch} {D : va_G} {C : Nat → ClassId} {T : Nat → Nat} {ad : Int → Nat} (G : GG) : MC l yL_worth cL_worth 1 (some .int) 0 0 0 0 D (tyC C) T [.int (iI 1)] (cw ad C G) (RI ad C (fun r G1 => r = 10 ∧ G1 = G)) := mc_ri (c_worthL G (by omega)) (fun r G1 h => ⟨h.1, h.2⟩)
theorem c_worth2 {l : Launch} {D : va_G} {C : Nat → ClassId} {T : Nat → Nat} {ad : Int → Nat} (G : GG) : MC l yL_worth cL_worth 1 (some .int) 0 0 0 0 D (tyC C) T [.int (iI 2)] (cw ad C G) (RI ad C (fun r G1 => r = 20 ∧ G1 = G)) := mc_ri (c_worthL G (by omega)) (fun r G1 h => ⟨h.1, h.2⟩)
theorem c_worth3 {l : Launch} {D : va_G} {C : Nat → ClassId} {T : Nat → Nat} {ad : Int → Nat} (G : GG) : MC l yL_worth cL_worth 1 (some .int) 0 0 0 0 D (tyC C) T [.int (iI 3)] (cw ad C G) (RI ad C (fun r G1 => r = 50 ∧ G1 = G)) := mc_ri (c_worthL G (by omega)) (fun r G1 h => ⟨h.1, h.2⟩)
theorem n_tube0 {l : Launch} {D : va_G} {C : Nat → ClassId} {T : Nat → Nat} {ad : Int → Nat} (hst : l.stackTraces = false) {t : Int} {G K : GG} (ht : t ≤ 1000) (o : okI t G) (e : eq0 G K) : MC l yX5_tube cX5_tube 2 (some .int) 6 95 0 0 D (tyC C) T [.ref (ad 102), .int (iI 0)] (cw ad C K) (RI ad C (fun r G1 => r = G 0 5 ∧ G1 = K)) := mc_ri (n_tube hst ht o e (by omega)) (fun r G1 h => ⟨h.1, h.2⟩)
theorem n_tube1 {l : Launch} {D : va_G} {C : Nat → ClassId} {T : Nat → Nat} {ad : Int → Nat} (hst : l.stackTraces = false) {t : Int} {G K : GG} (ht : t ≤ 1000) (o : okI t G) (e : eq0 G K) : MC l yX5_tube cX5_tube 2 (some .int) 6 95 0 0 D (tyC C) T [.ref (ad 102), .int (iI 1)] (cw ad C K) (RI ad C (fun r G1 => r = G 0 6 ∧ G1 = K)) := mc_ri (n_tube hst ht o e (by omega)) (fun r G1 h => ⟨h.1, h.2⟩)
theorem n_tube2 {l : Launch} {D : va_G} {C : Nat → ClassId} {T : Nat → Nat} {ad : Int → Nat} (hst : l.stackTraces = false) {t : Int} {G K : GG} (ht : t ≤ 1000) (o : okI t G) (e : eq0 G K) : MC l yX5_tube cX5_tube 2 (some .int) 6 95 0 0 D (tyC C) T [.ref (ad 102), .int (iI 2)] (cw ad C K) (RI ad C (fun r G1 => r = G 0 7 ∧ G1 = K)) := mc_ri (n_tube hst ht o e (by omega)) (fun r G1 h => ⟨h.1, h.2⟩)
theorem n_tube3 {l : Launch} {D : va_G} {C : Nat → ClassId} {T : Nat → Nat} {ad : Int → Nat} (hst : l.stackTraces = false) {t : Int} {G K : GG} (ht : t ≤ 1000) (o : okI t G) (e : eq0 G K) : MC l yX5_tube cX5_tube 2 (some .int) 6 95 0 0 D (tyC C) T [.ref (ad 102), .int (iI 3)] (cw ad C K) (RI ad C (fun r G1 => r = G 0 8 ∧ G1 = K)) := mc_ri (n_tube hst ht o e (by omega)) (fun r G1 h => ⟨h.1, h.2⟩)
set_option maxHeartbeats 4000000 in
set_option maxRecDepth 100000 in
theorem LP_pays {l : Launch} {D : va_G} {C : Nat → ClassId} {T : Nat → Nat} {ad : Int → Nat} (hst : l.stackTraces = false) {t : Int} {G K0 : GG} {a : Int} (ht : t ≤ 1000) (o : okI t G) (ha : 0 ≤ a ∧ a ≤ 1000) {su mn nv b m : Int} (hm : 0 ≤ m ∧ m ≤ a) (hb : -1 ≤ b ∧ b ≤ 4) (hno : ∀ x : Int, m < x → x ≤ a → ¬ canF (G 0 5) (G 0 6) (G 0 7) (G 0 8) x) (hfin : a % 5 ≠ 0 → nv = 1 ∧ b = -1) (hnv : 0 ≤ nv ∧ nv ≤ 1) : ∀ (n : Nat) (c : Int) (K : GG), eq0 G K → m < c → c ≤ a + 1 → a + 1 - c < n → AW l RL "pays" cL_pays 9 (some .boolean) (fun _ => True) { frames := 7, cells := 0, slots := 0, locals := 129 } (hvE D (RI ad C (fun r G1 => r = 1 ∧ eq0 G G1)) (cw ad C K0) 0 0) D (tyC C) (hvZ T (cw ad C K0)) (cw ad C K0) 187 [(0, .ref (ad 102)), (1, .int (iI a)), (2, .int (iI su)), (3, .int (iI mn)), (4, .int (iI nv)), (5, .int (iI b)), (6, .int (iI m)), (7, .int (iI 1)), (8, .int (iI c))] [] (cw ad C K) 0 0 := by
  intro n
  induction n with
  | zero => intro c K e h1 h2 h3; omega
  | succ n ih =>
    intro c K e h1 h2 h3
    refine aw_iload (q := 189) 8 dL_pays_187 rfl rfl ?_
    refine aw_iload_n (q := 190) 1 dL_pays_189 rfl rfl rfl ?_
    refine aw_icmp_gt (q := 193) dL_pays_190 rfl (t := 232) (by decide) (by omega) (by omega) (fun h1 => ?_) (fun h2 => ?_)
    · refine aw_iload (q := 234) 7 dL_pays_232 rfl rfl ?_
      refine aw_if_eq (q := 237) dL_pays_234 rfl (t := 258) (by decide) (by omega) (fun h => absurd h (by omega)) (fun _ => ?_)
      refine aw_iload_n (q := 238) 1 dL_pays_237 rfl rfl rfl ?_
      refine aw_iconst (q := 239) dL_pays_238 rfl ?_
      obtain ⟨d1, hd1⟩ : ∃ z, (a % 5) = z := ⟨_, rfl⟩
      refine aw_rem5 (q := 240) (z := d1) (by omega) (by omega) hd1 dL_pays_239 rfl ?_
      refine aw_if_eq (q := 243) dL_pays_240 rfl (t := 254) (by decide) (by omega) (fun h3 => ?_) (fun h4 => ?_)
      · refine aw_iconst (q := 255) dL_pays_254 rfl ?_
        refine aw_goto (q := 259) dL_pays_255 (by decide) ?_
        exact rt_z rfl (by omega) (Nat.le_of_ble_eq_true rfl) (Nat.le_of_ble_eq_true rfl) (⟨rfl, e⟩) dL_pays_259
      · refine aw_iload (q := 245) 4 dL_pays_243 rfl rfl ?_
        refine aw_if_eq (q := 248) dL_pays_245 rfl (t := 258) (by decide) (by omega) (fun h => ((by have := hfin (by omega); omega : False)).elim) (fun h5 => ?_)
        refine aw_iload (q := 250) 5 dL_pays_248 rfl rfl ?_
        refine aw_iconst (q := 251) dL_pays_250 rfl ?_
        refine aw_icmp_ne (q := 254) dL_pays_251 rfl (t := 258) (by decide) (by omega) (by omega) (fun h => ((by have := hfin (by omega); omega : False)).elim) (fun h6 => ?_)
        refine aw_iconst (q := 255) dL_pays_254 rfl ?_
        refine aw_goto (q := 259) dL_pays_255 (by decide) ?_
        exact rt_z rfl (by omega) (Nat.le_of_ble_eq_true rfl) (Nat.le_of_ble_eq_true rfl) (⟨rfl, e⟩) dL_pays_259
    · refine aw_iload (q := 195) 8 dL_pays_193 rfl rfl ?_
      refine aw_iload (q := 197) 6 dL_pays_195 rfl rfl ?_
      refine aw_bipush (q := 199) dL_pays_197 rfl (by decide) ?_
      refine ae_iadd (q := 200) (m + 60) (by omega) dL_pays_199 rfl ?_
      refine aw_icmp_ge (q := 203) dL_pays_200 rfl (t := 232) (by decide) (by omega) (by omega) (fun h7 => ?_) (fun h8 => ?_)
      · refine aw_iload (q := 234) 7 dL_pays_232 rfl rfl ?_
        refine aw_if_eq (q := 237) dL_pays_234 rfl (t := 258) (by decide) (by omega) (fun h => absurd h (by omega)) (fun _ => ?_)
        refine aw_iload_n (q := 238) 1 dL_pays_237 rfl rfl rfl ?_
        refine aw_iconst (q := 239) dL_pays_238 rfl ?_
        obtain ⟨d2, hd2⟩ : ∃ z, (a % 5) = z := ⟨_, rfl⟩
        refine aw_rem5 (q := 240) (z := d2) (by omega) (by omega) hd2 dL_pays_239 rfl ?_
        refine aw_if_eq (q := 243) dL_pays_240 rfl (t := 254) (by decide) (by omega) (fun h9 => ?_) (fun h10 => ?_)
        · refine aw_iconst (q := 255) dL_pays_254 rfl ?_
          refine aw_goto (q := 259) dL_pays_255 (by decide) ?_
          exact rt_z rfl (by omega) (Nat.le_of_ble_eq_true rfl) (Nat.le_of_ble_eq_true rfl) (⟨rfl, e⟩) dL_pays_259
        · refine aw_iload (q := 245) 4 dL_pays_243 rfl rfl ?_
          refine aw_if_eq (q := 248) dL_pays_245 rfl (t := 258) (by decide) (by omega) (fun h => ((by have := hfin (by omega); omega : False)).elim) (fun h11 => ?_)
          refine aw_iload (q := 250) 5 dL_pays_248 rfl rfl ?_
          refine aw_iconst (q := 251) dL_pays_250 rfl ?_
          refine aw_icmp_ne (q := 254) dL_pays_251 rfl (t := 258) (by decide) (by omega) (by omega) (fun h => ((by have := hfin (by omega); omega : False)).elim) (fun h12 => ?_)
          refine aw_iconst (q := 255) dL_pays_254 rfl ?_
          refine aw_goto (q := 259) dL_pays_255 (by decide) ?_
          exact rt_z rfl (by omega) (Nat.le_of_ble_eq_true rfl) (Nat.le_of_ble_eq_true rfl) (⟨rfl, e⟩) dL_pays_259
      · refine aw_iload (q := 205) 7 dL_pays_203 rfl rfl ?_
        refine aw_if_eq (q := 208) dL_pays_205 rfl (t := 232) (by decide) (by omega) (fun h => absurd h (by omega)) (fun _ => ?_)
        refine aw_aload_n (q := 209) 0 dL_pays_208 rfl rfl rfl ?_
        refine aw_iload (q := 211) 8 dL_pays_209 rfl rfl ?_
        refine aw_iconst (q := 212) dL_pays_211 rfl ?_
        refine cv_I (q := 215) (CC := "") (id := 102) (As := [.int (iI c), .int (iI 0)]) 2 (n_change0 (D := D) (C := C) (T := T) (ad := ad) hst (G := G) (K := K) ht o e (a := c) (by omega)) (fun _ h => h) (by omega) (cell_102 ad C _) rfl wc_X5_change wm_RL_66 wi_X5_change ws_X5_change wn_X5 (by decide) rfl ⟨Nat.le_of_ble_eq_true rfl, Nat.le_of_ble_eq_true rfl⟩ ⟨Nat.le_of_ble_eq_true rfl, Nat.le_of_ble_eq_true rfl⟩ (Nat.le_of_ble_eq_true rfl) dL_pays_212 rfl (fun r1 K1 h9 => ?_)
        obtain ⟨rfl, e1⟩ := h9
        rw [ch_no (hno c (by omega) (by omega))]
        refine aw_iconst (q := 216) dL_pays_215 rfl ?_
        refine aw_icmp_ne (q := 219) dL_pays_216 rfl (t := 223) (by decide) (by omega) (by omega) (fun h => absurd h (by omega)) (fun _ => ?_)
        refine aw_iconst (q := 220) dL_pays_219 rfl ?_
        refine aw_goto (q := 224) dL_pays_220 (by decide) ?_
        refine aw_istore (q := 226) (lv2 := [(0, .ref (ad 102)), (1, .int (iI a)), (2, .int (iI su)), (3, .int (iI mn)), (4, .int (iI nv)), (5, .int (iI b)), (6, .int (iI m)), (7, .int (iI 1)), (8, .int (iI c))]) [1, 2, 3, 4, 5, 6, 7, 0, 8] dL_pays_224 rfl (by decide) rfl rfl ?_
        refine ae_iinc (q := 229) (lv2 := [(0, .ref (ad 102)), (1, .int (iI a)), (2, .int (iI su)), (3, .int (iI mn)), (4, .int (iI nv)), (5, .int (iI b)), (6, .int (iI m)), (7, .int (iI 1)), (8, .int (iI (c + 1)))]) 8 [1, 2, 3, 4, 5, 6, 7, 8, 0] (c + 1) (by omega) dL_pays_226 rfl rfl (by decide) rfl ?_
        refine aw_goto (q := 187) dL_pays_229 (by decide) ?_
        exact ih (c + 1) K1 e1 (by omega) (by omega) (by omega)
set_option maxHeartbeats 4000000 in
set_option maxRecDepth 100000 in
theorem c_pays {l : Launch} {D : va_G} {C : Nat → ClassId} {T : Nat → Nat} {ad : Int → Nat} (hst : l.stackTraces = false) {t : Int} {G K : GG} {a : Int} (ht : t ≤ 1000) (o : okI t G) (e : eq0 G K) (ha : 0 ≤ a ∧ a ≤ 1000) : MC l yL_pays cL_pays 9 (some .boolean) 7 129 0 0 D (tyC C) T [.ref (ad 102), .int (iI a)] (cw ad C K) (RI ad C (fun r G1 => r = 1 ∧ eq0 G G1)) := by
  refine mc_of (by decide +kernel) (Nat.le_of_ble_eq_true rfl) rfl ?_
  have q5 : 0 ≤ G 0 5 ∧ G 0 5 ≤ 30 := o.1.2.1.2.2 0 (by omega) (by omega)
  have q6 : 0 ≤ G 0 6 ∧ G 0 6 ≤ 30 := o.1.2.1.2.2 1 (by omega) (by omega)
  have q7 : 0 ≤ G 0 7 ∧ G 0 7 ≤ 30 := o.1.2.1.2.2 2 (by omega) (by omega)
  have q8 : 0 ≤ G 0 8 ∧ G 0 8 ≤ 30 := o.1.2.1.2.2 3 (by omega) (by omega)
  obtain ⟨hm, hm5, hmc, hmx, hme⟩ := mp_all (h0 := G 0 5) (h1 := G 0 6) (h2 := G 0 7) (h3 := G 0 8) (a := a) (by omega) (by omega) (by omega) (by omega) ha.1
  obtain ⟨m, hmd⟩ : ∃ m, mpF (G 0 5) (G 0 6) (G 0 7) (G 0 8) (a / 5).toNat = m := ⟨_, rfl⟩
  rw [hmd] at hm hm5 hmc hmx hme
  have bm := cF_b (h0 := G 0 5) (h1 := G 0 6) (h2 := G 0 7) (h3 := G 0 8) (a := m) (by omega) (by omega) (by omega) (by omega) hm.1
  have ba := cF_b (h0 := G 0 5) (h1 := G 0 6) (h2 := G 0 7) (h3 := G 0 8) (a := a) (by omega) (by omega) (by omega) (by omega) ha.1
  by_cases hc : canF (G 0 5) (G 0 6) (G 0 7) (G 0 8) a
  · have hs := canF_sum hc
    have hmod := canF_mod hc
    have hma := hme hc
    subst hma
    obtain ⟨c0, d0⟩ : ∃ z, c0F (G 0 5) (G 0 6) (G 0 7) (G 0 8) m = z := ⟨_, rfl⟩
    obtain ⟨c1, d1⟩ : ∃ z, c1F (G 0 5) (G 0 6) (G 0 7) (G 0 8) m = z := ⟨_, rfl⟩
    obtain ⟨c2, d2⟩ : ∃ z, c2F (G 0 5) (G 0 6) (G 0 7) (G 0 8) m = z := ⟨_, rfl⟩
    obtain ⟨c3, d3⟩ : ∃ z, c3F (G 0 5) (G 0 6) (G 0 7) (G 0 8) m = z := ⟨_, rfl⟩
    rw [d0, d1, d2, d3] at hs bm ba
    refine aw_iconst (q := 1) dL_pays_0 rfl ?_
    refine aw_istore_n (q := 2) (lv2 := [(0, .ref (ad 102)), (1, .int (iI m)), (2, .int (iI 0))]) [1, 2, 0] dL_pays_1 rfl rfl (by decide) rfl rfl ?_
    refine aw_iconst (q := 3) dL_pays_2 rfl ?_
    refine aw_istore_n (q := 4) (lv2 := [(0, .ref (ad 102)), (1, .int (iI m)), (2, .int (iI 0)), (3, .int (iI 0))]) [1, 2, 3, 0] dL_pays_3 rfl rfl (by decide) rfl rfl ?_
    refine aw_aload_n (q := 5) 0 dL_pays_4 rfl rfl rfl ?_
    refine aw_iload_n (q := 6) 1 dL_pays_5 rfl rfl rfl ?_
    refine aw_iconst (q := 7) dL_pays_6 rfl ?_
    refine cv_I (q := 10) (CC := "") (id := 102) (As := [.int (iI m), .int (iI 0)]) 2 (n_change0 (D := D) (C := C) (T := T) (ad := ad) hst (G := G) (K := K) ht o e (a := m) (by omega)) (fun _ h => h) (by omega) (cell_102 ad C _) rfl wc_X5_change wm_RL_66 wi_X5_change ws_X5_change wn_X5 (by decide) rfl ⟨Nat.le_of_ble_eq_true rfl, Nat.le_of_ble_eq_true rfl⟩ ⟨Nat.le_of_ble_eq_true rfl, Nat.le_of_ble_eq_true rfl⟩ (Nat.le_of_ble_eq_true rfl) dL_pays_7 rfl (fun r1 K1 h9 => ?_)
    obtain ⟨rfl, e1⟩ := h9
    rw [ch_0 hc, d0]
    refine aw_iconst (q := 11) dL_pays_10 rfl ?_
    refine aw_icmp_ne (q := 14) dL_pays_11 rfl (t := 18) (by decide) (by omega) (by omega) (fun h51 => ?_) (fun h => ((by omega : False)).elim)
    refine aw_iconst (q := 19) dL_pays_18 rfl ?_
    refine aw_istore (q := 21) (lv2 := [(0, .ref (ad 102)), (1, .int (iI m)), (2, .int (iI 0)), (3, .int (iI 0)), (4, .int (iI 0))]) [1, 2, 3, 4, 0] dL_pays_19 rfl (by decide) rfl rfl ?_
    refine aw_iconst (q := 22) dL_pays_21 rfl ?_
    refine aw_istore (q := 24) (lv2 := [(0, .ref (ad 102)), (1, .int (iI m)), (2, .int (iI 0)), (3, .int (iI 0)), (4, .int (iI 0)), (5, .int (iI 0))]) [1, 2, 3, 4, 5, 0] dL_pays_22 rfl (by decide) rfl rfl ?_
    refine aw_iload (q := 26) 5 dL_pays_24 rfl rfl ?_
    refine aw_iconst (q := 27) dL_pays_26 rfl ?_
    refine aw_icmp_ge (q := 30) dL_pays_27 rfl (t := 90) (by decide) (by omega) (by omega) (fun h => absurd h (by omega)) (fun _ => ?_)
    refine aw_aload_n (q := 31) 0 dL_pays_30 rfl rfl rfl ?_
    refine aw_iload_n (q := 32) 1 dL_pays_31 rfl rfl rfl ?_
    refine aw_iload (q := 34) 5 dL_pays_32 rfl rfl ?_
    refine cv_I (q := 37) (CC := "") (id := 102) (As := [.int (iI m), .int (iI 0)]) 2 (n_change0 (D := D) (C := C) (T := T) (ad := ad) hst (G := G) (K := K1) ht o e1 (a := m) (by omega)) (fun _ h => h) (by omega) (cell_102 ad C _) rfl wc_X5_change wm_RL_66 wi_X5_change ws_X5_change wn_X5 (by decide) rfl ⟨Nat.le_of_ble_eq_true rfl, Nat.le_of_ble_eq_true rfl⟩ ⟨Nat.le_of_ble_eq_true rfl, Nat.le_of_ble_eq_true rfl⟩ (Nat.le_of_ble_eq_true rfl) dL_pays_34 rfl (fun r2 K2 h9 => ?_)
    obtain ⟨rfl, e2⟩ := h9
    rw [ch_0 hc, d0]
    refine aw_istore (q := 39) (lv2 := [(0, .ref (ad 102)), (1, .int (iI m)), (2, .int (iI 0)), (3, .int (iI 0)), (4, .int (iI 0)), (5, .int (iI 0)), (6, .int (iI c0))]) [1, 2, 3, 4, 5, 6, 0] dL_pays_37 rfl (by decide) rfl rfl ?_
    refine aw_iload_n (q := 40) 2 dL_pays_39 rfl rfl rfl ?_
    refine aw_iload (q := 42) 6 dL_pays_40 rfl rfl ?_
    refine aw_iload (q := 44) 5 dL_pays_42 rfl rfl ?_
    refine cs_I (q := 47) (As := [.int (iI 0)]) 1 (c_worth0 (T := T) (D := D) (ad := ad) K2) (fun _ h => h) wc_L_worth wm_RL_55 wt_L_worth wn_L (by decide) rfl ⟨Nat.le_of_ble_eq_true rfl, Nat.le_of_ble_eq_true rfl⟩ ⟨Nat.le_of_ble_eq_true rfl, Nat.le_of_ble_eq_true rfl⟩ (Nat.le_of_ble_eq_true rfl) dL_pays_44 rfl (fun r9 G9 h9 => ?_)
    rw [h9.1, h9.2]
    clear h9
    refine ae_imul (q := 48) (5 * c0) (by omega) dL_pays_47 rfl ?_
    refine ae_iadd (q := 49) (5 * c0) (by omega) dL_pays_48 rfl ?_
    refine aw_istore_n (q := 50) (lv2 := [(0, .ref (ad 102)), (1, .int (iI m)), (2, .int (iI (5 * c0))), (3, .int (iI 0)), (4, .int (iI 0)), (5, .int (iI 0)), (6, .int (iI c0))]) [1, 2, 0, 3, 4, 5, 6] dL_pays_49 rfl rfl (by decide) rfl rfl ?_
    refine aw_iload_n (q := 51) 3 dL_pays_50 rfl rfl rfl ?_
    refine aw_iload (q := 53) 6 dL_pays_51 rfl rfl ?_
    refine ae_iadd (q := 54) c0 (by omega) dL_pays_53 rfl ?_
    refine aw_istore_n (q := 55) (lv2 := [(0, .ref (ad 102)), (1, .int (iI m)), (2, .int (iI (5 * c0))), (3, .int (iI c0)), (4, .int (iI 0)), (5, .int (iI 0)), (6, .int (iI c0))]) [1, 2, 3, 0, 4, 5, 6] dL_pays_54 rfl rfl (by decide) rfl rfl ?_
    refine aw_iload (q := 57) 6 dL_pays_55 rfl rfl ?_
    refine aw_iconst (q := 58) dL_pays_57 rfl ?_
    refine aw_icmp_ne (q := 61) dL_pays_58 rfl (t := 65) (by decide) (by omega) (by omega) (fun h52 => ?_) (fun h => ((by omega : False)).elim)
    refine aw_iconst (q := 66) dL_pays_65 rfl ?_
    refine aw_iload (q := 68) 4 dL_pays_66 rfl rfl ?_
    refine aw_icmp_ne (q := 71) dL_pays_68 rfl (t := 82) (by decide) (by omega) (by omega) (fun h => absurd h (by omega)) (fun _ => ?_)
    refine aw_iload (q := 73) 6 dL_pays_71 rfl rfl ?_
    refine aw_aload_n (q := 74) 0 dL_pays_73 rfl rfl rfl ?_
    refine aw_iload (q := 76) 5 dL_pays_74 rfl rfl ?_
    refine cv_I (q := 79) (CC := "") (id := 102) (As := [.int (iI 0)]) 1 (n_tube0 (D := D) (C := C) (T := T) (ad := ad) hst (G := G) (K := K2) ht o e2 ) (fun _ h => h) (by omega) (cell_102 ad C _) rfl wc_X5_tube wm_RL_52 wi_X5_tube ws_X5_tube wn_X5 (by decide) rfl ⟨Nat.le_of_ble_eq_true rfl, Nat.le_of_ble_eq_true rfl⟩ ⟨Nat.le_of_ble_eq_true rfl, Nat.le_of_ble_eq_true rfl⟩ (Nat.le_of_ble_eq_true rfl) dL_pays_76 rfl (fun r9 G9 h9 => ?_)
    rw [h9.1, h9.2]
    clear h9
    refine aw_icmp_le (q := 82) dL_pays_79 rfl (t := 84) (by decide) (by omega) (by omega) (fun h53 => ?_) (fun h => ((by omega : False)).elim)
    refine ae_iinc (q := 87) (lv2 := [(0, .ref (ad 102)), (1, .int (iI m)), (2, .int (iI (5 * c0))), (3, .int (iI c0)), (4, .int (iI 0)), (5, .int (iI 1)), (6, .int (iI c0))]) 5 [1, 2, 3, 4, 5, 0, 6] 1 (by omega) dL_pays_84 rfl rfl (by decide) rfl ?_
    refine aw_goto (q := 24) dL_pays_87 (by decide) ?_
    refine aw_iload (q := 26) 5 dL_pays_24 rfl rfl ?_
    refine aw_iconst (q := 27) dL_pays_26 rfl ?_
    refine aw_icmp_ge (q := 30) dL_pays_27 rfl (t := 90) (by decide) (by omega) (by omega) (fun h => absurd h (by omega)) (fun _ => ?_)
    refine aw_aload_n (q := 31) 0 dL_pays_30 rfl rfl rfl ?_
    refine aw_iload_n (q := 32) 1 dL_pays_31 rfl rfl rfl ?_
    refine aw_iload (q := 34) 5 dL_pays_32 rfl rfl ?_
    refine cv_I (q := 37) (CC := "") (id := 102) (As := [.int (iI m), .int (iI 1)]) 2 (n_change1 (D := D) (C := C) (T := T) (ad := ad) hst (G := G) (K := K2) ht o e2 (a := m) (by omega)) (fun _ h => h) (by omega) (cell_102 ad C _) rfl wc_X5_change wm_RL_66 wi_X5_change ws_X5_change wn_X5 (by decide) rfl ⟨Nat.le_of_ble_eq_true rfl, Nat.le_of_ble_eq_true rfl⟩ ⟨Nat.le_of_ble_eq_true rfl, Nat.le_of_ble_eq_true rfl⟩ (Nat.le_of_ble_eq_true rfl) dL_pays_34 rfl (fun r3 K3 h9 => ?_)
    obtain ⟨rfl, e3⟩ := h9
    rw [ch_1 hc, d1]
    refine aw_istore (q := 39) (lv2 := [(0, .ref (ad 102)), (1, .int (iI m)), (2, .int (iI (5 * c0))), (3, .int (iI c0)), (4, .int (iI 0)), (5, .int (iI 1)), (6, .int (iI c1))]) [1, 2, 3, 4, 5, 6, 0] dL_pays_37 rfl (by decide) rfl rfl ?_
    refine aw_iload_n (q := 40) 2 dL_pays_39 rfl rfl rfl ?_
    refine aw_iload (q := 42) 6 dL_pays_40 rfl rfl ?_
    refine aw_iload (q := 44) 5 dL_pays_42 rfl rfl ?_
    refine cs_I (q := 47) (As := [.int (iI 1)]) 1 (c_worth1 (T := T) (D := D) (ad := ad) K3) (fun _ h => h) wc_L_worth wm_RL_55 wt_L_worth wn_L (by decide) rfl ⟨Nat.le_of_ble_eq_true rfl, Nat.le_of_ble_eq_true rfl⟩ ⟨Nat.le_of_ble_eq_true rfl, Nat.le_of_ble_eq_true rfl⟩ (Nat.le_of_ble_eq_true rfl) dL_pays_44 rfl (fun r9 G9 h9 => ?_)
    rw [h9.1, h9.2]
    clear h9
    refine ae_imul (q := 48) (10 * c1) (by omega) dL_pays_47 rfl ?_
    refine ae_iadd (q := 49) (5 * c0 + 10 * c1) (by omega) dL_pays_48 rfl ?_
    refine aw_istore_n (q := 50) (lv2 := [(0, .ref (ad 102)), (1, .int (iI m)), (2, .int (iI (5 * c0 + 10 * c1))), (3, .int (iI c0)), (4, .int (iI 0)), (5, .int (iI 1)), (6, .int (iI c1))]) [1, 2, 0, 3, 4, 5, 6] dL_pays_49 rfl rfl (by decide) rfl rfl ?_
    refine aw_iload_n (q := 51) 3 dL_pays_50 rfl rfl rfl ?_
    refine aw_iload (q := 53) 6 dL_pays_51 rfl rfl ?_
    refine ae_iadd (q := 54) (c0 + c1) (by omega) dL_pays_53 rfl ?_
    refine aw_istore_n (q := 55) (lv2 := [(0, .ref (ad 102)), (1, .int (iI m)), (2, .int (iI (5 * c0 + 10 * c1))), (3, .int (iI (c0 + c1))), (4, .int (iI 0)), (5, .int (iI 1)), (6, .int (iI c1))]) [1, 2, 3, 0, 4, 5, 6] dL_pays_54 rfl rfl (by decide) rfl rfl ?_
    refine aw_iload (q := 57) 6 dL_pays_55 rfl rfl ?_
    refine aw_iconst (q := 58) dL_pays_57 rfl ?_
    refine aw_icmp_ne (q := 61) dL_pays_58 rfl (t := 65) (by decide) (by omega) (by omega) (fun h54 => ?_) (fun h => ((by omega : False)).elim)
    refine aw_iconst (q := 66) dL_pays_65 rfl ?_
    refine aw_iload (q := 68) 4 dL_pays_66 rfl rfl ?_
    refine aw_icmp_ne (q := 71) dL_pays_68 rfl (t := 82) (by decide) (by omega) (by omega) (fun h => absurd h (by omega)) (fun _ => ?_)
    refine aw_iload (q := 73) 6 dL_pays_71 rfl rfl ?_
    refine aw_aload_n (q := 74) 0 dL_pays_73 rfl rfl rfl ?_
    refine aw_iload (q := 76) 5 dL_pays_74 rfl rfl ?_
    refine cv_I (q := 79) (CC := "") (id := 102) (As := [.int (iI 1)]) 1 (n_tube1 (D := D) (C := C) (T := T) (ad := ad) hst (G := G) (K := K3) ht o e3 ) (fun _ h => h) (by omega) (cell_102 ad C _) rfl wc_X5_tube wm_RL_52 wi_X5_tube ws_X5_tube wn_X5 (by decide) rfl ⟨Nat.le_of_ble_eq_true rfl, Nat.le_of_ble_eq_true rfl⟩ ⟨Nat.le_of_ble_eq_true rfl, Nat.le_of_ble_eq_true rfl⟩ (Nat.le_of_ble_eq_true rfl) dL_pays_76 rfl (fun r9 G9 h9 => ?_)
    rw [h9.1, h9.2]
    clear h9
    refine aw_icmp_le (q := 82) dL_pays_79 rfl (t := 84) (by decide) (by omega) (by omega) (fun h55 => ?_) (fun h => ((by omega : False)).elim)
    refine ae_iinc (q := 87) (lv2 := [(0, .ref (ad 102)), (1, .int (iI m)), (2, .int (iI (5 * c0 + 10 * c1))), (3, .int (iI (c0 + c1))), (4, .int (iI 0)), (5, .int (iI 2)), (6, .int (iI c1))]) 5 [1, 2, 3, 4, 5, 0, 6] 2 (by omega) dL_pays_84 rfl rfl (by decide) rfl ?_
    refine aw_goto (q := 24) dL_pays_87 (by decide) ?_
    refine aw_iload (q := 26) 5 dL_pays_24 rfl rfl ?_
    refine aw_iconst (q := 27) dL_pays_26 rfl ?_
    refine aw_icmp_ge (q := 30) dL_pays_27 rfl (t := 90) (by decide) (by omega) (by omega) (fun h => absurd h (by omega)) (fun _ => ?_)
    refine aw_aload_n (q := 31) 0 dL_pays_30 rfl rfl rfl ?_
    refine aw_iload_n (q := 32) 1 dL_pays_31 rfl rfl rfl ?_
    refine aw_iload (q := 34) 5 dL_pays_32 rfl rfl ?_
    refine cv_I (q := 37) (CC := "") (id := 102) (As := [.int (iI m), .int (iI 2)]) 2 (n_change2 (D := D) (C := C) (T := T) (ad := ad) hst (G := G) (K := K3) ht o e3 (a := m) (by omega)) (fun _ h => h) (by omega) (cell_102 ad C _) rfl wc_X5_change wm_RL_66 wi_X5_change ws_X5_change wn_X5 (by decide) rfl ⟨Nat.le_of_ble_eq_true rfl, Nat.le_of_ble_eq_true rfl⟩ ⟨Nat.le_of_ble_eq_true rfl, Nat.le_of_ble_eq_true rfl⟩ (Nat.le_of_ble_eq_true rfl) dL_pays_34 rfl (fun r4 K4 h9 => ?_)
    obtain ⟨rfl, e4⟩ := h9
    rw [ch_2 hc, d2]
    refine aw_istore (q := 39) (lv2 := [(0, .ref (ad 102)), (1, .int (iI m)), (2, .int (iI (5 * c0 + 10 * c1))), (3, .int (iI (c0 + c1))), (4, .int (iI 0)), (5, .int (iI 2)), (6, .int (iI c2))]) [1, 2, 3, 4, 5, 6, 0] dL_pays_37 rfl (by decide) rfl rfl ?_
    refine aw_iload_n (q := 40) 2 dL_pays_39 rfl rfl rfl ?_
    refine aw_iload (q := 42) 6 dL_pays_40 rfl rfl ?_
    refine aw_iload (q := 44) 5 dL_pays_42 rfl rfl ?_
    refine cs_I (q := 47) (As := [.int (iI 2)]) 1 (c_worth2 (T := T) (D := D) (ad := ad) K4) (fun _ h => h) wc_L_worth wm_RL_55 wt_L_worth wn_L (by decide) rfl ⟨Nat.le_of_ble_eq_true rfl, Nat.le_of_ble_eq_true rfl⟩ ⟨Nat.le_of_ble_eq_true rfl, Nat.le_of_ble_eq_true rfl⟩ (Nat.le_of_ble_eq_true rfl) dL_pays_44 rfl (fun r9 G9 h9 => ?_)
    rw [h9.1, h9.2]
    clear h9
    refine ae_imul (q := 48) (20 * c2) (by omega) dL_pays_47 rfl ?_
    refine ae_iadd (q := 49) (5 * c0 + 10 * c1 + 20 * c2) (by omega) dL_pays_48 rfl ?_
    refine aw_istore_n (q := 50) (lv2 := [(0, .ref (ad 102)), (1, .int (iI m)), (2, .int (iI (5 * c0 + 10 * c1 + 20 * c2))), (3, .int (iI (c0 + c1))), (4, .int (iI 0)), (5, .int (iI 2)), (6, .int (iI c2))]) [1, 2, 0, 3, 4, 5, 6] dL_pays_49 rfl rfl (by decide) rfl rfl ?_
    refine aw_iload_n (q := 51) 3 dL_pays_50 rfl rfl rfl ?_
    refine aw_iload (q := 53) 6 dL_pays_51 rfl rfl ?_
    refine ae_iadd (q := 54) (c0 + c1 + c2) (by omega) dL_pays_53 rfl ?_
    refine aw_istore_n (q := 55) (lv2 := [(0, .ref (ad 102)), (1, .int (iI m)), (2, .int (iI (5 * c0 + 10 * c1 + 20 * c2))), (3, .int (iI (c0 + c1 + c2))), (4, .int (iI 0)), (5, .int (iI 2)), (6, .int (iI c2))]) [1, 2, 3, 0, 4, 5, 6] dL_pays_54 rfl rfl (by decide) rfl rfl ?_
    refine aw_iload (q := 57) 6 dL_pays_55 rfl rfl ?_
    refine aw_iconst (q := 58) dL_pays_57 rfl ?_
    refine aw_icmp_ne (q := 61) dL_pays_58 rfl (t := 65) (by decide) (by omega) (by omega) (fun h56 => ?_) (fun h => ((by omega : False)).elim)
    refine aw_iconst (q := 66) dL_pays_65 rfl ?_
    refine aw_iload (q := 68) 4 dL_pays_66 rfl rfl ?_
    refine aw_icmp_ne (q := 71) dL_pays_68 rfl (t := 82) (by decide) (by omega) (by omega) (fun h => absurd h (by omega)) (fun _ => ?_)
    refine aw_iload (q := 73) 6 dL_pays_71 rfl rfl ?_
    refine aw_aload_n (q := 74) 0 dL_pays_73 rfl rfl rfl ?_
    refine aw_iload (q := 76) 5 dL_pays_74 rfl rfl ?_
    refine cv_I (q := 79) (CC := "") (id := 102) (As := [.int (iI 2)]) 1 (n_tube2 (D := D) (C := C) (T := T) (ad := ad) hst (G := G) (K := K4) ht o e4 ) (fun _ h => h) (by omega) (cell_102 ad C _) rfl wc_X5_tube wm_RL_52 wi_X5_tube ws_X5_tube wn_X5 (by decide) rfl ⟨Nat.le_of_ble_eq_true rfl, Nat.le_of_ble_eq_true rfl⟩ ⟨Nat.le_of_ble_eq_true rfl, Nat.le_of_ble_eq_true rfl⟩ (Nat.le_of_ble_eq_true rfl) dL_pays_76 rfl (fun r9 G9 h9 => ?_)
    rw [h9.1, h9.2]
    clear h9
    refine aw_icmp_le (q := 82) dL_pays_79 rfl (t := 84) (by decide) (by omega) (by omega) (fun h57 => ?_) (fun h => ((by omega : False)).elim)
    refine ae_iinc (q := 87) (lv2 := [(0, .ref (ad 102)), (1, .int (iI m)), (2, .int (iI (5 * c0 + 10 * c1 + 20 * c2))), (3, .int (iI (c0 + c1 + c2))), (4, .int (iI 0)), (5, .int (iI 3)), (6, .int (iI c2))]) 5 [1, 2, 3, 4, 5, 0, 6] 3 (by omega) dL_pays_84 rfl rfl (by decide) rfl ?_
    refine aw_goto (q := 24) dL_pays_87 (by decide) ?_
    refine aw_iload (q := 26) 5 dL_pays_24 rfl rfl ?_
    refine aw_iconst (q := 27) dL_pays_26 rfl ?_
    refine aw_icmp_ge (q := 30) dL_pays_27 rfl (t := 90) (by decide) (by omega) (by omega) (fun h => absurd h (by omega)) (fun _ => ?_)
    refine aw_aload_n (q := 31) 0 dL_pays_30 rfl rfl rfl ?_
    refine aw_iload_n (q := 32) 1 dL_pays_31 rfl rfl rfl ?_
    refine aw_iload (q := 34) 5 dL_pays_32 rfl rfl ?_
    refine cv_I (q := 37) (CC := "") (id := 102) (As := [.int (iI m), .int (iI 3)]) 2 (n_change3 (D := D) (C := C) (T := T) (ad := ad) hst (G := G) (K := K4) ht o e4 (a := m) (by omega)) (fun _ h => h) (by omega) (cell_102 ad C _) rfl wc_X5_change wm_RL_66 wi_X5_change ws_X5_change wn_X5 (by decide) rfl ⟨Nat.le_of_ble_eq_true rfl, Nat.le_of_ble_eq_true rfl⟩ ⟨Nat.le_of_ble_eq_true rfl, Nat.le_of_ble_eq_true rfl⟩ (Nat.le_of_ble_eq_true rfl) dL_pays_34 rfl (fun r5 K5 h9 => ?_)
    obtain ⟨rfl, e5⟩ := h9
    rw [ch_3 hc, d3]
    refine aw_istore (q := 39) (lv2 := [(0, .ref (ad 102)), (1, .int (iI m)), (2, .int (iI (5 * c0 + 10 * c1 + 20 * c2))), (3, .int (iI (c0 + c1 + c2))), (4, .int (iI 0)), (5, .int (iI 3)), (6, .int (iI c3))]) [1, 2, 3, 4, 5, 6, 0] dL_pays_37 rfl (by decide) rfl rfl ?_
    refine aw_iload_n (q := 40) 2 dL_pays_39 rfl rfl rfl ?_
    refine aw_iload (q := 42) 6 dL_pays_40 rfl rfl ?_
    refine aw_iload (q := 44) 5 dL_pays_42 rfl rfl ?_
    refine cs_I (q := 47) (As := [.int (iI 3)]) 1 (c_worth3 (T := T) (D := D) (ad := ad) K5) (fun _ h => h) wc_L_worth wm_RL_55 wt_L_worth wn_L (by decide) rfl ⟨Nat.le_of_ble_eq_true rfl, Nat.le_of_ble_eq_true rfl⟩ ⟨Nat.le_of_ble_eq_true rfl, Nat.le_of_ble_eq_true rfl⟩ (Nat.le_of_ble_eq_true rfl) dL_pays_44 rfl (fun r9 G9 h9 => ?_)
    rw [h9.1, h9.2]
    clear h9
    refine ae_imul (q := 48) (50 * c3) (by omega) dL_pays_47 rfl ?_
    refine ae_iadd (q := 49) (5 * c0 + 10 * c1 + 20 * c2 + 50 * c3) (by omega) dL_pays_48 rfl ?_
    refine aw_istore_n (q := 50) (lv2 := [(0, .ref (ad 102)), (1, .int (iI m)), (2, .int (iI (5 * c0 + 10 * c1 + 20 * c2 + 50 * c3))), (3, .int (iI (c0 + c1 + c2))), (4, .int (iI 0)), (5, .int (iI 3)), (6, .int (iI c3))]) [1, 2, 0, 3, 4, 5, 6] dL_pays_49 rfl rfl (by decide) rfl rfl ?_
    refine aw_iload_n (q := 51) 3 dL_pays_50 rfl rfl rfl ?_
    refine aw_iload (q := 53) 6 dL_pays_51 rfl rfl ?_
    refine ae_iadd (q := 54) (c0 + c1 + c2 + c3) (by omega) dL_pays_53 rfl ?_
    refine aw_istore_n (q := 55) (lv2 := [(0, .ref (ad 102)), (1, .int (iI m)), (2, .int (iI (5 * c0 + 10 * c1 + 20 * c2 + 50 * c3))), (3, .int (iI (c0 + c1 + c2 + c3))), (4, .int (iI 0)), (5, .int (iI 3)), (6, .int (iI c3))]) [1, 2, 3, 0, 4, 5, 6] dL_pays_54 rfl rfl (by decide) rfl rfl ?_
    refine aw_iload (q := 57) 6 dL_pays_55 rfl rfl ?_
    refine aw_iconst (q := 58) dL_pays_57 rfl ?_
    refine aw_icmp_ne (q := 61) dL_pays_58 rfl (t := 65) (by decide) (by omega) (by omega) (fun h58 => ?_) (fun h => ((by omega : False)).elim)
    refine aw_iconst (q := 66) dL_pays_65 rfl ?_
    refine aw_iload (q := 68) 4 dL_pays_66 rfl rfl ?_
    refine aw_icmp_ne (q := 71) dL_pays_68 rfl (t := 82) (by decide) (by omega) (by omega) (fun h => absurd h (by omega)) (fun _ => ?_)
    refine aw_iload (q := 73) 6 dL_pays_71 rfl rfl ?_
    refine aw_aload_n (q := 74) 0 dL_pays_73 rfl rfl rfl ?_
    refine aw_iload (q := 76) 5 dL_pays_74 rfl rfl ?_
    refine cv_I (q := 79) (CC := "") (id := 102) (As := [.int (iI 3)]) 1 (n_tube3 (D := D) (C := C) (T := T) (ad := ad) hst (G := G) (K := K5) ht o e5 ) (fun _ h => h) (by omega) (cell_102 ad C _) rfl wc_X5_tube wm_RL_52 wi_X5_tube ws_X5_tube wn_X5 (by decide) rfl ⟨Nat.le_of_ble_eq_true rfl, Nat.le_of_ble_eq_true rfl⟩ ⟨Nat.le_of_ble_eq_true rfl, Nat.le_of_ble_eq_true rfl⟩ (Nat.le_of_ble_eq_true rfl) dL_pays_76 rfl (fun r9 G9 h9 => ?_)
    rw [h9.1, h9.2]
    clear h9
    refine aw_icmp_le (q := 82) dL_pays_79 rfl (t := 84) (by decide) (by omega) (by omega) (fun h59 => ?_) (fun h => ((by omega : False)).elim)
    refine ae_iinc (q := 87) (lv2 := [(0, .ref (ad 102)), (1, .int (iI m)), (2, .int (iI (5 * c0 + 10 * c1 + 20 * c2 + 50 * c3))), (3, .int (iI (c0 + c1 + c2 + c3))), (4, .int (iI 0)), (5, .int (iI 4)), (6, .int (iI c3))]) 5 [1, 2, 3, 4, 5, 0, 6] 4 (by omega) dL_pays_84 rfl rfl (by decide) rfl ?_
    refine aw_goto (q := 24) dL_pays_87 (by decide) ?_
    refine aw_iload (q := 26) 5 dL_pays_24 rfl rfl ?_
    refine aw_iconst (q := 27) dL_pays_26 rfl ?_
    refine aw_icmp_ge (q := 30) dL_pays_27 rfl (t := 90) (by decide) (by omega) (by omega) (fun _ => ?_) (fun h => absurd h (by omega))
    refine aw_aload_n (q := 91) 0 dL_pays_90 rfl rfl rfl ?_
    refine aw_iload_n (q := 92) 1 dL_pays_91 rfl rfl rfl ?_
    refine cv_I (q := 95) (CC := "") (id := 102) (As := [.int (iI m)]) 1 (n_coinFor (D := D) (C := C) (T := T) (ad := ad) hst (G := G) (K := K5) ht o e5 (a := m) (by omega)) (fun _ h => h) (by omega) (cell_102 ad C _) rfl wc_X5_coinFor wm_RL_69 wi_X5_coinFor ws_X5_coinFor wn_X5 (by decide) rfl ⟨Nat.le_of_ble_eq_true rfl, Nat.le_of_ble_eq_true rfl⟩ ⟨Nat.le_of_ble_eq_true rfl, Nat.le_of_ble_eq_true rfl⟩ (Nat.le_of_ble_eq_true rfl) dL_pays_92 rfl (fun r6 K6 h9 => ?_)
    obtain ⟨rfl, e6⟩ := h9
    rw [cf_can hc]
    refine aw_istore (q := 97) (lv2 := [(0, .ref (ad 102)), (1, .int (iI m)), (2, .int (iI (5 * c0 + 10 * c1 + 20 * c2 + 50 * c3))), (3, .int (iI (c0 + c1 + c2 + c3))), (4, .int (iI 0)), (5, .int (iI 4)), (6, .int (iI c3))]) [1, 2, 3, 4, 5, 0, 6] dL_pays_95 rfl (by decide) rfl rfl ?_
    refine aw_aload_n (q := 98) 0 dL_pays_97 rfl rfl rfl ?_
    refine aw_iload_n (q := 99) 1 dL_pays_98 rfl rfl rfl ?_
    refine cv_I (q := 102) (CC := "") (id := 102) (As := [.int (iI m)]) 1 (n_most (D := D) (C := C) (T := T) (ad := ad) hst (G := G) (K := K6) ht o e6 (a := m) (by omega)) (fun _ h => h) (by omega) (cell_102 ad C _) rfl wc_X5_mostPayable wm_RL_72 wi_X5_mostPayable ws_X5_mostPayable wn_X5 (by decide) rfl ⟨Nat.le_of_ble_eq_true rfl, Nat.le_of_ble_eq_true rfl⟩ ⟨Nat.le_of_ble_eq_true rfl, Nat.le_of_ble_eq_true rfl⟩ (Nat.le_of_ble_eq_true rfl) dL_pays_99 rfl (fun r7 K7 h9 => ?_)
    obtain ⟨rfl, e7⟩ := h9
    rw [hmd]
    refine aw_istore (q := 104) (lv2 := [(0, .ref (ad 102)), (1, .int (iI m)), (2, .int (iI (5 * c0 + 10 * c1 + 20 * c2 + 50 * c3))), (3, .int (iI (c0 + c1 + c2 + c3))), (4, .int (iI 0)), (5, .int (iI 4)), (6, .int (iI m))]) [1, 2, 3, 4, 5, 6, 0] dL_pays_102 rfl (by decide) rfl rfl ?_
    refine aw_iload (q := 106) 4 dL_pays_104 rfl rfl ?_
    refine aw_if_eq (q := 109) dL_pays_106 rfl (t := 124) (by decide) (by omega) (fun _ => ?_) (fun h => absurd h (by omega))
    refine aw_iload (q := 126) 5 dL_pays_124 rfl rfl ?_
    refine aw_iconst (q := 127) dL_pays_126 rfl ?_
    refine aw_icmp_ne (q := 130) dL_pays_127 rfl (t := 148) (by decide) (by omega) (by omega) (fun h => absurd h (by omega)) (fun _ => ?_)
    refine aw_iload_n (q := 131) 2 dL_pays_130 rfl rfl rfl ?_
    refine aw_iload_n (q := 132) 1 dL_pays_131 rfl rfl rfl ?_
    refine aw_icmp_ne (q := 135) dL_pays_132 rfl (t := 148) (by decide) (by omega) (by omega) (fun h => ((by omega : False)).elim) (fun h60 => ?_)
    refine aw_iload (q := 137) 6 dL_pays_135 rfl rfl ?_
    refine aw_iload_n (q := 138) 1 dL_pays_137 rfl rfl rfl ?_
    refine aw_icmp_ne (q := 141) dL_pays_138 rfl (t := 148) (by decide) (by omega) (by omega) (fun h => absurd h (by omega)) (fun _ => ?_)
    refine aw_iload_n (q := 142) 3 dL_pays_141 rfl rfl rfl ?_
    refine aw_iload_n (q := 143) 1 dL_pays_142 rfl rfl rfl ?_
    refine aw_iconst (q := 144) dL_pays_143 rfl ?_
    obtain ⟨d1, hd1⟩ : ∃ z, (m / 5) = z := ⟨_, rfl⟩
    refine aw_div5 (q := 145) (z := d1) (by omega) (by omega) hd1 dL_pays_144 rfl ?_
    refine aw_icmp_le (q := 148) dL_pays_145 rfl (t := 150) (by decide) (by omega) (by omega) (fun h61 => ?_) (fun h => ((by omega : False)).elim)
    refine aw_aload_n (q := 151) 0 dL_pays_150 rfl rfl rfl ?_
    refine aw_iload (q := 153) 6 dL_pays_151 rfl rfl ?_
    refine aw_iconst (q := 154) dL_pays_153 rfl ?_
    refine cv_I (q := 157) (CC := "") (id := 102) (As := [.int (iI m), .int (iI 0)]) 2 (n_change0 (D := D) (C := C) (T := T) (ad := ad) hst (G := G) (K := K7) ht o e7 (a := m) (by omega)) (fun _ h => h) (by omega) (cell_102 ad C _) rfl wc_X5_change wm_RL_66 wi_X5_change ws_X5_change wn_X5 (by decide) rfl ⟨Nat.le_of_ble_eq_true rfl, Nat.le_of_ble_eq_true rfl⟩ ⟨Nat.le_of_ble_eq_true rfl, Nat.le_of_ble_eq_true rfl⟩ (Nat.le_of_ble_eq_true rfl) dL_pays_154 rfl (fun r8 K8 h9 => ?_)
    obtain ⟨rfl, e8⟩ := h9
    rw [ch_0 hc, d0]
    refine aw_iconst (q := 158) dL_pays_157 rfl ?_
    refine aw_icmp_eq (q := 161) dL_pays_158 rfl (t := 178) (by decide) (by omega) (by omega) (fun h => ((by omega : False)).elim) (fun h62 => ?_)
    refine aw_iload (q := 163) 6 dL_pays_161 rfl rfl ?_
    refine aw_iload_n (q := 164) 1 dL_pays_163 rfl rfl rfl ?_
    refine aw_icmp_gt (q := 167) dL_pays_164 rfl (t := 178) (by decide) (by omega) (by omega) (fun h => absurd h (by omega)) (fun _ => ?_)
    refine aw_iload (q := 169) 6 dL_pays_167 rfl rfl ?_
    refine aw_iconst (q := 170) dL_pays_169 rfl ?_
    obtain ⟨d2, hd2⟩ : ∃ z, (m % 5) = z := ⟨_, rfl⟩
    refine aw_rem5 (q := 171) (z := d2) (by omega) (by omega) hd2 dL_pays_170 rfl ?_
    refine aw_if_ne (q := 174) dL_pays_171 rfl (t := 178) (by decide) (by omega) (fun h => ((by omega : False)).elim) (fun h63 => ?_)
    refine aw_iconst (q := 175) dL_pays_174 rfl ?_
    refine aw_goto (q := 179) dL_pays_175 (by decide) ?_
    refine aw_istore (q := 181) (lv2 := [(0, .ref (ad 102)), (1, .int (iI m)), (2, .int (iI (5 * c0 + 10 * c1 + 20 * c2 + 50 * c3))), (3, .int (iI (c0 + c1 + c2 + c3))), (4, .int (iI 0)), (5, .int (iI 4)), (6, .int (iI m)), (7, .int (iI 1))]) [1, 2, 3, 4, 5, 6, 7, 0] dL_pays_179 rfl (by decide) rfl rfl ?_
    refine aw_iload (q := 183) 6 dL_pays_181 rfl rfl ?_
    refine aw_iconst (q := 184) dL_pays_183 rfl ?_
    refine ae_iadd (q := 185) (m + 1) (by omega) dL_pays_184 rfl ?_
    refine aw_istore (q := 187) (lv2 := [(0, .ref (ad 102)), (1, .int (iI m)), (2, .int (iI (5 * c0 + 10 * c1 + 20 * c2 + 50 * c3))), (3, .int (iI (c0 + c1 + c2 + c3))), (4, .int (iI 0)), (5, .int (iI 4)), (6, .int (iI m)), (7, .int (iI 1)), (8, .int (iI (m + 1)))]) [1, 2, 3, 4, 5, 6, 7, 8, 0] dL_pays_185 rfl (by decide) rfl rfl ?_
    exact LP_pays (su := (5 * c0 + 10 * c1 + 20 * c2 + 50 * c3)) (mn := (c0 + c1 + c2 + c3)) (nv := 0) (b := 4) (m := m) hst ht o (by omega) (by omega) (by omega) hmx (fun hz => absurd hmod hz) (by omega) 1002 (m + 1) K8 e8 (by omega) (by omega) (by omega)
  · have hb := cf_no hc
    obtain ⟨b, db⟩ : ∃ z, cfF (G 0 5) (G 0 6) (G 0 7) (G 0 8) a = z := ⟨_, rfl⟩
    rw [db] at hb
    have hma : m ≠ a := fun z => hc (by rw [← z]; exact hmc)
    obtain ⟨c0, d0⟩ : ∃ z, c0F (G 0 5) (G 0 6) (G 0 7) (G 0 8) m = z := ⟨_, rfl⟩
    rw [d0] at bm
    refine aw_iconst (q := 1) dL_pays_0 rfl ?_
    refine aw_istore_n (q := 2) (lv2 := [(0, .ref (ad 102)), (1, .int (iI a)), (2, .int (iI 0))]) [1, 2, 0] dL_pays_1 rfl rfl (by decide) rfl rfl ?_
    refine aw_iconst (q := 3) dL_pays_2 rfl ?_
    refine aw_istore_n (q := 4) (lv2 := [(0, .ref (ad 102)), (1, .int (iI a)), (2, .int (iI 0)), (3, .int (iI 0))]) [1, 2, 3, 0] dL_pays_3 rfl rfl (by decide) rfl rfl ?_
    refine aw_aload_n (q := 5) 0 dL_pays_4 rfl rfl rfl ?_
    refine aw_iload_n (q := 6) 1 dL_pays_5 rfl rfl rfl ?_
    refine aw_iconst (q := 7) dL_pays_6 rfl ?_
    refine cv_I (q := 10) (CC := "") (id := 102) (As := [.int (iI a), .int (iI 0)]) 2 (n_change0 (D := D) (C := C) (T := T) (ad := ad) hst (G := G) (K := K) ht o e (a := a) (by omega)) (fun _ h => h) (by omega) (cell_102 ad C _) rfl wc_X5_change wm_RL_66 wi_X5_change ws_X5_change wn_X5 (by decide) rfl ⟨Nat.le_of_ble_eq_true rfl, Nat.le_of_ble_eq_true rfl⟩ ⟨Nat.le_of_ble_eq_true rfl, Nat.le_of_ble_eq_true rfl⟩ (Nat.le_of_ble_eq_true rfl) dL_pays_7 rfl (fun r1 K1 h9 => ?_)
    obtain ⟨rfl, e1⟩ := h9
    rw [ch_no hc]
    refine aw_iconst (q := 11) dL_pays_10 rfl ?_
    refine aw_icmp_ne (q := 14) dL_pays_11 rfl (t := 18) (by decide) (by omega) (by omega) (fun h => absurd h (by omega)) (fun _ => ?_)
    refine aw_iconst (q := 15) dL_pays_14 rfl ?_
    refine aw_goto (q := 19) dL_pays_15 (by decide) ?_
    refine aw_istore (q := 21) (lv2 := [(0, .ref (ad 102)), (1, .int (iI a)), (2, .int (iI 0)), (3, .int (iI 0)), (4, .int (iI 1))]) [1, 2, 3, 4, 0] dL_pays_19 rfl (by decide) rfl rfl ?_
    refine aw_iconst (q := 22) dL_pays_21 rfl ?_
    refine aw_istore (q := 24) (lv2 := [(0, .ref (ad 102)), (1, .int (iI a)), (2, .int (iI 0)), (3, .int (iI 0)), (4, .int (iI 1)), (5, .int (iI 0))]) [1, 2, 3, 4, 5, 0] dL_pays_22 rfl (by decide) rfl rfl ?_
    refine aw_iload (q := 26) 5 dL_pays_24 rfl rfl ?_
    refine aw_iconst (q := 27) dL_pays_26 rfl ?_
    refine aw_icmp_ge (q := 30) dL_pays_27 rfl (t := 90) (by decide) (by omega) (by omega) (fun h => absurd h (by omega)) (fun _ => ?_)
    refine aw_aload_n (q := 31) 0 dL_pays_30 rfl rfl rfl ?_
    refine aw_iload_n (q := 32) 1 dL_pays_31 rfl rfl rfl ?_
    refine aw_iload (q := 34) 5 dL_pays_32 rfl rfl ?_
    refine cv_I (q := 37) (CC := "") (id := 102) (As := [.int (iI a), .int (iI 0)]) 2 (n_change0 (D := D) (C := C) (T := T) (ad := ad) hst (G := G) (K := K1) ht o e1 (a := a) (by omega)) (fun _ h => h) (by omega) (cell_102 ad C _) rfl wc_X5_change wm_RL_66 wi_X5_change ws_X5_change wn_X5 (by decide) rfl ⟨Nat.le_of_ble_eq_true rfl, Nat.le_of_ble_eq_true rfl⟩ ⟨Nat.le_of_ble_eq_true rfl, Nat.le_of_ble_eq_true rfl⟩ (Nat.le_of_ble_eq_true rfl) dL_pays_34 rfl (fun r2 K2 h9 => ?_)
    obtain ⟨rfl, e2⟩ := h9
    rw [ch_no hc]
    refine aw_istore (q := 39) (lv2 := [(0, .ref (ad 102)), (1, .int (iI a)), (2, .int (iI 0)), (3, .int (iI 0)), (4, .int (iI 1)), (5, .int (iI 0)), (6, .int (iI (-1)))]) [1, 2, 3, 4, 5, 6, 0] dL_pays_37 rfl (by decide) rfl rfl ?_
    refine aw_iload_n (q := 40) 2 dL_pays_39 rfl rfl rfl ?_
    refine aw_iload (q := 42) 6 dL_pays_40 rfl rfl ?_
    refine aw_iload (q := 44) 5 dL_pays_42 rfl rfl ?_
    refine cs_I (q := 47) (As := [.int (iI 0)]) 1 (c_worth0 (T := T) (D := D) (ad := ad) K2) (fun _ h => h) wc_L_worth wm_RL_55 wt_L_worth wn_L (by decide) rfl ⟨Nat.le_of_ble_eq_true rfl, Nat.le_of_ble_eq_true rfl⟩ ⟨Nat.le_of_ble_eq_true rfl, Nat.le_of_ble_eq_true rfl⟩ (Nat.le_of_ble_eq_true rfl) dL_pays_44 rfl (fun r9 G9 h9 => ?_)
    rw [h9.1, h9.2]
    clear h9
    refine ae_imul (q := 48) (-5) (by omega) dL_pays_47 rfl ?_
    refine ae_iadd (q := 49) (-5) (by omega) dL_pays_48 rfl ?_
    refine aw_istore_n (q := 50) (lv2 := [(0, .ref (ad 102)), (1, .int (iI a)), (2, .int (iI (-5))), (3, .int (iI 0)), (4, .int (iI 1)), (5, .int (iI 0)), (6, .int (iI (-1)))]) [1, 2, 0, 3, 4, 5, 6] dL_pays_49 rfl rfl (by decide) rfl rfl ?_
    refine aw_iload_n (q := 51) 3 dL_pays_50 rfl rfl rfl ?_
    refine aw_iload (q := 53) 6 dL_pays_51 rfl rfl ?_
    refine ae_iadd (q := 54) (-1) (by omega) dL_pays_53 rfl ?_
    refine aw_istore_n (q := 55) (lv2 := [(0, .ref (ad 102)), (1, .int (iI a)), (2, .int (iI (-5))), (3, .int (iI (-1))), (4, .int (iI 1)), (5, .int (iI 0)), (6, .int (iI (-1)))]) [1, 2, 3, 0, 4, 5, 6] dL_pays_54 rfl rfl (by decide) rfl rfl ?_
    refine aw_iload (q := 57) 6 dL_pays_55 rfl rfl ?_
    refine aw_iconst (q := 58) dL_pays_57 rfl ?_
    refine aw_icmp_ne (q := 61) dL_pays_58 rfl (t := 65) (by decide) (by omega) (by omega) (fun h => absurd h (by omega)) (fun _ => ?_)
    refine aw_iconst (q := 62) dL_pays_61 rfl ?_
    refine aw_goto (q := 66) dL_pays_62 (by decide) ?_
    refine aw_iload (q := 68) 4 dL_pays_66 rfl rfl ?_
    refine aw_icmp_ne (q := 71) dL_pays_68 rfl (t := 82) (by decide) (by omega) (by omega) (fun h => absurd h (by omega)) (fun _ => ?_)
    refine aw_iload (q := 73) 6 dL_pays_71 rfl rfl ?_
    refine aw_aload_n (q := 74) 0 dL_pays_73 rfl rfl rfl ?_
    refine aw_iload (q := 76) 5 dL_pays_74 rfl rfl ?_
    refine cv_I (q := 79) (CC := "") (id := 102) (As := [.int (iI 0)]) 1 (n_tube0 (D := D) (C := C) (T := T) (ad := ad) hst (G := G) (K := K2) ht o e2 ) (fun _ h => h) (by omega) (cell_102 ad C _) rfl wc_X5_tube wm_RL_52 wi_X5_tube ws_X5_tube wn_X5 (by decide) rfl ⟨Nat.le_of_ble_eq_true rfl, Nat.le_of_ble_eq_true rfl⟩ ⟨Nat.le_of_ble_eq_true rfl, Nat.le_of_ble_eq_true rfl⟩ (Nat.le_of_ble_eq_true rfl) dL_pays_76 rfl (fun r9 G9 h9 => ?_)
    rw [h9.1, h9.2]
    clear h9
    refine aw_icmp_le (q := 82) dL_pays_79 rfl (t := 84) (by decide) (by omega) (by omega) (fun h501 => ?_) (fun h => ((by omega : False)).elim)
    refine ae_iinc (q := 87) (lv2 := [(0, .ref (ad 102)), (1, .int (iI a)), (2, .int (iI (-5))), (3, .int (iI (-1))), (4, .int (iI 1)), (5, .int (iI 1)), (6, .int (iI (-1)))]) 5 [1, 2, 3, 4, 5, 0, 6] 1 (by omega) dL_pays_84 rfl rfl (by decide) rfl ?_
    refine aw_goto (q := 24) dL_pays_87 (by decide) ?_
    refine aw_iload (q := 26) 5 dL_pays_24 rfl rfl ?_
    refine aw_iconst (q := 27) dL_pays_26 rfl ?_
    refine aw_icmp_ge (q := 30) dL_pays_27 rfl (t := 90) (by decide) (by omega) (by omega) (fun h => absurd h (by omega)) (fun _ => ?_)
    refine aw_aload_n (q := 31) 0 dL_pays_30 rfl rfl rfl ?_
    refine aw_iload_n (q := 32) 1 dL_pays_31 rfl rfl rfl ?_
    refine aw_iload (q := 34) 5 dL_pays_32 rfl rfl ?_
    refine cv_I (q := 37) (CC := "") (id := 102) (As := [.int (iI a), .int (iI 1)]) 2 (n_change1 (D := D) (C := C) (T := T) (ad := ad) hst (G := G) (K := K2) ht o e2 (a := a) (by omega)) (fun _ h => h) (by omega) (cell_102 ad C _) rfl wc_X5_change wm_RL_66 wi_X5_change ws_X5_change wn_X5 (by decide) rfl ⟨Nat.le_of_ble_eq_true rfl, Nat.le_of_ble_eq_true rfl⟩ ⟨Nat.le_of_ble_eq_true rfl, Nat.le_of_ble_eq_true rfl⟩ (Nat.le_of_ble_eq_true rfl) dL_pays_34 rfl (fun r3 K3 h9 => ?_)
    obtain ⟨rfl, e3⟩ := h9
    rw [ch_no hc]
    refine aw_istore (q := 39) (lv2 := [(0, .ref (ad 102)), (1, .int (iI a)), (2, .int (iI (-5))), (3, .int (iI (-1))), (4, .int (iI 1)), (5, .int (iI 1)), (6, .int (iI (-1)))]) [1, 2, 3, 4, 5, 6, 0] dL_pays_37 rfl (by decide) rfl rfl ?_
    refine aw_iload_n (q := 40) 2 dL_pays_39 rfl rfl rfl ?_
    refine aw_iload (q := 42) 6 dL_pays_40 rfl rfl ?_
    refine aw_iload (q := 44) 5 dL_pays_42 rfl rfl ?_
    refine cs_I (q := 47) (As := [.int (iI 1)]) 1 (c_worth1 (T := T) (D := D) (ad := ad) K3) (fun _ h => h) wc_L_worth wm_RL_55 wt_L_worth wn_L (by decide) rfl ⟨Nat.le_of_ble_eq_true rfl, Nat.le_of_ble_eq_true rfl⟩ ⟨Nat.le_of_ble_eq_true rfl, Nat.le_of_ble_eq_true rfl⟩ (Nat.le_of_ble_eq_true rfl) dL_pays_44 rfl (fun r9 G9 h9 => ?_)
    rw [h9.1, h9.2]
    clear h9
    refine ae_imul (q := 48) (-10) (by omega) dL_pays_47 rfl ?_
    refine ae_iadd (q := 49) (-15) (by omega) dL_pays_48 rfl ?_
    refine aw_istore_n (q := 50) (lv2 := [(0, .ref (ad 102)), (1, .int (iI a)), (2, .int (iI (-15))), (3, .int (iI (-1))), (4, .int (iI 1)), (5, .int (iI 1)), (6, .int (iI (-1)))]) [1, 2, 0, 3, 4, 5, 6] dL_pays_49 rfl rfl (by decide) rfl rfl ?_
    refine aw_iload_n (q := 51) 3 dL_pays_50 rfl rfl rfl ?_
    refine aw_iload (q := 53) 6 dL_pays_51 rfl rfl ?_
    refine ae_iadd (q := 54) (-2) (by omega) dL_pays_53 rfl ?_
    refine aw_istore_n (q := 55) (lv2 := [(0, .ref (ad 102)), (1, .int (iI a)), (2, .int (iI (-15))), (3, .int (iI (-2))), (4, .int (iI 1)), (5, .int (iI 1)), (6, .int (iI (-1)))]) [1, 2, 3, 0, 4, 5, 6] dL_pays_54 rfl rfl (by decide) rfl rfl ?_
    refine aw_iload (q := 57) 6 dL_pays_55 rfl rfl ?_
    refine aw_iconst (q := 58) dL_pays_57 rfl ?_
    refine aw_icmp_ne (q := 61) dL_pays_58 rfl (t := 65) (by decide) (by omega) (by omega) (fun h => absurd h (by omega)) (fun _ => ?_)
    refine aw_iconst (q := 62) dL_pays_61 rfl ?_
    refine aw_goto (q := 66) dL_pays_62 (by decide) ?_
    refine aw_iload (q := 68) 4 dL_pays_66 rfl rfl ?_
    refine aw_icmp_ne (q := 71) dL_pays_68 rfl (t := 82) (by decide) (by omega) (by omega) (fun h => absurd h (by omega)) (fun _ => ?_)
    refine aw_iload (q := 73) 6 dL_pays_71 rfl rfl ?_
    refine aw_aload_n (q := 74) 0 dL_pays_73 rfl rfl rfl ?_
    refine aw_iload (q := 76) 5 dL_pays_74 rfl rfl ?_
    refine cv_I (q := 79) (CC := "") (id := 102) (As := [.int (iI 1)]) 1 (n_tube1 (D := D) (C := C) (T := T) (ad := ad) hst (G := G) (K := K3) ht o e3 ) (fun _ h => h) (by omega) (cell_102 ad C _) rfl wc_X5_tube wm_RL_52 wi_X5_tube ws_X5_tube wn_X5 (by decide) rfl ⟨Nat.le_of_ble_eq_true rfl, Nat.le_of_ble_eq_true rfl⟩ ⟨Nat.le_of_ble_eq_true rfl, Nat.le_of_ble_eq_true rfl⟩ (Nat.le_of_ble_eq_true rfl) dL_pays_76 rfl (fun r9 G9 h9 => ?_)
    rw [h9.1, h9.2]
    clear h9
    refine aw_icmp_le (q := 82) dL_pays_79 rfl (t := 84) (by decide) (by omega) (by omega) (fun h502 => ?_) (fun h => ((by omega : False)).elim)
    refine ae_iinc (q := 87) (lv2 := [(0, .ref (ad 102)), (1, .int (iI a)), (2, .int (iI (-15))), (3, .int (iI (-2))), (4, .int (iI 1)), (5, .int (iI 2)), (6, .int (iI (-1)))]) 5 [1, 2, 3, 4, 5, 0, 6] 2 (by omega) dL_pays_84 rfl rfl (by decide) rfl ?_
    refine aw_goto (q := 24) dL_pays_87 (by decide) ?_
    refine aw_iload (q := 26) 5 dL_pays_24 rfl rfl ?_
    refine aw_iconst (q := 27) dL_pays_26 rfl ?_
    refine aw_icmp_ge (q := 30) dL_pays_27 rfl (t := 90) (by decide) (by omega) (by omega) (fun h => absurd h (by omega)) (fun _ => ?_)
    refine aw_aload_n (q := 31) 0 dL_pays_30 rfl rfl rfl ?_
    refine aw_iload_n (q := 32) 1 dL_pays_31 rfl rfl rfl ?_
    refine aw_iload (q := 34) 5 dL_pays_32 rfl rfl ?_
    refine cv_I (q := 37) (CC := "") (id := 102) (As := [.int (iI a), .int (iI 2)]) 2 (n_change2 (D := D) (C := C) (T := T) (ad := ad) hst (G := G) (K := K3) ht o e3 (a := a) (by omega)) (fun _ h => h) (by omega) (cell_102 ad C _) rfl wc_X5_change wm_RL_66 wi_X5_change ws_X5_change wn_X5 (by decide) rfl ⟨Nat.le_of_ble_eq_true rfl, Nat.le_of_ble_eq_true rfl⟩ ⟨Nat.le_of_ble_eq_true rfl, Nat.le_of_ble_eq_true rfl⟩ (Nat.le_of_ble_eq_true rfl) dL_pays_34 rfl (fun r4 K4 h9 => ?_)
    obtain ⟨rfl, e4⟩ := h9
    rw [ch_no hc]
    refine aw_istore (q := 39) (lv2 := [(0, .ref (ad 102)), (1, .int (iI a)), (2, .int (iI (-15))), (3, .int (iI (-2))), (4, .int (iI 1)), (5, .int (iI 2)), (6, .int (iI (-1)))]) [1, 2, 3, 4, 5, 6, 0] dL_pays_37 rfl (by decide) rfl rfl ?_
    refine aw_iload_n (q := 40) 2 dL_pays_39 rfl rfl rfl ?_
    refine aw_iload (q := 42) 6 dL_pays_40 rfl rfl ?_
    refine aw_iload (q := 44) 5 dL_pays_42 rfl rfl ?_
    refine cs_I (q := 47) (As := [.int (iI 2)]) 1 (c_worth2 (T := T) (D := D) (ad := ad) K4) (fun _ h => h) wc_L_worth wm_RL_55 wt_L_worth wn_L (by decide) rfl ⟨Nat.le_of_ble_eq_true rfl, Nat.le_of_ble_eq_true rfl⟩ ⟨Nat.le_of_ble_eq_true rfl, Nat.le_of_ble_eq_true rfl⟩ (Nat.le_of_ble_eq_true rfl) dL_pays_44 rfl (fun r9 G9 h9 => ?_)
    rw [h9.1, h9.2]
    clear h9
    refine ae_imul (q := 48) (-20) (by omega) dL_pays_47 rfl ?_
    refine ae_iadd (q := 49) (-35) (by omega) dL_pays_48 rfl ?_
    refine aw_istore_n (q := 50) (lv2 := [(0, .ref (ad 102)), (1, .int (iI a)), (2, .int (iI (-35))), (3, .int (iI (-2))), (4, .int (iI 1)), (5, .int (iI 2)), (6, .int (iI (-1)))]) [1, 2, 0, 3, 4, 5, 6] dL_pays_49 rfl rfl (by decide) rfl rfl ?_
    refine aw_iload_n (q := 51) 3 dL_pays_50 rfl rfl rfl ?_
    refine aw_iload (q := 53) 6 dL_pays_51 rfl rfl ?_
    refine ae_iadd (q := 54) (-3) (by omega) dL_pays_53 rfl ?_
    refine aw_istore_n (q := 55) (lv2 := [(0, .ref (ad 102)), (1, .int (iI a)), (2, .int (iI (-35))), (3, .int (iI (-3))), (4, .int (iI 1)), (5, .int (iI 2)), (6, .int (iI (-1)))]) [1, 2, 3, 0, 4, 5, 6] dL_pays_54 rfl rfl (by decide) rfl rfl ?_
    refine aw_iload (q := 57) 6 dL_pays_55 rfl rfl ?_
    refine aw_iconst (q := 58) dL_pays_57 rfl ?_
    refine aw_icmp_ne (q := 61) dL_pays_58 rfl (t := 65) (by decide) (by omega) (by omega) (fun h => absurd h (by omega)) (fun _ => ?_)
    refine aw_iconst (q := 62) dL_pays_61 rfl ?_
    refine aw_goto (q := 66) dL_pays_62 (by decide) ?_
    refine aw_iload (q := 68) 4 dL_pays_66 rfl rfl ?_
    refine aw_icmp_ne (q := 71) dL_pays_68 rfl (t := 82) (by decide) (by omega) (by omega) (fun h => absurd h (by omega)) (fun _ => ?_)
    refine aw_iload (q := 73) 6 dL_pays_71 rfl rfl ?_
    refine aw_aload_n (q := 74) 0 dL_pays_73 rfl rfl rfl ?_
    refine aw_iload (q := 76) 5 dL_pays_74 rfl rfl ?_
    refine cv_I (q := 79) (CC := "") (id := 102) (As := [.int (iI 2)]) 1 (n_tube2 (D := D) (C := C) (T := T) (ad := ad) hst (G := G) (K := K4) ht o e4 ) (fun _ h => h) (by omega) (cell_102 ad C _) rfl wc_X5_tube wm_RL_52 wi_X5_tube ws_X5_tube wn_X5 (by decide) rfl ⟨Nat.le_of_ble_eq_true rfl, Nat.le_of_ble_eq_true rfl⟩ ⟨Nat.le_of_ble_eq_true rfl, Nat.le_of_ble_eq_true rfl⟩ (Nat.le_of_ble_eq_true rfl) dL_pays_76 rfl (fun r9 G9 h9 => ?_)
    rw [h9.1, h9.2]
    clear h9
    refine aw_icmp_le (q := 82) dL_pays_79 rfl (t := 84) (by decide) (by omega) (by omega) (fun h503 => ?_) (fun h => ((by omega : False)).elim)
    refine ae_iinc (q := 87) (lv2 := [(0, .ref (ad 102)), (1, .int (iI a)), (2, .int (iI (-35))), (3, .int (iI (-3))), (4, .int (iI 1)), (5, .int (iI 3)), (6, .int (iI (-1)))]) 5 [1, 2, 3, 4, 5, 0, 6] 3 (by omega) dL_pays_84 rfl rfl (by decide) rfl ?_
    refine aw_goto (q := 24) dL_pays_87 (by decide) ?_
    refine aw_iload (q := 26) 5 dL_pays_24 rfl rfl ?_
    refine aw_iconst (q := 27) dL_pays_26 rfl ?_
    refine aw_icmp_ge (q := 30) dL_pays_27 rfl (t := 90) (by decide) (by omega) (by omega) (fun h => absurd h (by omega)) (fun _ => ?_)
    refine aw_aload_n (q := 31) 0 dL_pays_30 rfl rfl rfl ?_
    refine aw_iload_n (q := 32) 1 dL_pays_31 rfl rfl rfl ?_
    refine aw_iload (q := 34) 5 dL_pays_32 rfl rfl ?_
    refine cv_I (q := 37) (CC := "") (id := 102) (As := [.int (iI a), .int (iI 3)]) 2 (n_change3 (D := D) (C := C) (T := T) (ad := ad) hst (G := G) (K := K4) ht o e4 (a := a) (by omega)) (fun _ h => h) (by omega) (cell_102 ad C _) rfl wc_X5_change wm_RL_66 wi_X5_change ws_X5_change wn_X5 (by decide) rfl ⟨Nat.le_of_ble_eq_true rfl, Nat.le_of_ble_eq_true rfl⟩ ⟨Nat.le_of_ble_eq_true rfl, Nat.le_of_ble_eq_true rfl⟩ (Nat.le_of_ble_eq_true rfl) dL_pays_34 rfl (fun r5 K5 h9 => ?_)
    obtain ⟨rfl, e5⟩ := h9
    rw [ch_no hc]
    refine aw_istore (q := 39) (lv2 := [(0, .ref (ad 102)), (1, .int (iI a)), (2, .int (iI (-35))), (3, .int (iI (-3))), (4, .int (iI 1)), (5, .int (iI 3)), (6, .int (iI (-1)))]) [1, 2, 3, 4, 5, 6, 0] dL_pays_37 rfl (by decide) rfl rfl ?_
    refine aw_iload_n (q := 40) 2 dL_pays_39 rfl rfl rfl ?_
    refine aw_iload (q := 42) 6 dL_pays_40 rfl rfl ?_
    refine aw_iload (q := 44) 5 dL_pays_42 rfl rfl ?_
    refine cs_I (q := 47) (As := [.int (iI 3)]) 1 (c_worth3 (T := T) (D := D) (ad := ad) K5) (fun _ h => h) wc_L_worth wm_RL_55 wt_L_worth wn_L (by decide) rfl ⟨Nat.le_of_ble_eq_true rfl, Nat.le_of_ble_eq_true rfl⟩ ⟨Nat.le_of_ble_eq_true rfl, Nat.le_of_ble_eq_true rfl⟩ (Nat.le_of_ble_eq_true rfl) dL_pays_44 rfl (fun r9 G9 h9 => ?_)
    rw [h9.1, h9.2]
    clear h9
    refine ae_imul (q := 48) (-50) (by omega) dL_pays_47 rfl ?_
    refine ae_iadd (q := 49) (-85) (by omega) dL_pays_48 rfl ?_
    refine aw_istore_n (q := 50) (lv2 := [(0, .ref (ad 102)), (1, .int (iI a)), (2, .int (iI (-85))), (3, .int (iI (-3))), (4, .int (iI 1)), (5, .int (iI 3)), (6, .int (iI (-1)))]) [1, 2, 0, 3, 4, 5, 6] dL_pays_49 rfl rfl (by decide) rfl rfl ?_
    refine aw_iload_n (q := 51) 3 dL_pays_50 rfl rfl rfl ?_
    refine aw_iload (q := 53) 6 dL_pays_51 rfl rfl ?_
    refine ae_iadd (q := 54) (-4) (by omega) dL_pays_53 rfl ?_
    refine aw_istore_n (q := 55) (lv2 := [(0, .ref (ad 102)), (1, .int (iI a)), (2, .int (iI (-85))), (3, .int (iI (-4))), (4, .int (iI 1)), (5, .int (iI 3)), (6, .int (iI (-1)))]) [1, 2, 3, 0, 4, 5, 6] dL_pays_54 rfl rfl (by decide) rfl rfl ?_
    refine aw_iload (q := 57) 6 dL_pays_55 rfl rfl ?_
    refine aw_iconst (q := 58) dL_pays_57 rfl ?_
    refine aw_icmp_ne (q := 61) dL_pays_58 rfl (t := 65) (by decide) (by omega) (by omega) (fun h => absurd h (by omega)) (fun _ => ?_)
    refine aw_iconst (q := 62) dL_pays_61 rfl ?_
    refine aw_goto (q := 66) dL_pays_62 (by decide) ?_
    refine aw_iload (q := 68) 4 dL_pays_66 rfl rfl ?_
    refine aw_icmp_ne (q := 71) dL_pays_68 rfl (t := 82) (by decide) (by omega) (by omega) (fun h => absurd h (by omega)) (fun _ => ?_)
    refine aw_iload (q := 73) 6 dL_pays_71 rfl rfl ?_
    refine aw_aload_n (q := 74) 0 dL_pays_73 rfl rfl rfl ?_
    refine aw_iload (q := 76) 5 dL_pays_74 rfl rfl ?_
    refine cv_I (q := 79) (CC := "") (id := 102) (As := [.int (iI 3)]) 1 (n_tube3 (D := D) (C := C) (T := T) (ad := ad) hst (G := G) (K := K5) ht o e5 ) (fun _ h => h) (by omega) (cell_102 ad C _) rfl wc_X5_tube wm_RL_52 wi_X5_tube ws_X5_tube wn_X5 (by decide) rfl ⟨Nat.le_of_ble_eq_true rfl, Nat.le_of_ble_eq_true rfl⟩ ⟨Nat.le_of_ble_eq_true rfl, Nat.le_of_ble_eq_true rfl⟩ (Nat.le_of_ble_eq_true rfl) dL_pays_76 rfl (fun r9 G9 h9 => ?_)
    rw [h9.1, h9.2]
    clear h9
    refine aw_icmp_le (q := 82) dL_pays_79 rfl (t := 84) (by decide) (by omega) (by omega) (fun h504 => ?_) (fun h => ((by omega : False)).elim)
    refine ae_iinc (q := 87) (lv2 := [(0, .ref (ad 102)), (1, .int (iI a)), (2, .int (iI (-85))), (3, .int (iI (-4))), (4, .int (iI 1)), (5, .int (iI 4)), (6, .int (iI (-1)))]) 5 [1, 2, 3, 4, 5, 0, 6] 4 (by omega) dL_pays_84 rfl rfl (by decide) rfl ?_
    refine aw_goto (q := 24) dL_pays_87 (by decide) ?_
    refine aw_iload (q := 26) 5 dL_pays_24 rfl rfl ?_
    refine aw_iconst (q := 27) dL_pays_26 rfl ?_
    refine aw_icmp_ge (q := 30) dL_pays_27 rfl (t := 90) (by decide) (by omega) (by omega) (fun _ => ?_) (fun h => absurd h (by omega))
    refine aw_aload_n (q := 91) 0 dL_pays_90 rfl rfl rfl ?_
    refine aw_iload_n (q := 92) 1 dL_pays_91 rfl rfl rfl ?_
    refine cv_I (q := 95) (CC := "") (id := 102) (As := [.int (iI a)]) 1 (n_coinFor (D := D) (C := C) (T := T) (ad := ad) hst (G := G) (K := K5) ht o e5 (a := a) (by omega)) (fun _ h => h) (by omega) (cell_102 ad C _) rfl wc_X5_coinFor wm_RL_69 wi_X5_coinFor ws_X5_coinFor wn_X5 (by decide) rfl ⟨Nat.le_of_ble_eq_true rfl, Nat.le_of_ble_eq_true rfl⟩ ⟨Nat.le_of_ble_eq_true rfl, Nat.le_of_ble_eq_true rfl⟩ (Nat.le_of_ble_eq_true rfl) dL_pays_92 rfl (fun r6 K6 h9 => ?_)
    obtain ⟨rfl, e6⟩ := h9
    rw [db]
    refine aw_istore (q := 97) (lv2 := [(0, .ref (ad 102)), (1, .int (iI a)), (2, .int (iI (-85))), (3, .int (iI (-4))), (4, .int (iI 1)), (5, .int (iI b)), (6, .int (iI (-1)))]) [1, 2, 3, 4, 5, 0, 6] dL_pays_95 rfl (by decide) rfl rfl ?_
    refine aw_aload_n (q := 98) 0 dL_pays_97 rfl rfl rfl ?_
    refine aw_iload_n (q := 99) 1 dL_pays_98 rfl rfl rfl ?_
    refine cv_I (q := 102) (CC := "") (id := 102) (As := [.int (iI a)]) 1 (n_most (D := D) (C := C) (T := T) (ad := ad) hst (G := G) (K := K6) ht o e6 (a := a) (by omega)) (fun _ h => h) (by omega) (cell_102 ad C _) rfl wc_X5_mostPayable wm_RL_72 wi_X5_mostPayable ws_X5_mostPayable wn_X5 (by decide) rfl ⟨Nat.le_of_ble_eq_true rfl, Nat.le_of_ble_eq_true rfl⟩ ⟨Nat.le_of_ble_eq_true rfl, Nat.le_of_ble_eq_true rfl⟩ (Nat.le_of_ble_eq_true rfl) dL_pays_99 rfl (fun r7 K7 h9 => ?_)
    obtain ⟨rfl, e7⟩ := h9
    rw [hmd]
    refine aw_istore (q := 104) (lv2 := [(0, .ref (ad 102)), (1, .int (iI a)), (2, .int (iI (-85))), (3, .int (iI (-4))), (4, .int (iI 1)), (5, .int (iI b)), (6, .int (iI m))]) [1, 2, 3, 4, 5, 6, 0] dL_pays_102 rfl (by decide) rfl rfl ?_
    refine aw_iload (q := 106) 4 dL_pays_104 rfl rfl ?_
    refine aw_if_eq (q := 109) dL_pays_106 rfl (t := 124) (by decide) (by omega) (fun h => absurd h (by omega)) (fun _ => ?_)
    refine aw_iload (q := 111) 5 dL_pays_109 rfl rfl ?_
    refine aw_iconst (q := 112) dL_pays_111 rfl ?_
    refine aw_icmp_eq (q := 115) dL_pays_112 rfl (t := 148) (by decide) (by omega) (by omega) (fun h => ((by omega : False)).elim) (fun h505 => ?_)
    refine aw_iload (q := 117) 6 dL_pays_115 rfl rfl ?_
    refine aw_iload_n (q := 118) 1 dL_pays_117 rfl rfl rfl ?_
    refine aw_icmp_ne (q := 121) dL_pays_118 rfl (t := 150) (by decide) (by omega) (by omega) (fun h506 => ?_) (fun h => ((by omega : False)).elim)
    refine aw_aload_n (q := 151) 0 dL_pays_150 rfl rfl rfl ?_
    refine aw_iload (q := 153) 6 dL_pays_151 rfl rfl ?_
    refine aw_iconst (q := 154) dL_pays_153 rfl ?_
    refine cv_I (q := 157) (CC := "") (id := 102) (As := [.int (iI m), .int (iI 0)]) 2 (n_change0 (D := D) (C := C) (T := T) (ad := ad) hst (G := G) (K := K7) ht o e7 (a := m) (by omega)) (fun _ h => h) (by omega) (cell_102 ad C _) rfl wc_X5_change wm_RL_66 wi_X5_change ws_X5_change wn_X5 (by decide) rfl ⟨Nat.le_of_ble_eq_true rfl, Nat.le_of_ble_eq_true rfl⟩ ⟨Nat.le_of_ble_eq_true rfl, Nat.le_of_ble_eq_true rfl⟩ (Nat.le_of_ble_eq_true rfl) dL_pays_154 rfl (fun r8 K8 h9 => ?_)
    obtain ⟨rfl, e8⟩ := h9
    rw [ch_0 hmc, d0]
    refine aw_iconst (q := 158) dL_pays_157 rfl ?_
    refine aw_icmp_eq (q := 161) dL_pays_158 rfl (t := 178) (by decide) (by omega) (by omega) (fun h => ((by omega : False)).elim) (fun h507 => ?_)
    refine aw_iload (q := 163) 6 dL_pays_161 rfl rfl ?_
    refine aw_iload_n (q := 164) 1 dL_pays_163 rfl rfl rfl ?_
    refine aw_icmp_gt (q := 167) dL_pays_164 rfl (t := 178) (by decide) (by omega) (by omega) (fun h => ((by omega : False)).elim) (fun h508 => ?_)
    refine aw_iload (q := 169) 6 dL_pays_167 rfl rfl ?_
    refine aw_iconst (q := 170) dL_pays_169 rfl ?_
    obtain ⟨d1, hd1⟩ : ∃ z, (m % 5) = z := ⟨_, rfl⟩
    refine aw_rem5 (q := 171) (z := d1) (by omega) (by omega) hd1 dL_pays_170 rfl ?_
    refine aw_if_ne (q := 174) dL_pays_171 rfl (t := 178) (by decide) (by omega) (fun h => ((by omega : False)).elim) (fun h509 => ?_)
    refine aw_iconst (q := 175) dL_pays_174 rfl ?_
    refine aw_goto (q := 179) dL_pays_175 (by decide) ?_
    refine aw_istore (q := 181) (lv2 := [(0, .ref (ad 102)), (1, .int (iI a)), (2, .int (iI (-85))), (3, .int (iI (-4))), (4, .int (iI 1)), (5, .int (iI b)), (6, .int (iI m)), (7, .int (iI 1))]) [1, 2, 3, 4, 5, 6, 7, 0] dL_pays_179 rfl (by decide) rfl rfl ?_
    refine aw_iload (q := 183) 6 dL_pays_181 rfl rfl ?_
    refine aw_iconst (q := 184) dL_pays_183 rfl ?_
    refine ae_iadd (q := 185) (m + 1) (by omega) dL_pays_184 rfl ?_
    refine aw_istore (q := 187) (lv2 := [(0, .ref (ad 102)), (1, .int (iI a)), (2, .int (iI (-85))), (3, .int (iI (-4))), (4, .int (iI 1)), (5, .int (iI b)), (6, .int (iI m)), (7, .int (iI 1)), (8, .int (iI (m + 1)))]) [1, 2, 3, 4, 5, 6, 7, 8, 0] dL_pays_185 rfl (by decide) rfl rfl ?_
    exact LP_pays (su := (-85)) (mn := (-4)) (nv := 1) (b := b) (m := m) hst ht o (by omega) (by omega) (by omega) hmx (fun hz => ⟨rfl, hb.2.2 hz⟩) (by omega) 1002 (m + 1) K8 e8 (by omega) (by omega) (by omega)
