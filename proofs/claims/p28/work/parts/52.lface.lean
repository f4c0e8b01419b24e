/-! the face, in the law's words: G is the machine as the law knows it, K as it lies there -/
theorem mc_ri {l : Launch} {y : MethodName} {cc : ByteArray} {nL : Nat} {ret : Option FieldType} {fr lo mc ms : Nat} {D : va_G} {ty : List (ClassId × FieldType)} {T : Nat → Nat} {As : List Value} {ws : va_W} {ad : Int → Nat} {C : Nat → ClassId} {P P2 : Int → GG → Prop} (h : MC l y cc nL ret fr lo mc ms D ty T As ws (RI ad C P)) (hq : ∀ r G1, P r G1 → P2 r G1) : MC l y cc nL ret fr lo mc ms D ty T As ws (RI ad C P2) :=
  h.mono (fun v w ⟨r, G1, e1, e2, h3⟩ => ⟨r, G1, e1, e2, hq r G1 h3⟩)
theorem mc_rf {l : Launch} {y : MethodName} {cc : ByteArray} {nL : Nat} {ret : Option FieldType} {fr lo mc ms : Nat} {D : va_G} {ty : List (ClassId × FieldType)} {T : Nat → Nat} {As : List Value} {ws : va_W} {ad : Int → Nat} {C : Nat → ClassId} {P P2 : UInt32 → GG → Prop} (h : MC l y cc nL ret fr lo mc ms D ty T As ws (RF ad C P)) (hq : ∀ r G1, P r G1 → P2 r G1) : MC l y cc nL ret fr lo mc ms D ty T As ws (RF ad C P2) :=
  h.mono (fun v w ⟨r, G1, e1, e2, h3⟩ => ⟨r, G1, e1, e2, hq r G1 h3⟩)
theorem mh_ri {l : Launch} {y : MethodName} {cc : ByteArray} {nL : Nat} {ret : Option FieldType} {hh : List (Nat × Nat × Nat × Nat)} {fr lo mc ms : Nat} {D : va_G} {ty : List (ClassId × FieldType)} {T : Nat → Nat} {As : List Value} {ws : va_W} {ad : Int → Nat} {C : Nat → ClassId} {P P2 : Int → GG → Prop} (h : MH l y cc nL ret hh fr lo mc ms D ty T As ws (RI ad C P)) (hq : ∀ r G1, P r G1 → P2 r G1) : MH l y cc nL ret hh fr lo mc ms D ty T As ws (RI ad C P2) := by
  intro sz p e ha hc hk s m args below hf hfit hheap happ
  obtain ⟨k, o, h1, h2, h3, ⟨⟨v, w, e1, ⟨r, G1, e2, e3, h4⟩, e4⟩, hF⟩, hL⟩ := h sz p e ha hc hk s m args below hf hfit hheap happ
  exact ⟨k, o, h1, h2, h3, ⟨⟨v, w, e1, ⟨r, G1, e2, e3, hq r G1 h4⟩, e4⟩, hF⟩, hL⟩
theorem n_value {l : Launch} {D : va_G} {C : Nat → ClassId} {T : Nat → Nat} {ad : Int → Nat} (hst : l.stackTraces = false) {t : Int} {G K : GG} {k : Int} (ht : t ≤ 1000) (o : okI t G) (e : eq0 G K) (hk : 0 ≤ k ∧ k ≤ 10) : MC l yX5_value cX5_value 2 (some .int) 6 95 0 0 D (tyC C) T [.ref (ad 102), .int (iI k)] (cw ad C K) (RI ad C (fun r G1 => r = numF (G 0) k ∧ G1 = K)) := by
  have m := eq0.M ht e o
  have h8 := o.1.1.2.1
  have e13 := e.1 13 (by omega)
  refine mc_ri (z_value hst K m (by omega) hk) (fun r G1 h => ?_)
  exact ⟨h.2.1.trans (numF_congr h8 e.1), h.2.2⟩
theorem n_coil {l : Launch} {D : va_G} {C : Nat → ClassId} {T : Nat → Nat} {ad : Int → Nat} (hst : l.stackTraces = false) {t : Int} {G K : GG} {c k : Int} (ht : t ≤ 1000) (o : okI t G) (e : eq0 G K) (hc : 0 ≤ c ∧ c < G 0 13) (hk : 0 ≤ k ∧ k ≤ 9) : MC l yX5_coil cX5_coil 3 (some .int) 6 95 0 0 D (tyC C) T [.ref (ad 102), .int (iI c), .int (iI k)] (cw ad C K) (RI ad C (fun r G1 => r = G 0 (15 + 12 * c + k) ∧ G1 = K)) := by
  have m := eq0.M ht e o
  have h8 := o.1.1.2.1
  have e13 := e.1 13 (by omega)
  refine mc_ri (z_coilV hst K m (by omega) (by omega) ⟨by omega, hk⟩) (fun r G1 h => ?_)
  exact ⟨h.2.1.trans (e.1 _ (by omega)), h.2.2⟩
theorem n_demand {l : Launch} {D : va_G} {C : Nat → ClassId} {T : Nat → Nat} {ad : Int → Nat} (hst : l.stackTraces = false) {t : Int} {G K : GG} {c : Int} (ht : t ≤ 1000) (o : okI t G) (e : eq0 G K) (hc : 0 ≤ c ∧ c < G 0 13) : MC l yX5_demand cX5_demand 2 (some .float) 6 95 0 0 D (tyC C) T [.ref (ad 102), .int (iI c)] (cw ad C K) (RF ad C (fun r G1 => r = fB (G 0 (15 + 12 * c + 10)) ∧ G1 = K)) := by
  have m := eq0.M ht e o
  have h8 := o.1.1.2.1
  have e13 := e.1 13 (by omega)
  refine mc_rf (z_demand hst K m (by omega) (by omega)) (fun r G1 h => ?_)
  exact ⟨by rw [h.2.1, e.1 _ (by omega)], h.2.2⟩
theorem n_tube {l : Launch} {D : va_G} {C : Nat → ClassId} {T : Nat → Nat} {ad : Int → Nat} (hst : l.stackTraces = false) {t : Int} {G K : GG} {c : Int} (ht : t ≤ 1000) (o : okI t G) (e : eq0 G K) (hc : 0 ≤ c ∧ c ≤ 3) : MC l yX5_tube cX5_tube 2 (some .int) 6 95 0 0 D (tyC C) T [.ref (ad 102), .int (iI c)] (cw ad C K) (RI ad C (fun r G1 => r = G 0 (5 + c) ∧ G1 = K)) := by
  have m := eq0.M ht e o
  have h8 := o.1.1.2.1
  have e13 := e.1 13 (by omega)
  refine mc_ri (z_tubeV hst K m (t := c) (by omega) hc) (fun r G1 h => ?_)
  exact ⟨h.2.1.trans (e.1 _ (by omega)), h.2.2⟩
theorem n_setting {l : Launch} {D : va_G} {C : Nat → ClassId} {T : Nat → Nat} {ad : Int → Nat} (hst : l.stackTraces = false) {t : Int} {G K : GG} {w : Int} (ht : t ≤ 1000) (o : okI t G) (e : eq0 G K) (hw : 0 ≤ w ∧ w ≤ 4) : MC l yX5_setting cX5_setting 2 (some .int) 6 95 0 0 D (tyC C) T [.ref (ad 102), .int (iI w)] (cw ad C K) (RI ad C (fun r G1 => r = G 0 w ∧ G1 = K)) := by
  have m := eq0.M ht e o
  have h8 := o.1.1.2.1
  have e13 := e.1 13 (by omega)
  refine mc_ri (z_setting hst K m (by omega) hw) (fun r G1 h => ?_)
  exact ⟨h.2.1.trans (e.1 _ (by omega)), h.2.2⟩
theorem n_promise {l : Launch} {D : va_G} {C : Nat → ClassId} {T : Nat → Nat} {ad : Int → Nat} (hst : l.stackTraces = false) {t : Int} {G K : GG} {p : Int} (ht : t ≤ 1000) (o : okI t G) (e : eq0 G K) (hp : 0 ≤ p ∧ p < G 0 14) : MC l yX5_promise cX5_promise 2 (some .int) 6 95 0 0 D (tyC C) T [.ref (ad 102), .int (iI p)] (cw ad C K) (RI ad C (fun r G1 => r = G 0 (111 + p) ∧ G1 = K)) := by
  have m := eq0.M ht e o
  have h8 := o.1.1.2.1
  have e13 := e.1 13 (by omega)
  refine mc_ri (z_promise hst K m (by have := o.1.2.1.1; omega) (by rw [e.1 14 (by omega)]; omega)) (fun r G1 h => ?_)
  have := o.1.2.1.1
  exact ⟨h.2.1.trans (e.1 _ (by omega)), h.2.2⟩
theorem n_change0 {l : Launch} {D : va_G} {C : Nat → ClassId} {T : Nat → Nat} {ad : Int → Nat} (hst : l.stackTraces = false) {t : Int} {G K : GG} {a : Int} (ht : t ≤ 1000) (o : okI t G) (e : eq0 G K) (ha : 0 ≤ a ∧ a ≤ 2000) : MC l yX5_change cX5_change 3 (some .int) 6 106 0 0 D (tyC C) T [.ref (ad 102), .int (iI a), .int (iI 0)] (cw ad C K) (RI ad C (fun r G1 => r = chF (G 0 5) (G 0 6) (G 0 7) (G 0 8) a 0 ∧ eq0 G G1)) := by
  have m := eq0.M ht e o
  have h8 := o.1.1.2.1
  have e13 := e.1 13 (by omega)
  refine mc_ri (z_change0 hst K m (by omega) ha) (fun r G1 h => ?_)
  refine ⟨h.2.1.trans ?_, e.tr (eq0.scr h.2.2)⟩
  rw [e.1 5 (by omega), e.1 6 (by omega), e.1 7 (by omega), e.1 8 (by omega)]
theorem n_change1 {l : Launch} {D : va_G} {C : Nat → ClassId} {T : Nat → Nat} {ad : Int → Nat} (hst : l.stackTraces = false) {t : Int} {G K : GG} {a : Int} (ht : t ≤ 1000) (o : okI t G) (e : eq0 G K) (ha : 0 ≤ a ∧ a ≤ 2000) : MC l yX5_change cX5_change 3 (some .int) 6 106 0 0 D (tyC C) T [.ref (ad 102), .int (iI a), .int (iI 1)] (cw ad C K) (RI ad C (fun r G1 => r = chF (G 0 5) (G 0 6) (G 0 7) (G 0 8) a 1 ∧ eq0 G G1)) := by
  have m := eq0.M ht e o
  have h8 := o.1.1.2.1
  have e13 := e.1 13 (by omega)
  refine mc_ri (z_change1 hst K m (by omega) ha) (fun r G1 h => ?_)
  refine ⟨h.2.1.trans ?_, e.tr (eq0.scr h.2.2)⟩
  rw [e.1 5 (by omega), e.1 6 (by omega), e.1 7 (by omega), e.1 8 (by omega)]
theorem n_change2 {l : Launch} {D : va_G} {C : Nat → ClassId} {T : Nat → Nat} {ad : Int → Nat} (hst : l.stackTraces = false) {t : Int} {G K : GG} {a : Int} (ht : t ≤ 1000) (o : okI t G) (e : eq0 G K) (ha : 0 ≤ a ∧ a ≤ 2000) : MC l yX5_change cX5_change 3 (some .int) 6 106 0 0 D (tyC C) T [.ref (ad 102), .int (iI a), .int (iI 2)] (cw ad C K) (RI ad C (fun r G1 => r = chF (G 0 5) (G 0 6) (G 0 7) (G 0 8) a 2 ∧ eq0 G G1)) := by
  have m := eq0.M ht e o
  have h8 := o.1.1.2.1
  have e13 := e.1 13 (by omega)
  refine mc_ri (z_change2 hst K m (by omega) ha) (fun r G1 h => ?_)
  refine ⟨h.2.1.trans ?_, e.tr (eq0.scr h.2.2)⟩
  rw [e.1 5 (by omega), e.1 6 (by omega), e.1 7 (by omega), e.1 8 (by omega)]
theorem n_change3 {l : Launch} {D : va_G} {C : Nat → ClassId} {T : Nat → Nat} {ad : Int → Nat} (hst : l.stackTraces = false) {t : Int} {G K : GG} {a : Int} (ht : t ≤ 1000) (o : okI t G) (e : eq0 G K) (ha : 0 ≤ a ∧ a ≤ 2000) : MC l yX5_change cX5_change 3 (some .int) 6 106 0 0 D (tyC C) T [.ref (ad 102), .int (iI a), .int (iI 3)] (cw ad C K) (RI ad C (fun r G1 => r = chF (G 0 5) (G 0 6) (G 0 7) (G 0 8) a 3 ∧ eq0 G G1)) := by
  have m := eq0.M ht e o
  have h8 := o.1.1.2.1
  have e13 := e.1 13 (by omega)
  refine mc_ri (z_change3 hst K m (by omega) ha) (fun r G1 h => ?_)
  refine ⟨h.2.1.trans ?_, e.tr (eq0.scr h.2.2)⟩
  rw [e.1 5 (by omega), e.1 6 (by omega), e.1 7 (by omega), e.1 8 (by omega)]
theorem n_coinFor {l : Launch} {D : va_G} {C : Nat → ClassId} {T : Nat → Nat} {ad : Int → Nat} (hst : l.stackTraces = false) {t : Int} {G K : GG} {a : Int} (ht : t ≤ 1000) (o : okI t G) (e : eq0 G K) (ha : 0 ≤ a ∧ a ≤ 2000) : MC l yX5_coinFor cX5_coinFor 3 (some .int) 6 107 0 0 D (tyC C) T [.ref (ad 102), .int (iI a)] (cw ad C K) (RI ad C (fun r G1 => r = cfF (G 0 5) (G 0 6) (G 0 7) (G 0 8) a ∧ eq0 G G1)) := by
  have m := eq0.M ht e o
  have h8 := o.1.1.2.1
  have e13 := e.1 13 (by omega)
  refine mc_ri (z_coinFor hst K m (by omega) ha) (fun r G1 h => ?_)
  refine ⟨h.2.1.trans ?_, e.tr (eq0.scr h.2.2)⟩
  rw [e.1 5 (by omega), e.1 6 (by omega), e.1 7 (by omega), e.1 8 (by omega)]
theorem n_most {l : Launch} {D : va_G} {C : Nat → ClassId} {T : Nat → Nat} {ad : Int → Nat} (hst : l.stackTraces = false) {t : Int} {G K : GG} {a : Int} (ht : t ≤ 1000) (o : okI t G) (e : eq0 G K) (ha : 0 ≤ a ∧ a ≤ 2000) : MC l yX5_mostPayable cX5_mostPayable 3 (some .int) 6 106 0 0 D (tyC C) T [.ref (ad 102), .int (iI a)] (cw ad C K) (RI ad C (fun r G1 => r = mpF (G 0 5) (G 0 6) (G 0 7) (G 0 8) (a / 5).toNat ∧ eq0 G G1)) := by
  have m := eq0.M ht e o
  have h8 := o.1.1.2.1
  have e13 := e.1 13 (by omega)
  refine mc_ri (z_mostPayable hst K m (b := a) (by omega) ha) (fun r G1 h => ?_)
  refine ⟨h.2.1.trans ?_, e.tr (eq0.scr h.2.2)⟩
  rw [e.1 5 (by omega), e.1 6 (by omega), e.1 7 (by omega), e.1 8 (by omega)]
theorem n_priceIn {l : Launch} {D : va_G} {C : Nat → ClassId} {T : Nat → Nat} {ad : Int → Nat} (hst : l.stackTraces = false) {t : Int} {G K : GG} {c h0 : Int} (ht : t ≤ 1000) (o : okI t G) (e : eq0 G K) (hc : 0 ≤ c ∧ c < G 0 13) (hh : 0 ≤ h0 ∧ h0 ≤ 48) : MC l yX5_priceIn cX5_priceIn 3 (some .int) 6 123 0 0 D (tyC C) T [.ref (ad 102), .int (iI c), .int (iI h0)] (cw ad C K) (RI ad C (fun r G1 => r = hoursR (G 0) h0.toNat (15 + 12 * c + 2) ∧ eq0 G G1)) := by
  have m := eq0.M ht e o
  have h8 := o.1.1.2.1
  have e13 := e.1 13 (by omega)
  refine mc_ri (z_priceIn hst K m (by omega) (by omega) ⟨by omega, by omega⟩) (fun r G1 h9 => ?_)
  obtain ⟨-, K2, v, hr, hG⟩ := h9
  have out : ∀ x y : Int, x ≠ 1 → G1 x y = K x y := fun x y hx => by rw [hG, onR_ne hx]; exact overP_out v hx
  refine ⟨?_, e.tr ⟨fun y _ => out 0 y (by omega), fun y => out 6 y (by omega), fun x y hx => out x y (by omega)⟩⟩
  have dm : domE (G 0 13) (G 0) (K2 1) := fun y y0 y1 => by
    rw [← e.1 y (by omega)]
    by_cases z : y < 15
    · exact v.1 y y0 z
    · exact v.2.1 y (by omega) (by omega)
  rw [hr]
  exact hoursR_dom o.1.1 dm h0.toNat _ (by omega) (by omega)
theorem n_row {l : Launch} {D : va_G} {C : Nat → ClassId} {T : Nat → Nat} {ad : Int → Nat} (hst : l.stackTraces = false) {t : Int} {G K : GG} {c b d : Int} (ht : t ≤ 1000) (o : okI t G) (e : eq0 G K) (hc : 0 ≤ c ∧ c < G 0 13) (hb : 0 ≤ b ∧ b ≤ 9) (hd : 0 ≤ d ∧ d ≤ 9) : MC l yX5_salesInARow cX5_salesInARow 5 (some .int) 6 151 0 0 D (tyC C) T [.ref (ad 102), .int (iI c), .int (iI b), .int (iI d)] (cw ad C K) (RI ad C (fun r G1 => eq0 G G1 ∧ (0 ≤ r ∧ r ≤ 20 ∧ r ≤ G 0 (15 + 12 * c + 1)) ∧ (1 ≤ r ↔ canSellP (cinG G 0 b 0 d) 0 c 10))) := by
  have m := eq0.M ht e o
  have h8 := o.1.1.2.1
  have e13 := e.1 13 (by omega)
  refine mc_ri (z_salesInARow hst K m (e.I o).1 (by omega) (by omega) (by omega) ⟨by omega, hb, hd⟩) (fun r G1 h => ?_)
  obtain ⟨-, K2, v, hs⟩ := h
  obtain ⟨q1, q2, q3⟩ := row_all (e.I o) (by rw [e13]; exact hc) v hs
  refine ⟨e.tr q1, by rw [← e.1 _ (by omega)]; exact q2, q3.trans ?_⟩
  exact canSell_rows (fun y hy => by rw [cinG_ne (by omega), cinG_ne (by omega)]; exact e.1 y (by omega)) (fun y y0 y1 => by unfold cinG setG; rcases (by omega : y = 0 ∨ y = 1 ∨ y = 2 ∨ y = 3) with rfl | rfl | rfl | rfl <;> rfl)
theorem n_look {l : Launch} {D : va_G} {C : Nat → ClassId} {T : Nat → Nat} {ad : Int → Nat} (hst : l.stackTraces = false) {t : Int} {G K : GG} {c : Int} (ht : t ≤ 1000) (o : okI t G) (e : eq0 G K) (hc : 0 ≤ c ∧ c < G 0 13) : MC l yX5_look cX5_look 2 (some .int) 6 99 0 0 D (tyC C) T [.ref (ad 102), .int (iI c)] (cw ad C K) (RI ad C (fun r G1 => r = G 0 (15 + 12 * c + 2) ∧ okI t G1 ∧ G1 0 13 = G 0 13 ∧ G1 0 (15 + 12 * c + 2) = G 0 (15 + 12 * c + 2) ∧ G1 0 (15 + 12 * c + 10) = faddH (G 0 (15 + 12 * c + 10)))) := by
  have m := eq0.M ht e o
  have h8 := o.1.1.2.1
  have e13 := e.1 13 (by omega)
  refine mc_ri (z_look hst K m (by omega) (by omega)) (fun r G1 h => ?_)
  obtain ⟨-, H, s, hr, hG⟩ := h
  obtain ⟨oH, eH⟩ := okI_save (e.I o) s
  have ow := (o.1.1.2.2 c hc.1 hc.2).2.2.2.2.2.2.2.1
  rw [e.1 _ (by omega)] at hr hG
  refine ⟨hr, by rw [hG]; exact okI_look (by omega) (fw_addH ow).2 oH, ?_, ?_, by rw [hG, setG_same]⟩
  · rw [hG, setG_ne (by omega), eH, e13]
  · rw [hG, setG_ne (by omega), eH, e.1 _ (by omega)]
theorem n_addCoil {l : Launch} {D : va_G} {C : Nat → ClassId} {T : Nat → Nat} {ad : Int → Nat} (hst : l.stackTraces = false) {t : Int} {G K : GG} {a b c : Int} (ht : t ≤ 1000) (o : okI t G) (e : eq0 G K) (ht0 : 0 ≤ t) (ha : 0 ≤ a ∧ a ≤ 5) (hb : 5 ≤ b ∧ b % 5 = 0) (hc : b ≤ c ∧ c ≤ 500 ∧ c % 5 = 0) (h7 : G 0 13 < 8) : MC l yX5_addCoil cX5_addCoil 4 (some .int) 6 99 0 0 D (tyC C) T [.ref (ad 102), .int (iI a), .int (iI b), .int (iI c)] (cw ad C K) (RI ad C (fun r G1 => r = G 0 13 ∧ okI t G1 ∧ G1 0 13 = G 0 13 + 1 ∧ G1 0 (15 + 12 * G 0 13 + 0) = a ∧ G1 0 (15 + 12 * G 0 13 + 1) = 0 ∧ G1 0 (15 + 12 * G 0 13 + 2) = b ∧ G1 0 (15 + 12 * G 0 13 + 10) = 0)) := by
  have m := eq0.M ht e o
  have h8 := o.1.1.2.1
  have e13 := e.1 13 (by omega)
  refine mc_ri (z_addCoil hst K m (by omega) (by omega) (by omega) ⟨ha, by omega, hc, by omega⟩) (fun r G1 h => ?_)
  obtain ⟨-, H, s, hr, hG⟩ := h
  obtain ⟨oH, eH⟩ := okI_save (e.I o) s
  have h13 : H 0 13 = G 0 13 := by rw [eH, e13]
  rw [e13] at hr hG
  rw [← h13] at hG
  obtain ⟨oA, a13, ac⟩ := okI_add ha hb hc (by rw [h13]; exact h7) ht0 hG oH
  rw [h13] at ac a13
  exact ⟨hr, oA, a13, ac 0 (by omega) (by omega), ac 1 (by omega) (by omega), ac 2 (by omega) (by omega), ac 10 (by omega) (by omega)⟩

/-- hours: what priceIn foretold -/
theorem hours_eq {G K : GG} (o : okH (G 0)) (e : eq0 G K) (n : Nat) : ∀ y : Int, (0 ≤ y ∧ y < 15 + 12 * G 0 13) ∨ (111 ≤ y ∧ y < 312) → hoursR (K 0) n y = hoursR (G 0) n y := fun y hy => by
  have h8 := o.2.1
  by_cases z : 111 ≤ y
  · rw [hours_ne o (by omega) n, hours_ne (okH_congr e.1 o) (by omega) n]
    exact e.1 y (by omega)
  · exact hoursR_dom o (fun y y0 y1 => e.1 y (by omega)) n y (by omega) (by omega)
theorem n_pass {l : Launch} {D : va_G} {C : Nat → ClassId} {T : Nat → Nat} {ad : Int → Nat} (hst : l.stackTraces = false) {t : Int} {G K : GG} {h0 : Int} (ht : t ≤ 1000) (o : okI t G) (e : eq0 G K) (h1 : 1 ≤ h0 ∧ h0 ≤ 48) (ht9 : t ≤ 900) : MC l yX5_pass cX5_pass 2 (some .int) 6 123 0 0 D (tyC C) T [.ref (ad 102), .int (iI h0)] (cw ad C K) (RI ad C (fun r G1 => r = hoursR (G 0) h0.toNat 12 - G 0 12 ∧ okI (t + 1) G1 ∧ (∀ y : Int, (0 ≤ y ∧ y < 15 + 12 * G 0 13) ∨ (111 ≤ y ∧ y < 312) → G1 0 y = hoursR (G 0) h0.toNat y) ∧ ∃ H, saveP K H ∧ ∀ x y : Int, x ≠ 0 → G1 x y = H x y)) := by
  have m := eq0.M ht e o
  have h8 := o.1.1.2.1
  have e13 := e.1 13 (by omega)
  refine mc_ri (z_pass hst K m (h := h0) (by omega) ⟨h1, by rw [e.1 10 (by omega)]; have := o.2.2.1; omega⟩) (fun r G1 h => ?_)
  obtain ⟨-, H, s, hr, hG⟩ := h
  obtain ⟨oH, eH⟩ := okI_save (e.I o) s
  have he := hours_eq o.1.1 e h0.toNat
  refine ⟨?_, ?_, fun y hy => ?_, H, s, fun x y hx => by rw [hG, onR_ne hx]⟩
  · rw [hr, he 12 (by omega), e.1 12 (by omega)]
  · rw [hG, ← eH]
    exact okI_hours (by omega) oH
  · rw [hG, onR_at]
    exact he y hy
theorem n_set0 {l : Launch} {D : va_G} {C : Nat → ClassId} {T : Nat → Nat} {ad : Int → Nat} (hst : l.stackTraces = false) {t : Int} {G K : GG} {v : Int} (ht : t ≤ 1000) (o : okI t G) (e : eq0 G K) (hv : 1 ≤ v ∧ v ≤ 100 ∧ v % 1 = 0) : MC l yX5_set cX5_set 3 (some .int) 6 99 0 0 D (tyC C) T [.ref (ad 102), .int (iI 0), .int (iI v)] (cw ad C K) (RI ad C (fun r G1 => r = G 0 0 ∧ okI t G1 ∧ G1 0 0 = v)) := by
  have m := eq0.M ht e o
  have h8 := o.1.1.2.1
  have e13 := e.1 13 (by omega)
  refine mc_ri (z_set0 hst K m (by omega) hv) (fun r G1 h => ?_)
  obtain ⟨-, H, s, hr, hG⟩ := h
  obtain ⟨oH, eH⟩ := okI_save (e.I o) s
  refine ⟨hr.trans (e.1 _ (by omega)), ?_, by rw [hG, setG_same]⟩
  rw [hG]
  refine okI_set (by omega) ?_ oH
  have os := oH.1.1.1
  unfold okS at os ⊢
  rw [up_s, up_n (z := 1) (by omega), up_n (z := 2) (by omega), up_n (z := 3) (by omega), up_n (z := 4) (by omega)]
  omega
theorem n_set1 {l : Launch} {D : va_G} {C : Nat → ClassId} {T : Nat → Nat} {ad : Int → Nat} (hst : l.stackTraces = false) {t : Int} {G K : GG} {v : Int} (ht : t ≤ 1000) (o : okI t G) (e : eq0 G K) (hv : 0 ≤ v ∧ v ≤ 100 ∧ v % 1 = 0) : MC l yX5_set cX5_set 3 (some .int) 6 99 0 0 D (tyC C) T [.ref (ad 102), .int (iI 1), .int (iI v)] (cw ad C K) (RI ad C (fun r G1 => r = G 0 1 ∧ okI t G1 ∧ G1 0 1 = v)) := by
  have m := eq0.M ht e o
  have h8 := o.1.1.2.1
  have e13 := e.1 13 (by omega)
  refine mc_ri (z_set1 hst K m (by omega) hv) (fun r G1 h => ?_)
  obtain ⟨-, H, s, hr, hG⟩ := h
  obtain ⟨oH, eH⟩ := okI_save (e.I o) s
  refine ⟨hr.trans (e.1 _ (by omega)), ?_, by rw [hG, setG_same]⟩
  rw [hG]
  refine okI_set (by omega) ?_ oH
  have os := oH.1.1.1
  unfold okS at os ⊢
  rw [up_n (z := 0) (by omega), up_s, up_n (z := 2) (by omega), up_n (z := 3) (by omega), up_n (z := 4) (by omega)]
  omega
theorem n_set2 {l : Launch} {D : va_G} {C : Nat → ClassId} {T : Nat → Nat} {ad : Int → Nat} (hst : l.stackTraces = false) {t : Int} {G K : GG} {v : Int} (ht : t ≤ 1000) (o : okI t G) (e : eq0 G K) (hv : 0 ≤ v ∧ v ≤ 100 ∧ v % 1 = 0) : MC l yX5_set cX5_set 3 (some .int) 6 99 0 0 D (tyC C) T [.ref (ad 102), .int (iI 2), .int (iI v)] (cw ad C K) (RI ad C (fun r G1 => r = G 0 2 ∧ okI t G1 ∧ G1 0 2 = v)) := by
  have m := eq0.M ht e o
  have h8 := o.1.1.2.1
  have e13 := e.1 13 (by omega)
  refine mc_ri (z_set2 hst K m (by omega) hv) (fun r G1 h => ?_)
  obtain ⟨-, H, s, hr, hG⟩ := h
  obtain ⟨oH, eH⟩ := okI_save (e.I o) s
  refine ⟨hr.trans (e.1 _ (by omega)), ?_, by rw [hG, setG_same]⟩
  rw [hG]
  refine okI_set (by omega) ?_ oH
  have os := oH.1.1.1
  unfold okS at os ⊢
  rw [up_n (z := 0) (by omega), up_n (z := 1) (by omega), up_s, up_n (z := 3) (by omega), up_n (z := 4) (by omega)]
  omega
theorem n_set3 {l : Launch} {D : va_G} {C : Nat → ClassId} {T : Nat → Nat} {ad : Int → Nat} (hst : l.stackTraces = false) {t : Int} {G K : GG} {v : Int} (ht : t ≤ 1000) (o : okI t G) (e : eq0 G K) (hv : 0 ≤ v ∧ v ≤ 1000 ∧ v % 1 = 0) : MC l yX5_set cX5_set 3 (some .int) 6 99 0 0 D (tyC C) T [.ref (ad 102), .int (iI 3), .int (iI v)] (cw ad C K) (RI ad C (fun r G1 => r = G 0 3 ∧ okI t G1 ∧ G1 0 3 = v)) := by
  have m := eq0.M ht e o
  have h8 := o.1.1.2.1
  have e13 := e.1 13 (by omega)
  refine mc_ri (z_set3 hst K m (by omega) hv) (fun r G1 h => ?_)
  obtain ⟨-, H, s, hr, hG⟩ := h
  obtain ⟨oH, eH⟩ := okI_save (e.I o) s
  refine ⟨hr.trans (e.1 _ (by omega)), ?_, by rw [hG, setG_same]⟩
  rw [hG]
  refine okI_set (by omega) ?_ oH
  have os := oH.1.1.1
  unfold okS at os ⊢
  rw [up_n (z := 0) (by omega), up_n (z := 1) (by omega), up_n (z := 2) (by omega), up_s, up_n (z := 4) (by omega)]
  omega
theorem n_set4 {l : Launch} {D : va_G} {C : Nat → ClassId} {T : Nat → Nat} {ad : Int → Nat} (hst : l.stackTraces = false) {t : Int} {G K : GG} {v : Int} (ht : t ≤ 1000) (o : okI t G) (e : eq0 G K) (hv : 0 ≤ v ∧ v ≤ 100 ∧ v % 5 = 0) : MC l yX5_set cX5_set 3 (some .int) 6 99 0 0 D (tyC C) T [.ref (ad 102), .int (iI 4), .int (iI v)] (cw ad C K) (RI ad C (fun r G1 => r = G 0 4 ∧ okI t G1 ∧ G1 0 4 = v)) := by
  have m := eq0.M ht e o
  have h8 := o.1.1.2.1
  have e13 := e.1 13 (by omega)
  refine mc_ri (z_set4 hst K m (by omega) hv) (fun r G1 h => ?_)
  obtain ⟨-, H, s, hr, hG⟩ := h
  obtain ⟨oH, eH⟩ := okI_save (e.I o) s
  refine ⟨hr.trans (e.1 _ (by omega)), ?_, by rw [hG, setG_same]⟩
  rw [hG]
  refine okI_set (by omega) ?_ oH
  have os := oH.1.1.1
  unfold okS at os ⊢
  rw [up_n (z := 0) (by omega), up_n (z := 1) (by omega), up_n (z := 2) (by omega), up_n (z := 3) (by omega), up_s]
  omega

theorem n_stock {l : Launch} {D : va_G} {C : Nat → ClassId} {T : Nat → Nat} {ad : Int → Nat} (hst : l.stackTraces = false) {t : Int} {G K : GG} {a0 a1 : Int} (ht : t ≤ 1000) (o : okI t G) (e : eq0 G K) (h0 : -2147483648 ≤ a0 ∧ a0 ≤ 2147483647) (h1 : 1 ≤ a1 ∧ a1 ≤ 20) : MH l yL_stock cL_stock 4 (some .int) [(0, 6, 7, 15), (0, 6, 12, 17), (0, 6, 17, 19)] 7 200 1 6 D (tyC C) T (.ref (ad 102) :: [.int (iI a0), .int (iI a1)]) (cw ad C K) (RI ad C (fun r G1 => ((0 ≤ a0 ∧ a0 < G 0 13) ∧ G 0 (15 + 12 * a0 + 1) + a1 ≤ 20 ∧ r = G 0 (15 + 12 * a0 + 1) + a1 ∧ okI t G1 ∧ G1 0 13 = G 0 13) ∨ (r = -903 ∧ ¬ (0 ≤ a0 ∧ a0 < G 0 13) ∧ eq0 G G1) ∨ (r = -902 ∧ (0 ≤ a0 ∧ a0 < G 0 13) ∧ 20 < G 0 (15 + 12 * a0 + 1) + a1 ∧ eq0 G G1))) := by
  have m := eq0.M ht e o
  have h8 := o.1.1.2.1
  have e13 := e.1 13 (by omega)
  refine mh_ri (cL_h_stock K (c_stock hst K m (by omega) (by omega)) (fun E G1 q => ?_) (by decide) (by decide) (by decide) (by decide)) (fun r G1 h => ?_)
  · rcases q with ⟨-, q⟩
    rcases q with ⟨rfl, -⟩ | ⟨rfl, -⟩ | ⟨rfl, -⟩ <;> decide
  · rcases h with ⟨⟨c1, c2, c3⟩, H, s, hr, hG⟩ | ⟨hr, hG, hx⟩ | ⟨hr, hG, hx⟩ | ⟨hr, hG, hx⟩
    · left
      rw [e13] at c1
      obtain ⟨oH, eH⟩ := okI_save (e.I o) s
      have oc := (o.1.1.2.2 a0 c1.1 c1.2).1
      rw [e.1 _ (by omega)] at c3 hr hG
      refine ⟨c1, c3, hr, ?_, ?_⟩
      · rw [hG]; exact okI_goods (by omega) (by omega) oH
      · rw [hG, setG_ne (by omega), eH, e13]
    · right; left
      rw [e13] at hx
      rcases hx with ⟨-, hx⟩ | ⟨hx, -⟩ | ⟨hx, -⟩
      · exact ⟨hr, hx, by rw [hG]; exact e⟩
      · exact absurd hx (by decide)
      · exact absurd hx (by decide)
    · rcases hx with ⟨hx, -⟩ | ⟨-, -, hx⟩ | ⟨hx, -⟩
      · exact absurd hx (by decide)
      · exact absurd h1 hx
      · exact absurd hx (by decide)
    · right; right
      rcases hx with ⟨hx, -⟩ | ⟨hx, -⟩ | ⟨-, hc, hx⟩
      · exact absurd hx (by decide)
      · exact absurd hx (by decide)
      · rw [e13] at hc
        rw [e.1 _ (by omega)] at hx
        exact ⟨hr, hc.1, by omega, by rw [hG]; exact e⟩
theorem n_fill {l : Launch} {D : va_G} {C : Nat → ClassId} {T : Nat → Nat} {ad : Int → Nat} (hst : l.stackTraces = false) {t : Int} {G K : GG} {a0 a1 : Int} (ht : t ≤ 1000) (o : okI t G) (e : eq0 G K) (h0 : 0 ≤ a0 ∧ a0 ≤ 4) (h1 : 1 ≤ a1 ∧ a1 ≤ 30) : MH l yL_fill cL_fill 4 (some .int) [(0, 6, 7, 15), (0, 6, 12, 17)] 7 200 1 6 D (tyC C) T (.ref (ad 102) :: [.int (iI a0), .int (iI a1)]) (cw ad C K) (RI ad C (fun r G1 => (a0 ≤ 3 ∧ r = min a1 (30 - G 0 (5 + a0)) ∧ okI t G1 ∧ worthF (G1 0) 5 = worthF (G 0) 5 + min a1 (30 - G 0 (5 + a0)) * (if a0 = 3 then 50 else if a0 = 2 then 20 else if a0 = 1 then 10 else 5) - (G1 0 11 - G 0 11) ∧ (G1 0 14 = 0 ∨ ¬ canF (G1 0 5) (G1 0 6) (G1 0 7) (G1 0 8) (G1 0 111))) ∨ (r = -903 ∧ a0 = 4 ∧ eq0 G G1))) := by
  have m := eq0.M ht e o
  have h8 := o.1.1.2.1
  have e13 := e.1 13 (by omega)
  refine mh_ri (cL_h_fill K (c_fill hst K m (by omega) (by omega)) (fun E G1 q => ?_) (by decide) (by decide) (by decide) (by decide)) (fun r G1 h => ?_)
  · rcases q with ⟨-, q⟩
    rcases q with ⟨rfl, -⟩ | ⟨rfl, -⟩ <;> decide
  · rcases h with ⟨⟨c1, c2⟩, H, s, hr, hk⟩ | ⟨hr, hG, hx⟩ | ⟨hr, hG, hx⟩
    · left
      obtain ⟨oH, eH⟩ := okI_save (e.I o) s
      obtain ⟨q1, q2, q3⟩ := fill_all (by omega) (by omega) oH hk
      have w : worthF (K 0) 5 = worthF (G 0) 5 := by
        show 5 * K 0 5 + 10 * K 0 6 + 20 * K 0 7 + 50 * K 0 8 = 5 * G 0 5 + 10 * G 0 6 + 20 * G 0 7 + 50 * G 0 8
        rw [e.1 5 (by omega), e.1 6 (by omega), e.1 7 (by omega), e.1 8 (by omega)]
      rw [eH, w, e.1 11 (by omega), e.1 (5 + a0) (by omega)] at q2
      rw [e.1 (5 + a0) (by omega)] at hr
      exact ⟨c1.2, hr, q1, q2, q3⟩
    · right
      rcases hx with ⟨-, hx⟩ | ⟨hx, -⟩
      · exact ⟨hr, by omega, by rw [hG]; exact e⟩
      · exact absurd hx (by decide)
    · rcases hx with ⟨hx, -⟩ | ⟨-, -, hx⟩
      · exact absurd hx (by decide)
      · exact absurd h1 hx
theorem n_buy {l : Launch} {D : va_G} {C : Nat → ClassId} {T : Nat → Nat} {ad : Int → Nat} (hst : l.stackTraces = false) {t : Int} {G K : GG} {a0 a1 a2 a3 a4 : Int} (ht : t ≤ 1000) (o : okI t G) (e : eq0 G K) (h0 : 0 ≤ a0 ∧ a0 < G 0 13) (h1 : 0 ≤ a1 ∧ a1 ≤ 9) (h2 : 0 ≤ a2 ∧ a2 ≤ 9) (h3 : 0 ≤ a3 ∧ a3 ≤ 9) (h4 : 0 ≤ a4 ∧ a4 ≤ 9) : MH l yL_buy cL_buy 7 (some .int) [(0, 11, 12, 15), (0, 11, 18, 17), (0, 11, 24, 19)] 7 200 1 6 D (tyC C) T (.ref (ad 102) :: [.int (iI a0), .int (iI a1), .int (iI a2), .int (iI a3), .int (iI a4)]) (cw ad C K) (RI ad C (fun r G1 => (canSellP (cinG G a1 a2 a3 a4) 0 a0 10 ∧ okI (t + 1) G1 ∧ soldP G G1 a0 (putF a1 a2 a3 a4) r) ∨ (r = -902 ∧ ¬ canSellP (cinG G a1 a2 a3 a4) 0 a0 10 ∧ eq0 G G1))) := by
  have m := eq0.M ht e o
  have h8 := o.1.1.2.1
  have e13 := e.1 13 (by omega)
  refine mh_ri (cL_h_buy K (c_buy hst K m (by omega) (by omega) (by omega) (by omega) (by omega)) (fun E G1 q => ?_) (by decide) (by decide) (by decide) (by decide)) (fun r G1 h => ?_)
  · rcases q with ⟨rfl, -⟩ | ⟨rfl, -⟩ | ⟨rfl, -⟩ <;> decide
  · have hcc : canSellP (cinG K a1 a2 a3 a4) 0 a0 10 ↔ canSellP (cinG G a1 a2 a3 a4) 0 a0 10 := canSell_rows (fun y hy => by rw [cinG_ne (by omega), cinG_ne (by omega)]; exact e.1 y (by omega)) (fun y y0 y1 => by unfold cinG setG; rcases (by omega : y = 0 ∨ y = 1 ∨ y = 2 ∨ y = 3) with rfl | rfl | rfl | rfl <;> rfl)
    have ec : eq0 K (cinG K a1 a2 a3 a4) := ⟨fun y _ => cinG_ne (by omega), fun y => cinG_ne (by omega), fun x y hx => cinG_ne (by omega)⟩
    rcases h with ⟨⟨c1, c2, c3⟩, K1, H, hs, s, hse⟩ | ⟨hr, hx⟩ | ⟨hr, hx⟩ | ⟨hr, hx⟩
    · left
      have e1 : eq0 G K1 := e.tr (ec.tr (eq0.scr hs))
      obtain ⟨oH, eH⟩ := okI_save (e1.I o) s
      have v1 := (e1.I o).2.1
      have g0 : ∀ y : Int, y < 312 → H 0 y = G 0 y := fun y hy => by rw [eH]; exact e1.1 y hy
      have p10 : ∀ y : Int, H 10 y = cinG K a1 a2 a3 a4 10 y := fun y => (saveP_ne v1 s (by omega)).trans (hs 10 y (by omega))
      have cH : canSellP H 0 a0 10 := (canSell_rows (G := cinG G a1 a2 a3 a4) (j := 0) (fun y hy => by rw [cinG_ne (by omega)]; exact g0 y (by omega)) (fun y y0 y1 => by rw [p10]; unfold cinG setG; rcases (by omega : y = 0 ∨ y = 1 ∨ y = 2 ∨ y = 3) with rfl | rfl | rfl | rfl <;> rfl)).mpr (hcc.mp c3)
      obtain ⟨q1, q2⟩ := sell_all oH (by rw [g0 13 (by omega)]; exact h0) (fun k k0 k1 => by
        rw [p10]
        rcases (by omega : k = 0 ∨ k = 1 ∨ k = 2 ∨ k = 3) with rfl | rfl | rfl | rfl
        · rw [cinG_0]; exact h1
        · rw [cinG_1]; exact h2
        · rw [cinG_2]; exact h3
        · rw [cinG_3]; exact h4) cH hse
      refine ⟨hcc.mp c3, q1, ?_⟩
      have w : worthF (H 0) 5 = worthF (G 0) 5 := by
        show 5 * H 0 5 + 10 * H 0 6 + 20 * H 0 7 + 50 * H 0 8 = 5 * G 0 5 + 10 * G 0 6 + 20 * G 0 7 + 50 * G 0 8
        rw [g0 5 (by omega), g0 6 (by omega), g0 7 (by omega), g0 8 (by omega)]
      have wp : worthF (H 10) 0 = putF a1 a2 a3 a4 := by
        rw [← cin_worth K a1 a2 a3 a4]
        show 5 * H 10 0 + 10 * H 10 1 + 20 * H 10 2 + 50 * H 10 3 = 5 * cinG K a1 a2 a3 a4 10 0 + 10 * cinG K a1 a2 a3 a4 10 1 + 20 * cinG K a1 a2 a3 a4 10 2 + 50 * cinG K a1 a2 a3 a4 10 3
        rw [p10, p10, p10, p10]
      unfold soldP at q2 ⊢
      rw [w, wp, g0 (15 + 12 * a0 + 2) (by omega), g0 (15 + 12 * a0 + 1) (by omega), g0 (15 + 12 * a0 + 6) (by omega), g0 (15 + 12 * a0 + 7) (by omega), g0 (15 + 12 * a0 + 10) (by omega), g0 13 (by omega), g0 9 (by omega), g0 11 (by omega), g0 311 (by omega), g0 3 (by omega)] at q2
      obtain ⟨z1, z2, z3, z4, z5⟩ := q2
      exact ⟨z1, z2, z3, fun y y0 y1 => (z4 y y0 y1).trans (g0 y (by omega)), z5⟩
    · rcases hx with ⟨-, -, hx⟩ | ⟨hx, -⟩ | ⟨hx, -⟩
      · rw [e13] at hx; exact absurd h0 hx
      · exact absurd hx (by decide)
      · exact absurd hx (by decide)
    · rcases hx with ⟨hx, -⟩ | ⟨-, -, -, hx⟩ | ⟨hx, -⟩
      · exact absurd hx (by decide)
      · exact absurd ⟨h1, h2, h3, h4⟩ hx
      · exact absurd hx (by decide)
    · right
      rcases hx with ⟨hx, -⟩ | ⟨hx, -⟩ | ⟨-, -, -, hx, hs⟩
      · exact absurd hx (by decide)
      · exact absurd hx (by decide)
      · exact ⟨hr, fun z => hx (hcc.mpr z), e.tr (ec.tr (eq0.scr hs))⟩
theorem n_passC {l : Launch} {D : va_G} {C : Nat → ClassId} {T : Nat → Nat} {ad : Int → Nat} (hst : l.stackTraces = false) {t : Int} {G K : GG} {a0 : Int} (ht : t ≤ 1000) (o : okI t G) (e : eq0 G K) (h1 : 0 ≤ a0 ∧ a0 ≤ 49) (ht9 : t ≤ 900) : MH l yL_pass cL_pass 3 (some .int) [(0, 5, 6, 17), (0, 5, 11, 19)] 7 200 1 6 D (tyC C) T (.ref (ad 102) :: [.int (iI a0)]) (cw ad C K) (RI ad C (fun r G1 => ((1 ≤ a0 ∧ a0 ≤ 48) ∧ r = hoursR (G 0) a0.toNat 12 - G 0 12 ∧ okI (t + 1) G1 ∧ ∃ H, saveP K H ∧ ∀ x y : Int, x ≠ 0 → G1 x y = H x y) ∨ (r = -901 ∧ ¬ (1 ≤ a0 ∧ a0 ≤ 48) ∧ eq0 G G1))) := by
  have m := eq0.M ht e o
  have h8 := o.1.1.2.1
  have e13 := e.1 13 (by omega)
  refine mh_ri (cL_h_pass K (c_pass hst K m (by omega)) (fun E G1 q => ?_) (by decide) (by decide) (by decide) (by decide)) (fun r G1 h => ?_)
  · rcases q with ⟨-, q⟩
    rcases q with ⟨rfl, -⟩ | ⟨rfl, -⟩ <;> decide
  · rcases h with ⟨⟨c1, c2⟩, H, s, hr, hG⟩ | ⟨hr, hG, hx⟩ | ⟨hr, hG, hx⟩
    · left
      obtain ⟨oH, eH⟩ := okI_save (e.I o) s
      have he := hours_eq o.1.1 e a0.toNat
      refine ⟨c1, ?_, ?_, H, s, fun x y hx => by rw [hG, onR_ne hx]⟩
      · rw [hr, he 12 (by omega), e.1 12 (by omega)]
      · rw [hG, ← eH]
        exact okI_hours (by omega) oH
    · right
      rcases hx with ⟨-, hx⟩ | ⟨hx, -⟩
      · exact ⟨hr, hx, by rw [hG]; exact e⟩
      · exact absurd hx (by decide)
    · rcases hx with ⟨hx, -⟩ | ⟨-, -, hx⟩
      · exact absurd hx (by decide)
      · rw [e.1 10 (by omega)] at hx
        have := o.2.2.1
        omega
theorem n_undo {l : Launch} {D : va_G} {C : Nat → ClassId} {T : Nat → Nat} {ad : Int → Nat} (hst : l.stackTraces = false) {t t2 : Int} {G H A : GG} (ht : t ≤ 1000) (ht2 : t2 ≤ 1000) (o : okI t G) (oA : okI t2 A) (s : saveP G H) (hA : ∀ x y : Int, 2 ≤ x ∧ x ≤ 6 → A x y = H x y) : MH l yL_undo cL_undo 2 (some .int) [(0, 4, 5, 19)] 7 200 1 6 D (tyC C) T (.ref (ad 102) :: []) (cw ad C A) (RI ad C (fun r G1 => (0 ≤ r ∧ r ≤ 4) ∧ okI t G1 ∧ ∀ y : Int, (0 ≤ y ∧ y < 15 + 12 * G 0 13) ∨ (111 ≤ y ∧ y < 312) → G1 0 y = G 0 y)) := by
  have ok := undo_okH o s hA
  refine mh_ri (cL_h_undo A (c_undo hst A (okI_M ht2 oA) (fun _ => ok.2)) (fun E G1 q => ?_) (by decide) (by decide) (by decide) (by decide)) (fun r G1 h => ?_)
  · rcases q with ⟨-, rfl, -⟩; decide
  · rcases h with ⟨h1, hr, u⟩ | ⟨hr, hG, hx⟩
    · obtain ⟨q1, q2⟩ := undo_all o s hA u
      have v0 := oA.2.1.1
      exact ⟨by omega, q1, q2⟩
    · exact absurd ok.1 hx.2
/-- with nothing saved -/
theorem n_undo0 {l : Launch} {D : va_G} {C : Nat → ClassId} {T : Nat → Nat} {ad : Int → Nat} (hst : l.stackTraces = false) {t : Int} {G : GG} (ht : t ≤ 1000) (o : okI t G) (h0 : G 6 0 = 0) : MH l yL_undo cL_undo 2 (some .int) [(0, 4, 5, 19)] 7 200 1 6 D (tyC C) T (.ref (ad 102) :: []) (cw ad C G) (RI ad C (fun r G1 => r = -902 ∧ G1 = G)) := by
  refine mh_ri (cL_h_undo G (c_undo hst G (okI_M ht o) (fun h => by omega)) (fun E G1 q => ?_) (by decide) (by decide) (by decide) (by decide)) (fun r G1 h => ?_)
  · rcases q with ⟨-, rfl, -⟩; decide
  · rcases h with ⟨h1, hr, u⟩ | ⟨hr, hG, hx⟩
    · omega
    · exact ⟨hr, hG⟩
theorem n_promiseC {l : Launch} {D : va_G} {C : Nat → ClassId} {T : Nat → Nat} {ad : Int → Nat} (hst : l.stackTraces = false) {t : Int} {G K : GG} {a0 : Int} (ht : t ≤ 1000) (o : okI t G) (e : eq0 G K) (h1 : 0 ≤ a0 ∧ a0 ≤ 1000) : MH l yL_promise cL_promise 3 (some .int) [(0, 5, 6, 15)] 7 200 1 6 D (tyC C) T (.ref (ad 102) :: [.int (iI a0)]) (cw ad C K) (RI ad C (fun r G1 => (0 ≤ a0 ∧ a0 < G 0 14 ∧ r = G 0 (111 + a0) ∧ G1 = K) ∨ (r = -903 ∧ G 0 14 ≤ a0 ∧ G1 = K))) := by
  have m := eq0.M ht e o
  have h8 := o.1.1.2.1
  have e13 := e.1 13 (by omega)
  refine mh_ri (cL_h_promise K (c_promise hst K m (by omega)) (fun E G1 q => ?_) (by decide) (by decide) (by decide) (by decide)) (fun r G1 h => ?_)
  · rcases q with ⟨-, rfl, -⟩; decide
  · have e14 := e.1 14 (by omega)
    have p14 := o.1.2.1.1
    rcases h with ⟨c1, hr, hG⟩ | ⟨hr, hG, hx⟩
    · left
      exact ⟨c1.1, by omega, hr.trans (e.1 _ (by omega)), hG⟩
    · right
      exact ⟨hr, by have := hx.2; omega, hG⟩
theorem n_coilC {l : Launch} {D : va_G} {C : Nat → ClassId} {T : Nat → Nat} {ad : Int → Nat} (hst : l.stackTraces = false) {t : Int} {G K : GG} {a0 a1 : Int} (ht : t ≤ 1000) (o : okI t G) (e : eq0 G K) (h1 : 0 ≤ a0 ∧ a0 ≤ 1000) (h2 : 0 ≤ a1 ∧ a1 ≤ 9) : MH l yL_coil cL_coil 4 (some .int) [(0, 6, 7, 15), (0, 6, 12, 17)] 7 200 1 6 D (tyC C) T (.ref (ad 102) :: [.int (iI a0), .int (iI a1)]) (cw ad C K) (RI ad C (fun r G1 => (a0 < G 0 13 ∧ r = G 0 (15 + 12 * a0 + a1) ∧ G1 = K) ∨ (r = -903 ∧ G 0 13 ≤ a0 ∧ G1 = K))) := by
  have m := eq0.M ht e o
  have h8 := o.1.1.2.1
  have e13 := e.1 13 (by omega)
  refine mh_ri (cL_h_coil K (c_coilV hst K m (by omega) (by omega)) (fun E G1 q => ?_) (by decide) (by decide) (by decide) (by decide)) (fun r G1 h => ?_)
  · rcases q with ⟨-, q⟩
    rcases q with ⟨rfl, -⟩ | ⟨rfl, -⟩ <;> decide
  · rcases h with ⟨⟨c1, c2⟩, hr, hG⟩ | ⟨hr, hG, hx⟩ | ⟨hr, hG, hx⟩
    · left
      exact ⟨by omega, hr.trans (e.1 _ (by omega)), hG⟩
    · right
      rcases hx with ⟨-, hx⟩ | ⟨hx, -⟩
      · exact ⟨hr, by omega, hG⟩
      · exact absurd hx (by decide)
    · rcases hx with ⟨hx, -⟩ | ⟨-, -, hx⟩
      · exact absurd hx (by decide)
      · exact absurd h2 hx
theorem n_emptyBox {l : Launch} {D : va_G} {C : Nat → ClassId} {T : Nat → Nat} {ad : Int → Nat} {t : Int} {G K : GG} (ht : t ≤ 1000) (o : okI t G) (e : eq0 G K) : MC l yX5_emptyBox cX5_emptyBox 1 (some .int) 4 99 0 0 D (tyC C) T [.ref (ad 102)] (cw ad C K) (RI ad C (fun r G1 => r = G 0 9 ∧ okI t G1 ∧ G1 0 9 = 0)) := by
  have m := eq0.M ht e o
  refine mc_ri (c_emptyBox K m) (fun r G1 h => ?_)
  obtain ⟨H, s, hr, hG⟩ := h
  obtain ⟨oH, eH⟩ := okI_save (e.I o) s
  exact ⟨hr.trans (e.1 9 (by omega)), by rw [hG]; exact okI_box oH, by rw [hG, setG_same]⟩
