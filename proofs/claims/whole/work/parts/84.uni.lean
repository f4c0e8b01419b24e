/-! contracts of set and change for every first argument; the end that twenty orders share -/
theorem mx_mono {l : Launch} {y : MethodName} {cc : ByteArray} {nL : Nat} {ret : Option FieldType} {fr lo mc ms : Nat} {D : va_G} {ty : List (ClassId × FieldType)} {T : Nat → Nat} {As : List Value} {ws : va_W} {Q Q' : Option Value → va_W → Prop} {QX QX' : String → va_W → Prop}
    (h : MX l y cc nL ret fr lo mc ms D ty T As ws Q QX) (hq : ∀ v w, Q v w → Q' v w) (hx : ∀ E w, QX E w → QX' E w) : MX l y cc nL ret fr lo mc ms D ty T As ws Q' QX' := by
  intro sz
  refine Jvm.Free.MetFree.mono (h sz) (fun _ _ z => z) (fun _ _ _ _ _ z => z) ?_
  rintro a s o t - (⟨⟨⟨v, ws', e1, e2, e3⟩, hF⟩, hL⟩ | ⟨q, hq2, E, ce, L, ⟨⟨ws', x1, x2⟩, hF⟩, hr⟩)
  · exact Or.inl ⟨⟨⟨v, ws', e1, hq _ _ e2, e3⟩, hF⟩, hL⟩
  · exact Or.inr ⟨q, hq2, E, ce, L, ⟨⟨ws', hx _ _ x1, x2⟩, hF⟩, hr⟩
theorem RI_mono {ad : Int → Nat} {C : Nat → ClassId} {P P' : Int → GG → Prop} (h : ∀ r G1, P r G1 → P' r G1) (v : Option Value) (w : va_W) (q : RI ad C P v w) : RI ad C P' v w := by
  obtain ⟨r, G1, a, b, c⟩ := q
  exact ⟨r, G1, a, b, h _ _ c⟩
theorem RX_mono {ad : Int → Nat} {C : Nat → ClassId} {P P' : String → GG → Prop} (h : ∀ r G1, P r G1 → P' r G1) (v : String) (w : va_W) (q : RX ad C P v w) : RX ad C P' v w := by
  obtain ⟨G1, b, c⟩ := q
  exact ⟨G1, b, h _ _ c⟩
def stpP (w v : Int) : Prop := (w = 0 ∧ (1 ≤ v ∧ v ≤ 100 ∧ v % 1 = 0)) ∨ (w = 1 ∧ (0 ≤ v ∧ v ≤ 100 ∧ v % 1 = 0)) ∨ (w = 2 ∧ (0 ≤ v ∧ v ≤ 100 ∧ v % 1 = 0)) ∨ (w = 3 ∧ (0 ≤ v ∧ v ≤ 1000 ∧ v % 1 = 0)) ∨ (w = 4 ∧ (0 ≤ v ∧ v ≤ 100 ∧ v % 5 = 0))
theorem stpP_ok {w v : Int} (h : stpP w v) : (0 ≤ w ∧ w ≤ 4) ∧ ∀ g, okS g → okS (up g w v) := by
  unfold stpP at h
  refine ⟨by omega, fun g o => ?_⟩
  unfold okS at o ⊢
  rcases h with ⟨rfl, h⟩ | ⟨rfl, h⟩ | ⟨rfl, h⟩ | ⟨rfl, h⟩ | ⟨rfl, h⟩
  · rw [up_s, up_n (by omega), up_n (by omega), up_n (by omega), up_n (by omega)]
    exact ⟨by omega, o.2⟩
  · rw [up_s, up_n (by omega), up_n (by omega), up_n (by omega), up_n (by omega)]
    exact ⟨o.1, by omega, o.2.2⟩
  · rw [up_s, up_n (by omega), up_n (by omega), up_n (by omega), up_n (by omega)]
    exact ⟨o.1, o.2.1, by omega, o.2.2.2⟩
  · rw [up_s, up_n (by omega), up_n (by omega), up_n (by omega), up_n (by omega)]
    exact ⟨o.1, o.2.1, o.2.2.1, by omega, o.2.2.2.2⟩
  · rw [up_s, up_n (by omega), up_n (by omega), up_n (by omega), up_n (by omega)]
    exact ⟨o.1, o.2.1, o.2.2.1, o.2.2.2.1, by omega⟩
section UNI
variable {l : Launch} {D : va_G} {C : Nat → ClassId} {T : Nat → Nat} {ad : Int → Nat}
theorem c_setU (hst : l.stackTraces = false) (G : GG) {w v : Int} (o : okM G) (hw : -2147483648 ≤ w ∧ w ≤ 2147483647) (hv : -2147483648 ≤ v ∧ v ≤ 2147483647) : MX l yX5_set cX5_set 3 (some .int) 6 99 1 6 D (tyC C) T [.ref (ad 102), .int (iI w), .int (iI v)] (cw ad C G) (RI ad C (fun r G1 => stpP w v ∧ ∃ H, saveP G H ∧ r = G 0 w ∧ G1 = setG H 0 w v)) (RX ad C (fun E G1 => G1 = G ∧ E = xIA ∧ ¬ stpP w v)) := by
  by_cases h : 0 ≤ w ∧ w ≤ 4
  · have h9 : w = 0 ∨ w = 1 ∨ w = 2 ∨ w = 3 ∨ w = 4 := by omega
    rcases h9 with rfl | rfl | rfl | rfl | rfl
    · exact mx_mono (c_set0 hst G o hv) (RI_mono fun r G1 q => ⟨by unfold stpP; omega, q.2⟩) (RX_mono fun E G1 q => ⟨q.1, q.2.1, by unfold stpP; omega⟩)
    · exact mx_mono (c_set1 hst G o hv) (RI_mono fun r G1 q => ⟨by unfold stpP; omega, q.2⟩) (RX_mono fun E G1 q => ⟨q.1, q.2.1, by unfold stpP; omega⟩)
    · exact mx_mono (c_set2 hst G o hv) (RI_mono fun r G1 q => ⟨by unfold stpP; omega, q.2⟩) (RX_mono fun E G1 q => ⟨q.1, q.2.1, by unfold stpP; omega⟩)
    · exact mx_mono (c_set3 hst G o hv) (RI_mono fun r G1 q => ⟨by unfold stpP; omega, q.2⟩) (RX_mono fun E G1 q => ⟨q.1, q.2.1, by unfold stpP; omega⟩)
    · exact mx_mono (c_set4 hst G o hv) (RI_mono fun r G1 q => ⟨by unfold stpP; omega, q.2⟩) (RX_mono fun E G1 q => ⟨q.1, q.2.1, by unfold stpP; omega⟩)
  · exact mx_mono (c_setN hst G o hw hv h) (RI_mono fun r G1 q => q.elim) (RX_mono fun E G1 q => ⟨q.1, q.2, by unfold stpP; omega⟩)
theorem setB_eq {w v : Int} {o1 o2 : Prop} (h : o1 ↔ o2) : setB w v o1 = setB w v o2 := by rw [propext h]
theorem c_setMU (G : GG) {w v : Int} (h4 : 0 ≤ G 11 4 ∧ G 11 4 ≤ 4) (hw : -2147483648 ≤ w ∧ w ≤ 2147483647) (hv : -2147483648 ≤ v ∧ v ≤ 2147483647) : MC l yX6_set cX6_set 4 (some .int) 2 46 0 0 D (tyC C) T [.ref (ad 108), .int (iI w), .int (iI v)] (cw ad C G) (RI ad C (fun r G1 => faceM G (setB w v (stpP w v)) r G1)) := by
  by_cases h : 0 ≤ w ∧ w ≤ 4
  · have h9 : w = 0 ∨ w = 1 ∨ w = 2 ∨ w = 3 ∨ w = 4 := by omega
    rcases h9 with rfl | rfl | rfl | rfl | rfl
    · rw [← setB_eq (w := 0) (v := v) (show (1 ≤ v ∧ v ≤ 100 ∧ v % 1 = 0) ↔ stpP 0 v by unfold stpP; omega)]
      exact c_setM0 G h4 hv
    · rw [← setB_eq (w := 1) (v := v) (show (0 ≤ v ∧ v ≤ 100 ∧ v % 1 = 0) ↔ stpP 1 v by unfold stpP; omega)]
      exact c_setM1 G h4 hv
    · rw [← setB_eq (w := 2) (v := v) (show (0 ≤ v ∧ v ≤ 100 ∧ v % 1 = 0) ↔ stpP 2 v by unfold stpP; omega)]
      exact c_setM2 G h4 hv
    · rw [← setB_eq (w := 3) (v := v) (show (0 ≤ v ∧ v ≤ 1000 ∧ v % 1 = 0) ↔ stpP 3 v by unfold stpP; omega)]
      exact c_setM3 G h4 hv
    · rw [← setB_eq (w := 4) (v := v) (show (0 ≤ v ∧ v ≤ 100 ∧ v % 5 = 0) ↔ stpP 4 v by unfold stpP; omega)]
      exact c_setM4 G h4 hv
  · rw [← setB_eq (w := w) (v := v) (show False ↔ stpP w v from ⟨False.elim, fun q => by unfold stpP at q; omega⟩)]
    exact c_setMN G h4 hw hv h
theorem c_changeU (hst : l.stackTraces = false) (G : GG) {a t : Int} (o : okM G) (ha : -2147483648 ≤ a ∧ a ≤ 2147483647) (ht : -2147483648 ≤ t ∧ t ≤ 2147483647) : MX l yX5_change cX5_change 3 (some .int) 6 106 1 6 D (tyC C) T [.ref (ad 102), .int (iI a), .int (iI t)] (cw ad C G) (RI ad C (fun r G1 => ((0 ≤ a ∧ a ≤ 2000) ∧ (0 ≤ t ∧ t ≤ 3)) ∧ r = chF (G 0 5) (G 0 6) (G 0 7) (G 0 8) a t ∧ sameB (scr 0) G G1)) (RX ad C (fun E G1 => G1 = G ∧ ((E = xIA ∧ ¬ (0 ≤ a ∧ a ≤ 2000)) ∨ (E = xIB ∧ (0 ≤ a ∧ a ≤ 2000) ∧ ¬ (0 ≤ t ∧ t ≤ 3))))) := by
  by_cases h : 0 ≤ t ∧ t ≤ 3
  · have h9 : t = 0 ∨ t = 1 ∨ t = 2 ∨ t = 3 := by omega
    rcases h9 with rfl | rfl | rfl | rfl
    · exact mx_mono (c_change0 hst G o ha) (RI_mono fun r G1 q => ⟨⟨q.1, by omega⟩, q.2⟩) (RX_mono fun E G1 q => ⟨q.1, Or.inl q.2⟩)
    · exact mx_mono (c_change1 hst G o ha) (RI_mono fun r G1 q => ⟨⟨q.1, by omega⟩, q.2⟩) (RX_mono fun E G1 q => ⟨q.1, Or.inl q.2⟩)
    · exact mx_mono (c_change2 hst G o ha) (RI_mono fun r G1 q => ⟨⟨q.1, by omega⟩, q.2⟩) (RX_mono fun E G1 q => ⟨q.1, Or.inl q.2⟩)
    · exact mx_mono (c_change3 hst G o ha) (RI_mono fun r G1 q => ⟨⟨q.1, by omega⟩, q.2⟩) (RX_mono fun E G1 q => ⟨q.1, Or.inl q.2⟩)
  · refine mx_mono (c_changeN hst G o ha ht h) (RI_mono fun r G1 q => q.elim) (RX_mono fun E G1 q => ⟨q.1, ?_⟩)
    rcases q.2 with z | z
    · exact Or.inl z
    · exact Or.inr ⟨z.1, z.2, h⟩
end UNI
set_option maxHeartbeats 4000000 in
set_option maxRecDepth 100000 in
theorem law_tail {l : Launch} {D : va_G} {C : Nat → ClassId} {T : Nat → Nat} {ad : Int → Nat} {b L : Nat} {xs : Nat → Int32} {nm : String} {i : Int} {k n p : Nat} {off kc r2 : Int} {B : GG} (hk : k ≤ 601024) (hn : n ≤ 7293034)
    (d0 : decode code p = .ok (.aload_n 2, 1)) (d1 : decode code (p + 1) = .ok (.invokevirtual 91, 3)) (d4 : decode code (p + 4) = .ok (.iload 6, 2)) (d6 : decode code (p + 6) = .ok (.if_icmp .eq 5, 3)) (d11 : decode code (p + 11) = .ok (.iload 6, 2)) (d13 : decode code (p + 13) = .ok (.ifCond .ne 15, 3)) (d16 : decode code (p + 16) = .ok (.aload_n 3, 1)) (d17 : decode code (p + 17) = .ok (.iconst 0, 1)) (d18 : decode code (p + 18) = .ok (.laload, 1)) (d19 : decode code (p + 19) = .ok (.iload 7, 2)) (d21 : decode code (p + 21) = .ok (.i2l, 1)) (d22 : decode code (p + 22) = .ok (.lcmp, 1)) (d23 : decode code (p + 23) = .ok (.ifCond .eq 5, 3)) (d28 : decode code (p + 28) = .ok (.goto off, 3)) (ho : ((p + 28 : Nat) : Int) + off = ((1524 : Nat) : Int))
    (hkc : 0 ≤ kc ∧ kc ≤ 3) (f : fits kc r2 B)
    (kk : relR B → AW l RL nm code 8 ret (fun _ => True) room_1 (lawE b) D (tyC C) (lawZ b L xs T) [] 1524 (lawLv b ad i) [] (cw ad C B) k n) :
    AW l RL nm code 8 ret (fun _ => True) room_1 (lawE b) D (tyC C) (lawZ b L xs T) [] p ((7, .int (iI r2)) :: (6, .int (iI kc)) :: lawLv b ad i) [] (cw ad C B) k n := by
  have kend : AW l RL nm code 8 ret (fun _ => True) room_1 (lawE b) D (tyC C) (lawZ b L xs T) [] (p + 28) ((7, .int (iI r2)) :: (6, .int (iI kc)) :: lawLv b ad i) [] (cw ad C B) k n :=
    aw_goto (q := 1524) d28 ho (aw_less (fun q hq => List.mem_cons_of_mem _ (List.mem_cons_of_mem _ hq)) (kk f.2.2))
  refine aw_aload_n (q := p + 1) 4 d0 rfl rfl rfl ?_
  refine cv_I (q := p + 4) (CC := "") (id := 108) (As := []) 0 (c_thrown (T := T) (D := D) (ad := ad) B) (fun _ h => h.1) (by omega) (cell_108 ad C _) rfl wc_X6_thrown wm_RL_91 wi_X6_thrown ws_X6_thrown wn_X6 (by decide) rfl ⟨Nat.le_of_ble_eq_true rfl, Nat.le_of_ble_eq_true rfl⟩ ⟨by show k ≤ 601024; omega, by show n ≤ 7293034; omega⟩ (Nat.le_of_ble_eq_true rfl) d1 rfl (fun r9 G9 h9 => ?_)
  rw [h9.1, h9.2, f.1]
  refine aw_iload (q := p + 6) 1 d4 rfl rfl ?_
  refine aw_icmp_eq (q := p + 9) d6 rfl (t := p + 11) (by omega) (by omega) (by omega) (fun _ => ?_) (fun h => absurd rfl h)
  refine aw_iload (q := p + 13) 1 d11 rfl rfl ?_
  refine aw_ifW_ne (q := p + 16) d13 rfl (t := p + 28) (by omega) (fun _ => kend) (fun h0 => ?_)
  have hk0 : kc = 0 := (iI_inj (by omega) (by omega)).mp (h0.trans (show (0 : Int32) = iI 0 from rfl))
  refine aw_aload_n (q := p + 17) 5 d16 rfl rfl rfl ?_
  refine aw_iconst (q := p + 18) d17 rfl ?_
  refine aw_out (q := p + 19) (v := wI r2) rfl (f.2.1 hk0) d18 rfl ?_
  refine aw_iload (q := p + 21) 0 d19 rfl rfl ?_
  refine aw_i2lW (q := p + 22) d21 rfl ?_
  refine aw_lcmpE (q := p + 23) rfl d22 rfl ?_
  exact aw_ifW_eq (q := p + 26) d23 rfl (t := p + 28) (by omega) (fun _ => kend) (fun h => absurd rfl h)
