/-! the law: its start, its two loops -/
theorem iniI : okI 0 iniG := by
  have z0 : ∀ y, iniG 0 y = iniM y := fun y => if_pos (by omega)
  have g13 : iniG 0 13 = 0 := by rw [z0]; rfl
  have g14 : iniG 0 14 = 0 := by rw [z0]; rfl
  refine ⟨⟨⟨?_, ?_, fun d h0 h1 => ?_⟩, ⟨?_, fun m h0 h1 => ?_, fun k h0 h1 => ?_⟩, ⟨fun m h0 h1 => ?_, ?_, ?_⟩⟩, ?_, ?_, fun d h0 h1 => ?_⟩
  · unfold okS
    rw [z0, z0, z0, z0, z0]
    decide
  · rw [g13]; decide
  · rw [g13] at h1; omega
  · rw [g14]; decide
  · rw [g14] at h1; omega
  · have hk : k = 0 ∨ k = 1 ∨ k = 2 ∨ k = 3 := by omega
    rw [z0]
    rcases hk with rfl | rfl | rfl | rfl <;> decide
  · rw [g14] at h1; omega
  · rw [g14]; rfl
  · rw [z0]; decide
  · unfold okV
    decide
  · rw [z0]; decide
  · rw [g13] at h1; omega
theorem stR_n7 {G : GG} {x y : Int} (h : x ≠ 7) : stR G x y = G x y := by
  unfold stR
  rw [setG_ne (by omega), setG_ne (by omega)]
theorem stR_71 (G : GG) : stR G 7 1 = G 7 1 := by
  unfold stR
  rw [setG_ne (by omega), setG_ne (by omega)]
theorem stR_76 (G : GG) : stR G 7 6 = 0 := by
  unfold stR
  rw [setG_ne (by omega), setG_same]
theorem stR_77 (G : GG) : stR G 7 7 = -1 := by
  unfold stR
  rw [setG_same]
theorem carry_0 {t : Int} {K G1 : GG} {r : Int} (o : okI t K) (h71 : K 7 1 = 0) (h : ((erL 100 (stR K) 7 7) ≠ -1 ∧ r = -10 - (erL 100 (stR K) 7 7) ∧ G1 = (erL 100 (stR K))) ∨ ((erL 100 (stR K) 7 7) = -1 ∧ ∃ H, saveP (erL 100 (stR K)) H ∧ coP 100 (stR H) r G1)) : r = 0 ∧ ∃ H, saveP (stR K) H ∧ G1 = stR H := by
  have ee : erL 100 (stR K) = stR K := by
    show (if stR K 7 6 < stR K 7 1 ∧ stR K 7 7 = -1 then (if roG (stR K) 7 7 = -1 then erL 99 (roG (stR K)) else roG (stR K)) else stR K) = stR K
    rw [stR_76, stR_71, h71]
    exact if_neg (by omega)
  rw [ee] at h
  rcases h with ⟨h, -⟩ | ⟨-, H, s, hc⟩
  · exact absurd (stR_77 K) h
  · have v : okV (stR K) := okV_congr (fun y => stR_n7 (by omega)) o.2.1
    have hH : stR H 7 1 = 0 := by rw [stR_71, saveP_ne v s (by omega), stR_71, h71]
    have hn : ¬ (stR H 7 6 < stR H 7 1 ∧ stR H 7 7 = -1) := by rw [stR_76, hH]; omega
    have hv : roV (stR H) = 0 := if_neg hn
    have hg : roG (stR H) = stR H := if_neg hn
    rcases hc with ⟨-, hr, hG⟩ | ⟨z, -⟩ | ⟨z, -⟩
    · exact ⟨hr, H, s, by rw [hG, hg]⟩
    · exact absurd hv z
    · exact absurd hv z
theorem n_undoL {l : Launch} {D : va_G} {C : Nat → ClassId} {T : Nat → Nat} {ad : Int → Nat} (hst : l.stackTraces = false) {t : Int} {K H : GG} (ht : t ≤ 1000) (o : okI t K) (h60 : K 6 0 = 0) (s : saveP (stR K) H) : MH l yL_undo cL_undo 2 (some .int) [(0, 4, 5, 19)] 7 200 1 6 D (tyC C) T (.ref (ad 102) :: []) (cw ad C (stR H)) (RI ad C (fun r G1 => r = 0 ∧ okI t G1 ∧ G1 0 13 = K 0 13)) := by
  have oS : okI t (stR K) := okI_cong (fun y _ => stR_n7 (by omega)) (fun y => stR_n7 (by omega)) o
  obtain ⟨oH, eH⟩ := okI_save oS s
  have oA : okI t (stR H) := okI_cong (fun y _ => stR_n7 (by omega)) (fun y => stR_n7 (by omega)) oH
  have hA : ∀ x y : Int, 2 ≤ x ∧ x ≤ 6 → stR H x y = H x y := fun x y hx => stR_n7 (by omega)
  have ok := undo_okH oS s hA
  have h6 : stR H 6 0 = 1 := by
    rw [stR_n7 (by omega)]
    obtain ⟨-, d, n, hs, h1, -⟩ := save_spec oS.2.1 oS.1.1.2.1 s
    rw [stR_n7 (by omega), h60] at hs
    omega
  refine mh_ri (cL_h_undo (stR H) (c_undo hst (stR H) (okI_M ht oA) (fun _ => ok.2)) (fun E G1 q => ?_) (by decide) (by decide) (by decide) (by decide)) (fun r G1 h => ?_)
  · rcases q with ⟨-, rfl, -⟩; decide
  · rcases h with ⟨h1, hr, u⟩ | ⟨hr, hG, hx⟩
    · obtain ⟨q1, q2⟩ := undo_all oS s hA u
      have o8 := oS.1.1.2.1
      exact ⟨by omega, q1, (q2 13 (by omega)).trans (stR_n7 (by omega))⟩
    · exact absurd ok.1 hx.2
section LAWC
variable {l : Launch} {own nm : String} {cc : ByteArray} {nL : Nat} {ret : Option FieldType} {X : Code → Prop} {R : Room} {E : List Frame → Array Value → State → State → Prop} {D : va_G} {C : Nat → ClassId} {pc q : Nat} {lv : List (Nat × Value)} {st : List Value} {k n : Nat} {ad : Int → Nat} {G : GG} {T : Nat → Nat} {y : MethodName} {bytes : ByteArray} {maxL : Nat} {rt : Option FieldType} {fr lo idx : Nat} {As : List Value} {b L : Nat} {xs : Nat → Int32}
/-- a static call that reads the script -/
theorem cl_I {P : Int → GG → Prop} (nA : Nat) (hm : ML l y bytes maxL rt fr lo 0 0 D (tyC C) T b L xs As (cw ad C G) (RI ad C P))
    (hw1 : Cond.code y bytes maxL rt ∈ gt) (hw2 : Cond.methodLink own idx y ∈ gt) (hw3 : Cond.static y ∈ gt) (hw5 : Cond.initialized y.cls ∈ gt) (hd : y.cls ≠ "java/lang/invoke/MethodHandle" ∧ y.cls ≠ "java/lang/invoke/VarHandle" ∧ (parseMethodDescriptor y.desc).map (fun d => d.parameters.length) = some nA) (hn : As.length = nA) (hR : fr + 1 ≤ R.frames ∧ 8 + (maxL + 11) + lo ≤ R.locals) (hR2 : k ≤ R.cells ∧ n ≤ R.slots) (hst : (st.map fun v => v.category).sum ≤ 8)
    (d : decode cc pc = .ok (.invokestatic idx, 3)) (hq : pc + 3 = q)
    (kk : ∀ (r : Int) (G1 : GG), P r G1 → AW l own nm cc nL ret X R E D (tyC C) (lawZ b L xs T) [] q lv (.int (iI r) :: st) (cw ad C G1) k n) : AW l own nm cc nL ret X R E D (tyC C) (lawZ b L xs T) [] pc lv (As.reverse ++ st) (cw ad C G) k n := by
  refine aw_back (mc1 := 0) (ms1 := 0) (st := st) (Q1 := RI ad C P) (fun p e s m args below meth c hC hK hZ H locs ls hP hD hS hl => ⟨As.toArray, ?_⟩) hq (fun v w e => ?_)
  · obtain ⟨hx, hb, hml, hown, hts, hr, hlk, hnm, hX⟩ := id hC
    obtain ⟨hZ0, hZX, hZb⟩ := hZ
    exact va_runS (As := As) (rest := st) (n := nA) ⟨hx, hb, hml, hown, hts⟩ (hm H.size) ⟨callB_of nA hts (gtIn hw1) rfl rfl rfl (hts _ hw5) (hts _ hw2) hd hR, hts _ hw3⟩
      ⟨hvBL_blind, fun U hU hW => ⟨rfl, hvB.call hZ0 hP hK hD hS hU hW, by
        rw [hU]
        exact (hZX.kept (hS.2.1 b hZb (lw_apart hZb))).moved hW.alike, by rw [hU]; exact Nat.lt_of_lt_of_le hZb hS.1, by
        rw [hU]
        rintro (⟨j, e9, hj⟩ | hj)
        · exact lw_apart hZb (hD.2 j _ hj)
        · exact Nat.lt_irrefl _ (Nat.lt_of_lt_of_le (Nat.lt_of_lt_of_le hZb hS.1) hj)⟩⟩ rfl hn hl.1 rfl (by show 2 * 0 + _ ≤ 8; omega) d hR2
  · obtain ⟨r, G1, rfl, rfl, h⟩ := e
    exact kk r G1 h
end LAWC
set_option maxHeartbeats 4000000 in
set_option maxRecDepth 100000 in
theorem law_loop2 {l : Launch} {D : va_G} {C : Nat → ClassId} {T : Nat → Nat} {ad : Int → Nat} {b L : Nat} {xs : Nat → Int32} {nm : String} (hst : l.stackTraces = false) (hL : L ≤ 260) : ∀ (f : Nat) (n : Int) (K : GG) (k9 n9 : Nat), 3 ≤ n → n ≤ 46 → 46 - n < f → okI (n + 1) K → k9 + 7 * f ≤ 600000 → n9 + 40 * f ≤ 7301000 → AW l RL nm code 5 ret (fun _ => True) room_1 (lawE b) D (tyC C) (lawZ b L xs T) [] 133 [(0, .ref b), (1, .ref (ad 102)), (2, .int (iI 1)), (3, .int (iI n))] [] (cw ad C K) k9 n9 := by
  intro f
  induction f with
  | zero => intro n K k9 n9 h1 h2 h3; omega
  | succ f ih =>
    intro n K k9 n9 h1 h2 h3 oK hk9 hn9
    refine aw_iload_n (q := 134) 3 dL_law_133 rfl rfl rfl ?_
    refine aw_bipush (q := 136) dL_law_134 rfl (by decide) ?_
    refine aw_icmp_ge (q := 139) dL_law_136 rfl (t := 185) (by decide) (by omega) (by omega) (fun h21 => ?_) (fun h22 => ?_)
    · refine aw_iload_n (q := 186) 2 dL_law_185 rfl rfl rfl ?_
      exact aw_lawret (by omega) (by omega) dL_law_186
    · refine aw_iload_n (q := 140) 2 dL_law_139 rfl rfl rfl ?_
      refine aw_if_eq (q := 143) dL_law_140 rfl (t := 185) (by decide) (by omega) (fun h => absurd h (by omega)) (fun _ => ?_)
      refine aw_aload_n (q := 144) 1 dL_law_143 rfl rfl rfl ?_
      refine aw_aload_n (q := 145) 0 dL_law_144 rfl rfl rfl ?_
      refine aw_iconst (q := 146) dL_law_145 rfl ?_
      refine aw_iload_n (q := 147) 3 dL_law_146 rfl rfl rfl ?_
      refine ae_imul (q := 148) (2 * n) (by omega) dL_law_147 rfl ?_
      refine cl_I (As := [.ref b, .int (iI (2 * n))]) 2 (c_lot (D := D) (C := C) (T := T) (ad := ad) (by omega) K (i := (2 * n)) (by omega)) wc_L_lot wm_RL_130 wt_L_lot wn_L (by decide) rfl ⟨Nat.le_of_ble_eq_true rfl, Nat.le_of_ble_eq_true rfl⟩ ⟨by show _ ≤ 600086; omega, by show _ ≤ 7301442; omega⟩ (Nat.le_of_ble_eq_true rfl) dL_law_148 rfl (fun z1 G9 h9 => ?_)
      obtain ⟨hz1, h9⟩ := h9
      rw [h9]
      clear h9
      refine aw_aload_n (q := 152) 0 dL_law_151 rfl rfl rfl ?_
      refine aw_iconst (q := 153) dL_law_152 rfl ?_
      refine aw_iload_n (q := 154) 3 dL_law_153 rfl rfl rfl ?_
      refine ae_imul (q := 155) (2 * n) (by omega) dL_law_154 rfl ?_
      refine aw_iconst (q := 156) dL_law_155 rfl ?_
      refine ae_iadd (q := 157) (2 * n + 1) (by omega) dL_law_156 rfl ?_
      refine cl_I (As := [.ref b, .int (iI (2 * n + 1))]) 2 (c_lot (D := D) (C := C) (T := T) (ad := ad) (by omega) K (i := (2 * n + 1)) (by omega)) wc_L_lot wm_RL_130 wt_L_lot wn_L (by decide) rfl ⟨Nat.le_of_ble_eq_true rfl, Nat.le_of_ble_eq_true rfl⟩ ⟨by show _ ≤ 600086; omega, by show _ ≤ 7301442; omega⟩ (Nat.le_of_ble_eq_true rfl) dL_law_157 rfl (fun z2 G9 h9 => ?_)
      obtain ⟨hz2, h9⟩ := h9
      rw [h9]
      clear h9
      refine cm_I (As := [.ref (ad 102), .int (iI z1), .int (iI z2)]) 3 (c_acts (D := D) (C := C) (T := T) (ad := ad) hst (G := K) (K := K) (t := n + 1) (by omega) oK eq0.rf (x := z1) (y := z2)) (fun _ h => h.1) wc_L_acts wm_RL_138 wt_L_acts wn_L (by decide) rfl ⟨Nat.le_of_ble_eq_true rfl, Nat.le_of_ble_eq_true rfl⟩ ⟨by show _ ≤ 600086; omega, by show _ ≤ 7301442; omega⟩ (Nat.le_of_ble_eq_true rfl) dL_law_160 rfl (fun r1 A h9 => ?_)
      obtain ⟨rfl, oA, -⟩ := h9
      refine aw_if_eq (q := 166) dL_law_163 rfl (t := 177) (by decide) (by omega) (fun h => absurd h (by omega)) (fun _ => ?_)
      refine aw_aload_n (q := 167) 1 dL_law_166 rfl rfl rfl ?_
      refine cm_I (As := [.ref (ad 102)]) 1 (c_holds (D := D) (C := C) (T := T) (ad := ad) hst (G := A) (by omega) oA) (fun _ h => h.1) wc_L_holds wm_RL_126 wt_L_holds wn_L (by decide) rfl ⟨Nat.le_of_ble_eq_true rfl, Nat.le_of_ble_eq_true rfl⟩ ⟨by show _ ≤ 600086; omega, by show _ ≤ 7301442; omega⟩ (Nat.le_of_ble_eq_true rfl) dL_law_167 rfl (fun r9 G9 h9 => ?_)
      rw [h9.1, h9.2]
      clear h9
      refine aw_if_eq (q := 173) dL_law_170 rfl (t := 177) (by decide) (by omega) (fun h => absurd h (by omega)) (fun _ => ?_)
      refine aw_iconst (q := 174) dL_law_173 rfl ?_
      refine aw_goto (q := 178) dL_law_174 (by decide) ?_
      refine aw_istore_n (q := 179) (lv2 := [(0, .ref b), (1, .ref (ad 102)), (2, .int (iI 1)), (3, .int (iI n))]) [1, 2, 0, 3] dL_law_178 rfl rfl (by decide) rfl rfl ?_
      refine ae_iinc (q := 182) (lv2 := [(0, .ref b), (1, .ref (ad 102)), (2, .int (iI 1)), (3, .int (iI (n + 1)))]) 3 [1, 2, 3, 0] (n + 1) (by omega) dL_law_179 rfl rfl (by decide) rfl ?_
      refine aw_goto (q := 133) dL_law_182 (by decide) ?_
      exact ih (n + 1) A _ _ (by omega) (by omega) (by omega) oA (by omega) (by omega)
set_option maxHeartbeats 4000000 in
set_option maxRecDepth 100000 in
theorem law_loop1 {l : Launch} {D : va_G} {C : Nat → ClassId} {T : Nat → Nat} {ad : Int → Nat} {b L : Nat} {xs : Nat → Int32} {nm : String} (hst : l.stackTraces = false) (hL : L ≤ 260) : ∀ (f : Nat) (n : Int) (K : GG) (k9 n9 : Nat), 0 ≤ n → n ≤ 4 → 4 - n < f → okI n K → K 0 13 = n → k9 + 5 * f ≤ 10000 → n9 + 30 * f ≤ 10000 → AW l RL nm code 5 ret (fun _ => True) room_1 (lawE b) D (tyC C) (lawZ b L xs T) [] 66 [(0, .ref b), (1, .ref (ad 102)), (2, .int (iI 1)), (3, .int (iI n))] [] (cw ad C K) k9 n9 := by
  intro f
  induction f with
  | zero => intro n K k9 n9 h1 h2 h3; omega
  | succ f ih =>
    intro n K k9 n9 h1 h2 h3 oK k13 hk9 hn9
    refine aw_iload_n (q := 67) 3 dL_law_66 rfl rfl rfl ?_
    refine aw_iconst (q := 68) dL_law_67 rfl ?_
    refine aw_icmp_ge (q := 71) dL_law_68 rfl (t := 131) (by decide) (by omega) (by omega) (fun h21 => ?_) (fun h22 => ?_)
    · refine aw_iconst (q := 132) dL_law_131 rfl ?_
      refine aw_istore_n (q := 133) (lv2 := [(0, .ref b), (1, .ref (ad 102)), (2, .int (iI 1)), (3, .int (iI 3))]) [1, 2, 3, 0] dL_law_132 rfl rfl (by decide) rfl rfl ?_
      exact law_loop2 hst hL 44 3 K _ _ (by omega) (by omega) (by omega) (okI_mono (by omega) oK) (by omega) (by omega)
    · refine aw_iload_n (q := 72) 2 dL_law_71 rfl rfl rfl ?_
      refine aw_if_eq (q := 75) dL_law_72 rfl (t := 131) (by decide) (by omega) (fun h => absurd h (by omega)) (fun _ => ?_)
      refine aw_aload_n (q := 76) 0 dL_law_75 rfl rfl rfl ?_
      refine aw_iconst (q := 77) dL_law_76 rfl ?_
      refine aw_iload_n (q := 78) 3 dL_law_77 rfl rfl rfl ?_
      refine ae_iadd (q := 79) (n + 1) (by omega) dL_law_78 rfl ?_
      refine cl_I (As := [.ref b, .int (iI (n + 1))]) 2 (c_lot (D := D) (C := C) (T := T) (ad := ad) (by omega) K (i := (n + 1)) (by omega)) wc_L_lot wm_RL_130 wt_L_lot wn_L (by decide) rfl ⟨Nat.le_of_ble_eq_true rfl, Nat.le_of_ble_eq_true rfl⟩ ⟨by show _ ≤ 600086; omega, by show _ ≤ 7301442; omega⟩ (Nat.le_of_ble_eq_true rfl) dL_law_79 rfl (fun z1 G9 h9 => ?_)
      obtain ⟨hz1, h9⟩ := h9
      rw [h9]
      clear h9
      refine aw_istore (q := 84) (lv2 := [(0, .ref b), (1, .ref (ad 102)), (2, .int (iI 1)), (3, .int (iI n)), (4, .int (iI z1))]) [1, 2, 3, 4, 0] dL_law_82 rfl (by decide) rfl rfl ?_
      refine aw_aload_n (q := 85) 1 dL_law_84 rfl rfl rfl ?_
      refine aw_iload (q := 87) 4 dL_law_85 rfl rfl ?_
      refine aw_ldc (q := 89) (x := 2147483632) dL_law_87 rfl wk_RL_137 (by decide) ?_
      refine aw_iandM (q := 90) dL_law_89 rfl ?_
      refine aw_iload (q := 92) 4 dL_law_90 rfl rfl ?_
      refine aw_iconst (q := 93) dL_law_92 rfl ?_
      refine aw_ishr (q := 94) dL_law_93 rfl ?_
      refine cm_I (As := [.ref (ad 102), .int (iI (anF z1 2147483632)), .int (iI (shF z1 3))]) 3 (c_acts (D := D) (C := C) (T := T) (ad := ad) hst (G := K) (K := K) (t := n) (by omega) oK eq0.rf (x := (anF z1 2147483632)) (y := (shF z1 3))) (fun _ h => h.1) wc_L_acts wm_RL_138 wt_L_acts wn_L (by decide) rfl ⟨Nat.le_of_ble_eq_true rfl, Nat.le_of_ble_eq_true rfl⟩ ⟨by show _ ≤ 600086; omega, by show _ ≤ 7301442; omega⟩ (Nat.le_of_ble_eq_true rfl) dL_law_94 rfl (fun r1 A h9 => ?_)
      obtain ⟨rfl, oA, hA⟩ := h9
      obtain ⟨a13, a1⟩ := hA (low_an _) (by omega)
      rw [k13] at a13 a1
      refine aw_if_eq (q := 100) dL_law_97 rfl (t := 123) (by decide) (by omega) (fun h => absurd h (by omega)) (fun _ => ?_)
      refine aw_aload_n (q := 101) 1 dL_law_100 rfl rfl rfl ?_
      refine aw_iload_n (q := 102) 3 dL_law_101 rfl rfl rfl ?_
      refine aw_iconst (q := 103) dL_law_102 rfl ?_
      refine aw_iload (q := 105) 4 dL_law_103 rfl rfl ?_
      refine aw_iconst (q := 106) dL_law_105 rfl ?_
      refine aw_ishr (q := 107) dL_law_106 rfl ?_
      refine aw_bipush (q := 109) dL_law_107 rfl (by decide) ?_
      refine cs_I (q := 112) (As := [.int (iI (shF z1 5)), .int (iI 20)]) 2 (c_low (T := T) (D := D) (ad := ad) A (by omega)) (fun _ h => h.1) wc_L_low wm_RL_75 wt_L_low wn_L (by decide) rfl ⟨Nat.le_of_ble_eq_true rfl, Nat.le_of_ble_eq_true rfl⟩ ⟨by show _ ≤ 600086; omega, by show _ ≤ 7301442; omega⟩ (Nat.le_of_ble_eq_true rfl) dL_law_109 rfl (fun r9 G9 h9 => ?_)
      obtain ⟨rfl, h9⟩ := h9
      rw [h9]
      clear h9
      have hww1 := lowF_r (shF z1 5) (n := 20) (by omega)
      generalize lowF (shF z1 5) 20 = w1 at *
      refine ae_iadd (q := 113) (w1 + 1) (by omega) dL_law_112 rfl ?_
      refine ch_I (As := [.ref (ad 102), .int (iI n), .int (iI (w1 + 1))]) 3 (n_stock (D := D) (C := C) (T := T) (ad := ad) hst (G := A) (K := A) (by omega) oA eq0.rf (a0 := n) (a1 := (w1 + 1)) (by omega) (by omega)) (fun _ h => h.1) wcw_L_stock wm_RL_95 wt_L_stock wn_L (by decide) rfl ⟨Nat.le_of_ble_eq_true rfl, Nat.le_of_ble_eq_true rfl⟩ ⟨by show _ ≤ 600086; omega, by show _ ≤ 7301442; omega⟩ (Nat.le_of_ble_eq_true rfl) dL_law_113 rfl (fun r2 B h9 => ?_)
      have hr9 : (1 ≤ r2 ∧ r2 ≤ 20) ∧ okI (n + 1) B ∧ B 0 13 = n + 1 := by
        rcases h9 with ⟨z1, z2, z3, z4, z5⟩ | ⟨-, z, -⟩ | ⟨-, -, z, -⟩
        · rw [a1] at z2 z3
          exact ⟨by omega, z4, z5.trans a13⟩
        · rw [a13] at z
          omega
        · rw [a1] at z
          omega
      obtain ⟨hr2, oB, b13⟩ := hr9
      refine aw_if_le (q := 119) dL_law_116 rfl (t := 123) (by decide) (by omega) (fun h => ((by omega : False)).elim) (fun h23 => ?_)
      refine aw_iconst (q := 120) dL_law_119 rfl ?_
      refine aw_goto (q := 124) dL_law_120 (by decide) ?_
      refine aw_istore_n (q := 125) (lv2 := [(0, .ref b), (1, .ref (ad 102)), (2, .int (iI 1)), (3, .int (iI n)), (4, .int (iI z1))]) [1, 2, 0, 3, 4] dL_law_124 rfl rfl (by decide) rfl rfl ?_
      refine ae_iinc (q := 128) (lv2 := [(0, .ref b), (1, .ref (ad 102)), (2, .int (iI 1)), (3, .int (iI (n + 1))), (4, .int (iI z1))]) 3 [1, 2, 3, 0, 4] (n + 1) (by omega) dL_law_125 rfl rfl (by decide) rfl ?_
      refine aw_goto (q := 66) dL_law_128 (by decide) ?_
      skip
      refine aw_less (lv2 := [(0, .ref b), (1, .ref (ad 102)), (2, .int (iI 1)), (3, .int (iI (n + 1)))]) (fun q hq => by simp only [List.mem_cons, List.mem_nil_iff, or_false] at hq ⊢; rcases hq with rfl | rfl | rfl | rfl <;> simp) ?_
      exact ih (n + 1) B _ _ (by omega) (by omega) (by omega) oB b13 (by omega) (by omega)
set_option maxHeartbeats 4000000 in
set_option maxRecDepth 100000 in
theorem law_body {l : Launch} {D : va_G} {C : Nat → ClassId} {T : Nat → Nat} {ad : Int → Nat} {b L : Nat} {xs : Nat → Int32} {nm : String} (hst : l.stackTraces = false) (hL : L ≤ 260) : AW l RL nm code 5 ret (fun _ => True) room_1 (lawE b) D (tyC C) (lawZ b L xs T) [] 8 [(0, .ref b), (1, .ref (ad 102))] [] (cw ad C iniG) 108 2142 := by
  refine aw_aload_n (q := 9) 1 dL_law_8 rfl rfl rfl ?_
  refine cm_I (As := [.ref (ad 102)]) 1 (c_holds (D := D) (C := C) (T := T) (ad := ad) hst (G := iniG) (by omega) iniI) (fun _ h => h.1) wc_L_holds wm_RL_126 wt_L_holds wn_L (by decide) rfl ⟨Nat.le_of_ble_eq_true rfl, Nat.le_of_ble_eq_true rfl⟩ ⟨by show _ ≤ 600086; omega, by show _ ≤ 7301442; omega⟩ (Nat.le_of_ble_eq_true rfl) dL_law_9 rfl (fun r9 G9 h9 => ?_)
  rw [h9.1, h9.2]
  clear h9
  refine aw_if_eq (q := 15) dL_law_12 rfl (t := 62) (by decide) (by omega) (fun h => absurd h (by omega)) (fun _ => ?_)
  refine aw_aload_n (q := 16) 1 dL_law_15 rfl rfl rfl ?_
  refine aw_iconst (q := 17) dL_law_16 rfl ?_
  refine aw_aload_n (q := 18) 0 dL_law_17 rfl rfl rfl ?_
  refine aw_iconst (q := 19) dL_law_18 rfl ?_
  refine cl_I (As := [.ref b, .int (iI 0)]) 2 (c_lot (D := D) (C := C) (T := T) (ad := ad) (by omega) iniG (i := 0) (by omega)) wc_L_lot wm_RL_130 wt_L_lot wn_L (by decide) rfl ⟨Nat.le_of_ble_eq_true rfl, Nat.le_of_ble_eq_true rfl⟩ ⟨by show _ ≤ 600086; omega, by show _ ≤ 7301442; omega⟩ (Nat.le_of_ble_eq_true rfl) dL_law_19 rfl (fun z1 G9 h9 => ?_)
  obtain ⟨hz1, h9⟩ := h9
  rw [h9]
  clear h9
  refine aw_bipush (q := 24) dL_law_22 rfl (by decide) ?_
  refine cs_I (q := 27) (As := [.int (iI z1), .int (iI 90)]) 2 (c_low (T := T) (D := D) (ad := ad) iniG (by omega)) (fun _ h => h.1) wc_L_low wm_RL_75 wt_L_low wn_L (by decide) rfl ⟨Nat.le_of_ble_eq_true rfl, Nat.le_of_ble_eq_true rfl⟩ ⟨by show _ ≤ 600086; omega, by show _ ≤ 7301442; omega⟩ (Nat.le_of_ble_eq_true rfl) dL_law_24 rfl (fun r9 G9 h9 => ?_)
  obtain ⟨rfl, h9⟩ := h9
  rw [h9]
  clear h9
  have hww1 := lowF_r z1 (n := 90) (by omega)
  generalize lowF z1 90 = w1 at *
  refine ae_imul (q := 28) (5 * w1) (by omega) dL_law_27 rfl ?_
  refine cs_I (q := 31) (As := [.ref (ad 102), .int (iI (5 * w1))]) 2 (c_pays (D := D) (C := C) (T := T) (ad := ad) hst (G := iniG) (K := iniG) (by omega) iniI eq0.rf (a := (5 * w1)) (by omega)) (fun _ h => h.1) wc_L_pays wm_RL_113 wt_L_pays wn_L (by decide) rfl ⟨Nat.le_of_ble_eq_true rfl, Nat.le_of_ble_eq_true rfl⟩ ⟨by show _ ≤ 600086; omega, by show _ ≤ 7301442; omega⟩ (Nat.le_of_ble_eq_true rfl) dL_law_28 rfl (fun r1 K h9 => ?_)
  obtain ⟨rfl, eK⟩ := h9
  have oK : okI 0 K := eK.I iniI
  have k60 : K 6 0 = 0 := (eK.2.1 0).trans rfl
  have k71 : K 7 1 = 0 := (eK.2.2 7 1 (by omega)).trans rfl
  have k13 : K 0 13 = 0 := (eK.1 13 (by omega)).trans rfl
  have tK : okT K := okT_congr (G := iniG) (fun y => eK.2.2 7 y (by omega)) (fun y => eK.2.2 8 y (by omega)) ⟨by decide, by decide, by decide, fun k z0 z1 => absurd (show k < 0 from z1) (by omega)⟩
  refine aw_if_eq (q := 34) dL_law_31 rfl (t := 62) (by decide) (by omega) (fun h => absurd h (by omega)) (fun _ => ?_)
  refine aw_aload_n (q := 35) 1 dL_law_34 rfl rfl rfl ?_
  refine ch_I (As := [.ref (ad 102)]) 1 (n_undo0 (D := D) (C := C) (T := T) (ad := ad) hst (t := 0) (by omega) oK k60) (fun _ h => h.1) wcw_L_undo wm_RL_119 wt_L_undo wn_L (by decide) rfl ⟨Nat.le_of_ble_eq_true rfl, Nat.le_of_ble_eq_true rfl⟩ ⟨by show _ ≤ 600086; omega, by show _ ≤ 7301442; omega⟩ (Nat.le_of_ble_eq_true rfl) dL_law_35 rfl (fun r9 G9 h9 => ?_)
  rw [h9.1, h9.2]
  clear h9
  refine aw_sipush (q := 41) dL_law_38 rfl (by decide) ?_
  refine aw_icmp_ne (q := 44) dL_law_41 rfl (t := 62) (by decide) (by omega) (by omega) (fun h => absurd h (by omega)) (fun _ => ?_)
  refine aw_aload_n (q := 45) 1 dL_law_44 rfl rfl rfl ?_
  refine cv_I (q := 48) (CC := "") (id := 102) (As := []) 0 (c_carryOut (D := D) (C := C) (T := T) (ad := ad) K (okI_M (t := 0) (by omega) oK) oK.1 tK) (fun _ h => h.1) (by omega) (cell_102 ad C _) rfl wc_X5_carryOut wm_RL_134 wi_X5_carryOut ws_X5_carryOut wn_X5 (by decide) rfl ⟨Nat.le_of_ble_eq_true rfl, Nat.le_of_ble_eq_true rfl⟩ ⟨by show _ ≤ 600086; omega, by show _ ≤ 7301442; omega⟩ (Nat.le_of_ble_eq_true rfl) dL_law_45 rfl (fun r2 A h9 => ?_)
  obtain ⟨rfl, S, hS, rfl⟩ := carry_0 oK k71 h9
  refine aw_if_ne (q := 51) dL_law_48 rfl (t := 62) (by decide) (by omega) (fun h => absurd h (by omega)) (fun _ => ?_)
  refine aw_aload_n (q := 52) 1 dL_law_51 rfl rfl rfl ?_
  refine ch_I (As := [.ref (ad 102)]) 1 (n_undoL (D := D) (C := C) (T := T) (ad := ad) hst (t := 0) (K := K) (H := S) (by omega) oK k60 hS) (fun _ h => h.1) wcw_L_undo wm_RL_119 wt_L_undo wn_L (by decide) rfl ⟨Nat.le_of_ble_eq_true rfl, Nat.le_of_ble_eq_true rfl⟩ ⟨by show _ ≤ 600086; omega, by show _ ≤ 7301442; omega⟩ (Nat.le_of_ble_eq_true rfl) dL_law_52 rfl (fun r3 B h9 => ?_)
  obtain ⟨rfl, oB, b13⟩ := h9
  refine aw_if_ne (q := 58) dL_law_55 rfl (t := 62) (by decide) (by omega) (fun h => absurd h (by omega)) (fun _ => ?_)
  refine aw_iconst (q := 59) dL_law_58 rfl ?_
  refine aw_goto (q := 63) dL_law_59 (by decide) ?_
  refine aw_istore_n (q := 64) (lv2 := [(0, .ref b), (1, .ref (ad 102)), (2, .int (iI 1))]) [1, 2, 0] dL_law_63 rfl rfl (by decide) rfl rfl ?_
  refine aw_iconst (q := 65) dL_law_64 rfl ?_
  refine aw_istore_n (q := 66) (lv2 := [(0, .ref b), (1, .ref (ad 102)), (2, .int (iI 1)), (3, .int (iI 0))]) [1, 2, 3, 0] dL_law_65 rfl rfl (by decide) rfl rfl ?_
  exact law_loop1 hst hL 5 0 B _ _ (by omega) (by omega) (by omega) oB (b13.trans k13) (by omega) (by omega)
