/-! the law's small methods: a call that may throw, caught -/
def lwN (n : Nat) : String := if n = 24 then xIB else if n = 13 then xIA else xIS
def lwH (hh : List (Nat × Nat × Nat × Nat)) (c : Code) : Prop := c.exceptionTable.toList = tableOf hh
def MH (l : Launch) (y : MethodName) (cc : ByteArray) (nL : Nat) (ret : Option FieldType) (hh : List (Nat × Nat × Nat × Nat)) (fr lo mc ms : Nat) (D : va_G) (ty : List (ClassId × FieldType)) (T : Nat → Nat) (As : List Value) (ws : va_W) (Q : Option Value → va_W → Prop) : Prop :=
  ∀ sz : Nat, Met l y (.codeWith y cc nL ret hh :: gt) { frames := fr, cells := mc, slots := ms, locals := lo } (va_Pc As (hvB D ty T ws sz)) (hvQ D Q ws sz) mc ms (va_A ws sz)
theorem mh_of {l : Launch} {y : MethodName} {cc : ByteArray} {nL : Nat} {ret : Option FieldType} {hh : List (Nat × Nat × Nat × Nat)} {fr lo mc ms : Nat} {D : va_G} {ty : List (ClassId × FieldType)} {T : Nat → Nat} {As : List Value} {ws : va_W} {Q : Option Value → va_W → Prop} {lv : List (Nat × Value)}
    (hy : plainName y.cls = true) (hn : (lg_sl As).length ≤ nL) (hlv : lv_args 0 As = lv)
    (body : AW l y.cls y.name cc nL ret (lwH hh) { frames := fr, cells := mc, slots := ms, locals := lo } (hvE D Q ws mc ms) D ty (hvZ T ws) ws 0 lv [] ws 0 0) : MH l y cc nL ret hh fr lo mc ms D ty T As ws Q := by
  intro sz
  refine MetFree.of_bodyS (code := cc) (maxLocals := nL) (ret := ret) hy ?_ ?_
  · intro args s m h hn
    obtain ⟨m9, meth, c, hn9, h1, h2, h3, h4, -, h5, h6, -⟩ := Cond.codeWith_spec (atoms_spec (ws := .codeWith y cc nL ret hh :: gt) h _ List.mem_cons_self)
    cases hn.symm.trans hn9
    exact ⟨meth, c, h1, h2, h3, h4, h5, h6⟩
  · intro p e s m args below meth c s₁ B hml hv _
    obtain ⟨rfl, hsz, hP, hK, hD0, hZ⟩ := hv
    have hh0 : s₁.heap = s.heap := by rw [B.state]; rfl
    have hx := B.exec
    have hb := B.bytes
    have hr := B.returns
    have hts := atoms_spec (ws := .codeWith y cc nL ret hh :: gt) B.pre
    have hown : s.vm.findClass y.cls = some m.cls := findClass_of_methodNamed B.named
    have hlocks := B.notSynchronized
    have hin : meth.name = y.name := (name_of_methodNamed B.named B.method).1
    subst hsz
    have k := body p e s m _ below meth c ⟨hx, hb, hml, hown, fun w hw => hts w (List.mem_cons_of_mem _ hw), hr, hlocks, hin, vx_table (x := y) B (hts _ List.mem_cons_self)⟩ hK hZ s.heap [] _ hP (hD0.self (sz := s.heap.size)) va_S.rf (hlv ▸ lv_entry As hn)
    rw [← lg_entry_eq] at k
    obtain ⟨t, a1, o, b1, b2, b3⟩ := k s₁ hh0 (Stand.of_body B)
    exact ⟨t, o, a1, b1, b2, ⟨b3.1, b3.2⟩⟩
theorem aw_callXV {l : Launch} {own nm : String} {cc : ByteArray} {nL : Nat} {ret : Option FieldType} {X : Code → Prop} {R : Room} {E : List Frame → Array Value → State → State → Prop} {D : va_G} {ty : List (ClassId × FieldType)} {Z : State → Prop} {w0 : va_W} {pc q : Nat} {lv : List (Nat × Value)} {st : List Value} {ws : va_W} {k n : Nat} {T : Nat → Nat} {y : MethodName} {bytes : ByteArray} {maxL : Nat} {rt : Option FieldType} {fr lo mc1 ms1 idx : Nat} {As : List Value} {b : Nat} {Q1 : Option Value → va_W → Prop} {QX1 : String → va_W → Prop} {hh : List (Nat × Nat × Nat × Nat)}
    {TT : u_T} {N ci : Nat} {fs : List Value} (q0 nA : Nat) (hm : MX l y bytes maxL rt fr lo mc1 ms1 D ty T (.ref b :: As) ws Q1 QX1) (hZT : ∀ s, Z s → hvZ T w0 s) (he : ws[q0]? = some (b, .inr (ci, fs))) (hc : vwCl[ci]? = some (y.cls, TT, N))
    (hw1 : Cond.code y bytes maxL rt ∈ gt) (hw2 : Cond.methodLink own idx y ∈ gt) (hw3 : Cond.instanceMethod y ∈ gt) (hw4 : Cond.selects y.cls y y ∈ gt) (hw5 : Cond.initialized y.cls ∈ gt)
    (hd : y.cls ≠ "java/lang/invoke/MethodHandle" ∧ y.cls ≠ "java/lang/invoke/VarHandle" ∧ (parseMethodDescriptor y.desc).map (fun d => d.parameters.length) = some nA) (hn : As.length = nA) (hR : fr + 1 ≤ R.frames ∧ 8 + (maxL + 11) + lo ≤ R.locals) (hR2 : k + mc1 ≤ R.cells ∧ n + ms1 ≤ R.slots) (hst : (st.map fun v => v.category).sum ≤ 8)
    (d : decode cc pc = .ok (.invokevirtual idx, 3)) (hq : pc + 3 = q) (hX : ∀ c, X c → lwH hh c)
    (kk : ∀ (v : Option Value) (ws1 : va_W), Q1 v ws1 → AW l own nm cc nL ret X R E D ty Z w0 q lv (v.toList ++ st) ws1 (k + mc1) (n + ms1))
    (kx : ∀ (E9 : String) (ws1 : va_W), QX1 E9 ws1 → ∃ pre x suf, hh = pre ++ x :: suf ∧ (∀ z ∈ pre, z.2.2.2 ≠ 0 ∧ Cond.classLink own z.2.2.2 (lwN z.2.2.2) ∈ gt ∧ (E9, lwN z.2.2.2) ∈ ncL) ∧ E9 = lwN x.2.2.2 ∧ E9 ∈ excL ∧ x.2.2.2 ≠ 0 ∧ Cond.classLink own x.2.2.2 (lwN x.2.2.2) ∈ gt ∧ covers ⟨x.1, x.2.1, x.2.2.1, x.2.2.2⟩ pc = true ∧
      ∀ q9 : Nat, AW l own nm cc nL ret X R E D ty Z w0 x.2.2.1 lv [.ref q9] ws1 (k + mc1) (n + ms1)) : AW l own nm cc nL ret X R E D ty Z w0 pc lv (As.reverse ++ .ref b :: st) ws k n := by
  subst hq
  intro p e s m args below meth c hC hK hZ H locs ls hP hD hS hl
  obtain ⟨hx, hb, hml, hown, hts, hr, hlk, hnm, hXc⟩ := id hC
  have hrun : vx_Run p l e R s m args below meth c H locs k n mc1 ms1 (F0 m pc ls (As.reverse ++ .ref b :: st)) st (hvQ D Q1 ws H.size (Value.ref b :: As).toArray) (hvXQ D QX1 ws H.size) (va_A ws H.size) := vx_runV (As := As) (rest := st) (C := y.cls) (n := nA) (g := F0 m pc ls (As.reverse ++ .ref b :: st)) ⟨hx, hb, hml, hown, hts⟩ (hm H.size) ⟨callB_of nA hts (gtIn hw1) rfl rfl rfl (hts _ hw5) (hts _ hw2) hd hR, hts _ hw3, hts _ hw4⟩
    ⟨hvB_blind, va_recv hK hP hc he, fun U hU hW => ⟨rfl, hvB.call (hZT s hZ) hP hK hD hS hU hW⟩⟩ rfl hn hl.1 rfl (by show 2 * 0 + _ ≤ 8; omega) d hR2
  have hF := hvF hD hS
  intro T' hT X'
  rcases hrun T' hT X' with ⟨v, st₀, t, T1, L, h0, X1, hL, e1, e2, ⟨⟨v1, ws1, hv, hq1, hP1, hD1⟩, hz, hk⟩, sts⟩ | ⟨q9, st₀, t, T1, L, E9, ce, h0, X1, hL, e1, e2, ⟨⟨ws1, hq1, hP1, hD1⟩, hz, hk⟩, hce, hcv, hcl, sts⟩
  · cases hv
    rw [h0] at hz hk
    obtain ⟨t2, a1, b1⟩ := kk v ws1 hq1 p e s m args below meth c hC hK hZ T1.heap (locs ++ L) ls (by rw [e1]; exact hP1) (hD1.weaken (fun _ _ _ h => hF _ h))
      ⟨Nat.le_trans hS.1 (by rw [e1]; exact hz), fun q h1 h2 => by rw [e1, hk q (Nat.lt_of_lt_of_le h1 hS.1) (fun z => h2 (hF q z))]; exact hS.2.1 q h1 h2, fun q hq => by
        rcases List.mem_append.mp hq with h | h
        · exact hS.2.2 q h
        · exact hF _ (hL q h)⟩ hl T1 rfl X1
    exact ⟨t2, sts t2 a1, b1⟩
  · rw [h0] at hz hk
    obtain ⟨pre, x, suf, g1, g2, g3, g4, g5, g6, g7, g8⟩ := kx E9 ws1 hq1
    have hown9 := hown
    have w := g8 q9 p e s m args below meth c hC hK hZ T1.heap (locs ++ L) ls (by rw [e1]; exact hP1) (hD1.weaken (fun _ _ _ h => hF _ h))
      ⟨Nat.le_trans hS.1 (by rw [e1]; exact hz), fun q h1 h2 => by rw [e1, hk q (Nat.lt_of_lt_of_le h1 hS.1) (fun z => h2 (hF q z))]; exact hS.2.1 q h1 h2, fun q hq => by
        rcases List.mem_append.mp hq with h | h
        · exact hS.2.2 q h
        · exact hF _ (hL q h)⟩ hl
    have hN := (hZT s hZ).2.2.2.2
    have hcast : (Cond.castable E9 E9).before args s = true := va_Nw.use rfl (hN.2.2.2.1 E9 g4)
    have hXt : c.exceptionTable.toList = tableOf hh := hX c hXc
    have ht : c.exceptionTable.toList = tableOf pre ++ ⟨x.1, x.2.1, x.2.2.1, x.2.2.2⟩ :: tableOf suf := by
      rw [hXt, g1]
      unfold tableOf
      rw [List.map_append, List.map_cons]
    obtain ⟨t2, a1, b1⟩ := vx_catch (name := lwN x.2.2.2) (E := E9) (ce := ce) (rest := st) hown9 (tableOf pre) ⟨x.1, x.2.1, x.2.2.1, x.2.2.2⟩ (tableOf suf) ht (fun z hz9 => by
      unfold tableOf at hz9
      obtain ⟨z9, hz8, rfl⟩ := List.mem_map.mp hz9
      exact Or.inr ⟨(g2 z9 hz8).1, lwN z9.2.2.2, hts _ (g2 z9 hz8).2.1, hN.2.2.2.2 _ (g2 z9 hz8).2.2⟩) g7 g5 (hts _ g6) (by rw [← g3]; exact hcast) (by rw [e1]; exact hce) hcv hcl w T1 rfl X1
    exact ⟨t2, sts.trans a1, b1⟩
theorem wl_RL_24 : Cond.classLink RL 24 xIB ∈ gt := wd_at 624 (by decide +kernel) rfl
theorem wl_RL_13 : Cond.classLink RL 13 xIA ∈ gt := wd_at 492 (by decide +kernel) rfl
theorem wl_RL_19 : Cond.classLink RL 19 xIS ∈ gt := wd_at 585 (by decide +kernel) rfl

theorem wcw_L_set : Cond.codeWith yL_set cL_set 5 (some .int) [(0, 10, 13, 13)] ∈ gt := wd_at 491 (by decide +kernel) rfl
theorem wcw_L_addCoil : Cond.codeWith yL_addCoil cL_addCoil 6 (some .int) [(0, 12, 15, 13), (0, 12, 19, 19)] ∈ gt := wd_at 584 (by decide +kernel) rfl
theorem wcw_L_stock : Cond.codeWith yL_stock cL_stock 5 (some .int) [(0, 10, 13, 24), (0, 10, 17, 13), (0, 10, 21, 19)] ∈ gt := wd_at 623 (by decide +kernel) rfl
theorem wcw_L_fill : Cond.codeWith yL_fill cL_fill 5 (some .int) [(0, 10, 13, 24), (0, 10, 17, 13)] ∈ gt := wd_at 649 (by decide +kernel) rfl
theorem wcw_L_buy : Cond.codeWith yL_buy cL_buy 8 (some .int) [(0, 16, 19, 24), (0, 16, 23, 13), (0, 16, 27, 19)] ∈ gt := wd_at 658 (by decide +kernel) rfl
theorem wcw_L_look : Cond.codeWith yL_look cL_look 4 (some .int) [(0, 9, 12, 24)] ∈ gt := wd_at 670 (by decide +kernel) rfl
theorem wcw_L_pass : Cond.codeWith yL_pass cL_pass 4 (some .int) [(0, 9, 12, 13), (0, 9, 15, 19)] ∈ gt := wd_at 682 (by decide +kernel) rfl
theorem wcw_L_coil : Cond.codeWith yL_coil cL_coil 5 (some .int) [(0, 10, 13, 24), (0, 10, 17, 13)] ∈ gt := wd_at 691 (by decide +kernel) rfl
theorem wcw_L_demand : Cond.codeWith yL_demand cL_demand 4 (some .int) [(0, 9, 12, 24)] ∈ gt := wd_at 699 (by decide +kernel) rfl
theorem wcw_L_tube : Cond.codeWith yL_tube cL_tube 4 (some .int) [(0, 9, 12, 24)] ∈ gt := wd_at 706 (by decide +kernel) rfl
theorem wcw_L_value : Cond.codeWith yL_value cL_value 4 (some .int) [(0, 9, 12, 13)] ∈ gt := wd_at 713 (by decide +kernel) rfl
theorem wcw_L_setting : Cond.codeWith yL_setting cL_setting 4 (some .int) [(0, 9, 12, 13)] ∈ gt := wd_at 720 (by decide +kernel) rfl
theorem wcw_L_promise : Cond.codeWith yL_promise cL_promise 4 (some .int) [(0, 9, 12, 24)] ∈ gt := wd_at 727 (by decide +kernel) rfl
theorem wcw_L_change : Cond.codeWith yL_change cL_change 5 (some .int) [(0, 10, 13, 13), (0, 10, 17, 24)] ∈ gt := wd_at 735 (by decide +kernel) rfl
theorem wcw_L_mostPayable : Cond.codeWith yL_mostPayable cL_mostPayable 4 (some .int) [(0, 9, 12, 13)] ∈ gt := wd_at 744 (by decide +kernel) rfl
theorem wcw_L_coinFor : Cond.codeWith yL_coinFor cL_coinFor 4 (some .int) [(0, 9, 12, 13)] ∈ gt := wd_at 752 (by decide +kernel) rfl
theorem wcw_L_priceIn : Cond.codeWith yL_priceIn cL_priceIn 5 (some .int) [(0, 10, 13, 24), (0, 10, 17, 13)] ∈ gt := wd_at 763 (by decide +kernel) rfl
theorem wcw_L_salesInARow : Cond.codeWith yL_salesInARow cL_salesInARow 6 (some .int) [(0, 12, 15, 24), (0, 12, 19, 13)] ∈ gt := wd_at 770 (by decide +kernel) rfl
theorem wcw_L_append : Cond.codeWith yL_append cL_append 4 (some .int) [(0, 9, 12, 13), (0, 9, 15, 19)] ∈ gt := wd_at 777 (by decide +kernel) rfl
theorem wcw_L_undo : Cond.codeWith yL_undo cL_undo 3 (some .int) [(0, 8, 11, 19)] ∈ gt := wd_at 790 (by decide +kernel) rfl
set_option maxHeartbeats 4000000 in
set_option maxRecDepth 100000 in
theorem cL_h_set {l : Launch} {D : va_G} {C : Nat → ClassId} {T : Nat → Nat} {ad : Int → Nat} (G : GG) {a0 a1 : Int} {fr lo mc1 ms1 : Nat} {CQ : Int → GG → Prop} {CX : String → GG → Prop} (hm : MX l yX5_set cX5_set 3 (some .int) fr lo mc1 ms1 D (tyC C) T (.ref (ad 102) :: [.int (iI a0), .int (iI a1)]) (cw ad C G) (RI ad C CQ) (RX ad C CX)) (hE : ∀ E G1, CX E G1 → E ∈ ([xIA] : List String)) (hfr : fr ≤ 6) (hlo : 8 + (3 + 11) + lo ≤ 200) (hmc : mc1 ≤ 1) (hms : ms1 ≤ 6) : MH l yL_set cL_set 5 (some .int) [(0, 10, 13, 13)] 7 200 1 6 D (tyC C) T (.ref (ad 102) :: [.int (iI a0), .int (iI a1), .ref (ad 118)]) (cw ad C G) (RI ad C (fun r G1 => (r = 0 ∧ ∃ v G2, CQ v G2 ∧ G1 = setG G2 21 0 (wI v)) ∨ (r = 1 ∧ CX xIA G1))) := by
  refine mh_of (by decide +kernel) (Nat.le_of_ble_eq_true rfl) rfl ?_
  refine aw_aload_n (q := 1) 3 dL_set_0 rfl rfl rfl ?_
  refine aw_iconst (q := 2) dL_set_1 rfl ?_
  refine aw_aload_n (q := 3) 0 dL_set_2 rfl rfl rfl ?_
  refine aw_iload_n (q := 4) 1 dL_set_3 rfl rfl rfl ?_
  refine aw_iload_n (q := 5) 2 dL_set_4 rfl rfl rfl ?_
  refine aw_callXV (q := 8) (hh := [(0, 10, 13, 13)]) (As := [.int (iI a0), .int (iI a1)]) 102 2 hm (fun _ h => h) (by rw [show (102 : Nat) = (102 : Int).toNat from rfl, cw_get (by omega), cell_102]) rfl wc_X5_set wm_RL_7 wi_X5_set ws_X5_set wn_X5 (by decide) rfl ⟨by show fr + 1 ≤ 7; omega, hlo⟩ ⟨by show 0 + mc1 ≤ 1; omega, by show 0 + ms1 ≤ 6; omega⟩ (Nat.le_of_ble_eq_true rfl) dL_set_5 rfl (fun _ h => h) ?_ ?_
  · rintro v9 w9 ⟨r9, G9, rfl, rfl, h9⟩
    refine aw_i2lW (q := 9) dL_set_8 rfl ?_
    refine aw_outPut (q := 10) rfl dL_set_9 rfl ?_
    refine aw_goto (q := 17) dL_set_10 (by decide) ?_
    refine aw_iconst (q := 18) dL_set_17 rfl ?_
    exact rt_i rfl (by omega) (by omega) (Or.inl ⟨rfl, _, _, h9, rfl⟩) dL_set_18
  · rintro E9 w9 ⟨G9, rfl, h9⟩
    have hE9 := hE _ _ h9
    simp only [List.mem_cons, List.mem_nil_iff, or_false] at hE9
    rcases hE9 with rfl
    · refine ⟨[], (0, 10, 13, 13), [], rfl, (fun z hz => by cases hz), rfl, by decide, by decide, wl_RL_13, by decide, fun q9 => ?_⟩
      refine aw_astore (q := 15) [0] dL_set_13 rfl (by decide) rfl rfl ?_
      refine aw_iconst (q := 16) dL_set_15 rfl ?_
      exact rt_i rfl (by omega) (by omega) (Or.inr (⟨rfl, h9⟩)) dL_set_16
set_option maxHeartbeats 4000000 in
set_option maxRecDepth 100000 in
theorem cL_h_addCoil {l : Launch} {D : va_G} {C : Nat → ClassId} {T : Nat → Nat} {ad : Int → Nat} (G : GG) {a0 a1 a2 : Int} {fr lo mc1 ms1 : Nat} {CQ : Int → GG → Prop} {CX : String → GG → Prop} (hm : MX l yX5_addCoil cX5_addCoil 4 (some .int) fr lo mc1 ms1 D (tyC C) T (.ref (ad 102) :: [.int (iI a0), .int (iI a1), .int (iI a2)]) (cw ad C G) (RI ad C CQ) (RX ad C CX)) (hE : ∀ E G1, CX E G1 → E ∈ ([xIA, xIS] : List String)) (hfr : fr ≤ 6) (hlo : 8 + (4 + 11) + lo ≤ 200) (hmc : mc1 ≤ 1) (hms : ms1 ≤ 6) : MH l yL_addCoil cL_addCoil 6 (some .int) [(0, 12, 15, 13), (0, 12, 19, 19)] 7 200 1 6 D (tyC C) T (.ref (ad 102) :: [.int (iI a0), .int (iI a1), .int (iI a2), .ref (ad 118)]) (cw ad C G) (RI ad C (fun r G1 => (r = 0 ∧ ∃ v G2, CQ v G2 ∧ G1 = setG G2 21 0 (wI v)) ∨ (r = 1 ∧ CX xIA G1) ∨ (r = 2 ∧ CX xIS G1))) := by
  refine mh_of (by decide +kernel) (Nat.le_of_ble_eq_true rfl) rfl ?_
  refine aw_aload (q := 2) 4 dL_addCoil_0 rfl rfl ?_
  refine aw_iconst (q := 3) dL_addCoil_2 rfl ?_
  refine aw_aload_n (q := 4) 0 dL_addCoil_3 rfl rfl rfl ?_
  refine aw_iload_n (q := 5) 1 dL_addCoil_4 rfl rfl rfl ?_
  refine aw_iload_n (q := 6) 2 dL_addCoil_5 rfl rfl rfl ?_
  refine aw_iload_n (q := 7) 3 dL_addCoil_6 rfl rfl rfl ?_
  refine aw_callXV (q := 10) (hh := [(0, 12, 15, 13), (0, 12, 19, 19)]) (As := [.int (iI a0), .int (iI a1), .int (iI a2)]) 102 3 hm (fun _ h => h) (by rw [show (102 : Nat) = (102 : Int).toNat from rfl, cw_get (by omega), cell_102]) rfl wc_X5_addCoil wm_RL_15 wi_X5_addCoil ws_X5_addCoil wn_X5 (by decide) rfl ⟨by show fr + 1 ≤ 7; omega, hlo⟩ ⟨by show 0 + mc1 ≤ 1; omega, by show 0 + ms1 ≤ 6; omega⟩ (Nat.le_of_ble_eq_true rfl) dL_addCoil_7 rfl (fun _ h => h) ?_ ?_
  · rintro v9 w9 ⟨r9, G9, rfl, rfl, h9⟩
    refine aw_i2lW (q := 11) dL_addCoil_10 rfl ?_
    refine aw_outPut (q := 12) rfl dL_addCoil_11 rfl ?_
    refine aw_goto (q := 23) dL_addCoil_12 (by decide) ?_
    refine aw_iconst (q := 24) dL_addCoil_23 rfl ?_
    exact rt_i rfl (by omega) (by omega) (Or.inl ⟨rfl, _, _, h9, rfl⟩) dL_addCoil_24
  · rintro E9 w9 ⟨G9, rfl, h9⟩
    have hE9 := hE _ _ h9
    simp only [List.mem_cons, List.mem_nil_iff, or_false] at hE9
    rcases hE9 with rfl | rfl
    · refine ⟨[], (0, 12, 15, 13), [(0, 12, 19, 19)], rfl, (fun z hz => by cases hz), rfl, by decide, by decide, wl_RL_13, by decide, fun q9 => ?_⟩
      refine aw_astore (q := 17) [0] dL_addCoil_15 rfl (by decide) rfl rfl ?_
      refine aw_iconst (q := 18) dL_addCoil_17 rfl ?_
      exact rt_i rfl (by omega) (by omega) (Or.inr (Or.inl ⟨rfl, h9⟩)) dL_addCoil_18
    · refine ⟨[(0, 12, 15, 13)], (0, 12, 19, 19), [], rfl, ?pre, rfl, by decide, by decide, wl_RL_19, by decide, fun q9 => ?_⟩
      case pre =>
        intro z hz
        simp only [List.mem_cons, List.mem_nil_iff, or_false] at hz
        rcases hz with rfl
        · exact ⟨by decide, wl_RL_13, by decide⟩
      refine aw_astore (q := 21) [0] dL_addCoil_19 rfl (by decide) rfl rfl ?_
      refine aw_iconst (q := 22) dL_addCoil_21 rfl ?_
      exact rt_i rfl (by omega) (by omega) (Or.inr (Or.inr (⟨rfl, h9⟩))) dL_addCoil_22
set_option maxHeartbeats 4000000 in
set_option maxRecDepth 100000 in
theorem cL_h_stock {l : Launch} {D : va_G} {C : Nat → ClassId} {T : Nat → Nat} {ad : Int → Nat} (G : GG) {a0 a1 : Int} {fr lo mc1 ms1 : Nat} {CQ : Int → GG → Prop} {CX : String → GG → Prop} (hm : MX l yX5_stock cX5_stock 3 (some .int) fr lo mc1 ms1 D (tyC C) T (.ref (ad 102) :: [.int (iI a0), .int (iI a1)]) (cw ad C G) (RI ad C CQ) (RX ad C CX)) (hE : ∀ E G1, CX E G1 → E ∈ ([xIB, xIA, xIS] : List String)) (hfr : fr ≤ 6) (hlo : 8 + (3 + 11) + lo ≤ 200) (hmc : mc1 ≤ 1) (hms : ms1 ≤ 6) : MH l yL_stock cL_stock 5 (some .int) [(0, 10, 13, 24), (0, 10, 17, 13), (0, 10, 21, 19)] 7 200 1 6 D (tyC C) T (.ref (ad 102) :: [.int (iI a0), .int (iI a1), .ref (ad 118)]) (cw ad C G) (RI ad C (fun r G1 => (r = 0 ∧ ∃ v G2, CQ v G2 ∧ G1 = setG G2 21 0 (wI v)) ∨ (r = 1 ∧ CX xIB G1) ∨ (r = 2 ∧ CX xIA G1) ∨ (r = 3 ∧ CX xIS G1))) := by
  refine mh_of (by decide +kernel) (Nat.le_of_ble_eq_true rfl) rfl ?_
  refine aw_aload_n (q := 1) 3 dL_stock_0 rfl rfl rfl ?_
  refine aw_iconst (q := 2) dL_stock_1 rfl ?_
  refine aw_aload_n (q := 3) 0 dL_stock_2 rfl rfl rfl ?_
  refine aw_iload_n (q := 4) 1 dL_stock_3 rfl rfl rfl ?_
  refine aw_iload_n (q := 5) 2 dL_stock_4 rfl rfl rfl ?_
  refine aw_callXV (q := 8) (hh := [(0, 10, 13, 24), (0, 10, 17, 13), (0, 10, 21, 19)]) (As := [.int (iI a0), .int (iI a1)]) 102 2 hm (fun _ h => h) (by rw [show (102 : Nat) = (102 : Int).toNat from rfl, cw_get (by omega), cell_102]) rfl wc_X5_stock wm_RL_21 wi_X5_stock ws_X5_stock wn_X5 (by decide) rfl ⟨by show fr + 1 ≤ 7; omega, hlo⟩ ⟨by show 0 + mc1 ≤ 1; omega, by show 0 + ms1 ≤ 6; omega⟩ (Nat.le_of_ble_eq_true rfl) dL_stock_5 rfl (fun _ h => h) ?_ ?_
  · rintro v9 w9 ⟨r9, G9, rfl, rfl, h9⟩
    refine aw_i2lW (q := 9) dL_stock_8 rfl ?_
    refine aw_outPut (q := 10) rfl dL_stock_9 rfl ?_
    refine aw_goto (q := 25) dL_stock_10 (by decide) ?_
    refine aw_iconst (q := 26) dL_stock_25 rfl ?_
    exact rt_i rfl (by omega) (by omega) (Or.inl ⟨rfl, _, _, h9, rfl⟩) dL_stock_26
  · rintro E9 w9 ⟨G9, rfl, h9⟩
    have hE9 := hE _ _ h9
    simp only [List.mem_cons, List.mem_nil_iff, or_false] at hE9
    rcases hE9 with rfl | rfl | rfl
    · refine ⟨[], (0, 10, 13, 24), [(0, 10, 17, 13), (0, 10, 21, 19)], rfl, (fun z hz => by cases hz), rfl, by decide, by decide, wl_RL_24, by decide, fun q9 => ?_⟩
      refine aw_astore (q := 15) [0] dL_stock_13 rfl (by decide) rfl rfl ?_
      refine aw_iconst (q := 16) dL_stock_15 rfl ?_
      exact rt_i rfl (by omega) (by omega) (Or.inr (Or.inl ⟨rfl, h9⟩)) dL_stock_16
    · refine ⟨[(0, 10, 13, 24)], (0, 10, 17, 13), [(0, 10, 21, 19)], rfl, ?pre, rfl, by decide, by decide, wl_RL_13, by decide, fun q9 => ?_⟩
      case pre =>
        intro z hz
        simp only [List.mem_cons, List.mem_nil_iff, or_false] at hz
        rcases hz with rfl
        · exact ⟨by decide, wl_RL_24, by decide⟩
      refine aw_astore (q := 19) [0] dL_stock_17 rfl (by decide) rfl rfl ?_
      refine aw_iconst (q := 20) dL_stock_19 rfl ?_
      exact rt_i rfl (by omega) (by omega) (Or.inr (Or.inr (Or.inl ⟨rfl, h9⟩))) dL_stock_20
    · refine ⟨[(0, 10, 13, 24), (0, 10, 17, 13)], (0, 10, 21, 19), [], rfl, ?pre, rfl, by decide, by decide, wl_RL_19, by decide, fun q9 => ?_⟩
      case pre =>
        intro z hz
        simp only [List.mem_cons, List.mem_nil_iff, or_false] at hz
        rcases hz with rfl | rfl
        · exact ⟨by decide, wl_RL_24, by decide⟩
        · exact ⟨by decide, wl_RL_13, by decide⟩
      refine aw_astore (q := 23) [0] dL_stock_21 rfl (by decide) rfl rfl ?_
      refine aw_iconst (q := 24) dL_stock_23 rfl ?_
      exact rt_i rfl (by omega) (by omega) (Or.inr (Or.inr (Or.inr (⟨rfl, h9⟩)))) dL_stock_24
set_option maxHeartbeats 4000000 in
set_option maxRecDepth 100000 in
theorem cL_h_fill {l : Launch} {D : va_G} {C : Nat → ClassId} {T : Nat → Nat} {ad : Int → Nat} (G : GG) {a0 a1 : Int} {fr lo mc1 ms1 : Nat} {CQ : Int → GG → Prop} {CX : String → GG → Prop} (hm : MX l yX5_fill cX5_fill 3 (some .int) fr lo mc1 ms1 D (tyC C) T (.ref (ad 102) :: [.int (iI a0), .int (iI a1)]) (cw ad C G) (RI ad C CQ) (RX ad C CX)) (hE : ∀ E G1, CX E G1 → E ∈ ([xIB, xIA] : List String)) (hfr : fr ≤ 6) (hlo : 8 + (3 + 11) + lo ≤ 200) (hmc : mc1 ≤ 1) (hms : ms1 ≤ 6) : MH l yL_fill cL_fill 5 (some .int) [(0, 10, 13, 24), (0, 10, 17, 13)] 7 200 1 6 D (tyC C) T (.ref (ad 102) :: [.int (iI a0), .int (iI a1), .ref (ad 118)]) (cw ad C G) (RI ad C (fun r G1 => (r = 0 ∧ ∃ v G2, CQ v G2 ∧ G1 = setG G2 21 0 (wI v)) ∨ (r = 1 ∧ CX xIB G1) ∨ (r = 2 ∧ CX xIA G1))) := by
  refine mh_of (by decide +kernel) (Nat.le_of_ble_eq_true rfl) rfl ?_
  refine aw_aload_n (q := 1) 3 dL_fill_0 rfl rfl rfl ?_
  refine aw_iconst (q := 2) dL_fill_1 rfl ?_
  refine aw_aload_n (q := 3) 0 dL_fill_2 rfl rfl rfl ?_
  refine aw_iload_n (q := 4) 1 dL_fill_3 rfl rfl rfl ?_
  refine aw_iload_n (q := 5) 2 dL_fill_4 rfl rfl rfl ?_
  refine aw_callXV (q := 8) (hh := [(0, 10, 13, 24), (0, 10, 17, 13)]) (As := [.int (iI a0), .int (iI a1)]) 102 2 hm (fun _ h => h) (by rw [show (102 : Nat) = (102 : Int).toNat from rfl, cw_get (by omega), cell_102]) rfl wc_X5_fill wm_RL_26 wi_X5_fill ws_X5_fill wn_X5 (by decide) rfl ⟨by show fr + 1 ≤ 7; omega, hlo⟩ ⟨by show 0 + mc1 ≤ 1; omega, by show 0 + ms1 ≤ 6; omega⟩ (Nat.le_of_ble_eq_true rfl) dL_fill_5 rfl (fun _ h => h) ?_ ?_
  · rintro v9 w9 ⟨r9, G9, rfl, rfl, h9⟩
    refine aw_i2lW (q := 9) dL_fill_8 rfl ?_
    refine aw_outPut (q := 10) rfl dL_fill_9 rfl ?_
    refine aw_goto (q := 21) dL_fill_10 (by decide) ?_
    refine aw_iconst (q := 22) dL_fill_21 rfl ?_
    exact rt_i rfl (by omega) (by omega) (Or.inl ⟨rfl, _, _, h9, rfl⟩) dL_fill_22
  · rintro E9 w9 ⟨G9, rfl, h9⟩
    have hE9 := hE _ _ h9
    simp only [List.mem_cons, List.mem_nil_iff, or_false] at hE9
    rcases hE9 with rfl | rfl
    · refine ⟨[], (0, 10, 13, 24), [(0, 10, 17, 13)], rfl, (fun z hz => by cases hz), rfl, by decide, by decide, wl_RL_24, by decide, fun q9 => ?_⟩
      refine aw_astore (q := 15) [0] dL_fill_13 rfl (by decide) rfl rfl ?_
      refine aw_iconst (q := 16) dL_fill_15 rfl ?_
      exact rt_i rfl (by omega) (by omega) (Or.inr (Or.inl ⟨rfl, h9⟩)) dL_fill_16
    · refine ⟨[(0, 10, 13, 24)], (0, 10, 17, 13), [], rfl, ?pre, rfl, by decide, by decide, wl_RL_13, by decide, fun q9 => ?_⟩
      case pre =>
        intro z hz
        simp only [List.mem_cons, List.mem_nil_iff, or_false] at hz
        rcases hz with rfl
        · exact ⟨by decide, wl_RL_24, by decide⟩
      refine aw_astore (q := 19) [0] dL_fill_17 rfl (by decide) rfl rfl ?_
      refine aw_iconst (q := 20) dL_fill_19 rfl ?_
      exact rt_i rfl (by omega) (by omega) (Or.inr (Or.inr (⟨rfl, h9⟩))) dL_fill_20
set_option maxHeartbeats 4000000 in
set_option maxRecDepth 100000 in
theorem cL_h_buy {l : Launch} {D : va_G} {C : Nat → ClassId} {T : Nat → Nat} {ad : Int → Nat} (G : GG) {a0 a1 a2 a3 a4 : Int} {fr lo mc1 ms1 : Nat} {CQ : Int → GG → Prop} {CX : String → GG → Prop} (hm : MX l yX5_buy cX5_buy 6 (some .int) fr lo mc1 ms1 D (tyC C) T (.ref (ad 102) :: [.int (iI a0), .int (iI a1), .int (iI a2), .int (iI a3), .int (iI a4)]) (cw ad C G) (RI ad C CQ) (RX ad C CX)) (hE : ∀ E G1, CX E G1 → E ∈ ([xIB, xIA, xIS] : List String)) (hfr : fr ≤ 6) (hlo : 8 + (6 + 11) + lo ≤ 200) (hmc : mc1 ≤ 1) (hms : ms1 ≤ 6) : MH l yL_buy cL_buy 8 (some .int) [(0, 16, 19, 24), (0, 16, 23, 13), (0, 16, 27, 19)] 7 200 1 6 D (tyC C) T (.ref (ad 102) :: [.int (iI a0), .int (iI a1), .int (iI a2), .int (iI a3), .int (iI a4), .ref (ad 118)]) (cw ad C G) (RI ad C (fun r G1 => (r = 0 ∧ ∃ v G2, CQ v G2 ∧ G1 = setG G2 21 0 (wI v)) ∨ (r = 1 ∧ CX xIB G1) ∨ (r = 2 ∧ CX xIA G1) ∨ (r = 3 ∧ CX xIS G1))) := by
  refine mh_of (by decide +kernel) (Nat.le_of_ble_eq_true rfl) rfl ?_
  refine aw_aload (q := 2) 6 dL_buy_0 rfl rfl ?_
  refine aw_iconst (q := 3) dL_buy_2 rfl ?_
  refine aw_aload_n (q := 4) 0 dL_buy_3 rfl rfl rfl ?_
  refine aw_iload_n (q := 5) 1 dL_buy_4 rfl rfl rfl ?_
  refine aw_iload_n (q := 6) 2 dL_buy_5 rfl rfl rfl ?_
  refine aw_iload_n (q := 7) 3 dL_buy_6 rfl rfl rfl ?_
  refine aw_iload (q := 9) 4 dL_buy_7 rfl rfl ?_
  refine aw_iload (q := 11) 5 dL_buy_9 rfl rfl ?_
  refine aw_callXV (q := 14) (hh := [(0, 16, 19, 24), (0, 16, 23, 13), (0, 16, 27, 19)]) (As := [.int (iI a0), .int (iI a1), .int (iI a2), .int (iI a3), .int (iI a4)]) 102 5 hm (fun _ h => h) (by rw [show (102 : Nat) = (102 : Int).toNat from rfl, cw_get (by omega), cell_102]) rfl wc_X5_buy wm_RL_29 wi_X5_buy ws_X5_buy wn_X5 (by decide) rfl ⟨by show fr + 1 ≤ 7; omega, hlo⟩ ⟨by show 0 + mc1 ≤ 1; omega, by show 0 + ms1 ≤ 6; omega⟩ (Nat.le_of_ble_eq_true rfl) dL_buy_11 rfl (fun _ h => h) ?_ ?_
  · rintro v9 w9 ⟨r9, G9, rfl, rfl, h9⟩
    refine aw_i2lW (q := 15) dL_buy_14 rfl ?_
    refine aw_outPut (q := 16) rfl dL_buy_15 rfl ?_
    refine aw_goto (q := 31) dL_buy_16 (by decide) ?_
    refine aw_iconst (q := 32) dL_buy_31 rfl ?_
    exact rt_i rfl (by omega) (by omega) (Or.inl ⟨rfl, _, _, h9, rfl⟩) dL_buy_32
  · rintro E9 w9 ⟨G9, rfl, h9⟩
    have hE9 := hE _ _ h9
    simp only [List.mem_cons, List.mem_nil_iff, or_false] at hE9
    rcases hE9 with rfl | rfl | rfl
    · refine ⟨[], (0, 16, 19, 24), [(0, 16, 23, 13), (0, 16, 27, 19)], rfl, (fun z hz => by cases hz), rfl, by decide, by decide, wl_RL_24, by decide, fun q9 => ?_⟩
      refine aw_astore (q := 21) [0] dL_buy_19 rfl (by decide) rfl rfl ?_
      refine aw_iconst (q := 22) dL_buy_21 rfl ?_
      exact rt_i rfl (by omega) (by omega) (Or.inr (Or.inl ⟨rfl, h9⟩)) dL_buy_22
    · refine ⟨[(0, 16, 19, 24)], (0, 16, 23, 13), [(0, 16, 27, 19)], rfl, ?pre, rfl, by decide, by decide, wl_RL_13, by decide, fun q9 => ?_⟩
      case pre =>
        intro z hz
        simp only [List.mem_cons, List.mem_nil_iff, or_false] at hz
        rcases hz with rfl
        · exact ⟨by decide, wl_RL_24, by decide⟩
      refine aw_astore (q := 25) [0] dL_buy_23 rfl (by decide) rfl rfl ?_
      refine aw_iconst (q := 26) dL_buy_25 rfl ?_
      exact rt_i rfl (by omega) (by omega) (Or.inr (Or.inr (Or.inl ⟨rfl, h9⟩))) dL_buy_26
    · refine ⟨[(0, 16, 19, 24), (0, 16, 23, 13)], (0, 16, 27, 19), [], rfl, ?pre, rfl, by decide, by decide, wl_RL_19, by decide, fun q9 => ?_⟩
      case pre =>
        intro z hz
        simp only [List.mem_cons, List.mem_nil_iff, or_false] at hz
        rcases hz with rfl | rfl
        · exact ⟨by decide, wl_RL_24, by decide⟩
        · exact ⟨by decide, wl_RL_13, by decide⟩
      refine aw_astore (q := 29) [0] dL_buy_27 rfl (by decide) rfl rfl ?_
      refine aw_iconst (q := 30) dL_buy_29 rfl ?_
      exact rt_i rfl (by omega) (by omega) (Or.inr (Or.inr (Or.inr (⟨rfl, h9⟩)))) dL_buy_30
set_option maxHeartbeats 4000000 in
set_option maxRecDepth 100000 in
theorem cL_h_look {l : Launch} {D : va_G} {C : Nat → ClassId} {T : Nat → Nat} {ad : Int → Nat} (G : GG) {a0 : Int} {fr lo mc1 ms1 : Nat} {CQ : Int → GG → Prop} {CX : String → GG → Prop} (hm : MX l yX5_look cX5_look 2 (some .int) fr lo mc1 ms1 D (tyC C) T (.ref (ad 102) :: [.int (iI a0)]) (cw ad C G) (RI ad C CQ) (RX ad C CX)) (hE : ∀ E G1, CX E G1 → E ∈ ([xIB] : List String)) (hfr : fr ≤ 6) (hlo : 8 + (2 + 11) + lo ≤ 200) (hmc : mc1 ≤ 1) (hms : ms1 ≤ 6) : MH l yL_look cL_look 4 (some .int) [(0, 9, 12, 24)] 7 200 1 6 D (tyC C) T (.ref (ad 102) :: [.int (iI a0), .ref (ad 118)]) (cw ad C G) (RI ad C (fun r G1 => (r = 0 ∧ ∃ v G2, CQ v G2 ∧ G1 = setG G2 21 0 (wI v)) ∨ (r = 1 ∧ CX xIB G1))) := by
  refine mh_of (by decide +kernel) (Nat.le_of_ble_eq_true rfl) rfl ?_
  refine aw_aload_n (q := 1) 2 dL_look_0 rfl rfl rfl ?_
  refine aw_iconst (q := 2) dL_look_1 rfl ?_
  refine aw_aload_n (q := 3) 0 dL_look_2 rfl rfl rfl ?_
  refine aw_iload_n (q := 4) 1 dL_look_3 rfl rfl rfl ?_
  refine aw_callXV (q := 7) (hh := [(0, 9, 12, 24)]) (As := [.int (iI a0)]) 102 1 hm (fun _ h => h) (by rw [show (102 : Nat) = (102 : Int).toNat from rfl, cw_get (by omega), cell_102]) rfl wc_X5_look wm_RL_33 wi_X5_look ws_X5_look wn_X5 (by decide) rfl ⟨by show fr + 1 ≤ 7; omega, hlo⟩ ⟨by show 0 + mc1 ≤ 1; omega, by show 0 + ms1 ≤ 6; omega⟩ (Nat.le_of_ble_eq_true rfl) dL_look_4 rfl (fun _ h => h) ?_ ?_
  · rintro v9 w9 ⟨r9, G9, rfl, rfl, h9⟩
    refine aw_i2lW (q := 8) dL_look_7 rfl ?_
    refine aw_outPut (q := 9) rfl dL_look_8 rfl ?_
    refine aw_goto (q := 15) dL_look_9 (by decide) ?_
    refine aw_iconst (q := 16) dL_look_15 rfl ?_
    exact rt_i rfl (by omega) (by omega) (Or.inl ⟨rfl, _, _, h9, rfl⟩) dL_look_16
  · rintro E9 w9 ⟨G9, rfl, h9⟩
    have hE9 := hE _ _ h9
    simp only [List.mem_cons, List.mem_nil_iff, or_false] at hE9
    rcases hE9 with rfl
    · refine ⟨[], (0, 9, 12, 24), [], rfl, (fun z hz => by cases hz), rfl, by decide, by decide, wl_RL_24, by decide, fun q9 => ?_⟩
      refine aw_astore_n (q := 13) [0] dL_look_12 rfl rfl (by decide) rfl rfl ?_
      refine aw_iconst (q := 14) dL_look_13 rfl ?_
      exact rt_i rfl (by omega) (by omega) (Or.inr (⟨rfl, h9⟩)) dL_look_14
set_option maxHeartbeats 4000000 in
set_option maxRecDepth 100000 in
theorem cL_h_pass {l : Launch} {D : va_G} {C : Nat → ClassId} {T : Nat → Nat} {ad : Int → Nat} (G : GG) {a0 : Int} {fr lo mc1 ms1 : Nat} {CQ : Int → GG → Prop} {CX : String → GG → Prop} (hm : MX l yX5_pass cX5_pass 2 (some .int) fr lo mc1 ms1 D (tyC C) T (.ref (ad 102) :: [.int (iI a0)]) (cw ad C G) (RI ad C CQ) (RX ad C CX)) (hE : ∀ E G1, CX E G1 → E ∈ ([xIA, xIS] : List String)) (hfr : fr ≤ 6) (hlo : 8 + (2 + 11) + lo ≤ 200) (hmc : mc1 ≤ 1) (hms : ms1 ≤ 6) : MH l yL_pass cL_pass 4 (some .int) [(0, 9, 12, 13), (0, 9, 15, 19)] 7 200 1 6 D (tyC C) T (.ref (ad 102) :: [.int (iI a0), .ref (ad 118)]) (cw ad C G) (RI ad C (fun r G1 => (r = 0 ∧ ∃ v G2, CQ v G2 ∧ G1 = setG G2 21 0 (wI v)) ∨ (r = 1 ∧ CX xIA G1) ∨ (r = 2 ∧ CX xIS G1))) := by
  refine mh_of (by decide +kernel) (Nat.le_of_ble_eq_true rfl) rfl ?_
  refine aw_aload_n (q := 1) 2 dL_pass_0 rfl rfl rfl ?_
  refine aw_iconst (q := 2) dL_pass_1 rfl ?_
  refine aw_aload_n (q := 3) 0 dL_pass_2 rfl rfl rfl ?_
  refine aw_iload_n (q := 4) 1 dL_pass_3 rfl rfl rfl ?_
  refine aw_callXV (q := 7) (hh := [(0, 9, 12, 13), (0, 9, 15, 19)]) (As := [.int (iI a0)]) 102 1 hm (fun _ h => h) (by rw [show (102 : Nat) = (102 : Int).toNat from rfl, cw_get (by omega), cell_102]) rfl wc_X5_pass wm_RL_37 wi_X5_pass ws_X5_pass wn_X5 (by decide) rfl ⟨by show fr + 1 ≤ 7; omega, hlo⟩ ⟨by show 0 + mc1 ≤ 1; omega, by show 0 + ms1 ≤ 6; omega⟩ (Nat.le_of_ble_eq_true rfl) dL_pass_4 rfl (fun _ h => h) ?_ ?_
  · rintro v9 w9 ⟨r9, G9, rfl, rfl, h9⟩
    refine aw_i2lW (q := 8) dL_pass_7 rfl ?_
    refine aw_outPut (q := 9) rfl dL_pass_8 rfl ?_
    refine aw_goto (q := 18) dL_pass_9 (by decide) ?_
    refine aw_iconst (q := 19) dL_pass_18 rfl ?_
    exact rt_i rfl (by omega) (by omega) (Or.inl ⟨rfl, _, _, h9, rfl⟩) dL_pass_19
  · rintro E9 w9 ⟨G9, rfl, h9⟩
    have hE9 := hE _ _ h9
    simp only [List.mem_cons, List.mem_nil_iff, or_false] at hE9
    rcases hE9 with rfl | rfl
    · refine ⟨[], (0, 9, 12, 13), [(0, 9, 15, 19)], rfl, (fun z hz => by cases hz), rfl, by decide, by decide, wl_RL_13, by decide, fun q9 => ?_⟩
      refine aw_astore_n (q := 13) [0] dL_pass_12 rfl rfl (by decide) rfl rfl ?_
      refine aw_iconst (q := 14) dL_pass_13 rfl ?_
      exact rt_i rfl (by omega) (by omega) (Or.inr (Or.inl ⟨rfl, h9⟩)) dL_pass_14
    · refine ⟨[(0, 9, 12, 13)], (0, 9, 15, 19), [], rfl, ?pre, rfl, by decide, by decide, wl_RL_19, by decide, fun q9 => ?_⟩
      case pre =>
        intro z hz
        simp only [List.mem_cons, List.mem_nil_iff, or_false] at hz
        rcases hz with rfl
        · exact ⟨by decide, wl_RL_13, by decide⟩
      refine aw_astore_n (q := 16) [0] dL_pass_15 rfl rfl (by decide) rfl rfl ?_
      refine aw_iconst (q := 17) dL_pass_16 rfl ?_
      exact rt_i rfl (by omega) (by omega) (Or.inr (Or.inr (⟨rfl, h9⟩))) dL_pass_17
set_option maxHeartbeats 4000000 in
set_option maxRecDepth 100000 in
theorem cL_h_coil {l : Launch} {D : va_G} {C : Nat → ClassId} {T : Nat → Nat} {ad : Int → Nat} (G : GG) {a0 a1 : Int} {fr lo mc1 ms1 : Nat} {CQ : Int → GG → Prop} {CX : String → GG → Prop} (hm : MX l yX5_coil cX5_coil 3 (some .int) fr lo mc1 ms1 D (tyC C) T (.ref (ad 102) :: [.int (iI a0), .int (iI a1)]) (cw ad C G) (RI ad C CQ) (RX ad C CX)) (hE : ∀ E G1, CX E G1 → E ∈ ([xIB, xIA] : List String)) (hfr : fr ≤ 6) (hlo : 8 + (3 + 11) + lo ≤ 200) (hmc : mc1 ≤ 1) (hms : ms1 ≤ 6) : MH l yL_coil cL_coil 5 (some .int) [(0, 10, 13, 24), (0, 10, 17, 13)] 7 200 1 6 D (tyC C) T (.ref (ad 102) :: [.int (iI a0), .int (iI a1), .ref (ad 118)]) (cw ad C G) (RI ad C (fun r G1 => (r = 0 ∧ ∃ v G2, CQ v G2 ∧ G1 = setG G2 21 0 (wI v)) ∨ (r = 1 ∧ CX xIB G1) ∨ (r = 2 ∧ CX xIA G1))) := by
  refine mh_of (by decide +kernel) (Nat.le_of_ble_eq_true rfl) rfl ?_
  refine aw_aload_n (q := 1) 3 dL_coil_0 rfl rfl rfl ?_
  refine aw_iconst (q := 2) dL_coil_1 rfl ?_
  refine aw_aload_n (q := 3) 0 dL_coil_2 rfl rfl rfl ?_
  refine aw_iload_n (q := 4) 1 dL_coil_3 rfl rfl rfl ?_
  refine aw_iload_n (q := 5) 2 dL_coil_4 rfl rfl rfl ?_
  refine aw_callXV (q := 8) (hh := [(0, 10, 13, 24), (0, 10, 17, 13)]) (As := [.int (iI a0), .int (iI a1)]) 102 2 hm (fun _ h => h) (by rw [show (102 : Nat) = (102 : Int).toNat from rfl, cw_get (by omega), cell_102]) rfl wc_X5_coil wm_RL_40 wi_X5_coil ws_X5_coil wn_X5 (by decide) rfl ⟨by show fr + 1 ≤ 7; omega, hlo⟩ ⟨by show 0 + mc1 ≤ 1; omega, by show 0 + ms1 ≤ 6; omega⟩ (Nat.le_of_ble_eq_true rfl) dL_coil_5 rfl (fun _ h => h) ?_ ?_
  · rintro v9 w9 ⟨r9, G9, rfl, rfl, h9⟩
    refine aw_i2lW (q := 9) dL_coil_8 rfl ?_
    refine aw_outPut (q := 10) rfl dL_coil_9 rfl ?_
    refine aw_goto (q := 21) dL_coil_10 (by decide) ?_
    refine aw_iconst (q := 22) dL_coil_21 rfl ?_
    exact rt_i rfl (by omega) (by omega) (Or.inl ⟨rfl, _, _, h9, rfl⟩) dL_coil_22
  · rintro E9 w9 ⟨G9, rfl, h9⟩
    have hE9 := hE _ _ h9
    simp only [List.mem_cons, List.mem_nil_iff, or_false] at hE9
    rcases hE9 with rfl | rfl
    · refine ⟨[], (0, 10, 13, 24), [(0, 10, 17, 13)], rfl, (fun z hz => by cases hz), rfl, by decide, by decide, wl_RL_24, by decide, fun q9 => ?_⟩
      refine aw_astore (q := 15) [0] dL_coil_13 rfl (by decide) rfl rfl ?_
      refine aw_iconst (q := 16) dL_coil_15 rfl ?_
      exact rt_i rfl (by omega) (by omega) (Or.inr (Or.inl ⟨rfl, h9⟩)) dL_coil_16
    · refine ⟨[(0, 10, 13, 24)], (0, 10, 17, 13), [], rfl, ?pre, rfl, by decide, by decide, wl_RL_13, by decide, fun q9 => ?_⟩
      case pre =>
        intro z hz
        simp only [List.mem_cons, List.mem_nil_iff, or_false] at hz
        rcases hz with rfl
        · exact ⟨by decide, wl_RL_24, by decide⟩
      refine aw_astore (q := 19) [0] dL_coil_17 rfl (by decide) rfl rfl ?_
      refine aw_iconst (q := 20) dL_coil_19 rfl ?_
      exact rt_i rfl (by omega) (by omega) (Or.inr (Or.inr (⟨rfl, h9⟩))) dL_coil_20
set_option maxHeartbeats 4000000 in
set_option maxRecDepth 100000 in
theorem cL_h_demand {l : Launch} {D : va_G} {C : Nat → ClassId} {T : Nat → Nat} {ad : Int → Nat} (G : GG) {a0 : Int} {fr lo mc1 ms1 : Nat} {CQ : UInt32 → GG → Prop} {CX : String → GG → Prop} (hm : MX l yX5_demand cX5_demand 2 (some .float) fr lo mc1 ms1 D (tyC C) T (.ref (ad 102) :: [.int (iI a0)]) (cw ad C G) (RF ad C CQ) (RX ad C CX)) (hE : ∀ E G1, CX E G1 → E ∈ ([xIB] : List String)) (hne : ∀ v G2, CQ v G2 → vf_n64 (FP.f2d v)) (hfr : fr ≤ 6) (hlo : 8 + (2 + 11) + lo ≤ 200) (hmc : mc1 ≤ 1) (hms : ms1 ≤ 6) : MH l yL_demand cL_demand 4 (some .int) [(0, 9, 12, 24)] 7 200 1 6 D (tyC C) T (.ref (ad 102) :: [.int (iI a0), .ref (ad 119)]) (cw ad C G) (RI ad C (fun r G1 => (r = 0 ∧ ∃ v G2, CQ v G2 ∧ G1 = setG G2 22 0 ((FP.f2d v).toNat : Int)) ∨ (r = 1 ∧ CX xIB G1))) := by
  refine mh_of (by decide +kernel) (Nat.le_of_ble_eq_true rfl) rfl ?_
  refine aw_aload_n (q := 1) 2 dL_demand_0 rfl rfl rfl ?_
  refine aw_iconst (q := 2) dL_demand_1 rfl ?_
  refine aw_aload_n (q := 3) 0 dL_demand_2 rfl rfl rfl ?_
  refine aw_iload_n (q := 4) 1 dL_demand_3 rfl rfl rfl ?_
  refine aw_callXV (q := 7) (hh := [(0, 9, 12, 24)]) (As := [.int (iI a0)]) 102 1 hm (fun _ h => h) (by rw [show (102 : Nat) = (102 : Int).toNat from rfl, cw_get (by omega), cell_102]) rfl wc_X5_demand wm_RL_43 wi_X5_demand ws_X5_demand wn_X5 (by decide) rfl ⟨by show fr + 1 ≤ 7; omega, hlo⟩ ⟨by show 0 + mc1 ≤ 1; omega, by show 0 + ms1 ≤ 6; omega⟩ (Nat.le_of_ble_eq_true rfl) dL_demand_4 rfl (fun _ h => h) ?_ ?_
  · rintro v9 w9 ⟨r9, G9, rfl, rfl, h9⟩
    refine aw_f2d (q := 8) dL_demand_7 rfl (hne _ _ h9) ?_
    refine aw_outDPut (q := 9) (dB_nat _) rfl dL_demand_8 rfl ?_
    refine aw_goto (q := 15) dL_demand_9 (by decide) ?_
    refine aw_iconst (q := 16) dL_demand_15 rfl ?_
    exact rt_i rfl (by omega) (by omega) (Or.inl ⟨rfl, _, _, h9, rfl⟩) dL_demand_16
  · rintro E9 w9 ⟨G9, rfl, h9⟩
    have hE9 := hE _ _ h9
    simp only [List.mem_cons, List.mem_nil_iff, or_false] at hE9
    rcases hE9 with rfl
    · refine ⟨[], (0, 9, 12, 24), [], rfl, (fun z hz => by cases hz), rfl, by decide, by decide, wl_RL_24, by decide, fun q9 => ?_⟩
      refine aw_astore_n (q := 13) [0] dL_demand_12 rfl rfl (by decide) rfl rfl ?_
      refine aw_iconst (q := 14) dL_demand_13 rfl ?_
      exact rt_i rfl (by omega) (by omega) (Or.inr (⟨rfl, h9⟩)) dL_demand_14
set_option maxHeartbeats 4000000 in
set_option maxRecDepth 100000 in
theorem cL_h_tube {l : Launch} {D : va_G} {C : Nat → ClassId} {T : Nat → Nat} {ad : Int → Nat} (G : GG) {a0 : Int} {fr lo mc1 ms1 : Nat} {CQ : Int → GG → Prop} {CX : String → GG → Prop} (hm : MX l yX5_tube cX5_tube 2 (some .int) fr lo mc1 ms1 D (tyC C) T (.ref (ad 102) :: [.int (iI a0)]) (cw ad C G) (RI ad C CQ) (RX ad C CX)) (hE : ∀ E G1, CX E G1 → E ∈ ([xIB] : List String)) (hfr : fr ≤ 6) (hlo : 8 + (2 + 11) + lo ≤ 200) (hmc : mc1 ≤ 1) (hms : ms1 ≤ 6) : MH l yL_tube cL_tube 4 (some .int) [(0, 9, 12, 24)] 7 200 1 6 D (tyC C) T (.ref (ad 102) :: [.int (iI a0), .ref (ad 118)]) (cw ad C G) (RI ad C (fun r G1 => (r = 0 ∧ ∃ v G2, CQ v G2 ∧ G1 = setG G2 21 0 (wI v)) ∨ (r = 1 ∧ CX xIB G1))) := by
  refine mh_of (by decide +kernel) (Nat.le_of_ble_eq_true rfl) rfl ?_
  refine aw_aload_n (q := 1) 2 dL_tube_0 rfl rfl rfl ?_
  refine aw_iconst (q := 2) dL_tube_1 rfl ?_
  refine aw_aload_n (q := 3) 0 dL_tube_2 rfl rfl rfl ?_
  refine aw_iload_n (q := 4) 1 dL_tube_3 rfl rfl rfl ?_
  refine aw_callXV (q := 7) (hh := [(0, 9, 12, 24)]) (As := [.int (iI a0)]) 102 1 hm (fun _ h => h) (by rw [show (102 : Nat) = (102 : Int).toNat from rfl, cw_get (by omega), cell_102]) rfl wc_X5_tube wm_RL_47 wi_X5_tube ws_X5_tube wn_X5 (by decide) rfl ⟨by show fr + 1 ≤ 7; omega, hlo⟩ ⟨by show 0 + mc1 ≤ 1; omega, by show 0 + ms1 ≤ 6; omega⟩ (Nat.le_of_ble_eq_true rfl) dL_tube_4 rfl (fun _ h => h) ?_ ?_
  · rintro v9 w9 ⟨r9, G9, rfl, rfl, h9⟩
    refine aw_i2lW (q := 8) dL_tube_7 rfl ?_
    refine aw_outPut (q := 9) rfl dL_tube_8 rfl ?_
    refine aw_goto (q := 15) dL_tube_9 (by decide) ?_
    refine aw_iconst (q := 16) dL_tube_15 rfl ?_
    exact rt_i rfl (by omega) (by omega) (Or.inl ⟨rfl, _, _, h9, rfl⟩) dL_tube_16
  · rintro E9 w9 ⟨G9, rfl, h9⟩
    have hE9 := hE _ _ h9
    simp only [List.mem_cons, List.mem_nil_iff, or_false] at hE9
    rcases hE9 with rfl
    · refine ⟨[], (0, 9, 12, 24), [], rfl, (fun z hz => by cases hz), rfl, by decide, by decide, wl_RL_24, by decide, fun q9 => ?_⟩
      refine aw_astore_n (q := 13) [0] dL_tube_12 rfl rfl (by decide) rfl rfl ?_
      refine aw_iconst (q := 14) dL_tube_13 rfl ?_
      exact rt_i rfl (by omega) (by omega) (Or.inr (⟨rfl, h9⟩)) dL_tube_14
set_option maxHeartbeats 4000000 in
set_option maxRecDepth 100000 in
theorem cL_h_value {l : Launch} {D : va_G} {C : Nat → ClassId} {T : Nat → Nat} {ad : Int → Nat} (G : GG) {a0 : Int} {fr lo mc1 ms1 : Nat} {CQ : Int → GG → Prop} {CX : String → GG → Prop} (hm : MX l yX5_value cX5_value 2 (some .int) fr lo mc1 ms1 D (tyC C) T (.ref (ad 102) :: [.int (iI a0)]) (cw ad C G) (RI ad C CQ) (RX ad C CX)) (hE : ∀ E G1, CX E G1 → E ∈ ([xIA] : List String)) (hfr : fr ≤ 6) (hlo : 8 + (2 + 11) + lo ≤ 200) (hmc : mc1 ≤ 1) (hms : ms1 ≤ 6) : MH l yL_value cL_value 4 (some .int) [(0, 9, 12, 13)] 7 200 1 6 D (tyC C) T (.ref (ad 102) :: [.int (iI a0), .ref (ad 118)]) (cw ad C G) (RI ad C (fun r G1 => (r = 0 ∧ ∃ v G2, CQ v G2 ∧ G1 = setG G2 21 0 (wI v)) ∨ (r = 1 ∧ CX xIA G1))) := by
  refine mh_of (by decide +kernel) (Nat.le_of_ble_eq_true rfl) rfl ?_
  refine aw_aload_n (q := 1) 2 dL_value_0 rfl rfl rfl ?_
  refine aw_iconst (q := 2) dL_value_1 rfl ?_
  refine aw_aload_n (q := 3) 0 dL_value_2 rfl rfl rfl ?_
  refine aw_iload_n (q := 4) 1 dL_value_3 rfl rfl rfl ?_
  refine aw_callXV (q := 7) (hh := [(0, 9, 12, 13)]) (As := [.int (iI a0)]) 102 1 hm (fun _ h => h) (by rw [show (102 : Nat) = (102 : Int).toNat from rfl, cw_get (by omega), cell_102]) rfl wc_X5_value wm_RL_50 wi_X5_value ws_X5_value wn_X5 (by decide) rfl ⟨by show fr + 1 ≤ 7; omega, hlo⟩ ⟨by show 0 + mc1 ≤ 1; omega, by show 0 + ms1 ≤ 6; omega⟩ (Nat.le_of_ble_eq_true rfl) dL_value_4 rfl (fun _ h => h) ?_ ?_
  · rintro v9 w9 ⟨r9, G9, rfl, rfl, h9⟩
    refine aw_i2lW (q := 8) dL_value_7 rfl ?_
    refine aw_outPut (q := 9) rfl dL_value_8 rfl ?_
    refine aw_goto (q := 15) dL_value_9 (by decide) ?_
    refine aw_iconst (q := 16) dL_value_15 rfl ?_
    exact rt_i rfl (by omega) (by omega) (Or.inl ⟨rfl, _, _, h9, rfl⟩) dL_value_16
  · rintro E9 w9 ⟨G9, rfl, h9⟩
    have hE9 := hE _ _ h9
    simp only [List.mem_cons, List.mem_nil_iff, or_false] at hE9
    rcases hE9 with rfl
    · refine ⟨[], (0, 9, 12, 13), [], rfl, (fun z hz => by cases hz), rfl, by decide, by decide, wl_RL_13, by decide, fun q9 => ?_⟩
      refine aw_astore_n (q := 13) [0] dL_value_12 rfl rfl (by decide) rfl rfl ?_
      refine aw_iconst (q := 14) dL_value_13 rfl ?_
      exact rt_i rfl (by omega) (by omega) (Or.inr (⟨rfl, h9⟩)) dL_value_14
set_option maxHeartbeats 4000000 in
set_option maxRecDepth 100000 in
theorem cL_h_setting {l : Launch} {D : va_G} {C : Nat → ClassId} {T : Nat → Nat} {ad : Int → Nat} (G : GG) {a0 : Int} {fr lo mc1 ms1 : Nat} {CQ : Int → GG → Prop} {CX : String → GG → Prop} (hm : MX l yX5_setting cX5_setting 2 (some .int) fr lo mc1 ms1 D (tyC C) T (.ref (ad 102) :: [.int (iI a0)]) (cw ad C G) (RI ad C CQ) (RX ad C CX)) (hE : ∀ E G1, CX E G1 → E ∈ ([xIA] : List String)) (hfr : fr ≤ 6) (hlo : 8 + (2 + 11) + lo ≤ 200) (hmc : mc1 ≤ 1) (hms : ms1 ≤ 6) : MH l yL_setting cL_setting 4 (some .int) [(0, 9, 12, 13)] 7 200 1 6 D (tyC C) T (.ref (ad 102) :: [.int (iI a0), .ref (ad 118)]) (cw ad C G) (RI ad C (fun r G1 => (r = 0 ∧ ∃ v G2, CQ v G2 ∧ G1 = setG G2 21 0 (wI v)) ∨ (r = 1 ∧ CX xIA G1))) := by
  refine mh_of (by decide +kernel) (Nat.le_of_ble_eq_true rfl) rfl ?_
  refine aw_aload_n (q := 1) 2 dL_setting_0 rfl rfl rfl ?_
  refine aw_iconst (q := 2) dL_setting_1 rfl ?_
  refine aw_aload_n (q := 3) 0 dL_setting_2 rfl rfl rfl ?_
  refine aw_iload_n (q := 4) 1 dL_setting_3 rfl rfl rfl ?_
  refine aw_callXV (q := 7) (hh := [(0, 9, 12, 13)]) (As := [.int (iI a0)]) 102 1 hm (fun _ h => h) (by rw [show (102 : Nat) = (102 : Int).toNat from rfl, cw_get (by omega), cell_102]) rfl wc_X5_setting wm_RL_53 wi_X5_setting ws_X5_setting wn_X5 (by decide) rfl ⟨by show fr + 1 ≤ 7; omega, hlo⟩ ⟨by show 0 + mc1 ≤ 1; omega, by show 0 + ms1 ≤ 6; omega⟩ (Nat.le_of_ble_eq_true rfl) dL_setting_4 rfl (fun _ h => h) ?_ ?_
  · rintro v9 w9 ⟨r9, G9, rfl, rfl, h9⟩
    refine aw_i2lW (q := 8) dL_setting_7 rfl ?_
    refine aw_outPut (q := 9) rfl dL_setting_8 rfl ?_
    refine aw_goto (q := 15) dL_setting_9 (by decide) ?_
    refine aw_iconst (q := 16) dL_setting_15 rfl ?_
    exact rt_i rfl (by omega) (by omega) (Or.inl ⟨rfl, _, _, h9, rfl⟩) dL_setting_16
  · rintro E9 w9 ⟨G9, rfl, h9⟩
    have hE9 := hE _ _ h9
    simp only [List.mem_cons, List.mem_nil_iff, or_false] at hE9
    rcases hE9 with rfl
    · refine ⟨[], (0, 9, 12, 13), [], rfl, (fun z hz => by cases hz), rfl, by decide, by decide, wl_RL_13, by decide, fun q9 => ?_⟩
      refine aw_astore_n (q := 13) [0] dL_setting_12 rfl rfl (by decide) rfl rfl ?_
      refine aw_iconst (q := 14) dL_setting_13 rfl ?_
      exact rt_i rfl (by omega) (by omega) (Or.inr (⟨rfl, h9⟩)) dL_setting_14
set_option maxHeartbeats 4000000 in
set_option maxRecDepth 100000 in
theorem cL_h_promise {l : Launch} {D : va_G} {C : Nat → ClassId} {T : Nat → Nat} {ad : Int → Nat} (G : GG) {a0 : Int} {fr lo mc1 ms1 : Nat} {CQ : Int → GG → Prop} {CX : String → GG → Prop} (hm : MX l yX5_promise cX5_promise 2 (some .int) fr lo mc1 ms1 D (tyC C) T (.ref (ad 102) :: [.int (iI a0)]) (cw ad C G) (RI ad C CQ) (RX ad C CX)) (hE : ∀ E G1, CX E G1 → E ∈ ([xIB] : List String)) (hfr : fr ≤ 6) (hlo : 8 + (2 + 11) + lo ≤ 200) (hmc : mc1 ≤ 1) (hms : ms1 ≤ 6) : MH l yL_promise cL_promise 4 (some .int) [(0, 9, 12, 24)] 7 200 1 6 D (tyC C) T (.ref (ad 102) :: [.int (iI a0), .ref (ad 118)]) (cw ad C G) (RI ad C (fun r G1 => (r = 0 ∧ ∃ v G2, CQ v G2 ∧ G1 = setG G2 21 0 (wI v)) ∨ (r = 1 ∧ CX xIB G1))) := by
  refine mh_of (by decide +kernel) (Nat.le_of_ble_eq_true rfl) rfl ?_
  refine aw_aload_n (q := 1) 2 dL_promise_0 rfl rfl rfl ?_
  refine aw_iconst (q := 2) dL_promise_1 rfl ?_
  refine aw_aload_n (q := 3) 0 dL_promise_2 rfl rfl rfl ?_
  refine aw_iload_n (q := 4) 1 dL_promise_3 rfl rfl rfl ?_
  refine aw_callXV (q := 7) (hh := [(0, 9, 12, 24)]) (As := [.int (iI a0)]) 102 1 hm (fun _ h => h) (by rw [show (102 : Nat) = (102 : Int).toNat from rfl, cw_get (by omega), cell_102]) rfl wc_X5_promise wm_RL_56 wi_X5_promise ws_X5_promise wn_X5 (by decide) rfl ⟨by show fr + 1 ≤ 7; omega, hlo⟩ ⟨by show 0 + mc1 ≤ 1; omega, by show 0 + ms1 ≤ 6; omega⟩ (Nat.le_of_ble_eq_true rfl) dL_promise_4 rfl (fun _ h => h) ?_ ?_
  · rintro v9 w9 ⟨r9, G9, rfl, rfl, h9⟩
    refine aw_i2lW (q := 8) dL_promise_7 rfl ?_
    refine aw_outPut (q := 9) rfl dL_promise_8 rfl ?_
    refine aw_goto (q := 15) dL_promise_9 (by decide) ?_
    refine aw_iconst (q := 16) dL_promise_15 rfl ?_
    exact rt_i rfl (by omega) (by omega) (Or.inl ⟨rfl, _, _, h9, rfl⟩) dL_promise_16
  · rintro E9 w9 ⟨G9, rfl, h9⟩
    have hE9 := hE _ _ h9
    simp only [List.mem_cons, List.mem_nil_iff, or_false] at hE9
    rcases hE9 with rfl
    · refine ⟨[], (0, 9, 12, 24), [], rfl, (fun z hz => by cases hz), rfl, by decide, by decide, wl_RL_24, by decide, fun q9 => ?_⟩
      refine aw_astore_n (q := 13) [0] dL_promise_12 rfl rfl (by decide) rfl rfl ?_
      refine aw_iconst (q := 14) dL_promise_13 rfl ?_
      exact rt_i rfl (by omega) (by omega) (Or.inr (⟨rfl, h9⟩)) dL_promise_14
set_option maxHeartbeats 4000000 in
set_option maxRecDepth 100000 in
theorem cL_h_change {l : Launch} {D : va_G} {C : Nat → ClassId} {T : Nat → Nat} {ad : Int → Nat} (G : GG) {a0 a1 : Int} {fr lo mc1 ms1 : Nat} {CQ : Int → GG → Prop} {CX : String → GG → Prop} (hm : MX l yX5_change cX5_change 3 (some .int) fr lo mc1 ms1 D (tyC C) T (.ref (ad 102) :: [.int (iI a0), .int (iI a1)]) (cw ad C G) (RI ad C CQ) (RX ad C CX)) (hE : ∀ E G1, CX E G1 → E ∈ ([xIA, xIB] : List String)) (hfr : fr ≤ 6) (hlo : 8 + (3 + 11) + lo ≤ 200) (hmc : mc1 ≤ 1) (hms : ms1 ≤ 6) : MH l yL_change cL_change 5 (some .int) [(0, 10, 13, 13), (0, 10, 17, 24)] 7 200 1 6 D (tyC C) T (.ref (ad 102) :: [.int (iI a0), .int (iI a1), .ref (ad 118)]) (cw ad C G) (RI ad C (fun r G1 => (r = 0 ∧ ∃ v G2, CQ v G2 ∧ G1 = setG G2 21 0 (wI v)) ∨ (r = 1 ∧ CX xIA G1) ∨ (r = 2 ∧ CX xIB G1))) := by
  refine mh_of (by decide +kernel) (Nat.le_of_ble_eq_true rfl) rfl ?_
  refine aw_aload_n (q := 1) 3 dL_change_0 rfl rfl rfl ?_
  refine aw_iconst (q := 2) dL_change_1 rfl ?_
  refine aw_aload_n (q := 3) 0 dL_change_2 rfl rfl rfl ?_
  refine aw_iload_n (q := 4) 1 dL_change_3 rfl rfl rfl ?_
  refine aw_iload_n (q := 5) 2 dL_change_4 rfl rfl rfl ?_
  refine aw_callXV (q := 8) (hh := [(0, 10, 13, 13), (0, 10, 17, 24)]) (As := [.int (iI a0), .int (iI a1)]) 102 2 hm (fun _ h => h) (by rw [show (102 : Nat) = (102 : Int).toNat from rfl, cw_get (by omega), cell_102]) rfl wc_X5_change wm_RL_59 wi_X5_change ws_X5_change wn_X5 (by decide) rfl ⟨by show fr + 1 ≤ 7; omega, hlo⟩ ⟨by show 0 + mc1 ≤ 1; omega, by show 0 + ms1 ≤ 6; omega⟩ (Nat.le_of_ble_eq_true rfl) dL_change_5 rfl (fun _ h => h) ?_ ?_
  · rintro v9 w9 ⟨r9, G9, rfl, rfl, h9⟩
    refine aw_i2lW (q := 9) dL_change_8 rfl ?_
    refine aw_outPut (q := 10) rfl dL_change_9 rfl ?_
    refine aw_goto (q := 21) dL_change_10 (by decide) ?_
    refine aw_iconst (q := 22) dL_change_21 rfl ?_
    exact rt_i rfl (by omega) (by omega) (Or.inl ⟨rfl, _, _, h9, rfl⟩) dL_change_22
  · rintro E9 w9 ⟨G9, rfl, h9⟩
    have hE9 := hE _ _ h9
    simp only [List.mem_cons, List.mem_nil_iff, or_false] at hE9
    rcases hE9 with rfl | rfl
    · refine ⟨[], (0, 10, 13, 13), [(0, 10, 17, 24)], rfl, (fun z hz => by cases hz), rfl, by decide, by decide, wl_RL_13, by decide, fun q9 => ?_⟩
      refine aw_astore (q := 15) [0] dL_change_13 rfl (by decide) rfl rfl ?_
      refine aw_iconst (q := 16) dL_change_15 rfl ?_
      exact rt_i rfl (by omega) (by omega) (Or.inr (Or.inl ⟨rfl, h9⟩)) dL_change_16
    · refine ⟨[(0, 10, 13, 13)], (0, 10, 17, 24), [], rfl, ?pre, rfl, by decide, by decide, wl_RL_24, by decide, fun q9 => ?_⟩
      case pre =>
        intro z hz
        simp only [List.mem_cons, List.mem_nil_iff, or_false] at hz
        rcases hz with rfl
        · exact ⟨by decide, wl_RL_13, by decide⟩
      refine aw_astore (q := 19) [0] dL_change_17 rfl (by decide) rfl rfl ?_
      refine aw_iconst (q := 20) dL_change_19 rfl ?_
      exact rt_i rfl (by omega) (by omega) (Or.inr (Or.inr (⟨rfl, h9⟩))) dL_change_20
set_option maxHeartbeats 4000000 in
set_option maxRecDepth 100000 in
theorem cL_h_mostPayable {l : Launch} {D : va_G} {C : Nat → ClassId} {T : Nat → Nat} {ad : Int → Nat} (G : GG) {a0 : Int} {fr lo mc1 ms1 : Nat} {CQ : Int → GG → Prop} {CX : String → GG → Prop} (hm : MX l yX5_mostPayable cX5_mostPayable 3 (some .int) fr lo mc1 ms1 D (tyC C) T (.ref (ad 102) :: [.int (iI a0)]) (cw ad C G) (RI ad C CQ) (RX ad C CX)) (hE : ∀ E G1, CX E G1 → E ∈ ([xIA] : List String)) (hfr : fr ≤ 6) (hlo : 8 + (3 + 11) + lo ≤ 200) (hmc : mc1 ≤ 1) (hms : ms1 ≤ 6) : MH l yL_mostPayable cL_mostPayable 4 (some .int) [(0, 9, 12, 13)] 7 200 1 6 D (tyC C) T (.ref (ad 102) :: [.int (iI a0), .ref (ad 118)]) (cw ad C G) (RI ad C (fun r G1 => (r = 0 ∧ ∃ v G2, CQ v G2 ∧ G1 = setG G2 21 0 (wI v)) ∨ (r = 1 ∧ CX xIA G1))) := by
  refine mh_of (by decide +kernel) (Nat.le_of_ble_eq_true rfl) rfl ?_
  refine aw_aload_n (q := 1) 2 dL_mostPayable_0 rfl rfl rfl ?_
  refine aw_iconst (q := 2) dL_mostPayable_1 rfl ?_
  refine aw_aload_n (q := 3) 0 dL_mostPayable_2 rfl rfl rfl ?_
  refine aw_iload_n (q := 4) 1 dL_mostPayable_3 rfl rfl rfl ?_
  refine aw_callXV (q := 7) (hh := [(0, 9, 12, 13)]) (As := [.int (iI a0)]) 102 1 hm (fun _ h => h) (by rw [show (102 : Nat) = (102 : Int).toNat from rfl, cw_get (by omega), cell_102]) rfl wc_X5_mostPayable wm_RL_62 wi_X5_mostPayable ws_X5_mostPayable wn_X5 (by decide) rfl ⟨by show fr + 1 ≤ 7; omega, hlo⟩ ⟨by show 0 + mc1 ≤ 1; omega, by show 0 + ms1 ≤ 6; omega⟩ (Nat.le_of_ble_eq_true rfl) dL_mostPayable_4 rfl (fun _ h => h) ?_ ?_
  · rintro v9 w9 ⟨r9, G9, rfl, rfl, h9⟩
    refine aw_i2lW (q := 8) dL_mostPayable_7 rfl ?_
    refine aw_outPut (q := 9) rfl dL_mostPayable_8 rfl ?_
    refine aw_goto (q := 15) dL_mostPayable_9 (by decide) ?_
    refine aw_iconst (q := 16) dL_mostPayable_15 rfl ?_
    exact rt_i rfl (by omega) (by omega) (Or.inl ⟨rfl, _, _, h9, rfl⟩) dL_mostPayable_16
  · rintro E9 w9 ⟨G9, rfl, h9⟩
    have hE9 := hE _ _ h9
    simp only [List.mem_cons, List.mem_nil_iff, or_false] at hE9
    rcases hE9 with rfl
    · refine ⟨[], (0, 9, 12, 13), [], rfl, (fun z hz => by cases hz), rfl, by decide, by decide, wl_RL_13, by decide, fun q9 => ?_⟩
      refine aw_astore_n (q := 13) [0] dL_mostPayable_12 rfl rfl (by decide) rfl rfl ?_
      refine aw_iconst (q := 14) dL_mostPayable_13 rfl ?_
      exact rt_i rfl (by omega) (by omega) (Or.inr (⟨rfl, h9⟩)) dL_mostPayable_14
set_option maxHeartbeats 4000000 in
set_option maxRecDepth 100000 in
theorem cL_h_coinFor {l : Launch} {D : va_G} {C : Nat → ClassId} {T : Nat → Nat} {ad : Int → Nat} (G : GG) {a0 : Int} {fr lo mc1 ms1 : Nat} {CQ : Int → GG → Prop} {CX : String → GG → Prop} (hm : MX l yX5_coinFor cX5_coinFor 3 (some .int) fr lo mc1 ms1 D (tyC C) T (.ref (ad 102) :: [.int (iI a0)]) (cw ad C G) (RI ad C CQ) (RX ad C CX)) (hE : ∀ E G1, CX E G1 → E ∈ ([xIA] : List String)) (hfr : fr ≤ 6) (hlo : 8 + (3 + 11) + lo ≤ 200) (hmc : mc1 ≤ 1) (hms : ms1 ≤ 6) : MH l yL_coinFor cL_coinFor 4 (some .int) [(0, 9, 12, 13)] 7 200 1 6 D (tyC C) T (.ref (ad 102) :: [.int (iI a0), .ref (ad 118)]) (cw ad C G) (RI ad C (fun r G1 => (r = 0 ∧ ∃ v G2, CQ v G2 ∧ G1 = setG G2 21 0 (wI v)) ∨ (r = 1 ∧ CX xIA G1))) := by
  refine mh_of (by decide +kernel) (Nat.le_of_ble_eq_true rfl) rfl ?_
  refine aw_aload_n (q := 1) 2 dL_coinFor_0 rfl rfl rfl ?_
  refine aw_iconst (q := 2) dL_coinFor_1 rfl ?_
  refine aw_aload_n (q := 3) 0 dL_coinFor_2 rfl rfl rfl ?_
  refine aw_iload_n (q := 4) 1 dL_coinFor_3 rfl rfl rfl ?_
  refine aw_callXV (q := 7) (hh := [(0, 9, 12, 13)]) (As := [.int (iI a0)]) 102 1 hm (fun _ h => h) (by rw [show (102 : Nat) = (102 : Int).toNat from rfl, cw_get (by omega), cell_102]) rfl wc_X5_coinFor wm_RL_65 wi_X5_coinFor ws_X5_coinFor wn_X5 (by decide) rfl ⟨by show fr + 1 ≤ 7; omega, hlo⟩ ⟨by show 0 + mc1 ≤ 1; omega, by show 0 + ms1 ≤ 6; omega⟩ (Nat.le_of_ble_eq_true rfl) dL_coinFor_4 rfl (fun _ h => h) ?_ ?_
  · rintro v9 w9 ⟨r9, G9, rfl, rfl, h9⟩
    refine aw_i2lW (q := 8) dL_coinFor_7 rfl ?_
    refine aw_outPut (q := 9) rfl dL_coinFor_8 rfl ?_
    refine aw_goto (q := 15) dL_coinFor_9 (by decide) ?_
    refine aw_iconst (q := 16) dL_coinFor_15 rfl ?_
    exact rt_i rfl (by omega) (by omega) (Or.inl ⟨rfl, _, _, h9, rfl⟩) dL_coinFor_16
  · rintro E9 w9 ⟨G9, rfl, h9⟩
    have hE9 := hE _ _ h9
    simp only [List.mem_cons, List.mem_nil_iff, or_false] at hE9
    rcases hE9 with rfl
    · refine ⟨[], (0, 9, 12, 13), [], rfl, (fun z hz => by cases hz), rfl, by decide, by decide, wl_RL_13, by decide, fun q9 => ?_⟩
      refine aw_astore_n (q := 13) [0] dL_coinFor_12 rfl rfl (by decide) rfl rfl ?_
      refine aw_iconst (q := 14) dL_coinFor_13 rfl ?_
      exact rt_i rfl (by omega) (by omega) (Or.inr (⟨rfl, h9⟩)) dL_coinFor_14
set_option maxHeartbeats 4000000 in
set_option maxRecDepth 100000 in
theorem cL_h_priceIn {l : Launch} {D : va_G} {C : Nat → ClassId} {T : Nat → Nat} {ad : Int → Nat} (G : GG) {a0 a1 : Int} {fr lo mc1 ms1 : Nat} {CQ : Int → GG → Prop} {CX : String → GG → Prop} (hm : MX l yX5_priceIn cX5_priceIn 3 (some .int) fr lo mc1 ms1 D (tyC C) T (.ref (ad 102) :: [.int (iI a0), .int (iI a1)]) (cw ad C G) (RI ad C CQ) (RX ad C CX)) (hE : ∀ E G1, CX E G1 → E ∈ ([xIB, xIA] : List String)) (hfr : fr ≤ 6) (hlo : 8 + (3 + 11) + lo ≤ 200) (hmc : mc1 ≤ 1) (hms : ms1 ≤ 6) : MH l yL_priceIn cL_priceIn 5 (some .int) [(0, 10, 13, 24), (0, 10, 17, 13)] 7 200 1 6 D (tyC C) T (.ref (ad 102) :: [.int (iI a0), .int (iI a1), .ref (ad 118)]) (cw ad C G) (RI ad C (fun r G1 => (r = 0 ∧ ∃ v G2, CQ v G2 ∧ G1 = setG G2 21 0 (wI v)) ∨ (r = 1 ∧ CX xIB G1) ∨ (r = 2 ∧ CX xIA G1))) := by
  refine mh_of (by decide +kernel) (Nat.le_of_ble_eq_true rfl) rfl ?_
  refine aw_aload_n (q := 1) 3 dL_priceIn_0 rfl rfl rfl ?_
  refine aw_iconst (q := 2) dL_priceIn_1 rfl ?_
  refine aw_aload_n (q := 3) 0 dL_priceIn_2 rfl rfl rfl ?_
  refine aw_iload_n (q := 4) 1 dL_priceIn_3 rfl rfl rfl ?_
  refine aw_iload_n (q := 5) 2 dL_priceIn_4 rfl rfl rfl ?_
  refine aw_callXV (q := 8) (hh := [(0, 10, 13, 24), (0, 10, 17, 13)]) (As := [.int (iI a0), .int (iI a1)]) 102 2 hm (fun _ h => h) (by rw [show (102 : Nat) = (102 : Int).toNat from rfl, cw_get (by omega), cell_102]) rfl wc_X5_priceIn wm_RL_68 wi_X5_priceIn ws_X5_priceIn wn_X5 (by decide) rfl ⟨by show fr + 1 ≤ 7; omega, hlo⟩ ⟨by show 0 + mc1 ≤ 1; omega, by show 0 + ms1 ≤ 6; omega⟩ (Nat.le_of_ble_eq_true rfl) dL_priceIn_5 rfl (fun _ h => h) ?_ ?_
  · rintro v9 w9 ⟨r9, G9, rfl, rfl, h9⟩
    refine aw_i2lW (q := 9) dL_priceIn_8 rfl ?_
    refine aw_outPut (q := 10) rfl dL_priceIn_9 rfl ?_
    refine aw_goto (q := 21) dL_priceIn_10 (by decide) ?_
    refine aw_iconst (q := 22) dL_priceIn_21 rfl ?_
    exact rt_i rfl (by omega) (by omega) (Or.inl ⟨rfl, _, _, h9, rfl⟩) dL_priceIn_22
  · rintro E9 w9 ⟨G9, rfl, h9⟩
    have hE9 := hE _ _ h9
    simp only [List.mem_cons, List.mem_nil_iff, or_false] at hE9
    rcases hE9 with rfl | rfl
    · refine ⟨[], (0, 10, 13, 24), [(0, 10, 17, 13)], rfl, (fun z hz => by cases hz), rfl, by decide, by decide, wl_RL_24, by decide, fun q9 => ?_⟩
      refine aw_astore (q := 15) [0] dL_priceIn_13 rfl (by decide) rfl rfl ?_
      refine aw_iconst (q := 16) dL_priceIn_15 rfl ?_
      exact rt_i rfl (by omega) (by omega) (Or.inr (Or.inl ⟨rfl, h9⟩)) dL_priceIn_16
    · refine ⟨[(0, 10, 13, 24)], (0, 10, 17, 13), [], rfl, ?pre, rfl, by decide, by decide, wl_RL_13, by decide, fun q9 => ?_⟩
      case pre =>
        intro z hz
        simp only [List.mem_cons, List.mem_nil_iff, or_false] at hz
        rcases hz with rfl
        · exact ⟨by decide, wl_RL_24, by decide⟩
      refine aw_astore (q := 19) [0] dL_priceIn_17 rfl (by decide) rfl rfl ?_
      refine aw_iconst (q := 20) dL_priceIn_19 rfl ?_
      exact rt_i rfl (by omega) (by omega) (Or.inr (Or.inr (⟨rfl, h9⟩))) dL_priceIn_20
set_option maxHeartbeats 4000000 in
set_option maxRecDepth 100000 in
theorem cL_h_salesInARow {l : Launch} {D : va_G} {C : Nat → ClassId} {T : Nat → Nat} {ad : Int → Nat} (G : GG) {a0 a1 a2 : Int} {fr lo mc1 ms1 : Nat} {CQ : Int → GG → Prop} {CX : String → GG → Prop} (hm : MX l yX5_salesInARow cX5_salesInARow 5 (some .int) fr lo mc1 ms1 D (tyC C) T (.ref (ad 102) :: [.int (iI a0), .int (iI a1), .int (iI a2)]) (cw ad C G) (RI ad C CQ) (RX ad C CX)) (hE : ∀ E G1, CX E G1 → E ∈ ([xIB, xIA] : List String)) (hfr : fr ≤ 6) (hlo : 8 + (5 + 11) + lo ≤ 200) (hmc : mc1 ≤ 1) (hms : ms1 ≤ 6) : MH l yL_salesInARow cL_salesInARow 6 (some .int) [(0, 12, 15, 24), (0, 12, 19, 13)] 7 200 1 6 D (tyC C) T (.ref (ad 102) :: [.int (iI a0), .int (iI a1), .int (iI a2), .ref (ad 118)]) (cw ad C G) (RI ad C (fun r G1 => (r = 0 ∧ ∃ v G2, CQ v G2 ∧ G1 = setG G2 21 0 (wI v)) ∨ (r = 1 ∧ CX xIB G1) ∨ (r = 2 ∧ CX xIA G1))) := by
  refine mh_of (by decide +kernel) (Nat.le_of_ble_eq_true rfl) rfl ?_
  refine aw_aload (q := 2) 4 dL_salesInARow_0 rfl rfl ?_
  refine aw_iconst (q := 3) dL_salesInARow_2 rfl ?_
  refine aw_aload_n (q := 4) 0 dL_salesInARow_3 rfl rfl rfl ?_
  refine aw_iload_n (q := 5) 1 dL_salesInARow_4 rfl rfl rfl ?_
  refine aw_iload_n (q := 6) 2 dL_salesInARow_5 rfl rfl rfl ?_
  refine aw_iload_n (q := 7) 3 dL_salesInARow_6 rfl rfl rfl ?_
  refine aw_callXV (q := 10) (hh := [(0, 12, 15, 24), (0, 12, 19, 13)]) (As := [.int (iI a0), .int (iI a1), .int (iI a2)]) 102 3 hm (fun _ h => h) (by rw [show (102 : Nat) = (102 : Int).toNat from rfl, cw_get (by omega), cell_102]) rfl wc_X5_salesInARow wm_RL_71 wi_X5_salesInARow ws_X5_salesInARow wn_X5 (by decide) rfl ⟨by show fr + 1 ≤ 7; omega, hlo⟩ ⟨by show 0 + mc1 ≤ 1; omega, by show 0 + ms1 ≤ 6; omega⟩ (Nat.le_of_ble_eq_true rfl) dL_salesInARow_7 rfl (fun _ h => h) ?_ ?_
  · rintro v9 w9 ⟨r9, G9, rfl, rfl, h9⟩
    refine aw_i2lW (q := 11) dL_salesInARow_10 rfl ?_
    refine aw_outPut (q := 12) rfl dL_salesInARow_11 rfl ?_
    refine aw_goto (q := 23) dL_salesInARow_12 (by decide) ?_
    refine aw_iconst (q := 24) dL_salesInARow_23 rfl ?_
    exact rt_i rfl (by omega) (by omega) (Or.inl ⟨rfl, _, _, h9, rfl⟩) dL_salesInARow_24
  · rintro E9 w9 ⟨G9, rfl, h9⟩
    have hE9 := hE _ _ h9
    simp only [List.mem_cons, List.mem_nil_iff, or_false] at hE9
    rcases hE9 with rfl | rfl
    · refine ⟨[], (0, 12, 15, 24), [(0, 12, 19, 13)], rfl, (fun z hz => by cases hz), rfl, by decide, by decide, wl_RL_24, by decide, fun q9 => ?_⟩
      refine aw_astore (q := 17) [0] dL_salesInARow_15 rfl (by decide) rfl rfl ?_
      refine aw_iconst (q := 18) dL_salesInARow_17 rfl ?_
      exact rt_i rfl (by omega) (by omega) (Or.inr (Or.inl ⟨rfl, h9⟩)) dL_salesInARow_18
    · refine ⟨[(0, 12, 15, 24)], (0, 12, 19, 13), [], rfl, ?pre, rfl, by decide, by decide, wl_RL_13, by decide, fun q9 => ?_⟩
      case pre =>
        intro z hz
        simp only [List.mem_cons, List.mem_nil_iff, or_false] at hz
        rcases hz with rfl
        · exact ⟨by decide, wl_RL_24, by decide⟩
      refine aw_astore (q := 21) [0] dL_salesInARow_19 rfl (by decide) rfl rfl ?_
      refine aw_iconst (q := 22) dL_salesInARow_21 rfl ?_
      exact rt_i rfl (by omega) (by omega) (Or.inr (Or.inr (⟨rfl, h9⟩))) dL_salesInARow_22
set_option maxHeartbeats 4000000 in
set_option maxRecDepth 100000 in
theorem cL_h_append {l : Launch} {D : va_G} {C : Nat → ClassId} {T : Nat → Nat} {ad : Int → Nat} (G : GG) {a0 : Int} {fr lo mc1 ms1 : Nat} {CQ : Int → GG → Prop} {CX : String → GG → Prop} (hm : MX l yX5_append cX5_append 2 (some .int) fr lo mc1 ms1 D (tyC C) T (.ref (ad 102) :: [.int (iI a0)]) (cw ad C G) (RI ad C CQ) (RX ad C CX)) (hE : ∀ E G1, CX E G1 → E ∈ ([xIA, xIS] : List String)) (hfr : fr ≤ 6) (hlo : 8 + (2 + 11) + lo ≤ 200) (hmc : mc1 ≤ 1) (hms : ms1 ≤ 6) : MH l yL_append cL_append 4 (some .int) [(0, 9, 12, 13), (0, 9, 15, 19)] 7 200 1 6 D (tyC C) T (.ref (ad 102) :: [.int (iI a0), .ref (ad 118)]) (cw ad C G) (RI ad C (fun r G1 => (r = 0 ∧ ∃ v G2, CQ v G2 ∧ G1 = setG G2 21 0 (wI v)) ∨ (r = 1 ∧ CX xIA G1) ∨ (r = 2 ∧ CX xIS G1))) := by
  refine mh_of (by decide +kernel) (Nat.le_of_ble_eq_true rfl) rfl ?_
  refine aw_aload_n (q := 1) 2 dL_append_0 rfl rfl rfl ?_
  refine aw_iconst (q := 2) dL_append_1 rfl ?_
  refine aw_aload_n (q := 3) 0 dL_append_2 rfl rfl rfl ?_
  refine aw_iload_n (q := 4) 1 dL_append_3 rfl rfl rfl ?_
  refine aw_callXV (q := 7) (hh := [(0, 9, 12, 13), (0, 9, 15, 19)]) (As := [.int (iI a0)]) 102 1 hm (fun _ h => h) (by rw [show (102 : Nat) = (102 : Int).toNat from rfl, cw_get (by omega), cell_102]) rfl wc_X5_append wm_RL_74 wi_X5_append ws_X5_append wn_X5 (by decide) rfl ⟨by show fr + 1 ≤ 7; omega, hlo⟩ ⟨by show 0 + mc1 ≤ 1; omega, by show 0 + ms1 ≤ 6; omega⟩ (Nat.le_of_ble_eq_true rfl) dL_append_4 rfl (fun _ h => h) ?_ ?_
  · rintro v9 w9 ⟨r9, G9, rfl, rfl, h9⟩
    refine aw_i2lW (q := 8) dL_append_7 rfl ?_
    refine aw_outPut (q := 9) rfl dL_append_8 rfl ?_
    refine aw_goto (q := 18) dL_append_9 (by decide) ?_
    refine aw_iconst (q := 19) dL_append_18 rfl ?_
    exact rt_i rfl (by omega) (by omega) (Or.inl ⟨rfl, _, _, h9, rfl⟩) dL_append_19
  · rintro E9 w9 ⟨G9, rfl, h9⟩
    have hE9 := hE _ _ h9
    simp only [List.mem_cons, List.mem_nil_iff, or_false] at hE9
    rcases hE9 with rfl | rfl
    · refine ⟨[], (0, 9, 12, 13), [(0, 9, 15, 19)], rfl, (fun z hz => by cases hz), rfl, by decide, by decide, wl_RL_13, by decide, fun q9 => ?_⟩
      refine aw_astore_n (q := 13) [0] dL_append_12 rfl rfl (by decide) rfl rfl ?_
      refine aw_iconst (q := 14) dL_append_13 rfl ?_
      exact rt_i rfl (by omega) (by omega) (Or.inr (Or.inl ⟨rfl, h9⟩)) dL_append_14
    · refine ⟨[(0, 9, 12, 13)], (0, 9, 15, 19), [], rfl, ?pre, rfl, by decide, by decide, wl_RL_19, by decide, fun q9 => ?_⟩
      case pre =>
        intro z hz
        simp only [List.mem_cons, List.mem_nil_iff, or_false] at hz
        rcases hz with rfl
        · exact ⟨by decide, wl_RL_13, by decide⟩
      refine aw_astore_n (q := 16) [0] dL_append_15 rfl rfl (by decide) rfl rfl ?_
      refine aw_iconst (q := 17) dL_append_16 rfl ?_
      exact rt_i rfl (by omega) (by omega) (Or.inr (Or.inr (⟨rfl, h9⟩))) dL_append_17
set_option maxHeartbeats 4000000 in
set_option maxRecDepth 100000 in
theorem cL_h_undo {l : Launch} {D : va_G} {C : Nat → ClassId} {T : Nat → Nat} {ad : Int → Nat} (G : GG) {zz : Int} {fr lo mc1 ms1 : Nat} {CQ : Int → GG → Prop} {CX : String → GG → Prop} (hm : MX l yX5_undo cX5_undo 1 (some .int) fr lo mc1 ms1 D (tyC C) T (.ref (ad 102) :: []) (cw ad C G) (RI ad C CQ) (RX ad C CX)) (hE : ∀ E G1, CX E G1 → E ∈ ([xIS] : List String)) (hfr : fr ≤ 6) (hlo : 8 + (1 + 11) + lo ≤ 200) (hmc : mc1 ≤ 1) (hms : ms1 ≤ 6) : MH l yL_undo cL_undo 3 (some .int) [(0, 8, 11, 19)] 7 200 1 6 D (tyC C) T (.ref (ad 102) :: [.ref (ad 118)]) (cw ad C G) (RI ad C (fun r G1 => (r = 0 ∧ ∃ v G2, CQ v G2 ∧ G1 = setG G2 21 0 (wI v)) ∨ (r = 1 ∧ CX xIS G1))) := by
  refine mh_of (by decide +kernel) (Nat.le_of_ble_eq_true rfl) rfl ?_
  refine aw_aload_n (q := 1) 1 dL_undo_0 rfl rfl rfl ?_
  refine aw_iconst (q := 2) dL_undo_1 rfl ?_
  refine aw_aload_n (q := 3) 0 dL_undo_2 rfl rfl rfl ?_
  refine aw_callXV (q := 6) (hh := [(0, 8, 11, 19)]) (As := []) 102 0 hm (fun _ h => h) (by rw [show (102 : Nat) = (102 : Int).toNat from rfl, cw_get (by omega), cell_102]) rfl wc_X5_undo wm_RL_77 wi_X5_undo ws_X5_undo wn_X5 (by decide) rfl ⟨by show fr + 1 ≤ 7; omega, hlo⟩ ⟨by show 0 + mc1 ≤ 1; omega, by show 0 + ms1 ≤ 6; omega⟩ (Nat.le_of_ble_eq_true rfl) dL_undo_3 rfl (fun _ h => h) ?_ ?_
  · rintro v9 w9 ⟨r9, G9, rfl, rfl, h9⟩
    refine aw_i2lW (q := 7) dL_undo_6 rfl ?_
    refine aw_outPut (q := 8) rfl dL_undo_7 rfl ?_
    refine aw_goto (q := 14) dL_undo_8 (by decide) ?_
    refine aw_iconst (q := 15) dL_undo_14 rfl ?_
    exact rt_i rfl (by omega) (by omega) (Or.inl ⟨rfl, _, _, h9, rfl⟩) dL_undo_15
  · rintro E9 w9 ⟨G9, rfl, h9⟩
    have hE9 := hE _ _ h9
    simp only [List.mem_cons, List.mem_nil_iff, or_false] at hE9
    rcases hE9 with rfl
    · refine ⟨[], (0, 8, 11, 19), [], rfl, (fun z hz => by cases hz), rfl, by decide, by decide, wl_RL_19, by decide, fun q9 => ?_⟩
      refine aw_astore_n (q := 12) [0] dL_undo_11 rfl rfl (by decide) rfl rfl ?_
      refine aw_iconst (q := 13) dL_undo_12 rfl ?_
      exact rt_i rfl (by omega) (by omega) (Or.inr (⟨rfl, h9⟩)) dL_undo_13
