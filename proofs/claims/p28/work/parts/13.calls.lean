section RWC
variable {l : Launch} {own nm : String} {cc : ByteArray} {nL : Nat} {ret : Option FieldType} {X : Code → Prop} {R : Room} {E : List Frame → Array Value → State → State → Prop} {D : va_G} {ty : List (ClassId × FieldType)} {Z : State → Prop} {w0 : va_W} {pc q : Nat} {lv : List (Nat × Value)} {st : List Value} {ws : va_W} {k n : Nat}
variable {Q : Option Value → va_W → Prop} {mc ms : Nat}
theorem aw_iret {t : FieldType} {x : Int32} (hr9 : ret = some t) (hn9 : narrow t (.int x) = .int x) (hk : k ≤ mc) (hn : n ≤ ms) (hQ : Q (some (.int x)) ws) (d : decode cc pc = .ok (.ireturn, 1)) : AW l own nm cc nL ret X R (hvE D Q w0 mc ms) D ty Z w0 pc lv [.int x] ws k n := by
  intro p e s m args below meth c hC hK hZ H locs ls hP hD hS hl
  obtain ⟨hx, hb, hml, hown, hts, hr, hlk, hnm, hX⟩ := id hC
  refine W.widen hk hn ?_
  exact W.zret hx hb (hr.trans hr9) hn9 (fun t ht hW => ⟨⟨_, ws, rfl, hQ, by rw [ht]; exact hP, hD⟩, hS.F ht⟩) hS.2.2 d hlk
theorem aw_lret {x : Int64} (hr9 : ret = some .long) (hk : k ≤ mc) (hn : n ≤ ms) (hQ : Q (some (.long x)) ws) (d : decode cc pc = .ok (.lreturn, 1)) : AW l own nm cc nL ret X R (hvE D Q w0 mc ms) D ty Z w0 pc lv [.long x] ws k n := by
  intro p e s m args below meth c hC hK hZ H locs ls hP hD hS hl
  obtain ⟨hx, hb, hml, hown, hts, hr, hlk, hnm, hX⟩ := id hC
  refine W.widen hk hn ?_
  exact W.lret hx hb (hr.trans hr9) (fun t ht hW => ⟨⟨_, ws, rfl, hQ, by rw [ht]; exact hP, hD⟩, hS.F ht⟩) hS.2.2 d hlk
theorem aw_fret {x : UInt32} (hr9 : ret = some .float) (hk : k ≤ mc) (hn : n ≤ ms) (hQ : Q (some (.float x)) ws) (d : decode cc pc = .ok (.freturn, 1)) : AW l own nm cc nL ret X R (hvE D Q w0 mc ms) D ty Z w0 pc lv [.float x] ws k n := by
  intro p e s m args below meth c hC hK hZ H locs ls hP hD hS hl
  obtain ⟨hx, hb, hml, hown, hts, hr, hlk, hnm, hX⟩ := id hC
  refine W.widen hk hn ?_
  exact W.fret hx hb (hr.trans hr9) (fun t ht hW => ⟨⟨_, ws, rfl, hQ, by rw [ht]; exact hP, hD⟩, hS.F ht⟩) hS.2.2 d hlk
theorem aw_vret (hr9 : ret = none) (hk : k ≤ mc) (hn : n ≤ ms) (hQ : Q none ws) (d : decode cc pc = .ok (.return_, 1)) : AW l own nm cc nL ret X R (hvE D Q w0 mc ms) D ty Z w0 pc lv [] ws k n := by
  intro p e s m args below meth c hC hK hZ H locs ls hP hD hS hl
  obtain ⟨hx, hb, hml, hown, hts, hr, hlk, hnm, hX⟩ := id hC
  refine W.widen hk hn ?_
  exact W.vret hx hb (hr.trans hr9) (fun t ht hW => ⟨⟨_, ws, rfl, hQ, by rw [ht]; exact hP, hD⟩, hS.F ht⟩) hS.2.2 d hlk
variable {T : Nat → Nat} {y : MethodName} {bytes : ByteArray} {maxL : Nat} {rt : Option FieldType} {fr lo mc1 ms1 idx : Nat} {As : List Value} {b : Nat} {Q1 : Option Value → va_W → Prop}
theorem hvZ.call {T : Nat → Nat} {w0 ws : va_W} {s U : State} {H : Heap} {locs : List Loc} (h : hvZ T w0 s) (hD : va_D (va_A w0 s.heap.size) ws) (hS : va_S (va_A w0 s.heap.size) s.heap H locs) (hU : U.heap = H) (hW : s.WarmedH U.vm) : hvZ T ws U := by
  obtain ⟨h5, h6, h7, h8, h9⟩ := h
  have hv := hW.alike
  refine ⟨?_, fun q hq => vk_R.warm hW (h6 q hq), va_AO.moved hv h7, va_AO.moved hv h8, h9.warm hW⟩
  rw [hU]
  refine h5.to hv (fun a h1 h2 => hS.2.1 a h1 h2) (fun a ha => ?_)
  rcases ha with ⟨k, e, ha⟩ | ha
  · exact hD.2 k _ ha
  · exact Or.inr (Nat.le_trans hS.1 ha)
theorem hvB.call {T : Nat → Nat} {w0 ws : va_W} {s U : State} {H : Heap} {locs : List Loc} (h : hvZ T w0 s) (hP : va_P D vwCl ws H) (hK : va_K D vwCl ty s) (hD : va_D (va_A w0 s.heap.size) ws) (hS : va_S (va_A w0 s.heap.size) s.heap H locs) (hU : U.heap = H) (hW : s.WarmedH U.vm) : hvB D ty T ws H.size U :=
  ⟨by rw [hU], by rw [hU]; exact hP, va_K.moved hW.alike hK, hD.weaken (fun _ _ _ _ => trivial), h.call hD hS hU hW⟩
theorem hvF {w0 ws : va_W} {s : State} {H : Heap} {locs : List Loc} (hD : va_D (va_A w0 s.heap.size) ws) (hS : va_S (va_A w0 s.heap.size) s.heap H locs) : ∀ q, va_A ws H.size q → va_A w0 s.heap.size q := by
  rintro q (⟨k, e, ha⟩ | ha)
  · exact hD.2 k _ ha
  · exact Or.inr (Nat.le_trans hS.1 ha)
/-- behind a call -/
theorem aw_back {g : List Value} (hr : ∀ (p : Program) (e : Env) (s : State) (m : MethodId) (args : Array Value) (below : List Frame) (meth : Method) (c : Code), hC p own nm cc nL ret X s m args meth c → va_K D vwCl ty s → Z s →
  ∀ (H : Heap) (locs : List Loc) (ls : Array Slot), va_P D vwCl ws H → va_D (va_A w0 s.heap.size) ws → va_S (va_A w0 s.heap.size) s.heap H locs → lv_has ls nL lv → ∃ a : Array Value, va_Run p l e R s m args below meth c H locs k n mc1 ms1 (F0 m pc ls g) st (hvQ D Q1 ws H.size a) (va_A ws H.size))
    (hq : pc + 3 = q) (kk : ∀ (v : Option Value) (ws1 : va_W), Q1 v ws1 → AW l own nm cc nL ret X R E D ty Z w0 q lv (v.toList ++ st) ws1 (k + mc1) (n + ms1)) : AW l own nm cc nL ret X R E D ty Z w0 pc lv g ws k n := by
  subst hq
  intro p e s m args below meth c hC hK hZ H locs ls hP hD hS hl
  obtain ⟨a, hr⟩ := hr p e s m args below meth c hC hK hZ H locs ls hP hD hS hl
  intro T hT X
  obtain ⟨v, st₀, t, T', L, h0, X', hL, e1, e2, ⟨⟨v1, ws1, hv, hq1, hP1, hD1⟩, hz, hk⟩, st⟩ := hr T hT X
  cases hv
  rw [h0] at hz hk
  have hF := hvF hD hS
  obtain ⟨t2, a1, b1⟩ := kk v ws1 hq1 p e s m args below meth c hC hK hZ T'.heap (locs ++ L) ls (by rw [e1]; exact hP1) (hD1.weaken (fun _ _ _ h => hF _ h))
    ⟨Nat.le_trans hS.1 (by rw [e1]; exact hz), fun q h1 h2 => by rw [e1, hk q (Nat.lt_of_lt_of_le h1 hS.1) (fun z => h2 (hF q z))]; exact hS.2.1 q h1 h2, fun q hq => by
      rcases List.mem_append.mp hq with h | h
      · exact hS.2.2 q h
      · exact hF _ (hL q h)⟩ hl T' rfl X'
  exact ⟨t2, st t2 a1, b1⟩
theorem gtIn {y : MethodName} (hw : Cond.code y bytes maxL rt ∈ gt) : GoodIn gt (.code y bytes maxL rt :: gt) := by
  intro w hw1
  have hg : w ∈ gt := by
    rcases List.mem_cons.mp hw1 with h | h
    · rw [h]; exact hw
    · exact h
  exact ⟨hg, good_of_word (List.mem_filter.mp hg).2⟩
theorem aw_callV {C : String} {TT : u_T} {N ci : Nat} {fs : List Value} (q0 nA : Nat) (hm : MC l y bytes maxL rt fr lo mc1 ms1 D ty T (.ref b :: As) ws Q1) (hZT : ∀ s, Z s → hvZ T w0 s) (he : ws[q0]? = some (b, .inr (ci, fs))) (hc : vwCl[ci]? = some (y.cls, TT, N))
    (hw1 : Cond.code y bytes maxL rt ∈ gt) (hw2 : Cond.methodLink own idx y ∈ gt) (hw3 : Cond.instanceMethod y ∈ gt) (hw4 : Cond.selects y.cls y y ∈ gt) (hw5 : Cond.initialized y.cls ∈ gt)
    (hd : y.cls ≠ "java/lang/invoke/MethodHandle" ∧ y.cls ≠ "java/lang/invoke/VarHandle" ∧ (parseMethodDescriptor y.desc).map (fun d => d.parameters.length) = some nA) (hn : As.length = nA) (hR : fr + 1 ≤ R.frames ∧ 8 + (maxL + 11) + lo ≤ R.locals) (hR2 : k + mc1 ≤ R.cells ∧ n + ms1 ≤ R.slots) (hst : (st.map fun v => v.category).sum ≤ 8)
    (d : decode cc pc = .ok (.invokevirtual idx, 3)) (hq : pc + 3 = q)
    (kk : ∀ (v : Option Value) (ws1 : va_W), Q1 v ws1 → AW l own nm cc nL ret X R E D ty Z w0 q lv (v.toList ++ st) ws1 (k + mc1) (n + ms1)) : AW l own nm cc nL ret X R E D ty Z w0 pc lv (As.reverse ++ .ref b :: st) ws k n := by
  refine aw_back (mc1 := mc1) (ms1 := ms1) (st := st) (Q1 := Q1) (fun p e s m args below meth c hC hK hZ H locs ls hP hD hS hl => ⟨(.ref b :: As).toArray, ?_⟩) hq kk
  obtain ⟨hx, hb, hml, hown, hts, hr, hlk, hnm, hX⟩ := id hC
  exact va_runV (As := As) (rest := st) (C := y.cls) (n := nA) ⟨hx, hb, hml, hown, hts⟩ (hm H.size) ⟨callB_of nA hts (gtIn hw1) rfl rfl rfl (hts _ hw5) (hts _ hw2) hd hR, hts _ hw3, hts _ hw4⟩
    ⟨hvB_blind, va_recv hK hP hc he, fun U hU hW => ⟨rfl, hvB.call (hZT s hZ) hP hK hD hS hU hW⟩⟩ rfl hn hl.1 rfl (by show 2 * 0 + _ ≤ 8; omega) d hR2
theorem aw_callS (nA : Nat) (hm : MC l y bytes maxL rt fr lo mc1 ms1 D ty T As ws Q1) (hZT : ∀ s, Z s → hvZ T w0 s)
    (hw1 : Cond.code y bytes maxL rt ∈ gt) (hw2 : Cond.methodLink own idx y ∈ gt) (hw3 : Cond.static y ∈ gt) (hw5 : Cond.initialized y.cls ∈ gt)
    (hd : y.cls ≠ "java/lang/invoke/MethodHandle" ∧ y.cls ≠ "java/lang/invoke/VarHandle" ∧ (parseMethodDescriptor y.desc).map (fun d => d.parameters.length) = some nA) (hn : As.length = nA) (hR : fr + 1 ≤ R.frames ∧ 8 + (maxL + 11) + lo ≤ R.locals) (hR2 : k + mc1 ≤ R.cells ∧ n + ms1 ≤ R.slots) (hst : (st.map fun v => v.category).sum ≤ 8)
    (d : decode cc pc = .ok (.invokestatic idx, 3)) (hq : pc + 3 = q)
    (kk : ∀ (v : Option Value) (ws1 : va_W), Q1 v ws1 → AW l own nm cc nL ret X R E D ty Z w0 q lv (v.toList ++ st) ws1 (k + mc1) (n + ms1)) : AW l own nm cc nL ret X R E D ty Z w0 pc lv (As.reverse ++ st) ws k n := by
  refine aw_back (mc1 := mc1) (ms1 := ms1) (st := st) (Q1 := Q1) (fun p e s m args below meth c hC hK hZ H locs ls hP hD hS hl => ⟨As.toArray, ?_⟩) hq kk
  obtain ⟨hx, hb, hml, hown, hts, hr, hlk, hnm, hX⟩ := id hC
  exact va_runS (As := As) (rest := st) (n := nA) ⟨hx, hb, hml, hown, hts⟩ (hm H.size) ⟨callB_of nA hts (gtIn hw1) rfl rfl rfl (hts _ hw5) (hts _ hw2) hd hR, hts _ hw3⟩
    ⟨hvB_blind, fun U hU hW => ⟨rfl, hvB.call (hZT s hZ) hP hK hD hS hU hW⟩⟩ rfl hn hl.1 rfl (by show 2 * 0 + _ ≤ 8; omega) d hR2
theorem aw_callI (nA : Nat) (hm : MC l y bytes maxL none fr lo mc1 ms1 D ty T (.ref b :: As) ws Q1) (hZT : ∀ s, Z s → hvZ T w0 s)
    (hw1 : Cond.code y bytes maxL none ∈ gt) (hw2 : Cond.methodLink own idx y ∈ gt) (hw3 : Cond.instanceMethod y ∈ gt) (hy : y.name = "<init>") (hw5 : Cond.initialized y.cls ∈ gt)
    (hd : y.cls ≠ "java/lang/invoke/MethodHandle" ∧ y.cls ≠ "java/lang/invoke/VarHandle" ∧ (parseMethodDescriptor y.desc).map (fun d => d.parameters.length) = some nA) (hn : As.length = nA) (hR : fr + 1 ≤ R.frames ∧ 8 + (maxL + 11) + lo ≤ R.locals) (hR2 : k + mc1 ≤ R.cells ∧ n + ms1 ≤ R.slots) (hst : (st.map fun v => v.category).sum ≤ 8)
    (d : decode cc pc = .ok (.invokespecial idx, 3)) (hq : pc + 3 = q)
    (kk : ∀ (v : Option Value) (ws1 : va_W), Q1 v ws1 → AW l own nm cc nL ret X R E D ty Z w0 q lv (v.toList ++ st) ws1 (k + mc1) (n + ms1)) : AW l own nm cc nL ret X R E D ty Z w0 pc lv (As.reverse ++ .ref b :: st) ws k n := by
  refine aw_back (mc1 := mc1) (ms1 := ms1) (st := st) (Q1 := Q1) (fun p e s m args below meth c hC hK hZ H locs ls hP hD hS hl => ⟨(.ref b :: As).toArray, ?_⟩) hq kk
  obtain ⟨hx, hb, hml, hown, hts, hr, hlk, hnm, hX⟩ := id hC
  exact va_runI (As := As) (rest := st) (n := nA) ⟨hx, hb, hml, hown, hts⟩ (hm H.size) ⟨callB_of nA hts (gtIn hw1) rfl rfl rfl (hts _ hw5) (hts _ hw2) hd hR, hy, hts _ hw3⟩
    ⟨hvB_blind, fun U hU hW => ⟨rfl, hvB.call (hZT s hZ) hP hK hD hS hU hW⟩⟩ rfl hn hl.1 rfl (by show 2 * 0 + _ ≤ 8; omega) d hR2
theorem aw_callIN (nA : Nat) (host : String) (hm : MC l y bytes maxL none fr lo mc1 ms1 D ty T (.ref b :: As) ws Q1) (hZT : ∀ s, Z s → hvZ T w0 s)
    (hw1 : Cond.code y bytes maxL none ∈ gt) (hw2 : (own, idx, y, host) ∈ nestM) (hw3 : Cond.instanceMethod y ∈ gt) (hy : y.name = "<init>") (hw5 : Cond.initialized y.cls ∈ gt)
    (hd : y.cls ≠ "java/lang/invoke/MethodHandle" ∧ y.cls ≠ "java/lang/invoke/VarHandle" ∧ (parseMethodDescriptor y.desc).map (fun d => d.parameters.length) = some nA) (hn : As.length = nA) (hR : fr + 1 ≤ R.frames ∧ 8 + (maxL + 11) + lo ≤ R.locals) (hR2 : k + mc1 ≤ R.cells ∧ n + ms1 ≤ R.slots) (hst : (st.map fun v => v.category).sum ≤ 8)
    (d : decode cc pc = .ok (.invokespecial idx, 3)) (hq : pc + 3 = q)
    (kk : ∀ (v : Option Value) (ws1 : va_W), Q1 v ws1 → AW l own nm cc nL ret X R E D ty Z w0 q lv (v.toList ++ st) ws1 (k + mc1) (n + ms1)) : AW l own nm cc nL ret X R E D ty Z w0 pc lv (As.reverse ++ .ref b :: st) ws k n := by
  refine aw_back (mc1 := mc1) (ms1 := ms1) (st := st) (Q1 := Q1) (fun p e s m args below meth c hC hK hZ H locs ls hP hD hS hl => ⟨(.ref b :: As).toArray, ?_⟩) hq kk
  obtain ⟨hx, hb, hml, hown, hts, hr, hlk, hnm, hX⟩ := id hC
  exact va_runIN (As := As) (rest := st) (n := nA) (host := host) ⟨hx, hb, hml, hown, hts⟩ (hm H.size) ⟨va_cnB nA hts (gtIn hw1) rfl rfl rfl ((hZT s hZ).2.2.2.2.1 _ hw2) (hts _ hw5) hd hR, hy, hts _ hw3⟩
    ⟨hvB_blind, fun U hU hW => ⟨rfl, hvB.call (hZT s hZ) hP hK hD hS hU hW⟩⟩ rfl hn hl.1 rfl (by show 2 * 0 + _ ≤ 8; omega) d hR2
theorem aw_callSN (nA : Nat) (host : String) (hm : MC l y bytes maxL rt fr lo mc1 ms1 D ty T As ws Q1) (hZT : ∀ s, Z s → hvZ T w0 s)
    (hw1 : Cond.code y bytes maxL rt ∈ gt) (hw2 : (own, idx, y, host) ∈ nestM) (hw3 : Cond.static y ∈ gt) (hw5 : Cond.initialized y.cls ∈ gt)
    (hd : y.cls ≠ "java/lang/invoke/MethodHandle" ∧ y.cls ≠ "java/lang/invoke/VarHandle" ∧ (parseMethodDescriptor y.desc).map (fun d => d.parameters.length) = some nA) (hn : As.length = nA) (hR : fr + 1 ≤ R.frames ∧ 8 + (maxL + 11) + lo ≤ R.locals) (hR2 : k + mc1 ≤ R.cells ∧ n + ms1 ≤ R.slots) (hst : (st.map fun v => v.category).sum ≤ 8)
    (d : decode cc pc = .ok (.invokestatic idx, 3)) (hq : pc + 3 = q)
    (kk : ∀ (v : Option Value) (ws1 : va_W), Q1 v ws1 → AW l own nm cc nL ret X R E D ty Z w0 q lv (v.toList ++ st) ws1 (k + mc1) (n + ms1)) : AW l own nm cc nL ret X R E D ty Z w0 pc lv (As.reverse ++ st) ws k n := by
  refine aw_back (mc1 := mc1) (ms1 := ms1) (st := st) (Q1 := Q1) (fun p e s m args below meth c hC hK hZ H locs ls hP hD hS hl => ⟨As.toArray, ?_⟩) hq kk
  obtain ⟨hx, hb, hml, hown, hts, hr, hlk, hnm, hX⟩ := id hC
  exact va_runSN (As := As) (rest := st) (n := nA) (host := host) ⟨hx, hb, hml, hown, hts⟩ (hm H.size) ⟨va_cnB nA hts (gtIn hw1) rfl rfl rfl ((hZT s hZ).2.2.2.2.1 _ hw2) (hts _ hw5) hd hR, hts _ hw3, trivial⟩
    ⟨hvB_blind, fun U hU hW => ⟨rfl, hvB.call (hZT s hZ) hP hK hD hS hU hW⟩⟩ rfl hn hl.1 rfl (by show 2 * 0 + _ ≤ 8; omega) d hR2
theorem aw_getsN (t : Nat) (ht : t < 5) (hZT : ∀ s, Z s → hvZ T w0 s) (hw : (own, idx, t) ∈ nestF) (d : decode cc pc = .ok (.getstatic idx, 3)) (hq : pc + 3 = q)
    (kk : AW l own nm cc nL ret X R E D ty Z w0 q lv (.ref (T t) :: st) ws k n) : AW l own nm cc nL ret X R E D ty Z w0 pc lv st ws k n := by
  subst hq
  intro p e s m args below meth c hC hK hZ H locs ls hP hD hS hl
  obtain ⟨hx, hb, hml, hown, hts, hr, hlk, hnm, hX⟩ := id hC
  exact va_getsN (host := RX5) hx hb ((hZT s hZ).1.1 t ht).1 hS hown (va_Nw.use rfl ((hZT s hZ).2.2.2.2.2.1 _ hw)) (fun _ h => h) d (kk p e s m args below meth c hC hK hZ H locs ls hP hD hS hl)
end RWC
