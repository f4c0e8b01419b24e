/-! rows of the law's own body -/
def lawZ (b L : Nat) (xs : Nat → Int32) (T : Nat → Nat) (s : State) : Prop := hvZ T [] s ∧ va_X b L xs s s.heap ∧ b < s.heap.size
/-- what the law owes at its end -/
def lawE (b : Nat) (below : List Frame) (args : Array Value) (s : State) : State → Prop := fun t => args = #[Value.ref b] → lw_Z below args s t
section LAWR
variable {l : Launch} {own nm : String} {cc : ByteArray} {nL : Nat} {ret : Option FieldType} {X : Code → Prop} {R : Room} {E : List Frame → Array Value → State → State → Prop} {D : va_G} {ty : List (ClassId × FieldType)} {Z : State → Prop} {w0 ws : va_W} {pc q : Nat} {lv : List (Nat × Value)} {st : List Value} {k n b L : Nat} {xs : Nat → Int32}
theorem lw_apart {s : State} (h : b < s.heap.size) : ¬ va_A [] s.heap.size b := by
  rintro (⟨k, e, h1⟩ | h1)
  · cases h1
  · exact absurd h (Nat.not_lt.mpr h1)
theorem aw_sld {i : Int} (hi : 0 ≤ i ∧ i < L) (hL : L ≤ 3072) (hX : ∀ s, Z s → va_X b L xs s s.heap ∧ b < s.heap.size) (d : decode cc pc = .ok (.iaload, 1)) (hq : pc + 1 = q)
    (kk : AW l own nm cc nL ret X R E D ty Z [] q lv (.int (iI (xs i.toNat).toInt) :: st) ws k n) : AW l own nm cc nL ret X R E D ty Z [] pc lv (.int (iI i) :: .ref b :: st) ws k n := by
  subst hq
  intro p e s m args below meth c hC hK hZ H locs ls hP hD hS hl
  obtain ⟨hx, hb, hml, hown, hts, hr, hlk, hnm, hXc⟩ := id hC
  refine va_sld hx hb (hX s hZ).1 (hX s hZ).2 (lw_apart (hX s hZ).2) hS (iI_in ⟨hi.1, hi.2⟩ (by omega)) d ?_
  rw [iI_nat (by omega)]
  rw [← iI_of] at kk
  exact kk p e s m args below meth c hC hK hZ H locs ls hP hD hS hl
theorem aw_slen (hL : L ≤ 3072) (hX : ∀ s, Z s → va_X b L xs s s.heap ∧ b < s.heap.size) (d : decode cc pc = .ok (.arraylength, 1)) (hq : pc + 1 = q)
    (kk : AW l own nm cc nL ret X R E D ty Z [] q lv (.int (iI (L : Int)) :: st) ws k n) : AW l own nm cc nL ret X R E D ty Z [] pc lv (.ref b :: st) ws k n := by
  subst hq
  intro p e s m args below meth c hC hK hZ H locs ls hP hD hS hl
  obtain ⟨hx, hb, hml, hown, hts, hr, hlk, hnm, hXc⟩ := id hC
  refine va_slen hx hb (hX s hZ).1 (hX s hZ).2 (lw_apart (hX s hZ).2) hS d ?_
  rw [show Int32.ofNat L = iI (L : Int) from by
    apply Int32.toInt_inj.mp
    rw [iI_toInt (by omega), Int32.toInt_ofNat_of_lt (by omega)]]
  exact kk p e s m args below meth c hC hK hZ H locs ls hP hD hS hl
theorem aw_tswIn {dflt lo hi x off : Int} {offs : Array Int} {len t : Nat} (hr0 : -2147483648 ≤ x ∧ x ≤ 2147483647) (h : lo ≤ x ∧ x ≤ hi) (d : decode cc pc = .ok (.tableswitch dflt lo hi offs, len)) (ho : offs[(x - lo).toNat]? = some off) (ht : (pc : Int) + off = (t : Int))
    (kk : AW l own nm cc nL ret X R E D ty Z w0 t lv st ws k n) : AW l own nm cc nL ret X R E D ty Z w0 pc lv (.int (iI x) :: st) ws k n := by
  intro p e s m args below meth c hC hK hZ H locs ls hP hD hS hl
  obtain ⟨hx, hb, hml, hown, hts, hr, hlk, hnm, hXc⟩ := id hC
  exact lv_tableIn hx hb d (by rw [iI_toInt hr0]; omega) (by rw [iI_toInt hr0]; omega) (by rw [iI_toInt hr0]; exact ho) ht (kk p e s m args below meth c hC hK hZ H locs ls hP hD hS hl)
theorem aw_tswOut {dflt lo hi x : Int} {offs : Array Int} {len t : Nat} (hr0 : -2147483648 ≤ x ∧ x ≤ 2147483647) (h : x < lo ∨ hi < x) (d : decode cc pc = .ok (.tableswitch dflt lo hi offs, len)) (ht : (pc : Int) + dflt = (t : Int))
    (kk : AW l own nm cc nL ret X R E D ty Z w0 t lv st ws k n) : AW l own nm cc nL ret X R E D ty Z w0 pc lv (.int (iI x) :: st) ws k n := by
  intro p e s m args below meth c hC hK hZ H locs ls hP hD hS hl
  obtain ⟨hx, hb, hml, hown, hts, hr, hlk, hnm, hXc⟩ := id hC
  exact lv_tableOut hx hb d (by rw [iI_toInt hr0]; exact h) ht (kk p e s m args below meth c hC hK hZ H locs ls hP hD hS hl)
def mk31 (x : Int) : Int := (iI x &&& iI 31).toInt
theorem aw_and31 {x : Int} (d : decode cc pc = .ok (.iand, 1)) (hq : pc + 1 = q)
    (kk : AW l own nm cc nL ret X R E D ty Z w0 q lv (.int (iI (mk31 x)) :: st) ws k n) : AW l own nm cc nL ret X R E D ty Z w0 pc lv (.int (iI 31) :: .int (iI x) :: st) ws k n := by
  refine aw_iandR d hq ?_
  rw [iI_of (iI x &&& iI 31)]
  exact kk
theorem mk31_r (x : Int) : -2147483648 ≤ mk31 x ∧ mk31 x ≤ 2147483647 := iI_rng _
theorem gtInW {y : MethodName} {bytes : ByteArray} {maxL : Nat} {rt : Option FieldType} {hh : List (Nat × Nat × Nat × Nat)} (hw : Cond.codeWith y bytes maxL rt hh ∈ gt) : GoodIn gt (.codeWith y bytes maxL rt hh :: gt) := by
  intro w hw1
  have hg : w ∈ gt := by
    rcases List.mem_cons.mp hw1 with h | h
    · rw [h]; exact hw
    · exact h
  exact ⟨hg, good_of_word (List.mem_filter.mp hg).2⟩
theorem aw_callSW {T : Nat → Nat} {y : MethodName} {bytes : ByteArray} {maxL : Nat} {rt : Option FieldType} {hh : List (Nat × Nat × Nat × Nat)} {fr lo mc1 ms1 idx : Nat} {As : List Value} {Q1 : Option Value → va_W → Prop} (nA : Nat) (hm : MH l y bytes maxL rt hh fr lo mc1 ms1 D ty T As ws Q1) (hZT : ∀ s, Z s → hvZ T w0 s)
    (hw1 : Cond.codeWith y bytes maxL rt hh ∈ gt) (hw2 : Cond.methodLink own idx y ∈ gt) (hw3 : Cond.static y ∈ gt) (hw5 : Cond.initialized y.cls ∈ gt)
    (hd : y.cls ≠ "java/lang/invoke/MethodHandle" ∧ y.cls ≠ "java/lang/invoke/VarHandle" ∧ (parseMethodDescriptor y.desc).map (fun d => d.parameters.length) = some nA) (hn : As.length = nA) (hR : fr + 1 ≤ R.frames ∧ 8 + (maxL + 11) + lo ≤ R.locals) (hR2 : k + mc1 ≤ R.cells ∧ n + ms1 ≤ R.slots) (hst : (st.map fun v => v.category).sum ≤ 8)
    (d : decode cc pc = .ok (.invokestatic idx, 3)) (hq : pc + 3 = q)
    (kk : ∀ (v : Option Value) (ws1 : va_W), Q1 v ws1 → AW l own nm cc nL ret X R E D ty Z w0 q lv (v.toList ++ st) ws1 (k + mc1) (n + ms1)) : AW l own nm cc nL ret X R E D ty Z w0 pc lv (As.reverse ++ st) ws k n := by
  refine aw_back (mc1 := mc1) (ms1 := ms1) (st := st) (Q1 := Q1) (fun p e s m args below meth c hC hK hZ H locs ls hP hD hS hl => ⟨As.toArray, ?_⟩) hq kk
  obtain ⟨hx, hb, hml, hown, hts, hr, hlk, hnm, hX⟩ := id hC
  exact vx_runSW (As := As) (rest := st) (n := nA) (hh := hh) ⟨hx, hb, hml, hown, hts⟩ (hm H.size) ⟨⟨rfl, rfl, hR.1, hR.2, pay_in hts (gtInW hw1), List.mem_cons_self⟩, hts _ hw1, hts _ hw5, ⟨hd.1, hd.2.1⟩, fun sig h => by
      have h2 := hd.2.2
      rw [h] at h2
      exact (Option.some.inj h2).symm, hts _ hw2, hts _ hw3⟩
    ⟨hvB_blind, fun U hU hW => ⟨rfl, hvB.call (hZT s hZ) hP hK hD hS hU hW⟩⟩ rfl hn hl.1 rfl (by show 2 * 0 + _ ≤ 8; omega) d hR2
end LAWR
/-- the law's end -/
theorem aw_lawret {l : Launch} {D : va_G} {ty : List (ClassId × FieldType)} {Z : State → Prop} {X : Code → Prop} {pc b k n : Nat} {lv : List (Nat × Value)} {ws : va_W} {nm : String} (hk : k ≤ 601024) (hn : n ≤ 7293034) (d : decode code pc = .ok (.ireturn, 1)) : AW l RL nm code 8 ret X room_1 (lawE b) D ty Z [] pc lv [.int (iI 1)] ws k n := by
  intro p e s m args below meth c hC hK hZ H locs ls hP hD hS hl T hT X9
  obtain ⟨hx, hb, hml, hown, hts, hr, hlk, hnm, hXc⟩ := id hC
  by_cases ha : args = #[Value.ref b]
  · subst ha
    have hf : ∀ q ∈ locs, s.heap.size ≤ q.base := fun q hq => by
      rcases hS.2.2 q hq with ⟨k9, e9, h9⟩ | h9
      · cases h9
      · exact h9
    have w0 : W p l e room_1 s m #[Value.ref b] below meth c H [] 601024 7293034 (lw_Z below #[Value.ref b] s) (F0 m pc ls [.int 1]) := W.base (lw_ret (Drawn.sameBut.refl s.drawn lw_cs) hx hb hr hlk d)
    have w1 : W p l e room_1 s m #[Value.ref b] below meth c H locs k n (lw_Z below #[Value.ref b] s) (F0 m pc ls [.int 1]) := W.widen hk hn (va_forget hf w0)
    obtain ⟨t, a1, b1⟩ := w1 T hT X9
    exact ⟨t, a1, fun _ => b1⟩
  · exact ⟨_, Steps.refl _, fun h => absurd h ha⟩
