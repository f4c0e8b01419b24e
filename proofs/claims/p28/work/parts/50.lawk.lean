/-! what the law's own walk wants -/
theorem va_P_l {D : va_G} {cl : List vw_C} {a b : va_W} {H : Heap} (h : va_P D cl (a ++ b) H) : va_P D cl a H := fun k q hk => h k q (by rw [List.getElem?_append_left (List.getElem?_eq_some_iff.mp hk).1]; exact hk)
theorem va_P_r {D : va_G} {cl : List vw_C} {a b : va_W} {H : Heap} (h : va_P D cl (a ++ b) H) : va_P D cl b H := fun k q hk => h (a.length + k) q (by rw [List.getElem?_append_right (Nat.le_add_right _ _), Nat.add_sub_cancel_left]; exact hk)
theorem va_P_app {D : va_G} {cl : List vw_C} {a b : va_W} {H : Heap} (h1 : va_P D cl a H) (h2 : va_P D cl b H) : va_P D cl (a ++ b) H := fun k q hk => by
  rcases Nat.lt_or_ge k a.length with z | z
  · exact h1 k q (by rw [List.getElem?_append_left z] at hk; exact hk)
  · exact h2 (k - a.length) q (by rw [List.getElem?_append_right z] at hk; exact hk)
theorem va_at_l {a b : va_W} {k : Nat} {q : Nat × va_E} (hk : a[k]? = some q) : (a ++ b)[k]? = some q := by rw [List.getElem?_append_left (List.getElem?_eq_some_iff.mp hk).1]; exact hk
theorem va_at_r {a b : va_W} {k : Nat} {q : Nat × va_E} (hk : b[k]? = some q) : (a ++ b)[a.length + k]? = some q := by rw [List.getElem?_append_right (Nat.le_add_right _ _), Nat.add_sub_cancel_left]; exact hk
theorem va_D_l {A : Nat → Prop} {a b : va_W} (h : va_D A (a ++ b)) : va_D A a := ⟨fun i j p q hi hj he => h.1 i j p q (va_at_l hi) (va_at_l hj) he, fun k q hk => h.2 k q (va_at_l hk)⟩
theorem va_D_r {A : Nat → Prop} {a b : va_W} (h : va_D A (a ++ b)) : va_D A b := ⟨fun i j p q hi hj he => by
  have := h.1 _ _ p q (va_at_r hi) (va_at_r hj) he
  omega, fun k q hk => h.2 _ q (va_at_r hk)⟩
theorem va_D_x {A : Nat → Prop} {a b : va_W} (h : va_D A (a ++ b)) {i j : Nat} {p q : Nat × va_E} (hi : a[i]? = some p) (hj : b[j]? = some q) : p.1 ≠ q.1 := fun he => by
  have h1 := h.1 _ _ p q (va_at_l hi) (va_at_r hj) he
  have h2 := (List.getElem?_eq_some_iff.mp hi).1
  omega
theorem va_A_l {a b : va_W} {sz : Nat} : ∀ q, va_A a sz q → va_A (a ++ b) sz q := by
  rintro q (⟨k, e, h⟩ | h)
  · exact Or.inl ⟨k, e, va_at_l h⟩
  · exact Or.inr h
theorem hvB_l {D : va_G} {ty : List (ClassId × FieldType)} {T : Nat → Nat} {a b : va_W} {sz : Nat} {U : State} (h : hvB D ty T (a ++ b) sz U) : hvB D ty T a sz U := by
  obtain ⟨h1, h2, h3, h4, h5, h6, h7, h8, h9⟩ := h
  exact ⟨h1, va_P_l h2, h3, va_D_l h4, h5.to (Vm.Alike.refl U.vm) (fun _ _ _ => rfl) va_A_l, h6, h7, h8, h9⟩
theorem hvQ_l {D : va_G} {ty : List (ClassId × FieldType)} {T : Nat → Nat} {a r : va_W} {sz : Nat} {U t : State} {Q : Option Value → va_W → Prop} {as : Array Value} {oc : Outcome} (hB : hvB D ty T (a ++ r) sz U) (h : hvQ D Q a sz as U oc t) : hvQ D (fun v w => ∃ w', w = w' ++ r ∧ Q v w') (a ++ r) sz as U oc t := by
  obtain ⟨⟨v, w, e1, e2, e3, e4⟩, f1, f2⟩ := h
  obtain ⟨h1, h2, h3, h4, h5⟩ := hB
  have hr : ∀ (k : Nat) (q : Nat × va_E), r[k]? = some q → q.1 < sz ∧ ¬ va_A a sz q.1 := fun k q hk => by
    have hl : q.1 < sz := by
      have := vx_lt (va_P_r h2) hk
      rw [h1] at this
      exact this
    refine ⟨hl, ?_⟩
    rintro (⟨j, e, hj⟩ | hj)
    · exact va_D_x h4 hj hk rfl
    · exact Nat.lt_irrefl _ (Nat.lt_of_lt_of_le hl hj)
  refine ⟨⟨v, w ++ r, e1, ⟨w, rfl, e2⟩, va_P_app e3 ((va_P_r h2).kept (fun k q hk => f2 q.1 (by rw [h1]; exact (hr k q hk).1) (hr k q hk).2)), ?_⟩, f1, fun q hq hn => f2 q hq (fun z => hn (va_A_l q z))⟩
  refine va_D.app (e4.weaken (fun k q _ z => va_A_l _ z)) ⟨(va_D_r h4).1, fun k q hk => Or.inl ⟨a.length + k, q.2, va_at_r hk⟩⟩ (fun i j p q hi hj he => ?_)
  have := e4.2 i p hi
  rw [he] at this
  exact (hr j q hj).2 this
/-- a contract beside other cells -/
theorem mc_fr {l : Launch} {y : MethodName} {cc : ByteArray} {nL : Nat} {ret : Option FieldType} {fr lo mc ms : Nat} {D : va_G} {ty : List (ClassId × FieldType)} {T : Nat → Nat} {As : List Value} {ws : va_W} {Q : Option Value → va_W → Prop} (r : va_W)
    (h : MC l y cc nL ret fr lo mc ms D ty T As ws Q) : MC l y cc nL ret fr lo mc ms D ty T As (ws ++ r) (fun v w => ∃ w', w = w' ++ r ∧ Q v w') := by
  intro sz p e ha hc hk s m args below hf hfit hheap happ
  obtain ⟨k, o, h1, h2, h3, hq, L, hL1, hL2⟩ := h sz p e ha hc hk s m args below hf hfit ⟨hheap.1, hvB_l hheap.2⟩ happ
  exact ⟨k, o, h1, h2, h3, hvQ_l hheap.2 hq, L, hL1, fun q hq => va_A_l _ (hL2 q hq)⟩
def lwN (n : Nat) : String := if n = 15 then xIB else if n = 17 then xIA else xIS
def lwH (hh : List (Nat × Nat × Nat × Nat)) (c : Code) : Prop := c.exceptionTable.toList = tableOf hh
def MH (l : Launch) (y : MethodName) (cc : ByteArray) (nL : Nat) (ret : Option FieldType) (hh : List (Nat × Nat × Nat × Nat)) (fr lo mc ms : Nat) (D : va_G) (ty : List (ClassId × FieldType)) (T : Nat → Nat) (As : List Value) (ws : va_W) (Q : Option Value → va_W → Prop) : Prop :=
  ∀ sz : Nat, Met l y (.codeWith y cc nL ret hh :: gt) { frames := fr, cells := mc, slots := ms, locals := lo } (va_Pc As (hvB D ty T ws sz)) (hvQ D Q ws sz) mc ms (va_A ws sz)
theorem mh_of {l : Launch} {y : MethodName} {cc : ByteArray} {nL : Nat} {ret : Option FieldType} {hh : List (Nat × Nat × Nat × Nat)} {fr lo mc ms : Nat} {D : va_G} {ty : List (ClassId × FieldType)} {T : Nat → Nat} {As : List Value} {ws : va_W} {Q : Option Value → va_W → Prop} {lv : List (Nat × Value)}
    (hy : plainName y.cls = true) (hn : (lg_sl As).length ≤ nL) (hlv : lv_args 0 As = lv)
    (body : AW l y.cls y.name cc nL ret (lwH hh) { frames := fr, cells := mc, slots := ms, locals := lo } (hvE D Q ws mc ms) D ty (hvZ T ws) ws 0 lv [] ws 0 0) : MH l y cc nL ret hh fr lo mc ms D ty T As ws Q := by
  intro sz
  refine MetFree.of_bodyS (code := cc) (maxLocals := nL) (ret := ret) hy ?_ ?_
  · intro args s m h hn
    obtain ⟨m9, meth, c, hn9, h1, h2, h3, h4, -, h5, h6, -⟩ := Cond.codeWith_spec (atoms_spec (ws := .codeWith y cc nL ret hh :: gt) h _ List.mem_cons_self)
    cases hn.symm.trans hn9
    exact ⟨meth, c, h1, h2, h3, h4, h5, h6⟩
  · intro p e s m args below meth c s₁ B hml hv _
    obtain ⟨rfl, hsz, hP, hK, hD0, hZ⟩ := hv
    have hh0 : s₁.heap = s.heap := by rw [B.state]; rfl
    have hx := B.exec
    have hb := B.bytes
    have hr := B.returns
    have hts := atoms_spec (ws := .codeWith y cc nL ret hh :: gt) B.pre
    have hown : s.vm.findClass y.cls = some m.cls := findClass_of_methodNamed B.named
    have hlocks := B.notSynchronized
    have hin : meth.name = y.name := (name_of_methodNamed B.named B.method).1
    subst hsz
    have k := body p e s m _ below meth c ⟨hx, hb, hml, hown, fun w hw => hts w (List.mem_cons_of_mem _ hw), hr, hlocks, hin, vx_table (x := y) B (hts _ List.mem_cons_self)⟩ hK hZ s.heap [] _ hP (hD0.self (sz := s.heap.size)) va_S.rf (hlv ▸ lv_entry As hn)
    rw [← lg_entry_eq] at k
    obtain ⟨t, a1, o, b1, b2, b3⟩ := k s₁ hh0 (Stand.of_body B)
    exact ⟨t, o, a1, b1, b2, ⟨b3.1, b3.2⟩⟩
theorem aw_callXV {l : Launch} {own nm : String} {cc : ByteArray} {nL : Nat} {ret : Option FieldType} {X : Code → Prop} {R : Room} {E : List Frame → Array Value → State → State → Prop} {D : va_G} {ty : List (ClassId × FieldType)} {Z : State → Prop} {w0 : va_W} {pc q : Nat} {lv : List (Nat × Value)} {st : List Value} {ws : va_W} {k n : Nat} {T : Nat → Nat} {y : MethodName} {bytes : ByteArray} {maxL : Nat} {rt : Option FieldType} {fr lo mc1 ms1 idx : Nat} {As : List Value} {b : Nat} {Q1 : Option Value → va_W → Prop} {QX1 : String → va_W → Prop} {hh : List (Nat × Nat × Nat × Nat)}
    {TT : u_T} {N ci : Nat} {fs : List Value} (q0 nA : Nat) (hm : MX l y bytes maxL rt fr lo mc1 ms1 D ty T (.ref b :: As) ws Q1 QX1) (hZT : ∀ s, Z s → hvZ T w0 s) (he : ws[q0]? = some (b, .inr (ci, fs))) (hc : vwCl[ci]? = some (y.cls, TT, N))
    (hw1 : Cond.code y bytes maxL rt ∈ gt) (hw2 : Cond.methodLink own idx y ∈ gt) (hw3 : Cond.instanceMethod y ∈ gt) (hw4 : Cond.selects y.cls y y ∈ gt) (hw5 : Cond.initialized y.cls ∈ gt)
    (hd : y.cls ≠ "java/lang/invoke/MethodHandle" ∧ y.cls ≠ "java/lang/invoke/VarHandle" ∧ (parseMethodDescriptor y.desc).map (fun d => d.parameters.length) = some nA) (hn : As.length = nA) (hR : fr + 1 ≤ R.frames ∧ 8 + (maxL + 11) + lo ≤ R.locals) (hR2 : k + mc1 ≤ R.cells ∧ n + ms1 ≤ R.slots) (hst : (st.map fun v => v.category).sum ≤ 8)
    (d : decode cc pc = .ok (.invokevirtual idx, 3)) (hq : pc + 3 = q) (hX : ∀ c, X c → lwH hh c)
    (kk : ∀ (v : Option Value) (ws1 : va_W), Q1 v ws1 → AW l own nm cc nL ret X R E D ty Z w0 q lv (v.toList ++ st) ws1 (k + mc1) (n + ms1))
    (kx : ∀ (E9 : String) (ws1 : va_W), QX1 E9 ws1 → ∃ pre x suf, hh = pre ++ x :: suf ∧ (∀ z ∈ pre, z.2.2.2 ≠ 0 ∧ Cond.classLink own z.2.2.2 (lwN z.2.2.2) ∈ gt ∧ (E9, lwN z.2.2.2) ∈ ncL) ∧ E9 = lwN x.2.2.2 ∧ E9 ∈ excL ∧ x.2.2.2 ≠ 0 ∧ Cond.classLink own x.2.2.2 (lwN x.2.2.2) ∈ gt ∧ covers ⟨x.1, x.2.1, x.2.2.1, x.2.2.2⟩ pc = true ∧
      ∀ q9 : Nat, AW l own nm cc nL ret X R E D ty Z w0 x.2.2.1 lv [.ref q9] ws1 (k + mc1) (n + ms1)) : AW l own nm cc nL ret X R E D ty Z w0 pc lv (As.reverse ++ .ref b :: st) ws k n := by
  subst hq
  intro p e s m args below meth c hC hK hZ H locs ls hP hD hS hl
  obtain ⟨hx, hb, hml, hown, hts, hr, hlk, hnm, hXc⟩ := id hC
  have hrun : vx_Run p l e R s m args below meth c H locs k n mc1 ms1 (F0 m pc ls (As.reverse ++ .ref b :: st)) st (hvQ D Q1 ws H.size (Value.ref b :: As).toArray) (hvXQ D QX1 ws H.size) (va_A ws H.size) := vx_runV (As := As) (rest := st) (C := y.cls) (n := nA) (g := F0 m pc ls (As.reverse ++ .ref b :: st)) ⟨hx, hb, hml, hown, hts⟩ (hm H.size) ⟨callB_of nA hts (gtIn hw1) rfl rfl rfl (hts _ hw5) (hts _ hw2) hd hR, hts _ hw3, hts _ hw4⟩
    ⟨hvB_blind, va_recv hK hP hc he, fun U hU hW => ⟨rfl, hvB.call (hZT s hZ) hP hK hD hS hU hW⟩⟩ rfl hn hl.1 rfl (by show 2 * 0 + _ ≤ 8; omega) d hR2
  have hF := hvF hD hS
  intro T' hT X'
  rcases hrun T' hT X' with ⟨v, st₀, t, T1, L, h0, X1, hL, e1, e2, ⟨⟨v1, ws1, hv, hq1, hP1, hD1⟩, hz, hk⟩, sts⟩ | ⟨q9, st₀, t, T1, L, E9, ce, h0, X1, hL, e1, e2, ⟨⟨ws1, hq1, hP1, hD1⟩, hz, hk⟩, hce, hcv, hcl, sts⟩
  · cases hv
    rw [h0] at hz hk
    obtain ⟨t2, a1, b1⟩ := kk v ws1 hq1 p e s m args below meth c hC hK hZ T1.heap (locs ++ L) ls (by rw [e1]; exact hP1) (hD1.weaken (fun _ _ _ h => hF _ h))
      ⟨Nat.le_trans hS.1 (by rw [e1]; exact hz), fun q h1 h2 => by rw [e1, hk q (Nat.lt_of_lt_of_le h1 hS.1) (fun z => h2 (hF q z))]; exact hS.2.1 q h1 h2, fun q hq => by
        rcases List.mem_append.mp hq with h | h
        · exact hS.2.2 q h
        · exact hF _ (hL q h)⟩ hl T1 rfl X1
    exact ⟨t2, sts t2 a1, b1⟩
  · rw [h0] at hz hk
    obtain ⟨pre, x, suf, g1, g2, g3, g4, g5, g6, g7, g8⟩ := kx E9 ws1 hq1
    have hown9 := hown
    have w := g8 q9 p e s m args below meth c hC hK hZ T1.heap (locs ++ L) ls (by rw [e1]; exact hP1) (hD1.weaken (fun _ _ _ h => hF _ h))
      ⟨Nat.le_trans hS.1 (by rw [e1]; exact hz), fun q h1 h2 => by rw [e1, hk q (Nat.lt_of_lt_of_le h1 hS.1) (fun z => h2 (hF q z))]; exact hS.2.1 q h1 h2, fun q hq => by
        rcases List.mem_append.mp hq with h | h
        · exact hS.2.2 q h
        · exact hF _ (hL q h)⟩ hl
    have hN := (hZT s hZ).2.2.2.2
    have hcast : (Cond.castable E9 E9).before args s = true := va_Nw.use rfl (hN.2.2.2.1 E9 g4)
    have hXt : c.exceptionTable.toList = tableOf hh := hX c hXc
    have ht : c.exceptionTable.toList = tableOf pre ++ ⟨x.1, x.2.1, x.2.2.1, x.2.2.2⟩ :: tableOf suf := by
      rw [hXt, g1]
      unfold tableOf
      rw [List.map_append, List.map_cons]
    obtain ⟨t2, a1, b1⟩ := vx_catch (name := lwN x.2.2.2) (E := E9) (ce := ce) (rest := st) hown9 (tableOf pre) ⟨x.1, x.2.1, x.2.2.1, x.2.2.2⟩ (tableOf suf) ht (fun z hz9 => by
      unfold tableOf at hz9
      obtain ⟨z9, hz8, rfl⟩ := List.mem_map.mp hz9
      exact Or.inr ⟨(g2 z9 hz8).1, lwN z9.2.2.2, hts _ (g2 z9 hz8).2.1, hN.2.2.2.2 _ (g2 z9 hz8).2.2⟩) g7 g5 (hts _ g6) (by rw [← g3]; exact hcast) (by rw [e1]; exact hce) hcv hcl w T1 rfl X1
    exact ⟨t2, sts.trans a1, b1⟩
theorem mh_fr {l : Launch} {y : MethodName} {cc : ByteArray} {nL : Nat} {ret : Option FieldType} {hh : List (Nat × Nat × Nat × Nat)} {fr lo mc ms : Nat} {D : va_G} {ty : List (ClassId × FieldType)} {T : Nat → Nat} {As : List Value} {ws : va_W} {Q : Option Value → va_W → Prop} (r : va_W)
    (h : MH l y cc nL ret hh fr lo mc ms D ty T As ws Q) : MH l y cc nL ret hh fr lo mc ms D ty T As (ws ++ r) (fun v w => ∃ w', w = w' ++ r ∧ Q v w') := by
  intro sz p e ha hc hk s m args below hf hfit hheap happ
  obtain ⟨k, o, h1, h2, h3, hq, L, hL1, hL2⟩ := h sz p e ha hc hk s m args below hf hfit ⟨hheap.1, hvB_l hheap.2⟩ happ
  exact ⟨k, o, h1, h2, h3, hvQ_l hheap.2 hq, L, hL1, fun q hq => va_A_l _ (hL2 q hq)⟩
section LAWK
variable {l : Launch} {own nm : String} {cc : ByteArray} {nL : Nat} {ret : Option FieldType} {X : Code → Prop} {R : Room} {E : List Frame → Array Value → State → State → Prop} {D : va_G} {ty : List (ClassId × FieldType)} {Z : State → Prop} {w0 ws : va_W} {pc q : Nat} {lv : List (Nat × Value)} {st : List Value} {k n b L : Nat} {xs : Nat → Int32}
theorem gtInW {y : MethodName} {bytes : ByteArray} {maxL : Nat} {rt : Option FieldType} {hh : List (Nat × Nat × Nat × Nat)} (hw : Cond.codeWith y bytes maxL rt hh ∈ gt) : GoodIn gt (.codeWith y bytes maxL rt hh :: gt) := by
  intro w hw1
  have hg : w ∈ gt := by
    rcases List.mem_cons.mp hw1 with h | h
    · rw [h]; exact hw
    · exact h
  exact ⟨hg, good_of_word (List.mem_filter.mp hg).2⟩
theorem aw_callSW {T : Nat → Nat} {y : MethodName} {bytes : ByteArray} {maxL : Nat} {rt : Option FieldType} {hh : List (Nat × Nat × Nat × Nat)} {fr lo mc1 ms1 idx : Nat} {As : List Value} {Q1 : Option Value → va_W → Prop} (nA : Nat) (hm : MH l y bytes maxL rt hh fr lo mc1 ms1 D ty T As ws Q1) (hZT : ∀ s, Z s → hvZ T w0 s)
    (hw1 : Cond.codeWith y bytes maxL rt hh ∈ gt) (hw2 : Cond.methodLink own idx y ∈ gt) (hw3 : Cond.static y ∈ gt) (hw5 : Cond.initialized y.cls ∈ gt)
    (hd : y.cls ≠ "java/lang/invoke/MethodHandle" ∧ y.cls ≠ "java/lang/invoke/VarHandle" ∧ (parseMethodDescriptor y.desc).map (fun d => d.parameters.length) = some nA) (hn : As.length = nA) (hR : fr + 1 ≤ R.frames ∧ 8 + (maxL + 11) + lo ≤ R.locals) (hR2 : k + mc1 ≤ R.cells ∧ n + ms1 ≤ R.slots) (hst : (st.map fun v => v.category).sum ≤ 8)
    (d : decode cc pc = .ok (.invokestatic idx, 3)) (hq : pc + 3 = q)
    (kk : ∀ (v : Option Value) (ws1 : va_W), Q1 v ws1 → AW l own nm cc nL ret X R E D ty Z w0 q lv (v.toList ++ st) ws1 (k + mc1) (n + ms1)) : AW l own nm cc nL ret X R E D ty Z w0 pc lv (As.reverse ++ st) ws k n := by
  refine aw_back (mc1 := mc1) (ms1 := ms1) (st := st) (Q1 := Q1) (fun p e s m args below meth c hC hK hZ H locs ls hP hD hS hl => ⟨As.toArray, ?_⟩) hq kk
  obtain ⟨hx, hb, hml, hown, hts, hr, hlk, hnm, hX⟩ := id hC
  exact vx_runSW (As := As) (rest := st) (n := nA) (hh := hh) ⟨hx, hb, hml, hown, hts⟩ (hm H.size) ⟨⟨rfl, rfl, hR.1, hR.2, pay_in hts (gtInW hw1), List.mem_cons_self⟩, hts _ hw1, hts _ hw5, ⟨hd.1, hd.2.1⟩, fun sig h => by
      have h2 := hd.2.2
      rw [h] at h2
      exact (Option.some.inj h2).symm, hts _ hw2, hts _ hw3⟩
    ⟨hvB_blind, fun U hU hW => ⟨rfl, hvB.call (hZT s hZ) hP hK hD hS hU hW⟩⟩ rfl hn hl.1 rfl (by show 2 * 0 + _ ≤ 8; omega) d hR2
end LAWK
section LWK
variable {l : Launch} {own nm : String} {cc : ByteArray} {nL : Nat} {ret : Option FieldType} {X : Code → Prop} {R : Room} {E : List Frame → Array Value → State → State → Prop} {D : va_G} {ty : List (ClassId × FieldType)} {Z : State → Prop} {w0 ws : va_W} {pc q t : Nat} {off : Int} {lv : List (Nat × Value)} {st : List Value} {k n : Nat}
/-- an int against its equal, whatever its range -/
theorem aw_same_ne {x y : Int} (hxy : x = y) (d : decode cc pc = .ok (.if_icmp .ne off, 3)) (hq : pc + 3 = q) (ht : (pc : Int) + off = (t : Int))
    (kk : AW l own nm cc nL ret X R E D ty Z w0 q lv st ws k n) : AW l own nm cc nL ret X R E D ty Z w0 pc lv (.int (iI y) :: .int (iI x) :: st) ws k n := by
  subst hxy
  have e : iI x = iI (iI x).toInt := iI_of (iI x)
  rw [e]
  exact aw_icmp_ne d hq ht (iI_rng _) (iI_rng _) (fun h => absurd rfl h) (fun _ => kk)
theorem aw_same_eq {x y : Int} (hxy : x = y) (d : decode cc pc = .ok (.if_icmp .eq off, 3)) (hq : pc + 3 = q) (ht : (pc : Int) + off = (t : Int))
    (kk : AW l own nm cc nL ret X R E D ty Z w0 t lv st ws k n) : AW l own nm cc nL ret X R E D ty Z w0 pc lv (.int (iI y) :: .int (iI x) :: st) ws k n := by
  subst hxy
  have e : iI x = iI (iI x).toInt := iI_of (iI x)
  rw [e]
  exact aw_icmp_eq d hq ht (iI_rng _) (iI_rng _) (fun _ => kk) (fun h => absurd rfl h)
end LWK
section LWC
variable {l : Launch} {own nm : String} {cc : ByteArray} {nL : Nat} {ret : Option FieldType} {X : Code → Prop} {R : Room} {E : List Frame → Array Value → State → State → Prop} {D : va_G} {C : Nat → ClassId} {Z : State → Prop} {w0 : va_W} {pc q : Nat} {lv : List (Nat × Value)} {st : List Value} {k n : Nat} {ad : Int → Nat} {G : GG} {T : Nat → Nat} {y : MethodName} {bytes : ByteArray} {maxL : Nat} {rt : Option FieldType} {hh : List (Nat × Nat × Nat × Nat)} {fr lo mc1 ms1 idx : Nat} {As : List Value} {b : Nat} {id : Int}
/-- a static call of a method with a table -/
theorem ch_I {P : Int → GG → Prop} (nA : Nat) (hm : MH l y bytes maxL rt hh fr lo mc1 ms1 D (tyC C) T As (cw ad C G) (RI ad C P)) (hZT : ∀ s, Z s → hvZ T w0 s) (hw1 : Cond.codeWith y bytes maxL rt hh ∈ gt) (hw2 : Cond.methodLink own idx y ∈ gt) (hw3 : Cond.static y ∈ gt) (hw5 : Cond.initialized y.cls ∈ gt) (hd : y.cls ≠ "java/lang/invoke/MethodHandle" ∧ y.cls ≠ "java/lang/invoke/VarHandle" ∧ (parseMethodDescriptor y.desc).map (fun d => d.parameters.length) = some nA) (hn : As.length = nA) (hR : fr + 1 ≤ R.frames ∧ 8 + (maxL + 11) + lo ≤ R.locals) (hR2 : k + mc1 ≤ R.cells ∧ n + ms1 ≤ R.slots) (hst : (st.map fun v => v.category).sum ≤ 8) (d : decode cc pc = .ok (.invokestatic idx, 3)) (hq : pc + 3 = q)
    (kk : ∀ (r : Int) (G1 : GG), P r G1 → AW l own nm cc nL ret X R E D (tyC C) Z w0 q lv (.int (iI r) :: st) (cw ad C G1) (k + mc1) (n + ms1)) : AW l own nm cc nL ret X R E D (tyC C) Z w0 pc lv (As.reverse ++ st) (cw ad C G) k n := by
  refine aw_callSW nA hm hZT hw1 hw2 hw3 hw5 hd hn hR hR2 hst d hq (fun v w e => ?_)
  obtain ⟨r, G1, rfl, rfl, h⟩ := e; exact kk r G1 h
/-- .. of one without, that makes cells -/
theorem cm_I {P : Int → GG → Prop} (nA : Nat) (hm : MC l y bytes maxL rt fr lo mc1 ms1 D (tyC C) T As (cw ad C G) (RI ad C P)) (hZT : ∀ s, Z s → hvZ T w0 s) (hw1 : Cond.code y bytes maxL rt ∈ gt) (hw2 : Cond.methodLink own idx y ∈ gt) (hw3 : Cond.static y ∈ gt) (hw5 : Cond.initialized y.cls ∈ gt) (hd : y.cls ≠ "java/lang/invoke/MethodHandle" ∧ y.cls ≠ "java/lang/invoke/VarHandle" ∧ (parseMethodDescriptor y.desc).map (fun d => d.parameters.length) = some nA) (hn : As.length = nA) (hR : fr + 1 ≤ R.frames ∧ 8 + (maxL + 11) + lo ≤ R.locals) (hR2 : k + mc1 ≤ R.cells ∧ n + ms1 ≤ R.slots) (hst : (st.map fun v => v.category).sum ≤ 8) (d : decode cc pc = .ok (.invokestatic idx, 3)) (hq : pc + 3 = q)
    (kk : ∀ (r : Int) (G1 : GG), P r G1 → AW l own nm cc nL ret X R E D (tyC C) Z w0 q lv (.int (iI r) :: st) (cw ad C G1) (k + mc1) (n + ms1)) : AW l own nm cc nL ret X R E D (tyC C) Z w0 pc lv (As.reverse ++ st) (cw ad C G) k n := by
  refine aw_callS nA hm hZT hw1 hw2 hw3 hw5 hd hn hR hR2 hst d hq (fun v w e => ?_)
  obtain ⟨r, G1, rfl, rfl, h⟩ := e; exact kk r G1 h
variable {r9 : va_W}
/-- calls beside other cells -/
theorem fv_I {P : Int → GG → Prop} {CC : String} {TT : u_T} {N ci : Nat} {fs : List Value} (nA : Nat) (hm : MC l y bytes maxL rt fr lo 0 0 D (tyC C) T (.ref (ad id) :: As) (cw ad C G) (RI ad C P)) (hZT : ∀ s, Z s → hvZ T w0 s) (hid : 0 ≤ id ∧ id < 108) (hcell : cellOf ad C G id = .inr (ci, fs)) (hc : vwCl[ci]? = some (y.cls, TT, N)) (hw1 : Cond.code y bytes maxL rt ∈ gt) (hw2 : Cond.methodLink own idx y ∈ gt) (hw3 : Cond.instanceMethod y ∈ gt) (hw4 : Cond.selects y.cls y y ∈ gt) (hw5 : Cond.initialized y.cls ∈ gt) (hd : y.cls ≠ "java/lang/invoke/MethodHandle" ∧ y.cls ≠ "java/lang/invoke/VarHandle" ∧ (parseMethodDescriptor y.desc).map (fun d => d.parameters.length) = some nA) (hn : As.length = nA) (hR : fr + 1 ≤ R.frames ∧ 8 + (maxL + 11) + lo ≤ R.locals) (hR2 : k ≤ R.cells ∧ n ≤ R.slots) (hst : (st.map fun v => v.category).sum ≤ 8) (d : decode cc pc = .ok (.invokevirtual idx, 3)) (hq : pc + 3 = q)
    (kk : ∀ (r : Int) (G1 : GG), P r G1 → AW l own nm cc nL ret X R E D (tyC C) Z w0 q lv (.int (iI r) :: st) (cw ad C G1 ++ r9) k n) : AW l own nm cc nL ret X R E D (tyC C) Z w0 pc lv (As.reverse ++ .ref (ad id) :: st) (cw ad C G ++ r9) k n := by
  refine aw_callV (C := "") id.toNat nA (mc_fr r9 hm) hZT (va_at_l (by rw [cw_get hid, hcell])) hc hw1 hw2 hw3 hw4 hw5 hd hn hR hR2 hst d hq (fun v w e => ?_)
  obtain ⟨w', rfl, r, G1, rfl, rfl, h⟩ := e; exact kk r G1 h
theorem fv_F {P : UInt32 → GG → Prop} {CC : String} {TT : u_T} {N ci : Nat} {fs : List Value} (nA : Nat) (hm : MC l y bytes maxL rt fr lo 0 0 D (tyC C) T (.ref (ad id) :: As) (cw ad C G) (RF ad C P)) (hZT : ∀ s, Z s → hvZ T w0 s) (hid : 0 ≤ id ∧ id < 108) (hcell : cellOf ad C G id = .inr (ci, fs)) (hc : vwCl[ci]? = some (y.cls, TT, N)) (hw1 : Cond.code y bytes maxL rt ∈ gt) (hw2 : Cond.methodLink own idx y ∈ gt) (hw3 : Cond.instanceMethod y ∈ gt) (hw4 : Cond.selects y.cls y y ∈ gt) (hw5 : Cond.initialized y.cls ∈ gt) (hd : y.cls ≠ "java/lang/invoke/MethodHandle" ∧ y.cls ≠ "java/lang/invoke/VarHandle" ∧ (parseMethodDescriptor y.desc).map (fun d => d.parameters.length) = some nA) (hn : As.length = nA) (hR : fr + 1 ≤ R.frames ∧ 8 + (maxL + 11) + lo ≤ R.locals) (hR2 : k ≤ R.cells ∧ n ≤ R.slots) (hst : (st.map fun v => v.category).sum ≤ 8) (d : decode cc pc = .ok (.invokevirtual idx, 3)) (hq : pc + 3 = q)
    (kk : ∀ (r : UInt32) (G1 : GG), P r G1 → AW l own nm cc nL ret X R E D (tyC C) Z w0 q lv (.float r :: st) (cw ad C G1 ++ r9) k n) : AW l own nm cc nL ret X R E D (tyC C) Z w0 pc lv (As.reverse ++ .ref (ad id) :: st) (cw ad C G ++ r9) k n := by
  refine aw_callV (C := "") id.toNat nA (mc_fr r9 hm) hZT (va_at_l (by rw [cw_get hid, hcell])) hc hw1 hw2 hw3 hw4 hw5 hd hn hR hR2 hst d hq (fun v w e => ?_)
  obtain ⟨w', rfl, r, G1, rfl, rfl, h⟩ := e; exact kk r G1 h
theorem fs_I {P : Int → GG → Prop} (nA : Nat) (hm : MC l y bytes maxL rt fr lo 0 0 D (tyC C) T As (cw ad C G) (RI ad C P)) (hZT : ∀ s, Z s → hvZ T w0 s) (hw1 : Cond.code y bytes maxL rt ∈ gt) (hw2 : Cond.methodLink own idx y ∈ gt) (hw3 : Cond.static y ∈ gt) (hw5 : Cond.initialized y.cls ∈ gt) (hd : y.cls ≠ "java/lang/invoke/MethodHandle" ∧ y.cls ≠ "java/lang/invoke/VarHandle" ∧ (parseMethodDescriptor y.desc).map (fun d => d.parameters.length) = some nA) (hn : As.length = nA) (hR : fr + 1 ≤ R.frames ∧ 8 + (maxL + 11) + lo ≤ R.locals) (hR2 : k ≤ R.cells ∧ n ≤ R.slots) (hst : (st.map fun v => v.category).sum ≤ 8) (d : decode cc pc = .ok (.invokestatic idx, 3)) (hq : pc + 3 = q)
    (kk : ∀ (r : Int) (G1 : GG), P r G1 → AW l own nm cc nL ret X R E D (tyC C) Z w0 q lv (.int (iI r) :: st) (cw ad C G1 ++ r9) k n) : AW l own nm cc nL ret X R E D (tyC C) Z w0 pc lv (As.reverse ++ st) (cw ad C G ++ r9) k n := by
  refine aw_callS nA (mc_fr r9 hm) hZT hw1 hw2 hw3 hw5 hd hn hR hR2 hst d hq (fun v w e => ?_)
  obtain ⟨w', rfl, r, G1, rfl, rfl, h⟩ := e; exact kk r G1 h
theorem fh_I {P : Int → GG → Prop} (nA : Nat) (hm : MH l y bytes maxL rt hh fr lo mc1 ms1 D (tyC C) T As (cw ad C G) (RI ad C P)) (hZT : ∀ s, Z s → hvZ T w0 s) (hw1 : Cond.codeWith y bytes maxL rt hh ∈ gt) (hw2 : Cond.methodLink own idx y ∈ gt) (hw3 : Cond.static y ∈ gt) (hw5 : Cond.initialized y.cls ∈ gt) (hd : y.cls ≠ "java/lang/invoke/MethodHandle" ∧ y.cls ≠ "java/lang/invoke/VarHandle" ∧ (parseMethodDescriptor y.desc).map (fun d => d.parameters.length) = some nA) (hn : As.length = nA) (hR : fr + 1 ≤ R.frames ∧ 8 + (maxL + 11) + lo ≤ R.locals) (hR2 : k + mc1 ≤ R.cells ∧ n + ms1 ≤ R.slots) (hst : (st.map fun v => v.category).sum ≤ 8) (d : decode cc pc = .ok (.invokestatic idx, 3)) (hq : pc + 3 = q)
    (kk : ∀ (r : Int) (G1 : GG), P r G1 → AW l own nm cc nL ret X R E D (tyC C) Z w0 q lv (.int (iI r) :: st) (cw ad C G1 ++ r9) (k + mc1) (n + ms1)) : AW l own nm cc nL ret X R E D (tyC C) Z w0 pc lv (As.reverse ++ st) (cw ad C G ++ r9) k n := by
  refine aw_callSW nA (mh_fr r9 hm) hZT hw1 hw2 hw3 hw5 hd hn hR hR2 hst d hq (fun v w e => ?_)
  obtain ⟨w', rfl, r, G1, rfl, rfl, h⟩ := e; exact kk r G1 h
end LWC

theorem wl_RL_15 : Cond.classLink RL 15 xIB ∈ gt := wd_at 426 (by decide +kernel) rfl
theorem wl_RL_17 : Cond.classLink RL 17 xIA ∈ gt := wd_at 427 (by decide +kernel) rfl
theorem wl_RL_19 : Cond.classLink RL 19 xIS ∈ gt := wd_at 428 (by decide +kernel) rfl
set_option maxRecDepth 100000 in
theorem wcw_L_stock : Cond.codeWith yL_stock cL_stock 4 (some .int) [(0, 6, 7, 15), (0, 6, 12, 17), (0, 6, 17, 19)] ∈ gt := wd_at 425 rfl rfl
set_option maxRecDepth 100000 in
theorem wcw_L_undo : Cond.codeWith yL_undo cL_undo 2 (some .int) [(0, 4, 5, 19)] ∈ gt := wd_at 538 rfl rfl
set_option maxRecDepth 100000 in
theorem wcw_L_promise : Cond.codeWith yL_promise cL_promise 3 (some .int) [(0, 5, 6, 15)] ∈ gt := wd_at 593 rfl rfl
set_option maxRecDepth 100000 in
theorem wcw_L_coil : Cond.codeWith yL_coil cL_coil 4 (some .int) [(0, 6, 7, 15), (0, 6, 12, 17)] ∈ gt := wd_at 596 rfl rfl
set_option maxRecDepth 100000 in
theorem wcw_L_buy : Cond.codeWith yL_buy cL_buy 7 (some .int) [(0, 11, 12, 15), (0, 11, 18, 17), (0, 11, 24, 19)] ∈ gt := wd_at 659 rfl rfl
set_option maxRecDepth 100000 in
theorem wcw_L_fill : Cond.codeWith yL_fill cL_fill 4 (some .int) [(0, 6, 7, 15), (0, 6, 12, 17)] ∈ gt := wd_at 672 rfl rfl
set_option maxRecDepth 100000 in
theorem wcw_L_pass : Cond.codeWith yL_pass cL_pass 3 (some .int) [(0, 5, 6, 17), (0, 5, 11, 19)] ∈ gt := wd_at 712 rfl rfl
set_option maxHeartbeats 4000000 in
set_option maxRecDepth 100000 in
theorem cL_h_stock {l : Launch} {D : va_G} {C : Nat → ClassId} {T : Nat → Nat} {ad : Int → Nat} (G : GG) {a0 a1 : Int} {fr lo mc1 ms1 : Nat} {CQ : Int → GG → Prop} {CX : String → GG → Prop} (hm : MX l yX5_stock cX5_stock 3 (some .int) fr lo mc1 ms1 D (tyC C) T (.ref (ad 102) :: [.int (iI a0), .int (iI a1)]) (cw ad C G) (RI ad C CQ) (RX ad C CX)) (hE : ∀ E G1, CX E G1 → E ∈ ([xIB, xIA, xIS] : List String)) (hfr : fr ≤ 6) (hlo : 8 + (3 + 11) + lo ≤ 200) (hmc : mc1 ≤ 1) (hms : ms1 ≤ 6) : MH l yL_stock cL_stock 4 (some .int) [(0, 6, 7, 15), (0, 6, 12, 17), (0, 6, 17, 19)] 7 200 1 6 D (tyC C) T (.ref (ad 102) :: [.int (iI a0), .int (iI a1)]) (cw ad C G) (RI ad C (fun r G1 => CQ r G1 ∨ (r = -903 ∧ CX xIB G1) ∨ (r = -901 ∧ CX xIA G1) ∨ (r = -902 ∧ CX xIS G1))) := by
  refine mh_of (by decide +kernel) (Nat.le_of_ble_eq_true rfl) rfl ?_
  refine aw_aload_n (q := 1) 0 dL_stock_0 rfl rfl rfl ?_
  refine aw_iload_n (q := 2) 1 dL_stock_1 rfl rfl rfl ?_
  refine aw_iload_n (q := 3) 2 dL_stock_2 rfl rfl rfl ?_
  refine aw_callXV (q := 6) (hh := [(0, 6, 7, 15), (0, 6, 12, 17), (0, 6, 17, 19)]) (As := [.int (iI a0), .int (iI a1)]) 102 2 hm (fun _ h => h) (by rw [show (102 : Nat) = (102 : Int).toNat from rfl, cw_get (by omega), cell_102]) rfl wc_X5_stock wm_RL_9 wi_X5_stock ws_X5_stock wn_X5 (by decide) rfl ⟨by show fr + 1 ≤ 7; omega, hlo⟩ ⟨by show 0 + mc1 ≤ 1; omega, by show 0 + ms1 ≤ 6; omega⟩ (Nat.le_of_ble_eq_true rfl) dL_stock_3 rfl (fun _ h => h) ?_ ?_
  · rintro v9 w9 ⟨r9, G9, rfl, rfl, h9⟩
    exact rt_i rfl (by omega) (by omega) (Or.inl h9) dL_stock_6
  · rintro E9 w9 ⟨G9, rfl, h9⟩
    have hE9 := hE _ _ h9
    simp only [List.mem_cons, List.mem_nil_iff, or_false] at hE9
    rcases hE9 with rfl | rfl | rfl
    · refine ⟨[], (0, 6, 7, 15), [(0, 6, 12, 17), (0, 6, 17, 19)], rfl, (fun z hz => by cases hz), rfl, by decide, by decide, wl_RL_15, by decide, fun q9 => ?_⟩
      refine aw_astore_n (q := 8) [0] dL_stock_7 rfl rfl (by decide) rfl rfl ?_
      refine aw_sipush (q := 11) dL_stock_8 rfl (by decide) ?_
      exact rt_i rfl (by omega) (by omega) (Or.inr (Or.inl ⟨rfl, h9⟩)) dL_stock_11
    · refine ⟨[(0, 6, 7, 15)], (0, 6, 12, 17), [(0, 6, 17, 19)], rfl, ?pre, rfl, by decide, by decide, wl_RL_17, by decide, fun q9 => ?_⟩
      case pre =>
        intro z hz
        simp only [List.mem_cons, List.mem_nil_iff, or_false] at hz
        subst hz
        · exact ⟨by decide, wl_RL_15, by decide⟩
      refine aw_astore_n (q := 13) [0] dL_stock_12 rfl rfl (by decide) rfl rfl ?_
      refine aw_sipush (q := 16) dL_stock_13 rfl (by decide) ?_
      exact rt_i rfl (by omega) (by omega) (Or.inr (Or.inr (Or.inl ⟨rfl, h9⟩))) dL_stock_16
    · refine ⟨[(0, 6, 7, 15), (0, 6, 12, 17)], (0, 6, 17, 19), [], rfl, ?pre, rfl, by decide, by decide, wl_RL_19, by decide, fun q9 => ?_⟩
      case pre =>
        intro z hz
        simp only [List.mem_cons, List.mem_nil_iff, or_false] at hz
        rcases hz with rfl | rfl
        · exact ⟨by decide, wl_RL_15, by decide⟩
        · exact ⟨by decide, wl_RL_17, by decide⟩
      refine aw_astore_n (q := 18) [0] dL_stock_17 rfl rfl (by decide) rfl rfl ?_
      refine aw_sipush (q := 21) dL_stock_18 rfl (by decide) ?_
      exact rt_i rfl (by omega) (by omega) (Or.inr (Or.inr (Or.inr (⟨rfl, h9⟩)))) dL_stock_21
set_option maxHeartbeats 4000000 in
set_option maxRecDepth 100000 in
theorem cL_h_undo {l : Launch} {D : va_G} {C : Nat → ClassId} {T : Nat → Nat} {ad : Int → Nat} (G : GG) {fr lo mc1 ms1 : Nat} {CQ : Int → GG → Prop} {CX : String → GG → Prop} (hm : MX l yX5_undo cX5_undo 1 (some .int) fr lo mc1 ms1 D (tyC C) T (.ref (ad 102) :: []) (cw ad C G) (RI ad C CQ) (RX ad C CX)) (hE : ∀ E G1, CX E G1 → E ∈ ([xIS] : List String)) (hfr : fr ≤ 6) (hlo : 8 + (1 + 11) + lo ≤ 200) (hmc : mc1 ≤ 1) (hms : ms1 ≤ 6) : MH l yL_undo cL_undo 2 (some .int) [(0, 4, 5, 19)] 7 200 1 6 D (tyC C) T (.ref (ad 102) :: []) (cw ad C G) (RI ad C (fun r G1 => CQ r G1 ∨ (r = -902 ∧ CX xIS G1))) := by
  refine mh_of (by decide +kernel) (Nat.le_of_ble_eq_true rfl) rfl ?_
  refine aw_aload_n (q := 1) 0 dL_undo_0 rfl rfl rfl ?_
  refine aw_callXV (q := 4) (hh := [(0, 4, 5, 19)]) (As := []) 102 0 hm (fun _ h => h) (by rw [show (102 : Nat) = (102 : Int).toNat from rfl, cw_get (by omega), cell_102]) rfl wc_X5_undo wm_RL_32 wi_X5_undo ws_X5_undo wn_X5 (by decide) rfl ⟨by show fr + 1 ≤ 7; omega, hlo⟩ ⟨by show 0 + mc1 ≤ 1; omega, by show 0 + ms1 ≤ 6; omega⟩ (Nat.le_of_ble_eq_true rfl) dL_undo_1 rfl (fun _ h => h) ?_ ?_
  · rintro v9 w9 ⟨r9, G9, rfl, rfl, h9⟩
    exact rt_i rfl (by omega) (by omega) (Or.inl h9) dL_undo_4
  · rintro E9 w9 ⟨G9, rfl, h9⟩
    have hE9 := hE _ _ h9
    simp only [List.mem_cons, List.mem_nil_iff, or_false] at hE9
    subst hE9
    · refine ⟨[], (0, 4, 5, 19), [], rfl, (fun z hz => by cases hz), rfl, by decide, by decide, wl_RL_19, by decide, fun q9 => ?_⟩
      refine aw_astore_n (q := 6) [0] dL_undo_5 rfl rfl (by decide) rfl rfl ?_
      refine aw_sipush (q := 9) dL_undo_6 rfl (by decide) ?_
      exact rt_i rfl (by omega) (by omega) (Or.inr (⟨rfl, h9⟩)) dL_undo_9
set_option maxHeartbeats 4000000 in
set_option maxRecDepth 100000 in
theorem cL_h_promise {l : Launch} {D : va_G} {C : Nat → ClassId} {T : Nat → Nat} {ad : Int → Nat} (G : GG) {a0 : Int} {fr lo mc1 ms1 : Nat} {CQ : Int → GG → Prop} {CX : String → GG → Prop} (hm : MX l yX5_promise cX5_promise 2 (some .int) fr lo mc1 ms1 D (tyC C) T (.ref (ad 102) :: [.int (iI a0)]) (cw ad C G) (RI ad C CQ) (RX ad C CX)) (hE : ∀ E G1, CX E G1 → E ∈ ([xIB] : List String)) (hfr : fr ≤ 6) (hlo : 8 + (2 + 11) + lo ≤ 200) (hmc : mc1 ≤ 1) (hms : ms1 ≤ 6) : MH l yL_promise cL_promise 3 (some .int) [(0, 5, 6, 15)] 7 200 1 6 D (tyC C) T (.ref (ad 102) :: [.int (iI a0)]) (cw ad C G) (RI ad C (fun r G1 => CQ r G1 ∨ (r = -903 ∧ CX xIB G1))) := by
  refine mh_of (by decide +kernel) (Nat.le_of_ble_eq_true rfl) rfl ?_
  refine aw_aload_n (q := 1) 0 dL_promise_0 rfl rfl rfl ?_
  refine aw_iload_n (q := 2) 1 dL_promise_1 rfl rfl rfl ?_
  refine aw_callXV (q := 5) (hh := [(0, 5, 6, 15)]) (As := [.int (iI a0)]) 102 1 hm (fun _ h => h) (by rw [show (102 : Nat) = (102 : Int).toNat from rfl, cw_get (by omega), cell_102]) rfl wc_X5_promise wm_RL_36 wi_X5_promise ws_X5_promise wn_X5 (by decide) rfl ⟨by show fr + 1 ≤ 7; omega, hlo⟩ ⟨by show 0 + mc1 ≤ 1; omega, by show 0 + ms1 ≤ 6; omega⟩ (Nat.le_of_ble_eq_true rfl) dL_promise_2 rfl (fun _ h => h) ?_ ?_
  · rintro v9 w9 ⟨r9, G9, rfl, rfl, h9⟩
    exact rt_i rfl (by omega) (by omega) (Or.inl h9) dL_promise_5
  · rintro E9 w9 ⟨G9, rfl, h9⟩
    have hE9 := hE _ _ h9
    simp only [List.mem_cons, List.mem_nil_iff, or_false] at hE9
    subst hE9
    · refine ⟨[], (0, 5, 6, 15), [], rfl, (fun z hz => by cases hz), rfl, by decide, by decide, wl_RL_15, by decide, fun q9 => ?_⟩
      refine aw_astore_n (q := 7) [0] dL_promise_6 rfl rfl (by decide) rfl rfl ?_
      refine aw_sipush (q := 10) dL_promise_7 rfl (by decide) ?_
      exact rt_i rfl (by omega) (by omega) (Or.inr (⟨rfl, h9⟩)) dL_promise_10
set_option maxHeartbeats 4000000 in
set_option maxRecDepth 100000 in
theorem cL_h_coil {l : Launch} {D : va_G} {C : Nat → ClassId} {T : Nat → Nat} {ad : Int → Nat} (G : GG) {a0 a1 : Int} {fr lo mc1 ms1 : Nat} {CQ : Int → GG → Prop} {CX : String → GG → Prop} (hm : MX l yX5_coil cX5_coil 3 (some .int) fr lo mc1 ms1 D (tyC C) T (.ref (ad 102) :: [.int (iI a0), .int (iI a1)]) (cw ad C G) (RI ad C CQ) (RX ad C CX)) (hE : ∀ E G1, CX E G1 → E ∈ ([xIB, xIA] : List String)) (hfr : fr ≤ 6) (hlo : 8 + (3 + 11) + lo ≤ 200) (hmc : mc1 ≤ 1) (hms : ms1 ≤ 6) : MH l yL_coil cL_coil 4 (some .int) [(0, 6, 7, 15), (0, 6, 12, 17)] 7 200 1 6 D (tyC C) T (.ref (ad 102) :: [.int (iI a0), .int (iI a1)]) (cw ad C G) (RI ad C (fun r G1 => CQ r G1 ∨ (r = -903 ∧ CX xIB G1) ∨ (r = -901 ∧ CX xIA G1))) := by
  refine mh_of (by decide +kernel) (Nat.le_of_ble_eq_true rfl) rfl ?_
  refine aw_aload_n (q := 1) 0 dL_coil_0 rfl rfl rfl ?_
  refine aw_iload_n (q := 2) 1 dL_coil_1 rfl rfl rfl ?_
  refine aw_iload_n (q := 3) 2 dL_coil_2 rfl rfl rfl ?_
  refine aw_callXV (q := 6) (hh := [(0, 6, 7, 15), (0, 6, 12, 17)]) (As := [.int (iI a0), .int (iI a1)]) 102 2 hm (fun _ h => h) (by rw [show (102 : Nat) = (102 : Int).toNat from rfl, cw_get (by omega), cell_102]) rfl wc_X5_coil wm_RL_39 wi_X5_coil ws_X5_coil wn_X5 (by decide) rfl ⟨by show fr + 1 ≤ 7; omega, hlo⟩ ⟨by show 0 + mc1 ≤ 1; omega, by show 0 + ms1 ≤ 6; omega⟩ (Nat.le_of_ble_eq_true rfl) dL_coil_3 rfl (fun _ h => h) ?_ ?_
  · rintro v9 w9 ⟨r9, G9, rfl, rfl, h9⟩
    exact rt_i rfl (by omega) (by omega) (Or.inl h9) dL_coil_6
  · rintro E9 w9 ⟨G9, rfl, h9⟩
    have hE9 := hE _ _ h9
    simp only [List.mem_cons, List.mem_nil_iff, or_false] at hE9
    rcases hE9 with rfl | rfl
    · refine ⟨[], (0, 6, 7, 15), [(0, 6, 12, 17)], rfl, (fun z hz => by cases hz), rfl, by decide, by decide, wl_RL_15, by decide, fun q9 => ?_⟩
      refine aw_astore_n (q := 8) [0] dL_coil_7 rfl rfl (by decide) rfl rfl ?_
      refine aw_sipush (q := 11) dL_coil_8 rfl (by decide) ?_
      exact rt_i rfl (by omega) (by omega) (Or.inr (Or.inl ⟨rfl, h9⟩)) dL_coil_11
    · refine ⟨[(0, 6, 7, 15)], (0, 6, 12, 17), [], rfl, ?pre, rfl, by decide, by decide, wl_RL_17, by decide, fun q9 => ?_⟩
      case pre =>
        intro z hz
        simp only [List.mem_cons, List.mem_nil_iff, or_false] at hz
        subst hz
        · exact ⟨by decide, wl_RL_15, by decide⟩
      refine aw_astore_n (q := 13) [0] dL_coil_12 rfl rfl (by decide) rfl rfl ?_
      refine aw_sipush (q := 16) dL_coil_13 rfl (by decide) ?_
      exact rt_i rfl (by omega) (by omega) (Or.inr (Or.inr (⟨rfl, h9⟩))) dL_coil_16
set_option maxHeartbeats 4000000 in
set_option maxRecDepth 100000 in
theorem cL_h_buy {l : Launch} {D : va_G} {C : Nat → ClassId} {T : Nat → Nat} {ad : Int → Nat} (G : GG) {a0 a1 a2 a3 a4 : Int} {fr lo mc1 ms1 : Nat} {CQ : Int → GG → Prop} {CX : String → GG → Prop} (hm : MX l yX5_buy cX5_buy 6 (some .int) fr lo mc1 ms1 D (tyC C) T (.ref (ad 102) :: [.int (iI a0), .int (iI a1), .int (iI a2), .int (iI a3), .int (iI a4)]) (cw ad C G) (RI ad C CQ) (RX ad C CX)) (hE : ∀ E G1, CX E G1 → E ∈ ([xIB, xIA, xIS] : List String)) (hfr : fr ≤ 6) (hlo : 8 + (6 + 11) + lo ≤ 200) (hmc : mc1 ≤ 1) (hms : ms1 ≤ 6) : MH l yL_buy cL_buy 7 (some .int) [(0, 11, 12, 15), (0, 11, 18, 17), (0, 11, 24, 19)] 7 200 1 6 D (tyC C) T (.ref (ad 102) :: [.int (iI a0), .int (iI a1), .int (iI a2), .int (iI a3), .int (iI a4)]) (cw ad C G) (RI ad C (fun r G1 => CQ r G1 ∨ (r = -903 ∧ CX xIB G1) ∨ (r = -901 ∧ CX xIA G1) ∨ (r = -902 ∧ CX xIS G1))) := by
  refine mh_of (by decide +kernel) (Nat.le_of_ble_eq_true rfl) rfl ?_
  refine aw_aload_n (q := 1) 0 dL_buy_0 rfl rfl rfl ?_
  refine aw_iload_n (q := 2) 1 dL_buy_1 rfl rfl rfl ?_
  refine aw_iload_n (q := 3) 2 dL_buy_2 rfl rfl rfl ?_
  refine aw_iload_n (q := 4) 3 dL_buy_3 rfl rfl rfl ?_
  refine aw_iload (q := 6) 4 dL_buy_4 rfl rfl ?_
  refine aw_iload (q := 8) 5 dL_buy_6 rfl rfl ?_
  refine aw_callXV (q := 11) (hh := [(0, 11, 12, 15), (0, 11, 18, 17), (0, 11, 24, 19)]) (As := [.int (iI a0), .int (iI a1), .int (iI a2), .int (iI a3), .int (iI a4)]) 102 5 hm (fun _ h => h) (by rw [show (102 : Nat) = (102 : Int).toNat from rfl, cw_get (by omega), cell_102]) rfl wc_X5_buy wm_RL_24 wi_X5_buy ws_X5_buy wn_X5 (by decide) rfl ⟨by show fr + 1 ≤ 7; omega, hlo⟩ ⟨by show 0 + mc1 ≤ 1; omega, by show 0 + ms1 ≤ 6; omega⟩ (Nat.le_of_ble_eq_true rfl) dL_buy_8 rfl (fun _ h => h) ?_ ?_
  · rintro v9 w9 ⟨r9, G9, rfl, rfl, h9⟩
    exact rt_i rfl (by omega) (by omega) (Or.inl h9) dL_buy_11
  · rintro E9 w9 ⟨G9, rfl, h9⟩
    have hE9 := hE _ _ h9
    simp only [List.mem_cons, List.mem_nil_iff, or_false] at hE9
    rcases hE9 with rfl | rfl | rfl
    · refine ⟨[], (0, 11, 12, 15), [(0, 11, 18, 17), (0, 11, 24, 19)], rfl, (fun z hz => by cases hz), rfl, by decide, by decide, wl_RL_15, by decide, fun q9 => ?_⟩
      refine aw_astore (q := 14) [0] dL_buy_12 rfl (by decide) rfl rfl ?_
      refine aw_sipush (q := 17) dL_buy_14 rfl (by decide) ?_
      exact rt_i rfl (by omega) (by omega) (Or.inr (Or.inl ⟨rfl, h9⟩)) dL_buy_17
    · refine ⟨[(0, 11, 12, 15)], (0, 11, 18, 17), [(0, 11, 24, 19)], rfl, ?pre, rfl, by decide, by decide, wl_RL_17, by decide, fun q9 => ?_⟩
      case pre =>
        intro z hz
        simp only [List.mem_cons, List.mem_nil_iff, or_false] at hz
        subst hz
        · exact ⟨by decide, wl_RL_15, by decide⟩
      refine aw_astore (q := 20) [0] dL_buy_18 rfl (by decide) rfl rfl ?_
      refine aw_sipush (q := 23) dL_buy_20 rfl (by decide) ?_
      exact rt_i rfl (by omega) (by omega) (Or.inr (Or.inr (Or.inl ⟨rfl, h9⟩))) dL_buy_23
    · refine ⟨[(0, 11, 12, 15), (0, 11, 18, 17)], (0, 11, 24, 19), [], rfl, ?pre, rfl, by decide, by decide, wl_RL_19, by decide, fun q9 => ?_⟩
      case pre =>
        intro z hz
        simp only [List.mem_cons, List.mem_nil_iff, or_false] at hz
        rcases hz with rfl | rfl
        · exact ⟨by decide, wl_RL_15, by decide⟩
        · exact ⟨by decide, wl_RL_17, by decide⟩
      refine aw_astore (q := 26) [0] dL_buy_24 rfl (by decide) rfl rfl ?_
      refine aw_sipush (q := 29) dL_buy_26 rfl (by decide) ?_
      exact rt_i rfl (by omega) (by omega) (Or.inr (Or.inr (Or.inr (⟨rfl, h9⟩)))) dL_buy_29
set_option maxHeartbeats 4000000 in
set_option maxRecDepth 100000 in
theorem cL_h_fill {l : Launch} {D : va_G} {C : Nat → ClassId} {T : Nat → Nat} {ad : Int → Nat} (G : GG) {a0 a1 : Int} {fr lo mc1 ms1 : Nat} {CQ : Int → GG → Prop} {CX : String → GG → Prop} (hm : MX l yX5_fill cX5_fill 3 (some .int) fr lo mc1 ms1 D (tyC C) T (.ref (ad 102) :: [.int (iI a0), .int (iI a1)]) (cw ad C G) (RI ad C CQ) (RX ad C CX)) (hE : ∀ E G1, CX E G1 → E ∈ ([xIB, xIA] : List String)) (hfr : fr ≤ 6) (hlo : 8 + (3 + 11) + lo ≤ 200) (hmc : mc1 ≤ 1) (hms : ms1 ≤ 6) : MH l yL_fill cL_fill 4 (some .int) [(0, 6, 7, 15), (0, 6, 12, 17)] 7 200 1 6 D (tyC C) T (.ref (ad 102) :: [.int (iI a0), .int (iI a1)]) (cw ad C G) (RI ad C (fun r G1 => CQ r G1 ∨ (r = -903 ∧ CX xIB G1) ∨ (r = -901 ∧ CX xIA G1))) := by
  refine mh_of (by decide +kernel) (Nat.le_of_ble_eq_true rfl) rfl ?_
  refine aw_aload_n (q := 1) 0 dL_fill_0 rfl rfl rfl ?_
  refine aw_iload_n (q := 2) 1 dL_fill_1 rfl rfl rfl ?_
  refine aw_iload_n (q := 3) 2 dL_fill_2 rfl rfl rfl ?_
  refine aw_callXV (q := 6) (hh := [(0, 6, 7, 15), (0, 6, 12, 17)]) (As := [.int (iI a0), .int (iI a1)]) 102 2 hm (fun _ h => h) (by rw [show (102 : Nat) = (102 : Int).toNat from rfl, cw_get (by omega), cell_102]) rfl wc_X5_fill wm_RL_21 wi_X5_fill ws_X5_fill wn_X5 (by decide) rfl ⟨by show fr + 1 ≤ 7; omega, hlo⟩ ⟨by show 0 + mc1 ≤ 1; omega, by show 0 + ms1 ≤ 6; omega⟩ (Nat.le_of_ble_eq_true rfl) dL_fill_3 rfl (fun _ h => h) ?_ ?_
  · rintro v9 w9 ⟨r9, G9, rfl, rfl, h9⟩
    exact rt_i rfl (by omega) (by omega) (Or.inl h9) dL_fill_6
  · rintro E9 w9 ⟨G9, rfl, h9⟩
    have hE9 := hE _ _ h9
    simp only [List.mem_cons, List.mem_nil_iff, or_false] at hE9
    rcases hE9 with rfl | rfl
    · refine ⟨[], (0, 6, 7, 15), [(0, 6, 12, 17)], rfl, (fun z hz => by cases hz), rfl, by decide, by decide, wl_RL_15, by decide, fun q9 => ?_⟩
      refine aw_astore_n (q := 8) [0] dL_fill_7 rfl rfl (by decide) rfl rfl ?_
      refine aw_sipush (q := 11) dL_fill_8 rfl (by decide) ?_
      exact rt_i rfl (by omega) (by omega) (Or.inr (Or.inl ⟨rfl, h9⟩)) dL_fill_11
    · refine ⟨[(0, 6, 7, 15)], (0, 6, 12, 17), [], rfl, ?pre, rfl, by decide, by decide, wl_RL_17, by decide, fun q9 => ?_⟩
      case pre =>
        intro z hz
        simp only [List.mem_cons, List.mem_nil_iff, or_false] at hz
        subst hz
        · exact ⟨by decide, wl_RL_15, by decide⟩
      refine aw_astore_n (q := 13) [0] dL_fill_12 rfl rfl (by decide) rfl rfl ?_
      refine aw_sipush (q := 16) dL_fill_13 rfl (by decide) ?_
      exact rt_i rfl (by omega) (by omega) (Or.inr (Or.inr (⟨rfl, h9⟩))) dL_fill_16
set_option maxHeartbeats 4000000 in
set_option maxRecDepth 100000 in
theorem cL_h_pass {l : Launch} {D : va_G} {C : Nat → ClassId} {T : Nat → Nat} {ad : Int → Nat} (G : GG) {a0 : Int} {fr lo mc1 ms1 : Nat} {CQ : Int → GG → Prop} {CX : String → GG → Prop} (hm : MX l yX5_pass cX5_pass 2 (some .int) fr lo mc1 ms1 D (tyC C) T (.ref (ad 102) :: [.int (iI a0)]) (cw ad C G) (RI ad C CQ) (RX ad C CX)) (hE : ∀ E G1, CX E G1 → E ∈ ([xIA, xIS] : List String)) (hfr : fr ≤ 6) (hlo : 8 + (2 + 11) + lo ≤ 200) (hmc : mc1 ≤ 1) (hms : ms1 ≤ 6) : MH l yL_pass cL_pass 3 (some .int) [(0, 5, 6, 17), (0, 5, 11, 19)] 7 200 1 6 D (tyC C) T (.ref (ad 102) :: [.int (iI a0)]) (cw ad C G) (RI ad C (fun r G1 => CQ r G1 ∨ (r = -901 ∧ CX xIA G1) ∨ (r = -902 ∧ CX xIS G1))) := by
  refine mh_of (by decide +kernel) (Nat.le_of_ble_eq_true rfl) rfl ?_
  refine aw_aload_n (q := 1) 0 dL_pass_0 rfl rfl rfl ?_
  refine aw_iload_n (q := 2) 1 dL_pass_1 rfl rfl rfl ?_
  refine aw_callXV (q := 5) (hh := [(0, 5, 6, 17), (0, 5, 11, 19)]) (As := [.int (iI a0)]) 102 1 hm (fun _ h => h) (by rw [show (102 : Nat) = (102 : Int).toNat from rfl, cw_get (by omega), cell_102]) rfl wc_X5_pass wm_RL_28 wi_X5_pass ws_X5_pass wn_X5 (by decide) rfl ⟨by show fr + 1 ≤ 7; omega, hlo⟩ ⟨by show 0 + mc1 ≤ 1; omega, by show 0 + ms1 ≤ 6; omega⟩ (Nat.le_of_ble_eq_true rfl) dL_pass_2 rfl (fun _ h => h) ?_ ?_
  · rintro v9 w9 ⟨r9, G9, rfl, rfl, h9⟩
    exact rt_i rfl (by omega) (by omega) (Or.inl h9) dL_pass_5
  · rintro E9 w9 ⟨G9, rfl, h9⟩
    have hE9 := hE _ _ h9
    simp only [List.mem_cons, List.mem_nil_iff, or_false] at hE9
    rcases hE9 with rfl | rfl
    · refine ⟨[], (0, 5, 6, 17), [(0, 5, 11, 19)], rfl, (fun z hz => by cases hz), rfl, by decide, by decide, wl_RL_17, by decide, fun q9 => ?_⟩
      refine aw_astore_n (q := 7) [0] dL_pass_6 rfl rfl (by decide) rfl rfl ?_
      refine aw_sipush (q := 10) dL_pass_7 rfl (by decide) ?_
      exact rt_i rfl (by omega) (by omega) (Or.inr (Or.inl ⟨rfl, h9⟩)) dL_pass_10
    · refine ⟨[(0, 5, 6, 17)], (0, 5, 11, 19), [], rfl, ?pre, rfl, by decide, by decide, wl_RL_19, by decide, fun q9 => ?_⟩
      case pre =>
        intro z hz
        simp only [List.mem_cons, List.mem_nil_iff, or_false] at hz
        subst hz
        · exact ⟨by decide, wl_RL_17, by decide⟩
      refine aw_astore_n (q := 12) [0] dL_pass_11 rfl rfl (by decide) rfl rfl ?_
      refine aw_sipush (q := 15) dL_pass_12 rfl (by decide) ?_
      exact rt_i rfl (by omega) (by omega) (Or.inr (Or.inr (⟨rfl, h9⟩))) dL_pass_15
