section RWH
variable {l : Launch} {own nm : String} {cc : ByteArray} {nL : Nat} {ret : Option FieldType} {X : Code → Prop} {R : Room} {E : List Frame → Array Value → State → State → Prop} {D : va_G} {ty : List (ClassId × FieldType)} {Z : State → Prop} {w0 : va_W} {pc q : Nat} {lv : List (Nat × Value)} {st : List Value} {ws : va_W} {k n : Nat}
theorem aw_get {C : String} {TT : u_T} {N ci j idx : Nat} {fs : List Value} {a : Nat} {v : Value} (q0 : Nat) (hc : vwCl[ci]? = some (C, TT, N)) (hj : j < N) (hin : ∀ w ∈ u_ws C TT N, w ∈ gt) (ho : (TT j).1 = C) (he : ws[q0]? = some (a, .inr (ci, fs))) (hw : Cond.fieldLink own idx C (TT j).2.1 (TT j).2.2.1 ∈ gt) (hv : fs[j]? = some v) (d : decode cc pc = .ok (.getfield idx, 3)) (hq : pc + 3 = q)
    (kk : AW l own nm cc nL ret X R E D ty Z w0 q lv (v :: st) ws k n) : AW l own nm cc nL ret X R E D ty Z w0 pc lv (.ref a :: st) ws k n := by
  subst hq
  intro p e s m args below meth c hC hK hZ H locs ls hP hD hS hl
  obtain ⟨hx, hb, hml, hown, hts, hr, hlk, hnm, hX⟩ := id hC
  exact va_get hx hb hts hin hown hK hP q0 he hc j hj (hts _ hw) (fun x hx => by rw [ho] at hx; exact hx) hv d (kk p e s m args below meth c hC hK hZ H locs ls hP hD hS hl)
theorem aw_put {C : String} {TT : u_T} {N ci j idx : Nat} {fs : List Value} {a : Nat} {v : Value} (q0 : Nat) (hc : vwCl[ci]? = some (C, TT, N)) (hj : j < N) (hin : ∀ w ∈ u_ws C TT N, w ∈ gt) (ho : (TT j).1 = C) (he : ws[q0]? = some (a, .inr (ci, fs))) (tt : Nat → FieldType) (htt : ∀ k, k < N → parseFieldDescriptor (TT k).2.2.1 = some (tt k)) (hnn : ∀ a, a < N → ∀ b, b < N → a ≠ b → (TT a).2.1 ≠ (TT b).2.1) (hfin : (TT j).2.2.2 = false ∨ (nm = "<init>" ∧ C = own)) (hn : narrow (tt j) v = v) (hfit : fits (tt j) v = true) (hl9 : j < fs.length)
    (hw : Cond.fieldLink own idx C (TT j).2.1 (TT j).2.2.1 ∈ gt) (d : decode cc pc = .ok (.putfield idx, 3)) (hq : pc + 3 = q)
    (kk : AW l own nm cc nL ret X R E D ty Z w0 q lv st (ws.set q0 (a, .inr (ci, fs.set j v))) k n) : AW l own nm cc nL ret X R E D ty Z w0 pc lv (v :: .ref a :: st) ws k n := by
  subst hq
  intro p e s m args below meth c hC hK hZ H locs ls hP hD hS hl
  obtain ⟨hx, hb, hml, hown, hts, hr, hlk, hnm, hX⟩ := id hC
  by_cases hf : (TT j).2.2.2 = false
  · exact va_put hx hb hts hin tt htt hnn hown hK hP hD hS q0 he hc j hj (hts _ hw) (fun x hx => by rw [ho] at hx; exact hx) hf (htt j hj) hn hfit hl9 d (fun H locs hP hD hS => (kk p e s m args below meth c hC hK hZ H locs ls hP hD hS hl))
  · obtain ⟨h1, h2⟩ := hfin.resolve_left hf
    exact va_putF hx hb hts hin tt htt hnn hown hK hP hD hS q0 he hc j hj (hts _ hw) (fun x hx => by rw [ho] at hx; exact hx) (by simpa using hf) (hnm.trans h1) (ho.trans h2) (htt j hj) hn hfit hl9 d (fun H locs hP hD hS => (kk p e s m args below meth c hC hK hZ H locs ls hP hD hS hl))
theorem aw_iald {a : Nat} {cA : ClassId} {N : Nat} {f : Nat → Int32} {i : Int32} (q0 t0 : Nat) (he : ws[q0]? = some (a, .inl (cA, N, .inl f))) (ht : ty[t0]? = some (cA, .int)) (hin : vp_in i N) (d : decode cc pc = .ok (.iaload, 1)) (hq : pc + 1 = q)
    (kk : AW l own nm cc nL ret X R E D ty Z w0 q lv (.int (f i.toNatClampNeg) :: st) ws k n) : AW l own nm cc nL ret X R E D ty Z w0 pc lv (.int i :: .ref a :: st) ws k n := by
  subst hq
  intro p e s m args below meth c hC hK hZ H locs ls hP hD hS hl
  obtain ⟨hx, hb, hml, hown, hts, hr, hlk, hnm, hX⟩ := id hC
  exact va_iald hx hb hK hP q0 t0 he ht hin d (kk p e s m args below meth c hC hK hZ H locs ls hP hD hS hl)
theorem aw_zald {a : Nat} {cA : ClassId} {N : Nat} {f : Nat → Int32} {i : Int32} (q0 t0 : Nat) (he : ws[q0]? = some (a, .inl (cA, N, .inl f))) (ht : ty[t0]? = some (cA, .boolean)) (hin : vp_in i N) (d : decode cc pc = .ok (.baload, 1)) (hq : pc + 1 = q)
    (kk : AW l own nm cc nL ret X R E D ty Z w0 q lv (.int (f i.toNatClampNeg) :: st) ws k n) : AW l own nm cc nL ret X R E D ty Z w0 pc lv (.int i :: .ref a :: st) ws k n := by
  subst hq
  intro p e s m args below meth c hC hK hZ H locs ls hP hD hS hl
  obtain ⟨hx, hb, hml, hown, hts, hr, hlk, hnm, hX⟩ := id hC
  exact va_zald hx hb hK hP q0 t0 he ht hin d (kk p e s m args below meth c hC hK hZ H locs ls hP hD hS hl)
theorem aw_lald {a : Nat} {cA : ClassId} {N : Nat} {f : Nat → Int64} {i : Int32} (q0 t0 : Nat) (he : ws[q0]? = some (a, .inl (cA, N, .inr (.inl f)))) (ht : ty[t0]? = some (cA, .long)) (hin : vp_in i N) (d : decode cc pc = .ok (.laload, 1)) (hq : pc + 1 = q)
    (kk : AW l own nm cc nL ret X R E D ty Z w0 q lv (.long (f i.toNatClampNeg) :: st) ws k n) : AW l own nm cc nL ret X R E D ty Z w0 pc lv (.int i :: .ref a :: st) ws k n := by
  subst hq
  intro p e s m args below meth c hC hK hZ H locs ls hP hD hS hl
  obtain ⟨hx, hb, hml, hown, hts, hr, hlk, hnm, hX⟩ := id hC
  exact va_lald hx hb hK hP q0 t0 he ht hin d (kk p e s m args below meth c hC hK hZ H locs ls hP hD hS hl)
theorem aw_dald {a : Nat} {cA : ClassId} {N : Nat} {f : Nat → UInt64} {i : Int32} (q0 t0 : Nat) (he : ws[q0]? = some (a, .inl (cA, N, .inr (.inr (.inr (.inl f)))))) (ht : ty[t0]? = some (cA, .double)) (hin : vp_in i N) (d : decode cc pc = .ok (.daload, 1)) (hq : pc + 1 = q)
    (kk : AW l own nm cc nL ret X R E D ty Z w0 q lv (.double (f i.toNatClampNeg) :: st) ws k n) : AW l own nm cc nL ret X R E D ty Z w0 pc lv (.int i :: .ref a :: st) ws k n := by
  subst hq
  intro p e s m args below meth c hC hK hZ H locs ls hP hD hS hl
  obtain ⟨hx, hb, hml, hown, hts, hr, hlk, hnm, hX⟩ := id hC
  exact va_dald hx hb hK hP q0 t0 he ht hin d (kk p e s m args below meth c hC hK hZ H locs ls hP hD hS hl)
theorem aw_iast {a : Nat} {cA : ClassId} {N : Nat} {f : Nat → Int32} {i : Int32} {x : Int32} (q0 t0 : Nat) (he : ws[q0]? = some (a, .inl (cA, N, .inl f))) (ht : ty[t0]? = some (cA, .int)) (hin : vp_in i N) (d : decode cc pc = .ok (.iastore, 1)) (hq : pc + 1 = q)
    (kk : AW l own nm cc nL ret X R E D ty Z w0 q lv st (ws.set q0 (a, .inl (cA, N, .inl (upd f i.toNatClampNeg x)))) k n) : AW l own nm cc nL ret X R E D ty Z w0 pc lv (.int x :: .int i :: .ref a :: st) ws k n := by
  subst hq
  intro p e s m args below meth c hC hK hZ H locs ls hP hD hS hl
  obtain ⟨hx, hb, hml, hown, hts, hr, hlk, hnm, hX⟩ := id hC
  exact va_iast hx hb hK hP hD hS q0 t0 he ht hin d (fun H locs hP hD hS => (kk p e s m args below meth c hC hK hZ H locs ls hP hD hS hl))
theorem aw_zast {a : Nat} {cA : ClassId} {N : Nat} {f : Nat → Int32} {i : Int32} {x : Int32} (q0 t0 : Nat) (he : ws[q0]? = some (a, .inl (cA, N, .inl f))) (ht : ty[t0]? = some (cA, .boolean)) (hin : vp_in i N) (d : decode cc pc = .ok (.bastore, 1)) (hq : pc + 1 = q)
    (kk : AW l own nm cc nL ret X R E D ty Z w0 q lv st (ws.set q0 (a, .inl (cA, N, .inl (upd f i.toNatClampNeg (vp_nar .boolean x))))) k n) : AW l own nm cc nL ret X R E D ty Z w0 pc lv (.int x :: .int i :: .ref a :: st) ws k n := by
  subst hq
  intro p e s m args below meth c hC hK hZ H locs ls hP hD hS hl
  obtain ⟨hx, hb, hml, hown, hts, hr, hlk, hnm, hX⟩ := id hC
  exact va_zast hx hb hK hP hD hS q0 t0 he ht hin d (fun H locs hP hD hS => (kk p e s m args below meth c hC hK hZ H locs ls hP hD hS hl))
theorem aw_last {a : Nat} {cA : ClassId} {N : Nat} {f : Nat → Int64} {i : Int32} {x : Int64} (q0 t0 : Nat) (he : ws[q0]? = some (a, .inl (cA, N, .inr (.inl f)))) (ht : ty[t0]? = some (cA, .long)) (hin : vp_in i N) (d : decode cc pc = .ok (.lastore, 1)) (hq : pc + 1 = q)
    (kk : AW l own nm cc nL ret X R E D ty Z w0 q lv st (ws.set q0 (a, .inl (cA, N, .inr (.inl (vp_updL f i.toNatClampNeg x))))) k n) : AW l own nm cc nL ret X R E D ty Z w0 pc lv (.long x :: .int i :: .ref a :: st) ws k n := by
  subst hq
  intro p e s m args below meth c hC hK hZ H locs ls hP hD hS hl
  obtain ⟨hx, hb, hml, hown, hts, hr, hlk, hnm, hX⟩ := id hC
  exact va_last hx hb hK hP hD hS q0 t0 he ht hin d (fun H locs hP hD hS => (kk p e s m args below meth c hC hK hZ H locs ls hP hD hS hl))
theorem aw_dast {a : Nat} {cA : ClassId} {N : Nat} {f : Nat → UInt64} {i : Int32} {x : UInt64} (q0 t0 : Nat) (he : ws[q0]? = some (a, .inl (cA, N, .inr (.inr (.inr (.inl f)))))) (ht : ty[t0]? = some (cA, .double)) (hin : vp_in i N) (d : decode cc pc = .ok (.dastore, 1)) (hq : pc + 1 = q)
    (kk : AW l own nm cc nL ret X R E D ty Z w0 q lv st (ws.set q0 (a, .inl (cA, N, .inr (.inr (.inr (.inl (vf_upd f i.toNatClampNeg x))))))) k n) : AW l own nm cc nL ret X R E D ty Z w0 pc lv (.double x :: .int i :: .ref a :: st) ws k n := by
  subst hq
  intro p e s m args below meth c hC hK hZ H locs ls hP hD hS hl
  obtain ⟨hx, hb, hml, hown, hts, hr, hlk, hnm, hX⟩ := id hC
  exact va_dast hx hb hK hP hD hS q0 t0 he ht hin d (fun H locs hP hD hS => (kk p e s m args below meth c hC hK hZ H locs ls hP hD hS hl))
theorem aw_ald {a b : Nat} {cA : ClassId} {C : String} {N : Nat} {f : Nat → Option Nat} {i : Int32} (q0 t0 : Nat) (he : ws[q0]? = some (a, .inl (cA, N, .inr (.inr (.inr (.inr f)))))) (ht : ty[t0]? = some (cA, .object C)) (hin : vp_in i N) (hv : f i.toNatClampNeg = some b) (d : decode cc pc = .ok (.aaload, 1)) (hq : pc + 1 = q)
    (kk : AW l own nm cc nL ret X R E D ty Z w0 q lv (.ref b :: st) ws k n) : AW l own nm cc nL ret X R E D ty Z w0 pc lv (.int i :: .ref a :: st) ws k n := by
  subst hq
  intro p e s m args below meth c hC hK hZ H locs ls hP hD hS hl
  obtain ⟨hx, hb, hml, hown, hts, hr, hlk, hnm, hX⟩ := id hC
  exact va_aldq hx hb hK hP q0 t0 he ht hin d (by rw [hv]; exact (kk p e s m args below meth c hC hK hZ H locs ls hP hD hS hl))
theorem aw_ast {a b : Nat} {cA : ClassId} {r : vw_C} {N : Nat} {f : Nat → Option Nat} {i : Int32} {vs : List Value} {ci : Nat} (q0 t0 qk : Nat) (he : ws[q0]? = some (a, .inl (cA, N, .inr (.inr (.inr (.inr f)))))) (ht : ty[t0]? = some (cA, .object r.1)) (hv : ws[qk]? = some (b, .inr (ci, vs))) (hc : vwCl[ci]? = some r) (hin : vp_in i N) (d : decode cc pc = .ok (.aastore, 1)) (hq : pc + 1 = q)
    (kk : AW l own nm cc nL ret X R E D ty Z w0 q lv st (ws.set q0 (a, .inl (cA, N, .inr (.inr (.inr (.inr (va_up f i.toNatClampNeg (some b)))))))) k n) : AW l own nm cc nL ret X R E D ty Z w0 pc lv (.ref b :: .int i :: .ref a :: st) ws k n := by
  subst hq
  intro p e s m args below meth c hC hK hZ H locs ls hP hD hS hl
  obtain ⟨hx, hb, hml, hown, hts, hr, hlk, hnm, hX⟩ := id hC
  exact va_astq hx hb hK hP hD hS q0 t0 qk ci he ht hv hc hin d (fun H locs hP hD hS => (kk p e s m args below meth c hC hK hZ H locs ls hP hD hS hl))
theorem aw_alen {a : Nat} {cA : ClassId} {x : vp_A} {t : FieldType} {z : Int} (q0 t0 : Nat) (he : ws[q0]? = some (a, .inl (cA, x))) (ht : ty[t0]? = some (cA, t)) (hz : Int32.ofNat x.1 = iI z) (d : decode cc pc = .ok (.arraylength, 1)) (hq : pc + 1 = q)
    (kk : AW l own nm cc nL ret X R E D ty Z w0 q lv (.int (iI z) :: st) ws k n) : AW l own nm cc nL ret X R E D ty Z w0 pc lv (.ref a :: st) ws k n := by
  subst hq
  intro p e s m args below meth c hC hK hZ H locs ls hP hD hS hl
  obtain ⟨hx, hb, hml, hown, hts, hr, hlk, hnm, hX⟩ := id hC
  exact va_alen hx hb hK hP q0 t0 he ht hz d (kk p e s m args below meth c hC hK hZ H locs ls hP hD hS hl)
theorem aw_new {C : String} {TT : u_T} {N ci idx : Nat} {fs : List Value} (tt : Nat → FieldType) (htt : ∀ k, k < N → parseFieldDescriptor (TT k).2.2.1 = some (tt k)) (hc : vwCl[ci]? = some (C, TT, N)) (hin : ∀ w ∈ u_ws C TT N, w ∈ gt) (hw : Cond.classLink own idx C ∈ gt) (hw2 : Cond.instantiable C N ∈ gt) (hw3 : Cond.initialized C ∈ gt) (hfs : ∀ j, j < N → defaultValue (tt j) = vp_V fs j) (hc1 : k + 1 ≤ R.cells) (hs1 : n + N ≤ R.slots) (d : decode cc pc = .ok (.new idx, 3)) (hq : pc + 3 = q)
    (kk : ∀ a : Nat, AW l own nm cc nL ret X R E D ty Z w0 q lv (.ref a :: st) (ws ++ [(a, .inr (ci, fs))]) (k + 1) (n + N)) : AW l own nm cc nL ret X R E D ty Z w0 pc lv st ws k n := by
  subst hq
  intro p e s m args below meth c hC hK hZ H locs ls hP hD hS hl
  obtain ⟨hx, hb, hml, hown, hts, hr, hlk, hnm, hX⟩ := id hC
  exact va_new hx hb hts hin tt htt hown (hts _ hw) (hts _ hw2) (hts _ hw3) hK hP hD hS (fun _ h => Or.inr h) hc hfs hc1 hs1 d (fun a H1 hP hD hS => kk a p e s m args below meth c hC hK hZ H1 locs ls hP hD hS hl)
theorem va_sameA {D : va_G} {ty : List (ClassId × FieldType)} {s : State} {c1 cA : ClassId} {t : FieldType} {t0 : Nat} (h : va_K D vwCl (ty ++ [(cA, t)]) s) (ht : ty[t0]? = some (c1, t)) : cA = c1 := by
  have h1 := (h.2 ty.length (cA, t) (by simp)).2
  have h2 := (h.2 t0 (c1, t) (by rw [List.getElem?_append_left (List.getElem?_eq_some_iff.mp ht).1]; exact ht)).2
  cases t with
  | object C =>
    obtain ⟨_, _, _, _, _, e1⟩ := h1
    obtain ⟨_, _, _, _, _, e2⟩ := h2
    exact Option.some.inj (e1.symm.trans e2)
  | _ => exact Option.some.inj (h1.symm.trans h2)
theorem aw_newa {at0 : ArrayType} {t : FieldType} {cA : ClassId} {i : Int32} {N : Nat} {a0 : vp_A} (t0 : Nat) (hty : newarray.typeOf at0 = t) (ht : ty[t0]? = some (cA, t)) (hw : Cond.arrayClass t ∈ gt) (ha : ∀ cA : ClassId, vp_cell cA a0 = arrV cA N (fun _ => defaultValue t)) (hn : ¬ i < 0) (hN : i.toNatClampNeg = N) (hb9 : N * componentBytes t ≤ 536870912) (hc1 : k + 1 ≤ R.cells) (hs1 : n + N ≤ R.slots) (d : decode cc pc = .ok (.newarray at0, 2)) (hq : pc + 2 = q)
    (kk : ∀ a : Nat, AW l own nm cc nL ret X R E D ty Z w0 q lv (.ref a :: st) (ws ++ [(a, .inl (cA, a0))]) (k + 1) (n + N)) : AW l own nm cc nL ret X R E D ty Z w0 pc lv (.int i :: st) ws k n := by
  subst hq
  intro p e s m args below meth c hC hK hZ H locs ls hP hD hS hl
  obtain ⟨hx, hb, hml, hown, hts, hr, hlk, hnm, hX⟩ := id hC
  refine va_newa hx hb (by rw [hty]; exact hts _ hw) hty hK hP hD hS (fun _ h => Or.inr h) ha hn hN hb9 hc1 hs1 d (fun a cB H1 hK1 hP1 hD1 hS1 => ?_)
  have e9 := va_sameA hK1 ht
  subst e9
  exact kk a p e s m args below meth c hC hK hZ H1 locs ls hP1 hD1 hS1 hl
theorem aw_newq {C : String} {idx : Nat} {cA : ClassId} {i : Int32} {N : Nat} (t0 : Nat) (ht : ty[t0]? = some (cA, .object C)) (hw : Cond.classLink own idx C ∈ gt) (hAO : ∀ s, Z s → va_AO C s) (hn : ¬ i < 0) (hN : i.toNatClampNeg = N) (hb9 : N * 4 ≤ 536870912) (hc1 : k + 1 ≤ R.cells) (hs1 : n + N ≤ R.slots) (d : decode cc pc = .ok (.anewarray idx, 3)) (hq : pc + 3 = q)
    (kk : ∀ a : Nat, AW l own nm cc nL ret X R E D ty Z w0 q lv (.ref a :: st) (ws ++ [(a, .inl (cA, N, .inr (.inr (.inr (.inr (fun _ => none))))))]) (k + 1) (n + N)) : AW l own nm cc nL ret X R E D ty Z w0 pc lv (.int i :: st) ws k n := by
  subst hq
  intro p e s m args below meth c hC hK hZ H locs ls hP hD hS hl
  obtain ⟨hx, hb, hml, hown, hts, hr, hlk, hnm, hX⟩ := id hC
  refine va_newq hx hb hown (hts _ hw) (hAO s hZ) hK hP hD hS (fun _ h => Or.inr h) hn hN hb9 hc1 hs1 d (fun a cB H1 hK1 hP1 hD1 hS1 => ?_)
  have e9 := va_sameA hK1 ht
  subst e9
  exact kk a p e s m args below meth c hC hK hZ H1 locs ls hP1 hD1 hS1 hl
theorem aw_objInit {idx a : Nat} (hw : Cond.methodLink own idx objectInit ∈ gt) (hw2 : Cond.instanceMethod objectInit ∈ gt) (hw3 : Cond.code objectInit ⟨#[0xb1]⟩ 1 none ∈ gt) (hf : 1 ≤ R.frames) (hlo : (st.map fun v => v.category).sum + 12 ≤ R.locals) (d : decode cc pc = .ok (.invokespecial idx, 3)) (hq : pc + 3 = q)
    (kk : AW l own nm cc nL ret X R E D ty Z w0 q lv st ws k n) : AW l own nm cc nL ret X R E D ty Z w0 pc lv (.ref a :: st) ws k n := by
  subst hq
  intro p e s m args below meth c hC hK hZ H locs ls hP hD hS hl
  obtain ⟨hx, hb, hml, hown, hts, hr, hlk, hnm, hX⟩ := id hC
  exact W.objInit (g := F0 m pc ls (.ref a :: st)) hx hb hown (hts _ hw) (hts _ hw2) (hts _ hw3) rfl (hl.1.trans hml.symm) rfl d hf (by show 2 * 0 + _ + 12 ≤ _; omega) (kk p e s m args below meth c hC hK hZ H locs ls hP hD hS hl)
theorem aw_gets {T : Nat → Nat} {idx : Nat} (t : Nat) (ht : t < 5) (hZT : ∀ s, Z s → hvSt T (va_A w0 s.heap.size) s s.heap) (hw : Cond.fieldLink own idx RX5 (tbN t) "[I" ∈ gt) (d : decode cc pc = .ok (.getstatic idx, 3)) (hq : pc + 3 = q)
    (kk : AW l own nm cc nL ret X R E D ty Z w0 q lv (.ref (T t) :: st) ws k n) : AW l own nm cc nL ret X R E D ty Z w0 pc lv st ws k n := by
  subst hq
  intro p e s m args below meth c hC hK hZ H locs ls hP hD hS hl
  obtain ⟨hx, hb, hml, hown, hts, hr, hlk, hnm, hX⟩ := id hC
  exact va_gets hx hb ((hZT s hZ).1 t ht).1 hS hown (hts _ hw) (fun _ h => h) d (kk p e s m args below meth c hC hK hZ H locs ls hP hD hS hl)
theorem aw_ti {T : Nat → Nat} {i : Int} (t : Nat) (ht : t < 5) (hZT : ∀ s, Z s → hvSt T (va_A w0 s.heap.size) s s.heap) (hi : 0 ≤ i ∧ i < tbL t) (d : decode cc pc = .ok (.iaload, 1)) (hq : pc + 1 = q)
    (kk : AW l own nm cc nL ret X R E D ty Z w0 q lv (.int (iI (tbV t i.toNat)) :: st) ws k n) : AW l own nm cc nL ret X R E D ty Z w0 pc lv (.int (iI i) :: .ref (T t) :: st) ws k n := by
  subst hq
  intro p e s m args below meth c hC hK hZ H locs ls hP hD hS hl
  obtain ⟨hx, hb, hml, hown, hts, hr, hlk, hnm, hX⟩ := id hC
  have h5 : tbL t ≤ 5 := by
    have : t = 0 ∨ t = 1 ∨ t = 2 ∨ t = 3 ∨ t = 4 := by omega
    rcases this with rfl | rfl | rfl | rfl | rfl <;> decide
  exact va_ti hx hb ((hZT s hZ).1 t ht).2 hS (iI_in hi (by omega)) (by rw [iI_nat (by omega)]) d (kk p e s m args below meth c hC hK hZ H locs ls hP hD hS hl)
theorem aw_min {idx : Nat} {x y : Int} (hw : Cond.methodLink own idx Lib.Math.min.name ∈ gt) (hw2 : Cond.static Lib.Math.min.name ∈ gt) (hw3 : Cond.initialized "java/lang/Math" ∈ gt) (hw4 : Cond.code Lib.Math.min.name Lib.Math.min.code 2 (some .int) ∈ gt) (hf : 1 ≤ R.frames) (hlo : (st.map fun v => v.category).sum + 13 ≤ R.locals) (hkc : k ≤ R.cells) (hnc : n ≤ R.slots) (hr0 : -2147483648 ≤ x ∧ x ≤ 2147483647) (hr1 : -2147483648 ≤ y ∧ y ≤ 2147483647) (d : decode cc pc = .ok (.invokestatic idx, 3)) (hq : pc + 3 = q)
    (kk : AW l own nm cc nL ret X R E D ty Z w0 q lv (.int (iI (min x y)) :: st) ws k n) : AW l own nm cc nL ret X R E D ty Z w0 pc lv (.int (iI y) :: .int (iI x) :: st) ws k n := by
  subst hq
  intro p e s m args below meth c hC hK hZ H locs ls hP hD hS hl
  obtain ⟨hx, hb, hml, hown, hts, hr, hlk, hnm, hX⟩ := id hC
  refine va_mmin hx hb (hml.trans hl.1.symm) hown (hts _ hw) (hts _ hw2) (hts _ hw3) (hts _ hw4) hf hlo hkc hnc d ?_
  have e9 : (if iI y < iI x then iI y else iI x) = iI (min x y) := by
    by_cases h : y < x
    · rw [if_pos ((iI_lt hr1 hr0).mpr h), show min x y = y by omega]
    · rw [if_neg (mt (iI_lt hr1 hr0).mp h), show min x y = x by omega]
  rw [e9]
  exact (kk p e s m args below meth c hC hK hZ H locs ls hP hD hS hl)
theorem aw_max {idx : Nat} {x y : Int} (hw : Cond.methodLink own idx Lib.Math.max.name ∈ gt) (hw2 : Cond.static Lib.Math.max.name ∈ gt) (hw3 : Cond.initialized "java/lang/Math" ∈ gt) (hw4 : Cond.code Lib.Math.max.name Lib.Math.max.code 2 (some .int) ∈ gt) (hf : 1 ≤ R.frames) (hlo : (st.map fun v => v.category).sum + 13 ≤ R.locals) (hkc : k ≤ R.cells) (hnc : n ≤ R.slots) (hr0 : -2147483648 ≤ x ∧ x ≤ 2147483647) (hr1 : -2147483648 ≤ y ∧ y ≤ 2147483647) (d : decode cc pc = .ok (.invokestatic idx, 3)) (hq : pc + 3 = q)
    (kk : AW l own nm cc nL ret X R E D ty Z w0 q lv (.int (iI (max x y)) :: st) ws k n) : AW l own nm cc nL ret X R E D ty Z w0 pc lv (.int (iI y) :: .int (iI x) :: st) ws k n := by
  subst hq
  intro p e s m args below meth c hC hK hZ H locs ls hP hD hS hl
  obtain ⟨hx, hb, hml, hown, hts, hr, hlk, hnm, hX⟩ := id hC
  refine va_mmax hx hb (hml.trans hl.1.symm) hown (hts _ hw) (hts _ hw2) (hts _ hw3) (hts _ hw4) hf hlo hkc hnc d ?_
  have e9 : (if iI x < iI y then iI y else iI x) = iI (max x y) := by
    by_cases h : x < y
    · rw [if_pos ((iI_lt hr0 hr1).mpr h), show max x y = y by omega]
    · rw [if_neg (mt (iI_lt hr0 hr1).mp h), show max x y = x by omega]
  rw [e9]
  exact (kk p e s m args below meth c hC hK hZ H locs ls hP hD hS hl)
theorem aw_copy {idx : Nat} {a a0 : Nat} {c0 : ClassId} {n0 n1 : Nat} {f g : Nat → Int32} {sp dp z : Int} (q0 q1 t0 : Nat) (hw : Cond.methodLink own idx arraycopyName ∈ gt) (hw2 : Cond.native arraycopyName ∈ gt) (hw3 : Cond.static arraycopyName ∈ gt) (hw4 : Cond.initialized "java/lang/System" ∈ gt) (ha0 : ws[q0]? = some (a0, .inl (c0, n0, .inl f))) (ha1 : ws[q1]? = some (a, .inl (c0, n1, .inl g))) (ht0 : ty[t0]? = some (c0, .int)) (h1 : 0 ≤ sp ∧ 0 ≤ dp ∧ 0 ≤ z ∧ sp + z ≤ n0 ∧ dp + z ≤ n1) (hn0 : n0 ≤ 100000) (hn1 : n1 ≤ 100000) (hf : 1 ≤ R.frames) (hlo : (st.map fun v => v.category).sum + (nativeFrameWords "java/lang/System" "arraycopy" 5 + 11) ≤ R.locals) (d : decode cc pc = .ok (.invokestatic idx, 3)) (hq : pc + 3 = q)
    (kk : AW l own nm cc nL ret X R E D ty Z w0 q lv st (ws.set q1 (a, .inl (c0, n1, .inl (va_cpy f g sp.toNat dp.toNat z.toNat)))) k n) : AW l own nm cc nL ret X R E D ty Z w0 pc lv (.int (iI z) :: .int (iI dp) :: .ref a :: .int (iI sp) :: .ref a0 :: st) ws k n := by
  subst hq
  intro p e s m args below meth c hC hK hZ H locs ls hP hD hS hl
  obtain ⟨hx, hb, hml, hown, hts, hr, hlk, hnm, hX⟩ := id hC
  have z0 : (0 : Int32) = iI 0 := by decide
  have e1 : (iI sp).toNatClampNeg = sp.toNat := iI_nat (by omega)
  have e2 : (iI dp).toNatClampNeg = dp.toNat := iI_nat (by omega)
  have e3 : (iI z).toNatClampNeg = z.toNat := iI_nat (by omega)
  refine va_copyi hx hb (hml.trans hl.1.symm) hown (hts _ hw) (hts _ hw2) (hts _ hw3) (hts _ hw4) hK hP hD hS q0 q1 t0 t0 ha0 ha1 ht0 ht0 rfl ?_ ?_ ?_ (by omega) (by omega) (fun _ _ => rfl) hf hlo d (fun H1 locs1 hP hD hS => ?_)
  · rw [z0, iI_lt (by omega) (by omega)]; omega
  · rw [z0, iI_lt (by omega) (by omega)]; omega
  · rw [z0, iI_lt (by omega) (by omega)]; omega
  · rw [e1, e2, e3] at hP hD
    exact kk p e s m args below meth c hC hK hZ H1 locs1 ls hP hD hS hl
theorem aw_f2raw {idx : Nat} {b : UInt32} (hw : Cond.methodLink own idx ⟨"java/lang/Float", "floatToRawIntBits", "(F)I"⟩ ∈ gt) (hw2 : Cond.native ⟨"java/lang/Float", "floatToRawIntBits", "(F)I"⟩ ∈ gt) (hw3 : Cond.static ⟨"java/lang/Float", "floatToRawIntBits", "(F)I"⟩ ∈ gt) (hw4 : Cond.initialized "java/lang/Float" ∈ gt) (hf : 1 ≤ R.frames) (hlo : (st.map fun v => v.category).sum + 15 ≤ R.locals) (d : decode cc pc = .ok (.invokestatic idx, 3)) (hq : pc + 3 = q)
    (kk : AW l own nm cc nL ret X R E D ty Z w0 q lv (.int b.toInt32 :: st) ws k n) : AW l own nm cc nL ret X R E D ty Z w0 pc lv (.float b :: st) ws k n := by
  subst hq
  intro p e s m args below meth c hC hK hZ H locs ls hP hD hS hl
  obtain ⟨hx, hb, hml, hown, hts, hr, hlk, hnm, hX⟩ := id hC
  exact vn_f2i hx hb (hml.trans hl.1.symm) hown (hts _ hw) (hts _ hw2) (hts _ hw3) (hts _ hw4) hf hlo d (kk p e s m args below meth c hC hK hZ H locs ls hP hD hS hl)
theorem aw_raw2f {idx : Nat} {b : Int32} (hv : vn_sni2f b = false) (hw : Cond.methodLink own idx ⟨"java/lang/Float", "intBitsToFloat", "(I)F"⟩ ∈ gt) (hw2 : Cond.native ⟨"java/lang/Float", "intBitsToFloat", "(I)F"⟩ ∈ gt) (hw3 : Cond.static ⟨"java/lang/Float", "intBitsToFloat", "(I)F"⟩ ∈ gt) (hw4 : Cond.initialized "java/lang/Float" ∈ gt) (hf : 1 ≤ R.frames) (hlo : (st.map fun v => v.category).sum + 15 ≤ R.locals) (d : decode cc pc = .ok (.invokestatic idx, 3)) (hq : pc + 3 = q)
    (kk : AW l own nm cc nL ret X R E D ty Z w0 q lv (.float b.toUInt32 :: st) ws k n) : AW l own nm cc nL ret X R E D ty Z w0 pc lv (.int b :: st) ws k n := by
  subst hq
  intro p e s m args below meth c hC hK hZ H locs ls hP hD hS hl
  obtain ⟨hx, hb, hml, hown, hts, hr, hlk, hnm, hX⟩ := id hC
  exact vn_i2f hx hb (hml.trans hl.1.symm) hown (hts _ hw) (hts _ hw2) (hts _ hw3) (hts _ hw4) hv hf hlo d (kk p e s m args below meth c hC hK hZ H locs ls hP hD hS hl)
end RWH
