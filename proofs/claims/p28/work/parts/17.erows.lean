section RWE
variable {l : Launch} {own nm : String} {cc : ByteArray} {nL : Nat} {ret : Option FieldType} {X : Code → Prop} {R : Room} {E : List Frame → Array Value → State → State → Prop} {D : va_G} {ty : List (ClassId × FieldType)} {Z : State → Prop} {w0 ws : va_W} {pc q : Nat} {lv : List (Nat × Value)} {st : List Value} {k n : Nat}
theorem ae_iadd {x y : Int} (z : Int) (hz : x + y = z) (d : decode cc pc = .ok (.iadd, 1)) (hq : pc + 1 = q) (kk : AW l own nm cc nL ret X R E D ty Z w0 q lv (.int (iI z) :: st) ws k n) : AW l own nm cc nL ret X R E D ty Z w0 pc lv (.int (iI y) :: .int (iI x) :: st) ws k n := by
  subst hz
  exact aw_iadd d hq kk
theorem ae_isub {x y : Int} (z : Int) (hz : x - y = z) (d : decode cc pc = .ok (.isub, 1)) (hq : pc + 1 = q) (kk : AW l own nm cc nL ret X R E D ty Z w0 q lv (.int (iI z) :: st) ws k n) : AW l own nm cc nL ret X R E D ty Z w0 pc lv (.int (iI y) :: .int (iI x) :: st) ws k n := by
  subst hz
  exact aw_isub d hq kk
theorem ae_imul {x y : Int} (z : Int) (hz : x * y = z) (d : decode cc pc = .ok (.imul, 1)) (hq : pc + 1 = q) (kk : AW l own nm cc nL ret X R E D ty Z w0 q lv (.int (iI z) :: st) ws k n) : AW l own nm cc nL ret X R E D ty Z w0 pc lv (.int (iI y) :: .int (iI x) :: st) ws k n := by
  subst hz
  exact aw_imul d hq kk
theorem ae_ladd {x y : Int} (z : Int) (hz : x + y = z) (d : decode cc pc = .ok (.ladd, 1)) (hq : pc + 1 = q) (kk : AW l own nm cc nL ret X R E D ty Z w0 q lv (.long (iL z) :: st) ws k n) : AW l own nm cc nL ret X R E D ty Z w0 pc lv (.long (iL y) :: .long (iL x) :: st) ws k n := by
  subst hz
  exact aw_ladd d hq kk
theorem ae_lmul {x y : Int} (z : Int) (hz : x * y = z) (d : decode cc pc = .ok (.lmul, 1)) (hq : pc + 1 = q) (kk : AW l own nm cc nL ret X R E D ty Z w0 q lv (.long (iL z) :: st) ws k n) : AW l own nm cc nL ret X R E D ty Z w0 pc lv (.long (iL y) :: .long (iL x) :: st) ws k n := by
  subst hz
  exact aw_lmul d hq kk
theorem ae_iinc {i : Nat} {z : Int} {x : Int} {lv2 : List (Nat × Value)} (f : Nat) (ks : List Nat) (y : Int) (hy : x + z = y) (d : decode cc pc = .ok (.iinc i z, 3)) (hq : pc + 3 = q) (hf : lv[f]? = some (i, .int (iI x))) (hn : i < nL) (h2 : lv_pick ((i, Value.int (iI y)) :: lv.filter (fun q => !(q.1 == i) && !(q.1 + 1 == i && q.2.category == 2))) ks = lv2)
    (kk : AW l own nm cc nL ret X R E D ty Z w0 q lv2 st ws k n) : AW l own nm cc nL ret X R E D ty Z w0 pc lv st ws k n := by
  subst hy
  exact aw_iinc f ks d hq hf hn rfl h2 kk
theorem ae_min {idx : Nat} {x y : Int} (z : Int) (hz : min x y = z) (hw : Cond.methodLink own idx Lib.Math.min.name ∈ gt) (hw2 : Cond.static Lib.Math.min.name ∈ gt) (hw3 : Cond.initialized "java/lang/Math" ∈ gt) (hw4 : Cond.code Lib.Math.min.name Lib.Math.min.code 2 (some .int) ∈ gt) (hf : 1 ≤ R.frames) (hlo : (st.map fun v => v.category).sum + 13 ≤ R.locals) (hkc : k ≤ R.cells) (hnc : n ≤ R.slots) (hr0 : -2147483648 ≤ x ∧ x ≤ 2147483647) (hr1 : -2147483648 ≤ y ∧ y ≤ 2147483647) (d : decode cc pc = .ok (.invokestatic idx, 3)) (hq : pc + 3 = q)
    (kk : AW l own nm cc nL ret X R E D ty Z w0 q lv (.int (iI z) :: st) ws k n) : AW l own nm cc nL ret X R E D ty Z w0 pc lv (.int (iI y) :: .int (iI x) :: st) ws k n := by
  subst hz
  exact aw_min hw hw2 hw3 hw4 hf hlo hkc hnc hr0 hr1 d hq kk
theorem ae_max {idx : Nat} {x y : Int} (z : Int) (hz : max x y = z) (hw : Cond.methodLink own idx Lib.Math.max.name ∈ gt) (hw2 : Cond.static Lib.Math.max.name ∈ gt) (hw3 : Cond.initialized "java/lang/Math" ∈ gt) (hw4 : Cond.code Lib.Math.max.name Lib.Math.max.code 2 (some .int) ∈ gt) (hf : 1 ≤ R.frames) (hlo : (st.map fun v => v.category).sum + 13 ≤ R.locals) (hkc : k ≤ R.cells) (hnc : n ≤ R.slots) (hr0 : -2147483648 ≤ x ∧ x ≤ 2147483647) (hr1 : -2147483648 ≤ y ∧ y ≤ 2147483647) (d : decode cc pc = .ok (.invokestatic idx, 3)) (hq : pc + 3 = q)
    (kk : AW l own nm cc nL ret X R E D ty Z w0 q lv (.int (iI z) :: st) ws k n) : AW l own nm cc nL ret X R E D ty Z w0 pc lv (.int (iI y) :: .int (iI x) :: st) ws k n := by
  subst hz
  exact aw_max hw hw2 hw3 hw4 hf hlo hkc hnc hr0 hr1 d hq kk
theorem ae_ti {T : Nat → Nat} {i : Int} (t : Nat) (z : Int) (hz : tbV t i.toNat = z) (ht : t < 5) (hZT : ∀ s, Z s → hvZ T w0 s) (hi : 0 ≤ i ∧ i < tbL t) (d : decode cc pc = .ok (.iaload, 1)) (hq : pc + 1 = q)
    (kk : AW l own nm cc nL ret X R E D ty Z w0 q lv (.int (iI z) :: st) ws k n) : AW l own nm cc nL ret X R E D ty Z w0 pc lv (.int (iI i) :: .ref (T t) :: st) ws k n := by
  subst hz
  exact aw_ti t ht (fun s h => (hZT s h).1) hi d hq kk
theorem ae_gets {T : Nat → Nat} {idx : Nat} (t : Nat) (ht : t < 5) (hZT : ∀ s, Z s → hvZ T w0 s) (hw : Cond.fieldLink own idx RX5 (tbN t) "[I" ∈ gt) (d : decode cc pc = .ok (.getstatic idx, 3)) (hq : pc + 3 = q)
    (kk : AW l own nm cc nL ret X R E D ty Z w0 q lv (.ref (T t) :: st) ws k n) : AW l own nm cc nL ret X R E D ty Z w0 pc lv st ws k n := aw_gets t ht (fun s h => (hZT s h).1) hw d hq kk
theorem ae_tab {x dflt lo hi : Int} {offs : Array Int} {len : Nat} (off : Int) {t : Nat} (hx : -2147483648 ≤ x ∧ x ≤ 2147483647) (d : decode cc pc = .ok (.tableswitch dflt lo hi offs, len)) (h1 : ¬ x < lo) (h2 : ¬ hi < x) (ho : offs[(x - lo).toNat]? = some off) (ht : (pc : Int) + off = (t : Int))
    (kk : AW l own nm cc nL ret X R E D ty Z w0 t lv st ws k n) : AW l own nm cc nL ret X R E D ty Z w0 pc lv (.int (iI x) :: st) ws k n := by
  intro p e s m args below meth c hC hK hZ H locs ls hP hD hS hl
  obtain ⟨hx9, hb, hml, hown, hts, hr, hlk, hnm, hX⟩ := id hC
  exact lv_tableIn hx9 hb d (by rw [iI_toInt hx]; exact h1) (by rw [iI_toInt hx]; exact h2) (by rw [iI_toInt hx]; exact ho) ht (kk p e s m args below meth c hC hK hZ H locs ls hP hD hS hl)
theorem ae_tabD {x dflt lo hi : Int} {offs : Array Int} {len : Nat} {t : Nat} (hx : -2147483648 ≤ x ∧ x ≤ 2147483647) (d : decode cc pc = .ok (.tableswitch dflt lo hi offs, len)) (h1 : x < lo ∨ hi < x) (ht : (pc : Int) + dflt = (t : Int))
    (kk : AW l own nm cc nL ret X R E D ty Z w0 t lv st ws k n) : AW l own nm cc nL ret X R E D ty Z w0 pc lv (.int (iI x) :: st) ws k n := by
  intro p e s m args below meth c hC hK hZ H locs ls hP hD hS hl
  obtain ⟨hx9, hb, hml, hown, hts, hr, hlk, hnm, hX⟩ := id hC
  exact lv_tableOut hx9 hb d (by rw [iI_toInt hx]; exact h1) ht (kk p e s m args below meth c hC hK hZ H locs ls hP hD hS hl)
theorem ae_lkp {x dflt : Int} {ps : Array (Int × Int)} {len : Nat} (off : Int) {t : Nat} (hx : -2147483648 ≤ x ∧ x ≤ 2147483647) (d : decode cc pc = .ok (.lookupswitch dflt ps, len)) (hp : (ps.toList.zip (ps.toList.drop 1)).all (fun (a, next) => a.1 < next.1) = true) (ho : Op.lookupswitch.offset ps.toList dflt x = off) (ht : (pc : Int) + off = (t : Int))
    (kk : AW l own nm cc nL ret X R E D ty Z w0 t lv st ws k n) : AW l own nm cc nL ret X R E D ty Z w0 pc lv (.int (iI x) :: st) ws k n := by
  intro p e s m args below meth c hC hK hZ H locs ls hP hD hS hl
  obtain ⟨hx9, hb, hml, hown, hts, hr, hlk, hnm, hX⟩ := id hC
  exact lv_lookup hx9 hb d hp (by rw [iI_toInt hx]; exact ho) ht (kk p e s m args below meth c hC hK hZ H locs ls hP hD hS hl)
end RWE
