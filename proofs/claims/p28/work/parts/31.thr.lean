/-! methods that throw -/
def hvXQ (D : va_G) (QX : String → va_W → Prop) (w0 : va_W) (sz : Nat) : String → State → State → Prop := fun E st t =>
  (∃ ws' : va_W, QX E ws' ∧ va_P D vwCl ws' t.heap ∧ va_D (va_A w0 sz) ws') ∧ va_F (va_A w0 sz) st t
def hvXE (D : va_G) (Q : Option Value → va_W → Prop) (QX : String → va_W → Prop) (w0 : va_W) (mc ms : Nat) (below : List Frame) (args : Array Value) (s : State) : State → Prop :=
  vx_MQ below (hvQ D Q w0 s.heap.size) (hvXQ D QX w0 s.heap.size) args s mc ms (va_A w0 s.heap.size)
def xT (c : Code) : Prop := ∀ x ∈ c.exceptionTable.toList, False
def MX (l : Launch) (y : MethodName) (cc : ByteArray) (nL : Nat) (ret : Option FieldType) (fr lo mc ms : Nat) (D : va_G) (ty : List (ClassId × FieldType)) (T : Nat → Nat) (As : List Value) (ws : va_W) (Q : Option Value → va_W → Prop) (QX : String → va_W → Prop) : Prop :=
  ∀ sz : Nat, vx_Met l y (.code y cc nL ret :: gt) { frames := fr, cells := mc, slots := ms, locals := lo } (va_Pc As (hvB D ty T ws sz)) (hvQ D Q ws sz) (hvXQ D QX ws sz) mc ms (va_A ws sz)
theorem mx_of {l : Launch} {y : MethodName} {cc : ByteArray} {nL : Nat} {ret : Option FieldType} {fr lo mc ms : Nat} {D : va_G} {ty : List (ClassId × FieldType)} {T : Nat → Nat} {As : List Value} {ws : va_W} {Q : Option Value → va_W → Prop} {QX : String → va_W → Prop} {lv : List (Nat × Value)}
    (hy : plainName y.cls = true) (hn : (lg_sl As).length ≤ nL) (hlv : lv_args 0 As = lv)
    (body : AW l y.cls y.name cc nL ret xT { frames := fr, cells := mc, slots := ms, locals := lo } (hvXE D Q QX ws mc ms) D ty (hvZ T ws) ws 0 lv [] ws 0 0) : MX l y cc nL ret fr lo mc ms D ty T As ws Q QX := by
  intro sz
  refine vx_ofW (cc := cc) (maxL := nL) (ret := ret) hy rfl ?_
  intro p e s m args below meth c s₁ B hml hxt hv
  obtain ⟨rfl, hsz, hP, hK, hD0, hZ⟩ := hv
  have hx := B.exec
  have hb := B.bytes
  have hr := B.returns
  have hts := atoms_spec (ws := .code y cc nL ret :: gt) B.pre
  have hown : s.vm.findClass y.cls = some m.cls := findClass_of_methodNamed B.named
  have hlocks := B.notSynchronized
  have hin : meth.name = y.name := (name_of_methodNamed B.named B.method).1
  subst hsz
  rw [lg_entry_eq]
  exact body p e s m _ below meth c ⟨hx, hb, hml, hown, fun w hw => hts w (List.mem_cons_of_mem _ hw), hr, hlocks, hin, hxt⟩ hK hZ s.heap [] _ hP (hD0.self (sz := s.heap.size)) va_S.rf (hlv ▸ lv_entry As hn)
section THR
variable {l : Launch} {own nm : String} {cc : ByteArray} {nL : Nat} {ret : Option FieldType} {X : Code → Prop} {R : Room} {D : va_G} {ty : List (ClassId × FieldType)} {Z : State → Prop} {w0 ws : va_W} {pc : Nat} {lv : List (Nat × Value)} {st : List Value} {k n mc ms : Nat} {T : Nat → Nat} {Q : Option Value → va_W → Prop} {QX : String → va_W → Prop}
theorem ax_of (h : AW l own nm cc nL ret X R (hvE D Q w0 mc ms) D ty Z w0 pc lv st ws k n) : AW l own nm cc nL ret X R (hvXE D Q QX w0 mc ms) D ty Z w0 pc lv st ws k n :=
  fun p e s m args below meth c hC hK hZ H locs ls hP hD hS hl => vx_ret (h p e s m args below meth c hC hK hZ H locs ls hP hD hS hl)
def thN : List String := ["java/lang/RuntimeException", "java/lang/Exception"]
def thOk (ik ic : Nat) (cls : String) : Prop := Cond.classLink RX5 ik cls ∈ gt ∧ Cond.initialized cls ∈ gt ∧ (∀ w ∈ (vx_atS RX5 ic cls thN).filter goodWord, w ∈ gt) ∧ (∀ w ∈ (vx_atS RX5 ic cls thN).filter (fun w => !goodWord w), w ∈ declL.map Cond.declares ++ [Cond.castable cls cls]) ∧ (∀ w ∈ Cond.classLink RX5 ik cls :: Cond.initialized cls :: vx_atS RX5 ic cls thN, vx_ot w = true) ∧ Bundle.fit cls = true ∧ (∀ n ∈ thN, Bundle.fit n = true) ∧ cls ∈ excL
theorem aw_throwS {ik is ic : Nat} {cls text : String} (hZT : ∀ s, Z s → hvZ T w0 s) (hl : l.stackTraces = false) (hX : ∀ c, X c → xT c) (ht : thOk ik ic cls) (hs : (is, text) ∈ strs)
    (d0 : decode cc pc = .ok (.new ik, 3)) (d3 : decode cc (pc + 3) = .ok (.dup, 1)) (d4 : decode cc (pc + 4) = .ok (.ldc is, 2)) (d6 : decode cc (pc + 6) = .ok (.invokespecial ic, 3)) (d9 : decode cc (pc + 9) = .ok (.athrow, 1))
    (hRf : 5 < R.frames) (hRl : (st.map fun v => v.category).sum + 82 ≤ R.locals) (hRc : k + 1 ≤ R.cells) (hRs : n + 6 ≤ R.slots) (hc : k + 1 ≤ mc) (hn : n + 6 ≤ ms) (hQ : QX cls ws) :
    AW l RX5 nm cc nL ret X R (hvXE D Q QX w0 mc ms) D ty Z w0 pc lv st ws k n := by
  intro p e s m args below meth c hC hK hZ H locs ls hP hD hS hl0
  obtain ⟨hx, hb, hml, hown, hts, hr, hlk, hnm, hXc⟩ := id hC
  obtain ⟨t1, t2, t3, t4, t5, t6, t7, t8⟩ := ht
  obtain ⟨z1, z2, z3, z4, z5⟩ := hZT s hZ
  refine vx_throwS (A := va_A w0 s.heap.size) (names := thN) hx hb hl hown t6 t7 (hts _ t1) (hts _ t2) (z2 _ hs) (vx_hat (fun w hw => hts w (t3 w hw)) t4 ?_) t5 z1.2.1 z1.2.2 hS (hl0.1.trans hml.symm) d0 d3 d4 d6 d9 (fun x hx9 => (hX c hXc x hx9).elim) hRf hRl hRc hRs hlk ?_ hS.2.2 hc hn
  · intro w hw
    rcases List.mem_append.mp hw with h | h
    · obtain ⟨x, hx1, rfl⟩ := List.mem_map.mp h
      exact va_Nw.use rfl (z5.2.2.1 x hx1)
    · rw [List.mem_singleton.mp h]
      exact va_Nw.use rfl (z5.2.2.2.1 cls t8)
  · intro t hvm hsz hq
    exact ⟨⟨ws, hQ, hP.kept (fun j q hj => hq _ (vx_lt hP hj)), hD⟩, Nat.le_trans hS.1 hsz, fun q h1 h2 => (hq q (Nat.lt_of_lt_of_le h1 hS.1)).trans (hS.2.1 q h1 h2)⟩
end THR
def RX (ad : Int → Nat) (C : Nat → ClassId) (P : String → GG → Prop) : String → va_W → Prop := fun E w => ∃ G1 : GG, w = cw ad C G1 ∧ P E G1
def strT (k : Nat) : String := ((strs.find? (fun q => q.1 == k)).getD (0, "")).2
theorem th_42_46 : thOk 42 46 xIA := by unfold thOk; decide +kernel
theorem th_81_85 : thOk 81 85 xIS := by unfold thOk; decide +kernel
theorem th_94_98 : thOk 94 98 xIB := by unfold thOk; decide +kernel
