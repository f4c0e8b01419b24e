section RWS
variable {l : Launch} {own nm : String} {cc : ByteArray} {nL : Nat} {ret : Option FieldType} {X : Code → Prop} {R : Room} {E : List Frame → Array Value → State → State → Prop} {D : va_G} {ty : List (ClassId × FieldType)} {Z : State → Prop} {w0 : va_W} {pc q : Nat} {lv : List (Nat × Value)} {st : List Value} {ws : va_W} {k n : Nat}
theorem aw_iconst {i : Int} (d : decode cc pc = .ok (.iconst i, 1)) (hq : pc + 1 = q) 
    (kk : AW l own nm cc nL ret X R E D ty Z w0 q lv (.int (iI i) :: st) ws k n) : AW l own nm cc nL ret X R E D ty Z w0 pc lv (st) ws k n := by
  subst hq
  intro p e s m args below meth c hC hK hZ H locs ls hP hD hS hl
  obtain ⟨hx, hb, hml, hown, hts, hr, hlk, hnm, hX⟩ := id hC
  exact lv_iconst hx hb d rfl (kk p e s m args below meth c hC hK hZ H locs ls hP hD hS hl)
theorem aw_bipush {i : Int} (d : decode cc pc = .ok (.bipush i, 2)) (hq : pc + 2 = q) (hv : (Int8.ofInt i).toInt32 = iI i)
    (kk : AW l own nm cc nL ret X R E D ty Z w0 q lv (.int (iI i) :: st) ws k n) : AW l own nm cc nL ret X R E D ty Z w0 pc lv (st) ws k n := by
  subst hq
  intro p e s m args below meth c hC hK hZ H locs ls hP hD hS hl
  obtain ⟨hx, hb, hml, hown, hts, hr, hlk, hnm, hX⟩ := id hC
  exact lv_bipush hx hb d hv (kk p e s m args below meth c hC hK hZ H locs ls hP hD hS hl)
theorem aw_sipush {i : Int} (d : decode cc pc = .ok (.sipush i, 3)) (hq : pc + 3 = q) (hv : (Int16.ofInt i).toInt32 = iI i)
    (kk : AW l own nm cc nL ret X R E D ty Z w0 q lv (.int (iI i) :: st) ws k n) : AW l own nm cc nL ret X R E D ty Z w0 pc lv (st) ws k n := by
  subst hq
  intro p e s m args below meth c hC hK hZ H locs ls hP hD hS hl
  obtain ⟨hx, hb, hml, hown, hts, hr, hlk, hnm, hX⟩ := id hC
  exact lv_sipush hx hb d hv (kk p e s m args below meth c hC hK hZ H locs ls hP hD hS hl)
theorem aw_ldc {i : Nat} {v : Int32} {x : Int} (d : decode cc pc = .ok (.ldc i, 2)) (hq : pc + 2 = q) (hw : Cond.constant own i v ∈ gt) (hv : iI x = v)
    (kk : AW l own nm cc nL ret X R E D ty Z w0 q lv (.int (iI x) :: st) ws k n) : AW l own nm cc nL ret X R E D ty Z w0 pc lv (st) ws k n := by
  subst hq
  intro p e s m args below meth c hC hK hZ H locs ls hP hD hS hl
  obtain ⟨hx, hb, hml, hown, hts, hr, hlk, hnm, hX⟩ := id hC
  exact lv_ldc hx hb hown (hts _ hw) d (hv ▸ (kk p e s m args below meth c hC hK hZ H locs ls hP hD hS hl))
theorem aw_ldcw {i : Nat} {v : Int32} {x : Int} (d : decode cc pc = .ok (.ldc_w i, 3)) (hq : pc + 3 = q) (hw : Cond.constant own i v ∈ gt) (hv : iI x = v)
    (kk : AW l own nm cc nL ret X R E D ty Z w0 q lv (.int (iI x) :: st) ws k n) : AW l own nm cc nL ret X R E D ty Z w0 pc lv (st) ws k n := by
  subst hq
  intro p e s m args below meth c hC hK hZ H locs ls hP hD hS hl
  obtain ⟨hx, hb, hml, hown, hts, hr, hlk, hnm, hX⟩ := id hC
  exact lv_ldcw hx hb hown (hts _ hw) d (hv ▸ (kk p e s m args below meth c hC hK hZ H locs ls hP hD hS hl))
theorem aw_ldcf {i : Nat} {v : UInt32} (d : decode cc pc = .ok (.ldc i, 2)) (hq : pc + 2 = q) (hw : Cond.constantFloat own i v ∈ gt)
    (kk : AW l own nm cc nL ret X R E D ty Z w0 q lv (.float v :: st) ws k n) : AW l own nm cc nL ret X R E D ty Z w0 pc lv (st) ws k n := by
  subst hq
  intro p e s m args below meth c hC hK hZ H locs ls hP hD hS hl
  obtain ⟨hx, hb, hml, hown, hts, hr, hlk, hnm, hX⟩ := id hC
  exact lv_ldcf hx hb hown (hts _ hw) d (kk p e s m args below meth c hC hK hZ H locs ls hP hD hS hl)
theorem aw_ldc2 {i : Nat} {v : Int64} {x : Int} (d : decode cc pc = .ok (.ldc2_w i, 3)) (hq : pc + 3 = q) (hw : Cond.constantLong own i v ∈ gt) (hv : iL x = v)
    (kk : AW l own nm cc nL ret X R E D ty Z w0 q lv (.long (iL x) :: st) ws k n) : AW l own nm cc nL ret X R E D ty Z w0 pc lv (st) ws k n := by
  subst hq
  intro p e s m args below meth c hC hK hZ H locs ls hP hD hS hl
  obtain ⟨hx, hb, hml, hown, hts, hr, hlk, hnm, hX⟩ := id hC
  exact lv_ldc2 hx hb hown (hts _ hw) d (hv ▸ (kk p e s m args below meth c hC hK hZ H locs ls hP hD hS hl))
theorem aw_iload_n {j : Fin 4} {i : Nat} {x : Int32} (f : Nat) (d : decode cc pc = .ok (.iload_n j, 1)) (hq : pc + 1 = q) (hi : (j : Nat) = i) (hf : lv[f]? = some (i, .int x))
    (kk : AW l own nm cc nL ret X R E D ty Z w0 q lv (.int x :: st) ws k n) : AW l own nm cc nL ret X R E D ty Z w0 pc lv (st) ws k n := by
  subst hq
  intro p e s m args below meth c hC hK hZ H locs ls hP hD hS hl
  obtain ⟨hx, hb, hml, hown, hts, hr, hlk, hnm, hX⟩ := id hC
  exact lv_iload_n hx hb d hi (lv_at hl f hf) (kk p e s m args below meth c hC hK hZ H locs ls hP hD hS hl)
theorem aw_iload {i : Nat} {x : Int32} (f : Nat) (d : decode cc pc = .ok (.iload i, 2)) (hq : pc + 2 = q) (hf : lv[f]? = some (i, .int x))
    (kk : AW l own nm cc nL ret X R E D ty Z w0 q lv (.int x :: st) ws k n) : AW l own nm cc nL ret X R E D ty Z w0 pc lv (st) ws k n := by
  subst hq
  intro p e s m args below meth c hC hK hZ H locs ls hP hD hS hl
  obtain ⟨hx, hb, hml, hown, hts, hr, hlk, hnm, hX⟩ := id hC
  exact lv_iload hx hb d (lv_at hl f hf) (kk p e s m args below meth c hC hK hZ H locs ls hP hD hS hl)
theorem aw_aload_n {j : Fin 4} {i : Nat} {x : Nat} (f : Nat) (d : decode cc pc = .ok (.aload_n j, 1)) (hq : pc + 1 = q) (hi : (j : Nat) = i) (hf : lv[f]? = some (i, .ref x))
    (kk : AW l own nm cc nL ret X R E D ty Z w0 q lv (.ref x :: st) ws k n) : AW l own nm cc nL ret X R E D ty Z w0 pc lv (st) ws k n := by
  subst hq
  intro p e s m args below meth c hC hK hZ H locs ls hP hD hS hl
  obtain ⟨hx, hb, hml, hown, hts, hr, hlk, hnm, hX⟩ := id hC
  exact lv_aload_n hx hb d hi (lv_at hl f hf) (kk p e s m args below meth c hC hK hZ H locs ls hP hD hS hl)
theorem aw_aload {i : Nat} {x : Nat} (f : Nat) (d : decode cc pc = .ok (.aload i, 2)) (hq : pc + 2 = q) (hf : lv[f]? = some (i, .ref x))
    (kk : AW l own nm cc nL ret X R E D ty Z w0 q lv (.ref x :: st) ws k n) : AW l own nm cc nL ret X R E D ty Z w0 pc lv (st) ws k n := by
  subst hq
  intro p e s m args below meth c hC hK hZ H locs ls hP hD hS hl
  obtain ⟨hx, hb, hml, hown, hts, hr, hlk, hnm, hX⟩ := id hC
  exact lv_aload hx hb d (lv_at hl f hf) (kk p e s m args below meth c hC hK hZ H locs ls hP hD hS hl)
theorem aw_lload_n {j : Fin 4} {i : Nat} {x : Int64} (f : Nat) (d : decode cc pc = .ok (.lload_n j, 1)) (hq : pc + 1 = q) (hi : (j : Nat) = i) (hf : lv[f]? = some (i, .long x))
    (kk : AW l own nm cc nL ret X R E D ty Z w0 q lv (.long x :: st) ws k n) : AW l own nm cc nL ret X R E D ty Z w0 pc lv (st) ws k n := by
  subst hq
  intro p e s m args below meth c hC hK hZ H locs ls hP hD hS hl
  obtain ⟨hx, hb, hml, hown, hts, hr, hlk, hnm, hX⟩ := id hC
  exact lv_lload_n hx hb d hi (lv_at hl f hf) (kk p e s m args below meth c hC hK hZ H locs ls hP hD hS hl)
theorem aw_fload_n {j : Fin 4} {i : Nat} {x : UInt32} (f : Nat) (d : decode cc pc = .ok (.fload_n j, 1)) (hq : pc + 1 = q) (hi : (j : Nat) = i) (hf : lv[f]? = some (i, .float x))
    (kk : AW l own nm cc nL ret X R E D ty Z w0 q lv (.float x :: st) ws k n) : AW l own nm cc nL ret X R E D ty Z w0 pc lv (st) ws k n := by
  subst hq
  intro p e s m args below meth c hC hK hZ H locs ls hP hD hS hl
  obtain ⟨hx, hb, hml, hown, hts, hr, hlk, hnm, hX⟩ := id hC
  exact lv_fload_n hx hb d hi (lv_at hl f hf) (kk p e s m args below meth c hC hK hZ H locs ls hP hD hS hl)
theorem aw_fload {i : Nat} {x : UInt32} (f : Nat) (d : decode cc pc = .ok (.fload i, 2)) (hq : pc + 2 = q) (hf : lv[f]? = some (i, .float x))
    (kk : AW l own nm cc nL ret X R E D ty Z w0 q lv (.float x :: st) ws k n) : AW l own nm cc nL ret X R E D ty Z w0 pc lv (st) ws k n := by
  subst hq
  intro p e s m args below meth c hC hK hZ H locs ls hP hD hS hl
  obtain ⟨hx, hb, hml, hown, hts, hr, hlk, hnm, hX⟩ := id hC
  exact lv_fload hx hb d (lv_at hl f hf) (kk p e s m args below meth c hC hK hZ H locs ls hP hD hS hl)
theorem aw_istore_n {j : Fin 4} {i : Nat} {x : Int32} {lv1 lv2 : List (Nat × Value)} (ks : List Nat) (d : decode cc pc = .ok (.istore_n j, 1)) (hq : pc + 1 = q) (hi : (j : Nat) = i) (hn : i < nL) (h1 : (i, Value.int x) :: lv.filter (fun q => !(q.1 == i) && !(q.1 + 1 == i && q.2.category == 2)) = lv1) (h2 : lv_pick lv1 ks = lv2)
    (kk : AW l own nm cc nL ret X R E D ty Z w0 q lv2 st ws k n) : AW l own nm cc nL ret X R E D ty Z w0 pc lv (.int x :: st) ws k n := by
  subst hq
  intro p e s m args below meth c hC hK hZ H locs ls hP hD hS hl
  obtain ⟨hx, hb, hml, hown, hts, hr, hlk, hnm, hX⟩ := id hC
  exact lv_istore_n hx hb d hi hl hn h1 (fun ls1 hl1 => kk p e s m args below meth c hC hK hZ H locs ls1 hP hD hS (lv_sub hl1 ks h2))
theorem aw_istore {i : Nat} {x : Int32} {lv1 lv2 : List (Nat × Value)} (ks : List Nat) (d : decode cc pc = .ok (.istore i, 2)) (hq : pc + 2 = q) (hn : i < nL) (h1 : (i, Value.int x) :: lv.filter (fun q => !(q.1 == i) && !(q.1 + 1 == i && q.2.category == 2)) = lv1) (h2 : lv_pick lv1 ks = lv2)
    (kk : AW l own nm cc nL ret X R E D ty Z w0 q lv2 st ws k n) : AW l own nm cc nL ret X R E D ty Z w0 pc lv (.int x :: st) ws k n := by
  subst hq
  intro p e s m args below meth c hC hK hZ H locs ls hP hD hS hl
  obtain ⟨hx, hb, hml, hown, hts, hr, hlk, hnm, hX⟩ := id hC
  exact lv_istore hx hb d hl hn h1 (fun ls1 hl1 => kk p e s m args below meth c hC hK hZ H locs ls1 hP hD hS (lv_sub hl1 ks h2))
theorem aw_astore_n {j : Fin 4} {i : Nat} {x : Nat} {lv1 lv2 : List (Nat × Value)} (ks : List Nat) (d : decode cc pc = .ok (.astore_n j, 1)) (hq : pc + 1 = q) (hi : (j : Nat) = i) (hn : i < nL) (h1 : (i, Value.ref x) :: lv.filter (fun q => !(q.1 == i) && !(q.1 + 1 == i && q.2.category == 2)) = lv1) (h2 : lv_pick lv1 ks = lv2)
    (kk : AW l own nm cc nL ret X R E D ty Z w0 q lv2 st ws k n) : AW l own nm cc nL ret X R E D ty Z w0 pc lv (.ref x :: st) ws k n := by
  subst hq
  intro p e s m args below meth c hC hK hZ H locs ls hP hD hS hl
  obtain ⟨hx, hb, hml, hown, hts, hr, hlk, hnm, hX⟩ := id hC
  exact lv_astore_n hx hb d hi hl hn h1 (fun ls1 hl1 => kk p e s m args below meth c hC hK hZ H locs ls1 hP hD hS (lv_sub hl1 ks h2))
theorem aw_astore {i : Nat} {x : Nat} {lv1 lv2 : List (Nat × Value)} (ks : List Nat) (d : decode cc pc = .ok (.astore i, 2)) (hq : pc + 2 = q) (hn : i < nL) (h1 : (i, Value.ref x) :: lv.filter (fun q => !(q.1 == i) && !(q.1 + 1 == i && q.2.category == 2)) = lv1) (h2 : lv_pick lv1 ks = lv2)
    (kk : AW l own nm cc nL ret X R E D ty Z w0 q lv2 st ws k n) : AW l own nm cc nL ret X R E D ty Z w0 pc lv (.ref x :: st) ws k n := by
  subst hq
  intro p e s m args below meth c hC hK hZ H locs ls hP hD hS hl
  obtain ⟨hx, hb, hml, hown, hts, hr, hlk, hnm, hX⟩ := id hC
  exact lv_astore hx hb d hl hn h1 (fun ls1 hl1 => kk p e s m args below meth c hC hK hZ H locs ls1 hP hD hS (lv_sub hl1 ks h2))
theorem aw_fstore_n {j : Fin 4} {i : Nat} {x : UInt32} {lv1 lv2 : List (Nat × Value)} (ks : List Nat) (d : decode cc pc = .ok (.fstore_n j, 1)) (hq : pc + 1 = q) (hi : (j : Nat) = i) (hn : i < nL) (h1 : (i, Value.float x) :: lv.filter (fun q => !(q.1 == i) && !(q.1 + 1 == i && q.2.category == 2)) = lv1) (h2 : lv_pick lv1 ks = lv2)
    (kk : AW l own nm cc nL ret X R E D ty Z w0 q lv2 st ws k n) : AW l own nm cc nL ret X R E D ty Z w0 pc lv (.float x :: st) ws k n := by
  subst hq
  intro p e s m args below meth c hC hK hZ H locs ls hP hD hS hl
  obtain ⟨hx, hb, hml, hown, hts, hr, hlk, hnm, hX⟩ := id hC
  exact lv_fstore_n hx hb d hi hl hn h1 (fun ls1 hl1 => kk p e s m args below meth c hC hK hZ H locs ls1 hP hD hS (lv_sub hl1 ks h2))
theorem aw_fstore {i : Nat} {x : UInt32} {lv1 lv2 : List (Nat × Value)} (ks : List Nat) (d : decode cc pc = .ok (.fstore i, 2)) (hq : pc + 2 = q) (hn : i < nL) (h1 : (i, Value.float x) :: lv.filter (fun q => !(q.1 == i) && !(q.1 + 1 == i && q.2.category == 2)) = lv1) (h2 : lv_pick lv1 ks = lv2)
    (kk : AW l own nm cc nL ret X R E D ty Z w0 q lv2 st ws k n) : AW l own nm cc nL ret X R E D ty Z w0 pc lv (.float x :: st) ws k n := by
  subst hq
  intro p e s m args below meth c hC hK hZ H locs ls hP hD hS hl
  obtain ⟨hx, hb, hml, hown, hts, hr, hlk, hnm, hX⟩ := id hC
  exact lv_fstore hx hb d hl hn h1 (fun ls1 hl1 => kk p e s m args below meth c hC hK hZ H locs ls1 hP hD hS (lv_sub hl1 ks h2))
theorem aw_lstore_n {j : Fin 4} {i : Nat} {x : Int64} {lv1 lv2 : List (Nat × Value)} (ks : List Nat) (d : decode cc pc = .ok (.lstore_n j, 1)) (hq : pc + 1 = q) (hi : (j : Nat) = i) (hn : i + 1 < nL) (h1 : (i, Value.long x) :: lv.filter (fun q => !(q.1 == i) && (!(q.1 == i + 1) && !(q.1 + 1 == i && q.2.category == 2))) = lv1) (h2 : lv_pick lv1 ks = lv2)
    (kk : AW l own nm cc nL ret X R E D ty Z w0 q lv2 st ws k n) : AW l own nm cc nL ret X R E D ty Z w0 pc lv (.long x :: st) ws k n := by
  subst hq
  intro p e s m args below meth c hC hK hZ H locs ls hP hD hS hl
  obtain ⟨hx, hb, hml, hown, hts, hr, hlk, hnm, hX⟩ := id hC
  exact lv_lstore_n hx hb d hi hl hn h1 (fun ls1 hl1 => kk p e s m args below meth c hC hK hZ H locs ls1 hP hD hS (lv_sub hl1 ks h2))
theorem aw_iinc {i : Nat} {z : Int} {x : Int} {lv1 lv2 : List (Nat × Value)} (f : Nat) (ks : List Nat) (d : decode cc pc = .ok (.iinc i z, 3)) (hq : pc + 3 = q) (hf : lv[f]? = some (i, .int (iI x))) (hn : i < nL) (h1 : (i, Value.int (iI (x + z))) :: lv.filter (fun q => !(q.1 == i) && !(q.1 + 1 == i && q.2.category == 2)) = lv1) (h2 : lv_pick lv1 ks = lv2)
    (kk : AW l own nm cc nL ret X R E D ty Z w0 q lv2 st ws k n) : AW l own nm cc nL ret X R E D ty Z w0 pc lv st ws k n := by
  subst hq
  intro p e s m args below meth c hC hK hZ H locs ls hP hD hS hl
  obtain ⟨hx, hb, hml, hown, hts, hr, hlk, hnm, hX⟩ := id hC
  exact lv_iinc hx hb d hl hf (iI_add x z) hn h1 (fun ls1 hl1 => kk p e s m args below meth c hC hK hZ H locs ls1 hP hD hS (lv_sub hl1 ks h2))
theorem aw_sub {lv2 : List (Nat × Value)} (ks : List Nat) (h2 : lv_pick lv ks = lv2) (kk : AW l own nm cc nL ret X R E D ty Z w0 pc lv2 st ws k n) : AW l own nm cc nL ret X R E D ty Z w0 pc lv st ws k n := by
  intro p e s m args below meth c hC hK hZ H locs ls hP hD hS hl
  obtain ⟨hx, hb, hml, hown, hts, hr, hlk, hnm, hX⟩ := id hC
  exact kk p e s m args below meth c hC hK hZ H locs ls hP hD hS (lv_sub hl ks h2)
theorem aw_eqW {ws2 : va_W} (h : ws = ws2) (kk : AW l own nm cc nL ret X R E D ty Z w0 pc lv st ws2 k n) : AW l own nm cc nL ret X R E D ty Z w0 pc lv st ws k n := h ▸ kk
theorem aw_eqS {st2 : List Value} (h : st = st2) (kk : AW l own nm cc nL ret X R E D ty Z w0 pc lv st2 ws k n) : AW l own nm cc nL ret X R E D ty Z w0 pc lv st ws k n := h ▸ kk
theorem aw_eqL {lv2 : List (Nat × Value)} (h : lv = lv2) (kk : AW l own nm cc nL ret X R E D ty Z w0 pc lv2 st ws k n) : AW l own nm cc nL ret X R E D ty Z w0 pc lv st ws k n := h ▸ kk
theorem aw_widen {k1 n1 : Nat} (h1 : k ≤ k1) (h2 : n ≤ n1) (kk : AW l own nm cc nL ret X R E D ty Z w0 pc lv st ws k1 n1) : AW l own nm cc nL ret X R E D ty Z w0 pc lv st ws k n := by
  intro p e s m args below meth c hC hK hZ H locs ls hP hD hS hl
  obtain ⟨hx, hb, hml, hown, hts, hr, hlk, hnm, hX⟩ := id hC
  exact W.widen h1 h2 (kk p e s m args below meth c hC hK hZ H locs ls hP hD hS hl)
theorem aw_iadd {x y : Int} (d : decode cc pc = .ok (.iadd, 1)) (hq : pc + 1 = q) 
    (kk : AW l own nm cc nL ret X R E D ty Z w0 q lv (.int (iI (x + y)) :: st) ws k n) : AW l own nm cc nL ret X R E D ty Z w0 pc lv (.int (iI y) :: .int (iI x) :: st) ws k n := by
  subst hq
  intro p e s m args below meth c hC hK hZ H locs ls hP hD hS hl
  obtain ⟨hx, hb, hml, hown, hts, hr, hlk, hnm, hX⟩ := id hC
  exact lv_iadd hx hb d (iI_add x y ▸ (kk p e s m args below meth c hC hK hZ H locs ls hP hD hS hl))
theorem aw_isub {x y : Int} (d : decode cc pc = .ok (.isub, 1)) (hq : pc + 1 = q) 
    (kk : AW l own nm cc nL ret X R E D ty Z w0 q lv (.int (iI (x - y)) :: st) ws k n) : AW l own nm cc nL ret X R E D ty Z w0 pc lv (.int (iI y) :: .int (iI x) :: st) ws k n := by
  subst hq
  intro p e s m args below meth c hC hK hZ H locs ls hP hD hS hl
  obtain ⟨hx, hb, hml, hown, hts, hr, hlk, hnm, hX⟩ := id hC
  exact lv_isub hx hb d (iI_sub x y ▸ (kk p e s m args below meth c hC hK hZ H locs ls hP hD hS hl))
theorem aw_imul {x y : Int} (d : decode cc pc = .ok (.imul, 1)) (hq : pc + 1 = q) 
    (kk : AW l own nm cc nL ret X R E D ty Z w0 q lv (.int (iI (x * y)) :: st) ws k n) : AW l own nm cc nL ret X R E D ty Z w0 pc lv (.int (iI y) :: .int (iI x) :: st) ws k n := by
  subst hq
  intro p e s m args below meth c hC hK hZ H locs ls hP hD hS hl
  obtain ⟨hx, hb, hml, hown, hts, hr, hlk, hnm, hX⟩ := id hC
  exact lv_imul hx hb d (iI_mul x y ▸ (kk p e s m args below meth c hC hK hZ H locs ls hP hD hS hl))
theorem aw_idivR {x y : Int32} (d : decode cc pc = .ok (.idiv, 1)) (hq : pc + 1 = q) (hne : ¬ y = 0)
    (kk : AW l own nm cc nL ret X R E D ty Z w0 q lv (.int (x / y) :: st) ws k n) : AW l own nm cc nL ret X R E D ty Z w0 pc lv (.int y :: .int x :: st) ws k n := by
  subst hq
  intro p e s m args below meth c hC hK hZ H locs ls hP hD hS hl
  obtain ⟨hx, hb, hml, hown, hts, hr, hlk, hnm, hX⟩ := id hC
  exact lv_idiv hx hb d hne (kk p e s m args below meth c hC hK hZ H locs ls hP hD hS hl)
theorem aw_iremR {x y : Int32} (d : decode cc pc = .ok (.irem, 1)) (hq : pc + 1 = q) (hne : ¬ y = 0)
    (kk : AW l own nm cc nL ret X R E D ty Z w0 q lv (.int (x - x / y * y) :: st) ws k n) : AW l own nm cc nL ret X R E D ty Z w0 pc lv (.int y :: .int x :: st) ws k n := by
  subst hq
  intro p e s m args below meth c hC hK hZ H locs ls hP hD hS hl
  obtain ⟨hx, hb, hml, hown, hts, hr, hlk, hnm, hX⟩ := id hC
  exact lv_irem hx hb d hne (kk p e s m args below meth c hC hK hZ H locs ls hP hD hS hl)
theorem aw_ishlR {x y : Int32} (d : decode cc pc = .ok (.ishl, 1)) (hq : pc + 1 = q) 
    (kk : AW l own nm cc nL ret X R E D ty Z w0 q lv (.int (x <<< (y &&& 31)) :: st) ws k n) : AW l own nm cc nL ret X R E D ty Z w0 pc lv (.int y :: .int x :: st) ws k n := by
  subst hq
  intro p e s m args below meth c hC hK hZ H locs ls hP hD hS hl
  obtain ⟨hx, hb, hml, hown, hts, hr, hlk, hnm, hX⟩ := id hC
  exact lv_ishl hx hb d (kk p e s m args below meth c hC hK hZ H locs ls hP hD hS hl)
theorem aw_iandR {x y : Int32} (d : decode cc pc = .ok (.iand, 1)) (hq : pc + 1 = q) 
    (kk : AW l own nm cc nL ret X R E D ty Z w0 q lv (.int (x &&& y) :: st) ws k n) : AW l own nm cc nL ret X R E D ty Z w0 pc lv (.int y :: .int x :: st) ws k n := by
  subst hq
  intro p e s m args below meth c hC hK hZ H locs ls hP hD hS hl
  obtain ⟨hx, hb, hml, hown, hts, hr, hlk, hnm, hX⟩ := id hC
  exact lv_iand hx hb d (kk p e s m args below meth c hC hK hZ H locs ls hP hD hS hl)
theorem aw_dup {v : Value} (d : decode cc pc = .ok (.dup, 1)) (hq : pc + 1 = q) (hv : v.category = 1)
    (kk : AW l own nm cc nL ret X R E D ty Z w0 q lv (v :: v :: st) ws k n) : AW l own nm cc nL ret X R E D ty Z w0 pc lv (v :: st) ws k n := by
  subst hq
  intro p e s m args below meth c hC hK hZ H locs ls hP hD hS hl
  obtain ⟨hx, hb, hml, hown, hts, hr, hlk, hnm, hX⟩ := id hC
  exact lv_dup hx hb d hv (kk p e s m args below meth c hC hK hZ H locs ls hP hD hS hl)
theorem aw_dup2 {v u : Value} (d : decode cc pc = .ok (.dup2, 1)) (hq : pc + 1 = q) (hv : v.category = 1) (hu : u.category = 1)
    (kk : AW l own nm cc nL ret X R E D ty Z w0 q lv (v :: u :: v :: u :: st) ws k n) : AW l own nm cc nL ret X R E D ty Z w0 pc lv (v :: u :: st) ws k n := by
  subst hq
  intro p e s m args below meth c hC hK hZ H locs ls hP hD hS hl
  obtain ⟨hx, hb, hml, hown, hts, hr, hlk, hnm, hX⟩ := id hC
  exact lv_dup2_11 hx hb d hv hu (kk p e s m args below meth c hC hK hZ H locs ls hP hD hS hl)
theorem aw_pop {v : Value} (d : decode cc pc = .ok (.pop, 1)) (hq : pc + 1 = q) (hv : v.category = 1)
    (kk : AW l own nm cc nL ret X R E D ty Z w0 q lv (st) ws k n) : AW l own nm cc nL ret X R E D ty Z w0 pc lv (v :: st) ws k n := by
  subst hq
  intro p e s m args below meth c hC hK hZ H locs ls hP hD hS hl
  obtain ⟨hx, hb, hml, hown, hts, hr, hlk, hnm, hX⟩ := id hC
  exact lv_pop hx hb d hv (kk p e s m args below meth c hC hK hZ H locs ls hP hD hS hl)
theorem aw_ladd {x y : Int} (d : decode cc pc = .ok (.ladd, 1)) (hq : pc + 1 = q) 
    (kk : AW l own nm cc nL ret X R E D ty Z w0 q lv (.long (iL (x + y)) :: st) ws k n) : AW l own nm cc nL ret X R E D ty Z w0 pc lv (.long (iL y) :: .long (iL x) :: st) ws k n := by
  subst hq
  intro p e s m args below meth c hC hK hZ H locs ls hP hD hS hl
  obtain ⟨hx, hb, hml, hown, hts, hr, hlk, hnm, hX⟩ := id hC
  exact lv_ladd hx hb d (iL_add x y ▸ (kk p e s m args below meth c hC hK hZ H locs ls hP hD hS hl))
theorem aw_lmul {x y : Int} (d : decode cc pc = .ok (.lmul, 1)) (hq : pc + 1 = q) 
    (kk : AW l own nm cc nL ret X R E D ty Z w0 q lv (.long (iL (x * y)) :: st) ws k n) : AW l own nm cc nL ret X R E D ty Z w0 pc lv (.long (iL y) :: .long (iL x) :: st) ws k n := by
  subst hq
  intro p e s m args below meth c hC hK hZ H locs ls hP hD hS hl
  obtain ⟨hx, hb, hml, hown, hts, hr, hlk, hnm, hX⟩ := id hC
  exact lv_lmul hx hb d (iL_mul x y ▸ (kk p e s m args below meth c hC hK hZ H locs ls hP hD hS hl))
theorem aw_lcmpR {x y : Int64} (d : decode cc pc = .ok (.lcmp, 1)) (hq : pc + 1 = q) 
    (kk : AW l own nm cc nL ret X R E D ty Z w0 q lv (.int (lg_cmp x y) :: st) ws k n) : AW l own nm cc nL ret X R E D ty Z w0 pc lv (.long y :: .long x :: st) ws k n := by
  subst hq
  intro p e s m args below meth c hC hK hZ H locs ls hP hD hS hl
  obtain ⟨hx, hb, hml, hown, hts, hr, hlk, hnm, hX⟩ := id hC
  exact W.lcmp hx hb d (kk p e s m args below meth c hC hK hZ H locs ls hP hD hS hl)
theorem aw_i2l {x : Int} (d : decode cc pc = .ok (.i2l, 1)) (hq : pc + 1 = q) (h : -2147483648 ≤ x ∧ x ≤ 2147483647)
    (kk : AW l own nm cc nL ret X R E D ty Z w0 q lv (.long (iL x) :: st) ws k n) : AW l own nm cc nL ret X R E D ty Z w0 pc lv (.int (iI x) :: st) ws k n := by
  subst hq
  intro p e s m args below meth c hC hK hZ H locs ls hP hD hS hl
  obtain ⟨hx, hb, hml, hown, hts, hr, hlk, hnm, hX⟩ := id hC
  exact lv_i2l hx hb d (iI_l h) (kk p e s m args below meth c hC hK hZ H locs ls hP hD hS hl)
theorem aw_i2f {x : Int32} (d : decode cc pc = .ok (.i2f, 1)) (hq : pc + 1 = q) 
    (kk : AW l own nm cc nL ret X R E D ty Z w0 q lv (.float (FP.i2f x) :: st) ws k n) : AW l own nm cc nL ret X R E D ty Z w0 pc lv (.int x :: st) ws k n := by
  subst hq
  intro p e s m args below meth c hC hK hZ H locs ls hP hD hS hl
  obtain ⟨hx, hb, hml, hown, hts, hr, hlk, hnm, hX⟩ := id hC
  exact lv_i2f hx hb d (kk p e s m args below meth c hC hK hZ H locs ls hP hD hS hl)
theorem aw_fadd {x y : UInt32} (d : decode cc pc = .ok (.fadd, 1)) (hq : pc + 1 = q) (hne : vf_n32 (FP.fadd x y))
    (kk : AW l own nm cc nL ret X R E D ty Z w0 q lv (.float (FP.fadd x y) :: st) ws k n) : AW l own nm cc nL ret X R E D ty Z w0 pc lv (.float y :: .float x :: st) ws k n := by
  subst hq
  intro p e s m args below meth c hC hK hZ H locs ls hP hD hS hl
  obtain ⟨hx, hb, hml, hown, hts, hr, hlk, hnm, hX⟩ := id hC
  exact lv_fadd hx hb d hne (kk p e s m args below meth c hC hK hZ H locs ls hP hD hS hl)
theorem aw_fmul {x y : UInt32} (d : decode cc pc = .ok (.fmul, 1)) (hq : pc + 1 = q) (hne : vf_n32 (FP.fmul x y))
    (kk : AW l own nm cc nL ret X R E D ty Z w0 q lv (.float (FP.fmul x y) :: st) ws k n) : AW l own nm cc nL ret X R E D ty Z w0 pc lv (.float y :: .float x :: st) ws k n := by
  subst hq
  intro p e s m args below meth c hC hK hZ H locs ls hP hD hS hl
  obtain ⟨hx, hb, hml, hown, hts, hr, hlk, hnm, hX⟩ := id hC
  exact lv_fmul hx hb d hne (kk p e s m args below meth c hC hK hZ H locs ls hP hD hS hl)
theorem aw_fdiv {x y : UInt32} (d : decode cc pc = .ok (.fdiv, 1)) (hq : pc + 1 = q) (hne : vf_n32 (FP.fdiv x y))
    (kk : AW l own nm cc nL ret X R E D ty Z w0 q lv (.float (FP.fdiv x y) :: st) ws k n) : AW l own nm cc nL ret X R E D ty Z w0 pc lv (.float y :: .float x :: st) ws k n := by
  subst hq
  intro p e s m args below meth c hC hK hZ H locs ls hP hD hS hl
  obtain ⟨hx, hb, hml, hown, hts, hr, hlk, hnm, hX⟩ := id hC
  exact lv_fdiv hx hb d hne (kk p e s m args below meth c hC hK hZ H locs ls hP hD hS hl)
theorem aw_fcmp {x y : UInt32} {op : CmpOp} (d : decode cc pc = .ok (.fcmp op, 1)) (hq : pc + 1 = q) 
    (kk : AW l own nm cc nL ret X R E D ty Z w0 q lv (.int (Op.cmpValue (FP.fcmp x y) op) :: st) ws k n) : AW l own nm cc nL ret X R E D ty Z w0 pc lv (.float y :: .float x :: st) ws k n := by
  subst hq
  intro p e s m args below meth c hC hK hZ H locs ls hP hD hS hl
  obtain ⟨hx, hb, hml, hown, hts, hr, hlk, hnm, hX⟩ := id hC
  exact lv_fcmp hx hb d (kk p e s m args below meth c hC hK hZ H locs ls hP hD hS hl)
theorem aw_dcmp {x y : UInt64} {op : CmpOp} (d : decode cc pc = .ok (.dcmp op, 1)) (hq : pc + 1 = q) 
    (kk : AW l own nm cc nL ret X R E D ty Z w0 q lv (.int (Op.cmpValue (FP.dcmp x y) op) :: st) ws k n) : AW l own nm cc nL ret X R E D ty Z w0 pc lv (.double y :: .double x :: st) ws k n := by
  subst hq
  intro p e s m args below meth c hC hK hZ H locs ls hP hD hS hl
  obtain ⟨hx, hb, hml, hown, hts, hr, hlk, hnm, hX⟩ := id hC
  exact lv_dcmp hx hb d (kk p e s m args below meth c hC hK hZ H locs ls hP hD hS hl)
theorem aw_f2i {x : UInt32} (d : decode cc pc = .ok (.f2i, 1)) (hq : pc + 1 = q) 
    (kk : AW l own nm cc nL ret X R E D ty Z w0 q lv (.int (FP.f2i x) :: st) ws k n) : AW l own nm cc nL ret X R E D ty Z w0 pc lv (.float x :: st) ws k n := by
  subst hq
  intro p e s m args below meth c hC hK hZ H locs ls hP hD hS hl
  obtain ⟨hx, hb, hml, hown, hts, hr, hlk, hnm, hX⟩ := id hC
  exact lv_f2i hx hb d (kk p e s m args below meth c hC hK hZ H locs ls hP hD hS hl)
theorem aw_f2d {x : UInt32} (d : decode cc pc = .ok (.f2d, 1)) (hq : pc + 1 = q) (hne : vf_n64 (FP.f2d x))
    (kk : AW l own nm cc nL ret X R E D ty Z w0 q lv (.double (FP.f2d x) :: st) ws k n) : AW l own nm cc nL ret X R E D ty Z w0 pc lv (.float x :: st) ws k n := by
  subst hq
  intro p e s m args below meth c hC hK hZ H locs ls hP hD hS hl
  obtain ⟨hx, hb, hml, hown, hts, hr, hlk, hnm, hX⟩ := id hC
  exact lv_f2d hx hb d hne (kk p e s m args below meth c hC hK hZ H locs ls hP hD hS hl)
theorem aw_fconst0  (d : decode cc pc = .ok (.fconst 0, 1)) (hq : pc + 1 = q) 
    (kk : AW l own nm cc nL ret X R E D ty Z w0 q lv (.float FP.fconst0 :: st) ws k n) : AW l own nm cc nL ret X R E D ty Z w0 pc lv (st) ws k n := by
  subst hq
  intro p e s m args below meth c hC hK hZ H locs ls hP hD hS hl
  obtain ⟨hx, hb, hml, hown, hts, hr, hlk, hnm, hX⟩ := id hC
  exact lv_fconst0 hx hb d (kk p e s m args below meth c hC hK hZ H locs ls hP hD hS hl)
theorem aw_fconst1  (d : decode cc pc = .ok (.fconst 1, 1)) (hq : pc + 1 = q) 
    (kk : AW l own nm cc nL ret X R E D ty Z w0 q lv (.float FP.fconst1 :: st) ws k n) : AW l own nm cc nL ret X R E D ty Z w0 pc lv (st) ws k n := by
  subst hq
  intro p e s m args below meth c hC hK hZ H locs ls hP hD hS hl
  obtain ⟨hx, hb, hml, hown, hts, hr, hlk, hnm, hX⟩ := id hC
  exact lv_fconst1 hx hb d (kk p e s m args below meth c hC hK hZ H locs ls hP hD hS hl)
theorem aw_fconst2  (d : decode cc pc = .ok (.fconst 2, 1)) (hq : pc + 1 = q) 
    (kk : AW l own nm cc nL ret X R E D ty Z w0 q lv (.float FP.fconst2 :: st) ws k n) : AW l own nm cc nL ret X R E D ty Z w0 pc lv (st) ws k n := by
  subst hq
  intro p e s m args below meth c hC hK hZ H locs ls hP hD hS hl
  obtain ⟨hx, hb, hml, hown, hts, hr, hlk, hnm, hX⟩ := id hC
  exact lv_fconst2 hx hb d (kk p e s m args below meth c hC hK hZ H locs ls hP hD hS hl)
theorem aw_goto {off : Int} (d : decode cc pc = .ok (.goto off, 3)) (ht : (pc : Int) + off = (q : Int))
    (kk : AW l own nm cc nL ret X R E D ty Z w0 q lv st ws k n) : AW l own nm cc nL ret X R E D ty Z w0 pc lv st ws k n := by
  intro p e s m args below meth c hC hK hZ H locs ls hP hD hS hl
  obtain ⟨hx, hb, hml, hown, hts, hr, hlk, hnm, hX⟩ := id hC
  exact lv_goto hx hb d ht (kk p e s m args below meth c hC hK hZ H locs ls hP hD hS hl)
theorem aw_if_eq {x : Int} {off : Int} {t : Nat} (d : decode cc pc = .ok (.ifCond .eq off, 3)) (hq : pc + 3 = q) (ht : (pc : Int) + off = (t : Int)) (hr0 : -2147483648 ≤ x ∧ x ≤ 2147483647)
    (kt : x = 0 → AW l own nm cc nL ret X R E D ty Z w0 t lv st ws k n) (kf : ¬ x = 0 → AW l own nm cc nL ret X R E D ty Z w0 q lv st ws k n) : AW l own nm cc nL ret X R E D ty Z w0 pc lv (.int (iI x) :: st) ws k n := by
  subst hq
  intro p e s m args below meth c hC hK hZ H locs ls hP hD hS hl
  obtain ⟨hx, hb, hml, hown, hts, hr, hlk, hnm, hX⟩ := id hC
  have z0 : iI x = 0 ↔ x = 0 := (iI_inj (x := x) (y := 0) hr0 (by omega))
  refine lv_if_eq hx hb d ht (fun h => ?_) (fun h => ?_)
  · exact kt (by first | exact z0.mp h | exact fun e9 => h (z0.mpr e9)) p e s m args below meth c hC hK hZ H locs ls hP hD hS hl
  · exact kf (by first | exact z0.mp h | exact Classical.not_not.mp (fun e9 => h (fun e8 => e9 (z0.mp e8))) | exact mt z0.mpr h | (have e7 := mt z0.mpr h; omega)) p e s m args below meth c hC hK hZ H locs ls hP hD hS hl
theorem aw_if_ne {x : Int} {off : Int} {t : Nat} (d : decode cc pc = .ok (.ifCond .ne off, 3)) (hq : pc + 3 = q) (ht : (pc : Int) + off = (t : Int)) (hr0 : -2147483648 ≤ x ∧ x ≤ 2147483647)
    (kt : ¬ x = 0 → AW l own nm cc nL ret X R E D ty Z w0 t lv st ws k n) (kf : x = 0 → AW l own nm cc nL ret X R E D ty Z w0 q lv st ws k n) : AW l own nm cc nL ret X R E D ty Z w0 pc lv (.int (iI x) :: st) ws k n := by
  subst hq
  intro p e s m args below meth c hC hK hZ H locs ls hP hD hS hl
  obtain ⟨hx, hb, hml, hown, hts, hr, hlk, hnm, hX⟩ := id hC
  have z0 : iI x = 0 ↔ x = 0 := (iI_inj (x := x) (y := 0) hr0 (by omega))
  refine lv_if_ne hx hb d ht (fun h => ?_) (fun h => ?_)
  · exact kt (by first | exact z0.mp h | exact fun e9 => h (z0.mpr e9)) p e s m args below meth c hC hK hZ H locs ls hP hD hS hl
  · exact kf (by first | exact z0.mp h | exact Classical.not_not.mp (fun e9 => h (fun e8 => e9 (z0.mp e8))) | exact mt z0.mpr h | (have e7 := mt z0.mpr h; omega)) p e s m args below meth c hC hK hZ H locs ls hP hD hS hl
theorem aw_if_lt {x : Int} {off : Int} {t : Nat} (d : decode cc pc = .ok (.ifCond .lt off, 3)) (hq : pc + 3 = q) (ht : (pc : Int) + off = (t : Int)) (hr0 : -2147483648 ≤ x ∧ x ≤ 2147483647)
    (kt : x < 0 → AW l own nm cc nL ret X R E D ty Z w0 t lv st ws k n) (kf : 0 ≤ x → AW l own nm cc nL ret X R E D ty Z w0 q lv st ws k n) : AW l own nm cc nL ret X R E D ty Z w0 pc lv (.int (iI x) :: st) ws k n := by
  subst hq
  intro p e s m args below meth c hC hK hZ H locs ls hP hD hS hl
  obtain ⟨hx, hb, hml, hown, hts, hr, hlk, hnm, hX⟩ := id hC
  have z0 : iI x < 0 ↔ x < 0 := (iI_lt (x := x) (y := 0) hr0 (by omega))
  refine lv_if_lt hx hb d ht (fun h => ?_) (fun h => ?_)
  · exact kt (by first | exact z0.mp h | exact fun e9 => h (z0.mpr e9)) p e s m args below meth c hC hK hZ H locs ls hP hD hS hl
  · exact kf (by first | exact z0.mp h | exact Classical.not_not.mp (fun e9 => h (fun e8 => e9 (z0.mp e8))) | exact mt z0.mpr h | (have e7 := mt z0.mpr h; omega)) p e s m args below meth c hC hK hZ H locs ls hP hD hS hl
theorem aw_if_le {x : Int} {off : Int} {t : Nat} (d : decode cc pc = .ok (.ifCond .le off, 3)) (hq : pc + 3 = q) (ht : (pc : Int) + off = (t : Int)) (hr0 : -2147483648 ≤ x ∧ x ≤ 2147483647)
    (kt : x ≤ 0 → AW l own nm cc nL ret X R E D ty Z w0 t lv st ws k n) (kf : 0 < x → AW l own nm cc nL ret X R E D ty Z w0 q lv st ws k n) : AW l own nm cc nL ret X R E D ty Z w0 pc lv (.int (iI x) :: st) ws k n := by
  subst hq
  intro p e s m args below meth c hC hK hZ H locs ls hP hD hS hl
  obtain ⟨hx, hb, hml, hown, hts, hr, hlk, hnm, hX⟩ := id hC
  have z0 : iI x ≤ 0 ↔ x ≤ 0 := (iI_le (x := x) (y := 0) hr0 (by omega))
  refine lv_if_le hx hb d ht (fun h => ?_) (fun h => ?_)
  · exact kt (by first | exact z0.mp h | exact fun e9 => h (z0.mpr e9)) p e s m args below meth c hC hK hZ H locs ls hP hD hS hl
  · exact kf (by first | exact z0.mp h | exact Classical.not_not.mp (fun e9 => h (fun e8 => e9 (z0.mp e8))) | exact mt z0.mpr h | (have e7 := mt z0.mpr h; omega)) p e s m args below meth c hC hK hZ H locs ls hP hD hS hl
theorem aw_if_ge {x : Int} {off : Int} {t : Nat} (d : decode cc pc = .ok (.ifCond .ge off, 3)) (hq : pc + 3 = q) (ht : (pc : Int) + off = (t : Int)) (hr0 : -2147483648 ≤ x ∧ x ≤ 2147483647)
    (kt : 0 ≤ x → AW l own nm cc nL ret X R E D ty Z w0 t lv st ws k n) (kf : x < 0 → AW l own nm cc nL ret X R E D ty Z w0 q lv st ws k n) : AW l own nm cc nL ret X R E D ty Z w0 pc lv (.int (iI x) :: st) ws k n := by
  subst hq
  intro p e s m args below meth c hC hK hZ H locs ls hP hD hS hl
  obtain ⟨hx, hb, hml, hown, hts, hr, hlk, hnm, hX⟩ := id hC
  have z0 : 0 ≤ iI x ↔ 0 ≤ x := (iI_le (x := 0) (y := x) (by omega) hr0)
  refine lv_if_ge hx hb d ht (fun h => ?_) (fun h => ?_)
  · exact kt (by first | exact z0.mp h | exact fun e9 => h (z0.mpr e9)) p e s m args below meth c hC hK hZ H locs ls hP hD hS hl
  · exact kf (by first | exact z0.mp h | exact Classical.not_not.mp (fun e9 => h (fun e8 => e9 (z0.mp e8))) | exact mt z0.mpr h | (have e7 := mt z0.mpr h; omega)) p e s m args below meth c hC hK hZ H locs ls hP hD hS hl
theorem aw_if_gt {x : Int} {off : Int} {t : Nat} (d : decode cc pc = .ok (.ifCond .gt off, 3)) (hq : pc + 3 = q) (ht : (pc : Int) + off = (t : Int)) (hr0 : -2147483648 ≤ x ∧ x ≤ 2147483647)
    (kt : 0 < x → AW l own nm cc nL ret X R E D ty Z w0 t lv st ws k n) (kf : x ≤ 0 → AW l own nm cc nL ret X R E D ty Z w0 q lv st ws k n) : AW l own nm cc nL ret X R E D ty Z w0 pc lv (.int (iI x) :: st) ws k n := by
  subst hq
  intro p e s m args below meth c hC hK hZ H locs ls hP hD hS hl
  obtain ⟨hx, hb, hml, hown, hts, hr, hlk, hnm, hX⟩ := id hC
  have z0 : 0 < iI x ↔ 0 < x := (iI_lt (x := 0) (y := x) (by omega) hr0)
  refine lv_if_gt hx hb d ht (fun h => ?_) (fun h => ?_)
  · exact kt (by first | exact z0.mp h | exact fun e9 => h (z0.mpr e9)) p e s m args below meth c hC hK hZ H locs ls hP hD hS hl
  · exact kf (by first | exact z0.mp h | exact Classical.not_not.mp (fun e9 => h (fun e8 => e9 (z0.mp e8))) | exact mt z0.mpr h | (have e7 := mt z0.mpr h; omega)) p e s m args below meth c hC hK hZ H locs ls hP hD hS hl
theorem aw_icmp_eq {x y : Int} {off : Int} {t : Nat} (d : decode cc pc = .ok (.if_icmp .eq off, 3)) (hq : pc + 3 = q) (ht : (pc : Int) + off = (t : Int)) (hr0 : -2147483648 ≤ x ∧ x ≤ 2147483647) (hr1 : -2147483648 ≤ y ∧ y ≤ 2147483647)
    (kt : x = y → AW l own nm cc nL ret X R E D ty Z w0 t lv st ws k n) (kf : ¬ x = y → AW l own nm cc nL ret X R E D ty Z w0 q lv st ws k n) : AW l own nm cc nL ret X R E D ty Z w0 pc lv (.int (iI y) :: .int (iI x) :: st) ws k n := by
  subst hq
  intro p e s m args below meth c hC hK hZ H locs ls hP hD hS hl
  obtain ⟨hx, hb, hml, hown, hts, hr, hlk, hnm, hX⟩ := id hC
  have z0 : iI x = iI y ↔ x = y := iI_inj hr0 hr1
  refine lv_icmp_eq hx hb d ht (fun h => ?_) (fun h => ?_)
  · exact kt (by first | exact z0.mp h | exact fun e9 => h (z0.mpr e9)) p e s m args below meth c hC hK hZ H locs ls hP hD hS hl
  · exact kf (by first | exact z0.mp h | exact Classical.not_not.mp (fun e9 => h (fun e8 => e9 (z0.mp e8))) | exact mt z0.mpr h | (have e7 := mt z0.mpr h; omega)) p e s m args below meth c hC hK hZ H locs ls hP hD hS hl
theorem aw_icmp_ne {x y : Int} {off : Int} {t : Nat} (d : decode cc pc = .ok (.if_icmp .ne off, 3)) (hq : pc + 3 = q) (ht : (pc : Int) + off = (t : Int)) (hr0 : -2147483648 ≤ x ∧ x ≤ 2147483647) (hr1 : -2147483648 ≤ y ∧ y ≤ 2147483647)
    (kt : ¬ x = y → AW l own nm cc nL ret X R E D ty Z w0 t lv st ws k n) (kf : x = y → AW l own nm cc nL ret X R E D ty Z w0 q lv st ws k n) : AW l own nm cc nL ret X R E D ty Z w0 pc lv (.int (iI y) :: .int (iI x) :: st) ws k n := by
  subst hq
  intro p e s m args below meth c hC hK hZ H locs ls hP hD hS hl
  obtain ⟨hx, hb, hml, hown, hts, hr, hlk, hnm, hX⟩ := id hC
  have z0 : iI x = iI y ↔ x = y := iI_inj hr0 hr1
  refine lv_icmp_ne hx hb d ht (fun h => ?_) (fun h => ?_)
  · exact kt (by first | exact z0.mp h | exact fun e9 => h (z0.mpr e9)) p e s m args below meth c hC hK hZ H locs ls hP hD hS hl
  · exact kf (by first | exact z0.mp h | exact Classical.not_not.mp (fun e9 => h (fun e8 => e9 (z0.mp e8))) | exact mt z0.mpr h | (have e7 := mt z0.mpr h; omega)) p e s m args below meth c hC hK hZ H locs ls hP hD hS hl
theorem aw_icmp_lt {x y : Int} {off : Int} {t : Nat} (d : decode cc pc = .ok (.if_icmp .lt off, 3)) (hq : pc + 3 = q) (ht : (pc : Int) + off = (t : Int)) (hr0 : -2147483648 ≤ x ∧ x ≤ 2147483647) (hr1 : -2147483648 ≤ y ∧ y ≤ 2147483647)
    (kt : x < y → AW l own nm cc nL ret X R E D ty Z w0 t lv st ws k n) (kf : y ≤ x → AW l own nm cc nL ret X R E D ty Z w0 q lv st ws k n) : AW l own nm cc nL ret X R E D ty Z w0 pc lv (.int (iI y) :: .int (iI x) :: st) ws k n := by
  subst hq
  intro p e s m args below meth c hC hK hZ H locs ls hP hD hS hl
  obtain ⟨hx, hb, hml, hown, hts, hr, hlk, hnm, hX⟩ := id hC
  have z0 : iI x < iI y ↔ x < y := iI_lt hr0 hr1
  refine lv_icmp_lt hx hb d ht (fun h => ?_) (fun h => ?_)
  · exact kt (by first | exact z0.mp h | exact fun e9 => h (z0.mpr e9)) p e s m args below meth c hC hK hZ H locs ls hP hD hS hl
  · exact kf (by first | exact z0.mp h | exact Classical.not_not.mp (fun e9 => h (fun e8 => e9 (z0.mp e8))) | exact mt z0.mpr h | (have e7 := mt z0.mpr h; omega)) p e s m args below meth c hC hK hZ H locs ls hP hD hS hl
theorem aw_icmp_le {x y : Int} {off : Int} {t : Nat} (d : decode cc pc = .ok (.if_icmp .le off, 3)) (hq : pc + 3 = q) (ht : (pc : Int) + off = (t : Int)) (hr0 : -2147483648 ≤ x ∧ x ≤ 2147483647) (hr1 : -2147483648 ≤ y ∧ y ≤ 2147483647)
    (kt : x ≤ y → AW l own nm cc nL ret X R E D ty Z w0 t lv st ws k n) (kf : y < x → AW l own nm cc nL ret X R E D ty Z w0 q lv st ws k n) : AW l own nm cc nL ret X R E D ty Z w0 pc lv (.int (iI y) :: .int (iI x) :: st) ws k n := by
  subst hq
  intro p e s m args below meth c hC hK hZ H locs ls hP hD hS hl
  obtain ⟨hx, hb, hml, hown, hts, hr, hlk, hnm, hX⟩ := id hC
  have z0 : iI x ≤ iI y ↔ x ≤ y := iI_le hr0 hr1
  refine lv_icmp_le hx hb d ht (fun h => ?_) (fun h => ?_)
  · exact kt (by first | exact z0.mp h | exact fun e9 => h (z0.mpr e9)) p e s m args below meth c hC hK hZ H locs ls hP hD hS hl
  · exact kf (by first | exact z0.mp h | exact Classical.not_not.mp (fun e9 => h (fun e8 => e9 (z0.mp e8))) | exact mt z0.mpr h | (have e7 := mt z0.mpr h; omega)) p e s m args below meth c hC hK hZ H locs ls hP hD hS hl
theorem aw_icmp_ge {x y : Int} {off : Int} {t : Nat} (d : decode cc pc = .ok (.if_icmp .ge off, 3)) (hq : pc + 3 = q) (ht : (pc : Int) + off = (t : Int)) (hr0 : -2147483648 ≤ x ∧ x ≤ 2147483647) (hr1 : -2147483648 ≤ y ∧ y ≤ 2147483647)
    (kt : y ≤ x → AW l own nm cc nL ret X R E D ty Z w0 t lv st ws k n) (kf : x < y → AW l own nm cc nL ret X R E D ty Z w0 q lv st ws k n) : AW l own nm cc nL ret X R E D ty Z w0 pc lv (.int (iI y) :: .int (iI x) :: st) ws k n := by
  subst hq
  intro p e s m args below meth c hC hK hZ H locs ls hP hD hS hl
  obtain ⟨hx, hb, hml, hown, hts, hr, hlk, hnm, hX⟩ := id hC
  have z0 : iI y ≤ iI x ↔ y ≤ x := iI_le hr1 hr0
  refine lv_icmp_ge hx hb d ht (fun h => ?_) (fun h => ?_)
  · exact kt (by first | exact z0.mp h | exact fun e9 => h (z0.mpr e9)) p e s m args below meth c hC hK hZ H locs ls hP hD hS hl
  · exact kf (by first | exact z0.mp h | exact Classical.not_not.mp (fun e9 => h (fun e8 => e9 (z0.mp e8))) | exact mt z0.mpr h | (have e7 := mt z0.mpr h; omega)) p e s m args below meth c hC hK hZ H locs ls hP hD hS hl
theorem aw_icmp_gt {x y : Int} {off : Int} {t : Nat} (d : decode cc pc = .ok (.if_icmp .gt off, 3)) (hq : pc + 3 = q) (ht : (pc : Int) + off = (t : Int)) (hr0 : -2147483648 ≤ x ∧ x ≤ 2147483647) (hr1 : -2147483648 ≤ y ∧ y ≤ 2147483647)
    (kt : y < x → AW l own nm cc nL ret X R E D ty Z w0 t lv st ws k n) (kf : x ≤ y → AW l own nm cc nL ret X R E D ty Z w0 q lv st ws k n) : AW l own nm cc nL ret X R E D ty Z w0 pc lv (.int (iI y) :: .int (iI x) :: st) ws k n := by
  subst hq
  intro p e s m args below meth c hC hK hZ H locs ls hP hD hS hl
  obtain ⟨hx, hb, hml, hown, hts, hr, hlk, hnm, hX⟩ := id hC
  have z0 : iI y < iI x ↔ y < x := iI_lt hr1 hr0
  refine lv_icmp_gt hx hb d ht (fun h => ?_) (fun h => ?_)
  · exact kt (by first | exact z0.mp h | exact fun e9 => h (z0.mpr e9)) p e s m args below meth c hC hK hZ H locs ls hP hD hS hl
  · exact kf (by first | exact z0.mp h | exact Classical.not_not.mp (fun e9 => h (fun e8 => e9 (z0.mp e8))) | exact mt z0.mpr h | (have e7 := mt z0.mpr h; omega)) p e s m args below meth c hC hK hZ H locs ls hP hD hS hl
end RWS
