def b2i (p : Prop) [Decidable p] : Int := if p then 1 else 0
theorem b2i_t {p : Prop} [Decidable p] (h : p) : b2i p = 1 := if_pos h
theorem b2i_f {p : Prop} [Decidable p] (h : ¬ p) : b2i p = 0 := if_neg h
theorem b2i_r (p : Prop) [Decidable p] : b2i p = 0 ∨ b2i p = 1 := by by_cases h : p <;> simp [b2i, h]
theorem b2i_b (p : Prop) [Decidable p] : 0 ≤ b2i p ∧ b2i p ≤ 1 := by rcases b2i_r p with h | h <;> omega
theorem b2i_0 {p : Prop} [Decidable p] : b2i p = 0 ↔ ¬ p := by by_cases h : p <;> simp [b2i, h]
theorem b2i_1 {p : Prop} [Decidable p] : b2i p = 1 ↔ p := by by_cases h : p <;> simp [b2i, h]
theorem b2i_c {p q : Prop} [Decidable p] [Decidable q] (h : p ↔ q) : b2i p = b2i q := by by_cases h2 : p <;> simp [b2i, h2, ← h]
theorem iI_div {x y : Int} (hx : 0 ≤ x ∧ x ≤ 2147483647) (hy : 0 < y ∧ y ≤ 2147483647) : iI x / iI y = iI (x / y) := by
  have h1 : 0 ≤ x / y := Int.ediv_nonneg hx.1 (by omega)
  have h2 : x / y ≤ x := Int.ediv_le_self y hx.1
  apply Int32.toInt_inj.mp
  rw [Int32.toInt_div, iI_toInt (x := x) (by omega), iI_toInt (x := y) (by omega), iI_toInt (x := x / y) (by omega), Int.tdiv_eq_ediv_of_nonneg hx.1]
  rw [Int.bmod_eq_of_le (by omega) (by omega)]
abbrev GG : Type := Int → Int → Int
def RI (ad : Int → Nat) (C : Nat → ClassId) (P : Int → GG → Prop) : Option Value → va_W → Prop := fun v w => ∃ (r : Int) (G1 : GG), v = some (.int (iI r)) ∧ w = cw ad C G1 ∧ P r G1
def RL' (ad : Int → Nat) (C : Nat → ClassId) (P : Int → GG → Prop) : Option Value → va_W → Prop := fun v w => ∃ (r : Int) (G1 : GG), v = some (.long (iL r)) ∧ w = cw ad C G1 ∧ P r G1
def RF (ad : Int → Nat) (C : Nat → ClassId) (P : UInt32 → GG → Prop) : Option Value → va_W → Prop := fun v w => ∃ (r : UInt32) (G1 : GG), v = some (.float r) ∧ w = cw ad C G1 ∧ P r G1
def RV (ad : Int → Nat) (C : Nat → ClassId) (P : GG → Prop) : Option Value → va_W → Prop := fun v w => ∃ G1 : GG, v = none ∧ w = cw ad C G1 ∧ P G1
section RWQ
variable {l : Launch} {own nm : String} {cc : ByteArray} {nL : Nat} {ret : Option FieldType} {X : Code → Prop} {R : Room} {E : List Frame → Array Value → State → State → Prop} {D : va_G} {C : Nat → ClassId} {Z : State → Prop} {w0 : va_W} {pc q : Nat} {lv : List (Nat × Value)} {st : List Value} {k n : Nat} {ad : Int → Nat} {G : GG} {mc ms : Nat}
theorem rt_i {P : Int → GG → Prop} {x : Int} (hr9 : ret = some .int) (hk : k ≤ mc) (hn : n ≤ ms) (hP : P x G) (d : decode cc pc = .ok (.ireturn, 1)) : AW l own nm cc nL ret X R (hvE D (RI ad C P) w0 mc ms) D (tyC C) Z w0 pc lv [.int (iI x)] (cw ad C G) k n :=
  aw_iret hr9 rfl hk hn ⟨x, G, rfl, rfl, hP⟩ d
theorem rt_z {P : Int → GG → Prop} {x : Int} (hr9 : ret = some .boolean) (hx : x = 0 ∨ x = 1) (hk : k ≤ mc) (hn : n ≤ ms) (hP : P x G) (d : decode cc pc = .ok (.ireturn, 1)) : AW l own nm cc nL ret X R (hvE D (RI ad C P) w0 mc ms) D (tyC C) Z w0 pc lv [.int (iI x)] (cw ad C G) k n :=
  aw_iret hr9 (by rcases hx with rfl | rfl <;> decide) hk hn ⟨x, G, rfl, rfl, hP⟩ d
theorem rt_l {P : Int → GG → Prop} {x : Int} (hr9 : ret = some .long) (hk : k ≤ mc) (hn : n ≤ ms) (hP : P x G) (d : decode cc pc = .ok (.lreturn, 1)) : AW l own nm cc nL ret X R (hvE D (RL' ad C P) w0 mc ms) D (tyC C) Z w0 pc lv [.long (iL x)] (cw ad C G) k n :=
  aw_lret hr9 hk hn ⟨x, G, rfl, rfl, hP⟩ d
theorem rt_f {P : UInt32 → GG → Prop} {x : UInt32} (hr9 : ret = some .float) (hk : k ≤ mc) (hn : n ≤ ms) (hP : P x G) (d : decode cc pc = .ok (.freturn, 1)) : AW l own nm cc nL ret X R (hvE D (RF ad C P) w0 mc ms) D (tyC C) Z w0 pc lv [.float x] (cw ad C G) k n :=
  aw_fret hr9 hk hn ⟨x, G, rfl, rfl, hP⟩ d
theorem rt_v {P : GG → Prop} (hr9 : ret = none) (hk : k ≤ mc) (hn : n ≤ ms) (hP : P G) (d : decode cc pc = .ok (.return_, 1)) : AW l own nm cc nL ret X R (hvE D (RV ad C P) w0 mc ms) D (tyC C) Z w0 pc lv [] (cw ad C G) k n :=
  aw_vret hr9 hk hn ⟨G, rfl, rfl, hP⟩ d
theorem aw_ifb_eq {p : Prop} [Decidable p] {off : Int} {t : Nat} (d : decode cc pc = .ok (.ifCond .eq off, 3)) (hq : pc + 3 = q) (ht : (pc : Int) + off = (t : Int))
    (kt : ¬ p → AW l own nm cc nL ret X R E D (tyC C) Z w0 t lv st (cw ad C G) k n) (kf : p → AW l own nm cc nL ret X R E D (tyC C) Z w0 q lv st (cw ad C G) k n) : AW l own nm cc nL ret X R E D (tyC C) Z w0 pc lv (.int (iI (b2i p)) :: st) (cw ad C G) k n :=
  aw_if_eq d hq ht (by have := b2i_b p; omega) (fun h => kt (b2i_0.mp h)) (fun h => kf (Classical.not_not.mp (fun z => h (b2i_f z))))
theorem aw_ifb_ne {p : Prop} [Decidable p] {off : Int} {t : Nat} (d : decode cc pc = .ok (.ifCond .ne off, 3)) (hq : pc + 3 = q) (ht : (pc : Int) + off = (t : Int))
    (kt : p → AW l own nm cc nL ret X R E D (tyC C) Z w0 t lv st (cw ad C G) k n) (kf : ¬ p → AW l own nm cc nL ret X R E D (tyC C) Z w0 q lv st (cw ad C G) k n) : AW l own nm cc nL ret X R E D (tyC C) Z w0 pc lv (.int (iI (b2i p)) :: st) (cw ad C G) k n :=
  aw_if_ne d hq ht (by have := b2i_b p; omega) (fun h => kt (Classical.not_not.mp (fun z => h (b2i_f z)))) (fun h => kf (b2i_0.mp h))
theorem aw_gen {x : Int} {P : Int → Prop} (h : P x) (kk : ∀ y, P y → AW l own nm cc nL ret X R E D (tyC C) Z w0 pc lv (.int (iI y) :: st) (cw ad C G) k n) : AW l own nm cc nL ret X R E D (tyC C) Z w0 pc lv (.int (iI x) :: st) (cw ad C G) k n := kk x h
theorem aw_div5 {x y z : Int} (hx : 0 ≤ x ∧ x ≤ 2147483647) (hy : 0 < y ∧ y ≤ 2147483647) (hz : x / y = z) (d : decode cc pc = .ok (.idiv, 1)) (hq : pc + 1 = q)
    (kk : AW l own nm cc nL ret X R E D (tyC C) Z w0 q lv (.int (iI z) :: st) (cw ad C G) k n) : AW l own nm cc nL ret X R E D (tyC C) Z w0 pc lv (.int (iI y) :: .int (iI x) :: st) (cw ad C G) k n := by
  refine aw_idivR d hq (fun h => ?_) ?_
  · rw [show (0 : Int32) = iI 0 from by decide, iI_inj (by omega) (by omega)] at h; omega
  · rw [iI_div hx hy, hz]; exact kk
theorem aw_rem5 {x y z : Int} (hx : 0 ≤ x ∧ x ≤ 2147483647) (hy : 0 < y ∧ y ≤ 2147483647) (hz : x % y = z) (d : decode cc pc = .ok (.irem, 1)) (hq : pc + 1 = q)
    (kk : AW l own nm cc nL ret X R E D (tyC C) Z w0 q lv (.int (iI z) :: st) (cw ad C G) k n) : AW l own nm cc nL ret X R E D (tyC C) Z w0 pc lv (.int (iI y) :: .int (iI x) :: st) (cw ad C G) k n := by
  refine aw_iremR d hq (fun h => ?_) ?_
  · rw [show (0 : Int32) = iI 0 from by decide, iI_inj (by omega) (by omega)] at h; omega
  · rw [iI_div hx hy, iI_mul, iI_sub, show x - x / y * y = z from by rw [← hz]; have := Int.mul_ediv_add_emod x y; rw [Int.mul_comm] at this; omega]; exact kk
variable {T : Nat → Nat} {y : MethodName} {bytes : ByteArray} {maxL : Nat} {rt : Option FieldType} {fr lo idx : Nat} {As : List Value} {b : Nat} {id : Int}
theorem cv_I {P : Int → GG → Prop} {CC : String} {TT : u_T} {N ci : Nat} {fs : List Value} (nA : Nat) (hm : MC l y bytes maxL rt fr lo 0 0 D (tyC C) T (.ref (ad id) :: As) (cw ad C G) (RI ad C P)) (hZT : ∀ s, Z s → hvZ T w0 s) (hid : 0 ≤ id ∧ id < 108) (hcell : cellOf ad C G id = .inr (ci, fs)) (hc : vwCl[ci]? = some (y.cls, TT, N)) (hw1 : Cond.code y bytes maxL rt ∈ gt) (hw2 : Cond.methodLink own idx y ∈ gt) (hw3 : Cond.instanceMethod y ∈ gt) (hw4 : Cond.selects y.cls y y ∈ gt) (hw5 : Cond.initialized y.cls ∈ gt) (hd : y.cls ≠ "java/lang/invoke/MethodHandle" ∧ y.cls ≠ "java/lang/invoke/VarHandle" ∧ (parseMethodDescriptor y.desc).map (fun d => d.parameters.length) = some nA) (hn : As.length = nA) (hR : fr + 1 ≤ R.frames ∧ 8 + (maxL + 11) + lo ≤ R.locals) (hR2 : k ≤ R.cells ∧ n ≤ R.slots) (hst : (st.map fun v => v.category).sum ≤ 8) (d : decode cc pc = .ok (.invokevirtual idx, 3)) (hq : pc + 3 = q)
    (kk : ∀ (r : Int) (G1 : GG), P r G1 → AW l own nm cc nL ret X R E D (tyC C) Z w0 q lv (.int (iI r) :: st) (cw ad C G1) k n) : AW l own nm cc nL ret X R E D (tyC C) Z w0 pc lv (As.reverse ++ .ref (ad id) :: st) (cw ad C G) k n := by
  refine aw_callV (C := "") id.toNat nA hm hZT (by rw [cw_get hid, hcell]) hc hw1 hw2 hw3 hw4 hw5 hd hn hR hR2 hst d hq (fun v w e => ?_)
  obtain ⟨r, G1, rfl, rfl, h⟩ := e; exact kk r G1 h
theorem cs_I {P : Int → GG → Prop} (nA : Nat) (hm : MC l y bytes maxL rt fr lo 0 0 D (tyC C) T As (cw ad C G) (RI ad C P)) (hZT : ∀ s, Z s → hvZ T w0 s) (hw1 : Cond.code y bytes maxL rt ∈ gt) (hw2 : Cond.methodLink own idx y ∈ gt) (hw3 : Cond.static y ∈ gt) (hw5 : Cond.initialized y.cls ∈ gt) (hd : y.cls ≠ "java/lang/invoke/MethodHandle" ∧ y.cls ≠ "java/lang/invoke/VarHandle" ∧ (parseMethodDescriptor y.desc).map (fun d => d.parameters.length) = some nA) (hn : As.length = nA) (hR : fr + 1 ≤ R.frames ∧ 8 + (maxL + 11) + lo ≤ R.locals) (hR2 : k ≤ R.cells ∧ n ≤ R.slots) (hst : (st.map fun v => v.category).sum ≤ 8) (d : decode cc pc = .ok (.invokestatic idx, 3)) (hq : pc + 3 = q)
    (kk : ∀ (r : Int) (G1 : GG), P r G1 → AW l own nm cc nL ret X R E D (tyC C) Z w0 q lv (.int (iI r) :: st) (cw ad C G1) k n) : AW l own nm cc nL ret X R E D (tyC C) Z w0 pc lv (As.reverse ++ st) (cw ad C G) k n := by
  refine aw_callS nA hm hZT hw1 hw2 hw3 hw5 hd hn hR hR2 hst d hq (fun v w e => ?_)
  obtain ⟨r, G1, rfl, rfl, h⟩ := e; exact kk r G1 h
theorem cv_L {P : Int → GG → Prop} {CC : String} {TT : u_T} {N ci : Nat} {fs : List Value} (nA : Nat) (hm : MC l y bytes maxL rt fr lo 0 0 D (tyC C) T (.ref (ad id) :: As) (cw ad C G) (RL' ad C P)) (hZT : ∀ s, Z s → hvZ T w0 s) (hid : 0 ≤ id ∧ id < 108) (hcell : cellOf ad C G id = .inr (ci, fs)) (hc : vwCl[ci]? = some (y.cls, TT, N)) (hw1 : Cond.code y bytes maxL rt ∈ gt) (hw2 : Cond.methodLink own idx y ∈ gt) (hw3 : Cond.instanceMethod y ∈ gt) (hw4 : Cond.selects y.cls y y ∈ gt) (hw5 : Cond.initialized y.cls ∈ gt) (hd : y.cls ≠ "java/lang/invoke/MethodHandle" ∧ y.cls ≠ "java/lang/invoke/VarHandle" ∧ (parseMethodDescriptor y.desc).map (fun d => d.parameters.length) = some nA) (hn : As.length = nA) (hR : fr + 1 ≤ R.frames ∧ 8 + (maxL + 11) + lo ≤ R.locals) (hR2 : k ≤ R.cells ∧ n ≤ R.slots) (hst : (st.map fun v => v.category).sum ≤ 8) (d : decode cc pc = .ok (.invokevirtual idx, 3)) (hq : pc + 3 = q)
    (kk : ∀ (r : Int) (G1 : GG), P r G1 → AW l own nm cc nL ret X R E D (tyC C) Z w0 q lv (.long (iL r) :: st) (cw ad C G1) k n) : AW l own nm cc nL ret X R E D (tyC C) Z w0 pc lv (As.reverse ++ .ref (ad id) :: st) (cw ad C G) k n := by
  refine aw_callV (C := "") id.toNat nA hm hZT (by rw [cw_get hid, hcell]) hc hw1 hw2 hw3 hw4 hw5 hd hn hR hR2 hst d hq (fun v w e => ?_)
  obtain ⟨r, G1, rfl, rfl, h⟩ := e; exact kk r G1 h
theorem cs_L {P : Int → GG → Prop} (nA : Nat) (hm : MC l y bytes maxL rt fr lo 0 0 D (tyC C) T As (cw ad C G) (RL' ad C P)) (hZT : ∀ s, Z s → hvZ T w0 s) (hw1 : Cond.code y bytes maxL rt ∈ gt) (hw2 : Cond.methodLink own idx y ∈ gt) (hw3 : Cond.static y ∈ gt) (hw5 : Cond.initialized y.cls ∈ gt) (hd : y.cls ≠ "java/lang/invoke/MethodHandle" ∧ y.cls ≠ "java/lang/invoke/VarHandle" ∧ (parseMethodDescriptor y.desc).map (fun d => d.parameters.length) = some nA) (hn : As.length = nA) (hR : fr + 1 ≤ R.frames ∧ 8 + (maxL + 11) + lo ≤ R.locals) (hR2 : k ≤ R.cells ∧ n ≤ R.slots) (hst : (st.map fun v => v.category).sum ≤ 8) (d : decode cc pc = .ok (.invokestatic idx, 3)) (hq : pc + 3 = q)
    (kk : ∀ (r : Int) (G1 : GG), P r G1 → AW l own nm cc nL ret X R E D (tyC C) Z w0 q lv (.long (iL r) :: st) (cw ad C G1) k n) : AW l own nm cc nL ret X R E D (tyC C) Z w0 pc lv (As.reverse ++ st) (cw ad C G) k n := by
  refine aw_callS nA hm hZT hw1 hw2 hw3 hw5 hd hn hR hR2 hst d hq (fun v w e => ?_)
  obtain ⟨r, G1, rfl, rfl, h⟩ := e; exact kk r G1 h
theorem cv_F {P : UInt32 → GG → Prop} {CC : String} {TT : u_T} {N ci : Nat} {fs : List Value} (nA : Nat) (hm : MC l y bytes maxL rt fr lo 0 0 D (tyC C) T (.ref (ad id) :: As) (cw ad C G) (RF ad C P)) (hZT : ∀ s, Z s → hvZ T w0 s) (hid : 0 ≤ id ∧ id < 108) (hcell : cellOf ad C G id = .inr (ci, fs)) (hc : vwCl[ci]? = some (y.cls, TT, N)) (hw1 : Cond.code y bytes maxL rt ∈ gt) (hw2 : Cond.methodLink own idx y ∈ gt) (hw3 : Cond.instanceMethod y ∈ gt) (hw4 : Cond.selects y.cls y y ∈ gt) (hw5 : Cond.initialized y.cls ∈ gt) (hd : y.cls ≠ "java/lang/invoke/MethodHandle" ∧ y.cls ≠ "java/lang/invoke/VarHandle" ∧ (parseMethodDescriptor y.desc).map (fun d => d.parameters.length) = some nA) (hn : As.length = nA) (hR : fr + 1 ≤ R.frames ∧ 8 + (maxL + 11) + lo ≤ R.locals) (hR2 : k ≤ R.cells ∧ n ≤ R.slots) (hst : (st.map fun v => v.category).sum ≤ 8) (d : decode cc pc = .ok (.invokevirtual idx, 3)) (hq : pc + 3 = q)
    (kk : ∀ (r : UInt32) (G1 : GG), P r G1 → AW l own nm cc nL ret X R E D (tyC C) Z w0 q lv (.float r :: st) (cw ad C G1) k n) : AW l own nm cc nL ret X R E D (tyC C) Z w0 pc lv (As.reverse ++ .ref (ad id) :: st) (cw ad C G) k n := by
  refine aw_callV (C := "") id.toNat nA hm hZT (by rw [cw_get hid, hcell]) hc hw1 hw2 hw3 hw4 hw5 hd hn hR hR2 hst d hq (fun v w e => ?_)
  obtain ⟨r, G1, rfl, rfl, h⟩ := e; exact kk r G1 h
theorem cs_F {P : UInt32 → GG → Prop} (nA : Nat) (hm : MC l y bytes maxL rt fr lo 0 0 D (tyC C) T As (cw ad C G) (RF ad C P)) (hZT : ∀ s, Z s → hvZ T w0 s) (hw1 : Cond.code y bytes maxL rt ∈ gt) (hw2 : Cond.methodLink own idx y ∈ gt) (hw3 : Cond.static y ∈ gt) (hw5 : Cond.initialized y.cls ∈ gt) (hd : y.cls ≠ "java/lang/invoke/MethodHandle" ∧ y.cls ≠ "java/lang/invoke/VarHandle" ∧ (parseMethodDescriptor y.desc).map (fun d => d.parameters.length) = some nA) (hn : As.length = nA) (hR : fr + 1 ≤ R.frames ∧ 8 + (maxL + 11) + lo ≤ R.locals) (hR2 : k ≤ R.cells ∧ n ≤ R.slots) (hst : (st.map fun v => v.category).sum ≤ 8) (d : decode cc pc = .ok (.invokestatic idx, 3)) (hq : pc + 3 = q)
    (kk : ∀ (r : UInt32) (G1 : GG), P r G1 → AW l own nm cc nL ret X R E D (tyC C) Z w0 q lv (.float r :: st) (cw ad C G1) k n) : AW l own nm cc nL ret X R E D (tyC C) Z w0 pc lv (As.reverse ++ st) (cw ad C G) k n := by
  refine aw_callS nA hm hZT hw1 hw2 hw3 hw5 hd hn hR hR2 hst d hq (fun v w e => ?_)
  obtain ⟨r, G1, rfl, rfl, h⟩ := e; exact kk r G1 h
theorem cv_V {P : GG → Prop} {CC : String} {TT : u_T} {N ci : Nat} {fs : List Value} (nA : Nat) (hm : MC l y bytes maxL rt fr lo 0 0 D (tyC C) T (.ref (ad id) :: As) (cw ad C G) (RV ad C P)) (hZT : ∀ s, Z s → hvZ T w0 s) (hid : 0 ≤ id ∧ id < 108) (hcell : cellOf ad C G id = .inr (ci, fs)) (hc : vwCl[ci]? = some (y.cls, TT, N)) (hw1 : Cond.code y bytes maxL rt ∈ gt) (hw2 : Cond.methodLink own idx y ∈ gt) (hw3 : Cond.instanceMethod y ∈ gt) (hw4 : Cond.selects y.cls y y ∈ gt) (hw5 : Cond.initialized y.cls ∈ gt) (hd : y.cls ≠ "java/lang/invoke/MethodHandle" ∧ y.cls ≠ "java/lang/invoke/VarHandle" ∧ (parseMethodDescriptor y.desc).map (fun d => d.parameters.length) = some nA) (hn : As.length = nA) (hR : fr + 1 ≤ R.frames ∧ 8 + (maxL + 11) + lo ≤ R.locals) (hR2 : k ≤ R.cells ∧ n ≤ R.slots) (hst : (st.map fun v => v.category).sum ≤ 8) (d : decode cc pc = .ok (.invokevirtual idx, 3)) (hq : pc + 3 = q)
    (kk : ∀ G1 : GG, P G1 → AW l own nm cc nL ret X R E D (tyC C) Z w0 q lv st (cw ad C G1) k n) : AW l own nm cc nL ret X R E D (tyC C) Z w0 pc lv (As.reverse ++ .ref (ad id) :: st) (cw ad C G) k n := by
  refine aw_callV (C := "") id.toNat nA hm hZT (by rw [cw_get hid, hcell]) hc hw1 hw2 hw3 hw4 hw5 hd hn hR hR2 hst d hq (fun v w e => ?_)
  obtain ⟨G1, rfl, rfl, h⟩ := e; exact kk G1 h
theorem cs_V {P : GG → Prop} (nA : Nat) (hm : MC l y bytes maxL rt fr lo 0 0 D (tyC C) T As (cw ad C G) (RV ad C P)) (hZT : ∀ s, Z s → hvZ T w0 s) (hw1 : Cond.code y bytes maxL rt ∈ gt) (hw2 : Cond.methodLink own idx y ∈ gt) (hw3 : Cond.static y ∈ gt) (hw5 : Cond.initialized y.cls ∈ gt) (hd : y.cls ≠ "java/lang/invoke/MethodHandle" ∧ y.cls ≠ "java/lang/invoke/VarHandle" ∧ (parseMethodDescriptor y.desc).map (fun d => d.parameters.length) = some nA) (hn : As.length = nA) (hR : fr + 1 ≤ R.frames ∧ 8 + (maxL + 11) + lo ≤ R.locals) (hR2 : k ≤ R.cells ∧ n ≤ R.slots) (hst : (st.map fun v => v.category).sum ≤ 8) (d : decode cc pc = .ok (.invokestatic idx, 3)) (hq : pc + 3 = q)
    (kk : ∀ G1 : GG, P G1 → AW l own nm cc nL ret X R E D (tyC C) Z w0 q lv st (cw ad C G1) k n) : AW l own nm cc nL ret X R E D (tyC C) Z w0 pc lv (As.reverse ++ st) (cw ad C G) k n := by
  refine aw_callS nA hm hZT hw1 hw2 hw3 hw5 hd hn hR hR2 hst d hq (fun v w e => ?_)
  obtain ⟨G1, rfl, rfl, h⟩ := e; exact kk G1 h
theorem csN_I {P : Int → GG → Prop} (nA : Nat) (host : String) (hm : MC l y bytes maxL rt fr lo 0 0 D (tyC C) T As (cw ad C G) (RI ad C P)) (hZT : ∀ s, Z s → hvZ T w0 s) (hw1 : Cond.code y bytes maxL rt ∈ gt) (hw2 : (own, idx, y, host) ∈ nestM) (hw3 : Cond.static y ∈ gt) (hw5 : Cond.initialized y.cls ∈ gt) (hd : y.cls ≠ "java/lang/invoke/MethodHandle" ∧ y.cls ≠ "java/lang/invoke/VarHandle" ∧ (parseMethodDescriptor y.desc).map (fun d => d.parameters.length) = some nA) (hn : As.length = nA) (hR : fr + 1 ≤ R.frames ∧ 8 + (maxL + 11) + lo ≤ R.locals) (hR2 : k ≤ R.cells ∧ n ≤ R.slots) (hst : (st.map fun v => v.category).sum ≤ 8) (d : decode cc pc = .ok (.invokestatic idx, 3)) (hq : pc + 3 = q)
    (kk : ∀ (r : Int) (G1 : GG), P r G1 → AW l own nm cc nL ret X R E D (tyC C) Z w0 q lv (.int (iI r) :: st) (cw ad C G1) k n) : AW l own nm cc nL ret X R E D (tyC C) Z w0 pc lv (As.reverse ++ st) (cw ad C G) k n := by
  refine aw_callSN nA host hm hZT hw1 hw2 hw3 hw5 hd hn hR hR2 hst d hq (fun v w e => ?_)
  obtain ⟨r, G1, rfl, rfl, h⟩ := e; exact kk r G1 h
end RWQ
