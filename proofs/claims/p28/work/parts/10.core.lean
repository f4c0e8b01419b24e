/-! the core: a walk over a world (AW), and a method's contract over worlds (MC) -/
def iI (x : Int) : Int32 := Int32.ofInt x
def iL (x : Int) : Int64 := Int64.ofInt x
theorem iI_add (x y : Int) : iI x + iI y = iI (x + y) := by unfold iI; rw [Int32.ofInt_add]
theorem iI_sub (x y : Int) : iI x - iI y = iI (x - y) := by unfold iI; rw [Int32.ofInt_sub]
theorem iI_mul (x y : Int) : iI x * iI y = iI (x * y) := by unfold iI; rw [Int32.ofInt_mul]
theorem iI_toInt {x : Int} (h : -2147483648 ≤ x ∧ x ≤ 2147483647) : (iI x).toInt = x := by
  unfold iI
  exact Int32.toInt_ofInt_of_le (by omega) (by omega)
theorem iI_of (x : Int32) : x = iI x.toInt := by unfold iI; rw [Int32.ofInt_toInt]
theorem iI_rng (x : Int32) : -2147483648 ≤ x.toInt ∧ x.toInt ≤ 2147483647 := by
  have h1 := Int32.le_toInt x
  have h2 := Int32.toInt_lt x
  omega
theorem iI_inj {x y : Int} (hx : -2147483648 ≤ x ∧ x ≤ 2147483647) (hy : -2147483648 ≤ y ∧ y ≤ 2147483647) : iI x = iI y ↔ x = y :=
  ⟨fun h => by rw [← iI_toInt hx, ← iI_toInt hy, h], fun h => by rw [h]⟩
theorem iI_lt {x y : Int} (hx : -2147483648 ≤ x ∧ x ≤ 2147483647) (hy : -2147483648 ≤ y ∧ y ≤ 2147483647) : iI x < iI y ↔ x < y := by
  rw [Int32.lt_iff_toInt_lt, iI_toInt hx, iI_toInt hy]
theorem iI_le {x y : Int} (hx : -2147483648 ≤ x ∧ x ≤ 2147483647) (hy : -2147483648 ≤ y ∧ y ≤ 2147483647) : iI x ≤ iI y ↔ x ≤ y := by
  rw [Int32.le_iff_toInt_le, iI_toInt hx, iI_toInt hy]
theorem iI_nat {x : Int} (h : 0 ≤ x ∧ x ≤ 2147483647) : (iI x).toNatClampNeg = x.toNat := by
  show (iI x).toInt.toNat = x.toNat
  rw [iI_toInt (by omega)]
theorem iI_in {x : Int} {n : Nat} (h : 0 ≤ x ∧ x < n) (hn : n ≤ 2147483647) : vp_in (iI x) n := by
  rintro (h1 | h1)
  · rw [show (0 : Int32) = iI 0 from by decide, iI_lt (by omega) (by omega)] at h1
    omega
  · rw [iI_nat (by omega)] at h1
    omega
def hC (p : Program) (own nm : String) (cc : ByteArray) (nL : Nat) (ret : Option FieldType) (X : Code → Prop) (s : State) (m : MethodId) (args : Array Value) (meth : Method) (c : Code) : Prop :=
  p.tables.exec = Jvm.exec ∧ c.code = cc ∧ c.maxLocals = nL ∧ s.vm.findClass own = some m.cls ∧ (∀ w ∈ gt, w.before args s = true) ∧ meth.sig.returnType = ret ∧ meth.locks = false ∧ meth.name = nm ∧ X c
def AW (l : Launch) (own nm : String) (cc : ByteArray) (nL : Nat) (ret : Option FieldType) (X : Code → Prop) (R : Room) (E : List Frame → Array Value → State → State → Prop) (D : va_G) (ty : List (ClassId × FieldType)) (Z : State → Prop) (w0 : va_W) (pc : Nat) (lv : List (Nat × Value)) (st : List Value) (ws : va_W) (k n : Nat) : Prop :=
  ∀ (p : Program) (e : Env) (s : State) (m : MethodId) (args : Array Value) (below : List Frame) (meth : Method) (c : Code), hC p own nm cc nL ret X s m args meth c → va_K D vwCl ty s → Z s →
  ∀ (H : Heap) (locs : List Loc) (ls : Array Slot), va_P D vwCl ws H → va_D (va_A w0 s.heap.size) ws → va_S (va_A w0 s.heap.size) s.heap H locs → lv_has ls nL lv →
  W p l e R s m args below meth c H locs k n (E below args s) (F0 m pc ls st)
/-- tables of the class: COIN, FIRST_SETTING, LEAST_SETTING, MOST_SETTING, SETTING_STEP -/
def tbV (t j : Nat) : Int := (([[5, 10, 20, 50], [20, 5, 50, 100, 10], [1, 0, 0, 0, 0], [100, 100, 100, 1000, 100], [1, 1, 1, 1, 5]] : List (List Int)).getD t []).getD j 0
def tbL (t : Nat) : Nat := (([4, 5, 5, 5, 5] : List Nat)).getD t 0
def tbN (t : Nat) : String := (["COIN", "FIRST_SETTING", "LEAST_SETTING", "MOST_SETTING", "SETTING_STEP"] : List String).getD t ""
def strs : List (Nat × String) := [(44, "no such setting"), (62, "value out of range"), (71, "kind out of range"), (73, "lowest price out of range"), (75, "highest price out of range"), (83, "no room for a coil"), (96, "no such coil"), (99, "goods out of range"), (105, "too many goods"), (110, "no such tube"), (112, "coins out of range"), (130, "the sale is not possible"), (140, "hours out of range"), (145, "the hour would be too great"), (154, "no such value"), (181, "no such promise"), (186, "amount out of range"), (200, "bound out of range"), (238, "no saved state")]
def nestM : List (String × Nat × MethodName × String) := [("CoilPrices$Till", 20, yX3_init, "CoilPrices"), ("CoilPrices$Machine", 38, yX0_init, "CoilPrices"), ("CoilPrices", 29, yX2_init, "CoilPrices"), ("CoilPrices$Machine", 70, yX5_worth, "CoilPrices")]
def nestF : List (String × Nat × Nat) := [("CoilPrices$Machine", 39, 1), ("CoilPrices$Payment", 18, 0), ("CoilPrices$Till", 53, 0)]
def xIA : String := "java/lang/IllegalArgumentException"
def xIS : String := "java/lang/IllegalStateException"
def xIB : String := "java/lang/IndexOutOfBoundsException"
def declL : List MethodName := [⟨"java/lang/Throwable", "<init>", "(Ljava/lang/String;)V"⟩, ⟨"java/lang/Exception", "<init>", "(Ljava/lang/String;)V"⟩, ⟨"java/lang/RuntimeException", "<init>", "(Ljava/lang/String;)V"⟩, ⟨"java/lang/Throwable", "<init>", "()V"⟩, ⟨"java/lang/Exception", "<init>", "()V"⟩, ⟨"java/lang/RuntimeException", "<init>", "()V"⟩]
def excL : List String := [xIA, xIS, xIB]
def ncL : List (String × String) := [(xIA, xIS), (xIA, xIB), (xIS, xIA), (xIS, xIB), (xIB, xIA), (xIB, xIS)]
def hvN (s : State) : Prop := (∀ q ∈ nestM, va_Nw (.methodLinkNest q.1 q.2.1 q.2.2.1 q.2.2.2) s) ∧ (∀ q ∈ nestF, va_Nw (.fieldLinkNest q.1 q.2.1 RX5 (tbN q.2.2) "[I" RX5) s) ∧ (∀ x ∈ declL, va_Nw (.declares x) s) ∧ (∀ x ∈ excL, va_Nw (.castable x x) s) ∧ ∀ q ∈ ncL, va_Nc q.1 q.2 s
theorem hvN.same {u U : State} (h : u.vm = U.vm) (z : hvN u) : hvN U :=
  ⟨fun q hq => va_Nw.same rfl h (z.1 q hq), fun q hq => va_Nw.same rfl h (z.2.1 q hq), fun q hq => va_Nw.same rfl h (z.2.2.1 q hq), fun q hq => va_Nw.same rfl h (z.2.2.2.1 q hq), fun q hq => va_Nc.moved (h ▸ Vm.Alike.refl u.vm) (z.2.2.2.2 q hq)⟩
theorem hvN.warm {s U : State} (hW : s.WarmedH U.vm) (z : hvN s) : hvN U :=
  ⟨fun q hq => va_Nw.warmM hW (z.1 q hq), fun q hq => va_Nw.warmF hW (z.2.1 q hq), fun q hq => va_Nw.warmD hW (z.2.2.1 q hq), fun q hq => va_Nw.warmC hW (z.2.2.2.1 q hq), fun q hq => va_Nc.moved hW.alike (z.2.2.2.2 q hq)⟩
def hvSt (T : Nat → Nat) (A : Nat → Prop) (U : State) (H : Heap) : Prop :=
  (∀ t, t < 5 → va_Z RX5 (tbN t) "[I" (.ref (T t)) A U H ∧ va_T .int (T t) (tbL t) (fun j => .int (iI (tbV t j))) A U H) ∧ vx_Zq Bundle.tN "UNASSIGNED_STACK" Bundle.steD A U H ∧ vx_Zq Bundle.tN "SUPPRESSED_SENTINEL" Bundle.listD A U H
def hvStr (T : Nat → Nat) (U : State) : Prop := ∀ q ∈ strs, vk_R RX5 q.1 q.2 (T (10 + q.1)) U
def hvZ (T : Nat → Nat) (w0 : va_W) (s : State) : Prop := hvSt T (va_A w0 s.heap.size) s s.heap ∧ hvStr T s ∧ va_AO "CoilPrices$Coil" s ∧ va_AO "CoilPrices$Machine" s ∧ hvN s
theorem hvSt.to {T : Nat → Nat} {A B : Nat → Prop} {s U : State} {H0 H : Heap} (h : hvSt T A s H0) (hvm : s.vm.Alike U.vm) (hk : ∀ a : Nat, a < H0.size → ¬ A a → H[a]? = H0[a]?) (hAB : ∀ q, B q → A q) : hvSt T B U H :=
  ⟨fun t ht => ⟨(((h.1 t ht).1.kept hk).moved hvm).narrow hAB, (((h.1 t ht).2.kept hk).moved hvm).narrow hAB⟩, ((h.2.1.kept hk).moved hvm).narrow hAB, ((h.2.2.kept hk).moved hvm).narrow hAB⟩
/-- what a method is given -/
def hvB (D : va_G) (ty : List (ClassId × FieldType)) (T : Nat → Nat) (ws : va_W) (sz : Nat) (U : State) : Prop :=
  U.heap.size = sz ∧ va_P D vwCl ws U.heap ∧ va_K D vwCl ty U ∧ va_D (fun _ => True) ws ∧ hvZ T ws U
/-- what it answers -/
def hvQ (D : va_G) (Q : Option Value → va_W → Prop) (w0 : va_W) (sz : Nat) : Array Value → State → Outcome → State → Prop := fun _ st oc t =>
  (∃ (v : Option Value) (ws' : va_W), oc = .returned v ∧ Q v ws' ∧ va_P D vwCl ws' t.heap ∧ va_D (va_A w0 sz) ws') ∧ va_F (va_A w0 sz) st t
def hvE (D : va_G) (Q : Option Value → va_W → Prop) (w0 : va_W) (mc ms : Nat) (below : List Frame) (args : Array Value) (s : State) : State → Prop :=
  MQ below (hvQ D Q w0 s.heap.size) args s mc ms (va_A w0 s.heap.size)
def MC (l : Launch) (y : MethodName) (cc : ByteArray) (nL : Nat) (ret : Option FieldType) (fr lo mc ms : Nat) (D : va_G) (ty : List (ClassId × FieldType)) (T : Nat → Nat) (As : List Value) (ws : va_W) (Q : Option Value → va_W → Prop) : Prop :=
  ∀ sz : Nat, Met l y (.code y cc nL ret :: gt) { frames := fr, cells := mc, slots := ms, locals := lo } (va_Pc As (hvB D ty T ws sz)) (hvQ D Q ws sz) mc ms (va_A ws sz)
theorem hvB_blind {D : va_G} {ty : List (ClassId × FieldType)} {T : Nat → Nat} {As : List Value} {ws : va_W} {sz : Nat} : FrameBlind (va_Pc As (hvB D ty T ws sz)) := by
  intro a U g mk h
  obtain ⟨h0, h1, h2, h3, h4, h5, h6, h7, h8, h9⟩ := h
  have hv : U.vm.Alike (U.calling g mk a).vm := Vm.Alike.refl U.vm
  exact ⟨h0, h1, h2, va_K.moved hv h3, h4, h5.to hv (fun _ _ _ => rfl) (fun _ h => h), fun q hq => vk_R.same rfl (h6 q hq), va_AO.moved hv h7, va_AO.moved hv h8, hvN.same (u := U) rfl h9⟩
/-- a contract out of a walk -/
theorem mc_of {l : Launch} {y : MethodName} {cc : ByteArray} {nL : Nat} {ret : Option FieldType} {fr lo mc ms : Nat} {D : va_G} {ty : List (ClassId × FieldType)} {T : Nat → Nat} {As : List Value} {ws : va_W} {Q : Option Value → va_W → Prop} {lv : List (Nat × Value)}
    (hy : plainName y.cls = true) (hn : (lg_sl As).length ≤ nL) (hlv : lv_args 0 As = lv)
    (body : AW l y.cls y.name cc nL ret (fun _ => True) { frames := fr, cells := mc, slots := ms, locals := lo } (hvE D Q ws mc ms) D ty (hvZ T ws) ws 0 lv [] ws 0 0) : MC l y cc nL ret fr lo mc ms D ty T As ws Q := by
  intro sz
  refine Met.ofW (cc := cc) (maxL := nL) (ret := ret) hy rfl ?_
  intro p e s m args below meth c s₁ B hml hv
  obtain ⟨rfl, hsz, hP, hK, hD0, hZ⟩ := hv
  have hx := B.exec
  have hb := B.bytes
  have hr := B.returns
  have hts := atoms_spec (ws := .code y cc nL ret :: gt) B.pre
  have hown : s.vm.findClass y.cls = some m.cls := findClass_of_methodNamed B.named
  have hlocks := B.notSynchronized
  have hin : meth.name = y.name := (name_of_methodNamed B.named B.method).1
  subst hsz
  rw [lg_entry_eq]
  exact body p e s m _ below meth c ⟨hx, hb, hml, hown, fun w hw => hts w (List.mem_cons_of_mem _ hw), hr, hlocks, hin, trivial⟩ hK hZ s.heap [] _ hP (hD0.self (sz := s.heap.size)) va_S.rf (hlv ▸ lv_entry As hn)
theorem MC.mono {l : Launch} {y : MethodName} {cc : ByteArray} {nL : Nat} {ret : Option FieldType} {fr lo mc ms : Nat} {D : va_G} {ty : List (ClassId × FieldType)} {T : Nat → Nat} {As : List Value} {ws : va_W} {Q Q' : Option Value → va_W → Prop}
    (h : MC l y cc nL ret fr lo mc ms D ty T As ws Q) (hq : ∀ v w, Q v w → Q' v w) : MC l y cc nL ret fr lo mc ms D ty T As ws Q' := by
  intro sz
  intro p e ha hc hk s m args below hf hfit hheap happ
  obtain ⟨k, o, h1, h2, h3, ⟨⟨v, ws', e1, e2, e3⟩, hF⟩, hL⟩ := h sz p e ha hc hk s m args below hf hfit hheap happ
  exact ⟨k, o, h1, h2, h3, ⟨⟨v, ws', e1, hq _ _ e2, e3⟩, hF⟩, hL⟩
theorem iL_add (x y : Int) : iL x + iL y = iL (x + y) := by unfold iL; rw [Int64.ofInt_add]
theorem iL_mul (x y : Int) : iL x * iL y = iL (x * y) := by unfold iL; rw [Int64.ofInt_mul]
theorem iI_l {x : Int} (h : -2147483648 ≤ x ∧ x ≤ 2147483647) : (iI x).toInt64 = iL x := by
  apply Int64.toInt_inj.mp
  rw [Int32.toInt_toInt64, iI_toInt h]
  unfold iL
  exact (Int64.toInt_ofInt_of_le (by omega) (by omega)).symm
