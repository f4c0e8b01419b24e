/-! bits, and the law's smallest methods -/
theorem and_nn (x : Int32) : 0 ≤ (x &&& iI 2147483647).toInt := by
  have h : (x &&& iI 2147483647).toInt = (x.toBitVec &&& (iI 2147483647).toBitVec).toInt := rfl
  have hm : (iI 2147483647).toBitVec.msb = false := by decide
  rw [h, BitVec.toInt_eq_msb_cond, BitVec.msb_and, hm, Bool.and_false]
  simp
def lowF (v n : Int) : Int := (iI v &&& iI 2147483647).toInt % n
theorem lowF_r (v : Int) {n : Int} (hn : 1 ≤ n) : 0 ≤ lowF v n ∧ lowF v n < n := by
  unfold lowF
  exact ⟨Int.emod_nonneg _ (by omega), Int.emod_lt_of_pos _ (by omega)⟩
def shF (x j : Int) : Int := (iI x >>> (iI j &&& 31)).toInt
theorem shF_r (x j : Int) : -2147483648 ≤ shF x j ∧ shF x j ≤ 2147483647 := iI_rng _
def anF (x y : Int) : Int := (iI x &&& iI y).toInt
theorem anF_r (x y : Int) : -2147483648 ≤ anF x y ∧ anF x y ≤ 2147483647 := iI_rng _
theorem low_an (x : Int) : lowF (anF x 2147483632) 16 = 0 := by
  unfold lowF anF
  rw [← iI_of]
  have h0 := and_nn (iI x &&& iI 2147483632)
  generalize hz : (iI x &&& iI 2147483632 &&& iI 2147483647) = z at h0
  have hb : z.toBitVec = (iI x).toBitVec &&& (iI 2147483632).toBitVec &&& (iI 2147483647).toBitVec := by rw [← hz]; rfl
  have hn : z.toBitVec.toNat % 16 = 0 := by
    rw [hb, BitVec.toNat_and, BitVec.toNat_and, show (16 : Nat) = 2 ^ 4 from rfl, Nat.and_mod_two_pow, Nat.and_mod_two_pow, show (iI 2147483632).toBitVec.toNat % 2 ^ 4 = 0 from by decide, Nat.and_zero, Nat.zero_and]
  have hi : z.toInt = (z.toBitVec.toNat : Int) := by
    have h1 : z.toInt = z.toBitVec.toInt := rfl
    rw [h1] at h0 ⊢
    rw [BitVec.toInt_eq_toNat_cond] at h0 ⊢
    have := z.toBitVec.isLt
    split at h0
    · rw [if_pos (by assumption)]
    · omega
  rw [hi]
  omega
section LWS
variable {l : Launch} {own nm : String} {cc : ByteArray} {nL : Nat} {ret : Option FieldType} {X : Code → Prop} {R : Room} {E : List Frame → Array Value → State → State → Prop} {D : va_G} {ty : List (ClassId × FieldType)} {Z : State → Prop} {w0 ws : va_W} {pc q t : Nat} {off : Int} {lv : List (Nat × Value)} {st : List Value} {k n : Nat}
theorem aw_ishr {x j : Int} (d : decode cc pc = .ok (.ishr, 1)) (hq : pc + 1 = q)
    (kk : AW l own nm cc nL ret X R E D ty Z w0 q lv (.int (iI (shF x j)) :: st) ws k n) : AW l own nm cc nL ret X R E D ty Z w0 pc lv (.int (iI j) :: .int (iI x) :: st) ws k n := by
  subst hq
  intro p e s m args below meth c hC hK hZ H locs ls hP hD hS hl
  obtain ⟨hx, hb, hml, hown, hts, hr, hlk, hnm, hXc⟩ := id hC
  refine lv_ishr hx hb d ?_
  rw [iI_of (iI x >>> (iI j &&& 31))]
  exact kk p e s m args below meth c hC hK hZ H locs ls hP hD hS hl
theorem aw_iandM {x y : Int} (d : decode cc pc = .ok (.iand, 1)) (hq : pc + 1 = q)
    (kk : AW l own nm cc nL ret X R E D ty Z w0 q lv (.int (iI (anF x y)) :: st) ws k n) : AW l own nm cc nL ret X R E D ty Z w0 pc lv (.int (iI y) :: .int (iI x) :: st) ws k n := by
  refine aw_iandR d hq ?_
  rw [iI_of (iI x &&& iI y)]
  exact kk
theorem aw_rng {x : Int} (kk : ∀ y : Int, -2147483648 ≤ y ∧ y ≤ 2147483647 → AW l own nm cc nL ret X R E D ty Z w0 pc lv (.int (iI y) :: st) ws k n) : AW l own nm cc nL ret X R E D ty Z w0 pc lv (.int (iI x) :: st) ws k n := by
  rw [iI_of (iI x)]
  exact kk _ (iI_rng _)
theorem aw_sldw {b L : Nat} {xs : Nat → Int32} {i : Int} (hi : 0 ≤ i ∧ i < L) (hL : L ≤ 3072) (hX : ∀ s, Z s → va_X b L xs s s.heap ∧ b < s.heap.size ∧ ¬ va_A w0 s.heap.size b) (d : decode cc pc = .ok (.iaload, 1)) (hq : pc + 1 = q)
    (kk : AW l own nm cc nL ret X R E D ty Z w0 q lv (.int (iI (xs i.toNat).toInt) :: st) ws k n) : AW l own nm cc nL ret X R E D ty Z w0 pc lv (.int (iI i) :: .ref b :: st) ws k n := by
  subst hq
  intro p e s m args below meth c hC hK hZ H locs ls hP hD hS hl
  obtain ⟨hx, hb, hml, hown, hts, hr, hlk, hnm, hXc⟩ := id hC
  refine va_sld hx hb (hX s hZ).1 (hX s hZ).2.1 (hX s hZ).2.2 hS (iI_in ⟨hi.1, hi.2⟩ (by omega)) d ?_
  rw [iI_nat (by omega)]
  rw [← iI_of] at kk
  exact kk p e s m args below meth c hC hK hZ H locs ls hP hD hS hl
theorem aw_slenw {b L : Nat} {xs : Nat → Int32} (hL : L ≤ 3072) (hX : ∀ s, Z s → va_X b L xs s s.heap ∧ b < s.heap.size ∧ ¬ va_A w0 s.heap.size b) (d : decode cc pc = .ok (.arraylength, 1)) (hq : pc + 1 = q)
    (kk : AW l own nm cc nL ret X R E D ty Z w0 q lv (.int (iI (L : Int)) :: st) ws k n) : AW l own nm cc nL ret X R E D ty Z w0 pc lv (.ref b :: st) ws k n := by
  subst hq
  intro p e s m args below meth c hC hK hZ H locs ls hP hD hS hl
  obtain ⟨hx, hb, hml, hown, hts, hr, hlk, hnm, hXc⟩ := id hC
  refine va_slen hx hb (hX s hZ).1 (hX s hZ).2.1 (hX s hZ).2.2 hS d ?_
  rw [show Int32.ofNat L = iI (L : Int) from by
    apply Int32.toInt_inj.mp
    rw [iI_toInt (by omega), Int32.toInt_ofNat_of_lt (by omega)]]
  exact kk p e s m args below meth c hC hK hZ H locs ls hP hD hS hl
end LWS
theorem c_low {l : Launch} {D : va_G} {C : Nat → ClassId} {T : Nat → Nat} {ad : Int → Nat} (G : GG) {v n : Int} (hn : 1 ≤ n ∧ n ≤ 100000) : MC l yL_low cL_low 2 (some .int) 0 0 0 0 D (tyC C) T [.int (iI v), .int (iI n)] (cw ad C G) (RI ad C (fun r G1 => r = lowF v n ∧ G1 = G)) := by
  refine mc_of (by decide +kernel) (Nat.le_of_ble_eq_true rfl) rfl ?_
  refine aw_iload_n (q := 1) 0 dL_low_0 rfl rfl rfl ?_
  refine aw_ldc (q := 3) (x := 2147483647) dL_low_1 rfl wk_RL_8 (by decide) ?_
  refine aw_iandR (q := 4) dL_low_3 rfl ?_
  refine aw_iload_n (q := 5) 1 dL_low_4 rfl rfl rfl ?_
  rw [iI_of (iI v &&& iI 2147483647)]
  have h1 := and_nn (iI v)
  have h2 := iI_rng (iI v &&& iI 2147483647)
  refine aw_rem5 (q := 6) (z := lowF v n) (by omega) (by omega) rfl dL_low_5 rfl ?_
  exact rt_i rfl (Nat.le_refl _) (Nat.le_refl _) ⟨rfl, rfl⟩ dL_low_6
abbrev wthF (c : Int) : Int := if c = 3 then 50 else if c = 2 then 20 else if c = 1 then 10 else 5
theorem c_worthL {l : Launch} {D : va_G} {C : Nat → ClassId} {T : Nat → Nat} {ad : Int → Nat} (G : GG) {c : Int} (hc : 0 ≤ c ∧ c ≤ 3) : MC l yL_worth cL_worth 1 (some .int) 0 0 0 0 D (tyC C) T [.int (iI c)] (cw ad C G) (RI ad C (fun r G1 => r = wthF c ∧ G1 = G)) := by
  refine mc_of (by decide +kernel) (Nat.le_of_ble_eq_true rfl) rfl ?_
  refine aw_iload_n (q := 1) 0 dL_worth_0 rfl rfl rfl ?_
  refine aw_iconst (q := 2) dL_worth_1 rfl ?_
  refine aw_icmp_ne (q := 5) dL_worth_2 rfl (t := 10) (by decide) (by omega) (by omega) (fun h1 => ?_) (fun h2 => ?_)
  · refine aw_iconst (q := 11) dL_worth_10 rfl ?_
    refine aw_iload_n (q := 12) 0 dL_worth_11 rfl rfl rfl ?_
    refine aw_ishlR (q := 13) dL_worth_12 rfl ?_
    rcases (by omega : c = 0 ∨ c = 1 ∨ c = 2) with rfl | rfl | rfl
    · rw [show iI 5 <<< (iI 0 &&& 31) = iI 5 by decide]
      exact rt_i rfl (Nat.le_refl _) (Nat.le_refl _) ⟨rfl, rfl⟩ dL_worth_13
    · rw [show iI 5 <<< (iI 1 &&& 31) = iI 10 by decide]
      exact rt_i rfl (Nat.le_refl _) (Nat.le_refl _) ⟨rfl, rfl⟩ dL_worth_13
    · rw [show iI 5 <<< (iI 2 &&& 31) = iI 20 by decide]
      exact rt_i rfl (Nat.le_refl _) (Nat.le_refl _) ⟨rfl, rfl⟩ dL_worth_13
  · subst h2
    refine aw_bipush (q := 7) dL_worth_5 rfl (by decide) ?_
    refine aw_goto (q := 13) dL_worth_7 (by decide) ?_
    exact rt_i rfl (Nat.le_refl _) (Nat.le_refl _) ⟨rfl, rfl⟩ dL_worth_13
/-! lot: it reads the script -/
def lotZ (b L : Nat) (xs : Nat → Int32) (T : Nat → Nat) (w0 : va_W) (s : State) : Prop := hvZ T w0 s ∧ va_X b L xs s s.heap ∧ b < s.heap.size ∧ ¬ va_A w0 s.heap.size b
def hvBL (D : va_G) (ty : List (ClassId × FieldType)) (T : Nat → Nat) (b L : Nat) (xs : Nat → Int32) (ws : va_W) (sz : Nat) (U : State) : Prop := hvB D ty T ws sz U ∧ va_X b L xs U U.heap ∧ b < U.heap.size ∧ ¬ va_A ws U.heap.size b
def ML (l : Launch) (y : MethodName) (cc : ByteArray) (nL : Nat) (ret : Option FieldType) (fr lo mc ms : Nat) (D : va_G) (ty : List (ClassId × FieldType)) (T : Nat → Nat) (b L : Nat) (xs : Nat → Int32) (As : List Value) (ws : va_W) (Q : Option Value → va_W → Prop) : Prop :=
  ∀ sz : Nat, Met l y (.code y cc nL ret :: gt) { frames := fr, cells := mc, slots := ms, locals := lo } (va_Pc As (hvBL D ty T b L xs ws sz)) (hvQ D Q ws sz) mc ms (va_A ws sz)
theorem hvBL_blind {D : va_G} {ty : List (ClassId × FieldType)} {T : Nat → Nat} {b L : Nat} {xs : Nat → Int32} {As : List Value} {ws : va_W} {sz : Nat} : FrameBlind (va_Pc As (hvBL D ty T b L xs ws sz)) := by
  intro a U g mk h
  obtain ⟨h0, h1, h2, h3, h4⟩ := h
  have k := hvB_blind a U g mk ⟨h0, h1⟩
  exact ⟨h0, k.2, va_X.moved (Vm.Alike.refl U.vm) h2, h3, h4⟩
theorem ml_of {l : Launch} {y : MethodName} {cc : ByteArray} {nL : Nat} {ret : Option FieldType} {fr lo mc ms : Nat} {D : va_G} {ty : List (ClassId × FieldType)} {T : Nat → Nat} {b L : Nat} {xs : Nat → Int32} {As : List Value} {ws : va_W} {Q : Option Value → va_W → Prop} {lv : List (Nat × Value)}
    (hy : plainName y.cls = true) (hn : (lg_sl As).length ≤ nL) (hlv : lv_args 0 As = lv)
    (body : AW l y.cls y.name cc nL ret (fun _ => True) { frames := fr, cells := mc, slots := ms, locals := lo } (hvE D Q ws mc ms) D ty (lotZ b L xs T ws) ws 0 lv [] ws 0 0) : ML l y cc nL ret fr lo mc ms D ty T b L xs As ws Q := by
  intro sz
  refine Met.ofW (cc := cc) (maxL := nL) (ret := ret) hy rfl ?_
  intro p e s m args below meth c s₁ B hml hv
  obtain ⟨rfl, ⟨hsz, hP, hK, hD0, hZ⟩, hX, hbl, hbA⟩ := hv
  have hx := B.exec
  have hb := B.bytes
  have hr := B.returns
  have hts := atoms_spec (ws := .code y cc nL ret :: gt) B.pre
  have hown : s.vm.findClass y.cls = some m.cls := findClass_of_methodNamed B.named
  have hlocks := B.notSynchronized
  have hin : meth.name = y.name := (name_of_methodNamed B.named B.method).1
  subst hsz
  rw [lg_entry_eq]
  exact body p e s m _ below meth c ⟨hx, hb, hml, hown, fun w hw => hts w (List.mem_cons_of_mem _ hw), hr, hlocks, hin, trivial⟩ hK ⟨hZ, hX, hbl, hbA⟩ s.heap [] _ hP (hD0.self (sz := s.heap.size)) va_S.rf (hlv ▸ lv_entry As hn)
theorem c_lot {l : Launch} {D : va_G} {C : Nat → ClassId} {T : Nat → Nat} {ad : Int → Nat} {b L : Nat} {xs : Nat → Int32} (hL : L ≤ 260) (G : GG) {i : Int} (hi : 0 ≤ i ∧ i ≤ 1000) : ML l yL_lot cL_lot 2 (some .int) 0 0 0 0 D (tyC C) T b L xs [.ref b, .int (iI i)] (cw ad C G) (RI ad C (fun r G1 => (-2147483648 ≤ r ∧ r ≤ 2147483647) ∧ G1 = G)) := by
  refine ml_of (by decide +kernel) (Nat.le_of_ble_eq_true rfl) rfl ?_
  refine aw_iload_n (q := 1) 1 dL_lot_0 rfl rfl rfl ?_
  refine aw_aload_n (q := 2) 0 dL_lot_1 rfl rfl rfl ?_
  refine aw_slenw (q := 3) (by omega) (fun s h => h.2) dL_lot_2 rfl ?_
  refine aw_icmp_ge (q := 6) dL_lot_3 rfl (t := 12) (by decide) (by omega) (by omega) (fun h1 => ?_) (fun h2 => ?_)
  · refine aw_ldc (q := 14) (x := 2073021773) dL_lot_12 rfl wk_RL_7 (by decide) ?_
    refine aw_iload_n (q := 15) 1 dL_lot_14 rfl rfl rfl ?_
    refine aw_sipush (q := 18) dL_lot_15 rfl (by decide) ?_
    refine ae_iadd (q := 19) (i + 2393) rfl dL_lot_18 rfl ?_
    refine ae_imul (q := 20) (2073021773 * (i + 2393)) rfl dL_lot_19 rfl ?_
    refine aw_sipush (q := 23) dL_lot_20 rfl (by decide) ?_
    refine ae_iadd (q := 24) (2073021773 * (i + 2393) + 2207) rfl dL_lot_23 rfl ?_
    exact aw_rng (fun y hy => rt_i rfl (Nat.le_refl _) (Nat.le_refl _) ⟨hy, rfl⟩ dL_lot_24)
  · refine aw_aload_n (q := 7) 0 dL_lot_6 rfl rfl rfl ?_
    refine aw_iload_n (q := 8) 1 dL_lot_7 rfl rfl rfl ?_
    refine aw_sldw (q := 9) ⟨by omega, by omega⟩ (by omega) (fun s h => h.2) dL_lot_8 rfl ?_
    refine aw_goto (q := 24) dL_lot_9 (by decide) ?_
    exact rt_i rfl (Nat.le_refl _) (Nat.le_refl _) ⟨iI_rng _, rfl⟩ dL_lot_24
