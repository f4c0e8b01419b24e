abbrev tyC (C : Nat → ClassId) : List (ClassId × FieldType) := [(C 0, .int), (C 2, .object "CoilPrices$Coil"), (C 3, .object "CoilPrices$Machine")]
theorem gX0 : ∀ w ∈ u_ws RX0 TX0 12, w ∈ gt := by decide +kernel
theorem gX1 : ∀ w ∈ u_ws RX1 TX1 6, w ∈ gt := by decide +kernel
theorem gX2 : ∀ w ∈ u_ws RX2 TX2 8, w ∈ gt := by decide +kernel
theorem gX3 : ∀ w ∈ u_ws RX3 TX3 2, w ∈ gt := by decide +kernel
theorem gX4 : ∀ w ∈ u_ws RX4 TX4 7, w ∈ gt := by decide +kernel
theorem gX5 : ∀ w ∈ u_ws RX5 TX5 6, w ∈ gt := by decide +kernel
def isArr (ad : Int → Nat) (C : Nat → ClassId) (id pg b : Int) (N : Nat) : Prop := (∀ G, cellOf ad C G id = inI C G pg b N) ∧ (∀ e : Int, 0 ≤ e → e < N → ownr pg (b + e) = id) ∧ 0 ≤ id ∧ id < 108
theorem ar_sets (ad : Int → Nat) (C : Nat → ClassId) {i : Int} (h : 0 ≤ i ∧ i < 6) : isArr ad C (17 * i + 2) i 0 5 := ⟨fun G => cell_sets ad C G h, fun e h0 h1 => (by unfold ownr; rw [if_pos (by omega)]; unfold ownM; (repeat' split) <;> omega), by omega, by omega⟩
theorem ar_tubes (ad : Int → Nat) (C : Nat → ClassId) {i : Int} (h : 0 ≤ i ∧ i < 6) : isArr ad C (17 * i + 4) i 5 4 := ⟨fun G => cell_tubes ad C G h, fun e h0 h1 => (by unfold ownr; rw [if_pos (by omega)]; unfold ownM; (repeat' split) <;> omega), by omega, by omega⟩
theorem ar_prom (ad : Int → Nat) (C : Nat → ClassId) {i : Int} (h : 0 ≤ i ∧ i < 6) : isArr ad C (17 * i + 5) i 111 200 := ⟨fun G => cell_prom ad C G h, fun e h0 h1 => (by unfold ownr; rw [if_pos (by omega)]; unfold ownM; (repeat' split) <;> omega), by omega, by omega⟩
theorem ar_held (ad : Int → Nat) (C : Nat → ClassId) {i : Int} (h : 0 ≤ i ∧ i < 6) : isArr ad C (17 * i + 7) i 312 4 := ⟨fun G => cell_held ad C G h, fun e h0 h1 => (by unfold ownr; rw [if_pos (by omega)]; unfold ownM; (repeat' split) <;> omega), by omega, by omega⟩
theorem ar_taken (ad : Int → Nat) (C : Nat → ClassId) {i : Int} (h : 0 ≤ i ∧ i < 6) : isArr ad C (17 * i + 8) i 316 4 := ⟨fun G => cell_taken ad C G h, fun e h0 h1 => (by unfold ownr; rw [if_pos (by omega)]; unfold ownM; (repeat' split) <;> omega), by omega, by omega⟩
theorem ar_105 (ad : Int → Nat) (C : Nat → ClassId) : isArr ad C 105 8 0 100 := ⟨fun G => cell_105 ad C G, fun e h0 h1 => rfl, by omega, by omega⟩
theorem ar_106 (ad : Int → Nat) (C : Nat → ClassId) : isArr ad C 106 9 0 4 := ⟨fun G => cell_106 ad C G, fun e h0 h1 => rfl, by omega, by omega⟩
theorem ar_107 (ad : Int → Nat) (C : Nat → ClassId) : isArr ad C 107 10 0 4 := ⟨fun G => cell_107 ad C G, fun e h0 h1 => rfl, by omega, by omega⟩
section RWK
variable {l : Launch} {own nm : String} {cc : ByteArray} {nL : Nat} {ret : Option FieldType} {X : Code → Prop} {R : Room} {E : List Frame → Array Value → State → State → Prop} {D : va_G} {C : Nat → ClassId} {Z : State → Prop} {w0 : va_W} {pc q : Nat} {lv : List (Nat × Value)} {st : List Value} {k n : Nat} {ad : Int → Nat} {G : Int → Int → Int}
theorem aw_cial {id pg b e v : Int} {N : Nat} (x : Int) (h : isArr ad C id pg b N) (he : 0 ≤ e ∧ e < N ∧ N ≤ 2000) (hx : b + e = x) (hv : G pg x = v) (d : decode cc pc = .ok (.iaload, 1)) (hq : pc + 1 = q)
    (kk : AW l own nm cc nL ret X R E D (tyC C) Z w0 q lv (.int (iI v) :: st) (cw ad C G) k n) : AW l own nm cc nL ret X R E D (tyC C) Z w0 pc lv (.int (iI e) :: .ref (ad id) :: st) (cw ad C G) k n := by
  refine aw_iald id.toNat 0 (by rw [cw_get h.2.2, h.1]; rfl) rfl (iI_in ⟨he.1, he.2.1⟩ (by omega)) d hq ?_
  rw [iI_nat (by omega), rowI_get ⟨he.1, he.2.1⟩, hx, hv]
  exact kk
theorem aw_cias {id pg b e v : Int} {N : Nat} (x : Int) (h : isArr ad C id pg b N) (he : 0 ≤ e ∧ e < N ∧ N ≤ 2000) (hx : b + e = x) (d : decode cc pc = .ok (.iastore, 1)) (hq : pc + 1 = q)
    (kk : AW l own nm cc nL ret X R E D (tyC C) Z w0 q lv st (cw ad C (setG G pg x v)) k n) : AW l own nm cc nL ret X R E D (tyC C) Z w0 pc lv (.int (iI v) :: .int (iI e) :: .ref (ad id) :: st) (cw ad C G) k n := by
  subst hx
  refine aw_iast id.toNat 0 (by rw [cw_get h.2.2, h.1]; rfl) rfl (iI_in ⟨he.1, he.2.1⟩ (by omega)) d hq ?_
  rw [iI_nat (by omega), rowI_upd ⟨he.1, he.2.1⟩]
  exact aw_eqW (cw_set (G1 := setG G pg (b + e) v) h.2.2 (h.1 _) (fun a c hac => setG_ne (fun z => hac (by rw [z.1, z.2]; exact h.2.1 e he.1 he.2.1)))) kk
theorem aw_calen {id pg b : Int} {N : Nat} (h : isArr ad C id pg b N) (d : decode cc pc = .ok (.arraylength, 1)) (hq : pc + 1 = q)
    (kk : AW l own nm cc nL ret X R E D (tyC C) Z w0 q lv (.int (iI N) :: st) (cw ad C G) k n) : AW l own nm cc nL ret X R E D (tyC C) Z w0 pc lv (.ref (ad id) :: st) (cw ad C G) k n := by
  refine aw_alen id.toNat 0 (by rw [cw_get h.2.2, h.1]; rfl) rfl ?_ d hq kk
  exact (Int32.ofInt_eq_ofNat (n := N)).symm
theorem aw_ccopy {id0 pg0 b0 id pg b sp dp z : Int} {N0 N : Nat} {idx : Nat} (h0 : isArr ad C id0 pg0 b0 N0) (h : isArr ad C id pg b N) (hw : Cond.methodLink own idx arraycopyName ∈ gt) (hw2 : Cond.native arraycopyName ∈ gt) (hw3 : Cond.static arraycopyName ∈ gt) (hw4 : Cond.initialized "java/lang/System" ∈ gt) (h1 : 0 ≤ sp ∧ 0 ≤ dp ∧ 0 ≤ z ∧ sp + z ≤ N0 ∧ dp + z ≤ N) (hn : N0 ≤ 2000 ∧ N ≤ 2000) (hf : 1 ≤ R.frames) (hlo : (st.map fun v => v.category).sum + (nativeFrameWords "java/lang/System" "arraycopy" 5 + 11) ≤ R.locals) (d : decode cc pc = .ok (.invokestatic idx, 3)) (hq : pc + 3 = q)
    (kk : AW l own nm cc nL ret X R E D (tyC C) Z w0 q lv st (cw ad C (cpG G pg (b + dp) z pg0 (b0 + sp))) k n) : AW l own nm cc nL ret X R E D (tyC C) Z w0 pc lv (.int (iI z) :: .int (iI dp) :: .ref (ad id) :: .int (iI sp) :: .ref (ad id0) :: st) (cw ad C G) k n := by
  refine aw_copy id0.toNat id.toNat 0 hw hw2 hw3 hw4 (by rw [cw_get h0.2.2, h0.1]; rfl) (by rw [cw_get h.2.2, h.1]; rfl) rfl h1 (by omega) (by omega) hf hlo d hq ?_
  rw [rowI_cpy h1]
  refine aw_eqW (cw_set (G1 := cpG G pg (b + dp) z pg0 (b0 + sp)) h.2.2 (h.1 _) (fun a c hac => ?_)) kk
  · unfold cpG
    rw [if_neg (fun y => hac ?_)]
    have e1 := h.2.1 (c - b) (by omega) (by omega)
    rw [show b + (c - b) = c by omega] at e1
    rw [y.1]
    exact e1
theorem aw_cget {id : Int} {CC : String} {TT : u_T} {N ci j idx : Nat} {fs : List Value} {v : Value} (hid : 0 ≤ id ∧ id < 108) (hcell : cellOf ad C G id = .inr (ci, fs)) (hc : vwCl[ci]? = some (CC, TT, N)) (hj : j < N) (hin : ∀ w ∈ u_ws CC TT N, w ∈ gt) (ho : (TT j).1 = CC) (hw : Cond.fieldLink own idx CC (TT j).2.1 (TT j).2.2.1 ∈ gt) (hv : fs[j]? = some v) (d : decode cc pc = .ok (.getfield idx, 3)) (hq : pc + 3 = q)
    (kk : AW l own nm cc nL ret X R E D (tyC C) Z w0 q lv (v :: st) (cw ad C G) k n) : AW l own nm cc nL ret X R E D (tyC C) Z w0 pc lv (.ref (ad id) :: st) (cw ad C G) k n :=
  aw_get id.toNat hc hj hin ho (by rw [cw_get hid, hcell]) hw hv d hq kk
theorem aw_cput {id : Int} {CC : String} {TT : u_T} {N ci j idx : Nat} {fs : List Value} {v : Value} {G1 : Int → Int → Int} (hid : 0 ≤ id ∧ id < 108) (hcell : cellOf ad C G id = .inr (ci, fs)) (hc : vwCl[ci]? = some (CC, TT, N)) (hj : j < N) (hin : ∀ w ∈ u_ws CC TT N, w ∈ gt) (ho : (TT j).1 = CC) (tt : Nat → FieldType) (htt : ∀ k, k < N → parseFieldDescriptor (TT k).2.2.1 = some (tt k)) (hnn : ∀ a, a < N → ∀ b, b < N → a ≠ b → (TT a).2.1 ≠ (TT b).2.1) (hfin : (TT j).2.2.2 = false) (hn : narrow (tt j) v = v) (hfit : fits (tt j) v = true) (hl9 : j < fs.length)
    (hnew : cellOf ad C G1 id = .inr (ci, fs.set j v)) (hG : ∀ a b, ownr a b ≠ id → G1 a b = G a b) (hw : Cond.fieldLink own idx CC (TT j).2.1 (TT j).2.2.1 ∈ gt) (d : decode cc pc = .ok (.putfield idx, 3)) (hq : pc + 3 = q)
    (kk : AW l own nm cc nL ret X R E D (tyC C) Z w0 q lv st (cw ad C G1) k n) : AW l own nm cc nL ret X R E D (tyC C) Z w0 pc lv (v :: .ref (ad id) :: st) (cw ad C G) k n := by
  refine aw_put id.toNat hc hj hin ho (by rw [cw_get hid, hcell]) tt htt hnn (Or.inl hfin) hn hfit hl9 hw d hq ?_
  rw [cw_set hid hnew hG]
  exact kk
theorem setG_own {a b x id : Int} (ho : ownr a b = id) : ∀ c d, ownr c d ≠ id → setG G a b x c d = G c d := fun c d h => setG_ne (fun z => h (by rw [z.1, z.2]; exact ho))
theorem g_coil_kind {i c : Int} (hi : 0 ≤ i ∧ i < 6) (hc : 0 ≤ c ∧ c < 8) {idx : Nat} {v : Int} (hv : G i (15 + 12 * c) = v) (hw : Cond.fieldLink own idx RX0 (TX0 0).2.1 (TX0 0).2.2.1 ∈ gt) (d : decode cc pc = .ok (.getfield idx, 3)) (hq : pc + 3 = q)
    (kk : AW l own nm cc nL ret X R E D (tyC C) Z w0 q lv (.int (iI v) :: st) (cw ad C G) k n) : AW l own nm cc nL ret X R E D (tyC C) Z w0 pc lv (.ref (ad (17 * i + 9 + c)) :: st) (cw ad C G) k n := by
  subst hv
  exact aw_cget (id := 17 * i + 9 + c) (ci := 0) (TT := TX0) (j := 0) (by omega) (cell_coil ad C _ hi hc) rfl (by decide) gX0 rfl hw rfl d hq kk
theorem p_coil_kind {i c : Int} (hi : 0 ≤ i ∧ i < 6) (hc : 0 ≤ c ∧ c < 8) {idx : Nat} {v : Int} (hw : Cond.fieldLink own idx RX0 (TX0 0).2.1 (TX0 0).2.2.1 ∈ gt) (d : decode cc pc = .ok (.putfield idx, 3)) (hq : pc + 3 = q)
    (kk : AW l own nm cc nL ret X R E D (tyC C) Z w0 q lv st (cw ad C (setG G i (15 + 12 * c) v)) k n) : AW l own nm cc nL ret X R E D (tyC C) Z w0 pc lv (.int (iI v) :: .ref (ad (17 * i + 9 + c)) :: st) (cw ad C G) k n := by
  exact aw_cput (id := 17 * i + 9 + c) (ci := 0) (TT := TX0) (j := 0) (by omega) (cell_coil ad C _ hi hc) rfl (by decide) gX0 rfl tyX0 tyX0_ok nmX0 rfl rfl rfl (Nat.le_of_ble_eq_true rfl) (by rw [cell_coil ad C _ hi hc]; unfold coilCell; simp only [setG_same]; rw [setG_ne (by omega), setG_ne (by omega), setG_ne (by omega), setG_ne (by omega), setG_ne (by omega), setG_ne (by omega), setG_ne (by omega), setG_ne (by omega), setG_ne (by omega), setG_ne (by omega), setG_ne (by omega)]; rfl) (setG_own (by unfold ownr; rw [if_pos (by omega)]; unfold ownM; (repeat' split) <;> omega)) hw d hq kk
theorem g_coil_goods {i c : Int} (hi : 0 ≤ i ∧ i < 6) (hc : 0 ≤ c ∧ c < 8) {idx : Nat} {v : Int} (hv : G i (15 + 12 * c + 1) = v) (hw : Cond.fieldLink own idx RX0 (TX0 1).2.1 (TX0 1).2.2.1 ∈ gt) (d : decode cc pc = .ok (.getfield idx, 3)) (hq : pc + 3 = q)
    (kk : AW l own nm cc nL ret X R E D (tyC C) Z w0 q lv (.int (iI v) :: st) (cw ad C G) k n) : AW l own nm cc nL ret X R E D (tyC C) Z w0 pc lv (.ref (ad (17 * i + 9 + c)) :: st) (cw ad C G) k n := by
  subst hv
  exact aw_cget (id := 17 * i + 9 + c) (ci := 0) (TT := TX0) (j := 1) (by omega) (cell_coil ad C _ hi hc) rfl (by decide) gX0 rfl hw rfl d hq kk
theorem p_coil_goods {i c : Int} (hi : 0 ≤ i ∧ i < 6) (hc : 0 ≤ c ∧ c < 8) {idx : Nat} {v : Int} (hw : Cond.fieldLink own idx RX0 (TX0 1).2.1 (TX0 1).2.2.1 ∈ gt) (d : decode cc pc = .ok (.putfield idx, 3)) (hq : pc + 3 = q)
    (kk : AW l own nm cc nL ret X R E D (tyC C) Z w0 q lv st (cw ad C (setG G i (15 + 12 * c + 1) v)) k n) : AW l own nm cc nL ret X R E D (tyC C) Z w0 pc lv (.int (iI v) :: .ref (ad (17 * i + 9 + c)) :: st) (cw ad C G) k n := by
  exact aw_cput (id := 17 * i + 9 + c) (ci := 0) (TT := TX0) (j := 1) (by omega) (cell_coil ad C _ hi hc) rfl (by decide) gX0 rfl tyX0 tyX0_ok nmX0 rfl rfl rfl (Nat.le_of_ble_eq_true rfl) (by rw [cell_coil ad C _ hi hc]; unfold coilCell; simp only [setG_same]; rw [setG_ne (by omega), setG_ne (by omega), setG_ne (by omega), setG_ne (by omega), setG_ne (by omega), setG_ne (by omega), setG_ne (by omega), setG_ne (by omega), setG_ne (by omega), setG_ne (by omega), setG_ne (by omega)]; rfl) (setG_own (by unfold ownr; rw [if_pos (by omega)]; unfold ownM; (repeat' split) <;> omega)) hw d hq kk
theorem g_coil_price {i c : Int} (hi : 0 ≤ i ∧ i < 6) (hc : 0 ≤ c ∧ c < 8) {idx : Nat} {v : Int} (hv : G i (15 + 12 * c + 2) = v) (hw : Cond.fieldLink own idx RX0 (TX0 2).2.1 (TX0 2).2.2.1 ∈ gt) (d : decode cc pc = .ok (.getfield idx, 3)) (hq : pc + 3 = q)
    (kk : AW l own nm cc nL ret X R E D (tyC C) Z w0 q lv (.int (iI v) :: st) (cw ad C G) k n) : AW l own nm cc nL ret X R E D (tyC C) Z w0 pc lv (.ref (ad (17 * i + 9 + c)) :: st) (cw ad C G) k n := by
  subst hv
  exact aw_cget (id := 17 * i + 9 + c) (ci := 0) (TT := TX0) (j := 2) (by omega) (cell_coil ad C _ hi hc) rfl (by decide) gX0 rfl hw rfl d hq kk
theorem p_coil_price {i c : Int} (hi : 0 ≤ i ∧ i < 6) (hc : 0 ≤ c ∧ c < 8) {idx : Nat} {v : Int} (hw : Cond.fieldLink own idx RX0 (TX0 2).2.1 (TX0 2).2.2.1 ∈ gt) (d : decode cc pc = .ok (.putfield idx, 3)) (hq : pc + 3 = q)
    (kk : AW l own nm cc nL ret X R E D (tyC C) Z w0 q lv st (cw ad C (setG G i (15 + 12 * c + 2) v)) k n) : AW l own nm cc nL ret X R E D (tyC C) Z w0 pc lv (.int (iI v) :: .ref (ad (17 * i + 9 + c)) :: st) (cw ad C G) k n := by
  exact aw_cput (id := 17 * i + 9 + c) (ci := 0) (TT := TX0) (j := 2) (by omega) (cell_coil ad C _ hi hc) rfl (by decide) gX0 rfl tyX0 tyX0_ok nmX0 rfl rfl rfl (Nat.le_of_ble_eq_true rfl) (by rw [cell_coil ad C _ hi hc]; unfold coilCell; simp only [setG_same]; rw [setG_ne (by omega), setG_ne (by omega), setG_ne (by omega), setG_ne (by omega), setG_ne (by omega), setG_ne (by omega), setG_ne (by omega), setG_ne (by omega), setG_ne (by omega), setG_ne (by omega), setG_ne (by omega)]; rfl) (setG_own (by unfold ownr; rw [if_pos (by omega)]; unfold ownM; (repeat' split) <;> omega)) hw d hq kk
theorem g_coil_lowest {i c : Int} (hi : 0 ≤ i ∧ i < 6) (hc : 0 ≤ c ∧ c < 8) {idx : Nat} {v : Int} (hv : G i (15 + 12 * c + 3) = v) (hw : Cond.fieldLink own idx RX0 (TX0 3).2.1 (TX0 3).2.2.1 ∈ gt) (d : decode cc pc = .ok (.getfield idx, 3)) (hq : pc + 3 = q)
    (kk : AW l own nm cc nL ret X R E D (tyC C) Z w0 q lv (.int (iI v) :: st) (cw ad C G) k n) : AW l own nm cc nL ret X R E D (tyC C) Z w0 pc lv (.ref (ad (17 * i + 9 + c)) :: st) (cw ad C G) k n := by
  subst hv
  exact aw_cget (id := 17 * i + 9 + c) (ci := 0) (TT := TX0) (j := 3) (by omega) (cell_coil ad C _ hi hc) rfl (by decide) gX0 rfl hw rfl d hq kk
theorem p_coil_lowest {i c : Int} (hi : 0 ≤ i ∧ i < 6) (hc : 0 ≤ c ∧ c < 8) {idx : Nat} {v : Int} (hw : Cond.fieldLink own idx RX0 (TX0 3).2.1 (TX0 3).2.2.1 ∈ gt) (d : decode cc pc = .ok (.putfield idx, 3)) (hq : pc + 3 = q)
    (kk : AW l own nm cc nL ret X R E D (tyC C) Z w0 q lv st (cw ad C (setG G i (15 + 12 * c + 3) v)) k n) : AW l own nm cc nL ret X R E D (tyC C) Z w0 pc lv (.int (iI v) :: .ref (ad (17 * i + 9 + c)) :: st) (cw ad C G) k n := by
  exact aw_cput (id := 17 * i + 9 + c) (ci := 0) (TT := TX0) (j := 3) (by omega) (cell_coil ad C _ hi hc) rfl (by decide) gX0 rfl tyX0 tyX0_ok nmX0 rfl rfl rfl (Nat.le_of_ble_eq_true rfl) (by rw [cell_coil ad C _ hi hc]; unfold coilCell; simp only [setG_same]; rw [setG_ne (by omega), setG_ne (by omega), setG_ne (by omega), setG_ne (by omega), setG_ne (by omega), setG_ne (by omega), setG_ne (by omega), setG_ne (by omega), setG_ne (by omega), setG_ne (by omega), setG_ne (by omega)]; rfl) (setG_own (by unfold ownr; rw [if_pos (by omega)]; unfold ownM; (repeat' split) <;> omega)) hw d hq kk
theorem g_coil_highest {i c : Int} (hi : 0 ≤ i ∧ i < 6) (hc : 0 ≤ c ∧ c < 8) {idx : Nat} {v : Int} (hv : G i (15 + 12 * c + 4) = v) (hw : Cond.fieldLink own idx RX0 (TX0 4).2.1 (TX0 4).2.2.1 ∈ gt) (d : decode cc pc = .ok (.getfield idx, 3)) (hq : pc + 3 = q)
    (kk : AW l own nm cc nL ret X R E D (tyC C) Z w0 q lv (.int (iI v) :: st) (cw ad C G) k n) : AW l own nm cc nL ret X R E D (tyC C) Z w0 pc lv (.ref (ad (17 * i + 9 + c)) :: st) (cw ad C G) k n := by
  subst hv
  exact aw_cget (id := 17 * i + 9 + c) (ci := 0) (TT := TX0) (j := 4) (by omega) (cell_coil ad C _ hi hc) rfl (by decide) gX0 rfl hw rfl d hq kk
theorem p_coil_highest {i c : Int} (hi : 0 ≤ i ∧ i < 6) (hc : 0 ≤ c ∧ c < 8) {idx : Nat} {v : Int} (hw : Cond.fieldLink own idx RX0 (TX0 4).2.1 (TX0 4).2.2.1 ∈ gt) (d : decode cc pc = .ok (.putfield idx, 3)) (hq : pc + 3 = q)
    (kk : AW l own nm cc nL ret X R E D (tyC C) Z w0 q lv st (cw ad C (setG G i (15 + 12 * c + 4) v)) k n) : AW l own nm cc nL ret X R E D (tyC C) Z w0 pc lv (.int (iI v) :: .ref (ad (17 * i + 9 + c)) :: st) (cw ad C G) k n := by
  exact aw_cput (id := 17 * i + 9 + c) (ci := 0) (TT := TX0) (j := 4) (by omega) (cell_coil ad C _ hi hc) rfl (by decide) gX0 rfl tyX0 tyX0_ok nmX0 rfl rfl rfl (Nat.le_of_ble_eq_true rfl) (by rw [cell_coil ad C _ hi hc]; unfold coilCell; simp only [setG_same]; rw [setG_ne (by omega), setG_ne (by omega), setG_ne (by omega), setG_ne (by omega), setG_ne (by omega), setG_ne (by omega), setG_ne (by omega), setG_ne (by omega), setG_ne (by omega), setG_ne (by omega), setG_ne (by omega)]; rfl) (setG_own (by unfold ownr; rw [if_pos (by omega)]; unfold ownM; (repeat' split) <;> omega)) hw d hq kk
theorem g_coil_banned {i c : Int} (hi : 0 ≤ i ∧ i < 6) (hc : 0 ≤ c ∧ c < 8) {idx : Nat} {v : Int} (hv : G i (15 + 12 * c + 5) = v) (hw : Cond.fieldLink own idx RX0 (TX0 5).2.1 (TX0 5).2.2.1 ∈ gt) (d : decode cc pc = .ok (.getfield idx, 3)) (hq : pc + 3 = q)
    (kk : AW l own nm cc nL ret X R E D (tyC C) Z w0 q lv (.int (iI v) :: st) (cw ad C G) k n) : AW l own nm cc nL ret X R E D (tyC C) Z w0 pc lv (.ref (ad (17 * i + 9 + c)) :: st) (cw ad C G) k n := by
  subst hv
  exact aw_cget (id := 17 * i + 9 + c) (ci := 0) (TT := TX0) (j := 5) (by omega) (cell_coil ad C _ hi hc) rfl (by decide) gX0 rfl hw rfl d hq kk
theorem p_coil_banned {i c : Int} (hi : 0 ≤ i ∧ i < 6) (hc : 0 ≤ c ∧ c < 8) {idx : Nat} {v : Int} (hw : Cond.fieldLink own idx RX0 (TX0 5).2.1 (TX0 5).2.2.1 ∈ gt) (d : decode cc pc = .ok (.putfield idx, 3)) (hq : pc + 3 = q)
    (kk : AW l own nm cc nL ret X R E D (tyC C) Z w0 q lv st (cw ad C (setG G i (15 + 12 * c + 5) v)) k n) : AW l own nm cc nL ret X R E D (tyC C) Z w0 pc lv (.int (iI v) :: .ref (ad (17 * i + 9 + c)) :: st) (cw ad C G) k n := by
  exact aw_cput (id := 17 * i + 9 + c) (ci := 0) (TT := TX0) (j := 5) (by omega) (cell_coil ad C _ hi hc) rfl (by decide) gX0 rfl tyX0 tyX0_ok nmX0 rfl rfl rfl (Nat.le_of_ble_eq_true rfl) (by rw [cell_coil ad C _ hi hc]; unfold coilCell; simp only [setG_same]; rw [setG_ne (by omega), setG_ne (by omega), setG_ne (by omega), setG_ne (by omega), setG_ne (by omega), setG_ne (by omega), setG_ne (by omega), setG_ne (by omega), setG_ne (by omega), setG_ne (by omega), setG_ne (by omega)]; rfl) (setG_own (by unfold ownr; rw [if_pos (by omega)]; unfold ownM; (repeat' split) <;> omega)) hw d hq kk
theorem g_coil_sales {i c : Int} (hi : 0 ≤ i ∧ i < 6) (hc : 0 ≤ c ∧ c < 8) {idx : Nat} {v : Int} (hv : G i (15 + 12 * c + 6) = v) (hw : Cond.fieldLink own idx RX0 (TX0 6).2.1 (TX0 6).2.2.1 ∈ gt) (d : decode cc pc = .ok (.getfield idx, 3)) (hq : pc + 3 = q)
    (kk : AW l own nm cc nL ret X R E D (tyC C) Z w0 q lv (.int (iI v) :: st) (cw ad C G) k n) : AW l own nm cc nL ret X R E D (tyC C) Z w0 pc lv (.ref (ad (17 * i + 9 + c)) :: st) (cw ad C G) k n := by
  subst hv
  exact aw_cget (id := 17 * i + 9 + c) (ci := 0) (TT := TX0) (j := 6) (by omega) (cell_coil ad C _ hi hc) rfl (by decide) gX0 rfl hw rfl d hq kk
theorem p_coil_sales {i c : Int} (hi : 0 ≤ i ∧ i < 6) (hc : 0 ≤ c ∧ c < 8) {idx : Nat} {v : Int} (hw : Cond.fieldLink own idx RX0 (TX0 6).2.1 (TX0 6).2.2.1 ∈ gt) (d : decode cc pc = .ok (.putfield idx, 3)) (hq : pc + 3 = q)
    (kk : AW l own nm cc nL ret X R E D (tyC C) Z w0 q lv st (cw ad C (setG G i (15 + 12 * c + 6) v)) k n) : AW l own nm cc nL ret X R E D (tyC C) Z w0 pc lv (.int (iI v) :: .ref (ad (17 * i + 9 + c)) :: st) (cw ad C G) k n := by
  exact aw_cput (id := 17 * i + 9 + c) (ci := 0) (TT := TX0) (j := 6) (by omega) (cell_coil ad C _ hi hc) rfl (by decide) gX0 rfl tyX0 tyX0_ok nmX0 rfl rfl rfl (Nat.le_of_ble_eq_true rfl) (by rw [cell_coil ad C _ hi hc]; unfold coilCell; simp only [setG_same]; rw [setG_ne (by omega), setG_ne (by omega), setG_ne (by omega), setG_ne (by omega), setG_ne (by omega), setG_ne (by omega), setG_ne (by omega), setG_ne (by omega), setG_ne (by omega), setG_ne (by omega), setG_ne (by omega)]; rfl) (setG_own (by unfold ownr; rw [if_pos (by omega)]; unfold ownM; (repeat' split) <;> omega)) hw d hq kk
theorem g_coil_takings {i c : Int} (hi : 0 ≤ i ∧ i < 6) (hc : 0 ≤ c ∧ c < 8) {idx : Nat} {v : Int} (hv : G i (15 + 12 * c + 7) = v) (hw : Cond.fieldLink own idx RX0 (TX0 7).2.1 (TX0 7).2.2.1 ∈ gt) (d : decode cc pc = .ok (.getfield idx, 3)) (hq : pc + 3 = q)
    (kk : AW l own nm cc nL ret X R E D (tyC C) Z w0 q lv (.int (iI v) :: st) (cw ad C G) k n) : AW l own nm cc nL ret X R E D (tyC C) Z w0 pc lv (.ref (ad (17 * i + 9 + c)) :: st) (cw ad C G) k n := by
  subst hv
  exact aw_cget (id := 17 * i + 9 + c) (ci := 0) (TT := TX0) (j := 7) (by omega) (cell_coil ad C _ hi hc) rfl (by decide) gX0 rfl hw rfl d hq kk
theorem p_coil_takings {i c : Int} (hi : 0 ≤ i ∧ i < 6) (hc : 0 ≤ c ∧ c < 8) {idx : Nat} {v : Int} (hw : Cond.fieldLink own idx RX0 (TX0 7).2.1 (TX0 7).2.2.1 ∈ gt) (d : decode cc pc = .ok (.putfield idx, 3)) (hq : pc + 3 = q)
    (kk : AW l own nm cc nL ret X R E D (tyC C) Z w0 q lv st (cw ad C (setG G i (15 + 12 * c + 7) v)) k n) : AW l own nm cc nL ret X R E D (tyC C) Z w0 pc lv (.int (iI v) :: .ref (ad (17 * i + 9 + c)) :: st) (cw ad C G) k n := by
  exact aw_cput (id := 17 * i + 9 + c) (ci := 0) (TT := TX0) (j := 7) (by omega) (cell_coil ad C _ hi hc) rfl (by decide) gX0 rfl tyX0 tyX0_ok nmX0 rfl rfl rfl (Nat.le_of_ble_eq_true rfl) (by rw [cell_coil ad C _ hi hc]; unfold coilCell; simp only [setG_same]; rw [setG_ne (by omega), setG_ne (by omega), setG_ne (by omega), setG_ne (by omega), setG_ne (by omega), setG_ne (by omega), setG_ne (by omega), setG_ne (by omega), setG_ne (by omega), setG_ne (by omega), setG_ne (by omega)]; rfl) (setG_own (by unfold ownr; rw [if_pos (by omega)]; unfold ownM; (repeat' split) <;> omega)) hw d hq kk
theorem g_coil_raises {i c : Int} (hi : 0 ≤ i ∧ i < 6) (hc : 0 ≤ c ∧ c < 8) {idx : Nat} {v : Int} (hv : G i (15 + 12 * c + 8) = v) (hw : Cond.fieldLink own idx RX0 (TX0 8).2.1 (TX0 8).2.2.1 ∈ gt) (d : decode cc pc = .ok (.getfield idx, 3)) (hq : pc + 3 = q)
    (kk : AW l own nm cc nL ret X R E D (tyC C) Z w0 q lv (.int (iI v) :: st) (cw ad C G) k n) : AW l own nm cc nL ret X R E D (tyC C) Z w0 pc lv (.ref (ad (17 * i + 9 + c)) :: st) (cw ad C G) k n := by
  subst hv
  exact aw_cget (id := 17 * i + 9 + c) (ci := 0) (TT := TX0) (j := 8) (by omega) (cell_coil ad C _ hi hc) rfl (by decide) gX0 rfl hw rfl d hq kk
theorem p_coil_raises {i c : Int} (hi : 0 ≤ i ∧ i < 6) (hc : 0 ≤ c ∧ c < 8) {idx : Nat} {v : Int} (hw : Cond.fieldLink own idx RX0 (TX0 8).2.1 (TX0 8).2.2.1 ∈ gt) (d : decode cc pc = .ok (.putfield idx, 3)) (hq : pc + 3 = q)
    (kk : AW l own nm cc nL ret X R E D (tyC C) Z w0 q lv st (cw ad C (setG G i (15 + 12 * c + 8) v)) k n) : AW l own nm cc nL ret X R E D (tyC C) Z w0 pc lv (.int (iI v) :: .ref (ad (17 * i + 9 + c)) :: st) (cw ad C G) k n := by
  exact aw_cput (id := 17 * i + 9 + c) (ci := 0) (TT := TX0) (j := 8) (by omega) (cell_coil ad C _ hi hc) rfl (by decide) gX0 rfl tyX0 tyX0_ok nmX0 rfl rfl rfl (Nat.le_of_ble_eq_true rfl) (by rw [cell_coil ad C _ hi hc]; unfold coilCell; simp only [setG_same]; rw [setG_ne (by omega), setG_ne (by omega), setG_ne (by omega), setG_ne (by omega), setG_ne (by omega), setG_ne (by omega), setG_ne (by omega), setG_ne (by omega), setG_ne (by omega), setG_ne (by omega), setG_ne (by omega)]; rfl) (setG_own (by unfold ownr; rw [if_pos (by omega)]; unfold ownM; (repeat' split) <;> omega)) hw d hq kk
theorem g_coil_commonRaises {i c : Int} (hi : 0 ≤ i ∧ i < 6) (hc : 0 ≤ c ∧ c < 8) {idx : Nat} {v : Int} (hv : G i (15 + 12 * c + 9) = v) (hw : Cond.fieldLink own idx RX0 (TX0 9).2.1 (TX0 9).2.2.1 ∈ gt) (d : decode cc pc = .ok (.getfield idx, 3)) (hq : pc + 3 = q)
    (kk : AW l own nm cc nL ret X R E D (tyC C) Z w0 q lv (.int (iI v) :: st) (cw ad C G) k n) : AW l own nm cc nL ret X R E D (tyC C) Z w0 pc lv (.ref (ad (17 * i + 9 + c)) :: st) (cw ad C G) k n := by
  subst hv
  exact aw_cget (id := 17 * i + 9 + c) (ci := 0) (TT := TX0) (j := 9) (by omega) (cell_coil ad C _ hi hc) rfl (by decide) gX0 rfl hw rfl d hq kk
theorem p_coil_commonRaises {i c : Int} (hi : 0 ≤ i ∧ i < 6) (hc : 0 ≤ c ∧ c < 8) {idx : Nat} {v : Int} (hw : Cond.fieldLink own idx RX0 (TX0 9).2.1 (TX0 9).2.2.1 ∈ gt) (d : decode cc pc = .ok (.putfield idx, 3)) (hq : pc + 3 = q)
    (kk : AW l own nm cc nL ret X R E D (tyC C) Z w0 q lv st (cw ad C (setG G i (15 + 12 * c + 9) v)) k n) : AW l own nm cc nL ret X R E D (tyC C) Z w0 pc lv (.int (iI v) :: .ref (ad (17 * i + 9 + c)) :: st) (cw ad C G) k n := by
  exact aw_cput (id := 17 * i + 9 + c) (ci := 0) (TT := TX0) (j := 9) (by omega) (cell_coil ad C _ hi hc) rfl (by decide) gX0 rfl tyX0 tyX0_ok nmX0 rfl rfl rfl (Nat.le_of_ble_eq_true rfl) (by rw [cell_coil ad C _ hi hc]; unfold coilCell; simp only [setG_same]; rw [setG_ne (by omega), setG_ne (by omega), setG_ne (by omega), setG_ne (by omega), setG_ne (by omega), setG_ne (by omega), setG_ne (by omega), setG_ne (by omega), setG_ne (by omega), setG_ne (by omega), setG_ne (by omega)]; rfl) (setG_own (by unfold ownr; rw [if_pos (by omega)]; unfold ownM; (repeat' split) <;> omega)) hw d hq kk
theorem g_coil_wanted {i c : Int} (hi : 0 ≤ i ∧ i < 6) (hc : 0 ≤ c ∧ c < 8) {idx : Nat} {v : Int} (hv : G i (15 + 12 * c + 10) = v) (hw : Cond.fieldLink own idx RX0 (TX0 10).2.1 (TX0 10).2.2.1 ∈ gt) (d : decode cc pc = .ok (.getfield idx, 3)) (hq : pc + 3 = q)
    (kk : AW l own nm cc nL ret X R E D (tyC C) Z w0 q lv (.float (fB v) :: st) (cw ad C G) k n) : AW l own nm cc nL ret X R E D (tyC C) Z w0 pc lv (.ref (ad (17 * i + 9 + c)) :: st) (cw ad C G) k n := by
  subst hv
  exact aw_cget (id := 17 * i + 9 + c) (ci := 0) (TT := TX0) (j := 10) (by omega) (cell_coil ad C _ hi hc) rfl (by decide) gX0 rfl hw rfl d hq kk
theorem p_coil_wanted {i c : Int} (hi : 0 ≤ i ∧ i < 6) (hc : 0 ≤ c ∧ c < 8) {idx : Nat} {v : Int} {x : UInt32} (hx : fB v = x) (hw : Cond.fieldLink own idx RX0 (TX0 10).2.1 (TX0 10).2.2.1 ∈ gt) (d : decode cc pc = .ok (.putfield idx, 3)) (hq : pc + 3 = q)
    (kk : AW l own nm cc nL ret X R E D (tyC C) Z w0 q lv st (cw ad C (setG G i (15 + 12 * c + 10) v)) k n) : AW l own nm cc nL ret X R E D (tyC C) Z w0 pc lv (.float x :: .ref (ad (17 * i + 9 + c)) :: st) (cw ad C G) k n := by
  subst hx
  exact aw_cput (id := 17 * i + 9 + c) (ci := 0) (TT := TX0) (j := 10) (by omega) (cell_coil ad C _ hi hc) rfl (by decide) gX0 rfl tyX0 tyX0_ok nmX0 rfl rfl rfl (Nat.le_of_ble_eq_true rfl) (by rw [cell_coil ad C _ hi hc]; unfold coilCell; simp only [setG_same]; rw [setG_ne (by omega), setG_ne (by omega), setG_ne (by omega), setG_ne (by omega), setG_ne (by omega), setG_ne (by omega), setG_ne (by omega), setG_ne (by omega), setG_ne (by omega), setG_ne (by omega), setG_ne (by omega)]; rfl) (setG_own (by unfold ownr; rw [if_pos (by omega)]; unfold ownM; (repeat' split) <;> omega)) hw d hq kk
theorem g_coil_hasRaised {i c : Int} (hi : 0 ≤ i ∧ i < 6) (hc : 0 ≤ c ∧ c < 8) {idx : Nat} {v : Int} (hv : G i (15 + 12 * c + 11) = v) (hw : Cond.fieldLink own idx RX0 (TX0 11).2.1 (TX0 11).2.2.1 ∈ gt) (d : decode cc pc = .ok (.getfield idx, 3)) (hq : pc + 3 = q)
    (kk : AW l own nm cc nL ret X R E D (tyC C) Z w0 q lv (.int (iI v) :: st) (cw ad C G) k n) : AW l own nm cc nL ret X R E D (tyC C) Z w0 pc lv (.ref (ad (17 * i + 9 + c)) :: st) (cw ad C G) k n := by
  subst hv
  exact aw_cget (id := 17 * i + 9 + c) (ci := 0) (TT := TX0) (j := 11) (by omega) (cell_coil ad C _ hi hc) rfl (by decide) gX0 rfl hw rfl d hq kk
theorem p_coil_hasRaised {i c : Int} (hi : 0 ≤ i ∧ i < 6) (hc : 0 ≤ c ∧ c < 8) {idx : Nat} {v : Int} (hz : v = 0 ∨ v = 1) (hw : Cond.fieldLink own idx RX0 (TX0 11).2.1 (TX0 11).2.2.1 ∈ gt) (d : decode cc pc = .ok (.putfield idx, 3)) (hq : pc + 3 = q)
    (kk : AW l own nm cc nL ret X R E D (tyC C) Z w0 q lv st (cw ad C (setG G i (15 + 12 * c + 11) v)) k n) : AW l own nm cc nL ret X R E D (tyC C) Z w0 pc lv (.int (iI v) :: .ref (ad (17 * i + 9 + c)) :: st) (cw ad C G) k n := by
  exact aw_cput (id := 17 * i + 9 + c) (ci := 0) (TT := TX0) (j := 11) (by omega) (cell_coil ad C _ hi hc) rfl (by decide) gX0 rfl tyX0 tyX0_ok nmX0 rfl (by rcases hz with rfl | rfl <;> decide) (by rcases hz with rfl | rfl <;> decide) (Nat.le_of_ble_eq_true rfl) (by rw [cell_coil ad C _ hi hc]; unfold coilCell; simp only [setG_same]; rw [setG_ne (by omega), setG_ne (by omega), setG_ne (by omega), setG_ne (by omega), setG_ne (by omega), setG_ne (by omega), setG_ne (by omega), setG_ne (by omega), setG_ne (by omega), setG_ne (by omega), setG_ne (by omega)]; rfl) (setG_own (by unfold ownr; rw [if_pos (by omega)]; unfold ownM; (repeat' split) <;> omega)) hw d hq kk
theorem g_mach_coils {i : Int} (hi : 0 ≤ i ∧ i < 6) {idx : Nat} (hw : Cond.fieldLink own idx RX1 (TX1 0).2.1 (TX1 0).2.2.1 ∈ gt) (d : decode cc pc = .ok (.getfield idx, 3)) (hq : pc + 3 = q)
    (kk : AW l own nm cc nL ret X R E D (tyC C) Z w0 q lv (.ref (ad (17 * i + 1)) :: st) (cw ad C G) k n) : AW l own nm cc nL ret X R E D (tyC C) Z w0 pc lv (.ref (ad (17 * i)) :: st) (cw ad C G) k n :=
  aw_cget (id := 17 * i) (ci := 1) (TT := TX1) (j := 0) (by omega) (cell_mach ad C _ hi) rfl (by decide) gX1 rfl hw rfl d hq kk
theorem g_mach_settings {i : Int} (hi : 0 ≤ i ∧ i < 6) {idx : Nat} (hw : Cond.fieldLink own idx RX1 (TX1 1).2.1 (TX1 1).2.2.1 ∈ gt) (d : decode cc pc = .ok (.getfield idx, 3)) (hq : pc + 3 = q)
    (kk : AW l own nm cc nL ret X R E D (tyC C) Z w0 q lv (.ref (ad (17 * i + 2)) :: st) (cw ad C G) k n) : AW l own nm cc nL ret X R E D (tyC C) Z w0 pc lv (.ref (ad (17 * i)) :: st) (cw ad C G) k n :=
  aw_cget (id := 17 * i) (ci := 1) (TT := TX1) (j := 1) (by omega) (cell_mach ad C _ hi) rfl (by decide) gX1 rfl hw rfl d hq kk
theorem g_mach_till {i : Int} (hi : 0 ≤ i ∧ i < 6) {idx : Nat} (hw : Cond.fieldLink own idx RX1 (TX1 2).2.1 (TX1 2).2.2.1 ∈ gt) (d : decode cc pc = .ok (.getfield idx, 3)) (hq : pc + 3 = q)
    (kk : AW l own nm cc nL ret X R E D (tyC C) Z w0 q lv (.ref (ad (17 * i + 3)) :: st) (cw ad C G) k n) : AW l own nm cc nL ret X R E D (tyC C) Z w0 pc lv (.ref (ad (17 * i)) :: st) (cw ad C G) k n :=
  aw_cget (id := 17 * i) (ci := 1) (TT := TX1) (j := 2) (by omega) (cell_mach ad C _ hi) rfl (by decide) gX1 rfl hw rfl d hq kk
theorem g_mach_coilCount {i : Int} (hi : 0 ≤ i ∧ i < 6) {idx : Nat} {v : Int} (hv : G i (13) = v) (hw : Cond.fieldLink own idx RX1 (TX1 3).2.1 (TX1 3).2.2.1 ∈ gt) (d : decode cc pc = .ok (.getfield idx, 3)) (hq : pc + 3 = q)
    (kk : AW l own nm cc nL ret X R E D (tyC C) Z w0 q lv (.int (iI v) :: st) (cw ad C G) k n) : AW l own nm cc nL ret X R E D (tyC C) Z w0 pc lv (.ref (ad (17 * i)) :: st) (cw ad C G) k n := by
  subst hv
  exact aw_cget (id := 17 * i) (ci := 1) (TT := TX1) (j := 3) (by omega) (cell_mach ad C _ hi) rfl (by decide) gX1 rfl hw rfl d hq kk
theorem p_mach_coilCount {i : Int} (hi : 0 ≤ i ∧ i < 6) {idx : Nat} {v : Int} (hw : Cond.fieldLink own idx RX1 (TX1 3).2.1 (TX1 3).2.2.1 ∈ gt) (d : decode cc pc = .ok (.putfield idx, 3)) (hq : pc + 3 = q)
    (kk : AW l own nm cc nL ret X R E D (tyC C) Z w0 q lv st (cw ad C (setG G i (13) v)) k n) : AW l own nm cc nL ret X R E D (tyC C) Z w0 pc lv (.int (iI v) :: .ref (ad (17 * i)) :: st) (cw ad C G) k n := by
  exact aw_cput (id := 17 * i) (ci := 1) (TT := TX1) (j := 3) (by omega) (cell_mach ad C _ hi) rfl (by decide) gX1 rfl tyX1 tyX1_ok nmX1 rfl rfl rfl (Nat.le_of_ble_eq_true rfl) (by rw [cell_mach ad C _ hi]; simp [setG]) (setG_own (by unfold ownr; rw [if_pos (by omega)]; unfold ownM; (repeat' split) <;> omega)) hw d hq kk
theorem g_mach_hour {i : Int} (hi : 0 ≤ i ∧ i < 6) {idx : Nat} {v : Int} (hv : G i (10) = v) (hw : Cond.fieldLink own idx RX1 (TX1 4).2.1 (TX1 4).2.2.1 ∈ gt) (d : decode cc pc = .ok (.getfield idx, 3)) (hq : pc + 3 = q)
    (kk : AW l own nm cc nL ret X R E D (tyC C) Z w0 q lv (.int (iI v) :: st) (cw ad C G) k n) : AW l own nm cc nL ret X R E D (tyC C) Z w0 pc lv (.ref (ad (17 * i)) :: st) (cw ad C G) k n := by
  subst hv
  exact aw_cget (id := 17 * i) (ci := 1) (TT := TX1) (j := 4) (by omega) (cell_mach ad C _ hi) rfl (by decide) gX1 rfl hw rfl d hq kk
theorem p_mach_hour {i : Int} (hi : 0 ≤ i ∧ i < 6) {idx : Nat} {v : Int} (hw : Cond.fieldLink own idx RX1 (TX1 4).2.1 (TX1 4).2.2.1 ∈ gt) (d : decode cc pc = .ok (.putfield idx, 3)) (hq : pc + 3 = q)
    (kk : AW l own nm cc nL ret X R E D (tyC C) Z w0 q lv st (cw ad C (setG G i (10) v)) k n) : AW l own nm cc nL ret X R E D (tyC C) Z w0 pc lv (.int (iI v) :: .ref (ad (17 * i)) :: st) (cw ad C G) k n := by
  exact aw_cput (id := 17 * i) (ci := 1) (TT := TX1) (j := 4) (by omega) (cell_mach ad C _ hi) rfl (by decide) gX1 rfl tyX1 tyX1_ok nmX1 rfl rfl rfl (Nat.le_of_ble_eq_true rfl) (by rw [cell_mach ad C _ hi]; simp [setG]) (setG_own (by unfold ownr; rw [if_pos (by omega)]; unfold ownM; (repeat' split) <;> omega)) hw d hq kk
theorem g_mach_fines {i : Int} (hi : 0 ≤ i ∧ i < 6) {idx : Nat} {v : Int} (hv : G i (12) = v) (hw : Cond.fieldLink own idx RX1 (TX1 5).2.1 (TX1 5).2.2.1 ∈ gt) (d : decode cc pc = .ok (.getfield idx, 3)) (hq : pc + 3 = q)
    (kk : AW l own nm cc nL ret X R E D (tyC C) Z w0 q lv (.int (iI v) :: st) (cw ad C G) k n) : AW l own nm cc nL ret X R E D (tyC C) Z w0 pc lv (.ref (ad (17 * i)) :: st) (cw ad C G) k n := by
  subst hv
  exact aw_cget (id := 17 * i) (ci := 1) (TT := TX1) (j := 5) (by omega) (cell_mach ad C _ hi) rfl (by decide) gX1 rfl hw rfl d hq kk
theorem p_mach_fines {i : Int} (hi : 0 ≤ i ∧ i < 6) {idx : Nat} {v : Int} (hw : Cond.fieldLink own idx RX1 (TX1 5).2.1 (TX1 5).2.2.1 ∈ gt) (d : decode cc pc = .ok (.putfield idx, 3)) (hq : pc + 3 = q)
    (kk : AW l own nm cc nL ret X R E D (tyC C) Z w0 q lv st (cw ad C (setG G i (12) v)) k n) : AW l own nm cc nL ret X R E D (tyC C) Z w0 pc lv (.int (iI v) :: .ref (ad (17 * i)) :: st) (cw ad C G) k n := by
  exact aw_cput (id := 17 * i) (ci := 1) (TT := TX1) (j := 5) (by omega) (cell_mach ad C _ hi) rfl (by decide) gX1 rfl tyX1 tyX1_ok nmX1 rfl rfl rfl (Nat.le_of_ble_eq_true rfl) (by rw [cell_mach ad C _ hi]; simp [setG]) (setG_own (by unfold ownr; rw [if_pos (by omega)]; unfold ownM; (repeat' split) <;> omega)) hw d hq kk
theorem g_till_tubes {i : Int} (hi : 0 ≤ i ∧ i < 6) {idx : Nat} (hw : Cond.fieldLink own idx RX4 (TX4 0).2.1 (TX4 0).2.2.1 ∈ gt) (d : decode cc pc = .ok (.getfield idx, 3)) (hq : pc + 3 = q)
    (kk : AW l own nm cc nL ret X R E D (tyC C) Z w0 q lv (.ref (ad (17 * i + 4)) :: st) (cw ad C G) k n) : AW l own nm cc nL ret X R E D (tyC C) Z w0 pc lv (.ref (ad (17 * i + 3)) :: st) (cw ad C G) k n :=
  aw_cget (id := 17 * i + 3) (ci := 4) (TT := TX4) (j := 0) (by omega) (cell_till ad C _ hi) rfl (by decide) gX4 rfl hw rfl d hq kk
theorem g_till_promises {i : Int} (hi : 0 ≤ i ∧ i < 6) {idx : Nat} (hw : Cond.fieldLink own idx RX4 (TX4 1).2.1 (TX4 1).2.2.1 ∈ gt) (d : decode cc pc = .ok (.getfield idx, 3)) (hq : pc + 3 = q)
    (kk : AW l own nm cc nL ret X R E D (tyC C) Z w0 q lv (.ref (ad (17 * i + 5)) :: st) (cw ad C G) k n) : AW l own nm cc nL ret X R E D (tyC C) Z w0 pc lv (.ref (ad (17 * i + 3)) :: st) (cw ad C G) k n :=
  aw_cget (id := 17 * i + 3) (ci := 4) (TT := TX4) (j := 1) (by omega) (cell_till ad C _ hi) rfl (by decide) gX4 rfl hw rfl d hq kk
theorem g_till_payment {i : Int} (hi : 0 ≤ i ∧ i < 6) {idx : Nat} (hw : Cond.fieldLink own idx RX4 (TX4 2).2.1 (TX4 2).2.2.1 ∈ gt) (d : decode cc pc = .ok (.getfield idx, 3)) (hq : pc + 3 = q)
    (kk : AW l own nm cc nL ret X R E D (tyC C) Z w0 q lv (.ref (ad (17 * i + 6)) :: st) (cw ad C G) k n) : AW l own nm cc nL ret X R E D (tyC C) Z w0 pc lv (.ref (ad (17 * i + 3)) :: st) (cw ad C G) k n :=
  aw_cget (id := 17 * i + 3) (ci := 4) (TT := TX4) (j := 2) (by omega) (cell_till ad C _ hi) rfl (by decide) gX4 rfl hw rfl d hq kk
theorem g_till_box {i : Int} (hi : 0 ≤ i ∧ i < 6) {idx : Nat} {v : Int} (hv : G i (9) = v) (hw : Cond.fieldLink own idx RX4 (TX4 3).2.1 (TX4 3).2.2.1 ∈ gt) (d : decode cc pc = .ok (.getfield idx, 3)) (hq : pc + 3 = q)
    (kk : AW l own nm cc nL ret X R E D (tyC C) Z w0 q lv (.int (iI v) :: st) (cw ad C G) k n) : AW l own nm cc nL ret X R E D (tyC C) Z w0 pc lv (.ref (ad (17 * i + 3)) :: st) (cw ad C G) k n := by
  subst hv
  exact aw_cget (id := 17 * i + 3) (ci := 4) (TT := TX4) (j := 3) (by omega) (cell_till ad C _ hi) rfl (by decide) gX4 rfl hw rfl d hq kk
theorem p_till_box {i : Int} (hi : 0 ≤ i ∧ i < 6) {idx : Nat} {v : Int} (hw : Cond.fieldLink own idx RX4 (TX4 3).2.1 (TX4 3).2.2.1 ∈ gt) (d : decode cc pc = .ok (.putfield idx, 3)) (hq : pc + 3 = q)
    (kk : AW l own nm cc nL ret X R E D (tyC C) Z w0 q lv st (cw ad C (setG G i (9) v)) k n) : AW l own nm cc nL ret X R E D (tyC C) Z w0 pc lv (.int (iI v) :: .ref (ad (17 * i + 3)) :: st) (cw ad C G) k n := by
  exact aw_cput (id := 17 * i + 3) (ci := 4) (TT := TX4) (j := 3) (by omega) (cell_till ad C _ hi) rfl (by decide) gX4 rfl tyX4 tyX4_ok nmX4 rfl rfl rfl (Nat.le_of_ble_eq_true rfl) (by rw [cell_till ad C _ hi]; simp [setG]) (setG_own (by unfold ownr; rw [if_pos (by omega)]; unfold ownM; (repeat' split) <;> omega)) hw d hq kk
theorem g_till_promiseCount {i : Int} (hi : 0 ≤ i ∧ i < 6) {idx : Nat} {v : Int} (hv : G i (14) = v) (hw : Cond.fieldLink own idx RX4 (TX4 4).2.1 (TX4 4).2.2.1 ∈ gt) (d : decode cc pc = .ok (.getfield idx, 3)) (hq : pc + 3 = q)
    (kk : AW l own nm cc nL ret X R E D (tyC C) Z w0 q lv (.int (iI v) :: st) (cw ad C G) k n) : AW l own nm cc nL ret X R E D (tyC C) Z w0 pc lv (.ref (ad (17 * i + 3)) :: st) (cw ad C G) k n := by
  subst hv
  exact aw_cget (id := 17 * i + 3) (ci := 4) (TT := TX4) (j := 4) (by omega) (cell_till ad C _ hi) rfl (by decide) gX4 rfl hw rfl d hq kk
theorem p_till_promiseCount {i : Int} (hi : 0 ≤ i ∧ i < 6) {idx : Nat} {v : Int} (hw : Cond.fieldLink own idx RX4 (TX4 4).2.1 (TX4 4).2.2.1 ∈ gt) (d : decode cc pc = .ok (.putfield idx, 3)) (hq : pc + 3 = q)
    (kk : AW l own nm cc nL ret X R E D (tyC C) Z w0 q lv st (cw ad C (setG G i (14) v)) k n) : AW l own nm cc nL ret X R E D (tyC C) Z w0 pc lv (.int (iI v) :: .ref (ad (17 * i + 3)) :: st) (cw ad C G) k n := by
  exact aw_cput (id := 17 * i + 3) (ci := 4) (TT := TX4) (j := 4) (by omega) (cell_till ad C _ hi) rfl (by decide) gX4 rfl tyX4 tyX4_ok nmX4 rfl rfl rfl (Nat.le_of_ble_eq_true rfl) (by rw [cell_till ad C _ hi]; simp [setG]) (setG_own (by unfold ownr; rw [if_pos (by omega)]; unfold ownM; (repeat' split) <;> omega)) hw d hq kk
theorem g_till_promiseSum {i : Int} (hi : 0 ≤ i ∧ i < 6) {idx : Nat} {v : Int} (hv : G i (311) = v) (hw : Cond.fieldLink own idx RX4 (TX4 5).2.1 (TX4 5).2.2.1 ∈ gt) (d : decode cc pc = .ok (.getfield idx, 3)) (hq : pc + 3 = q)
    (kk : AW l own nm cc nL ret X R E D (tyC C) Z w0 q lv (.int (iI v) :: st) (cw ad C G) k n) : AW l own nm cc nL ret X R E D (tyC C) Z w0 pc lv (.ref (ad (17 * i + 3)) :: st) (cw ad C G) k n := by
  subst hv
  exact aw_cget (id := 17 * i + 3) (ci := 4) (TT := TX4) (j := 5) (by omega) (cell_till ad C _ hi) rfl (by decide) gX4 rfl hw rfl d hq kk
theorem p_till_promiseSum {i : Int} (hi : 0 ≤ i ∧ i < 6) {idx : Nat} {v : Int} (hw : Cond.fieldLink own idx RX4 (TX4 5).2.1 (TX4 5).2.2.1 ∈ gt) (d : decode cc pc = .ok (.putfield idx, 3)) (hq : pc + 3 = q)
    (kk : AW l own nm cc nL ret X R E D (tyC C) Z w0 q lv st (cw ad C (setG G i (311) v)) k n) : AW l own nm cc nL ret X R E D (tyC C) Z w0 pc lv (.int (iI v) :: .ref (ad (17 * i + 3)) :: st) (cw ad C G) k n := by
  exact aw_cput (id := 17 * i + 3) (ci := 4) (TT := TX4) (j := 5) (by omega) (cell_till ad C _ hi) rfl (by decide) gX4 rfl tyX4 tyX4_ok nmX4 rfl rfl rfl (Nat.le_of_ble_eq_true rfl) (by rw [cell_till ad C _ hi]; simp [setG]) (setG_own (by unfold ownr; rw [if_pos (by omega)]; unfold ownM; (repeat' split) <;> omega)) hw d hq kk
theorem g_till_promisesPaid {i : Int} (hi : 0 ≤ i ∧ i < 6) {idx : Nat} {v : Int} (hv : G i (11) = v) (hw : Cond.fieldLink own idx RX4 (TX4 6).2.1 (TX4 6).2.2.1 ∈ gt) (d : decode cc pc = .ok (.getfield idx, 3)) (hq : pc + 3 = q)
    (kk : AW l own nm cc nL ret X R E D (tyC C) Z w0 q lv (.int (iI v) :: st) (cw ad C G) k n) : AW l own nm cc nL ret X R E D (tyC C) Z w0 pc lv (.ref (ad (17 * i + 3)) :: st) (cw ad C G) k n := by
  subst hv
  exact aw_cget (id := 17 * i + 3) (ci := 4) (TT := TX4) (j := 6) (by omega) (cell_till ad C _ hi) rfl (by decide) gX4 rfl hw rfl d hq kk
theorem p_till_promisesPaid {i : Int} (hi : 0 ≤ i ∧ i < 6) {idx : Nat} {v : Int} (hw : Cond.fieldLink own idx RX4 (TX4 6).2.1 (TX4 6).2.2.1 ∈ gt) (d : decode cc pc = .ok (.putfield idx, 3)) (hq : pc + 3 = q)
    (kk : AW l own nm cc nL ret X R E D (tyC C) Z w0 q lv st (cw ad C (setG G i (11) v)) k n) : AW l own nm cc nL ret X R E D (tyC C) Z w0 pc lv (.int (iI v) :: .ref (ad (17 * i + 3)) :: st) (cw ad C G) k n := by
  exact aw_cput (id := 17 * i + 3) (ci := 4) (TT := TX4) (j := 6) (by omega) (cell_till ad C _ hi) rfl (by decide) gX4 rfl tyX4 tyX4_ok nmX4 rfl rfl rfl (Nat.le_of_ble_eq_true rfl) (by rw [cell_till ad C _ hi]; simp [setG]) (setG_own (by unfold ownr; rw [if_pos (by omega)]; unfold ownM; (repeat' split) <;> omega)) hw d hq kk
theorem g_pay_held {i : Int} (hi : 0 ≤ i ∧ i < 6) {idx : Nat} (hw : Cond.fieldLink own idx RX3 (TX3 0).2.1 (TX3 0).2.2.1 ∈ gt) (d : decode cc pc = .ok (.getfield idx, 3)) (hq : pc + 3 = q)
    (kk : AW l own nm cc nL ret X R E D (tyC C) Z w0 q lv (.ref (ad (17 * i + 7)) :: st) (cw ad C G) k n) : AW l own nm cc nL ret X R E D (tyC C) Z w0 pc lv (.ref (ad (17 * i + 6)) :: st) (cw ad C G) k n :=
  aw_cget (id := 17 * i + 6) (ci := 3) (TT := TX3) (j := 0) (by omega) (cell_pay ad C _ hi) rfl (by decide) gX3 rfl hw rfl d hq kk
theorem g_pay_taken {i : Int} (hi : 0 ≤ i ∧ i < 6) {idx : Nat} (hw : Cond.fieldLink own idx RX3 (TX3 1).2.1 (TX3 1).2.2.1 ∈ gt) (d : decode cc pc = .ok (.getfield idx, 3)) (hq : pc + 3 = q)
    (kk : AW l own nm cc nL ret X R E D (tyC C) Z w0 q lv (.ref (ad (17 * i + 8)) :: st) (cw ad C G) k n) : AW l own nm cc nL ret X R E D (tyC C) Z w0 pc lv (.ref (ad (17 * i + 6)) :: st) (cw ad C G) k n :=
  aw_cget (id := 17 * i + 6) (ci := 3) (TT := TX3) (j := 1) (by omega) (cell_pay ad C _ hi) rfl (by decide) gX3 rfl hw rfl d hq kk
theorem g_cp_machine  {idx : Nat} (hw : Cond.fieldLink own idx RX5 (TX5 0).2.1 (TX5 0).2.2.1 ∈ gt) (d : decode cc pc = .ok (.getfield idx, 3)) (hq : pc + 3 = q)
    (kk : AW l own nm cc nL ret X R E D (tyC C) Z w0 q lv (.ref (ad (0)) :: st) (cw ad C G) k n) : AW l own nm cc nL ret X R E D (tyC C) Z w0 pc lv (.ref (ad (102)) :: st) (cw ad C G) k n :=
  aw_cget (id := 102) (ci := 5) (TT := TX5) (j := 0) (by omega) (cell_102 ad C _) rfl (by decide) gX5 rfl hw rfl d hq kk
theorem g_cp_trial  {idx : Nat} (hw : Cond.fieldLink own idx RX5 (TX5 1).2.1 (TX5 1).2.2.1 ∈ gt) (d : decode cc pc = .ok (.getfield idx, 3)) (hq : pc + 3 = q)
    (kk : AW l own nm cc nL ret X R E D (tyC C) Z w0 q lv (.ref (ad (17)) :: st) (cw ad C G) k n) : AW l own nm cc nL ret X R E D (tyC C) Z w0 pc lv (.ref (ad (102)) :: st) (cw ad C G) k n :=
  aw_cget (id := 102) (ci := 5) (TT := TX5) (j := 1) (by omega) (cell_102 ad C _) rfl (by decide) gX5 rfl hw rfl d hq kk
theorem g_cp_saved  {idx : Nat} (hw : Cond.fieldLink own idx RX5 (TX5 2).2.1 (TX5 2).2.2.1 ∈ gt) (d : decode cc pc = .ok (.getfield idx, 3)) (hq : pc + 3 = q)
    (kk : AW l own nm cc nL ret X R E D (tyC C) Z w0 q lv (.ref (ad (103)) :: st) (cw ad C G) k n) : AW l own nm cc nL ret X R E D (tyC C) Z w0 pc lv (.ref (ad (102)) :: st) (cw ad C G) k n :=
  aw_cget (id := 102) (ci := 5) (TT := TX5) (j := 2) (by omega) (cell_102 ad C _) rfl (by decide) gX5 rfl hw rfl d hq kk
theorem g_cp_savedCount  {idx : Nat} {v : Int} (hv : G 6 (0) = v) (hw : Cond.fieldLink own idx RX5 (TX5 3).2.1 (TX5 3).2.2.1 ∈ gt) (d : decode cc pc = .ok (.getfield idx, 3)) (hq : pc + 3 = q)
    (kk : AW l own nm cc nL ret X R E D (tyC C) Z w0 q lv (.int (iI v) :: st) (cw ad C G) k n) : AW l own nm cc nL ret X R E D (tyC C) Z w0 pc lv (.ref (ad (102)) :: st) (cw ad C G) k n := by
  subst hv
  exact aw_cget (id := 102) (ci := 5) (TT := TX5) (j := 3) (by omega) (cell_102 ad C _) rfl (by decide) gX5 rfl hw rfl d hq kk
theorem p_cp_savedCount  {idx : Nat} {v : Int} (hw : Cond.fieldLink own idx RX5 (TX5 3).2.1 (TX5 3).2.2.1 ∈ gt) (d : decode cc pc = .ok (.putfield idx, 3)) (hq : pc + 3 = q)
    (kk : AW l own nm cc nL ret X R E D (tyC C) Z w0 q lv st (cw ad C (setG G 6 (0) v)) k n) : AW l own nm cc nL ret X R E D (tyC C) Z w0 pc lv (.int (iI v) :: .ref (ad (102)) :: st) (cw ad C G) k n := by
  exact aw_cput (id := 102) (ci := 5) (TT := TX5) (j := 3) (by omega) (cell_102 ad C _) rfl (by decide) gX5 rfl tyX5 tyX5_ok nmX5 rfl rfl rfl (Nat.le_of_ble_eq_true rfl) (by rw [cell_102 ad C _]; simp [setG]) (setG_own rfl) hw d hq kk
theorem g_cp_text  {idx : Nat} (hw : Cond.fieldLink own idx RX5 (TX5 4).2.1 (TX5 4).2.2.1 ∈ gt) (d : decode cc pc = .ok (.getfield idx, 3)) (hq : pc + 3 = q)
    (kk : AW l own nm cc nL ret X R E D (tyC C) Z w0 q lv (.ref (ad (104)) :: st) (cw ad C G) k n) : AW l own nm cc nL ret X R E D (tyC C) Z w0 pc lv (.ref (ad (102)) :: st) (cw ad C G) k n :=
  aw_cget (id := 102) (ci := 5) (TT := TX5) (j := 4) (by omega) (cell_102 ad C _) rfl (by decide) gX5 rfl hw rfl d hq kk
theorem g_cp_coinsIn  {idx : Nat} (hw : Cond.fieldLink own idx RX5 (TX5 5).2.1 (TX5 5).2.2.1 ∈ gt) (d : decode cc pc = .ok (.getfield idx, 3)) (hq : pc + 3 = q)
    (kk : AW l own nm cc nL ret X R E D (tyC C) Z w0 q lv (.ref (ad (107)) :: st) (cw ad C G) k n) : AW l own nm cc nL ret X R E D (tyC C) Z w0 pc lv (.ref (ad (102)) :: st) (cw ad C G) k n :=
  aw_cget (id := 102) (ci := 5) (TT := TX5) (j := 5) (by omega) (cell_102 ad C _) rfl (by decide) gX5 rfl hw rfl d hq kk
theorem g_text_bytes  {idx : Nat} (hw : Cond.fieldLink own idx RX2 (TX2 0).2.1 (TX2 0).2.2.1 ∈ gt) (d : decode cc pc = .ok (.getfield idx, 3)) (hq : pc + 3 = q)
    (kk : AW l own nm cc nL ret X R E D (tyC C) Z w0 q lv (.ref (ad (105)) :: st) (cw ad C G) k n) : AW l own nm cc nL ret X R E D (tyC C) Z w0 pc lv (.ref (ad (104)) :: st) (cw ad C G) k n :=
  aw_cget (id := 104) (ci := 2) (TT := TX2) (j := 0) (by omega) (cell_104 ad C _) rfl (by decide) gX2 rfl hw rfl d hq kk
theorem g_text_length  {idx : Nat} {v : Int} (hv : G 7 (1) = v) (hw : Cond.fieldLink own idx RX2 (TX2 1).2.1 (TX2 1).2.2.1 ∈ gt) (d : decode cc pc = .ok (.getfield idx, 3)) (hq : pc + 3 = q)
    (kk : AW l own nm cc nL ret X R E D (tyC C) Z w0 q lv (.int (iI v) :: st) (cw ad C G) k n) : AW l own nm cc nL ret X R E D (tyC C) Z w0 pc lv (.ref (ad (104)) :: st) (cw ad C G) k n := by
  subst hv
  exact aw_cget (id := 104) (ci := 2) (TT := TX2) (j := 1) (by omega) (cell_104 ad C _) rfl (by decide) gX2 rfl hw rfl d hq kk
theorem p_text_length  {idx : Nat} {v : Int} (hw : Cond.fieldLink own idx RX2 (TX2 1).2.1 (TX2 1).2.2.1 ∈ gt) (d : decode cc pc = .ok (.putfield idx, 3)) (hq : pc + 3 = q)
    (kk : AW l own nm cc nL ret X R E D (tyC C) Z w0 q lv st (cw ad C (setG G 7 (1) v)) k n) : AW l own nm cc nL ret X R E D (tyC C) Z w0 pc lv (.int (iI v) :: .ref (ad (104)) :: st) (cw ad C G) k n := by
  exact aw_cput (id := 104) (ci := 2) (TT := TX2) (j := 1) (by omega) (cell_104 ad C _) rfl (by decide) gX2 rfl tyX2 tyX2_ok nmX2 rfl rfl rfl (Nat.le_of_ble_eq_true rfl) (by rw [cell_104 ad C _]; simp [setG]) (setG_own rfl) hw d hq kk
theorem g_text_letter  {idx : Nat} {v : Int} (hv : G 7 (2) = v) (hw : Cond.fieldLink own idx RX2 (TX2 2).2.1 (TX2 2).2.2.1 ∈ gt) (d : decode cc pc = .ok (.getfield idx, 3)) (hq : pc + 3 = q)
    (kk : AW l own nm cc nL ret X R E D (tyC C) Z w0 q lv (.int (iI v) :: st) (cw ad C G) k n) : AW l own nm cc nL ret X R E D (tyC C) Z w0 pc lv (.ref (ad (104)) :: st) (cw ad C G) k n := by
  subst hv
  exact aw_cget (id := 104) (ci := 2) (TT := TX2) (j := 2) (by omega) (cell_104 ad C _) rfl (by decide) gX2 rfl hw rfl d hq kk
theorem p_text_letter  {idx : Nat} {v : Int} (hw : Cond.fieldLink own idx RX2 (TX2 2).2.1 (TX2 2).2.2.1 ∈ gt) (d : decode cc pc = .ok (.putfield idx, 3)) (hq : pc + 3 = q)
    (kk : AW l own nm cc nL ret X R E D (tyC C) Z w0 q lv st (cw ad C (setG G 7 (2) v)) k n) : AW l own nm cc nL ret X R E D (tyC C) Z w0 pc lv (.int (iI v) :: .ref (ad (104)) :: st) (cw ad C G) k n := by
  exact aw_cput (id := 104) (ci := 2) (TT := TX2) (j := 2) (by omega) (cell_104 ad C _) rfl (by decide) gX2 rfl tyX2 tyX2_ok nmX2 rfl rfl rfl (Nat.le_of_ble_eq_true rfl) (by rw [cell_104 ad C _]; simp [setG]) (setG_own rfl) hw d hq kk
theorem g_text_place  {idx : Nat} {v : Int} (hv : G 7 (3) = v) (hw : Cond.fieldLink own idx RX2 (TX2 3).2.1 (TX2 3).2.2.1 ∈ gt) (d : decode cc pc = .ok (.getfield idx, 3)) (hq : pc + 3 = q)
    (kk : AW l own nm cc nL ret X R E D (tyC C) Z w0 q lv (.int (iI v) :: st) (cw ad C G) k n) : AW l own nm cc nL ret X R E D (tyC C) Z w0 pc lv (.ref (ad (104)) :: st) (cw ad C G) k n := by
  subst hv
  exact aw_cget (id := 104) (ci := 2) (TT := TX2) (j := 3) (by omega) (cell_104 ad C _) rfl (by decide) gX2 rfl hw rfl d hq kk
theorem p_text_place  {idx : Nat} {v : Int} (hw : Cond.fieldLink own idx RX2 (TX2 3).2.1 (TX2 3).2.2.1 ∈ gt) (d : decode cc pc = .ok (.putfield idx, 3)) (hq : pc + 3 = q)
    (kk : AW l own nm cc nL ret X R E D (tyC C) Z w0 q lv st (cw ad C (setG G 7 (3) v)) k n) : AW l own nm cc nL ret X R E D (tyC C) Z w0 pc lv (.int (iI v) :: .ref (ad (104)) :: st) (cw ad C G) k n := by
  exact aw_cput (id := 104) (ci := 2) (TT := TX2) (j := 3) (by omega) (cell_104 ad C _) rfl (by decide) gX2 rfl tyX2 tyX2_ok nmX2 rfl rfl rfl (Nat.le_of_ble_eq_true rfl) (by rw [cell_104 ad C _]; simp [setG]) (setG_own rfl) hw d hq kk
theorem g_text_number  {idx : Nat} {v : Int} (hv : G 7 (4) = v) (hw : Cond.fieldLink own idx RX2 (TX2 4).2.1 (TX2 4).2.2.1 ∈ gt) (d : decode cc pc = .ok (.getfield idx, 3)) (hq : pc + 3 = q)
    (kk : AW l own nm cc nL ret X R E D (tyC C) Z w0 q lv (.int (iI v) :: st) (cw ad C G) k n) : AW l own nm cc nL ret X R E D (tyC C) Z w0 pc lv (.ref (ad (104)) :: st) (cw ad C G) k n := by
  subst hv
  exact aw_cget (id := 104) (ci := 2) (TT := TX2) (j := 4) (by omega) (cell_104 ad C _) rfl (by decide) gX2 rfl hw rfl d hq kk
theorem p_text_number  {idx : Nat} {v : Int} (hw : Cond.fieldLink own idx RX2 (TX2 4).2.1 (TX2 4).2.2.1 ∈ gt) (d : decode cc pc = .ok (.putfield idx, 3)) (hq : pc + 3 = q)
    (kk : AW l own nm cc nL ret X R E D (tyC C) Z w0 q lv st (cw ad C (setG G 7 (4) v)) k n) : AW l own nm cc nL ret X R E D (tyC C) Z w0 pc lv (.int (iI v) :: .ref (ad (104)) :: st) (cw ad C G) k n := by
  exact aw_cput (id := 104) (ci := 2) (TT := TX2) (j := 4) (by omega) (cell_104 ad C _) rfl (by decide) gX2 rfl tyX2 tyX2_ok nmX2 rfl rfl rfl (Nat.le_of_ble_eq_true rfl) (by rw [cell_104 ad C _]; simp [setG]) (setG_own rfl) hw d hq kk
theorem g_text_coins  {idx : Nat} (hw : Cond.fieldLink own idx RX2 (TX2 5).2.1 (TX2 5).2.2.1 ∈ gt) (d : decode cc pc = .ok (.getfield idx, 3)) (hq : pc + 3 = q)
    (kk : AW l own nm cc nL ret X R E D (tyC C) Z w0 q lv (.ref (ad (106)) :: st) (cw ad C G) k n) : AW l own nm cc nL ret X R E D (tyC C) Z w0 pc lv (.ref (ad (104)) :: st) (cw ad C G) k n :=
  aw_cget (id := 104) (ci := 2) (TT := TX2) (j := 5) (by omega) (cell_104 ad C _) rfl (by decide) gX2 rfl hw rfl d hq kk
theorem g_text_at  {idx : Nat} {v : Int} (hv : G 7 (6) = v) (hw : Cond.fieldLink own idx RX2 (TX2 6).2.1 (TX2 6).2.2.1 ∈ gt) (d : decode cc pc = .ok (.getfield idx, 3)) (hq : pc + 3 = q)
    (kk : AW l own nm cc nL ret X R E D (tyC C) Z w0 q lv (.int (iI v) :: st) (cw ad C G) k n) : AW l own nm cc nL ret X R E D (tyC C) Z w0 pc lv (.ref (ad (104)) :: st) (cw ad C G) k n := by
  subst hv
  exact aw_cget (id := 104) (ci := 2) (TT := TX2) (j := 6) (by omega) (cell_104 ad C _) rfl (by decide) gX2 rfl hw rfl d hq kk
theorem p_text_at  {idx : Nat} {v : Int} (hw : Cond.fieldLink own idx RX2 (TX2 6).2.1 (TX2 6).2.2.1 ∈ gt) (d : decode cc pc = .ok (.putfield idx, 3)) (hq : pc + 3 = q)
    (kk : AW l own nm cc nL ret X R E D (tyC C) Z w0 q lv st (cw ad C (setG G 7 (6) v)) k n) : AW l own nm cc nL ret X R E D (tyC C) Z w0 pc lv (.int (iI v) :: .ref (ad (104)) :: st) (cw ad C G) k n := by
  exact aw_cput (id := 104) (ci := 2) (TT := TX2) (j := 6) (by omega) (cell_104 ad C _) rfl (by decide) gX2 rfl tyX2 tyX2_ok nmX2 rfl rfl rfl (Nat.le_of_ble_eq_true rfl) (by rw [cell_104 ad C _]; simp [setG]) (setG_own rfl) hw d hq kk
theorem g_text_error  {idx : Nat} {v : Int} (hv : G 7 (7) = v) (hw : Cond.fieldLink own idx RX2 (TX2 7).2.1 (TX2 7).2.2.1 ∈ gt) (d : decode cc pc = .ok (.getfield idx, 3)) (hq : pc + 3 = q)
    (kk : AW l own nm cc nL ret X R E D (tyC C) Z w0 q lv (.int (iI v) :: st) (cw ad C G) k n) : AW l own nm cc nL ret X R E D (tyC C) Z w0 pc lv (.ref (ad (104)) :: st) (cw ad C G) k n := by
  subst hv
  exact aw_cget (id := 104) (ci := 2) (TT := TX2) (j := 7) (by omega) (cell_104 ad C _) rfl (by decide) gX2 rfl hw rfl d hq kk
theorem p_text_error  {idx : Nat} {v : Int} (hw : Cond.fieldLink own idx RX2 (TX2 7).2.1 (TX2 7).2.2.1 ∈ gt) (d : decode cc pc = .ok (.putfield idx, 3)) (hq : pc + 3 = q)
    (kk : AW l own nm cc nL ret X R E D (tyC C) Z w0 q lv st (cw ad C (setG G 7 (7) v)) k n) : AW l own nm cc nL ret X R E D (tyC C) Z w0 pc lv (.int (iI v) :: .ref (ad (104)) :: st) (cw ad C G) k n := by
  exact aw_cput (id := 104) (ci := 2) (TT := TX2) (j := 7) (by omega) (cell_104 ad C _) rfl (by decide) gX2 rfl tyX2 tyX2_ok nmX2 rfl rfl rfl (Nat.le_of_ble_eq_true rfl) (by rw [cell_104 ad C _]; simp [setG]) (setG_own rfl) hw d hq kk
theorem aw_coil {i e : Int} (hi : 0 ≤ i ∧ i < 6) (he : 0 ≤ e ∧ e < 8) (d : decode cc pc = .ok (.aaload, 1)) (hq : pc + 1 = q)
    (kk : AW l own nm cc nL ret X R E D (tyC C) Z w0 q lv (.ref (ad (17 * i + 9 + e)) :: st) (cw ad C G) k n) : AW l own nm cc nL ret X R E D (tyC C) Z w0 pc lv (.int (iI e) :: .ref (ad (17 * i + 1)) :: st) (cw ad C G) k n := by
  refine aw_ald (17 * i + 1).toNat 1 (by rw [cw_get (by omega), cell_coils ad C G hi]) rfl (iI_in (n := 8) he (by omega)) ?_ d hq kk
  rw [iI_nat (by omega)]
  have h1 : e.toNat < 8 := by omega
  have h2 : ((e.toNat : Nat) : Int) = e := by omega
  simp only [rowR, h1, if_true, h2]
theorem aw_saved {e m : Int} (he : 0 ≤ e ∧ e < 4) (hm : G 6 (10 + e) = m) (d : decode cc pc = .ok (.aaload, 1)) (hq : pc + 1 = q)
    (kk : AW l own nm cc nL ret X R E D (tyC C) Z w0 q lv (.ref (ad (17 * m)) :: st) (cw ad C G) k n) : AW l own nm cc nL ret X R E D (tyC C) Z w0 pc lv (.int (iI e) :: .ref (ad 103) :: st) (cw ad C G) k n := by
  refine aw_ald 103 2 (by rw [show (103 : Nat) = (103 : Int).toNat from rfl, cw_get (by omega), cell_103]) rfl (iI_in (n := 4) he (by omega)) ?_ d hq kk
  rw [iI_nat (by omega)]
  have h1 : e.toNat < 4 := by omega
  have h2 : ((e.toNat : Nat) : Int) = e := by omega
  simp only [rowR, h1, if_true, h2, hm]
theorem aw_savedPut {e m : Int} (he : 0 ≤ e ∧ e < 4) (hm : 0 ≤ m ∧ m < 6) (d : decode cc pc = .ok (.aastore, 1)) (hq : pc + 1 = q)
    (kk : AW l own nm cc nL ret X R E D (tyC C) Z w0 q lv st (cw ad C (setG G 6 (10 + e) m)) k n) : AW l own nm cc nL ret X R E D (tyC C) Z w0 pc lv (.ref (ad (17 * m)) :: .int (iI e) :: .ref (ad 103) :: st) (cw ad C G) k n := by
  refine aw_ast (r := (RX1, TX1, 6)) (ci := 1) 103 2 (17 * m).toNat (by rw [show (103 : Nat) = (103 : Int).toNat from rfl, cw_get (by omega), cell_103]) rfl (by rw [cw_get (by omega), cell_mach ad C G hm]) rfl (iI_in (n := 4) he (by omega)) d hq ?_
  rw [iI_nat (by omega), show (103 : Nat) = (103 : Int).toNat from rfl, cw_set (G1 := setG G 6 (10 + e) m) (by omega) ?_ (setG_own (by unfold ownr; rw [if_neg (by omega), if_pos rfl, if_neg (by omega)]))]
  · exact kk
  · rw [cell_103]
    have e9 : rowR ad (fun j => 17 * setG G 6 (10 + e) m 6 (10 + j)) 4 = va_up (rowR ad (fun j => 17 * G 6 (10 + j)) 4) e.toNat (some (ad (17 * m))) := by
      funext j
      by_cases hj : j = e.toNat
      · subst hj
        have h1 : e.toNat < 4 := by omega
        have h2 : ((e.toNat : Nat) : Int) = e := by omega
        simp only [rowR, va_up, h1, if_true, h2, setG_same]
      · have h3 : ¬ ((6 : Int) = 6 ∧ 10 + (j : Int) = 10 + e) := by omega
        simp only [rowR, va_up, if_neg hj, setG_ne h3]
    rw [e9]
end RWK
