/-! the law's loop, by induction on the orders left -/
theorem aw_less {l : Launch} {own nm : String} {cc : ByteArray} {nL : Nat} {ret : Option FieldType} {X : Code → Prop} {R : Room} {E : List Frame → Array Value → State → State → Prop} {D : va_G} {ty : List (ClassId × FieldType)} {Z : State → Prop} {w0 : va_W} {pc : Nat} {lv lv2 : List (Nat × Value)} {st : List Value} {ws : va_W} {k n : Nat} (hs : ∀ q ∈ lv2, q ∈ lv)
    (kk : AW l own nm cc nL ret X R E D ty Z w0 pc lv2 st ws k n) : AW l own nm cc nL ret X R E D ty Z w0 pc lv st ws k n :=
  fun p e s m args below meth c hC hK hZ H locs ls hP hD hS hl => kk p e s m args below meth c hC hK hZ H locs ls hP hD hS ⟨hl.1, hl.2.1, fun q hq => hl.2.2 q (hs q hq)⟩
/-- one order: whatever the case does, it comes to 1524 with a world that keeps Rel -/
def lawStep (l : Launch) (D : va_G) (C : Nat → ClassId) (T : Nat → Nat) (ad : Int → Nat) (b L : Nat) (xs : Nat → Int32) (nm : String) (Rel : GG → Prop) (j : Nat) : Prop :=
  ∀ (G : GG) (i : Int) (k n : Nat), Rel G → 0 ≤ i → i + 6 ≤ L → k + 1 ≤ 601024 → n + 6 ≤ 7293034 →
    (∀ G1 : GG, Rel G1 → AW l RL nm code 8 ret (fun _ => True) room_1 (lawE b) D (tyC C) (lawZ b L xs T) [] 1524 (lawLv b ad i) [] (cw ad C G1) (k + 1) (n + 6)) →
    AW l RL nm code 8 ret (fun _ => True) room_1 (lawE b) D (tyC C) (lawZ b L xs T) [] (lawT j) (lawLv b ad i) [] (cw ad C G) k n
theorem law_loop {l : Launch} {D : va_G} {C : Nat → ClassId} {T : Nat → Nat} {ad : Int → Nat} {b L : Nat} {xs : Nat → Int32} {nm : String} {Rel : GG → Prop} (hL : L ≤ 3072) (hstep : ∀ j : Nat, j ≤ 24 → lawStep l D C T ad b L xs nm Rel j) :
    ∀ (f : Nat) (G : GG) (i : Int) (k n : Nat), Rel G → 0 ≤ i → i ≤ 3072 → 3072 - i < f → k + f ≤ 601024 → n + 6 * f ≤ 7293034 →
      AW l RL nm code 8 ret (fun _ => True) room_1 (lawE b) D (tyC C) (lawZ b L xs T) [] 28 (lawLv b ad i) [] (cw ad C G) k n := by
  intro f
  induction f with
  | zero => intro G i k n hG h0 h1 h2; omega
  | succ f ih =>
    intro G i k n hG h0 h1 h2 hk hn
    refine law_head (C := C) hL ⟨h0, h1⟩ (by omega) (by omega) (fun h6 => law_sw (b := b) (mk31_r _) (fun j hj => ?_))
    have hnext : ∀ (G1 : GG) (k1 n1 : Nat), Rel G1 → k1 ≤ k + 1 → n1 ≤ n + 6 → AW l RL nm code 8 ret (fun _ => True) room_1 (lawE b) D (tyC C) (lawZ b L xs T) [] 1524 (lawLv b ad i) [] (cw ad C G1) k1 n1 := fun G1 k1 n1 hG1 hk1 hn1 =>
      law_next (ih G1 (i + 6) k1 n1 hG1 (by omega) (by omega) (by omega) (by omega) (by omega))
    by_cases h25 : j = 25
    · subst h25
      exact hnext G k n hG (by omega) (by omega)
    · exact hstep j (by omega) G i k n hG h0 h6 (by omega) (by omega) (fun G1 hG1 => hnext G1 (k + 1) (n + 6) hG1 (by omega) (by omega))
/-- all that is left: a relation that holds at iniG and that every order keeps -/
theorem whole_from {p : Program} {e : Env} {s : State} {m : MethodId} {below : List Frame} {meth : Method} {c : Code} (l : Launch) {b L : Nat} {xs : Nat → Int32} (hL : L ≤ 3072) (C0 : lw_At p s m meth c b L xs) (Rel : GG → Prop) (h0 : Rel iniG)
    (hstep : ∀ (D : va_G) (C : Nat → ClassId) (T : Nat → Nat) (ad : Int → Nat) (nm : String) (j : Nat), j ≤ 24 → lawStep l D C T ad b L xs nm Rel j) :
    W p l e room_1 s m #[Value.ref b] below meth c s.heap [] 0 0 (lw_Z below #[Value.ref b] s) (entryFrame m ([Value.ref b] : List Value).toArray 8) :=
  whole_of l C0 (fun D C T ad nm => law_loop hL (hstep D C T ad nm) 3073 iniG 0 120 12162 h0 (by decide) (by decide) (by decide) (by decide) (by decide))
