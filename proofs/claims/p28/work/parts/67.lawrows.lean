/-! rows of the law's own body -/
def lawZ (b L : Nat) (xs : Nat → Int32) (T : Nat → Nat) (s : State) : Prop := hvZ T [] s ∧ va_X b L xs s s.heap ∧ b < s.heap.size
/-- what the law owes at its end -/
def lawE (b : Nat) (below : List Frame) (args : Array Value) (s : State) : State → Prop := fun t => args = #[Value.ref b] → lw_Z below args s t
section LAWR
variable {l : Launch} {own nm : String} {cc : ByteArray} {nL : Nat} {ret : Option FieldType} {X : Code → Prop} {R : Room} {E : List Frame → Array Value → State → State → Prop} {D : va_G} {ty : List (ClassId × FieldType)} {Z : State → Prop} {w0 ws : va_W} {pc q : Nat} {lv : List (Nat × Value)} {st : List Value} {k n b L : Nat} {xs : Nat → Int32}
theorem lw_apart {s : State} (h : b < s.heap.size) : ¬ va_A [] s.heap.size b := by
  rintro (⟨k, e, h1⟩ | h1)
  · cases h1
  · exact absurd h (Nat.not_lt.mpr h1)
end LAWR
/-- the law's end -/
theorem aw_lawret {l : Launch} {D : va_G} {ty : List (ClassId × FieldType)} {Z : State → Prop} {X : Code → Prop} {pc b k n : Nat} {lv : List (Nat × Value)} {ws : va_W} {nm : String} (hk : k ≤ 600086) (hn : n ≤ 7301442) (d : decode code pc = .ok (.ireturn, 1)) : AW l RL nm code 5 ret X room_1 (lawE b) D ty Z [] pc lv [.int (iI 1)] ws k n := by
  intro p e s m args below meth c hC hK hZ H locs ls hP hD hS hl T hT X9
  obtain ⟨hx, hb, hml, hown, hts, hr, hlk, hnm, hXc⟩ := id hC
  by_cases ha : args = #[Value.ref b]
  · subst ha
    have hf : ∀ q ∈ locs, s.heap.size ≤ q.base := fun q hq => by
      rcases hS.2.2 q hq with ⟨k9, e9, h9⟩ | h9
      · cases h9
      · exact h9
    have w0 : W p l e room_1 s m #[Value.ref b] below meth c H [] 600086 7301442 (lw_Z below #[Value.ref b] s) (F0 m pc ls [.int 1]) := W.base (lw_ret (Drawn.sameBut.refl s.drawn lw_cs) hx hb hr hlk d)
    have w1 : W p l e room_1 s m #[Value.ref b] below meth c H locs k n (lw_Z below #[Value.ref b] s) (F0 m pc ls [.int 1]) := W.widen hk hn (va_forget hf w0)
    obtain ⟨t, a1, b1⟩ := w1 T hT X9
    exact ⟨t, a1, fun _ => b1⟩
  · exact ⟨_, Steps.refl _, fun h => absurd h ha⟩
