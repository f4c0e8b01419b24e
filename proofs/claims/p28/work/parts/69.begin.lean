/-! what the start gives -/
theorem st_N {args : Array Value} {s : State} (hts : ∀ w ∈ lw_tbl, w.before args s = true) (hg : (Jvm.Cond.and given_1 narrow_1).before args s = true) : hvN s := by
  have hs := flat_of_before _ hg
  have m1 : ∀ q ∈ nestM, Cond.methodLinkNest q.1 q.2.1 q.2.2.1 q.2.2.2 ∈ lw_tbl := by decide +kernel
  have m2 : ∀ q ∈ nestF, Cond.fieldLinkNest q.1 q.2.1 RX5 (tbN q.2.2) "[I" RX5 ∈ lw_tbl := by decide +kernel
  have m3 : ∀ x ∈ declL, Cond.declares x ∈ lw_tbl := by decide +kernel
  have m4 : ∀ x ∈ excL, Cond.castable x x ∈ lw_tbl := by decide +kernel
  have m5 : ∀ q ∈ ncL, va_Nc q.1 q.2 s := by
    intro q hq
    unfold ncL at hq
    simp only [List.mem_cons, List.mem_nil_iff, or_false] at hq
    rcases hq with rfl | rfl | rfl | rfl | rfl | rfl
    · exact va_Nc.of (hs _ (by decide +kernel))
    · exact va_Nc.of (hs _ (by decide +kernel))
    · exact va_Nc.of (hs _ (by decide +kernel))
    · exact va_Nc.of (hs _ (by decide +kernel))
    · exact va_Nc.of (hs _ (by decide +kernel))
    · exact va_Nc.of (hs _ (by decide +kernel))
  exact ⟨fun q hq => va_Nw.of rfl (hts _ (m1 q hq)), fun q hq => va_Nw.of rfl (hts _ (m2 q hq)), fun x hx => va_Nw.of rfl (hts _ (m3 x hx)), fun x hx => va_Nw.of rfl (hts _ (m4 x hx)), m5⟩
theorem st_C {args : Array Value} {s : State} (hts : ∀ w ∈ gt, w.before args s = true) : ∃ D : va_G, ∀ (c : Nat) (q : vw_C), vwCl[c]? = some q → u_Kn s q.1 q.2.1 q.2.2 (D.1 c) (D.2 c) := by
  obtain ⟨c0, i0, h0⟩ := u_known hts gX0 (hts _ wz_X0)
  obtain ⟨c1, i1, h1⟩ := u_known hts gX1 (hts _ wz_X1)
  obtain ⟨c2, i2, h2⟩ := u_known hts gX2 (hts _ wz_X2)
  obtain ⟨c3, i3, h3⟩ := u_known hts gX3 (hts _ wz_X3)
  obtain ⟨c4, i4, h4⟩ := u_known hts gX4 (hts _ wz_X4)
  obtain ⟨c5, i5, h5⟩ := u_known hts gX5 (hts _ wz_X5)
  refine ⟨(fun c => [c0, c1, c2, c3, c4, c5].getD c c0, fun c => [i0, i1, i2, i3, i4, i5].getD c i0), ?_⟩
  intro c q hq
  have hc : c < 6 := (List.getElem?_eq_some_iff.mp hq).1
  have hc9 : c = 0 ∨ c = 1 ∨ c = 2 ∨ c = 3 ∨ c = 4 ∨ c = 5 := by omega
  rcases hc9 with rfl | rfl | rfl | rfl | rfl | rfl <;> cases hq
  · exact h0
  · exact h1
  · exact h2
  · exact h3
  · exact h4
  · exact h5
theorem st_A1 {args : Array Value} {s : State} {t : FieldType} (hp : ∀ C, t ≠ .object C) (h : (Cond.arrayClass t).before args s = true) : ∃ cA : ClassId, ArrOfT s cA t ∧ va_RA s cA t := by
  obtain ⟨cA, kA, comp, h1, h2, h3⟩ := Cond.arrayClass_spec (show (Cond.arrayClass t).holds args s none s [] = true from h)
  refine ⟨cA, fun n z => ⟨fun k h => (by cases h), kA, h2, comp, h3⟩, ?_⟩
  cases t with
  | object C => exact absurd rfl (hp C)
  | _ => exact h1
theorem st_A2 {args : Array Value} {s : State} {C : String} (h : (Cond.arrayOver (.object C)).before args s = true) : ∃ cA : ClassId, ArrOfT s cA (.object C) ∧ va_RA s cA (.object C) := by
  obtain ⟨comp, cA, kA, h1, -, h3, h4, h5⟩ := Cond.arrayOver_spec (show (Cond.arrayOver (.object C)).holds args s none s [] = true from h)
  exact ⟨cA, fun n z => ⟨fun k h => (by cases h), kA, h3, comp, h4⟩, kA, comp, h3, h4, h1, h5⟩
theorem st_K {args : Array Value} {s : State} (hts : ∀ w ∈ lw_tbl, w.before args s = true) : va_AO "CoilPrices$Coil" s ∧ va_AO "CoilPrices$Machine" s ∧ ∃ (D : va_G) (C : Nat → ClassId), va_K D vwCl (tyC C) s := by
  have hg : ∀ w ∈ gt, w.before args s = true := fun w hw => hts w (List.mem_filter.mp hw).1
  have a2 : (Cond.arrayOver (.object "CoilPrices$Coil")).before args s = true := hts _ (by decide +kernel)
  have a3 : (Cond.arrayOver (.object "CoilPrices$Machine")).before args s = true := hts _ (by decide +kernel)
  refine ⟨va_AO.of a2, va_AO.of a3, ?_⟩
  obtain ⟨D, hD⟩ := st_C hg
  obtain ⟨c0, h0⟩ := st_A1 (t := .int) (fun C h => by cases h) (hg _ wa_int)
  obtain ⟨c2, h2⟩ := st_A2 a2
  obtain ⟨c3, h3⟩ := st_A2 a3
  refine ⟨D, (fun k => [c0, c0, c2, c3].getD k c0), hD, ?_⟩
  intro k q hq
  have hk : k < 3 := (List.getElem?_eq_some_iff.mp hq).1
  have hk9 : k = 0 ∨ k = 1 ∨ k = 2 := by omega
  rcases hk9 with rfl | rfl | rfl <;> cases hq
  · exact h0
  · exact h2
  · exact h3
