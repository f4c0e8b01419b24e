theorem st_ex {args : Array Value} {s : State} {t : Term} {c : String} (h : (Cond.exactly t c).before args s = true) : ∃ a : Nat, t.eval args s none [] s = some (.ref a) := by
  have h1 : (Cond.exactly t c).holds args s none s [] = true := h
  simp only [Cond.holds, Cond.value] at h1
  cases he : t.eval args s none [] s with
  | none => simp [he] at h1
  | some v => cases hc : s.vm.findClass c <;> cases v <;> simp_all
theorem st_S {args : Array Value} {s : State} (hts : ∀ w ∈ lw_tbl, w.before args s = true) (hg : (Jvm.Cond.and given_1 narrow_1).before args s = true) : ∀ q ∈ strs, ∃ a : Nat, vk_R RX5 q.1 q.2 a s := by
  have hs := flat_of_before _ hg
  have m1 : ∀ q ∈ strs, Cond.stringRef RX5 q.1 q.2 ∈ lw_tbl := by decide +kernel
  intro q hq
  have h1 := hts _ (m1 q hq)
  have h2 : ∃ a : Nat, (Term.string RX5 q.1).eval args s none [] s = some (.ref a) := by
    unfold strs at hq
    simp only [List.mem_cons, List.mem_nil_iff, or_false] at hq
    rcases hq with rfl | rfl | rfl | rfl | rfl | rfl | rfl | rfl | rfl | rfl | rfl | rfl | rfl | rfl | rfl | rfl | rfl | rfl | rfl <;> exact st_ex (c := "java/lang/String") (hs _ (by decide +kernel))
  obtain ⟨a, ha⟩ := h2
  exact ⟨a, vk_R.of h1 ha⟩
theorem st_Z {args : Array Value} {s : State} (hts : ∀ w ∈ lw_tbl, w.before args s = true) (hg : (Jvm.Cond.and given_1 narrow_1).before args s = true) : ∃ T : Nat → Nat, hvZ T [] s := by
  have hs := flat_of_before _ hg
  have hA : ∀ a : Nat, a < s.heap.size → ¬ va_A [] s.heap.size a := fun a h => lw_apart h
  obtain ⟨t0, h0⟩ := st_T0 hts hg hA
  obtain ⟨t1, h1⟩ := st_T1 hts hg hA
  obtain ⟨t2, h2⟩ := st_T2 hts hg hA
  obtain ⟨t3, h3⟩ := st_T3 hts hg hA
  obtain ⟨t4, h4⟩ := st_T4 hts hg hA
  have hq : ∃ F : Nat → Nat, ∀ q ∈ strs, vk_R RX5 q.1 q.2 (F q.1) s := by
    have hex := st_S hts hg
    have hk : ∀ k : Nat, ∃ a : Nat, ∀ q ∈ strs, q.1 = k → vk_R RX5 q.1 q.2 a s := by
      intro k
      by_cases h : ∃ q ∈ strs, q.1 = k
      · obtain ⟨q, hq, hk⟩ := h
        obtain ⟨a, ha⟩ := hex q hq
        refine ⟨a, fun q2 hq2 hk2 => ?_⟩
        have hu : ∀ x ∈ strs, ∀ y ∈ strs, x.1 = y.1 → x = y := by decide +kernel
        rw [hu q2 hq2 q hq (hk2.trans hk.symm)]
        exact ha
      · exact ⟨0, fun q2 hq2 hk2 => absurd ⟨q2, hq2, hk2⟩ h⟩
    exact ⟨fun k => Classical.choose (hk k), fun q hq => Classical.choose_spec (hk q.1) q hq rfl⟩
  obtain ⟨F, hF⟩ := hq
  refine ⟨fun k => if k = 0 then t0 else if k = 1 then t1 else if k = 2 then t2 else if k = 3 then t3 else if k = 4 then t4 else F (k - 10), ⟨?_, ?_, ?_⟩, ?_, (st_K hts).1, (st_K hts).2.1, st_N hts hg⟩
  · intro t ht
    have ht9 : t = 0 ∨ t = 1 ∨ t = 2 ∨ t = 3 ∨ t = 4 := by omega
    rcases ht9 with rfl | rfl | rfl | rfl | rfl
    · exact h0
    · exact h1
    · exact h2
    · exact h3
    · exact h4
  · exact vx_Zqof (hts _ (by decide +kernel)) (hts _ (by decide +kernel)) (hs _ (by decide +kernel)) hA
  · exact vx_Zqof (hts _ (by decide +kernel)) (hts _ (by decide +kernel)) (hs _ (by decide +kernel)) hA
  · intro q hq
    show vk_R RX5 q.1 q.2 (if 10 + q.1 = 0 then _ else _) s
    rw [if_neg (by omega), if_neg (by omega), if_neg (by omega), if_neg (by omega), if_neg (by omega), show 10 + q.1 - 10 = q.1 from by omega]
    exact hF q hq
