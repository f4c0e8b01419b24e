/-! what the start gives: the tables of the class, its strings -/
theorem st_T0 {args : Array Value} {s : State} (hts : ∀ w ∈ lw_tbl, w.before args s = true) (hg : (Jvm.Cond.and given_1 narrow_1).before args s = true) {A : Nat → Prop} (hA : ∀ a : Nat, a < s.heap.size → ¬ A a) : ∃ a : Nat, va_Z RX5 "COIN" "[I" (.ref a) A s s.heap ∧ va_T .int a 4 (fun j => .int (iI (tbV 0 j))) A s s.heap := by
  have hs := flat_of_before _ hg
  obtain ⟨a, ha, hT⟩ := va_Tof (tm := .static RX5 "COIN" "[I") (ty := .int) (N := 4) (f := fun j => .int (iI (tbV 0 j))) (A := A) (by decide) (hs _ (by decide +kernel)) (va_eqt (hs _ (by decide +kernel))) (fun j hj => by
    have hj9 : j = 0 ∨ j = 1 ∨ j = 2 ∨ j = 3 := by omega
    rcases hj9 with rfl | rfl | rfl | rfl
    · exact va_eqt (hs _ (by decide +kernel))
    · exact va_eqt (hs _ (by decide +kernel))
    · exact va_eqt (hs _ (by decide +kernel))
    · exact va_eqt (hs _ (by decide +kernel))) hA
  exact ⟨a, va_Zof (hts _ (by decide +kernel)) (hts _ (by decide +kernel)) ha hA, hT⟩
theorem st_T1 {args : Array Value} {s : State} (hts : ∀ w ∈ lw_tbl, w.before args s = true) (hg : (Jvm.Cond.and given_1 narrow_1).before args s = true) {A : Nat → Prop} (hA : ∀ a : Nat, a < s.heap.size → ¬ A a) : ∃ a : Nat, va_Z RX5 "FIRST_SETTING" "[I" (.ref a) A s s.heap ∧ va_T .int a 5 (fun j => .int (iI (tbV 1 j))) A s s.heap := by
  have hs := flat_of_before _ hg
  obtain ⟨a, ha, hT⟩ := va_Tof (tm := .static RX5 "FIRST_SETTING" "[I") (ty := .int) (N := 5) (f := fun j => .int (iI (tbV 1 j))) (A := A) (by decide) (hs _ (by decide +kernel)) (va_eqt (hs _ (by decide +kernel))) (fun j hj => by
    have hj9 : j = 0 ∨ j = 1 ∨ j = 2 ∨ j = 3 ∨ j = 4 := by omega
    rcases hj9 with rfl | rfl | rfl | rfl | rfl
    · exact va_eqt (hs _ (by decide +kernel))
    · exact va_eqt (hs _ (by decide +kernel))
    · exact va_eqt (hs _ (by decide +kernel))
    · exact va_eqt (hs _ (by decide +kernel))
    · exact va_eqt (hs _ (by decide +kernel))) hA
  exact ⟨a, va_Zof (hts _ (by decide +kernel)) (hts _ (by decide +kernel)) ha hA, hT⟩
theorem st_T2 {args : Array Value} {s : State} (hts : ∀ w ∈ lw_tbl, w.before args s = true) (hg : (Jvm.Cond.and given_1 narrow_1).before args s = true) {A : Nat → Prop} (hA : ∀ a : Nat, a < s.heap.size → ¬ A a) : ∃ a : Nat, va_Z RX5 "LEAST_SETTING" "[I" (.ref a) A s s.heap ∧ va_T .int a 5 (fun j => .int (iI (tbV 2 j))) A s s.heap := by
  have hs := flat_of_before _ hg
  obtain ⟨a, ha, hT⟩ := va_Tof (tm := .static RX5 "LEAST_SETTING" "[I") (ty := .int) (N := 5) (f := fun j => .int (iI (tbV 2 j))) (A := A) (by decide) (hs _ (by decide +kernel)) (va_eqt (hs _ (by decide +kernel))) (fun j hj => by
    have hj9 : j = 0 ∨ j = 1 ∨ j = 2 ∨ j = 3 ∨ j = 4 := by omega
    rcases hj9 with rfl | rfl | rfl | rfl | rfl
    · exact va_eqt (hs _ (by decide +kernel))
    · exact va_eqt (hs _ (by decide +kernel))
    · exact va_eqt (hs _ (by decide +kernel))
    · exact va_eqt (hs _ (by decide +kernel))
    · exact va_eqt (hs _ (by decide +kernel))) hA
  exact ⟨a, va_Zof (hts _ (by decide +kernel)) (hts _ (by decide +kernel)) ha hA, hT⟩
theorem st_T3 {args : Array Value} {s : State} (hts : ∀ w ∈ lw_tbl, w.before args s = true) (hg : (Jvm.Cond.and given_1 narrow_1).before args s = true) {A : Nat → Prop} (hA : ∀ a : Nat, a < s.heap.size → ¬ A a) : ∃ a : Nat, va_Z RX5 "MOST_SETTING" "[I" (.ref a) A s s.heap ∧ va_T .int a 5 (fun j => .int (iI (tbV 3 j))) A s s.heap := by
  have hs := flat_of_before _ hg
  obtain ⟨a, ha, hT⟩ := va_Tof (tm := .static RX5 "MOST_SETTING" "[I") (ty := .int) (N := 5) (f := fun j => .int (iI (tbV 3 j))) (A := A) (by decide) (hs _ (by decide +kernel)) (va_eqt (hs _ (by decide +kernel))) (fun j hj => by
    have hj9 : j = 0 ∨ j = 1 ∨ j = 2 ∨ j = 3 ∨ j = 4 := by omega
    rcases hj9 with rfl | rfl | rfl | rfl | rfl
    · exact va_eqt (hs _ (by decide +kernel))
    · exact va_eqt (hs _ (by decide +kernel))
    · exact va_eqt (hs _ (by decide +kernel))
    · exact va_eqt (hs _ (by decide +kernel))
    · exact va_eqt (hs _ (by decide +kernel))) hA
  exact ⟨a, va_Zof (hts _ (by decide +kernel)) (hts _ (by decide +kernel)) ha hA, hT⟩
theorem st_T4 {args : Array Value} {s : State} (hts : ∀ w ∈ lw_tbl, w.before args s = true) (hg : (Jvm.Cond.and given_1 narrow_1).before args s = true) {A : Nat → Prop} (hA : ∀ a : Nat, a < s.heap.size → ¬ A a) : ∃ a : Nat, va_Z RX5 "SETTING_STEP" "[I" (.ref a) A s s.heap ∧ va_T .int a 5 (fun j => .int (iI (tbV 4 j))) A s s.heap := by
  have hs := flat_of_before _ hg
  obtain ⟨a, ha, hT⟩ := va_Tof (tm := .static RX5 "SETTING_STEP" "[I") (ty := .int) (N := 5) (f := fun j => .int (iI (tbV 4 j))) (A := A) (by decide) (hs _ (by decide +kernel)) (va_eqt (hs _ (by decide +kernel))) (fun j hj => by
    have hj9 : j = 0 ∨ j = 1 ∨ j = 2 ∨ j = 3 ∨ j = 4 := by omega
    rcases hj9 with rfl | rfl | rfl | rfl | rfl
    · exact va_eqt (hs _ (by decide +kernel))
    · exact va_eqt (hs _ (by decide +kernel))
    · exact va_eqt (hs _ (by decide +kernel))
    · exact va_eqt (hs _ (by decide +kernel))
    · exact va_eqt (hs _ (by decide +kernel))) hA
  exact ⟨a, va_Zof (hts _ (by decide +kernel)) (hts _ (by decide +kernel)) ha hA, hT⟩
