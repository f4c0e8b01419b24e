/-! an order that was read without an error -/
theorem st_ne {G : GG} {x y : Int} (h : ¬ (x = 7 ∧ y = 7)) : stG G x y = G x y := by
  unfold stG
  split
  · exact setG_ne h
  · rfl
theorem sg_ne {G : GG} {s x y : Int} (h : ¬ (x = 7 ∧ (y = 6 ∨ y = 7))) : sgG G s x y = G x y := by
  unfold sgG
  split
  · exact setG_ne (by omega)
  · exact st_ne (by omega)
theorem dg_ne {G : GG} {m x y : Int} (h : ¬ (x = 7 ∧ (y = 6 ∨ y = 7))) : dgG G m x y = G x y := by
  unfold dgG
  split
  · exact setG_ne (by omega)
  · exact st_ne (by omega)
theorem n1_ne {G : GG} {x y : Int} (h : ¬ (x = 7 ∧ (y = 6 ∨ y = 7))) : n1 G x y = G x y := by
  unfold n1
  split
  · exact (dg_ne h).trans (dg_ne h)
  · exact dg_ne h
theorem nu_ne {G : GG} {m x y : Int} (h : ¬ (x = 7 ∧ (y = 6 ∨ y = 7))) : nuG G m x y = G x y := by
  unfold nuG
  split
  · exact (setG_ne (by omega)).trans (n1_ne h)
  · exact n1_ne h
theorem co_ne {G : GG} {x y : Int} (h : ¬ (x = 7 ∧ (y = 6 ∨ y = 7)) ∧ x ≠ 9) : ∀ n : Nat, coG G n x y = G x y
  | 0 => rfl
  | n + 1 => by
    show setG (dgG (sgG (coG G n) 44) 9) 9 (n : Int) (dgV (sgG (coG G n) 44) 9) x y = G x y
    rw [setG_ne (by omega), dg_ne h.1, sg_ne h.1, co_ne h n]
theorem bA_congr {G H : GG} (h1 : H 7 1 = G 7 1) (h8 : ∀ y, H 8 y = G 8 y) (p : Int) : bA H p = bA G p := by
  unfold bA
  rw [h1, h8]
theorem sg_err {G : GG} {s : Int} (o : 0 ≤ G 7 6) (h : sgG G s 7 7 = -1) : G 7 7 = -1 ∧ bA G (G 7 6) = s := by
  unfold sgG at h
  split at h
  · assumption
  · unfold stG at h
    split at h
    · rw [setG_same] at h; omega
    · exact absurd h (by assumption)
theorem nu_err {G : GG} {m : Int} (o : 0 ≤ G 7 6) (h : nuG G m 7 7 = -1) (h2 : ¬ (48 ≤ bA (nuG G m) (nuG G m 7 6) ∧ bA (nuG G m) (nuG G m 7 6) ≤ 57)) : 1 ≤ nuV G ∧ nuV G ≤ m := by
  by_cases c : n1 G 7 7 = -1 ∧ ¬ (48 ≤ bA (n1 G) (n1 G 7 6) ∧ bA (n1 G) (n1 G 7 6) ≤ 57) ∧ (nuV G < 1 ∨ m < nuV G)
  · have e : nuG G m = setG (n1 G) 7 7 (G 7 6) := if_pos c
    rw [e, setG_same] at h
    omega
  · have e : nuG G m = n1 G := if_neg c
    rw [e] at h h2
    have : ¬ (nuV G < 1 ∨ m < nuV G) := fun q => c ⟨h, h2, q⟩
    omega
theorem co_9 {G : GG} : ∀ n : Nat, ∀ k : Int, 0 ≤ k → k < n → 0 ≤ coG G n 9 k ∧ coG G n 9 k ≤ 9
  | 0, k, h0, h1 => absurd h1 (by omega)
  | n + 1, k, h0, h1 => by
    show 0 ≤ setG (dgG (sgG (coG G n) 44) 9) 9 (n : Int) (dgV (sgG (coG G n) 44) 9) 9 k ∧ setG (dgG (sgG (coG G n) 44) 9) 9 (n : Int) (dgV (sgG (coG G n) 44) 9) 9 k ≤ 9
    by_cases z : k = (n : Int)
    · rw [z, setG_same]
      exact dgV_r (by decide)
    · rw [setG_ne (by omega), dg_ne (by omega), sg_ne (by omega)]
      exact co_9 n k h0 (by omega)
