/-! an order that was read without an error -/
theorem st_ne {G : GG} {x y : Int} (h : ¬ (x = 7 ∧ y = 7)) : stG G x y = G x y := by
  unfold stG
  split
  · exact setG_ne h
  · rfl
theorem sg_ne {G : GG} {s x y : Int} (h : ¬ (x = 7 ∧ (y = 6 ∨ y = 7))) : sgG G s x y = G x y := by
  unfold sgG
  split
  · exact setG_ne (by omega)
  · exact st_ne (by omega)
theorem dg_ne {G : GG} {m x y : Int} (h : ¬ (x = 7 ∧ (y = 6 ∨ y = 7))) : dgG G m x y = G x y := by
  unfold dgG
  split
  · exact setG_ne (by omega)
  · exact st_ne (by omega)
theorem n1_ne {G : GG} {x y : Int} (h : ¬ (x = 7 ∧ (y = 6 ∨ y = 7))) : n1 G x y = G x y := by
  unfold n1
  split
  · exact (dg_ne h).trans (dg_ne h)
  · exact dg_ne h
theorem nu_ne {G : GG} {m x y : Int} (h : ¬ (x = 7 ∧ (y = 6 ∨ y = 7))) : nuG G m x y = G x y := by
  unfold nuG
  split
  · exact (setG_ne (by omega)).trans (n1_ne h)
  · exact n1_ne h
theorem co_ne {G : GG} {x y : Int} (h : ¬ (x = 7 ∧ (y = 6 ∨ y = 7)) ∧ x ≠ 9) : ∀ n : Nat, coG G n x y = G x y
  | 0 => rfl
  | n + 1 => by
    show setG (dgG (sgG (coG G n) 44) 9) 9 (n : Int) (dgV (sgG (coG G n) 44) 9) x y = G x y
    rw [setG_ne (by omega), dg_ne h.1, sg_ne h.1, co_ne h n]
theorem bA_congr {G H : GG} (h1 : H 7 1 = G 7 1) (h8 : ∀ y, H 8 y = G 8 y) (p : Int) : bA H p = bA G p := by
  unfold bA
  rw [h1, h8]
theorem sg_err {G : GG} {s : Int} (o : 0 ≤ G 7 6) (h : sgG G s 7 7 = -1) : G 7 7 = -1 ∧ bA G (G 7 6) = s := by
  unfold sgG at h
  split at h
  · assumption
  · unfold stG at h
    split at h
    · rw [setG_same] at h; omega
    · exact absurd h (by assumption)
theorem nu_err {G : GG} {m : Int} (o : 0 ≤ G 7 6) (h : nuG G m 7 7 = -1) (h2 : ¬ (48 ≤ bA (nuG G m) (nuG G m 7 6) ∧ bA (nuG G m) (nuG G m 7 6) ≤ 57)) : 1 ≤ nuV G ∧ nuV G ≤ m := by
  by_cases c : n1 G 7 7 = -1 ∧ ¬ (48 ≤ bA (n1 G) (n1 G 7 6) ∧ bA (n1 G) (n1 G 7 6) ≤ 57) ∧ (nuV G < 1 ∨ m < nuV G)
  · have e : nuG G m = setG (n1 G) 7 7 (G 7 6) := if_pos c
    rw [e, setG_same] at h
    omega
  · have e : nuG G m = n1 G := if_neg c
    rw [e] at h h2
    have : ¬ (nuV G < 1 ∨ m < nuV G) := fun q => c ⟨h, h2, q⟩
    omega
theorem co_9 {G : GG} : ∀ n : Nat, ∀ k : Int, 0 ≤ k → k < n → 0 ≤ coG G n 9 k ∧ coG G n 9 k ≤ 9
  | 0, k, h0, h1 => absurd h1 (by omega)
  | n + 1, k, h0, h1 => by
    show 0 ≤ setG (dgG (sgG (coG G n) 44) 9) 9 (n : Int) (dgV (sgG (coG G n) 44) 9) 9 k ∧ setG (dgG (sgG (coG G n) 44) 9) 9 (n : Int) (dgV (sgG (coG G n) 44) 9) 9 k ≤ 9
    by_cases z : k = (n : Int)
    · rw [z, setG_same]
      exact dgV_r (by decide)
    · rw [setG_ne (by omega), dg_ne (by omega), sg_ne (by omega)]
      exact co_9 n k h0 (by omega)
theorem roA_2 (G : GG) : roA G 7 2 = bA G (G 7 6) := by
  unfold roA
  rw [setG_ne (by omega), setG_same]
theorem roB_2 (G : GG) (m : Int) : roB G m 7 2 = bA G (G 7 6) := by
  unfold roB
  rw [setG_ne (by omega), dg_ne (by omega), roA_2]
theorem roB_3 (G : GG) {m : Int} (hm : 0 ≤ m) : 0 ≤ roB G m 7 3 ∧ roB G m 7 3 ≤ m := by
  unfold roB
  rw [setG_same]
  exact dgV_r hm
theorem roS_2 (G : GG) (m n : Int) : roS G m n 7 2 = bA G (G 7 6) := by
  unfold roS
  rw [setG_ne (by omega), nu_ne (by omega), sg_ne (by omega), roB_2]
theorem roS_3 (G : GG) {m : Int} (n : Int) (hm : 0 ≤ m) : 0 ≤ roS G m n 7 3 ∧ roS G m n 7 3 ≤ m := by
  unfold roS
  rw [setG_ne (by omega), nu_ne (by omega), sg_ne (by omega)]
  exact roB_3 G hm
theorem nu4 {A : GG} {n : Int} (o : 0 ≤ A 7 6) (e1 : setG (nuG A n) 7 4 (nuV A) 7 7 = -1) (e2 : bA (setG (nuG A n) 7 4 (nuV A)) (setG (nuG A n) 7 4 (nuV A) 7 6) = 59) : 1 ≤ setG (nuG A n) 7 4 (nuV A) 7 4 ∧ setG (nuG A n) 7 4 (nuV A) 7 4 ≤ n := by
  rw [setG_ne (by omega)] at e1
  rw [setG_ne (by omega), bA_congr (G := nuG A n) (setG_ne (by omega)) (fun y => setG_ne (by omega))] at e2
  rw [setG_same]
  exact nu_err o e1 (by omega)
theorem ordP_ro {G : GG} (o : okT G) (h : roV G ≠ 0) : ordP (roG G) := by
  unfold roV at h
  by_cases hp : G 7 6 < G 7 1 ∧ G 7 7 = -1
  case neg => rw [if_neg hp] at h; exact absurd rfl h
  rw [if_pos hp] at h
  have he : roG G 7 7 = -1 := Decidable.byContradiction fun q => h (b2i_0.mpr q)
  have hg : roG G = sgG (roD G) 59 := if_pos hp
  rw [hg] at he ⊢
  have oD := okT_roD o hp.1
  obtain ⟨e1, e2⟩ := sg_err oD.2.1.1 he
  have L := bA_r o (G 7 6)
  unfold ordP
  rw [sg_ne (by omega), sg_ne (by omega), sg_ne (by omega)]
  have f9 : ∀ k, sgG (roD G) 59 9 k = roD G 9 k := fun k => sg_ne (by omega)
  simp only [f9]
  by_cases l1 : bA G (G 7 6) = 115
  · have hd : roD G = roS G 7 20 := if_pos l1
    rw [hd] at e1 e2 ⊢
    have h2 := roS_2 G 7 20
    have h3 := roS_3 G (m := 7) 20 (by decide)
    have h4 : 1 ≤ roS G 7 20 7 4 ∧ roS G 7 20 7 4 ≤ 20 := nu4 (okT_sg (okT_roB o hp.1 7) (by decide)).2.1.1 e1 e2
    exact ⟨by omega, fun _ => ⟨h3, h4⟩, fun q => absurd q (by omega), fun q => absurd q (by omega), fun q => absurd q (by omega)⟩
  by_cases l2 : bA G (G 7 6) = 98
  · have hd : roD G = coG (roB G 7) 4 := by unfold roD; rw [if_neg l1, if_pos l2]
    rw [hd]
    have h2 : coG (roB G 7) 4 7 2 = bA G (G 7 6) := (co_ne (by omega) 4).trans (roB_2 G 7)
    have h3 : coG (roB G 7) 4 7 3 = roB G 7 7 3 := co_ne (by omega) 4
    have h4 := roB_3 G (m := 7) (by decide)
    exact ⟨by omega, fun q => absurd q (by omega), fun _ => ⟨by omega, fun k z0 z1 => co_9 4 k z0 (by omega)⟩, fun q => absurd q (by omega), fun q => absurd q (by omega)⟩
  by_cases l3 : bA G (G 7 6) = 102
  · have hd : roD G = roS G 3 30 := by unfold roD; rw [if_neg l1, if_neg l2, if_pos l3]
    rw [hd] at e1 e2 ⊢
    have h2 := roS_2 G 3 30
    have h3 := roS_3 G (m := 3) 30 (by decide)
    have h4 : 1 ≤ roS G 3 30 7 4 ∧ roS G 3 30 7 4 ≤ 30 := nu4 (okT_sg (okT_roB o hp.1 3) (by decide)).2.1.1 e1 e2
    exact ⟨by omega, fun q => absurd q (by omega), fun q => absurd q (by omega), fun _ => ⟨h3, h4⟩, fun q => absurd q (by omega)⟩
  by_cases l4 : bA G (G 7 6) = 104
  · have hd : roD G = roH G := by unfold roD; rw [if_neg l1, if_neg l2, if_neg l3, if_pos l4]
    rw [hd] at e1 e2 ⊢
    have h2 : roH G 7 2 = bA G (G 7 6) := by unfold roH; rw [setG_ne (by omega), nu_ne (by omega), roA_2]
    have h4 : 1 ≤ roH G 7 4 ∧ roH G 7 4 ≤ 48 := nu4 (okT_roA o hp.1).2.1.1 e1 e2
    exact ⟨by omega, fun q => absurd q (by omega), fun q => absurd q (by omega), fun q => absurd q (by omega), fun _ => h4⟩
  · have hd : roD G = roE G := by unfold roD; rw [if_neg l1, if_neg l2, if_neg l3, if_neg l4]
    rw [hd] at e1
    unfold roE at e1
    rw [setG_same] at e1
    have := o.2.1
    omega
