/-! the world that the law starts from, in the canonical order -/
def iniM (y : Int) : Int := if y = 0 then 20 else if y = 1 then 5 else if y = 2 then 50 else if y = 3 then 100 else if y = 4 then 10 else if 5 ≤ y ∧ y ≤ 8 then 5 else 0
def iniG : GG := fun x y => if 0 ≤ x ∧ x < 6 then iniM y else if x = 6 then (if y < 10 then 0 else y - 8) else if x = 7 ∧ y = 7 then -1 else 0
theorem rowI_of {G : GG} {pg b : Int} {n : Nat} {g : Nat → Int32} (h1 : ∀ j : Nat, j < n → g j = iI (G pg (b + (j : Int)))) (h2 : ∀ j : Nat, n ≤ j → g j = 0) : g = rowI G pg b n := by
  funext j
  unfold rowI
  by_cases h : j < n
  · rw [if_pos h, h1 j h]
  · rw [if_neg h, h2 j (by omega)]
theorem rowI_z {G : GG} {pg b : Int} {n : Nat} (h1 : ∀ y : Int, b ≤ y → G pg y = 0) : (fun _ => iI 0 : Nat → Int32) = rowI G pg b n :=
  rowI_of (fun j hj => by rw [h1 _ (by omega)]) (fun j hj => rfl)
theorem rowR_8 {ad : Int → Nat} {g : Int → Int} {v : Nat → Nat} (h : ∀ j : Nat, j < 8 → v j = ad (g (j : Int))) : (va_up (va_up (va_up (va_up (va_up (va_up (va_up (va_up (fun _ => none) 0 (some (v 0))) 1 (some (v 1))) 2 (some (v 2))) 3 (some (v 3))) 4 (some (v 4))) 5 (some (v 5))) 6 (some (v 6))) 7 (some (v 7))) = rowR ad g 8 := by
  funext j
  by_cases hj : j < 8
  · have hj9 : j = 0 ∨ j = 1 ∨ j = 2 ∨ j = 3 ∨ j = 4 ∨ j = 5 ∨ j = 6 ∨ j = 7 := by omega
    rcases hj9 with rfl | rfl | rfl | rfl | rfl | rfl | rfl | rfl
    · exact congrArg some (h 0 (by decide))
    · exact congrArg some (h 1 (by decide))
    · exact congrArg some (h 2 (by decide))
    · exact congrArg some (h 3 (by decide))
    · exact congrArg some (h 4 (by decide))
    · exact congrArg some (h 5 (by decide))
    · exact congrArg some (h 6 (by decide))
    · exact congrArg some (h 7 (by decide))
  · unfold rowR va_up
    rw [if_neg (by omega), if_neg (by omega), if_neg (by omega), if_neg (by omega), if_neg (by omega), if_neg (by omega), if_neg (by omega), if_neg (by omega), if_neg (by omega)]
theorem rowR_4 {ad : Int → Nat} {g : Int → Int} {v : Nat → Nat} (h : ∀ j : Nat, j < 4 → v j = ad (g (j : Int))) : (va_up (va_up (va_up (va_up (fun _ => none) 0 (some (v 0))) 1 (some (v 1))) 2 (some (v 2))) 3 (some (v 3))) = rowR ad g 4 := by
  funext j
  by_cases hj : j < 4
  · have hj9 : j = 0 ∨ j = 1 ∨ j = 2 ∨ j = 3 := by omega
    rcases hj9 with rfl | rfl | rfl | rfl
    · exact congrArg some (h 0 (by decide))
    · exact congrArg some (h 1 (by decide))
    · exact congrArg some (h 2 (by decide))
    · exact congrArg some (h 3 (by decide))
  · unfold rowR va_up
    rw [if_neg (by omega), if_neg (by omega), if_neg (by omega), if_neg (by omega), if_neg (by omega)]
theorem rowI_set {G : GG} {i : Int} (hG : ∀ y : Int, 0 ≤ y → y < 111 + 200 → G i y = iniM y) : ((upd (upd (upd (upd (upd (fun _ => iI 0) 0 (iI 20)) 1 (iI 5)) 2 (iI 50)) 3 (iI 100)) 4 (iI 10)) : Nat → Int32) = rowI G i 0 5 := by
  refine rowI_of (fun j hj => ?_) (fun j hj => ?_)
  · rw [hG _ (by omega) (by omega)]
    by_cases h9 : j < 5
    · have hj9 : j = 0 ∨ j = 1 ∨ j = 2 ∨ j = 3 ∨ j = 4 := by omega
      rcases hj9 with rfl | rfl | rfl | rfl | rfl <;> rfl
    · exact absurd hj h9
  · unfold upd
    rw [if_neg (by omega), if_neg (by omega), if_neg (by omega), if_neg (by omega), if_neg (by omega)]
    rfl
theorem rowI_tub {G : GG} {i : Int} (hG : ∀ y : Int, 0 ≤ y → y < 111 + 200 → G i y = iniM y) : ((upd (upd (upd (upd (fun _ => iI 0) 0 (iI 5)) 1 (iI 5)) 2 (iI 5)) 3 (iI 5)) : Nat → Int32) = rowI G i 5 4 := by
  refine rowI_of (fun j hj => ?_) (fun j hj => ?_)
  · rw [hG _ (by omega) (by omega)]
    by_cases h9 : j < 4
    · have hj9 : j = 0 ∨ j = 1 ∨ j = 2 ∨ j = 3 := by omega
      rcases hj9 with rfl | rfl | rfl | rfl <;> rfl
    · exact absurd hj h9
  · unfold upd
    rw [if_neg (by omega), if_neg (by omega), if_neg (by omega), if_neg (by omega)]
    rfl
theorem iniM_z {y : Int} (h : 9 ≤ y) : iniM y = 0 := by
  unfold iniM
  rw [if_neg (by omega), if_neg (by omega), if_neg (by omega), if_neg (by omega), if_neg (by omega), if_neg (by omega)]
theorem rowI_mz {G : GG} {i b : Int} {n : Nat} (hG : ∀ y : Int, 0 ≤ y → y < 111 + 209 → G i y = iniM y) (hb : 9 ≤ b ∧ b + n ≤ 320) : (fun _ => iI 0 : Nat → Int32) = rowI G i b n :=
  rowI_of (fun j hj => by rw [hG _ (by omega) (by omega), iniM_z (by omega)]) (fun j hj => rfl)
theorem coil_z {G : GG} {i b : Int} (hb : 15 ≤ b ∧ b + 12 ≤ 111) (hG : ∀ y : Int, 0 ≤ y → y < 111 + 209 → G i y = iniM y) : coilCell G i b = .inr (0, [.int (iI 0), .int (iI 0), .int (iI 0), .int (iI 0), .int (iI 0), .int (iI 0), .int (iI 0), .int (iI 0), .int (iI 0), .int (iI 0), .float (fB 0), .int (iI 0)]) := by
  have e : ∀ y : Int, b ≤ y → y < b + 12 → G i y = 0 := fun y h1 h2 => by rw [hG y (by omega) (by omega), iniM_z (by omega)]
  unfold coilCell
  rw [e b (by omega) (by omega), e (b + 1) (by omega) (by omega), e (b + 2) (by omega) (by omega), e (b + 3) (by omega) (by omega), e (b + 4) (by omega) (by omega), e (b + 5) (by omega) (by omega), e (b + 6) (by omega) (by omega), e (b + 7) (by omega) (by omega), e (b + 8) (by omega) (by omega), e (b + 9) (by omega) (by omega), e (b + 10) (by omega) (by omega), e (b + 11) (by omega) (by omega)]
theorem mL_cw {ad : Int → Nat} {C : Nat → ClassId} {G : GG} {f : Nat → Nat} {i : Int} (hf : ∀ r : Nat, r < 17 → f r = ad (17 * i + (r : Int))) (hG : ∀ y : Int, 0 ≤ y → y < 111 + 209 → G i y = iniM y) : mL C f = (List.range 17).map (fun r : Nat => (ad (17 * i + (r : Int)), machCell ad C G i (r : Int))) := by
  have e0 : ad (17 * i + 0) = f 0 := (hf 0 (by decide)).symm
  have e1 : ad (17 * i + 1) = f 1 := (hf 1 (by decide)).symm
  have e2 : ad (17 * i + 2) = f 2 := (hf 2 (by decide)).symm
  have e3 : ad (17 * i + 3) = f 3 := (hf 3 (by decide)).symm
  have e4 : ad (17 * i + 4) = f 4 := (hf 4 (by decide)).symm
  have e5 : ad (17 * i + 5) = f 5 := (hf 5 (by decide)).symm
  have e6 : ad (17 * i + 6) = f 6 := (hf 6 (by decide)).symm
  have e7 : ad (17 * i + 7) = f 7 := (hf 7 (by decide)).symm
  have e8 : ad (17 * i + 8) = f 8 := (hf 8 (by decide)).symm
  have e9 : ad (17 * i + 9) = f 9 := (hf 9 (by decide)).symm
  have e10 : ad (17 * i + 10) = f 10 := (hf 10 (by decide)).symm
  have e11 : ad (17 * i + 11) = f 11 := (hf 11 (by decide)).symm
  have e12 : ad (17 * i + 12) = f 12 := (hf 12 (by decide)).symm
  have e13 : ad (17 * i + 13) = f 13 := (hf 13 (by decide)).symm
  have e14 : ad (17 * i + 14) = f 14 := (hf 14 (by decide)).symm
  have e15 : ad (17 * i + 15) = f 15 := (hf 15 (by decide)).symm
  have e16 : ad (17 * i + 16) = f 16 := (hf 16 (by decide)).symm
  have g9 : G i 9 = 0 := by rw [hG 9 (by decide) (by decide)]; rfl
  have g10 : G i 10 = 0 := by rw [hG 10 (by decide) (by decide)]; rfl
  have g11 : G i 11 = 0 := by rw [hG 11 (by decide) (by decide)]; rfl
  have g12 : G i 12 = 0 := by rw [hG 12 (by decide) (by decide)]; rfl
  have g13 : G i 13 = 0 := by rw [hG 13 (by decide) (by decide)]; rfl
  have g14 : G i 14 = 0 := by rw [hG 14 (by decide) (by decide)]; rfl
  have g311 : G i 311 = 0 := by rw [hG 311 (by decide) (by decide)]; rfl
  have c0 : machCell ad C G i 0 = .inr (1, [.ref (f 1), .ref (f 2), .ref (f 3), .int (iI 0), .int (iI 0), .int (iI 0)]) := by
    rw [mc_0, e1, e2, e3, g13, g10, g12]
  have c1 : machCell ad C G i 1 = .inl (C 2, 8, .inr (.inr (.inr (.inr (va_up (va_up (va_up (va_up (va_up (va_up (va_up (va_up (fun _ => none) 0 (some (f 9))) 1 (some (f 10))) 2 (some (f 11))) 3 (some (f 12))) 4 (some (f 13))) 5 (some (f 14))) 6 (some (f 15))) 7 (some (f 16))))))) := by
    rw [mc_1, ← rowR_8 (v := fun j => f (9 + j)) (fun j hj => by
      rw [hf (9 + j) (by omega)]
      exact congrArg ad (by omega))]
  have c2 : machCell ad C G i 2 = .inl (C 0, 5, .inl (upd (upd (upd (upd (upd (fun _ => iI 0) 0 (iI 20)) 1 (iI 5)) 2 (iI 50)) 3 (iI 100)) 4 (iI 10))) := by
    rw [mc_2, inI, ← rowI_set (fun y h1 h2 => hG y h1 (by omega))]
  have c3 : machCell ad C G i 3 = .inr (4, [.ref (f 4), .ref (f 5), .ref (f 6), .int (iI 0), .int (iI 0), .int (iI 0), .int (iI 0)]) := by
    rw [mc_3, e4, e5, e6, g9, g14, g311, g11]
  have c4 : machCell ad C G i 4 = .inl (C 0, 4, .inl (upd (upd (upd (upd (fun _ => iI 0) 0 (iI 5)) 1 (iI 5)) 2 (iI 5)) 3 (iI 5))) := by
    rw [mc_4, inI, ← rowI_tub (fun y h1 h2 => hG y h1 (by omega))]
  have c5 : machCell ad C G i 5 = .inl (C 0, 200, .inl (fun _ => iI 0)) := by
    rw [mc_5, inI, ← rowI_mz hG (by omega)]
  have c6 : machCell ad C G i 6 = .inr (3, [.ref (f 7), .ref (f 8)]) := by
    rw [mc_6, e7, e8]
  have c7 : machCell ad C G i 7 = .inl (C 0, 4, .inl (fun _ => iI 0)) := by
    rw [mc_7, inI, ← rowI_mz hG (by omega)]
  have c8 : machCell ad C G i 8 = .inl (C 0, 4, .inl (fun _ => iI 0)) := by
    rw [mc_8, inI, ← rowI_mz hG (by omega)]
  have c9 : machCell ad C G i 9 = .inr (0, [.int (iI 0), .int (iI 0), .int (iI 0), .int (iI 0), .int (iI 0), .int (iI 0), .int (iI 0), .int (iI 0), .int (iI 0), .int (iI 0), .float (fB 0), .int (iI 0)]) := by
    rw [mc_9 _ _ _ _ (by decide)]; exact coil_z (by decide) hG
  have c10 : machCell ad C G i 10 = .inr (0, [.int (iI 0), .int (iI 0), .int (iI 0), .int (iI 0), .int (iI 0), .int (iI 0), .int (iI 0), .int (iI 0), .int (iI 0), .int (iI 0), .float (fB 0), .int (iI 0)]) := by
    rw [mc_9 _ _ _ _ (by decide)]; exact coil_z (by decide) hG
  have c11 : machCell ad C G i 11 = .inr (0, [.int (iI 0), .int (iI 0), .int (iI 0), .int (iI 0), .int (iI 0), .int (iI 0), .int (iI 0), .int (iI 0), .int (iI 0), .int (iI 0), .float (fB 0), .int (iI 0)]) := by
    rw [mc_9 _ _ _ _ (by decide)]; exact coil_z (by decide) hG
  have c12 : machCell ad C G i 12 = .inr (0, [.int (iI 0), .int (iI 0), .int (iI 0), .int (iI 0), .int (iI 0), .int (iI 0), .int (iI 0), .int (iI 0), .int (iI 0), .int (iI 0), .float (fB 0), .int (iI 0)]) := by
    rw [mc_9 _ _ _ _ (by decide)]; exact coil_z (by decide) hG
  have c13 : machCell ad C G i 13 = .inr (0, [.int (iI 0), .int (iI 0), .int (iI 0), .int (iI 0), .int (iI 0), .int (iI 0), .int (iI 0), .int (iI 0), .int (iI 0), .int (iI 0), .float (fB 0), .int (iI 0)]) := by
    rw [mc_9 _ _ _ _ (by decide)]; exact coil_z (by decide) hG
  have c14 : machCell ad C G i 14 = .inr (0, [.int (iI 0), .int (iI 0), .int (iI 0), .int (iI 0), .int (iI 0), .int (iI 0), .int (iI 0), .int (iI 0), .int (iI 0), .int (iI 0), .float (fB 0), .int (iI 0)]) := by
    rw [mc_9 _ _ _ _ (by decide)]; exact coil_z (by decide) hG
  have c15 : machCell ad C G i 15 = .inr (0, [.int (iI 0), .int (iI 0), .int (iI 0), .int (iI 0), .int (iI 0), .int (iI 0), .int (iI 0), .int (iI 0), .int (iI 0), .int (iI 0), .float (fB 0), .int (iI 0)]) := by
    rw [mc_9 _ _ _ _ (by decide)]; exact coil_z (by decide) hG
  have c16 : machCell ad C G i 16 = .inr (0, [.int (iI 0), .int (iI 0), .int (iI 0), .int (iI 0), .int (iI 0), .int (iI 0), .int (iI 0), .int (iI 0), .int (iI 0), .int (iI 0), .float (fB 0), .int (iI 0)]) := by
    rw [mc_9 _ _ _ _ (by decide)]; exact coil_z (by decide) hG
  show _ = [(ad (17 * i + 0), machCell ad C G i 0), (ad (17 * i + 1), machCell ad C G i 1), (ad (17 * i + 2), machCell ad C G i 2), (ad (17 * i + 3), machCell ad C G i 3), (ad (17 * i + 4), machCell ad C G i 4), (ad (17 * i + 5), machCell ad C G i 5), (ad (17 * i + 6), machCell ad C G i 6), (ad (17 * i + 7), machCell ad C G i 7), (ad (17 * i + 8), machCell ad C G i 8), (ad (17 * i + 9), machCell ad C G i 9), (ad (17 * i + 10), machCell ad C G i 10), (ad (17 * i + 11), machCell ad C G i 11), (ad (17 * i + 12), machCell ad C G i 12), (ad (17 * i + 13), machCell ad C G i 13), (ad (17 * i + 14), machCell ad C G i 14), (ad (17 * i + 15), machCell ad C G i 15), (ad (17 * i + 16), machCell ad C G i 16)]
  rw [c0, c1, c2, c3, c4, c5, c6, c7, c8, c9, c10, c11, c12, c13, c14, c15, c16, e0, e1, e2, e3, e4, e5, e6, e7, e8, e9, e10, e11, e12, e13, e14, e15, e16]
  rfl
