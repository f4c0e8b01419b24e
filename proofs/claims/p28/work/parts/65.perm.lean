/-! a world's cells in another order -/
theorem va_D_nodup {A : Nat → Prop} {ws : va_W} (h : va_D A ws) : (ws.map Prod.fst).Nodup := by
  unfold List.Nodup
  rw [List.pairwise_iff_getElem]
  intro i j hi hj hij he
  rw [List.getElem_map, List.getElem_map] at he
  rw [List.length_map] at hi hj
  have := h.1 i j ws[i] ws[j] (List.getElem?_eq_getElem hi) (List.getElem?_eq_getElem hj) he
  omega
theorem va_D_of {A : Nat → Prop} {ws : va_W} (h1 : (ws.map Prod.fst).Nodup) (h2 : ∀ q ∈ ws, A q.1) : va_D A ws := by
  refine ⟨fun i j p q hi hj he => ?_, fun k q hk => h2 q (List.mem_of_getElem? hk)⟩
  unfold List.Nodup at h1
  rw [List.pairwise_iff_getElem] at h1
  obtain ⟨hi1, hi2⟩ := List.getElem?_eq_some_iff.mp hi
  obtain ⟨hj1, hj2⟩ := List.getElem?_eq_some_iff.mp hj
  rcases Nat.lt_trichotomy i j with hh | hh | hh
  · exact absurd (by rw [List.getElem_map, List.getElem_map, hi2, hj2]; exact he) (h1 i j (by rw [List.length_map]; exact hi1) (by rw [List.length_map]; exact hj1) hh)
  · exact hh
  · exact absurd (by rw [List.getElem_map, List.getElem_map, hi2, hj2]; exact he.symm) (h1 j i (by rw [List.length_map]; exact hj1) (by rw [List.length_map]; exact hi1) hh)
theorem aw_perm {l : Launch} {own nm : String} {cc : ByteArray} {nL : Nat} {ret : Option FieldType} {X : Code → Prop} {R : Room} {E : List Frame → Array Value → State → State → Prop} {D : va_G} {ty : List (ClassId × FieldType)} {Z : State → Prop} {w0 : va_W} {pc : Nat} {lv : List (Nat × Value)} {st : List Value} {ws ws' : va_W} {k n : Nat} (hp : ws.Perm ws')
    (kk : AW l own nm cc nL ret X R E D ty Z w0 pc lv st ws' k n) : AW l own nm cc nL ret X R E D ty Z w0 pc lv st ws k n := by
  intro p e s m args below meth c hC hK hZ H locs ls hP hD hS hl
  refine kk p e s m args below meth c hC hK hZ H locs ls ?_ ?_ hS hl
  · intro j q hj
    obtain ⟨i, hi⟩ := List.getElem?_of_mem (hp.mem_iff.mpr (List.mem_of_getElem? hj))
    exact hP i q hi
  · refine va_D_of ((hp.map Prod.fst).nodup_iff.mp (va_D_nodup hD)) (fun q hq => ?_)
    obtain ⟨i, hi⟩ := List.getElem?_of_mem (hp.mem_iff.mpr hq)
    exact hD.2 i q hi
theorem pm_sw (x y z : va_W) : (x ++ (y ++ z)).Perm (y ++ (x ++ z)) := by
  rw [← List.append_assoc, ← List.append_assoc]
  exact List.perm_append_comm.append_right z
theorem pm_all (P A B M C1 D1 E1 F1 S : va_W) : (P ++ (A ++ (B ++ (M ++ (C1 ++ (D1 ++ (E1 ++ (F1 ++ S)))))))).Perm (A ++ (B ++ (C1 ++ (D1 ++ (E1 ++ (F1 ++ (P ++ (M ++ S)))))))) := by
  have hM : (M ++ (C1 ++ (D1 ++ (E1 ++ (F1 ++ S))))).Perm (C1 ++ (D1 ++ (E1 ++ (F1 ++ (M ++ S))))) :=
    (pm_sw M C1 _).trans (((pm_sw M D1 _).trans (((pm_sw M E1 _).trans ((pm_sw M F1 _).append_left E1)).append_left D1)).append_left C1)
  have hQ : ∀ S9 : va_W, (P ++ (C1 ++ (D1 ++ (E1 ++ (F1 ++ S9))))).Perm (C1 ++ (D1 ++ (E1 ++ (F1 ++ (P ++ S9))))) := fun S9 =>
    (pm_sw P C1 _).trans (((pm_sw P D1 _).trans (((pm_sw P E1 _).trans ((pm_sw P F1 _).append_left E1)).append_left D1)).append_left C1)
  exact (pm_sw P A _).trans (((pm_sw P B _).trans (((hM.append_left P).trans (hQ _)).append_left B)).append_left A)
theorem cw_blk (ad : Int → Nat) (C : Nat → ClassId) (G : GG) (i : Int) (hi : 0 ≤ i ∧ i < 6) : (List.range 17).map (fun r : Nat => (ad (17 * i + (r : Int)), cellOf ad C G (17 * i + (r : Int)))) = (List.range 17).map (fun r : Nat => (ad (17 * i + (r : Int)), machCell ad C G i (r : Int))) := by
  refine List.map_congr_left (fun r hr => ?_)
  have h17 : r < 17 := List.mem_range.mp hr
  unfold cellOf
  rw [if_pos (by omega), show (17 * i + (r : Int)) / 17 = i from by omega, show (17 * i + (r : Int)) % 17 = (r : Int) from by omega]
theorem cw_split (ad : Int → Nat) (C : Nat → ClassId) (G : GG) : cw ad C G = (List.range 17).map (fun r : Nat => (ad (17 * 0 + (r : Int)), machCell ad C G 0 (r : Int))) ++ ((List.range 17).map (fun r : Nat => (ad (17 * 1 + (r : Int)), machCell ad C G 1 (r : Int))) ++ ((List.range 17).map (fun r : Nat => (ad (17 * 2 + (r : Int)), machCell ad C G 2 (r : Int))) ++ ((List.range 17).map (fun r : Nat => (ad (17 * 3 + (r : Int)), machCell ad C G 3 (r : Int))) ++ ((List.range 17).map (fun r : Nat => (ad (17 * 4 + (r : Int)), machCell ad C G 4 (r : Int))) ++ ((List.range 17).map (fun r : Nat => (ad (17 * 5 + (r : Int)), machCell ad C G 5 (r : Int))) ++ (List.range 6).map (fun r : Nat => (ad (102 + (r : Int)), cellOf ad C G (102 + (r : Int))))))))) := by
  rw [← cw_blk ad C G 0 (by decide), ← cw_blk ad C G 1 (by decide), ← cw_blk ad C G 2 (by decide), ← cw_blk ad C G 3 (by decide), ← cw_blk ad C G 4 (by decide), ← cw_blk ad C G 5 (by decide)]
  rfl
theorem cw_ini (C : Nat → ClassId) (f0 f1 f2 f3 f4 f5 : Nat → Nat) (c b5 b6 e7 e8 b9 : Nat) : ∃ ad : Int → Nat, ad 102 = c ∧ List.Perm (([(c, .inr (5, [.ref (f0 0), .ref (f1 0), .ref b5, .int (iI 0), .ref b6, .ref b9]))] : va_W) ++ (mL C f0 ++ (mL C f1 ++ (([(b5, .inl (C 3, 4, .inr (.inr (.inr (.inr (va_up (va_up (va_up (va_up (fun _ => none) 0 (some (f2 0))) 1 (some (f3 0))) 2 (some (f4 0))) 3 (some (f5 0)))))))), (b6, .inr (2, [.ref e7, .int (iI 0), .int (iI 0), .int (iI 0), .int (iI 0), .ref e8, .int (iI 0), .int (iI (-1))])), (e7, .inl (C 0, 100, .inl (fun _ => iI 0))), (e8, .inl (C 0, 4, .inl (fun _ => iI 0))), (b9, .inl (C 0, 4, .inl (fun _ => iI 0)))] : va_W) ++ (mL C f2 ++ (mL C f3 ++ (mL C f4 ++ (mL C f5 ++ ([] : va_W))))))))) (cw ad C iniG) := by
  have hex : ∃ ad : Int → Nat, ad = (fun k : Int => if k < 17 then f0 k.toNat else if k < 34 then f1 (k - 17).toNat else if k < 51 then f2 (k - 34).toNat else if k < 68 then f3 (k - 51).toNat else if k < 85 then f4 (k - 68).toNat else if k < 102 then f5 (k - 85).toNat else ([c, b5, b6, e7, e8, b9] : List Nat).getD (k - 102).toNat 0) := ⟨_, rfl⟩
  obtain ⟨ad, had⟩ := hex
  have h0 : ad 0 = f0 0 := by rw [had]; rfl
  have h17 : ad 17 = f1 0 := by rw [had]; rfl
  have h34 : ad 34 = f2 0 := by rw [had]; rfl
  have h51 : ad 51 = f3 0 := by rw [had]; rfl
  have h68 : ad 68 = f4 0 := by rw [had]; rfl
  have h85 : ad 85 = f5 0 := by rw [had]; rfl
  have h102 : ad 102 = c := by rw [had]; rfl
  have h103 : ad 103 = b5 := by rw [had]; rfl
  have h104 : ad 104 = b6 := by rw [had]; rfl
  have h105 : ad 105 = e7 := by rw [had]; rfl
  have h106 : ad 106 = e8 := by rw [had]; rfl
  have h107 : ad 107 = b9 := by rw [had]; rfl
  have c102 : cellOf ad C iniG 102 = .inr (5, [.ref (f0 0), .ref (f1 0), .ref b5, .int (iI 0), .ref b6, .ref b9]) := by
    rw [cell_102, h0, h17, h103, h104, h107]; rfl
  have c103 : cellOf ad C iniG 103 = .inl (C 3, 4, .inr (.inr (.inr (.inr (va_up (va_up (va_up (va_up (fun _ => none) 0 (some (f2 0))) 1 (some (f3 0))) 2 (some (f4 0))) 3 (some (f5 0))))))) := by
    rw [cell_103, ← rowR_4 (v := fun j => if j = 0 then f2 0 else if j = 1 then f3 0 else if j = 2 then f4 0 else f5 0) (fun j hj => by
      have hj9 : j = 0 ∨ j = 1 ∨ j = 2 ∨ j = 3 := by omega
      rcases hj9 with rfl | rfl | rfl | rfl
      · exact h34.symm
      · exact h51.symm
      · exact h68.symm
      · exact h85.symm)]
    rfl
  have c104 : cellOf ad C iniG 104 = .inr (2, [.ref e7, .int (iI 0), .int (iI 0), .int (iI 0), .int (iI 0), .ref e8, .int (iI 0), .int (iI (-1))]) := by
    rw [cell_104, h105, h106]; rfl
  have c105 : cellOf ad C iniG 105 = .inl (C 0, 100, .inl (fun _ => iI 0)) := by
    rw [cell_105, inI, ← rowI_z (fun y hy => rfl)]
  have c106 : cellOf ad C iniG 106 = .inl (C 0, 4, .inl (fun _ => iI 0)) := by
    rw [cell_106, inI, ← rowI_z (fun y hy => rfl)]
  have c107 : cellOf ad C iniG 107 = .inl (C 0, 4, .inl (fun _ => iI 0)) := by
    rw [cell_107, inI, ← rowI_z (fun y hy => rfl)]
  have p0 : mL C f0 = (List.range 17).map (fun r : Nat => (ad (17 * 0 + (r : Int)), machCell ad C iniG 0 (r : Int))) := mL_cw (fun r hr => by
      rw [had]
      show f0 r = if _ then _ else _
      (repeat' split) <;> first | omega | exact congrArg f0 (by omega)) (fun y h1 h2 => rfl)
  have p1 : mL C f1 = (List.range 17).map (fun r : Nat => (ad (17 * 1 + (r : Int)), machCell ad C iniG 1 (r : Int))) := mL_cw (fun r hr => by
      rw [had]
      show f1 r = if _ then _ else _
      (repeat' split) <;> first | omega | exact congrArg f1 (by omega)) (fun y h1 h2 => rfl)
  have p2 : mL C f2 = (List.range 17).map (fun r : Nat => (ad (17 * 2 + (r : Int)), machCell ad C iniG 2 (r : Int))) := mL_cw (fun r hr => by
      rw [had]
      show f2 r = if _ then _ else _
      (repeat' split) <;> first | omega | exact congrArg f2 (by omega)) (fun y h1 h2 => rfl)
  have p3 : mL C f3 = (List.range 17).map (fun r : Nat => (ad (17 * 3 + (r : Int)), machCell ad C iniG 3 (r : Int))) := mL_cw (fun r hr => by
      rw [had]
      show f3 r = if _ then _ else _
      (repeat' split) <;> first | omega | exact congrArg f3 (by omega)) (fun y h1 h2 => rfl)
  have p4 : mL C f4 = (List.range 17).map (fun r : Nat => (ad (17 * 4 + (r : Int)), machCell ad C iniG 4 (r : Int))) := mL_cw (fun r hr => by
      rw [had]
      show f4 r = if _ then _ else _
      (repeat' split) <;> first | omega | exact congrArg f4 (by omega)) (fun y h1 h2 => rfl)
  have p5 : mL C f5 = (List.range 17).map (fun r : Nat => (ad (17 * 5 + (r : Int)), machCell ad C iniG 5 (r : Int))) := mL_cw (fun r hr => by
      rw [had]
      show f5 r = if _ then _ else _
      (repeat' split) <;> first | omega | exact congrArg f5 (by omega)) (fun y h1 h2 => rfl)
  refine ⟨ad, h102, (pm_all _ _ _ _ _ _ _ _ _).trans (List.Perm.of_eq ?_)⟩
  rw [cw_split, ← p0, ← p1, ← p2, ← p3, ← p4, ← p5]
  refine congrArg (fun x => mL C f0 ++ (mL C f1 ++ (mL C f2 ++ (mL C f3 ++ (mL C f4 ++ (mL C f5 ++ x)))))) ?_
  show _ = [(ad 102, cellOf ad C iniG 102), (ad 103, cellOf ad C iniG 103), (ad 104, cellOf ad C iniG 104), (ad 105, cellOf ad C iniG 105), (ad 106, cellOf ad C iniG 106), (ad 107, cellOf ad C iniG 107)]
  rw [c102, c103, c104, c105, c106, c107, h102, h103, h104, h105, h106, h107]
  rfl
