/-! the canonical world: 108 cells, what they hold is read off a number G page index -/
def setG (G : Int → Int → Int) (a b v : Int) : Int → Int → Int := fun x y => if x = a ∧ y = b then v else G x y
theorem setG_same (G : Int → Int → Int) (a b v : Int) : setG G a b v a b = v := by simp [setG]
theorem setG_ne {G : Int → Int → Int} {a b v x y : Int} (h : ¬ (x = a ∧ y = b)) : setG G a b v x y = G x y := by simp [setG, h]
def rowI (G : Int → Int → Int) (pg b : Int) (n : Nat) : Nat → Int32 := fun j => if j < n then iI (G pg (b + (j : Int))) else 0
def rowL (G : Int → Int → Int) (pg b : Int) (n : Nat) : Nat → Int64 := fun j => if j < n then iL (G pg (b + (j : Int))) else 0
def dB (x : Int) : UInt64 := UInt64.ofNat x.toNat
def fB (x : Int) : UInt32 := UInt32.ofNat x.toNat
def rowD (G : Int → Int → Int) (pg b : Int) (n : Nat) : Nat → UInt64 := fun j => if j < n then dB (G pg (b + (j : Int))) else 0
def rowR (ad : Int → Nat) (f : Int → Int) (n : Nat) : Nat → Option Nat := fun j => if j < n then some (ad (f (j : Int))) else none
def inI (C : Nat → ClassId) (G : Int → Int → Int) (pg b : Int) (n : Nat) : va_E := .inl (C 0, n, .inl (rowI G pg b n))
def coilCell (G : Int → Int → Int) (i b : Int) : va_E := .inr (0, [.int (iI (G i b)), .int (iI (G i (b + 1))), .int (iI (G i (b + 2))), .int (iI (G i (b + 3))), .int (iI (G i (b + 4))), .int (iI (G i (b + 5))), .int (iI (G i (b + 6))), .int (iI (G i (b + 7))), .int (iI (G i (b + 8))), .int (iI (G i (b + 9))), .float (fB (G i (b + 10))), .int (iI (G i (b + 11)))])
def machCell (ad : Int → Nat) (C : Nat → ClassId) (G : Int → Int → Int) (i r : Int) : va_E :=
  if r = 0 then .inr (1, [.ref (ad (17 * i + 1)), .ref (ad (17 * i + 2)), .ref (ad (17 * i + 3)), .int (iI (G i 13)), .int (iI (G i 10)), .int (iI (G i 12))])
  else if r = 1 then .inl (C 2, 8, .inr (.inr (.inr (.inr (rowR ad (fun j => 17 * i + 9 + j) 8)))))
  else if r = 2 then inI C G i 0 5
  else if r = 3 then .inr (4, [.ref (ad (17 * i + 4)), .ref (ad (17 * i + 5)), .ref (ad (17 * i + 6)), .int (iI (G i 9)), .int (iI (G i 14)), .int (iI (G i 311)), .int (iI (G i 11))])
  else if r = 4 then inI C G i 5 4
  else if r = 5 then inI C G i 111 200
  else if r = 6 then .inr (3, [.ref (ad (17 * i + 7)), .ref (ad (17 * i + 8))])
  else if r = 7 then inI C G i 312 4
  else if r = 8 then inI C G i 316 4
  else coilCell G i (15 + 12 * (r - 9))
def restCell (ad : Int → Nat) (C : Nat → ClassId) (G : Int → Int → Int) (k : Int) : va_E :=
  if k = 102 then .inr (5, [.ref (ad 0), .ref (ad 17), .ref (ad 103), .int (iI (G 6 0)), .ref (ad 104), .ref (ad 107)])
  else if k = 103 then .inl (C 3, 4, .inr (.inr (.inr (.inr (rowR ad (fun j => 17 * G 6 (10 + j)) 4)))))
  else if k = 104 then .inr (2, [.ref (ad 105), .int (iI (G 7 1)), .int (iI (G 7 2)), .int (iI (G 7 3)), .int (iI (G 7 4)), .ref (ad 106), .int (iI (G 7 6)), .int (iI (G 7 7))])
  else if k = 105 then inI C G 8 0 100
  else if k = 106 then inI C G 9 0 4
  else inI C G 10 0 4
def cellOf (ad : Int → Nat) (C : Nat → ClassId) (G : Int → Int → Int) (k : Int) : va_E := if k < 102 then machCell ad C G (k / 17) (k % 17) else restCell ad C G k
def cw (ad : Int → Nat) (C : Nat → ClassId) (G : Int → Int → Int) : va_W := (List.range 108).map (fun j : Nat => (ad (j : Int), cellOf ad C G (j : Int)))
def ownM (i y : Int) : Int :=
  if y < 0 then 999 else if y < 5 then 17 * i + 2 else if y < 9 then 17 * i + 4 else if y = 9 then 17 * i + 3 else if y = 10 then 17 * i else if y = 11 then 17 * i + 3 else if y < 14 then 17 * i else if y = 14 then 17 * i + 3 else if y < 111 then 17 * i + 9 + (y - 15) / 12 else if y < 311 then 17 * i + 5 else if y = 311 then 17 * i + 3 else if y < 316 then 17 * i + 7 else if y < 320 then 17 * i + 8 else 999
def ownr (x y : Int) : Int :=
  if x < 6 then ownM x y else if x = 6 then (if y = 0 then 102 else 103) else if x < 11 then 97 + x else 999
theorem cw_get {ad : Int → Nat} {C : Nat → ClassId} {G : Int → Int → Int} {k : Int} (h : 0 ≤ k ∧ k < 108) : (cw ad C G)[k.toNat]? = some (ad k, cellOf ad C G k) := by
  have h1 : k.toNat < 108 := by omega
  have h2 : ((k.toNat : Nat) : Int) = k := by omega
  simp [cw, h1, h2]
theorem rowI_congr {G G1 : Int → Int → Int} {pg b : Int} {n : Nat} (h : ∀ j : Int, 0 ≤ j → j < n → G1 pg (b + j) = G pg (b + j)) : rowI G1 pg b n = rowI G pg b n := by
  funext j
  by_cases hj : j < n
  · simp only [rowI, hj, if_true, h j (by omega) (by omega)]
  · simp only [rowI, hj, if_false]
theorem inI_congr {C : Nat → ClassId} {G G1 : Int → Int → Int} {pg b : Int} {n : Nat} (h : ∀ j : Int, 0 ≤ j → j < n → G1 pg (b + j) = G pg (b + j)) : inI C G1 pg b n = inI C G pg b n := by
  unfold inI; rw [rowI_congr h]
theorem mc_0 (ad : Int → Nat) (C : Nat → ClassId) (G : Int → Int → Int) (i : Int) : machCell ad C G i 0 = .inr (1, [.ref (ad (17 * i + 1)), .ref (ad (17 * i + 2)), .ref (ad (17 * i + 3)), .int (iI (G i 13)), .int (iI (G i 10)), .int (iI (G i 12))]) := rfl
theorem mc_1 (ad : Int → Nat) (C : Nat → ClassId) (G : Int → Int → Int) (i : Int) : machCell ad C G i 1 = .inl (C 2, 8, .inr (.inr (.inr (.inr (rowR ad (fun j => 17 * i + 9 + j) 8))))) := rfl
theorem mc_2 (ad : Int → Nat) (C : Nat → ClassId) (G : Int → Int → Int) (i : Int) : machCell ad C G i 2 = inI C G i 0 5 := rfl
theorem mc_3 (ad : Int → Nat) (C : Nat → ClassId) (G : Int → Int → Int) (i : Int) : machCell ad C G i 3 = .inr (4, [.ref (ad (17 * i + 4)), .ref (ad (17 * i + 5)), .ref (ad (17 * i + 6)), .int (iI (G i 9)), .int (iI (G i 14)), .int (iI (G i 311)), .int (iI (G i 11))]) := rfl
theorem mc_4 (ad : Int → Nat) (C : Nat → ClassId) (G : Int → Int → Int) (i : Int) : machCell ad C G i 4 = inI C G i 5 4 := rfl
theorem mc_5 (ad : Int → Nat) (C : Nat → ClassId) (G : Int → Int → Int) (i : Int) : machCell ad C G i 5 = inI C G i 111 200 := rfl
theorem mc_6 (ad : Int → Nat) (C : Nat → ClassId) (G : Int → Int → Int) (i : Int) : machCell ad C G i 6 = .inr (3, [.ref (ad (17 * i + 7)), .ref (ad (17 * i + 8))]) := rfl
theorem mc_7 (ad : Int → Nat) (C : Nat → ClassId) (G : Int → Int → Int) (i : Int) : machCell ad C G i 7 = inI C G i 312 4 := rfl
theorem mc_8 (ad : Int → Nat) (C : Nat → ClassId) (G : Int → Int → Int) (i : Int) : machCell ad C G i 8 = inI C G i 316 4 := rfl
theorem mc_9 (ad : Int → Nat) (C : Nat → ClassId) (G : Int → Int → Int) (i : Int) {r : Int} (h : 9 ≤ r) : machCell ad C G i r = coilCell G i (15 + 12 * (r - 9)) := by
  unfold machCell
  rw [if_neg (by omega), if_neg (by omega), if_neg (by omega), if_neg (by omega), if_neg (by omega), if_neg (by omega), if_neg (by omega), if_neg (by omega), if_neg (by omega)]
theorem machCell_congr {ad : Int → Nat} {C : Nat → ClassId} {G G1 : Int → Int → Int} {i r : Int} (hr : 0 ≤ r ∧ r < 17) (h : ∀ y, ownM i y = 17 * i + r → G1 i y = G i y) : machCell ad C G1 i r = machCell ad C G i r := by
  have hc : r = 0 ∨ r = 1 ∨ r = 2 ∨ r = 3 ∨ r = 4 ∨ r = 5 ∨ r = 6 ∨ r = 7 ∨ r = 8 ∨ 9 ≤ r := by omega
  rcases hc with rfl | rfl | rfl | rfl | rfl | rfl | rfl | rfl | rfl | hc
  · rw [mc_0, mc_0, h 13 (by unfold ownM; (repeat' split) <;> omega), h 10 (by unfold ownM; (repeat' split) <;> omega), h 12 (by unfold ownM; (repeat' split) <;> omega)]
  · rfl
  · exact inI_congr (fun j h0 h1 => h _ (by unfold ownM; (repeat' split) <;> omega))
  · rw [mc_3, mc_3, h 9 (by unfold ownM; (repeat' split) <;> omega), h 14 (by unfold ownM; (repeat' split) <;> omega), h 311 (by unfold ownM; (repeat' split) <;> omega), h 11 (by unfold ownM; (repeat' split) <;> omega)]
  · exact inI_congr (fun j h0 h1 => h _ (by unfold ownM; (repeat' split) <;> omega))
  · exact inI_congr (fun j h0 h1 => h _ (by unfold ownM; (repeat' split) <;> omega))
  · rfl
  · exact inI_congr (fun j h0 h1 => h _ (by unfold ownM; (repeat' split) <;> omega))
  · exact inI_congr (fun j h0 h1 => h _ (by unfold ownM; (repeat' split) <;> omega))
  · rw [mc_9 _ _ _ _ hc, mc_9 _ _ _ _ hc]
    have e : ∀ f : Int, 0 ≤ f → f < 12 → G1 i (15 + 12 * (r - 9) + f) = G i (15 + 12 * (r - 9) + f) := fun f h0 h1 => h _ (by unfold ownM; (repeat' split) <;> omega)
    have e0 := e 0 (by omega) (by omega)
    rw [Int.add_zero] at e0
    simp only [coilCell, e0, e 1 (by omega) (by omega), e 2 (by omega) (by omega), e 3 (by omega) (by omega), e 4 (by omega) (by omega), e 5 (by omega) (by omega), e 6 (by omega) (by omega), e 7 (by omega) (by omega), e 8 (by omega) (by omega), e 9 (by omega) (by omega), e 10 (by omega) (by omega), e 11 (by omega) (by omega)]
theorem cell_102 (ad : Int → Nat) (C : Nat → ClassId) (G : Int → Int → Int) : cellOf ad C G 102 = .inr (5, [.ref (ad 0), .ref (ad 17), .ref (ad 103), .int (iI (G 6 0)), .ref (ad 104), .ref (ad 107)]) := rfl
theorem cell_103 (ad : Int → Nat) (C : Nat → ClassId) (G : Int → Int → Int) : cellOf ad C G 103 = .inl (C 3, 4, .inr (.inr (.inr (.inr (rowR ad (fun j => 17 * G 6 (10 + j)) 4))))) := rfl
theorem cell_104 (ad : Int → Nat) (C : Nat → ClassId) (G : Int → Int → Int) : cellOf ad C G 104 = .inr (2, [.ref (ad 105), .int (iI (G 7 1)), .int (iI (G 7 2)), .int (iI (G 7 3)), .int (iI (G 7 4)), .ref (ad 106), .int (iI (G 7 6)), .int (iI (G 7 7))]) := rfl
theorem cell_105 (ad : Int → Nat) (C : Nat → ClassId) (G : Int → Int → Int) : cellOf ad C G 105 = inI C G 8 0 100 := rfl
theorem cell_106 (ad : Int → Nat) (C : Nat → ClassId) (G : Int → Int → Int) : cellOf ad C G 106 = inI C G 9 0 4 := rfl
theorem cell_107 (ad : Int → Nat) (C : Nat → ClassId) (G : Int → Int → Int) : cellOf ad C G 107 = inI C G 10 0 4 := rfl
theorem cell_mach (ad : Int → Nat) (C : Nat → ClassId) (G : Int → Int → Int) {i : Int} (h : 0 ≤ i ∧ i < 6) : cellOf ad C G (17 * i) = .inr (1, [.ref (ad (17 * i + 1)), .ref (ad (17 * i + 2)), .ref (ad (17 * i + 3)), .int (iI (G i 13)), .int (iI (G i 10)), .int (iI (G i 12))]) := by
  have e1 : (17 * i) / 17 = i := by omega
  have e2 : (17 * i) % 17 = 0 := by omega
  unfold cellOf
  rw [if_pos (by omega), e1, e2]
  rfl
theorem cell_coils (ad : Int → Nat) (C : Nat → ClassId) (G : Int → Int → Int) {i : Int} (h : 0 ≤ i ∧ i < 6) : cellOf ad C G (17 * i + 1) = .inl (C 2, 8, .inr (.inr (.inr (.inr (rowR ad (fun j => 17 * i + 9 + j) 8))))) := by
  have e1 : (17 * i + 1) / 17 = i := by omega
  have e2 : (17 * i + 1) % 17 = 1 := by omega
  unfold cellOf
  rw [if_pos (by omega), e1, e2]
  rfl
theorem cell_sets (ad : Int → Nat) (C : Nat → ClassId) (G : Int → Int → Int) {i : Int} (h : 0 ≤ i ∧ i < 6) : cellOf ad C G (17 * i + 2) = inI C G i 0 5 := by
  have e1 : (17 * i + 2) / 17 = i := by omega
  have e2 : (17 * i + 2) % 17 = 2 := by omega
  unfold cellOf
  rw [if_pos (by omega), e1, e2]
  rfl
theorem cell_till (ad : Int → Nat) (C : Nat → ClassId) (G : Int → Int → Int) {i : Int} (h : 0 ≤ i ∧ i < 6) : cellOf ad C G (17 * i + 3) = .inr (4, [.ref (ad (17 * i + 4)), .ref (ad (17 * i + 5)), .ref (ad (17 * i + 6)), .int (iI (G i 9)), .int (iI (G i 14)), .int (iI (G i 311)), .int (iI (G i 11))]) := by
  have e1 : (17 * i + 3) / 17 = i := by omega
  have e2 : (17 * i + 3) % 17 = 3 := by omega
  unfold cellOf
  rw [if_pos (by omega), e1, e2]
  rfl
theorem cell_tubes (ad : Int → Nat) (C : Nat → ClassId) (G : Int → Int → Int) {i : Int} (h : 0 ≤ i ∧ i < 6) : cellOf ad C G (17 * i + 4) = inI C G i 5 4 := by
  have e1 : (17 * i + 4) / 17 = i := by omega
  have e2 : (17 * i + 4) % 17 = 4 := by omega
  unfold cellOf
  rw [if_pos (by omega), e1, e2]
  rfl
theorem cell_prom (ad : Int → Nat) (C : Nat → ClassId) (G : Int → Int → Int) {i : Int} (h : 0 ≤ i ∧ i < 6) : cellOf ad C G (17 * i + 5) = inI C G i 111 200 := by
  have e1 : (17 * i + 5) / 17 = i := by omega
  have e2 : (17 * i + 5) % 17 = 5 := by omega
  unfold cellOf
  rw [if_pos (by omega), e1, e2]
  rfl
theorem cell_pay (ad : Int → Nat) (C : Nat → ClassId) (G : Int → Int → Int) {i : Int} (h : 0 ≤ i ∧ i < 6) : cellOf ad C G (17 * i + 6) = .inr (3, [.ref (ad (17 * i + 7)), .ref (ad (17 * i + 8))]) := by
  have e1 : (17 * i + 6) / 17 = i := by omega
  have e2 : (17 * i + 6) % 17 = 6 := by omega
  unfold cellOf
  rw [if_pos (by omega), e1, e2]
  rfl
theorem cell_held (ad : Int → Nat) (C : Nat → ClassId) (G : Int → Int → Int) {i : Int} (h : 0 ≤ i ∧ i < 6) : cellOf ad C G (17 * i + 7) = inI C G i 312 4 := by
  have e1 : (17 * i + 7) / 17 = i := by omega
  have e2 : (17 * i + 7) % 17 = 7 := by omega
  unfold cellOf
  rw [if_pos (by omega), e1, e2]
  rfl
theorem cell_taken (ad : Int → Nat) (C : Nat → ClassId) (G : Int → Int → Int) {i : Int} (h : 0 ≤ i ∧ i < 6) : cellOf ad C G (17 * i + 8) = inI C G i 316 4 := by
  have e1 : (17 * i + 8) / 17 = i := by omega
  have e2 : (17 * i + 8) % 17 = 8 := by omega
  unfold cellOf
  rw [if_pos (by omega), e1, e2]
  rfl
theorem cell_coil (ad : Int → Nat) (C : Nat → ClassId) (G : Int → Int → Int) {i c : Int} (h : 0 ≤ i ∧ i < 6) (hc : 0 ≤ c ∧ c < 8) : cellOf ad C G (17 * i + 9 + c) = coilCell G i (15 + 12 * c) := by
  have e1 : (17 * i + 9 + c) / 17 = i := by omega
  have e2 : (17 * i + 9 + c) % 17 = 9 + c := by omega
  unfold cellOf
  rw [if_pos (by omega), e1, e2, mc_9 _ _ _ _ (by omega), show (9 : Int) + c - 9 = c by omega]
theorem cellOf_congr {ad : Int → Nat} {C : Nat → ClassId} {G G1 : Int → Int → Int} {k : Int} (hk : 0 ≤ k ∧ k < 108) (h : ∀ x y, ownr x y = k → G1 x y = G x y) : cellOf ad C G1 k = cellOf ad C G k := by
  by_cases h1 : k < 102
  · unfold cellOf
    rw [if_pos h1, if_pos h1]
    refine machCell_congr (by omega) (fun y hy => h _ _ ?_)
    unfold ownr
    rw [if_pos (by omega), hy]
    omega
  · have hc : k = 102 ∨ k = 103 ∨ k = 104 ∨ k = 105 ∨ k = 106 ∨ k = 107 := by omega
    rcases hc with rfl | rfl | rfl | rfl | rfl | rfl
    · rw [cell_102, cell_102, h 6 0 rfl]
    · rw [cell_103, cell_103]
      have e : rowR ad (fun j => 17 * G1 6 (10 + j)) 4 = rowR ad (fun j => 17 * G 6 (10 + j)) 4 := by
        funext j
        by_cases hj : j < 4
        · simp only [rowR, hj, if_true]
          rw [h 6 (10 + (j : Int)) (by unfold ownr; rw [if_neg (by omega), if_pos rfl, if_neg (by omega)])]
        · simp only [rowR, hj, if_false]
      rw [e]
    · rw [cell_104, cell_104, h 7 1 rfl, h 7 2 rfl, h 7 3 rfl, h 7 4 rfl, h 7 6 rfl, h 7 7 rfl]
    · exact inI_congr (fun j h0 h1 => h _ _ rfl)
    · exact inI_congr (fun j h0 h1 => h _ _ rfl)
    · exact inI_congr (fun j h0 h1 => h _ _ rfl)
/-- a cell is written: what G says elsewhere stays -/
theorem cw_set {ad : Int → Nat} {C : Nat → ClassId} {G G1 : Int → Int → Int} {k : Int} {x : va_E} (hk : 0 ≤ k ∧ k < 108) (hx : cellOf ad C G1 k = x) (h : ∀ a b, ownr a b ≠ k → G1 a b = G a b) : (cw ad C G).set k.toNat (ad k, x) = cw ad C G1 := by
  apply List.ext_getElem?
  intro j
  by_cases hj : j = k.toNat
  · subst hj
    rw [List.getElem?_set_self (by simp [cw]; omega), cw_get hk, hx]
  · rw [List.getElem?_set_ne (fun e => hj e.symm)]
    by_cases h2 : j < 108
    · have e1 := cw_get (ad := ad) (C := C) (G := G) (k := (j : Int)) (by omega)
      have e2 := cw_get (ad := ad) (C := C) (G := G1) (k := (j : Int)) (by omega)
      rw [show ((j : Int)).toNat = j by omega] at e1 e2
      rw [e1, e2, cellOf_congr (by omega) (fun a b hab => h a b (fun e => hj (by omega)))]
    · have z1 : (cw ad C G)[j]? = none := by simp [cw]; omega
      have z2 : (cw ad C G1)[j]? = none := by simp [cw]; omega
      rw [z1, z2]
theorem rowI_get {G : Int → Int → Int} {pg b : Int} {n : Nat} {e : Int} (h : 0 ≤ e ∧ e < n) : rowI G pg b n e.toNat = iI (G pg (b + e)) := by
  have h1 : e.toNat < n := by omega
  have h2 : ((e.toNat : Nat) : Int) = e := by omega
  simp [rowI, h1, h2]
theorem rowI_upd {G : Int → Int → Int} {pg b : Int} {n : Nat} {e x : Int} (h : 0 ≤ e ∧ e < n) : upd (rowI G pg b n) e.toNat (iI x) = rowI (setG G pg (b + e) x) pg b n := by
  funext j
  by_cases hj : j = e.toNat
  · subst hj
    rw [rowI_get h, setG_same]
    simp [upd]
  · have h3 : ¬ (b + (j : Int) = b + e) := by omega
    simp only [upd, if_neg hj, rowI, setG]
    by_cases h4 : j < n
    · simp only [h4, if_true]
      rw [if_neg (fun q => h3 q.2)]
    · simp only [h4, if_false]
theorem rowL_upd {G : Int → Int → Int} {pg b : Int} {n : Nat} {e x : Int} (h : 0 ≤ e ∧ e < n) : vp_updL (rowL G pg b n) e.toNat (iL x) = rowL (setG G pg (b + e) x) pg b n := by
  funext j
  by_cases hj : j = e.toNat
  · subst hj
    have h1 : e.toNat < n := by omega
    have h2 : ((e.toNat : Nat) : Int) = e := by omega
    simp [rowL, vp_updL, h1, h2, setG]
  · have h3 : ¬ (b + (j : Int) = b + e) := by omega
    simp only [vp_updL, if_neg hj, rowL, setG]
    by_cases h4 : j < n
    · simp only [h4, if_true]
      rw [if_neg (fun q => h3 q.2)]
    · simp only [h4, if_false]
theorem rowD_upd {G : Int → Int → Int} {pg b : Int} {n : Nat} {e x : Int} (h : 0 ≤ e ∧ e < n) : vf_upd (rowD G pg b n) e.toNat (dB x) = rowD (setG G pg (b + e) x) pg b n := by
  funext j
  by_cases hj : j = e.toNat
  · subst hj
    have h1 : e.toNat < n := by omega
    have h2 : ((e.toNat : Nat) : Int) = e := by omega
    simp [rowD, vf_upd, h1, h2, setG]
  · have h3 : ¬ (b + (j : Int) = b + e) := by omega
    simp only [vf_upd, if_neg hj, rowD, setG]
    by_cases h4 : j < n
    · simp only [h4, if_true]
      rw [if_neg (fun q => h3 q.2)]
    · simp only [h4, if_false]
/-- a part of a page is copied -/
def cpG (G : Int → Int → Int) (p1 d1 n p0 d0 : Int) : Int → Int → Int := fun x y => if x = p1 ∧ d1 ≤ y ∧ y < d1 + n then G p0 (d0 + (y - d1)) else G x y
theorem rowI_cpy {G : Int → Int → Int} {p0 b0 p1 b1 sp dp n : Int} {n0 n1 : Nat} (h : 0 ≤ sp ∧ 0 ≤ dp ∧ 0 ≤ n ∧ sp + n ≤ n0 ∧ dp + n ≤ n1) : va_cpy (rowI G p0 b0 n0) (rowI G p1 b1 n1) sp.toNat dp.toNat n.toNat = rowI (cpG G p1 (b1 + dp) n p0 (b0 + sp)) p1 b1 n1 := by
  funext j
  by_cases hj : dp.toNat ≤ j ∧ j < dp.toNat + n.toNat
  · have e1 : j < n1 := by omega
    have e2 : sp.toNat + (j - dp.toNat) < n0 := by omega
    have e3 : b1 + dp ≤ b1 + (j : Int) ∧ b1 + (j : Int) < b1 + dp + n := by omega
    have e4 : b0 + ((sp.toNat + (j - dp.toNat) : Nat) : Int) = b0 + sp + (b1 + (j : Int) - (b1 + dp)) := by omega
    rw [va_cpy, if_pos hj]
    simp only [rowI, e1, e2, if_true, cpG]
    rw [if_pos ⟨trivial, e3⟩, e4]
  · rw [va_cpy, if_neg hj]
    simp only [rowI, cpG]
    by_cases h4 : j < n1
    · simp only [h4, if_true]
      rw [if_neg (fun q => hj ⟨by omega, by omega⟩)]
    · simp only [h4, if_false]
