/-! what always holds of promises, and that calls keep it -/
theorem sumQ_split (q : Int → Int) (a : Nat) : ∀ b : Nat, sumQ q (a + b) = sumQ q a + sumQ (fun m => q ((a : Int) + m)) b
  | 0 => by show sumQ q a = sumQ q a + 0; omega
  | b + 1 => by
    have h := sumQ_split q a b
    show sumQ q (a + b) + q ((a + b : Nat) : Int) = sumQ q a + (sumQ (fun m => q ((a : Int) + m)) b + q ((a : Int) + (b : Int)))
    rw [h, show ((a + b : Nat) : Int) = (a : Int) + (b : Int) by omega]
    omega
theorem sumQ_eq {p q : Int → Int} : ∀ n : Nat, (∀ m : Int, 0 ≤ m → m < n → p m = q m) → sumQ p n = sumQ q n
  | 0, _ => rfl
  | n + 1, h => by
    show sumQ p n + p n = sumQ q n + q n
    rw [sumQ_eq n (fun m z0 z1 => h m z0 (by omega)), h n (by omega) (by omega)]
theorem sumQ_ge {q : Int → Int} {k : Int} : ∀ n : Nat, (∀ m : Int, 0 ≤ m → m < n → k ≤ q m) → k * n ≤ sumQ q n
  | 0, _ => by show k * ((0 : Nat) : Int) ≤ 0; simp
  | n + 1, h => by
    have h1 := sumQ_ge (q := q) (k := k) n (fun m z0 z1 => h m z0 (by omega))
    have h2 := h n (by omega) (by omega)
    show k * ((n + 1 : Nat) : Int) ≤ sumQ q n + q n
    have e : k * ((n + 1 : Nat) : Int) = k * (n : Int) + k := by rw [show ((n + 1 : Nat) : Int) = (n : Int) + 1 by omega, Int.mul_add, Int.mul_one]
    omega
/-- the promises of a page: their sum is told, each is 5 at least -/
def okR (G : GG) (i : Int) : Prop := (∀ m : Int, 0 ≤ m → m < G i 14 → 5 ≤ G i (111 + m) ∧ G i (111 + m) % 5 = 0) ∧ G i 311 = sumQ (prm G i) (G i 14).toNat ∧ G i 311 ≤ 1000
theorem okR_5 {G : GG} {i : Int} (h0 : 0 ≤ G i 14) (o : okR G i) : 5 * G i 14 ≤ G i 311 := by
  have h := sumQ_ge (q := prm G i) (k := 5) (G i 14).toNat (fun m z0 z1 => (o.1 m z0 (by omega)).1)
  rw [o.2.1]
  omega
theorem okR_keep {G G1 : GG} {i : Int} {r : Int × Int × Int × Int × Int} (h0 : 0 ≤ r.1 ∧ r.1 ≤ G i 14) (o : okR G i) (h : keepP G i r G1) : okR G1 i := by
  obtain ⟨-, -, -, -, e14, e311, -, ep, -⟩ := h
  obtain ⟨o1, o2, o3⟩ := o
  obtain ⟨k, hk⟩ : ∃ k : Nat, r.1 = k := ⟨r.1.toNat, by omega⟩
  rw [hk] at e14 e311 ep h0
  have hs := sumQ_split (prm G i) k (G i 14 - k).toNat
  rw [show k + (G i 14 - (k : Int)).toNat = (G i 14).toNat by omega] at hs
  have hg := sumQ_ge (q := prm G i) (k := 0) k (fun m z0 z1 => by have := (o1 m z0 (by omega)).1; show 0 ≤ G i (111 + m); omega)
  rw [show ((k : Int)).toNat = k by omega] at e311
  refine ⟨fun m z0 z1 => ?_, ?_, ?_⟩
  · rw [e14] at z1
    rw [ep m z0 z1, show (111 : Int) + k + m = 111 + (k + m) by omega]
    exact o1 _ (by omega) (by omega)
  · rw [e311, e14, o2, hs]
    have e : sumQ (prm G1 i) (G i 14 - (k : Int)).toNat = sumQ (fun m => prm G i ((k : Int) + m)) (G i 14 - (k : Int)).toNat := sumQ_eq _ (fun m z0 z1 => by
      show G1 i (111 + m) = G i (111 + ((k : Int) + m))
      rw [ep m z0 (by omega), show (111 : Int) + k + m = 111 + (k + m) by omega])
    rw [e]
    omega
  · omega
theorem okR_sale {G : GG} {i c pg : Int} {H : GG} (h0 : 0 ≤ G i 14) (o : okR G i) (hl : G i 3 ≤ 1000) (hp : G i (15 + 12 * c + 2) % 5 = 0) (ht : ∀ k : Int, 0 ≤ k → k < 4 → 0 ≤ G i (5 + k)) (hco : ∀ k : Int, 0 ≤ k → k < 4 → 0 ≤ G pg k ∧ G pg k ≤ 9) (hcan : canSellP G i c pg) (h : saleP G i c pg H) : okR H i := by
  obtain ⟨o1, o2, o3⟩ := o
  obtain ⟨-, -, -, -, -, hpr, -, hh⟩ := h
  rcases hh with ⟨-, e14, e311, -⟩ | ⟨hn, e14, e311, enew, -⟩
  · refine ⟨fun m z0 z1 => by rw [e14] at z1; rw [hpr m z0 z1]; exact o1 m z0 z1, ?_, by omega⟩
    rw [e311, e14, o2]
    exact sumQ_eq _ (fun m z0 z1 => (hpr m z0 (by omega)).symm)
  · have hb : backF G i c pg = 5 * G pg 0 + 10 * G pg 1 + 20 * G pg 2 + 50 * G pg 3 - G i (15 + 12 * c + 2) := rfl
    have c0 := hco 0 (by omega) (by omega)
    have c1 := hco 1 (by omega) (by omega)
    have c2 := hco 2 (by omega) (by omega)
    have c3 := hco 3 (by omega) (by omega)
    have t0 : 0 ≤ G i 5 := ht 0 (by omega) (by omega)
    have t1 : 0 ≤ G i 6 := ht 1 (by omega) (by omega)
    have t2 : 0 ≤ G i 7 := ht 2 (by omega) (by omega)
    have t3 : 0 ≤ G i 8 := ht 3 (by omega) (by omega)
    have hz : backF G i c pg ≠ 0 := fun e => hn (by rw [e]; exact canF_0 (by omega) (by omega) (by omega) (by omega))
    have hb0 := hcan.2.1
    have hb5 : backF G i c pg % 5 = 0 := by omega
    have hsum : G i 311 + backF G i c pg ≤ G i 3 := hcan.2.2.resolve_left hn
    refine ⟨fun m z0 z1 => ?_, ?_, by omega⟩
    · rw [e14] at z1
      by_cases z : m = G i 14
      · rw [z, enew]; omega
      · rw [hpr m z0 (by omega)]; exact o1 m z0 (by omega)
    · rw [e311, e14, sumQ_succ _ h0, o2]
      have e := sumQ_eq (p := prm H i) (q := prm G i) (G i 14).toNat (fun m z0 z1 => hpr m z0 (by omega))
      rw [e, show prm H i (G i 14) = backF G i c pg from enew]
