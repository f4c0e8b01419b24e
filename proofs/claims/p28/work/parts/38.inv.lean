/-! what always holds of promises, and that calls keep it -/
theorem sumQ_split (q : Int → Int) (a : Nat) : ∀ b : Nat, sumQ q (a + b) = sumQ q a + sumQ (fun m => q ((a : Int) + m)) b
  | 0 => by show sumQ q a = sumQ q a + 0; omega
  | b + 1 => by
    have h := sumQ_split q a b
    show sumQ q (a + b) + q ((a + b : Nat) : Int) = sumQ q a + (sumQ (fun m => q ((a : Int) + m)) b + q ((a : Int) + (b : Int)))
    rw [h, show ((a + b : Nat) : Int) = (a : Int) + (b : Int) by omega]
    omega
theorem sumQ_eq {p q : Int → Int} : ∀ n : Nat, (∀ m : Int, 0 ≤ m → m < n → p m = q m) → sumQ p n = sumQ q n
  | 0, _ => rfl
  | n + 1, h => by
    show sumQ p n + p n = sumQ q n + q n
    rw [sumQ_eq n (fun m z0 z1 => h m z0 (by omega)), h n (by omega) (by omega)]
theorem sumQ_ge {q : Int → Int} {k : Int} : ∀ n : Nat, (∀ m : Int, 0 ≤ m → m < n → k ≤ q m) → k * n ≤ sumQ q n
  | 0, _ => by show k * ((0 : Nat) : Int) ≤ 0; simp
  | n + 1, h => by
    have h1 := sumQ_ge (q := q) (k := k) n (fun m z0 z1 => h m z0 (by omega))
    have h2 := h n (by omega) (by omega)
    show k * ((n + 1 : Nat) : Int) ≤ sumQ q n + q n
    have e : k * ((n + 1 : Nat) : Int) = k * (n : Int) + k := by rw [show ((n + 1 : Nat) : Int) = (n : Int) + 1 by omega, Int.mul_add, Int.mul_one]
    omega
/-- the promises of a page: their sum is told, each is 5 at least -/
def okR (G : GG) (i : Int) : Prop := (∀ m : Int, 0 ≤ m → m < G i 14 → 5 ≤ G i (111 + m) ∧ G i (111 + m) % 5 = 0) ∧ G i 311 = sumQ (prm G i) (G i 14).toNat ∧ G i 311 ≤ 1000
theorem okR_5 {G : GG} {i : Int} (h0 : 0 ≤ G i 14) (o : okR G i) : 5 * G i 14 ≤ G i 311 := by
  have h := sumQ_ge (q := prm G i) (k := 5) (G i 14).toNat (fun m z0 z1 => (o.1 m z0 (by omega)).1)
  rw [o.2.1]
  omega
theorem okR_keep {G G1 : GG} {i : Int} {r : Int × Int × Int × Int × Int} (h0 : 0 ≤ r.1 ∧ r.1 ≤ G i 14) (o : okR G i) (h : keepP G i r G1) : okR G1 i := by
  obtain ⟨-, -, -, -, e14, e311, -, ep, -⟩ := h
  obtain ⟨o1, o2, o3⟩ := o
  obtain ⟨k, hk⟩ : ∃ k : Nat, r.1 = k := ⟨r.1.toNat, by omega⟩
  rw [hk] at e14 e311 ep h0
  have hs := sumQ_split (prm G i) k (G i 14 - k).toNat
  rw [show k + (G i 14 - (k : Int)).toNat = (G i 14).toNat by omega] at hs
  have hg := sumQ_ge (q := prm G i) (k := 0) k (fun m z0 z1 => by have := (o1 m z0 (by omega)).1; show 0 ≤ G i (111 + m); omega)
  rw [show ((k : Int)).toNat = k by omega] at e311
  refine ⟨fun m z0 z1 => ?_, ?_, ?_⟩
  · rw [e14] at z1
    rw [ep m z0 z1, show (111 : Int) + k + m = 111 + (k + m) by omega]
    exact o1 _ (by omega) (by omega)
  · rw [e311, e14, o2, hs]
    have e : sumQ (prm G1 i) (G i 14 - (k : Int)).toNat = sumQ (fun m => prm G i ((k : Int) + m)) (G i 14 - (k : Int)).toNat := sumQ_eq _ (fun m z0 z1 => by
      show G1 i (111 + m) = G i (111 + ((k : Int) + m))
      rw [ep m z0 (by omega), show (111 : Int) + k + m = 111 + (k + m) by omega])
    rw [e]
    omega
  · omega
theorem okR_sale {G : GG} {i c pg : Int} {H : GG} (h0 : 0 ≤ G i 14) (o : okR G i) (hl : G i 3 ≤ 1000) (hp : G i (15 + 12 * c + 2) % 5 = 0) (ht : ∀ k : Int, 0 ≤ k → k < 4 → 0 ≤ G i (5 + k)) (hco : ∀ k : Int, 0 ≤ k → k < 4 → 0 ≤ G pg k ∧ G pg k ≤ 9) (hcan : canSellP G i c pg) (h : saleP G i c pg H) : okR H i := by
  obtain ⟨o1, o2, o3⟩ := o
  obtain ⟨-, -, -, -, -, hpr, -, hh⟩ := h
  rcases hh with ⟨-, e14, e311, -⟩ | ⟨hn, e14, e311, enew, -⟩
  · refine ⟨fun m z0 z1 => by rw [e14] at z1; rw [hpr m z0 z1]; exact o1 m z0 z1, ?_, by omega⟩
    rw [e311, e14, o2]
    exact sumQ_eq _ (fun m z0 z1 => (hpr m z0 (by omega)).symm)
  · have hb : backF G i c pg = 5 * G pg 0 + 10 * G pg 1 + 20 * G pg 2 + 50 * G pg 3 - G i (15 + 12 * c + 2) := rfl
    have c0 := hco 0 (by omega) (by omega)
    have c1 := hco 1 (by omega) (by omega)
    have c2 := hco 2 (by omega) (by omega)
    have c3 := hco 3 (by omega) (by omega)
    have t0 : 0 ≤ G i 5 := ht 0 (by omega) (by omega)
    have t1 : 0 ≤ G i 6 := ht 1 (by omega) (by omega)
    have t2 : 0 ≤ G i 7 := ht 2 (by omega) (by omega)
    have t3 : 0 ≤ G i 8 := ht 3 (by omega) (by omega)
    have hz : backF G i c pg ≠ 0 := fun e => hn (by rw [e]; exact canF_0 (by omega) (by omega) (by omega) (by omega))
    have hb0 := hcan.2.1
    have hb5 : backF G i c pg % 5 = 0 := by omega
    have hsum : G i 311 + backF G i c pg ≤ G i 3 := hcan.2.2.resolve_left hn
    refine ⟨fun m z0 z1 => ?_, ?_, by omega⟩
    · rw [e14] at z1
      by_cases z : m = G i 14
      · rw [z, enew]; omega
      · rw [hpr m z0 (by omega)]; exact o1 m z0 (by omega)
    · rw [e311, e14, sumQ_succ _ h0, o2]
      have e := sumQ_eq (p := prm H i) (q := prm G i) (G i 14).toNat (fun m z0 z1 => hpr m z0 (by omega))
      rw [e, show prm H i (G i 14) = backF G i c pg from enew]
theorem keep_k {G : GG} {i : Int} (o : okP G i) : (0 ≤ (kpG G i).1 ∧ (kpG G i).1 ≤ G i 14) ∧ (0 ≤ (kpG G i).2.1 ∧ (kpG G i).2.1 ≤ 30) ∧ (0 ≤ (kpG G i).2.2.1 ∧ (kpG G i).2.2.1 ≤ 30) ∧ (0 ≤ (kpG G i).2.2.2.1 ∧ (kpG G i).2.2.2.1 ≤ 30) ∧ (0 ≤ (kpG G i).2.2.2.2 ∧ (kpG G i).2.2.2.2 ≤ 30) :=
  kp_b (q := prm G i) (cnt := G i 14) (fun m z0 z1 => (o.2.1 m z0 z1).1) 201 0 (G i 5) (G i 6) (G i 7) (G i 8) (by omega) o.1.1 (o.2.2 0 (by omega) (by omega)) (o.2.2 1 (by omega) (by omega)) (o.2.2 2 (by omega) (by omega)) (o.2.2 3 (by omega) (by omega))
theorem okP_keep {G G1 : GG} {i : Int} (o : okP G i) (h : keepP G i (kpG G i) G1) : okP G1 i := by
  have hk := keep_k o
  obtain ⟨e5, e6, e7, e8, e14, -, -, ep, -⟩ := h
  obtain ⟨o1, o2, o3⟩ := o
  refine ⟨by omega, fun m z0 z1 => ?_, fun k z0 z1 => ?_⟩
  · rw [e14] at z1
    rw [ep m z0 z1, show (111 : Int) + (kpG G i).1 + m = 111 + ((kpG G i).1 + m) by omega]
    exact o2 _ (by omega) (by omega)
  · have z : k = 0 ∨ k = 1 ∨ k = 2 ∨ k = 3 := by omega
    rcases z with rfl | rfl | rfl | rfl
    · show 0 ≤ G1 i 5 ∧ G1 i 5 ≤ 30; omega
    · show 0 ≤ G1 i 6 ∧ G1 i 6 ≤ 30; omega
    · show 0 ≤ G1 i 7 ∧ G1 i 7 ≤ 30; omega
    · show 0 ≤ G1 i 8 ∧ G1 i 8 ≤ 30; omega
/-- a page of a machine -/
def okN (G : GG) (i : Int) : Prop := okH (G i) ∧ okP G i ∧ okR G i
theorem okN_sell {G G1 : GG} {i c pg r : Int} (hc : 0 ≤ c ∧ c < G i 13) (o : okN G i) (hco : ∀ k : Int, 0 ≤ k → k < 4 → 0 ≤ G pg k ∧ G pg k ≤ 9) (hcan : canSellP G i c pg) (h : sellP G i c pg r G1) : okN G1 i := by
  obtain ⟨oh, op, or⟩ := o
  obtain ⟨H, hs, hk, -⟩ := h
  have h8 := oh.2.1
  have oc := oh.2.2 c hc.1 hc.2
  have m5 := oc.2.2.2.2.2.2.2.2.2.1
  have hb : backF G i c pg = 5 * G pg 0 + 10 * G pg 1 + 20 * G pg 2 + 50 * G pg 3 - G i (15 + 12 * c + 2) := rfl
  have c0 := hco 0 (by omega) (by omega)
  have c1 := hco 1 (by omega) (by omega)
  have c2 := hco 2 (by omega) (by omega)
  have c3 := hco 3 (by omega) (by omega)
  have b0 := hcan.2.1
  have p3 := oc.2.1
  have p2 := oc.2.2.1
  have hn := room_sale (by omega) oc oh.1 op ⟨okR_5 op.1.1 or, or.2.2⟩ hco hcan
  have opH := okP_sale (by omega) op hco (by omega) hn hs
  have orH := okR_sale op.1.1 or (oh.1.2.2.2.1.2) m5 (fun k z0 z1 => (op.2.2 k z0 z1).1) hco hcan hs
  have hkk := keep_k opH
  refine ⟨?_, okP_keep opH hk, okR_keep hkk.1 orH hk⟩
  have ne : ∀ y : Int, ¬ saleS i c i y → ¬ kpS i i y → G1 i y = G i y := fun y h1 h2 => (hk.2.2.2.2.2.2.2.2 i y h2).trans (hs.2.2.2.2.2.2.1 i y h1)
  have kk : ∀ y : Int, ¬ kpS i i y → G1 i y = H i y := fun y h2 => hk.2.2.2.2.2.2.2.2 i y h2
  have e13 : G1 i 13 = G i 13 := ne 13 (by omega) (by omega)
  refine ⟨?_, by rw [e13]; exact h8, fun d z0 z1 => ?_⟩
  · have os := oh.1
    unfold okS at *
    rw [ne 0 (by omega) (by omega), ne 1 (by omega) (by omega), ne 2 (by omega) (by omega), ne 3 (by omega) (by omega), ne 4 (by omega) (by omega)]
    exact os
  · rw [e13] at z1
    have od := oh.2.2 d z0 z1
    unfold okC at od ⊢
    rw [ne (15 + 12 * d + 2) (by omega) (by omega), ne (15 + 12 * d + 3) (by omega) (by omega), ne (15 + 12 * d + 4) (by omega) (by omega), ne (15 + 12 * d + 5) (by omega) (by omega), ne (15 + 12 * d + 9) (by omega) (by omega), ne (15 + 12 * d + 11) (by omega) (by omega), ne (15 + 12 * d) (by omega) (by omega)]
    obtain ⟨q1, q2, q3, q4, q5, q6, q7, q8, q9⟩ := od
    by_cases z : d = c
    · subst z
      have w1 := hs.1
      have w2 := hs.2.1
      have g1 := hcan.1
      exact ⟨by rw [kk _ (by omega), w1]; omega, q2, q3, q4, q5, q6, q7, by rw [kk _ (by omega), w2]; exact (fw_add1 q8).2, q9⟩
    · exact ⟨by rw [ne _ (by omega) (by omega)]; exact q1, q2, q3, q4, q5, q6, q7, by rw [ne _ (by omega) (by omega)]; exact q8, q9⟩
theorem okN_congr {G H : GG} {i j : Int} (h : ∀ y : Int, y < 312 → H i y = G j y) (o : okN G j) : okN H i := by
  refine ⟨okH_congr h o.1, okP_congr h o.2.1, ?_⟩
  obtain ⟨o1, o2, o3⟩ := o.2.2
  have e14 : H i 14 = G j 14 := h 14 (by omega)
  have hc := o.2.1.1
  refine ⟨fun m z0 z1 => by rw [e14] at z1; rw [h (111 + m) (by omega)]; exact o1 m z0 z1, ?_, by rw [h 311 (by omega)]; exact o3⟩
  rw [h 311 (by omega), e14, o2]
  exact sumQ_eq _ (fun m z0 z1 => (h (111 + m) (by omega)).symm)
