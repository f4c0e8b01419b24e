/-! each method, on both sides: what the law compares -/
def fits (k r2 : Int) (B : GG) : Prop := B 11 7 = k ∧ (k = 0 → B 21 0 = wI r2) ∧ relR B
/-- the class has left what the relation reads as it was -/
def fr0 (G A : GG) : Prop := (∀ y : Int, 0 ≤ y → y < 312 → A 0 y = G 0 y) ∧ (∀ x y : Int, 2 ≤ x → x ≤ 8 → A x y = G x y) ∧ ∀ x y : Int, 11 ≤ x → x ≤ 20 → A x y = G x y
theorem fr0_rf {G : GG} {v : Int} : fr0 G (setG G 21 0 v) := ⟨fun y _ _ => setG_ne (by omega), fun x y _ _ => setG_ne (by omega), fun x y _ _ => setG_ne (by omega)⟩
theorem fr0_id {G : GG} : fr0 G G := ⟨fun _ _ _ => rfl, fun _ _ _ _ => rfl, fun _ _ _ _ => rfl⟩
theorem fr0_scr {G A : GG} {v : Int} (h : sameB (scr 0) G A) : fr0 G (setG A 21 0 v) := ⟨fun y _ _ => (setG_ne (by omega)).trans (h 0 y (by omega)), fun x y _ _ => (setG_ne (by omega)).trans (h x y (by omega)), fun x y _ _ => (setG_ne (by omega)).trans (h x y (by omega))⟩
theorem fr0_R {G A : GG} (r : relR G) (f : fr0 G A) : relR A := relR_frame r f.1 (fun x y h0 h1 => f.2.1 x y h0 (by omega)) (okT_congr (fun y => f.2.1 7 y (by omega) (by omega)) (fun y => f.2.1 8 y (by omega) (by omega)) r.2.2.2.1) (f.2.1 7 1 (by omega) (by omega)) (fun y => f.2.1 8 y (by omega) (by omega)) (fun y _ _ => f.2.2 12 y (by omega) (by omega)) (f.2.2 11 4 (by omega) (by omega)) (f.2.2 11 6 (by omega) (by omega)) (fun y => f.2.2 15 y (by omega) (by omega)) (fun y => f.2.2 16 y (by omega) (by omega))
theorem quiet_R {A B : GG} (r : relR A) (q : quiet A B) : relR B := relR_frame r (fun y _ _ => q.2 0 y (by omega)) (fun x y h0 h1 => q.2 x y (by omega)) (okT_congr (fun y => q.2 7 y (by omega)) (fun y => q.2 8 y (by omega)) r.2.2.2.1) (q.2 7 1 (by omega)) (fun y => q.2 8 y (by omega)) q.1 (q.2 11 4 (by omega)) (q.2 11 6 (by omega)) (fun y => q.2 15 y (by omega)) (fun y => q.2 16 y (by omega))
theorem quiet_fit {G A B : GG} {k r2 : Int} (r : relR G) (f : fr0 G A) (q : quiet A B) (h7 : B 11 7 = k) (hv : k = 0 → A 21 0 = wI r2) : fits k r2 B := ⟨h7, fun z => by rw [q.2 21 0 (by omega)]; exact hv z, quiet_R (fr0_R r f) q⟩
/-- a refused call -/
theorem face_no {G A H B : GG} {a r2 k : Int} (r : relR G) (f : fr0 G A) (h12 : ∀ y : Int, 0 ≤ y → y < 311 → H 12 y = A 12 y) (h8 : H 11 8 = k) (hk : ¬ k = 0) (q : finM A H a r2 B) : fits k r2 B := by
  have rA := fr0_R r f
  obtain ⟨q12, q⟩ := q
  rcases q with ⟨-, -, q7, qs⟩ | ⟨q8, -⟩
  · refine ⟨by rw [q7]; exact h8, fun z => absurd z hk, relR_frame rA (fun y _ _ => qs 0 y (by omega)) (fun x y h0 h1 => qs x y (by omega)) (okT_congr (fun y => qs 7 y (by omega)) (fun y => qs 8 y (by omega)) rA.2.2.2.1) (qs 7 1 (by omega)) (fun y => qs 8 y (by omega)) (fun y h0 h1 => ?_) (qs 11 4 (by omega)) (qs 11 6 (by omega)) (fun y => qs 15 y (by omega)) (fun y => qs 16 y (by omega))⟩
    rw [q12]
    exact h12 y h0 h1
  · exact absurd (h8.symm.trans q8) hk
/-- a call that saves -/
theorem face_yes {G S A H B : GG} {a r2 : Int} (r : relR G) (s : saveP G S) (aS : ∀ x y : Int, 2 ≤ x → x ≤ 8 → A x y = S x y) (aK : ∀ x y : Int, 11 ≤ x → x ≤ 20 → A x y = G x y) (oN : okN A 0) (o10 : 0 ≤ A 0 10 ∧ A 0 10 ≤ 100000) (h8 : H 11 8 = 0) (row : rowE (A 0) (H 12)) (q : finM A H a r2 B) : B 11 7 = 0 ∧ r2 = a ∧ B 21 0 = A 21 0 ∧ relR B := by
  obtain ⟨q12, q⟩ := q
  rcases q with ⟨q8, -⟩ | ⟨-, qr, q7, sv, qs⟩
  · exact absurd h8 q8
  · have b : ∀ x y : Int, x ≤ 10 → B x y = A x y := fun x y hx => qs x y (by omega)
    have s7 : ∀ y, B 7 y = G 7 y := fun y => by rw [b 7 y (by omega), aS 7 y (by omega) (by omega), saveP_ne r.2.2.1 s (by omega)]
    have s8 : ∀ y, B 8 y = G 8 y := fun y => by rw [b 8 y (by omega), aS 8 y (by omega) (by omega), saveP_ne r.2.2.1 s (by omega)]
    refine ⟨q7, qr, qs 21 0 (by omega), relR_save r s (fun x y h0 h1 => by rw [b x y (by omega)]; exact aS x y h0 (by omega)) (okN_congr2 oN (fun y _ _ => b 0 y (by omega))) (by rw [b 0 10 (by omega)]; exact o10) (okT_congr s7 s8 r.2.2.2.1) (s7 1) s8 ?_ (svR_congr (aK 11 4 (by omega) (by omega)) (fun y => aK 12 y (by omega) (by omega)) (fun y => aK 15 y (by omega) (by omega)) sv) (by rw [qs 11 6 (by omega)]; exact aK 11 6 (by omega) (by omega)) (fun y => by rw [qs 16 y (by omega)]; exact aK 16 y (by omega) (by omega))⟩
    rw [show B 0 = A 0 from funext fun y => b 0 y (by omega), show B 12 = H 12 from funext q12]
    exact row
theorem save_0 {G S : GG} (r : relR G) (s : saveP G S) : S 0 = G 0 := saveP_row r.2.2.1 s
theorem save_K {G S : GG} {x y : Int} (r : relR G) (s : saveP G S) (hx : 11 ≤ x) : S x y = G x y := saveP_ne r.2.2.1 s (by omega)
theorem row_of {G A H8 : GG} (r : relR G) (hk : ∀ y, A 12 y = G 12 y) (h12 : ∀ y, H8 12 y = A 12 y) : rowE (G 0) (H8 12) := by
  rw [show H8 12 = G 12 from funext fun y => (h12 y).trans (hk y)]
  exact r.2.2.2.2.1
/-- one cell of page 0 is written, on both sides -/
theorem face_set {G S A H8 H B : GG} {y v w a r2 : Int} (r : relR G) (s : saveP G S) (hA : A = setG (setG S 0 y v) 21 0 w) (hy : (0 ≤ y ∧ y < 15 + 12 * G 0 13) ∧ y ≠ 13 ∧ y ≠ 14 ∧ y ≠ 10) (oN : okN (setG S 0 y v) 0) (h12 : ∀ z, H8 12 z = A 12 z) (h8 : H8 11 8 = 0) (hH : H = setG H8 12 y v) (q : finM A H a r2 B) : B 11 7 = 0 ∧ r2 = a ∧ B 21 0 = w ∧ relR B := by
  have o8 := r.1.1.2.1
  have v0 := r.2.2.1
  have s0 := save_0 r s
  have aK : ∀ x z : Int, 11 ≤ x → x ≤ 20 → A x z = G x z := fun x z h0 h1 => by rw [hA, setG_ne (by omega), setG_ne (by omega), save_K r s h0]
  have aS : ∀ x z : Int, 2 ≤ x → x ≤ 8 → A x z = S x z := fun x z h0 h1 => by rw [hA, setG_ne (by omega), setG_ne (by omega)]
  have a0 : A 0 = setG S 0 y v 0 := by rw [hA]; exact funext fun z => setG_ne (by omega)
  have w21 : A 21 0 = w := by rw [hA, setG_same]
  rw [← w21]
  refine face_yes r s aS aK (okN_congr2 oN (fun z _ _ => by rw [a0])) ?_ (by rw [hH, setG_ne (by omega)]; exact h8) ?_ q
  · rw [a0, setG_ne (by omega), s0]
    exact r.2.1
  · have e := row_of r (fun z => aK 12 z (by omega) (by omega)) h12
    rw [a0, hH]
    refine rowE_set (by rw [s0]; exact o8) (by rw [s0]; exact ⟨hy.1, hy.2.1, hy.2.2.1⟩) ?_
    rw [s0]
    exact e
theorem okN_low {G : GG} {i w v : Int} (hw : (0 ≤ w ∧ w < 15) ∧ ¬ (5 ≤ w ∧ w < 9) ∧ w ≠ 13 ∧ w ≠ 14) (hs : okS (up (G i) w v)) (o : okN G i) : okN (setG G i w v) i := by
  refine ⟨⟨by rw [setG_at]; exact hs, by rw [setG_ne (by omega)]; exact o.1.2.1, fun d d0 d1 => ?_⟩, okPR_congr (G := G) (j := i) (fun y hy => setG_ne (by omega)) o.2⟩
  rw [setG_ne (by omega)] at d1
  exact okC_congr (fun k k0 k1 => setG_ne (by omega)) (o.1.2.2 d d0 d1)
theorem okS_up {g : Row} {w v : Int} (hw : 5 ≤ w) (o : okS g) : okS (up g w v) := by
  unfold okS at o ⊢
  rw [up_n (by omega), up_n (by omega), up_n (by omega), up_n (by omega), up_n (by omega)]
  exact o
theorem okN_save {G S : GG} (r : relR G) (s : saveP G S) : okN S 0 := okN_congr2 r.1 (fun y _ _ => by rw [save_0 r s])
/-- set -/
theorem f_set {ok : Prop} {G A B : GG} {w v k r2 : Int} (hok : ok → (0 ≤ w ∧ w ≤ 4) ∧ ∀ g, okS g → okS (up g w v)) (r : relR G) (h : (k = 0 ∧ ∃ a G2, (ok ∧ ∃ H, saveP G H ∧ a = G 0 w ∧ G2 = setG H 0 w v) ∧ A = setG G2 21 0 (wI a)) ∨ (k = 1 ∧ A = G ∧ ¬ ok)) (q : faceM A (setB w v ok) r2 B) : fits k r2 B := by
  have o8 := r.1.1.2.1
  obtain ⟨H8, H, a2, h12, h8, hB, q⟩ := q
  rcases h with ⟨hk, a, G2, ⟨hc, S, s, ha, hG2⟩, hA⟩ | ⟨hk, hA, hc⟩
  · obtain ⟨hw, hs⟩ := hok hc
    rcases hB with ⟨z, -⟩ | ⟨-, hb, hH⟩
    · exact absurd hc z
    · subst hG2
      have s0 := save_0 r s
      have z := face_set r s hA (by omega) (okN_low (by omega) (hs _ (okN_save r s).1.1) (okN_save r s)) h12 h8 hH q
      have aw : A 12 w = G 12 w := by rw [hA, setG_ne (by omega), setG_ne (by omega), save_K r s (by omega)]
      have eq : r2 = a := by rw [z.2.1, hb, h12, aw, ha]; exact r.2.2.2.2.1.1 w hw.1 (by omega)
      subst hk
      exact ⟨z.1, fun _ => by rw [z.2.2.1, eq], z.2.2.2⟩
  · subst hA
    rcases hB with ⟨-, -, hH⟩ | ⟨z, -⟩
    · refine face_no r fr0_id (fun y h0 h1 => ?_) (by rw [hH, setG_same, hk]) (by omega) q
      rw [hH, setG_ne (by omega), h12]
    · exact absurd z hc
/-- stock -/
theorem f_stock {G A B : GG} {c n k r2 : Int} (r : relR G) (h : (k = 0 ∧ ∃ a G2, (((0 ≤ c ∧ c < G 0 13) ∧ (1 ≤ n ∧ n ≤ 20) ∧ (G 0 (15 + 12 * c + 1) + n ≤ 20)) ∧ ∃ H, saveP G H ∧ a = G 0 (15 + 12 * c + 1) + n ∧ G2 = setG H 0 (15 + 12 * c + 1) (G 0 (15 + 12 * c + 1) + n)) ∧ A = setG G2 21 0 (wI a)) ∨ (k = 1 ∧ A = G ∧ ¬ (0 ≤ c ∧ c < G 0 13)) ∨ (k = 2 ∧ A = G ∧ (0 ≤ c ∧ c < G 0 13) ∧ ¬ (1 ≤ n ∧ n ≤ 20)) ∨ (k = 3 ∧ A = G ∧ ((0 ≤ c ∧ c < G 0 13) ∧ (1 ≤ n ∧ n ≤ 20)) ∧ ¬ (G 0 (15 + 12 * c + 1) + n ≤ 20))) (q : faceM A (stockB c n) r2 B) : fits k r2 B := by
  have o8 := r.1.1.2.1
  have e := r.2.2.2.2.1
  have e13 := e.1 13 (by omega) (by omega)
  obtain ⟨H8, H, a2, h12, h8, hB, q⟩ := q
  have no : A = G → ∀ j : Int, H = setG H8 11 8 j → j = k → ¬ k = 0 → fits k r2 B := fun hA j hH hj hk => by
    subst hA
    exact face_no r fr0_id (fun y h0 h1 => by rw [hH, setG_ne (by omega), h12]) (by rw [hH, setG_same, hj]) hk q
  rcases h with ⟨hk, a, G2, ⟨hc, S, s, ha, hG2⟩, hA⟩ | ⟨hk, hA, hc⟩ | ⟨hk, hA, hc1, hc⟩ | ⟨hk, hA, hc1, hc⟩
  · have ak : ∀ y, A 12 y = G 12 y := fun y => by rw [hA, hG2, setG_ne (by omega), setG_ne (by omega), save_K r s (by omega)]
    have eg := e.1 (15 + 12 * c + 1) (by omega) (by omega)
    have h13 : H8 12 13 = G 0 13 := by rw [h12, ak, e13]
    have hg : H8 12 (15 + 12 * c + 1) = G 0 (15 + 12 * c + 1) := by rw [h12, ak, eg]
    have oc := (r.1.1.2.2 c hc.1.1 hc.1.2).1
    rcases hB with ⟨z, -⟩ | ⟨-, z, -⟩ | ⟨-, -, z, -⟩ | ⟨-, -, -, hb, hH⟩
    · rw [h13] at z; exact absurd hc.1 z
    · exact absurd hc.2.1 z
    · rw [hg] at z; exact absurd hc.2.2 z
    · rw [hg] at hb hH
      subst hG2
      have z := face_set r s hA (by omega) (okN_goods (by omega) (by omega) (okN_save r s)) h12 h8 hH q
      subst hk
      exact ⟨z.1, fun _ => by rw [z.2.2.1, z.2.1, hb, ha], z.2.2.2⟩
  · have h13 : H8 12 13 = G 0 13 := by rw [h12, hA, e13]
    rcases hB with ⟨z, -, hH⟩ | ⟨z, -⟩ | ⟨z, -⟩ | ⟨z, -⟩
    · exact no hA 1 hH (by omega) (by omega)
    · rw [h13] at z; exact absurd z hc
    · rw [h13] at z; exact absurd z hc
    · rw [h13] at z; exact absurd z hc
  · have h13 : H8 12 13 = G 0 13 := by rw [h12, hA, e13]
    rcases hB with ⟨z, -⟩ | ⟨-, z, -, hH⟩ | ⟨-, z, -⟩ | ⟨-, z, -⟩
    · rw [h13] at z; exact absurd hc1 z
    · exact no hA 2 hH (by omega) (by omega)
    · exact absurd z hc
    · exact absurd z hc
  · have h13 : H8 12 13 = G 0 13 := by rw [h12, hA, e13]
    have eg := e.1 (15 + 12 * c + 1) (by omega) (by omega)
    have hg : H8 12 (15 + 12 * c + 1) = G 0 (15 + 12 * c + 1) := by rw [h12, hA, eg]
    rcases hB with ⟨z, -⟩ | ⟨-, z, -⟩ | ⟨-, -, z, -, hH⟩ | ⟨-, -, z, -⟩
    · rw [h13] at z; exact absurd hc1.1 z
    · exact absurd hc1.2 z
    · exact no hA 3 hH (by omega) (by omega)
    · rw [hg] at z; exact absurd z hc
theorem okC_10 {g : Row} {c d v : Int} (hv : okW v) (o : okC g d) : okC (up g (15 + 12 * c + 10) v) d := by
  by_cases hd : d = c
  · subst hd
    unfold okC at o ⊢
    rw [up_s, up_n (z := 15 + 12 * d + 1) (by omega), up_n (z := 15 + 12 * d + 2) (by omega), up_n (z := 15 + 12 * d + 3) (by omega), up_n (z := 15 + 12 * d + 4) (by omega), up_n (z := 15 + 12 * d + 5) (by omega), up_n (z := 15 + 12 * d + 9) (by omega), up_n (z := 15 + 12 * d + 11) (by omega), up_n (z := 15 + 12 * d) (by omega)]
    obtain ⟨a1, a2, a3, a4, a5, a6, a7, a8, a9⟩ := o
    exact ⟨a1, a2, a3, a4, a5, a6, a7, hv, a9⟩
  · exact okC_congr (fun k z0 z1 => up_n (by omega)) o
theorem okN_10 {G : GG} {i c v : Int} (hc : 0 ≤ c ∧ c < 8) (hv : okW v) (o : okN G i) : okN (setG G i (15 + 12 * c + 10) v) i := by
  refine ⟨⟨by rw [setG_at]; exact okS_up (by omega) o.1.1, by rw [setG_ne (by omega)]; exact o.1.2.1, fun d d0 d1 => ?_⟩, okPR_congr (G := G) (j := i) (fun y hy => setG_ne (by omega)) o.2⟩
  rw [setG_ne (by omega)] at d1
  rw [setG_at]
  exact okC_10 hv (o.1.2.2 d d0 d1)
/-- look -/
theorem f_look {G A B : GG} {c k r2 : Int} (r : relR G) (h : (k = 0 ∧ ∃ a G2, ((0 ≤ c ∧ c < G 0 13) ∧ ∃ H, saveP G H ∧ a = G 0 (15 + 12 * c + 2) ∧ G2 = setG H 0 (15 + 12 * c + 10) (faddH (G 0 (15 + 12 * c + 10)))) ∧ A = setG G2 21 0 (wI a)) ∨ (k = 1 ∧ A = G ∧ ¬ (0 ≤ c ∧ c < G 0 13))) (q : faceM A (lookB c) r2 B) : fits k r2 B := by
  have o8 := r.1.1.2.1
  have e := r.2.2.2.2.1
  have e13 := e.1 13 (by omega) (by omega)
  obtain ⟨H8, H, a2, h12, h8, hB, q⟩ := q
  rcases h with ⟨hk, a, G2, ⟨hc, S, s, ha, hG2⟩, hA⟩ | ⟨hk, hA, hc⟩
  · have ak : ∀ y, A 12 y = G 12 y := fun y => by rw [hA, hG2, setG_ne (by omega), setG_ne (by omega), save_K r s (by omega)]
    have h13 : H8 12 13 = G 0 13 := by rw [h12, ak, e13]
    have hg : H8 12 (15 + 12 * c + 10) = G 0 (15 + 12 * c + 10) := by rw [h12, ak]; exact e.1 _ (by omega) (by omega)
    have hg2 : H8 12 (15 + 12 * c + 2) = G 0 (15 + 12 * c + 2) := by rw [h12, ak]; exact e.1 _ (by omega) (by omega)
    have oc := r.1.1.2.2 c hc.1 hc.2
    have ow : okW (G 0 (15 + 12 * c + 10)) := oc.2.2.2.2.2.2.2.1
    rcases hB with ⟨z, -⟩ | ⟨-, hb, hH⟩
    · rw [h13] at z; exact absurd hc z
    · rw [hg] at hH
      rw [hg2] at hb
      subst hG2
      have z := face_set r s hA (by omega) (okN_10 (by omega) (fw_addH ow).2 (okN_save r s)) h12 h8 hH q
      subst hk
      exact ⟨z.1, fun _ => by rw [z.2.2.1, z.2.1, hb, ha], z.2.2.2⟩
  · have h13 : H8 12 13 = G 0 13 := by rw [h12, hA, e13]
    rcases hB with ⟨z, -, hH⟩ | ⟨z, -⟩
    · subst hA
      exact face_no r fr0_id (fun y h0 h1 => by rw [hH, setG_ne (by omega), h12]) (by rw [hH, setG_same, hk]) (by omega) q
    · rw [h13] at z; exact absurd z hc
/-- emptyBox: no exception, the answers are compared at once -/
theorem f_box {G A B : GG} {a r2 : Int} (r : relR G) (h : ∃ H, saveP G H ∧ a = G 0 9 ∧ A = setG H 0 9 0) (q : faceM A (fun G a H => a = G 12 9 ∧ H = setG G 12 9 0) r2 B) : r2 = a ∧ relR B := by
  have o8 := r.1.1.2.1
  have e := r.2.2.2.2.1
  obtain ⟨H8, H, a2, h12, h8, ⟨hb, hH⟩, q⟩ := q
  obtain ⟨S, s, ha, hA⟩ := h
  have ak : ∀ y, A 12 y = G 12 y := fun y => by rw [hA, setG_ne (by omega), save_K r s (by omega)]
  have hA2 : A = setG (setG S 0 9 0) 21 0 (A 21 0) := by
    rw [hA]
    exact (setG_id9 rfl).symm
  have z := face_set r s hA2 (by omega) (okN_low (by omega) (okS_up (by omega) (okN_save r s).1.1) (okN_save r s)) h12 h8 hH q
  refine ⟨?_, z.2.2.2⟩
  rw [z.2.1, hb, h12, ak, ha]
  exact e.1 9 (by omega) (by omega)
/-- fill -/
theorem f_fill {G A B : GG} {t n k r2 : Int} (r : relR G) (h : (k = 0 ∧ ∃ a G2, (((0 ≤ t ∧ t ≤ 3) ∧ (1 ≤ n ∧ n ≤ 30)) ∧ ∃ H, saveP G H ∧ a = min n (30 - G 0 (5 + t)) ∧ keepP (fillG H 0 t n) 0 (kpG (fillG H 0 t n) 0) G2) ∧ A = setG G2 21 0 (wI a)) ∨ (k = 1 ∧ A = G ∧ ¬ (0 ≤ t ∧ t ≤ 3)) ∨ (k = 2 ∧ A = G ∧ (0 ≤ t ∧ t ≤ 3) ∧ ¬ (1 ≤ n ∧ n ≤ 30))) (q : faceM A (fillB t n) r2 B) : fits k r2 B := by
  have o8 := r.1.1.2.1
  have e := r.2.2.2.2.1
  obtain ⟨H8, H, a2, h12, h8, hB, q⟩ := q
  rcases h with ⟨hk, a, G2, ⟨hc, S, s, ha, hG2⟩, hA⟩ | ⟨hk, hA, hc⟩ | ⟨hk, hA, hc1, hc⟩
  · rcases hB with ⟨z, -⟩ | ⟨-, z, -⟩ | ⟨-, -, hb, hH⟩
    · exact absurd hc.1 z
    · exact absurd hc.2 z
    · have s0 := save_0 r s
      have ne : ∀ x y : Int, x ≠ 0 → A x y = S x y ∨ (x = 21 ∧ y = 0) := fun x y hx => by
        by_cases z : x = 21 ∧ y = 0
        · exact Or.inr z
        · refine Or.inl ?_
          rw [hA, setG_ne z, hG2.2.2.2.2.2.2.2.2 x y (fun q => hx q.1)]
          unfold fillG
          exact setG_ne (fun q => hx q.1)
      have ak : ∀ x y : Int, 11 ≤ x → x ≤ 20 → A x y = G x y := fun x y h0 h1 => by
        rcases ne x y (by omega) with z | z
        · rw [z, save_K r s h0]
        · omega
      have aS : ∀ x y : Int, 2 ≤ x → x ≤ 8 → A x y = S x y := fun x y h0 h1 => by
        rcases ne x y (by omega) with z | z
        · exact z
        · omega
      have a0 : A 0 = G2 0 := by rw [hA]; exact funext fun z => setG_ne (by omega)
      have eS : rowE (S 0) (H8 12) := by rw [s0]; exact row_of r (fun z => ak 12 z (by omega) (by omega)) h12
      have rw2 := fill_rel (okN_save r s) (by omega) (by omega) eS hG2 hH
      have oN := okN_fill (by omega) (by omega) (okN_save r s) hG2
      have hH8 : H 11 8 = 0 := by
        rw [hH.2.2.2.2.2.2.2 11 8 (by omega)]
        unfold fillG
        rw [setG_ne (by omega)]
        exact h8
      have g10 : A 0 10 = G 0 10 := by
        rw [a0, hG2.2.2.2.2.2.2.2.2 0 10 (by omega)]
        unfold fillG
        rw [setG_ne (by omega), s0]
      have z := face_yes r s aS ak (okN_congr2 oN (fun z _ _ => by rw [a0])) (by rw [g10]; exact r.2.1) hH8 (by rw [a0]; exact rw2) q
      subst hk
      refine ⟨z.1, fun _ => ?_, z.2.2.2⟩
      rw [z.2.2.1, z.2.1, hb, hA, setG_same, ha, h12, ak 12 _ (by omega) (by omega), e.1 (5 + t) (by omega) (by omega)]
  · rcases hB with ⟨z, -, hH⟩ | ⟨z, -⟩ | ⟨z, -⟩
    · subst hA
      exact face_no r fr0_id (fun y h0 h1 => by rw [hH, setG_ne (by omega), h12]) (by rw [hH, setG_same, hk]) (by omega) q
    · exact absurd z hc
    · exact absurd z hc
  · rcases hB with ⟨z, -⟩ | ⟨-, z, -, hH⟩ | ⟨-, z, -⟩
    · exact absurd hc1 z
    · subst hA
      exact face_no r fr0_id (fun y h0 h1 => by rw [hH, setG_ne (by omega), h12]) (by rw [hH, setG_same, hk]) (by omega) q
    · exact absurd z hc
/-- pass -/
theorem f_pass {G A B : GG} {n k r2 : Int} (r : relR G) (h : (k = 0 ∧ ∃ a G2, (((1 ≤ n ∧ n ≤ 48) ∧ (G 0 10 + n ≤ 100000)) ∧ ∃ H, saveP G H ∧ a = hoursR (G 0) n.toNat 12 - G 0 12 ∧ G2 = onR H 0 (hoursR (G 0) n.toNat)) ∧ A = setG G2 21 0 (wI a)) ∨ (k = 1 ∧ A = G ∧ ¬ (1 ≤ n ∧ n ≤ 48)) ∨ (k = 2 ∧ A = G ∧ (1 ≤ n ∧ n ≤ 48) ∧ ¬ (G 0 10 + n ≤ 100000))) (q : faceM A (passB n) r2 B) : fits k r2 B := by
  have o8 := r.1.1.2.1
  have e := r.2.2.2.2.1
  have e10 := e.1 10 (by omega) (by omega)
  obtain ⟨H8, H, a2, h12, h8, hB, q⟩ := q
  rcases h with ⟨hk, a, G2, ⟨hc, S, s, ha, hG2⟩, hA⟩ | ⟨hk, hA, hc⟩ | ⟨hk, hA, hc1, hc⟩
  · have s0 := save_0 r s
    have ak : ∀ x y : Int, 11 ≤ x → x ≤ 20 → A x y = G x y := fun x y h0 h1 => by
      rw [hA, setG_ne (by omega), hG2, onR_ne (by omega), save_K r s h0]
    have aS : ∀ x y : Int, 2 ≤ x → x ≤ 8 → A x y = S x y := fun x y h0 h1 => by
      rw [hA, setG_ne (by omega), hG2, onR_ne (by omega)]
    have a0 : A 0 = hoursR (G 0) n.toNat := by
      rw [hA, show setG G2 21 0 (wI a) 0 = G2 0 from funext fun z => setG_ne (by omega), hG2, onR_at]
    have eS : rowE (G 0) (H8 12) := row_of r (fun z => ak 12 z (by omega) (by omega)) h12
    have h10 : H8 12 10 = G 0 10 := eS.1 10 (by omega) (by omega)
    rcases hB with ⟨z, -⟩ | ⟨-, z, -⟩ | ⟨-, -, hb, hH⟩
    · exact absurd hc.1 z
    · rw [h10] at z; exact absurd hc.2 z
    · have rw2 := rowE_hours r.1.1 eS n.toNat
      have oN : okN A 0 := okN_congr2 (okN_hours r.1 n.toNat) (fun y _ _ => by rw [a0, onR_at])
      have h13 : hoursR (G 0) n.toNat 13 = G 0 13 := hours_ne r.1.1 (by omega) _
      have r12 := rw2.1 12 (by omega) (by omega)
      have e12 := eS.1 12 (by omega) (by omega)
      have z := face_yes r s aS ak oN (by rw [a0, hours_10 r.1.1]; have := r.2.1; omega) (by rw [hH, onR_ne (by omega)]; exact h8) (by rw [a0, hH, onR_at]; exact rw2) q
      subst hk
      refine ⟨z.1, fun _ => ?_, z.2.2.2⟩
      rw [z.2.2.1, z.2.1, hb, hA, setG_same, ha, r12, e12]
  · rcases hB with ⟨z, -, hH⟩ | ⟨z, -⟩ | ⟨z, -⟩
    · subst hA
      exact face_no r fr0_id (fun y h0 h1 => by rw [hH, setG_ne (by omega), h12]) (by rw [hH, setG_same, hk]) (by omega) q
    · exact absurd z hc
    · exact absurd z hc
  · have h10 : H8 12 10 = G 0 10 := by rw [h12, hA, e10]
    rcases hB with ⟨z, -⟩ | ⟨-, z, -, hH⟩ | ⟨-, z, -⟩
    · exact absurd hc1 z
    · subst hA
      exact face_no r fr0_id (fun y h0 h1 => by rw [hH, setG_ne (by omega), h12]) (by rw [hH, setG_same, hk]) (by omega) q
    · rw [h10] at z; exact absurd z hc
