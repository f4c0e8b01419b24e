/-! class CoilPricesModel: the most that is payable -/
def isR (K : GG) (S : Int → Prop) : Prop := ∀ j : Int, 0 ≤ j → j ≤ 400 → (K 19 j = 1 ∧ S j) ∨ (K 19 j = 0 ∧ ¬ S j)
def stepS (S : Int → Prop) (w : Int) : Int → Prop := fun j => S j ∨ (w ≤ j ∧ S (j - w))
def itS (S : Int → Prop) (w : Int) : Nat → Int → Prop
  | 0 => S
  | n + 1 => stepS (itS S w n) w
def mixR (K : GG) (S : Int → Prop) (w k : Int) : Prop := ∀ j : Int, 0 ≤ j → j ≤ 400 → (k < j → (K 19 j = 1 ∧ stepS S w j) ∨ (K 19 j = 0 ∧ ¬ stepS S w j)) ∧ (j ≤ k → (K 19 j = 1 ∧ S j) ∨ (K 19 j = 0 ∧ ¬ S j))
theorem itS_succ (S : Int → Prop) (w : Int) {n : Int} (h : 0 ≤ n) : itS S w (n + 1).toNat = stepS (itS S w n.toNat) w := by
  rw [show (n + 1).toNat = n.toNat + 1 by omega]
  rfl
theorem itS_iff {S : Int → Prop} {w : Int} (hw : 0 ≤ w) : ∀ (n : Nat) (j : Int), itS S w n j ↔ ∃ x : Nat, x ≤ n ∧ (x : Int) * w ≤ j ∧ S (j - (x : Int) * w) ∨ False ∨ (x = 0 ∧ S j)
  | 0, j => ⟨fun h => ⟨0, Or.inr (Or.inr ⟨rfl, h⟩)⟩, fun ⟨x, h⟩ => by
      rcases h with ⟨h1, h2, h3⟩ | h | h
      · have e : x = 0 := by omega
        subst e
        have e : j - ((0 : Nat) : Int) * w = j := by simp
        rw [e] at h3
        exact h3
      · exact h.elim
      · exact h.2⟩
  | n + 1, j => by
    have ih := itS_iff (S := S) hw n
    constructor
    · rintro (h | ⟨h1, h⟩)
      · obtain ⟨x, hx⟩ := (ih j).mp h
        rcases hx with ⟨a1, a2, a3⟩ | a | a
        · exact ⟨x, Or.inl ⟨by omega, a2, a3⟩⟩
        · exact a.elim
        · exact ⟨x, Or.inr (Or.inr a)⟩
      · obtain ⟨x, hx⟩ := (ih (j - w)).mp h
        rcases hx with ⟨a1, a2, a3⟩ | a | ⟨rfl, a⟩
        · refine ⟨x + 1, Or.inl ⟨by omega, ?_, ?_⟩⟩
          · rw [Int.natCast_add, Int.add_mul]; simp; omega
          · rw [Int.natCast_add, Int.add_mul]
            have e : j - ((x : Int) * w + ((1 : Nat) : Int) * w) = j - w - (x : Int) * w := by simp; omega
            rw [e]; exact a3
        · exact a.elim
        · refine ⟨1, Or.inl ⟨by omega, ?_, ?_⟩⟩
          · simp; exact h1
          · have e : j - ((1 : Nat) : Int) * w = j - w := by simp
            rw [e]; exact a
    · rintro ⟨x, hx⟩
      rcases hx with ⟨a1, a2, a3⟩ | a | ⟨rfl, a⟩
      · by_cases e : x ≤ n
        · exact Or.inl ((ih j).mpr ⟨x, Or.inl ⟨e, a2, a3⟩⟩)
        · obtain ⟨y, rfl⟩ : ∃ y, x = y + 1 := ⟨n, by omega⟩
          have hy : 0 ≤ (y : Int) * w := Int.mul_nonneg (by omega) hw
          rw [Int.natCast_add, Int.add_mul] at a2 a3
          simp at a2 a3
          refine Or.inr ⟨by omega, (ih (j - w)).mpr ⟨y, Or.inl ⟨by omega, by omega, ?_⟩⟩⟩
          have e2 : j - w - (y : Int) * w = j - ((y : Int) * w + w) := by omega
          rw [e2]; exact a3
      · exact a.elim
      · exact Or.inl ((ih j).mpr ⟨0, Or.inr (Or.inr ⟨rfl, a⟩)⟩)
/-- what can be paid by some coins is paid -/
theorem pay_can {h0 h1 h2 h3 a x0 x1 x2 x3 : Int} (b0 : 0 ≤ x0 ∧ x0 ≤ h0) (b1 : 0 ≤ x1 ∧ x1 ≤ h1) (b2 : 0 ≤ x2 ∧ x2 ≤ h2) (b3 : 0 ≤ x3 ∧ x3 ≤ h3) (ha : 5 * x0 + 10 * x1 + 20 * x2 + 50 * x3 = a) : canF h0 h1 h2 h3 a := by
  have ef : fF h3 a = min h3 (a / 50) := rfl
  have e2 : t2F h2 a x3 = min h2 ((a - 50 * x3) / 20) := rfl
  have hk : ¬ tkF h0 h1 h2 a x3 = -1 := by
    obtain ⟨L, hL⟩ : ∃ L, L = a - 50 * x3 - 20 * x2 := ⟨_, rfl⟩
    obtain ⟨n, hn⟩ : ∃ n, n = min (L / 10) h1 := ⟨_, rfl⟩
    have n1 : x1 ≤ n := by omega
    have n2 : 10 * n ≤ L := by omega
    rcases Int.lt_or_eq_of_le (show x2 ≤ t2F h2 a x3 by omega) with c | c
    · exact (py_d1 (h0 := h0) (h1 := h1) (n := n) (r := L - 10 * n) ⟨by omega, by omega, by omega⟩ b3.1 ⟨b2.1, c⟩ hL hn rfl ⟨by omega, by omega, by omega⟩).1
    · have p := py_at (h0 := h0) (h1 := h1) (n := n) (r := L - 10 * n) b3.1 c hL (fun _ => hn) rfl (by omega)
      have q := (p.2.1 ⟨by omega, by omega⟩).2
      omega
  rw [can_bF]
  have l := py_low (h0 := h0) (h1 := h1) (h2 := h2) (h3 := h3) (a := a) ⟨by omega, by omega, by omega⟩ (fF h3 a - x3 + 1).toNat x3 b3.1
  rcases (by omega : x3 < fF h3 a - 1 ∨ x3 = fF h3 a - 1 ∨ x3 = fF h3 a) with c | c | c
  · exact (l c (by omega) hk).1
  · unfold bF
    by_cases q : btr h0 h1 h2 h3 a
    · rw [if_pos q]; exact q.1
    · rw [if_neg q]
      intro z
      exact q ⟨by rw [← c]; exact hk, Or.inl z⟩
  · unfold bF
    by_cases q : btr h0 h1 h2 h3 a
    · rw [if_pos q]; exact q.1
    · rw [if_neg q, ← c]; exact hk
theorem can_pay {h0 h1 h2 h3 a : Int} (b0 : 0 ≤ h0 ∧ h0 ≤ 31) (b1 : 0 ≤ h1 ∧ h1 ≤ 31) (b2 : 0 ≤ h2 ∧ h2 ≤ 31) (b3 : 0 ≤ h3 ∧ h3 ≤ 31) (ha : 0 ≤ a) (h : canF h0 h1 h2 h3 a) : ∃ x0 x1 x2 x3 : Int, (0 ≤ x0 ∧ x0 ≤ h0) ∧ (0 ≤ x1 ∧ x1 ≤ h1) ∧ (0 ≤ x2 ∧ x2 ≤ h2) ∧ (0 ≤ x3 ∧ x3 ≤ h3) ∧ 5 * x0 + 10 * x1 + 20 * x2 + 50 * x3 = a := by
  have hb := bF_n (h0 := h0) (h1 := h1) (h2 := h2) (h3 := h3) (a := a) b3.1 ha
  have hk := tk_at hb.1 (can_bF.mp h)
  have cb := cF_b (h0 := h0) (h1 := h1) (h2 := h2) (h3 := h3) (a := a) b0 b1 b2 b3 ha
  exact ⟨c0F h0 h1 h2 h3 a, c1F h0 h1 h2 h3 a, c2F h0 h1 h2 h3 a, c3F h0 h1 h2 h3 a, cb.1, cb.2.1, cb.2.2.1, cb.2.2.2, by have := hk.1; unfold c0F c1F c2F c3F; omega⟩
abbrev S4 (h0 h1 h2 h3 : Int) : Int → Prop := itS (itS (itS (itS (fun j => j = 0) 1 h0.toNat) 2 h1.toNat) 4 h2.toNat) 10 h3.toNat
theorem S4_iff {h0 h1 h2 h3 j : Int} (b0 : 0 ≤ h0 ∧ h0 ≤ 31) (b1 : 0 ≤ h1 ∧ h1 ≤ 31) (b2 : 0 ≤ h2 ∧ h2 ≤ 31) (b3 : 0 ≤ h3 ∧ h3 ≤ 31) (hj : 0 ≤ j) : S4 h0 h1 h2 h3 j ↔ canF h0 h1 h2 h3 (5 * j) := by
  have z : ∀ (S : Int → Prop) (w : Int), 0 ≤ w → ∀ (h j : Int), 0 ≤ h → (itS S w h.toNat j ↔ ∃ x : Int, (0 ≤ x ∧ x ≤ h) ∧ S (j - x * w) ∧ (x * w ≤ j ∨ x = 0)) := by
    intro S w hw h j hh
    rw [itS_iff hw]
    constructor
    · rintro ⟨x, hx⟩
      rcases hx with ⟨a1, a2, a3⟩ | a | ⟨rfl, a⟩
      · exact ⟨x, by omega, a3, Or.inl a2⟩
      · exact a.elim
      · exact ⟨0, by omega, by simpa using a, Or.inr rfl⟩
    · rintro ⟨x, a1, a2, a3⟩
      rcases a3 with a3 | a3
      · exact ⟨x.toNat, Or.inl ⟨by omega, by rw [show ((x.toNat : Nat) : Int) = x by omega]; exact a3, by rw [show ((x.toNat : Nat) : Int) = x by omega]; exact a2⟩⟩
      · subst a3
        exact ⟨0, Or.inr (Or.inr ⟨rfl, by simpa using a2⟩)⟩
  constructor
  · intro h
    obtain ⟨x3, c3, h, d3⟩ := (z _ 10 (by omega) h3 j (by omega)).mp h
    obtain ⟨x2, c2, h, d2⟩ := (z _ 4 (by omega) h2 _ (by omega)).mp h
    obtain ⟨x1, c1, h, d1⟩ := (z _ 2 (by omega) h1 _ (by omega)).mp h
    obtain ⟨x0, c0, h, d0⟩ := (z _ 1 (by omega) h0 _ (by omega)).mp h
    exact pay_can (x0 := x0) (x1 := x1) (x2 := x2) (x3 := x3) c0 c1 c2 c3 (by omega)
  · intro h
    obtain ⟨x0, x1, x2, x3, c0, c1, c2, c3, e⟩ := can_pay b0 b1 b2 b3 (by omega) h
    refine (z _ 10 (by omega) h3 j (by omega)).mpr ⟨x3, c3, ?_, by omega⟩
    refine (z _ 4 (by omega) h2 _ (by omega)).mpr ⟨x2, c2, ?_, by omega⟩
    refine (z _ 2 (by omega) h1 _ (by omega)).mpr ⟨x1, c1, ?_, by omega⟩
    refine (z _ 1 (by omega) h0 _ (by omega)).mpr ⟨x0, c0, ?_, by omega⟩
    show j - x3 * 10 - x2 * 4 - x1 * 2 - x0 * 1 = 0
    omega
theorem mix_all {K : GG} {S : Int → Prop} {w k : Int} (hk : k < w) (h : mixR K S w k) : isR K (stepS S w) := by
  intro j z0 z1
  have e := h j z0 z1
  by_cases c : k < j
  · exact e.1 c
  · rcases e.2 (by omega) with ⟨a, b⟩ | ⟨a, b⟩
    · exact Or.inl ⟨a, Or.inl b⟩
    · exact Or.inr ⟨a, fun q => q.elim b (fun q => by omega)⟩
theorem mix_0 {K : GG} {S : Int → Prop} {w : Int} (h : isR K S) : mixR K S w 400 := fun j z0 z1 => ⟨fun q => by omega, fun _ => h j z0 z1⟩
theorem mix_step {K : GG} {S : Int → Prop} {w k v : Int} (hk : 0 ≤ k ∧ k ≤ 400) (h : mixR K S w k) (hv : (v = 1 ∧ stepS S w k) ∨ (v = 0 ∧ ¬ stepS S w k)) : mixR (setG K 19 k v) S w (k - 1) := by
  intro j z0 z1
  have e := h j z0 z1
  by_cases c : j = k
  · subst c
    rw [setG_same]
    exact ⟨fun _ => hv, fun q => by omega⟩
  · rw [setG_ne (by omega)]
    exact ⟨fun q => e.1 (by omega), fun q => e.2 (by omega)⟩
set_option maxHeartbeats 4000000 in
set_option maxRecDepth 100000 in
theorem L_mp87 {l : Launch} {D : va_G} {C : Nat → ClassId} {T : Nat → Nat} {ad : Int → Nat} (G : GG) {b t w n : Int} {S : Int → Prop} (hw : 1 ≤ w ∧ w ≤ 10) : ∀ (f : Nat) (k : Int) (K : GG), (-1 ≤ k ∧ k ≤ 400) → k + 1 < f → sameB (fun x y => x = 19 ∨ (x = 11 ∧ y = 7)) G K → K 11 7 = 0 → mixR K S w k → (∀ K1 : GG, sameB (fun x y => x = 19 ∨ (x = 11 ∧ y = 7)) G K1 → K1 11 7 = 0 → isR K1 (stepS S w) → AW l RX6 "mostPayable" cX6_mostPayable 6 (some .int) (fun _ => True) { frames := 1, cells := 0, slots := 0, locals := 22 } (hvE D (RI ad C (fun r G1 => quiet G G1 ∧ ((¬ (0 ≤ b ∧ b ≤ 2000) ∧ G1 11 7 = 1) ∨ ((0 ≤ b ∧ b ≤ 2000) ∧ G1 11 7 = 0 ∧ r = mpF (G 12 5) (G 12 6) (G 12 7) (G 12 8) (b / 5).toNat)))) (cw ad C G) 0 0) D (tyC C) (hvZ T (cw ad C G)) (cw ad C G) 133 [(0, .ref (ad 108)), (1, .int (iI b)), (2, .int (iI t)), (3, .int (iI w)), (4, .int (iI n))] [] (cw ad C K1) 0 0) → AW l RX6 "mostPayable" cX6_mostPayable 6 (some .int) (fun _ => True) { frames := 1, cells := 0, slots := 0, locals := 22 } (hvE D (RI ad C (fun r G1 => quiet G G1 ∧ ((¬ (0 ≤ b ∧ b ≤ 2000) ∧ G1 11 7 = 1) ∨ ((0 ≤ b ∧ b ≤ 2000) ∧ G1 11 7 = 0 ∧ r = mpF (G 12 5) (G 12 6) (G 12 7) (G 12 8) (b / 5).toNat)))) (cw ad C G) 0 0) D (tyC C) (hvZ T (cw ad C G)) (cw ad C G) 87 [(0, .ref (ad 108)), (1, .int (iI b)), (2, .int (iI t)), (3, .int (iI w)), (4, .int (iI n)), (5, .int (iI k))] [] (cw ad C K) 0 0 := by
  intro f
  induction f with
  | zero => intro k K hk hn; exact absurd hn (by omega)
  | succ f ih =>
    intro k K hk hn hs h7 hm kO
    refine aw_iload (q := 89) 5 dX6_mostPayable_87 rfl rfl ?_
    refine aw_iload_n (q := 90) 3 dX6_mostPayable_89 rfl rfl rfl ?_
    refine aw_icmp_lt (q := 93) dX6_mostPayable_90 rfl (t := 133) (by decide) (by omega) (by omega) (fun y1 => ?_) (fun y2 => ?_)
    · refine aw_sub [0, 1, 2, 3, 4] rfl ?_
      exact kO _ hs h7 (mix_all (by omega) hm)
    · have e1 := (hm k (by omega) (by omega)).2 (by omega)
      have e2 := (hm (k - w) (by omega) (by omega)).2 (by omega)
      refine aw_aload_n (q := 94) 0 dX6_mostPayable_93 rfl rfl rfl ?_
      refine g_mod_reached (q := 97) wf_RX6_31 dX6_mostPayable_94 rfl ?_
      refine aw_iload (q := 99) 5 dX6_mostPayable_97 rfl rfl ?_
      refine aw_aload_n (q := 100) 0 dX6_mostPayable_99 rfl rfl rfl ?_
      refine g_mod_reached (q := 103) wf_RX6_31 dX6_mostPayable_100 rfl ?_
      refine aw_iload (q := 105) 5 dX6_mostPayable_103 rfl rfl ?_
      refine aw_czal (q := 106) (v := (K 19 k)) (by omega) rfl dX6_mostPayable_105 rfl ?_
      refine aw_if_ne (q := 109) dX6_mostPayable_106 rfl (t := 121) (by decide) (by omega) (fun y3 => ?_) (fun y4 => ?_)
      · refine aw_iconst (q := 122) dX6_mostPayable_121 rfl ?_
        refine aw_goto (q := 126) dX6_mostPayable_122 (by decide) ?_
        refine aw_czas (q := 127) (by omega) (by first | omega | exact b2i_r _) dX6_mostPayable_126 rfl ?_
        refine ae_iinc (q := 130) (lv2 := [(0, .ref (ad 108)), (1, .int (iI b)), (2, .int (iI t)), (3, .int (iI w)), (4, .int (iI n)), (5, .int (iI (k - 1)))]) 5 [1, 2, 3, 4, 5, 0] (k - 1) (by omega) dX6_mostPayable_127 rfl rfl (by decide) rfl ?_
        refine aw_goto (q := 87) dX6_mostPayable_130 (by decide) ?_
        exact ih (k - 1) _ (by omega) (by omega) (fun x y z => (setG_ne (by omega)).trans (hs x y z)) ((setG_ne (by omega)).trans h7) (mix_step ⟨by omega, by omega⟩ hm (Or.inl ⟨rfl, by rcases e1 with ⟨u1, u2⟩ | ⟨u1, u2⟩ <;> rcases e2 with ⟨u3, u4⟩ | ⟨u3, u4⟩ <;> first | exact Or.inl u2 | exact Or.inr ⟨by omega, u4⟩ | (exfalso; omega)⟩)) kO
      · refine aw_aload_n (q := 110) 0 dX6_mostPayable_109 rfl rfl rfl ?_
        refine g_mod_reached (q := 113) wf_RX6_31 dX6_mostPayable_110 rfl ?_
        refine aw_iload (q := 115) 5 dX6_mostPayable_113 rfl rfl ?_
        refine aw_iload_n (q := 116) 3 dX6_mostPayable_115 rfl rfl rfl ?_
        refine ae_isub (q := 117) (k - w) (by omega) dX6_mostPayable_116 rfl ?_
        refine aw_czal (q := 118) (v := (K 19 (k - w))) (by omega) rfl dX6_mostPayable_117 rfl ?_
        refine aw_if_eq (q := 121) dX6_mostPayable_118 rfl (t := 125) (by decide) (by omega) (fun y5 => ?_) (fun y6 => ?_)
        · refine aw_iconst (q := 126) dX6_mostPayable_125 rfl ?_
          refine aw_czas (q := 127) (by omega) (by first | omega | exact b2i_r _) dX6_mostPayable_126 rfl ?_
          refine ae_iinc (q := 130) (lv2 := [(0, .ref (ad 108)), (1, .int (iI b)), (2, .int (iI t)), (3, .int (iI w)), (4, .int (iI n)), (5, .int (iI (k - 1)))]) 5 [1, 2, 3, 4, 5, 0] (k - 1) (by omega) dX6_mostPayable_127 rfl rfl (by decide) rfl ?_
          refine aw_goto (q := 87) dX6_mostPayable_130 (by decide) ?_
          exact ih (k - 1) _ (by omega) (by omega) (fun x y z => (setG_ne (by omega)).trans (hs x y z)) ((setG_ne (by omega)).trans h7) (mix_step ⟨by omega, by omega⟩ hm (Or.inr ⟨rfl, fun q => by
              rcases q with q | ⟨-, q⟩ <;> rcases e1 with ⟨u1, u2⟩ | ⟨u1, u2⟩ <;> rcases e2 with ⟨u3, u4⟩ | ⟨u3, u4⟩ <;> first | exact u2 q | exact u4 q | (exfalso; omega)⟩)) kO
        · refine aw_iconst (q := 122) dX6_mostPayable_121 rfl ?_
          refine aw_goto (q := 126) dX6_mostPayable_122 (by decide) ?_
          refine aw_czas (q := 127) (by omega) (by first | omega | exact b2i_r _) dX6_mostPayable_126 rfl ?_
          refine ae_iinc (q := 130) (lv2 := [(0, .ref (ad 108)), (1, .int (iI b)), (2, .int (iI t)), (3, .int (iI w)), (4, .int (iI n)), (5, .int (iI (k - 1)))]) 5 [1, 2, 3, 4, 5, 0] (k - 1) (by omega) dX6_mostPayable_127 rfl rfl (by decide) rfl ?_
          refine aw_goto (q := 87) dX6_mostPayable_130 (by decide) ?_
          exact ih (k - 1) _ (by omega) (by omega) (fun x y z => (setG_ne (by omega)).trans (hs x y z)) ((setG_ne (by omega)).trans h7) (mix_step ⟨by omega, by omega⟩ hm (Or.inl ⟨rfl, by rcases e1 with ⟨u1, u2⟩ | ⟨u1, u2⟩ <;> rcases e2 with ⟨u3, u4⟩ | ⟨u3, u4⟩ <;> first | exact Or.inl u2 | exact Or.inr ⟨by omega, u4⟩ | (exfalso; omega)⟩)) kO
set_option maxHeartbeats 4000000 in
set_option maxRecDepth 100000 in
theorem L_mp69 {l : Launch} {D : va_G} {C : Nat → ClassId} {T : Nat → Nat} {ad : Int → Nat} (G : GG) {b t w : Int} {S : Int → Prop} (hw : 1 ≤ w ∧ w ≤ 10) (ht : 0 ≤ t ∧ t ≤ 3) (hp : 0 ≤ G 12 (5 + t) ∧ G 12 (5 + t) ≤ 30) : ∀ (f : Nat) (n : Int) (K : GG), (0 ≤ n ∧ n ≤ G 12 (5 + t)) → G 12 (5 + t) - n < f → sameB (fun x y => x = 19 ∨ (x = 11 ∧ y = 7)) G K → K 11 7 = 0 → isR K (itS S w n.toNat) → (∀ K1 : GG, sameB (fun x y => x = 19 ∨ (x = 11 ∧ y = 7)) G K1 → K1 11 7 = 0 → isR K1 (itS S w (G 12 (5 + t)).toNat) → AW l RX6 "mostPayable" cX6_mostPayable 6 (some .int) (fun _ => True) { frames := 1, cells := 0, slots := 0, locals := 22 } (hvE D (RI ad C (fun r G1 => quiet G G1 ∧ ((¬ (0 ≤ b ∧ b ≤ 2000) ∧ G1 11 7 = 1) ∨ ((0 ≤ b ∧ b ≤ 2000) ∧ G1 11 7 = 0 ∧ r = mpF (G 12 5) (G 12 6) (G 12 7) (G 12 8) (b / 5).toNat)))) (cw ad C G) 0 0) D (tyC C) (hvZ T (cw ad C G)) (cw ad C G) 139 [(0, .ref (ad 108)), (1, .int (iI b)), (2, .int (iI t)), (3, .int (iI w))] [] (cw ad C K1) 0 0) → AW l RX6 "mostPayable" cX6_mostPayable 6 (some .int) (fun _ => True) { frames := 1, cells := 0, slots := 0, locals := 22 } (hvE D (RI ad C (fun r G1 => quiet G G1 ∧ ((¬ (0 ≤ b ∧ b ≤ 2000) ∧ G1 11 7 = 1) ∨ ((0 ≤ b ∧ b ≤ 2000) ∧ G1 11 7 = 0 ∧ r = mpF (G 12 5) (G 12 6) (G 12 7) (G 12 8) (b / 5).toNat)))) (cw ad C G) 0 0) D (tyC C) (hvZ T (cw ad C G)) (cw ad C G) 69 [(0, .ref (ad 108)), (1, .int (iI b)), (2, .int (iI t)), (3, .int (iI w)), (4, .int (iI n))] [] (cw ad C K) 0 0 := by
  intro f
  induction f with
  | zero => intro n K hk hn; exact absurd hn (by omega)
  | succ f ih =>
    intro n K hk hn hs h7 hm kO
    refine aw_iload (q := 71) 4 dX6_mostPayable_69 rfl rfl ?_
    refine aw_aload_n (q := 72) 0 dX6_mostPayable_71 rfl rfl rfl ?_
    refine g_mod_p (q := 75) wf_RX6_7 dX6_mostPayable_72 rfl ?_
    refine aw_iconst (q := 76) dX6_mostPayable_75 rfl ?_
    refine aw_iload_n (q := 77) 2 dX6_mostPayable_76 rfl rfl rfl ?_
    refine ae_iadd (q := 78) (5 + t) (by omega) dX6_mostPayable_77 rfl ?_
    refine aw_cial (q := 79) (v := (G 12 (5 + t))) (5 + t) (ar_109 ad C) (by omega) (by omega) ((hs _ _ (by omega))) dX6_mostPayable_78 rfl ?_
    refine aw_icmp_ge (q := 82) dX6_mostPayable_79 rfl (t := 139) (by decide) (by omega) (by omega) (fun y1 => ?_) (fun y2 => ?_)
    · refine aw_sub [0, 1, 2, 3] rfl ?_
      rw [show n = G 12 (5 + t) by omega] at hm
      exact kO _ hs h7 hm
    · refine aw_sipush (q := 85) dX6_mostPayable_82 rfl (by decide) ?_
      refine aw_istore (q := 87) (lv2 := [(0, .ref (ad 108)), (1, .int (iI b)), (2, .int (iI t)), (3, .int (iI w)), (4, .int (iI n)), (5, .int (iI 400))]) [1, 2, 3, 4, 5, 0] dX6_mostPayable_85 rfl (by decide) rfl rfl ?_
      refine L_mp87 G hw 402 400 K (by omega) (by omega) hs h7 (mix_0 hm) (fun K1 hs1 g1 hm1 => ?_)
      refine ae_iinc (q := 136) (lv2 := [(0, .ref (ad 108)), (1, .int (iI b)), (2, .int (iI t)), (3, .int (iI w)), (4, .int (iI (n + 1)))]) 4 [1, 2, 3, 4, 0] (n + 1) (by omega) dX6_mostPayable_133 rfl rfl (by decide) rfl ?_
      refine aw_goto (q := 69) dX6_mostPayable_136 (by decide) ?_
      exact ih (n + 1) _ (by omega) (by omega) hs1 g1 (by rw [itS_succ S w (by omega)]; exact hm1) kO
set_option maxHeartbeats 4000000 in
set_option maxRecDepth 100000 in
theorem L_mp149 {l : Launch} {D : va_G} {C : Nat → ClassId} {T : Nat → Nat} {ad : Int → Nat} (G K : GG) {b : Int} (hb : (0 ≤ b ∧ b ≤ 2000)) (hs : sameB (fun x y => x = 19 ∨ (x = 11 ∧ y = 7)) G K) (h7 : K 11 7 = 0) (hm : ∀ m : Int, 0 ≤ m → m ≤ 400 → (K 19 m = 1 ∧ canF (G 12 5) (G 12 6) (G 12 7) (G 12 8) (5 * m)) ∨ (K 19 m = 0 ∧ ¬ canF (G 12 5) (G 12 6) (G 12 7) (G 12 8) (5 * m))) (h0 : K 19 0 = 1) : ∀ (f : Nat) (m : Int), (0 ≤ m ∧ m ≤ 400) → m < f → mpF (G 12 5) (G 12 6) (G 12 7) (G 12 8) m.toNat = mpF (G 12 5) (G 12 6) (G 12 7) (G 12 8) (b / 5).toNat → AW l RX6 "mostPayable" cX6_mostPayable 6 (some .int) (fun _ => True) { frames := 1, cells := 0, slots := 0, locals := 22 } (hvE D (RI ad C (fun r G1 => quiet G G1 ∧ ((¬ (0 ≤ b ∧ b ≤ 2000) ∧ G1 11 7 = 1) ∨ ((0 ≤ b ∧ b ≤ 2000) ∧ G1 11 7 = 0 ∧ r = mpF (G 12 5) (G 12 6) (G 12 7) (G 12 8) (b / 5).toNat)))) (cw ad C G) 0 0) D (tyC C) (hvZ T (cw ad C G)) (cw ad C G) 149 [(0, .ref (ad 108)), (1, .int (iI b)), (2, .int (iI m))] [] (cw ad C K) 0 0 := by
  intro f
  induction f with
  | zero => intro m hk hn; exact absurd hn (by omega)
  | succ f ih =>
    intro m hk hn hE
    have e1 := hm m hk.1 hk.2
    have h01 : m = 0 → K 19 m = 1 := fun z => by rw [z]; exact h0
    refine aw_aload_n (q := 150) 0 dX6_mostPayable_149 rfl rfl rfl ?_
    refine g_mod_reached (q := 153) wf_RX6_31 dX6_mostPayable_150 rfl ?_
    refine aw_iload_n (q := 154) 2 dX6_mostPayable_153 rfl rfl rfl ?_
    refine aw_czal (q := 155) (v := (K 19 m)) (by omega) rfl dX6_mostPayable_154 rfl ?_
    refine aw_if_ne (q := 158) dX6_mostPayable_155 rfl (t := 164) (by decide) (by omega) (fun y1 => ?_) (fun y2 => ?_)
    · refine aw_iconst (q := 165) dX6_mostPayable_164 rfl ?_
      refine aw_iload_n (q := 166) 2 dX6_mostPayable_165 rfl rfl rfl ?_
      refine ae_imul (q := 167) (5 * m) (by omega) dX6_mostPayable_166 rfl ?_
      exact rt_i rfl (Nat.le_refl _) (Nat.le_refl _) (⟨⟨fun y _ _ => hs 12 y (by omega), fun x y z => hs x y (by omega)⟩, Or.inr ⟨hb, h7, by
          rw [← hE]
          by_cases z : m = 0
          · subst z; rfl
          · have e9 := mpF_1 (h0 := G 12 5) (h1 := G 12 6) (h2 := G 12 7) (h3 := G 12 8) (c := 5 * m) (by omega) (by rcases e1 with ⟨u1, u2⟩ | ⟨u1, u2⟩ <;> first | exact u2 | (exfalso; omega)); rw [show (5 * m / 5).toNat = m.toNat by omega] at e9; exact e9.symm⟩⟩) dX6_mostPayable_167
    · refine ae_iinc (q := 161) (lv2 := [(0, .ref (ad 108)), (1, .int (iI b)), (2, .int (iI (m - 1)))]) 2 [1, 2, 0] (m - 1) (by omega) dX6_mostPayable_158 rfl rfl (by decide) rfl ?_
      refine aw_goto (q := 149) dX6_mostPayable_161 (by decide) ?_
      exact ih (m - 1) (by omega) (by omega) (by rw [← hE]; have e9 := mpF_0 (h0 := G 12 5) (h1 := G 12 6) (h2 := G 12 7) (h3 := G 12 8) (c := 5 * m) (by omega) (fun q => by rcases e1 with ⟨u1, u2⟩ | ⟨u1, u2⟩ <;> first | omega | exact u2 q); rw [show (5 * m / 5).toNat = m.toNat by omega, show ((5 * m - 5) / 5).toNat = (m - 1).toNat by omega] at e9; exact e9.symm)
set_option maxHeartbeats 4000000 in
set_option maxRecDepth 100000 in
theorem L_mp24 {l : Launch} {D : va_G} {C : Nat → ClassId} {T : Nat → Nat} {ad : Int → Nat} (G : GG) {b : Int} : ∀ (f : Nat) (k : Int) (K : GG), (0 ≤ k ∧ k ≤ 401) → 401 - k < f → sameB (fun x y => x = 19 ∨ (x = 11 ∧ y = 7)) G K → K 11 7 = 0 → (∀ j : Int, 0 ≤ j → j < k → (K 19 j = 1 ∧ j = 0) ∨ (K 19 j = 0 ∧ ¬ j = 0)) → (∀ K1 : GG, sameB (fun x y => x = 19 ∨ (x = 11 ∧ y = 7)) G K1 → K1 11 7 = 0 → isR K1 (fun j => j = 0) → AW l RX6 "mostPayable" cX6_mostPayable 6 (some .int) (fun _ => True) { frames := 1, cells := 0, slots := 0, locals := 22 } (hvE D (RI ad C (fun r G1 => quiet G G1 ∧ ((¬ (0 ≤ b ∧ b ≤ 2000) ∧ G1 11 7 = 1) ∨ ((0 ≤ b ∧ b ≤ 2000) ∧ G1 11 7 = 0 ∧ r = mpF (G 12 5) (G 12 6) (G 12 7) (G 12 8) (b / 5).toNat)))) (cw ad C G) 0 0) D (tyC C) (hvZ T (cw ad C G)) (cw ad C G) 52 [(0, .ref (ad 108)), (1, .int (iI b))] [] (cw ad C K1) 0 0) → AW l RX6 "mostPayable" cX6_mostPayable 6 (some .int) (fun _ => True) { frames := 1, cells := 0, slots := 0, locals := 22 } (hvE D (RI ad C (fun r G1 => quiet G G1 ∧ ((¬ (0 ≤ b ∧ b ≤ 2000) ∧ G1 11 7 = 1) ∨ ((0 ≤ b ∧ b ≤ 2000) ∧ G1 11 7 = 0 ∧ r = mpF (G 12 5) (G 12 6) (G 12 7) (G 12 8) (b / 5).toNat)))) (cw ad C G) 0 0) D (tyC C) (hvZ T (cw ad C G)) (cw ad C G) 24 [(0, .ref (ad 108)), (1, .int (iI b)), (2, .int (iI k))] [] (cw ad C K) 0 0 := by
  intro f
  induction f with
  | zero => intro k K hk hn; exact absurd hn (by omega)
  | succ f ih =>
    intro k K hk hn hs h7 hm kO
    refine aw_iload_n (q := 25) 2 dX6_mostPayable_24 rfl rfl rfl ?_
    refine aw_sipush (q := 28) dX6_mostPayable_25 rfl (by decide) ?_
    refine aw_icmp_gt (q := 31) dX6_mostPayable_28 rfl (t := 52) (by decide) (by omega) (by omega) (fun y1 => ?_) (fun y2 => ?_)
    · refine aw_sub [0, 1] rfl ?_
      exact kO _ hs h7 (fun j z0 z1 => by have := hm j z0 (by omega); show (_ ∧ j = 0) ∨ (_ ∧ ¬ j = 0); omega)
    · refine aw_aload_n (q := 32) 0 dX6_mostPayable_31 rfl rfl rfl ?_
      refine g_mod_reached (q := 35) wf_RX6_31 dX6_mostPayable_32 rfl ?_
      refine aw_iload_n (q := 36) 2 dX6_mostPayable_35 rfl rfl rfl ?_
      refine aw_iload_n (q := 37) 2 dX6_mostPayable_36 rfl rfl rfl ?_
      refine aw_if_ne (q := 40) dX6_mostPayable_37 rfl (t := 44) (by decide) (by omega) (fun y3 => ?_) (fun y4 => ?_)
      · refine aw_iconst (q := 45) dX6_mostPayable_44 rfl ?_
        refine aw_czas (q := 46) (by omega) (by first | omega | exact b2i_r _) dX6_mostPayable_45 rfl ?_
        refine ae_iinc (q := 49) (lv2 := [(0, .ref (ad 108)), (1, .int (iI b)), (2, .int (iI (k + 1)))]) 2 [1, 2, 0] (k + 1) (by omega) dX6_mostPayable_46 rfl rfl (by decide) rfl ?_
        refine aw_goto (q := 24) dX6_mostPayable_49 (by decide) ?_
        exact ih (k + 1) _ (by omega) (by omega) (fun x y z => (setG_ne (by omega)).trans (hs x y z)) ((setG_ne (by omega)).trans h7) (fun j z0 z1 => by
          by_cases c : j = k
          · rw [c, setG_same]; omega
          · rw [setG_ne (by omega)]; exact hm j z0 (by omega)) kO
      · refine aw_iconst (q := 41) dX6_mostPayable_40 rfl ?_
        refine aw_goto (q := 45) dX6_mostPayable_41 (by decide) ?_
        refine aw_czas (q := 46) (by omega) (by first | omega | exact b2i_r _) dX6_mostPayable_45 rfl ?_
        refine ae_iinc (q := 49) (lv2 := [(0, .ref (ad 108)), (1, .int (iI b)), (2, .int (iI (k + 1)))]) 2 [1, 2, 0] (k + 1) (by omega) dX6_mostPayable_46 rfl rfl (by decide) rfl ?_
        refine aw_goto (q := 24) dX6_mostPayable_49 (by decide) ?_
        exact ih (k + 1) _ (by omega) (by omega) (fun x y z => (setG_ne (by omega)).trans (hs x y z)) ((setG_ne (by omega)).trans h7) (fun j z0 z1 => by
          by_cases c : j = k
          · rw [c, setG_same]; omega
          · rw [setG_ne (by omega)]; exact hm j z0 (by omega)) kO
set_option maxHeartbeats 4000000 in
set_option maxRecDepth 100000 in
theorem c_mostPayableM {l : Launch} {D : va_G} {C : Nat → ClassId} {T : Nat → Nat} {ad : Int → Nat} (G : GG) {b : Int} (htu : ∀ k : Int, 0 ≤ k → k < 4 → 0 ≤ G 12 (5 + k) ∧ G 12 (5 + k) ≤ 30) (hb : -2147483648 ≤ b ∧ b ≤ 2147483647) : MC l yX6_mostPayable cX6_mostPayable 6 (some .int) 1 22 0 0 D (tyC C) T [.ref (ad 108), .int (iI b)] (cw ad C G) (RI ad C (fun r G1 => quiet G G1 ∧ ((¬ (0 ≤ b ∧ b ≤ 2000) ∧ G1 11 7 = 1) ∨ ((0 ≤ b ∧ b ≤ 2000) ∧ G1 11 7 = 0 ∧ r = mpF (G 12 5) (G 12 6) (G 12 7) (G 12 8) (b / 5).toNat)))) := by
  refine mc_of (by decide +kernel) (Nat.le_of_ble_eq_true rfl) rfl ?_
  refine aw_aload_n (q := 1) 0 dX6_mostPayable_0 rfl rfl rfl ?_
  refine aw_iconst (q := 2) dX6_mostPayable_1 rfl ?_
  refine p_mod_thrown (q := 5) wf_RX6_38 dX6_mostPayable_2 rfl ?_
  refine aw_iload_n (q := 6) 1 dX6_mostPayable_5 rfl rfl rfl ?_
  refine aw_iconst (q := 7) dX6_mostPayable_6 rfl ?_
  refine aw_sipush (q := 10) dX6_mostPayable_7 rfl (by decide) ?_
  refine cs_I (q := 13) (As := [.int (iI b), .int (iI 0), .int (iI 2000)]) 3 (c_in (T := T) (D := D) (ad := ad) (setG G 11 7 0) (by omega) (by omega) (by omega)) (fun _ h => h) wc_X6_in wm_RX6_62 wt_X6_in wn_X6 (by decide) rfl ⟨Nat.le_of_ble_eq_true rfl, Nat.le_of_ble_eq_true rfl⟩ ⟨Nat.le_of_ble_eq_true rfl, Nat.le_of_ble_eq_true rfl⟩ (Nat.le_of_ble_eq_true rfl) dX6_mostPayable_10 rfl (fun r9 G9 h9 => ?_)
  rw [h9.1, h9.2]
  clear h9
  refine aw_ifb_ne (q := 16) dX6_mostPayable_13 rfl (t := 22) (by decide) (fun y1 => ?_) (fun y2 => ?_)
  · refine aw_iconst (q := 23) dX6_mostPayable_22 rfl ?_
    refine aw_istore_n (q := 24) (lv2 := [(0, .ref (ad 108)), (1, .int (iI b)), (2, .int (iI 0))]) [1, 2, 0] dX6_mostPayable_23 rfl rfl (by decide) rfl rfl ?_
    refine L_mp24 G 402 0 _ (by omega) (by omega) (fun x y z => setG_ne (by omega)) (setG_same _ _ _ _) (fun j z0 z1 => by omega) (fun K1 hs1 g1 hm1 => ?_)
    refine aw_iconst (q := 53) dX6_mostPayable_52 rfl ?_
    refine aw_istore_n (q := 54) (lv2 := [(0, .ref (ad 108)), (1, .int (iI b)), (2, .int (iI 0))]) [1, 2, 0] dX6_mostPayable_53 rfl rfl (by decide) rfl rfl ?_
    refine aw_iload_n (q := 55) 2 dX6_mostPayable_54 rfl rfl rfl ?_
    refine aw_iconst (q := 56) dX6_mostPayable_55 rfl ?_
    refine aw_icmp_ge (q := 59) dX6_mostPayable_56 rfl (t := 145) (by decide) (by omega) (by omega) (fun h => absurd h (by omega)) (fun _ => ?_)
    refine aw_iload_n (q := 60) 2 dX6_mostPayable_59 rfl rfl rfl ?_
    refine cs_I (q := 63) (As := [.int (iI 0)]) 1 (c_worthM0 (T := T) (D := D) (ad := ad) K1) (fun _ h => h) wc_X6_worth wm_RX6_72 wt_X6_worth wn_X6 (by decide) rfl ⟨Nat.le_of_ble_eq_true rfl, Nat.le_of_ble_eq_true rfl⟩ ⟨Nat.le_of_ble_eq_true rfl, Nat.le_of_ble_eq_true rfl⟩ (Nat.le_of_ble_eq_true rfl) dX6_mostPayable_60 rfl (fun r9 G9 h9 => ?_)
    rw [h9.1, h9.2]
    clear h9
    refine aw_iconst (q := 64) dX6_mostPayable_63 rfl ?_
    refine aw_div5 (q := 65) (z := 1) (by omega) (by omega) (by decide) dX6_mostPayable_64 rfl ?_
    refine aw_istore_n (q := 66) (lv2 := [(0, .ref (ad 108)), (1, .int (iI b)), (2, .int (iI 0)), (3, .int (iI 1))]) [1, 2, 3, 0] dX6_mostPayable_65 rfl rfl (by decide) rfl rfl ?_
    refine aw_iconst (q := 67) dX6_mostPayable_66 rfl ?_
    refine aw_istore (q := 69) (lv2 := [(0, .ref (ad 108)), (1, .int (iI b)), (2, .int (iI 0)), (3, .int (iI 1)), (4, .int (iI 0))]) [1, 2, 3, 4, 0] dX6_mostPayable_67 rfl (by decide) rfl rfl ?_
    refine L_mp69 G (t := 0) (w := 1) (by omega) (by omega) (htu 0 (by omega) (by omega)) 32 0 K1 (by have := htu 0 (by omega) (by omega); omega) (by have := htu 0 (by omega) (by omega); omega) hs1 g1 hm1 (fun K2 hs2 g2 hm2 => ?_)
    refine ae_iinc (q := 142) (lv2 := [(0, .ref (ad 108)), (1, .int (iI b)), (2, .int (iI 1)), (3, .int (iI 1))]) 2 [1, 2, 0, 3] 1 (by omega) dX6_mostPayable_139 rfl rfl (by decide) rfl ?_
    refine aw_goto (q := 54) dX6_mostPayable_142 (by decide) ?_
    refine aw_iload_n (q := 55) 2 dX6_mostPayable_54 rfl rfl rfl ?_
    refine aw_iconst (q := 56) dX6_mostPayable_55 rfl ?_
    refine aw_icmp_ge (q := 59) dX6_mostPayable_56 rfl (t := 145) (by decide) (by omega) (by omega) (fun h => absurd h (by omega)) (fun _ => ?_)
    refine aw_iload_n (q := 60) 2 dX6_mostPayable_59 rfl rfl rfl ?_
    refine cs_I (q := 63) (As := [.int (iI 1)]) 1 (c_worthM1 (T := T) (D := D) (ad := ad) K2) (fun _ h => h) wc_X6_worth wm_RX6_72 wt_X6_worth wn_X6 (by decide) rfl ⟨Nat.le_of_ble_eq_true rfl, Nat.le_of_ble_eq_true rfl⟩ ⟨Nat.le_of_ble_eq_true rfl, Nat.le_of_ble_eq_true rfl⟩ (Nat.le_of_ble_eq_true rfl) dX6_mostPayable_60 rfl (fun r9 G9 h9 => ?_)
    rw [h9.1, h9.2]
    clear h9
    refine aw_iconst (q := 64) dX6_mostPayable_63 rfl ?_
    refine aw_div5 (q := 65) (z := 2) (by omega) (by omega) (by decide) dX6_mostPayable_64 rfl ?_
    refine aw_istore_n (q := 66) (lv2 := [(0, .ref (ad 108)), (1, .int (iI b)), (2, .int (iI 1)), (3, .int (iI 2))]) [1, 2, 3, 0] dX6_mostPayable_65 rfl rfl (by decide) rfl rfl ?_
    refine aw_iconst (q := 67) dX6_mostPayable_66 rfl ?_
    refine aw_istore (q := 69) (lv2 := [(0, .ref (ad 108)), (1, .int (iI b)), (2, .int (iI 1)), (3, .int (iI 2)), (4, .int (iI 0))]) [1, 2, 3, 4, 0] dX6_mostPayable_67 rfl (by decide) rfl rfl ?_
    refine L_mp69 G (t := 1) (w := 2) (by omega) (by omega) (htu 1 (by omega) (by omega)) 32 0 K2 (by have := htu 1 (by omega) (by omega); omega) (by have := htu 1 (by omega) (by omega); omega) hs2 g2 hm2 (fun K3 hs3 g3 hm3 => ?_)
    refine ae_iinc (q := 142) (lv2 := [(0, .ref (ad 108)), (1, .int (iI b)), (2, .int (iI 2)), (3, .int (iI 2))]) 2 [1, 2, 0, 3] 2 (by omega) dX6_mostPayable_139 rfl rfl (by decide) rfl ?_
    refine aw_goto (q := 54) dX6_mostPayable_142 (by decide) ?_
    refine aw_iload_n (q := 55) 2 dX6_mostPayable_54 rfl rfl rfl ?_
    refine aw_iconst (q := 56) dX6_mostPayable_55 rfl ?_
    refine aw_icmp_ge (q := 59) dX6_mostPayable_56 rfl (t := 145) (by decide) (by omega) (by omega) (fun h => absurd h (by omega)) (fun _ => ?_)
    refine aw_iload_n (q := 60) 2 dX6_mostPayable_59 rfl rfl rfl ?_
    refine cs_I (q := 63) (As := [.int (iI 2)]) 1 (c_worthM2 (T := T) (D := D) (ad := ad) K3) (fun _ h => h) wc_X6_worth wm_RX6_72 wt_X6_worth wn_X6 (by decide) rfl ⟨Nat.le_of_ble_eq_true rfl, Nat.le_of_ble_eq_true rfl⟩ ⟨Nat.le_of_ble_eq_true rfl, Nat.le_of_ble_eq_true rfl⟩ (Nat.le_of_ble_eq_true rfl) dX6_mostPayable_60 rfl (fun r9 G9 h9 => ?_)
    rw [h9.1, h9.2]
    clear h9
    refine aw_iconst (q := 64) dX6_mostPayable_63 rfl ?_
    refine aw_div5 (q := 65) (z := 4) (by omega) (by omega) (by decide) dX6_mostPayable_64 rfl ?_
    refine aw_istore_n (q := 66) (lv2 := [(0, .ref (ad 108)), (1, .int (iI b)), (2, .int (iI 2)), (3, .int (iI 4))]) [1, 2, 3, 0] dX6_mostPayable_65 rfl rfl (by decide) rfl rfl ?_
    refine aw_iconst (q := 67) dX6_mostPayable_66 rfl ?_
    refine aw_istore (q := 69) (lv2 := [(0, .ref (ad 108)), (1, .int (iI b)), (2, .int (iI 2)), (3, .int (iI 4)), (4, .int (iI 0))]) [1, 2, 3, 4, 0] dX6_mostPayable_67 rfl (by decide) rfl rfl ?_
    refine L_mp69 G (t := 2) (w := 4) (by omega) (by omega) (htu 2 (by omega) (by omega)) 32 0 K3 (by have := htu 2 (by omega) (by omega); omega) (by have := htu 2 (by omega) (by omega); omega) hs3 g3 hm3 (fun K4 hs4 g4 hm4 => ?_)
    refine ae_iinc (q := 142) (lv2 := [(0, .ref (ad 108)), (1, .int (iI b)), (2, .int (iI 3)), (3, .int (iI 4))]) 2 [1, 2, 0, 3] 3 (by omega) dX6_mostPayable_139 rfl rfl (by decide) rfl ?_
    refine aw_goto (q := 54) dX6_mostPayable_142 (by decide) ?_
    refine aw_iload_n (q := 55) 2 dX6_mostPayable_54 rfl rfl rfl ?_
    refine aw_iconst (q := 56) dX6_mostPayable_55 rfl ?_
    refine aw_icmp_ge (q := 59) dX6_mostPayable_56 rfl (t := 145) (by decide) (by omega) (by omega) (fun h => absurd h (by omega)) (fun _ => ?_)
    refine aw_iload_n (q := 60) 2 dX6_mostPayable_59 rfl rfl rfl ?_
    refine cs_I (q := 63) (As := [.int (iI 3)]) 1 (c_worthM3 (T := T) (D := D) (ad := ad) K4) (fun _ h => h) wc_X6_worth wm_RX6_72 wt_X6_worth wn_X6 (by decide) rfl ⟨Nat.le_of_ble_eq_true rfl, Nat.le_of_ble_eq_true rfl⟩ ⟨Nat.le_of_ble_eq_true rfl, Nat.le_of_ble_eq_true rfl⟩ (Nat.le_of_ble_eq_true rfl) dX6_mostPayable_60 rfl (fun r9 G9 h9 => ?_)
    rw [h9.1, h9.2]
    clear h9
    refine aw_iconst (q := 64) dX6_mostPayable_63 rfl ?_
    refine aw_div5 (q := 65) (z := 10) (by omega) (by omega) (by decide) dX6_mostPayable_64 rfl ?_
    refine aw_istore_n (q := 66) (lv2 := [(0, .ref (ad 108)), (1, .int (iI b)), (2, .int (iI 3)), (3, .int (iI 10))]) [1, 2, 3, 0] dX6_mostPayable_65 rfl rfl (by decide) rfl rfl ?_
    refine aw_iconst (q := 67) dX6_mostPayable_66 rfl ?_
    refine aw_istore (q := 69) (lv2 := [(0, .ref (ad 108)), (1, .int (iI b)), (2, .int (iI 3)), (3, .int (iI 10)), (4, .int (iI 0))]) [1, 2, 3, 4, 0] dX6_mostPayable_67 rfl (by decide) rfl rfl ?_
    refine L_mp69 G (t := 3) (w := 10) (by omega) (by omega) (htu 3 (by omega) (by omega)) 32 0 K4 (by have := htu 3 (by omega) (by omega); omega) (by have := htu 3 (by omega) (by omega); omega) hs4 g4 hm4 (fun K5 hs5 g5 hm5 => ?_)
    refine ae_iinc (q := 142) (lv2 := [(0, .ref (ad 108)), (1, .int (iI b)), (2, .int (iI 4)), (3, .int (iI 10))]) 2 [1, 2, 0, 3] 4 (by omega) dX6_mostPayable_139 rfl rfl (by decide) rfl ?_
    refine aw_goto (q := 54) dX6_mostPayable_142 (by decide) ?_
    refine aw_iload_n (q := 55) 2 dX6_mostPayable_54 rfl rfl rfl ?_
    refine aw_iconst (q := 56) dX6_mostPayable_55 rfl ?_
    refine aw_icmp_ge (q := 59) dX6_mostPayable_56 rfl (t := 145) (by decide) (by omega) (by omega) (fun _ => ?_) (fun h => absurd h (by omega))
    refine aw_iload_n (q := 146) 1 dX6_mostPayable_145 rfl rfl rfl ?_
    refine aw_iconst (q := 147) dX6_mostPayable_146 rfl ?_
    obtain ⟨d1, hd1⟩ : ∃ z, (b / 5) = z := ⟨_, rfl⟩
    refine aw_div5 (q := 148) (z := d1) (by omega) (by omega) hd1 dX6_mostPayable_147 rfl ?_
    refine aw_istore_n (q := 149) (lv2 := [(0, .ref (ad 108)), (1, .int (iI b)), (2, .int (iI d1)), (3, .int (iI 10))]) [1, 2, 0, 3] dX6_mostPayable_148 rfl rfl (by decide) rfl rfl ?_
    refine aw_sub [0, 1, 2] rfl ?_
    have hm9 : isR K5 (S4 (G 12 5) (G 12 6) (G 12 7) (G 12 8)) := hm5
    have t0 : 0 ≤ G 12 5 ∧ G 12 5 ≤ 30 := htu 0 (by omega) (by omega)
    have t1 : 0 ≤ G 12 6 ∧ G 12 6 ≤ 30 := htu 1 (by omega) (by omega)
    have t2 : 0 ≤ G 12 7 ∧ G 12 7 ≤ 30 := htu 2 (by omega) (by omega)
    have t3 : 0 ≤ G 12 8 ∧ G 12 8 ≤ 30 := htu 3 (by omega) (by omega)
    have hs4 : ∀ j : Int, 0 ≤ j → (S4 (G 12 5) (G 12 6) (G 12 7) (G 12 8) j ↔ canF (G 12 5) (G 12 6) (G 12 7) (G 12 8) (5 * j)) := fun j z0 => S4_iff (by omega) (by omega) (by omega) (by omega) z0
    refine L_mp149 G K5 ⟨by omega, by omega⟩ hs5 g5 (fun m z0 z1 => by rw [← hs4 m z0]; exact hm9 m z0 z1) ?_ 402 d1 (by omega) (by omega) (by rw [show d1 = b / 5 by omega])
    rcases hm9 0 (by omega) (by omega) with ⟨u1, -⟩ | ⟨-, u2⟩
    · exact u1
    · exact absurd ((hs4 0 (by omega)).mpr (canF_0 t0.1 t1.1 t2.1 t3.1)) u2
  · refine aw_aload_n (q := 17) 0 dX6_mostPayable_16 rfl rfl rfl ?_
    refine aw_iconst (q := 18) dX6_mostPayable_17 rfl ?_
    refine cv_I (q := 21) (CC := "") (id := 108) (As := [.int (iI 1)]) 1 (c_fails (T := T) (D := D) (ad := ad) (setG G 11 7 0)) (fun _ h => h) (by omega) (cell_108 ad C _) rfl wc_X6_fails wm_RX6_154 wi_X6_fails ws_X6_fails wn_X6 (by decide) rfl ⟨Nat.le_of_ble_eq_true rfl, Nat.le_of_ble_eq_true rfl⟩ ⟨Nat.le_of_ble_eq_true rfl, Nat.le_of_ble_eq_true rfl⟩ (Nat.le_of_ble_eq_true rfl) dX6_mostPayable_18 rfl (fun r9 G9 h9 => ?_)
    rw [h9.1, h9.2]
    clear h9
    exact rt_i rfl (Nat.le_refl _) (Nat.le_refl _) (⟨⟨fun y _ _ => ((setG_ne (by omega)).trans (setG_ne (by omega))), fun x y z => ((setG_ne (by omega)).trans (setG_ne (by omega)))⟩, Or.inl ⟨by omega, (setG_same _ _ _ _)⟩⟩) dX6_mostPayable_21
