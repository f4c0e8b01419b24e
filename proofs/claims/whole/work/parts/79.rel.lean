/-! reading, on both sides -/
def St (G : GG) (B : Int → Int) (p : Int) : Prop := (∀ q : Int, 0 ≤ q → bA G q = B q) ∧ G 7 6 = p ∧ G 7 7 = -1
def Er (G : GG) (B : Int → Int) (e : Int) : Prop := (∀ q : Int, 0 ≤ q → bA G q = B q) ∧ G 7 7 = e
theorem bA_set {G : GG} {x y v : Int} (h : ¬ (x = 7 ∧ y = 1) ∧ x ≠ 8) (q : Int) : bA (setG G x y v) q = bA G q := bA_congr (setG_ne (by omega)) (fun z => setG_ne (by omega)) q
theorem St_set {G : GG} {B : Int → Int} {p x y v : Int} (st : St G B p) (h : ¬ (x = 7 ∧ (y = 1 ∨ y = 6 ∨ y = 7)) ∧ x ≠ 8) : St (setG G x y v) B p := ⟨fun q hq => (bA_set (by omega) q).trans (st.1 q hq), (setG_ne (by omega)).trans st.2.1, (setG_ne (by omega)).trans st.2.2⟩
theorem Er_set {G : GG} {B : Int → Int} {p x y v : Int} (st : Er G B p) (h : ¬ (x = 7 ∧ (y = 1 ∨ y = 6 ∨ y = 7)) ∧ x ≠ 8) : Er (setG G x y v) B p := ⟨fun q hq => (bA_set (by omega) q).trans (st.1 q hq), (setG_ne (by omega)).trans st.2⟩
theorem St_go {G : GG} {B : Int → Int} {p r : Int} (st : St G B p) : St (setG G 7 6 r) B r := ⟨fun q hq => (bA_set (by omega) q).trans (st.1 q hq), setG_same _ _ _ _, (setG_ne (by omega)).trans st.2.2⟩
theorem St_er {G : GG} {B : Int → Int} {p r : Int} (st : St G B p) : Er (setG G 7 7 r) B r := ⟨fun q hq => (bA_set (by omega) q).trans (st.1 q hq), setG_same _ _ _ _⟩
theorem st_no {G : GG} {B : Int → Int} {p : Int} (st : St G B p) : Er (stG G) B p := by
  unfold stG
  rw [if_pos st.2.2, st.2.1]
  exact St_er st
theorem st_EE {G : GG} {B : Int → Int} {e : Int} (he : e ≠ -1) (er : Er G B e) : stG G = G := by
  unfold stG
  rw [if_neg (by rw [er.2]; exact he)]
theorem sg_St {G : GG} {B : Int → Int} {p s : Int} (h0 : 0 ≤ p) (st : St G B p) (h : B p = s) : St (sgG G s) B (p + 1) := by
  unfold sgG
  rw [if_pos ⟨st.2.2, by rw [st.2.1, st.1 p h0]; exact h⟩, st.2.1]
  exact St_go st
theorem sg_Er {G : GG} {B : Int → Int} {p s : Int} (h0 : 0 ≤ p) (st : St G B p) (h : ¬ B p = s) : Er (sgG G s) B p := by
  unfold sgG
  rw [if_neg (fun q => h (by rw [← st.1 p h0]; rw [st.2.1] at q; exact q.2))]
  exact st_no st
theorem sg_EE {G : GG} {B : Int → Int} {e s : Int} (he : e ≠ -1) (er : Er G B e) : sgG G s = G := by
  unfold sgG
  rw [if_neg (fun q => he (er.2.symm.trans q.1)), st_EE he er]
theorem dg_St {G : GG} {B : Int → Int} {p m : Int} (h0 : 0 ≤ p) (st : St G B p) (h : 48 ≤ B p ∧ B p ≤ 48 + m) : St (dgG G m) B (p + 1) ∧ dgV G m = B p - 48 := by
  have hp : dgP G m := ⟨st.2.2, by rw [st.2.1, st.1 p h0]; exact h⟩
  unfold dgG dgV
  rw [if_pos hp, if_pos hp, st.2.1, st.1 p h0]
  exact ⟨St_go st, rfl⟩
theorem dg_Er {G : GG} {B : Int → Int} {p m : Int} (h0 : 0 ≤ p) (st : St G B p) (h : ¬ (48 ≤ B p ∧ B p ≤ 48 + m)) : Er (dgG G m) B p := by
  unfold dgG
  rw [if_neg (fun q => h (by rw [← st.1 p h0]; rw [dgP, st.2.1] at q; exact q.2))]
  exact st_no st
theorem dg_EE {G : GG} {B : Int → Int} {e m : Int} (he : e ≠ -1) (er : Er G B e) : dgG G m = G := by
  unfold dgG
  rw [if_neg (fun q => he (er.2.symm.trans q.1)), st_EE he er]
theorem dg_6 {G : GG} {B : Int → Int} {p m : Int} (h0 : 0 ≤ p) (st : St G B p) (h : ¬ (48 ≤ B p ∧ B p ≤ 48 + m)) : dgG G m 7 6 = p := by
  unfold dgG
  rw [if_neg (fun q => h (by rw [← st.1 p h0]; rw [dgP, st.2.1] at q; exact q.2))]
  unfold stG
  rw [if_pos st.2.2, setG_ne (by omega)]
  exact st.2.1
theorem n1_EE {G : GG} {B : Int → Int} {e : Int} (he : e ≠ -1) (er : Er G B e) : n1 G = G := by
  unfold n1
  rw [dg_EE he er]
  by_cases h : 48 ≤ bA G (G 7 6) ∧ bA G (G 7 6) ≤ 57
  · rw [if_pos h, dg_EE he er]
  · rw [if_neg h]
theorem nu_EE {G : GG} {B : Int → Int} {e m : Int} (he : e ≠ -1) (er : Er G B e) : nuG G m = G := by
  unfold nuG
  rw [n1_EE he er, if_neg (fun q => he (er.2.symm.trans q.1))]
/-- one or two digits are read -/
theorem n1_St {G : GG} {B : Int → Int} {p : Int} (h0 : 0 ≤ p) (st : St G B p) (h : fig (B p)) : St (n1 G) B (nQ B p) ∧ nuV G = nV B p := by
  obtain ⟨s1, v1⟩ := dg_St (m := 9) h0 st (by have := h.1; have := h.2; omega)
  have hb : bA (dgG G 9) (dgG G 9 7 6) = B (p + 1) := by rw [s1.2.1]; exact s1.1 _ (by omega)
  unfold n1 nuV nQ nV
  rw [hb, v1]
  by_cases h2 : fig (B (p + 1))
  · obtain ⟨s2, v2⟩ := dg_St (m := 9) (by omega) s1 (by have := h2.1; have := h2.2; omega)
    rw [if_pos h2, if_pos h2, if_pos h2, if_pos h2, v2]
    rw [show p + 1 + 1 = p + 2 by omega] at s2
    exact ⟨s2, rfl⟩
  · rw [if_neg h2, if_neg h2, if_neg h2, if_neg h2]
    exact ⟨s1, rfl⟩
theorem nu_St {G : GG} {B : Int → Int} {p m : Int} (h0 : 0 ≤ p) (st : St G B p) (h : okNum B p m) : St (nuG G m) B (nQ B p) ∧ nuV G = nV B p := by
  obtain ⟨s1, v1⟩ := n1_St h0 st h.1
  have hv := h.2.2
  unfold nuG
  rw [if_neg (fun q => by have := q.2.2; rw [v1] at this; omega)]
  exact ⟨s1, v1⟩
/-- a number that is not in order, and the sign behind it -/
theorem nu_no {G : GG} {B : Int → Int} {p m v : Int} (h0 : 0 ≤ p) (st : St G B p) (h : ¬ okNum B p m) : Er (sgG (setG (nuG G m) 7 4 v) 59) B (fNum B p) := by
  have nb := nQ_b B p
  unfold fNum
  by_cases hf : fig (B p)
  · rw [if_neg (fun q => q hf)]
    obtain ⟨s1, v1⟩ := n1_St h0 st hf
    have hb : bA (n1 G) (n1 G 7 6) = B (nQ B p) := by rw [s1.2.1]; exact s1.1 _ (by omega)
    by_cases h2 : fig (B (nQ B p))
    · rw [if_pos h2]
      unfold nuG
      rw [if_neg (fun q => by have := q.2.1; rw [hb] at this; exact this h2)]
      exact sg_Er (by omega) (St_set s1 (by omega)) (by have := h2.1; have := h2.2; omega)
    · rw [if_neg h2]
      have hr : nuV G < 1 ∨ m < nuV G := by
        rw [v1]
        by_cases z1 : 1 ≤ nV B p
        · by_cases z2 : nV B p ≤ m
          · exact absurd ⟨hf, h2, z1, z2⟩ h
          · exact Or.inr (by omega)
        · exact Or.inl (by omega)
      have e1 : Er (nuG G m) B p := by
        unfold nuG
        rw [if_pos ⟨s1.2.2, by rw [hb]; exact h2, hr⟩, st.2.1]
        exact St_er s1
      have e2 : Er (setG (nuG G m) 7 4 v) B p := Er_set e1 (by omega)
      rw [sg_EE (by omega) e2]
      exact e2
  · rw [if_pos hf]
    have s1 := dg_Er (m := 9) h0 st (by intro q; exact hf ⟨q.1, by omega⟩)
    have hb : bA (dgG G 9) (dgG G 9 7 6) = B p := by rw [dg_6 h0 st (by intro q; exact hf ⟨q.1, by omega⟩)]; exact s1.1 _ h0
    have e0 : n1 G = dgG G 9 := by
      unfold n1
      rw [hb, if_neg hf]
    have e1 : Er (nuG G m) B p := by
      unfold nuG
      rw [e0, if_neg (fun q => by have := q.1; rw [s1.2] at this; omega)]
      exact s1
    have e2 : Er (setG (nuG G m) 7 4 v) B p := Er_set e1 (by omega)
    rw [sg_EE (by omega) e2]
    exact e2
theorem co_St {G : GG} {B : Int → Int} {p k : Int} (h0 : 0 ≤ p) (st : St G B p) (h : B p = 44) (h2 : fig (B (p + 1))) : St (coS G k) B (p + 2) ∧ coS G k 9 k = B (p + 1) - 48 := by
  obtain ⟨s2, v2⟩ := dg_St (m := 9) (by omega) (sg_St h0 st h) (by have := h2.1; have := h2.2; omega)
  rw [show p + 1 + 1 = p + 2 by omega] at s2
  unfold coS
  exact ⟨St_set s2 (by omega), by rw [setG_same, v2]⟩
theorem co_Er1 {G : GG} {B : Int → Int} {p k : Int} (h0 : 0 ≤ p) (st : St G B p) (h : ¬ B p = 44) : Er (coS G k) B p := by
  have s1 := sg_Er h0 st h
  unfold coS
  rw [dg_EE (by omega) s1]
  exact Er_set s1 (by omega)
theorem co_Er2 {G : GG} {B : Int → Int} {p k : Int} (h0 : 0 ≤ p) (st : St G B p) (h : B p = 44) (h2 : ¬ fig (B (p + 1))) : Er (coS G k) B (p + 1) := by
  have s2 := dg_Er (m := 9) (by omega) (sg_St h0 st h) (by intro q; exact h2 ⟨q.1, by omega⟩)
  unfold coS
  exact Er_set s2 (by omega)
theorem co_EE {G : GG} {B : Int → Int} {e k : Int} (he : e ≠ -1) (er : Er G B e) : Er (coS G k) B e := by
  unfold coS
  rw [sg_EE he er, dg_EE he er]
  exact Er_set er (by omega)
theorem coS_ne {G : GG} {k x y : Int} (h : ¬ (x = 7 ∧ (y = 6 ∨ y = 7)) ∧ ¬ (x = 9 ∧ y = k)) : coS G k x y = G x y := by
  unfold coS
  rw [setG_ne (by omega), dg_ne (by omega), sg_ne (by omega)]
theorem coG_4 (G : GG) : coG G 4 = coS (coS (coS (coS G 0) 1) 2) 3 := rfl
theorem co4_St {G : GG} {B : Int → Int} {p : Int} (h0 : 0 ≤ p) (st : St G B p) (h : okCo B p) : St (coG G 4) B (p + 8) ∧ ∀ k : Int, 0 ≤ k → k < 4 → coG G 4 9 k = B (p + 2 * k + 1) - 48 := by
  obtain ⟨a, b, c, d⟩ := h
  obtain ⟨s1, v1⟩ := co_St (k := 0) h0 st a.1 a.2
  obtain ⟨s2, v2⟩ := co_St (k := 1) (by omega) s1 b.1 (by rw [show p + 2 + 1 = p + 3 by omega]; exact b.2)
  rw [show p + 2 + 2 = p + 4 by omega] at s2
  obtain ⟨s3, v3⟩ := co_St (k := 2) (by omega) s2 c.1 (by rw [show p + 4 + 1 = p + 5 by omega]; exact c.2)
  rw [show p + 4 + 2 = p + 6 by omega] at s3
  obtain ⟨s4, v4⟩ := co_St (k := 3) (by omega) s3 d.1 (by rw [show p + 6 + 1 = p + 7 by omega]; exact d.2)
  rw [show p + 6 + 2 = p + 8 by omega] at s4
  refine ⟨s4, fun k k0 k1 => ?_⟩
  have hk : k = 0 ∨ k = 1 ∨ k = 2 ∨ k = 3 := by omega
  rw [coG_4]
  rcases hk with rfl | rfl | rfl | rfl
  · rw [coS_ne (by omega), coS_ne (by omega), coS_ne (by omega), v1, show p + 2 * 0 + 1 = p + 1 by omega]
  · rw [coS_ne (by omega), coS_ne (by omega), v2, show p + 2 * 1 + 1 = p + 2 + 1 by omega]
  · rw [coS_ne (by omega), v3, show p + 2 * 2 + 1 = p + 4 + 1 by omega]
  · rw [v4, show p + 2 * 3 + 1 = p + 6 + 1 by omega]
theorem co4_no {G : GG} {B : Int → Int} {p : Int} (h0 : 0 ≤ p) (st : St G B p) (h : ¬ okCo B p) : Er (coG G 4) B (fCo B p) := by
  rw [coG_4]
  unfold fCo
  by_cases a1 : B p = 44
  · rw [if_neg (fun q => q a1)]
    by_cases a2 : fig (B (p + 1))
    · rw [if_neg (fun q => q a2)]
      have s1 := (co_St (k := 0) h0 st a1 a2).1
      by_cases b1 : B (p + 2) = 44
      · rw [if_neg (fun q => q b1)]
        by_cases b2 : fig (B (p + 3))
        · rw [if_neg (fun q => q b2)]
          have s2 := (co_St (k := 1) (by omega) s1 b1 (by rw [show p + 2 + 1 = p + 3 by omega]; exact b2)).1
          rw [show p + 2 + 2 = p + 4 by omega] at s2
          by_cases c1 : B (p + 4) = 44
          · rw [if_neg (fun q => q c1)]
            by_cases c2 : fig (B (p + 5))
            · rw [if_neg (fun q => q c2)]
              have s3 := (co_St (k := 2) (by omega) s2 c1 (by rw [show p + 4 + 1 = p + 5 by omega]; exact c2)).1
              rw [show p + 4 + 2 = p + 6 by omega] at s3
              by_cases d1 : B (p + 6) = 44
              · rw [if_neg (fun q => q d1)]
                by_cases d2 : fig (B (p + 7))
                · exact absurd ⟨⟨a1, a2⟩, ⟨b1, b2⟩, ⟨c1, c2⟩, d1, d2⟩ h
                · have s4 := co_Er2 (k := 3) (by omega) s3 d1 (by rw [show p + 6 + 1 = p + 7 by omega]; exact d2)
                  rw [show p + 6 + 1 = p + 7 by omega] at s4
                  exact s4
              · rw [if_pos d1]
                exact co_Er1 (by omega) s3 d1
            · rw [if_pos c2]
              have s4 := co_Er2 (k := 2) (by omega) s2 c1 (by rw [show p + 4 + 1 = p + 5 by omega]; exact c2)
              rw [show p + 4 + 1 = p + 5 by omega] at s4
              exact co_EE (by omega) s4
          · rw [if_pos c1]
            exact co_EE (by omega) (co_Er1 (by omega) s2 c1)
        · rw [if_pos b2]
          have s4 := co_Er2 (k := 1) (by omega) s1 b1 (by rw [show p + 2 + 1 = p + 3 by omega]; exact b2)
          rw [show p + 2 + 1 = p + 3 by omega] at s4
          exact co_EE (by omega) (co_EE (by omega) s4)
      · rw [if_pos b1]
        exact co_EE (by omega) (co_EE (by omega) (co_Er1 (by omega) s1 b1))
    · rw [if_pos a2]
      exact co_EE (by omega) (co_EE (by omega) (co_EE (by omega) (co_Er2 h0 st a1 a2)))
  · rw [if_pos a1]
    exact co_EE (by omega) (co_EE (by omega) (co_EE (by omega) (co_Er1 h0 st a1)))
theorem roA_St {G : GG} {B : Int → Int} {p : Int} (st : St G B p) : St (roA G) B (p + 1) := by
  unfold roA
  rw [st.2.1]
  exact St_go (St_set st (by omega))
theorem roB_St {G : GG} {B : Int → Int} {p m : Int} (h0 : 0 ≤ p) (st : St G B p) (h : 48 ≤ B (p + 1) ∧ B (p + 1) ≤ 48 + m) : St (roB G m) B (p + 2) ∧ roB G m 7 3 = B (p + 1) - 48 := by
  obtain ⟨s1, v1⟩ := dg_St (by omega) (roA_St st) h
  rw [show p + 1 + 1 = p + 2 by omega] at s1
  unfold roB
  exact ⟨St_set s1 (by omega), by rw [setG_same, v1]⟩
theorem roB_no {G : GG} {B : Int → Int} {p m : Int} (h0 : 0 ≤ p) (st : St G B p) (h : ¬ (48 ≤ B (p + 1) ∧ B (p + 1) ≤ 48 + m)) : Er (roB G m) B (p + 1) := by
  unfold roB
  exact Er_set (dg_Er (by omega) (roA_St st) h) (by omega)
theorem roS_St {G : GG} {B : Int → Int} {p m n d : Int} (h0 : 0 ≤ p) (hd : d = 48 + m) (st : St G B p) (h : okSt B p d n) : St (sgG (roS G m n) 59) B (nQ B (p + 3) + 1) ∧ roS G m n 7 3 = B (p + 1) - 48 ∧ roS G m n 7 4 = nV B (p + 3) := by
  subst hd
  obtain ⟨h1, h2, h3, h4⟩ := h
  obtain ⟨s1, v1⟩ := roB_St h0 st h1
  have s2 := sg_St (by omega) s1 h2
  rw [show p + 2 + 1 = p + 3 by omega] at s2
  obtain ⟨s3, v3⟩ := nu_St (by omega) s2 h3
  have nb := nQ_b B (p + 3)
  unfold roS
  refine ⟨sg_St (by omega) (St_set s3 (by omega)) h4, ?_, by rw [setG_same, v3]⟩
  rw [setG_ne (by omega), nu_ne (by omega), sg_ne (by omega), v1]
theorem roS_no {G : GG} {B : Int → Int} {p m n d : Int} (h0 : 0 ≤ p) (hd : d = 48 + m) (st : St G B p) (h : ¬ okSt B p d n) : Er (sgG (roS G m n) 59) B (flSt B p d n) := by
  subst hd
  have nb := nQ_b B (p + 3)
  unfold flSt roS
  by_cases h1 : 48 ≤ B (p + 1) ∧ B (p + 1) ≤ 48 + m
  · rw [if_neg (fun q => q h1)]
    have s1 := (roB_St h0 st h1).1
    by_cases h2 : B (p + 2) = 120
    · rw [if_neg (fun q => q h2)]
      have s2 := sg_St (by omega) s1 h2
      rw [show p + 2 + 1 = p + 3 by omega] at s2
      by_cases h3 : okNum B (p + 3) n
      · rw [if_neg (fun q => q h3)]
        obtain ⟨s3, v3⟩ := nu_St (by omega) s2 h3
        exact sg_Er (by omega) (St_set s3 (by omega)) (fun q => h ⟨h1, h2, h3, q⟩)
      · rw [if_pos h3]
        exact nu_no (by omega) s2 h3
    · rw [if_pos h2]
      have s2 := sg_Er (by omega) s1 h2
      have s3 := s2
      rw [← nu_EE (m := n) (by omega) s2] at s3
      have s4 := Er_set (x := 7) (y := 4) (v := nuV (sgG (roB G m) 120)) s3 (by omega)
      rw [sg_EE (by omega) s4]
      exact s4
  · rw [if_pos h1]
    have s1 := roB_no h0 st h1
    have s2 : Er (sgG (roB G m) 120) B (p + 1) := by rw [sg_EE (by omega) s1]; exact s1
    have s3 := s2
    rw [← nu_EE (m := n) (by omega) s2] at s3
    have s4 := Er_set (x := 7) (y := 4) (v := nuV (sgG (roB G m) 120)) s3 (by omega)
    rw [sg_EE (by omega) s4]
    exact s4
theorem roH_St {G : GG} {B : Int → Int} {p : Int} (h0 : 0 ≤ p) (st : St G B p) (h : okHr B p) : St (sgG (roH G) 59) B (nQ B (p + 1) + 1) ∧ roH G 7 4 = nV B (p + 1) := by
  obtain ⟨s3, v3⟩ := nu_St (by omega) (roA_St st) h.1
  have nb := nQ_b B (p + 1)
  unfold roH
  exact ⟨sg_St (by omega) (St_set s3 (by omega)) h.2, by rw [setG_same, v3]⟩
theorem roH_no {G : GG} {B : Int → Int} {p : Int} (h0 : 0 ≤ p) (st : St G B p) (h : ¬ okHr B p) : Er (sgG (roH G) 59) B (flHr B p) := by
  have nb := nQ_b B (p + 1)
  unfold flHr roH
  by_cases h3 : okNum B (p + 1) 48
  · rw [if_neg (fun q => q h3)]
    obtain ⟨s3, v3⟩ := nu_St (by omega) (roA_St st) h3
    exact sg_Er (by omega) (St_set s3 (by omega)) (fun q => h ⟨h3, q⟩)
  · rw [if_pos h3]
    exact nu_no (by omega) (roA_St st) h3
theorem roU_St {G : GG} {B : Int → Int} {p : Int} (h0 : 0 ≤ p) (st : St G B p) (h : okBu B p) : St (sgG (coG (roB G 7) 4) 59) B (p + 11) ∧ coG (roB G 7) 4 7 3 = B (p + 1) - 48 ∧ ∀ k : Int, 0 ≤ k → k < 4 → coG (roB G 7) 4 9 k = B (p + 2 * k + 3) - 48 := by
  obtain ⟨h1, h2, h3⟩ := h
  obtain ⟨s1, v1⟩ := roB_St (m := 7) h0 st h1
  obtain ⟨s2, v2⟩ := co4_St (by omega) s1 h2
  rw [show p + 2 + 8 = p + 10 by omega] at s2
  have s3 := sg_St (by omega) s2 h3
  rw [show p + 10 + 1 = p + 11 by omega] at s3
  refine ⟨s3, by rw [co_ne (by omega), v1], fun k k0 k1 => ?_⟩
  rw [v2 k k0 k1, show p + 2 + 2 * k + 1 = p + 2 * k + 3 by omega]
theorem roU_no {G : GG} {B : Int → Int} {p : Int} (h0 : 0 ≤ p) (st : St G B p) (h : ¬ okBu B p) : Er (sgG (coG (roB G 7) 4) 59) B (flBu B p) := by
  unfold flBu
  by_cases h1 : 48 ≤ B (p + 1) ∧ B (p + 1) ≤ 55
  · rw [if_neg (fun q => q h1)]
    have s1 := (roB_St (m := 7) h0 st h1).1
    by_cases h2 : okCo B (p + 2)
    · rw [if_neg (fun q => q h2)]
      have s2 := (co4_St (by omega) s1 h2).1
      rw [show p + 2 + 8 = p + 10 by omega] at s2
      exact sg_Er (by omega) s2 (fun q => h ⟨h1, h2, q⟩)
    · rw [if_pos h2]
      have fb := fCo_b B (p + 2)
      have s2 := co4_no (by omega) s1 h2
      rw [sg_EE (by omega) s2]
      exact s2
  · rw [if_pos h1]
    have s1 := roB_no (m := 7) h0 st h1
    have s2 : Er (coG (roB G 7) 4) B (p + 1) := by
      rw [coG_4]
      exact co_EE (by omega) (co_EE (by omega) (co_EE (by omega) (co_EE (by omega) s1)))
    rw [sg_EE (by omega) s2]
    exact s2
theorem roG_at {G : GG} {B : Int → Int} {p : Int} (st : St G B p) (hl : p < G 7 1) : roG G = sgG (roD G) 59 := if_pos ⟨by rw [st.2.1]; exact hl, st.2.2⟩
theorem roD_2 {G : GG} : roD G 7 2 = bA G (G 7 6) := by
  unfold roD
  by_cases h1 : bA G (G 7 6) = 115
  · rw [if_pos h1]; exact roS_2 G _ _
  rw [if_neg h1]
  by_cases h2 : bA G (G 7 6) = 98
  · rw [if_pos h2, co_ne (by omega)]; exact roB_2 G _
  rw [if_neg h2]
  by_cases h3 : bA G (G 7 6) = 102
  · rw [if_pos h3]; exact roS_2 G _ _
  rw [if_neg h3]
  by_cases h4 : bA G (G 7 6) = 104
  · rw [if_pos h4]
    unfold roH
    rw [setG_ne (by omega), nu_ne (by omega)]
    exact roA_2 G
  rw [if_neg h4]
  unfold roE
  rw [setG_ne (by omega), setG_same]
/-- an order that is in order -/
theorem ro_ok {G : GG} {B : Int → Int} {p : Int} (h0 : 0 ≤ p) (st : St G B p) (hl : p < G 7 1) (o : okOrd B p) : St (roG G) B (nxt B p) ∧ roG G 7 2 = B p ∧ (B p ≠ 104 → roG G 7 3 = B (p + 1) - 48) ∧ (B p = 115 ∨ B p = 102 → roG G 7 4 = nV B (p + 3)) ∧ (B p = 104 → roG G 7 4 = nV B (p + 1)) ∧ (B p = 98 → ∀ k : Int, 0 ≤ k → k < 4 → roG G 9 k = B (p + 2 * k + 3) - 48) := by
  have hb : bA G (G 7 6) = B p := by rw [st.2.1]; exact st.1 p h0
  rw [roG_at st hl]
  have s2 : sgG (roD G) 59 7 2 = B p := by rw [sg_ne (by omega), roD_2, hb]
  have s3 : sgG (roD G) 59 7 3 = roD G 7 3 := sg_ne (by omega)
  have s4 : sgG (roD G) 59 7 4 = roD G 7 4 := sg_ne (by omega)
  have s9 : ∀ k, sgG (roD G) 59 9 k = roD G 9 k := fun k => sg_ne (by omega)
  rcases o with ⟨hL, o⟩ | ⟨hL, o⟩ | ⟨hL, o⟩ | ⟨hL, o⟩
  · have e : roD G = roS G 7 20 := by unfold roD; rw [hb, if_pos hL]
    have en : nxt B p = nQ B (p + 3) + 1 := if_pos hL
    obtain ⟨a, b, c⟩ := roS_St (m := 7) (n := 20) h0 (by omega) st o
    rw [e] at s2 s3 s4 s9 ⊢
    rw [en, s3, s4]
    exact ⟨a, s2, fun _ => b, fun _ => c, fun q => by omega, fun q => by omega⟩
  · have e : roD G = coG (roB G 7) 4 := by unfold roD; rw [hb, if_neg (by omega), if_pos hL]
    have en : nxt B p = p + 11 := by unfold nxt; rw [if_neg (by omega), if_pos hL]
    obtain ⟨a, b, c⟩ := roU_St h0 st o
    rw [e] at s2 s3 s4 s9 ⊢
    rw [en, s3]
    exact ⟨a, s2, fun _ => b, fun q => by omega, fun q => by omega, fun _ k k0 k1 => by rw [s9]; exact c k k0 k1⟩
  · have e : roD G = roS G 3 30 := by unfold roD; rw [hb, if_neg (by omega), if_neg (by omega), if_pos hL]
    have en : nxt B p = nQ B (p + 3) + 1 := by unfold nxt; rw [if_neg (by omega), if_neg (by omega), if_pos hL]
    obtain ⟨a, b, c⟩ := roS_St (m := 3) (n := 30) h0 (by omega) st o
    rw [e] at s2 s3 s4 s9 ⊢
    rw [en, s3, s4]
    exact ⟨a, s2, fun _ => b, fun _ => c, fun q => by omega, fun q => by omega⟩
  · have e : roD G = roH G := by unfold roD; rw [hb, if_neg (by omega), if_neg (by omega), if_neg (by omega), if_pos hL]
    have en : nxt B p = nQ B (p + 1) + 1 := by unfold nxt; rw [if_neg (by omega), if_neg (by omega), if_neg (by omega)]
    obtain ⟨a, c⟩ := roH_St h0 st o
    rw [e] at s2 s3 s4 s9 ⊢
    rw [en, s4]
    exact ⟨a, s2, fun q => absurd hL q, fun q => by omega, fun _ => c, fun q => by omega⟩
theorem ro_no {G : GG} {B : Int → Int} {p : Int} (h0 : 0 ≤ p) (st : St G B p) (hl : p < G 7 1) (o : ¬ okOrd B p) : Er (roG G) B (flt B p) := by
  have hb : bA G (G 7 6) = B p := by rw [st.2.1]; exact st.1 p h0
  rw [roG_at st hl]
  unfold flt roD
  rw [hb]
  by_cases h1 : B p = 115
  · rw [if_pos h1, if_pos h1]
    exact roS_no h0 (by omega) st (fun q => o (Or.inl ⟨h1, q⟩))
  rw [if_neg h1, if_neg h1]
  by_cases h2 : B p = 98
  · rw [if_pos h2, if_pos h2]
    exact roU_no h0 st (fun q => o (Or.inr (Or.inl ⟨h2, q⟩)))
  rw [if_neg h2, if_neg h2]
  by_cases h3 : B p = 102
  · rw [if_pos h3, if_pos h3]
    exact roS_no h0 (by omega) st (fun q => o (Or.inr (Or.inr (Or.inl ⟨h3, q⟩))))
  rw [if_neg h3, if_neg h3]
  by_cases h4 : B p = 104
  · rw [if_pos h4, if_pos h4]
    exact roH_no h0 st (fun q => o (Or.inr (Or.inr (Or.inr ⟨h4, q⟩))))
  rw [if_neg h4, if_neg h4]
  have s1 : Er (roE G) B p := by
    unfold roE
    rw [st.2.1]
    exact St_er (St_set st (by omega))
  rw [sg_EE (by omega) s1]
  exact s1
theorem ro_len {G : GG} : roG G 7 1 = G 7 1 := by
  unfold roG
  by_cases h : G 7 6 < G 7 1 ∧ G 7 7 = -1
  · rw [if_pos h, sg_ne (by omega)]
    unfold roD
    by_cases h1 : bA G (G 7 6) = 115
    · rw [if_pos h1]; unfold roS roB roA
      rw [setG_ne (by omega), nu_ne (by omega), sg_ne (by omega), setG_ne (by omega), dg_ne (by omega), setG_ne (by omega), setG_ne (by omega)]
    rw [if_neg h1]
    by_cases h2 : bA G (G 7 6) = 98
    · rw [if_pos h2, co_ne (by omega)]; unfold roB roA
      rw [setG_ne (by omega), dg_ne (by omega), setG_ne (by omega), setG_ne (by omega)]
    rw [if_neg h2]
    by_cases h3 : bA G (G 7 6) = 102
    · rw [if_pos h3]; unfold roS roB roA
      rw [setG_ne (by omega), nu_ne (by omega), sg_ne (by omega), setG_ne (by omega), dg_ne (by omega), setG_ne (by omega), setG_ne (by omega)]
    rw [if_neg h3]
    by_cases h4 : bA G (G 7 6) = 104
    · rw [if_pos h4]; unfold roH roA
      rw [setG_ne (by omega), nu_ne (by omega), setG_ne (by omega), setG_ne (by omega)]
    rw [if_neg h4]
    unfold roE
    rw [setG_ne (by omega), setG_ne (by omega)]
  · rw [if_neg h]
theorem nxt_b (B : Int → Int) (p : Int) : p + 1 ≤ nxt B p := by
  have n1 := nQ_b B (p + 3)
  have n2 := nQ_b B (p + 1)
  unfold nxt
  by_cases h1 : B p = 115
  · rw [if_pos h1]; omega
  rw [if_neg h1]
  by_cases h2 : B p = 98
  · rw [if_pos h2]; omega
  rw [if_neg h2]
  by_cases h3 : B p = 102
  · rw [if_pos h3]; omega
  rw [if_neg h3]
  omega
theorem er_rel {B : Int → Int} {len : Int} : ∀ (n : Nat) {G : GG} {p : Int}, 0 ≤ p → St G B p → G 7 1 = len → erL n G 7 7 = synE B len n p
  | 0, G, p, h0, st, hl => st.2.2
  | n + 1, G, p, h0, st, hl => by
    show (if G 7 6 < G 7 1 ∧ G 7 7 = -1 then (if roG G 7 7 = -1 then erL n (roG G) else roG G) else G) 7 7 = (if p < len then (if okOrd B p then synE B len n (nxt B p) else flt B p) else -1)
    by_cases hp : p < len
    · rw [if_pos hp, if_pos ⟨by rw [st.2.1, hl]; exact hp, st.2.2⟩]
      have nb := nxt_b B p
      by_cases o : okOrd B p
      · obtain ⟨s, -⟩ := ro_ok h0 st (by omega) o
        rw [if_pos o, if_pos s.2.2]
        exact er_rel n (by omega) s (by rw [ro_len, hl])
      · have s := ro_no h0 st (by omega) o
        have fb := flt_b B p
        rw [if_neg o, if_neg (by rw [s.2]; omega)]
        exact s.2
    · rw [if_neg hp, if_neg (fun q => hp (by have := q.1; rw [st.2.1, hl] at this; exact this))]
      exact st.2.2
theorem syn_end {B : Int → Int} {len : Int} : ∀ (n : Nat) (p : Int), len ≤ p → synE B len n p = -1
  | 0, _, _ => rfl
  | n + 1, p, h => if_neg (by omega)
theorem syn_eq {B : Int → Int} {len : Int} : ∀ (n m : Nat) (p : Int), len ≤ p + n → len ≤ p + m → synE B len n p = synE B len m p
  | 0, m, p, h1, h2 => (syn_end 0 p (by omega)).trans (syn_end m p (by omega)).symm
  | n + 1, 0, p, h1, h2 => (syn_end (n + 1) p (by omega)).trans (syn_end 0 p (by omega)).symm
  | n + 1, m + 1, p, h1, h2 => by
    have nb := nxt_b B p
    show (if p < len then (if okOrd B p then synE B len n (nxt B p) else flt B p) else -1) = (if p < len then (if okOrd B p then synE B len m (nxt B p) else flt B p) else -1)
    rw [syn_eq n m (nxt B p) (by omega) (by omega)]
theorem syn_ok {B : Int → Int} {len : Int} {n : Nat} {p : Int} (h0 : 0 ≤ p) (hp : p < len) (hn : len ≤ p + n) (h : synE B len n p = -1) : okOrd B p ∧ ∀ m : Nat, len ≤ nxt B p + m → synE B len m (nxt B p) = -1 := by
  cases n with
  | zero => omega
  | succ n =>
    have nb := nxt_b B p
    have fb := flt_b B p
    have h2 : (if p < len then (if okOrd B p then synE B len n (nxt B p) else flt B p) else -1) = -1 := h
    rw [if_pos hp] at h2
    by_cases o : okOrd B p
    · rw [if_pos o] at h2
      exact ⟨o, fun m hm => by rw [syn_eq m n _ hm (by omega)]; exact h2⟩
    · rw [if_neg o] at h2
      omega
