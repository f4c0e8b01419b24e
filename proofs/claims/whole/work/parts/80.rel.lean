/-! orders are carried out, on both sides -/
theorem setG_at (G : GG) (i y v : Int) : setG G i y v i = up (G i) y v := by rw [setG_row, onR_at]
theorem rowE_up {g h : Row} {y v : Int} (h8 : 0 ≤ g 13 ∧ g 13 ≤ 8) (hy : (0 ≤ y ∧ y < 15 + 12 * g 13) ∧ y ≠ 13 ∧ y ≠ 14) (e : rowE g h) : rowE (up g y v) (up h y v) := by
  have e13 : up g y v 13 = g 13 := up_n (by omega)
  have e14 : up g y v 14 = g 14 := up_n (by omega)
  refine ⟨by rw [e13]; exact up_dom e.1 _ _, fun m h0 h1 => ?_, fun z h0 h1 => ?_⟩
  · rw [e14] at h1
    rw [up_n (by omega), up_n (by omega)]
    exact e.2.1 m h0 h1
  · rw [e13] at h0
    rw [up_n (by omega)]
    exact e.2.2 z h0 h1
theorem rowE_set {G K : GG} {i y v : Int} (h8 : 0 ≤ G i 13 ∧ G i 13 ≤ 8) (hy : (0 ≤ y ∧ y < 15 + 12 * G i 13) ∧ y ≠ 13 ∧ y ≠ 14) (e : rowE (G i) (K 12)) : rowE (setG G i y v i) (setG K 12 y v 12) := by
  rw [setG_at, setG_at]
  exact rowE_up h8 hy e
theorem row_8 {L : GG} {v : Int} : setG L 11 8 v 12 = L 12 := funext fun y => setG_ne (by omega)
theorem fill_rel {G G1 K K1 : GG} {t n : Int} (o : okN G 0) (ht : 0 ≤ t ∧ t < 4) (hn : 0 ≤ n) (e : rowE (G 0) (K 12)) (h : keepP (fillG G 0 t n) 0 (kpG (fillG G 0 t n) 0) G1) (k : keepM (fillG K 12 t n) (kpG (fillG K 12 t n) 12) K1) : rowE (G1 0) (K1 12) := by
  have o8 := o.1.2.1
  have et := e.1 (5 + t) (by omega) (by omega)
  have eF : rowE (fillG G 0 t n 0) (fillG K 12 t n 12) := by
    unfold fillG
    rw [et]
    exact rowE_set o8 (by omega) e
  have f13 : fillG G 0 t n 0 13 = G 0 13 := by
    unfold fillG
    exact setG_ne (by omega)
  exact rel_keep (by omega) (okP_fill o.2.1 ht hn) eF h k
theorem obey_rel {R G1 L M : GG} {r a : Int} (o : okO R) (ob : ordP R) (e : rowE (R 0) (L 12)) (f2 : L 11 14 = R 7 2) (f3 : R 7 2 ≠ 104 → L 11 17 = R 7 3) (f4 : R 7 2 ≠ 98 → L 11 15 = R 7 4) (f9 : R 7 2 = 98 → ∀ k : Int, 0 ≤ k → k < 4 → L 18 k = R 9 k) (l8 : L 11 8 = 0) (h : obeyP R r G1) (d : doesM L a M) : rowE (G1 0) (M 12) ∧ ((r = 0 ∧ ¬ M 11 8 = 0) ∨ (r = 1 ∧ M 11 8 = 0)) := by
  have o8 := o.1.1.2.1
  have e13 := e.1 13 (by omega) (by omega)
  have e10 := e.1 10 (by omega) (by omega)
  rcases h with ⟨hL, h⟩ | ⟨hL, h⟩ | ⟨hL, h⟩ | ⟨hL, h⟩ | ⟨hL, h⟩
  · rcases d with ⟨dL, d⟩ | ⟨dL, d⟩ | ⟨dL, d⟩ | ⟨dL, d⟩
    · have l17 := f3 (by omega)
      have l15 := f4 (by omega)
      obtain ⟨oa, ob2⟩ := ob.2.1 hL
      rw [l17, l15] at d
      rcases h with ⟨hn, hr, hG⟩ | ⟨hn, hr, hG⟩
      · subst hG
        rcases d with ⟨d1, -, dM⟩ | ⟨-, d1, -, -⟩ | ⟨d1, d2, d3, -, dM⟩ | ⟨d1, d2, d3, -, -⟩
        · subst dM
          rw [row_8, setG_same]
          exact ⟨e, Or.inl ⟨hr, by decide⟩⟩
        · exact absurd ob2 d1
        · subst dM
          rw [row_8, setG_same]
          exact ⟨e, Or.inl ⟨hr, by decide⟩⟩
        · have eg := e.1 (15 + 12 * G1 7 3 + 1) (by omega) (by omega)
          exact absurd ⟨by omega, by omega⟩ hn
      · have eg := e.1 (15 + 12 * R 7 3 + 1) (by omega) (by omega)
        rcases d with ⟨d1, -, dM⟩ | ⟨-, d1, -, -⟩ | ⟨d1, d2, d3, -, dM⟩ | ⟨d1, d2, d3, -, dM⟩
        · exact absurd ⟨oa.1, by omega⟩ d1
        · exact absurd ob2 d1
        · omega
        · subst hG
          subst dM
          rw [eg]
          exact ⟨rowE_set o8 (by omega) e, Or.inr ⟨hr, by rw [setG_ne (by omega)]; exact l8⟩⟩
    · omega
    · omega
    · omega
  · rcases d with ⟨dL, d⟩ | ⟨dL, d⟩ | ⟨dL, d⟩ | ⟨dL, d⟩
    · omega
    · omega
    · omega
    · have l17 := f3 (by omega)
      obtain ⟨oa, ob2⟩ := ob.2.2.1 hL
      rw [l17] at d
      rcases h with ⟨hn, hr, hG⟩ | ⟨hn, hcan, hr, hG⟩ | ⟨hn, hcan, hr, K, x, hs, hl⟩
      · subst hG
        rcases d with ⟨d1, -, dM⟩ | ⟨d1, -⟩
        · subst dM
          rw [row_8, setG_same]
          exact ⟨e, Or.inl ⟨hr, by decide⟩⟩
        · omega
      · have hp : coE R L 9 := ⟨f9 hL 0 (by omega) (by omega), f9 hL 1 (by omega) (by omega), f9 hL 2 (by omega) (by omega), f9 hL 3 (by omega) (by omega)⟩
        have cr := can_rel o.1 ⟨oa.1, hn⟩ e hp
        rcases d with ⟨d1, -, dM⟩ | ⟨d1, db, d2⟩
        · exact absurd ⟨oa.1, by omega⟩ d1
        · rcases d2 with ⟨dc, -, d8, d12⟩ | ⟨dc, -⟩
          · exact ⟨rowE_congr o8 o.1.2.1.1.2 (fun y hy => hG 0 y (by omega)) d12 e, Or.inl ⟨hr, by rw [d8]; decide⟩⟩
          · exact absurd (cr.mp dc) hcan
      · have hp : coE R L 9 := ⟨f9 hL 0 (by omega) (by omega), f9 hL 1 (by omega) (by omega), f9 hL 2 (by omega) (by omega), f9 hL 3 (by omega) (by omega)⟩
        have cr := can_rel o.1 ⟨oa.1, hn⟩ e hp
        rcases d with ⟨d1, -, dM⟩ | ⟨d1, db, d2⟩
        · exact absurd ⟨oa.1, by omega⟩ d1
        · rcases d2 with ⟨dc, -, d8, d12⟩ | ⟨dc, d8, -, S, k1, k2⟩
          · exact absurd (cr.mpr hcan) dc
          · have p9 : ∀ y, K 9 y = R 9 y := fun y => hs 9 y (by omega)
            have s0 : ∀ y : Int, y < 312 → K 0 y = R 0 y := fun y hy => hs 0 y (by omega)
            have o2 : okN K 0 := okN_congr s0 o.1
            have e2 : rowE (K 0) (L 12) := rowE_congr o8 o.1.2.1.1.2 (fun y hy => s0 y (by omega)) (fun _ _ _ => rfl) e
            have hp2 : coE K L 9 := by
              show L 18 0 = K 9 0 ∧ L 18 1 = K 9 1 ∧ L 18 2 = K 9 2 ∧ L 18 3 = K 9 3
              rw [p9, p9, p9, p9]
              exact hp
            have hcan2 : canSellP K 0 (R 7 3) 9 := (canSell_congr (by omega) s0 p9).2.2.mpr hcan
            have s13 : K 0 13 = R 0 13 := s0 13 (by omega)
            have z := rel_sell o2 (by omega) (fun k h0 h1 => by rw [p9]; exact ob2 k h0 h1) e2 hp2 hcan2 hl k1 k2
            exact ⟨z.1, Or.inr ⟨hr, by rw [d8]; exact l8⟩⟩
  · rcases d with ⟨dL, d⟩ | ⟨dL, d⟩ | ⟨dL, d⟩ | ⟨dL, d⟩
    · omega
    · have l17 := f3 (by omega)
      have l15 := f4 (by omega)
      obtain ⟨oa, ob2⟩ := ob.2.2.2.1 hL
      rw [l17, l15] at d
      rcases d with ⟨d1, -⟩ | ⟨-, d1, -⟩ | ⟨d1, d2, -, d3⟩
      · exact absurd oa d1
      · exact absurd ob2 d1
      · refine ⟨fill_rel o.1 (by omega) (by omega) e h.2 d3, Or.inr ⟨h.1, ?_⟩⟩
        rw [d3.2.2.2.2.2.2.2 11 8 (by omega)]
        unfold fillG
        rw [setG_ne (by omega)]
        exact l8
    · omega
    · omega
  · rcases d with ⟨dL, d⟩ | ⟨dL, d⟩ | ⟨dL, d⟩ | ⟨dL, d⟩
    · omega
    · omega
    · have l15 := f4 (by omega)
      have ob2 := ob.2.2.2.2 hL
      rw [l15] at d
      rcases h with ⟨hn, hr, hG⟩ | ⟨hn, hr, hG⟩
      · subst hG
        rcases d with ⟨d1, -⟩ | ⟨-, d1, -, dM⟩ | ⟨d1, d2, -⟩
        · exact absurd ob2 d1
        · subst dM
          rw [row_8, setG_same]
          exact ⟨e, Or.inl ⟨hr, by decide⟩⟩
        · omega
      · rcases d with ⟨d1, -⟩ | ⟨-, d1, -, dM⟩ | ⟨d1, d2, -, dM⟩
        · exact absurd ob2 d1
        · omega
        · subst hG
          subst dM
          rw [onR_at, onR_at]
          refine ⟨rowE_hours o.1.1 e _, Or.inr ⟨hr, ?_⟩⟩
          rw [onR_ne (by omega)]
          exact l8
    · omega
  · rcases d with ⟨dL, d⟩ | ⟨dL, d⟩ | ⟨dL, d⟩ | ⟨dL, d⟩ <;> omega
theorem obeyP_ne {R G1 : GG} {r x y : Int} (hx : x ≠ 0) (h : obeyP R r G1) : G1 x y = R x y := by
  rcases h with ⟨hL, h⟩ | ⟨hL, h⟩ | ⟨hL, h⟩ | ⟨hL, h⟩ | ⟨hL, h⟩
  · rcases h with ⟨-, -, hG⟩ | ⟨-, -, hG⟩
    · rw [hG]
    · rw [hG, setG_ne (by omega)]
  · rcases h with ⟨-, -, hG⟩ | ⟨-, -, -, hG⟩ | ⟨-, -, -, K, z, hs, hl⟩
    · rw [hG]
    · exact hG x y (by omega)
    · rw [sell_ne (x := x) (y := y) hl (fun q => hx q.1) (fun q => hx q.1)]
      exact hs x y (by omega)
  · rw [h.2.2.2.2.2.2.2.2.2 x y (by omega)]
    unfold fillG
    exact setG_ne (by omega)
  · rcases h with ⟨-, -, hG⟩ | ⟨-, -, hG⟩
    · rw [hG]
    · rw [hG, onR_ne hx]
  · rw [h.2]
theorem coP_ne {x y : Int} (hx : x ≠ 0 ∧ x ≠ 7 ∧ x ≠ 9) : ∀ (n : Nat) {G G1 : GG} {r : Int}, coP n G r G1 → G1 x y = G x y
  | 0, G, G1, r, h => by rw [h.2]
  | n + 1, G, G1, r, h => by
    rcases h with ⟨-, -, hG⟩ | ⟨-, hG, -⟩ | ⟨-, H, hG, hc⟩
    · rw [hG, ro_ne (by omega)]
    · rw [obeyP_ne hx.1 hG, ro_ne (by omega)]
    · rw [coP_ne hx n hc, obeyP_ne hx.1 hG, ro_ne (by omega)]
theorem roV_1 {G : GG} {B : Int → Int} {p : Int} (h0 : 0 ≤ p) (st : St G B p) (hl : p < G 7 1) (o : okOrd B p) : roV G = 1 := by
  obtain ⟨s, -⟩ := ro_ok h0 st hl o
  unfold roV
  rw [if_pos ⟨by rw [st.2.1]; exact hl, st.2.2⟩]
  exact if_pos s.2.2
theorem roV_0 {G : GG} {B : Int → Int} {p : Int} (st : St G B p) (hl : ¬ p < G 7 1) : roV G = 0 := by
  unfold roV
  rw [if_neg (fun q => hl (by have := q.1; rw [st.2.1] at this; exact this))]
theorem co_rel {B : Int → Int} {len : Int} : ∀ (n f : Nat) {G K G1 H : GG} {p r r2 : Int}, 0 ≤ p → St G B p → G 7 1 = len → okO G → rowE (G 0) (K 12) → K 11 13 = p → K 11 8 = 0 → len ≤ p + n → (∀ m : Nat, len ≤ p + m → synE B len m p = -1) → coP n G r G1 → coM B len f K r2 H → r2 = r ∧ rowE (G1 0) (H 12) ∧ okO G1 ∧ G1 7 1 = len
  | _, 0, G, K, G1, H, p, r, r2, h0, st, hl, o, e, k13, k8, hn, hs, h, k => False.elim k
  | 0, f + 1, G, K, G1, H, p, r, r2, h0, st, hl, o, e, k13, k8, hn, hs, h, k => by
    obtain ⟨h1, rfl⟩ := h
    rcases k with ⟨-, k2, rfl⟩ | ⟨k1, -⟩
    · exact ⟨by omega, e, o, hl⟩
    · omega
  | n + 1, f + 1, G, K, G1, H, p, r, r2, h0, st, hl, o, e, k13, k8, hn, hs, h, k => by
    have nb := nxt_b B p
    have oR := okO_ro o
    have r0 : ∀ y, roG G 0 y = G 0 y := fun y => ro_ne (by omega)
    have eR : rowE (roG G 0) (K 12) := by
      rw [show roG G 0 = G 0 from funext r0]
      exact e
    rcases h with ⟨hv, hr, hG⟩ | ⟨hv, hob, hr⟩ | ⟨hv, H2, hob, hrec⟩
    · have hp : ¬ p < len := fun hp => by
        obtain ⟨ok, -⟩ := syn_ok (n := n + 1) h0 hp (by omega) (hs _ (by omega))
        rw [roV_1 h0 st (by omega) ok] at hv
        omega
      rcases k with ⟨-, k2, rfl⟩ | ⟨k1, -⟩
      · subst hG
        exact ⟨by omega, eR, oR, by rw [ro_len]; exact hl⟩
      · omega
    · have hp : p < len := by
        by_cases hp : p < len
        · exact hp
        · exact absurd (roV_0 st (by omega)) hv
      have ob := ordP_ro o.2.2 hv
      obtain ⟨ok, hs2⟩ := syn_ok (n := n + 1) h0 hp (by omega) (hs _ (by omega))
      obtain ⟨sN, v2, v3, v4, v5, v9⟩ := ro_ok h0 st (by omega) ok
      rcases k with ⟨k1, -⟩ | ⟨k1, L, a, M, kL, l14, lv, l13, hd, hend⟩
      · omega
      · rw [k13] at l14 lv l13
        obtain ⟨w1, w2, w3, w4⟩ := lv
        have eL : rowE (roG G 0) (L 12) := by
          rw [show L 12 = K 12 from funext fun y => kL 12 y (by omega)]
          exact eR
        have z := obey_rel oR ob eL (by rw [l14, v2]) (fun q => by rw [v2] at q; rw [w1 q, v3 q]) (fun q => by
          rw [v2] at q
          rcases ok with ⟨c, -⟩ | ⟨c, -⟩ | ⟨c, -⟩ | ⟨c, -⟩
          · rw [w2 (Or.inl c), v4 (Or.inl c)]
          · exact absurd c q
          · rw [w2 (Or.inr c), v4 (Or.inr c)]
          · rw [w3 c, v5 c]) (fun q k k0 k1 => by rw [v2] at q; rw [w4 q k k0 k1, v9 q k k0 k1]) (by rw [kL 11 8 (by omega)]; exact k8) hob hd
        rcases hend with ⟨m8, hr2, rfl⟩ | ⟨m8, -⟩
        · exact ⟨by omega, z.1, okO_obey oR ob hob, by rw [obeyP_ne (by omega) hob, ro_len]; exact hl⟩
        · rcases z.2 with ⟨-, q⟩ | ⟨q, -⟩
          · exact absurd m8 q
          · omega
    · have hp : p < len := by
        by_cases hp : p < len
        · exact hp
        · exact absurd (roV_0 st (by omega)) hv
      have ob := ordP_ro o.2.2 hv
      obtain ⟨ok, hs2⟩ := syn_ok (n := n + 1) h0 hp (by omega) (hs _ (by omega))
      obtain ⟨sN, v2, v3, v4, v5, v9⟩ := ro_ok h0 st (by omega) ok
      rcases k with ⟨k1, -⟩ | ⟨k1, L, a, M, kL, l14, lv, l13, hd, hend⟩
      · omega
      · rw [k13] at l14 lv l13
        obtain ⟨w1, w2, w3, w4⟩ := lv
        have eL : rowE (roG G 0) (L 12) := by
          rw [show L 12 = K 12 from funext fun y => kL 12 y (by omega)]
          exact eR
        have z := obey_rel oR ob eL (by rw [l14, v2]) (fun q => by rw [v2] at q; rw [w1 q, v3 q]) (fun q => by
          rw [v2] at q
          rcases ok with ⟨c, -⟩ | ⟨c, -⟩ | ⟨c, -⟩ | ⟨c, -⟩
          · rw [w2 (Or.inl c), v4 (Or.inl c)]
          · exact absurd c q
          · rw [w2 (Or.inr c), v4 (Or.inr c)]
          · rw [w3 c, v5 c]) (fun q k k0 k1 => by rw [v2] at q; rw [w4 q k k0 k1, v9 q k k0 k1]) (by rw [kL 11 8 (by omega)]; exact k8) hob hd
        rcases hend with ⟨m8, -⟩ | ⟨m8, hrec2⟩
        · rcases z.2 with ⟨q, -⟩ | ⟨-, q⟩
          · omega
          · exact absurd q m8
        · have n7 : ∀ y, H2 7 y = roG G 7 y := fun y => obeyP_ne (by omega) hob
          have n8 : ∀ y, H2 8 y = roG G 8 y := fun y => obeyP_ne (by omega) hob
          have sH : St H2 B (nxt B p) := ⟨fun q hq => (bA_congr (n7 1) n8 q).trans (sN.1 q hq), by rw [n7]; exact sN.2.1, by rw [n7]; exact sN.2.2⟩
          have q := co_rel n f (by omega) sH (by rw [n7, ro_len]; exact hl) (okO_obey oR ob hob) z.1 (by rw [doesM_fr hd 11 13 (by omega)]; exact l13) m8 (by omega) hs2 hrec hrec2
          exact ⟨by omega, q.2.1, q.2.2.1, q.2.2.2⟩
