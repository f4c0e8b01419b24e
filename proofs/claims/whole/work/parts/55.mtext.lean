/-! class CoilPricesModel: reading -/
abbrev fig (b : Int) : Prop := 48 ≤ b ∧ b ≤ 57
def bM (G : GG) (p : Int) : Int := if p < G 11 6 then G 16 p else -1
def okX (G : GG) : Prop := (0 ≤ G 11 6 ∧ G 11 6 ≤ 100) ∧ ∀ k : Int, 0 ≤ k → k < G 11 6 → 0 ≤ G 16 k ∧ G 16 k ≤ 127
theorem bM_r {G : GG} (o : okX G) {p : Int} (hp : 0 ≤ p) : -1 ≤ bM G p ∧ bM G p ≤ 127 := by
  unfold bM
  split
  · have := o.2 p hp (by omega); omega
  · omega
theorem bM_lt {G : GG} (o : okX G) {p : Int} (h : 0 ≤ bM G p) : p < 100 := by
  unfold bM at h
  have := o.1
  split at h <;> omega
theorem bM_congr {G H : GG} (h1 : H 11 6 = G 11 6) (h2 : ∀ y, H 16 y = G 16 y) (p : Int) : bM H p = bM G p := by
  unfold bM
  rw [h1, h2]
theorem okX_congr {G H : GG} (h1 : H 11 6 = G 11 6) (h2 : ∀ y, H 16 y = G 16 y) (o : okX G) : okX H := by
  unfold okX at *
  rw [h1]
  exact ⟨o.1, fun k z0 z1 => by rw [h2]; exact o.2 k z0 z1⟩
/-! what is read, off the bytes alone -/
def nQ (B : Int → Int) (p : Int) : Int := if fig (B (p + 1)) then p + 2 else p + 1
def nV (B : Int → Int) (p : Int) : Int := if fig (B (p + 1)) then 10 * (B p - 48) + (B (p + 1) - 48) else B p - 48
abbrev okNum (B : Int → Int) (p m : Int) : Prop := fig (B p) ∧ ¬ fig (B (nQ B p)) ∧ 1 ≤ nV B p ∧ nV B p ≤ m
def fNum (B : Int → Int) (p : Int) : Int := if ¬ fig (B p) then p else if fig (B (nQ B p)) then nQ B p else p
abbrev okCo (B : Int → Int) (p : Int) : Prop := (B p = 44 ∧ fig (B (p + 1))) ∧ (B (p + 2) = 44 ∧ fig (B (p + 3))) ∧ (B (p + 4) = 44 ∧ fig (B (p + 5))) ∧ (B (p + 6) = 44 ∧ fig (B (p + 7)))
def fCo (B : Int → Int) (p : Int) : Int := if ¬ B p = 44 then p else if ¬ fig (B (p + 1)) then p + 1 else if ¬ B (p + 2) = 44 then p + 2 else if ¬ fig (B (p + 3)) then p + 3 else if ¬ B (p + 4) = 44 then p + 4 else if ¬ fig (B (p + 5)) then p + 5 else if ¬ B (p + 6) = 44 then p + 6 else p + 7
set_option maxHeartbeats 4000000 in
set_option maxRecDepth 100000 in
theorem c_here {l : Launch} {D : va_G} {C : Nat → ClassId} {T : Nat → Nat} {ad : Int → Nat} (G : GG) (o : okX G) (h0 : 0 ≤ G 11 13 ∧ G 11 13 ≤ 2147483647) : MC l yX6_here cX6_here 1 (some .int) 0 0 0 0 D (tyC C) T [.ref (ad 108)] (cw ad C G) (RI ad C (fun r G1 => r = bM G (G 11 13) ∧ G1 = G)) := by
  refine mc_of (by decide +kernel) (Nat.le_of_ble_eq_true rfl) rfl ?_
  have o1 := o.1
  refine aw_aload_n (q := 1) 0 dX6_here_0 rfl rfl rfl ?_
  refine g_mod_at (q := 4) (v := (G 11 13)) rfl wf_RX6_169 dX6_here_1 rfl ?_
  refine aw_aload_n (q := 5) 0 dX6_here_4 rfl rfl rfl ?_
  refine g_mod_length (q := 8) (v := (G 11 6)) rfl wf_RX6_166 dX6_here_5 rfl ?_
  refine aw_icmp_ge (q := 11) dX6_here_8 rfl (t := 23) (by decide) (by omega) (by omega) (fun y1 => ?_) (fun y2 => ?_)
  · refine aw_iconst (q := 24) dX6_here_23 rfl ?_
    exact rt_i rfl (Nat.le_refl _) (Nat.le_refl _) (⟨by unfold bM; first | exact (if_pos (by omega)).symm | exact (if_neg (by omega)).symm, rfl⟩) dX6_here_24
  · refine aw_aload_n (q := 12) 0 dX6_here_11 rfl rfl rfl ?_
    refine g_mod_text (q := 15) wf_RX6_22 dX6_here_12 rfl ?_
    refine aw_aload_n (q := 16) 0 dX6_here_15 rfl rfl rfl ?_
    refine g_mod_at (q := 19) (v := (G 11 13)) rfl wf_RX6_169 dX6_here_16 rfl ?_
    refine aw_cial (q := 20) (v := (G 16 (G 11 13))) (G 11 13) (ar_113 ad C) (by omega) (by omega) rfl dX6_here_19 rfl ?_
    refine aw_goto (q := 24) dX6_here_20 (by decide) ?_
    exact rt_i rfl (Nat.le_refl _) (Nat.le_refl _) (⟨by unfold bM; first | exact (if_pos (by omega)).symm | exact (if_neg (by omega)).symm, rfl⟩) dX6_here_24
set_option maxHeartbeats 4000000 in
set_option maxRecDepth 100000 in
theorem c_isFigure {l : Launch} {D : va_G} {C : Nat → ClassId} {T : Nat → Nat} {ad : Int → Nat} (G : GG) {c : Int} (hc : -2147483648 ≤ c ∧ c ≤ 2147483647) : MC l yX6_isFigure cX6_isFigure 1 (some .boolean) 1 22 0 0 D (tyC C) T [.int (iI c)] (cw ad C G) (RI ad C (fun r G1 => r = b2i (fig c) ∧ G1 = G)) := by
  refine mc_of (by decide +kernel) (Nat.le_of_ble_eq_true rfl) rfl ?_
  refine aw_iload_n (q := 1) 0 dX6_isFigure_0 rfl rfl rfl ?_
  refine aw_bipush (q := 3) dX6_isFigure_1 rfl (by decide) ?_
  refine aw_bipush (q := 5) dX6_isFigure_3 rfl (by decide) ?_
  refine cs_I (q := 8) (As := [.int (iI c), .int (iI 48), .int (iI 57)]) 3 (c_in (T := T) (D := D) (ad := ad) G (by omega) (by omega) (by omega)) (fun _ h => h) wc_X6_in wm_RX6_62 wt_X6_in wn_X6 (by decide) rfl ⟨Nat.le_of_ble_eq_true rfl, Nat.le_of_ble_eq_true rfl⟩ ⟨Nat.le_of_ble_eq_true rfl, Nat.le_of_ble_eq_true rfl⟩ (Nat.le_of_ble_eq_true rfl) dX6_isFigure_5 rfl (fun r9 G9 h9 => ?_)
  rw [h9.1, h9.2]
  clear h9
  exact rt_z rfl (by first | omega | exact b2i_r _) (Nat.le_refl _) (Nat.le_refl _) (⟨rfl, rfl⟩) dX6_isFigure_8
theorem setG_id9 {G : GG} {x y v : Int} (h : G x y = v) : setG G x y v = G := by rw [← h]; exact setG_id G x y
set_option maxHeartbeats 4000000 in
set_option maxRecDepth 100000 in
theorem c_passes {l : Launch} {D : va_G} {C : Nat → ClassId} {T : Nat → Nat} {ad : Int → Nat} (G : GG) (o : okX G) {p : Int} (hp : G 11 13 = p) (h0 : 0 ≤ p) (h1 : p ≤ 200) {c : Int} (hc : 0 ≤ c ∧ c ≤ 127) : MC l yX6_passes cX6_passes 3 (some .boolean) 1 20 0 0 D (tyC C) T [.ref (ad 108), .int (iI c)] (cw ad C G) (RI ad C (fun r G1 => (bM G p = c ∧ r = 1 ∧ G1 = setG G 11 13 (p + 1)) ∨ (¬ bM G p = c ∧ r = 0 ∧ G1 = G))) := by
  refine mc_of (by decide +kernel) (Nat.le_of_ble_eq_true rfl) rfl ?_
  have o1 := o.1
  refine aw_aload_n (q := 1) 0 dX6_passes_0 rfl rfl rfl ?_
  refine cv_I (q := 4) (CC := "") (id := 108) (As := []) 0 (c_here (T := T) (D := D) (ad := ad) G o (by rw [show G 11 13 = p from (hp)]; omega)) (fun _ h => h) (by omega) (cell_108 ad C _) rfl wc_X6_here wm_RX6_172 wi_X6_here ws_X6_here wn_X6 (by decide) rfl ⟨Nat.le_of_ble_eq_true rfl, Nat.le_of_ble_eq_true rfl⟩ ⟨Nat.le_of_ble_eq_true rfl, Nat.le_of_ble_eq_true rfl⟩ (Nat.le_of_ble_eq_true rfl) dX6_passes_1 rfl (fun r9 G9 h9 => ?_)
  obtain ⟨e9, g9⟩ := h9
  have e8 : bM G (G 11 13) = bM G p := (bM_congr (rfl) (fun y => rfl) _).trans (congrArg (bM G) (hp))
  rw [e9.trans e8, g9]
  clear e9 g9 e8
  have b1 := bM_r o (p := p) (by omega)
  have l1 := bM_lt o (p := p)
  refine aw_iload_n (q := 5) 1 dX6_passes_4 rfl rfl rfl ?_
  refine aw_icmp_ne (q := 8) dX6_passes_5 rfl (t := 12) (by decide) (by omega) (by omega) (fun y1 => ?_) (fun y2 => ?_)
  · refine aw_iconst (q := 13) dX6_passes_12 rfl ?_
    refine aw_istore_n (q := 14) (lv2 := [(0, .ref (ad 108)), (1, .int (iI c)), (2, .int (iI 0))]) [1, 2, 0] dX6_passes_13 rfl rfl (by decide) rfl rfl ?_
    refine aw_aload_n (q := 15) 0 dX6_passes_14 rfl rfl rfl ?_
    refine aw_dup (q := 16) dX6_passes_15 rfl rfl ?_
    refine g_mod_at (q := 19) (v := p) (hp) wf_RX6_169 dX6_passes_16 rfl ?_
    refine aw_iload_n (q := 20) 2 dX6_passes_19 rfl rfl rfl ?_
    refine aw_if_eq (q := 23) dX6_passes_20 rfl (t := 27) (by decide) (by omega) (fun _ => ?_) (fun h => absurd h (by omega))
    refine aw_iconst (q := 28) dX6_passes_27 rfl ?_
    refine ae_iadd (q := 29) p (by omega) dX6_passes_28 rfl ?_
    refine p_mod_at (q := 32) wf_RX6_169 dX6_passes_29 rfl ?_
    refine aw_iload_n (q := 33) 2 dX6_passes_32 rfl rfl rfl ?_
    exact rt_z rfl (by first | omega | exact b2i_r _) (Nat.le_refl _) (Nat.le_refl _) (by first | exact Or.inl ⟨by omega, rfl, rfl⟩ | exact Or.inr ⟨by omega, rfl, setG_id9 hp⟩) dX6_passes_33
  · refine aw_iconst (q := 9) dX6_passes_8 rfl ?_
    refine aw_goto (q := 13) dX6_passes_9 (by decide) ?_
    refine aw_istore_n (q := 14) (lv2 := [(0, .ref (ad 108)), (1, .int (iI c)), (2, .int (iI 1))]) [1, 2, 0] dX6_passes_13 rfl rfl (by decide) rfl rfl ?_
    refine aw_aload_n (q := 15) 0 dX6_passes_14 rfl rfl rfl ?_
    refine aw_dup (q := 16) dX6_passes_15 rfl rfl ?_
    refine g_mod_at (q := 19) (v := p) (hp) wf_RX6_169 dX6_passes_16 rfl ?_
    refine aw_iload_n (q := 20) 2 dX6_passes_19 rfl rfl rfl ?_
    refine aw_if_eq (q := 23) dX6_passes_20 rfl (t := 27) (by decide) (by omega) (fun h => absurd h (by omega)) (fun _ => ?_)
    refine aw_iconst (q := 24) dX6_passes_23 rfl ?_
    refine aw_goto (q := 28) dX6_passes_24 (by decide) ?_
    refine ae_iadd (q := 29) (p + 1) (by omega) dX6_passes_28 rfl ?_
    refine p_mod_at (q := 32) wf_RX6_169 dX6_passes_29 rfl ?_
    refine aw_iload_n (q := 33) 2 dX6_passes_32 rfl rfl rfl ?_
    exact rt_z rfl (by first | omega | exact b2i_r _) (Nat.le_refl _) (Nat.le_refl _) (by first | exact Or.inl ⟨by omega, rfl, rfl⟩ | exact Or.inr ⟨by omega, rfl, setG_id9 hp⟩) dX6_passes_33
set_option maxHeartbeats 4000000 in
set_option maxRecDepth 100000 in
theorem c_readDigitM {l : Launch} {D : va_G} {C : Nat → ClassId} {T : Nat → Nat} {ad : Int → Nat} (G : GG) (o : okX G) {p : Int} (hp : G 11 13 = p) (h0 : 0 ≤ p) (h1 : p ≤ 200) {m : Int} (hm : 48 ≤ m ∧ m ≤ 57) : MC l yX6_readDigit cX6_readDigit 3 (some .boolean) 1 22 0 0 D (tyC C) T [.ref (ad 108), .int (iI m)] (cw ad C G) (RI ad C (fun r G1 => ((48 ≤ bM G p ∧ bM G p ≤ m) ∧ r = 1 ∧ G1 = setG (setG G 11 16 (bM G p - 48)) 11 13 (p + 1)) ∨ (¬ (48 ≤ bM G p ∧ bM G p ≤ m) ∧ r = 0 ∧ G1 = setG G 11 16 (bM G p - 48)))) := by
  refine mc_of (by decide +kernel) (Nat.le_of_ble_eq_true rfl) rfl ?_
  have o1 := o.1
  refine aw_aload_n (q := 1) 0 dX6_readDigit_0 rfl rfl rfl ?_
  refine cv_I (q := 4) (CC := "") (id := 108) (As := []) 0 (c_here (T := T) (D := D) (ad := ad) G o (by rw [show G 11 13 = p from (hp)]; omega)) (fun _ h => h) (by omega) (cell_108 ad C _) rfl wc_X6_here wm_RX6_172 wi_X6_here ws_X6_here wn_X6 (by decide) rfl ⟨Nat.le_of_ble_eq_true rfl, Nat.le_of_ble_eq_true rfl⟩ ⟨Nat.le_of_ble_eq_true rfl, Nat.le_of_ble_eq_true rfl⟩ (Nat.le_of_ble_eq_true rfl) dX6_readDigit_1 rfl (fun r9 G9 h9 => ?_)
  obtain ⟨e9, g9⟩ := h9
  have e8 : bM G (G 11 13) = bM G p := (bM_congr (rfl) (fun y => rfl) _).trans (congrArg (bM G) (hp))
  rw [e9.trans e8, g9]
  clear e9 g9 e8
  have b2 := bM_r o (p := p) (by omega)
  have l2 := bM_lt o (p := p)
  refine aw_bipush (q := 6) dX6_readDigit_4 rfl (by decide) ?_
  refine aw_iload_n (q := 7) 1 dX6_readDigit_6 rfl rfl rfl ?_
  refine cs_I (q := 10) (As := [.int (iI (bM G p)), .int (iI 48), .int (iI m)]) 3 (c_in (T := T) (D := D) (ad := ad) G (by omega) (by omega) (by omega)) (fun _ h => h) wc_X6_in wm_RX6_62 wt_X6_in wn_X6 (by decide) rfl ⟨Nat.le_of_ble_eq_true rfl, Nat.le_of_ble_eq_true rfl⟩ ⟨Nat.le_of_ble_eq_true rfl, Nat.le_of_ble_eq_true rfl⟩ (Nat.le_of_ble_eq_true rfl) dX6_readDigit_7 rfl (fun r9 G9 h9 => ?_)
  rw [h9.1, h9.2]
  clear h9
  refine aw_istore_n (q := 11) (lv2 := [(0, .ref (ad 108)), (1, .int (iI m)), (2, .int (iI ((b2i (48 ≤ (bM G p) ∧ (bM G p) ≤ m)))))]) [1, 2, 0] dX6_readDigit_10 rfl rfl (by decide) rfl rfl ?_
  refine aw_aload_n (q := 12) 0 dX6_readDigit_11 rfl rfl rfl ?_
  refine aw_aload_n (q := 13) 0 dX6_readDigit_12 rfl rfl rfl ?_
  refine cv_I (q := 16) (CC := "") (id := 108) (As := []) 0 (c_here (T := T) (D := D) (ad := ad) G o (by rw [show G 11 13 = p from (hp)]; omega)) (fun _ h => h) (by omega) (cell_108 ad C _) rfl wc_X6_here wm_RX6_172 wi_X6_here ws_X6_here wn_X6 (by decide) rfl ⟨Nat.le_of_ble_eq_true rfl, Nat.le_of_ble_eq_true rfl⟩ ⟨Nat.le_of_ble_eq_true rfl, Nat.le_of_ble_eq_true rfl⟩ (Nat.le_of_ble_eq_true rfl) dX6_readDigit_13 rfl (fun r9 G9 h9 => ?_)
  obtain ⟨e9, g9⟩ := h9
  have e8 : bM G (G 11 13) = bM G p := (bM_congr (rfl) (fun y => rfl) _).trans (congrArg (bM G) (hp))
  rw [e9.trans e8, g9]
  clear e9 g9 e8
  have b3 := bM_r o (p := p) (by omega)
  have l3 := bM_lt o (p := p)
  refine aw_bipush (q := 18) dX6_readDigit_16 rfl (by decide) ?_
  refine ae_isub (q := 19) ((bM G p) - 48) (by omega) dX6_readDigit_18 rfl ?_
  refine p_mod_digit (q := 22) wf_RX6_175 dX6_readDigit_19 rfl ?_
  refine aw_aload_n (q := 23) 0 dX6_readDigit_22 rfl rfl rfl ?_
  refine aw_dup (q := 24) dX6_readDigit_23 rfl rfl ?_
  refine g_mod_at (q := 27) (v := p) ((setG_ne (by omega)).trans (hp)) wf_RX6_169 dX6_readDigit_24 rfl ?_
  refine aw_iload_n (q := 28) 2 dX6_readDigit_27 rfl rfl rfl ?_
  refine aw_ifb_eq (q := 31) dX6_readDigit_28 rfl (t := 35) (by decide) (fun y1 => ?_) (fun y2 => ?_)
  · refine aw_iconst (q := 36) dX6_readDigit_35 rfl ?_
    refine ae_iadd (q := 37) p (by omega) dX6_readDigit_36 rfl ?_
    refine p_mod_at (q := 40) wf_RX6_169 dX6_readDigit_37 rfl ?_
    refine aw_iload_n (q := 41) 2 dX6_readDigit_40 rfl rfl rfl ?_
    exact rt_z rfl (by first | omega | exact b2i_r _) (Nat.le_refl _) (Nat.le_refl _) (by first | exact Or.inl ⟨by omega, b2i_t (by assumption), rfl⟩ | exact Or.inr ⟨by omega, b2i_f (by assumption), setG_id9 ((setG_ne (by omega)).trans hp)⟩) dX6_readDigit_41
  · refine aw_iconst (q := 32) dX6_readDigit_31 rfl ?_
    refine aw_goto (q := 36) dX6_readDigit_32 (by decide) ?_
    refine ae_iadd (q := 37) (p + 1) (by omega) dX6_readDigit_36 rfl ?_
    refine p_mod_at (q := 40) wf_RX6_169 dX6_readDigit_37 rfl ?_
    refine aw_iload_n (q := 41) 2 dX6_readDigit_40 rfl rfl rfl ?_
    exact rt_z rfl (by first | omega | exact b2i_r _) (Nat.le_refl _) (Nat.le_refl _) (by first | exact Or.inl ⟨by omega, b2i_t (by assumption), rfl⟩ | exact Or.inr ⟨by omega, b2i_f (by assumption), setG_id9 ((setG_ne (by omega)).trans hp)⟩) dX6_readDigit_41
theorem c_passesY {l : Launch} {D : va_G} {C : Nat → ClassId} {T : Nat → Nat} {ad : Int → Nat} (G : GG) (o : okX G) {p : Int} (hp : G 11 13 = p) (h0 : 0 ≤ p) (h1 : p ≤ 200) {c : Int} (hc : 0 ≤ c ∧ c ≤ 127) (hq : bM G p = c) : MC l yX6_passes cX6_passes 3 (some .boolean) 1 20 0 0 D (tyC C) T [.ref (ad 108), .int (iI c)] (cw ad C G) (RI ad C (fun r G1 => r = 1 ∧ G1 = setG G 11 13 (p + 1))) :=
  (c_passes G o hp h0 h1 hc).mono (fun v w e => by obtain ⟨r, G1, e1, e2, e3⟩ := e; exact ⟨r, G1, e1, e2, by rcases e3 with e3 | e3 <;> first | exact (absurd hq e3.1) | exact absurd e3.1 hq | exact e3.2⟩)
theorem c_passesN {l : Launch} {D : va_G} {C : Nat → ClassId} {T : Nat → Nat} {ad : Int → Nat} (G : GG) (o : okX G) {p : Int} (hp : G 11 13 = p) (h0 : 0 ≤ p) (h1 : p ≤ 200) {c : Int} (hc : 0 ≤ c ∧ c ≤ 127) (hq : ¬ bM G p = c) : MC l yX6_passes cX6_passes 3 (some .boolean) 1 20 0 0 D (tyC C) T [.ref (ad 108), .int (iI c)] (cw ad C G) (RI ad C (fun r G1 => r = 0 ∧ G1 = G)) :=
  (c_passes G o hp h0 h1 hc).mono (fun v w e => by obtain ⟨r, G1, e1, e2, e3⟩ := e; exact ⟨r, G1, e1, e2, by rcases e3 with e3 | e3 <;> first | exact (absurd hq e3.1) | exact absurd e3.1 hq | exact e3.2⟩)
theorem c_readDigitMY {l : Launch} {D : va_G} {C : Nat → ClassId} {T : Nat → Nat} {ad : Int → Nat} (G : GG) (o : okX G) {p : Int} (hp : G 11 13 = p) (h0 : 0 ≤ p) (h1 : p ≤ 200) {m : Int} (hm : 48 ≤ m ∧ m ≤ 57) (hq : (48 ≤ bM G p ∧ bM G p ≤ m)) : MC l yX6_readDigit cX6_readDigit 3 (some .boolean) 1 22 0 0 D (tyC C) T [.ref (ad 108), .int (iI m)] (cw ad C G) (RI ad C (fun r G1 => r = 1 ∧ G1 = setG (setG G 11 16 (bM G p - 48)) 11 13 (p + 1))) :=
  (c_readDigitM G o hp h0 h1 hm).mono (fun v w e => by obtain ⟨r, G1, e1, e2, e3⟩ := e; exact ⟨r, G1, e1, e2, by rcases e3 with e3 | e3 <;> first | exact (absurd hq e3.1) | exact absurd e3.1 hq | exact e3.2⟩)
theorem c_readDigitMN {l : Launch} {D : va_G} {C : Nat → ClassId} {T : Nat → Nat} {ad : Int → Nat} (G : GG) (o : okX G) {p : Int} (hp : G 11 13 = p) (h0 : 0 ≤ p) (h1 : p ≤ 200) {m : Int} (hm : 48 ≤ m ∧ m ≤ 57) (hq : ¬ (48 ≤ bM G p ∧ bM G p ≤ m)) : MC l yX6_readDigit cX6_readDigit 3 (some .boolean) 1 22 0 0 D (tyC C) T [.ref (ad 108), .int (iI m)] (cw ad C G) (RI ad C (fun r G1 => r = 0 ∧ G1 = setG G 11 16 (bM G p - 48))) :=
  (c_readDigitM G o hp h0 h1 hm).mono (fun v w e => by obtain ⟨r, G1, e1, e2, e3⟩ := e; exact ⟨r, G1, e1, e2, by rcases e3 with e3 | e3 <;> first | exact (absurd hq e3.1) | exact absurd e3.1 hq | exact e3.2⟩)
set_option maxHeartbeats 4000000 in
set_option maxRecDepth 100000 in
theorem c_readNumberM {l : Launch} {D : va_G} {C : Nat → ClassId} {T : Nat → Nat} {ad : Int → Nat} (G : GG) (o : okX G) {p : Int} (hp : G 11 13 = p) (h0 : 0 ≤ p) (h1 : p ≤ 150) {m : Int} (hm : 1 ≤ m ∧ m ≤ 99) : MC l yX6_readNumber cX6_readNumber 4 (some .boolean) 2 42 0 0 D (tyC C) T [.ref (ad 108), .int (iI m)] (cw ad C G) (RI ad C (fun r G1 => (okNum (bM G) p m ∧ r = 1 ∧ G1 11 15 = nV (bM G) p ∧ G1 11 13 = nQ (bM G) p ∧ sameB (fun x y => x = 11 ∧ (y = 13 ∨ y = 15)) G G1) ∨ (¬ okNum (bM G) p m ∧ r = 0 ∧ G1 11 13 = fNum (bM G) p ∧ sameB (fun x y => x = 11 ∧ (y = 13 ∨ y = 15)) G G1))) := by
  refine mc_of (by decide +kernel) (Nat.le_of_ble_eq_true rfl) rfl ?_
  have o1 := o.1
  refine aw_aload_n (q := 1) 0 dX6_readNumber_0 rfl rfl rfl ?_
  refine g_mod_at (q := 4) (v := p) (hp) wf_RX6_169 dX6_readNumber_1 rfl ?_
  refine aw_istore_n (q := 5) (lv2 := [(0, .ref (ad 108)), (1, .int (iI m)), (2, .int (iI p))]) [1, 2, 0] dX6_readNumber_4 rfl rfl (by decide) rfl rfl ?_
  refine aw_aload_n (q := 6) 0 dX6_readNumber_5 rfl rfl rfl ?_
  refine aw_iconst (q := 7) dX6_readNumber_6 rfl ?_
  refine p_mod_number (q := 10) wf_RX6_178 dX6_readNumber_7 rfl ?_
  refine aw_aload_n (q := 11) 0 dX6_readNumber_10 rfl rfl rfl ?_
  refine cv_I (q := 14) (CC := "") (id := 108) (As := []) 0 (c_here (T := T) (D := D) (ad := ad) (setG G 11 15 0) (okX_congr ((setG_ne (by omega))) (fun y => (setG_ne (by omega))) o) (by rw [show (setG G 11 15 0) 11 13 = p from ((setG_ne (by omega)).trans (hp))]; omega)) (fun _ h => h) (by omega) (cell_108 ad C _) rfl wc_X6_here wm_RX6_172 wi_X6_here ws_X6_here wn_X6 (by decide) rfl ⟨Nat.le_of_ble_eq_true rfl, Nat.le_of_ble_eq_true rfl⟩ ⟨Nat.le_of_ble_eq_true rfl, Nat.le_of_ble_eq_true rfl⟩ (Nat.le_of_ble_eq_true rfl) dX6_readNumber_11 rfl (fun r9 G9 h9 => ?_)
  obtain ⟨e9, g9⟩ := h9
  have e8 : bM (setG G 11 15 0) ((setG G 11 15 0) 11 13) = bM G p := (bM_congr ((setG_ne (by omega))) (fun y => (setG_ne (by omega))) _).trans (congrArg (bM G) ((setG_ne (by omega)).trans (hp)))
  rw [e9.trans e8, g9]
  clear e9 g9 e8
  have b4 := bM_r o (p := p) (by omega)
  have l4 := bM_lt o (p := p)
  refine cs_I (q := 17) (As := [.int (iI (bM G p))]) 1 (c_isFigure (T := T) (D := D) (ad := ad) (setG G 11 15 0) (by omega)) (fun _ h => h) wc_X6_isFigure wm_RX6_181 wt_X6_isFigure wn_X6 (by decide) rfl ⟨Nat.le_of_ble_eq_true rfl, Nat.le_of_ble_eq_true rfl⟩ ⟨Nat.le_of_ble_eq_true rfl, Nat.le_of_ble_eq_true rfl⟩ (Nat.le_of_ble_eq_true rfl) dX6_readNumber_14 rfl (fun r9 G9 h9 => ?_)
  rw [h9.1, h9.2]
  clear h9
  refine aw_ifb_eq (q := 20) dX6_readNumber_17 rfl (t := 62) (by decide) (fun y1 => ?_) (fun y2 => ?_)
  · refine aw_aload_n (q := 63) 0 dX6_readNumber_62 rfl rfl rfl ?_
    refine g_mod_at (q := 66) (v := p) ((setG_ne (by omega)).trans (hp)) wf_RX6_169 dX6_readNumber_63 rfl ?_
    refine aw_iload_n (q := 67) 2 dX6_readNumber_66 rfl rfl rfl ?_
    refine aw_icmp_eq (q := 70) dX6_readNumber_67 rfl (t := 80) (by decide) (by omega) (by omega) (fun _ => ?_) (fun h => absurd h (by omega))
    refine aw_iconst (q := 81) dX6_readNumber_80 rfl ?_
    exact rt_z rfl (by first | omega | exact b2i_r _) (Nat.le_refl _) (Nat.le_refl _) (by
        have q1 : fig (bM G (p + 1)) → nQ (bM G) p = p + 2 := fun z => if_pos z
        have q2 : ¬ fig (bM G (p + 1)) → nQ (bM G) p = p + 1 := fun z => if_neg z
        have v1 : fig (bM G (p + 1)) → nV (bM G) p = 10 * (bM G p - 48) + (bM G (p + 1) - 48) := fun z => if_pos z
        have v2 : ¬ fig (bM G (p + 1)) → nV (bM G) p = bM G p - 48 := fun z => if_neg z
        by_cases z0 : fig (bM G p)
        · by_cases z1 : fig (bM G (p + 1))
          · have e1 := q1 z1
            have e2 := v1 z1
            by_cases z2 : fig (bM G (p + 2))
            · first
                | (exfalso; omega)
                | exact Or.inr ⟨fun q => by have := q.2.1; rw [e1] at this; exact this z2, rfl, (((setG_ne (by omega)).trans (hp))).trans (by unfold fNum; rw [if_neg (fun q => q z0), e1, if_pos z2]; try omega), fun x y z => (setG_ne (by omega))⟩
            · first
                | (exfalso; omega)
                | exact Or.inl ⟨⟨z0, by rw [e1]; exact z2, by omega, by omega⟩, by first | rfl | exact b2i_t (by assumption) | exact b2i_f (by assumption), ((setG_same _ _ _ _)).trans (by rw [e2]; try omega), (((setG_ne (by omega)).trans (hp))).trans (by rw [e1]; try omega), fun x y z => (setG_ne (by omega))⟩
                | exact Or.inr ⟨fun q => by have := q.2.2; omega, by first | rfl | exact b2i_t (by assumption) | exact b2i_f (by assumption), (((setG_ne (by omega)).trans (hp))).trans (by unfold fNum; rw [if_neg (fun q => q z0), e1, if_neg z2]; try omega), fun x y z => (setG_ne (by omega))⟩
          · have e1 := q2 z1
            have e2 := v2 z1
            first
              | (exfalso; omega)
              | exact Or.inl ⟨⟨z0, by rw [e1]; exact z1, by omega, by omega⟩, by first | rfl | exact b2i_t (by assumption) | exact b2i_f (by assumption), ((setG_same _ _ _ _)).trans (by rw [e2]; try omega), (((setG_ne (by omega)).trans (hp))).trans (by rw [e1]; try omega), fun x y z => (setG_ne (by omega))⟩
              | exact Or.inr ⟨fun q => by have := q.2.2; omega, by first | rfl | exact b2i_t (by assumption) | exact b2i_f (by assumption), (((setG_ne (by omega)).trans (hp))).trans (by unfold fNum; rw [if_neg (fun q => q z0), e1, if_neg z1]; try omega), fun x y z => (setG_ne (by omega))⟩
        · first
            | (exfalso; omega)
            | exact Or.inr ⟨fun q => z0 q.1, rfl, (((setG_ne (by omega)).trans (hp))).trans (by unfold fNum; rw [if_pos z0]; try omega), fun x y z => (setG_ne (by omega))⟩) dX6_readNumber_81
  · refine aw_aload_n (q := 21) 0 dX6_readNumber_20 rfl rfl rfl ?_
    refine g_mod_at (q := 24) (v := p) ((setG_ne (by omega)).trans (hp)) wf_RX6_169 dX6_readNumber_21 rfl ?_
    refine aw_iload_n (q := 25) 2 dX6_readNumber_24 rfl rfl rfl ?_
    refine aw_iconst (q := 26) dX6_readNumber_25 rfl ?_
    refine ae_iadd (q := 27) (p + 2) (by omega) dX6_readNumber_26 rfl ?_
    refine aw_icmp_ge (q := 30) dX6_readNumber_27 rfl (t := 62) (by decide) (by omega) (by omega) (fun h => absurd h (by omega)) (fun _ => ?_)
    refine aw_aload_n (q := 31) 0 dX6_readNumber_30 rfl rfl rfl ?_
    refine aw_bipush (q := 33) dX6_readNumber_31 rfl (by decide) ?_
    refine aw_aload_n (q := 34) 0 dX6_readNumber_33 rfl rfl rfl ?_
    refine g_mod_number (q := 37) (v := 0) (setG_same _ _ _ _) wf_RX6_178 dX6_readNumber_34 rfl ?_
    refine ae_imul (q := 38) 0 (by omega) dX6_readNumber_37 rfl ?_
    refine aw_aload_n (q := 39) 0 dX6_readNumber_38 rfl rfl rfl ?_
    refine cv_I (q := 42) (CC := "") (id := 108) (As := []) 0 (c_here (T := T) (D := D) (ad := ad) (setG G 11 15 0) (okX_congr ((setG_ne (by omega))) (fun y => (setG_ne (by omega))) o) (by rw [show (setG G 11 15 0) 11 13 = p from ((setG_ne (by omega)).trans (hp))]; omega)) (fun _ h => h) (by omega) (cell_108 ad C _) rfl wc_X6_here wm_RX6_172 wi_X6_here ws_X6_here wn_X6 (by decide) rfl ⟨Nat.le_of_ble_eq_true rfl, Nat.le_of_ble_eq_true rfl⟩ ⟨Nat.le_of_ble_eq_true rfl, Nat.le_of_ble_eq_true rfl⟩ (Nat.le_of_ble_eq_true rfl) dX6_readNumber_39 rfl (fun r9 G9 h9 => ?_)
    obtain ⟨e9, g9⟩ := h9
    have e8 : bM (setG G 11 15 0) ((setG G 11 15 0) 11 13) = bM G p := (bM_congr ((setG_ne (by omega))) (fun y => (setG_ne (by omega))) _).trans (congrArg (bM G) ((setG_ne (by omega)).trans (hp)))
    rw [e9.trans e8, g9]
    clear e9 g9 e8
    have b5 := bM_r o (p := p) (by omega)
    have l5 := bM_lt o (p := p)
    refine ae_iadd (q := 43) (bM G p) (by omega) dX6_readNumber_42 rfl ?_
    refine aw_bipush (q := 45) dX6_readNumber_43 rfl (by decide) ?_
    refine ae_isub (q := 46) ((bM G p) - 48) (by omega) dX6_readNumber_45 rfl ?_
    refine p_mod_number (q := 49) wf_RX6_178 dX6_readNumber_46 rfl ?_
    refine aw_aload_n (q := 50) 0 dX6_readNumber_49 rfl rfl rfl ?_
    refine aw_dup (q := 51) dX6_readNumber_50 rfl rfl ?_
    refine g_mod_at (q := 54) (v := p) ((setG_ne (by omega)).trans ((setG_ne (by omega)).trans (hp))) wf_RX6_169 dX6_readNumber_51 rfl ?_
    refine aw_iconst (q := 55) dX6_readNumber_54 rfl ?_
    refine ae_iadd (q := 56) (p + 1) (by omega) dX6_readNumber_55 rfl ?_
    refine p_mod_at (q := 59) wf_RX6_169 dX6_readNumber_56 rfl ?_
    refine aw_goto (q := 10) dX6_readNumber_59 (by decide) ?_
    refine aw_aload_n (q := 11) 0 dX6_readNumber_10 rfl rfl rfl ?_
    refine cv_I (q := 14) (CC := "") (id := 108) (As := []) 0 (c_here (T := T) (D := D) (ad := ad) (setG (setG (setG G 11 15 0) 11 15 ((bM G p) - 48)) 11 13 (p + 1)) (okX_congr (((setG_ne (by omega)).trans ((setG_ne (by omega)).trans (setG_ne (by omega))))) (fun y => ((setG_ne (by omega)).trans ((setG_ne (by omega)).trans (setG_ne (by omega))))) o) (by rw [show (setG (setG (setG G 11 15 0) 11 15 ((bM G p) - 48)) 11 13 (p + 1)) 11 13 = p + 1 from (setG_same _ _ _ _)]; omega)) (fun _ h => h) (by omega) (cell_108 ad C _) rfl wc_X6_here wm_RX6_172 wi_X6_here ws_X6_here wn_X6 (by decide) rfl ⟨Nat.le_of_ble_eq_true rfl, Nat.le_of_ble_eq_true rfl⟩ ⟨Nat.le_of_ble_eq_true rfl, Nat.le_of_ble_eq_true rfl⟩ (Nat.le_of_ble_eq_true rfl) dX6_readNumber_11 rfl (fun r9 G9 h9 => ?_)
    obtain ⟨e9, g9⟩ := h9
    have e8 : bM (setG (setG (setG G 11 15 0) 11 15 ((bM G p) - 48)) 11 13 (p + 1)) ((setG (setG (setG G 11 15 0) 11 15 ((bM G p) - 48)) 11 13 (p + 1)) 11 13) = bM G (p + 1) := (bM_congr (((setG_ne (by omega)).trans ((setG_ne (by omega)).trans (setG_ne (by omega))))) (fun y => ((setG_ne (by omega)).trans ((setG_ne (by omega)).trans (setG_ne (by omega))))) _).trans (congrArg (bM G) (setG_same _ _ _ _))
    rw [e9.trans e8, g9]
    clear e9 g9 e8
    have b6 := bM_r o (p := p + 1) (by omega)
    have l6 := bM_lt o (p := p + 1)
    refine cs_I (q := 17) (As := [.int (iI ((bM G (p + 1))))]) 1 (c_isFigure (T := T) (D := D) (ad := ad) (setG (setG (setG G 11 15 0) 11 15 ((bM G p) - 48)) 11 13 (p + 1)) (by omega)) (fun _ h => h) wc_X6_isFigure wm_RX6_181 wt_X6_isFigure wn_X6 (by decide) rfl ⟨Nat.le_of_ble_eq_true rfl, Nat.le_of_ble_eq_true rfl⟩ ⟨Nat.le_of_ble_eq_true rfl, Nat.le_of_ble_eq_true rfl⟩ (Nat.le_of_ble_eq_true rfl) dX6_readNumber_14 rfl (fun r9 G9 h9 => ?_)
    rw [h9.1, h9.2]
    clear h9
    refine aw_ifb_eq (q := 20) dX6_readNumber_17 rfl (t := 62) (by decide) (fun y3 => ?_) (fun y4 => ?_)
    · refine aw_aload_n (q := 63) 0 dX6_readNumber_62 rfl rfl rfl ?_
      refine g_mod_at (q := 66) (v := p + 1) (setG_same _ _ _ _) wf_RX6_169 dX6_readNumber_63 rfl ?_
      refine aw_iload_n (q := 67) 2 dX6_readNumber_66 rfl rfl rfl ?_
      refine aw_icmp_eq (q := 70) dX6_readNumber_67 rfl (t := 80) (by decide) (by omega) (by omega) (fun h => absurd h (by omega)) (fun _ => ?_)
      refine aw_aload_n (q := 71) 0 dX6_readNumber_70 rfl rfl rfl ?_
      refine cv_I (q := 74) (CC := "") (id := 108) (As := []) 0 (c_here (T := T) (D := D) (ad := ad) (setG (setG (setG G 11 15 0) 11 15 ((bM G p) - 48)) 11 13 (p + 1)) (okX_congr (((setG_ne (by omega)).trans ((setG_ne (by omega)).trans (setG_ne (by omega))))) (fun y => ((setG_ne (by omega)).trans ((setG_ne (by omega)).trans (setG_ne (by omega))))) o) (by rw [show (setG (setG (setG G 11 15 0) 11 15 ((bM G p) - 48)) 11 13 (p + 1)) 11 13 = p + 1 from (setG_same _ _ _ _)]; omega)) (fun _ h => h) (by omega) (cell_108 ad C _) rfl wc_X6_here wm_RX6_172 wi_X6_here ws_X6_here wn_X6 (by decide) rfl ⟨Nat.le_of_ble_eq_true rfl, Nat.le_of_ble_eq_true rfl⟩ ⟨Nat.le_of_ble_eq_true rfl, Nat.le_of_ble_eq_true rfl⟩ (Nat.le_of_ble_eq_true rfl) dX6_readNumber_71 rfl (fun r9 G9 h9 => ?_)
      obtain ⟨e9, g9⟩ := h9
      have e8 : bM (setG (setG (setG G 11 15 0) 11 15 ((bM G p) - 48)) 11 13 (p + 1)) ((setG (setG (setG G 11 15 0) 11 15 ((bM G p) - 48)) 11 13 (p + 1)) 11 13) = bM G (p + 1) := (bM_congr (((setG_ne (by omega)).trans ((setG_ne (by omega)).trans (setG_ne (by omega))))) (fun y => ((setG_ne (by omega)).trans ((setG_ne (by omega)).trans (setG_ne (by omega))))) _).trans (congrArg (bM G) (setG_same _ _ _ _))
      rw [e9.trans e8, g9]
      clear e9 g9 e8
      have b7 := bM_r o (p := p + 1) (by omega)
      have l7 := bM_lt o (p := p + 1)
      refine cs_I (q := 77) (As := [.int (iI ((bM G (p + 1))))]) 1 (c_isFigure (T := T) (D := D) (ad := ad) (setG (setG (setG G 11 15 0) 11 15 ((bM G p) - 48)) 11 13 (p + 1)) (by omega)) (fun _ h => h) wc_X6_isFigure wm_RX6_181 wt_X6_isFigure wn_X6 (by decide) rfl ⟨Nat.le_of_ble_eq_true rfl, Nat.le_of_ble_eq_true rfl⟩ ⟨Nat.le_of_ble_eq_true rfl, Nat.le_of_ble_eq_true rfl⟩ (Nat.le_of_ble_eq_true rfl) dX6_readNumber_74 rfl (fun r9 G9 h9 => ?_)
      rw [h9.1, h9.2]
      clear h9
      refine aw_ifb_eq (q := 80) dX6_readNumber_77 rfl (t := 82) (by decide) (fun y5 => ?_) (fun y6 => ?_)
      · refine aw_aload_n (q := 83) 0 dX6_readNumber_82 rfl rfl rfl ?_
        refine g_mod_number (q := 86) (v := (bM G p) - 48) ((setG_ne (by omega)).trans (setG_same _ _ _ _)) wf_RX6_178 dX6_readNumber_83 rfl ?_
        refine aw_iconst (q := 87) dX6_readNumber_86 rfl ?_
        refine aw_iload_n (q := 88) 1 dX6_readNumber_87 rfl rfl rfl ?_
        refine cs_I (q := 91) (As := [.int (iI ((bM G p) - 48)), .int (iI 1), .int (iI m)]) 3 (c_in (T := T) (D := D) (ad := ad) (setG (setG (setG G 11 15 0) 11 15 ((bM G p) - 48)) 11 13 (p + 1)) (by omega) (by omega) (by omega)) (fun _ h => h) wc_X6_in wm_RX6_62 wt_X6_in wn_X6 (by decide) rfl ⟨Nat.le_of_ble_eq_true rfl, Nat.le_of_ble_eq_true rfl⟩ ⟨Nat.le_of_ble_eq_true rfl, Nat.le_of_ble_eq_true rfl⟩ (Nat.le_of_ble_eq_true rfl) dX6_readNumber_88 rfl (fun r9 G9 h9 => ?_)
        rw [h9.1, h9.2]
        clear h9
        refine aw_istore_n (q := 92) (lv2 := [(0, .ref (ad 108)), (1, .int (iI m)), (2, .int (iI p)), (3, .int (iI ((b2i (1 ≤ ((bM G p) - 48) ∧ ((bM G p) - 48) ≤ m)))))]) [1, 2, 3, 0] dX6_readNumber_91 rfl rfl (by decide) rfl rfl ?_
        refine aw_aload_n (q := 93) 0 dX6_readNumber_92 rfl rfl rfl ?_
        refine aw_iload_n (q := 94) 3 dX6_readNumber_93 rfl rfl rfl ?_
        refine aw_ifb_eq (q := 97) dX6_readNumber_94 rfl (t := 104) (by decide) (fun y7 => ?_) (fun y8 => ?_)
        · refine aw_iload_n (q := 105) 2 dX6_readNumber_104 rfl rfl rfl ?_
          refine p_mod_at (q := 108) wf_RX6_169 dX6_readNumber_105 rfl ?_
          refine aw_iload_n (q := 109) 3 dX6_readNumber_108 rfl rfl rfl ?_
          exact rt_z rfl (by first | omega | exact b2i_r _) (Nat.le_refl _) (Nat.le_refl _) (by
              have q1 : fig (bM G (p + 1)) → nQ (bM G) p = p + 2 := fun z => if_pos z
              have q2 : ¬ fig (bM G (p + 1)) → nQ (bM G) p = p + 1 := fun z => if_neg z
              have v1 : fig (bM G (p + 1)) → nV (bM G) p = 10 * (bM G p - 48) + (bM G (p + 1) - 48) := fun z => if_pos z
              have v2 : ¬ fig (bM G (p + 1)) → nV (bM G) p = bM G p - 48 := fun z => if_neg z
              by_cases z0 : fig (bM G p)
              · by_cases z1 : fig (bM G (p + 1))
                · have e1 := q1 z1
                  have e2 := v1 z1
                  by_cases z2 : fig (bM G (p + 2))
                  · first
                      | (exfalso; omega)
                      | exact Or.inr ⟨fun q => by have := q.2.1; rw [e1] at this; exact this z2, rfl, ((setG_same _ _ _ _)).trans (by unfold fNum; rw [if_neg (fun q => q z0), e1, if_pos z2]; try omega), fun x y z => ((setG_ne (by omega)).trans ((setG_ne (by omega)).trans ((setG_ne (by omega)).trans (setG_ne (by omega)))))⟩
                  · first
                      | (exfalso; omega)
                      | exact Or.inl ⟨⟨z0, by rw [e1]; exact z2, by omega, by omega⟩, by first | rfl | exact b2i_t (by assumption) | exact b2i_f (by assumption), (((setG_ne (by omega)).trans ((setG_ne (by omega)).trans (setG_same _ _ _ _)))).trans (by rw [e2]; try omega), ((setG_same _ _ _ _)).trans (by rw [e1]; try omega), fun x y z => ((setG_ne (by omega)).trans ((setG_ne (by omega)).trans ((setG_ne (by omega)).trans (setG_ne (by omega)))))⟩
                      | exact Or.inr ⟨fun q => by have := q.2.2; omega, by first | rfl | exact b2i_t (by assumption) | exact b2i_f (by assumption), ((setG_same _ _ _ _)).trans (by unfold fNum; rw [if_neg (fun q => q z0), e1, if_neg z2]; try omega), fun x y z => ((setG_ne (by omega)).trans ((setG_ne (by omega)).trans ((setG_ne (by omega)).trans (setG_ne (by omega)))))⟩
                · have e1 := q2 z1
                  have e2 := v2 z1
                  first
                    | (exfalso; omega)
                    | exact Or.inl ⟨⟨z0, by rw [e1]; exact z1, by omega, by omega⟩, by first | rfl | exact b2i_t (by assumption) | exact b2i_f (by assumption), (((setG_ne (by omega)).trans ((setG_ne (by omega)).trans (setG_same _ _ _ _)))).trans (by rw [e2]; try omega), ((setG_same _ _ _ _)).trans (by rw [e1]; try omega), fun x y z => ((setG_ne (by omega)).trans ((setG_ne (by omega)).trans ((setG_ne (by omega)).trans (setG_ne (by omega)))))⟩
                    | exact Or.inr ⟨fun q => by have := q.2.2; omega, by first | rfl | exact b2i_t (by assumption) | exact b2i_f (by assumption), ((setG_same _ _ _ _)).trans (by unfold fNum; rw [if_neg (fun q => q z0), e1, if_neg z1]; try omega), fun x y z => ((setG_ne (by omega)).trans ((setG_ne (by omega)).trans ((setG_ne (by omega)).trans (setG_ne (by omega)))))⟩
              · first
                  | (exfalso; omega)
                  | exact Or.inr ⟨fun q => z0 q.1, rfl, ((setG_same _ _ _ _)).trans (by unfold fNum; rw [if_pos z0]; try omega), fun x y z => ((setG_ne (by omega)).trans ((setG_ne (by omega)).trans ((setG_ne (by omega)).trans (setG_ne (by omega)))))⟩) dX6_readNumber_109
        · refine aw_aload_n (q := 98) 0 dX6_readNumber_97 rfl rfl rfl ?_
          refine g_mod_at (q := 101) (v := p + 1) (setG_same _ _ _ _) wf_RX6_169 dX6_readNumber_98 rfl ?_
          refine aw_goto (q := 105) dX6_readNumber_101 (by decide) ?_
          refine p_mod_at (q := 108) wf_RX6_169 dX6_readNumber_105 rfl ?_
          refine aw_iload_n (q := 109) 3 dX6_readNumber_108 rfl rfl rfl ?_
          exact rt_z rfl (by first | omega | exact b2i_r _) (Nat.le_refl _) (Nat.le_refl _) (by
              have q1 : fig (bM G (p + 1)) → nQ (bM G) p = p + 2 := fun z => if_pos z
              have q2 : ¬ fig (bM G (p + 1)) → nQ (bM G) p = p + 1 := fun z => if_neg z
              have v1 : fig (bM G (p + 1)) → nV (bM G) p = 10 * (bM G p - 48) + (bM G (p + 1) - 48) := fun z => if_pos z
              have v2 : ¬ fig (bM G (p + 1)) → nV (bM G) p = bM G p - 48 := fun z => if_neg z
              by_cases z0 : fig (bM G p)
              · by_cases z1 : fig (bM G (p + 1))
                · have e1 := q1 z1
                  have e2 := v1 z1
                  by_cases z2 : fig (bM G (p + 2))
                  · first
                      | (exfalso; omega)
                      | exact Or.inr ⟨fun q => by have := q.2.1; rw [e1] at this; exact this z2, rfl, ((setG_same _ _ _ _)).trans (by unfold fNum; rw [if_neg (fun q => q z0), e1, if_pos z2]; try omega), fun x y z => ((setG_ne (by omega)).trans ((setG_ne (by omega)).trans ((setG_ne (by omega)).trans (setG_ne (by omega)))))⟩
                  · first
                      | (exfalso; omega)
                      | exact Or.inl ⟨⟨z0, by rw [e1]; exact z2, by omega, by omega⟩, by first | rfl | exact b2i_t (by assumption) | exact b2i_f (by assumption), (((setG_ne (by omega)).trans ((setG_ne (by omega)).trans (setG_same _ _ _ _)))).trans (by rw [e2]; try omega), ((setG_same _ _ _ _)).trans (by rw [e1]; try omega), fun x y z => ((setG_ne (by omega)).trans ((setG_ne (by omega)).trans ((setG_ne (by omega)).trans (setG_ne (by omega)))))⟩
                      | exact Or.inr ⟨fun q => by have := q.2.2; omega, by first | rfl | exact b2i_t (by assumption) | exact b2i_f (by assumption), ((setG_same _ _ _ _)).trans (by unfold fNum; rw [if_neg (fun q => q z0), e1, if_neg z2]; try omega), fun x y z => ((setG_ne (by omega)).trans ((setG_ne (by omega)).trans ((setG_ne (by omega)).trans (setG_ne (by omega)))))⟩
                · have e1 := q2 z1
                  have e2 := v2 z1
                  first
                    | (exfalso; omega)
                    | exact Or.inl ⟨⟨z0, by rw [e1]; exact z1, by omega, by omega⟩, by first | rfl | exact b2i_t (by assumption) | exact b2i_f (by assumption), (((setG_ne (by omega)).trans ((setG_ne (by omega)).trans (setG_same _ _ _ _)))).trans (by rw [e2]; try omega), ((setG_same _ _ _ _)).trans (by rw [e1]; try omega), fun x y z => ((setG_ne (by omega)).trans ((setG_ne (by omega)).trans ((setG_ne (by omega)).trans (setG_ne (by omega)))))⟩
                    | exact Or.inr ⟨fun q => by have := q.2.2; omega, by first | rfl | exact b2i_t (by assumption) | exact b2i_f (by assumption), ((setG_same _ _ _ _)).trans (by unfold fNum; rw [if_neg (fun q => q z0), e1, if_neg z1]; try omega), fun x y z => ((setG_ne (by omega)).trans ((setG_ne (by omega)).trans ((setG_ne (by omega)).trans (setG_ne (by omega)))))⟩
              · first
                  | (exfalso; omega)
                  | exact Or.inr ⟨fun q => z0 q.1, rfl, ((setG_same _ _ _ _)).trans (by unfold fNum; rw [if_pos z0]; try omega), fun x y z => ((setG_ne (by omega)).trans ((setG_ne (by omega)).trans ((setG_ne (by omega)).trans (setG_ne (by omega)))))⟩) dX6_readNumber_109
      · refine aw_iconst (q := 81) dX6_readNumber_80 rfl ?_
        exact rt_z rfl (by first | omega | exact b2i_r _) (Nat.le_refl _) (Nat.le_refl _) (by
            have q1 : fig (bM G (p + 1)) → nQ (bM G) p = p + 2 := fun z => if_pos z
            have q2 : ¬ fig (bM G (p + 1)) → nQ (bM G) p = p + 1 := fun z => if_neg z
            have v1 : fig (bM G (p + 1)) → nV (bM G) p = 10 * (bM G p - 48) + (bM G (p + 1) - 48) := fun z => if_pos z
            have v2 : ¬ fig (bM G (p + 1)) → nV (bM G) p = bM G p - 48 := fun z => if_neg z
            by_cases z0 : fig (bM G p)
            · by_cases z1 : fig (bM G (p + 1))
              · have e1 := q1 z1
                have e2 := v1 z1
                by_cases z2 : fig (bM G (p + 2))
                · first
                    | (exfalso; omega)
                    | exact Or.inr ⟨fun q => by have := q.2.1; rw [e1] at this; exact this z2, rfl, ((setG_same _ _ _ _)).trans (by unfold fNum; rw [if_neg (fun q => q z0), e1, if_pos z2]; try omega), fun x y z => ((setG_ne (by omega)).trans ((setG_ne (by omega)).trans (setG_ne (by omega))))⟩
                · first
                    | (exfalso; omega)
                    | exact Or.inl ⟨⟨z0, by rw [e1]; exact z2, by omega, by omega⟩, by first | rfl | exact b2i_t (by assumption) | exact b2i_f (by assumption), (((setG_ne (by omega)).trans (setG_same _ _ _ _))).trans (by rw [e2]; try omega), ((setG_same _ _ _ _)).trans (by rw [e1]; try omega), fun x y z => ((setG_ne (by omega)).trans ((setG_ne (by omega)).trans (setG_ne (by omega))))⟩
                    | exact Or.inr ⟨fun q => by have := q.2.2; omega, by first | rfl | exact b2i_t (by assumption) | exact b2i_f (by assumption), ((setG_same _ _ _ _)).trans (by unfold fNum; rw [if_neg (fun q => q z0), e1, if_neg z2]; try omega), fun x y z => ((setG_ne (by omega)).trans ((setG_ne (by omega)).trans (setG_ne (by omega))))⟩
              · have e1 := q2 z1
                have e2 := v2 z1
                first
                  | (exfalso; omega)
                  | exact Or.inl ⟨⟨z0, by rw [e1]; exact z1, by omega, by omega⟩, by first | rfl | exact b2i_t (by assumption) | exact b2i_f (by assumption), (((setG_ne (by omega)).trans (setG_same _ _ _ _))).trans (by rw [e2]; try omega), ((setG_same _ _ _ _)).trans (by rw [e1]; try omega), fun x y z => ((setG_ne (by omega)).trans ((setG_ne (by omega)).trans (setG_ne (by omega))))⟩
                  | exact Or.inr ⟨fun q => by have := q.2.2; omega, by first | rfl | exact b2i_t (by assumption) | exact b2i_f (by assumption), ((setG_same _ _ _ _)).trans (by unfold fNum; rw [if_neg (fun q => q z0), e1, if_neg z1]; try omega), fun x y z => ((setG_ne (by omega)).trans ((setG_ne (by omega)).trans (setG_ne (by omega))))⟩
            · first
                | (exfalso; omega)
                | exact Or.inr ⟨fun q => z0 q.1, rfl, ((setG_same _ _ _ _)).trans (by unfold fNum; rw [if_pos z0]; try omega), fun x y z => ((setG_ne (by omega)).trans ((setG_ne (by omega)).trans (setG_ne (by omega))))⟩) dX6_readNumber_81
    · refine aw_aload_n (q := 21) 0 dX6_readNumber_20 rfl rfl rfl ?_
      refine g_mod_at (q := 24) (v := p + 1) (setG_same _ _ _ _) wf_RX6_169 dX6_readNumber_21 rfl ?_
      refine aw_iload_n (q := 25) 2 dX6_readNumber_24 rfl rfl rfl ?_
      refine aw_iconst (q := 26) dX6_readNumber_25 rfl ?_
      refine ae_iadd (q := 27) (p + 2) (by omega) dX6_readNumber_26 rfl ?_
      refine aw_icmp_ge (q := 30) dX6_readNumber_27 rfl (t := 62) (by decide) (by omega) (by omega) (fun h => absurd h (by omega)) (fun _ => ?_)
      refine aw_aload_n (q := 31) 0 dX6_readNumber_30 rfl rfl rfl ?_
      refine aw_bipush (q := 33) dX6_readNumber_31 rfl (by decide) ?_
      refine aw_aload_n (q := 34) 0 dX6_readNumber_33 rfl rfl rfl ?_
      refine g_mod_number (q := 37) (v := (bM G p) - 48) ((setG_ne (by omega)).trans (setG_same _ _ _ _)) wf_RX6_178 dX6_readNumber_34 rfl ?_
      refine ae_imul (q := 38) (10 * (bM G p) - 480) (by omega) dX6_readNumber_37 rfl ?_
      refine aw_aload_n (q := 39) 0 dX6_readNumber_38 rfl rfl rfl ?_
      refine cv_I (q := 42) (CC := "") (id := 108) (As := []) 0 (c_here (T := T) (D := D) (ad := ad) (setG (setG (setG G 11 15 0) 11 15 ((bM G p) - 48)) 11 13 (p + 1)) (okX_congr (((setG_ne (by omega)).trans ((setG_ne (by omega)).trans (setG_ne (by omega))))) (fun y => ((setG_ne (by omega)).trans ((setG_ne (by omega)).trans (setG_ne (by omega))))) o) (by rw [show (setG (setG (setG G 11 15 0) 11 15 ((bM G p) - 48)) 11 13 (p + 1)) 11 13 = p + 1 from (setG_same _ _ _ _)]; omega)) (fun _ h => h) (by omega) (cell_108 ad C _) rfl wc_X6_here wm_RX6_172 wi_X6_here ws_X6_here wn_X6 (by decide) rfl ⟨Nat.le_of_ble_eq_true rfl, Nat.le_of_ble_eq_true rfl⟩ ⟨Nat.le_of_ble_eq_true rfl, Nat.le_of_ble_eq_true rfl⟩ (Nat.le_of_ble_eq_true rfl) dX6_readNumber_39 rfl (fun r9 G9 h9 => ?_)
      obtain ⟨e9, g9⟩ := h9
      have e8 : bM (setG (setG (setG G 11 15 0) 11 15 ((bM G p) - 48)) 11 13 (p + 1)) ((setG (setG (setG G 11 15 0) 11 15 ((bM G p) - 48)) 11 13 (p + 1)) 11 13) = bM G (p + 1) := (bM_congr (((setG_ne (by omega)).trans ((setG_ne (by omega)).trans (setG_ne (by omega))))) (fun y => ((setG_ne (by omega)).trans ((setG_ne (by omega)).trans (setG_ne (by omega))))) _).trans (congrArg (bM G) (setG_same _ _ _ _))
      rw [e9.trans e8, g9]
      clear e9 g9 e8
      have b8 := bM_r o (p := p + 1) (by omega)
      have l8 := bM_lt o (p := p + 1)
      refine ae_iadd (q := 43) (10 * (bM G p) + (bM G (p + 1)) - 480) (by omega) dX6_readNumber_42 rfl ?_
      refine aw_bipush (q := 45) dX6_readNumber_43 rfl (by decide) ?_
      refine ae_isub (q := 46) (10 * (bM G p) + (bM G (p + 1)) - 528) (by omega) dX6_readNumber_45 rfl ?_
      refine p_mod_number (q := 49) wf_RX6_178 dX6_readNumber_46 rfl ?_
      refine aw_aload_n (q := 50) 0 dX6_readNumber_49 rfl rfl rfl ?_
      refine aw_dup (q := 51) dX6_readNumber_50 rfl rfl ?_
      refine g_mod_at (q := 54) (v := p + 1) ((setG_ne (by omega)).trans (setG_same _ _ _ _)) wf_RX6_169 dX6_readNumber_51 rfl ?_
      refine aw_iconst (q := 55) dX6_readNumber_54 rfl ?_
      refine ae_iadd (q := 56) (p + 2) (by omega) dX6_readNumber_55 rfl ?_
      refine p_mod_at (q := 59) wf_RX6_169 dX6_readNumber_56 rfl ?_
      refine aw_goto (q := 10) dX6_readNumber_59 (by decide) ?_
      refine aw_aload_n (q := 11) 0 dX6_readNumber_10 rfl rfl rfl ?_
      refine cv_I (q := 14) (CC := "") (id := 108) (As := []) 0 (c_here (T := T) (D := D) (ad := ad) (setG (setG (setG (setG (setG G 11 15 0) 11 15 ((bM G p) - 48)) 11 13 (p + 1)) 11 15 (10 * (bM G p) + (bM G (p + 1)) - 528)) 11 13 (p + 2)) (okX_congr (((setG_ne (by omega)).trans ((setG_ne (by omega)).trans ((setG_ne (by omega)).trans ((setG_ne (by omega)).trans (setG_ne (by omega))))))) (fun y => ((setG_ne (by omega)).trans ((setG_ne (by omega)).trans ((setG_ne (by omega)).trans ((setG_ne (by omega)).trans (setG_ne (by omega))))))) o) (by rw [show (setG (setG (setG (setG (setG G 11 15 0) 11 15 ((bM G p) - 48)) 11 13 (p + 1)) 11 15 (10 * (bM G p) + (bM G (p + 1)) - 528)) 11 13 (p + 2)) 11 13 = p + 2 from (setG_same _ _ _ _)]; omega)) (fun _ h => h) (by omega) (cell_108 ad C _) rfl wc_X6_here wm_RX6_172 wi_X6_here ws_X6_here wn_X6 (by decide) rfl ⟨Nat.le_of_ble_eq_true rfl, Nat.le_of_ble_eq_true rfl⟩ ⟨Nat.le_of_ble_eq_true rfl, Nat.le_of_ble_eq_true rfl⟩ (Nat.le_of_ble_eq_true rfl) dX6_readNumber_11 rfl (fun r9 G9 h9 => ?_)
      obtain ⟨e9, g9⟩ := h9
      have e8 : bM (setG (setG (setG (setG (setG G 11 15 0) 11 15 ((bM G p) - 48)) 11 13 (p + 1)) 11 15 (10 * (bM G p) + (bM G (p + 1)) - 528)) 11 13 (p + 2)) ((setG (setG (setG (setG (setG G 11 15 0) 11 15 ((bM G p) - 48)) 11 13 (p + 1)) 11 15 (10 * (bM G p) + (bM G (p + 1)) - 528)) 11 13 (p + 2)) 11 13) = bM G (p + 2) := (bM_congr (((setG_ne (by omega)).trans ((setG_ne (by omega)).trans ((setG_ne (by omega)).trans ((setG_ne (by omega)).trans (setG_ne (by omega))))))) (fun y => ((setG_ne (by omega)).trans ((setG_ne (by omega)).trans ((setG_ne (by omega)).trans ((setG_ne (by omega)).trans (setG_ne (by omega))))))) _).trans (congrArg (bM G) (setG_same _ _ _ _))
      rw [e9.trans e8, g9]
      clear e9 g9 e8
      have b9 := bM_r o (p := p + 2) (by omega)
      have l9 := bM_lt o (p := p + 2)
      refine cs_I (q := 17) (As := [.int (iI ((bM G (p + 2))))]) 1 (c_isFigure (T := T) (D := D) (ad := ad) (setG (setG (setG (setG (setG G 11 15 0) 11 15 ((bM G p) - 48)) 11 13 (p + 1)) 11 15 (10 * (bM G p) + (bM G (p + 1)) - 528)) 11 13 (p + 2)) (by omega)) (fun _ h => h) wc_X6_isFigure wm_RX6_181 wt_X6_isFigure wn_X6 (by decide) rfl ⟨Nat.le_of_ble_eq_true rfl, Nat.le_of_ble_eq_true rfl⟩ ⟨Nat.le_of_ble_eq_true rfl, Nat.le_of_ble_eq_true rfl⟩ (Nat.le_of_ble_eq_true rfl) dX6_readNumber_14 rfl (fun r9 G9 h9 => ?_)
      rw [h9.1, h9.2]
      clear h9
      refine aw_ifb_eq (q := 20) dX6_readNumber_17 rfl (t := 62) (by decide) (fun y9 => ?_) (fun y10 => ?_)
      · refine aw_aload_n (q := 63) 0 dX6_readNumber_62 rfl rfl rfl ?_
        refine g_mod_at (q := 66) (v := p + 2) (setG_same _ _ _ _) wf_RX6_169 dX6_readNumber_63 rfl ?_
        refine aw_iload_n (q := 67) 2 dX6_readNumber_66 rfl rfl rfl ?_
        refine aw_icmp_eq (q := 70) dX6_readNumber_67 rfl (t := 80) (by decide) (by omega) (by omega) (fun h => absurd h (by omega)) (fun _ => ?_)
        refine aw_aload_n (q := 71) 0 dX6_readNumber_70 rfl rfl rfl ?_
        refine cv_I (q := 74) (CC := "") (id := 108) (As := []) 0 (c_here (T := T) (D := D) (ad := ad) (setG (setG (setG (setG (setG G 11 15 0) 11 15 ((bM G p) - 48)) 11 13 (p + 1)) 11 15 (10 * (bM G p) + (bM G (p + 1)) - 528)) 11 13 (p + 2)) (okX_congr (((setG_ne (by omega)).trans ((setG_ne (by omega)).trans ((setG_ne (by omega)).trans ((setG_ne (by omega)).trans (setG_ne (by omega))))))) (fun y => ((setG_ne (by omega)).trans ((setG_ne (by omega)).trans ((setG_ne (by omega)).trans ((setG_ne (by omega)).trans (setG_ne (by omega))))))) o) (by rw [show (setG (setG (setG (setG (setG G 11 15 0) 11 15 ((bM G p) - 48)) 11 13 (p + 1)) 11 15 (10 * (bM G p) + (bM G (p + 1)) - 528)) 11 13 (p + 2)) 11 13 = p + 2 from (setG_same _ _ _ _)]; omega)) (fun _ h => h) (by omega) (cell_108 ad C _) rfl wc_X6_here wm_RX6_172 wi_X6_here ws_X6_here wn_X6 (by decide) rfl ⟨Nat.le_of_ble_eq_true rfl, Nat.le_of_ble_eq_true rfl⟩ ⟨Nat.le_of_ble_eq_true rfl, Nat.le_of_ble_eq_true rfl⟩ (Nat.le_of_ble_eq_true rfl) dX6_readNumber_71 rfl (fun r9 G9 h9 => ?_)
        obtain ⟨e9, g9⟩ := h9
        have e8 : bM (setG (setG (setG (setG (setG G 11 15 0) 11 15 ((bM G p) - 48)) 11 13 (p + 1)) 11 15 (10 * (bM G p) + (bM G (p + 1)) - 528)) 11 13 (p + 2)) ((setG (setG (setG (setG (setG G 11 15 0) 11 15 ((bM G p) - 48)) 11 13 (p + 1)) 11 15 (10 * (bM G p) + (bM G (p + 1)) - 528)) 11 13 (p + 2)) 11 13) = bM G (p + 2) := (bM_congr (((setG_ne (by omega)).trans ((setG_ne (by omega)).trans ((setG_ne (by omega)).trans ((setG_ne (by omega)).trans (setG_ne (by omega))))))) (fun y => ((setG_ne (by omega)).trans ((setG_ne (by omega)).trans ((setG_ne (by omega)).trans ((setG_ne (by omega)).trans (setG_ne (by omega))))))) _).trans (congrArg (bM G) (setG_same _ _ _ _))
        rw [e9.trans e8, g9]
        clear e9 g9 e8
        have b10 := bM_r o (p := p + 2) (by omega)
        have l10 := bM_lt o (p := p + 2)
        refine cs_I (q := 77) (As := [.int (iI ((bM G (p + 2))))]) 1 (c_isFigure (T := T) (D := D) (ad := ad) (setG (setG (setG (setG (setG G 11 15 0) 11 15 ((bM G p) - 48)) 11 13 (p + 1)) 11 15 (10 * (bM G p) + (bM G (p + 1)) - 528)) 11 13 (p + 2)) (by omega)) (fun _ h => h) wc_X6_isFigure wm_RX6_181 wt_X6_isFigure wn_X6 (by decide) rfl ⟨Nat.le_of_ble_eq_true rfl, Nat.le_of_ble_eq_true rfl⟩ ⟨Nat.le_of_ble_eq_true rfl, Nat.le_of_ble_eq_true rfl⟩ (Nat.le_of_ble_eq_true rfl) dX6_readNumber_74 rfl (fun r9 G9 h9 => ?_)
        rw [h9.1, h9.2]
        clear h9
        refine aw_ifb_eq (q := 80) dX6_readNumber_77 rfl (t := 82) (by decide) (fun y11 => ?_) (fun y12 => ?_)
        · refine aw_aload_n (q := 83) 0 dX6_readNumber_82 rfl rfl rfl ?_
          refine g_mod_number (q := 86) (v := 10 * (bM G p) + (bM G (p + 1)) - 528) ((setG_ne (by omega)).trans (setG_same _ _ _ _)) wf_RX6_178 dX6_readNumber_83 rfl ?_
          refine aw_iconst (q := 87) dX6_readNumber_86 rfl ?_
          refine aw_iload_n (q := 88) 1 dX6_readNumber_87 rfl rfl rfl ?_
          refine cs_I (q := 91) (As := [.int (iI (10 * (bM G p) + (bM G (p + 1)) - 528)), .int (iI 1), .int (iI m)]) 3 (c_in (T := T) (D := D) (ad := ad) (setG (setG (setG (setG (setG G 11 15 0) 11 15 ((bM G p) - 48)) 11 13 (p + 1)) 11 15 (10 * (bM G p) + (bM G (p + 1)) - 528)) 11 13 (p + 2)) (by omega) (by omega) (by omega)) (fun _ h => h) wc_X6_in wm_RX6_62 wt_X6_in wn_X6 (by decide) rfl ⟨Nat.le_of_ble_eq_true rfl, Nat.le_of_ble_eq_true rfl⟩ ⟨Nat.le_of_ble_eq_true rfl, Nat.le_of_ble_eq_true rfl⟩ (Nat.le_of_ble_eq_true rfl) dX6_readNumber_88 rfl (fun r9 G9 h9 => ?_)
          rw [h9.1, h9.2]
          clear h9
          refine aw_istore_n (q := 92) (lv2 := [(0, .ref (ad 108)), (1, .int (iI m)), (2, .int (iI p)), (3, .int (iI ((b2i (1 ≤ (10 * (bM G p) + (bM G (p + 1)) - 528) ∧ (10 * (bM G p) + (bM G (p + 1)) - 528) ≤ m)))))]) [1, 2, 3, 0] dX6_readNumber_91 rfl rfl (by decide) rfl rfl ?_
          refine aw_aload_n (q := 93) 0 dX6_readNumber_92 rfl rfl rfl ?_
          refine aw_iload_n (q := 94) 3 dX6_readNumber_93 rfl rfl rfl ?_
          refine aw_ifb_eq (q := 97) dX6_readNumber_94 rfl (t := 104) (by decide) (fun y13 => ?_) (fun y14 => ?_)
          · refine aw_iload_n (q := 105) 2 dX6_readNumber_104 rfl rfl rfl ?_
            refine p_mod_at (q := 108) wf_RX6_169 dX6_readNumber_105 rfl ?_
            refine aw_iload_n (q := 109) 3 dX6_readNumber_108 rfl rfl rfl ?_
            exact rt_z rfl (by first | omega | exact b2i_r _) (Nat.le_refl _) (Nat.le_refl _) (by
                have q1 : fig (bM G (p + 1)) → nQ (bM G) p = p + 2 := fun z => if_pos z
                have q2 : ¬ fig (bM G (p + 1)) → nQ (bM G) p = p + 1 := fun z => if_neg z
                have v1 : fig (bM G (p + 1)) → nV (bM G) p = 10 * (bM G p - 48) + (bM G (p + 1) - 48) := fun z => if_pos z
                have v2 : ¬ fig (bM G (p + 1)) → nV (bM G) p = bM G p - 48 := fun z => if_neg z
                by_cases z0 : fig (bM G p)
                · by_cases z1 : fig (bM G (p + 1))
                  · have e1 := q1 z1
                    have e2 := v1 z1
                    by_cases z2 : fig (bM G (p + 2))
                    · first
                        | (exfalso; omega)
                        | exact Or.inr ⟨fun q => by have := q.2.1; rw [e1] at this; exact this z2, rfl, ((setG_same _ _ _ _)).trans (by unfold fNum; rw [if_neg (fun q => q z0), e1, if_pos z2]; try omega), fun x y z => ((setG_ne (by omega)).trans ((setG_ne (by omega)).trans ((setG_ne (by omega)).trans ((setG_ne (by omega)).trans ((setG_ne (by omega)).trans (setG_ne (by omega)))))))⟩
                    · first
                        | (exfalso; omega)
                        | exact Or.inl ⟨⟨z0, by rw [e1]; exact z2, by omega, by omega⟩, by first | rfl | exact b2i_t (by assumption) | exact b2i_f (by assumption), (((setG_ne (by omega)).trans ((setG_ne (by omega)).trans (setG_same _ _ _ _)))).trans (by rw [e2]; try omega), ((setG_same _ _ _ _)).trans (by rw [e1]; try omega), fun x y z => ((setG_ne (by omega)).trans ((setG_ne (by omega)).trans ((setG_ne (by omega)).trans ((setG_ne (by omega)).trans ((setG_ne (by omega)).trans (setG_ne (by omega)))))))⟩
                        | exact Or.inr ⟨fun q => by have := q.2.2; omega, by first | rfl | exact b2i_t (by assumption) | exact b2i_f (by assumption), ((setG_same _ _ _ _)).trans (by unfold fNum; rw [if_neg (fun q => q z0), e1, if_neg z2]; try omega), fun x y z => ((setG_ne (by omega)).trans ((setG_ne (by omega)).trans ((setG_ne (by omega)).trans ((setG_ne (by omega)).trans ((setG_ne (by omega)).trans (setG_ne (by omega)))))))⟩
                  · have e1 := q2 z1
                    have e2 := v2 z1
                    first
                      | (exfalso; omega)
                      | exact Or.inl ⟨⟨z0, by rw [e1]; exact z1, by omega, by omega⟩, by first | rfl | exact b2i_t (by assumption) | exact b2i_f (by assumption), (((setG_ne (by omega)).trans ((setG_ne (by omega)).trans (setG_same _ _ _ _)))).trans (by rw [e2]; try omega), ((setG_same _ _ _ _)).trans (by rw [e1]; try omega), fun x y z => ((setG_ne (by omega)).trans ((setG_ne (by omega)).trans ((setG_ne (by omega)).trans ((setG_ne (by omega)).trans ((setG_ne (by omega)).trans (setG_ne (by omega)))))))⟩
                      | exact Or.inr ⟨fun q => by have := q.2.2; omega, by first | rfl | exact b2i_t (by assumption) | exact b2i_f (by assumption), ((setG_same _ _ _ _)).trans (by unfold fNum; rw [if_neg (fun q => q z0), e1, if_neg z1]; try omega), fun x y z => ((setG_ne (by omega)).trans ((setG_ne (by omega)).trans ((setG_ne (by omega)).trans ((setG_ne (by omega)).trans ((setG_ne (by omega)).trans (setG_ne (by omega)))))))⟩
                · first
                    | (exfalso; omega)
                    | exact Or.inr ⟨fun q => z0 q.1, rfl, ((setG_same _ _ _ _)).trans (by unfold fNum; rw [if_pos z0]; try omega), fun x y z => ((setG_ne (by omega)).trans ((setG_ne (by omega)).trans ((setG_ne (by omega)).trans ((setG_ne (by omega)).trans ((setG_ne (by omega)).trans (setG_ne (by omega)))))))⟩) dX6_readNumber_109
          · refine aw_aload_n (q := 98) 0 dX6_readNumber_97 rfl rfl rfl ?_
            refine g_mod_at (q := 101) (v := p + 2) (setG_same _ _ _ _) wf_RX6_169 dX6_readNumber_98 rfl ?_
            refine aw_goto (q := 105) dX6_readNumber_101 (by decide) ?_
            refine p_mod_at (q := 108) wf_RX6_169 dX6_readNumber_105 rfl ?_
            refine aw_iload_n (q := 109) 3 dX6_readNumber_108 rfl rfl rfl ?_
            exact rt_z rfl (by first | omega | exact b2i_r _) (Nat.le_refl _) (Nat.le_refl _) (by
                have q1 : fig (bM G (p + 1)) → nQ (bM G) p = p + 2 := fun z => if_pos z
                have q2 : ¬ fig (bM G (p + 1)) → nQ (bM G) p = p + 1 := fun z => if_neg z
                have v1 : fig (bM G (p + 1)) → nV (bM G) p = 10 * (bM G p - 48) + (bM G (p + 1) - 48) := fun z => if_pos z
                have v2 : ¬ fig (bM G (p + 1)) → nV (bM G) p = bM G p - 48 := fun z => if_neg z
                by_cases z0 : fig (bM G p)
                · by_cases z1 : fig (bM G (p + 1))
                  · have e1 := q1 z1
                    have e2 := v1 z1
                    by_cases z2 : fig (bM G (p + 2))
                    · first
                        | (exfalso; omega)
                        | exact Or.inr ⟨fun q => by have := q.2.1; rw [e1] at this; exact this z2, rfl, ((setG_same _ _ _ _)).trans (by unfold fNum; rw [if_neg (fun q => q z0), e1, if_pos z2]; try omega), fun x y z => ((setG_ne (by omega)).trans ((setG_ne (by omega)).trans ((setG_ne (by omega)).trans ((setG_ne (by omega)).trans ((setG_ne (by omega)).trans (setG_ne (by omega)))))))⟩
                    · first
                        | (exfalso; omega)
                        | exact Or.inl ⟨⟨z0, by rw [e1]; exact z2, by omega, by omega⟩, by first | rfl | exact b2i_t (by assumption) | exact b2i_f (by assumption), (((setG_ne (by omega)).trans ((setG_ne (by omega)).trans (setG_same _ _ _ _)))).trans (by rw [e2]; try omega), ((setG_same _ _ _ _)).trans (by rw [e1]; try omega), fun x y z => ((setG_ne (by omega)).trans ((setG_ne (by omega)).trans ((setG_ne (by omega)).trans ((setG_ne (by omega)).trans ((setG_ne (by omega)).trans (setG_ne (by omega)))))))⟩
                        | exact Or.inr ⟨fun q => by have := q.2.2; omega, by first | rfl | exact b2i_t (by assumption) | exact b2i_f (by assumption), ((setG_same _ _ _ _)).trans (by unfold fNum; rw [if_neg (fun q => q z0), e1, if_neg z2]; try omega), fun x y z => ((setG_ne (by omega)).trans ((setG_ne (by omega)).trans ((setG_ne (by omega)).trans ((setG_ne (by omega)).trans ((setG_ne (by omega)).trans (setG_ne (by omega)))))))⟩
                  · have e1 := q2 z1
                    have e2 := v2 z1
                    first
                      | (exfalso; omega)
                      | exact Or.inl ⟨⟨z0, by rw [e1]; exact z1, by omega, by omega⟩, by first | rfl | exact b2i_t (by assumption) | exact b2i_f (by assumption), (((setG_ne (by omega)).trans ((setG_ne (by omega)).trans (setG_same _ _ _ _)))).trans (by rw [e2]; try omega), ((setG_same _ _ _ _)).trans (by rw [e1]; try omega), fun x y z => ((setG_ne (by omega)).trans ((setG_ne (by omega)).trans ((setG_ne (by omega)).trans ((setG_ne (by omega)).trans ((setG_ne (by omega)).trans (setG_ne (by omega)))))))⟩
                      | exact Or.inr ⟨fun q => by have := q.2.2; omega, by first | rfl | exact b2i_t (by assumption) | exact b2i_f (by assumption), ((setG_same _ _ _ _)).trans (by unfold fNum; rw [if_neg (fun q => q z0), e1, if_neg z1]; try omega), fun x y z => ((setG_ne (by omega)).trans ((setG_ne (by omega)).trans ((setG_ne (by omega)).trans ((setG_ne (by omega)).trans ((setG_ne (by omega)).trans (setG_ne (by omega)))))))⟩
                · first
                    | (exfalso; omega)
                    | exact Or.inr ⟨fun q => z0 q.1, rfl, ((setG_same _ _ _ _)).trans (by unfold fNum; rw [if_pos z0]; try omega), fun x y z => ((setG_ne (by omega)).trans ((setG_ne (by omega)).trans ((setG_ne (by omega)).trans ((setG_ne (by omega)).trans ((setG_ne (by omega)).trans (setG_ne (by omega)))))))⟩) dX6_readNumber_109
        · refine aw_iconst (q := 81) dX6_readNumber_80 rfl ?_
          exact rt_z rfl (by first | omega | exact b2i_r _) (Nat.le_refl _) (Nat.le_refl _) (by
              have q1 : fig (bM G (p + 1)) → nQ (bM G) p = p + 2 := fun z => if_pos z
              have q2 : ¬ fig (bM G (p + 1)) → nQ (bM G) p = p + 1 := fun z => if_neg z
              have v1 : fig (bM G (p + 1)) → nV (bM G) p = 10 * (bM G p - 48) + (bM G (p + 1) - 48) := fun z => if_pos z
              have v2 : ¬ fig (bM G (p + 1)) → nV (bM G) p = bM G p - 48 := fun z => if_neg z
              by_cases z0 : fig (bM G p)
              · by_cases z1 : fig (bM G (p + 1))
                · have e1 := q1 z1
                  have e2 := v1 z1
                  by_cases z2 : fig (bM G (p + 2))
                  · first
                      | (exfalso; omega)
                      | exact Or.inr ⟨fun q => by have := q.2.1; rw [e1] at this; exact this z2, rfl, ((setG_same _ _ _ _)).trans (by unfold fNum; rw [if_neg (fun q => q z0), e1, if_pos z2]; try omega), fun x y z => ((setG_ne (by omega)).trans ((setG_ne (by omega)).trans ((setG_ne (by omega)).trans ((setG_ne (by omega)).trans (setG_ne (by omega))))))⟩
                  · first
                      | (exfalso; omega)
                      | exact Or.inl ⟨⟨z0, by rw [e1]; exact z2, by omega, by omega⟩, by first | rfl | exact b2i_t (by assumption) | exact b2i_f (by assumption), (((setG_ne (by omega)).trans (setG_same _ _ _ _))).trans (by rw [e2]; try omega), ((setG_same _ _ _ _)).trans (by rw [e1]; try omega), fun x y z => ((setG_ne (by omega)).trans ((setG_ne (by omega)).trans ((setG_ne (by omega)).trans ((setG_ne (by omega)).trans (setG_ne (by omega))))))⟩
                      | exact Or.inr ⟨fun q => by have := q.2.2; omega, by first | rfl | exact b2i_t (by assumption) | exact b2i_f (by assumption), ((setG_same _ _ _ _)).trans (by unfold fNum; rw [if_neg (fun q => q z0), e1, if_neg z2]; try omega), fun x y z => ((setG_ne (by omega)).trans ((setG_ne (by omega)).trans ((setG_ne (by omega)).trans ((setG_ne (by omega)).trans (setG_ne (by omega))))))⟩
                · have e1 := q2 z1
                  have e2 := v2 z1
                  first
                    | (exfalso; omega)
                    | exact Or.inl ⟨⟨z0, by rw [e1]; exact z1, by omega, by omega⟩, by first | rfl | exact b2i_t (by assumption) | exact b2i_f (by assumption), (((setG_ne (by omega)).trans (setG_same _ _ _ _))).trans (by rw [e2]; try omega), ((setG_same _ _ _ _)).trans (by rw [e1]; try omega), fun x y z => ((setG_ne (by omega)).trans ((setG_ne (by omega)).trans ((setG_ne (by omega)).trans ((setG_ne (by omega)).trans (setG_ne (by omega))))))⟩
                    | exact Or.inr ⟨fun q => by have := q.2.2; omega, by first | rfl | exact b2i_t (by assumption) | exact b2i_f (by assumption), ((setG_same _ _ _ _)).trans (by unfold fNum; rw [if_neg (fun q => q z0), e1, if_neg z1]; try omega), fun x y z => ((setG_ne (by omega)).trans ((setG_ne (by omega)).trans ((setG_ne (by omega)).trans ((setG_ne (by omega)).trans (setG_ne (by omega))))))⟩
              · first
                  | (exfalso; omega)
                  | exact Or.inr ⟨fun q => z0 q.1, rfl, ((setG_same _ _ _ _)).trans (by unfold fNum; rw [if_pos z0]; try omega), fun x y z => ((setG_ne (by omega)).trans ((setG_ne (by omega)).trans ((setG_ne (by omega)).trans ((setG_ne (by omega)).trans (setG_ne (by omega))))))⟩) dX6_readNumber_81
      · refine aw_aload_n (q := 21) 0 dX6_readNumber_20 rfl rfl rfl ?_
        refine g_mod_at (q := 24) (v := p + 2) (setG_same _ _ _ _) wf_RX6_169 dX6_readNumber_21 rfl ?_
        refine aw_iload_n (q := 25) 2 dX6_readNumber_24 rfl rfl rfl ?_
        refine aw_iconst (q := 26) dX6_readNumber_25 rfl ?_
        refine ae_iadd (q := 27) (p + 2) (by omega) dX6_readNumber_26 rfl ?_
        refine aw_icmp_ge (q := 30) dX6_readNumber_27 rfl (t := 62) (by decide) (by omega) (by omega) (fun _ => ?_) (fun h => absurd h (by omega))
        refine aw_aload_n (q := 63) 0 dX6_readNumber_62 rfl rfl rfl ?_
        refine g_mod_at (q := 66) (v := p + 2) (setG_same _ _ _ _) wf_RX6_169 dX6_readNumber_63 rfl ?_
        refine aw_iload_n (q := 67) 2 dX6_readNumber_66 rfl rfl rfl ?_
        refine aw_icmp_eq (q := 70) dX6_readNumber_67 rfl (t := 80) (by decide) (by omega) (by omega) (fun h => absurd h (by omega)) (fun _ => ?_)
        refine aw_aload_n (q := 71) 0 dX6_readNumber_70 rfl rfl rfl ?_
        refine cv_I (q := 74) (CC := "") (id := 108) (As := []) 0 (c_here (T := T) (D := D) (ad := ad) (setG (setG (setG (setG (setG G 11 15 0) 11 15 ((bM G p) - 48)) 11 13 (p + 1)) 11 15 (10 * (bM G p) + (bM G (p + 1)) - 528)) 11 13 (p + 2)) (okX_congr (((setG_ne (by omega)).trans ((setG_ne (by omega)).trans ((setG_ne (by omega)).trans ((setG_ne (by omega)).trans (setG_ne (by omega))))))) (fun y => ((setG_ne (by omega)).trans ((setG_ne (by omega)).trans ((setG_ne (by omega)).trans ((setG_ne (by omega)).trans (setG_ne (by omega))))))) o) (by rw [show (setG (setG (setG (setG (setG G 11 15 0) 11 15 ((bM G p) - 48)) 11 13 (p + 1)) 11 15 (10 * (bM G p) + (bM G (p + 1)) - 528)) 11 13 (p + 2)) 11 13 = p + 2 from (setG_same _ _ _ _)]; omega)) (fun _ h => h) (by omega) (cell_108 ad C _) rfl wc_X6_here wm_RX6_172 wi_X6_here ws_X6_here wn_X6 (by decide) rfl ⟨Nat.le_of_ble_eq_true rfl, Nat.le_of_ble_eq_true rfl⟩ ⟨Nat.le_of_ble_eq_true rfl, Nat.le_of_ble_eq_true rfl⟩ (Nat.le_of_ble_eq_true rfl) dX6_readNumber_71 rfl (fun r9 G9 h9 => ?_)
        obtain ⟨e9, g9⟩ := h9
        have e8 : bM (setG (setG (setG (setG (setG G 11 15 0) 11 15 ((bM G p) - 48)) 11 13 (p + 1)) 11 15 (10 * (bM G p) + (bM G (p + 1)) - 528)) 11 13 (p + 2)) ((setG (setG (setG (setG (setG G 11 15 0) 11 15 ((bM G p) - 48)) 11 13 (p + 1)) 11 15 (10 * (bM G p) + (bM G (p + 1)) - 528)) 11 13 (p + 2)) 11 13) = bM G (p + 2) := (bM_congr (((setG_ne (by omega)).trans ((setG_ne (by omega)).trans ((setG_ne (by omega)).trans ((setG_ne (by omega)).trans (setG_ne (by omega))))))) (fun y => ((setG_ne (by omega)).trans ((setG_ne (by omega)).trans ((setG_ne (by omega)).trans ((setG_ne (by omega)).trans (setG_ne (by omega))))))) _).trans (congrArg (bM G) (setG_same _ _ _ _))
        rw [e9.trans e8, g9]
        clear e9 g9 e8
        have b11 := bM_r o (p := p + 2) (by omega)
        have l11 := bM_lt o (p := p + 2)
        refine cs_I (q := 77) (As := [.int (iI ((bM G (p + 2))))]) 1 (c_isFigure (T := T) (D := D) (ad := ad) (setG (setG (setG (setG (setG G 11 15 0) 11 15 ((bM G p) - 48)) 11 13 (p + 1)) 11 15 (10 * (bM G p) + (bM G (p + 1)) - 528)) 11 13 (p + 2)) (by omega)) (fun _ h => h) wc_X6_isFigure wm_RX6_181 wt_X6_isFigure wn_X6 (by decide) rfl ⟨Nat.le_of_ble_eq_true rfl, Nat.le_of_ble_eq_true rfl⟩ ⟨Nat.le_of_ble_eq_true rfl, Nat.le_of_ble_eq_true rfl⟩ (Nat.le_of_ble_eq_true rfl) dX6_readNumber_74 rfl (fun r9 G9 h9 => ?_)
        rw [h9.1, h9.2]
        clear h9
        refine aw_ifb_eq (q := 80) dX6_readNumber_77 rfl (t := 82) (by decide) (fun y15 => ?_) (fun y16 => ?_)
        · refine aw_aload_n (q := 83) 0 dX6_readNumber_82 rfl rfl rfl ?_
          refine g_mod_number (q := 86) (v := 10 * (bM G p) + (bM G (p + 1)) - 528) ((setG_ne (by omega)).trans (setG_same _ _ _ _)) wf_RX6_178 dX6_readNumber_83 rfl ?_
          refine aw_iconst (q := 87) dX6_readNumber_86 rfl ?_
          refine aw_iload_n (q := 88) 1 dX6_readNumber_87 rfl rfl rfl ?_
          refine cs_I (q := 91) (As := [.int (iI (10 * (bM G p) + (bM G (p + 1)) - 528)), .int (iI 1), .int (iI m)]) 3 (c_in (T := T) (D := D) (ad := ad) (setG (setG (setG (setG (setG G 11 15 0) 11 15 ((bM G p) - 48)) 11 13 (p + 1)) 11 15 (10 * (bM G p) + (bM G (p + 1)) - 528)) 11 13 (p + 2)) (by omega) (by omega) (by omega)) (fun _ h => h) wc_X6_in wm_RX6_62 wt_X6_in wn_X6 (by decide) rfl ⟨Nat.le_of_ble_eq_true rfl, Nat.le_of_ble_eq_true rfl⟩ ⟨Nat.le_of_ble_eq_true rfl, Nat.le_of_ble_eq_true rfl⟩ (Nat.le_of_ble_eq_true rfl) dX6_readNumber_88 rfl (fun r9 G9 h9 => ?_)
          rw [h9.1, h9.2]
          clear h9
          refine aw_istore_n (q := 92) (lv2 := [(0, .ref (ad 108)), (1, .int (iI m)), (2, .int (iI p)), (3, .int (iI ((b2i (1 ≤ (10 * (bM G p) + (bM G (p + 1)) - 528) ∧ (10 * (bM G p) + (bM G (p + 1)) - 528) ≤ m)))))]) [1, 2, 3, 0] dX6_readNumber_91 rfl rfl (by decide) rfl rfl ?_
          refine aw_aload_n (q := 93) 0 dX6_readNumber_92 rfl rfl rfl ?_
          refine aw_iload_n (q := 94) 3 dX6_readNumber_93 rfl rfl rfl ?_
          refine aw_ifb_eq (q := 97) dX6_readNumber_94 rfl (t := 104) (by decide) (fun y17 => ?_) (fun y18 => ?_)
          · refine aw_iload_n (q := 105) 2 dX6_readNumber_104 rfl rfl rfl ?_
            refine p_mod_at (q := 108) wf_RX6_169 dX6_readNumber_105 rfl ?_
            refine aw_iload_n (q := 109) 3 dX6_readNumber_108 rfl rfl rfl ?_
            exact rt_z rfl (by first | omega | exact b2i_r _) (Nat.le_refl _) (Nat.le_refl _) (by
                have q1 : fig (bM G (p + 1)) → nQ (bM G) p = p + 2 := fun z => if_pos z
                have q2 : ¬ fig (bM G (p + 1)) → nQ (bM G) p = p + 1 := fun z => if_neg z
                have v1 : fig (bM G (p + 1)) → nV (bM G) p = 10 * (bM G p - 48) + (bM G (p + 1) - 48) := fun z => if_pos z
                have v2 : ¬ fig (bM G (p + 1)) → nV (bM G) p = bM G p - 48 := fun z => if_neg z
                by_cases z0 : fig (bM G p)
                · by_cases z1 : fig (bM G (p + 1))
                  · have e1 := q1 z1
                    have e2 := v1 z1
                    by_cases z2 : fig (bM G (p + 2))
                    · first
                        | (exfalso; omega)
                        | exact Or.inr ⟨fun q => by have := q.2.1; rw [e1] at this; exact this z2, rfl, ((setG_same _ _ _ _)).trans (by unfold fNum; rw [if_neg (fun q => q z0), e1, if_pos z2]; try omega), fun x y z => ((setG_ne (by omega)).trans ((setG_ne (by omega)).trans ((setG_ne (by omega)).trans ((setG_ne (by omega)).trans ((setG_ne (by omega)).trans (setG_ne (by omega)))))))⟩
                    · first
                        | (exfalso; omega)
                        | exact Or.inl ⟨⟨z0, by rw [e1]; exact z2, by omega, by omega⟩, by first | rfl | exact b2i_t (by assumption) | exact b2i_f (by assumption), (((setG_ne (by omega)).trans ((setG_ne (by omega)).trans (setG_same _ _ _ _)))).trans (by rw [e2]; try omega), ((setG_same _ _ _ _)).trans (by rw [e1]; try omega), fun x y z => ((setG_ne (by omega)).trans ((setG_ne (by omega)).trans ((setG_ne (by omega)).trans ((setG_ne (by omega)).trans ((setG_ne (by omega)).trans (setG_ne (by omega)))))))⟩
                        | exact Or.inr ⟨fun q => by have := q.2.2; omega, by first | rfl | exact b2i_t (by assumption) | exact b2i_f (by assumption), ((setG_same _ _ _ _)).trans (by unfold fNum; rw [if_neg (fun q => q z0), e1, if_neg z2]; try omega), fun x y z => ((setG_ne (by omega)).trans ((setG_ne (by omega)).trans ((setG_ne (by omega)).trans ((setG_ne (by omega)).trans ((setG_ne (by omega)).trans (setG_ne (by omega)))))))⟩
                  · have e1 := q2 z1
                    have e2 := v2 z1
                    first
                      | (exfalso; omega)
                      | exact Or.inl ⟨⟨z0, by rw [e1]; exact z1, by omega, by omega⟩, by first | rfl | exact b2i_t (by assumption) | exact b2i_f (by assumption), (((setG_ne (by omega)).trans ((setG_ne (by omega)).trans (setG_same _ _ _ _)))).trans (by rw [e2]; try omega), ((setG_same _ _ _ _)).trans (by rw [e1]; try omega), fun x y z => ((setG_ne (by omega)).trans ((setG_ne (by omega)).trans ((setG_ne (by omega)).trans ((setG_ne (by omega)).trans ((setG_ne (by omega)).trans (setG_ne (by omega)))))))⟩
                      | exact Or.inr ⟨fun q => by have := q.2.2; omega, by first | rfl | exact b2i_t (by assumption) | exact b2i_f (by assumption), ((setG_same _ _ _ _)).trans (by unfold fNum; rw [if_neg (fun q => q z0), e1, if_neg z1]; try omega), fun x y z => ((setG_ne (by omega)).trans ((setG_ne (by omega)).trans ((setG_ne (by omega)).trans ((setG_ne (by omega)).trans ((setG_ne (by omega)).trans (setG_ne (by omega)))))))⟩
                · first
                    | (exfalso; omega)
                    | exact Or.inr ⟨fun q => z0 q.1, rfl, ((setG_same _ _ _ _)).trans (by unfold fNum; rw [if_pos z0]; try omega), fun x y z => ((setG_ne (by omega)).trans ((setG_ne (by omega)).trans ((setG_ne (by omega)).trans ((setG_ne (by omega)).trans ((setG_ne (by omega)).trans (setG_ne (by omega)))))))⟩) dX6_readNumber_109
          · refine aw_aload_n (q := 98) 0 dX6_readNumber_97 rfl rfl rfl ?_
            refine g_mod_at (q := 101) (v := p + 2) (setG_same _ _ _ _) wf_RX6_169 dX6_readNumber_98 rfl ?_
            refine aw_goto (q := 105) dX6_readNumber_101 (by decide) ?_
            refine p_mod_at (q := 108) wf_RX6_169 dX6_readNumber_105 rfl ?_
            refine aw_iload_n (q := 109) 3 dX6_readNumber_108 rfl rfl rfl ?_
            exact rt_z rfl (by first | omega | exact b2i_r _) (Nat.le_refl _) (Nat.le_refl _) (by
                have q1 : fig (bM G (p + 1)) → nQ (bM G) p = p + 2 := fun z => if_pos z
                have q2 : ¬ fig (bM G (p + 1)) → nQ (bM G) p = p + 1 := fun z => if_neg z
                have v1 : fig (bM G (p + 1)) → nV (bM G) p = 10 * (bM G p - 48) + (bM G (p + 1) - 48) := fun z => if_pos z
                have v2 : ¬ fig (bM G (p + 1)) → nV (bM G) p = bM G p - 48 := fun z => if_neg z
                by_cases z0 : fig (bM G p)
                · by_cases z1 : fig (bM G (p + 1))
                  · have e1 := q1 z1
                    have e2 := v1 z1
                    by_cases z2 : fig (bM G (p + 2))
                    · first
                        | (exfalso; omega)
                        | exact Or.inr ⟨fun q => by have := q.2.1; rw [e1] at this; exact this z2, rfl, ((setG_same _ _ _ _)).trans (by unfold fNum; rw [if_neg (fun q => q z0), e1, if_pos z2]; try omega), fun x y z => ((setG_ne (by omega)).trans ((setG_ne (by omega)).trans ((setG_ne (by omega)).trans ((setG_ne (by omega)).trans ((setG_ne (by omega)).trans (setG_ne (by omega)))))))⟩
                    · first
                        | (exfalso; omega)
                        | exact Or.inl ⟨⟨z0, by rw [e1]; exact z2, by omega, by omega⟩, by first | rfl | exact b2i_t (by assumption) | exact b2i_f (by assumption), (((setG_ne (by omega)).trans ((setG_ne (by omega)).trans (setG_same _ _ _ _)))).trans (by rw [e2]; try omega), ((setG_same _ _ _ _)).trans (by rw [e1]; try omega), fun x y z => ((setG_ne (by omega)).trans ((setG_ne (by omega)).trans ((setG_ne (by omega)).trans ((setG_ne (by omega)).trans ((setG_ne (by omega)).trans (setG_ne (by omega)))))))⟩
                        | exact Or.inr ⟨fun q => by have := q.2.2; omega, by first | rfl | exact b2i_t (by assumption) | exact b2i_f (by assumption), ((setG_same _ _ _ _)).trans (by unfold fNum; rw [if_neg (fun q => q z0), e1, if_neg z2]; try omega), fun x y z => ((setG_ne (by omega)).trans ((setG_ne (by omega)).trans ((setG_ne (by omega)).trans ((setG_ne (by omega)).trans ((setG_ne (by omega)).trans (setG_ne (by omega)))))))⟩
                  · have e1 := q2 z1
                    have e2 := v2 z1
                    first
                      | (exfalso; omega)
                      | exact Or.inl ⟨⟨z0, by rw [e1]; exact z1, by omega, by omega⟩, by first | rfl | exact b2i_t (by assumption) | exact b2i_f (by assumption), (((setG_ne (by omega)).trans ((setG_ne (by omega)).trans (setG_same _ _ _ _)))).trans (by rw [e2]; try omega), ((setG_same _ _ _ _)).trans (by rw [e1]; try omega), fun x y z => ((setG_ne (by omega)).trans ((setG_ne (by omega)).trans ((setG_ne (by omega)).trans ((setG_ne (by omega)).trans ((setG_ne (by omega)).trans (setG_ne (by omega)))))))⟩
                      | exact Or.inr ⟨fun q => by have := q.2.2; omega, by first | rfl | exact b2i_t (by assumption) | exact b2i_f (by assumption), ((setG_same _ _ _ _)).trans (by unfold fNum; rw [if_neg (fun q => q z0), e1, if_neg z1]; try omega), fun x y z => ((setG_ne (by omega)).trans ((setG_ne (by omega)).trans ((setG_ne (by omega)).trans ((setG_ne (by omega)).trans ((setG_ne (by omega)).trans (setG_ne (by omega)))))))⟩
                · first
                    | (exfalso; omega)
                    | exact Or.inr ⟨fun q => z0 q.1, rfl, ((setG_same _ _ _ _)).trans (by unfold fNum; rw [if_pos z0]; try omega), fun x y z => ((setG_ne (by omega)).trans ((setG_ne (by omega)).trans ((setG_ne (by omega)).trans ((setG_ne (by omega)).trans ((setG_ne (by omega)).trans (setG_ne (by omega)))))))⟩) dX6_readNumber_109
        · refine aw_iconst (q := 81) dX6_readNumber_80 rfl ?_
          exact rt_z rfl (by first | omega | exact b2i_r _) (Nat.le_refl _) (Nat.le_refl _) (by
              have q1 : fig (bM G (p + 1)) → nQ (bM G) p = p + 2 := fun z => if_pos z
              have q2 : ¬ fig (bM G (p + 1)) → nQ (bM G) p = p + 1 := fun z => if_neg z
              have v1 : fig (bM G (p + 1)) → nV (bM G) p = 10 * (bM G p - 48) + (bM G (p + 1) - 48) := fun z => if_pos z
              have v2 : ¬ fig (bM G (p + 1)) → nV (bM G) p = bM G p - 48 := fun z => if_neg z
              by_cases z0 : fig (bM G p)
              · by_cases z1 : fig (bM G (p + 1))
                · have e1 := q1 z1
                  have e2 := v1 z1
                  by_cases z2 : fig (bM G (p + 2))
                  · first
                      | (exfalso; omega)
                      | exact Or.inr ⟨fun q => by have := q.2.1; rw [e1] at this; exact this z2, rfl, ((setG_same _ _ _ _)).trans (by unfold fNum; rw [if_neg (fun q => q z0), e1, if_pos z2]; try omega), fun x y z => ((setG_ne (by omega)).trans ((setG_ne (by omega)).trans ((setG_ne (by omega)).trans ((setG_ne (by omega)).trans (setG_ne (by omega))))))⟩
                  · first
                      | (exfalso; omega)
                      | exact Or.inl ⟨⟨z0, by rw [e1]; exact z2, by omega, by omega⟩, by first | rfl | exact b2i_t (by assumption) | exact b2i_f (by assumption), (((setG_ne (by omega)).trans (setG_same _ _ _ _))).trans (by rw [e2]; try omega), ((setG_same _ _ _ _)).trans (by rw [e1]; try omega), fun x y z => ((setG_ne (by omega)).trans ((setG_ne (by omega)).trans ((setG_ne (by omega)).trans ((setG_ne (by omega)).trans (setG_ne (by omega))))))⟩
                      | exact Or.inr ⟨fun q => by have := q.2.2; omega, by first | rfl | exact b2i_t (by assumption) | exact b2i_f (by assumption), ((setG_same _ _ _ _)).trans (by unfold fNum; rw [if_neg (fun q => q z0), e1, if_neg z2]; try omega), fun x y z => ((setG_ne (by omega)).trans ((setG_ne (by omega)).trans ((setG_ne (by omega)).trans ((setG_ne (by omega)).trans (setG_ne (by omega))))))⟩
                · have e1 := q2 z1
                  have e2 := v2 z1
                  first
                    | (exfalso; omega)
                    | exact Or.inl ⟨⟨z0, by rw [e1]; exact z1, by omega, by omega⟩, by first | rfl | exact b2i_t (by assumption) | exact b2i_f (by assumption), (((setG_ne (by omega)).trans (setG_same _ _ _ _))).trans (by rw [e2]; try omega), ((setG_same _ _ _ _)).trans (by rw [e1]; try omega), fun x y z => ((setG_ne (by omega)).trans ((setG_ne (by omega)).trans ((setG_ne (by omega)).trans ((setG_ne (by omega)).trans (setG_ne (by omega))))))⟩
                    | exact Or.inr ⟨fun q => by have := q.2.2; omega, by first | rfl | exact b2i_t (by assumption) | exact b2i_f (by assumption), ((setG_same _ _ _ _)).trans (by unfold fNum; rw [if_neg (fun q => q z0), e1, if_neg z1]; try omega), fun x y z => ((setG_ne (by omega)).trans ((setG_ne (by omega)).trans ((setG_ne (by omega)).trans ((setG_ne (by omega)).trans (setG_ne (by omega))))))⟩
              · first
                  | (exfalso; omega)
                  | exact Or.inr ⟨fun q => z0 q.1, rfl, ((setG_same _ _ _ _)).trans (by unfold fNum; rw [if_pos z0]; try omega), fun x y z => ((setG_ne (by omega)).trans ((setG_ne (by omega)).trans ((setG_ne (by omega)).trans ((setG_ne (by omega)).trans (setG_ne (by omega))))))⟩) dX6_readNumber_81
theorem c_readNumberMY {l : Launch} {D : va_G} {C : Nat → ClassId} {T : Nat → Nat} {ad : Int → Nat} (G : GG) (o : okX G) {p : Int} (hp : G 11 13 = p) (h0 : 0 ≤ p) (h1 : p ≤ 150) {m : Int} (hm : 1 ≤ m ∧ m ≤ 99) (hq : okNum (bM G) p m) : MC l yX6_readNumber cX6_readNumber 4 (some .boolean) 2 42 0 0 D (tyC C) T [.ref (ad 108), .int (iI m)] (cw ad C G) (RI ad C (fun r G1 => r = 1 ∧ G1 11 15 = nV (bM G) p ∧ G1 11 13 = nQ (bM G) p ∧ sameB (fun x y => x = 11 ∧ (y = 13 ∨ y = 15)) G G1)) :=
  (c_readNumberM G o hp h0 h1 hm).mono (fun v w e => by obtain ⟨r, G1, e1, e2, e3⟩ := e; exact ⟨r, G1, e1, e2, by rcases e3 with e3 | e3 <;> first | exact (absurd hq e3.1) | exact absurd e3.1 hq | exact e3.2⟩)
theorem c_readNumberMN {l : Launch} {D : va_G} {C : Nat → ClassId} {T : Nat → Nat} {ad : Int → Nat} (G : GG) (o : okX G) {p : Int} (hp : G 11 13 = p) (h0 : 0 ≤ p) (h1 : p ≤ 150) {m : Int} (hm : 1 ≤ m ∧ m ≤ 99) (hq : ¬ okNum (bM G) p m) : MC l yX6_readNumber cX6_readNumber 4 (some .boolean) 2 42 0 0 D (tyC C) T [.ref (ad 108), .int (iI m)] (cw ad C G) (RI ad C (fun r G1 => r = 0 ∧ G1 11 13 = fNum (bM G) p ∧ sameB (fun x y => x = 11 ∧ (y = 13 ∨ y = 15)) G G1)) :=
  (c_readNumberM G o hp h0 h1 hm).mono (fun v w e => by obtain ⟨r, G1, e1, e2, e3⟩ := e; exact ⟨r, G1, e1, e2, by rcases e3 with e3 | e3 <;> first | exact (absurd hq e3.1) | exact absurd e3.1 hq | exact e3.2⟩)
