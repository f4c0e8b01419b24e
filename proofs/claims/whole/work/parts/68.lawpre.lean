/-! the law's body up to its loop -/
set_option maxHeartbeats 4000000 in
set_option maxRecDepth 100000 in
theorem law_pre {l : Launch} {D : va_G} {C : Nat → ClassId} {T : Nat → Nat} {b L : Nat} {xs : Nat → Int32} {X : Code → Prop} {nm : String} {E : List Frame → Array Value → State → State → Prop}
    (kk : ∀ ad : Int → Nat, AW l RL nm code 8 ret X room_1 E D (tyC C) (lawZ b L xs T) [] 28 [(0, .ref b), (1, .ref (ad 102)), (2, .ref (ad 108)), (3, .ref (ad 118)), (4, .ref (ad 119)), (5, .int (iI 0))] [] (cw ad C iniG) 120 12162) :
    AW l RL nm code 8 ret X room_1 E D (tyC C) (lawZ b L xs T) [] 0 [(0, .ref b)] [] [] 0 0 := by
  refine aw_new (q := 3) (fs := [.null, .null, .null, .int (iI 0), .null, .null]) tyX5 tyX5_ok (ci := 5) rfl gX5 wl_RL_8 wz_X5 wn_X5 df_X5 (Nat.le_of_ble_eq_true rfl) (Nat.le_of_ble_eq_true rfl) dL_law_0 rfl (fun a => ?_)
  refine aw_dup (q := 4) dL_law_3 rfl rfl ?_
  refine aw_callI (q := 7) (As := []) 0 (c_init_X5 (T := T) (D := D) (C := C) [] a) (fun _ h => h.1) wc_X5_init wm_RL_81 wi_X5_init rfl wn_X5 (by decide) rfl ⟨Nat.le_of_ble_eq_true rfl, Nat.le_of_ble_eq_true rfl⟩ ⟨Nat.le_of_ble_eq_true rfl, Nat.le_of_ble_eq_true rfl⟩ (Nat.le_of_ble_eq_true rfl) dL_law_4 rfl (fun v9 w9 h9 => ?_)
  obtain ⟨rfl, f0, f1, f2, f3, f4, f5, b5, b6, e7, e8, b9, rfl⟩ := h9
  refine aw_astore_n (q := 8) (x := a) (lv2 := [(0, .ref b), (1, .ref a)]) [1, 0] dL_law_7 rfl rfl (by decide) rfl rfl ?_
  refine aw_new (q := 11) (fs := [.null, .null, .null, .null, .int (iI 0), .null, .int (iI 0), .int (iI 0), .int (iI 0), .null, .null, .null, .null, .int (iI 0), .int (iI 0), .int (iI 0), .int (iI 0), .int (iI 0), .long (iL 0)]) tyX6 tyX6_ok (ci := 6) rfl gX6 wl_RL_82 wz_X6 wn_X6 df_X6 (Nat.le_of_ble_eq_true rfl) (Nat.le_of_ble_eq_true rfl) dL_law_8 rfl (fun m => ?_)
  refine aw_dup (q := 12) dL_law_11 rfl rfl ?_
  refine aw_callI (q := 15) (As := []) 0 (c_init_X6 (T := T) (D := D) (C := C) _ m) (fun _ h => h.1) wc_X6_init wm_RL_84 wi_X6_init rfl wn_X6 (by decide) rfl ⟨Nat.le_of_ble_eq_true rfl, Nat.le_of_ble_eq_true rfl⟩ ⟨Nat.le_of_ble_eq_true rfl, Nat.le_of_ble_eq_true rfl⟩ (Nat.le_of_ble_eq_true rfl) dL_law_12 rfl (fun v9 w9 h9 => ?_)
  obtain ⟨rfl, d1, d2, d3, d4, d5, d6, d7, d8, d9, rfl⟩ := h9
  refine aw_astore_n (q := 16) (x := m) (lv2 := [(0, .ref b), (1, .ref a), (2, .ref m)]) [1, 2, 0] dL_law_15 rfl rfl (by decide) rfl rfl ?_
  refine aw_iconst (q := 17) dL_law_16 rfl ?_
  refine aw_newa (q := 19) (t := .long) (a0 := (1, .inr (.inl (fun _ => iL 0)))) (N := 1) 4 rfl rfl wa_long (fun _ => rfl) (by decide) (by decide) (by decide) (Nat.le_of_ble_eq_true rfl) (Nat.le_of_ble_eq_true rfl) dL_law_17 rfl (fun lg => ?_)
  refine aw_astore_n (q := 20) (x := lg) (lv2 := [(0, .ref b), (1, .ref a), (2, .ref m), (3, .ref lg)]) [1, 2, 3, 0] dL_law_19 rfl rfl (by decide) rfl rfl ?_
  refine aw_iconst (q := 21) dL_law_20 rfl ?_
  refine aw_newa (q := 23) (t := .double) (a0 := (1, .inr (.inr (.inr (.inl (fun _ => dB 0)))))) (N := 1) 5 rfl rfl wa_double (fun _ => rfl) (by decide) (by decide) (by decide) (Nat.le_of_ble_eq_true rfl) (Nat.le_of_ble_eq_true rfl) dL_law_21 rfl (fun db => ?_)
  refine aw_astore (q := 25) (x := db) (lv2 := [(0, .ref b), (1, .ref a), (2, .ref m), (3, .ref lg), (4, .ref db)]) [1, 2, 3, 4, 0] dL_law_23 rfl (by decide) rfl rfl ?_
  refine aw_iconst (q := 26) dL_law_25 rfl ?_
  refine aw_istore (q := 28) (lv2 := [(0, .ref b), (1, .ref a), (2, .ref m), (3, .ref lg), (4, .ref db), (5, .int (iI 0))]) [1, 2, 3, 4, 5, 0] dL_law_26 rfl (by decide) rfl rfl ?_
  obtain ⟨ad, h1, h2, h3, h4, hp⟩ := cw_ini C f0 f1 f2 f3 f4 f5 a b5 b6 e7 e8 b9 m d1 d2 d3 d4 d5 d6 d7 d8 d9 lg db
  refine aw_perm (ws' := cw ad C iniG) ?_ ?_
  · simp only [List.append_assoc, List.cons_append, List.nil_append] at hp ⊢
    exact hp
  · rw [← h1, ← h2, ← h3, ← h4]
    exact kk ad
