/-! the law's body: the machine is made -/
set_option maxHeartbeats 4000000 in
set_option maxRecDepth 100000 in
theorem law_pre {l : Launch} {D : va_G} {C : Nat → ClassId} {T : Nat → Nat} {b L : Nat} {xs : Nat → Int32} {X : Code → Prop} {nm : String} {E : List Frame → Array Value → State → State → Prop}
    (kk : ∀ ad : Int → Nat, AW l RL nm code 5 ret X room_1 E D (tyC C) (lawZ b L xs T) [] 8 [(0, .ref b), (1, .ref (ad 102))] [] (cw ad C iniG) 108 2142) :
    AW l RL nm code 5 ret X room_1 E D (tyC C) (lawZ b L xs T) [] 0 [(0, .ref b)] [] [] 0 0 := by
  refine aw_new (q := 3) (fs := [.null, .null, .null, .int (iI 0), .null, .null]) tyX5 tyX5_ok (ci := 5) rfl gX5 wl_RL_10 wz_X5 wn_X5 df_X5 (Nat.le_of_ble_eq_true rfl) (Nat.le_of_ble_eq_true rfl) dL_law_0 rfl (fun a => ?_)
  refine aw_dup (q := 4) dL_law_3 rfl rfl ?_
  refine aw_callI (q := 7) (As := []) 0 (c_init_X5 (T := T) (D := D) (C := C) [] a) (fun _ h => h.1) wc_X5_init wm_RL_125 wi_X5_init rfl wn_X5 (by decide) rfl ⟨Nat.le_of_ble_eq_true rfl, Nat.le_of_ble_eq_true rfl⟩ ⟨Nat.le_of_ble_eq_true rfl, Nat.le_of_ble_eq_true rfl⟩ (Nat.le_of_ble_eq_true rfl) dL_law_4 rfl (fun v9 w9 h9 => ?_)
  obtain ⟨rfl, f0, f1, f2, f3, f4, f5, b5, b6, e7, e8, b9, rfl⟩ := h9
  refine aw_astore_n (q := 8) (x := a) (lv2 := [(0, .ref b), (1, .ref a)]) [1, 0] dL_law_7 rfl rfl (by decide) rfl rfl ?_
  obtain ⟨ad, h1, hp⟩ := cw_ini C f0 f1 f2 f3 f4 f5 a b5 b6 e7 e8 b9
  refine aw_perm (ws' := cw ad C iniG) ?_ ?_
  · simp only [List.append_assoc, List.cons_append, List.nil_append, List.append_nil] at hp ⊢
    exact hp
  · rw [← h1]
    exact kk ad
