/-! the cases of the law -/
theorem aw_wide2 {l : Launch} {own nm : String} {cc : ByteArray} {nL : Nat} {ret : Option FieldType} {X : Code → Prop} {R : Room} {E : List Frame → Array Value → State → State → Prop} {D : va_G} {ty : List (ClassId × FieldType)} {Z : State → Prop} {w0 : va_W} {pc : Nat} {lv : List (Nat × Value)} {st : List Value} {ws : va_W} {k n k1 n1 : Nat} (hk : k ≤ k1) (hn : n ≤ n1)
    (kk : AW l own nm cc nL ret X R E D ty Z w0 pc lv st ws k1 n1) : AW l own nm cc nL ret X R E D ty Z w0 pc lv st ws k n :=
  fun p e s m args below meth c hC hK hZ H locs ls hP hD hS hl => W.widen hk hn (kk p e s m args below meth c hC hK hZ H locs ls hP hD hS hl)
set_option maxHeartbeats 4000000 in
set_option maxRecDepth 100000 in
/-- clearText -/
theorem case_21 {l : Launch} {D : va_G} {C : Nat → ClassId} {T : Nat → Nat} {ad : Int → Nat} {b L : Nat} {xs : Nat → Int32} {nm : String} {Rel : GG → Prop} (h1 : ∀ G, Rel G → G 7 1 = G 11 6 ∧ 0 ≤ G 7 1 ∧ G 7 1 ≤ 100) (h2 : ∀ G, Rel G → Rel (setG (setG (setG G 7 1 0) 11 7 0) 11 6 0)) : lawStep l D C T ad b L xs nm Rel 21 := by
  intro G i k n hG h0 h6 hk hn kk
  have r := h1 G hG
  show AW _ _ _ _ _ _ _ _ _ _ _ _ _ 1440 _ _ _ _ _
  refine aw_aload_n (q := 1441) 1 dL_law_1440 rfl rfl rfl ?_
  refine cv_I (q := 1444) (CC := "") (id := 102) (As := []) 0 (c_clearText (T := T) (D := D) (ad := ad) G) (fun _ h => h.1) (by omega) (cell_102 ad C _) rfl wc_X5_clearText wm_RL_160 wi_X5_clearText ws_X5_clearText wn_X5 (by decide) rfl ⟨Nat.le_of_ble_eq_true rfl, Nat.le_of_ble_eq_true rfl⟩ ⟨by show k ≤ 601024; omega, by show n ≤ 7293034; omega⟩ (Nat.le_of_ble_eq_true rfl) dL_law_1441 rfl (fun r9 G9 h9 => ?_)
  rw [h9.1, h9.2]
  refine aw_aload_n (q := 1445) 2 dL_law_1444 rfl rfl rfl ?_
  refine cv_I (q := 1448) (CC := "") (id := 108) (As := []) 0 (c_clearTextM (T := T) (D := D) (ad := ad) (setG G 7 1 0)) (fun _ h => h.1) (by omega) (cell_108 ad C _) rfl wc_X6_clearText wm_RL_163 wi_X6_clearText ws_X6_clearText wn_X6 (by decide) rfl ⟨Nat.le_of_ble_eq_true rfl, Nat.le_of_ble_eq_true rfl⟩ ⟨by show k ≤ 601024; omega, by show n ≤ 7293034; omega⟩ (Nat.le_of_ble_eq_true rfl) dL_law_1445 rfl (fun r8 G8 h8 => ?_)
  have e : setG G 7 1 0 11 6 = G 11 6 := setG_ne (by omega)
  rw [h8.1, h8.2, e]
  refine aw_icmp_eq (q := 1451) dL_law_1448 rfl (t := 1524) (by decide) (by omega) (by omega) (fun _ => ?_) (fun h => absurd r.1 h)
  exact aw_wide2 (Nat.le_add_right k 1) (Nat.le_add_right n 6) (kk _ (h2 G hG))
