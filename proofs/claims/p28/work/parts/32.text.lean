/-! class OrderText -/
section LKP
variable {l : Launch} {own nm : String} {cc : ByteArray} {nL : Nat} {ret : Option FieldType} {X : Code → Prop} {R : Room} {E : List Frame → Array Value → State → State → Prop} {D : va_G} {ty : List (ClassId × FieldType)} {Z : State → Prop} {w0 ws : va_W} {pc q : Nat} {lv : List (Nat × Value)} {st : List Value} {k n : Nat}
theorem ae_lkp4 {x dflt a1 a2 a3 a4 o1 o2 o3 o4 : Int} {len : Nat} (t1 t2 t3 t4 td : Nat) (hx : -2147483648 ≤ x ∧ x ≤ 2147483647) (d : decode cc pc = .ok (.lookupswitch dflt #[(a1, o1), (a2, o2), (a3, o3), (a4, o4)], len))
    (hp : ((#[(a1, o1), (a2, o2), (a3, o3), (a4, o4)] : Array (Int × Int)).toList.zip ((#[(a1, o1), (a2, o2), (a3, o3), (a4, o4)] : Array (Int × Int)).toList.drop 1)).all (fun (a, next) => a.1 < next.1) = true)
    (e1 : (pc : Int) + o1 = t1) (e2 : (pc : Int) + o2 = t2) (e3 : (pc : Int) + o3 = t3) (e4 : (pc : Int) + o4 = t4) (ed : (pc : Int) + dflt = td)
    (k1 : x = a1 → AW l own nm cc nL ret X R E D ty Z w0 t1 lv st ws k n) (k2 : x = a2 → AW l own nm cc nL ret X R E D ty Z w0 t2 lv st ws k n) (k3 : x = a3 → AW l own nm cc nL ret X R E D ty Z w0 t3 lv st ws k n) (k4 : x = a4 → AW l own nm cc nL ret X R E D ty Z w0 t4 lv st ws k n)
    (kd : x ≠ a1 ∧ x ≠ a2 ∧ x ≠ a3 ∧ x ≠ a4 → AW l own nm cc nL ret X R E D ty Z w0 td lv st ws k n) : AW l own nm cc nL ret X R E D ty Z w0 pc lv (.int (iI x) :: st) ws k n := by
  by_cases h1 : x = a1
  · exact ae_lkp o1 hx d hp (by subst h1; exact (lookupswitch.offset_cons _ _ _ _ _).trans (if_pos rfl)) e1 (k1 h1)
  have f1 : ∀ r : List (Int × Int), Op.lookupswitch.offset ((a1, o1) :: r) dflt x = Op.lookupswitch.offset r dflt x := fun r => (lookupswitch.offset_cons _ _ _ _ _).trans (if_neg (fun q => h1 q.symm))
  by_cases h2 : x = a2
  · exact ae_lkp o2 hx d hp ((f1 _).trans (by subst h2; exact (lookupswitch.offset_cons _ _ _ _ _).trans (if_pos rfl))) e2 (k2 h2)
  have f2 : ∀ r : List (Int × Int), Op.lookupswitch.offset ((a2, o2) :: r) dflt x = Op.lookupswitch.offset r dflt x := fun r => (lookupswitch.offset_cons _ _ _ _ _).trans (if_neg (fun q => h2 q.symm))
  by_cases h3 : x = a3
  · exact ae_lkp o3 hx d hp ((f1 _).trans ((f2 _).trans (by subst h3; exact (lookupswitch.offset_cons _ _ _ _ _).trans (if_pos rfl)))) e3 (k3 h3)
  have f3 : ∀ r : List (Int × Int), Op.lookupswitch.offset ((a3, o3) :: r) dflt x = Op.lookupswitch.offset r dflt x := fun r => (lookupswitch.offset_cons _ _ _ _ _).trans (if_neg (fun q => h3 q.symm))
  by_cases h4 : x = a4
  · exact ae_lkp o4 hx d hp ((f1 _).trans ((f2 _).trans ((f3 _).trans (by subst h4; exact (lookupswitch.offset_cons _ _ _ _ _).trans (if_pos rfl))))) e4 (k4 h4)
  exact ae_lkp dflt hx d hp ((f1 _).trans ((f2 _).trans ((f3 _).trans ((lookupswitch.offset_cons _ _ _ _ _).trans (if_neg (fun q => h4 q.symm)))))) ed (kd ⟨h1, h2, h3, h4⟩)
end LKP
def bA (G : GG) (p : Int) : Int := if 0 ≤ p ∧ p < G 7 1 ∧ p < 100 then G 8 p else -1
def okT (G : GG) : Prop := (0 ≤ G 7 1 ∧ G 7 1 ≤ 100) ∧ (0 ≤ G 7 6 ∧ G 7 6 ≤ 100) ∧ (-1 ≤ G 7 7 ∧ G 7 7 ≤ 100) ∧ ∀ k : Int, 0 ≤ k → k < G 7 1 → 0 ≤ G 8 k ∧ G 8 k ≤ 127
theorem bA_r {G : GG} (o : okT G) (p : Int) : -1 ≤ bA G p ∧ bA G p ≤ 127 := by
  unfold bA
  split
  · rename_i h
    have := o.2.2.2 p h.1 h.2.1
    omega
  · omega
theorem bA_lt {G : GG} (o : okT G) (p : Int) (h : 0 ≤ bA G p) : p < G 7 1 := by
  unfold bA at h
  split at h
  · rename_i h2; exact h2.2.1
  · omega
def stR (G : GG) : GG := setG (setG G 7 6 0) 7 7 (-1)
def stG (G : GG) : GG := if G 7 7 = -1 then setG G 7 7 (G 7 6) else G
def sgG (G : GG) (s : Int) : GG := if G 7 7 = -1 ∧ bA G (G 7 6) = s then setG G 7 6 (G 7 6 + 1) else stG G
abbrev dgP (G : GG) (m : Int) : Prop := G 7 7 = -1 ∧ 48 ≤ bA G (G 7 6) ∧ bA G (G 7 6) ≤ 48 + m
def dgG (G : GG) (m : Int) : GG := if dgP G m then setG G 7 6 (G 7 6 + 1) else stG G
def dgV (G : GG) (m : Int) : Int := if dgP G m then bA G (G 7 6) - 48 else 0
theorem okT_at {G : GG} {v : Int} (o : okT G) (h : 0 ≤ v ∧ v ≤ 100) : okT (setG G 7 6 v) := by
  refine ⟨?_, ?_, ?_, ?_⟩
  · rw [setG_ne (by omega)]; exact o.1
  · rw [setG_same]; exact h
  · rw [setG_ne (by omega)]; exact o.2.2.1
  · intro k h1 h2
    rw [setG_ne (by omega)] at h2
    rw [setG_ne (by omega)]; exact o.2.2.2 k h1 h2
theorem okT_err {G : GG} {v : Int} (o : okT G) (h : -1 ≤ v ∧ v ≤ 100) : okT (setG G 7 7 v) := by
  refine ⟨?_, ?_, ?_, ?_⟩
  · rw [setG_ne (by omega)]; exact o.1
  · rw [setG_ne (by omega)]; exact o.2.1
  · rw [setG_same]; exact h
  · intro k h1 h2
    rw [setG_ne (by omega)] at h2
    rw [setG_ne (by omega)]; exact o.2.2.2 k h1 h2
theorem okT_ot {G : GG} {a b v : Int} (o : okT G) (h : ¬ (a = 7 ∧ (b = 1 ∨ b = 6 ∨ b = 7)) ∧ a ≠ 8) : okT (setG G a b v) := by
  refine ⟨?_, ?_, ?_, ?_⟩
  · rw [setG_ne (by omega)]; exact o.1
  · rw [setG_ne (by omega)]; exact o.2.1
  · rw [setG_ne (by omega)]; exact o.2.2.1
  · intro k h1 h2
    rw [setG_ne (by omega)] at h2
    rw [setG_ne (by omega)]; exact o.2.2.2 k h1 h2
theorem okT_st {G : GG} (o : okT G) : okT (stG G) := by
  unfold stG
  have := o.2.1
  split
  · exact okT_err o (by omega)
  · exact o
theorem okT_sg {G : GG} (o : okT G) {s : Int} (hs : 0 ≤ s) : okT (sgG G s) := by
  unfold sgG
  have h0 := o.1
  have h1 := o.2.1
  split
  · rename_i h
    have := bA_lt o (G 7 6) (by omega)
    exact okT_at o (by omega)
  · exact okT_st o
theorem okT_dg {G : GG} (o : okT G) (m : Int) : okT (dgG G m) := by
  unfold dgG
  have h0 := o.1
  have h1 := o.2.1
  split
  · rename_i h
    have := bA_lt o (G 7 6) (by have := h.2.1; omega)
    exact okT_at o (by omega)
  · exact okT_st o
theorem dgV_r {G : GG} {m : Int} (hm : 0 ≤ m) : 0 ≤ dgV G m ∧ dgV G m ≤ m := by
  unfold dgV
  split
  · rename_i h
    have := h.2
    omega
  · omega
def n1 (G : GG) : GG := if 48 ≤ bA (dgG G 9) (dgG G 9 7 6) ∧ bA (dgG G 9) (dgG G 9 7 6) ≤ 57 then dgG (dgG G 9) 9 else dgG G 9
def nuV (G : GG) : Int := if 48 ≤ bA (dgG G 9) (dgG G 9 7 6) ∧ bA (dgG G 9) (dgG G 9 7 6) ≤ 57 then 10 * dgV G 9 + dgV (dgG G 9) 9 else dgV G 9
def nuG (G : GG) (m : Int) : GG := if n1 G 7 7 = -1 ∧ ¬ (48 ≤ bA (n1 G) (n1 G 7 6) ∧ bA (n1 G) (n1 G 7 6) ≤ 57) ∧ (nuV G < 1 ∨ m < nuV G) then setG (n1 G) 7 7 (G 7 6) else n1 G
theorem okT_n1 {G : GG} (o : okT G) : okT (n1 G) := by
  unfold n1
  split
  · exact okT_dg (okT_dg o 9) 9
  · exact okT_dg o 9
theorem okT_nu {G : GG} (o : okT G) (m : Int) : okT (nuG G m) := by
  unfold nuG
  have := o.2.1
  split
  · exact okT_err (okT_n1 o) (by omega)
  · exact okT_n1 o
theorem nuV_r (G : GG) : 0 ≤ nuV G ∧ nuV G ≤ 99 := by
  have h1 := dgV_r (G := G) (show (0 : Int) ≤ 9 by decide)
  have h2 := dgV_r (G := dgG G 9) (show (0 : Int) ≤ 9 by decide)
  unfold nuV
  split <;> omega
/-- one coin of an order -/
def coS (G : GG) (k : Int) : GG := setG (dgG (sgG G 44) 9) 9 k (dgV (sgG G 44) 9)
def coG (G : GG) : Nat → GG
  | 0 => G
  | n + 1 => coS (coG G n) n
theorem okT_co {G : GG} (o : okT G) : ∀ n : Nat, okT (coG G n)
  | 0 => o
  | n + 1 => okT_ot (okT_dg (okT_sg (okT_co o n) (by decide)) 9) (by omega)
def roA (G : GG) : GG := setG (setG G 7 2 (bA G (G 7 6))) 7 6 (G 7 6 + 1)
def roB (G : GG) (m : Int) : GG := setG (dgG (roA G) m) 7 3 (dgV (roA G) m)
def roS (G : GG) (m n : Int) : GG := setG (nuG (sgG (roB G m) 120) n) 7 4 (nuV (sgG (roB G m) 120))
def roH (G : GG) : GG := setG (nuG (roA G) 48) 7 4 (nuV (roA G))
def roE (G : GG) : GG := setG (setG G 7 2 (bA G (G 7 6))) 7 7 (G 7 6)
def roD (G : GG) : GG := if bA G (G 7 6) = 115 then roS G 7 20 else if bA G (G 7 6) = 98 then coG (roB G 7) 4 else if bA G (G 7 6) = 102 then roS G 3 30 else if bA G (G 7 6) = 104 then roH G else roE G
def roP (G : GG) : Prop := G 7 6 < G 7 1 ∧ G 7 7 = -1
def roG (G : GG) : GG := if G 7 6 < G 7 1 ∧ G 7 7 = -1 then sgG (roD G) 59 else G
def roV (G : GG) : Int := if G 7 6 < G 7 1 ∧ G 7 7 = -1 then b2i (roG G 7 7 = -1) else 0
theorem okT_roA {G : GG} (o : okT G) (h : G 7 6 < G 7 1) : okT (roA G) := by
  have h0 := o.1
  have h1 := o.2.1
  exact okT_at (okT_ot o (by omega)) (by omega)
theorem okT_roB {G : GG} (o : okT G) (h : G 7 6 < G 7 1) (m : Int) : okT (roB G m) := okT_ot (okT_dg (okT_roA o h) m) (by omega)
theorem okT_roS {G : GG} (o : okT G) (h : G 7 6 < G 7 1) (m n : Int) : okT (roS G m n) := okT_ot (okT_nu (okT_sg (okT_roB o h m) (by decide)) n) (by omega)
theorem okT_roH {G : GG} (o : okT G) (h : G 7 6 < G 7 1) : okT (roH G) := okT_ot (okT_nu (okT_roA o h) 48) (by omega)
theorem okT_roE {G : GG} (o : okT G) : okT (roE G) := by
  have h0 := o.2.1
  exact okT_err (okT_ot o (by omega)) (by omega)
theorem okT_roD {G : GG} (o : okT G) (h : G 7 6 < G 7 1) : okT (roD G) := by
  unfold roD
  split
  · exact okT_roS o h 7 20
  split
  · exact okT_co (okT_roB o h 7) 4
  split
  · exact okT_roS o h 3 30
  split
  · exact okT_roH o h
  · exact okT_roE o
theorem okT_ro {G : GG} (o : okT G) : okT (roG G) := by
  unfold roG
  split
  · rename_i h
    exact okT_sg (okT_roD o h.1) (by decide)
  · exact o
set_option maxHeartbeats 4000000 in
set_option maxRecDepth 100000 in
theorem c_t_byteAt {l : Launch} {D : va_G} {C : Nat → ClassId} {T : Nat → Nat} {ad : Int → Nat} (G : GG) {p : Int} (hp : -2147483648 ≤ p ∧ p ≤ 2147483647) (h1 : 0 ≤ G 7 1 ∧ G 7 1 ≤ 100) : MC l yX2_byteAt cX2_byteAt 2 (some .int) 0 0 0 0 D (tyC C) T [.ref (ad 104), .int (iI p)] (cw ad C G) (RI ad C (fun r G1 => r = bA G p ∧ G1 = G)) := by
  refine mc_of (by decide +kernel) (Nat.le_of_ble_eq_true rfl) rfl ?_
  refine aw_iload_n (q := 1) 1 dX2_byteAt_0 rfl rfl rfl ?_
  refine aw_if_lt (q := 4) dX2_byteAt_1 rfl (t := 27) (by decide) (by omega) (fun h1 => ?_) (fun h2 => ?_)
  · refine aw_iconst (q := 28) dX2_byteAt_27 rfl ?_
    exact rt_i rfl (Nat.le_refl _) (Nat.le_refl _) (⟨by unfold bA; first | exact (if_pos (by omega)).symm | exact (if_neg (by omega)).symm, rfl⟩) dX2_byteAt_28
  · refine aw_iload_n (q := 5) 1 dX2_byteAt_4 rfl rfl rfl ?_
    refine aw_aload_n (q := 6) 0 dX2_byteAt_5 rfl rfl rfl ?_
    refine g_text_length (q := 9) (v := (G 7 1)) rfl wf_RX2_15 dX2_byteAt_6 rfl ?_
    refine aw_icmp_ge (q := 12) dX2_byteAt_9 rfl (t := 27) (by decide) (by omega) (by omega) (fun h3 => ?_) (fun h4 => ?_)
    · refine aw_iconst (q := 28) dX2_byteAt_27 rfl ?_
      exact rt_i rfl (Nat.le_refl _) (Nat.le_refl _) (⟨by unfold bA; first | exact (if_pos (by omega)).symm | exact (if_neg (by omega)).symm, rfl⟩) dX2_byteAt_28
    · refine aw_iload_n (q := 13) 1 dX2_byteAt_12 rfl rfl rfl ?_
      refine aw_bipush (q := 15) dX2_byteAt_13 rfl (by decide) ?_
      refine aw_icmp_ge (q := 18) dX2_byteAt_15 rfl (t := 27) (by decide) (by omega) (by omega) (fun h5 => ?_) (fun h6 => ?_)
      · refine aw_iconst (q := 28) dX2_byteAt_27 rfl ?_
        exact rt_i rfl (Nat.le_refl _) (Nat.le_refl _) (⟨by unfold bA; first | exact (if_pos (by omega)).symm | exact (if_neg (by omega)).symm, rfl⟩) dX2_byteAt_28
      · refine aw_aload_n (q := 19) 0 dX2_byteAt_18 rfl rfl rfl ?_
        refine g_text_bytes (q := 22) wf_RX2_9 dX2_byteAt_19 rfl ?_
        refine aw_iload_n (q := 23) 1 dX2_byteAt_22 rfl rfl rfl ?_
        refine aw_cial (q := 24) (v := (G 8 p)) p (ar_105 ad C) (by omega) (by omega) rfl dX2_byteAt_23 rfl ?_
        refine aw_goto (q := 28) dX2_byteAt_24 (by decide) ?_
        exact rt_i rfl (Nat.le_refl _) (Nat.le_refl _) (⟨by unfold bA; first | exact (if_pos (by omega)).symm | exact (if_neg (by omega)).symm, rfl⟩) dX2_byteAt_28
set_option maxHeartbeats 4000000 in
set_option maxRecDepth 100000 in
theorem c_t_isDigit {l : Launch} {D : va_G} {C : Nat → ClassId} {T : Nat → Nat} {ad : Int → Nat} (G : GG) {s : Int} (hs : -2147483648 ≤ s ∧ s ≤ 2147483647) : MC l yX2_isDigit cX2_isDigit 1 (some .boolean) 0 0 0 0 D (tyC C) T [.int (iI s)] (cw ad C G) (RI ad C (fun r G1 => r = b2i (48 ≤ s ∧ s ≤ 57) ∧ G1 = G)) := by
  refine mc_of (by decide +kernel) (Nat.le_of_ble_eq_true rfl) rfl ?_
  refine aw_iload_n (q := 1) 0 dX2_isDigit_0 rfl rfl rfl ?_
  refine aw_bipush (q := 3) dX2_isDigit_1 rfl (by decide) ?_
  refine aw_icmp_lt (q := 6) dX2_isDigit_3 rfl (t := 16) (by decide) (by omega) (by omega) (fun h1 => ?_) (fun h2 => ?_)
  · refine aw_iconst (q := 17) dX2_isDigit_16 rfl ?_
    exact rt_z rfl (by first | omega | exact b2i_r _) (Nat.le_refl _) (Nat.le_refl _) (⟨by first | exact (b2i_t (by omega)).symm | exact (b2i_f (by omega)).symm, rfl⟩) dX2_isDigit_17
  · refine aw_iload_n (q := 7) 0 dX2_isDigit_6 rfl rfl rfl ?_
    refine aw_bipush (q := 9) dX2_isDigit_7 rfl (by decide) ?_
    refine aw_icmp_gt (q := 12) dX2_isDigit_9 rfl (t := 16) (by decide) (by omega) (by omega) (fun h3 => ?_) (fun h4 => ?_)
    · refine aw_iconst (q := 17) dX2_isDigit_16 rfl ?_
      exact rt_z rfl (by first | omega | exact b2i_r _) (Nat.le_refl _) (Nat.le_refl _) (⟨by first | exact (b2i_t (by omega)).symm | exact (b2i_f (by omega)).symm, rfl⟩) dX2_isDigit_17
    · refine aw_iconst (q := 13) dX2_isDigit_12 rfl ?_
      refine aw_goto (q := 17) dX2_isDigit_13 (by decide) ?_
      exact rt_z rfl (by first | omega | exact b2i_r _) (Nat.le_refl _) (Nat.le_refl _) (⟨by first | exact (b2i_t (by omega)).symm | exact (b2i_f (by omega)).symm, rfl⟩) dX2_isDigit_17
set_option maxHeartbeats 4000000 in
set_option maxRecDepth 100000 in
theorem c_t_stumble {l : Launch} {D : va_G} {C : Nat → ClassId} {T : Nat → Nat} {ad : Int → Nat} (G : GG) (o : okT G) : MC l yX2_stumble cX2_stumble 1 none 0 0 0 0 D (tyC C) T [.ref (ad 104)] (cw ad C G) (RV ad C (fun G1 => G1 = stG G)) := by
  refine mc_of (by decide +kernel) (Nat.le_of_ble_eq_true rfl) rfl ?_
  have t1 := o.1
  have t6 := o.2.1
  have t7 := o.2.2.1
  have b6 := bA_r o (G 7 6)
  refine aw_aload_n (q := 1) 0 dX2_stumble_0 rfl rfl rfl ?_
  refine g_text_error (q := 4) (v := (G 7 7)) rfl wf_RX2_34 dX2_stumble_1 rfl ?_
  refine aw_iconst (q := 5) dX2_stumble_4 rfl ?_
  refine aw_icmp_ne (q := 8) dX2_stumble_5 rfl (t := 16) (by decide) (by omega) (by omega) (fun h1 => ?_) (fun h2 => ?_)
  · exact rt_v rfl (Nat.le_refl _) (Nat.le_refl _) (by unfold stG; first | exact (if_pos (by omega)).symm | exact (if_neg (by omega)).symm) dX2_stumble_16
  · refine aw_aload_n (q := 9) 0 dX2_stumble_8 rfl rfl rfl ?_
    refine aw_aload_n (q := 10) 0 dX2_stumble_9 rfl rfl rfl ?_
    refine g_text_at (q := 13) (v := (G 7 6)) rfl wf_RX2_31 dX2_stumble_10 rfl ?_
    refine p_text_error (q := 16) wf_RX2_34 dX2_stumble_13 rfl ?_
    exact rt_v rfl (Nat.le_refl _) (Nat.le_refl _) (by unfold stG; first | exact (if_pos (by omega)).symm | exact (if_neg (by omega)).symm) dX2_stumble_16
set_option maxHeartbeats 4000000 in
set_option maxRecDepth 100000 in
theorem c_t_readSign {l : Launch} {D : va_G} {C : Nat → ClassId} {T : Nat → Nat} {ad : Int → Nat} (G : GG) (o : okT G) {s : Int} (hs : 0 ≤ s ∧ s ≤ 127) : MC l yX2_readSign cX2_readSign 2 none 1 21 0 0 D (tyC C) T [.ref (ad 104), .int (iI s)] (cw ad C G) (RV ad C (fun G1 => G1 = sgG G s)) := by
  refine mc_of (by decide +kernel) (Nat.le_of_ble_eq_true rfl) rfl ?_
  have t1 := o.1
  have t6 := o.2.1
  have t7 := o.2.2.1
  have b6 := bA_r o (G 7 6)
  refine aw_aload_n (q := 1) 0 dX2_readSign_0 rfl rfl rfl ?_
  refine g_text_error (q := 4) (v := (G 7 7)) rfl wf_RX2_34 dX2_readSign_1 rfl ?_
  refine aw_iconst (q := 5) dX2_readSign_4 rfl ?_
  refine aw_icmp_ne (q := 8) dX2_readSign_5 rfl (t := 20) (by decide) (by omega) (by omega) (fun h1 => ?_) (fun h2 => ?_)
  · refine aw_aload_n (q := 21) 0 dX2_readSign_20 rfl rfl rfl ?_
    refine cv_V (q := 24) (CC := "") (id := 104) (As := []) 0 (c_t_stumble (T := T) (D := D) (ad := ad) G o) (fun _ h => h) (by omega) (cell_104 ad C _) rfl wc_X2_stumble wm_RX2_65 wi_X2_stumble ws_X2_stumble wn_X2 (by decide) rfl ⟨Nat.le_of_ble_eq_true rfl, Nat.le_of_ble_eq_true rfl⟩ ⟨Nat.le_of_ble_eq_true rfl, Nat.le_of_ble_eq_true rfl⟩ (Nat.le_of_ble_eq_true rfl) dX2_readSign_21 rfl (fun G9 h9 => ?_)
    rw [h9]
    refine aw_goto (q := 37) dX2_readSign_24 (by decide) ?_
    exact rt_v rfl (Nat.le_refl _) (Nat.le_refl _) (by unfold sgG; first | exact (if_pos (by omega)).symm | exact (if_neg (by omega)).symm) dX2_readSign_37
  · refine aw_aload_n (q := 9) 0 dX2_readSign_8 rfl rfl rfl ?_
    refine aw_aload_n (q := 10) 0 dX2_readSign_9 rfl rfl rfl ?_
    refine g_text_at (q := 13) (v := (G 7 6)) rfl wf_RX2_31 dX2_readSign_10 rfl ?_
    refine cv_I (q := 16) (CC := "") (id := 104) (As := [.int (iI (G 7 6))]) 1 (c_t_byteAt (T := T) (D := D) (ad := ad) (G) (by omega) (by omega)) (fun _ h => h) (by omega) (cell_104 ad C _) rfl wc_X2_byteAt wm_RX2_44 wi_X2_byteAt ws_X2_byteAt wn_X2 (by decide) rfl ⟨Nat.le_of_ble_eq_true rfl, Nat.le_of_ble_eq_true rfl⟩ ⟨Nat.le_of_ble_eq_true rfl, Nat.le_of_ble_eq_true rfl⟩ (Nat.le_of_ble_eq_true rfl) dX2_readSign_13 rfl (fun r9 G9 h9 => ?_)
    rw [h9.1, h9.2]
    refine aw_iload_n (q := 17) 1 dX2_readSign_16 rfl rfl rfl ?_
    refine aw_icmp_eq (q := 20) dX2_readSign_17 rfl (t := 27) (by decide) (by omega) (by omega) (fun h3 => ?_) (fun h4 => ?_)
    · refine aw_aload_n (q := 28) 0 dX2_readSign_27 rfl rfl rfl ?_
      refine aw_dup (q := 29) dX2_readSign_28 rfl rfl ?_
      refine g_text_at (q := 32) (v := (G 7 6)) rfl wf_RX2_31 dX2_readSign_29 rfl ?_
      refine aw_iconst (q := 33) dX2_readSign_32 rfl ?_
      refine ae_iadd (q := 34) ((G 7 6) + 1) (by omega) dX2_readSign_33 rfl ?_
      refine p_text_at (q := 37) wf_RX2_31 dX2_readSign_34 rfl ?_
      exact rt_v rfl (Nat.le_refl _) (Nat.le_refl _) (by unfold sgG; first | exact (if_pos (by omega)).symm | exact (if_neg (by omega)).symm) dX2_readSign_37
    · refine aw_aload_n (q := 21) 0 dX2_readSign_20 rfl rfl rfl ?_
      refine cv_V (q := 24) (CC := "") (id := 104) (As := []) 0 (c_t_stumble (T := T) (D := D) (ad := ad) G o) (fun _ h => h) (by omega) (cell_104 ad C _) rfl wc_X2_stumble wm_RX2_65 wi_X2_stumble ws_X2_stumble wn_X2 (by decide) rfl ⟨Nat.le_of_ble_eq_true rfl, Nat.le_of_ble_eq_true rfl⟩ ⟨Nat.le_of_ble_eq_true rfl, Nat.le_of_ble_eq_true rfl⟩ (Nat.le_of_ble_eq_true rfl) dX2_readSign_21 rfl (fun G9 h9 => ?_)
      rw [h9]
      refine aw_goto (q := 37) dX2_readSign_24 (by decide) ?_
      exact rt_v rfl (Nat.le_refl _) (Nat.le_refl _) (by unfold sgG; first | exact (if_pos (by omega)).symm | exact (if_neg (by omega)).symm) dX2_readSign_37
set_option maxHeartbeats 4000000 in
set_option maxRecDepth 100000 in
theorem c_t_readDigit {l : Launch} {D : va_G} {C : Nat → ClassId} {T : Nat → Nat} {ad : Int → Nat} (G : GG) (o : okT G) {m : Int} (hm : 0 ≤ m ∧ m ≤ 9) : MC l yX2_readDigit cX2_readDigit 3 (some .int) 1 21 0 0 D (tyC C) T [.ref (ad 104), .int (iI m)] (cw ad C G) (RI ad C (fun r G1 => r = dgV G m ∧ G1 = dgG G m)) := by
  refine mc_of (by decide +kernel) (Nat.le_of_ble_eq_true rfl) rfl ?_
  have t1 := o.1
  have t6 := o.2.1
  have t7 := o.2.2.1
  have b6 := bA_r o (G 7 6)
  refine aw_aload_n (q := 1) 0 dX2_readDigit_0 rfl rfl rfl ?_
  refine aw_aload_n (q := 2) 0 dX2_readDigit_1 rfl rfl rfl ?_
  refine g_text_at (q := 5) (v := (G 7 6)) rfl wf_RX2_31 dX2_readDigit_2 rfl ?_
  refine cv_I (q := 8) (CC := "") (id := 104) (As := [.int (iI (G 7 6))]) 1 (c_t_byteAt (T := T) (D := D) (ad := ad) (G) (by omega) (by omega)) (fun _ h => h) (by omega) (cell_104 ad C _) rfl wc_X2_byteAt wm_RX2_44 wi_X2_byteAt ws_X2_byteAt wn_X2 (by decide) rfl ⟨Nat.le_of_ble_eq_true rfl, Nat.le_of_ble_eq_true rfl⟩ ⟨Nat.le_of_ble_eq_true rfl, Nat.le_of_ble_eq_true rfl⟩ (Nat.le_of_ble_eq_true rfl) dX2_readDigit_5 rfl (fun r9 G9 h9 => ?_)
  rw [h9.1, h9.2]
  refine aw_istore_n (q := 9) (lv2 := [(0, .ref (ad 104)), (1, .int (iI m)), (2, .int (iI ((bA G (G 7 6)))))]) [1, 2, 0] dX2_readDigit_8 rfl rfl (by decide) rfl rfl ?_
  refine aw_aload_n (q := 10) 0 dX2_readDigit_9 rfl rfl rfl ?_
  refine g_text_error (q := 13) (v := (G 7 7)) rfl wf_RX2_34 dX2_readDigit_10 rfl ?_
  refine aw_iconst (q := 14) dX2_readDigit_13 rfl ?_
  refine aw_icmp_ne (q := 17) dX2_readDigit_14 rfl (t := 31) (by decide) (by omega) (by omega) (fun h1 => ?_) (fun h2 => ?_)
  · refine aw_aload_n (q := 32) 0 dX2_readDigit_31 rfl rfl rfl ?_
    refine cv_V (q := 35) (CC := "") (id := 104) (As := []) 0 (c_t_stumble (T := T) (D := D) (ad := ad) G o) (fun _ h => h) (by omega) (cell_104 ad C _) rfl wc_X2_stumble wm_RX2_65 wi_X2_stumble ws_X2_stumble wn_X2 (by decide) rfl ⟨Nat.le_of_ble_eq_true rfl, Nat.le_of_ble_eq_true rfl⟩ ⟨Nat.le_of_ble_eq_true rfl, Nat.le_of_ble_eq_true rfl⟩ (Nat.le_of_ble_eq_true rfl) dX2_readDigit_32 rfl (fun G9 h9 => ?_)
    rw [h9]
    refine aw_iconst (q := 36) dX2_readDigit_35 rfl ?_
    exact rt_i rfl (Nat.le_refl _) (Nat.le_refl _) (⟨by unfold dgV; first | exact (if_pos (by omega)).symm | exact (if_neg (by omega)).symm, by unfold dgG; first | exact (if_pos (by omega)).symm | exact (if_neg (by omega)).symm⟩) dX2_readDigit_36
  · refine aw_iload_n (q := 18) 2 dX2_readDigit_17 rfl rfl rfl ?_
    refine aw_bipush (q := 20) dX2_readDigit_18 rfl (by decide) ?_
    refine aw_icmp_lt (q := 23) dX2_readDigit_20 rfl (t := 31) (by decide) (by omega) (by omega) (fun h3 => ?_) (fun h4 => ?_)
    · refine aw_aload_n (q := 32) 0 dX2_readDigit_31 rfl rfl rfl ?_
      refine cv_V (q := 35) (CC := "") (id := 104) (As := []) 0 (c_t_stumble (T := T) (D := D) (ad := ad) G o) (fun _ h => h) (by omega) (cell_104 ad C _) rfl wc_X2_stumble wm_RX2_65 wi_X2_stumble ws_X2_stumble wn_X2 (by decide) rfl ⟨Nat.le_of_ble_eq_true rfl, Nat.le_of_ble_eq_true rfl⟩ ⟨Nat.le_of_ble_eq_true rfl, Nat.le_of_ble_eq_true rfl⟩ (Nat.le_of_ble_eq_true rfl) dX2_readDigit_32 rfl (fun G9 h9 => ?_)
      rw [h9]
      refine aw_iconst (q := 36) dX2_readDigit_35 rfl ?_
      exact rt_i rfl (Nat.le_refl _) (Nat.le_refl _) (⟨by unfold dgV; first | exact (if_pos (by omega)).symm | exact (if_neg (by omega)).symm, by unfold dgG; first | exact (if_pos (by omega)).symm | exact (if_neg (by omega)).symm⟩) dX2_readDigit_36
    · refine aw_iload_n (q := 24) 2 dX2_readDigit_23 rfl rfl rfl ?_
      refine aw_bipush (q := 26) dX2_readDigit_24 rfl (by decide) ?_
      refine aw_iload_n (q := 27) 1 dX2_readDigit_26 rfl rfl rfl ?_
      refine ae_iadd (q := 28) (m + 48) (by omega) dX2_readDigit_27 rfl ?_
      refine aw_icmp_le (q := 31) dX2_readDigit_28 rfl (t := 37) (by decide) (by omega) (by omega) (fun h5 => ?_) (fun h6 => ?_)
      · refine aw_aload_n (q := 38) 0 dX2_readDigit_37 rfl rfl rfl ?_
        refine aw_dup (q := 39) dX2_readDigit_38 rfl rfl ?_
        refine g_text_at (q := 42) (v := (G 7 6)) rfl wf_RX2_31 dX2_readDigit_39 rfl ?_
        refine aw_iconst (q := 43) dX2_readDigit_42 rfl ?_
        refine ae_iadd (q := 44) ((G 7 6) + 1) (by omega) dX2_readDigit_43 rfl ?_
        refine p_text_at (q := 47) wf_RX2_31 dX2_readDigit_44 rfl ?_
        refine aw_iload_n (q := 48) 2 dX2_readDigit_47 rfl rfl rfl ?_
        refine aw_bipush (q := 50) dX2_readDigit_48 rfl (by decide) ?_
        refine ae_isub (q := 51) ((bA G (G 7 6)) - 48) (by omega) dX2_readDigit_50 rfl ?_
        exact rt_i rfl (Nat.le_refl _) (Nat.le_refl _) (⟨by unfold dgV; first | exact (if_pos (by omega)).symm | exact (if_neg (by omega)).symm, by unfold dgG; first | exact (if_pos (by omega)).symm | exact (if_neg (by omega)).symm⟩) dX2_readDigit_51
      · refine aw_aload_n (q := 32) 0 dX2_readDigit_31 rfl rfl rfl ?_
        refine cv_V (q := 35) (CC := "") (id := 104) (As := []) 0 (c_t_stumble (T := T) (D := D) (ad := ad) G o) (fun _ h => h) (by omega) (cell_104 ad C _) rfl wc_X2_stumble wm_RX2_65 wi_X2_stumble ws_X2_stumble wn_X2 (by decide) rfl ⟨Nat.le_of_ble_eq_true rfl, Nat.le_of_ble_eq_true rfl⟩ ⟨Nat.le_of_ble_eq_true rfl, Nat.le_of_ble_eq_true rfl⟩ (Nat.le_of_ble_eq_true rfl) dX2_readDigit_32 rfl (fun G9 h9 => ?_)
        rw [h9]
        refine aw_iconst (q := 36) dX2_readDigit_35 rfl ?_
        exact rt_i rfl (Nat.le_refl _) (Nat.le_refl _) (⟨by unfold dgV; first | exact (if_pos (by omega)).symm | exact (if_neg (by omega)).symm, by unfold dgG; first | exact (if_pos (by omega)).symm | exact (if_neg (by omega)).symm⟩) dX2_readDigit_36
set_option maxHeartbeats 4000000 in
set_option maxRecDepth 100000 in
theorem c_t_startReading {l : Launch} {D : va_G} {C : Nat → ClassId} {T : Nat → Nat} {ad : Int → Nat} (G : GG)  : MC l yX2_startReading cX2_startReading 1 none 0 0 0 0 D (tyC C) T [.ref (ad 104)] (cw ad C G) (RV ad C (fun G1 => G1 = stR G)) := by
  refine mc_of (by decide +kernel) (Nat.le_of_ble_eq_true rfl) rfl ?_
  refine aw_aload_n (q := 1) 0 dX2_startReading_0 rfl rfl rfl ?_
  refine aw_iconst (q := 2) dX2_startReading_1 rfl ?_
  refine p_text_at (q := 5) wf_RX2_31 dX2_startReading_2 rfl ?_
  refine aw_aload_n (q := 6) 0 dX2_startReading_5 rfl rfl rfl ?_
  refine aw_iconst (q := 7) dX2_startReading_6 rfl ?_
  refine p_text_error (q := 10) wf_RX2_34 dX2_startReading_7 rfl ?_
  exact rt_v rfl (Nat.le_refl _) (Nat.le_refl _) (rfl) dX2_startReading_10
set_option maxHeartbeats 4000000 in
set_option maxRecDepth 100000 in
theorem c_t_readNumber {l : Launch} {D : va_G} {C : Nat → ClassId} {T : Nat → Nat} {ad : Int → Nat} (G : GG) (o : okT G) {m : Int} (hm : 0 ≤ m ∧ m ≤ 99) : MC l yX2_readNumber cX2_readNumber 4 (some .int) 2 43 0 0 D (tyC C) T [.ref (ad 104), .int (iI m)] (cw ad C G) (RI ad C (fun r G1 => r = nuV G ∧ G1 = nuG G m)) := by
  refine mc_of (by decide +kernel) (Nat.le_of_ble_eq_true rfl) rfl ?_
  have t1 := o.1
  have t6 := o.2.1
  have t7 := o.2.2.1
  have b6 := bA_r o (G 7 6)
  refine aw_aload_n (q := 1) 0 dX2_readNumber_0 rfl rfl rfl ?_
  refine g_text_at (q := 4) (v := (G 7 6)) rfl wf_RX2_31 dX2_readNumber_1 rfl ?_
  refine aw_istore_n (q := 5) (lv2 := [(0, .ref (ad 104)), (1, .int (iI m)), (2, .int (iI (G 7 6)))]) [1, 2, 0] dX2_readNumber_4 rfl rfl (by decide) rfl rfl ?_
  refine aw_aload_n (q := 6) 0 dX2_readNumber_5 rfl rfl rfl ?_
  refine aw_bipush (q := 8) dX2_readNumber_6 rfl (by decide) ?_
  refine cv_I (q := 11) (CC := "") (id := 104) (As := [.int (iI 9)]) 1 (c_t_readDigit (T := T) (D := D) (ad := ad) G o (by omega)) (fun _ h => h) (by omega) (cell_104 ad C _) rfl wc_X2_readDigit wm_RX2_48 wi_X2_readDigit ws_X2_readDigit wn_X2 (by decide) rfl ⟨Nat.le_of_ble_eq_true rfl, Nat.le_of_ble_eq_true rfl⟩ ⟨Nat.le_of_ble_eq_true rfl, Nat.le_of_ble_eq_true rfl⟩ (Nat.le_of_ble_eq_true rfl) dX2_readNumber_8 rfl (fun r9 G9 h9 => ?_)
  rw [h9.1, h9.2]
  have := dgV_r (G := G) (show (0 : Int) ≤ 9 by omega)
  have ta1 := ((okT_dg o 9)).1
  have tb1 := ((okT_dg o 9)).2.1
  have tc1 := ((okT_dg o 9)).2.2.1
  have td1 := bA_r (okT_dg o 9) ((dgG G 9) 7 6)
  refine aw_istore_n (q := 12) (lv2 := [(0, .ref (ad 104)), (1, .int (iI m)), (2, .int (iI (G 7 6))), (3, .int (iI (dgV G 9)))]) [1, 2, 3, 0] dX2_readNumber_11 rfl rfl (by decide) rfl rfl ?_
  refine aw_aload_n (q := 13) 0 dX2_readNumber_12 rfl rfl rfl ?_
  refine aw_aload_n (q := 14) 0 dX2_readNumber_13 rfl rfl rfl ?_
  refine g_text_at (q := 17) (v := ((dgG G 9) 7 6)) rfl wf_RX2_31 dX2_readNumber_14 rfl ?_
  refine cv_I (q := 20) (CC := "") (id := 104) (As := [.int (iI (((dgG G 9) 7 6)))]) 1 (c_t_byteAt (T := T) (D := D) (ad := ad) (dgG G 9) (by omega) (by omega)) (fun _ h => h) (by omega) (cell_104 ad C _) rfl wc_X2_byteAt wm_RX2_44 wi_X2_byteAt ws_X2_byteAt wn_X2 (by decide) rfl ⟨Nat.le_of_ble_eq_true rfl, Nat.le_of_ble_eq_true rfl⟩ ⟨Nat.le_of_ble_eq_true rfl, Nat.le_of_ble_eq_true rfl⟩ (Nat.le_of_ble_eq_true rfl) dX2_readNumber_17 rfl (fun r9 G9 h9 => ?_)
  rw [h9.1, h9.2]
  refine cs_I (q := 23) (As := [.int (iI ((bA (dgG G 9) (((dgG G 9) 7 6)))))]) 1 (c_t_isDigit (T := T) (D := D) (ad := ad) (dgG G 9) (by omega)) (fun _ h => h) wc_X2_isDigit wm_RX2_61 wt_X2_isDigit wn_X2 (by decide) rfl ⟨Nat.le_of_ble_eq_true rfl, Nat.le_of_ble_eq_true rfl⟩ ⟨Nat.le_of_ble_eq_true rfl, Nat.le_of_ble_eq_true rfl⟩ (Nat.le_of_ble_eq_true rfl) dX2_readNumber_20 rfl (fun r9 G9 h9 => ?_)
  rw [h9.1, h9.2]
  refine aw_ifb_eq (q := 26) dX2_readNumber_23 rfl (t := 38) (by decide) (fun h1 => ?_) (fun h2 => ?_)
  · refine aw_aload_n (q := 39) 0 dX2_readNumber_38 rfl rfl rfl ?_
    refine g_text_error (q := 42) (v := ((dgG G 9) 7 7)) rfl wf_RX2_34 dX2_readNumber_39 rfl ?_
    refine aw_iconst (q := 43) dX2_readNumber_42 rfl ?_
    refine aw_icmp_ne (q := 46) dX2_readNumber_43 rfl (t := 75) (by decide) (by omega) (by omega) (fun h3 => ?_) (fun h4 => ?_)
    · refine aw_iload_n (q := 76) 3 dX2_readNumber_75 rfl rfl rfl ?_
      exact rt_i rfl (Nat.le_refl _) (Nat.le_refl _) (by
            have hn : n1 G = dgG G 9 := by unfold n1; first | exact if_pos (by omega) | exact if_neg (by omega)
            have hv : nuV G = dgV G 9 := by unfold nuV; first | exact if_pos (by omega) | exact if_neg (by omega)
            refine ⟨by rw [hv] <;> omega, ?_⟩
            unfold nuG
            rw [hn, hv]
            first | exact (if_pos (by omega)).symm | exact (if_neg (by omega)).symm) dX2_readNumber_76
    · refine aw_aload_n (q := 47) 0 dX2_readNumber_46 rfl rfl rfl ?_
      refine aw_aload_n (q := 48) 0 dX2_readNumber_47 rfl rfl rfl ?_
      refine g_text_at (q := 51) (v := ((dgG G 9) 7 6)) rfl wf_RX2_31 dX2_readNumber_48 rfl ?_
      refine cv_I (q := 54) (CC := "") (id := 104) (As := [.int (iI (((dgG G 9) 7 6)))]) 1 (c_t_byteAt (T := T) (D := D) (ad := ad) (dgG G 9) (by omega) (by omega)) (fun _ h => h) (by omega) (cell_104 ad C _) rfl wc_X2_byteAt wm_RX2_44 wi_X2_byteAt ws_X2_byteAt wn_X2 (by decide) rfl ⟨Nat.le_of_ble_eq_true rfl, Nat.le_of_ble_eq_true rfl⟩ ⟨Nat.le_of_ble_eq_true rfl, Nat.le_of_ble_eq_true rfl⟩ (Nat.le_of_ble_eq_true rfl) dX2_readNumber_51 rfl (fun r9 G9 h9 => ?_)
      rw [h9.1, h9.2]
      refine cs_I (q := 57) (As := [.int (iI ((bA (dgG G 9) (((dgG G 9) 7 6)))))]) 1 (c_t_isDigit (T := T) (D := D) (ad := ad) (dgG G 9) (by omega)) (fun _ h => h) wc_X2_isDigit wm_RX2_61 wt_X2_isDigit wn_X2 (by decide) rfl ⟨Nat.le_of_ble_eq_true rfl, Nat.le_of_ble_eq_true rfl⟩ ⟨Nat.le_of_ble_eq_true rfl, Nat.le_of_ble_eq_true rfl⟩ (Nat.le_of_ble_eq_true rfl) dX2_readNumber_54 rfl (fun r9 G9 h9 => ?_)
      rw [h9.1, h9.2]
      refine aw_ifb_ne (q := 60) dX2_readNumber_57 rfl (t := 75) (by decide) (fun h5 => ?_) (fun h6 => ?_)
      · refine aw_iload_n (q := 76) 3 dX2_readNumber_75 rfl rfl rfl ?_
        exact rt_i rfl (Nat.le_refl _) (Nat.le_refl _) (by
              have hn : n1 G = dgG G 9 := by unfold n1; first | exact if_pos (by omega) | exact if_neg (by omega)
              have hv : nuV G = dgV G 9 := by unfold nuV; first | exact if_pos (by omega) | exact if_neg (by omega)
              refine ⟨by rw [hv] <;> omega, ?_⟩
              unfold nuG
              rw [hn, hv]
              first | exact (if_pos (by omega)).symm | exact (if_neg (by omega)).symm) dX2_readNumber_76
      · refine aw_iload_n (q := 61) 3 dX2_readNumber_60 rfl rfl rfl ?_
        refine aw_iconst (q := 62) dX2_readNumber_61 rfl ?_
        refine aw_icmp_lt (q := 65) dX2_readNumber_62 rfl (t := 70) (by decide) (by omega) (by omega) (fun h7 => ?_) (fun h8 => ?_)
        · refine aw_aload_n (q := 71) 0 dX2_readNumber_70 rfl rfl rfl ?_
          refine aw_iload_n (q := 72) 2 dX2_readNumber_71 rfl rfl rfl ?_
          refine p_text_error (q := 75) wf_RX2_34 dX2_readNumber_72 rfl ?_
          refine aw_iload_n (q := 76) 3 dX2_readNumber_75 rfl rfl rfl ?_
          exact rt_i rfl (Nat.le_refl _) (Nat.le_refl _) (by
                have hn : n1 G = dgG G 9 := by unfold n1; first | exact if_pos (by omega) | exact if_neg (by omega)
                have hv : nuV G = dgV G 9 := by unfold nuV; first | exact if_pos (by omega) | exact if_neg (by omega)
                refine ⟨by rw [hv] <;> omega, ?_⟩
                unfold nuG
                rw [hn, hv]
                first | exact (if_pos (by omega)).symm | exact (if_neg (by omega)).symm) dX2_readNumber_76
        · refine aw_iload_n (q := 66) 3 dX2_readNumber_65 rfl rfl rfl ?_
          refine aw_iload_n (q := 67) 1 dX2_readNumber_66 rfl rfl rfl ?_
          refine aw_icmp_le (q := 70) dX2_readNumber_67 rfl (t := 75) (by decide) (by omega) (by omega) (fun h9 => ?_) (fun h10 => ?_)
          · refine aw_iload_n (q := 76) 3 dX2_readNumber_75 rfl rfl rfl ?_
            exact rt_i rfl (Nat.le_refl _) (Nat.le_refl _) (by
                  have hn : n1 G = dgG G 9 := by unfold n1; first | exact if_pos (by omega) | exact if_neg (by omega)
                  have hv : nuV G = dgV G 9 := by unfold nuV; first | exact if_pos (by omega) | exact if_neg (by omega)
                  refine ⟨by rw [hv] <;> omega, ?_⟩
                  unfold nuG
                  rw [hn, hv]
                  first | exact (if_pos (by omega)).symm | exact (if_neg (by omega)).symm) dX2_readNumber_76
          · refine aw_aload_n (q := 71) 0 dX2_readNumber_70 rfl rfl rfl ?_
            refine aw_iload_n (q := 72) 2 dX2_readNumber_71 rfl rfl rfl ?_
            refine p_text_error (q := 75) wf_RX2_34 dX2_readNumber_72 rfl ?_
            refine aw_iload_n (q := 76) 3 dX2_readNumber_75 rfl rfl rfl ?_
            exact rt_i rfl (Nat.le_refl _) (Nat.le_refl _) (by
                  have hn : n1 G = dgG G 9 := by unfold n1; first | exact if_pos (by omega) | exact if_neg (by omega)
                  have hv : nuV G = dgV G 9 := by unfold nuV; first | exact if_pos (by omega) | exact if_neg (by omega)
                  refine ⟨by rw [hv] <;> omega, ?_⟩
                  unfold nuG
                  rw [hn, hv]
                  first | exact (if_pos (by omega)).symm | exact (if_neg (by omega)).symm) dX2_readNumber_76
  · refine aw_bipush (q := 28) dX2_readNumber_26 rfl (by decide) ?_
    refine aw_iload_n (q := 29) 3 dX2_readNumber_28 rfl rfl rfl ?_
    refine ae_imul (q := 30) (10 * (dgV G 9)) (by omega) dX2_readNumber_29 rfl ?_
    refine aw_aload_n (q := 31) 0 dX2_readNumber_30 rfl rfl rfl ?_
    refine aw_bipush (q := 33) dX2_readNumber_31 rfl (by decide) ?_
    refine cv_I (q := 36) (CC := "") (id := 104) (As := [.int (iI 9)]) 1 (c_t_readDigit (T := T) (D := D) (ad := ad) (dgG G 9) (okT_dg o 9) (by omega)) (fun _ h => h) (by omega) (cell_104 ad C _) rfl wc_X2_readDigit wm_RX2_48 wi_X2_readDigit ws_X2_readDigit wn_X2 (by decide) rfl ⟨Nat.le_of_ble_eq_true rfl, Nat.le_of_ble_eq_true rfl⟩ ⟨Nat.le_of_ble_eq_true rfl, Nat.le_of_ble_eq_true rfl⟩ (Nat.le_of_ble_eq_true rfl) dX2_readNumber_33 rfl (fun r9 G9 h9 => ?_)
    rw [h9.1, h9.2]
    have := dgV_r (G := (dgG G 9)) (show (0 : Int) ≤ 9 by omega)
    have ta2 := ((okT_dg (okT_dg o 9) 9)).1
    have tb2 := ((okT_dg (okT_dg o 9) 9)).2.1
    have tc2 := ((okT_dg (okT_dg o 9) 9)).2.2.1
    have td2 := bA_r (okT_dg (okT_dg o 9) 9) ((dgG (dgG G 9) 9) 7 6)
    refine ae_iadd (q := 37) (10 * (dgV G 9) + (dgV (dgG G 9) 9)) (by omega) dX2_readNumber_36 rfl ?_
    refine aw_istore_n (q := 38) (lv2 := [(0, .ref (ad 104)), (1, .int (iI m)), (2, .int (iI (G 7 6))), (3, .int (iI (10 * (dgV G 9) + (dgV (dgG G 9) 9))))]) [1, 2, 3, 0] dX2_readNumber_37 rfl rfl (by decide) rfl rfl ?_
    refine aw_aload_n (q := 39) 0 dX2_readNumber_38 rfl rfl rfl ?_
    refine g_text_error (q := 42) (v := ((dgG (dgG G 9) 9) 7 7)) rfl wf_RX2_34 dX2_readNumber_39 rfl ?_
    refine aw_iconst (q := 43) dX2_readNumber_42 rfl ?_
    refine aw_icmp_ne (q := 46) dX2_readNumber_43 rfl (t := 75) (by decide) (by omega) (by omega) (fun h11 => ?_) (fun h12 => ?_)
    · refine aw_iload_n (q := 76) 3 dX2_readNumber_75 rfl rfl rfl ?_
      exact rt_i rfl (Nat.le_refl _) (Nat.le_refl _) (by
            have hn : n1 G = (dgG (dgG G 9) 9) := by unfold n1; first | exact if_pos (by omega) | exact if_neg (by omega)
            have hv : nuV G = 10 * dgV G 9 + dgV (dgG G 9) 9 := by unfold nuV; first | exact if_pos (by omega) | exact if_neg (by omega)
            refine ⟨by rw [hv] <;> omega, ?_⟩
            unfold nuG
            rw [hn, hv]
            first | exact (if_pos (by omega)).symm | exact (if_neg (by omega)).symm) dX2_readNumber_76
    · refine aw_aload_n (q := 47) 0 dX2_readNumber_46 rfl rfl rfl ?_
      refine aw_aload_n (q := 48) 0 dX2_readNumber_47 rfl rfl rfl ?_
      refine g_text_at (q := 51) (v := ((dgG (dgG G 9) 9) 7 6)) rfl wf_RX2_31 dX2_readNumber_48 rfl ?_
      refine cv_I (q := 54) (CC := "") (id := 104) (As := [.int (iI (((dgG (dgG G 9) 9) 7 6)))]) 1 (c_t_byteAt (T := T) (D := D) (ad := ad) (dgG (dgG G 9) 9) (by omega) (by omega)) (fun _ h => h) (by omega) (cell_104 ad C _) rfl wc_X2_byteAt wm_RX2_44 wi_X2_byteAt ws_X2_byteAt wn_X2 (by decide) rfl ⟨Nat.le_of_ble_eq_true rfl, Nat.le_of_ble_eq_true rfl⟩ ⟨Nat.le_of_ble_eq_true rfl, Nat.le_of_ble_eq_true rfl⟩ (Nat.le_of_ble_eq_true rfl) dX2_readNumber_51 rfl (fun r9 G9 h9 => ?_)
      rw [h9.1, h9.2]
      refine cs_I (q := 57) (As := [.int (iI ((bA (dgG (dgG G 9) 9) (((dgG (dgG G 9) 9) 7 6)))))]) 1 (c_t_isDigit (T := T) (D := D) (ad := ad) (dgG (dgG G 9) 9) (by omega)) (fun _ h => h) wc_X2_isDigit wm_RX2_61 wt_X2_isDigit wn_X2 (by decide) rfl ⟨Nat.le_of_ble_eq_true rfl, Nat.le_of_ble_eq_true rfl⟩ ⟨Nat.le_of_ble_eq_true rfl, Nat.le_of_ble_eq_true rfl⟩ (Nat.le_of_ble_eq_true rfl) dX2_readNumber_54 rfl (fun r9 G9 h9 => ?_)
      rw [h9.1, h9.2]
      refine aw_ifb_ne (q := 60) dX2_readNumber_57 rfl (t := 75) (by decide) (fun h13 => ?_) (fun h14 => ?_)
      · refine aw_iload_n (q := 76) 3 dX2_readNumber_75 rfl rfl rfl ?_
        exact rt_i rfl (Nat.le_refl _) (Nat.le_refl _) (by
              have hn : n1 G = (dgG (dgG G 9) 9) := by unfold n1; first | exact if_pos (by omega) | exact if_neg (by omega)
              have hv : nuV G = 10 * dgV G 9 + dgV (dgG G 9) 9 := by unfold nuV; first | exact if_pos (by omega) | exact if_neg (by omega)
              refine ⟨by rw [hv] <;> omega, ?_⟩
              unfold nuG
              rw [hn, hv]
              first | exact (if_pos (by omega)).symm | exact (if_neg (by omega)).symm) dX2_readNumber_76
      · refine aw_iload_n (q := 61) 3 dX2_readNumber_60 rfl rfl rfl ?_
        refine aw_iconst (q := 62) dX2_readNumber_61 rfl ?_
        refine aw_icmp_lt (q := 65) dX2_readNumber_62 rfl (t := 70) (by decide) (by omega) (by omega) (fun h15 => ?_) (fun h16 => ?_)
        · refine aw_aload_n (q := 71) 0 dX2_readNumber_70 rfl rfl rfl ?_
          refine aw_iload_n (q := 72) 2 dX2_readNumber_71 rfl rfl rfl ?_
          refine p_text_error (q := 75) wf_RX2_34 dX2_readNumber_72 rfl ?_
          refine aw_iload_n (q := 76) 3 dX2_readNumber_75 rfl rfl rfl ?_
          exact rt_i rfl (Nat.le_refl _) (Nat.le_refl _) (by
                have hn : n1 G = (dgG (dgG G 9) 9) := by unfold n1; first | exact if_pos (by omega) | exact if_neg (by omega)
                have hv : nuV G = 10 * dgV G 9 + dgV (dgG G 9) 9 := by unfold nuV; first | exact if_pos (by omega) | exact if_neg (by omega)
                refine ⟨by rw [hv] <;> omega, ?_⟩
                unfold nuG
                rw [hn, hv]
                first | exact (if_pos (by omega)).symm | exact (if_neg (by omega)).symm) dX2_readNumber_76
        · refine aw_iload_n (q := 66) 3 dX2_readNumber_65 rfl rfl rfl ?_
          refine aw_iload_n (q := 67) 1 dX2_readNumber_66 rfl rfl rfl ?_
          refine aw_icmp_le (q := 70) dX2_readNumber_67 rfl (t := 75) (by decide) (by omega) (by omega) (fun h17 => ?_) (fun h18 => ?_)
          · refine aw_iload_n (q := 76) 3 dX2_readNumber_75 rfl rfl rfl ?_
            exact rt_i rfl (Nat.le_refl _) (Nat.le_refl _) (by
                  have hn : n1 G = (dgG (dgG G 9) 9) := by unfold n1; first | exact if_pos (by omega) | exact if_neg (by omega)
                  have hv : nuV G = 10 * dgV G 9 + dgV (dgG G 9) 9 := by unfold nuV; first | exact if_pos (by omega) | exact if_neg (by omega)
                  refine ⟨by rw [hv] <;> omega, ?_⟩
                  unfold nuG
                  rw [hn, hv]
                  first | exact (if_pos (by omega)).symm | exact (if_neg (by omega)).symm) dX2_readNumber_76
          · refine aw_aload_n (q := 71) 0 dX2_readNumber_70 rfl rfl rfl ?_
            refine aw_iload_n (q := 72) 2 dX2_readNumber_71 rfl rfl rfl ?_
            refine p_text_error (q := 75) wf_RX2_34 dX2_readNumber_72 rfl ?_
            refine aw_iload_n (q := 76) 3 dX2_readNumber_75 rfl rfl rfl ?_
            exact rt_i rfl (Nat.le_refl _) (Nat.le_refl _) (by
                  have hn : n1 G = (dgG (dgG G 9) 9) := by unfold n1; first | exact if_pos (by omega) | exact if_neg (by omega)
                  have hv : nuV G = 10 * dgV G 9 + dgV (dgG G 9) 9 := by unfold nuV; first | exact if_pos (by omega) | exact if_neg (by omega)
                  refine ⟨by rw [hv] <;> omega, ?_⟩
                  unfold nuG
                  rw [hn, hv]
                  first | exact (if_pos (by omega)).symm | exact (if_neg (by omega)).symm) dX2_readNumber_76
set_option maxHeartbeats 4000000 in
set_option maxRecDepth 100000 in
theorem c_t_readCoins {l : Launch} {D : va_G} {C : Nat → ClassId} {T : Nat → Nat} {ad : Int → Nat} (G : GG) (o : okT G) : MC l yX2_readCoins cX2_readCoins 2 none 2 43 0 0 D (tyC C) T [.ref (ad 104)] (cw ad C G) (RV ad C (fun G1 => G1 = coG G 4)) := by
  refine mc_of (by decide +kernel) (Nat.le_of_ble_eq_true rfl) rfl ?_
  have t1 := o.1
  have t6 := o.2.1
  have t7 := o.2.2.1
  have b6 := bA_r o (G 7 6)
  refine aw_iconst (q := 1) dX2_readCoins_0 rfl ?_
  refine aw_istore_n (q := 2) (lv2 := [(0, .ref (ad 104)), (1, .int (iI 0))]) [1, 0] dX2_readCoins_1 rfl rfl (by decide) rfl rfl ?_
  show AW l RX2 "readCoins" cX2_readCoins 2 none (fun _ => True) { frames := 2, cells := 0, slots := 0, locals := 43 } (hvE D (RV ad C (fun G1 => G1 = coG G 4)) (cw ad C G) 0 0) D (tyC C) (hvZ T (cw ad C G)) (cw ad C G) 2 [(0, .ref (ad 104)), (1, .int (iI 0))] [] (cw ad C ((coG G 0))) 0 0
  have ta3 := ((okT_co o 0)).1
  have tb3 := ((okT_co o 0)).2.1
  have tc3 := ((okT_co o 0)).2.2.1
  have td3 := bA_r (okT_co o 0) ((coG G 0) 7 6)
  refine aw_iload_n (q := 3) 1 dX2_readCoins_2 rfl rfl rfl ?_
  refine aw_iconst (q := 4) dX2_readCoins_3 rfl ?_
  refine aw_icmp_ge (q := 7) dX2_readCoins_4 rfl (t := 31) (by decide) (by omega) (by omega) (fun h => absurd h (by omega)) (fun _ => ?_)
  refine aw_aload_n (q := 8) 0 dX2_readCoins_7 rfl rfl rfl ?_
  refine aw_bipush (q := 10) dX2_readCoins_8 rfl (by decide) ?_
  refine cv_V (q := 13) (CC := "") (id := 104) (As := [.int (iI 44)]) 1 (c_t_readSign (T := T) (D := D) (ad := ad) (coG G 0) (okT_co o 0) (by omega)) (fun _ h => h) (by omega) (cell_104 ad C _) rfl wc_X2_readSign wm_RX2_51 wi_X2_readSign ws_X2_readSign wn_X2 (by decide) rfl ⟨Nat.le_of_ble_eq_true rfl, Nat.le_of_ble_eq_true rfl⟩ ⟨Nat.le_of_ble_eq_true rfl, Nat.le_of_ble_eq_true rfl⟩ (Nat.le_of_ble_eq_true rfl) dX2_readCoins_10 rfl (fun G9 h9 => ?_)
  rw [h9]
  have ta4 := ((okT_sg (okT_co o 0) (s := 44) (by omega))).1
  have tb4 := ((okT_sg (okT_co o 0) (s := 44) (by omega))).2.1
  have tc4 := ((okT_sg (okT_co o 0) (s := 44) (by omega))).2.2.1
  have td4 := bA_r (okT_sg (okT_co o 0) (s := 44) (by omega)) ((sgG (coG G 0) 44) 7 6)
  refine aw_aload_n (q := 14) 0 dX2_readCoins_13 rfl rfl rfl ?_
  refine g_text_coins (q := 17) wf_RX2_28 dX2_readCoins_14 rfl ?_
  refine aw_iload_n (q := 18) 1 dX2_readCoins_17 rfl rfl rfl ?_
  refine aw_aload_n (q := 19) 0 dX2_readCoins_18 rfl rfl rfl ?_
  refine aw_bipush (q := 21) dX2_readCoins_19 rfl (by decide) ?_
  refine cv_I (q := 24) (CC := "") (id := 104) (As := [.int (iI 9)]) 1 (c_t_readDigit (T := T) (D := D) (ad := ad) (sgG (coG G 0) 44) (okT_sg (okT_co o 0) (s := 44) (by omega)) (by omega)) (fun _ h => h) (by omega) (cell_104 ad C _) rfl wc_X2_readDigit wm_RX2_48 wi_X2_readDigit ws_X2_readDigit wn_X2 (by decide) rfl ⟨Nat.le_of_ble_eq_true rfl, Nat.le_of_ble_eq_true rfl⟩ ⟨Nat.le_of_ble_eq_true rfl, Nat.le_of_ble_eq_true rfl⟩ (Nat.le_of_ble_eq_true rfl) dX2_readCoins_21 rfl (fun r9 G9 h9 => ?_)
  rw [h9.1, h9.2]
  have := dgV_r (G := (sgG (coG G 0) 44)) (show (0 : Int) ≤ 9 by omega)
  have ta5 := ((okT_dg (okT_sg (okT_co o 0) (s := 44) (by omega)) 9)).1
  have tb5 := ((okT_dg (okT_sg (okT_co o 0) (s := 44) (by omega)) 9)).2.1
  have tc5 := ((okT_dg (okT_sg (okT_co o 0) (s := 44) (by omega)) 9)).2.2.1
  have td5 := bA_r (okT_dg (okT_sg (okT_co o 0) (s := 44) (by omega)) 9) ((dgG (sgG (coG G 0) 44) 9) 7 6)
  refine aw_cias (q := 25) 0 (ar_106 ad C) (by omega) (by omega) dX2_readCoins_24 rfl ?_
  refine ae_iinc (q := 28) (lv2 := [(0, .ref (ad 104)), (1, .int (iI 1))]) 1 [1, 0] 1 (by omega) dX2_readCoins_25 rfl rfl (by decide) rfl ?_
  refine aw_goto (q := 2) dX2_readCoins_28 (by decide) ?_
  show AW l RX2 "readCoins" cX2_readCoins 2 none (fun _ => True) { frames := 2, cells := 0, slots := 0, locals := 43 } (hvE D (RV ad C (fun G1 => G1 = coG G 4)) (cw ad C G) 0 0) D (tyC C) (hvZ T (cw ad C G)) (cw ad C G) 2 [(0, .ref (ad 104)), (1, .int (iI 1))] [] (cw ad C ((coG G 1))) 0 0
  have ta6 := ((okT_co o 1)).1
  have tb6 := ((okT_co o 1)).2.1
  have tc6 := ((okT_co o 1)).2.2.1
  have td6 := bA_r (okT_co o 1) ((coG G 1) 7 6)
  refine aw_iload_n (q := 3) 1 dX2_readCoins_2 rfl rfl rfl ?_
  refine aw_iconst (q := 4) dX2_readCoins_3 rfl ?_
  refine aw_icmp_ge (q := 7) dX2_readCoins_4 rfl (t := 31) (by decide) (by omega) (by omega) (fun h => absurd h (by omega)) (fun _ => ?_)
  refine aw_aload_n (q := 8) 0 dX2_readCoins_7 rfl rfl rfl ?_
  refine aw_bipush (q := 10) dX2_readCoins_8 rfl (by decide) ?_
  refine cv_V (q := 13) (CC := "") (id := 104) (As := [.int (iI 44)]) 1 (c_t_readSign (T := T) (D := D) (ad := ad) (coG G 1) (okT_co o 1) (by omega)) (fun _ h => h) (by omega) (cell_104 ad C _) rfl wc_X2_readSign wm_RX2_51 wi_X2_readSign ws_X2_readSign wn_X2 (by decide) rfl ⟨Nat.le_of_ble_eq_true rfl, Nat.le_of_ble_eq_true rfl⟩ ⟨Nat.le_of_ble_eq_true rfl, Nat.le_of_ble_eq_true rfl⟩ (Nat.le_of_ble_eq_true rfl) dX2_readCoins_10 rfl (fun G9 h9 => ?_)
  rw [h9]
  have ta7 := ((okT_sg (okT_co o 1) (s := 44) (by omega))).1
  have tb7 := ((okT_sg (okT_co o 1) (s := 44) (by omega))).2.1
  have tc7 := ((okT_sg (okT_co o 1) (s := 44) (by omega))).2.2.1
  have td7 := bA_r (okT_sg (okT_co o 1) (s := 44) (by omega)) ((sgG (coG G 1) 44) 7 6)
  refine aw_aload_n (q := 14) 0 dX2_readCoins_13 rfl rfl rfl ?_
  refine g_text_coins (q := 17) wf_RX2_28 dX2_readCoins_14 rfl ?_
  refine aw_iload_n (q := 18) 1 dX2_readCoins_17 rfl rfl rfl ?_
  refine aw_aload_n (q := 19) 0 dX2_readCoins_18 rfl rfl rfl ?_
  refine aw_bipush (q := 21) dX2_readCoins_19 rfl (by decide) ?_
  refine cv_I (q := 24) (CC := "") (id := 104) (As := [.int (iI 9)]) 1 (c_t_readDigit (T := T) (D := D) (ad := ad) (sgG (coG G 1) 44) (okT_sg (okT_co o 1) (s := 44) (by omega)) (by omega)) (fun _ h => h) (by omega) (cell_104 ad C _) rfl wc_X2_readDigit wm_RX2_48 wi_X2_readDigit ws_X2_readDigit wn_X2 (by decide) rfl ⟨Nat.le_of_ble_eq_true rfl, Nat.le_of_ble_eq_true rfl⟩ ⟨Nat.le_of_ble_eq_true rfl, Nat.le_of_ble_eq_true rfl⟩ (Nat.le_of_ble_eq_true rfl) dX2_readCoins_21 rfl (fun r9 G9 h9 => ?_)
  rw [h9.1, h9.2]
  have := dgV_r (G := (sgG (coG G 1) 44)) (show (0 : Int) ≤ 9 by omega)
  have ta8 := ((okT_dg (okT_sg (okT_co o 1) (s := 44) (by omega)) 9)).1
  have tb8 := ((okT_dg (okT_sg (okT_co o 1) (s := 44) (by omega)) 9)).2.1
  have tc8 := ((okT_dg (okT_sg (okT_co o 1) (s := 44) (by omega)) 9)).2.2.1
  have td8 := bA_r (okT_dg (okT_sg (okT_co o 1) (s := 44) (by omega)) 9) ((dgG (sgG (coG G 1) 44) 9) 7 6)
  refine aw_cias (q := 25) 1 (ar_106 ad C) (by omega) (by omega) dX2_readCoins_24 rfl ?_
  refine ae_iinc (q := 28) (lv2 := [(0, .ref (ad 104)), (1, .int (iI 2))]) 1 [1, 0] 2 (by omega) dX2_readCoins_25 rfl rfl (by decide) rfl ?_
  refine aw_goto (q := 2) dX2_readCoins_28 (by decide) ?_
  show AW l RX2 "readCoins" cX2_readCoins 2 none (fun _ => True) { frames := 2, cells := 0, slots := 0, locals := 43 } (hvE D (RV ad C (fun G1 => G1 = coG G 4)) (cw ad C G) 0 0) D (tyC C) (hvZ T (cw ad C G)) (cw ad C G) 2 [(0, .ref (ad 104)), (1, .int (iI 2))] [] (cw ad C ((coG G 2))) 0 0
  have ta9 := ((okT_co o 2)).1
  have tb9 := ((okT_co o 2)).2.1
  have tc9 := ((okT_co o 2)).2.2.1
  have td9 := bA_r (okT_co o 2) ((coG G 2) 7 6)
  refine aw_iload_n (q := 3) 1 dX2_readCoins_2 rfl rfl rfl ?_
  refine aw_iconst (q := 4) dX2_readCoins_3 rfl ?_
  refine aw_icmp_ge (q := 7) dX2_readCoins_4 rfl (t := 31) (by decide) (by omega) (by omega) (fun h => absurd h (by omega)) (fun _ => ?_)
  refine aw_aload_n (q := 8) 0 dX2_readCoins_7 rfl rfl rfl ?_
  refine aw_bipush (q := 10) dX2_readCoins_8 rfl (by decide) ?_
  refine cv_V (q := 13) (CC := "") (id := 104) (As := [.int (iI 44)]) 1 (c_t_readSign (T := T) (D := D) (ad := ad) (coG G 2) (okT_co o 2) (by omega)) (fun _ h => h) (by omega) (cell_104 ad C _) rfl wc_X2_readSign wm_RX2_51 wi_X2_readSign ws_X2_readSign wn_X2 (by decide) rfl ⟨Nat.le_of_ble_eq_true rfl, Nat.le_of_ble_eq_true rfl⟩ ⟨Nat.le_of_ble_eq_true rfl, Nat.le_of_ble_eq_true rfl⟩ (Nat.le_of_ble_eq_true rfl) dX2_readCoins_10 rfl (fun G9 h9 => ?_)
  rw [h9]
  have ta10 := ((okT_sg (okT_co o 2) (s := 44) (by omega))).1
  have tb10 := ((okT_sg (okT_co o 2) (s := 44) (by omega))).2.1
  have tc10 := ((okT_sg (okT_co o 2) (s := 44) (by omega))).2.2.1
  have td10 := bA_r (okT_sg (okT_co o 2) (s := 44) (by omega)) ((sgG (coG G 2) 44) 7 6)
  refine aw_aload_n (q := 14) 0 dX2_readCoins_13 rfl rfl rfl ?_
  refine g_text_coins (q := 17) wf_RX2_28 dX2_readCoins_14 rfl ?_
  refine aw_iload_n (q := 18) 1 dX2_readCoins_17 rfl rfl rfl ?_
  refine aw_aload_n (q := 19) 0 dX2_readCoins_18 rfl rfl rfl ?_
  refine aw_bipush (q := 21) dX2_readCoins_19 rfl (by decide) ?_
  refine cv_I (q := 24) (CC := "") (id := 104) (As := [.int (iI 9)]) 1 (c_t_readDigit (T := T) (D := D) (ad := ad) (sgG (coG G 2) 44) (okT_sg (okT_co o 2) (s := 44) (by omega)) (by omega)) (fun _ h => h) (by omega) (cell_104 ad C _) rfl wc_X2_readDigit wm_RX2_48 wi_X2_readDigit ws_X2_readDigit wn_X2 (by decide) rfl ⟨Nat.le_of_ble_eq_true rfl, Nat.le_of_ble_eq_true rfl⟩ ⟨Nat.le_of_ble_eq_true rfl, Nat.le_of_ble_eq_true rfl⟩ (Nat.le_of_ble_eq_true rfl) dX2_readCoins_21 rfl (fun r9 G9 h9 => ?_)
  rw [h9.1, h9.2]
  have := dgV_r (G := (sgG (coG G 2) 44)) (show (0 : Int) ≤ 9 by omega)
  have ta11 := ((okT_dg (okT_sg (okT_co o 2) (s := 44) (by omega)) 9)).1
  have tb11 := ((okT_dg (okT_sg (okT_co o 2) (s := 44) (by omega)) 9)).2.1
  have tc11 := ((okT_dg (okT_sg (okT_co o 2) (s := 44) (by omega)) 9)).2.2.1
  have td11 := bA_r (okT_dg (okT_sg (okT_co o 2) (s := 44) (by omega)) 9) ((dgG (sgG (coG G 2) 44) 9) 7 6)
  refine aw_cias (q := 25) 2 (ar_106 ad C) (by omega) (by omega) dX2_readCoins_24 rfl ?_
  refine ae_iinc (q := 28) (lv2 := [(0, .ref (ad 104)), (1, .int (iI 3))]) 1 [1, 0] 3 (by omega) dX2_readCoins_25 rfl rfl (by decide) rfl ?_
  refine aw_goto (q := 2) dX2_readCoins_28 (by decide) ?_
  show AW l RX2 "readCoins" cX2_readCoins 2 none (fun _ => True) { frames := 2, cells := 0, slots := 0, locals := 43 } (hvE D (RV ad C (fun G1 => G1 = coG G 4)) (cw ad C G) 0 0) D (tyC C) (hvZ T (cw ad C G)) (cw ad C G) 2 [(0, .ref (ad 104)), (1, .int (iI 3))] [] (cw ad C ((coG G 3))) 0 0
  have ta12 := ((okT_co o 3)).1
  have tb12 := ((okT_co o 3)).2.1
  have tc12 := ((okT_co o 3)).2.2.1
  have td12 := bA_r (okT_co o 3) ((coG G 3) 7 6)
  refine aw_iload_n (q := 3) 1 dX2_readCoins_2 rfl rfl rfl ?_
  refine aw_iconst (q := 4) dX2_readCoins_3 rfl ?_
  refine aw_icmp_ge (q := 7) dX2_readCoins_4 rfl (t := 31) (by decide) (by omega) (by omega) (fun h => absurd h (by omega)) (fun _ => ?_)
  refine aw_aload_n (q := 8) 0 dX2_readCoins_7 rfl rfl rfl ?_
  refine aw_bipush (q := 10) dX2_readCoins_8 rfl (by decide) ?_
  refine cv_V (q := 13) (CC := "") (id := 104) (As := [.int (iI 44)]) 1 (c_t_readSign (T := T) (D := D) (ad := ad) (coG G 3) (okT_co o 3) (by omega)) (fun _ h => h) (by omega) (cell_104 ad C _) rfl wc_X2_readSign wm_RX2_51 wi_X2_readSign ws_X2_readSign wn_X2 (by decide) rfl ⟨Nat.le_of_ble_eq_true rfl, Nat.le_of_ble_eq_true rfl⟩ ⟨Nat.le_of_ble_eq_true rfl, Nat.le_of_ble_eq_true rfl⟩ (Nat.le_of_ble_eq_true rfl) dX2_readCoins_10 rfl (fun G9 h9 => ?_)
  rw [h9]
  have ta13 := ((okT_sg (okT_co o 3) (s := 44) (by omega))).1
  have tb13 := ((okT_sg (okT_co o 3) (s := 44) (by omega))).2.1
  have tc13 := ((okT_sg (okT_co o 3) (s := 44) (by omega))).2.2.1
  have td13 := bA_r (okT_sg (okT_co o 3) (s := 44) (by omega)) ((sgG (coG G 3) 44) 7 6)
  refine aw_aload_n (q := 14) 0 dX2_readCoins_13 rfl rfl rfl ?_
  refine g_text_coins (q := 17) wf_RX2_28 dX2_readCoins_14 rfl ?_
  refine aw_iload_n (q := 18) 1 dX2_readCoins_17 rfl rfl rfl ?_
  refine aw_aload_n (q := 19) 0 dX2_readCoins_18 rfl rfl rfl ?_
  refine aw_bipush (q := 21) dX2_readCoins_19 rfl (by decide) ?_
  refine cv_I (q := 24) (CC := "") (id := 104) (As := [.int (iI 9)]) 1 (c_t_readDigit (T := T) (D := D) (ad := ad) (sgG (coG G 3) 44) (okT_sg (okT_co o 3) (s := 44) (by omega)) (by omega)) (fun _ h => h) (by omega) (cell_104 ad C _) rfl wc_X2_readDigit wm_RX2_48 wi_X2_readDigit ws_X2_readDigit wn_X2 (by decide) rfl ⟨Nat.le_of_ble_eq_true rfl, Nat.le_of_ble_eq_true rfl⟩ ⟨Nat.le_of_ble_eq_true rfl, Nat.le_of_ble_eq_true rfl⟩ (Nat.le_of_ble_eq_true rfl) dX2_readCoins_21 rfl (fun r9 G9 h9 => ?_)
  rw [h9.1, h9.2]
  have := dgV_r (G := (sgG (coG G 3) 44)) (show (0 : Int) ≤ 9 by omega)
  have ta14 := ((okT_dg (okT_sg (okT_co o 3) (s := 44) (by omega)) 9)).1
  have tb14 := ((okT_dg (okT_sg (okT_co o 3) (s := 44) (by omega)) 9)).2.1
  have tc14 := ((okT_dg (okT_sg (okT_co o 3) (s := 44) (by omega)) 9)).2.2.1
  have td14 := bA_r (okT_dg (okT_sg (okT_co o 3) (s := 44) (by omega)) 9) ((dgG (sgG (coG G 3) 44) 9) 7 6)
  refine aw_cias (q := 25) 3 (ar_106 ad C) (by omega) (by omega) dX2_readCoins_24 rfl ?_
  refine ae_iinc (q := 28) (lv2 := [(0, .ref (ad 104)), (1, .int (iI 4))]) 1 [1, 0] 4 (by omega) dX2_readCoins_25 rfl rfl (by decide) rfl ?_
  refine aw_goto (q := 2) dX2_readCoins_28 (by decide) ?_
  show AW l RX2 "readCoins" cX2_readCoins 2 none (fun _ => True) { frames := 2, cells := 0, slots := 0, locals := 43 } (hvE D (RV ad C (fun G1 => G1 = coG G 4)) (cw ad C G) 0 0) D (tyC C) (hvZ T (cw ad C G)) (cw ad C G) 2 [(0, .ref (ad 104)), (1, .int (iI 4))] [] (cw ad C ((coG G 4))) 0 0
  have ta15 := ((okT_co o 4)).1
  have tb15 := ((okT_co o 4)).2.1
  have tc15 := ((okT_co o 4)).2.2.1
  have td15 := bA_r (okT_co o 4) ((coG G 4) 7 6)
  refine aw_iload_n (q := 3) 1 dX2_readCoins_2 rfl rfl rfl ?_
  refine aw_iconst (q := 4) dX2_readCoins_3 rfl ?_
  refine aw_icmp_ge (q := 7) dX2_readCoins_4 rfl (t := 31) (by decide) (by omega) (by omega) (fun _ => ?_) (fun h => absurd h (by omega))
  exact rt_v rfl (Nat.le_refl _) (Nat.le_refl _) (rfl) dX2_readCoins_31
set_option maxHeartbeats 4000000 in
set_option maxRecDepth 100000 in
theorem c_t_readOrder {l : Launch} {D : va_G} {C : Nat → ClassId} {T : Nat → Nat} {ad : Int → Nat} (G : GG) (o : okT G) : MC l yX2_readOrder cX2_readOrder 1 (some .boolean) 3 66 0 0 D (tyC C) T [.ref (ad 104)] (cw ad C G) (RI ad C (fun r G1 => r = roV G ∧ G1 = roG G)) := by
  refine mc_of (by decide +kernel) (Nat.le_of_ble_eq_true rfl) rfl ?_
  have t1 := o.1
  have t6 := o.2.1
  have t7 := o.2.2.1
  have b6 := bA_r o (G 7 6)
  refine aw_aload_n (q := 1) 0 dX2_readOrder_0 rfl rfl rfl ?_
  refine g_text_at (q := 4) (v := (G 7 6)) rfl wf_RX2_31 dX2_readOrder_1 rfl ?_
  refine aw_aload_n (q := 5) 0 dX2_readOrder_4 rfl rfl rfl ?_
  refine g_text_length (q := 8) (v := (G 7 1)) rfl wf_RX2_15 dX2_readOrder_5 rfl ?_
  refine aw_icmp_ge (q := 11) dX2_readOrder_8 rfl (t := 19) (by decide) (by omega) (by omega) (fun h1 => ?_) (fun h2 => ?_)
  · refine aw_iconst (q := 20) dX2_readOrder_19 rfl ?_
    exact rt_z rfl (by first | omega | exact b2i_r _) (Nat.le_refl _) (Nat.le_refl _) (⟨(if_neg (by omega)).symm, (if_neg (by omega)).symm⟩) dX2_readOrder_20
  · refine aw_aload_n (q := 12) 0 dX2_readOrder_11 rfl rfl rfl ?_
    refine g_text_error (q := 15) (v := (G 7 7)) rfl wf_RX2_34 dX2_readOrder_12 rfl ?_
    refine aw_iconst (q := 16) dX2_readOrder_15 rfl ?_
    refine aw_icmp_eq (q := 19) dX2_readOrder_16 rfl (t := 21) (by decide) (by omega) (by omega) (fun h3 => ?_) (fun h4 => ?_)
    · refine aw_aload_n (q := 22) 0 dX2_readOrder_21 rfl rfl rfl ?_
      refine aw_aload_n (q := 23) 0 dX2_readOrder_22 rfl rfl rfl ?_
      refine aw_aload_n (q := 24) 0 dX2_readOrder_23 rfl rfl rfl ?_
      refine g_text_at (q := 27) (v := (G 7 6)) rfl wf_RX2_31 dX2_readOrder_24 rfl ?_
      refine cv_I (q := 30) (CC := "") (id := 104) (As := [.int (iI (G 7 6))]) 1 (c_t_byteAt (T := T) (D := D) (ad := ad) G (by omega) (by omega)) (fun _ h => h) (by omega) (cell_104 ad C _) rfl wc_X2_byteAt wm_RX2_44 wi_X2_byteAt ws_X2_byteAt wn_X2 (by decide) rfl ⟨Nat.le_of_ble_eq_true rfl, Nat.le_of_ble_eq_true rfl⟩ ⟨Nat.le_of_ble_eq_true rfl, Nat.le_of_ble_eq_true rfl⟩ (Nat.le_of_ble_eq_true rfl) dX2_readOrder_27 rfl (fun r9 G9 h9 => ?_)
      rw [h9.1, h9.2]
      refine p_text_letter (q := 33) wf_RX2_19 dX2_readOrder_30 rfl ?_
      refine aw_aload_n (q := 34) 0 dX2_readOrder_33 rfl rfl rfl ?_
      refine g_text_letter (q := 37) (v := (bA G (G 7 6))) (setG_same _ _ _ _) wf_RX2_19 dX2_readOrder_34 rfl ?_
      refine ae_lkp4 119 146 184 80 207 (by omega) dX2_readOrder_37 (by decide) rfl rfl rfl rfl rfl (fun h5 => ?_) (fun h6 => ?_) (fun h7 => ?_) (fun h8 => ?_) (fun h9 => ?_)
      · refine aw_aload_n (q := 120) 0 dX2_readOrder_119 rfl rfl rfl ?_
        refine aw_dup (q := 121) dX2_readOrder_120 rfl rfl ?_
        refine g_text_at (q := 124) (v := (G 7 6)) (setG_ne (by omega)) wf_RX2_31 dX2_readOrder_121 rfl ?_
        refine aw_iconst (q := 125) dX2_readOrder_124 rfl ?_
        refine ae_iadd (q := 126) ((G 7 6) + 1) (by omega) dX2_readOrder_125 rfl ?_
        refine p_text_at (q := 129) wf_RX2_31 dX2_readOrder_126 rfl ?_
        show AW l RX2 "readOrder" cX2_readOrder 1 (some .boolean) (fun _ => True) { frames := 3, cells := 0, slots := 0, locals := 66 } (hvE D (RI ad C (fun r G1 => r = roV G ∧ G1 = roG G)) (cw ad C G) 0 0) D (tyC C) (hvZ T (cw ad C G)) (cw ad C G) 129 [(0, .ref (ad 104))] [] (cw ad C ((roA G))) 0 0
        have ta16 := ((okT_roA o (by omega))).1
        have tb16 := ((okT_roA o (by omega))).2.1
        have tc16 := ((okT_roA o (by omega))).2.2.1
        have td16 := bA_r (okT_roA o (by omega)) ((roA G) 7 6)
        refine aw_aload_n (q := 130) 0 dX2_readOrder_129 rfl rfl rfl ?_
        refine aw_aload_n (q := 131) 0 dX2_readOrder_130 rfl rfl rfl ?_
        refine aw_bipush (q := 133) dX2_readOrder_131 rfl (by decide) ?_
        refine cv_I (q := 136) (CC := "") (id := 104) (As := [.int (iI 7)]) 1 (c_t_readDigit (T := T) (D := D) (ad := ad) (roA G) (okT_roA o (by omega)) (by omega)) (fun _ h => h) (by omega) (cell_104 ad C _) rfl wc_X2_readDigit wm_RX2_48 wi_X2_readDigit ws_X2_readDigit wn_X2 (by decide) rfl ⟨Nat.le_of_ble_eq_true rfl, Nat.le_of_ble_eq_true rfl⟩ ⟨Nat.le_of_ble_eq_true rfl, Nat.le_of_ble_eq_true rfl⟩ (Nat.le_of_ble_eq_true rfl) dX2_readOrder_133 rfl (fun r9 G9 h9 => ?_)
        rw [h9.1, h9.2]
        have := dgV_r (G := (roA G)) (show (0 : Int) ≤ 7 by omega)
        have ta17 := ((okT_dg (okT_roA o (by omega)) 7)).1
        have tb17 := ((okT_dg (okT_roA o (by omega)) 7)).2.1
        have tc17 := ((okT_dg (okT_roA o (by omega)) 7)).2.2.1
        have td17 := bA_r (okT_dg (okT_roA o (by omega)) 7) ((dgG (roA G) 7) 7 6)
        refine p_text_place (q := 139) wf_RX2_22 dX2_readOrder_136 rfl ?_
        show AW l RX2 "readOrder" cX2_readOrder 1 (some .boolean) (fun _ => True) { frames := 3, cells := 0, slots := 0, locals := 66 } (hvE D (RI ad C (fun r G1 => r = roV G ∧ G1 = roG G)) (cw ad C G) 0 0) D (tyC C) (hvZ T (cw ad C G)) (cw ad C G) 139 [(0, .ref (ad 104))] [] (cw ad C ((roB G 7))) 0 0
        have ta18 := ((okT_roB o (by omega) 7)).1
        have tb18 := ((okT_roB o (by omega) 7)).2.1
        have tc18 := ((okT_roB o (by omega) 7)).2.2.1
        have td18 := bA_r (okT_roB o (by omega) 7) ((roB G 7) 7 6)
        refine aw_aload_n (q := 140) 0 dX2_readOrder_139 rfl rfl rfl ?_
        refine cv_V (q := 143) (CC := "") (id := 104) (As := []) 0 (c_t_readCoins (T := T) (D := D) (ad := ad) (roB G 7) (okT_roB o (by omega) 7)) (fun _ h => h) (by omega) (cell_104 ad C _) rfl wc_X2_readCoins wm_RX2_58 wi_X2_readCoins ws_X2_readCoins wn_X2 (by decide) rfl ⟨Nat.le_of_ble_eq_true rfl, Nat.le_of_ble_eq_true rfl⟩ ⟨Nat.le_of_ble_eq_true rfl, Nat.le_of_ble_eq_true rfl⟩ (Nat.le_of_ble_eq_true rfl) dX2_readOrder_140 rfl (fun G9 h9 => ?_)
        rw [h9]
        refine aw_goto (q := 215) dX2_readOrder_143 (by decide) ?_
        show AW l RX2 "readOrder" cX2_readOrder 1 (some .boolean) (fun _ => True) { frames := 3, cells := 0, slots := 0, locals := 66 } (hvE D (RI ad C (fun r G1 => r = roV G ∧ G1 = roG G)) (cw ad C G) 0 0) D (tyC C) (hvZ T (cw ad C G)) (cw ad C G) 215 [(0, .ref (ad 104))] [] (cw ad C ((coG (roB G 7) 4))) 0 0
        have ta19 := ((okT_co (okT_roB o (by omega) 7) 4)).1
        have tb19 := ((okT_co (okT_roB o (by omega) 7) 4)).2.1
        have tc19 := ((okT_co (okT_roB o (by omega) 7) 4)).2.2.1
        have td19 := bA_r (okT_co (okT_roB o (by omega) 7) 4) ((coG (roB G 7) 4) 7 6)
        refine aw_aload_n (q := 216) 0 dX2_readOrder_215 rfl rfl rfl ?_
        refine aw_bipush (q := 218) dX2_readOrder_216 rfl (by decide) ?_
        refine cv_V (q := 221) (CC := "") (id := 104) (As := [.int (iI 59)]) 1 (c_t_readSign (T := T) (D := D) (ad := ad) (coG (roB G 7) 4) (okT_co (okT_roB o (by omega) 7) 4) (by omega)) (fun _ h => h) (by omega) (cell_104 ad C _) rfl wc_X2_readSign wm_RX2_51 wi_X2_readSign ws_X2_readSign wn_X2 (by decide) rfl ⟨Nat.le_of_ble_eq_true rfl, Nat.le_of_ble_eq_true rfl⟩ ⟨Nat.le_of_ble_eq_true rfl, Nat.le_of_ble_eq_true rfl⟩ (Nat.le_of_ble_eq_true rfl) dX2_readOrder_218 rfl (fun G9 h9 => ?_)
        rw [h9]
        have ta20 := ((okT_sg (okT_co (okT_roB o (by omega) 7) 4) (s := 59) (by omega))).1
        have tb20 := ((okT_sg (okT_co (okT_roB o (by omega) 7) 4) (s := 59) (by omega))).2.1
        have tc20 := ((okT_sg (okT_co (okT_roB o (by omega) 7) 4) (s := 59) (by omega))).2.2.1
        have td20 := bA_r (okT_sg (okT_co (okT_roB o (by omega) 7) 4) (s := 59) (by omega)) ((sgG (coG (roB G 7) 4) 59) 7 6)
        refine aw_aload_n (q := 222) 0 dX2_readOrder_221 rfl rfl rfl ?_
        refine g_text_error (q := 225) (v := ((sgG (coG (roB G 7) 4) 59) 7 7)) rfl wf_RX2_34 dX2_readOrder_222 rfl ?_
        refine aw_iconst (q := 226) dX2_readOrder_225 rfl ?_
        refine aw_icmp_ne (q := 229) dX2_readOrder_226 rfl (t := 233) (by decide) (by omega) (by omega) (fun h10 => ?_) (fun h11 => ?_)
        · refine aw_iconst (q := 234) dX2_readOrder_233 rfl ?_
          exact rt_z rfl (by first | omega | exact b2i_r _) (Nat.le_refl _) (Nat.le_refl _) (by
                have hp : G 7 6 < G 7 1 ∧ G 7 7 = -1 := ⟨by omega, by omega⟩
                have hd : roD G = (coG (roB G 7) 4) := by
                  unfold roD
                  first | exact if_pos (by omega) | (rw [if_neg (by omega)]; first | exact if_pos (by omega) | (rw [if_neg (by omega)]; first | exact if_pos (by omega) | (rw [if_neg (by omega)]; first | exact if_pos (by omega) | exact if_neg (by omega))))
                have hg : roG G = sgG ((coG (roB G 7) 4)) 59 := by unfold roG; rw [if_pos hp, hd]
                refine ⟨?_, hg.symm⟩
                unfold roV
                rw [if_pos hp, hg]
                first | exact (b2i_t (by omega)).symm | exact (b2i_f (by omega)).symm) dX2_readOrder_234
        · refine aw_iconst (q := 230) dX2_readOrder_229 rfl ?_
          refine aw_goto (q := 234) dX2_readOrder_230 (by decide) ?_
          exact rt_z rfl (by first | omega | exact b2i_r _) (Nat.le_refl _) (Nat.le_refl _) (by
                have hp : G 7 6 < G 7 1 ∧ G 7 7 = -1 := ⟨by omega, by omega⟩
                have hd : roD G = (coG (roB G 7) 4) := by
                  unfold roD
                  first | exact if_pos (by omega) | (rw [if_neg (by omega)]; first | exact if_pos (by omega) | (rw [if_neg (by omega)]; first | exact if_pos (by omega) | (rw [if_neg (by omega)]; first | exact if_pos (by omega) | exact if_neg (by omega))))
                have hg : roG G = sgG ((coG (roB G 7) 4)) 59 := by unfold roG; rw [if_pos hp, hd]
                refine ⟨?_, hg.symm⟩
                unfold roV
                rw [if_pos hp, hg]
                first | exact (b2i_t (by omega)).symm | exact (b2i_f (by omega)).symm) dX2_readOrder_234
      · refine aw_aload_n (q := 147) 0 dX2_readOrder_146 rfl rfl rfl ?_
        refine aw_dup (q := 148) dX2_readOrder_147 rfl rfl ?_
        refine g_text_at (q := 151) (v := (G 7 6)) (setG_ne (by omega)) wf_RX2_31 dX2_readOrder_148 rfl ?_
        refine aw_iconst (q := 152) dX2_readOrder_151 rfl ?_
        refine ae_iadd (q := 153) ((G 7 6) + 1) (by omega) dX2_readOrder_152 rfl ?_
        refine p_text_at (q := 156) wf_RX2_31 dX2_readOrder_153 rfl ?_
        show AW l RX2 "readOrder" cX2_readOrder 1 (some .boolean) (fun _ => True) { frames := 3, cells := 0, slots := 0, locals := 66 } (hvE D (RI ad C (fun r G1 => r = roV G ∧ G1 = roG G)) (cw ad C G) 0 0) D (tyC C) (hvZ T (cw ad C G)) (cw ad C G) 156 [(0, .ref (ad 104))] [] (cw ad C ((roA G))) 0 0
        have ta21 := ((okT_roA o (by omega))).1
        have tb21 := ((okT_roA o (by omega))).2.1
        have tc21 := ((okT_roA o (by omega))).2.2.1
        have td21 := bA_r (okT_roA o (by omega)) ((roA G) 7 6)
        refine aw_aload_n (q := 157) 0 dX2_readOrder_156 rfl rfl rfl ?_
        refine aw_aload_n (q := 158) 0 dX2_readOrder_157 rfl rfl rfl ?_
        refine aw_iconst (q := 159) dX2_readOrder_158 rfl ?_
        refine cv_I (q := 162) (CC := "") (id := 104) (As := [.int (iI 3)]) 1 (c_t_readDigit (T := T) (D := D) (ad := ad) (roA G) (okT_roA o (by omega)) (by omega)) (fun _ h => h) (by omega) (cell_104 ad C _) rfl wc_X2_readDigit wm_RX2_48 wi_X2_readDigit ws_X2_readDigit wn_X2 (by decide) rfl ⟨Nat.le_of_ble_eq_true rfl, Nat.le_of_ble_eq_true rfl⟩ ⟨Nat.le_of_ble_eq_true rfl, Nat.le_of_ble_eq_true rfl⟩ (Nat.le_of_ble_eq_true rfl) dX2_readOrder_159 rfl (fun r9 G9 h9 => ?_)
        rw [h9.1, h9.2]
        have := dgV_r (G := (roA G)) (show (0 : Int) ≤ 3 by omega)
        have ta22 := ((okT_dg (okT_roA o (by omega)) 3)).1
        have tb22 := ((okT_dg (okT_roA o (by omega)) 3)).2.1
        have tc22 := ((okT_dg (okT_roA o (by omega)) 3)).2.2.1
        have td22 := bA_r (okT_dg (okT_roA o (by omega)) 3) ((dgG (roA G) 3) 7 6)
        refine p_text_place (q := 165) wf_RX2_22 dX2_readOrder_162 rfl ?_
        show AW l RX2 "readOrder" cX2_readOrder 1 (some .boolean) (fun _ => True) { frames := 3, cells := 0, slots := 0, locals := 66 } (hvE D (RI ad C (fun r G1 => r = roV G ∧ G1 = roG G)) (cw ad C G) 0 0) D (tyC C) (hvZ T (cw ad C G)) (cw ad C G) 165 [(0, .ref (ad 104))] [] (cw ad C ((roB G 3))) 0 0
        have ta23 := ((okT_roB o (by omega) 3)).1
        have tb23 := ((okT_roB o (by omega) 3)).2.1
        have tc23 := ((okT_roB o (by omega) 3)).2.2.1
        have td23 := bA_r (okT_roB o (by omega) 3) ((roB G 3) 7 6)
        refine aw_aload_n (q := 166) 0 dX2_readOrder_165 rfl rfl rfl ?_
        refine aw_bipush (q := 168) dX2_readOrder_166 rfl (by decide) ?_
        refine cv_V (q := 171) (CC := "") (id := 104) (As := [.int (iI 120)]) 1 (c_t_readSign (T := T) (D := D) (ad := ad) (roB G 3) (okT_roB o (by omega) 3) (by omega)) (fun _ h => h) (by omega) (cell_104 ad C _) rfl wc_X2_readSign wm_RX2_51 wi_X2_readSign ws_X2_readSign wn_X2 (by decide) rfl ⟨Nat.le_of_ble_eq_true rfl, Nat.le_of_ble_eq_true rfl⟩ ⟨Nat.le_of_ble_eq_true rfl, Nat.le_of_ble_eq_true rfl⟩ (Nat.le_of_ble_eq_true rfl) dX2_readOrder_168 rfl (fun G9 h9 => ?_)
        rw [h9]
        have ta24 := ((okT_sg (okT_roB o (by omega) 3) (s := 120) (by omega))).1
        have tb24 := ((okT_sg (okT_roB o (by omega) 3) (s := 120) (by omega))).2.1
        have tc24 := ((okT_sg (okT_roB o (by omega) 3) (s := 120) (by omega))).2.2.1
        have td24 := bA_r (okT_sg (okT_roB o (by omega) 3) (s := 120) (by omega)) ((sgG (roB G 3) 120) 7 6)
        refine aw_aload_n (q := 172) 0 dX2_readOrder_171 rfl rfl rfl ?_
        refine aw_aload_n (q := 173) 0 dX2_readOrder_172 rfl rfl rfl ?_
        refine aw_bipush (q := 175) dX2_readOrder_173 rfl (by decide) ?_
        refine cv_I (q := 178) (CC := "") (id := 104) (As := [.int (iI 30)]) 1 (c_t_readNumber (T := T) (D := D) (ad := ad) (sgG (roB G 3) 120) (okT_sg (okT_roB o (by omega) 3) (s := 120) (by omega)) (by omega)) (fun _ h => h) (by omega) (cell_104 ad C _) rfl wc_X2_readNumber wm_RX2_55 wi_X2_readNumber ws_X2_readNumber wn_X2 (by decide) rfl ⟨Nat.le_of_ble_eq_true rfl, Nat.le_of_ble_eq_true rfl⟩ ⟨Nat.le_of_ble_eq_true rfl, Nat.le_of_ble_eq_true rfl⟩ (Nat.le_of_ble_eq_true rfl) dX2_readOrder_175 rfl (fun r9 G9 h9 => ?_)
        rw [h9.1, h9.2]
        have := nuV_r (sgG (roB G 3) 120)
        have ta25 := ((okT_nu (okT_sg (okT_roB o (by omega) 3) (s := 120) (by omega)) 30)).1
        have tb25 := ((okT_nu (okT_sg (okT_roB o (by omega) 3) (s := 120) (by omega)) 30)).2.1
        have tc25 := ((okT_nu (okT_sg (okT_roB o (by omega) 3) (s := 120) (by omega)) 30)).2.2.1
        have td25 := bA_r (okT_nu (okT_sg (okT_roB o (by omega) 3) (s := 120) (by omega)) 30) ((nuG (sgG (roB G 3) 120) 30) 7 6)
        refine p_text_number (q := 181) wf_RX2_25 dX2_readOrder_178 rfl ?_
        refine aw_goto (q := 215) dX2_readOrder_181 (by decide) ?_
        show AW l RX2 "readOrder" cX2_readOrder 1 (some .boolean) (fun _ => True) { frames := 3, cells := 0, slots := 0, locals := 66 } (hvE D (RI ad C (fun r G1 => r = roV G ∧ G1 = roG G)) (cw ad C G) 0 0) D (tyC C) (hvZ T (cw ad C G)) (cw ad C G) 215 [(0, .ref (ad 104))] [] (cw ad C ((roS G 3 30))) 0 0
        have ta26 := ((okT_roS o (by omega) 3 30)).1
        have tb26 := ((okT_roS o (by omega) 3 30)).2.1
        have tc26 := ((okT_roS o (by omega) 3 30)).2.2.1
        have td26 := bA_r (okT_roS o (by omega) 3 30) ((roS G 3 30) 7 6)
        refine aw_aload_n (q := 216) 0 dX2_readOrder_215 rfl rfl rfl ?_
        refine aw_bipush (q := 218) dX2_readOrder_216 rfl (by decide) ?_
        refine cv_V (q := 221) (CC := "") (id := 104) (As := [.int (iI 59)]) 1 (c_t_readSign (T := T) (D := D) (ad := ad) (roS G 3 30) (okT_roS o (by omega) 3 30) (by omega)) (fun _ h => h) (by omega) (cell_104 ad C _) rfl wc_X2_readSign wm_RX2_51 wi_X2_readSign ws_X2_readSign wn_X2 (by decide) rfl ⟨Nat.le_of_ble_eq_true rfl, Nat.le_of_ble_eq_true rfl⟩ ⟨Nat.le_of_ble_eq_true rfl, Nat.le_of_ble_eq_true rfl⟩ (Nat.le_of_ble_eq_true rfl) dX2_readOrder_218 rfl (fun G9 h9 => ?_)
        rw [h9]
        have ta27 := ((okT_sg (okT_roS o (by omega) 3 30) (s := 59) (by omega))).1
        have tb27 := ((okT_sg (okT_roS o (by omega) 3 30) (s := 59) (by omega))).2.1
        have tc27 := ((okT_sg (okT_roS o (by omega) 3 30) (s := 59) (by omega))).2.2.1
        have td27 := bA_r (okT_sg (okT_roS o (by omega) 3 30) (s := 59) (by omega)) ((sgG (roS G 3 30) 59) 7 6)
        refine aw_aload_n (q := 222) 0 dX2_readOrder_221 rfl rfl rfl ?_
        refine g_text_error (q := 225) (v := ((sgG (roS G 3 30) 59) 7 7)) rfl wf_RX2_34 dX2_readOrder_222 rfl ?_
        refine aw_iconst (q := 226) dX2_readOrder_225 rfl ?_
        refine aw_icmp_ne (q := 229) dX2_readOrder_226 rfl (t := 233) (by decide) (by omega) (by omega) (fun h12 => ?_) (fun h13 => ?_)
        · refine aw_iconst (q := 234) dX2_readOrder_233 rfl ?_
          exact rt_z rfl (by first | omega | exact b2i_r _) (Nat.le_refl _) (Nat.le_refl _) (by
                have hp : G 7 6 < G 7 1 ∧ G 7 7 = -1 := ⟨by omega, by omega⟩
                have hd : roD G = (roS G 3 30) := by
                  unfold roD
                  first | exact if_pos (by omega) | (rw [if_neg (by omega)]; first | exact if_pos (by omega) | (rw [if_neg (by omega)]; first | exact if_pos (by omega) | (rw [if_neg (by omega)]; first | exact if_pos (by omega) | exact if_neg (by omega))))
                have hg : roG G = sgG ((roS G 3 30)) 59 := by unfold roG; rw [if_pos hp, hd]
                refine ⟨?_, hg.symm⟩
                unfold roV
                rw [if_pos hp, hg]
                first | exact (b2i_t (by omega)).symm | exact (b2i_f (by omega)).symm) dX2_readOrder_234
        · refine aw_iconst (q := 230) dX2_readOrder_229 rfl ?_
          refine aw_goto (q := 234) dX2_readOrder_230 (by decide) ?_
          exact rt_z rfl (by first | omega | exact b2i_r _) (Nat.le_refl _) (Nat.le_refl _) (by
                have hp : G 7 6 < G 7 1 ∧ G 7 7 = -1 := ⟨by omega, by omega⟩
                have hd : roD G = (roS G 3 30) := by
                  unfold roD
                  first | exact if_pos (by omega) | (rw [if_neg (by omega)]; first | exact if_pos (by omega) | (rw [if_neg (by omega)]; first | exact if_pos (by omega) | (rw [if_neg (by omega)]; first | exact if_pos (by omega) | exact if_neg (by omega))))
                have hg : roG G = sgG ((roS G 3 30)) 59 := by unfold roG; rw [if_pos hp, hd]
                refine ⟨?_, hg.symm⟩
                unfold roV
                rw [if_pos hp, hg]
                first | exact (b2i_t (by omega)).symm | exact (b2i_f (by omega)).symm) dX2_readOrder_234
      · refine aw_aload_n (q := 185) 0 dX2_readOrder_184 rfl rfl rfl ?_
        refine aw_dup (q := 186) dX2_readOrder_185 rfl rfl ?_
        refine g_text_at (q := 189) (v := (G 7 6)) (setG_ne (by omega)) wf_RX2_31 dX2_readOrder_186 rfl ?_
        refine aw_iconst (q := 190) dX2_readOrder_189 rfl ?_
        refine ae_iadd (q := 191) ((G 7 6) + 1) (by omega) dX2_readOrder_190 rfl ?_
        refine p_text_at (q := 194) wf_RX2_31 dX2_readOrder_191 rfl ?_
        show AW l RX2 "readOrder" cX2_readOrder 1 (some .boolean) (fun _ => True) { frames := 3, cells := 0, slots := 0, locals := 66 } (hvE D (RI ad C (fun r G1 => r = roV G ∧ G1 = roG G)) (cw ad C G) 0 0) D (tyC C) (hvZ T (cw ad C G)) (cw ad C G) 194 [(0, .ref (ad 104))] [] (cw ad C ((roA G))) 0 0
        have ta28 := ((okT_roA o (by omega))).1
        have tb28 := ((okT_roA o (by omega))).2.1
        have tc28 := ((okT_roA o (by omega))).2.2.1
        have td28 := bA_r (okT_roA o (by omega)) ((roA G) 7 6)
        refine aw_aload_n (q := 195) 0 dX2_readOrder_194 rfl rfl rfl ?_
        refine aw_aload_n (q := 196) 0 dX2_readOrder_195 rfl rfl rfl ?_
        refine aw_bipush (q := 198) dX2_readOrder_196 rfl (by decide) ?_
        refine cv_I (q := 201) (CC := "") (id := 104) (As := [.int (iI 48)]) 1 (c_t_readNumber (T := T) (D := D) (ad := ad) (roA G) (okT_roA o (by omega)) (by omega)) (fun _ h => h) (by omega) (cell_104 ad C _) rfl wc_X2_readNumber wm_RX2_55 wi_X2_readNumber ws_X2_readNumber wn_X2 (by decide) rfl ⟨Nat.le_of_ble_eq_true rfl, Nat.le_of_ble_eq_true rfl⟩ ⟨Nat.le_of_ble_eq_true rfl, Nat.le_of_ble_eq_true rfl⟩ (Nat.le_of_ble_eq_true rfl) dX2_readOrder_198 rfl (fun r9 G9 h9 => ?_)
        rw [h9.1, h9.2]
        have := nuV_r (roA G)
        have ta29 := ((okT_nu (okT_roA o (by omega)) 48)).1
        have tb29 := ((okT_nu (okT_roA o (by omega)) 48)).2.1
        have tc29 := ((okT_nu (okT_roA o (by omega)) 48)).2.2.1
        have td29 := bA_r (okT_nu (okT_roA o (by omega)) 48) ((nuG (roA G) 48) 7 6)
        refine p_text_number (q := 204) wf_RX2_25 dX2_readOrder_201 rfl ?_
        refine aw_goto (q := 215) dX2_readOrder_204 (by decide) ?_
        show AW l RX2 "readOrder" cX2_readOrder 1 (some .boolean) (fun _ => True) { frames := 3, cells := 0, slots := 0, locals := 66 } (hvE D (RI ad C (fun r G1 => r = roV G ∧ G1 = roG G)) (cw ad C G) 0 0) D (tyC C) (hvZ T (cw ad C G)) (cw ad C G) 215 [(0, .ref (ad 104))] [] (cw ad C ((roH G))) 0 0
        have ta30 := ((okT_roH o (by omega))).1
        have tb30 := ((okT_roH o (by omega))).2.1
        have tc30 := ((okT_roH o (by omega))).2.2.1
        have td30 := bA_r (okT_roH o (by omega)) ((roH G) 7 6)
        refine aw_aload_n (q := 216) 0 dX2_readOrder_215 rfl rfl rfl ?_
        refine aw_bipush (q := 218) dX2_readOrder_216 rfl (by decide) ?_
        refine cv_V (q := 221) (CC := "") (id := 104) (As := [.int (iI 59)]) 1 (c_t_readSign (T := T) (D := D) (ad := ad) (roH G) (okT_roH o (by omega)) (by omega)) (fun _ h => h) (by omega) (cell_104 ad C _) rfl wc_X2_readSign wm_RX2_51 wi_X2_readSign ws_X2_readSign wn_X2 (by decide) rfl ⟨Nat.le_of_ble_eq_true rfl, Nat.le_of_ble_eq_true rfl⟩ ⟨Nat.le_of_ble_eq_true rfl, Nat.le_of_ble_eq_true rfl⟩ (Nat.le_of_ble_eq_true rfl) dX2_readOrder_218 rfl (fun G9 h9 => ?_)
        rw [h9]
        have ta31 := ((okT_sg (okT_roH o (by omega)) (s := 59) (by omega))).1
        have tb31 := ((okT_sg (okT_roH o (by omega)) (s := 59) (by omega))).2.1
        have tc31 := ((okT_sg (okT_roH o (by omega)) (s := 59) (by omega))).2.2.1
        have td31 := bA_r (okT_sg (okT_roH o (by omega)) (s := 59) (by omega)) ((sgG (roH G) 59) 7 6)
        refine aw_aload_n (q := 222) 0 dX2_readOrder_221 rfl rfl rfl ?_
        refine g_text_error (q := 225) (v := ((sgG (roH G) 59) 7 7)) rfl wf_RX2_34 dX2_readOrder_222 rfl ?_
        refine aw_iconst (q := 226) dX2_readOrder_225 rfl ?_
        refine aw_icmp_ne (q := 229) dX2_readOrder_226 rfl (t := 233) (by decide) (by omega) (by omega) (fun h14 => ?_) (fun h15 => ?_)
        · refine aw_iconst (q := 234) dX2_readOrder_233 rfl ?_
          exact rt_z rfl (by first | omega | exact b2i_r _) (Nat.le_refl _) (Nat.le_refl _) (by
                have hp : G 7 6 < G 7 1 ∧ G 7 7 = -1 := ⟨by omega, by omega⟩
                have hd : roD G = (roH G) := by
                  unfold roD
                  first | exact if_pos (by omega) | (rw [if_neg (by omega)]; first | exact if_pos (by omega) | (rw [if_neg (by omega)]; first | exact if_pos (by omega) | (rw [if_neg (by omega)]; first | exact if_pos (by omega) | exact if_neg (by omega))))
                have hg : roG G = sgG ((roH G)) 59 := by unfold roG; rw [if_pos hp, hd]
                refine ⟨?_, hg.symm⟩
                unfold roV
                rw [if_pos hp, hg]
                first | exact (b2i_t (by omega)).symm | exact (b2i_f (by omega)).symm) dX2_readOrder_234
        · refine aw_iconst (q := 230) dX2_readOrder_229 rfl ?_
          refine aw_goto (q := 234) dX2_readOrder_230 (by decide) ?_
          exact rt_z rfl (by first | omega | exact b2i_r _) (Nat.le_refl _) (Nat.le_refl _) (by
                have hp : G 7 6 < G 7 1 ∧ G 7 7 = -1 := ⟨by omega, by omega⟩
                have hd : roD G = (roH G) := by
                  unfold roD
                  first | exact if_pos (by omega) | (rw [if_neg (by omega)]; first | exact if_pos (by omega) | (rw [if_neg (by omega)]; first | exact if_pos (by omega) | (rw [if_neg (by omega)]; first | exact if_pos (by omega) | exact if_neg (by omega))))
                have hg : roG G = sgG ((roH G)) 59 := by unfold roG; rw [if_pos hp, hd]
                refine ⟨?_, hg.symm⟩
                unfold roV
                rw [if_pos hp, hg]
                first | exact (b2i_t (by omega)).symm | exact (b2i_f (by omega)).symm) dX2_readOrder_234
      · refine aw_aload_n (q := 81) 0 dX2_readOrder_80 rfl rfl rfl ?_
        refine aw_dup (q := 82) dX2_readOrder_81 rfl rfl ?_
        refine g_text_at (q := 85) (v := (G 7 6)) (setG_ne (by omega)) wf_RX2_31 dX2_readOrder_82 rfl ?_
        refine aw_iconst (q := 86) dX2_readOrder_85 rfl ?_
        refine ae_iadd (q := 87) ((G 7 6) + 1) (by omega) dX2_readOrder_86 rfl ?_
        refine p_text_at (q := 90) wf_RX2_31 dX2_readOrder_87 rfl ?_
        show AW l RX2 "readOrder" cX2_readOrder 1 (some .boolean) (fun _ => True) { frames := 3, cells := 0, slots := 0, locals := 66 } (hvE D (RI ad C (fun r G1 => r = roV G ∧ G1 = roG G)) (cw ad C G) 0 0) D (tyC C) (hvZ T (cw ad C G)) (cw ad C G) 90 [(0, .ref (ad 104))] [] (cw ad C ((roA G))) 0 0
        have ta32 := ((okT_roA o (by omega))).1
        have tb32 := ((okT_roA o (by omega))).2.1
        have tc32 := ((okT_roA o (by omega))).2.2.1
        have td32 := bA_r (okT_roA o (by omega)) ((roA G) 7 6)
        refine aw_aload_n (q := 91) 0 dX2_readOrder_90 rfl rfl rfl ?_
        refine aw_aload_n (q := 92) 0 dX2_readOrder_91 rfl rfl rfl ?_
        refine aw_bipush (q := 94) dX2_readOrder_92 rfl (by decide) ?_
        refine cv_I (q := 97) (CC := "") (id := 104) (As := [.int (iI 7)]) 1 (c_t_readDigit (T := T) (D := D) (ad := ad) (roA G) (okT_roA o (by omega)) (by omega)) (fun _ h => h) (by omega) (cell_104 ad C _) rfl wc_X2_readDigit wm_RX2_48 wi_X2_readDigit ws_X2_readDigit wn_X2 (by decide) rfl ⟨Nat.le_of_ble_eq_true rfl, Nat.le_of_ble_eq_true rfl⟩ ⟨Nat.le_of_ble_eq_true rfl, Nat.le_of_ble_eq_true rfl⟩ (Nat.le_of_ble_eq_true rfl) dX2_readOrder_94 rfl (fun r9 G9 h9 => ?_)
        rw [h9.1, h9.2]
        have := dgV_r (G := (roA G)) (show (0 : Int) ≤ 7 by omega)
        have ta33 := ((okT_dg (okT_roA o (by omega)) 7)).1
        have tb33 := ((okT_dg (okT_roA o (by omega)) 7)).2.1
        have tc33 := ((okT_dg (okT_roA o (by omega)) 7)).2.2.1
        have td33 := bA_r (okT_dg (okT_roA o (by omega)) 7) ((dgG (roA G) 7) 7 6)
        refine p_text_place (q := 100) wf_RX2_22 dX2_readOrder_97 rfl ?_
        show AW l RX2 "readOrder" cX2_readOrder 1 (some .boolean) (fun _ => True) { frames := 3, cells := 0, slots := 0, locals := 66 } (hvE D (RI ad C (fun r G1 => r = roV G ∧ G1 = roG G)) (cw ad C G) 0 0) D (tyC C) (hvZ T (cw ad C G)) (cw ad C G) 100 [(0, .ref (ad 104))] [] (cw ad C ((roB G 7))) 0 0
        have ta34 := ((okT_roB o (by omega) 7)).1
        have tb34 := ((okT_roB o (by omega) 7)).2.1
        have tc34 := ((okT_roB o (by omega) 7)).2.2.1
        have td34 := bA_r (okT_roB o (by omega) 7) ((roB G 7) 7 6)
        refine aw_aload_n (q := 101) 0 dX2_readOrder_100 rfl rfl rfl ?_
        refine aw_bipush (q := 103) dX2_readOrder_101 rfl (by decide) ?_
        refine cv_V (q := 106) (CC := "") (id := 104) (As := [.int (iI 120)]) 1 (c_t_readSign (T := T) (D := D) (ad := ad) (roB G 7) (okT_roB o (by omega) 7) (by omega)) (fun _ h => h) (by omega) (cell_104 ad C _) rfl wc_X2_readSign wm_RX2_51 wi_X2_readSign ws_X2_readSign wn_X2 (by decide) rfl ⟨Nat.le_of_ble_eq_true rfl, Nat.le_of_ble_eq_true rfl⟩ ⟨Nat.le_of_ble_eq_true rfl, Nat.le_of_ble_eq_true rfl⟩ (Nat.le_of_ble_eq_true rfl) dX2_readOrder_103 rfl (fun G9 h9 => ?_)
        rw [h9]
        have ta35 := ((okT_sg (okT_roB o (by omega) 7) (s := 120) (by omega))).1
        have tb35 := ((okT_sg (okT_roB o (by omega) 7) (s := 120) (by omega))).2.1
        have tc35 := ((okT_sg (okT_roB o (by omega) 7) (s := 120) (by omega))).2.2.1
        have td35 := bA_r (okT_sg (okT_roB o (by omega) 7) (s := 120) (by omega)) ((sgG (roB G 7) 120) 7 6)
        refine aw_aload_n (q := 107) 0 dX2_readOrder_106 rfl rfl rfl ?_
        refine aw_aload_n (q := 108) 0 dX2_readOrder_107 rfl rfl rfl ?_
        refine aw_bipush (q := 110) dX2_readOrder_108 rfl (by decide) ?_
        refine cv_I (q := 113) (CC := "") (id := 104) (As := [.int (iI 20)]) 1 (c_t_readNumber (T := T) (D := D) (ad := ad) (sgG (roB G 7) 120) (okT_sg (okT_roB o (by omega) 7) (s := 120) (by omega)) (by omega)) (fun _ h => h) (by omega) (cell_104 ad C _) rfl wc_X2_readNumber wm_RX2_55 wi_X2_readNumber ws_X2_readNumber wn_X2 (by decide) rfl ⟨Nat.le_of_ble_eq_true rfl, Nat.le_of_ble_eq_true rfl⟩ ⟨Nat.le_of_ble_eq_true rfl, Nat.le_of_ble_eq_true rfl⟩ (Nat.le_of_ble_eq_true rfl) dX2_readOrder_110 rfl (fun r9 G9 h9 => ?_)
        rw [h9.1, h9.2]
        have := nuV_r (sgG (roB G 7) 120)
        have ta36 := ((okT_nu (okT_sg (okT_roB o (by omega) 7) (s := 120) (by omega)) 20)).1
        have tb36 := ((okT_nu (okT_sg (okT_roB o (by omega) 7) (s := 120) (by omega)) 20)).2.1
        have tc36 := ((okT_nu (okT_sg (okT_roB o (by omega) 7) (s := 120) (by omega)) 20)).2.2.1
        have td36 := bA_r (okT_nu (okT_sg (okT_roB o (by omega) 7) (s := 120) (by omega)) 20) ((nuG (sgG (roB G 7) 120) 20) 7 6)
        refine p_text_number (q := 116) wf_RX2_25 dX2_readOrder_113 rfl ?_
        refine aw_goto (q := 215) dX2_readOrder_116 (by decide) ?_
        show AW l RX2 "readOrder" cX2_readOrder 1 (some .boolean) (fun _ => True) { frames := 3, cells := 0, slots := 0, locals := 66 } (hvE D (RI ad C (fun r G1 => r = roV G ∧ G1 = roG G)) (cw ad C G) 0 0) D (tyC C) (hvZ T (cw ad C G)) (cw ad C G) 215 [(0, .ref (ad 104))] [] (cw ad C ((roS G 7 20))) 0 0
        have ta37 := ((okT_roS o (by omega) 7 20)).1
        have tb37 := ((okT_roS o (by omega) 7 20)).2.1
        have tc37 := ((okT_roS o (by omega) 7 20)).2.2.1
        have td37 := bA_r (okT_roS o (by omega) 7 20) ((roS G 7 20) 7 6)
        refine aw_aload_n (q := 216) 0 dX2_readOrder_215 rfl rfl rfl ?_
        refine aw_bipush (q := 218) dX2_readOrder_216 rfl (by decide) ?_
        refine cv_V (q := 221) (CC := "") (id := 104) (As := [.int (iI 59)]) 1 (c_t_readSign (T := T) (D := D) (ad := ad) (roS G 7 20) (okT_roS o (by omega) 7 20) (by omega)) (fun _ h => h) (by omega) (cell_104 ad C _) rfl wc_X2_readSign wm_RX2_51 wi_X2_readSign ws_X2_readSign wn_X2 (by decide) rfl ⟨Nat.le_of_ble_eq_true rfl, Nat.le_of_ble_eq_true rfl⟩ ⟨Nat.le_of_ble_eq_true rfl, Nat.le_of_ble_eq_true rfl⟩ (Nat.le_of_ble_eq_true rfl) dX2_readOrder_218 rfl (fun G9 h9 => ?_)
        rw [h9]
        have ta38 := ((okT_sg (okT_roS o (by omega) 7 20) (s := 59) (by omega))).1
        have tb38 := ((okT_sg (okT_roS o (by omega) 7 20) (s := 59) (by omega))).2.1
        have tc38 := ((okT_sg (okT_roS o (by omega) 7 20) (s := 59) (by omega))).2.2.1
        have td38 := bA_r (okT_sg (okT_roS o (by omega) 7 20) (s := 59) (by omega)) ((sgG (roS G 7 20) 59) 7 6)
        refine aw_aload_n (q := 222) 0 dX2_readOrder_221 rfl rfl rfl ?_
        refine g_text_error (q := 225) (v := ((sgG (roS G 7 20) 59) 7 7)) rfl wf_RX2_34 dX2_readOrder_222 rfl ?_
        refine aw_iconst (q := 226) dX2_readOrder_225 rfl ?_
        refine aw_icmp_ne (q := 229) dX2_readOrder_226 rfl (t := 233) (by decide) (by omega) (by omega) (fun h16 => ?_) (fun h17 => ?_)
        · refine aw_iconst (q := 234) dX2_readOrder_233 rfl ?_
          exact rt_z rfl (by first | omega | exact b2i_r _) (Nat.le_refl _) (Nat.le_refl _) (by
                have hp : G 7 6 < G 7 1 ∧ G 7 7 = -1 := ⟨by omega, by omega⟩
                have hd : roD G = (roS G 7 20) := by
                  unfold roD
                  first | exact if_pos (by omega) | (rw [if_neg (by omega)]; first | exact if_pos (by omega) | (rw [if_neg (by omega)]; first | exact if_pos (by omega) | (rw [if_neg (by omega)]; first | exact if_pos (by omega) | exact if_neg (by omega))))
                have hg : roG G = sgG ((roS G 7 20)) 59 := by unfold roG; rw [if_pos hp, hd]
                refine ⟨?_, hg.symm⟩
                unfold roV
                rw [if_pos hp, hg]
                first | exact (b2i_t (by omega)).symm | exact (b2i_f (by omega)).symm) dX2_readOrder_234
        · refine aw_iconst (q := 230) dX2_readOrder_229 rfl ?_
          refine aw_goto (q := 234) dX2_readOrder_230 (by decide) ?_
          exact rt_z rfl (by first | omega | exact b2i_r _) (Nat.le_refl _) (Nat.le_refl _) (by
                have hp : G 7 6 < G 7 1 ∧ G 7 7 = -1 := ⟨by omega, by omega⟩
                have hd : roD G = (roS G 7 20) := by
                  unfold roD
                  first | exact if_pos (by omega) | (rw [if_neg (by omega)]; first | exact if_pos (by omega) | (rw [if_neg (by omega)]; first | exact if_pos (by omega) | (rw [if_neg (by omega)]; first | exact if_pos (by omega) | exact if_neg (by omega))))
                have hg : roG G = sgG ((roS G 7 20)) 59 := by unfold roG; rw [if_pos hp, hd]
                refine ⟨?_, hg.symm⟩
                unfold roV
                rw [if_pos hp, hg]
                first | exact (b2i_t (by omega)).symm | exact (b2i_f (by omega)).symm) dX2_readOrder_234
      · refine aw_aload_n (q := 208) 0 dX2_readOrder_207 rfl rfl rfl ?_
        refine aw_aload_n (q := 209) 0 dX2_readOrder_208 rfl rfl rfl ?_
        refine g_text_at (q := 212) (v := (G 7 6)) (setG_ne (by omega)) wf_RX2_31 dX2_readOrder_209 rfl ?_
        refine p_text_error (q := 215) wf_RX2_34 dX2_readOrder_212 rfl ?_
        show AW l RX2 "readOrder" cX2_readOrder 1 (some .boolean) (fun _ => True) { frames := 3, cells := 0, slots := 0, locals := 66 } (hvE D (RI ad C (fun r G1 => r = roV G ∧ G1 = roG G)) (cw ad C G) 0 0) D (tyC C) (hvZ T (cw ad C G)) (cw ad C G) 215 [(0, .ref (ad 104))] [] (cw ad C ((roE G))) 0 0
        have ta39 := ((okT_roE o)).1
        have tb39 := ((okT_roE o)).2.1
        have tc39 := ((okT_roE o)).2.2.1
        have td39 := bA_r (okT_roE o) ((roE G) 7 6)
        refine aw_aload_n (q := 216) 0 dX2_readOrder_215 rfl rfl rfl ?_
        refine aw_bipush (q := 218) dX2_readOrder_216 rfl (by decide) ?_
        refine cv_V (q := 221) (CC := "") (id := 104) (As := [.int (iI 59)]) 1 (c_t_readSign (T := T) (D := D) (ad := ad) (roE G) (okT_roE o) (by omega)) (fun _ h => h) (by omega) (cell_104 ad C _) rfl wc_X2_readSign wm_RX2_51 wi_X2_readSign ws_X2_readSign wn_X2 (by decide) rfl ⟨Nat.le_of_ble_eq_true rfl, Nat.le_of_ble_eq_true rfl⟩ ⟨Nat.le_of_ble_eq_true rfl, Nat.le_of_ble_eq_true rfl⟩ (Nat.le_of_ble_eq_true rfl) dX2_readOrder_218 rfl (fun G9 h9 => ?_)
        rw [h9]
        have ta40 := ((okT_sg (okT_roE o) (s := 59) (by omega))).1
        have tb40 := ((okT_sg (okT_roE o) (s := 59) (by omega))).2.1
        have tc40 := ((okT_sg (okT_roE o) (s := 59) (by omega))).2.2.1
        have td40 := bA_r (okT_sg (okT_roE o) (s := 59) (by omega)) ((sgG (roE G) 59) 7 6)
        refine aw_aload_n (q := 222) 0 dX2_readOrder_221 rfl rfl rfl ?_
        refine g_text_error (q := 225) (v := ((sgG (roE G) 59) 7 7)) rfl wf_RX2_34 dX2_readOrder_222 rfl ?_
        refine aw_iconst (q := 226) dX2_readOrder_225 rfl ?_
        refine aw_icmp_ne (q := 229) dX2_readOrder_226 rfl (t := 233) (by decide) (by omega) (by omega) (fun h18 => ?_) (fun h19 => ?_)
        · refine aw_iconst (q := 234) dX2_readOrder_233 rfl ?_
          exact rt_z rfl (by first | omega | exact b2i_r _) (Nat.le_refl _) (Nat.le_refl _) (by
                have hp : G 7 6 < G 7 1 ∧ G 7 7 = -1 := ⟨by omega, by omega⟩
                have hd : roD G = (roE G) := by
                  unfold roD
                  first | exact if_pos (by omega) | (rw [if_neg (by omega)]; first | exact if_pos (by omega) | (rw [if_neg (by omega)]; first | exact if_pos (by omega) | (rw [if_neg (by omega)]; first | exact if_pos (by omega) | exact if_neg (by omega))))
                have hg : roG G = sgG ((roE G)) 59 := by unfold roG; rw [if_pos hp, hd]
                refine ⟨?_, hg.symm⟩
                unfold roV
                rw [if_pos hp, hg]
                first | exact (b2i_t (by omega)).symm | exact (b2i_f (by omega)).symm) dX2_readOrder_234
        · refine aw_iconst (q := 230) dX2_readOrder_229 rfl ?_
          refine aw_goto (q := 234) dX2_readOrder_230 (by decide) ?_
          exact rt_z rfl (by first | omega | exact b2i_r _) (Nat.le_refl _) (Nat.le_refl _) (by
                have hp : G 7 6 < G 7 1 ∧ G 7 7 = -1 := ⟨by omega, by omega⟩
                have hd : roD G = (roE G) := by
                  unfold roD
                  first | exact if_pos (by omega) | (rw [if_neg (by omega)]; first | exact if_pos (by omega) | (rw [if_neg (by omega)]; first | exact if_pos (by omega) | (rw [if_neg (by omega)]; first | exact if_pos (by omega) | exact if_neg (by omega))))
                have hg : roG G = sgG ((roE G)) 59 := by unfold roG; rw [if_pos hp, hd]
                refine ⟨?_, hg.symm⟩
                unfold roV
                rw [if_pos hp, hg]
                first | exact (b2i_t (by omega)).symm | exact (b2i_f (by omega)).symm) dX2_readOrder_234
    · refine aw_iconst (q := 20) dX2_readOrder_19 rfl ?_
      exact rt_z rfl (by first | omega | exact b2i_r _) (Nat.le_refl _) (Nat.le_refl _) (⟨(if_neg (by omega)).symm, (if_neg (by omega)).symm⟩) dX2_readOrder_20
def erL : Nat → GG → GG
  | 0, G => G
  | n + 1, G => if G 7 6 < G 7 1 ∧ G 7 7 = -1 then (if roG G 7 7 = -1 then erL n (roG G) else roG G) else G
theorem okT_er : ∀ (n : Nat) {G : GG}, okT G → okT (erL n G)
  | 0, _, o => o
  | n + 1, G, o => by
    unfold erL
    split
    · split
      · exact okT_er n (okT_ro o)
      · exact okT_ro o
    · exact o
theorem okT_stR {G : GG} (o : okT G) : okT (stR G) := okT_err (okT_at o (by omega)) (by omega)
theorem roV_r (G : GG) : 0 ≤ roV G ∧ roV G ≤ 1 := by
  unfold roV
  split
  · exact b2i_b _
  · omega
theorem erL_0 {K : GG} {n : Nat} (h : roV K = 0) : erL (n + 1) K = roG K := by
  unfold roV at h
  show (if K 7 6 < K 7 1 ∧ K 7 7 = -1 then (if roG K 7 7 = -1 then erL n (roG K) else roG K) else K) = roG K
  by_cases hp : K 7 6 < K 7 1 ∧ K 7 7 = -1
  · rw [if_pos hp] at h
    rw [if_pos hp, if_neg (b2i_0.mp h)]
  · rw [if_neg hp]
    unfold roG
    rw [if_neg hp]
theorem erL_1 {K : GG} {n : Nat} (h : roV K ≠ 0) : erL (n + 1) K = erL n (roG K) := by
  unfold roV at h
  show (if K 7 6 < K 7 1 ∧ K 7 7 = -1 then (if roG K 7 7 = -1 then erL n (roG K) else roG K) else K) = erL n (roG K)
  by_cases hp : K 7 6 < K 7 1 ∧ K 7 7 = -1
  · rw [if_pos hp] at h
    rw [if_pos hp, if_pos]
    exact Decidable.byContradiction fun q => h (b2i_0.mpr q)
  · rw [if_neg hp] at h
    exact absurd rfl h
set_option maxHeartbeats 4000000 in
set_option maxRecDepth 100000 in
theorem L_err {l : Launch} {D : va_G} {C : Nat → ClassId} {T : Nat → Nat} {ad : Int → Nat} (G : GG) : ∀ (n : Nat) (c : Int) (K : GG), 0 ≤ c → c ≤ 100 → 100 - c < n → okT K → erL (100 - c).toNat K = erL 100 (stR G) → AW l RX2 "errorPosition" cX2_errorPosition 2 (some .int) (fun _ => True) { frames := 4, cells := 0, slots := 0, locals := 86 } (hvE D (RI ad C (fun r G1 => r = erL 100 (stR G) 7 7 ∧ G1 = erL 100 (stR G))) (cw ad C G) 0 0) D (tyC C) (hvZ T (cw ad C G)) (cw ad C G) 6 [(0, .ref (ad 104)), (1, .int (iI c))] [] (cw ad C K) 0 0 := by
  intro n
  induction n with
  | zero => intro c K hc hd hn oK hE; exact absurd hn (by omega)
  | succ n ih =>
    intro c K hc hd hn oK hE
    have ka := oK.1
    have kb := oK.2.1
    have kc := oK.2.2.1
    refine aw_iload_n (q := 7) 1 dX2_errorPosition_6 rfl rfl rfl ?_
    refine aw_bipush (q := 9) dX2_errorPosition_7 rfl (by decide) ?_
    refine aw_icmp_ge (q := 12) dX2_errorPosition_9 rfl (t := 25) (by decide) (by omega) (by omega) (fun h1 => ?_) (fun h2 => ?_)
    · refine aw_aload_n (q := 26) 0 dX2_errorPosition_25 rfl rfl rfl ?_
      refine g_text_error (q := 29) (v := (K 7 7)) rfl wf_RX2_34 dX2_errorPosition_26 rfl ?_
      exact rt_i rfl (Nat.le_refl _) (Nat.le_refl _) (by rw [show (100 - c).toNat = 0 by omega] at hE; exact ⟨congrFun (congrFun hE 7) 7, hE⟩) dX2_errorPosition_29
    · refine aw_aload_n (q := 13) 0 dX2_errorPosition_12 rfl rfl rfl ?_
      refine cv_I (q := 16) (CC := "") (id := 104) (As := []) 0 (c_t_readOrder (T := T) (D := D) (ad := ad) K oK) (fun _ h => h) (by omega) (cell_104 ad C _) rfl wc_X2_readOrder wm_RX2_40 wi_X2_readOrder ws_X2_readOrder wn_X2 (by decide) rfl ⟨Nat.le_of_ble_eq_true rfl, Nat.le_of_ble_eq_true rfl⟩ ⟨Nat.le_of_ble_eq_true rfl, Nat.le_of_ble_eq_true rfl⟩ (Nat.le_of_ble_eq_true rfl) dX2_errorPosition_13 rfl (fun r9 G9 h9 => ?_)
      rw [h9.1, h9.2]
      have := roV_r K
      have ta41 := ((okT_ro oK)).1
      have tb41 := ((okT_ro oK)).2.1
      have tc41 := ((okT_ro oK)).2.2.1
      have td41 := bA_r (okT_ro oK) ((roG K) 7 6)
      refine aw_if_eq (q := 19) dX2_errorPosition_16 rfl (t := 25) (by decide) (by omega) (fun h3 => ?_) (fun h4 => ?_)
      · refine aw_aload_n (q := 26) 0 dX2_errorPosition_25 rfl rfl rfl ?_
        refine g_text_error (q := 29) (v := ((roG K) 7 7)) rfl wf_RX2_34 dX2_errorPosition_26 rfl ?_
        exact rt_i rfl (Nat.le_refl _) (Nat.le_refl _) (by rw [show (100 - c).toNat = (100 - (c + 1)).toNat + 1 by omega, erL_0 (by omega)] at hE; exact ⟨congrFun (congrFun hE 7) 7, hE⟩) dX2_errorPosition_29
      · refine ae_iinc (q := 22) (lv2 := [(0, .ref (ad 104)), (1, .int (iI (c + 1)))]) 1 [1, 0] (c + 1) (by omega) dX2_errorPosition_19 rfl rfl (by decide) rfl ?_
        refine aw_goto (q := 6) dX2_errorPosition_22 (by decide) ?_
        exact ih (c + 1) (roG K) (by omega) (by omega) (by omega) (okT_ro oK) (by rw [show (100 - c).toNat = (100 - (c + 1)).toNat + 1 by omega, erL_1 (by omega)] at hE; exact hE)
set_option maxHeartbeats 4000000 in
set_option maxRecDepth 100000 in
theorem c_t_errorPosition {l : Launch} {D : va_G} {C : Nat → ClassId} {T : Nat → Nat} {ad : Int → Nat} (G : GG) (o : okT G) : MC l yX2_errorPosition cX2_errorPosition 2 (some .int) 4 86 0 0 D (tyC C) T [.ref (ad 104)] (cw ad C G) (RI ad C (fun r G1 => r = erL 100 (stR G) 7 7 ∧ G1 = erL 100 (stR G))) := by
  refine mc_of (by decide +kernel) (Nat.le_of_ble_eq_true rfl) rfl ?_
  refine aw_aload_n (q := 1) 0 dX2_errorPosition_0 rfl rfl rfl ?_
  refine cv_V (q := 4) (CC := "") (id := 104) (As := []) 0 (c_t_startReading (T := T) (D := D) (ad := ad) G) (fun _ h => h) (by omega) (cell_104 ad C _) rfl wc_X2_startReading wm_RX2_37 wi_X2_startReading ws_X2_startReading wn_X2 (by decide) rfl ⟨Nat.le_of_ble_eq_true rfl, Nat.le_of_ble_eq_true rfl⟩ ⟨Nat.le_of_ble_eq_true rfl, Nat.le_of_ble_eq_true rfl⟩ (Nat.le_of_ble_eq_true rfl) dX2_errorPosition_1 rfl (fun G9 h9 => ?_)
  rw [h9]
  refine aw_iconst (q := 5) dX2_errorPosition_4 rfl ?_
  refine aw_istore_n (q := 6) (lv2 := [(0, .ref (ad 104)), (1, .int (iI 0))]) [1, 0] dX2_errorPosition_5 rfl rfl (by decide) rfl rfl ?_
  exact L_err G 102 0 (stR G) (by omega) (by omega) (by omega) (okT_stR o) rfl
