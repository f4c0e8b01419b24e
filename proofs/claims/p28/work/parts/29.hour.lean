abbrev f1 (g : Row) : Row → Int → Row := fun h c => rSet h c (g 0) (g 1)
abbrev f2 : Row → Int → Row := fun h c => rBan h c
abbrev f3 : Row → Int → Row := fun h c => rWatch h c
abbrev f4 (g : Row) : Row → Int → Row := fun h c => rFade h c (g 2)
def h1R (g : Row) : Row := foldR (f1 g) g (g 13).toNat
def h2R (g : Row) : Row := foldR f2 (h1R g) (g 13).toNat
def h3R (g : Row) : Row := foldR f3 (h2R g) (g 13 - 1).toNat
def h4R (g : Row) : Row := foldR (f4 g) (h3R g) (g 13).toNat
def hourR (g : Row) : Row := up (h4R g) 10 (g 10 + 1)
/-- what stays, and holds, through an hour -/
def hInv (g h : Row) : Prop := (∀ y : Int, (y < 15 ∧ y ≠ 12) ∨ 111 ≤ y → h y = g y) ∧ ∀ d : Int, 0 ≤ d → d < g 13 → okC h d
theorem hInv_1 {g h : Row} (hv : hInv g h) {c : Int} (hc : 0 ≤ c ∧ c < 8) : hInv g (f1 g h c) :=
  ⟨fun y hy => ((rSet_spec h c (g 0) (g 1)).1 y (by omega) (by omega) (by omega)).trans (hv.1 y hy), fun d z0 z1 => okC_set (hv.2 d z0 z1)⟩
theorem rBan_ne {g : Row} {c y : Int} (h : y ≠ 15 + 12 * c + 5) : rBan g c y = g y := by
  unfold rBan
  by_cases z : 0 < g (15 + 12 * c + 5)
  · rw [if_pos z, up_n h]
  · rw [if_neg z]
theorem hInv_2 {g h : Row} (hv : hInv g h) {c : Int} (hc : 0 ≤ c ∧ c < 8) : hInv g (f2 h c) :=
  ⟨fun y hy => (rBan_ne (by omega)).trans (hv.1 y hy), fun d z0 z1 => okC_ban (hv.2 d z0 z1)⟩
theorem rWatch_ne {g : Row} {c y : Int} (hc : 0 ≤ c ∧ c < 7) (h : (y < 15 ∧ y ≠ 12) ∨ 111 ≤ y) : rWatch g c y = g y := by
  unfold rWatch
  by_cases z : g (15 + 12 * c) = g (15 + 12 * (c + 1))
  · rw [if_pos z]
    by_cases z2 : rCom g c = 2
    · rw [if_pos z2, up_n (by omega), up_n (by omega), rFine_ne (by omega) (by omega), rFine_ne (by omega) (by omega), up_n (by omega)]
    · rw [if_neg z2, up_n (by omega)]
  · rw [if_neg z]
theorem hInv_3 {g h : Row} (hs : okS g) (hv : hInv g h) {c : Int} (hc : 0 ≤ c ∧ c < 7) (hn : c < g 13) : hInv g (f3 h c) :=
  ⟨fun y hy => (rWatch_ne hc hy).trans (hv.1 y hy), fun d z0 z1 => okC_watch (by rw [hv.1 4 (by omega)]; have := hs.2.2.2.2; omega) z0 (hv.2 c hc.1 hn) (hv.2 d z0 z1)⟩
theorem hInv_4 {g h : Row} (hs : okS g) (hv : hInv g h) {c : Int} (hc : 0 ≤ c ∧ c < 8) : hInv g (f4 g h c) :=
  ⟨fun y hy => (up_n (by omega)).trans (hv.1 y hy), fun d z0 z1 => okC_fade hs.2.2.1 (hv.2 d z0 z1)⟩
theorem hInv_fold {g g0 : Row} {f : Row → Int → Row} {m : Int} (h0 : hInv g g0) (hf : ∀ h c, hInv g h → 0 ≤ c → c < m → hInv g (f h c)) : ∀ n : Nat, (n : Int) ≤ m → hInv g (foldR f g0 n)
  | 0, _ => h0
  | n + 1, hn => hf _ _ (hInv_fold h0 hf n (by omega)) (by omega) (by omega)
theorem hInv_rf {g : Row} (h : ∀ d : Int, 0 ≤ d → d < g 13 → okC g d) : hInv g g := ⟨fun _ _ => rfl, h⟩
/-- a page whose coils are in order -/
def okH (g : Row) : Prop := okS g ∧ (0 ≤ g 13 ∧ g 13 ≤ 8) ∧ ∀ d : Int, 0 ≤ d → d < g 13 → okC g d
theorem inv1 {g : Row} (o : okH g) : ∀ n : Nat, (n : Int) ≤ g 13 → hInv g (foldR (f1 g) g n) := hInv_fold (hInv_rf o.2.2) (fun h c hv h0 h1 => hInv_1 hv (by have := o.2.1; omega))
theorem inv1' {g : Row} (o : okH g) : hInv g (h1R g) := inv1 o _ (by have := o.2.1; omega)
theorem inv2 {g : Row} (o : okH g) : ∀ n : Nat, (n : Int) ≤ g 13 → hInv g (foldR f2 (h1R g) n) := hInv_fold (inv1' o) (fun h c hv h0 h1 => hInv_2 hv (by have := o.2.1; omega))
theorem inv2' {g : Row} (o : okH g) : hInv g (h2R g) := inv2 o _ (by have := o.2.1; omega)
theorem inv3 {g : Row} (o : okH g) : ∀ n : Nat, (n : Int) ≤ g 13 - 1 → hInv g (foldR f3 (h2R g) n) := hInv_fold (inv2' o) (fun h c hv h0 h1 => hInv_3 o.1 hv (by have := o.2.1; omega) (by omega))
theorem inv3' {g : Row} (o : okH g) : hInv g (h3R g) := by
  by_cases z : 1 ≤ g 13
  · exact inv3 o _ (by omega)
  · unfold h3R
    rw [show (g 13 - 1).toNat = 0 by omega]
    exact inv2' o
theorem inv4 {g : Row} (o : okH g) : ∀ n : Nat, (n : Int) ≤ g 13 → hInv g (foldR (f4 g) (h3R g) n) := hInv_fold (inv3' o) (fun h c hv h0 h1 => hInv_4 o.1 hv (by have := o.2.1; omega))
theorem inv4' {g : Row} (o : okH g) : hInv g (h4R g) := inv4 o _ (by have := o.2.1; omega)
theorem okH_hour {g : Row} (o : okH g) : okH (hourR g) := by
  have h := inv4' o
  have e : ∀ y : Int, y < 10 ∨ y = 13 → hourR g y = g y := fun y hy => (up_n (by omega)).trans (h.1 y (by omega))
  refine ⟨?_, ?_, ?_⟩
  · unfold okS
    rw [e 0 (by omega), e 1 (by omega), e 2 (by omega), e 3 (by omega), e 4 (by omega)]
    exact o.1
  · rw [e 13 (by omega)]; exact o.2.1
  · intro d z0 z1
    rw [e 13 (by omega)] at z1
    exact okC_congr (fun k z2 z3 => up_n (by omega)) (h.2 d z0 z1)
set_option maxHeartbeats 4000000 in
set_option maxRecDepth 100000 in
theorem L_hour4 {l : Launch} {D : va_G} {C : Nat → ClassId} {T : Nat → Nat} {ad : Int → Nat} (G : GG) {i : Int} (hi : 0 ≤ i ∧ i < 6) (o : okH (G i)) : ∀ (n : Nat) (c : Int), 0 ≤ c → c ≤ G i 13 → G i 13 - c < n → AW l RX1 "passHour" cX1_passHour 2 none (fun _ => True) { frames := 3, cells := 0, slots := 0, locals := 79 } (hvE D (RV ad C (fun G1 => G1 = onR G i (hourR (G i)))) (cw ad C G) 0 0) D (tyC C) (hvZ T (cw ad C G)) (cw ad C G) 100 [(0, .ref (ad (17 * i))), (1, .int (iI c))] [] (cw ad C ((onR G i (foldR (f4 (G i)) (h3R (G i)) c.toNat)))) 0 0 := by
  intro n
  induction n with
  | zero => intro c hc hd hn; exact absurd hn (by have := o.2.1; omega)
  | succ n ih =>
    intro c hc hd hn
    have o1 := o.2.1
    have hv := inv4 o c.toNat (by omega)
    refine aw_iload_n (q := 101) 1 dX1_passHour_100 rfl rfl rfl ?_
    refine aw_aload_n (q := 102) 0 dX1_passHour_101 rfl rfl rfl ?_
    refine g_mach_coilCount (q := 105) hi (v := (G i 13)) (((congrFun (onR_at _ _ _) _).trans (hv.1 _ (by omega)))) wf_RX1_28 dX1_passHour_102 rfl ?_
    refine aw_icmp_ge (q := 108) dX1_passHour_105 rfl (t := 129) (by decide) (by omega) (by omega) (fun h1 => ?_) (fun h2 => ?_)
    · refine aw_aload_n (q := 130) 0 dX1_passHour_129 rfl rfl rfl ?_
      refine aw_dup (q := 131) dX1_passHour_130 rfl rfl ?_
      refine g_mach_hour (q := 134) hi (v := (G i 10)) (((congrFun (onR_at _ _ _) _).trans (hv.1 _ (by omega)))) wf_RX1_32 dX1_passHour_131 rfl ?_
      refine aw_iconst (q := 135) dX1_passHour_134 rfl ?_
      refine ae_iadd (q := 136) ((G i 10) + 1) (by omega) dX1_passHour_135 rfl ?_
      refine p_mach_hour (q := 139) hi wf_RX1_32 dX1_passHour_136 rfl ?_
      exact rt_v rfl (Nat.le_refl _) (Nat.le_refl _) (by rw [setG_onR, show c = G i 13 by omega]; rfl) dX1_passHour_139
    · have hc8 : 0 ≤ c ∧ c < 8 := by omega
      have okc := hv.2 c hc (by omega)
      have ok8 := okc.2.2.2.2.2.2.2.1
      refine aw_aload_n (q := 109) 0 dX1_passHour_108 rfl rfl rfl ?_
      refine g_mach_coils (q := 112) hi wf_RX1_11 dX1_passHour_109 rfl ?_
      refine aw_iload_n (q := 113) 1 dX1_passHour_112 rfl rfl rfl ?_
      refine aw_coil (q := 114) hi hc8 dX1_passHour_113 rfl ?_
      refine aw_aload_n (q := 115) 0 dX1_passHour_114 rfl rfl rfl ?_
      refine g_mach_settings (q := 118) hi wf_RX1_17 dX1_passHour_115 rfl ?_
      refine aw_iconst (q := 119) dX1_passHour_118 rfl ?_
      refine aw_cial (q := 120) (v := (G i 2)) 2 (ar_sets ad C hi) (by omega) (by omega) (((congrFun (onR_at _ _ _) _).trans (hv.1 _ (by omega)))) dX1_passHour_119 rfl ?_
      refine cv_V (q := 123) (CC := "") (id := 17 * i + 9 + c) (As := [.int (iI (G i 2))]) 1 ((by have := c_coil_fade (l := l) (T := T) (D := D) (C := C) (ad := ad) (onR G i (foldR (f4 (G i)) (h3R (G i)) c.toNat)) hi hc8 (p := G i 2) (by rw [onR_at]; exact (fw_fade ok8 o.1.2.2.1).1) (by rw [onR_at]; exact (fw_fade ok8 o.1.2.2.1).2.1); rw [coilFade_row, onR_at, onR_onR] at this; exact this)) (fun _ h => h) (by omega) (cell_coil ad C _ hi hc8) rfl wc_X0_fade wm_RX1_117 wi_X0_fade ws_X0_fade wn_X0 (by decide) rfl ⟨Nat.le_of_ble_eq_true rfl, Nat.le_of_ble_eq_true rfl⟩ ⟨Nat.le_of_ble_eq_true rfl, Nat.le_of_ble_eq_true rfl⟩ (Nat.le_of_ble_eq_true rfl) dX1_passHour_120 rfl (fun G9 h9 => ?_)
      rw [h9]
      refine ae_iinc (q := 126) (lv2 := [(0, .ref (ad (17 * i))), (1, .int (iI (c + 1)))]) 1 [1, 0] (c + 1) (by omega) dX1_passHour_123 rfl rfl (by decide) rfl ?_
      refine aw_goto (q := 100) dX1_passHour_126 (by decide) ?_
      have hi9 := ih (c + 1) (by omega) (by omega) (by omega)
      rw [foldR_succ _ _ hc] at hi9
      exact hi9
set_option maxHeartbeats 4000000 in
set_option maxRecDepth 100000 in
theorem L_hour3 {l : Launch} {D : va_G} {C : Nat → ClassId} {T : Nat → Nat} {ad : Int → Nat} (G : GG) {i : Int} (hi : 0 ≤ i ∧ i < 6) (o : okH (G i)) : ∀ (n : Nat) (c : Int), 0 ≤ c → (c ≤ G i 13 - 1 ∨ c = 0) → G i 13 - c < n → AW l RX1 "passHour" cX1_passHour 2 none (fun _ => True) { frames := 3, cells := 0, slots := 0, locals := 79 } (hvE D (RV ad C (fun G1 => G1 = onR G i (hourR (G i)))) (cw ad C G) 0 0) D (tyC C) (hvZ T (cw ad C G)) (cw ad C G) 64 [(0, .ref (ad (17 * i))), (1, .int (iI c))] [] (cw ad C ((onR G i (foldR f3 (h2R (G i)) c.toNat)))) 0 0 := by
  intro n
  induction n with
  | zero => intro c hc hd hn; exact absurd hn (by have := o.2.1; omega)
  | succ n ih =>
    intro c hc hd hn
    have o1 := o.2.1
    have hv : hInv (G i) (foldR f3 (h2R (G i)) c.toNat) := by
      by_cases z : c = 0
      · subst z; exact inv2' o
      · exact inv3 o c.toNat (by omega)
    refine aw_iload_n (q := 65) 1 dX1_passHour_64 rfl rfl rfl ?_
    refine aw_iconst (q := 66) dX1_passHour_65 rfl ?_
    refine ae_iadd (q := 67) (c + 1) (by omega) dX1_passHour_66 rfl ?_
    refine aw_aload_n (q := 68) 0 dX1_passHour_67 rfl rfl rfl ?_
    refine g_mach_coilCount (q := 71) hi (v := (G i 13)) (((congrFun (onR_at _ _ _) _).trans (hv.1 _ (by omega)))) wf_RX1_28 dX1_passHour_68 rfl ?_
    refine aw_icmp_ge (q := 74) dX1_passHour_71 rfl (t := 98) (by decide) (by omega) (by omega) (fun h1 => ?_) (fun h2 => ?_)
    · refine aw_iconst (q := 99) dX1_passHour_98 rfl ?_
      refine aw_istore_n (q := 100) (lv2 := [(0, .ref (ad (17 * i))), (1, .int (iI 0))]) [1, 0] dX1_passHour_99 rfl rfl (by decide) rfl rfl ?_
      have e9 : foldR f3 (h2R (G i)) c.toNat = h3R (G i) := by unfold h3R; rw [show c.toNat = (G i 13 - 1).toNat by omega]
      rw [e9]
      exact L_hour4 G hi o 9 0 (by omega) (by omega) (by omega)
    · have hc8 : 0 ≤ c ∧ c < 8 := by omega
      have okc := hv.2 c hc (by omega)
      have okn := hv.2 (c + 1) (by omega) (by omega)
      refine aw_aload_n (q := 75) 0 dX1_passHour_74 rfl rfl rfl ?_
      refine aw_aload_n (q := 76) 0 dX1_passHour_75 rfl rfl rfl ?_
      refine g_mach_coils (q := 79) hi wf_RX1_11 dX1_passHour_76 rfl ?_
      refine aw_iload_n (q := 80) 1 dX1_passHour_79 rfl rfl rfl ?_
      refine aw_coil (q := 81) hi hc8 dX1_passHour_80 rfl ?_
      refine aw_aload_n (q := 82) 0 dX1_passHour_81 rfl rfl rfl ?_
      refine g_mach_coils (q := 85) hi wf_RX1_11 dX1_passHour_82 rfl ?_
      refine aw_iload_n (q := 86) 1 dX1_passHour_85 rfl rfl rfl ?_
      refine aw_iconst (q := 87) dX1_passHour_86 rfl ?_
      refine ae_iadd (q := 88) (c + 1) (by omega) dX1_passHour_87 rfl ?_
      refine aw_coil (q := 89) hi (by omega) dX1_passHour_88 rfl ?_
      refine cv_V (q := 92) (CC := "") (id := 17 * i) (As := [.ref (ad (17 * i + 9 + c)), .ref (ad (17 * i + 9 + (c + 1)))]) 2 ((by have := c_m_watch (l := l) (T := T) (D := D) (C := C) (ad := ad) (onR G i (foldR f3 (h2R (G i)) c.toNat)) hi (c := c) (by omega) (by rw [onR_at]; exact okc) (by rw [onR_at]; exact okn) (by rw [onR_at, hv.1 4 (by omega)]; have := o.1.2.2.2.2; omega); rw [watchG, onR_at, onR_onR] at this; exact this)) (fun _ h => h) (by omega) (cell_mach ad C _ hi) rfl wc_X1_watch wm_RX1_113 wi_X1_watch ws_X1_watch wn_X1 (by decide) rfl ⟨Nat.le_of_ble_eq_true rfl, Nat.le_of_ble_eq_true rfl⟩ ⟨Nat.le_of_ble_eq_true rfl, Nat.le_of_ble_eq_true rfl⟩ (Nat.le_of_ble_eq_true rfl) dX1_passHour_89 rfl (fun G9 h9 => ?_)
      rw [h9]
      refine ae_iinc (q := 95) (lv2 := [(0, .ref (ad (17 * i))), (1, .int (iI (c + 1)))]) 1 [1, 0] (c + 1) (by omega) dX1_passHour_92 rfl rfl (by decide) rfl ?_
      refine aw_goto (q := 64) dX1_passHour_95 (by decide) ?_
      have hi9 := ih (c + 1) (by omega) (by omega) (by omega)
      rw [foldR_succ _ _ hc] at hi9
      exact hi9
set_option maxHeartbeats 4000000 in
set_option maxRecDepth 100000 in
theorem L_hour2 {l : Launch} {D : va_G} {C : Nat → ClassId} {T : Nat → Nat} {ad : Int → Nat} (G : GG) {i : Int} (hi : 0 ≤ i ∧ i < 6) (o : okH (G i)) : ∀ (n : Nat) (c : Int), 0 ≤ c → c ≤ G i 13 → G i 13 - c < n → AW l RX1 "passHour" cX1_passHour 2 none (fun _ => True) { frames := 3, cells := 0, slots := 0, locals := 79 } (hvE D (RV ad C (fun G1 => G1 = onR G i (hourR (G i)))) (cw ad C G) 0 0) D (tyC C) (hvZ T (cw ad C G)) (cw ad C G) 39 [(0, .ref (ad (17 * i))), (1, .int (iI c))] [] (cw ad C ((onR G i (foldR f2 (h1R (G i)) c.toNat)))) 0 0 := by
  intro n
  induction n with
  | zero => intro c hc hd hn; exact absurd hn (by have := o.2.1; omega)
  | succ n ih =>
    intro c hc hd hn
    have o1 := o.2.1
    have hv := inv2 o c.toNat (by omega)
    refine aw_iload_n (q := 40) 1 dX1_passHour_39 rfl rfl rfl ?_
    refine aw_aload_n (q := 41) 0 dX1_passHour_40 rfl rfl rfl ?_
    refine g_mach_coilCount (q := 44) hi (v := (G i 13)) (((congrFun (onR_at _ _ _) _).trans (hv.1 _ (by omega)))) wf_RX1_28 dX1_passHour_41 rfl ?_
    refine aw_icmp_ge (q := 47) dX1_passHour_44 rfl (t := 62) (by decide) (by omega) (by omega) (fun h1 => ?_) (fun h2 => ?_)
    · refine aw_iconst (q := 63) dX1_passHour_62 rfl ?_
      refine aw_istore_n (q := 64) (lv2 := [(0, .ref (ad (17 * i))), (1, .int (iI 0))]) [1, 0] dX1_passHour_63 rfl rfl (by decide) rfl rfl ?_
      have e9 : foldR f2 (h1R (G i)) c.toNat = h2R (G i) := by unfold h2R; rw [show c = G i 13 by omega]
      rw [e9]
      exact L_hour3 G hi o 9 0 (by omega) (by omega) (by omega)
    · have hc8 : 0 ≤ c ∧ c < 8 := by omega
      have okc := hv.2 c hc (by omega)
      have ok8 := okc.2.2.2.2.2.2.2.1
      refine aw_aload_n (q := 48) 0 dX1_passHour_47 rfl rfl rfl ?_
      refine g_mach_coils (q := 51) hi wf_RX1_11 dX1_passHour_48 rfl ?_
      refine aw_iload_n (q := 52) 1 dX1_passHour_51 rfl rfl rfl ?_
      refine aw_coil (q := 53) hi hc8 dX1_passHour_52 rfl ?_
      refine cv_V (q := 56) (CC := "") (id := 17 * i + 9 + c) (As := []) 0 ((by have := c_coil_shortenBan (l := l) (T := T) (D := D) (C := C) (ad := ad) (onR G i (foldR f2 (h1R (G i)) c.toNat)) hi hc8 (by rw [onR_at]; exact okC_fineArgs okc); rw [coilBan_row, onR_at, onR_onR] at this; exact this)) (fun _ h => h) (by omega) (cell_coil ad C _ hi hc8) rfl wc_X0_shortenBan wm_RX1_110 wi_X0_shortenBan ws_X0_shortenBan wn_X0 (by decide) rfl ⟨Nat.le_of_ble_eq_true rfl, Nat.le_of_ble_eq_true rfl⟩ ⟨Nat.le_of_ble_eq_true rfl, Nat.le_of_ble_eq_true rfl⟩ (Nat.le_of_ble_eq_true rfl) dX1_passHour_53 rfl (fun G9 h9 => ?_)
      rw [h9]
      refine ae_iinc (q := 59) (lv2 := [(0, .ref (ad (17 * i))), (1, .int (iI (c + 1)))]) 1 [1, 0] (c + 1) (by omega) dX1_passHour_56 rfl rfl (by decide) rfl ?_
      refine aw_goto (q := 39) dX1_passHour_59 (by decide) ?_
      have hi9 := ih (c + 1) (by omega) (by omega) (by omega)
      rw [foldR_succ _ _ hc] at hi9
      exact hi9
set_option maxHeartbeats 4000000 in
set_option maxRecDepth 100000 in
theorem L_hour1 {l : Launch} {D : va_G} {C : Nat → ClassId} {T : Nat → Nat} {ad : Int → Nat} (G : GG) {i : Int} (hi : 0 ≤ i ∧ i < 6) (o : okH (G i)) : ∀ (n : Nat) (c : Int), 0 ≤ c → c ≤ G i 13 → G i 13 - c < n → AW l RX1 "passHour" cX1_passHour 2 none (fun _ => True) { frames := 3, cells := 0, slots := 0, locals := 79 } (hvE D (RV ad C (fun G1 => G1 = onR G i (hourR (G i)))) (cw ad C G) 0 0) D (tyC C) (hvZ T (cw ad C G)) (cw ad C G) 2 [(0, .ref (ad (17 * i))), (1, .int (iI c))] [] (cw ad C ((onR G i (foldR (f1 (G i)) (G i) c.toNat)))) 0 0 := by
  intro n
  induction n with
  | zero => intro c hc hd hn; exact absurd hn (by have := o.2.1; omega)
  | succ n ih =>
    intro c hc hd hn
    have o1 := o.2.1
    have hv := inv1 o c.toNat (by omega)
    refine aw_iload_n (q := 3) 1 dX1_passHour_2 rfl rfl rfl ?_
    refine aw_aload_n (q := 4) 0 dX1_passHour_3 rfl rfl rfl ?_
    refine g_mach_coilCount (q := 7) hi (v := (G i 13)) (((congrFun (onR_at _ _ _) _).trans (hv.1 _ (by omega)))) wf_RX1_28 dX1_passHour_4 rfl ?_
    refine aw_icmp_ge (q := 10) dX1_passHour_7 rfl (t := 37) (by decide) (by omega) (by omega) (fun h1 => ?_) (fun h2 => ?_)
    · refine aw_iconst (q := 38) dX1_passHour_37 rfl ?_
      refine aw_istore_n (q := 39) (lv2 := [(0, .ref (ad (17 * i))), (1, .int (iI 0))]) [1, 0] dX1_passHour_38 rfl rfl (by decide) rfl rfl ?_
      have e9 : foldR (f1 (G i)) (G i) c.toNat = h1R (G i) := by unfold h1R; rw [show c = G i 13 by omega]
      rw [e9]
      exact L_hour2 G hi o 9 0 (by omega) (by omega) (by omega)
    · have hc8 : 0 ≤ c ∧ c < 8 := by omega
      have okc := hv.2 c hc (by omega)
      have ok8 := okc.2.2.2.2.2.2.2.1
      refine aw_aload_n (q := 11) 0 dX1_passHour_10 rfl rfl rfl ?_
      refine g_mach_coils (q := 14) hi wf_RX1_11 dX1_passHour_11 rfl ?_
      refine aw_iload_n (q := 15) 1 dX1_passHour_14 rfl rfl rfl ?_
      refine aw_coil (q := 16) hi hc8 dX1_passHour_15 rfl ?_
      refine aw_aload_n (q := 17) 0 dX1_passHour_16 rfl rfl rfl ?_
      refine g_mach_settings (q := 20) hi wf_RX1_17 dX1_passHour_17 rfl ?_
      refine aw_iconst (q := 21) dX1_passHour_20 rfl ?_
      refine aw_cial (q := 22) (v := (G i 0)) 0 (ar_sets ad C hi) (by omega) (by omega) (((congrFun (onR_at _ _ _) _).trans (hv.1 _ (by omega)))) dX1_passHour_21 rfl ?_
      refine aw_aload_n (q := 23) 0 dX1_passHour_22 rfl rfl rfl ?_
      refine g_mach_settings (q := 26) hi wf_RX1_17 dX1_passHour_23 rfl ?_
      refine aw_iconst (q := 27) dX1_passHour_26 rfl ?_
      refine aw_cial (q := 28) (v := (G i 1)) 1 (ar_sets ad C hi) (by omega) (by omega) (((congrFun (onR_at _ _ _) _).trans (hv.1 _ (by omega)))) dX1_passHour_27 rfl ?_
      refine cv_V (q := 31) (CC := "") (id := 17 * i + 9 + c) (As := [.int (iI (G i 0)), .int (iI (G i 1))]) 2 ((by have := c_coil_setPrice (l := l) (T := T) (D := D) (C := C) (ad := ad) (onR G i (foldR (f1 (G i)) (G i) c.toNat)) hi hc8 (ra := G i 0) (fa := G i 1) (by rw [onR_at]; exact fw_ten ok8) (by rw [onR_at]; exact okC_fineArgs okc); rw [coilSet_row, onR_at, onR_onR] at this; exact this)) (fun _ h => h) (by omega) (cell_coil ad C _ hi hc8) rfl wc_X0_setPrice wm_RX1_106 wi_X0_setPrice ws_X0_setPrice wn_X0 (by decide) rfl ⟨Nat.le_of_ble_eq_true rfl, Nat.le_of_ble_eq_true rfl⟩ ⟨Nat.le_of_ble_eq_true rfl, Nat.le_of_ble_eq_true rfl⟩ (Nat.le_of_ble_eq_true rfl) dX1_passHour_28 rfl (fun G9 h9 => ?_)
      rw [h9]
      refine ae_iinc (q := 34) (lv2 := [(0, .ref (ad (17 * i))), (1, .int (iI (c + 1)))]) 1 [1, 0] (c + 1) (by omega) dX1_passHour_31 rfl rfl (by decide) rfl ?_
      refine aw_goto (q := 2) dX1_passHour_34 (by decide) ?_
      have hi9 := ih (c + 1) (by omega) (by omega) (by omega)
      rw [foldR_succ _ _ hc] at hi9
      exact hi9
set_option maxHeartbeats 4000000 in
set_option maxRecDepth 100000 in
theorem c_m_passHour {l : Launch} {D : va_G} {C : Nat → ClassId} {T : Nat → Nat} {ad : Int → Nat} (G : GG) {i : Int} (hi : 0 ≤ i ∧ i < 6) (o : okH (G i)) : MC l yX1_passHour cX1_passHour 2 none 3 79 0 0 D (tyC C) T [.ref (ad (17 * i))] (cw ad C G) (RV ad C (fun G1 => G1 = onR G i (hourR (G i)))) := by
  refine mc_of (by decide +kernel) (Nat.le_of_ble_eq_true rfl) rfl ?_
  have o1 := o.2.1
  refine aw_iconst (q := 1) dX1_passHour_0 rfl ?_
  refine aw_istore_n (q := 2) (lv2 := [(0, .ref (ad (17 * i))), (1, .int (iI 0))]) [1, 0] dX1_passHour_1 rfl rfl (by decide) rfl rfl ?_
  have hi9 := L_hour1 (l := l) (D := D) (C := C) (T := T) (ad := ad) G hi o 9 0 (by omega) (by omega) (by omega)
  rw [show foldR (f1 (G i)) (G i) (0 : Int).toNat = G i from rfl, onR_id] at hi9
  exact hi9
