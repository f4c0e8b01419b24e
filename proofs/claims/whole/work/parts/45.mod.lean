/-! class CoilPricesModel: the small methods -/
theorem iI_u32 {x : Int} (h : 0 ≤ x ∧ x ≤ 2147483647) : (iI x).toUInt32 = fB x := by
  unfold iI fB
  apply UInt32.toNat_inj.mp
  rw [UInt32.toNat_ofNat_of_lt' (show x.toNat < 4294967296 by omega)]
  show (Int32.ofInt x).toBitVec.toNat = x.toNat
  rw [Int32.toBitVec_ofInt, BitVec.toNat_ofInt, Int.emod_eq_of_lt (by omega) (by omega)]
theorem fB_i32 {x : Int} (h : 0 ≤ x ∧ x ≤ 2147483647) : (fB x).toInt32 = iI x := by
  rw [← iI_u32 h]
  simp
theorem okW_fB {x : Int} (h : okW x) : (fB x).toNat = x.toNat := by
  unfold okW at h
  unfold fB
  rw [UInt32.toNat_ofNat_of_lt' (show x.toNat < 4294967296 by omega)]
theorem okW_sn {x : Int} (h : okW x) : vn_sni2f (iI x) = false := by
  have h0 := h
  unfold okW at h0
  unfold vn_sni2f
  rw [iI_u32 (by omega)]
  have h1 : ¬ (fB x &&& 0x7fffffff > 0x7f800000) := by
    intro q
    have q1 : (0x7f800000 : UInt32).toNat < (fB x &&& 0x7fffffff).toNat := q
    rw [UInt32.toNat_and] at q1
    have q2 : (fB x).toNat &&& (0x7fffffff : UInt32).toNat ≤ (fB x).toNat := Nat.and_le_left
    rw [okW_fB h] at *
    have q3 : (0x7f800000 : UInt32).toNat = 2139095040 := by decide
    omega
  simp [h1]
/-- a method of a class of which some methods are the machine's own -/
theorem mc_ofF {l : Launch} {y : MethodName} {cc : ByteArray} {nL : Nat} {ret : Option FieldType} {fr lo mc ms : Nat} {D : va_G} {ty : List (ClassId × FieldType)} {T : Nat → Nat} {As : List Value} {ws : va_W} {Q : Option Value → va_W → Prop} {lv : List (Nat × Value)}
    (hy : plainFor y = true) (hn : (lg_sl As).length ≤ nL) (hlv : lv_args 0 As = lv)
    (body : AW l y.cls y.name cc nL ret (fun _ => True) { frames := fr, cells := mc, slots := ms, locals := lo } (hvE D Q ws mc ms) D ty (hvZ T ws) ws 0 lv [] ws 0 0) : MC l y cc nL ret fr lo mc ms D ty T As ws Q := by
  intro sz
  refine MetFree.of_bodySF (code := cc) (maxLocals := nL) (ret := ret) hy ?_ ?_
  · intro args s m h hn
    obtain ⟨meth, c, h1, h2, h3, h4, h5, h6, -, -⟩ := Cond.code_spec hn (atoms_spec (ws := .code y cc nL ret :: gt) h _ List.mem_cons_self)
    exact ⟨meth, c, h1, h2, h3, h4, h5, h6⟩
  · intro p e s m args below meth c s₁ B hml hv _
    obtain ⟨rfl, hsz, hP, hK, hD0, hZ⟩ := hv
    have hh0 : s₁.heap = s.heap := by rw [B.state]; rfl
    have hx := B.exec
    have hb := B.bytes
    have hr := B.returns
    have hts := atoms_spec (ws := .code y cc nL ret :: gt) B.pre
    have hown : s.vm.findClass y.cls = some m.cls := findClass_of_methodNamed B.named
    have hlocks := B.notSynchronized
    have hin : meth.name = y.name := (name_of_methodNamed B.named B.method).1
    subst hsz
    have k := body p e s m _ below meth c ⟨hx, hb, hml, hown, fun w hw => hts w (List.mem_cons_of_mem _ hw), hr, hlocks, hin, trivial⟩ hK hZ s.heap [] _ hP (hD0.self (sz := s.heap.size)) va_S.rf (hlv ▸ lv_entry As hn)
    rw [← lg_entry_eq] at k
    obtain ⟨t, a1, o, b1, b2, b3⟩ := k s₁ hh0 (Stand.of_body B)
    exact ⟨t, o, a1, b1, b2, ⟨b3.1, b3.2⟩⟩
set_option maxHeartbeats 4000000 in
set_option maxRecDepth 100000 in
theorem c_thrown {l : Launch} {D : va_G} {C : Nat → ClassId} {T : Nat → Nat} {ad : Int → Nat} (G : GG)  : MC l yX6_thrown cX6_thrown 1 (some .int) 0 0 0 0 D (tyC C) T [.ref (ad 108)] (cw ad C G) (RI ad C (fun r G1 => r = G 11 7 ∧ G1 = G)) := by
  refine mc_of (by decide +kernel) (Nat.le_of_ble_eq_true rfl) rfl ?_
  refine aw_aload_n (q := 1) 0 dX6_thrown_0 rfl rfl rfl ?_
  refine g_mod_thrown (q := 4) (v := (G 11 7)) rfl wf_RX6_38 dX6_thrown_1 rfl ?_
  exact rt_i rfl (Nat.le_refl _) (Nat.le_refl _) (⟨rfl, rfl⟩) dX6_thrown_4
set_option maxHeartbeats 4000000 in
set_option maxRecDepth 100000 in
theorem c_in {l : Launch} {D : va_G} {C : Nat → ClassId} {T : Nat → Nat} {ad : Int → Nat} (G : GG) {a b c : Int} (ha : -2147483648 ≤ a ∧ a ≤ 2147483647) (hb : -2147483648 ≤ b ∧ b ≤ 2147483647) (hc : -2147483648 ≤ c ∧ c ≤ 2147483647) : MC l yX6_in cX6_in 3 (some .boolean) 0 0 0 0 D (tyC C) T [.int (iI a), .int (iI b), .int (iI c)] (cw ad C G) (RI ad C (fun r G1 => r = b2i (b ≤ a ∧ a ≤ c) ∧ G1 = G)) := by
  refine mc_of (by decide +kernel) (Nat.le_of_ble_eq_true rfl) rfl ?_
  refine aw_iload_n (q := 1) 0 dX6_in_0 rfl rfl rfl ?_
  refine aw_iload_n (q := 2) 1 dX6_in_1 rfl rfl rfl ?_
  refine aw_icmp_lt (q := 5) dX6_in_2 rfl (t := 14) (by decide) (by omega) (by omega) (fun y1 => ?_) (fun y2 => ?_)
  · refine aw_iconst (q := 15) dX6_in_14 rfl ?_
    exact rt_z rfl (by first | omega | exact b2i_r _) (Nat.le_refl _) (Nat.le_refl _) (⟨by first | exact (b2i_t (by omega)).symm | exact (b2i_f (by omega)).symm, rfl⟩) dX6_in_15
  · refine aw_iload_n (q := 6) 0 dX6_in_5 rfl rfl rfl ?_
    refine aw_iload_n (q := 7) 2 dX6_in_6 rfl rfl rfl ?_
    refine aw_icmp_gt (q := 10) dX6_in_7 rfl (t := 14) (by decide) (by omega) (by omega) (fun y3 => ?_) (fun y4 => ?_)
    · refine aw_iconst (q := 15) dX6_in_14 rfl ?_
      exact rt_z rfl (by first | omega | exact b2i_r _) (Nat.le_refl _) (Nat.le_refl _) (⟨by first | exact (b2i_t (by omega)).symm | exact (b2i_f (by omega)).symm, rfl⟩) dX6_in_15
    · refine aw_iconst (q := 11) dX6_in_10 rfl ?_
      refine aw_goto (q := 15) dX6_in_11 (by decide) ?_
      exact rt_z rfl (by first | omega | exact b2i_r _) (Nat.le_refl _) (Nat.le_refl _) (⟨by first | exact (b2i_t (by omega)).symm | exact (b2i_f (by omega)).symm, rfl⟩) dX6_in_15
set_option maxHeartbeats 4000000 in
set_option maxRecDepth 100000 in
theorem c_real {l : Launch} {D : va_G} {C : Nat → ClassId} {T : Nat → Nat} {ad : Int → Nat} (G : GG) {x : Int} (h : okW x) : MC l yX6_real cX6_real 1 (some .float) 1 36 0 0 D (tyC C) T [.int (iI x)] (cw ad C G) (RF ad C (fun r G1 => r = fB x ∧ G1 = G)) := by
  refine mc_of (by decide +kernel) (Nat.le_of_ble_eq_true rfl) rfl ?_
  have h0 : 0 ≤ x ∧ x ≤ 2147483647 := by unfold okW at h; omega
  refine aw_iload_n (q := 1) 0 dX6_real_0 rfl rfl rfl ?_
  refine aw_raw2f (q := 4) (okW_sn h) wm_RX6_42 wintBitsToFloat_n wintBitsToFloat_s wFloat_i (Nat.le_of_ble_eq_true rfl) (Nat.le_of_ble_eq_true rfl) dX6_real_1 rfl ?_
  exact rt_f rfl (Nat.le_refl _) (Nat.le_refl _) (⟨iI_u32 h0, rfl⟩) dX6_real_4
set_option maxHeartbeats 4000000 in
set_option maxRecDepth 100000 in
theorem c_isNaN {l : Launch} {D : va_G} {C : Nat → ClassId} {T : Nat → Nat} {ad : Int → Nat} (G : GG) {x : Int} (h : okW x) : MC l yJxf58ca_isNaN_12338 cJxf58ca_isNaN_12338 1 (some .boolean) 0 0 0 0 D (tyC C) T [.float (fB x)] (cw ad C G) (RI ad C (fun r G1 => r = 0 ∧ G1 = G)) := by
  refine mc_ofF (by decide +kernel) (Nat.le_of_ble_eq_true rfl) rfl ?_
  refine aw_fload_n (q := 1) 0 dJxf58ca_isNaN_12338_0 rfl rfl rfl ?_
  refine aw_fload_n (q := 2) 0 dJxf58ca_isNaN_12338_1 rfl rfl rfl ?_
  refine aw_fcmp (q := 3) dJxf58ca_isNaN_12338_2 rfl ?_
  refine aw_ifW_eq (q := 6) dJxf58ca_isNaN_12338_3 rfl (t := 10) (by decide) (fun y1 => ?_) (fun y2 => ?_)
  · refine aw_iconst (q := 11) dJxf58ca_isNaN_12338_10 rfl ?_
    exact rt_z rfl (by first | omega | exact b2i_r _) (Nat.le_refl _) (Nat.le_refl _) (⟨rfl, rfl⟩) dJxf58ca_isNaN_12338_11
  · refine aw_iconst (q := 7) dJxf58ca_isNaN_12338_6 rfl ?_
    refine aw_goto (q := 11) dJxf58ca_isNaN_12338_7 (by decide) ?_
    exact rt_z rfl (by first | omega | exact b2i_r _) (Nat.le_refl _) (Nat.le_refl _) (absurd (okW_eq h) (by assumption)) dJxf58ca_isNaN_12338_11
set_option maxHeartbeats 4000000 in
set_option maxRecDepth 100000 in
theorem c_f2bits {l : Launch} {D : va_G} {C : Nat → ClassId} {T : Nat → Nat} {ad : Int → Nat} (G : GG) {x : Int} (h : okW x) : MC l yJxf58ca_floatToIntBits_5c35a cJxf58ca_floatToIntBits_5c35a 1 (some .int) 1 36 0 0 D (tyC C) T [.float (fB x)] (cw ad C G) (RI ad C (fun r G1 => r = x ∧ G1 = G)) := by
  refine mc_ofF (by decide +kernel) (Nat.le_of_ble_eq_true rfl) rfl ?_
  have h0 : 0 ≤ x ∧ x ≤ 2147483647 := by unfold okW at h; omega
  refine aw_fload_n (q := 1) 0 dJxf58ca_floatToIntBits_5c35a_0 rfl rfl rfl ?_
  refine cs_I (q := 4) (As := [.float (fB x)]) 1 (c_isNaN (T := T) (D := D) (ad := ad) G h) (fun _ h => h) wc_Jxf58ca_isNaN_12338 wm_RJxf58ca_59 wt_Jxf58ca_isNaN_12338 wn_Jxf58ca (by decide) rfl ⟨Nat.le_of_ble_eq_true rfl, Nat.le_of_ble_eq_true rfl⟩ ⟨Nat.le_of_ble_eq_true rfl, Nat.le_of_ble_eq_true rfl⟩ (Nat.le_of_ble_eq_true rfl) dJxf58ca_floatToIntBits_5c35a_1 rfl (fun r9 G9 h9 => ?_)
  rw [h9.1, h9.2]
  refine aw_if_ne (q := 7) dJxf58ca_floatToIntBits_5c35a_4 rfl (t := 12) (by decide) (by omega) (fun h => absurd h (by omega)) (fun _ => ?_)
  refine aw_fload_n (q := 8) 0 dJxf58ca_floatToIntBits_5c35a_7 rfl rfl rfl ?_
  refine aw_f2raw (q := 11) wm_RJxf58ca_74 wfloatToRawIntBits_n wfloatToRawIntBits_s wFloat_i (Nat.le_of_ble_eq_true rfl) (Nat.le_of_ble_eq_true rfl) dJxf58ca_floatToIntBits_5c35a_8 rfl ?_
  rw [fB_i32 h0]
  exact rt_i rfl (Nat.le_refl _) (Nat.le_refl _) (⟨rfl, rfl⟩) dJxf58ca_floatToIntBits_5c35a_11
set_option maxHeartbeats 4000000 in
set_option maxRecDepth 100000 in
theorem c_bits {l : Launch} {D : va_G} {C : Nat → ClassId} {T : Nat → Nat} {ad : Int → Nat} (G : GG) {x : Int} (h : okW x) : MC l yX6_bits cX6_bits 1 (some .int) 2 56 0 0 D (tyC C) T [.float (fB x)] (cw ad C G) (RI ad C (fun r G1 => r = x ∧ G1 = G)) := by
  refine mc_of (by decide +kernel) (Nat.le_of_ble_eq_true rfl) rfl ?_
  refine aw_fload_n (q := 1) 0 dX6_bits_0 rfl rfl rfl ?_
  refine cs_I (q := 4) (As := [.float (fB x)]) 1 (c_f2bits (T := T) (D := D) (ad := ad) G h) (fun _ h => h) wc_Jxf58ca_floatToIntBits_5c35a wm_RX6_48 wt_Jxf58ca_floatToIntBits_5c35a wn_Jxf58ca (by decide) rfl ⟨Nat.le_of_ble_eq_true rfl, Nat.le_of_ble_eq_true rfl⟩ ⟨Nat.le_of_ble_eq_true rfl, Nat.le_of_ble_eq_true rfl⟩ (Nat.le_of_ble_eq_true rfl) dX6_bits_1 rfl (fun r9 G9 h9 => ?_)
  rw [h9.1, h9.2]
  exact rt_i rfl (Nat.le_refl _) (Nat.le_refl _) (⟨rfl, rfl⟩) dX6_bits_4
set_option maxHeartbeats 4000000 in
set_option maxRecDepth 100000 in
theorem c_refuse {l : Launch} {D : va_G} {C : Nat → ClassId} {T : Nat → Nat} {ad : Int → Nat} (G : GG) {n : Int} : MC l yX6_refuse cX6_refuse 2 (some .int) 0 0 0 0 D (tyC C) T [.ref (ad 108), .int (iI n)] (cw ad C G) (RI ad C (fun r G1 => r = 0 ∧ G1 = setG G 11 8 n)) := by
  refine mc_of (by decide +kernel) (Nat.le_of_ble_eq_true rfl) rfl ?_
  refine aw_aload_n (q := 1) 0 dX6_refuse_0 rfl rfl rfl ?_
  refine aw_iload_n (q := 2) 1 dX6_refuse_1 rfl rfl rfl ?_
  refine p_mod_code (q := 5) wf_RX6_52 dX6_refuse_2 rfl ?_
  refine aw_iconst (q := 6) dX6_refuse_5 rfl ?_
  exact rt_i rfl (Nat.le_refl _) (Nat.le_refl _) (⟨rfl, rfl⟩) dX6_refuse_6
set_option maxHeartbeats 4000000 in
set_option maxRecDepth 100000 in
theorem c_fails {l : Launch} {D : va_G} {C : Nat → ClassId} {T : Nat → Nat} {ad : Int → Nat} (G : GG) {n : Int} : MC l yX6_fails cX6_fails 2 (some .int) 0 0 0 0 D (tyC C) T [.ref (ad 108), .int (iI n)] (cw ad C G) (RI ad C (fun r G1 => r = 0 ∧ G1 = setG G 11 7 n)) := by
  refine mc_of (by decide +kernel) (Nat.le_of_ble_eq_true rfl) rfl ?_
  refine aw_aload_n (q := 1) 0 dX6_fails_0 rfl rfl rfl ?_
  refine aw_iload_n (q := 2) 1 dX6_fails_1 rfl rfl rfl ?_
  refine p_mod_thrown (q := 5) wf_RX6_38 dX6_fails_2 rfl ?_
  refine aw_iconst (q := 6) dX6_fails_5 rfl ?_
  exact rt_i rfl (Nat.le_refl _) (Nat.le_refl _) (⟨rfl, rfl⟩) dX6_fails_6
set_option maxHeartbeats 4000000 in
set_option maxRecDepth 100000 in
theorem c_isCoil {l : Launch} {D : va_G} {C : Nat → ClassId} {T : Nat → Nat} {ad : Int → Nat} (G : GG) (h13 : 0 ≤ G 12 13 ∧ G 12 13 ≤ 8) {c : Int} (hc : -2147483648 ≤ c ∧ c ≤ 2147483647) : MC l yX6_isCoil cX6_isCoil 2 (some .boolean) 1 22 0 0 D (tyC C) T [.ref (ad 108), .int (iI c)] (cw ad C G) (RI ad C (fun r G1 => r = b2i (0 ≤ c ∧ c < G 12 13) ∧ G1 = G)) := by
  refine mc_of (by decide +kernel) (Nat.le_of_ble_eq_true rfl) rfl ?_
  refine aw_iload_n (q := 1) 1 dX6_isCoil_0 rfl rfl rfl ?_
  refine aw_iconst (q := 2) dX6_isCoil_1 rfl ?_
  refine aw_aload_n (q := 3) 0 dX6_isCoil_2 rfl rfl rfl ?_
  refine g_mod_p (q := 6) wf_RX6_7 dX6_isCoil_3 rfl ?_
  refine aw_bipush (q := 8) dX6_isCoil_6 rfl (by decide) ?_
  refine aw_cial (q := 9) (v := (G 12 13)) 13 (ar_109 ad C) (by omega) (by omega) rfl dX6_isCoil_8 rfl ?_
  refine aw_iconst (q := 10) dX6_isCoil_9 rfl ?_
  refine ae_isub (q := 11) ((G 12 13) - 1) (by omega) dX6_isCoil_10 rfl ?_
  refine cs_I (q := 14) (As := [.int (iI c), .int (iI 0), .int (iI ((G 12 13) - 1))]) 3 (c_in (T := T) (D := D) (ad := ad) G (by omega) (by omega) (by omega)) (fun _ h => h) wc_X6_in wm_RX6_62 wt_X6_in wn_X6 (by decide) rfl ⟨Nat.le_of_ble_eq_true rfl, Nat.le_of_ble_eq_true rfl⟩ ⟨Nat.le_of_ble_eq_true rfl, Nat.le_of_ble_eq_true rfl⟩ (Nat.le_of_ble_eq_true rfl) dX6_isCoil_11 rfl (fun r9 G9 h9 => ?_)
  rw [h9.1, h9.2]
  exact rt_z rfl (by first | omega | exact b2i_r _) (Nat.le_refl _) (Nat.le_refl _) (⟨b2i_c (by omega), rfl⟩) dX6_isCoil_14
set_option maxHeartbeats 4000000 in
set_option maxRecDepth 100000 in
theorem c_of {l : Launch} {D : va_G} {C : Nat → ClassId} {T : Nat → Nat} {ad : Int → Nat} (G : GG) {c k : Int} (hc : 0 ≤ c ∧ c < 8) (hk : 0 ≤ k ∧ k < 12) : MC l yX6_of cX6_of 3 (some .int) 0 0 0 0 D (tyC C) T [.ref (ad 108), .int (iI c), .int (iI k)] (cw ad C G) (RI ad C (fun r G1 => r = G 12 (15 + 12 * c + k) ∧ G1 = G)) := by
  refine mc_of (by decide +kernel) (Nat.le_of_ble_eq_true rfl) rfl ?_
  refine aw_aload_n (q := 1) 0 dX6_of_0 rfl rfl rfl ?_
  refine g_mod_p (q := 4) wf_RX6_7 dX6_of_1 rfl ?_
  refine aw_bipush (q := 6) dX6_of_4 rfl (by decide) ?_
  refine aw_bipush (q := 8) dX6_of_6 rfl (by decide) ?_
  refine aw_iload_n (q := 9) 1 dX6_of_8 rfl rfl rfl ?_
  refine ae_imul (q := 10) (12 * c) (by omega) dX6_of_9 rfl ?_
  refine ae_iadd (q := 11) (15 + (12 * c)) (by omega) dX6_of_10 rfl ?_
  refine aw_iload_n (q := 12) 2 dX6_of_11 rfl rfl rfl ?_
  refine ae_iadd (q := 13) (12 * c + k + 15) (by omega) dX6_of_12 rfl ?_
  refine aw_cial (q := 14) (v := (G 12 (12 * c + k + 15))) (12 * c + k + 15) (ar_109 ad C) (by omega) (by omega) rfl dX6_of_13 rfl ?_
  exact rt_i rfl (Nat.le_refl _) (Nat.le_refl _) (⟨congrArg (G 12) (by omega), rfl⟩) dX6_of_14
set_option maxHeartbeats 4000000 in
set_option maxRecDepth 100000 in
theorem c_lay {l : Launch} {D : va_G} {C : Nat → ClassId} {T : Nat → Nat} {ad : Int → Nat} (G : GG) {c k : Int} (hc : 0 ≤ c ∧ c < 8) (hk : 0 ≤ k ∧ k < 12) {v : Int} : MC l yX6_lay cX6_lay 4 none 0 0 0 0 D (tyC C) T [.ref (ad 108), .int (iI c), .int (iI k), .int (iI v)] (cw ad C G) (RV ad C (fun G1 => G1 = setG G 12 (15 + 12 * c + k) v)) := by
  refine mc_of (by decide +kernel) (Nat.le_of_ble_eq_true rfl) rfl ?_
  refine aw_aload_n (q := 1) 0 dX6_lay_0 rfl rfl rfl ?_
  refine g_mod_p (q := 4) wf_RX6_7 dX6_lay_1 rfl ?_
  refine aw_bipush (q := 6) dX6_lay_4 rfl (by decide) ?_
  refine aw_bipush (q := 8) dX6_lay_6 rfl (by decide) ?_
  refine aw_iload_n (q := 9) 1 dX6_lay_8 rfl rfl rfl ?_
  refine ae_imul (q := 10) (12 * c) (by omega) dX6_lay_9 rfl ?_
  refine ae_iadd (q := 11) (15 + (12 * c)) (by omega) dX6_lay_10 rfl ?_
  refine aw_iload_n (q := 12) 2 dX6_lay_11 rfl rfl rfl ?_
  refine ae_iadd (q := 13) (12 * c + k + 15) (by omega) dX6_lay_12 rfl ?_
  refine aw_iload_n (q := 14) 3 dX6_lay_13 rfl rfl rfl ?_
  refine aw_cias (q := 15) (12 * c + k + 15) (ar_109 ad C) (by omega) (by omega) dX6_lay_14 rfl ?_
  exact rt_v rfl (Nat.le_refl _) (Nat.le_refl _) (congrArg (fun z => setG G 12 z v) (by omega)) dX6_lay_15
def wtF (t : Int) : Int := if t = 0 then 5 else if t = 1 then 10 else if t = 2 then 20 else 50
set_option maxHeartbeats 4000000 in
set_option maxRecDepth 100000 in
theorem c_worthM {l : Launch} {D : va_G} {C : Nat → ClassId} {T : Nat → Nat} {ad : Int → Nat} (G : GG) {t : Int} (ht : -2147483648 ≤ t ∧ t ≤ 2147483647) : MC l yX6_worth cX6_worth 1 (some .int) 0 0 0 0 D (tyC C) T [.int (iI t)] (cw ad C G) (RI ad C (fun r G1 => r = wtF t ∧ G1 = G)) := by
  refine mc_of (by decide +kernel) (Nat.le_of_ble_eq_true rfl) rfl ?_
  refine aw_iload_n (q := 1) 0 dX6_worth_0 rfl rfl rfl ?_
  refine aw_if_ne (q := 4) dX6_worth_1 rfl (t := 8) (by decide) (by omega) (fun y1 => ?_) (fun y2 => ?_)
  · refine aw_iload_n (q := 9) 0 dX6_worth_8 rfl rfl rfl ?_
    refine aw_iconst (q := 10) dX6_worth_9 rfl ?_
    refine aw_icmp_ne (q := 13) dX6_worth_10 rfl (t := 18) (by decide) (by omega) (by omega) (fun y3 => ?_) (fun y4 => ?_)
    · refine aw_iload_n (q := 19) 0 dX6_worth_18 rfl rfl rfl ?_
      refine aw_iconst (q := 20) dX6_worth_19 rfl ?_
      refine aw_icmp_ne (q := 23) dX6_worth_20 rfl (t := 28) (by decide) (by omega) (by omega) (fun y5 => ?_) (fun y6 => ?_)
      · refine aw_bipush (q := 30) dX6_worth_28 rfl (by decide) ?_
        exact rt_i rfl (Nat.le_refl _) (Nat.le_refl _) (⟨by unfold wtF; (repeat' split) <;> omega, rfl⟩) dX6_worth_30
      · refine aw_bipush (q := 25) dX6_worth_23 rfl (by decide) ?_
        refine aw_goto (q := 30) dX6_worth_25 (by decide) ?_
        exact rt_i rfl (Nat.le_refl _) (Nat.le_refl _) (⟨by unfold wtF; (repeat' split) <;> omega, rfl⟩) dX6_worth_30
    · refine aw_bipush (q := 15) dX6_worth_13 rfl (by decide) ?_
      refine aw_goto (q := 30) dX6_worth_15 (by decide) ?_
      exact rt_i rfl (Nat.le_refl _) (Nat.le_refl _) (⟨by unfold wtF; (repeat' split) <;> omega, rfl⟩) dX6_worth_30
  · refine aw_iconst (q := 5) dX6_worth_4 rfl ?_
    refine aw_goto (q := 30) dX6_worth_5 (by decide) ?_
    exact rt_i rfl (Nat.le_refl _) (Nat.le_refl _) (⟨by unfold wtF; (repeat' split) <;> omega, rfl⟩) dX6_worth_30
set_option maxHeartbeats 4000000 in
set_option maxRecDepth 100000 in
theorem c_highest {l : Launch} {D : va_G} {C : Nat → ClassId} {T : Nat → Nat} {ad : Int → Nat} (G : GG) {t : Int} (ht : -2147483648 ≤ t ∧ t ≤ 2147483647) : MC l yX6_highest cX6_highest 1 (some .int) 0 0 0 0 D (tyC C) T [.int (iI t)] (cw ad C G) (RI ad C (fun r G1 => r = (if t = 3 then 1000 else 100) ∧ G1 = G)) := by
  refine mc_of (by decide +kernel) (Nat.le_of_ble_eq_true rfl) rfl ?_
  refine aw_iload_n (q := 1) 0 dX6_highest_0 rfl rfl rfl ?_
  refine aw_iconst (q := 2) dX6_highest_1 rfl ?_
  refine aw_icmp_ne (q := 5) dX6_highest_2 rfl (t := 11) (by decide) (by omega) (by omega) (fun y1 => ?_) (fun y2 => ?_)
  · refine aw_bipush (q := 13) dX6_highest_11 rfl (by decide) ?_
    exact rt_i rfl (Nat.le_refl _) (Nat.le_refl _) (⟨by split <;> omega, rfl⟩) dX6_highest_13
  · refine aw_sipush (q := 8) dX6_highest_5 rfl (by decide) ?_
    refine aw_goto (q := 13) dX6_highest_8 (by decide) ?_
    exact rt_i rfl (Nat.le_refl _) (Nat.le_refl _) (⟨by split <;> omega, rfl⟩) dX6_highest_13
set_option maxHeartbeats 4000000 in
set_option maxRecDepth 100000 in
theorem c_isPrice {l : Launch} {D : va_G} {C : Nat → ClassId} {T : Nat → Nat} {ad : Int → Nat} (G : GG) {v b : Int} (hv : -2147483648 ≤ v ∧ v ≤ 2147483647) (hb : 0 ≤ b ∧ b ≤ 500) : MC l yX6_isPrice cX6_isPrice 2 (some .boolean) 1 22 0 0 D (tyC C) T [.int (iI v), .int (iI b)] (cw ad C G) (RI ad C (fun r G1 => r = b2i (b ≤ v ∧ v ≤ 500 ∧ v % 5 = 0) ∧ G1 = G)) := by
  refine mc_of (by decide +kernel) (Nat.le_of_ble_eq_true rfl) rfl ?_
  refine aw_iload_n (q := 1) 0 dX6_isPrice_0 rfl rfl rfl ?_
  refine aw_iload_n (q := 2) 1 dX6_isPrice_1 rfl rfl rfl ?_
  refine aw_sipush (q := 5) dX6_isPrice_2 rfl (by decide) ?_
  refine cs_I (q := 8) (As := [.int (iI v), .int (iI b), .int (iI 500)]) 3 (c_in (T := T) (D := D) (ad := ad) G (by omega) (by omega) (by omega)) (fun _ h => h) wc_X6_in wm_RX6_62 wt_X6_in wn_X6 (by decide) rfl ⟨Nat.le_of_ble_eq_true rfl, Nat.le_of_ble_eq_true rfl⟩ ⟨Nat.le_of_ble_eq_true rfl, Nat.le_of_ble_eq_true rfl⟩ (Nat.le_of_ble_eq_true rfl) dX6_isPrice_5 rfl (fun r9 G9 h9 => ?_)
  rw [h9.1, h9.2]
  refine aw_ifb_eq (q := 11) dX6_isPrice_8 rfl (t := 21) (by decide) (fun y1 => ?_) (fun y2 => ?_)
  · refine aw_iconst (q := 22) dX6_isPrice_21 rfl ?_
    exact rt_z rfl (by first | omega | exact b2i_r _) (Nat.le_refl _) (Nat.le_refl _) (⟨by first | exact (b2i_t (by omega)).symm | exact (b2i_f (by omega)).symm, rfl⟩) dX6_isPrice_22
  · refine aw_iload_n (q := 12) 0 dX6_isPrice_11 rfl rfl rfl ?_
    refine aw_iconst (q := 13) dX6_isPrice_12 rfl ?_
    obtain ⟨d1, hd1⟩ : ∃ z, (v % 5) = z := ⟨_, rfl⟩
    refine aw_rem5 (q := 14) (z := d1) (by omega) (by omega) hd1 dX6_isPrice_13 rfl ?_
    refine aw_if_ne (q := 17) dX6_isPrice_14 rfl (t := 21) (by decide) (by omega) (fun y3 => ?_) (fun y4 => ?_)
    · refine aw_iconst (q := 22) dX6_isPrice_21 rfl ?_
      exact rt_z rfl (by first | omega | exact b2i_r _) (Nat.le_refl _) (Nat.le_refl _) (⟨by first | exact (b2i_t (by omega)).symm | exact (b2i_f (by omega)).symm, rfl⟩) dX6_isPrice_22
    · refine aw_iconst (q := 18) dX6_isPrice_17 rfl ?_
      refine aw_goto (q := 22) dX6_isPrice_18 (by decide) ?_
      exact rt_z rfl (by first | omega | exact b2i_r _) (Nat.le_refl _) (Nat.le_refl _) (⟨by first | exact (b2i_t (by omega)).symm | exact (b2i_f (by omega)).symm, rfl⟩) dX6_isPrice_22
set_option maxHeartbeats 4000000 in
set_option maxRecDepth 100000 in
theorem c_isFew {l : Launch} {D : va_G} {C : Nat → ClassId} {T : Nat → Nat} {ad : Int → Nat} (G : GG) {v : Int} (hv : -2147483648 ≤ v ∧ v ≤ 2147483647) : MC l yX6_isFew cX6_isFew 1 (some .boolean) 1 22 0 0 D (tyC C) T [.int (iI v)] (cw ad C G) (RI ad C (fun r G1 => r = b2i (0 ≤ v ∧ v ≤ 9) ∧ G1 = G)) := by
  refine mc_of (by decide +kernel) (Nat.le_of_ble_eq_true rfl) rfl ?_
  refine aw_iload_n (q := 1) 0 dX6_isFew_0 rfl rfl rfl ?_
  refine aw_iconst (q := 2) dX6_isFew_1 rfl ?_
  refine aw_bipush (q := 4) dX6_isFew_2 rfl (by decide) ?_
  refine cs_I (q := 7) (As := [.int (iI v), .int (iI 0), .int (iI 9)]) 3 (c_in (T := T) (D := D) (ad := ad) G (by omega) (by omega) (by omega)) (fun _ h => h) wc_X6_in wm_RX6_62 wt_X6_in wn_X6 (by decide) rfl ⟨Nat.le_of_ble_eq_true rfl, Nat.le_of_ble_eq_true rfl⟩ ⟨Nat.le_of_ble_eq_true rfl, Nat.le_of_ble_eq_true rfl⟩ (Nat.le_of_ble_eq_true rfl) dX6_isFew_4 rfl (fun r9 G9 h9 => ?_)
  rw [h9.1, h9.2]
  exact rt_z rfl (by first | omega | exact b2i_r _) (Nat.le_refl _) (Nat.le_refl _) (⟨b2i_c (by omega), rfl⟩) dX6_isFew_7
def putG (G : GG) (a b c d : Int) : GG := setG (setG (setG (setG G 18 0 a) 18 1 b) 18 2 c) 18 3 d
set_option maxHeartbeats 4000000 in
set_option maxRecDepth 100000 in
theorem c_lays {l : Launch} {D : va_G} {C : Nat → ClassId} {T : Nat → Nat} {ad : Int → Nat} (G : GG) {a b c d : Int} : MC l yX6_lays cX6_lays 5 none 0 0 0 0 D (tyC C) T [.ref (ad 108), .int (iI a), .int (iI b), .int (iI c), .int (iI d)] (cw ad C G) (RV ad C (fun G1 => G1 = putG G a b c d)) := by
  refine mc_of (by decide +kernel) (Nat.le_of_ble_eq_true rfl) rfl ?_
  refine aw_aload_n (q := 1) 0 dX6_lays_0 rfl rfl rfl ?_
  refine g_mod_put (q := 4) wf_RX6_28 dX6_lays_1 rfl ?_
  refine aw_iconst (q := 5) dX6_lays_4 rfl ?_
  refine aw_iload_n (q := 6) 1 dX6_lays_5 rfl rfl rfl ?_
  refine aw_cias (q := 7) 0 (ar_115 ad C) (by omega) (by omega) dX6_lays_6 rfl ?_
  refine aw_aload_n (q := 8) 0 dX6_lays_7 rfl rfl rfl ?_
  refine g_mod_put (q := 11) wf_RX6_28 dX6_lays_8 rfl ?_
  refine aw_iconst (q := 12) dX6_lays_11 rfl ?_
  refine aw_iload_n (q := 13) 2 dX6_lays_12 rfl rfl rfl ?_
  refine aw_cias (q := 14) 1 (ar_115 ad C) (by omega) (by omega) dX6_lays_13 rfl ?_
  refine aw_aload_n (q := 15) 0 dX6_lays_14 rfl rfl rfl ?_
  refine g_mod_put (q := 18) wf_RX6_28 dX6_lays_15 rfl ?_
  refine aw_iconst (q := 19) dX6_lays_18 rfl ?_
  refine aw_iload_n (q := 20) 3 dX6_lays_19 rfl rfl rfl ?_
  refine aw_cias (q := 21) 2 (ar_115 ad C) (by omega) (by omega) dX6_lays_20 rfl ?_
  refine aw_aload_n (q := 22) 0 dX6_lays_21 rfl rfl rfl ?_
  refine g_mod_put (q := 25) wf_RX6_28 dX6_lays_22 rfl ?_
  refine aw_iconst (q := 26) dX6_lays_25 rfl ?_
  refine aw_iload (q := 28) 4 dX6_lays_26 rfl rfl ?_
  refine aw_cias (q := 29) 3 (ar_115 ad C) (by omega) (by omega) dX6_lays_28 rfl ?_
  exact rt_v rfl (Nat.le_refl _) (Nat.le_refl _) (rfl) dX6_lays_29
set_option maxHeartbeats 4000000 in
set_option maxRecDepth 100000 in
theorem L_bring {l : Launch} {D : va_G} {C : Nat → ClassId} {T : Nat → Nat} {ad : Int → Nat} (G : GG) {idf idt pf pt at_ pl : Int} {Nf Nt : Nat} (hf : isArr ad C idf pf 0 Nf) (htt : isArr ad C idt pt 0 Nt) (hne : pf ≠ pt) (h1 : 0 ≤ at_ ∧ at_ + 311 ≤ (Nf : Int)) (h2 : 0 ≤ pl ∧ pl + 311 ≤ (Nt : Int)) (hN : Nf ≤ 2000 ∧ Nt ≤ 2000) : ∀ (n : Nat) (k : Int), (0 ≤ k ∧ k ≤ 311) → 311 - k < n → AW l RX6 "bring" cX6_bring 5 none (fun _ => True) { frames := 0, cells := 0, slots := 0, locals := 0 } (hvE D (RV ad C (fun G1 => G1 = cpG G pt pl 311 pf at_)) (cw ad C G) 0 0) D (tyC C) (hvZ T (cw ad C G)) (cw ad C G) 3 [(0, .ref (ad idf)), (1, .int (iI at_)), (2, .ref (ad idt)), (3, .int (iI pl)), (4, .int (iI k))] [] (cw ad C ((cpG G pt pl k pf at_))) 0 0 := by
  intro n
  induction n with
  | zero => intro k hk hn; exact absurd hn (by omega)
  | succ n ih =>
    intro k hk hn
    refine aw_iload (q := 5) 4 dX6_bring_3 rfl rfl ?_
    refine aw_sipush (q := 8) dX6_bring_5 rfl (by decide) ?_
    refine aw_icmp_ge (q := 11) dX6_bring_8 rfl (t := 29) (by decide) (by omega) (by omega) (fun y1 => ?_) (fun y2 => ?_)
    · exact rt_v rfl (Nat.le_refl _) (Nat.le_refl _) (by rw [show k = 311 by omega]) dX6_bring_29
    · refine aw_aload_n (q := 12) 2 dX6_bring_11 rfl rfl rfl ?_
      refine aw_iload_n (q := 13) 3 dX6_bring_12 rfl rfl rfl ?_
      refine aw_iload (q := 15) 4 dX6_bring_13 rfl rfl ?_
      refine ae_iadd (q := 16) (pl + k) (by omega) dX6_bring_15 rfl ?_
      refine aw_aload_n (q := 17) 0 dX6_bring_16 rfl rfl rfl ?_
      refine aw_iload_n (q := 18) 1 dX6_bring_17 rfl rfl rfl ?_
      refine aw_iload (q := 20) 4 dX6_bring_18 rfl rfl ?_
      refine ae_iadd (q := 21) (at_ + k) (by omega) dX6_bring_20 rfl ?_
      refine aw_cial (q := 22) (v := (G pf (at_ + k))) (at_ + k) hf (by omega) (by omega) (cpG_ne (fun z => hne z.1)) dX6_bring_21 rfl ?_
      refine aw_cias (q := 23) (pl + k) htt (by omega) (by omega) dX6_bring_22 rfl ?_
      refine ae_iinc (q := 26) (lv2 := [(0, .ref (ad idf)), (1, .int (iI at_)), (2, .ref (ad idt)), (3, .int (iI pl)), (4, .int (iI (k + 1)))]) 4 [1, 2, 3, 4, 0] (k + 1) (by omega) dX6_bring_23 rfl rfl (by decide) rfl ?_
      refine aw_goto (q := 3) dX6_bring_26 (by decide) ?_
      rw [← cpG_succ G pt pl pf at_ hk.1 rfl]
      exact ih (k + 1) (by omega) (by omega)
set_option maxHeartbeats 4000000 in
set_option maxRecDepth 100000 in
theorem c_bring {l : Launch} {D : va_G} {C : Nat → ClassId} {T : Nat → Nat} {ad : Int → Nat} (G : GG) {idf idt pf pt at_ pl : Int} {Nf Nt : Nat} (hf : isArr ad C idf pf 0 Nf) (htt : isArr ad C idt pt 0 Nt) (hne : pf ≠ pt) (h1 : 0 ≤ at_ ∧ at_ + 311 ≤ (Nf : Int)) (h2 : 0 ≤ pl ∧ pl + 311 ≤ (Nt : Int)) (hN : Nf ≤ 2000 ∧ Nt ≤ 2000) : MC l yX6_bring cX6_bring 5 none 0 0 0 0 D (tyC C) T [.ref (ad idf), .int (iI at_), .ref (ad idt), .int (iI pl)] (cw ad C G) (RV ad C (fun G1 => G1 = cpG G pt pl 311 pf at_)) := by
  refine mc_of (by decide +kernel) (Nat.le_of_ble_eq_true rfl) rfl ?_
  refine aw_iconst (q := 1) dX6_bring_0 rfl ?_
  refine aw_istore (q := 3) (lv2 := [(0, .ref (ad idf)), (1, .int (iI at_)), (2, .ref (ad idt)), (3, .int (iI pl)), (4, .int (iI 0))]) [1, 2, 3, 4, 0] dX6_bring_1 rfl (by decide) rfl rfl ?_
  have h9 := L_bring (l := l) (D := D) (T := T) G hf htt hne h1 h2 hN 312 0 (by omega) (by omega)
  rw [cpG_0] at h9
  exact h9
set_option maxHeartbeats 4000000 in
set_option maxRecDepth 100000 in
theorem c_hold {l : Launch} {D : va_G} {C : Nat → ClassId} {T : Nat → Nat} {ad : Int → Nat} (G : GG)  : MC l yX6_hold cX6_hold 1 none 1 24 0 0 D (tyC C) T [.ref (ad 108)] (cw ad C G) (RV ad C (fun G1 => G1 = cpG (setG G 11 8 0) 13 0 311 12 0)) := by
  refine mc_of (by decide +kernel) (Nat.le_of_ble_eq_true rfl) rfl ?_
  refine aw_aload_n (q := 1) 0 dX6_hold_0 rfl rfl rfl ?_
  refine aw_iconst (q := 2) dX6_hold_1 rfl ?_
  refine p_mod_code (q := 5) wf_RX6_52 dX6_hold_2 rfl ?_
  refine aw_aload_n (q := 6) 0 dX6_hold_5 rfl rfl rfl ?_
  refine g_mod_p (q := 9) wf_RX6_7 dX6_hold_6 rfl ?_
  refine aw_iconst (q := 10) dX6_hold_9 rfl ?_
  refine aw_aload_n (q := 11) 0 dX6_hold_10 rfl rfl rfl ?_
  refine g_mod_aside (q := 14) wf_RX6_13 dX6_hold_11 rfl ?_
  refine aw_iconst (q := 15) dX6_hold_14 rfl ?_
  refine cs_V (q := 18) (As := [.ref (ad 109), .int (iI 0), .ref (ad 110), .int (iI 0)]) 4 (c_bring (T := T) (D := D) (setG G 11 8 0) (ar_109 ad C) (ar_110 ad C) (by omega) (by omega) (by omega) (by omega)) (fun _ h => h) wc_X6_bring wm_RX6_55 wt_X6_bring wn_X6 (by decide) rfl ⟨Nat.le_of_ble_eq_true rfl, Nat.le_of_ble_eq_true rfl⟩ ⟨Nat.le_of_ble_eq_true rfl, Nat.le_of_ble_eq_true rfl⟩ (Nat.le_of_ble_eq_true rfl) dX6_hold_15 rfl (fun G9 h9 => ?_)
  rw [h9]
  exact rt_v rfl (Nat.le_refl _) (Nat.le_refl _) (rfl) dX6_hold_18
