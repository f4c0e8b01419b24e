/-! digests -/
def wI (x : Int) : Int := (iI x).toInt
theorem wI_in {x : Int} (h : -2147483648 ≤ x ∧ x ≤ 2147483647) : wI x = x := iI_toInt h
theorem aw_i2lW {l : Launch} {own nm : String} {cc : ByteArray} {nL : Nat} {ret : Option FieldType} {X : Code → Prop} {R : Room} {E : List Frame → Array Value → State → State → Prop} {D : va_G} {C : Nat → ClassId} {Z : State → Prop} {w0 : va_W} {pc q : Nat} {lv : List (Nat × Value)} {st : List Value} {k n : Nat} {ad : Int → Nat} {G : GG} {x : Int} (d : decode cc pc = .ok (.i2l, 1)) (hq : pc + 1 = q)
    (kk : AW l own nm cc nL ret X R E D (tyC C) Z w0 q lv (.long (iL (wI x)) :: st) (cw ad C G) k n) : AW l own nm cc nL ret X R E D (tyC C) Z w0 pc lv (.int (iI x) :: st) (cw ad C G) k n := by
  have e : iI x = iI (wI x) := iI_of _
  rw [e]
  exact aw_i2l d hq (iI_rng _) kk
def mixF (h v : Int) : Int := 31 * h + wI v
def foldT (F : Int → Int) : Nat → Int → Int → Int
  | 0, _, h => h
  | n + 1, k, h => foldT F n (k + 1) (mixF h (F k))
theorem foldT_s (F : Int → Int) {N k : Int} (h : Int) (hk : k < N) : foldT F (N - k).toNat k h = foldT F (N - (k + 1)).toNat (k + 1) (mixF h (F k)) := by
  rw [show (N - k).toNat = (N - (k + 1)).toNat + 1 by omega]
  rfl
theorem foldT_0 (F : Int → Int) {N k : Int} (h : Int) (hk : ¬ k < N) : foldT F (N - k).toNat k h = h := by
  rw [show (N - k).toNat = 0 by omega]
  rfl
def coilT (g : Row) : Nat → Int → Int → Int
  | 0, _, h => h
  | n + 1, c, h => coilT g n (c + 1) (foldT (fun w => g (15 + 12 * c + w)) 11 0 h)
theorem coilT_s (g : Row) {N c : Int} (h : Int) (hk : c < N) : coilT g (N - c).toNat c h = coilT g (N - (c + 1)).toNat (c + 1) (foldT (fun w => g (15 + 12 * c + w)) 11 0 h) := by
  rw [show (N - c).toNat = (N - (c + 1)).toNat + 1 by omega]
  rfl
theorem coilT_0 (g : Row) {N c : Int} (h : Int) (hk : ¬ c < N) : coilT g (N - c).toNat c h = h := by
  rw [show (N - c).toNat = 0 by omega]
  rfl
/-- the digest, off the numbers' picture, the page, the length and the count of states -/
def dg5 (g : Row) (s h : Int) : Int := mixF (foldT (fun m => g (111 + m)) (g 14).toNat 0 h) s
def dg4 (g : Row) (s h : Int) : Int := dg5 g s (coilT g (g 13).toNat 0 h)
def dg3 (g : Row) (s h : Int) : Int := dg4 g s (foldT (fun k => g k) 9 0 h)
def dgF (nu : Int → Int) (g : Row) (len s : Int) : Int := dg3 g s (foldT nu 11 0 (mixF 3643 len))
theorem foldT_snoc (F : Int → Int) : ∀ (n : Nat) (k h : Int), foldT F (n + 1) k h = mixF (foldT F n k h) (F (k + n))
  | 0, k, h => by show mixF h (F k) = mixF h (F (k + ((0 : Nat) : Int))); rw [show k + ((0 : Nat) : Int) = k by omega]
  | n + 1, k, h => by
    show foldT F (n + 1) (k + 1) (mixF h (F k)) = mixF (foldT F n (k + 1) (mixF h (F k))) (F (k + ((n + 1 : Nat) : Int)))
    rw [foldT_snoc F n (k + 1) (mixF h (F k)), show k + 1 + (n : Int) = k + ((n + 1 : Nat) : Int) by omega]
theorem foldT_9 (F : Int → Int) (h : Int) : foldT F 9 0 h = foldT (fun k => F (5 + k)) 4 0 (foldT F 5 0 h) := by
  rw [foldT_snoc F 8, foldT_snoc F 7, foldT_snoc F 6, foldT_snoc F 5, foldT_snoc (fun k => F (5 + k)) 3, foldT_snoc (fun k => F (5 + k)) 2, foldT_snoc (fun k => F (5 + k)) 1, foldT_snoc (fun k => F (5 + k)) 0]
  rfl
set_option maxHeartbeats 4000000 in
set_option maxRecDepth 100000 in
theorem L_dg5 {l : Launch} {D : va_G} {C : Nat → ClassId} {T : Nat → Nat} {ad : Int → Nat} (G : GG) (o : okM G) {R9 : Int} : ∀ (n : Nat) (k : Int) (h : Int), (0 ≤ k ∧ k ≤ G 0 14) → G 0 14 - k < n → mixF (foldT (fun m => G 0 (111 + m)) (G 0 14 - k).toNat k h) (G 6 0) = R9 → AW l RX5 "digest" cX5_digest 5 (some .long) (fun _ => True) { frames := 3, cells := 0, slots := 0, locals := 65 } (hvE D (RL' ad C (fun r G1 => r = R9 ∧ G1 = G)) (cw ad C G) 0 0) D (tyC C) (hvZ T (cw ad C G)) (cw ad C G) 188 [(0, .ref (ad 102)), (1, .long (iL h)), (3, .int (iI k))] [] (cw ad C G) 0 0 := by
  intro n
  induction n with
  | zero => intro k h hk hn; exact absurd hn (by have := o.1.2.1; have := o.2.1.1; omega)
  | succ n ih =>
    intro k h hk hn hE
    have m13 := o.1.2.1
    have m14 := o.2.1.1
    have o6 := o.2.2.2.2.1
    refine aw_iload_n (q := 189) 2 dX5_digest_188 rfl rfl rfl ?_
    refine aw_aload_n (q := 190) 0 dX5_digest_189 rfl rfl rfl ?_
    refine g_cp_machine (q := 193) wf_RX5_10 dX5_digest_190 rfl ?_
    refine g_mach_till (q := 196) (i := 0) (by omega) wf_RX5_114 dX5_digest_193 rfl ?_
    refine g_till_promiseCount (q := 199) (i := 0) (by omega) (v := (G 0 14)) rfl wf_RX5_178 dX5_digest_196 rfl ?_
    refine aw_icmp_ge (q := 202) dX5_digest_199 rfl (t := 228) (by decide) (by omega) (by omega) (fun y1 => ?_) (fun y2 => ?_)
    · refine aw_ldc2 (q := 231) (x := 31) dX5_digest_228 rfl wk_RX5_242 (by decide) ?_
      refine aw_lload_n (q := 232) 1 dX5_digest_231 rfl rfl rfl ?_
      refine ae_lmul (q := 233) (31 * h) (by omega) dX5_digest_232 rfl ?_
      refine aw_aload_n (q := 234) 0 dX5_digest_233 rfl rfl rfl ?_
      refine g_cp_savedCount (q := 237) (v := (G 6 0)) rfl wf_RX5_23 dX5_digest_234 rfl ?_
      refine aw_i2lW (q := 238) dX5_digest_237 rfl ?_
      refine ae_ladd (q := 239) (31 * h + (wI (G 6 0))) (by omega) dX5_digest_238 rfl ?_
      exact rt_l rfl (Nat.le_refl _) (Nat.le_refl _) (⟨by rw [foldT_0 (fun m => G 0 (111 + m)) h (by omega)] at hE; exact hE, rfl⟩) dX5_digest_239
    · refine aw_ldc2 (q := 205) (x := 31) dX5_digest_202 rfl wk_RX5_242 (by decide) ?_
      refine aw_lload_n (q := 206) 1 dX5_digest_205 rfl rfl rfl ?_
      refine ae_lmul (q := 207) (31 * h) (by omega) dX5_digest_206 rfl ?_
      refine aw_aload_n (q := 208) 0 dX5_digest_207 rfl rfl rfl ?_
      refine g_cp_machine (q := 211) wf_RX5_10 dX5_digest_208 rfl ?_
      refine g_mach_till (q := 214) (i := 0) (by omega) wf_RX5_114 dX5_digest_211 rfl ?_
      refine g_till_promises (q := 217) (i := 0) (by omega) wf_RX5_183 dX5_digest_214 rfl ?_
      refine aw_iload_n (q := 218) 2 dX5_digest_217 rfl rfl rfl ?_
      refine aw_cial (q := 219) (v := (G 0 (111 + k))) (111 + k) (ar_prom ad C (i := 0) (by omega)) (by omega) (by omega) rfl dX5_digest_218 rfl ?_
      refine aw_i2lW (q := 220) dX5_digest_219 rfl ?_
      refine ae_ladd (q := 221) (31 * h + (wI ((G 0 (111 + k))))) (by omega) dX5_digest_220 rfl ?_
      refine aw_lstore_n (q := 222) (lv2 := [(0, .ref (ad 102)), (1, .long (iL (31 * h + (wI ((G 0 (111 + k))))))), (3, .int (iI k))]) [1, 0, 2] dX5_digest_221 rfl rfl (by decide) rfl rfl ?_
      refine ae_iinc (q := 225) (lv2 := [(0, .ref (ad 102)), (1, .long (iL (31 * h + (wI ((G 0 (111 + k))))))), (3, .int (iI (k + 1)))]) 2 [1, 2, 0] (k + 1) (by omega) dX5_digest_222 rfl rfl (by decide) rfl ?_
      refine aw_goto (q := 188) dX5_digest_225 (by decide) ?_
      exact ih (k + 1) _ (by omega) (by omega) (by rw [foldT_s (fun m => G 0 (111 + m)) h (by omega)] at hE; exact hE)
set_option maxHeartbeats 4000000 in
set_option maxRecDepth 100000 in
theorem L_dg4k {l : Launch} {D : va_G} {C : Nat → ClassId} {T : Nat → Nat} {ad : Int → Nat} (G : GG) (o : okM G) {R9 : Int} {c : Int} (hc : 0 ≤ c ∧ c < G 0 13) : ∀ (n : Nat) (k h : Int), (0 ≤ k ∧ k ≤ 10) → 10 - k < n → AW l RX5 "digest" cX5_digest 5 (some .long) (fun _ => True) { frames := 3, cells := 0, slots := 0, locals := 65 } (hvE D (RL' ad C (fun r G1 => r = R9 ∧ G1 = G)) (cw ad C G) 0 0) D (tyC C) (hvZ T (cw ad C G)) (cw ad C G) 108 [(0, .ref (ad 102)), (1, .long (iL ((mixF (foldT (fun w => G 0 (15 + 12 * c + w)) (10 - k).toNat k h) (G 0 (15 + 12 * c + 10)))))), (3, .int (iI (c + 1)))] [] (cw ad C G) 0 0 → AW l RX5 "digest" cX5_digest 5 (some .long) (fun _ => True) { frames := 3, cells := 0, slots := 0, locals := 65 } (hvE D (RL' ad C (fun r G1 => r = R9 ∧ G1 = G)) (cw ad C G) 0 0) D (tyC C) (hvZ T (cw ad C G)) (cw ad C G) 122 [(0, .ref (ad 102)), (1, .long (iL h)), (3, .int (iI c)), (4, .int (iI k))] [] (cw ad C G) 0 0 := by
  intro n
  induction n with
  | zero => intro k h hk hn; exact absurd hn (by omega)
  | succ n ih =>
    intro k h hk hn kO
    have m13 := o.1.2.1
    have m14 := o.2.1.1
    have o6 := o.2.2.2.2.1
    refine aw_iload (q := 124) 3 dX5_digest_122 rfl rfl ?_
    refine aw_bipush (q := 126) dX5_digest_124 rfl (by decide) ?_
    refine aw_icmp_ge (q := 129) dX5_digest_126 rfl (t := 157) (by decide) (by omega) (by omega) (fun y1 => ?_) (fun y2 => ?_)
    · refine aw_ldc2 (q := 160) (x := 31) dX5_digest_157 rfl wk_RX5_242 (by decide) ?_
      refine aw_lload_n (q := 161) 1 dX5_digest_160 rfl rfl rfl ?_
      refine ae_lmul (q := 162) (31 * h) (by omega) dX5_digest_161 rfl ?_
      refine aw_aload_n (q := 163) 0 dX5_digest_162 rfl rfl rfl ?_
      refine g_cp_machine (q := 166) wf_RX5_10 dX5_digest_163 rfl ?_
      refine g_mach_coils (q := 169) (i := 0) (by omega) wf_RX5_156 dX5_digest_166 rfl ?_
      refine aw_iload_n (q := 170) 2 dX5_digest_169 rfl rfl rfl ?_
      refine aw_coil (q := 171) (i := 0) (by omega) (by omega) dX5_digest_170 rfl ?_
      refine g_coil_wanted (q := 174) (i := 0) (c := c) (by omega) (by omega) (v := (G 0 (15 + 12 * c + 10))) rfl wf_RX5_165 dX5_digest_171 rfl ?_
      refine cs_I (q := 177) (As := [.float (fB ((G 0 (15 + 12 * c + 10))))]) 1 (c_bitsOf (T := T) (D := D) (ad := ad) G (x := G 0 (15 + 12 * c + 10)) (o.1.2.2 c (by omega) (by omega)).2.2.2.2.2.2.2.1) (fun _ h => h) wc_X5_bitsOf wm_RX5_244 wt_X5_bitsOf wn_X5 (by decide) rfl ⟨Nat.le_of_ble_eq_true rfl, Nat.le_of_ble_eq_true rfl⟩ ⟨Nat.le_of_ble_eq_true rfl, Nat.le_of_ble_eq_true rfl⟩ (Nat.le_of_ble_eq_true rfl) dX5_digest_174 rfl (fun r9 G9 h9 => ?_)
      rw [h9.1, h9.2]
      clear h9
      refine aw_i2lW (q := 178) dX5_digest_177 rfl ?_
      refine ae_ladd (q := 179) (31 * h + (wI ((G 0 (15 + 12 * c + 10))))) (by omega) dX5_digest_178 rfl ?_
      refine aw_lstore_n (q := 180) (lv2 := [(0, .ref (ad 102)), (1, .long (iL (31 * h + (wI ((G 0 (15 + 12 * c + 10))))))), (3, .int (iI c)), (4, .int (iI k))]) [1, 0, 2, 3] dX5_digest_179 rfl rfl (by decide) rfl rfl ?_
      refine ae_iinc (q := 183) (lv2 := [(0, .ref (ad 102)), (1, .long (iL (31 * h + (wI ((G 0 (15 + 12 * c + 10))))))), (3, .int (iI (c + 1))), (4, .int (iI k))]) 2 [1, 2, 0, 3] (c + 1) (by omega) dX5_digest_180 rfl rfl (by decide) rfl ?_
      refine aw_goto (q := 108) dX5_digest_183 (by decide) ?_
      refine aw_sub [0, 1, 2] rfl ?_
      rw [foldT_0 (fun w => G 0 (15 + 12 * c + w)) h (by omega)] at kO
      exact kO
    · refine aw_ldc2 (q := 132) (x := 31) dX5_digest_129 rfl wk_RX5_242 (by decide) ?_
      refine aw_lload_n (q := 133) 1 dX5_digest_132 rfl rfl rfl ?_
      refine ae_lmul (q := 134) (31 * h) (by omega) dX5_digest_133 rfl ?_
      refine aw_aload_n (q := 135) 0 dX5_digest_134 rfl rfl rfl ?_
      refine g_cp_machine (q := 138) wf_RX5_10 dX5_digest_135 rfl ?_
      refine g_mach_coils (q := 141) (i := 0) (by omega) wf_RX5_156 dX5_digest_138 rfl ?_
      refine aw_iload_n (q := 142) 2 dX5_digest_141 rfl rfl rfl ?_
      refine aw_coil (q := 143) (i := 0) (by omega) (by omega) dX5_digest_142 rfl ?_
      refine aw_iload (q := 145) 3 dX5_digest_143 rfl rfl ?_
      refine cv_I (q := 148) (CC := "") (id := 17 * 0 + 9 + c) (As := [.int (iI k)]) 1 (c_coil_fact (T := T) (D := D) (ad := ad) G (i := 0) (by omega) (by omega) (by omega)) (fun _ h => h) (by omega) (cell_coil ad C _ (i := 0) (c := c) (by omega) (by omega)) rfl wc_X0_fact wm_RX5_160 wi_X0_fact ws_X0_fact wn_X0 (by decide) rfl ⟨Nat.le_of_ble_eq_true rfl, Nat.le_of_ble_eq_true rfl⟩ ⟨Nat.le_of_ble_eq_true rfl, Nat.le_of_ble_eq_true rfl⟩ (Nat.le_of_ble_eq_true rfl) dX5_digest_145 rfl (fun r9 G9 h9 => ?_)
      rw [h9.1, h9.2]
      clear h9
      refine aw_i2lW (q := 149) dX5_digest_148 rfl ?_
      refine ae_ladd (q := 150) (31 * h + (wI ((G 0 (15 + 12 * c + k))))) (by omega) dX5_digest_149 rfl ?_
      refine aw_lstore_n (q := 151) (lv2 := [(0, .ref (ad 102)), (1, .long (iL (31 * h + (wI ((G 0 (15 + 12 * c + k))))))), (3, .int (iI c)), (4, .int (iI k))]) [1, 0, 2, 3] dX5_digest_150 rfl rfl (by decide) rfl rfl ?_
      refine ae_iinc (q := 154) (lv2 := [(0, .ref (ad 102)), (1, .long (iL (31 * h + (wI ((G 0 (15 + 12 * c + k))))))), (3, .int (iI c)), (4, .int (iI (k + 1)))]) 3 [1, 2, 3, 0] (k + 1) (by omega) dX5_digest_151 rfl rfl (by decide) rfl ?_
      refine aw_goto (q := 122) dX5_digest_154 (by decide) ?_
      refine ih (k + 1) _ (by omega) (by omega) ?_
      rw [foldT_s (fun w => G 0 (15 + 12 * c + w)) h (by omega)] at kO
      exact kO
theorem foldT_snoc10 {g : Row} {c h : Int} : foldT (fun w => g (15 + 12 * c + w)) 11 0 h = mixF (foldT (fun w => g (15 + 12 * c + w)) ((10 : Int) - 0).toNat 0 h) (g (15 + 12 * c + 10)) := foldT_snoc _ 10 0 h
set_option maxHeartbeats 4000000 in
set_option maxRecDepth 100000 in
theorem L_dg4 {l : Launch} {D : va_G} {C : Nat → ClassId} {T : Nat → Nat} {ad : Int → Nat} (G : GG) (o : okM G) {R9 : Int} : ∀ (n : Nat) (c : Int) (h : Int), (0 ≤ c ∧ c ≤ G 0 13) → G 0 13 - c < n → dg5 (G 0) (G 6 0) (coilT (G 0) (G 0 13 - c).toNat c h) = R9 → AW l RX5 "digest" cX5_digest 5 (some .long) (fun _ => True) { frames := 3, cells := 0, slots := 0, locals := 65 } (hvE D (RL' ad C (fun r G1 => r = R9 ∧ G1 = G)) (cw ad C G) 0 0) D (tyC C) (hvZ T (cw ad C G)) (cw ad C G) 108 [(0, .ref (ad 102)), (1, .long (iL h)), (3, .int (iI c))] [] (cw ad C G) 0 0 := by
  intro n
  induction n with
  | zero => intro c h hk hn; exact absurd hn (by have := o.1.2.1; have := o.2.1.1; omega)
  | succ n ih =>
    intro c h hk hn hE
    have m13 := o.1.2.1
    have m14 := o.2.1.1
    have o6 := o.2.2.2.2.1
    refine aw_iload_n (q := 109) 2 dX5_digest_108 rfl rfl rfl ?_
    refine aw_aload_n (q := 110) 0 dX5_digest_109 rfl rfl rfl ?_
    refine g_cp_machine (q := 113) wf_RX5_10 dX5_digest_110 rfl ?_
    refine g_mach_coilCount (q := 116) (i := 0) (by omega) (v := (G 0 13)) rfl wf_RX5_213 dX5_digest_113 rfl ?_
    refine aw_icmp_ge (q := 119) dX5_digest_116 rfl (t := 186) (by decide) (by omega) (by omega) (fun y1 => ?_) (fun y2 => ?_)
    · refine aw_iconst (q := 187) dX5_digest_186 rfl ?_
      refine aw_istore_n (q := 188) (lv2 := [(0, .ref (ad 102)), (1, .long (iL h)), (3, .int (iI 0))]) [1, 2, 0] dX5_digest_187 rfl rfl (by decide) rfl rfl ?_
      rw [coilT_0 _ h (by omega)] at hE
      exact L_dg5 G o 201 0 h (by omega) (by omega) (by rw [show (G 0 14 - 0).toNat = (G 0 14).toNat by omega]; exact hE)
    · refine aw_iconst (q := 120) dX5_digest_119 rfl ?_
      refine aw_istore (q := 122) (lv2 := [(0, .ref (ad 102)), (1, .long (iL h)), (3, .int (iI c)), (4, .int (iI 0))]) [1, 2, 3, 0] dX5_digest_120 rfl (by decide) rfl rfl ?_
      refine L_dg4k G o (c := c) ⟨by omega, by omega⟩ 11 0 h (by omega) (by omega) ?_
      rw [← foldT_snoc10]
      exact ih (c + 1) _ (by omega) (by omega) (by rw [coilT_s _ h (by omega)] at hE; exact hE)
set_option maxHeartbeats 4000000 in
set_option maxRecDepth 100000 in
theorem L_dg3t {l : Launch} {D : va_G} {C : Nat → ClassId} {T : Nat → Nat} {ad : Int → Nat} (G : GG) (o : okM G) {R9 : Int} : ∀ (n : Nat) (k : Int) (h : Int), (0 ≤ k ∧ k ≤ 4) → 4 - k < n → dg4 (G 0) (G 6 0) (foldT (fun k => G 0 (5 + k)) (4 - k).toNat k h) = R9 → AW l RX5 "digest" cX5_digest 5 (some .long) (fun _ => True) { frames := 3, cells := 0, slots := 0, locals := 65 } (hvE D (RL' ad C (fun r G1 => r = R9 ∧ G1 = G)) (cw ad C G) 0 0) D (tyC C) (hvZ T (cw ad C G)) (cw ad C G) 75 [(0, .ref (ad 102)), (1, .long (iL h)), (3, .int (iI k))] [] (cw ad C G) 0 0 := by
  intro n
  induction n with
  | zero => intro k h hk hn; exact absurd hn (by have := o.1.2.1; have := o.2.1.1; omega)
  | succ n ih =>
    intro k h hk hn hE
    have m13 := o.1.2.1
    have m14 := o.2.1.1
    have o6 := o.2.2.2.2.1
    refine aw_iload_n (q := 76) 2 dX5_digest_75 rfl rfl rfl ?_
    refine aw_iconst (q := 77) dX5_digest_76 rfl ?_
    refine aw_icmp_ge (q := 80) dX5_digest_77 rfl (t := 106) (by decide) (by omega) (by omega) (fun y1 => ?_) (fun y2 => ?_)
    · refine aw_iconst (q := 107) dX5_digest_106 rfl ?_
      refine aw_istore_n (q := 108) (lv2 := [(0, .ref (ad 102)), (1, .long (iL h)), (3, .int (iI 0))]) [1, 2, 0] dX5_digest_107 rfl rfl (by decide) rfl rfl ?_
      rw [foldT_0 (fun k => G 0 (5 + k)) h (by omega)] at hE
      exact L_dg4 G o 9 0 h (by omega) (by omega) (by rw [show (G 0 13 - 0).toNat = (G 0 13).toNat by omega]; exact hE)
    · refine aw_ldc2 (q := 83) (x := 31) dX5_digest_80 rfl wk_RX5_242 (by decide) ?_
      refine aw_lload_n (q := 84) 1 dX5_digest_83 rfl rfl rfl ?_
      refine ae_lmul (q := 85) (31 * h) (by omega) dX5_digest_84 rfl ?_
      refine aw_aload_n (q := 86) 0 dX5_digest_85 rfl rfl rfl ?_
      refine g_cp_machine (q := 89) wf_RX5_10 dX5_digest_86 rfl ?_
      refine g_mach_till (q := 92) (i := 0) (by omega) wf_RX5_114 dX5_digest_89 rfl ?_
      refine g_till_tubes (q := 95) (i := 0) (by omega) wf_RX5_169 dX5_digest_92 rfl ?_
      refine aw_iload_n (q := 96) 2 dX5_digest_95 rfl rfl rfl ?_
      refine aw_cial (q := 97) (v := (G 0 (5 + k))) (5 + k) (ar_tubes ad C (i := 0) (by omega)) (by omega) (by omega) rfl dX5_digest_96 rfl ?_
      refine aw_i2lW (q := 98) dX5_digest_97 rfl ?_
      refine ae_ladd (q := 99) (31 * h + (wI ((G 0 (5 + k))))) (by omega) dX5_digest_98 rfl ?_
      refine aw_lstore_n (q := 100) (lv2 := [(0, .ref (ad 102)), (1, .long (iL (31 * h + (wI ((G 0 (5 + k))))))), (3, .int (iI k))]) [1, 0, 2] dX5_digest_99 rfl rfl (by decide) rfl rfl ?_
      refine ae_iinc (q := 103) (lv2 := [(0, .ref (ad 102)), (1, .long (iL (31 * h + (wI ((G 0 (5 + k))))))), (3, .int (iI (k + 1)))]) 2 [1, 2, 0] (k + 1) (by omega) dX5_digest_100 rfl rfl (by decide) rfl ?_
      refine aw_goto (q := 75) dX5_digest_103 (by decide) ?_
      exact ih (k + 1) _ (by omega) (by omega) (by rw [foldT_s (fun k => G 0 (5 + k)) h (by omega)] at hE; exact hE)
set_option maxHeartbeats 4000000 in
set_option maxRecDepth 100000 in
theorem L_dg3s {l : Launch} {D : va_G} {C : Nat → ClassId} {T : Nat → Nat} {ad : Int → Nat} (G : GG) (o : okM G) {R9 : Int} : ∀ (n : Nat) (k : Int) (h : Int), (0 ≤ k ∧ k ≤ 5) → 5 - k < n → dg4 (G 0) (G 6 0) (foldT (fun k => G 0 (5 + k)) 4 0 (foldT (fun k => G 0 k) (5 - k).toNat k h)) = R9 → AW l RX5 "digest" cX5_digest 5 (some .long) (fun _ => True) { frames := 3, cells := 0, slots := 0, locals := 65 } (hvE D (RL' ad C (fun r G1 => r = R9 ∧ G1 = G)) (cw ad C G) 0 0) D (tyC C) (hvZ T (cw ad C G)) (cw ad C G) 45 [(0, .ref (ad 102)), (1, .long (iL h)), (3, .int (iI k))] [] (cw ad C G) 0 0 := by
  intro n
  induction n with
  | zero => intro k h hk hn; exact absurd hn (by have := o.1.2.1; have := o.2.1.1; omega)
  | succ n ih =>
    intro k h hk hn hE
    have m13 := o.1.2.1
    have m14 := o.2.1.1
    have o6 := o.2.2.2.2.1
    refine aw_iload_n (q := 46) 2 dX5_digest_45 rfl rfl rfl ?_
    refine aw_iconst (q := 47) dX5_digest_46 rfl ?_
    refine aw_icmp_ge (q := 50) dX5_digest_47 rfl (t := 73) (by decide) (by omega) (by omega) (fun y1 => ?_) (fun y2 => ?_)
    · refine aw_iconst (q := 74) dX5_digest_73 rfl ?_
      refine aw_istore_n (q := 75) (lv2 := [(0, .ref (ad 102)), (1, .long (iL h)), (3, .int (iI 0))]) [1, 2, 0] dX5_digest_74 rfl rfl (by decide) rfl rfl ?_
      rw [foldT_0 (fun k => G 0 k) h (by omega)] at hE
      exact L_dg3t G o 5 0 h (by omega) (by omega) hE
    · refine aw_ldc2 (q := 53) (x := 31) dX5_digest_50 rfl wk_RX5_242 (by decide) ?_
      refine aw_lload_n (q := 54) 1 dX5_digest_53 rfl rfl rfl ?_
      refine ae_lmul (q := 55) (31 * h) (by omega) dX5_digest_54 rfl ?_
      refine aw_aload_n (q := 56) 0 dX5_digest_55 rfl rfl rfl ?_
      refine g_cp_machine (q := 59) wf_RX5_10 dX5_digest_56 rfl ?_
      refine g_mach_settings (q := 62) (i := 0) (by omega) wf_RX5_175 dX5_digest_59 rfl ?_
      refine aw_iload_n (q := 63) 2 dX5_digest_62 rfl rfl rfl ?_
      refine aw_cial (q := 64) (v := (G 0 k)) k (ar_sets ad C (i := 0) (by omega)) (by omega) (by omega) rfl dX5_digest_63 rfl ?_
      refine aw_i2lW (q := 65) dX5_digest_64 rfl ?_
      refine ae_ladd (q := 66) (31 * h + (wI (G 0 k))) (by omega) dX5_digest_65 rfl ?_
      refine aw_lstore_n (q := 67) (lv2 := [(0, .ref (ad 102)), (1, .long (iL (31 * h + (wI (G 0 k))))), (3, .int (iI k))]) [1, 0, 2] dX5_digest_66 rfl rfl (by decide) rfl rfl ?_
      refine ae_iinc (q := 70) (lv2 := [(0, .ref (ad 102)), (1, .long (iL (31 * h + (wI (G 0 k))))), (3, .int (iI (k + 1)))]) 2 [1, 2, 0] (k + 1) (by omega) dX5_digest_67 rfl rfl (by decide) rfl ?_
      refine aw_goto (q := 45) dX5_digest_70 (by decide) ?_
      exact ih (k + 1) _ (by omega) (by omega) (by rw [foldT_s (fun k => G 0 k) h (by omega)] at hE; exact hE)
set_option maxHeartbeats 4000000 in
set_option maxRecDepth 100000 in
theorem L_dg2 {l : Launch} {D : va_G} {C : Nat → ClassId} {T : Nat → Nat} {ad : Int → Nat} (G : GG) (o : okM G) {R9 : Int} : ∀ (n : Nat) (k : Int) (h : Int), (0 ≤ k ∧ k ≤ 11) → 11 - k < n → dg3 (G 0) (G 6 0) (foldT (numF (G 0)) (11 - k).toNat k h) = R9 → AW l RX5 "digest" cX5_digest 5 (some .long) (fun _ => True) { frames := 3, cells := 0, slots := 0, locals := 65 } (hvE D (RL' ad C (fun r G1 => r = R9 ∧ G1 = G)) (cw ad C G) 0 0) D (tyC C) (hvZ T (cw ad C G)) (cw ad C G) 15 [(0, .ref (ad 102)), (1, .long (iL h)), (3, .int (iI k))] [] (cw ad C G) 0 0 := by
  intro n
  induction n with
  | zero => intro k h hk hn; exact absurd hn (by have := o.1.2.1; have := o.2.1.1; omega)
  | succ n ih =>
    intro k h hk hn hE
    have m13 := o.1.2.1
    have m14 := o.2.1.1
    have o6 := o.2.2.2.2.1
    refine aw_iload_n (q := 16) 2 dX5_digest_15 rfl rfl rfl ?_
    refine aw_bipush (q := 18) dX5_digest_16 rfl (by decide) ?_
    refine aw_icmp_ge (q := 21) dX5_digest_18 rfl (t := 43) (by decide) (by omega) (by omega) (fun y1 => ?_) (fun y2 => ?_)
    · refine aw_iconst (q := 44) dX5_digest_43 rfl ?_
      refine aw_istore_n (q := 45) (lv2 := [(0, .ref (ad 102)), (1, .long (iL h)), (3, .int (iI 0))]) [1, 2, 0] dX5_digest_44 rfl rfl (by decide) rfl rfl ?_
      rw [foldT_0 (numF (G 0)) h (by omega)] at hE
      exact L_dg3s G o 6 0 h (by omega) (by omega) (by rw [← hE]; exact congrArg (dg4 (G 0) (G 6 0)) (foldT_9 (fun k => G 0 k) h).symm)
    · refine aw_ldc2 (q := 24) (x := 31) dX5_digest_21 rfl wk_RX5_242 (by decide) ?_
      refine aw_lload_n (q := 25) 1 dX5_digest_24 rfl rfl rfl ?_
      refine ae_lmul (q := 26) (31 * h) (by omega) dX5_digest_25 rfl ?_
      refine aw_aload_n (q := 27) 0 dX5_digest_26 rfl rfl rfl ?_
      refine g_cp_machine (q := 30) wf_RX5_10 dX5_digest_27 rfl ?_
      refine aw_iload_n (q := 31) 2 dX5_digest_30 rfl rfl rfl ?_
      refine cv_I (q := 34) (CC := "") (id := 0) (As := [.int (iI k)]) 1 (c_m_number (T := T) (D := D) (ad := ad) G (i := 0) (by omega) o.1.2.1 (fun k z0 z1 => by have := o.2.1.2.2 k z0 z1; omega) (by omega)) (fun _ h => h) (by omega) (cell_mach ad C _ (i := 0) (by omega)) rfl wc_X1_number wm_RX5_172 wi_X1_number ws_X1_number wn_X1 (by decide) rfl ⟨Nat.le_of_ble_eq_true rfl, Nat.le_of_ble_eq_true rfl⟩ ⟨Nat.le_of_ble_eq_true rfl, Nat.le_of_ble_eq_true rfl⟩ (Nat.le_of_ble_eq_true rfl) dX5_digest_31 rfl (fun r9 G9 h9 => ?_)
      rw [h9.1, h9.2]
      clear h9
      refine aw_i2lW (q := 35) dX5_digest_34 rfl ?_
      refine ae_ladd (q := 36) (31 * h + (wI ((numF (G 0) k)))) (by omega) dX5_digest_35 rfl ?_
      refine aw_lstore_n (q := 37) (lv2 := [(0, .ref (ad 102)), (1, .long (iL (31 * h + (wI ((numF (G 0) k)))))), (3, .int (iI k))]) [1, 0, 2] dX5_digest_36 rfl rfl (by decide) rfl rfl ?_
      refine ae_iinc (q := 40) (lv2 := [(0, .ref (ad 102)), (1, .long (iL (31 * h + (wI ((numF (G 0) k)))))), (3, .int (iI (k + 1)))]) 2 [1, 2, 0] (k + 1) (by omega) dX5_digest_37 rfl rfl (by decide) rfl ?_
      refine aw_goto (q := 15) dX5_digest_40 (by decide) ?_
      exact ih (k + 1) _ (by omega) (by omega) (by rw [foldT_s (numF (G 0)) h (by omega)] at hE; exact hE)
set_option maxHeartbeats 4000000 in
set_option maxRecDepth 100000 in
theorem c_digest {l : Launch} {D : va_G} {C : Nat → ClassId} {T : Nat → Nat} {ad : Int → Nat} (G : GG) (o : okM G) : MC l yX5_digest cX5_digest 5 (some .long) 3 65 0 0 D (tyC C) T [.ref (ad 102)] (cw ad C G) (RL' ad C (fun r G1 => r = dgF (numF (G 0)) (G 0) (G 7 1) (G 6 0) ∧ G1 = G)) := by
  refine mc_of (by decide +kernel) (Nat.le_of_ble_eq_true rfl) rfl ?_
  refine aw_ldc2 (q := 3) (x := 112933) dX5_digest_0 rfl wk_RX5_240 (by decide) ?_
  refine aw_aload_n (q := 4) 0 dX5_digest_3 rfl rfl rfl ?_
  refine g_cp_text (q := 7) wf_RX5_30 dX5_digest_4 rfl ?_
  refine g_text_length (q := 10) (v := (G 7 1)) rfl wf_RX5_218 dX5_digest_7 rfl ?_
  refine aw_i2lW (q := 11) dX5_digest_10 rfl ?_
  refine ae_ladd (q := 12) ((wI (G 7 1)) + 112933) (by omega) dX5_digest_11 rfl ?_
  refine aw_lstore_n (q := 13) (lv2 := [(0, .ref (ad 102)), (1, .long (iL ((wI (G 7 1)) + 112933)))]) [1, 0] dX5_digest_12 rfl rfl (by decide) rfl rfl ?_
  refine aw_iconst (q := 14) dX5_digest_13 rfl ?_
  refine aw_istore_n (q := 15) (lv2 := [(0, .ref (ad 102)), (1, .long (iL ((wI (G 7 1)) + 112933))), (3, .int (iI 0))]) [1, 2, 0] dX5_digest_14 rfl rfl (by decide) rfl rfl ?_
  have e9 : mixF 3643 (G 7 1) = wI (G 7 1) + 112933 := by unfold mixF; omega
  refine L_dg2 G o 12 0 _ (by omega) (by omega) ?_
  unfold dgF
  rw [e9, show ((11 : Int) - 0).toNat = 11 from rfl]
set_option maxHeartbeats 4000000 in
set_option maxRecDepth 100000 in
theorem c_mix {l : Launch} {D : va_G} {C : Nat → ClassId} {T : Nat → Nat} {ad : Int → Nat} (G : GG) {v : Int} : MC l yX6_mix cX6_mix 2 none 0 0 0 0 D (tyC C) T [.ref (ad 108), .int (iI v)] (cw ad C G) (RV ad C (fun G1 => G1 = setG G 11 18 (mixF (G 11 18) v))) := by
  refine mc_of (by decide +kernel) (Nat.le_of_ble_eq_true rfl) rfl ?_
  refine aw_aload_n (q := 1) 0 dX6_mix_0 rfl rfl rfl ?_
  refine aw_ldc2 (q := 4) (x := 31) dX6_mix_1 rfl wk_RX6_209 (by decide) ?_
  refine aw_aload_n (q := 5) 0 dX6_mix_4 rfl rfl rfl ?_
  refine g_mod_hash (q := 8) (v := (G 11 18)) rfl wf_RX6_211 dX6_mix_5 rfl ?_
  refine ae_lmul (q := 9) (31 * (G 11 18)) (by omega) dX6_mix_8 rfl ?_
  refine aw_iload_n (q := 10) 1 dX6_mix_9 rfl rfl rfl ?_
  refine aw_i2lW (q := 11) dX6_mix_10 rfl ?_
  refine ae_ladd (q := 12) (31 * (G 11 18) + (wI v)) (by omega) dX6_mix_11 rfl ?_
  refine p_mod_hash (q := 15) wf_RX6_211 dX6_mix_12 rfl ?_
  exact rt_v rfl (Nat.le_refl _) (Nat.le_refl _) (rfl) dX6_mix_15
set_option maxHeartbeats 4000000 in
set_option maxRecDepth 100000 in
theorem L_dm5 {l : Launch} {D : va_G} {C : Nat → ClassId} {T : Nat → Nat} {ad : Int → Nat} (G : GG) (oN : okN12 G) {R9 : Int} (K : GG) (hs : sameB (fun x y => x = 11 ∧ (y = 7 ∨ y = 18)) G K) (h7 : K 11 7 = 0)  : ∀ (n : Nat) (k : Int) (h : Int), (0 ≤ k ∧ k ≤ G 12 14) → G 12 14 - k < n → mixF (foldT (fun m => G 12 (111 + m)) (G 12 14 - k).toNat k h) (G 11 4) = R9 → AW l RX6 "digest" cX6_digest 3 (some .long) (fun _ => True) { frames := 3, cells := 0, slots := 0, locals := 66 } (hvE D (RL' ad C (fun r G1 => r = R9 ∧ quiet G G1 ∧ G1 11 7 = 0)) (cw ad C G) 0 0) D (tyC C) (hvZ T (cw ad C G)) (cw ad C G) 114 [(0, .ref (ad 108)), (1, .int (iI k))] [] (cw ad C ((setG K 11 18 h))) 0 0 := by
  intro n
  induction n with
  | zero => intro k h hk hn; exact absurd hn (by have := (okN12_H oN).2.1; have := (okN12_P oN).1; omega)
  | succ n ih =>
    intro k h hk hn hE
    have m13 := (okN12_H oN).2.1
    have m14 := (okN12_P oN).1
    refine aw_iload_n (q := 115) 1 dX6_digest_114 rfl rfl rfl ?_
    refine aw_aload_n (q := 116) 0 dX6_digest_115 rfl rfl rfl ?_
    refine g_mod_p (q := 119) wf_RX6_7 dX6_digest_116 rfl ?_
    refine aw_bipush (q := 121) dX6_digest_119 rfl (by decide) ?_
    refine aw_cial (q := 122) (v := (G 12 14)) 14 (ar_109 ad C) (by omega) (by omega) (((setG_ne (by omega)).trans (hs 12 _ (by omega)))) dX6_digest_121 rfl ?_
    refine aw_icmp_ge (q := 125) dX6_digest_122 rfl (t := 144) (by decide) (by omega) (by omega) (fun y1 => ?_) (fun y2 => ?_)
    · refine aw_aload_n (q := 145) 0 dX6_digest_144 rfl rfl rfl ?_
      refine aw_aload_n (q := 146) 0 dX6_digest_145 rfl rfl rfl ?_
      refine g_mod_states (q := 149) (v := (G 11 4)) (((setG_ne (by omega)).trans (hs 11 _ (by omega)))) wf_RX6_59 dX6_digest_146 rfl ?_
      refine cv_V (q := 152) (CC := "") (id := 108) (As := [.int (iI (G 11 4))]) 1 (c_mix (T := T) (D := D) (ad := ad) (setG K 11 18 h) (v := (G 11 4))) (fun _ h => h) (by omega) (cell_108 ad C _) rfl wc_X6_mix wm_RX6_217 wi_X6_mix ws_X6_mix wn_X6 (by decide) rfl ⟨Nat.le_of_ble_eq_true rfl, Nat.le_of_ble_eq_true rfl⟩ ⟨Nat.le_of_ble_eq_true rfl, Nat.le_of_ble_eq_true rfl⟩ (Nat.le_of_ble_eq_true rfl) dX6_digest_149 rfl (fun G9 h9 => ?_)
      rw [setG_same, setG_setG] at h9
      rw [h9]
      clear h9
      refine aw_aload_n (q := 153) 0 dX6_digest_152 rfl rfl rfl ?_
      refine g_mod_hash (q := 156) (v := ((setG K 11 18 (mixF h (G 11 4))) 11 18)) rfl wf_RX6_211 dX6_digest_153 rfl ?_
      exact rt_l rfl (Nat.le_refl _) (Nat.le_refl _) (⟨by rw [foldT_0 (fun m => G 12 (111 + m)) h (by omega)] at hE; exact hE, ⟨fun y _ _ => (setG_ne (by omega)).trans (hs 12 y (by omega)), fun x y z => (setG_ne (by omega)).trans (hs x y (by omega))⟩, (setG_ne (by omega)).trans h7⟩) dX6_digest_156
    · refine aw_aload_n (q := 126) 0 dX6_digest_125 rfl rfl rfl ?_
      refine aw_aload_n (q := 127) 0 dX6_digest_126 rfl rfl rfl ?_
      refine g_mod_p (q := 130) wf_RX6_7 dX6_digest_127 rfl ?_
      refine aw_bipush (q := 132) dX6_digest_130 rfl (by decide) ?_
      refine aw_iload_n (q := 133) 1 dX6_digest_132 rfl rfl rfl ?_
      refine ae_iadd (q := 134) (111 + k) (by omega) dX6_digest_133 rfl ?_
      refine aw_cial (q := 135) (v := (G 12 (111 + k))) (111 + k) (ar_109 ad C) (by omega) (by omega) (((setG_ne (by omega)).trans (hs 12 _ (by omega)))) dX6_digest_134 rfl ?_
      refine cv_V (q := 138) (CC := "") (id := 108) (As := [.int (iI ((G 12 (111 + k))))]) 1 (c_mix (T := T) (D := D) (ad := ad) (setG K 11 18 h) (v := ((G 12 (111 + k))))) (fun _ h => h) (by omega) (cell_108 ad C _) rfl wc_X6_mix wm_RX6_217 wi_X6_mix ws_X6_mix wn_X6 (by decide) rfl ⟨Nat.le_of_ble_eq_true rfl, Nat.le_of_ble_eq_true rfl⟩ ⟨Nat.le_of_ble_eq_true rfl, Nat.le_of_ble_eq_true rfl⟩ (Nat.le_of_ble_eq_true rfl) dX6_digest_135 rfl (fun G9 h9 => ?_)
      rw [setG_same, setG_setG] at h9
      rw [h9]
      clear h9
      refine ae_iinc (q := 141) (lv2 := [(0, .ref (ad 108)), (1, .int (iI (k + 1)))]) 1 [1, 0] (k + 1) (by omega) dX6_digest_138 rfl rfl (by decide) rfl ?_
      refine aw_goto (q := 114) dX6_digest_141 (by decide) ?_
      exact ih (k + 1) _ (by omega) (by omega) (by rw [foldT_s (fun m => G 12 (111 + m)) h (by omega)] at hE; exact hE)
set_option maxHeartbeats 4000000 in
set_option maxRecDepth 100000 in
theorem L_dm4k {l : Launch} {D : va_G} {C : Nat → ClassId} {T : Nat → Nat} {ad : Int → Nat} (G : GG) (oN : okN12 G) {R9 : Int} (K : GG) (hs : sameB (fun x y => x = 11 ∧ (y = 7 ∨ y = 18)) G K) {c : Int} (hc : 0 ≤ c ∧ c < G 12 13) : ∀ (n : Nat) (k h : Int), (0 ≤ k ∧ k ≤ 11) → 11 - k < n → AW l RX6 "digest" cX6_digest 3 (some .long) (fun _ => True) { frames := 3, cells := 0, slots := 0, locals := 66 } (hvE D (RL' ad C (fun r G1 => r = R9 ∧ quiet G G1 ∧ G1 11 7 = 0)) (cw ad C G) 0 0) D (tyC C) (hvZ T (cw ad C G)) (cw ad C G) 71 [(0, .ref (ad 108)), (1, .int (iI (c + 1)))] [] (cw ad C ((setG K 11 18 (foldT (fun w => G 12 (15 + 12 * c + w)) (11 - k).toNat k h)))) 0 0 → AW l RX6 "digest" cX6_digest 3 (some .long) (fun _ => True) { frames := 3, cells := 0, slots := 0, locals := 66 } (hvE D (RL' ad C (fun r G1 => r = R9 ∧ quiet G G1 ∧ G1 11 7 = 0)) (cw ad C G) 0 0) D (tyC C) (hvZ T (cw ad C G)) (cw ad C G) 84 [(0, .ref (ad 108)), (1, .int (iI c)), (2, .int (iI k))] [] (cw ad C ((setG K 11 18 h))) 0 0 := by
  intro n
  induction n with
  | zero => intro k h hk hn; exact absurd hn (by omega)
  | succ n ih =>
    intro k h hk hn kO
    have m13 := (okN12_H oN).2.1
    have m14 := (okN12_P oN).1
    refine aw_iload_n (q := 85) 2 dX6_digest_84 rfl rfl rfl ?_
    refine aw_bipush (q := 87) dX6_digest_85 rfl (by decide) ?_
    refine aw_icmp_ge (q := 90) dX6_digest_87 rfl (t := 106) (by decide) (by omega) (by omega) (fun y1 => ?_) (fun y2 => ?_)
    · refine ae_iinc (q := 109) (lv2 := [(0, .ref (ad 108)), (1, .int (iI (c + 1))), (2, .int (iI k))]) 1 [1, 0, 2] (c + 1) (by omega) dX6_digest_106 rfl rfl (by decide) rfl ?_
      refine aw_goto (q := 71) dX6_digest_109 (by decide) ?_
      refine aw_sub [0, 1] rfl ?_
      rw [foldT_0 (fun w => G 12 (15 + 12 * c + w)) h (by omega)] at kO
      exact kO
    · refine aw_aload_n (q := 91) 0 dX6_digest_90 rfl rfl rfl ?_
      refine aw_aload_n (q := 92) 0 dX6_digest_91 rfl rfl rfl ?_
      refine aw_iload_n (q := 93) 1 dX6_digest_92 rfl rfl rfl ?_
      refine aw_iload_n (q := 94) 2 dX6_digest_93 rfl rfl rfl ?_
      refine cv_I (q := 97) (CC := "") (id := 108) (As := [.int (iI c), .int (iI k)]) 2 (c_of (T := T) (D := D) (ad := ad) (setG K 11 18 h) (by omega) (by omega)) (fun _ h => h) (by omega) (cell_108 ad C _) rfl wc_X6_of wm_RX6_100 wi_X6_of ws_X6_of wn_X6 (by decide) rfl ⟨Nat.le_of_ble_eq_true rfl, Nat.le_of_ble_eq_true rfl⟩ ⟨Nat.le_of_ble_eq_true rfl, Nat.le_of_ble_eq_true rfl⟩ (Nat.le_of_ble_eq_true rfl) dX6_digest_94 rfl (fun r9 G9 h9 => ?_)
      obtain ⟨e9, g9⟩ := h9
      rw [e9.trans ((setG_ne (by omega)).trans (hs 12 _ (by omega))), g9]
      clear e9 g9
      refine cv_V (q := 100) (CC := "") (id := 108) (As := [.int (iI ((G 12 (15 + 12 * c + k))))]) 1 (c_mix (T := T) (D := D) (ad := ad) (setG K 11 18 h) (v := ((G 12 (15 + 12 * c + k))))) (fun _ h => h) (by omega) (cell_108 ad C _) rfl wc_X6_mix wm_RX6_217 wi_X6_mix ws_X6_mix wn_X6 (by decide) rfl ⟨Nat.le_of_ble_eq_true rfl, Nat.le_of_ble_eq_true rfl⟩ ⟨Nat.le_of_ble_eq_true rfl, Nat.le_of_ble_eq_true rfl⟩ (Nat.le_of_ble_eq_true rfl) dX6_digest_97 rfl (fun G9 h9 => ?_)
      rw [setG_same, setG_setG] at h9
      rw [h9]
      clear h9
      refine ae_iinc (q := 103) (lv2 := [(0, .ref (ad 108)), (1, .int (iI c)), (2, .int (iI (k + 1)))]) 2 [1, 2, 0] (k + 1) (by omega) dX6_digest_100 rfl rfl (by decide) rfl ?_
      refine aw_goto (q := 84) dX6_digest_103 (by decide) ?_
      refine ih (k + 1) _ (by omega) (by omega) ?_
      rw [foldT_s (fun w => G 12 (15 + 12 * c + w)) h (by omega)] at kO
      exact kO
set_option maxHeartbeats 4000000 in
set_option maxRecDepth 100000 in
theorem L_dm4 {l : Launch} {D : va_G} {C : Nat → ClassId} {T : Nat → Nat} {ad : Int → Nat} (G : GG) (oN : okN12 G) {R9 : Int} (K : GG) (hs : sameB (fun x y => x = 11 ∧ (y = 7 ∨ y = 18)) G K) (h7 : K 11 7 = 0)  : ∀ (n : Nat) (c : Int) (h : Int), (0 ≤ c ∧ c ≤ G 12 13) → G 12 13 - c < n → dg5 (G 12) (G 11 4) (coilT (G 12) (G 12 13 - c).toNat c h) = R9 → AW l RX6 "digest" cX6_digest 3 (some .long) (fun _ => True) { frames := 3, cells := 0, slots := 0, locals := 66 } (hvE D (RL' ad C (fun r G1 => r = R9 ∧ quiet G G1 ∧ G1 11 7 = 0)) (cw ad C G) 0 0) D (tyC C) (hvZ T (cw ad C G)) (cw ad C G) 71 [(0, .ref (ad 108)), (1, .int (iI c))] [] (cw ad C ((setG K 11 18 h))) 0 0 := by
  intro n
  induction n with
  | zero => intro c h hk hn; exact absurd hn (by have := (okN12_H oN).2.1; have := (okN12_P oN).1; omega)
  | succ n ih =>
    intro c h hk hn hE
    have m13 := (okN12_H oN).2.1
    have m14 := (okN12_P oN).1
    refine aw_iload_n (q := 72) 1 dX6_digest_71 rfl rfl rfl ?_
    refine aw_aload_n (q := 73) 0 dX6_digest_72 rfl rfl rfl ?_
    refine g_mod_p (q := 76) wf_RX6_7 dX6_digest_73 rfl ?_
    refine aw_bipush (q := 78) dX6_digest_76 rfl (by decide) ?_
    refine aw_cial (q := 79) (v := (G 12 13)) 13 (ar_109 ad C) (by omega) (by omega) (((setG_ne (by omega)).trans (hs 12 _ (by omega)))) dX6_digest_78 rfl ?_
    refine aw_icmp_ge (q := 82) dX6_digest_79 rfl (t := 112) (by decide) (by omega) (by omega) (fun y1 => ?_) (fun y2 => ?_)
    · refine aw_iconst (q := 113) dX6_digest_112 rfl ?_
      refine aw_istore_n (q := 114) (lv2 := [(0, .ref (ad 108)), (1, .int (iI 0))]) [1, 0] dX6_digest_113 rfl rfl (by decide) rfl rfl ?_
      rw [coilT_0 _ h (by omega)] at hE
      exact L_dm5 G oN K hs h7 201 0 h (by omega) (by omega) (by rw [show (G 12 14 - 0).toNat = (G 12 14).toNat by omega]; exact hE)
    · refine aw_iconst (q := 83) dX6_digest_82 rfl ?_
      refine aw_istore_n (q := 84) (lv2 := [(0, .ref (ad 108)), (1, .int (iI c)), (2, .int (iI 0))]) [1, 2, 0] dX6_digest_83 rfl rfl (by decide) rfl rfl ?_
      refine L_dm4k G oN K hs (c := c) ⟨by omega, by omega⟩ 12 0 h (by omega) (by omega) ?_
      exact ih (c + 1) _ (by omega) (by omega) (by rw [coilT_s _ h (by omega)] at hE; exact hE)
set_option maxHeartbeats 4000000 in
set_option maxRecDepth 100000 in
theorem L_dm3 {l : Launch} {D : va_G} {C : Nat → ClassId} {T : Nat → Nat} {ad : Int → Nat} (G : GG) (oN : okN12 G) {R9 : Int} (K : GG) (hs : sameB (fun x y => x = 11 ∧ (y = 7 ∨ y = 18)) G K) (h7 : K 11 7 = 0)  : ∀ (n : Nat) (k : Int) (h : Int), (0 ≤ k ∧ k ≤ 9) → 9 - k < n → dg4 (G 12) (G 11 4) (foldT (fun k => G 12 k) (9 - k).toNat k h) = R9 → AW l RX6 "digest" cX6_digest 3 (some .long) (fun _ => True) { frames := 3, cells := 0, slots := 0, locals := 66 } (hvE D (RL' ad C (fun r G1 => r = R9 ∧ quiet G G1 ∧ G1 11 7 = 0)) (cw ad C G) 0 0) D (tyC C) (hvZ T (cw ad C G)) (cw ad C G) 45 [(0, .ref (ad 108)), (1, .int (iI k))] [] (cw ad C ((setG K 11 18 h))) 0 0 := by
  intro n
  induction n with
  | zero => intro k h hk hn; exact absurd hn (by have := (okN12_H oN).2.1; have := (okN12_P oN).1; omega)
  | succ n ih =>
    intro k h hk hn hE
    have m13 := (okN12_H oN).2.1
    have m14 := (okN12_P oN).1
    refine aw_iload_n (q := 46) 1 dX6_digest_45 rfl rfl rfl ?_
    refine aw_bipush (q := 48) dX6_digest_46 rfl (by decide) ?_
    refine aw_icmp_ge (q := 51) dX6_digest_48 rfl (t := 69) (by decide) (by omega) (by omega) (fun y1 => ?_) (fun y2 => ?_)
    · refine aw_iconst (q := 70) dX6_digest_69 rfl ?_
      refine aw_istore_n (q := 71) (lv2 := [(0, .ref (ad 108)), (1, .int (iI 0))]) [1, 0] dX6_digest_70 rfl rfl (by decide) rfl rfl ?_
      rw [foldT_0 (fun k => G 12 k) h (by omega)] at hE
      exact L_dm4 G oN K hs h7 9 0 h (by omega) (by omega) (by rw [show (G 12 13 - 0).toNat = (G 12 13).toNat by omega]; exact hE)
    · refine aw_aload_n (q := 52) 0 dX6_digest_51 rfl rfl rfl ?_
      refine aw_aload_n (q := 53) 0 dX6_digest_52 rfl rfl rfl ?_
      refine g_mod_p (q := 56) wf_RX6_7 dX6_digest_53 rfl ?_
      refine aw_iconst (q := 57) dX6_digest_56 rfl ?_
      refine aw_iload_n (q := 58) 1 dX6_digest_57 rfl rfl rfl ?_
      refine ae_iadd (q := 59) k (by omega) dX6_digest_58 rfl ?_
      refine aw_cial (q := 60) (v := (G 12 k)) k (ar_109 ad C) (by omega) (by omega) (((setG_ne (by omega)).trans (hs 12 _ (by omega)))) dX6_digest_59 rfl ?_
      refine cv_V (q := 63) (CC := "") (id := 108) (As := [.int (iI (G 12 k))]) 1 (c_mix (T := T) (D := D) (ad := ad) (setG K 11 18 h) (v := (G 12 k))) (fun _ h => h) (by omega) (cell_108 ad C _) rfl wc_X6_mix wm_RX6_217 wi_X6_mix ws_X6_mix wn_X6 (by decide) rfl ⟨Nat.le_of_ble_eq_true rfl, Nat.le_of_ble_eq_true rfl⟩ ⟨Nat.le_of_ble_eq_true rfl, Nat.le_of_ble_eq_true rfl⟩ (Nat.le_of_ble_eq_true rfl) dX6_digest_60 rfl (fun G9 h9 => ?_)
      rw [setG_same, setG_setG] at h9
      rw [h9]
      clear h9
      refine ae_iinc (q := 66) (lv2 := [(0, .ref (ad 108)), (1, .int (iI (k + 1)))]) 1 [1, 0] (k + 1) (by omega) dX6_digest_63 rfl rfl (by decide) rfl ?_
      refine aw_goto (q := 45) dX6_digest_66 (by decide) ?_
      exact ih (k + 1) _ (by omega) (by omega) (by rw [foldT_s (fun k => G 12 k) h (by omega)] at hE; exact hE)
set_option maxHeartbeats 4000000 in
set_option maxRecDepth 100000 in
theorem L_dm2 {l : Launch} {D : va_G} {C : Nat → ClassId} {T : Nat → Nat} {ad : Int → Nat} (G : GG) (oN : okN12 G) {R9 : Int} (K : GG) (hs : sameB (fun x y => x = 11 ∧ (y = 7 ∨ y = 18)) G K) (h7 : K 11 7 = 0)  : ∀ (n : Nat) (k : Int) (h : Int), (0 ≤ k ∧ k ≤ 11) → 11 - k < n → dg3 (G 12) (G 11 4) (foldT (numM G) (11 - k).toNat k h) = R9 → AW l RX6 "digest" cX6_digest 3 (some .long) (fun _ => True) { frames := 3, cells := 0, slots := 0, locals := 66 } (hvE D (RL' ad C (fun r G1 => r = R9 ∧ quiet G G1 ∧ G1 11 7 = 0)) (cw ad C G) 0 0) D (tyC C) (hvZ T (cw ad C G)) (cw ad C G) 22 [(0, .ref (ad 108)), (1, .int (iI k))] [] (cw ad C ((setG K 11 18 h))) 0 0 := by
  intro n
  induction n with
  | zero => intro k h hk hn; exact absurd hn (by have := (okN12_H oN).2.1; have := (okN12_P oN).1; omega)
  | succ n ih =>
    intro k h hk hn hE
    have m13 := (okN12_H oN).2.1
    have m14 := (okN12_P oN).1
    refine aw_iload_n (q := 23) 1 dX6_digest_22 rfl rfl rfl ?_
    refine aw_bipush (q := 25) dX6_digest_23 rfl (by decide) ?_
    refine aw_icmp_ge (q := 28) dX6_digest_25 rfl (t := 43) (by decide) (by omega) (by omega) (fun y1 => ?_) (fun y2 => ?_)
    · refine aw_iconst (q := 44) dX6_digest_43 rfl ?_
      refine aw_istore_n (q := 45) (lv2 := [(0, .ref (ad 108)), (1, .int (iI 0))]) [1, 0] dX6_digest_44 rfl rfl (by decide) rfl rfl ?_
      rw [foldT_0 (numM G) h (by omega)] at hE
      exact L_dm3 G oN K hs h7 10 0 h (by omega) (by omega) hE
    · refine aw_aload_n (q := 29) 0 dX6_digest_28 rfl rfl rfl ?_
      refine aw_aload_n (q := 30) 0 dX6_digest_29 rfl rfl rfl ?_
      refine aw_iload_n (q := 31) 1 dX6_digest_30 rfl rfl rfl ?_
      refine cv_I (q := 34) (CC := "") (id := 108) (As := [.int (iI k)]) 1 (c_tell (T := T) (D := D) (ad := ad) (setG K 11 18 h) (k := k) (by rw [(row12 (fun y => (setG_ne (by omega)).trans (hs 12 y (by omega))))]; exact m13) (by rw [(row12 (fun y => (setG_ne (by omega)).trans (hs 12 y (by omega))))]; exact m14) (by omega)) (fun _ h => h) (by omega) (cell_108 ad C _) rfl wc_X6_tell wm_RX6_163 wi_X6_tell ws_X6_tell wn_X6 (by decide) rfl ⟨Nat.le_of_ble_eq_true rfl, Nat.le_of_ble_eq_true rfl⟩ ⟨Nat.le_of_ble_eq_true rfl, Nat.le_of_ble_eq_true rfl⟩ (Nat.le_of_ble_eq_true rfl) dX6_digest_31 rfl (fun r9 G9 h9 => ?_)
      obtain ⟨e9, g9⟩ := h9
      rw [e9.trans (numM_row (row12 (fun y => (setG_ne (by omega)).trans (hs 12 y (by omega)))) k), g9]
      clear e9 g9
      refine cv_V (q := 37) (CC := "") (id := 108) (As := [.int (iI (numM G k))]) 1 (c_mix (T := T) (D := D) (ad := ad) (setG K 11 18 h) (v := (numM G k))) (fun _ h => h) (by omega) (cell_108 ad C _) rfl wc_X6_mix wm_RX6_217 wi_X6_mix ws_X6_mix wn_X6 (by decide) rfl ⟨Nat.le_of_ble_eq_true rfl, Nat.le_of_ble_eq_true rfl⟩ ⟨Nat.le_of_ble_eq_true rfl, Nat.le_of_ble_eq_true rfl⟩ (Nat.le_of_ble_eq_true rfl) dX6_digest_34 rfl (fun G9 h9 => ?_)
      rw [setG_same, setG_setG] at h9
      rw [h9]
      clear h9
      refine ae_iinc (q := 40) (lv2 := [(0, .ref (ad 108)), (1, .int (iI (k + 1)))]) 1 [1, 0] (k + 1) (by omega) dX6_digest_37 rfl rfl (by decide) rfl ?_
      refine aw_goto (q := 22) dX6_digest_40 (by decide) ?_
      exact ih (k + 1) _ (by omega) (by omega) (by rw [foldT_s (numM G) h (by omega)] at hE; exact hE)
set_option maxHeartbeats 4000000 in
set_option maxRecDepth 100000 in
theorem c_digestM {l : Launch} {D : va_G} {C : Nat → ClassId} {T : Nat → Nat} {ad : Int → Nat} (G : GG) (oN : okN12 G) : MC l yX6_digest cX6_digest 3 (some .long) 3 66 0 0 D (tyC C) T [.ref (ad 108)] (cw ad C G) (RL' ad C (fun r G1 => r = dgF (numM G) (G 12) (G 11 6) (G 11 4) ∧ quiet G G1 ∧ G1 11 7 = 0)) := by
  refine mc_of (by decide +kernel) (Nat.le_of_ble_eq_true rfl) rfl ?_
  refine aw_aload_n (q := 1) 0 dX6_digest_0 rfl rfl rfl ?_
  refine aw_iconst (q := 2) dX6_digest_1 rfl ?_
  refine p_mod_thrown (q := 5) wf_RX6_38 dX6_digest_2 rfl ?_
  refine aw_aload_n (q := 6) 0 dX6_digest_5 rfl rfl rfl ?_
  refine aw_ldc2 (q := 9) (x := 3643) dX6_digest_6 rfl wk_RX6_215 (by decide) ?_
  refine p_mod_hash (q := 12) wf_RX6_211 dX6_digest_9 rfl ?_
  refine aw_aload_n (q := 13) 0 dX6_digest_12 rfl rfl rfl ?_
  refine aw_aload_n (q := 14) 0 dX6_digest_13 rfl rfl rfl ?_
  refine g_mod_length (q := 17) (v := (G 11 6)) ((setG_ne (by omega)).trans (setG_ne (by omega))) wf_RX6_166 dX6_digest_14 rfl ?_
  refine cv_V (q := 20) (CC := "") (id := 108) (As := [.int (iI (G 11 6))]) 1 (c_mix (T := T) (D := D) (ad := ad) (setG (setG G 11 7 0) 11 18 3643) (v := G 11 6)) (fun _ h => h) (by omega) (cell_108 ad C _) rfl wc_X6_mix wm_RX6_217 wi_X6_mix ws_X6_mix wn_X6 (by decide) rfl ⟨Nat.le_of_ble_eq_true rfl, Nat.le_of_ble_eq_true rfl⟩ ⟨Nat.le_of_ble_eq_true rfl, Nat.le_of_ble_eq_true rfl⟩ (Nat.le_of_ble_eq_true rfl) dX6_digest_17 rfl (fun G9 h9 => ?_)
  rw [setG_same, setG_setG] at h9
  rw [h9]
  clear h9
  refine aw_iconst (q := 21) dX6_digest_20 rfl ?_
  refine aw_istore_n (q := 22) (lv2 := [(0, .ref (ad 108)), (1, .int (iI 0))]) [1, 0] dX6_digest_21 rfl rfl (by decide) rfl rfl ?_
  exact L_dm2 G oN (setG G 11 7 0) (fun x y z => setG_ne (by omega)) (setG_same _ _ _ _) 12 0 _ (by omega) (by omega) (by rw [show ((11 : Int) - 0).toNat = 11 from rfl]; rfl)
