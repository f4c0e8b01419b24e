/-! the law's loop: its head, and how an order's number chooses -/
set_option maxHeartbeats 4000000 in
set_option maxRecDepth 100000 in
theorem law_head {l : Launch} {D : va_G} {C : Nat → ClassId} {T : Nat → Nat} {ad : Int → Nat} {b L : Nat} {xs : Nat → Int32} {X : Code → Prop} {nm : String} {ty : List (ClassId × FieldType)} {ws : va_W} {i : Int} {k n : Nat} (hL : L ≤ 3072) (hi : 0 ≤ i ∧ i ≤ 3072) (hk : k ≤ 601024) (hn : n ≤ 7293034)
    (kk : i + 6 ≤ L → AW l RL nm code 8 ret X room_1 (lawE b) D ty (lawZ b L xs T) [] 45 (lawLv b ad i) [.int (iI (mk31 (xs i.toNat).toInt))] ws k n) :
    AW l RL nm code 8 ret X room_1 (lawE b) D ty (lawZ b L xs T) [] 28 (lawLv b ad i) [] ws k n := by
  refine aw_iload (q := 30) 5 dL_law_28 rfl rfl ?_
  refine aw_aload_n (q := 31) 0 dL_law_30 rfl rfl rfl ?_
  refine aw_slen (q := 32) hL (fun s h => h.2) dL_law_31 rfl ?_
  refine aw_bipush (q := 34) dL_law_32 rfl rfl ?_
  refine ae_isub (q := 35) ((L : Int) - 6) rfl dL_law_34 rfl ?_
  refine aw_icmp_gt (q := 38) dL_law_35 rfl (t := 1530) (by decide) (by omega) (by omega) (fun h => ?_) (fun h => ?_)
  · refine aw_iconst (q := 1531) dL_law_1530 rfl ?_
    exact aw_lawret hk hn dL_law_1531
  · refine aw_aload_n (q := 39) 0 dL_law_38 rfl rfl rfl ?_
    refine aw_iload (q := 41) 5 dL_law_39 rfl rfl ?_
    refine aw_sld (q := 42) ⟨by omega, by omega⟩ hL (fun s h => h.2) dL_law_41 rfl ?_
    refine aw_bipush (q := 44) dL_law_42 rfl rfl ?_
    refine aw_and31 (q := 45) dL_law_44 rfl ?_
    exact kk (by omega)
