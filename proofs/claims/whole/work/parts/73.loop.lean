/-! the law's loop: its head, and how an order's number chooses -/
set_option maxHeartbeats 4000000 in
set_option maxRecDepth 100000 in
theorem law_head {l : Launch} {D : va_G} {C : Nat → ClassId} {T : Nat → Nat} {ad : Int → Nat} {b L : Nat} {xs : Nat → Int32} {X : Code → Prop} {nm : String} {ty : List (ClassId × FieldType)} {ws : va_W} {i : Int} {k n : Nat} (hL : L ≤ 3072) (hi : 0 ≤ i ∧ i ≤ 3072) (hk : k ≤ 601024) (hn : n ≤ 7293034)
    (kk : i + 6 ≤ L → AW l RL nm code 8 ret X room_1 (lawE b) D ty (lawZ b L xs T) [] 45 (lawLv b ad i) [.int (iI (mk31 (xs i.toNat).toInt))] ws k n) :
    AW l RL nm code 8 ret X room_1 (lawE b) D ty (lawZ b L xs T) [] 28 (lawLv b ad i) [] ws k n := by
  refine aw_iload (q := 30) 5 dL_law_28 rfl rfl ?_
  refine aw_aload_n (q := 31) 0 dL_law_30 rfl rfl rfl ?_
  refine aw_slen (q := 32) hL (fun s h => h.2) dL_law_31 rfl ?_
  refine aw_bipush (q := 34) dL_law_32 rfl rfl ?_
  refine ae_isub (q := 35) ((L : Int) - 6) rfl dL_law_34 rfl ?_
  refine aw_icmp_gt (q := 38) dL_law_35 rfl (t := 1530) (by decide) (by omega) (by omega) (fun h => ?_) (fun h => ?_)
  · refine aw_iconst (q := 1531) dL_law_1530 rfl ?_
    exact aw_lawret hk hn dL_law_1531
  · refine aw_aload_n (q := 39) 0 dL_law_38 rfl rfl rfl ?_
    refine aw_iload (q := 41) 5 dL_law_39 rfl rfl ?_
    refine aw_sld (q := 42) ⟨by omega, by omega⟩ hL (fun s h => h.2) dL_law_41 rfl ?_
    refine aw_bipush (q := 44) dL_law_42 rfl rfl ?_
    refine aw_and31 (q := 45) dL_law_44 rfl ?_
    exact kk (by omega)
/-- where an order leads -/
def lawT (j : Nat) : Nat := ([160, 228, 308, 376, 444, 548, 604, 660, 673, 741, 819, 875, 931, 987, 1043, 1111, 1167, 1223, 1291, 1371, 1384, 1440, 1453, 1466, 1510] : List Nat).getD j 1524
theorem law_sw {l : Launch} {D : va_G} {b : Nat} {X : Code → Prop} {nm : String} {ty : List (ClassId × FieldType)} {Z : State → Prop} {lv : List (Nat × Value)} {ws : va_W} {k n : Nat} {E : List Frame → Array Value → State → State → Prop} {x : Int} (hr0 : -2147483648 ≤ x ∧ x ≤ 2147483647)
    (kk : ∀ j : Nat, j ≤ 25 → AW l RL nm code 8 ret X room_1 E D ty Z [] (lawT j) lv [] ws k n) : AW l RL nm code 8 ret X room_1 E D ty Z [] 45 lv [.int (iI x)] ws k n := by
  by_cases h : 0 ≤ x ∧ x ≤ 24
  · have h9 : x = 0 ∨ x = 1 ∨ x = 2 ∨ x = 3 ∨ x = 4 ∨ x = 5 ∨ x = 6 ∨ x = 7 ∨ x = 8 ∨ x = 9 ∨ x = 10 ∨ x = 11 ∨ x = 12 ∨ x = 13 ∨ x = 14 ∨ x = 15 ∨ x = 16 ∨ x = 17 ∨ x = 18 ∨ x = 19 ∨ x = 20 ∨ x = 21 ∨ x = 22 ∨ x = 23 ∨ x = 24 := by omega
    rcases h9 with rfl | rfl | rfl | rfl | rfl | rfl | rfl | rfl | rfl | rfl | rfl | rfl | rfl | rfl | rfl | rfl | rfl | rfl | rfl | rfl | rfl | rfl | rfl | rfl | rfl
    · exact aw_tswIn hr0 (by decide) dL_law_45 (off := 115) rfl (t := 160) (by decide) (kk 0 (by decide))
    · exact aw_tswIn hr0 (by decide) dL_law_45 (off := 183) rfl (t := 228) (by decide) (kk 1 (by decide))
    · exact aw_tswIn hr0 (by decide) dL_law_45 (off := 263) rfl (t := 308) (by decide) (kk 2 (by decide))
    · exact aw_tswIn hr0 (by decide) dL_law_45 (off := 331) rfl (t := 376) (by decide) (kk 3 (by decide))
    · exact aw_tswIn hr0 (by decide) dL_law_45 (off := 399) rfl (t := 444) (by decide) (kk 4 (by decide))
    · exact aw_tswIn hr0 (by decide) dL_law_45 (off := 503) rfl (t := 548) (by decide) (kk 5 (by decide))
    · exact aw_tswIn hr0 (by decide) dL_law_45 (off := 559) rfl (t := 604) (by decide) (kk 6 (by decide))
    · exact aw_tswIn hr0 (by decide) dL_law_45 (off := 615) rfl (t := 660) (by decide) (kk 7 (by decide))
    · exact aw_tswIn hr0 (by decide) dL_law_45 (off := 628) rfl (t := 673) (by decide) (kk 8 (by decide))
    · exact aw_tswIn hr0 (by decide) dL_law_45 (off := 696) rfl (t := 741) (by decide) (kk 9 (by decide))
    · exact aw_tswIn hr0 (by decide) dL_law_45 (off := 774) rfl (t := 819) (by decide) (kk 10 (by decide))
    · exact aw_tswIn hr0 (by decide) dL_law_45 (off := 830) rfl (t := 875) (by decide) (kk 11 (by decide))
    · exact aw_tswIn hr0 (by decide) dL_law_45 (off := 886) rfl (t := 931) (by decide) (kk 12 (by decide))
    · exact aw_tswIn hr0 (by decide) dL_law_45 (off := 942) rfl (t := 987) (by decide) (kk 13 (by decide))
    · exact aw_tswIn hr0 (by decide) dL_law_45 (off := 998) rfl (t := 1043) (by decide) (kk 14 (by decide))
    · exact aw_tswIn hr0 (by decide) dL_law_45 (off := 1066) rfl (t := 1111) (by decide) (kk 15 (by decide))
    · exact aw_tswIn hr0 (by decide) dL_law_45 (off := 1122) rfl (t := 1167) (by decide) (kk 16 (by decide))
    · exact aw_tswIn hr0 (by decide) dL_law_45 (off := 1178) rfl (t := 1223) (by decide) (kk 17 (by decide))
    · exact aw_tswIn hr0 (by decide) dL_law_45 (off := 1246) rfl (t := 1291) (by decide) (kk 18 (by decide))
    · exact aw_tswIn hr0 (by decide) dL_law_45 (off := 1326) rfl (t := 1371) (by decide) (kk 19 (by decide))
    · exact aw_tswIn hr0 (by decide) dL_law_45 (off := 1339) rfl (t := 1384) (by decide) (kk 20 (by decide))
    · exact aw_tswIn hr0 (by decide) dL_law_45 (off := 1395) rfl (t := 1440) (by decide) (kk 21 (by decide))
    · exact aw_tswIn hr0 (by decide) dL_law_45 (off := 1408) rfl (t := 1453) (by decide) (kk 22 (by decide))
    · exact aw_tswIn hr0 (by decide) dL_law_45 (off := 1421) rfl (t := 1466) (by decide) (kk 23 (by decide))
    · exact aw_tswIn hr0 (by decide) dL_law_45 (off := 1465) rfl (t := 1510) (by decide) (kk 24 (by decide))
  · exact aw_tswOut hr0 (by omega) dL_law_45 (t := 1524) (by decide) (kk 25 (by decide))
theorem law_next {l : Launch} {D : va_G} {b : Nat} {X : Code → Prop} {nm : String} {ty : List (ClassId × FieldType)} {Z : State → Prop} {ad : Int → Nat} {i : Int} {ws : va_W} {k n : Nat} {E : List Frame → Array Value → State → State → Prop}
    (kk : AW l RL nm code 8 ret X room_1 E D ty Z [] 28 (lawLv b ad (i + 6)) [] ws k n) : AW l RL nm code 8 ret X room_1 E D ty Z [] 1524 (lawLv b ad i) [] ws k n := by
  refine aw_iinc (q := 1527) (lv2 := lawLv b ad (i + 6)) 5 [1, 2, 3, 4, 5, 0] dL_law_1524 rfl rfl (by decide) rfl rfl ?_
  exact aw_goto (q := 28) dL_law_1527 (by decide) kk
