theorem fw_0 : okW 0 := by unfold okW; omega
theorem fw_add1 {x : Int} (h : okW x) : vf_n32 (FP.fadd (fB x) FP.fconst1) ∧ okW (fadd1 x) := by
  sorry
theorem fw_addH {x : Int} (h : okW x) : vf_n32 (FP.fadd (fB x) 1056964608) ∧ okW (faddH x) := by
  sorry
theorem fw_fade {x p : Int} (h : okW x) (hp : 0 ≤ p ∧ p ≤ 100) : vf_n32 (FP.fmul (fB x) (FP.i2f (iI p))) ∧ vf_n32 (FP.fdiv (FP.fmul (fB x) (FP.i2f (iI p))) 1120403456) ∧ okW (ffade x p) := by
  sorry
theorem fw_ten {x : Int} (h : okW x) : vf_n32 (FP.fmul 1092616192 (fB x)) := by
  sorry
