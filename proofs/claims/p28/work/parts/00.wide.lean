/-! the library of floats is used from the first part on -/
theorem wide_0 : True := by
  have h := @FP.Core.mag_le
  trivial
