/-! Told -/
theorem tc_told (a : Int64) : mf_Tw_told a = mf_Fo_told 1 a := by
  unfold mf_Tw_told mf_Fo_told
  rw [show (0 : Nat) = 1 - 1 from rfl, tc_isNone (by decide)]
  rfl
