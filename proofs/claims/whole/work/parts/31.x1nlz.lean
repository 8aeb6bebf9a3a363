/-! Leading zeros -/
theorem jl_sh {y w k : Nat} (h1 : 2 ^ w ≤ y) (h2 : y < 2 ^ (w + 1)) (hk : 2 ^ k ≤ y) : k ≤ w ∧ 2 ^ (w - k) ≤ y / 2 ^ k ∧ y / 2 ^ k < 2 ^ (w - k + 1) := by
  have hkw : k < w + 1 := (Nat.pow_lt_pow_iff_right (by omega)).mp (Nat.lt_of_le_of_lt hk h2)
  refine ⟨by omega, ?_, ?_⟩
  · rw [Nat.le_div_iff_mul_le (Nat.two_pow_pos k), ← Nat.pow_add, show w - k + k = w by omega]
    exact h1
  · rw [Nat.div_lt_iff_lt_mul (Nat.two_pow_pos k), ← Nat.pow_add, show w - k + 1 + k = w + 1 by omega]
    exact h2
theorem jl_w {y w k : Nat} (h1 : 2 ^ w ≤ y) (hk : y < 2 ^ k) : w < k := (Nat.pow_lt_pow_iff_right (by omega)).mp (Nat.lt_of_le_of_lt h1 hk)
theorem jl_b61 {y w : Nat} {c : Int} (x : Int32) (h1 : 2 ^ w ≤ y) (h2 : y < 2 ^ (w + 1)) (hy : y < 2 ^ 4) : mf_Jd_inlz_b61 x (nI y) (iI c) = iI (c - w) := by
  have hw := jl_w h1 hy
  unfold mf_Jd_inlz_b61
  by_cases c4 : y < 4
  · rw [if_pos (show nI y < (4 : Int32) from nI_lt (b := 4) c4 (by decide)), pk_ushrN (k := 1) (by omega) (1 : Int32) (by decide), iI_n, iI_sub]
    congr 2
    rcases (show w = 0 ∨ w = 1 ∨ w = 2 ∨ w = 3 by omega) with rfl | rfl | rfl | rfl <;> omega
  · rw [if_neg (show ¬ nI y < (4 : Int32) from nI_nlt (b := 4) (by omega) (by omega)), pk_ushrN (k := 2) (by omega) (2 : Int32) (by decide), pk_ushrN (k := 1) (by omega) (1 : Int32) (by decide), show (-2 : Int32) = iI (-2) by decide, iI_add, iI_n, iI_sub]
    congr 1
    rcases (show w = 0 ∨ w = 1 ∨ w = 2 ∨ w = 3 by omega) with rfl | rfl | rfl | rfl <;> omega
theorem jl_b48 {y w : Nat} {c : Int} (x : Int32) (h1 : 2 ^ w ≤ y) (h2 : y < 2 ^ (w + 1)) (hy : y < 2 ^ 8) : mf_Jd_inlz_b48 x (nI y) (iI c) = iI (c - w) := by
  unfold mf_Jd_inlz_b48
  by_cases c4 : y < 2 ^ 4
  · rw [if_pos (show nI y < (16 : Int32) from nI_lt (b := 16) c4 (by decide)), jl_b61 x h1 h2 c4]
  · obtain ⟨g1, g2, g3⟩ := jl_sh (k := 4) h1 h2 (by omega)
    rw [if_neg (show ¬ nI y < (16 : Int32) from nI_nlt (b := 16) (by omega) (by omega)), pk_ushrN (k := 4) (by omega) (4 : Int32) (by decide), show (-4 : Int32) = iI (-4) by decide, iI_add, jl_b61 x g2 g3 (by omega)]
    congr 1
    omega
theorem jl_b33 {y w : Nat} {c : Int} (x : Int32) (h1 : 2 ^ w ≤ y) (h2 : y < 2 ^ (w + 1)) (hy : y < 2 ^ 16) : mf_Jd_inlz_b33 x (nI y) (iI c) = iI (c - w) := by
  unfold mf_Jd_inlz_b33
  by_cases c4 : y < 2 ^ 8
  · rw [if_pos (show nI y < (256 : Int32) from nI_lt (b := 256) c4 (by decide)), jl_b48 x h1 h2 c4]
  · obtain ⟨g1, g2, g3⟩ := jl_sh (k := 8) h1 h2 (by omega)
    rw [if_neg (show ¬ nI y < (256 : Int32) from nI_nlt (b := 256) (by omega) (by omega)), pk_ushrN (k := 8) (by omega) (8 : Int32) (by decide), show (-8 : Int32) = iI (-8) by decide, iI_add, jl_b48 x g2 g3 (by omega)]
    congr 1
    omega
theorem jl_i {y w : Nat} (h1 : 2 ^ w ≤ y) (h2 : y < 2 ^ (w + 1)) (hy : y < 2 ^ 32) : mf_Jd_inlz (nI y) = iI (31 - w) := by
  have hy0 : 0 < y := Nat.lt_of_lt_of_le (Nat.two_pow_pos w) h1
  have hw := jl_w h1 hy
  unfold mf_Jd_inlz
  by_cases c31 : y < 2 ^ 31
  · rw [if_pos (show (0 : Int32) < nI y from nI_lt (a := 0) hy0 c31)]
    by_cases c4 : y < 2 ^ 16
    · rw [if_pos (show nI y < (65536 : Int32) from nI_lt (b := 65536) c4 (by decide)), show (31 : Int32) = iI 31 from rfl, jl_b33 _ h1 h2 c4]
    · obtain ⟨g1, g2, g3⟩ := jl_sh (k := 16) h1 h2 (by omega)
      rw [if_neg (show ¬ nI y < (65536 : Int32) from nI_nlt (b := 65536) (by omega) c31), pk_ushrN (k := 16) (by omega) (16 : Int32) (by decide), show (31 : Int32) + (-16 : Int32) = iI 15 by decide, jl_b33 _ g2 g3 (by omega)]
      congr 1
      omega
  · have hw31 : w = 31 := by
      have : 31 < w + 1 := (Nat.pow_lt_pow_iff_right (by omega)).mp (Nat.lt_of_le_of_lt (show 2 ^ 31 ≤ y by omega) h2)
      omega
    have e : (nI y).toInt = (y : Int) - 4294967296 := by
      show (Int32.ofNat y).toInt = _
      rw [Int32.toInt_ofNat', Int.bmod_def, show Int32.size = 4294967296 from rfl]
      split <;> omega
    rw [if_neg (by rw [Int32.lt_iff_toInt_lt, e, show (0 : Int32).toInt = 0 from rfl]; omega), if_neg (by rw [← Int32.toInt_inj, e, show (0 : Int32).toInt = 0 from rfl]; omega), hw31]
    rfl
theorem jl_l2i (n : Nat) : (lN n).toInt32 = nI n := lN_i n
theorem jl_l {n w : Nat} (h1 : 2 ^ w ≤ n) (h2 : n < 2 ^ (w + 1)) (hn : n < 2 ^ 64) : mf_Jd_lnlz (lN n) = iI (63 - w) := by
  have hw := jl_w h1 hn
  unfold mf_Jd_lnlz
  rw [show (32 : Int32) = nI 32 from rfl, wb_shr hn (by decide), jl_l2i, jl_l2i]
  by_cases c : n < 2 ^ 32
  · have hw2 := jl_w h1 c
    rw [show n / 2 ^ 32 = 0 by omega, if_pos (show nI 0 = (0 : Int32) from rfl), jl_i h1 h2 c, iI_n, iI_add]
    congr 1
    omega
  · obtain ⟨g1, g2, g3⟩ := jl_sh (k := 32) h1 h2 (by omega)
    have hne : ¬ nI (n / 2 ^ 32) = 0 := by
      intro q
      have := pk_tn (n := n / 2 ^ 32) (by omega)
      rw [q] at this
      have z : (0 : Int32).toBitVec.toNat = 0 := rfl
      omega
    rw [if_neg hne, jl_i g2 g3 (by omega)]
    congr 1
    omega
