/-! The parts of a number's BITS as the class reads them, and that the reference reads the same -/
def fp (i : Nat) : Nat := if i = 0 then 24 else 53
def fw (i : Nat) : Nat := if i = 0 then 31 else 63
def ftp (i : Nat) : Nat := if i = 0 then 255 else 2047
def fle (i : Nat) : Nat := if i = 0 then 149 else 1074
theorem lN0 : lN 0 = (0 : Int64) := rfl
theorem lN1 : lN 1 = (1 : Int64) := rfl
theorem f01 {i : Nat} (h : i < 2) : i = 0 ∨ i = 1 := by omega
theorem tc_sb {i : Nat} (h : i < 2) : (1 : Int64) <<< (((mf_Tw_wide (1 - i)) - (1 : Int32)).toInt64 &&& 63) = fo_sign i := by
  rcases f01 h with rfl | rfl <;> decide +kernel
theorem tc_size {i : Nat} (h : i < 2) (a : Int64) : mf_Tw_size a (1 - i) = mf_Fo_magnitude i a := by
  unfold mf_Tw_size mf_Fo_magnitude
  rw [tc_sb h]
theorem tc_inf {i : Nat} (h : i < 2) : mf_Tw_infinite (1 - i) = fo_inf i := by
  rcases f01 h with rfl | rfl <;> decide +kernel
theorem tc_none {i : Nat} (h : i < 2) : mf_Tw_none (1 - i) = fo_nan i := by
  rcases f01 h with rfl | rfl <;> decide +kernel
theorem tc_isNone {i : Nat} (h : i < 2) (a : Int64) : mf_Tw_isNone a (1 - i) = mf_Fo_isNoNumber i a := by
  unfold mf_Tw_isNone mf_Fo_isNoNumber
  rw [tc_size h, tc_inf h]
theorem tc_isInfinite {i : Nat} (h : i < 2) (a : Int64) : mf_Tw_isInfinite a (1 - i) = mf_Fo_isInfinite i a := by
  unfold mf_Tw_isInfinite mf_Fo_isInfinite
  rw [tc_size h, tc_inf h]
theorem tc_isZero {i : Nat} (h : i < 2) (a : Int64) : mf_Tw_isZero a (1 - i) = mf_Fo_isZero i a := by
  unfold mf_Tw_isZero mf_Fo_isZero
  rw [tc_size h]
theorem tc_signed {i : Nat} (h : i < 2) (g : Int32) (a : Int64) : mf_Tw_signed a g (1 - i) = mf_Fo_signed i g a := by
  unfold mf_Tw_signed mf_Fo_signed
  rw [tc_sb h]
theorem tc_turned {i : Nat} (h : i < 2) (a : Int64) : mf_Tw_turned a (1 - i) = a ^^^ fo_sign i := by
  unfold mf_Tw_turned
  rw [tc_sb h]
theorem fm_mag {i n : Nat} (h : i < 2) (hn : n < 2 ^ 64) : mf_Fo_magnitude i (lN n) = lN (n % 2 ^ fw i) := by
  unfold mf_Fo_magnitude
  rcases f01 h with rfl | rfl
  · rw [show fo_sign 0 - (1 : Int64) = lN (2 ^ 31 - 1) by decide +kernel, wb_mask hn (by decide)]
    rfl
  · rw [show fo_sign 1 - (1 : Int64) = lN (2 ^ 63 - 1) by decide +kernel, wb_mask hn (by decide)]
    rfl
def fsg (i n : Nat) : Nat := n / 2 ^ fw i % 2
theorem fm_neg {i n : Nat} (h : i < 2) (hn : n < 2 ^ 64) : mf_Fo_isNegative i (lN n) = nI (fsg i n) := by
  unfold mf_Fo_isNegative fsg
  have hs : fo_sign i = lN (2 ^ fw i) ∧ fw i < 64 := by rcases f01 h with rfl | rfl <;> decide +kernel
  rw [hs.1, wb_and hn (Nat.pow_lt_pow_right (by decide) hs.2), ft_bit]
  rcases (show n / 2 ^ fw i % 2 = 0 ∨ n / 2 ^ fw i % 2 = 1 from Nat.mod_two_eq_zero_or_one _) with z | z
  · rw [z, Nat.zero_mul, if_pos lN0]
    rfl
  · rw [z, Nat.one_mul, if_neg]
    · rfl
    · rcases f01 h with rfl | rfl <;> decide +kernel
theorem tc_minus {i : Nat} (h : i < 2) (a : Int64) : mf_Tw_minus a (1 - i) = mf_Fo_isNegative i a := by
  obtain ⟨n, hn, rfl⟩ := wb_of a
  rw [fm_neg h hn]
  unfold mf_Tw_minus fsg
  have hs : (mf_Tw_wide (1 - i)) - (1 : Int32) = nI (fw i) ∧ fw i < 64 := by rcases f01 h with rfl | rfl <;> decide +kernel
  rw [hs.1, wb_bit hn hs.2]
  rcases (show n / 2 ^ fw i % 2 = 0 ∨ n / 2 ^ fw i % 2 = 1 from Nat.mod_two_eq_zero_or_one _) with z | z
  · rw [z, if_neg (by decide)]
    rfl
  · rw [z, if_pos lN1]
    rfl
theorem fm_x1 {n : Nat} (hn : n < 2 ^ 64) : lN n &&& fo_inf 1 = lN (n / 2 ^ 52 % 2 ^ 11 * 2 ^ 52) := by
  rw [show fo_inf 1 = lN ((2 ^ 11 - 1) * 2 ^ 52) by decide +kernel, wb_and hn (by decide), ft_mid]
theorem fm_x0 {n : Nat} (hn : n < 2 ^ 64) : lN n &&& fo_inf 0 = lN (n / 2 ^ 23 % 2 ^ 8 * 2 ^ 23) := by
  rw [show fo_inf 0 = lN ((2 ^ 8 - 1) * 2 ^ 23) by decide +kernel, wb_and hn (by decide), ft_mid]
theorem fm_sig {i n : Nat} (h : i < 2) (hn : n < 2 ^ 64) : mf_Fo_significand i (lN n) = lN (ft_sig (fp i) (n % 2 ^ fw i)) := by
  unfold mf_Fo_significand ft_sig
  rcases f01 h with rfl | rfl
  · rw [fm_x0 hn, show fo_least 0 - (1 : Int64) = lN (2 ^ 23 - 1) by decide +kernel, wb_mask hn (by decide), show fo_least 0 = lN (1 * 2 ^ 23) by decide +kernel, show fp 0 = 24 from rfl, show fw 0 = 31 from rfl, show n % 2 ^ 31 / 2 ^ (24 - 1) = n / 2 ^ 23 % 2 ^ 8 by omega]
    by_cases c : n / 2 ^ 23 % 2 ^ 8 = 0
    · rw [c, Nat.zero_mul, if_pos rfl, if_pos lN0]
      congr 1
      omega
    · rw [if_neg (fun q => c (by have := (li_eq0 (by omega)).mp q; omega)), if_neg c, Int64.or_comm, li_or (by omega) (by omega)]
      congr 1
      omega
  · rw [fm_x1 hn, show fo_least 1 - (1 : Int64) = lN (2 ^ 52 - 1) by decide +kernel, wb_mask hn (by decide), show fo_least 1 = lN (1 * 2 ^ 52) by decide +kernel, show fp 1 = 53 from rfl, show fw 1 = 63 from rfl, show n % 2 ^ 63 / 2 ^ (53 - 1) = n / 2 ^ 52 % 2 ^ 11 by omega]
    by_cases c : n / 2 ^ 52 % 2 ^ 11 = 0
    · rw [c, Nat.zero_mul, if_pos rfl, if_pos lN0]
      congr 1
      omega
    · rw [if_neg (fun q => c (by have := (li_eq0 (by omega)).mp q; omega)), if_neg c, Int64.or_comm, li_or (by omega) (by omega)]
      congr 1
      omega
theorem fm_max {x : Nat} (hx : x < 2147483648) : (if nI x < (1 : Int32) then (1 : Int32) else nI x) = iI ((max x 1 : Nat) : Int) := by
  by_cases c : x < 1
  · rw [if_pos (show nI x < (1 : Int32) from nI_lt (b := 1) c (by decide)), show max x 1 = 1 by omega]
    rfl
  · rw [if_neg (show ¬ nI x < (1 : Int32) from nI_nlt (b := 1) (by omega) (by omega)), show max x 1 = x by omega, iI_n]
theorem fm_scale {i n : Nat} (h : i < 2) (hn : n < 2 ^ 64) : mf_Fo_scale i (lN n) = iI ((ft_exp (fp i) (n % 2 ^ fw i) : Int) - fle i) := by
  unfold mf_Fo_scale ft_exp
  rcases f01 h with rfl | rfl
  · rw [fm_x0 hn, show fo_fb 0 = nI 23 by decide +kernel, wb_sar (by omega) (by decide), Nat.mul_div_cancel _ (by decide), jl_l2i, fm_max (by omega), show fo_bias 0 = iI 127 by decide +kernel, iI_n, iI_sub, iI_sub, show fp 0 = 24 from rfl, show fw 0 = 31 from rfl, show fle 0 = 149 from rfl, show n % 2 ^ 31 / 2 ^ (24 - 1) = n / 2 ^ 23 % 2 ^ 8 by omega]
    congr 1
    omega
  · rw [fm_x1 hn, show fo_fb 1 = nI 52 by decide +kernel, wb_sar (by omega) (by decide), Nat.mul_div_cancel _ (by decide), jl_l2i, fm_max (by omega), show fo_bias 1 = iI 1023 by decide +kernel, iI_n, iI_sub, iI_sub, show fp 1 = 53 from rfl, show fw 1 = 63 from rfl, show fle 1 = 1074 from rfl, show n % 2 ^ 63 / 2 ^ (53 - 1) = n / 2 ^ 52 % 2 ^ 11 by omega]
    congr 1
    omega
theorem tc_whole {i : Nat} (h : i < 2) (a : Int64) : mf_Tw_whole a (1 - i) = mf_Fo_significand i a := by
  obtain ⟨n, hn, rfl⟩ := wb_of a
  rw [fm_sig h hn]
  unfold mf_Tw_whole ft_sig
  rw [tc_size h, fm_mag h hn]
  have hs : (tw_pl (1 - i)) - (1 : Int32) = nI (fp i - 1) ∧ fp i - 1 < 53 ∧ fp i - 1 < fw i ∧ fw i < 64 := by rcases f01 h with rfl | rfl <;> decide +kernel
  obtain ⟨e, h1, h3, h2⟩ := hs
  have hm : n % 2 ^ fw i < 2 ^ 63 := Nat.lt_of_lt_of_le (Nat.mod_lt _ (Nat.two_pow_pos _)) (Nat.pow_le_pow_right (by decide) (by omega))
  generalize n % 2 ^ fw i = k at *
  have hX := Nat.pow_le_pow_right (show 0 < 2 by decide) (show fp i - 1 ≤ 52 by omega)
  have hX0 := Nat.two_pow_pos (fp i - 1)
  rw [e, wb_shr (by omega) (by omega), iI_n, li_mask (by omega) (by omega) (by omega), li_pw (by omega) (by omega), show ((fp i - 1 : Nat) : Int).toNat = fp i - 1 by omega]
  have hdm := Nat.div_add_mod k (2 ^ (fp i - 1))
  have hml := Nat.mod_lt k hX0
  by_cases c : k / 2 ^ (fp i - 1) = 0
  · rw [c, if_pos rfl, if_pos lN0]
    rw [c, Nat.mul_zero, Nat.zero_add] at hdm
    rw [hdm]
  · have hq : k / 2 ^ (fp i - 1) < 2 ^ 63 := Nat.lt_of_le_of_lt (Nat.div_le_self _ _) hm
    rw [if_neg (fun q => c ((li_eq0 hq).mp q)), if_neg c, Int64.or_comm]
    have o := li_or (a := k % 2 ^ (fp i - 1)) (b := 1) (k := fp i - 1) hml (by omega)
    rw [Nat.one_mul] at o
    rw [o, Nat.add_comm]
theorem fm_maxl {x : Nat} (hx : x < 2147483648) : (if (1 : Int64) < lN x then lN x else (1 : Int64)).toInt32 = iI ((max x 1 : Nat) : Int) := by
  by_cases c : 1 < x
  · rw [if_pos (show (1 : Int64) < lN x from (pk_lLT (a := 1) (by decide) (by omega)).mpr c), jl_l2i, show max x 1 = x by omega, iI_n]
  · rw [if_neg (show ¬ (1 : Int64) < lN x from fun q => c ((pk_lLT (a := 1) (by decide) (by omega)).mp q)), show max x 1 = 1 by omega]
    rfl
theorem tc_power {i : Nat} (h : i < 2) (a : Int64) : mf_Tw_power a (1 - i) = mf_Fo_scale i a := by
  obtain ⟨n, hn, rfl⟩ := wb_of a
  rw [fm_scale h hn]
  unfold mf_Tw_power ft_exp
  rw [tc_size h, fm_mag h hn]
  have hs : (tw_pl (1 - i)) - (1 : Int32) = nI (fp i - 1) ∧ tw_le (1 - i) = iI (-(fle i : Int)) ∧ fp i - 1 < 64 ∧ fw i < 64 ∧ fw i - (fp i - 1) < 31 ∧ fp i - 1 ≤ fw i := by rcases f01 h with rfl | rfl <;> decide +kernel
  obtain ⟨e1, e2, h1, h2, h3, h4⟩ := hs
  have hm : n % 2 ^ fw i < 2 ^ fw i := Nat.mod_lt _ (Nat.two_pow_pos _)
  have hm2 : n % 2 ^ fw i < 2 ^ 64 := Nat.lt_of_le_of_lt (Nat.mod_le _ _) hn
  have hq : n % 2 ^ fw i / 2 ^ (fp i - 1) < 2147483648 := by
    rw [Nat.div_lt_iff_lt_mul (Nat.two_pow_pos _)]
    refine Nat.lt_of_lt_of_le hm ?_
    rw [show (2147483648 : Nat) = 2 ^ 31 from rfl, ← Nat.pow_add]
    exact Nat.pow_le_pow_right (by decide) (by omega)
  rw [e1, wb_shr hm2 h1, fm_maxl hq, e2, iI_add, show (1 : Int32) = iI 1 from rfl, iI_sub]
  congr 1
  omega
theorem fx_inf {i : Nat} (h : i < 2) : fo_inf i = lN (ftp i * 2 ^ (fp i - 1)) := by
  rcases f01 h with rfl | rfl <;> decide +kernel
