/-! What the reference's own divisions need -/
theorem tw_whole_ne {b : Int64} {f : Nat} (hf : f < 2) (h : mf_Tw_isZero b f = 0) : ¬ mf_Tw_whole b f = 0 := by
  obtain ⟨i, hi, rfl⟩ : ∃ i, i < 2 ∧ f = 1 - i := ⟨1 - f, by omega, by omega⟩
  obtain ⟨n, hn, rfl⟩ := wb_of b
  rw [tc_isZero hi] at h
  rw [tc_whole hi, fm_sig hi hn]
  intro q
  have hl : ft_sig (fp i) (n % 2 ^ fw i) < 2 ^ 63 := by
    have h1 := ft_sig_lt (p := fp i) (m := n % 2 ^ fw i) (by rcases f01 hi with w | w <;> rw [w] <;> decide)
    have h2 : 2 ^ fp i ≤ 2 ^ 53 := by rcases f01 hi with w | w <;> rw [w] <;> decide
    omega
  have z := ft_sig_zero.mp ((li_eq0 hl).mp q)
  unfold mf_Fo_isZero at h
  rw [fm_mag hi hn, z, if_pos lN0] at h
  exact absurd h (by decide)
theorem ft_exp_lt {i n : Nat} (hi : i < 2) : ft_exp (fp i) (n % 2 ^ fw i) < 4096 := by
  rcases f01 hi with w | w
  · subst w
    have : n % 2 ^ 31 / 2 ^ 23 < 2 ^ 8 := Nat.div_lt_of_lt_mul (Nat.mod_lt n (by decide))
    show max (n % 2 ^ 31 / 2 ^ 23) 1 - 1 < 4096
    omega
  · subst w
    have : n % 2 ^ 63 / 2 ^ 52 < 2 ^ 11 := Nat.div_lt_of_lt_mul (Nat.mod_lt n (by decide))
    show max (n % 2 ^ 63 / 2 ^ 52) 1 - 1 < 4096
    omega
theorem tw_power_le {a b : Int64} {f : Nat} (hf : f < 2) (h : mf_Tw_size b f ≤ mf_Tw_size a f) : 0 ≤ mf_Tw_power a f - mf_Tw_power b f := by
  obtain ⟨i, hi, rfl⟩ : ∃ i, i < 2 ∧ f = 1 - i := ⟨1 - f, by omega, by omega⟩
  obtain ⟨na, ha, rfl⟩ := wb_of a
  obtain ⟨nb, hb, rfl⟩ := wb_of b
  rw [tc_size hi, tc_size hi, fm_mag hi ha, fm_mag hi hb] at h
  have h2 : 2 ^ fw i ≤ 2 ^ 63 := by rcases f01 hi with w | w <;> rw [w] <;> decide
  have b1 := Nat.mod_lt na (Nat.two_pow_pos (fw i))
  have b2 := Nat.mod_lt nb (Nat.two_pow_pos (fw i))
  have h3 := (pk_lLE (by omega) (by omega)).mp h
  have h4 := (ft_mono (p := fp i) h3).1
  have h5 := ft_exp_lt (n := na) hi
  have h6 := ft_exp_lt (n := nb) hi
  have h7 : fle i < 2000 := by rcases f01 hi with w | w <;> rw [w] <;> decide
  rw [tc_power hi, tc_power hi, fm_scale hi ha, fm_scale hi hb, iI_sub, show (0 : Int32) = iI 0 by decide]
  exact (iI_le (by decide) (by decide) (by omega) (by omega)).mpr (by omega)
