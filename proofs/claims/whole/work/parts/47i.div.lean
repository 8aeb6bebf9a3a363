/-! The two products are one; quotients -/
theorem fx_w {i n : Nat} (h : i < 2) (hn : n < 2 ^ 64) (hz : mf_Fo_isZero i (lN n) = 0) : ∃ w, 2 ^ w ≤ ft_sig (fp i) (n % 2 ^ fw i) ∧ ft_sig (fp i) (n % 2 ^ fw i) < 2 ^ (w + 1) ∧ w < fp i := by
  obtain ⟨a1, -, -, -, -, -⟩ := fm_bd h n
  have hm : ¬ ft_sig (fp i) (n % 2 ^ fw i) = 0 := by
    intro q
    have z := ft_sig_zero.mp q
    unfold mf_Fo_isZero at hz
    rw [fm_mag h hn, z, if_pos lN0] at hz
    exact absurd hz (by decide)
  obtain ⟨w, -, w1, w2⟩ := fr_sz_of hm
  exact ⟨w, w1, w2, jl_w w1 a1⟩
theorem ml_b20 {i na nb : Nat} (h : i < 2) (g : Int32) (ha : na < 2 ^ 64) (hb : nb < 2 ^ 64) : mf_Tw_multiply_b20 (lN na) (lN nb) (1 - i) g = if mf_Fo_isNoNumber i (lN na) = 0 then (if mf_Fo_isNoNumber i (lN nb) = 0 then mf_Fo_times_b39 i (lN na) (lN nb) g else fo_nan i) else fo_nan i := by
  by_cases c1 : mf_Fo_isNoNumber i (lN na) = 0
  · by_cases c2 : mf_Fo_isNoNumber i (lN nb) = 0
    · by_cases c3 : mf_Fo_isInfinite i (lN na) = 0
      · by_cases c4 : mf_Fo_isInfinite i (lN nb) = 0
        · by_cases c5 : mf_Fo_isZero i (lN na) = 0
          · by_cases c6 : mf_Fo_isZero i (lN nb) = 0
            · obtain ⟨wa, a1, a2, a3⟩ := fx_w h ha c5
              obtain ⟨wb, b1, b2, b3⟩ := fx_w h hb c6
              rw [ts_prod h g ha hb a1 a2 b1 b2 a3 b3 (by rw [tc_isNone h]; exact c1) (by rw [tc_isNone h]; exact c2) (by rw [tc_isInfinite h]; exact c3) (by rw [tc_isInfinite h]; exact c4) (by rw [tc_isZero h]; exact c5) (by rw [tc_isZero h]; exact c6)]
              unfold mf_Fo_times_b39
              rw [if_pos c1, if_pos c2, if_pos c3, if_pos c4, if_pos c5, if_pos c6, cs_prod h g ha hb a1 a2 b1 b2 a3 b3]
            · unfold mf_Tw_multiply_b20 mf_Fo_times_b39
              rw [tc_isNone h, tc_isNone h, tc_isInfinite h, tc_isInfinite h, tc_isZero h, tc_isZero h, if_pos c1, if_pos c1, if_pos c2, if_pos c2, if_pos c3, if_pos c3, if_pos c4, if_pos c4, if_pos c5, if_pos c5, if_neg c6, if_neg c6, tc_signed h]
          · unfold mf_Tw_multiply_b20 mf_Fo_times_b39
            rw [tc_isNone h, tc_isNone h, tc_isInfinite h, tc_isInfinite h, tc_isZero h, tc_isZero h, if_pos c1, if_pos c1, if_pos c2, if_pos c2, if_pos c3, if_pos c3, if_pos c4, if_pos c4, if_neg c5, if_neg c5, tc_signed h]
        · unfold mf_Tw_multiply_b20 mf_Fo_times_b39 mf_Tw_multiply_b64 mf_Fo_times_b57
          rw [tc_isNone h, tc_isNone h, tc_isInfinite h, tc_isInfinite h, tc_isZero h, tc_isZero h, if_pos c1, if_pos c1, if_pos c2, if_pos c2, if_pos c3, if_pos c3, if_neg c4, if_neg c4, tc_signed h, tc_inf h, tc_none h]
      · unfold mf_Tw_multiply_b20 mf_Fo_times_b39 mf_Tw_multiply_b64 mf_Fo_times_b57
        rw [tc_isNone h, tc_isNone h, tc_isInfinite h, tc_isInfinite h, tc_isZero h, tc_isZero h, if_pos c1, if_pos c1, if_pos c2, if_pos c2, if_neg c3, if_neg c3, tc_signed h, tc_inf h, tc_none h]
    · unfold mf_Tw_multiply_b20
      rw [tc_isNone h, tc_isNone h, if_pos c1, if_pos c1, if_neg c2, if_neg c2, tc_none h]
  · unfold mf_Tw_multiply_b20
    rw [tc_isNone h, if_neg c1, if_neg c1, tc_none h]
theorem ml_eq {i na nb : Nat} (h : i < 2) (ha : na < 2 ^ 64) (hb : nb < 2 ^ 64) : mf_Tw_multiply (lN na) (lN nb) (1 - i) = mf_Fo_times i (lN na) (lN nb) := by
  unfold mf_Tw_multiply mf_Fo_times
  rw [tc_minus h, tc_minus h, ml_b20 h _ ha hb, ml_b20 h _ ha hb]
  by_cases c1 : mf_Fo_isNoNumber i (lN na) = 0
  · rw [if_pos c1, if_pos c1, if_pos c1]
    by_cases c2 : mf_Fo_isNoNumber i (lN nb) = 0
    · rw [if_pos c2, if_pos c2, if_pos c2]
    · rw [if_neg c2, if_neg c2, if_neg c2]
      split <;> rfl
  · rw [if_neg c1, if_neg c1]
    split <;> rfl
/-! Quotients -/
theorem cq_step {A B : Nat} (a b : Int64) (hb : b = lN B) (hA2 : A < 2 ^ 53) (hB1 : 2 ^ 52 ≤ B) (hB2 : B < 2 ^ 53) {j fuel : Nat} (hj : j < 6) : mf_Fo_longQuotient_b21 a b (fuel + 1) (lN (A * 2 ^ (10 * j) / B)) (lN (A * 2 ^ (10 * j) % B)) (nI j) = mf_Fo_longQuotient_b21 a b fuel (lN (A * 2 ^ (10 * (j + 1)) / B)) (lN (A * 2 ^ (10 * (j + 1)) % B)) (nI (j + 1)) := by
  subst hb
  rw [mf_Fo_longQuotient_b21, if_neg (show ¬ (6 : Int32) ≤ nI j from nI_ge (b := 6) hj (by decide)), m_sl (c := (10 : Int32)) 10 1024 (by decide) rfl rfl, m_sl (c := (10 : Int32)) 10 1024 (by decide) rfl rfl]
  have hB0 : 0 < B := by omega
  obtain ⟨d1, d2⟩ := dv_step (x := A * 2 ^ (10 * j)) (c := 1024) hB0 rfl rfl
  have hr := Nat.mod_lt (A * 2 ^ (10 * j)) hB0
  have hlt := dv_lt hr (show 0 < 1024 by decide)
  have hq : A * 2 ^ (10 * j) / B < 2 ^ 51 := by
    rw [Nat.div_lt_iff_lt_mul hB0]
    have e1 : 2 ^ (10 * j) ≤ 2 ^ 50 := Nat.pow_le_pow_right (by decide) (by omega)
    have e2 := Nat.mul_lt_mul_of_lt_of_le hA2 e1 (by decide)
    have e3 := Nat.mul_le_mul_left (2 ^ 51) hB1
    rw [← Nat.pow_add] at e2 e3
    omega
  have ep : A * 2 ^ (10 * (j + 1)) = A * 2 ^ (10 * j) * 1024 := by
    rw [Nat.mul_assoc, show (1024 : Nat) = 2 ^ 10 from rfl, ← Nat.pow_add, show 10 * j + 10 = 10 * (j + 1) by omega]
  rw [ep, d1, d2]
  generalize A * 2 ^ (10 * j) / B = q at *
  generalize A * 2 ^ (10 * j) % B = r at *
  rw [pk_lRem (by omega) hB0 (by omega), pk_lDiv (by omega) hB0 (by omega), m_or (k := 10) rfl hlt (by omega), show (1 : Int32) = nI 1 from rfl, nI_add]
theorem cq_long {A B : Nat} (hA2 : A < 2 ^ 53) (hB1 : 2 ^ 52 ≤ B) (hB2 : B < 2 ^ 53) : mf_Fo_longQuotient (lN A) (lN B) = lN (A * 2 ^ 60 / B ||| ft_tt (A * 2 ^ 60 % B)) := by
  have hB0 : 0 < B := by omega
  unfold mf_Fo_longQuotient
  rw [if_neg (fun q => absurd ((li_eq0 (by omega)).mp q) (by omega)), pk_lRem (by omega) hB0 (by omega), pk_lDiv (by omega) hB0 (by omega)]
  have e0 : lN (A / B) = lN (A * 2 ^ (10 * 0) / B) ∧ lN (A % B) = lN (A * 2 ^ (10 * 0) % B) := by
    rw [Nat.mul_zero, Nat.pow_zero, Nat.mul_one]
    exact ⟨rfl, rfl⟩
  rw [e0.1, e0.2, show (((6 : Int32).toInt - (0 : Int32).toInt).toNat + 1) = 7 from rfl, show (0 : Int32) = nI 0 from rfl]
  rw [cq_step (lN A) (lN B) rfl hA2 hB1 hB2 (show 0 < 6 by decide), cq_step (lN A) (lN B) rfl hA2 hB1 hB2 (show 0 + 1 < 6 by decide), cq_step (lN A) (lN B) rfl hA2 hB1 hB2 (show 0 + 1 + 1 < 6 by decide), cq_step (lN A) (lN B) rfl hA2 hB1 hB2 (show 0 + 1 + 1 + 1 < 6 by decide), cq_step (lN A) (lN B) rfl hA2 hB1 hB2 (show 0 + 1 + 1 + 1 + 1 < 6 by decide), cq_step (lN A) (lN B) rfl hA2 hB1 hB2 (show 0 + 1 + 1 + 1 + 1 + 1 < 6 by decide)]
  rw [mf_Fo_longQuotient_b21, if_pos (show (6 : Int32) ≤ nI (0 + 1 + 1 + 1 + 1 + 1 + 1) by decide), show 10 * (0 + 1 + 1 + 1 + 1 + 1 + 1) = 60 from rfl]
  have hr := Nat.mod_lt (A * 2 ^ 60) hB0
  have hq : A * 2 ^ 60 / B < 2 ^ 61 := by
    rw [Nat.div_lt_iff_lt_mul hB0]
    have e3 := Nat.mul_le_mul_left (2 ^ 61) hB1
    omega
  generalize A * 2 ^ 60 / B = q at *
  generalize A * 2 ^ 60 % B = r at *
  by_cases c : r = 0
  · rw [if_pos ((li_eq0 (by omega)).mpr c), ft_tt_0.mpr c, Nat.or_zero]
  · rw [if_neg (fun z => c ((li_eq0 (by omega)).mp z)), show ft_tt r = 1 by unfold ft_tt; rw [if_neg c], ← lN1, wb_or (by omega) (by decide)]
theorem cs_quot {i na nb wa wb : Nat} (h : i < 2) (g : Int32) (ha : na < 2 ^ 64) (hb : nb < 2 ^ 64) (a1 : 2 ^ wa ≤ ft_sig (fp i) (na % 2 ^ fw i)) (a2 : ft_sig (fp i) (na % 2 ^ fw i) < 2 ^ (wa + 1)) (b1 : 2 ^ wb ≤ ft_sig (fp i) (nb % 2 ^ fw i)) (b2 : ft_sig (fp i) (nb % 2 ^ fw i) < 2 ^ (wb + 1)) (hwa : wa < fp i) (hwb : wb < fp i) :
    mf_Fo_finiteQuotient i g (lN na) (lN nb) = mf_Fo_signed i g (lN (fr_Z (fp i) (ftp i * 2 ^ (fp i - 1)) (2 * (ft_sig (fp i) (na % 2 ^ fw i) * 2 ^ (52 - wa) * 2 ^ 60 / (ft_sig (fp i) (nb % 2 ^ fw i) * 2 ^ (52 - wb))) + ft_tt (ft_sig (fp i) (na % 2 ^ fw i) * 2 ^ (52 - wa) * 2 ^ 60 % (ft_sig (fp i) (nb % 2 ^ fw i) * 2 ^ (52 - wb)))) ((ft_exp (fp i) (na % 2 ^ fw i) : Int) - ft_exp (fp i) (nb % 2 ^ fw i) + fle i + wa - wb - 61))) := by
  obtain ⟨-, -, a3, p1, p2, p3⟩ := fm_bd h na
  obtain ⟨-, -, b3, -, -, -⟩ := fm_bd h nb
  unfold mf_Fo_finiteQuotient
  rw [fm_sig h ha, fm_sig h hb, fm_scale h ha, fm_scale h hb]
  generalize ft_sig (fp i) (na % 2 ^ fw i) = Sa at *
  generalize ft_sig (fp i) (nb % 2 ^ fw i) = Sb at *
  generalize ft_exp (fp i) (na % 2 ^ fw i) = Ka at *
  generalize ft_exp (fp i) (nb % 2 ^ fw i) = Kb at *
  rw [cm_sh a1 a2 (by omega), cm_sh b1 b2 (by omega), li_shl _ (by omega) (by omega), li_shl _ (by omega) (by omega), show (52 - (wa : Int)).toNat = 52 - wa by omega, show (52 - (wb : Int)).toNat = 52 - wb by omega, show (60 : Int32) = iI 60 from rfl]
  simp only [iI_sub]
  obtain ⟨A1, A2⟩ := mv_up a1 a2 (show wa ≤ 52 by omega)
  obtain ⟨B1, B2⟩ := mv_up b1 b2 (show wb ≤ 52 by omega)
  generalize Sa * 2 ^ (52 - wa) = A at *
  generalize Sb * 2 ^ (52 - wb) = B at *
  have hB0 : 0 < B := by omega
  have hq : A * 2 ^ 60 / B < 2 ^ 61 := by
    rw [Nat.div_lt_iff_lt_mul hB0]
    have A3 : A < 2 ^ 53 := A2
    omega
  have hq1 : 2 ^ 59 ≤ A * 2 ^ 60 / B := by
    rw [Nat.le_div_iff_mul_le hB0]
    have B3 : B < 2 ^ 53 := B2
    omega
  have hpw : 2 ^ (fp i + 1) ≤ 2 ^ 54 := Nat.pow_le_pow_right (by decide) (by omega)
  rw [cq_long A2 B1 B2]
  have ht := ft_tt_lt (A * 2 ^ 60 % B)
  have hst : (A * 2 ^ 60 / B ||| ft_tt (A * 2 ^ 60 % B)) < 2 ^ 63 := by
    rw [fr_or ht]
    split <;> omega
  rw [rd_C' h g hst (by omega) (by omega), fr_Z_or ht (by omega)]
  congr 3
  omega
