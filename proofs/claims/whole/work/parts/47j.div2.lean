/-! The reference's quotient; rests -/
theorem tq_step {A B : Nat} (a b : Int64) (f : Nat) (g : Int32) (z : Int32) (hA2 : A < 2 ^ 53) (hB0 : 0 < B) (hB2 : B < 2 ^ 53) (hAB : A < 2 * B) {j fuel : Nat} (hj : j < 60) : mf_Tw_divide_b268 a b f (fuel + 1) g (lN B) z (lN (A * 2 ^ j / B)) (lN (A * 2 ^ j % B)) (nI j) = mf_Tw_divide_b268 a b f fuel g (lN B) z (lN (A * 2 ^ (j + 1) / B)) (lN (A * 2 ^ (j + 1) % B)) (nI (j + 1)) := by
  rw [mf_Tw_divide_b268, if_neg (show ¬ (60 : Int32) ≤ nI j from nI_ge (b := 60) hj (by decide)), m_sl (c := (1 : Int32)) 1 2 (by decide) rfl rfl, m_sl (c := (1 : Int32)) 1 2 (by decide) rfl rfl]
  obtain ⟨d1, d2⟩ := dv_bit (x := A * 2 ^ j) hB0 rfl rfl
  have hr := Nat.mod_lt (A * 2 ^ j) hB0
  have hq : A * 2 ^ j / B < 2 ^ 61 := by
    rw [Nat.div_lt_iff_lt_mul hB0]
    have e1 : 2 ^ j ≤ 2 ^ 60 := Nat.pow_le_pow_right (by decide) (by omega)
    have e2 := Nat.mul_le_mul (show A ≤ 2 * B by omega) e1
    have e3 := Nat.mul_lt_mul_of_lt_of_le hAB e1 (by decide)
    omega
  have ep : A * 2 ^ (j + 1) = A * 2 ^ j * 2 := by rw [Nat.pow_succ, Nat.mul_assoc]
  rw [ep, d1, d2]
  generalize A * 2 ^ j / B = q at *
  generalize A * 2 ^ j % B = r at *
  rw [show (1 : Int32) = nI 1 from rfl, nI_add]
  by_cases c : 2 * r < B
  · rw [if_neg (fun z => absurd ((pk_lLE (by omega) (by omega)).mp z) (by omega)), if_pos c, if_pos c, Nat.mul_comm q, Nat.mul_comm r]
  · rw [if_pos ((pk_lLE (by omega) (by omega)).mpr (by omega)), if_neg c, if_neg c, ← lN1, m_or (k := 1) rfl (by decide) (by omega), lN_sub (by omega), Nat.mul_comm q, Nat.mul_comm r]
theorem tq_loop {A B : Nat} (a b : Int64) (f : Nat) (g : Int32) (z : Int32) (hA2 : A < 2 ^ 53) (hB0 : 0 < B) (hB2 : B < 2 ^ 53) (hAB : A < 2 * B) : ∀ m j : Nat, j + m = 60 → mf_Tw_divide_b268 a b f (m + 1) g (lN B) z (lN (A * 2 ^ j / B)) (lN (A * 2 ^ j % B)) (nI j) = mf_Tw_rounded g (lN (A * 2 ^ 60 / B)) (z - (60 : Int32)) (nI (ft_tt (A * 2 ^ 60 % B))) f := by
  intro m
  induction m with
  | zero =>
    intro j hj
    have e : j = 60 := by omega
    subst e
    have hr := Nat.mod_lt (A * 2 ^ 60) hB0
    rw [mf_Tw_divide_b268, if_pos (show (60 : Int32) ≤ nI 60 by decide)]
    by_cases c : A * 2 ^ 60 % B = 0
    · rw [if_pos ((li_eq0 (by omega)).mpr c), ft_tt_0.mpr c]
      rfl
    · rw [if_neg (fun z => c ((li_eq0 (by omega)).mp z)), show ft_tt (A * 2 ^ 60 % B) = 1 by unfold ft_tt; rw [if_neg c]]
      rfl
  | succ m ih =>
    intro j hj
    rw [tq_step a b f g z hA2 hB0 hB2 hAB (by omega)]
    exact ih (j + 1) (by omega)
theorem ts_quot {i na nb wa wb : Nat} (h : i < 2) (g : Int32) (ha : na < 2 ^ 64) (hb : nb < 2 ^ 64) (a1 : 2 ^ wa ≤ ft_sig (fp i) (na % 2 ^ fw i)) (a2 : ft_sig (fp i) (na % 2 ^ fw i) < 2 ^ (wa + 1)) (b1 : 2 ^ wb ≤ ft_sig (fp i) (nb % 2 ^ fw i)) (b2 : ft_sig (fp i) (nb % 2 ^ fw i) < 2 ^ (wb + 1)) (hwa : wa < fp i) (hwb : wb < fp i) (n1 : mf_Tw_isNone (lN na) (1 - i) = 0) (n2 : mf_Tw_isNone (lN nb) (1 - i) = 0) (f1 : mf_Tw_isInfinite (lN na) (1 - i) = 0) (f2 : mf_Tw_isInfinite (lN nb) (1 - i) = 0) (z1 : mf_Tw_isZero (lN na) (1 - i) = 0) (z2 : mf_Tw_isZero (lN nb) (1 - i) = 0) :
    mf_Tw_divide_b20 (lN na) (lN nb) (1 - i) g = mf_Fo_signed i g (lN (fr_Z (fp i) (ftp i * 2 ^ (fp i - 1)) (2 * (ft_sig (fp i) (na % 2 ^ fw i) * 2 ^ (52 - wa) * 2 ^ 60 / (ft_sig (fp i) (nb % 2 ^ fw i) * 2 ^ (52 - wb))) + ft_tt (ft_sig (fp i) (na % 2 ^ fw i) * 2 ^ (52 - wa) * 2 ^ 60 % (ft_sig (fp i) (nb % 2 ^ fw i) * 2 ^ (52 - wb)))) ((ft_exp (fp i) (na % 2 ^ fw i) : Int) - ft_exp (fp i) (nb % 2 ^ fw i) + fle i + wa - wb - 61))) := by
  obtain ⟨-, -, a3, p1, p2, p3⟩ := fm_bd h na
  obtain ⟨-, -, b3, -, -, -⟩ := fm_bd h nb
  unfold mf_Tw_divide_b20
  rw [if_pos n1, if_pos n2, if_pos f1, if_pos f2, if_pos z2, if_pos z1, tc_whole h, tc_whole h, tc_power h, tc_power h, fm_sig h ha, fm_sig h hb, fm_scale h ha, fm_scale h hb]
  generalize ft_sig (fp i) (na % 2 ^ fw i) = Sa at *
  generalize ft_sig (fp i) (nb % 2 ^ fw i) = Sb at *
  generalize ft_exp (fp i) (na % 2 ^ fw i) = Ka at *
  generalize ft_exp (fp i) (nb % 2 ^ fw i) = Kb at *
  rw [tm_mv h a1 a2 hwa, tm_mv h b1 b2 hwb, li_shl Sa (by omega) (by omega), li_shl Sb (by omega) (by omega), show ((fp i : Int) - 1 - wa).toNat = fp i - 1 - wa by omega, show ((fp i : Int) - 1 - wb).toNat = fp i - 1 - wb by omega]
  simp only [iI_sub, iI_add]
  obtain ⟨A1, A2⟩ := mv_up a1 a2 (show wa ≤ fp i - 1 by omega)
  obtain ⟨B1, B2⟩ := mv_up b1 b2 (show wb ≤ fp i - 1 by omega)
  have eA : Sa * 2 ^ (52 - wa) = Sa * 2 ^ (fp i - 1 - wa) * 2 ^ (53 - fp i) := by rw [Nat.mul_assoc, ← Nat.pow_add, show fp i - 1 - wa + (53 - fp i) = 52 - wa by omega]
  have eB : Sb * 2 ^ (52 - wb) = Sb * 2 ^ (fp i - 1 - wb) * 2 ^ (53 - fp i) := by rw [Nat.mul_assoc, ← Nat.pow_add, show fp i - 1 - wb + (53 - fp i) = 52 - wb by omega]
  rw [eA, eB]
  rw [show fp i - 1 + 1 = fp i by omega] at A2 B2
  have hpp : 2 ^ fp i = 2 * 2 ^ (fp i - 1) := by
    rw [← Nat.pow_succ', show (fp i - 1).succ = fp i by omega]
  have hp53 : 2 ^ fp i ≤ 2 ^ 53 := Nat.pow_le_pow_right (by decide) p2
  have hp24 : 2 ^ 23 ≤ 2 ^ (fp i - 1) := Nat.pow_le_pow_right (by decide) (by omega)
  generalize Sa * 2 ^ (fp i - 1 - wa) = A at *
  generalize Sb * 2 ^ (fp i - 1 - wb) = B at *
  have hB0 : 0 < B := by omega
  have hM := Nat.two_pow_pos (53 - fp i)
  have eq1 : A * 2 ^ (53 - fp i) * 2 ^ 60 / (B * 2 ^ (53 - fp i)) = A * 2 ^ 60 / B := by
    rw [Nat.mul_right_comm, Nat.mul_div_mul_right _ _ hM]
  have eq2 : ft_tt (A * 2 ^ (53 - fp i) * 2 ^ 60 % (B * 2 ^ (53 - fp i))) = ft_tt (A * 2 ^ 60 % B) := by
    rw [Nat.mul_right_comm, Nat.mul_mod_mul_right]
    unfold ft_tt
    by_cases c : A * 2 ^ 60 % B = 0
    · rw [c, Nat.zero_mul]
    · rw [if_neg c, if_neg]
      intro q
      rcases Nat.mul_eq_zero.mp q with q | q
      · exact c q
      · omega
  rw [eq1, eq2]
  have hq : A * 2 ^ 60 / B < 2 ^ 61 := by
    rw [Nat.div_lt_iff_lt_mul hB0]
    omega
  have hq1 : 2 ^ 59 ≤ A * 2 ^ 60 / B := by
    rw [Nat.le_div_iff_mul_le hB0]
    omega
  have fin : ∀ (k0 : Int64) (x : Int64), k0 = lN (A / B) → x = lN (A % B) → mf_Tw_divide_b263 (lN na) (lN nb) (1 - i) g (lN B) (iI ((Ka : Int) - fle i - ((fp i : Int) - 1 - wa) - ((Kb : Int) - fle i) + ((fp i : Int) - 1 - wb))) k0 x = mf_Fo_signed i g (lN (fr_Z (fp i) (ftp i * 2 ^ (fp i - 1)) (2 * (A * 2 ^ 60 / B) + ft_tt (A * 2 ^ 60 % B)) ((Ka : Int) - Kb + fle i + wa - wb - 61))) := by
    intro k0 x e1 e2
    subst e1
    subst e2
    unfold mf_Tw_divide_b263
    have e0 : lN (A / B) = lN (A * 2 ^ 0 / B) ∧ lN (A % B) = lN (A * 2 ^ 0 % B) := by
      rw [Nat.pow_zero, Nat.mul_one]
      exact ⟨rfl, rfl⟩
    rw [e0.1, e0.2, show (((60 : Int32).toInt - (0 : Int32).toInt).toNat + 1) = 60 + 1 from rfl, show (0 : Int32) = nI 0 from rfl, tq_loop (A := A) (B := B) _ _ _ _ _ (by omega) hB0 (by omega) (by omega) 60 0 rfl, show (60 : Int32) = iI 60 from rfl, iI_sub, rd_T h g (by omega) (by omega) (by omega) (by omega) (ft_tt_lt _) (fun _ => by omega)]
    congr 3
    omega
  unfold mf_Tw_divide_b244
  by_cases c : A < B
  · rw [if_pos ((pk_lLT (by omega) (by omega)).mpr c), if_neg (show ¬ (0 : Int64) = 1 by decide)]
    exact fin 0 _ (by rw [Nat.div_eq_of_lt c]; rfl) (by rw [Nat.mod_eq_of_lt c])
  · rw [if_neg (fun z => c ((pk_lLT (by omega) (by omega)).mp z)), if_pos rfl, lN_sub (by omega)]
    refine fin 1 _ ?_ ?_
    · rw [show A / B = 1 by
        rw [Nat.div_eq_iff (by omega)]
        omega]
      rfl
    · rw [Nat.mod_eq_sub_mod (by omega), Nat.mod_eq_of_lt (by omega)]
theorem fx_iz {i : Nat} (h : i < 2) (a : Int64) (hz : ¬ mf_Fo_isInfinite i a = 0) : mf_Fo_isZero i a = 0 := by
  unfold mf_Fo_isInfinite at hz
  unfold mf_Fo_isZero
  by_cases c : mf_Fo_magnitude i a = fo_inf i
  · rw [c, if_neg]
    rcases f01 h with rfl | rfl <;> decide +kernel
  · rw [if_neg c] at hz
    exact absurd rfl hz
theorem dq_b20 {i na nb : Nat} (h : i < 2) (g : Int32) (ha : na < 2 ^ 64) (hb : nb < 2 ^ 64) : mf_Tw_divide_b20 (lN na) (lN nb) (1 - i) g = if mf_Fo_isNoNumber i (lN na) = 0 then (if mf_Fo_isNoNumber i (lN nb) = 0 then mf_Fo_over_b39 i (lN na) (lN nb) g else fo_nan i) else fo_nan i := by
  by_cases c1 : mf_Fo_isNoNumber i (lN na) = 0
  · by_cases c2 : mf_Fo_isNoNumber i (lN nb) = 0
    · by_cases c3 : mf_Fo_isInfinite i (lN na) = 0
      · by_cases c4 : mf_Fo_isInfinite i (lN nb) = 0
        · by_cases c6 : mf_Fo_isZero i (lN nb) = 0
          · by_cases c5 : mf_Fo_isZero i (lN na) = 0
            · obtain ⟨wa, a1, a2, a3⟩ := fx_w h ha c5
              obtain ⟨wb, b1, b2, b3⟩ := fx_w h hb c6
              rw [ts_quot h g ha hb a1 a2 b1 b2 a3 b3 (by rw [tc_isNone h]; exact c1) (by rw [tc_isNone h]; exact c2) (by rw [tc_isInfinite h]; exact c3) (by rw [tc_isInfinite h]; exact c4) (by rw [tc_isZero h]; exact c5) (by rw [tc_isZero h]; exact c6)]
              unfold mf_Fo_over_b39
              rw [if_pos c1, if_pos c2, if_pos c3, if_pos c6, if_pos c4, if_pos c5, cs_quot h g ha hb a1 a2 b1 b2 a3 b3]
            · unfold mf_Tw_divide_b20 mf_Fo_over_b39
              rw [tc_isNone h, tc_isNone h, tc_isInfinite h, tc_isInfinite h, tc_isZero h, tc_isZero h, if_pos c1, if_pos c1, if_pos c2, if_pos c2, if_pos c3, if_pos c3, if_pos c4, if_pos c4, if_pos c6, if_pos c6, if_neg c5, if_neg c5, tc_signed h]
          · unfold mf_Tw_divide_b20 mf_Fo_over_b39
            rw [tc_isNone h, tc_isNone h, tc_isInfinite h, tc_isInfinite h, tc_isZero h, tc_isZero h, if_pos c1, if_pos c1, if_pos c2, if_pos c2, if_pos c3, if_pos c3, if_pos c4, if_neg c6, if_neg c6, tc_signed h, tc_inf h, tc_none h]
        · unfold mf_Tw_divide_b20 mf_Fo_over_b39
          rw [tc_isNone h, tc_isNone h, tc_isInfinite h, tc_isInfinite h, tc_isZero h, tc_isZero h, if_pos c1, if_pos c1, if_pos c2, if_pos c2, if_pos c3, if_pos c3, if_neg c4, if_pos (fx_iz h _ c4), if_neg c4, tc_signed h]
      · unfold mf_Tw_divide_b20 mf_Fo_over_b39
        rw [tc_isNone h, tc_isNone h, tc_isInfinite h, tc_isInfinite h, tc_isZero h, tc_isZero h, if_pos c1, if_pos c1, if_pos c2, if_pos c2, if_neg c3, if_neg c3, tc_signed h, tc_inf h, tc_none h]
    · unfold mf_Tw_divide_b20
      rw [tc_isNone h, tc_isNone h, if_pos c1, if_pos c1, if_neg c2, if_neg c2, tc_none h]
  · unfold mf_Tw_divide_b20
    rw [tc_isNone h, if_neg c1, if_neg c1, tc_none h]
theorem dq_eq {i na nb : Nat} (h : i < 2) (ha : na < 2 ^ 64) (hb : nb < 2 ^ 64) : mf_Tw_divide (lN na) (lN nb) (1 - i) = mf_Fo_over i (lN na) (lN nb) := by
  unfold mf_Tw_divide mf_Fo_over
  rw [tc_minus h, tc_minus h, dq_b20 h _ ha hb, dq_b20 h _ ha hb]
  by_cases c1 : mf_Fo_isNoNumber i (lN na) = 0
  · rw [if_pos c1, if_pos c1, if_pos c1]
    by_cases c2 : mf_Fo_isNoNumber i (lN nb) = 0
    · rw [if_pos c2, if_pos c2, if_pos c2]
    · rw [if_neg c2, if_neg c2, if_neg c2]
      split <;> rfl
  · rw [if_neg c1, if_neg c1]
    split <;> rfl
