/-! Rests; from one form to the other; differences -/
theorem cr_loop {i T : Nat} (a b : Int64) (hT0 : 0 < T) (hT : T < 2 ^ 53) : ∀ (fuel : Nat) (z : Int) (r : Nat), -10 ≤ z → z ≤ 5000 → z.toNat < fuel → mf_Fo_finiteRemainder_b42 i a b fuel (lN T) (lN (r % T)) (iI z) = mf_Fo_rounded i (mf_Fo_isNegative i a) (lN (r * 2 ^ z.toNat % T)) (mf_Fo_scale i b) := by
  intro fuel
  induction fuel with
  | zero => intro z r _ _ h; exact absurd h (Nat.not_lt_zero _)
  | succ fuel ih =>
    intro z r h1 h2 hf
    rw [mf_Fo_finiteRemainder_b42]
    by_cases c : z ≤ 0
    · rw [if_pos (show iI z ≤ (0 : Int32) from (iI_le (b := 0) (by omega) (by omega) (by omega) (by omega)).mpr c), show z.toNat = 0 by omega, Nat.pow_zero, Nat.mul_one]
    · rw [if_neg (show ¬ iI z ≤ (0 : Int32) from fun q => c ((iI_le (b := 0) (by omega) (by omega) (by omega) (by omega)).mp q))]
      have hs : (if (10 : Int32) < iI z then (10 : Int32) else iI z) = iI (min z 10) := by
        by_cases d : 10 < z
        · rw [if_pos (show (10 : Int32) < iI z from (iI_lt (a := 10) (by omega) (by omega) (by omega) (by omega)).mpr d), show min z 10 = 10 by omega]
          rfl
        · rw [if_neg (show ¬ (10 : Int32) < iI z from fun q => d ((iI_lt (a := 10) (by omega) (by omega) (by omega) (by omega)).mp q)), show min z 10 = z by omega]
      have hr := Nat.mod_lt r hT0
      have hp : 2 ^ (min z 10).toNat ≤ 2 ^ 10 := Nat.pow_le_pow_right (by decide) (by omega)
      have hb := Nat.mul_le_mul (show r % T ≤ 2 ^ 53 - 1 by omega) hp
      rw [hs, li_shl _ (by omega) (by omega), pk_lRem (by omega) hT0 (by omega), show (-10 : Int32) = iI (-10) by decide, iI_add, Nat.mod_mul_mod, ih (z + -10) (r * 2 ^ (min z 10).toNat) (by omega) (by omega) (by omega), Nat.mul_assoc, ← Nat.pow_add, show (min z 10).toNat + (z + -10).toNat = z.toNat by omega]
theorem tr_loop {T d : Nat} (a b : Int64) (f : Nat) (hT0 : 0 < T) (hT : T < 2 ^ 53) (hd : d ≤ 5000) : ∀ (m k r : Nat), k + m = d → mf_Tw_rest_b142 a b f (m + 1) (lN T) (iI (d : Int)) (lN (r % T)) (nI k) = mf_Tw_exact (mf_Tw_minus a f) (lN (r * 2 ^ m % T)) (mf_Tw_power b f) f := by
  intro m
  induction m with
  | zero =>
    intro k r hk
    rw [mf_Tw_rest_b142, iI_n, if_pos ((iI_le (by omega) (by omega) (by omega) (by omega)).mpr (by omega)), Nat.pow_zero, Nat.mul_one]
  | succ m ih =>
    intro k r hk
    have hr := Nat.mod_lt r hT0
    rw [mf_Tw_rest_b142, if_neg (fun q => by
      rw [iI_n] at q
      have := (iI_le (by omega) (by omega) (by omega) (by omega)).mp q
      omega), m_sl (c := (1 : Int32)) 1 2 (by decide) rfl rfl, pk_lRem (by omega) hT0 (by omega), Nat.mod_mul_mod, show (1 : Int32) = nI 1 from rfl, nI_add, ih (k + 1) (r * 2) (by omega), Nat.mul_assoc, ← Nat.pow_succ']
theorem fx_inflt {i n : Nat} (h : i < 2) (hn : n < 2 ^ 64) (c1 : mf_Fo_isNoNumber i (lN n) = 0) (c2 : mf_Fo_isInfinite i (lN n) = 0) : mf_Fo_magnitude i (lN n) < fo_inf i := by
  unfold mf_Fo_isNoNumber at c1
  unfold mf_Fo_isInfinite at c2
  by_cases a1 : mf_Fo_magnitude i (lN n) ≤ fo_inf i
  · by_cases a2 : mf_Fo_magnitude i (lN n) = fo_inf i
    · rw [if_pos a2] at c2
      exact absurd c2 (by decide)
    · rw [Int64.lt_iff_toInt_lt]
      rw [Int64.le_iff_toInt_le] at a1
      have a3 : (mf_Fo_magnitude i (lN n)).toInt ≠ (fo_inf i).toInt := fun q => a2 (Int64.toInt_inj.mp q)
      omega
  · rw [if_neg a1] at c1
    exact absurd c1 (by decide)
theorem rs_eq {i na nb : Nat} (h : i < 2) (ha : na < 2 ^ 64) (hb : nb < 2 ^ 64) : mf_Tw_rest (lN na) (lN nb) (1 - i) = mf_Fo_remainder i (lN na) (lN nb) := by
  unfold mf_Tw_rest mf_Fo_remainder
  rw [tc_isNone h, tc_isNone h, tc_isInfinite h, tc_isInfinite h, tc_isZero h, tc_none h, tc_size h, tc_size h]
  by_cases c1 : mf_Fo_isNoNumber i (lN na) = 0
  · rw [if_pos c1, if_pos c1]
    by_cases c2 : mf_Fo_isNoNumber i (lN nb) = 0
    · rw [if_pos c2, if_pos c2]
      by_cases c3 : mf_Fo_isInfinite i (lN na) = 0
      · rw [if_pos c3, if_pos c3]
        by_cases c4 : mf_Fo_isZero i (lN nb) = 0
        · rw [if_pos c4, if_pos c4]
          by_cases c5 : mf_Fo_isInfinite i (lN nb) = 0
          · rw [if_pos c5]
            by_cases c6 : mf_Fo_magnitude i (lN nb) ≤ mf_Fo_magnitude i (lN na)
            · rw [if_pos c6, if_pos c6]
              obtain ⟨a1, a2, a3, p1, p2, p3⟩ := fm_bd h na
              obtain ⟨b1, -, b3, -, -, -⟩ := fm_bd h nb
              obtain ⟨wb, w1, w2, -⟩ := fx_w h hb c4
              have hw0 := Nat.two_pow_pos wb
              have hfw : fw i ≤ 63 := by rcases f01 h with rfl | rfl <;> decide +kernel
              have hm : nb % 2 ^ fw i ≤ na % 2 ^ fw i := by
                rw [fm_mag h ha, fm_mag h hb] at c6
                have q1 : na % 2 ^ fw i < 2 ^ 63 := Nat.lt_of_lt_of_le (Nat.mod_lt _ (Nat.two_pow_pos _)) (Nat.pow_le_pow_right (by decide) hfw)
                have q2 : nb % 2 ^ fw i < 2 ^ 63 := Nat.lt_of_lt_of_le (Nat.mod_lt _ (Nat.two_pow_pos _)) (Nat.pow_le_pow_right (by decide) hfw)
                exact (pk_lLE q2 q1).mp c6
              obtain ⟨m1, -⟩ := ft_mono (p := fp i) hm
              unfold mf_Fo_finiteRemainder
              rw [tc_whole h, tc_whole h, tc_power h, tc_power h, fm_sig h ha, fm_sig h hb, fm_scale h ha, fm_scale h hb, iI_sub]
              have hsc := fm_scale h hb
              have hng := tc_minus h (lN na)
              have hpw := tc_power h (lN nb)
              generalize ft_sig (fp i) (na % 2 ^ fw i) = Sa at *
              generalize ft_sig (fp i) (nb % 2 ^ fw i) = Sb at *
              generalize ft_exp (fp i) (na % 2 ^ fw i) = Ka at *
              generalize ft_exp (fp i) (nb % 2 ^ fw i) = Kb at *
              rw [if_neg (fun q => absurd ((li_eq0 (by omega)).mp q) (by omega)), show (Ka : Int) - fle i - ((Kb : Int) - fle i) = ((Ka - Kb : Nat) : Int) by omega, iI_t (by omega) (by omega), show (0 : Int32).toInt = 0 from rfl, show (((Ka - Kb : Nat) : Int) - 0).toNat + 1 = Ka - Kb + 1 by omega, show (((Ka - Kb : Nat) : Int)).toNat + 1 = Ka - Kb + 1 by omega, pk_lRem (by omega) (by omega) (by omega)]
              rw [cr_loop (lN na) (lN nb) (by omega) (by omega) (Ka - Kb + 1) ((Ka - Kb : Nat) : Int) Sa (by omega) (by omega) (by omega)]
              have q := tr_loop (d := Ka - Kb) (T := Sb) (lN na) (lN nb) (1 - i) (by omega) (by omega) (by omega) (Ka - Kb) 0 Sa (by omega)
              rw [show nI 0 = (0 : Int32) from rfl] at q
              rw [q, hng, hpw, hsc, show (((Ka - Kb : Nat) : Int)).toNat = Ka - Kb by omega]
              have hlt := Nat.mod_lt (Sa * 2 ^ (Ka - Kb)) (show 0 < Sb by omega)
              unfold mf_Tw_exact
              rw [rd_T' h _ (by omega) (by omega) (by omega), rd_C' h _ (by omega) (by omega) (by omega)]
            · rw [if_neg c6, if_neg c6]
          · rw [if_neg c5]
            have q := fx_inflt h ha c1 c3
            have e : mf_Fo_magnitude i (lN nb) = fo_inf i := by
              unfold mf_Fo_isInfinite at c5
              by_cases z : mf_Fo_magnitude i (lN nb) = fo_inf i
              · exact z
              · rw [if_neg z] at c5
                exact absurd rfl c5
            rw [if_neg]
            rw [e]
            intro z
            rw [Int64.le_iff_toInt_le] at z
            rw [Int64.lt_iff_toInt_lt] at q
            omega
        · rw [if_neg c4, if_neg c4]
      · rw [if_neg c3, if_neg c3]
    · rw [if_neg c2, if_neg c2]
  · rw [if_neg c1, if_neg c1]
theorem ch_eq {i j n : Nat} (h : i < 2) (hj : j < 2) (hn : n < 2 ^ 64) : mf_Tw_changed (lN n) (1 - j) (1 - i) = mf_Fo_nearestTo i j (lN n) := by
  unfold mf_Tw_changed mf_Fo_nearestTo mf_Tw_exact
  rw [tc_isNone hj, tc_isInfinite hj, tc_minus hj, tc_whole hj, tc_power hj, tc_none h, tc_inf h, tc_signed h, fm_sig hj hn, fm_scale hj hn]
  obtain ⟨a1, a2, a3, p1, p2, p3⟩ := fm_bd hj n
  rw [rd_T' h _ (by omega) (by omega) (by omega), rd_C' h _ (by omega) (by omega) (by omega)]
theorem lN_xor (a b : Nat) : lN a ^^^ lN b = lN (a ^^^ b) := by
  apply Int64.toBitVec_inj.mp
  rw [Int64.toBitVec_xor, wb_tb, wb_tb, wb_tb]
  apply BitVec.eq_of_getLsbD_eq
  intro k hk
  simp [BitVec.getLsbD_ofNat, Nat.testBit_xor, hk]
theorem fx_xor {i n : Nat} (h : i < 2) (hn : n < 2 ^ (fw i + 1)) : lN n ^^^ fo_sign i = lN (n ^^^ 2 ^ fw i) ∧ n ^^^ 2 ^ fw i < 2 ^ (fw i + 1) ∧ (n ^^^ 2 ^ fw i) % 2 ^ fw i = n % 2 ^ fw i := by
  have hs : fo_sign i = lN (2 ^ fw i) := by rcases f01 h with rfl | rfl <;> decide +kernel
  refine ⟨by rw [hs, lN_xor], Nat.xor_lt_two_pow hn (Nat.pow_lt_pow_right (by decide) (by omega)), ?_⟩
  rw [Nat.xor_mod_two_pow, Nat.mod_self, Nat.xor_zero]
theorem fx_nanT {i : Nat} (h : i < 2) : ¬ mf_Fo_isNoNumber i (fo_nan i) = 0 := by
  rcases f01 h with rfl | rfl <;> decide +kernel
theorem sb_eq {i na nb : Nat} (h : i < 2) (ha : na < 2 ^ (fw i + 1)) (hb : nb < 2 ^ (fw i + 1)) : mf_Tw_subtract (lN na) (lN nb) (1 - i) = mf_Fo_minus i (lN na) (lN nb) := by
  obtain ⟨e1, e2, e3⟩ := fx_xor h hb
  have hN : mf_Fo_isNoNumber i (lN (nb ^^^ 2 ^ fw i)) = mf_Fo_isNoNumber i (lN nb) := by
    unfold mf_Fo_isNoNumber
    rw [fm_mag h (fx_64 h e2), fm_mag h (fx_64 h hb), e3]
  unfold mf_Tw_subtract mf_Fo_minus mf_Fo_negated mf_Fo_told
  rw [tc_isNone h, tc_turned h, tc_none h, e1, hN]
  by_cases c : mf_Fo_isNoNumber i (lN nb) = 0
  · rw [if_pos c, if_pos c, ad_eq h ha e2]
  · rw [if_neg c, if_neg c]
    unfold mf_Fo_plus
    rw [if_neg (fx_nanT h)]
    split <;> rfl
