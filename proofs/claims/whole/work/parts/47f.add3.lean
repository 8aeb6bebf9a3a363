/-! The two sums are one -/
theorem fx_n {i n : Nat} (hn : n < 2 ^ (fw i + 1)) : n = fsg i n * 2 ^ fw i + n % 2 ^ fw i := by
  have hX := Nat.two_pow_pos (fw i)
  have e : 2 ^ (fw i + 1) = 2 ^ fw i * 2 := Nat.pow_succ ..
  have hq : n / 2 ^ fw i < 2 := by
    rw [Nat.div_lt_iff_lt_mul hX, Nat.mul_comm, ← e]
    exact hn
  have hd := Nat.div_add_mod n (2 ^ fw i)
  unfold fsg
  rw [Nat.mod_eq_of_lt hq, Nat.mul_comm]
  omega
theorem fx_sg {i m g : Nat} (h : i < 2) (hm : m < 2 ^ fw i) (hg : g < 2) : mf_Fo_signed i (nI g) (lN m) = lN (g * 2 ^ fw i + m) := by
  unfold mf_Fo_signed
  have hs : fo_sign i = lN (2 ^ fw i) ∧ fw i ≤ 63 := by rcases f01 h with rfl | rfl <;> decide +kernel
  have hp : 2 ^ fw i ≤ 2 ^ 63 := Nat.pow_le_pow_right (by decide) hs.2
  rcases (show g = 0 ∨ g = 1 by omega) with rfl | rfl
  · rw [if_pos (show nI 0 = (0 : Int32) from rfl), Nat.zero_mul, Nat.zero_add]
  · rw [if_neg (show ¬ nI 1 = (0 : Int32) by decide), hs.1, Int64.or_comm]
    have o := li_or (a := m) (b := 1) (k := fw i) hm (by omega)
    rw [Nat.one_mul] at o
    rw [o, Nat.one_mul]
theorem fx_a {i n : Nat} (h : i < 2) (hn : n < 2 ^ (fw i + 1)) : lN n = mf_Fo_signed i (nI (fsg i n)) (lN (n % 2 ^ fw i)) := by
  have sg : fsg i n < 2 := Nat.mod_lt _ (by decide)
  rw [fx_sg h (Nat.mod_lt n (Nat.two_pow_pos (fw i))) sg, ← fx_n hn]
theorem fx_64 {i n : Nat} (h : i < 2) (hn : n < 2 ^ (fw i + 1)) : n < 2 ^ 64 := by
  have : fw i ≤ 63 := by rcases f01 h with rfl | rfl <;> decide +kernel
  exact Nat.lt_of_lt_of_le hn (Nat.pow_le_pow_right (by decide) (by omega))
theorem fx_mag {i n : Nat} (h : i < 2) (hn : n < 2 ^ (fw i + 1)) : mf_Fo_magnitude i (lN n) = lN (n % 2 ^ fw i) ∧ n % 2 ^ fw i < 2 ^ 63 := by
  have : fw i ≤ 63 := by rcases f01 h with rfl | rfl <;> decide +kernel
  exact ⟨fm_mag h (fx_64 h hn), Nat.lt_of_lt_of_le (Nat.mod_lt _ (Nat.two_pow_pos _)) (Nat.pow_le_pow_right (by decide) this)⟩
theorem fx_zero {i n : Nat} (h : i < 2) (hn : n < 2 ^ (fw i + 1)) : mf_Fo_isZero i (lN n) = 0 ↔ ¬ n % 2 ^ fw i = 0 := by
  obtain ⟨e, hm⟩ := fx_mag h hn
  unfold mf_Fo_isZero
  rw [e]
  by_cases c : n % 2 ^ fw i = 0
  · rw [if_pos ((li_eq0 hm).mpr c)]
    exact ⟨fun q => absurd q (by decide), fun q => absurd c q⟩
  · rw [if_neg (fun q => c ((li_eq0 hm).mp q))]
    exact ⟨fun _ => c, fun _ => rfl⟩
theorem ad_fin {i na nb : Nat} (h : i < 2) (ha : na < 2 ^ (fw i + 1)) (hb : nb < 2 ^ (fw i + 1)) : mf_Tw_add_b117 (lN na) (lN nb) (1 - i) = if mf_Fo_magnitude i (lN na) < mf_Fo_magnitude i (lN nb) then mf_Fo_finiteSum i (lN nb) (lN na) else mf_Fo_finiteSum i (lN na) (lN nb) := by
  have ha4 := fx_64 h ha
  have hb4 := fx_64 h hb
  obtain ⟨ea, hma⟩ := fx_mag h ha
  obtain ⟨eb, hmb⟩ := fx_mag h hb
  obtain ⟨a1, a2, a3, p1, p2, p3⟩ := fm_bd h na
  obtain ⟨b1, -, b3, -, -, -⟩ := fm_bd h nb
  have hT : mf_Tw_add_b117 (lN na) (lN nb) (1 - i) = if ft_exp (fp i) (na % 2 ^ fw i) < ft_exp (fp i) (nb % 2 ^ fw i) then mf_Tw_add_b161 (lN na) (lN nb) (1 - i) (lN nb) (lN na) else mf_Tw_add_b161 (lN na) (lN nb) (1 - i) (lN na) (lN nb) := by
    unfold mf_Tw_add_b117
    rw [tc_power h, tc_power h, fm_scale h ha4, fm_scale h hb4]
    by_cases c : ft_exp (fp i) (na % 2 ^ fw i) < ft_exp (fp i) (nb % 2 ^ fw i)
    · rw [if_pos ((iI_lt (by omega) (by omega) (by omega) (by omega)).mpr (by omega)), if_pos c]
      unfold mf_Tw_add_b137 mf_Tw_add_b149
      rw [if_pos rfl, if_pos rfl]
    · rw [if_neg (fun q => c (by have := (iI_lt (by omega) (by omega) (by omega) (by omega)).mp q; omega)), if_neg c]
      unfold mf_Tw_add_b137 mf_Tw_add_b149
      rw [if_neg (show ¬ (1 : Int32) = 0 by decide), if_neg (show ¬ (1 : Int32) = 0 by decide)]
  rw [hT, ea, eb]
  by_cases c : na % 2 ^ fw i < nb % 2 ^ fw i
  · rw [if_pos ((pk_lLT hma hmb).mpr c), cs_sum h hb4 ha4 (by omega)]
    obtain ⟨m1, m2⟩ := ft_mono (p := fp i) (show na % 2 ^ fw i ≤ nb % 2 ^ fw i by omega)
    by_cases c2 : ft_exp (fp i) (na % 2 ^ fw i) < ft_exp (fp i) (nb % 2 ^ fw i)
    · rw [if_pos c2, ts_b161 h _ _ hb4 ha4 (by omega)]
      by_cases s : fsg i nb = fsg i na
      · rw [if_pos s, if_pos s]
      · rw [if_neg s, if_neg s]
        by_cases c3 : ft_sig (fp i) (nb % 2 ^ fw i) * 2 ^ (ft_exp (fp i) (nb % 2 ^ fw i) - ft_exp (fp i) (na % 2 ^ fw i)) = ft_sig (fp i) (na % 2 ^ fw i)
        · rw [if_pos c3, if_pos c3]
        · rw [if_neg c3, if_neg c3, if_pos (show ft_sig (fp i) (na % 2 ^ fw i) < ft_sig (fp i) (nb % 2 ^ fw i) * 2 ^ (ft_exp (fp i) (nb % 2 ^ fw i) - ft_exp (fp i) (na % 2 ^ fw i)) by omega)]
    · have e : ft_exp (fp i) (na % 2 ^ fw i) = ft_exp (fp i) (nb % 2 ^ fw i) := by omega
      rw [if_neg c2, ts_b161 h _ _ ha4 hb4 (by omega)]
      rw [e, Nat.sub_self, Nat.pow_zero, Nat.mul_one, Nat.mul_one]
      rw [e, Nat.sub_self, Nat.pow_zero, Nat.mul_one] at m2
      by_cases c3 : fsg i na = fsg i nb
      · rw [if_pos c3, if_pos c3.symm, c3, Nat.add_comm]
      · rw [if_neg c3, if_neg (show ¬ fsg i nb = fsg i na from fun q => c3 q.symm)]
        by_cases c4 : ft_sig (fp i) (na % 2 ^ fw i) = ft_sig (fp i) (nb % 2 ^ fw i)
        · rw [if_pos c4, if_pos c4.symm]
        · rw [if_neg c4, if_neg (show ¬ ft_sig (fp i) (nb % 2 ^ fw i) = ft_sig (fp i) (na % 2 ^ fw i) from fun q => c4 q.symm), if_neg (show ¬ ft_sig (fp i) (nb % 2 ^ fw i) < ft_sig (fp i) (na % 2 ^ fw i) by omega)]
  · rw [if_neg (fun q => c ((pk_lLT hma hmb).mp q)), cs_sum h ha4 hb4 (by omega)]
    obtain ⟨m1, m2⟩ := ft_mono (p := fp i) (show nb % 2 ^ fw i ≤ na % 2 ^ fw i by omega)
    rw [if_neg (show ¬ ft_exp (fp i) (na % 2 ^ fw i) < ft_exp (fp i) (nb % 2 ^ fw i) by omega), ts_b161 h _ _ ha4 hb4 m1]
    by_cases s : fsg i na = fsg i nb
    · rw [if_pos s, if_pos s]
    · rw [if_neg s, if_neg s]
      by_cases c3 : ft_sig (fp i) (na % 2 ^ fw i) * 2 ^ (ft_exp (fp i) (na % 2 ^ fw i) - ft_exp (fp i) (nb % 2 ^ fw i)) = ft_sig (fp i) (nb % 2 ^ fw i)
      · rw [if_pos c3, if_pos c3]
      · rw [if_neg c3, if_neg c3, if_pos (show ft_sig (fp i) (nb % 2 ^ fw i) < ft_sig (fp i) (na % 2 ^ fw i) * 2 ^ (ft_exp (fp i) (na % 2 ^ fw i) - ft_exp (fp i) (nb % 2 ^ fw i)) by omega)]
theorem ad_eq {i na nb : Nat} (h : i < 2) (ha : na < 2 ^ (fw i + 1)) (hb : nb < 2 ^ (fw i + 1)) : mf_Tw_add (lN na) (lN nb) (1 - i) = mf_Fo_plus i (lN na) (lN nb) := by
  have ha4 := fx_64 h ha
  have hb4 := fx_64 h hb
  unfold mf_Tw_add mf_Fo_plus mf_Tw_add_b42
  rw [tc_isNone h, tc_isNone h, tc_isInfinite h, tc_isInfinite h, tc_isZero h, tc_isZero h, tc_none h]
  by_cases c1 : mf_Fo_isNoNumber i (lN na) = 0
  · rw [if_pos c1, if_pos c1]
    by_cases c2 : mf_Fo_isNoNumber i (lN nb) = 0
    · rw [if_pos c2, if_pos c2]
      by_cases c3 : mf_Fo_isInfinite i (lN na) = 0
      · rw [if_pos c3, if_pos c3, if_pos c3]
        by_cases c4 : mf_Fo_isInfinite i (lN nb) = 0
        · rw [if_pos c4, if_pos c4, ad_fin h ha hb]
          by_cases c5 : mf_Fo_isZero i (lN na) = 0
          · rw [if_pos c5]
          · rw [if_neg c5]
            by_cases c6 : mf_Fo_isZero i (lN nb) = 0
            · rw [if_pos c6]
            · rw [if_neg c6]
              have za : na % 2 ^ fw i = 0 := by
                by_cases q : na % 2 ^ fw i = 0
                · exact q
                · exact absurd ((fx_zero h ha).mpr q) c5
              have zb : nb % 2 ^ fw i = 0 := by
                by_cases q : nb % 2 ^ fw i = 0
                · exact q
                · exact absurd ((fx_zero h hb).mpr q) c6
              have sga : fsg i na < 2 := Nat.mod_lt _ (by decide)
              have sgb : fsg i nb < 2 := Nat.mod_lt _ (by decide)
              rw [(fx_mag h ha).1, (fx_mag h hb).1, za, zb, if_neg (show ¬ lN 0 < lN 0 by decide), cs_sum h ha4 hb4 (by omega), za, zb]
              have s0 : ft_sig (fp i) 0 = 0 := ft_sig_zero.mpr rfl
              rw [s0, Nat.zero_mul, Nat.zero_add, fr_Z_zero, if_pos rfl]
              by_cases c7 : fsg i na = fsg i nb
              · have e : na = nb := by
                  rw [fx_n ha, fx_n hb, za, zb, c7]
                have ea := fx_a h ha
                rw [za] at ea
                rw [if_pos c7, if_pos (show lN na = lN nb by rw [e])]
                exact ea
              · rw [if_neg c7, if_neg (fun q => c7 (by
                  have e := congrArg (fun x : Int64 => x.toBitVec.toNat) q
                  have e2 : na = nb := by rw [← wb_tn ha4, ← wb_tn hb4]; exact e
                  rw [e2]))]
        · rw [if_neg c4, if_neg c4]
      · rw [if_neg c3, if_neg c3, if_neg c3]
    · rw [if_neg c2, if_neg c2]
  · rw [if_neg c1, if_neg c1]
