/-! Sums -/
theorem rd_C' {i n : Nat} {z : Int} (h : i < 2) (g : Int32) (hn : n < 2 ^ 63) (hz1 : -100000 ≤ z) (hz2 : z ≤ 100000) : mf_Fo_rounded i g (lN n) (iI z) = mf_Fo_signed i g (lN (fr_Z (fp i) (ftp i * 2 ^ (fp i - 1)) n (z + fle i))) := by
  rcases Nat.eq_zero_or_pos n with e | h0
  · subst e
    rw [fr_Z_zero]
    unfold mf_Fo_rounded
    rw [if_pos lN0]
    rfl
  · exact rd_C h g h0 hn hz1 hz2
theorem rd_T' {i n : Nat} {z : Int} (h : i < 2) (g : Int32) (hn : n < 2 ^ 63) (hz1 : -100000 ≤ z) (hz2 : z ≤ 100000) : mf_Tw_rounded g (lN n) (iI z) (0 : Int32) (1 - i) = mf_Fo_signed i g (lN (fr_Z (fp i) (ftp i * 2 ^ (fp i - 1)) n (z + fle i))) := by
  rcases Nat.eq_zero_or_pos n with e | h0
  · subst e
    rw [fr_Z_zero]
    unfold mf_Tw_rounded
    rw [if_pos lN0, tc_signed h]
    rfl
  · have q := rd_T (o := 0) h g h0 hn hz1 hz2 (by decide) (fun z => absurd z (by decide))
    rw [show nI 0 = (0 : Int32) from rfl] at q
    rw [q, Nat.add_zero]
    congr 2
    exact fr_Z_to _ _ (j := 1) (by rw [Nat.pow_one, Nat.mul_comm]) rfl
theorem fm_so {x : Nat} {d : Int} (hx : x < 2 ^ 63) (h0 : 0 ≤ d) (h1 : d ≤ 100000) : mf_Fo_shiftedOut (lN x) (iI d) = lN (ft_st x d.toNat) := by
  unfold mf_Fo_shiftedOut ft_st
  by_cases c : d ≤ 62
  · have hq : x / 2 ^ d.toNat < 2 ^ 63 := Nat.lt_of_le_of_lt (Nat.div_le_self _ _) hx
    rw [if_pos (show iI d ≤ (62 : Int32) from (iI_le (b := 62) (by omega) (by omega) (by omega) (by omega)).mpr c), li_sar hx h0 (by omega), li_shl _ h0 (by omega)]
    have hdm := Nat.div_add_mod x (2 ^ d.toNat)
    rw [Nat.mul_comm] at hdm
    have hle : x / 2 ^ d.toNat * 2 ^ d.toNat < 2 ^ 63 := by omega
    by_cases c2 : x % 2 ^ d.toNat = 0
    · rw [if_pos ((pk_lEQ hle hx).mpr (by omega)), ft_tt_0.mpr c2, Nat.or_zero]
    · rw [if_neg (fun q => c2 (by have := (pk_lEQ hle hx).mp q; omega))]
      have ht : ft_tt (x % 2 ^ d.toNat) = 1 := by
        unfold ft_tt
        rw [if_neg c2]
      rw [ht, ← lN1, wb_or (by omega) (by decide)]
  · rw [if_neg (show ¬ iI d ≤ (62 : Int32) from fun q => c ((iI_le (b := 62) (by omega) (by omega) (by omega) (by omega)).mp q))]
    have hp : 2 ^ 63 ≤ 2 ^ d.toNat := Nat.pow_le_pow_right (by decide) (by omega)
    rw [Nat.div_eq_of_lt (by omega), Nat.mod_eq_of_lt (by omega), Nat.zero_or]
    unfold ft_tt
    by_cases c2 : x = 0
    · rw [if_pos ((li_eq0 hx).mpr c2), if_pos c2]
      rfl
    · rw [if_neg (fun q => c2 ((li_eq0 hx).mp q)), if_neg c2]
      rfl
theorem fm_bd {i : Nat} (h : i < 2) (n : Nat) : ft_sig (fp i) (n % 2 ^ fw i) < 2 ^ fp i ∧ 2 ^ fp i ≤ 2 ^ 53 ∧ ft_exp (fp i) (n % 2 ^ fw i) ≤ 2047 ∧ 24 ≤ fp i ∧ fp i ≤ 53 ∧ fle i ≤ 1074 := by
  have hc : 24 ≤ fp i ∧ fp i ≤ 53 ∧ fle i ≤ 1074 ∧ fw i ≤ fp i - 1 + 11 := by rcases f01 h with rfl | rfl <;> decide +kernel
  obtain ⟨p1, p2, p3, p4⟩ := hc
  refine ⟨ft_sig_lt (by omega), Nat.pow_le_pow_right (by decide) p2, ?_, p1, p2, p3⟩
  unfold ft_exp
  have hq : n % 2 ^ fw i / 2 ^ (fp i - 1) < 2 ^ 11 := by
    rw [Nat.div_lt_iff_lt_mul (Nat.two_pow_pos _), ← Nat.pow_add]
    exact Nat.lt_of_lt_of_le (Nat.mod_lt _ (Nat.two_pow_pos _)) (Nat.pow_le_pow_right (by decide) (by omega))
  omega
theorem ft_st_le (x d : Nat) : ft_st x d ≤ x + 1 := by
  unfold ft_st
  have h1 : x / 2 ^ d ≤ x := Nat.div_le_self _ _
  have h2 := ft_tt_lt (x % 2 ^ d)
  rw [fr_or h2]
  split <;> omega
/-- the class's sum of two that are finite -/
theorem cs_sum {i na nb : Nat} (h : i < 2) (ha : na < 2 ^ 64) (hb : nb < 2 ^ 64) (hm : nb % 2 ^ fw i ≤ na % 2 ^ fw i) :
    mf_Fo_finiteSum i (lN na) (lN nb) = if fsg i na = fsg i nb then mf_Fo_signed i (nI (fsg i na)) (lN (fr_Z (fp i) (ftp i * 2 ^ (fp i - 1)) (ft_sig (fp i) (na % 2 ^ fw i) * 2 ^ (ft_exp (fp i) (na % 2 ^ fw i) - ft_exp (fp i) (nb % 2 ^ fw i)) + ft_sig (fp i) (nb % 2 ^ fw i)) (ft_exp (fp i) (nb % 2 ^ fw i) : Int)))
      else if ft_sig (fp i) (na % 2 ^ fw i) * 2 ^ (ft_exp (fp i) (na % 2 ^ fw i) - ft_exp (fp i) (nb % 2 ^ fw i)) = ft_sig (fp i) (nb % 2 ^ fw i) then 0
      else mf_Fo_signed i (nI (fsg i na)) (lN (fr_Z (fp i) (ftp i * 2 ^ (fp i - 1)) (ft_sig (fp i) (na % 2 ^ fw i) * 2 ^ (ft_exp (fp i) (na % 2 ^ fw i) - ft_exp (fp i) (nb % 2 ^ fw i)) - ft_sig (fp i) (nb % 2 ^ fw i)) (ft_exp (fp i) (nb % 2 ^ fw i) : Int))) := by
  obtain ⟨a1, a2, a3, p1, p2, p3⟩ := fm_bd h na
  obtain ⟨b1, -, b3, -, -, -⟩ := fm_bd h nb
  obtain ⟨m1, m2⟩ := ft_mono (p := fp i) hm
  have hnorm : 9 < ft_exp (fp i) (na % 2 ^ fw i) - ft_exp (fp i) (nb % 2 ^ fw i) → 2 ^ (fp i - 1) ≤ ft_sig (fp i) (na % 2 ^ fw i) := fun q => ft_sig_norm (by omega)
  have sga : fsg i na < 2 := Nat.mod_lt _ (by decide)
  have sgb : fsg i nb < 2 := Nat.mod_lt _ (by decide)
  unfold mf_Fo_finiteSum
  rw [fm_neg h ha, fm_neg h hb, fm_sig h ha, fm_sig h hb, fm_scale h ha, fm_scale h hb, show (9 : Int32) = iI 9 from rfl, iI_sub, iI_sub, li_shl _ (by omega) (by omega), li_shl _ (by omega) (by omega), show (9 : Int).toNat = 9 from rfl]
  generalize hSa : ft_sig (fp i) (na % 2 ^ fw i) = Sa at *
  generalize hSb : ft_sig (fp i) (nb % 2 ^ fw i) = Sb at *
  generalize ft_exp (fp i) (na % 2 ^ fw i) = Ka at *
  generalize ft_exp (fp i) (nb % 2 ^ fw i) = Kb at *
  rw [fm_so (x := Sb * 2 ^ 9) (by omega) (by omega) (by omega), show ((Ka : Int) - fle i - ((Kb : Int) - fle i)).toNat = Ka - Kb by omega]
  have hst := ft_st_le (Sb * 2 ^ 9) (Ka - Kb)
  have hk : (Ka : Int) - fle i - 9 + fle i = (Kb : Int) + ((Ka - Kb : Nat) : Int) - 9 := by omega
  have hadd := ft_addC (p := fp i) (inf := ftp i * 2 ^ (fp i - 1)) (S := Sa) (T := Sb) (K := Kb) (d := Ka - Kb) (by omega) hnorm
  obtain ⟨s1, s2, s3⟩ := ft_subC (p := fp i) (inf := ftp i * 2 ^ (fp i - 1)) (S := Sa) (T := Sb) (K := Kb) (d := Ka - Kb) (by omega) b1 hnorm m2
  generalize hg : ft_st (Sb * 2 ^ 9) (Ka - Kb) = L at *
  have hnb : nI (fsg i na) = nI (fsg i nb) ↔ fsg i na = fsg i nb := nI_eq (by omega) (by omega)
  by_cases c : fsg i na = fsg i nb
  · rw [if_pos (hnb.mpr c), if_pos c, lN_add, rd_C' h _ (by omega) (by omega) (by omega), hk, hadd]
  · rw [if_neg (fun q => c (hnb.mp q)), if_neg c, lN_sub s1]
    have hG : lN (Sa * 2 ^ 9) = lN L ↔ Sa * 2 ^ (Ka - Kb) = Sb := by
      rw [pk_lEQ (by omega) (by omega)]
      exact s2
    by_cases c0 : fsg i na = 0
    · rw [if_pos (show nI (fsg i na) = 0 by rw [c0]; rfl), rd_C' h _ (by omega) (by omega) (by omega), hk, s3, c0]
      by_cases c1 : Sa * 2 ^ (Ka - Kb) = Sb
      · rw [if_pos c1, show Sa * 2 ^ (Ka - Kb) - Sb = 0 by omega, fr_Z_zero]
        rfl
      · rw [if_neg c1]
        rfl
    · rw [if_neg (show ¬ nI (fsg i na) = 0 from nI_ne0 (by omega) (by omega))]
      by_cases c1 : Sa * 2 ^ (Ka - Kb) = Sb
      · rw [if_pos (hG.mpr c1), if_pos c1, rd_C' h _ (by omega) (by omega) (by omega), hk, s3, show Sa * 2 ^ (Ka - Kb) - Sb = 0 by omega, fr_Z_zero]
        rfl
      · rw [if_neg (fun q => c1 (hG.mp q)), if_neg c1, rd_C' h _ (by omega) (by omega) (by omega), hk, s3, show fsg i na = 1 by omega]
        rfl
