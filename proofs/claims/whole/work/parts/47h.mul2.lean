/-! The reference's product -/
set_option maxRecDepth 100000 in
theorem tp_both {A B : Nat} (hA : A < 9007199254740992) (hB : B < 9007199254740992) : ((((lN A &&& (134217727 : Int64)) * (lN B &&& (134217727 : Int64))) + (((((lN A >>> ((27 : Int32).toInt64 &&& 63)) * (lN B &&& (134217727 : Int64))) + ((lN A &&& (134217727 : Int64)) * (lN B >>> ((27 : Int32).toInt64 &&& 63)))) &&& (134217727 : Int64)) <<< ((27 : Int32).toInt64 &&& 63))) &&& (18014398509481983 : Int64)) = lN (A * B % 2 ^ 54) ∧ ((((lN A >>> ((27 : Int32).toInt64 &&& 63)) * (lN B >>> ((27 : Int32).toInt64 &&& 63))) + ((((lN A >>> ((27 : Int32).toInt64 &&& 63)) * (lN B &&& (134217727 : Int64))) + ((lN A &&& (134217727 : Int64)) * (lN B >>> ((27 : Int32).toInt64 &&& 63)))) >>> ((27 : Int32).toInt64 &&& 63))) + ((((lN A &&& (134217727 : Int64)) * (lN B &&& (134217727 : Int64))) + (((((lN A >>> ((27 : Int32).toInt64 &&& 63)) * (lN B &&& (134217727 : Int64))) + ((lN A &&& (134217727 : Int64)) * (lN B >>> ((27 : Int32).toInt64 &&& 63)))) &&& (134217727 : Int64)) <<< ((27 : Int32).toInt64 &&& 63))) >>> ((54 : Int32).toInt64 &&& 63))) = lN (A * B / 2 ^ 54) := by
  rw [m_hi (show A < 2 ^ 63 by omega), m_hi (show B < 2 ^ 63 by omega), m_lo (show A < 2 ^ 64 by omega), m_lo (show B < 2 ^ 64 by omega), lN_mul, lN_mul, lN_mul, lN_mul, lN_add]
  obtain ⟨e, x1, x2, x3, x4⟩ := pr_T hA hB rfl rfl rfl rfl rfl
  generalize A / 134217728 * (B / 134217728) = X at *
  generalize A / 134217728 * (B % 134217728) = Y at *
  generalize A % 134217728 * (B / 134217728) = Z at *
  generalize A % 134217728 * (B % 134217728) = V at *
  rw [m_lo (show Y + Z < 2 ^ 64 by omega), m_hi (show Y + Z < 2 ^ 63 by omega), m_sl (c := (27 : Int32)) 27 134217728 (by decide) rfl rfl, lN_add, lN_add]
  obtain ⟨lo, hlo⟩ : ∃ lo, lo = V + (Y + Z) % 134217728 * 134217728 := ⟨_, rfl⟩
  rw [← hlo] at e x3 x4
  rw [← hlo, m_sr (c := (54 : Int32)) 54 (by decide) rfl (show lo < 2 ^ 63 by omega), lN_add, show (18014398509481983 : Int64) = lN (2 ^ 54 - 1) from rfl, wb_mask (by omega) (by decide), ← e]
  constructor
  · congr 1
    omega
  · congr 1
    omega
set_option maxRecDepth 100000 in
theorem ts_prod {i na nb wa wb : Nat} (h : i < 2) (g : Int32) (ha : na < 2 ^ 64) (hb : nb < 2 ^ 64) (a1 : 2 ^ wa ≤ ft_sig (fp i) (na % 2 ^ fw i)) (a2 : ft_sig (fp i) (na % 2 ^ fw i) < 2 ^ (wa + 1)) (b1 : 2 ^ wb ≤ ft_sig (fp i) (nb % 2 ^ fw i)) (b2 : ft_sig (fp i) (nb % 2 ^ fw i) < 2 ^ (wb + 1)) (hwa : wa < fp i) (hwb : wb < fp i) (n1 : mf_Tw_isNone (lN na) (1 - i) = 0) (n2 : mf_Tw_isNone (lN nb) (1 - i) = 0) (f1 : mf_Tw_isInfinite (lN na) (1 - i) = 0) (f2 : mf_Tw_isInfinite (lN nb) (1 - i) = 0) (z1 : mf_Tw_isZero (lN na) (1 - i) = 0) (z2 : mf_Tw_isZero (lN nb) (1 - i) = 0) :
    mf_Tw_multiply_b20 (lN na) (lN nb) (1 - i) g = mf_Fo_signed i g (lN (fr_Z (fp i) (ftp i * 2 ^ (fp i - 1)) (ft_sig (fp i) (na % 2 ^ fw i) * 2 ^ (52 - wa) * (ft_sig (fp i) (nb % 2 ^ fw i) * 2 ^ (52 - wb))) ((ft_exp (fp i) (na % 2 ^ fw i) : Int) + ft_exp (fp i) (nb % 2 ^ fw i) - fle i - (52 - (wa : Int)) - (52 - (wb : Int))))) := by
  obtain ⟨-, -, a3, p1, p2, p3⟩ := fm_bd h na
  obtain ⟨-, -, b3, -, -, -⟩ := fm_bd h nb
  unfold mf_Tw_multiply_b20
  rw [if_pos n1, if_pos n2, if_pos f1, if_pos f2, if_pos z1, if_pos z2, tc_whole h, tc_whole h, tc_power h, tc_power h, fm_sig h ha, fm_sig h hb, fm_scale h ha, fm_scale h hb]
  generalize ft_sig (fp i) (na % 2 ^ fw i) = Sa at *
  generalize ft_sig (fp i) (nb % 2 ^ fw i) = Sb at *
  generalize ft_exp (fp i) (na % 2 ^ fw i) = Ka at *
  generalize ft_exp (fp i) (nb % 2 ^ fw i) = Kb at *
  rw [tm_mv h a1 a2 hwa, tm_mv h b1 b2 hwb, li_shl Sa (by omega) (by omega), li_shl Sb (by omega) (by omega), show ((fp i : Int) - 1 - wa).toNat = fp i - 1 - wa by omega, show ((fp i : Int) - 1 - wb).toNat = fp i - 1 - wb by omega, show (46 : Int32) = iI 46 from rfl]
  simp only [iI_sub, iI_add]
  rcases f01 h with rfl | rfl
  · rw [if_pos (show nI (1 - 0) = (1 : Int32) from rfl), lN_mul]
    have ep : fp 0 = 24 := rfl
    have hwa : wa < 24 := hwa
    have hwb : wb < 24 := hwb
    rw [ep]
    obtain ⟨A1, A2⟩ := mv_up a1 a2 (show wa ≤ 23 by omega)
    obtain ⟨B1, B2⟩ := mv_up b1 b2 (show wb ≤ 23 by omega)
    have eA : Sa * 2 ^ (52 - wa) = Sa * 2 ^ (23 - wa) * 2 ^ 29 := by rw [Nat.mul_assoc, ← Nat.pow_add, show 23 - wa + 29 = 52 - wa by omega]
    have eB : Sb * 2 ^ (52 - wb) = Sb * 2 ^ (23 - wb) * 2 ^ 29 := by rw [Nat.mul_assoc, ← Nat.pow_add, show 23 - wb + 29 = 52 - wb by omega]
    rw [eA, eB, show 24 - 1 - wa = 23 - wa by omega, show 24 - 1 - wb = 23 - wb by omega]
    generalize Sa * 2 ^ (23 - wa) = A at *
    generalize Sb * 2 ^ (23 - wb) = B at *
    have hP2 : A * B < 2 ^ 48 := by
      have := Nat.mul_lt_mul_of_lt_of_lt A2 B2
      rw [← Nat.pow_add] at this
      exact this
    unfold mf_Tw_exact
    rw [rd_T' (by decide) g (by omega) (by omega) (by omega), Nat.mul_mul_mul_comm, ← Nat.pow_add]
    congr 2
    refine (fr_Z_to _ _ (j := 58) rfl ?_).symm
    omega
  · rw [if_neg (show ¬ nI (1 - 1) = (1 : Int32) by decide)]
    have ep : fp 1 = 53 := rfl
    have hwa : wa < 53 := hwa
    have hwb : wb < 53 := hwb
    rw [ep]
    obtain ⟨A1, A2⟩ := mv_up a1 a2 (show wa ≤ 52 by omega)
    obtain ⟨B1, B2⟩ := mv_up b1 b2 (show wb ≤ 52 by omega)
    rw [show 53 - 1 - wa = 52 - wa by omega, show 53 - 1 - wb = 52 - wb by omega]
    generalize Sa * 2 ^ (52 - wa) = A at *
    generalize Sb * 2 ^ (52 - wb) = B at *
    have hP1 : 2 ^ 104 ≤ A * B := by
      have := Nat.mul_le_mul A1 B1
      rw [← Nat.pow_add] at this
      exact this
    have hP2 : A * B < 2 ^ 106 := by
      have := Nat.mul_lt_mul_of_lt_of_lt A2 B2
      rw [← Nat.pow_add] at this
      exact this
    obtain ⟨t1, t2⟩ := tp_both (show A < 9007199254740992 by omega) (show B < 9007199254740992 by omega)
    rw [t1, t2, show (70368744177663 : Int64) = lN (2 ^ 46 - 1) from rfl, wb_mask (by omega) (by decide), m_sl (c := (8 : Int32)) 8 256 (by decide) rfl rfl, m_sr (c := iI 46) 46 (by decide) rfl (show A * B % 2 ^ 54 < 2 ^ 63 by omega), m_or (k := 8) rfl (by omega) (by omega), show A * B / 2 ^ 54 * 256 + A * B % 2 ^ 54 / 2 ^ 46 = A * B / 2 ^ 46 by omega, show A * B % 2 ^ 54 % 2 ^ 46 = A * B % 2 ^ 46 by omega]
    have fin : ∀ o : Nat, o = ft_tt (A * B % 2 ^ 46) → mf_Tw_rounded g (lN (A * B / 2 ^ 46)) (iI ((Ka : Int) - fle 1 + ((Kb : Int) - fle 1) - (((53 : Nat) : Int) - 1 - wa) - (((53 : Nat) : Int) - 1 - wb) + 46)) (nI o) (1 - 1) = mf_Fo_signed 1 g (lN (fr_Z 53 (ftp 1 * 2 ^ (53 - 1)) (A * B) ((Ka : Int) + Kb - fle 1 - (52 - (wa : Int)) - (52 - (wb : Int))))) := by
      intro o ho
      subst ho
      rw [rd_T (by decide) g (by omega) (by omega) (by omega) (by omega) (ft_tt_lt _) (fun _ => by rw [ep]; omega), ep, ft_moreZ (by decide) (by omega)]
      congr 3
      omega
    by_cases c : A * B % 2 ^ 46 = 0
    · rw [if_pos ((li_eq0 (by omega)).mpr c)]
      exact fin 0 (ft_tt_0.mpr c).symm
    · rw [if_neg (fun q => c ((li_eq0 (by omega)).mp q))]
      exact fin 1 (by unfold ft_tt; rw [if_neg c])
