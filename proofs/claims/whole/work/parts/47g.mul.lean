/-! Products -/
theorem m27 : (134217727 : Int64) = lN (2 ^ 27 - 1) := rfl
theorem m_hi {A : Nat} (hA : A < 2 ^ 63) : lN A >>> ((27 : Int32).toInt64 &&& 63) = lN (A / 134217728) := by
  rw [show (27 : Int32) = nI 27 from rfl, wb_sar hA (by decide)]
theorem m_lo {A : Nat} (hA : A < 2 ^ 64) : lN A &&& (134217727 : Int64) = lN (A % 134217728) := by
  rw [m27, wb_mask hA (by decide)]
theorem m_sl {A : Nat} (k P : Nat) (hk : k < 64) {c : Int32} (hc : c = nI k) (hP : 2 ^ k = P) : lN A <<< (c.toInt64 &&& 63) = lN (A * P) := by
  rw [hc, wb_shl A hk, hP]
theorem m_or {a b k P : Nat} (hP : 2 ^ k = P) (ha : a < P) (h : b * P + a < 2 ^ 64) : lN (b * P) ||| lN a = lN (b * P + a) := by
  subst hP
  exact li_or ha h
theorem m_sr {A : Nat} (k : Nat) (hk : k < 64) {c : Int32} (hc : c = nI k) (hA : A < 2 ^ 63) : lN A >>> (c.toInt64 &&& 63) = lN (A / 2 ^ k) := by
  rw [hc, wb_sar hA hk]
set_option maxRecDepth 100000 in
theorem cp_up {A B : Nat} (hA : A < 9007199254740992) (hB : B < 9007199254740992) : mf_Fo_upperProduct (lN A) (lN B) = lN (ft_st (A * B) 44) := by
  unfold mf_Fo_upperProduct
  rw [m_hi (show A < 2 ^ 63 by omega), m_hi (show B < 2 ^ 63 by omega), m_lo (show A < 2 ^ 64 by omega), m_lo (show B < 2 ^ 64 by omega), lN_mul, lN_mul, lN_mul, lN_mul]
  obtain ⟨e, x1, x2, x3⟩ := pr_C hA hB rfl rfl rfl rfl rfl
  generalize A / 134217728 * (B / 134217728) = X at *
  generalize A / 134217728 * (B % 134217728) = Y at *
  generalize A % 134217728 * (B / 134217728) = Z at *
  generalize A % 134217728 * (B % 134217728) = V at *
  rw [m_hi (show V < 2 ^ 63 by omega), lN_add, lN_add]
  generalize hm : Y + Z + V / 134217728 = mid at *
  rw [m_hi (show mid < 2 ^ 63 by omega), lN_add, m_lo (show mid < 2 ^ 64 by omega), m_lo (show V < 2 ^ 64 by omega), m_sl (c := (27 : Int32)) 27 134217728 (by decide) rfl rfl, m_sl (c := (10 : Int32)) 10 1024 (by decide) rfl rfl, m_or (k := 27) rfl (by omega) (by omega)]
  obtain ⟨lo, hlo⟩ : ∃ lo, lo = mid % 134217728 * 134217728 + V % 134217728 := ⟨_, rfl⟩
  obtain ⟨hi, hhi⟩ : ∃ hi, hi = X + mid / 134217728 := ⟨_, rfl⟩
  rw [← hlo, ← hhi] at e
  rw [← hlo, ← hhi]
  rw [show (44 : Int32) = iI 44 from rfl, fm_so (x := lo) (by omega) (by decide) (by decide), show (44 : Int).toNat = 44 from rfl]
  have ht := ft_tt_lt (lo % 2 ^ 44)
  have el : ft_st lo 44 = if lo / 2 ^ 44 % 2 = 0 then lo / 2 ^ 44 + ft_tt (lo % 2 ^ 44) else lo / 2 ^ 44 := by
    unfold ft_st
    exact fr_or ht
  have hlt : ft_st lo 44 < 1024 := by
    rw [el]
    split <;> omega
  rw [m_or (k := 10) rfl hlt (by omega)]
  refine congrArg lN ?_
  unfold ft_st
  rw [← e, show (hi * 18014398509481984 + lo) % 2 ^ 44 = lo % 2 ^ 44 by omega, show (hi * 18014398509481984 + lo) / 2 ^ 44 = hi * 1024 + lo / 2 ^ 44 by omega, fr_or ht, fr_or ht]
  by_cases c : lo / 2 ^ 44 % 2 = 0
  · rw [if_pos c, if_pos (show (hi * 1024 + lo / 2 ^ 44) % 2 = 0 by omega)]
    omega
  · rw [if_neg c, if_neg (show ¬ (hi * 1024 + lo / 2 ^ 44) % 2 = 0 by omega)]
/-- a significand moved up so that its highest bit is q -/
theorem mv_up {S w q : Nat} (h1 : 2 ^ w ≤ S) (h2 : S < 2 ^ (w + 1)) (hq : w ≤ q) : 2 ^ q ≤ S * 2 ^ (q - w) ∧ S * 2 ^ (q - w) < 2 ^ (q + 1) := by
  have z1 := Nat.mul_le_mul_right (2 ^ (q - w)) h1
  have z2 := Nat.mul_lt_mul_of_pos_right h2 (Nat.two_pow_pos (q - w))
  rw [← Nat.pow_add, show w + (q - w) = q by omega] at z1
  rw [← Nat.pow_add, show w + 1 + (q - w) = q + 1 by omega] at z2
  exact ⟨z1, z2⟩
theorem cm_sh {S w : Nat} (h1 : 2 ^ w ≤ S) (h2 : S < 2 ^ (w + 1)) (hw : w ≤ 52) : mf_Fo_shiftToLead (lN S) = iI (52 - (w : Int)) := by
  have hp : 2 ^ (w + 1) ≤ 2 ^ 53 := Nat.pow_le_pow_right (by decide) (by omega)
  unfold mf_Fo_shiftToLead
  rw [jl_l h1 h2 (by omega), show (11 : Int32) = iI 11 from rfl, iI_sub]
  congr 1
  omega
theorem tm_mv {i S w : Nat} (h : i < 2) (h1 : 2 ^ w ≤ S) (h2 : S < 2 ^ (w + 1)) (hw : w < fp i) : mf_Tw_moved (lN S) (1 - i) = iI ((fp i : Int) - 1 - w) := by
  have hc : tw_pl (1 - i) = iI (fp i) ∧ fp i ≤ 53 := by rcases f01 h with rfl | rfl <;> decide +kernel
  have hp : 2 ^ (w + 1) ≤ 2 ^ 53 := Nat.pow_le_pow_right (by decide) (by omega)
  unfold mf_Tw_moved
  rw [jl_l h1 h2 (by omega), hc.1, show (64 : Int32) = iI 64 from rfl, iI_sub, iI_add]
  congr 1
  omega
set_option maxRecDepth 100000 in
/-- the class's product of two that are finite and not 0 -/
theorem cs_prod {i na nb wa wb : Nat} (h : i < 2) (g : Int32) (ha : na < 2 ^ 64) (hb : nb < 2 ^ 64) (a1 : 2 ^ wa ≤ ft_sig (fp i) (na % 2 ^ fw i)) (a2 : ft_sig (fp i) (na % 2 ^ fw i) < 2 ^ (wa + 1)) (b1 : 2 ^ wb ≤ ft_sig (fp i) (nb % 2 ^ fw i)) (b2 : ft_sig (fp i) (nb % 2 ^ fw i) < 2 ^ (wb + 1)) (hwa : wa < fp i) (hwb : wb < fp i) :
    mf_Fo_finiteProduct i g (lN na) (lN nb) = mf_Fo_signed i g (lN (fr_Z (fp i) (ftp i * 2 ^ (fp i - 1)) (ft_sig (fp i) (na % 2 ^ fw i) * 2 ^ (52 - wa) * (ft_sig (fp i) (nb % 2 ^ fw i) * 2 ^ (52 - wb))) ((ft_exp (fp i) (na % 2 ^ fw i) : Int) + ft_exp (fp i) (nb % 2 ^ fw i) - fle i - (52 - (wa : Int)) - (52 - (wb : Int))))) := by
  obtain ⟨-, -, a3, p1, p2, p3⟩ := fm_bd h na
  obtain ⟨-, -, b3, -, -, -⟩ := fm_bd h nb
  unfold mf_Fo_finiteProduct
  rw [fm_sig h ha, fm_sig h hb, fm_scale h ha, fm_scale h hb]
  generalize ft_sig (fp i) (na % 2 ^ fw i) = Sa at *
  generalize ft_sig (fp i) (nb % 2 ^ fw i) = Sb at *
  generalize ft_exp (fp i) (na % 2 ^ fw i) = Ka at *
  generalize ft_exp (fp i) (nb % 2 ^ fw i) = Kb at *
  rw [cm_sh a1 a2 (by omega), cm_sh b1 b2 (by omega), li_shl _ (by omega) (by omega), li_shl _ (by omega) (by omega), show (52 - (wa : Int)).toNat = 52 - wa by omega, show (52 - (wb : Int)).toNat = 52 - wb by omega, show (54 : Int32) = iI 54 from rfl, show (10 : Int32) = iI 10 from rfl]
  simp only [iI_sub, iI_add]
  obtain ⟨A1, A2⟩ := mv_up a1 a2 (show wa ≤ 52 by omega)
  obtain ⟨B1, B2⟩ := mv_up b1 b2 (show wb ≤ 52 by omega)
  generalize Sa * 2 ^ (52 - wa) = A at *
  generalize Sb * 2 ^ (52 - wb) = B at *
  have hP1 : 2 ^ 104 ≤ A * B := by
    have := Nat.mul_le_mul A1 B1
    rw [← Nat.pow_add] at this
    exact this
  have hP2 : A * B < 2 ^ 106 := by
    have := Nat.mul_lt_mul_of_lt_of_lt A2 B2
    rw [← Nat.pow_add] at this
    exact this
  have hpw : 2 ^ (fp i + 1) ≤ 2 ^ 54 := Nat.pow_le_pow_right (by decide) (by omega)
  rw [cp_up (by omega) (by omega)]
  have hst : ft_st (A * B) 44 < 2 ^ 63 := by
    unfold ft_st
    have ht := ft_tt_lt (A * B % 2 ^ 44)
    rw [fr_or ht]
    split <;> omega
  rw [rd_C' h g hst (by omega) (by omega), ft_stZ (by decide) (by omega)]
  congr 3
  omega
