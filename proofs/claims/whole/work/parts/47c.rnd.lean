/-! Both ways to round, on longs -/
theorem iI_mx {a b : Int} (h1 : -2147483648 ≤ a) (h2 : a < 2147483648) (h3 : -2147483648 ≤ b) (h4 : b < 2147483648) : (if iI a < iI b then iI b else iI a) = iI (max a b) := by
  by_cases c : a < b
  · rw [if_pos ((iI_lt h1 h2 h3 h4).mpr c), show max a b = b by omega]
  · rw [if_neg (fun q => c ((iI_lt h1 h2 h3 h4).mp q)), show max a b = a by omega]
theorem fm_wl {M : Nat} {d : Int} (hM : M < 2 ^ 63) (h1 : 1 ≤ d) (h2 : d ≤ 63) : mf_Fo_withoutLowest (lN M) (iI d) = lN (fr_dv M d.toNat) := by
  unfold mf_Fo_withoutLowest
  rw [show (1 : Int32) = iI 1 from rfl, iI_sub, li_pw (z := d - 1) (by omega) (by omega), li_mask (by omega) (by omega) (by omega), li_shr (by omega) (by omega) (by omega)]
  obtain ⟨s, hs, e1, e2⟩ : ∃ s : Nat, s < 63 ∧ d.toNat = s + 1 ∧ (d - 1).toNat = s := ⟨(d - 1).toNat, by omega, by omega, rfl⟩
  rw [e1, e2]
  have hX : 2 ^ (s + 1) = 2 * 2 ^ s := by rw [Nat.pow_succ, Nat.mul_comm]
  have hX2 : 2 ^ s < 2 ^ 63 := Nat.pow_lt_pow_right (by decide) hs
  have hr : M % 2 ^ (s + 1) < 2 ^ 63 := Nat.lt_of_le_of_lt (Nat.mod_le _ _) hM
  have hq : M / 2 ^ (s + 1) < 2 ^ 63 := Nat.lt_of_le_of_lt (Nat.div_le_self _ _) hM
  unfold fr_dv fr_up
  rw [wb_a1 (Nat.lt_of_lt_of_le hq (by decide))]
  rw [hX] at hr hq ⊢
  generalize M % (2 * 2 ^ s) = r at *
  generalize M / (2 * 2 ^ s) = q at *
  generalize 2 ^ s = X at *
  by_cases c1 : X < r
  · rw [if_pos ((pk_lLT hX2 hr).mpr c1), if_pos (by omega)]
    exact lN_1 q
  · rw [if_neg (fun z => c1 ((pk_lLT hX2 hr).mp z))]
    by_cases c2 : r = X
    · rw [if_pos ((pk_lEQ hr hX2).mpr c2)]
      by_cases c3 : q % 2 = 1
      · rw [if_pos (show lN (q % 2) = (1 : Int64) by rw [c3]; rfl), if_pos (by omega)]
        exact lN_1 q
      · rw [if_neg (show ¬ lN (q % 2) = (1 : Int64) from fun z => c3 ((pk_lEQ (b := 1) (by omega) (by decide)).mp z)), if_neg (by omega), Nat.add_zero]
    · rw [if_neg (fun z => c2 ((pk_lEQ hr hX2).mp z)), if_neg (by omega), Nat.add_zero]
theorem rd_C {i n : Nat} {z : Int} (h : i < 2) (g : Int32) (h0 : 0 < n) (hn : n < 2 ^ 63) (hz1 : -100000 ≤ z) (hz2 : z ≤ 100000) : mf_Fo_rounded i g (lN n) (iI z) = mf_Fo_signed i g (lN (fr_Z (fp i) (ftp i * 2 ^ (fp i - 1)) n (z + fle i))) := by
  obtain ⟨w, -, w1, w2⟩ := fr_sz_of (show n ≠ 0 by omega)
  have hw : w < 63 := jl_w w1 hn
  have hl := jl_l w1 w2 (by omega)
  have hc : fo_bias i = iI ((fle i : Int) - fp i + 2) ∧ fo_top i = iI (ftp i) ∧ fo_fb i = iI ((fp i : Int) - 1) ∧ 24 ≤ fp i ∧ fp i ≤ 53 ∧ fle i ≤ 1074 ∧ 1 ≤ ftp i ∧ ftp i ≤ 2047 := by rcases f01 h with rfl | rfl <;> decide +kernel
  obtain ⟨e1, e2, e3, p1, p2, p3, p4, p5⟩ := hc
  unfold mf_Fo_rounded
  rw [if_neg (fun q => absurd ((li_eq0 hn).mp q) (by omega)), hl, e1, e2, e3, fx_inf h]
  rw [show (1 : Int32) = iI 1 from rfl, show (62 : Int32) = iI 62 from rfl, show (63 : Int32) = iI 63 from rfl, show (0 : Int32) = iI 0 from rfl]
  simp only [iI_sub, iI_add]
  obtain ⟨ex, hex⟩ : ∃ ex : Int, ex = z - (63 - (w : Int) - 1) + 62 + ((fle i : Int) - fp i + 2) := ⟨_, rfl⟩
  rw [← hex, iI_mx (by omega) (by omega) (by omega) (by omega), iI_mx (by omega) (by omega) (by omega) (by omega), iI_add]
  obtain ⟨dr, hdr⟩ : ∃ dr : Int, dr = 62 - ((fp i : Int) - 1) + max (1 - ex) 0 := ⟨_, rfl⟩
  rw [← hdr, fr_C (ex := ex) (dr := dr) (by omega) p2 p4 (by omega) w1 w2 (by omega) (by omega)]
  by_cases c1 : (ftp i : Int) ≤ ex
  · rw [if_neg (fun q => absurd ((iI_lt (by omega) (by omega) (by omega) (by omega)).mp q) (by omega)), if_pos c1]
  · rw [if_pos ((iI_lt (by omega) (by omega) (by omega) (by omega)).mpr (by omega)), if_neg c1]
    by_cases c2 : 63 < dr
    · rw [if_neg (fun q => absurd ((iI_le (by omega) (by omega) (by omega) (by omega)).mp q) (by omega)), if_pos c2]
      rfl
    · rw [if_pos ((iI_le (by omega) (by omega) (by omega) (by omega)).mpr (by omega)), if_neg c2]
      have hM : n * 2 ^ (62 - w) < 2 ^ 63 := by
        have q := Nat.mul_lt_mul_of_pos_right w2 (Nat.two_pow_pos (62 - w))
        rw [← Nat.pow_add, show w + 1 + (62 - w) = 63 by omega] at q
        exact q
      rw [li_shl n (z := 63 - (w : Int) - 1) (by omega) (by omega), show (63 - (w : Int) - 1).toNat = 62 - w by omega, fm_wl hM (by omega) (by omega), li_i2l (by omega) (by omega), li_shl _ (z := (fp i : Int) - 1) (by omega) (by omega), show ((fp i : Int) - 1).toNat = fp i - 1 by omega, lN_add]
/-- the reference's last steps -/
theorem rd_T2 {i X : Nat} {z s : Int} (h : i < 2) (g : Int32) (a : Int64) (o : Int32) (hX : X ≤ 2 ^ fp i) (hl : 0 ≤ s + z + fle i) (hz1 : -100000 ≤ z) (hz2 : z ≤ 100000) (hs1 : -200000 ≤ s) (hs2 : s ≤ 200000) : mf_Tw_rounded_b137 g a (iI z) o (1 - i) (tw_pl (1 - i)) (iI s) (lN X) = mf_Fo_signed i g (lN (fr_end (fp i) (ftp i) X (s + z + fle i).toNat)) := by
  have hc : tw_pl (1 - i) = iI (fp i) ∧ tw_le (1 - i) = iI (-(fle i : Int)) ∧ tw_gr (1 - i) = iI ((ftp i : Int) - 2 - fle i) ∧ 24 ≤ fp i ∧ fp i ≤ 53 ∧ fle i ≤ 1074 ∧ 2 ≤ ftp i ∧ ftp i ≤ 2047 ∧ (fp i : Nat) ≤ 53 := by rcases f01 h with rfl | rfl <;> decide +kernel
  obtain ⟨e1, e2, e3, p1, p2, p3, p4, p5, -⟩ := hc
  have hp : 2 ^ fp i ≤ 2 ^ 53 := Nat.pow_le_pow_right (by decide) p2
  have hp1 : 2 ^ (fp i - 1) ≤ 2 ^ 52 := Nat.pow_le_pow_right (by decide) (by omega)
  have key : ∀ (Y : Nat) (t : Int), Y < 2 ^ 63 → 0 ≤ t + fle i → -400000 ≤ t → t ≤ 400000 → mf_Tw_rounded_b162 g a (iI z) o (1 - i) (iI (fp i)) (lN Y) (iI t) = mf_Fo_signed i g (lN (fr_bits (fp i) (ftp i) Y (t + fle i).toNat)) := by
    intro Y t hY ht t1 t2
    unfold mf_Tw_rounded_b162 fr_bits
    rw [e2, e3, tc_inf h, fx_inf h, show (1 : Int32) = iI 1 from rfl]
    simp only [iI_sub, iI_add]
    by_cases c : (t + fle i).toNat + 1 < ftp i
    · rw [if_pos ((iI_le (by omega) (by omega) (by omega) (by omega)).mpr (by omega)), if_pos c, li_sar hY (by omega) (by omega), show ((fp i : Int) - 1).toNat = fp i - 1 by omega]
      have hq : Y / 2 ^ (fp i - 1) < 2 ^ 63 := Nat.lt_of_le_of_lt (Nat.div_le_self _ _) hY
      by_cases c2 : Y / 2 ^ (fp i - 1) = 0
      · rw [c2, if_pos lN0, if_pos rfl, tc_signed h]
      · rw [if_neg (fun q => c2 ((li_eq0 hq).mp q)), if_neg c2, tc_signed h, li_mask (by omega) (by omega) (by omega), li_i2l (by omega) (by omega), li_shl _ (z := (fp i : Int) - 1) (by omega) (by omega), show ((fp i : Int) - 1).toNat = fp i - 1 by omega]
        have hm := Nat.mod_lt Y (Nat.two_pow_pos (fp i - 1))
        have hb : (t - -(fle i : Int) + 1).toNat = (t + fle i).toNat + 1 := by omega
        have hbig : ((t + fle i).toNat + 1) * 2 ^ (fp i - 1) ≤ 2047 * 2 ^ 52 := Nat.mul_le_mul (by omega) hp1
        rw [hb, li_or hm (by omega)]
    · rw [if_neg (fun q => absurd ((iI_le (by omega) (by omega) (by omega) (by omega)).mp q) (by omega)), if_neg c, tc_signed h]
  unfold mf_Tw_rounded_b137 fr_end
  rw [e1, li_sar (by omega) (by omega) (by omega), show ((fp i : Nat) : Int).toNat = fp i by omega, iI_add]
  have hq : X / 2 ^ fp i < 2 ^ 63 := Nat.lt_of_le_of_lt (Nat.div_le_self _ _) (by omega)
  by_cases c : X / 2 ^ fp i = 0
  · rw [c, if_pos lN0, if_pos rfl, key X (z + s) (by omega) (by omega) (by omega) (by omega)]
    congr 3
    omega
  · rw [if_neg (fun q => c ((li_eq0 hq).mp q)), if_neg c, show (1 : Int32) = iI 1 from rfl, iI_add, li_sar (by omega) (by omega) (by omega), show (1 : Int).toNat = 1 from rfl, Nat.pow_one, key (X / 2) (z + s + 1) (by omega) (by omega) (by omega) (by omega)]
    congr 3
    omega
theorem rd_T {i n o : Nat} {z : Int} (h : i < 2) (g : Int32) (h0 : 0 < n) (hn : n < 2 ^ 63) (hz1 : -100000 ≤ z) (hz2 : z ≤ 100000) (ho : o < 2) (how : o = 1 → 2 ^ fp i ≤ n) : mf_Tw_rounded g (lN n) (iI z) (nI o) (1 - i) = mf_Fo_signed i g (lN (fr_Z (fp i) (ftp i * 2 ^ (fp i - 1)) (2 * n + o) (z + fle i - 1))) := by
  obtain ⟨w, -, w1, w2⟩ := fr_sz_of (show n ≠ 0 by omega)
  have hw : w < 63 := jl_w w1 hn
  have hl := jl_l w1 w2 (by omega)
  have hc : tw_pl (1 - i) = iI (fp i) ∧ tw_le (1 - i) = iI (-(fle i : Int)) ∧ 24 ≤ fp i ∧ fp i ≤ 53 ∧ fle i ≤ 1074 ∧ 2 ≤ ftp i ∧ ftp i ≤ 2047 := by rcases f01 h with rfl | rfl <;> decide +kernel
  obtain ⟨e1, e2, p1, p2, p3, p4, p5⟩ := hc
  have hpw : o = 1 → fp i ≤ w := fun q => by
    have := jl_w (how q) w2
    omega
  obtain ⟨s, hs⟩ : ∃ s : Int, s = max ((w : Int) + 1 - fp i) (-(z + fle i)) := ⟨_, rfl⟩
  have hS : (if (((64 : Int32) - (mf_Jd_lnlz (lN n))) - (tw_pl (1 - i))) < ((tw_le (1 - i)) - iI z) then ((tw_le (1 - i)) - iI z) else (((64 : Int32) - (mf_Jd_lnlz (lN n))) - (tw_pl (1 - i)))) = iI s := by
    rw [hl, e1, e2, show (64 : Int32) = iI 64 from rfl]
    simp only [iI_sub]
    rw [iI_mx (by omega) (by omega) (by omega) (by omega)]
    congr 1
    omega
  obtain ⟨x1, x2⟩ := fr_x_le (p := fp i) (more := o) (k := z + fle i) (s := s) (by omega) (by omega) w1 w2 hs
  have hfin : ∀ X : Nat, X = fr_x n o s → mf_Tw_rounded_b137 g (lN n) (iI z) (nI o) (1 - i) (tw_pl (1 - i)) (iI s) (lN X) = mf_Fo_signed i g (lN (fr_Z (fp i) (ftp i * 2 ^ (fp i - 1)) (2 * n + o) (z + fle i - 1))) := by
    intro X hX
    subst hX
    rw [rd_T2 h g (lN n) (nI o) x1 (by omega) hz1 hz2 (by omega) (by omega), fr_T1 ho hpw (by omega) w1 w2 hs, fr_T2 (by omega) p4 x1 x2, show s + z + (fle i : Int) = s + (z + fle i) by omega]
  unfold mf_Tw_rounded
  rw [hS, if_neg (fun q => absurd ((li_eq0 hn).mp q) (by omega))]
  by_cases c0 : 0 < s
  · rw [if_pos (show (0 : Int32) < iI s from (iI_lt (a := 0) (by omega) (by omega) (by omega) (by omega)).mpr c0)]
    by_cases c1 : s ≤ 63
    · rw [if_pos (show iI s ≤ (63 : Int32) from (iI_le (b := 63) (by omega) (by omega) (by omega) (by omega)).mpr c1), show (1 : Int32) = iI 1 from rfl, iI_sub, li_pw (z := s - 1) (by omega) (by omega), li_mask (by omega) (by omega) (by omega), li_sar hn (by omega) (by omega)]
      have hfx : fr_x n o s = n / 2 ^ s.toNat + fr_upm n s.toNat o := by
        unfold fr_x
        rw [if_neg (by omega), if_neg (by omega)]
      obtain ⟨t, ht, g1, g2⟩ : ∃ t : Nat, t < 63 ∧ s.toNat = t + 1 ∧ (s - 1).toNat = t := ⟨(s - 1).toNat, by omega, by omega, rfl⟩
      rw [g1] at hfx ⊢
      rw [g2]
      have hXX : 2 ^ (t + 1) = 2 * 2 ^ t := by rw [Nat.pow_succ, Nat.mul_comm]
      have hX2 : 2 ^ t < 2 ^ 63 := Nat.pow_lt_pow_right (by decide) ht
      have hr : n % 2 ^ (t + 1) < 2 ^ 63 := Nat.lt_of_le_of_lt (Nat.mod_le _ _) hn
      have hq : n / 2 ^ (t + 1) < 2 ^ 63 := Nat.lt_of_le_of_lt (Nat.div_le_self _ _) hn
      rw [wb_a1 (Nat.lt_of_lt_of_le hq (by decide))]
      unfold fr_upm at hfx
      rw [hXX] at hr hq hfx ⊢
      have hup : ∀ q : Nat, q + 1 = fr_x n o s → mf_Tw_rounded_b131 g (lN n) (iI z) (nI o) (1 - i) (tw_pl (1 - i)) (iI s) (lN q) = mf_Fo_signed i g (lN (fr_Z (fp i) (ftp i * 2 ^ (fp i - 1)) (2 * n + o) (z + fle i - 1))) := by
        intro q e
        unfold mf_Tw_rounded_b131
        rw [show lN q + (1 : Int64) = lN (q + 1) from lN_1 q]
        exact hfin _ e
      generalize n % (2 * 2 ^ t) = r at *
      generalize n / (2 * 2 ^ t) = q at *
      generalize 2 ^ t = X at *
      by_cases c2 : X < r
      · rw [if_pos (by omega)] at hfx
        rw [if_pos ((pk_lLT hX2 hr).mpr c2)]
        exact hup q hfx.symm
      · rw [if_neg (fun z => c2 ((pk_lLT hX2 hr).mp z))]
        by_cases c3 : r = X
        · rw [if_pos ((pk_lEQ hr hX2).mpr c3)]
          by_cases c4 : o = 0
          · rw [if_pos (by rw [c4]; rfl)]
            by_cases c5 : q % 2 = 1
            · rw [if_pos (by omega)] at hfx
              rw [if_pos (show lN (q % 2) = (1 : Int64) by rw [c5]; rfl)]
              exact hup q hfx.symm
            · rw [if_neg (by omega), Nat.add_zero] at hfx
              rw [if_neg (show ¬ lN (q % 2) = (1 : Int64) from fun z => c5 ((pk_lEQ (b := 1) (by omega) (by decide)).mp z))]
              exact hfin q hfx.symm
          · rw [if_neg (show ¬ nI o = 0 from nI_ne0 (by omega) (by omega))]
            rw [if_pos (by omega)] at hfx
            exact hup q hfx.symm
        · rw [if_neg (fun z => c3 ((pk_lEQ hr hX2).mp z))]
          rw [if_neg (by omega), Nat.add_zero] at hfx
          exact hfin q hfx.symm
    · rw [if_neg (show ¬ iI s ≤ (63 : Int32) from fun q => c1 ((iI_le (b := 63) (by omega) (by omega) (by omega) (by omega)).mp q))]
      refine hfin 0 ?_
      unfold fr_x
      rw [if_neg (by omega), if_pos (by omega)]
  · rw [if_neg (show ¬ (0 : Int32) < iI s from fun q => c0 ((iI_lt (a := 0) (by omega) (by omega) (by omega) (by omega)).mp q)), iI_neg, li_shl _ (by omega) (by omega)]
    refine hfin _ ?_
    unfold fr_x
    rw [if_pos (by omega)]
