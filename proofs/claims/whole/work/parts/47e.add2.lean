/-! The reference's sum -/
theorem ts_b314 {i X Y o K : Nat} {z : Int} (h : i < 2) (a b : Int64) {nh nl : Nat} (hh : nh < 2 ^ 64) (hl : nl < 2 ^ 64) (hX : X < 2 ^ 62) (hY : Y < 2 ^ 62) (ho : o < 2) (hz1 : -90000 ≤ z) (hz2 : z ≤ 90000) (hbig : o = 1 → 2 ^ fp i + Y + 1 ≤ X) {N M : Nat} (hN : fr_Z (fp i) (ftp i * 2 ^ (fp i - 1)) (2 * (X + Y) + o) (z + fle i - 1) = fr_Z (fp i) (ftp i * 2 ^ (fp i - 1)) N (K : Int)) (hM : Y ≤ X → fr_Z (fp i) (ftp i * 2 ^ (fp i - 1)) (2 * (X - Y - o) + o) (z + fle i - 1) = fr_Z (fp i) (ftp i * 2 ^ (fp i - 1)) M (K : Int)) :
    mf_Tw_add_b314 a b (1 - i) (lN nh) (lN nl) (lN X) (lN Y) (iI z) (nI o) = if fsg i nh = fsg i nl then mf_Fo_signed i (nI (fsg i nh)) (lN (fr_Z (fp i) (ftp i * 2 ^ (fp i - 1)) N (K : Int)))
      else if X = Y then 0 else if Y < X then mf_Fo_signed i (nI (fsg i nh)) (lN (fr_Z (fp i) (ftp i * 2 ^ (fp i - 1)) M (K : Int))) else mf_Fo_signed i (nI (fsg i nl)) (lN (fr_Z (fp i) (ftp i * 2 ^ (fp i - 1)) (Y - X) (z + fle i))) := by
  have hp : 2 ^ 24 ≤ 2 ^ fp i := Nat.pow_le_pow_right (by decide) (by rcases f01 h with rfl | rfl <;> decide +kernel)
  have sga : fsg i nh < 2 := Nat.mod_lt _ (by decide)
  have sgb : fsg i nl < 2 := Nat.mod_lt _ (by decide)
  have hr : ∀ (n : Nat) (g : Int32), n < 2 ^ 63 → (o = 1 → 2 ^ fp i ≤ n) → mf_Tw_rounded g (lN n) (iI z) (nI o) (1 - i) = mf_Fo_signed i g (lN (fr_Z (fp i) (ftp i * 2 ^ (fp i - 1)) (2 * n + o) (z + fle i - 1))) := by
    intro n g hn how
    rcases Nat.eq_zero_or_pos n with e | h0
    · have e0 : o = 0 := by
        rcases (show o = 0 ∨ o = 1 by omega) with q | q
        · exact q
        · have := how q
          omega
      subst e
      subst e0
      rw [show 2 * 0 + 0 = 0 from rfl, fr_Z_zero]
      unfold mf_Tw_rounded
      rw [if_pos lN0, tc_signed h]
      rfl
    · exact rd_T h g h0 hn (by omega) (by omega) ho how
  have hnb : nI (fsg i nh) = nI (fsg i nl) ↔ fsg i nh = fsg i nl := nI_eq (by omega) (by omega)
  unfold mf_Tw_add_b314
  rw [tc_minus h, tc_minus h, fm_neg h hh, fm_neg h hl]
  by_cases c : fsg i nh = fsg i nl
  · rw [if_pos (hnb.mpr c), if_pos c, lN_add, hr (X + Y) _ (by omega) (by omega), hN]
  · rw [if_neg (fun q => c (hnb.mp q)), if_neg c]
    have h368 : ∀ t : Int32, t.toInt64 = lN o → mf_Tw_add_b368 a b (1 - i) (lN nh) (lN nl) (iI z) (nI o) t (lN X - lN Y) = if X = Y then 0 else if Y < X then mf_Fo_signed i (nI (fsg i nh)) (lN (fr_Z (fp i) (ftp i * 2 ^ (fp i - 1)) M (K : Int))) else mf_Fo_signed i (nI (fsg i nl)) (lN (fr_Z (fp i) (ftp i * 2 ^ (fp i - 1)) (Y - X) (z + fle i))) := by
      intro t ht
      unfold mf_Tw_add_b368 mf_Tw_add_b386
      rw [ht, tc_minus h, tc_minus h, fm_neg h hh, fm_neg h hl]
      by_cases c1 : Y ≤ X
      · have hoX : o ≤ X - Y := by
          rcases (show o = 0 ∨ o = 1 by omega) with q | q
          · omega
          · have := hbig q
            omega
        rw [lN_sub c1, lN_sub hoX]
        by_cases c2 : X = Y
        · have e0 : o = 0 := by
            rcases (show o = 0 ∨ o = 1 by omega) with q | q
            · exact q
            · have := hbig q
              omega
          rw [if_pos c2, show X - Y - o = 0 by omega, if_pos lN0, e0, if_pos (show nI 0 = (0 : Int32) from rfl)]
        · have hne : X - Y - o ≠ 0 := by
            rcases (show o = 0 ∨ o = 1 by omega) with q | q
            · omega
            · have := hbig q
              omega
          rw [if_neg c2, if_pos (show Y < X by omega), if_neg (fun q => hne ((li_eq0 (by omega)).mp q)), if_pos (show (0 : Int64) ≤ lN (X - Y - o) from (pk_lLE (a := 0) (by decide) (by omega)).mpr (Nat.zero_le _)), hr (X - Y - o) _ (by omega) (by omega), hM c1]
      · have e0 : o = 0 := by
          rcases (show o = 0 ∨ o = 1 by omega) with q | q
          · exact q
          · have := hbig q
            omega
        have en : lN X - lN Y = -(lN (Y - X)) := by
          rw [← lN_sub (show X ≤ Y by omega), Int64.neg_sub]
        rw [e0, lN0, en, Int64.sub_zero, if_neg (show ¬ X = Y by omega), if_neg (show ¬ Y < X by omega)]
        have hlt : (-(lN (Y - X))).toInt = -((Y - X : Nat) : Int) := Int64.toInt_neg_ofNat_of_le (by omega)
        rw [if_neg (fun q => by
          have := congrArg Int64.toInt q
          rw [hlt, show (0 : Int64).toInt = 0 from rfl] at this
          omega), if_neg (fun q => by
          rw [Int64.le_iff_toInt_le, hlt, show (0 : Int64).toInt = 0 from rfl] at q
          omega), Int64.neg_neg, rd_T' h _ (by omega) (by omega) (by omega)]
    by_cases co : o = 0
    · rw [if_pos (show nI o = 0 by rw [co]; rfl)]
      exact h368 0 (by rw [co]; rfl)
    · rw [if_neg (show ¬ nI o = 0 from nI_ne0 (by omega) (by omega))]
      exact h368 1 (by rw [show o = 1 by omega]; rfl)
theorem ts_b161 {i nh nl : Nat} (h : i < 2) (a b : Int64) (hh : nh < 2 ^ 64) (hl : nl < 2 ^ 64) (hm : ft_exp (fp i) (nl % 2 ^ fw i) ≤ ft_exp (fp i) (nh % 2 ^ fw i)) :
    mf_Tw_add_b161 a b (1 - i) (lN nh) (lN nl) = if fsg i nh = fsg i nl then mf_Fo_signed i (nI (fsg i nh)) (lN (fr_Z (fp i) (ftp i * 2 ^ (fp i - 1)) (ft_sig (fp i) (nh % 2 ^ fw i) * 2 ^ (ft_exp (fp i) (nh % 2 ^ fw i) - ft_exp (fp i) (nl % 2 ^ fw i)) + ft_sig (fp i) (nl % 2 ^ fw i)) (ft_exp (fp i) (nl % 2 ^ fw i) : Int)))
      else if ft_sig (fp i) (nh % 2 ^ fw i) * 2 ^ (ft_exp (fp i) (nh % 2 ^ fw i) - ft_exp (fp i) (nl % 2 ^ fw i)) = ft_sig (fp i) (nl % 2 ^ fw i) then 0
      else if ft_sig (fp i) (nl % 2 ^ fw i) < ft_sig (fp i) (nh % 2 ^ fw i) * 2 ^ (ft_exp (fp i) (nh % 2 ^ fw i) - ft_exp (fp i) (nl % 2 ^ fw i)) then mf_Fo_signed i (nI (fsg i nh)) (lN (fr_Z (fp i) (ftp i * 2 ^ (fp i - 1)) (ft_sig (fp i) (nh % 2 ^ fw i) * 2 ^ (ft_exp (fp i) (nh % 2 ^ fw i) - ft_exp (fp i) (nl % 2 ^ fw i)) - ft_sig (fp i) (nl % 2 ^ fw i)) (ft_exp (fp i) (nl % 2 ^ fw i) : Int)))
      else mf_Fo_signed i (nI (fsg i nl)) (lN (fr_Z (fp i) (ftp i * 2 ^ (fp i - 1)) (ft_sig (fp i) (nl % 2 ^ fw i) - ft_sig (fp i) (nh % 2 ^ fw i) * 2 ^ (ft_exp (fp i) (nh % 2 ^ fw i) - ft_exp (fp i) (nl % 2 ^ fw i))) (ft_exp (fp i) (nl % 2 ^ fw i) : Int))) := by
  obtain ⟨a1, a2, a3, p1, p2, p3⟩ := fm_bd h nh
  obtain ⟨b1, -, b3, -, -, -⟩ := fm_bd h nl
  have hnorm : 9 < ft_exp (fp i) (nh % 2 ^ fw i) - ft_exp (fp i) (nl % 2 ^ fw i) → 2 ^ (fp i - 1) ≤ ft_sig (fp i) (nh % 2 ^ fw i) := fun q => ft_sig_norm (by omega)
  have hpp : 2 ^ fp i = 2 * 2 ^ (fp i - 1) := by
    rw [← Nat.pow_succ', show (fp i - 1).succ = fp i by omega]
  unfold mf_Tw_add_b161
  rw [tc_power h, tc_power h, tc_whole h, tc_whole h, fm_scale h hh, fm_scale h hl, fm_sig h hh, fm_sig h hl, show (9 : Int32) = iI 9 from rfl]
  simp only [iI_sub]
  generalize ft_sig (fp i) (nh % 2 ^ fw i) = Sh at *
  generalize ft_sig (fp i) (nl % 2 ^ fw i) = Sl at *
  generalize ft_exp (fp i) (nh % 2 ^ fw i) = Kh at *
  generalize ft_exp (fp i) (nl % 2 ^ fw i) = Kl at *
  rw [show (Kh : Int) - fle i - ((Kl : Int) - fle i) = ((Kh - Kl : Nat) : Int) by omega]
  have hkd : (Kh : Int) = (Kl : Int) + ((Kh - Kl : Nat) : Int) := by omega
  generalize Kh - Kl = d at *
  have hd : d ≤ 2047 := by omega
  by_cases c : d ≤ 9
  · rw [if_neg (fun q => absurd ((iI_lt (by omega) (by omega) (by omega) (by omega)).mp q) (by omega)), li_shl _ (by omega) (by omega), show ((d : Nat) : Int).toNat = d by omega]
    have hX : Sh * 2 ^ d < 2 ^ 62 := by
      have q1 : 2 ^ d ≤ 2 ^ 9 := Nat.pow_le_pow_right (by decide) c
      have q2 := Nat.mul_le_mul (show Sh ≤ 2 ^ 53 - 1 by omega) q1
      omega
    have q := ts_b314 (i := i) (X := Sh * 2 ^ d) (Y := Sl) (o := 0) (K := Kl) (z := (Kl : Int) - fle i) h a b hh hl hX (by omega) (by decide) (by omega) (by omega) (fun z => absurd z (by decide)) (N := Sh * 2 ^ d + Sl) (M := Sh * 2 ^ d - Sl) (by
      rw [Nat.add_zero]
      exact fr_Z_to _ _ (j := 1) (by rw [Nat.pow_one, Nat.mul_comm]) (by omega)) (fun _ => by
      rw [Nat.add_zero, Nat.sub_zero]
      exact fr_Z_to _ _ (j := 1) (by rw [Nat.pow_one, Nat.mul_comm]) (by omega))
    rw [show nI 0 = (0 : Int32) from rfl] at q
    rw [q, show (Kl : Int) - fle i + fle i = Kl by omega]
  · rw [if_pos ((iI_lt (by omega) (by omega) (by omega) (by omega)).mpr (by omega))]
    have hn := hnorm (by omega)
    obtain ⟨s1, s2⟩ := ft_subT (p := fp i) (inf := ftp i * 2 ^ (fp i - 1)) (S := Sh) (T := Sl) (K := Kl) (d := d) (by omega) (by omega) b1 hn
    have hadd := ft_addT (p := fp i) (inf := ftp i * 2 ^ (fp i - 1)) (S := Sh) (T := Sl) (K := Kl) (d := d) (by omega) (by omega) hn
    have hS9 := ft_big (d := d) (p := fp i) (S := Sh) (by omega) hn
    have hcmp : Sl < Sh * 2 ^ d := by
      have q1 : 2 ^ 9 ≤ 2 ^ d := Nat.pow_le_pow_right (by decide) (by omega)
      have q2 := Nat.mul_le_mul_left Sh q1
      omega
    have hq : Sl / 2 ^ (d - 9) ≤ Sl := Nat.div_le_self _ _
    have fin : mf_Tw_add_b314 a b (1 - i) (lN nh) (lN nl) (lN (Sh * 2 ^ 9)) (lN (Sl / 2 ^ (d - 9))) (iI ((Kh : Int) - fle i - 9)) (nI (ft_tt (Sl % 2 ^ (d - 9)))) = if fsg i nh = fsg i nl then mf_Fo_signed i (nI (fsg i nh)) (lN (fr_Z (fp i) (ftp i * 2 ^ (fp i - 1)) (Sh * 2 ^ d + Sl) (Kl : Int))) else if Sh * 2 ^ d = Sl then 0 else if Sl < Sh * 2 ^ d then mf_Fo_signed i (nI (fsg i nh)) (lN (fr_Z (fp i) (ftp i * 2 ^ (fp i - 1)) (Sh * 2 ^ d - Sl) (Kl : Int))) else mf_Fo_signed i (nI (fsg i nl)) (lN (fr_Z (fp i) (ftp i * 2 ^ (fp i - 1)) (Sl - Sh * 2 ^ d) (Kl : Int))) := by
      have hk : (Kh : Int) - fle i - 9 + fle i - 1 = (Kl : Int) + d - 9 - 1 := by omega
      have q := ts_b314 (i := i) (X := Sh * 2 ^ 9) (Y := Sl / 2 ^ (d - 9)) (o := ft_tt (Sl % 2 ^ (d - 9))) (K := Kl) (z := (Kh : Int) - fle i - 9) h a b hh hl (by omega) (by omega) (ft_tt_lt _) (by omega) (by omega) (fun _ => by omega) (N := Sh * 2 ^ d + Sl) (M := Sh * 2 ^ d - Sl) (by rw [hk]; exact hadd) (fun _ => by rw [hk]; exact s2)
      rw [q, if_neg (show ¬ Sh * 2 ^ d = Sl by omega), if_pos hcmp, if_neg (show ¬ Sh * 2 ^ 9 = Sl / 2 ^ (d - 9) by omega), if_pos (show Sl / 2 ^ (d - 9) < Sh * 2 ^ 9 by omega)]
    rw [← fin]
    rw [li_shl _ (z := 9) (by omega) (by omega), show (9 : Int).toNat = 9 from rfl, show ((d : Nat) : Int) - 9 = ((d - 9 : Nat) : Int) by omega]
    have h62 : (d - 9 ≤ 62 → iI ((d - 9 : Nat) : Int) ≤ (62 : Int32)) ∧ (iI ((d - 9 : Nat) : Int) ≤ (62 : Int32) → d - 9 ≤ 62) := by
      have := iI_le (a := ((d - 9 : Nat) : Int)) (b := 62) (by omega) (by omega) (by omega) (by omega)
      rw [show iI 62 = (62 : Int32) from rfl] at this
      exact ⟨fun q => this.mpr (by omega), fun q => by have := this.mp q; omega⟩
    by_cases c2 : d - 9 ≤ 62
    · rw [if_pos (h62.1 c2), li_mask (by omega) (by omega) (by omega), show ((d - 9 : Nat) : Int).toNat = d - 9 by omega]
      have hml : Sl % 2 ^ (d - 9) < 2 ^ 63 := Nat.lt_of_le_of_lt (Nat.mod_le _ _) (by omega)
      unfold mf_Tw_add_b294 mf_Tw_add_b312
      rw [if_pos (h62.1 c2), li_sar (by omega) (by omega) (by omega), show ((d - 9 : Nat) : Int).toNat = d - 9 by omega]
      by_cases c3 : Sl % 2 ^ (d - 9) = 0
      · rw [if_pos ((li_eq0 hml).mpr c3), ft_tt_0.mpr c3]
        rfl
      · rw [if_neg (fun q => c3 ((li_eq0 hml).mp q)), if_pos (h62.1 c2), show ft_tt (Sl % 2 ^ (d - 9)) = 1 by unfold ft_tt; rw [if_neg c3]]
        rfl
    · rw [if_neg (fun q => c2 (h62.2 q))]
      have hp : 2 ^ 63 ≤ 2 ^ (d - 9) := Nat.pow_le_pow_right (by decide) (by omega)
      unfold mf_Tw_add_b294 mf_Tw_add_b312
      rw [if_neg (fun q => c2 (h62.2 q)), Nat.div_eq_of_lt (show Sl < 2 ^ (d - 9) by omega), Nat.mod_eq_of_lt (show Sl < 2 ^ (d - 9) by omega)]
      by_cases c3 : Sl = 0
      · rw [if_pos ((li_eq0 (by omega)).mpr c3), ft_tt_0.mpr c3]
        rfl
      · rw [if_neg (fun q => c3 ((li_eq0 (by omega)).mp q)), if_neg (fun q => c2 (h62.2 q)), show ft_tt Sl = 1 by unfold ft_tt; rw [if_neg c3]]
        rfl
