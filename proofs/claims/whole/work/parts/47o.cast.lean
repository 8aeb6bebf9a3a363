/-! Cut to whole numbers; whole numbers taken -/
def clip (lo hi x : Int64) : Int64 := if x.toInt < lo.toInt then lo else if hi.toInt < x.toInt then hi else x
theorem cm_52 {z : Int} (h1 : -5000 ≤ z) (h2 : z ≤ 5000) : -(fo_fb 1) ≤ iI z ↔ -52 ≤ z := by
  rw [show -(fo_fb 1) = iI (-52) by decide]
  exact iI_le (by decide) (by decide) (by omega) (by omega)
theorem cm_62 {z : Int} (h1 : -5000 ≤ z) (h2 : z ≤ 5000) : (-62 : Int32) ≤ iI z ↔ -62 ≤ z := by
  rw [show (-62 : Int32) = iI (-62) by decide]
  exact iI_le (by decide) (by decide) (by omega) (by omega)
theorem cm_10 {z : Int} (h1 : -5000 ≤ z) (h2 : z ≤ 5000) : iI z ≤ (10 : Int32) ↔ z ≤ 10 := by
  rw [show (10 : Int32) = iI 10 by decide]
  exact iI_le (by omega) (by omega) (by decide) (by decide)
theorem cm_0 {z : Int} (h1 : -5000 ≤ z) (h2 : z ≤ 5000) : iI z < (0 : Int32) ↔ z < 0 := by
  rw [show (0 : Int32) = iI 0 by decide]
  exact iI_lt (by omega) (by omega) (by decide) (by decide)
theorem cu_K {n : Nat} (hn : n < 2 ^ 64) (c1 : mf_Fo_isNoNumber 1 (lN n) = 0) (hp : ft_exp 53 (n % 2 ^ 63) ≤ 1084) : ∃ K, K < 2 ^ 63 ∧ mf_Fo_cut 1 (lN n) = (if fsg 1 n = 0 then lN K else -lN K) ∧ ∀ lo hi, mf_Tw_cutTo (lN n) lo hi = (if fsg 1 n = 0 then (if lN K ≤ hi then lN K else hi) else (if lo ≤ -lN K then -lN K else lo)) := by
  have e1 := tc_minus (i := 1) (by decide) (lN n)
  have e2 := tc_isNone (i := 1) (by decide) (lN n)
  have e3 := tc_isInfinite (i := 1) (by decide) (lN n)
  have e4 := tc_power (i := 1) (by decide) (lN n)
  have e5 := tc_whole (i := 1) (by decide) (lN n)
  have s1 := fm_neg (i := 1) (by decide) hn
  have s2 := fm_sig (i := 1) (by decide) hn
  have s3 := fm_scale (i := 1) (by decide) hn
  rw [show fp 1 = 53 from rfl, show fw 1 = 63 from rfl] at s2 s3
  rw [show ((fle 1 : Nat) : Int) = 1074 from rfl] at s3
  rw [s1] at e1
  rw [s3] at e4
  rw [s2] at e5
  rw [show (1 - 1 : Nat) = 0 from rfl] at e1 e2 e3 e4 e5
  have hS := ft_sig_lt (p := 53) (m := n % 2 ^ 63) (by decide)
  have hm := Nat.mod_lt n (show 0 < 2 ^ 63 by decide)
  have hi0 : mf_Fo_isInfinite 1 (lN n) = 0 := by
    unfold mf_Fo_isInfinite
    rw [fm_mag (by decide) hn, show fw 1 = 63 from rfl, fx_inf (by decide), show ftp 1 * 2 ^ (fp 1 - 1) = 2047 * 2 ^ 52 from rfl, if_neg]
    intro q
    have q2 := (pk_lEQ hm (by decide)).mp q
    rw [q2] at hp
    exact absurd hp (by decide)
  obtain ⟨S, hSe⟩ : ∃ S, S = ft_sig 53 (n % 2 ^ 63) := ⟨_, rfl⟩
  obtain ⟨e, hee⟩ : ∃ e, e = ft_exp 53 (n % 2 ^ 63) := ⟨_, rfl⟩
  rw [← hSe] at s2 e5 hS
  rw [← hee] at s3 e4 hp
  have hs : fsg 1 n < 2 := Nat.mod_lt _ (by decide)
  have n0 : nI 0 = (0 : Int32) := rfl
  have hg : (nI (fsg 1 n) = (0 : Int32)) ↔ fsg 1 n = 0 := by
    rcases f01 hs with q | q
    · rw [q]; exact ⟨fun _ => rfl, fun _ => rfl⟩
    · rw [q]; exact ⟨fun w => absurd w (by decide), fun w => absurd w (by decide)⟩
  have t1 : ∀ lo hi, mf_Tw_cutTo (lN n) lo hi = mf_Tw_cutTo_b72 (lN n) lo hi (nI (fsg 1 n)) (lN S) (iI ((e : Int) - 1074)) := by
    intro lo hi
    unfold mf_Tw_cutTo mf_Tw_cutTo_b28
    rw [e1, e2, e3, e4, e5, if_pos c1, if_pos hi0, if_pos (show iI ((e : Int) - 1074) ≤ (10 : Int32) from (cm_10 (by omega) (by omega)).mpr (by omega)), if_pos hi0, if_pos (show iI ((e : Int) - 1074) ≤ (10 : Int32) from (cm_10 (by omega) (by omega)).mpr (by omega)), ite_self]
  have t2 : ∀ lo hi K, mf_Tw_cutTo_b102 (lN n) lo hi (nI (fsg 1 n)) (lN K) = (if fsg 1 n = 0 then (if lN K ≤ hi then lN K else hi) else (if lo ≤ -lN K then -lN K else lo)) := by
    intro lo hi K
    unfold mf_Tw_cutTo_b102
    by_cases g : fsg 1 n = 0
    · rw [if_pos (hg.mpr g), if_pos g]
    · rw [if_neg (mt hg.mp g), if_neg g]
  have t3 : mf_Fo_cut 1 (lN n) = if (-(fo_fb 1)) ≤ iI ((e : Int) - 1074) then (if iI ((e : Int) - 1074) < 0 then (if fsg 1 n = 0 then lN S >>> ((-(iI ((e : Int) - 1074))).toInt64 &&& 63) else -(lN S >>> ((-(iI ((e : Int) - 1074))).toInt64 &&& 63))) else if fsg 1 n = 0 then lN S <<< ((iI ((e : Int) - 1074)).toInt64 &&& 63) else -(lN S <<< ((iI ((e : Int) - 1074)).toInt64 &&& 63))) else (0 : Int64) := by
    unfold mf_Fo_cut
    rw [if_pos c1, s1, s2, s3, if_pos (show iI ((e : Int) - 1074) ≤ (62 : Int32) - fo_fb 1 from (cm_10 (by omega) (by omega)).mpr (by omega))]
    by_cases g : fsg 1 n = 0
    · rw [if_pos (hg.mpr g), if_pos g, if_pos (hg.mpr g), if_pos g]
    · rw [if_neg (mt hg.mp g), if_neg g, if_neg (mt hg.mp g), if_neg g]
  by_cases p0 : e < 1074
  · have l0 : iI ((e : Int) - 1074) < 0 := (cm_0 (by omega) (by omega)).mpr (by omega)
    by_cases p1 : 1022 ≤ e
    · refine ⟨S / 2 ^ (1074 - e), by have := Nat.div_le_self S (2 ^ (1074 - e)); omega, ?_, ?_⟩
      · rw [t3, if_pos (show -(fo_fb 1) ≤ iI ((e : Int) - 1074) from (cm_52 (by omega) (by omega)).mpr (by omega)), if_pos l0, iI_neg, li_sar (by omega) (by omega) (by omega), show (-((e : Int) - 1074)).toNat = 1074 - e by omega]
      · intro lo hi
        rw [t1]
        unfold mf_Tw_cutTo_b72
        rw [if_pos l0, if_pos (show (-62 : Int32) ≤ iI ((e : Int) - 1074) from (cm_62 (by omega) (by omega)).mpr (by omega)), iI_neg, li_sar (by omega) (by omega) (by omega), show (-((e : Int) - 1074)).toNat = 1074 - e by omega, t2]
    · refine ⟨0, by decide, ?_, ?_⟩
      · rw [t3, if_neg (show ¬ -(fo_fb 1) ≤ iI ((e : Int) - 1074) from fun q => by
          have := (cm_52 (by omega) (by omega)).mp q
          omega)]
        split <;> rfl
      · intro lo hi
        rw [t1]
        unfold mf_Tw_cutTo_b72
        rw [if_pos l0]
        by_cases p2 : 1012 ≤ e
        · have hz : S / 2 ^ (1074 - e) = 0 := Nat.div_eq_of_lt (Nat.lt_of_lt_of_le hS (Nat.pow_le_pow_right (by decide) (by omega)))
          rw [if_pos (show (-62 : Int32) ≤ iI ((e : Int) - 1074) from (cm_62 (by omega) (by omega)).mpr (by omega)), iI_neg, li_sar (by omega) (by omega) (by omega), show (-((e : Int) - 1074)).toNat = 1074 - e by omega, hz, t2]
        · rw [if_neg (show ¬ (-62 : Int32) ≤ iI ((e : Int) - 1074) from fun q => by
            have := (cm_62 (by omega) (by omega)).mp q
            omega), ← lN0, t2]
  · have l0 : ¬ iI ((e : Int) - 1074) < 0 := fun q => by
      have := (cm_0 (by omega) (by omega)).mp q
      omega
    refine ⟨S * 2 ^ (e - 1074), ?_, ?_, ?_⟩
    · have h1 : 2 ^ (e - 1074) ≤ 2 ^ 10 := Nat.pow_le_pow_right (by decide) (by omega)
      have h2 : S * 2 ^ (e - 1074) ≤ S * 2 ^ 10 := Nat.mul_le_mul_left S h1
      omega
    · rw [t3, if_pos (show -(fo_fb 1) ≤ iI ((e : Int) - 1074) from (cm_52 (by omega) (by omega)).mpr (by omega)), if_neg l0, li_shl _ (by omega) (by omega), show ((e : Int) - 1074).toNat = e - 1074 by omega]
    · intro lo hi
      rw [t1]
      unfold mf_Tw_cutTo_b72
      rw [if_neg l0, li_shl _ (by omega) (by omega), show ((e : Int) - 1074).toNat = e - 1074 by omega, t2]
theorem cu_B {n : Nat} (hn : n < 2 ^ 64) (c1 : mf_Fo_isNoNumber 1 (lN n) = 0) (hp : ¬ ft_exp 53 (n % 2 ^ 63) ≤ 1084) : mf_Fo_cut 1 (lN n) = (if fsg 1 n = 0 then 9223372036854775807 else -9223372036854775808) ∧ ∀ lo hi, mf_Tw_cutTo (lN n) lo hi = if fsg 1 n = 0 then hi else lo := by
  have e1 := tc_minus (i := 1) (by decide) (lN n)
  have e2 := tc_isNone (i := 1) (by decide) (lN n)
  have e4 := tc_power (i := 1) (by decide) (lN n)
  have e5 := tc_whole (i := 1) (by decide) (lN n)
  have s1 := fm_neg (i := 1) (by decide) hn
  have s2 := fm_sig (i := 1) (by decide) hn
  have s3 := fm_scale (i := 1) (by decide) hn
  rw [show fp 1 = 53 from rfl, show fw 1 = 63 from rfl] at s2 s3
  rw [show ((fle 1 : Nat) : Int) = 1074 from rfl] at s3
  rw [s1] at e1
  rw [s3] at e4
  rw [s2] at e5
  rw [show (1 - 1 : Nat) = 0 from rfl] at e1 e2 e4 e5
  have hS := ft_sig_lt (p := 53) (m := n % 2 ^ 63) (by decide)
  have hN := ft_sig_norm (p := 53) (m := n % 2 ^ 63) (by omega)
  have hm := Nat.mod_lt n (show 0 < 2 ^ 63 by decide)
  have he : ft_exp 53 (n % 2 ^ 63) < 4096 := by
    have : n % 2 ^ 63 / 2 ^ 52 < 2 ^ 11 := Nat.div_lt_of_lt_mul (by omega)
    unfold ft_exp
    omega
  obtain ⟨S, hSe⟩ : ∃ S, S = ft_sig 53 (n % 2 ^ 63) := ⟨_, rfl⟩
  obtain ⟨e, hee⟩ : ∃ e, e = ft_exp 53 (n % 2 ^ 63) := ⟨_, rfl⟩
  rw [← hSe] at s2 e5 hS hN
  rw [← hee] at s3 e4 hp he
  have hs : fsg 1 n < 2 := Nat.mod_lt _ (by decide)
  have hg : (nI (fsg 1 n) = (0 : Int32)) ↔ fsg 1 n = 0 := by
    rcases f01 hs with q | q
    · rw [q]; exact ⟨fun _ => rfl, fun _ => rfl⟩
    · rw [q]; exact ⟨fun w => absurd w (by decide), fun w => absurd w (by decide)⟩
  have hb : ¬ iI ((e : Int) - 1074) ≤ (10 : Int32) := fun q => by
    have := (cm_10 (by omega) (by omega)).mp q
    omega
  have hz : ¬ lN S = 0 := fun q => by
    have := (li_eq0 (show S < 2 ^ 63 by omega)).mp q
    omega
  constructor
  · unfold mf_Fo_cut
    rw [if_pos c1, s1, s3, if_neg (show ¬ iI ((e : Int) - 1074) ≤ (62 : Int32) - fo_fb 1 from hb)]
    by_cases g : fsg 1 n = 0
    · rw [if_pos (hg.mpr g), if_pos g]
    · rw [if_neg (mt hg.mp g), if_neg g]
  · intro lo hi
    have t : ∀ k0, mf_Tw_cutTo_b28 (lN n) lo hi (nI (fsg 1 n)) k0 = k0 := by
      intro k0
      unfold mf_Tw_cutTo_b28
      rw [e4, e5, if_neg hb, if_neg hz, ite_self]
    unfold mf_Tw_cutTo
    rw [e2, e1, if_pos c1, t, t]
    by_cases g : fsg 1 n = 0
    · rw [if_pos (hg.mpr g), if_pos g]
    · rw [if_neg (mt hg.mp g), if_neg g]
theorem cu_eq (a lo hi : Int64) (hlo : lo.toInt ≤ 0) (hhi : 0 ≤ hi.toInt) : mf_Tw_cutTo a lo hi = clip lo hi (mf_Fo_cut 1 a) := by
  obtain ⟨n, hn, rfl⟩ := wb_of a
  have bl := Int64.le_toInt lo
  have bh := Int64.toInt_le hi
  rw [show Int64.maxValue.toInt = 9223372036854775807 from rfl] at bh
  by_cases c1 : mf_Fo_isNoNumber 1 (lN n) = 0
  · by_cases hp : ft_exp 53 (n % 2 ^ 63) ≤ 1084
    · obtain ⟨K, hK, e1, e2⟩ := cu_K hn c1 hp
      have tK : (lN K).toInt = K := pk_lT hK
      have tN : (-lN K).toInt = -(K : Int) := Int64.toInt_neg_ofNat_of_le (by omega)
      rw [e1, e2]
      unfold clip
      by_cases g : fsg 1 n = 0
      · rw [if_pos g, if_pos g, tK, if_neg (show ¬ (K : Int) < lo.toInt by omega)]
        by_cases q : hi.toInt < K
        · rw [if_pos q, if_neg (show ¬ lN K ≤ hi by rw [Int64.le_iff_toInt_le, tK]; omega)]
        · rw [if_neg q, if_pos (show lN K ≤ hi by rw [Int64.le_iff_toInt_le, tK]; omega)]
      · rw [if_neg g, if_neg g, tN]
        by_cases q : -(K : Int) < lo.toInt
        · rw [if_pos q, if_neg (show ¬ lo ≤ -lN K by rw [Int64.le_iff_toInt_le, tN]; omega)]
        · rw [if_neg q, if_pos (show lo ≤ -lN K by rw [Int64.le_iff_toInt_le, tN]; omega), if_neg (by omega)]
    · obtain ⟨e1, e2⟩ := cu_B hn c1 hp
      rw [e1, e2]
      unfold clip
      by_cases g : fsg 1 n = 0
      · rw [if_pos g, if_pos g, show (9223372036854775807 : Int64).toInt = 9223372036854775807 from rfl, if_neg (by omega)]
        by_cases q : hi.toInt < 9223372036854775807
        · rw [if_pos q]
        · rw [if_neg q]
          exact Int64.toInt_inj.mp (by rw [show (9223372036854775807 : Int64).toInt = 9223372036854775807 from rfl]; omega)
      · rw [if_neg g, if_neg g, show (-9223372036854775808 : Int64).toInt = -9223372036854775808 from rfl]
        by_cases q : -9223372036854775808 < lo.toInt
        · rw [if_pos q]
        · rw [if_neg q, if_neg (by omega)]
          exact Int64.toInt_inj.mp (by rw [show (-9223372036854775808 : Int64).toInt = -9223372036854775808 from rfl]; omega)
  · have e2 := tc_isNone (i := 1) (by decide) (lN n)
    rw [show (1 - 1 : Nat) = 0 from rfl] at e2
    unfold mf_Tw_cutTo mf_Fo_cut clip
    rw [e2, if_neg c1, if_neg c1, show (0 : Int64).toInt = 0 from rfl, if_neg (by omega), if_neg (by omega)]
theorem cu_to (a : Int64) : mf_Fo_cut 1 (to a) = mf_Fo_cut 1 a := by
  by_cases c : mf_Fo_isNoNumber 1 a = 0
  · rw [to_nn c]
  · rw [to_nan c]
    unfold mf_Fo_cut
    rw [if_neg c, if_neg (fx_nanT (i := 1) (by decide))]
theorem cu_L (a : Int64) : mf_Tw_cutTo a (-9223372036854775808 : Int64) (9223372036854775807 : Int64) = mf_Fo_cut 1 (to a) := by
  rw [cu_eq a _ _ (by decide) (by decide), cu_to]
  have bl := Int64.le_toInt (mf_Fo_cut 1 a)
  have bh := Int64.toInt_le (mf_Fo_cut 1 a)
  rw [show Int64.maxValue.toInt = 9223372036854775807 from rfl] at bh
  unfold clip
  rw [show (9223372036854775807 : Int64).toInt = 9223372036854775807 from rfl, show (-9223372036854775808 : Int64).toInt = -9223372036854775808 from rfl, if_neg (by omega), if_neg (by omega)]
theorem cu_I (a : Int64) : mf_Tw_cutTo a (-2147483648 : Int64) (2147483647 : Int64) = (if (if (mf_Fo_cut 1 (to a)) < (2147483647 : Int64) then (mf_Fo_cut 1 (to a)) else (2147483647 : Int64)) < (-2147483648 : Int64) then (-2147483648 : Int64) else (if (mf_Fo_cut 1 (to a)) < (2147483647 : Int64) then (mf_Fo_cut 1 (to a)) else (2147483647 : Int64))) := by
  rw [cu_eq a _ _ (by decide) (by decide), cu_to]
  obtain ⟨x, hx⟩ : ∃ x, x = mf_Fo_cut 1 a := ⟨_, rfl⟩
  rw [← hx]
  have k1 : (2147483647 : Int64).toInt = 2147483647 := rfl
  have k2 : (-2147483648 : Int64).toInt = -2147483648 := rfl
  unfold clip
  by_cases q : x < (2147483647 : Int64)
  · rw [if_pos q]
    rw [Int64.lt_iff_toInt_lt, k1] at q
    by_cases p : x < (-2147483648 : Int64)
    · rw [if_pos p, if_pos (Int64.lt_iff_toInt_lt.mp p)]
    · rw [if_neg p, if_neg (mt Int64.lt_iff_toInt_lt.mpr p), if_neg (by rw [k1]; omega)]
  · rw [if_neg q, if_neg (show ¬ (2147483647 : Int64) < -2147483648 by decide)]
    rw [Int64.lt_iff_toInt_lt, k1] at q
    rw [k1, k2, if_neg (by omega)]
    by_cases p : 2147483647 < x.toInt
    · rw [if_pos p]
    · rw [if_neg p]
      exact Int64.toInt_inj.mp (by rw [k1]; omega)
/-! Whole numbers taken -/
theorem ow_eq {i : Nat} (h : i < 2) (a : Int64) : (if a = (-9223372036854775808 : Int64) then mf_Tw_exact (1 : Int32) (4611686018427387904 : Int64) (1 : Int32) (1 - i) else if 0 ≤ a then mf_Tw_exact (0 : Int32) (if 0 < a then a else -a) (0 : Int32) (1 - i) else mf_Tw_exact (1 : Int32) (if 0 < a then a else -a) (0 : Int32) (1 - i)) = mf_Fo_ofWhole i a ∧ ok i (mf_Fo_ofWhole i a) ∧ dm i (mf_Fo_ofWhole i a) := by
  unfold mf_Fo_ofWhole mf_Tw_exact
  by_cases c : a = (-9223372036854775808 : Int64)
  · rw [if_pos c, if_pos c]
    have e1 := rd_C' (n := 1) (z := 63) h (1 : Int32) (by decide) (by decide) (by decide)
    have e2 := rd_T' (n := 2 ^ 62) (z := 1) h (1 : Int32) (by decide) (by decide) (by decide)
    rw [fr_Z_to (n := 1) (j := 62) (k := 63 + fle i) _ _ (by decide) (by omega)] at e2
    have f1 : mf_Fo_rounded i (1 : Int32) (1 : Int64) (63 : Int32) = mf_Fo_signed i 1 (lN (fr_Z (fp i) (ftp i * 2 ^ (fp i - 1)) 1 (63 + fle i))) := e1
    have f2 : mf_Tw_rounded (1 : Int32) (4611686018427387904 : Int64) (1 : Int32) (0 : Int32) (1 - i) = mf_Fo_signed i 1 (lN (fr_Z (fp i) (ftp i * 2 ^ (fp i - 1)) 1 (63 + fle i))) := e2
    rw [f1, f2]
    exact ⟨rfl, both_Z h _ _⟩
  · rw [if_neg c, if_neg c]
    obtain ⟨K, hK, eK⟩ : ∃ K, K < 2 ^ 63 ∧ (if 0 < a then a else -a) = lN K := by
      obtain ⟨n, hn, rfl⟩ := wb_of a
      by_cases q : n < 2 ^ 63
      · by_cases z : n = 0
        · subst z
          exact ⟨0, by decide, by decide⟩
        · exact ⟨n, q, if_pos (show (0 : Int64) < lN n by rw [Int64.lt_iff_toInt_lt, pk_lT q, show (0 : Int64).toInt = 0 from rfl]; omega)⟩
      · have hz : ¬ n = 2 ^ 63 := fun z => c (by rw [z]; rfl)
        refine ⟨2 ^ 64 - n, by omega, ?_⟩
        rw [if_neg (show ¬ (0 : Int64) < lN n by rw [Int64.lt_iff_toInt_lt, lN_neg (by omega) hn, show (0 : Int64).toInt = 0 from rfl]; omega)]
        apply wb_inj
        rw [show (-lN n).toBitVec = -(lN n).toBitVec from rfl, wb_tb, wb_tb]
        apply BitVec.eq_of_toNat_eq
        rw [BitVec.toNat_neg, BitVec.toNat_ofNat, BitVec.toNat_ofNat, Nat.mod_eq_of_lt hn]
    rw [eK]
    have z0 : iI 0 = (0 : Int32) := rfl
    have e1 := fun g => rd_C' (n := K) (z := 0) h g hK (by decide) (by decide)
    have e2 := fun g => rd_T' (n := K) (z := 0) h g hK (by decide) (by decide)
    rw [z0] at e1 e2
    rw [e1, e1, e2, e2]
    refine ⟨rfl, ?_⟩
    by_cases q : 0 ≤ a
    · rw [if_pos q]
      exact both_Z h _ _
    · rw [if_neg q]
      exact both_Z h _ _
