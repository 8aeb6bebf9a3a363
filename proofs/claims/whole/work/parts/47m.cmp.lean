/-! Told or not; orders -/
def to (a : Int64) : Int64 := mf_Fo_told 1 a
theorem to_nn {a : Int64} (h : mf_Fo_isNoNumber 1 a = 0) : to a = a := if_pos h
theorem to_nan {a : Int64} (h : ¬ mf_Fo_isNoNumber 1 a = 0) : to a = fo_nan 1 := if_neg h
theorem to_op (F : Int64 → Int64 → Int64) (hnan : ∀ a b, (¬ mf_Fo_isNoNumber 1 a = 0 ∨ ¬ mf_Fo_isNoNumber 1 b = 0) → F a b = fo_nan 1) (hok : ∀ a b, ok 1 (F a b)) (a b : Int64) : F (to a) (to b) = to (F a b) := by
  have hN := fx_nanT (i := 1) (by decide)
  by_cases c1 : mf_Fo_isNoNumber 1 a = 0
  · by_cases c2 : mf_Fo_isNoNumber 1 b = 0
    · rw [to_nn c1, to_nn c2]
      exact (hok a b).symm
    · rw [to_nan c2, hnan (to a) (fo_nan 1) (Or.inr hN), hnan a b (Or.inr c2)]
      exact (ok_nan (i := 1) (by decide)).symm
  · rw [to_nan c1, hnan (fo_nan 1) (to b) (Or.inl hN), hnan a b (Or.inl c1)]
    exact (ok_nan (i := 1) (by decide)).symm
theorem nn_plus {i : Nat} (a b : Int64) (h : ¬ mf_Fo_isNoNumber i a = 0 ∨ ¬ mf_Fo_isNoNumber i b = 0) : mf_Fo_plus i a b = fo_nan i := by
  unfold mf_Fo_plus
  by_cases c1 : mf_Fo_isNoNumber i a = 0
  · rw [if_pos c1, if_neg (h.resolve_left (fun q => q c1))]
  · rw [if_neg c1]
theorem nn_times {i : Nat} (a b : Int64) (h : ¬ mf_Fo_isNoNumber i a = 0 ∨ ¬ mf_Fo_isNoNumber i b = 0) : mf_Fo_times i a b = fo_nan i := by
  unfold mf_Fo_times
  by_cases c1 : mf_Fo_isNoNumber i a = 0
  · rw [if_pos c1, if_neg (h.resolve_left (fun q => q c1))]
  · rw [if_neg c1]
theorem nn_over {i : Nat} (a b : Int64) (h : ¬ mf_Fo_isNoNumber i a = 0 ∨ ¬ mf_Fo_isNoNumber i b = 0) : mf_Fo_over i a b = fo_nan i := by
  unfold mf_Fo_over
  by_cases c1 : mf_Fo_isNoNumber i a = 0
  · rw [if_pos c1, if_neg (h.resolve_left (fun q => q c1))]
  · rw [if_neg c1]
theorem nn_rem {i : Nat} (a b : Int64) (h : ¬ mf_Fo_isNoNumber i a = 0 ∨ ¬ mf_Fo_isNoNumber i b = 0) : mf_Fo_remainder i a b = fo_nan i := by
  unfold mf_Fo_remainder
  by_cases c1 : mf_Fo_isNoNumber i a = 0
  · rw [if_pos c1, if_neg (h.resolve_left (fun q => q c1))]
  · rw [if_neg c1]
theorem nn_xor (a : Int64) : mf_Fo_isNoNumber 1 (a ^^^ fo_sign 1) = mf_Fo_isNoNumber 1 a := by
  obtain ⟨n, hn, rfl⟩ := dm1 a
  obtain ⟨e1, e2, e3⟩ := fx_xor (i := 1) (by decide) hn
  unfold mf_Fo_isNoNumber
  rw [e1, fm_mag (by decide) (fx_64 (i := 1) (by decide) e2), fm_mag (by decide) (fx_64 (i := 1) (by decide) hn), e3]
theorem nn_minus (a b : Int64) (h : ¬ mf_Fo_isNoNumber 1 a = 0 ∨ ¬ mf_Fo_isNoNumber 1 b = 0) : mf_Fo_minus 1 a b = fo_nan 1 := by
  unfold mf_Fo_minus
  refine nn_plus a _ ?_
  rcases h with q | q
  · exact Or.inl q
  · refine Or.inr ?_
    unfold mf_Fo_negated mf_Fo_told
    rw [nn_xor, if_neg q]
    exact fx_nanT (i := 1) (by decide)
theorem E_add (a b : Int64) : mf_Tw_add a b 0 = mf_Fo_plus 1 a b := by
  obtain ⟨n, hn, rfl⟩ := dm1 a
  obtain ⟨k, hk, rfl⟩ := dm1 b
  exact ad_eq (i := 1) (by decide) hn hk
theorem E_sub (a b : Int64) : mf_Tw_subtract a b 0 = mf_Fo_minus 1 a b := by
  obtain ⟨n, hn, rfl⟩ := dm1 a
  obtain ⟨k, hk, rfl⟩ := dm1 b
  exact sb_eq (i := 1) (by decide) hn hk
theorem E_mul (a b : Int64) : mf_Tw_multiply a b 0 = mf_Fo_times 1 a b := by
  obtain ⟨n, hn, rfl⟩ := wb_of a
  obtain ⟨k, hk, rfl⟩ := wb_of b
  exact ml_eq (i := 1) (by decide) hn hk
theorem E_div (a b : Int64) : mf_Tw_divide a b 0 = mf_Fo_over 1 a b := by
  obtain ⟨n, hn, rfl⟩ := wb_of a
  obtain ⟨k, hk, rfl⟩ := wb_of b
  exact dq_eq (i := 1) (by decide) hn hk
theorem E_rem (a b : Int64) : mf_Tw_rest a b 0 = mf_Fo_remainder 1 a b := by
  obtain ⟨n, hn, rfl⟩ := wb_of a
  obtain ⟨k, hk, rfl⟩ := wb_of b
  exact rs_eq (i := 1) (by decide) hn hk
theorem O_add (a b : Int64) : mf_Fo_plus 1 (to a) (to b) = to (mf_Tw_add a b 0) := by
  rw [E_add]
  exact to_op _ nn_plus (fun a b => (both_plus (i := 1) (by decide) (dm1 a) (dm1 b)).1) a b
theorem O_sub (a b : Int64) : mf_Fo_minus 1 (to a) (to b) = to (mf_Tw_subtract a b 0) := by
  rw [E_sub]
  exact to_op _ nn_minus (fun a b => (both_minus (i := 1) (by decide) (dm1 a) (dm1 b)).1) a b
theorem ok_times (a b : Int64) : ok 1 (mf_Fo_times 1 a b) := by
  obtain ⟨n, hn, rfl⟩ := wb_of a
  obtain ⟨k, hk, rfl⟩ := wb_of b
  exact (both_times (i := 1) (by decide) hn hk).1
theorem ok_over (a b : Int64) : ok 1 (mf_Fo_over 1 a b) := by
  obtain ⟨n, hn, rfl⟩ := wb_of a
  obtain ⟨k, hk, rfl⟩ := wb_of b
  exact (both_over (i := 1) (by decide) hn hk).1
theorem O_mul (a b : Int64) : mf_Fo_times 1 (to a) (to b) = to (mf_Tw_multiply a b 0) := by
  rw [E_mul]
  exact to_op _ nn_times ok_times a b
theorem O_div (a b : Int64) : mf_Fo_over 1 (to a) (to b) = to (mf_Tw_divide a b 0) := by
  rw [E_div]
  exact to_op _ nn_over ok_over a b
theorem O_rem (a b : Int64) : mf_Fo_remainder 1 (to a) (to b) = to (mf_Tw_rest a b 0) := by
  rw [E_rem]
  exact to_op _ nn_rem (fun a b => both_rem (i := 1) (by decide) (dm1 a) (dm1 b)) a b
theorem E_flt (a : Int64) : mf_Tw_toFloat a = mf_Nb_narrowed a := by
  obtain ⟨n, hn, rfl⟩ := wb_of a
  exact ch_eq (i := 0) (j := 1) (by decide) (by decide) hn
theorem E_dbl (a : Int64) : mf_Tw_toDouble a = mf_Nb_widened a := by
  obtain ⟨n, hn, rfl⟩ := wb_of a
  exact ch_eq (i := 1) (j := 0) (by decide) (by decide) hn
theorem O_flt (a : Int64) : mf_Nb_narrowed (to a) = mf_Tw_toFloat a := by
  rw [E_flt]
  by_cases c : mf_Fo_isNoNumber 1 a = 0
  · rw [to_nn c]
  · rw [to_nan c]
    unfold mf_Nb_narrowed mf_Fo_nearestTo
    rw [if_neg c, if_neg (fx_nanT (i := 1) (by decide))]
theorem ok_wid (a : Int64) : ok 1 (mf_Nb_widened a) := by
  obtain ⟨n, hn, rfl⟩ := wb_of a
  exact (both_near (i := 1) (j := 0) (by decide) (by decide) hn).1
theorem dm_nar (a : Int64) : dm 0 (mf_Nb_narrowed a) := by
  obtain ⟨n, hn, rfl⟩ := wb_of a
  exact (both_near (i := 0) (j := 1) (by decide) (by decide) hn).2
/-! Orders -/
theorem lN_neg {k : Nat} (h1 : 2 ^ 63 ≤ k) (h2 : k < 2 ^ 64) : (lN k).toInt = (k : Int) - 18446744073709551616 := by
  show (Int64.ofNat k).toInt = _
  rw [Int64.toInt_ofNat', Int.bmod_def, show Int64.size = 18446744073709551616 from rfl]
  split <;> omega
theorem xor_max {m : Nat} (h : m < 2 ^ 63) : (2 ^ 63 + m) ^^^ (2 ^ 63 - 1) = 2 ^ 63 + (2 ^ 63 - (m + 1)) := by
  apply Nat.eq_of_testBit_eq
  intro i
  rw [Nat.testBit_xor, Nat.testBit_two_pow_sub_one]
  rcases Nat.lt_trichotomy i 63 with c | c | c
  · rw [Nat.testBit_two_pow_add_gt c, Nat.testBit_two_pow_add_gt c, Nat.testBit_two_pow_sub_succ h]
    cases m.testBit i <;> simp [c]
  · subst c
    rw [Nat.testBit_two_pow_add_eq, Nat.testBit_two_pow_add_eq, Nat.testBit_two_pow_sub_succ h, Nat.testBit_lt_two_pow h]
    rfl
  · have e : 2 ^ 64 ≤ 2 ^ i := Nat.pow_le_pow_right (by decide) c
    rw [Nat.testBit_lt_two_pow (show 2 ^ 63 + m < 2 ^ i by omega), Nat.testBit_lt_two_pow (show 2 ^ 63 + (2 ^ 63 - (m + 1)) < 2 ^ i by omega)]
    simp [show ¬ i < 63 by omega]
def rk (n : Nat) : Int := if fsg 1 n = 0 then ((n % 2 ^ 63 : Nat) : Int) else -((n % 2 ^ 63 : Nat) : Int) - 1
def sv (n : Nat) : Int := if fsg 1 n = 0 then ((n % 2 ^ 63 : Nat) : Int) else -((n % 2 ^ 63 : Nat) : Int)
theorem rk_eq {n : Nat} (hn : n < 2 ^ 64) : (mf_Nb_rank (lN n)).toInt = rk n := by
  unfold mf_Nb_rank rk fsg
  rw [show fw 1 = 63 from rfl]
  by_cases c : n < 2 ^ 63
  · rw [if_pos (show (0 : Int64) ≤ lN n from (pk_lLE (a := 0) (by decide) c).mpr (Nat.zero_le _)), if_pos (by omega), pk_lT c, Nat.mod_eq_of_lt c]
  · obtain ⟨m, hm, rfl⟩ : ∃ m, m < 2 ^ 63 ∧ n = 2 ^ 63 + m := ⟨n - 2 ^ 63, by omega, by omega⟩
    rw [if_neg (fun q => by
      rw [Int64.le_iff_toInt_le, lN_neg (by omega) hn, show (0 : Int64).toInt = 0 from rfl] at q
      omega), if_neg (by omega), show (9223372036854775807 : Int64) = lN (2 ^ 63 - 1) from rfl, lN_xor, xor_max hm, lN_neg (by omega) (by omega)]
    omega
theorem sv_eq {n : Nat} (hn : n < 2 ^ 64) : (if mf_Tw_minus (lN n) 0 = 0 then mf_Tw_size (lN n) 0 else -(mf_Tw_size (lN n) 0)).toInt = sv n := by
  have e1 := tc_minus (i := 1) (by decide) (lN n)
  have e2 := tc_size (i := 1) (by decide) (lN n)
  rw [fm_neg (by decide) hn] at e1
  rw [fm_mag (by decide) hn] at e2
  rw [show (1 - 1 : Nat) = 0 from rfl] at e1 e2
  rw [e1, e2, show fw 1 = 63 from rfl]
  have hm := Nat.mod_lt n (show 0 < 2 ^ 63 by decide)
  unfold sv
  have hs : fsg 1 n < 2 := Nat.mod_lt _ (by decide)
  by_cases c : fsg 1 n = 0
  · rw [c, if_pos (show nI 0 = (0 : Int32) from rfl), if_pos rfl, pk_lT hm]
  · rw [if_neg (show ¬ nI (fsg 1 n) = 0 from nI_ne0 (by omega) (by omega)), if_neg c]
    exact Int64.toInt_neg_ofNat_of_le (by omega)
theorem cmp_eq (x y : Int64) : mf_Jd_lcmp x y = if y.toInt ≤ x.toInt then (if x.toInt = y.toInt then 0 else 1) else -1 := by
  unfold mf_Jd_lcmp
  by_cases c : y.toInt ≤ x.toInt
  · rw [if_pos (Int64.le_iff_toInt_le.mpr c), if_pos c]
    by_cases d : x.toInt = y.toInt
    · rw [if_pos (Int64.toInt_inj.mp d), if_pos d]
    · rw [if_neg (fun q => d (by rw [q])), if_neg d]
  · rw [if_neg (fun q => c (Int64.le_iff_toInt_le.mp q)), if_neg c]
theorem od_eq {na nb : Nat} (ha : na < 2 ^ 64) (hb : nb < 2 ^ 64) : mf_Tw_order (lN na) (lN nb) = if mf_Fo_isNoNumber 1 (lN na) = 0 then (if mf_Fo_isNoNumber 1 (lN nb) = 0 then (if sv nb ≤ sv na then (if sv na = sv nb then 0 else 1) else -1) else 2) else 2 := by
  have n1 := tc_isNone (i := 1) (by decide) (lN na)
  have n2 := tc_isNone (i := 1) (by decide) (lN nb)
  have s1 := sv_eq ha
  have s2 := sv_eq hb
  unfold mf_Tw_order
  rw [show (0 : Nat) = 1 - 1 from rfl, n1, n2, show (1 - 1 : Nat) = 0 from rfl]
  split
  · split
    · have key : ∀ k0 : Int64, k0.toInt = sv na → mf_Tw_order_b40 (lN na) (lN nb) k0 = if sv nb ≤ sv na then (if sv na = sv nb then 0 else 1) else -1 := by
        intro k0 hk
        unfold mf_Tw_order_b40
        by_cases c : mf_Tw_minus (lN nb) 0 = 0
        · rw [if_pos c, cmp_eq, hk]
          rw [if_pos c] at s2
          rw [s2]
        · rw [if_neg c, cmp_eq, hk]
          rw [if_neg c] at s2
          rw [s2]
      by_cases c : mf_Tw_minus (lN na) 0 = 0
      · rw [if_pos c]
        rw [if_pos c] at s1
        exact key _ s1
      · rw [if_neg c]
        rw [if_neg c] at s1
        exact key _ s1
    · rfl
  · rfl
theorem n_ext {na nb : Nat} (ha : na < 2 ^ 64) (hb : nb < 2 ^ 64) (h1 : fsg 1 na = fsg 1 nb) (h2 : na % 2 ^ 63 = nb % 2 ^ 63) : na = nb := by
  rw [fx_n (i := 1) ha, fx_n (i := 1) hb, h1, show fw 1 = 63 from rfl, h2]
theorem le_nn {na nb : Nat} (ha : na < 2 ^ 64) (hb : nb < 2 ^ 64) (c1 : mf_Fo_isNoNumber 1 (lN na) = 0) (c2 : mf_Fo_isNoNumber 1 (lN nb) = 0) : mf_Nb_less (lN na) (lN nb) = if rk nb ≤ rk na then lN nb else lN na := by
  unfold mf_Nb_less
  rw [if_pos c1, if_pos c2]
  by_cases q : rk nb ≤ rk na
  · rw [if_pos q, if_pos (show mf_Nb_rank (lN nb) ≤ mf_Nb_rank (lN na) by rw [Int64.le_iff_toInt_le, rk_eq ha, rk_eq hb]; exact q)]
  · rw [if_neg q, if_neg (show ¬ mf_Nb_rank (lN nb) ≤ mf_Nb_rank (lN na) by rw [Int64.le_iff_toInt_le, rk_eq ha, rk_eq hb]; exact q)]
theorem gr_nn {na nb : Nat} (ha : na < 2 ^ 64) (hb : nb < 2 ^ 64) (c1 : mf_Fo_isNoNumber 1 (lN na) = 0) (c2 : mf_Fo_isNoNumber 1 (lN nb) = 0) : mf_Nb_greater (lN na) (lN nb) = if rk na ≤ rk nb then lN nb else lN na := by
  unfold mf_Nb_greater
  rw [if_pos c1, if_pos c2]
  by_cases q : rk na ≤ rk nb
  · rw [if_pos q, if_pos (show mf_Nb_rank (lN na) ≤ mf_Nb_rank (lN nb) by rw [Int64.le_iff_toInt_le, rk_eq ha, rk_eq hb]; exact q)]
  · rw [if_neg q, if_neg (show ¬ mf_Nb_rank (lN na) ≤ mf_Nb_rank (lN nb) by rw [Int64.le_iff_toInt_le, rk_eq ha, rk_eq hb]; exact q)]
theorem en_nn {na nb : Nat} (ha : na < 2 ^ 64) (hb : nb < 2 ^ 64) (c1 : mf_Fo_isNoNumber 1 (lN na) = 0) (c2 : mf_Fo_isNoNumber 1 (lN nb) = 0) (g : Int32) : mf_Tw_end (lN na) (lN nb) g = if sv nb ≤ sv na then (if sv na = sv nb then (if nI (fsg 1 na) = g then lN nb else lN na) else (if (0 : Int32) = g then lN nb else lN na)) else (if (1 : Int32) = g then lN nb else lN na) := by
  have em := tc_minus (i := 1) (by decide) (lN na)
  rw [fm_neg (by decide) ha, show (1 - 1 : Nat) = 0 from rfl] at em
  unfold mf_Tw_end
  rw [od_eq ha hb, if_pos c1, if_pos c2, em]
  by_cases q1 : sv nb ≤ sv na
  · by_cases q2 : sv na = sv nb
    · rw [if_pos q1, if_pos q2, if_neg (show ¬ (0 : Int32) = 2 by decide), if_pos rfl, if_pos q1, if_pos q2]
    · rw [if_pos q1, if_neg q2, if_neg (show ¬ (1 : Int32) = 2 by decide), if_neg (show ¬ (1 : Int32) = 0 by decide), if_pos (show (0 : Int32) ≤ 1 by decide), if_pos q1, if_neg q2]
  · rw [if_neg q1, if_neg (show ¬ (-1 : Int32) = 2 by decide), if_neg (show ¬ (-1 : Int32) = 0 by decide), if_neg (show ¬ (0 : Int32) ≤ -1 by decide), if_neg q1]
theorem rk_lt {na nb : Nat} (h : sv na < sv nb) : rk na < rk nb := by
  unfold rk
  unfold sv at h
  by_cases a : fsg 1 na = 0 <;> by_cases b : fsg 1 nb = 0 <;> simp only [a, b, if_true, if_false] at h ⊢ <;> omega
theorem rk_same {na nb : Nat} (ha : na < 2 ^ 64) (hb : nb < 2 ^ 64) (h : sv na = sv nb) : na = nb ∨ (fsg 1 na = 0 ∧ ¬ fsg 1 nb = 0 ∧ na % 2 ^ 63 = 0 ∧ nb % 2 ^ 63 = 0 ∧ rk na = 0 ∧ rk nb = -1) ∨ (¬ fsg 1 na = 0 ∧ fsg 1 nb = 0 ∧ na % 2 ^ 63 = 0 ∧ nb % 2 ^ 63 = 0 ∧ rk na = -1 ∧ rk nb = 0) := by
  have sa : fsg 1 na < 2 := Nat.mod_lt _ (by decide)
  have sb : fsg 1 nb < 2 := Nat.mod_lt _ (by decide)
  unfold rk
  unfold sv at h
  by_cases a : fsg 1 na = 0 <;> by_cases b : fsg 1 nb = 0 <;> simp only [a, b, if_true, if_false] at h ⊢
  · exact Or.inl (n_ext ha hb (by omega) (by omega))
  · exact Or.inr (Or.inl ⟨trivial, not_false, by omega, by omega, by omega, by omega⟩)
  · exact Or.inr (Or.inr ⟨not_false, trivial, by omega, by omega, by omega, by omega⟩)
  · exact Or.inl (n_ext ha hb (by omega) (by omega))
theorem lg_eq {na nb : Nat} (ha : na < 2 ^ 64) (hb : nb < 2 ^ 64) (c1 : mf_Fo_isNoNumber 1 (lN na) = 0) (c2 : mf_Fo_isNoNumber 1 (lN nb) = 0) : mf_Nb_less (lN na) (lN nb) = mf_Tw_end (lN na) (lN nb) 0 ∧ mf_Nb_greater (lN na) (lN nb) = mf_Tw_end (lN na) (lN nb) 1 := by
  have sa : fsg 1 na < 2 := Nat.mod_lt _ (by decide)
  rw [le_nn ha hb c1 c2, gr_nn ha hb c1 c2, en_nn ha hb c1 c2, en_nn ha hb c1 c2]
  rcases Int.lt_trichotomy (sv na) (sv nb) with q | q | q
  · have r := rk_lt q
    rw [if_neg (show ¬ rk nb ≤ rk na by omega), if_pos (show rk na ≤ rk nb by omega)]
    constructor
    · rw [if_neg (show ¬ sv nb ≤ sv na by omega), if_neg (show ¬ (1 : Int32) = 0 by decide)]
    · rw [if_neg (show ¬ sv nb ≤ sv na by omega), if_pos rfl]
  · have n0 : nI 0 = (0 : Int32) := rfl
    rcases rk_same ha hb q with w | ⟨w1, w2, w3, w4, w5, w6⟩ | ⟨w1, w2, w3, w4, w5, w6⟩
    · subst w
      constructor
      · simp only [ite_self]
      · simp only [ite_self]
    · rw [w5, w6, w1]
      constructor
      · rw [if_pos (show (-1 : Int) ≤ 0 by decide), if_pos (show sv nb ≤ sv na by omega), if_pos q, if_pos n0]
      · rw [if_neg (show ¬ (0 : Int) ≤ -1 by decide), if_pos (show sv nb ≤ sv na by omega), if_pos q, if_neg (show ¬ nI 0 = 1 by decide)]
    · rw [w5, w6, show fsg 1 na = 1 by omega]
      constructor
      · rw [if_neg (show ¬ (0 : Int) ≤ -1 by decide), if_pos (show sv nb ≤ sv na by omega), if_pos q, if_neg (show ¬ nI 1 = 0 by decide)]
      · rw [if_pos (show (-1 : Int) ≤ 0 by decide), if_pos (show sv nb ≤ sv na by omega), if_pos q, if_pos (show nI 1 = 1 from rfl)]
  · have r := rk_lt q
    rw [if_pos (show rk nb ≤ rk na by omega), if_neg (show ¬ rk na ≤ rk nb by omega)]
    constructor
    · rw [if_pos (show sv nb ≤ sv na by omega), if_neg (show ¬ sv na = sv nb by omega), if_pos rfl]
    · rw [if_pos (show sv nb ≤ sv na by omega), if_neg (show ¬ sv na = sv nb by omega), if_neg (show ¬ (0 : Int32) = 1 by decide)]
theorem en_to (a b : Int64) (g : Int32) (c1 : mf_Fo_isNoNumber 1 a = 0) (c2 : mf_Fo_isNoNumber 1 b = 0) : to (mf_Tw_end a b g) = mf_Tw_end a b g := by
  obtain ⟨na, ha, rfl⟩ := wb_of a
  obtain ⟨nb, hb, rfl⟩ := wb_of b
  rw [en_nn ha hb c1 c2]
  have ta := to_nn c1
  have tb := to_nn c2
  repeat' split
  all_goals assumption
theorem en_nan (a b : Int64) (g : Int32) (h : ¬ mf_Fo_isNoNumber 1 a = 0 ∨ ¬ mf_Fo_isNoNumber 1 b = 0) : mf_Tw_end a b g = fo_nan 1 := by
  obtain ⟨na, ha, rfl⟩ := wb_of a
  obtain ⟨nb, hb, rfl⟩ := wb_of b
  unfold mf_Tw_end
  rw [od_eq ha hb]
  by_cases c1 : mf_Fo_isNoNumber 1 (lN na) = 0
  · rw [if_pos c1, if_neg (h.resolve_left (fun q => q c1)), if_pos rfl]
    rfl
  · rw [if_neg c1, if_pos rfl]
    rfl
theorem nn_less (a b : Int64) (h : ¬ mf_Fo_isNoNumber 1 a = 0 ∨ ¬ mf_Fo_isNoNumber 1 b = 0) : mf_Nb_less a b = fo_nan 1 := by
  unfold mf_Nb_less
  by_cases c1 : mf_Fo_isNoNumber 1 a = 0
  · rw [if_pos c1, if_neg (h.resolve_left (fun q => q c1))]
  · rw [if_neg c1]
theorem nn_greater (a b : Int64) (h : ¬ mf_Fo_isNoNumber 1 a = 0 ∨ ¬ mf_Fo_isNoNumber 1 b = 0) : mf_Nb_greater a b = fo_nan 1 := by
  unfold mf_Nb_greater
  by_cases c1 : mf_Fo_isNoNumber 1 a = 0
  · rw [if_pos c1, if_neg (h.resolve_left (fun q => q c1))]
  · rw [if_neg c1]
theorem end_eq (a b : Int64) : mf_Nb_less (to a) (to b) = to (mf_Tw_end a b 0) ∧ mf_Nb_greater (to a) (to b) = to (mf_Tw_end a b 1) := by
  have hN := fx_nanT (i := 1) (by decide)
  have hON : to (fo_nan 1) = fo_nan 1 := ok_nan (i := 1) (by decide)
  by_cases c1 : mf_Fo_isNoNumber 1 a = 0
  · by_cases c2 : mf_Fo_isNoNumber 1 b = 0
    · rw [to_nn c1, to_nn c2, en_to a b 0 c1 c2, en_to a b 1 c1 c2]
      obtain ⟨na, ha, rfl⟩ := wb_of a
      obtain ⟨nb, hb, rfl⟩ := wb_of b
      exact lg_eq ha hb c1 c2
    · rw [to_nan c2, nn_less _ _ (Or.inr hN), nn_greater _ _ (Or.inr hN), en_nan a b 0 (Or.inr c2), en_nan a b 1 (Or.inr c2), hON]
      exact ⟨rfl, rfl⟩
  · rw [to_nan c1, nn_less _ _ (Or.inl hN), nn_greater _ _ (Or.inl hN), en_nan a b 0 (Or.inl c1), en_nan a b 1 (Or.inl c1), hON]
    exact ⟨rfl, rfl⟩
