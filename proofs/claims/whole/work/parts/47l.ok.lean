/-! What is told: answers are numbers, or the one pattern that is told; floats fit in 32 bits -/
def ok (i : Nat) (v : Int64) : Prop := mf_Fo_told i v = v
def dm (i : Nat) (v : Int64) : Prop := ∃ n, n < 2 ^ (fw i + 1) ∧ v = lN n
theorem dm1 (v : Int64) : dm 1 v := by
  obtain ⟨n, hn, e⟩ := wb_of v
  exact ⟨n, hn, e⟩
theorem dm_of {i n : Nat} (hn : n < 2 ^ (fw i + 1)) : dm i (lN n) := ⟨n, hn, rfl⟩
theorem dm_nan {i : Nat} (h : i < 2) : dm i (fo_nan i) := by
  rcases f01 h with rfl | rfl
  · exact ⟨2143289344, by decide, by decide +kernel⟩
  · exact dm1 _
theorem ok_nan {i : Nat} (h : i < 2) : ok i (fo_nan i) := by
  unfold ok mf_Fo_told
  rw [if_neg (fx_nanT h)]
theorem ok_nn {i : Nat} {v : Int64} (h : mf_Fo_isNoNumber i v = 0) : ok i v := if_pos h
theorem inf_lt {i : Nat} (h : i < 2) : ftp i * 2 ^ (fp i - 1) < 2 ^ fw i := by
  rcases f01 h with rfl | rfl <;> decide +kernel
theorem fr_Z_le (p inf n : Nat) (k : Int) : fr_Z p inf n k ≤ inf := by
  unfold fr_Z fr_R
  split <;> omega
theorem sg01 {i : Nat} (g : Int32) (a : Int64) : ∃ b : Nat, b < 2 ∧ mf_Fo_signed i g a = mf_Fo_signed i (nI b) a := by
  by_cases c : g = 0
  · exact ⟨0, by decide, by rw [c]; rfl⟩
  · refine ⟨1, by decide, ?_⟩
    unfold mf_Fo_signed
    rw [if_neg c, if_neg (show ¬ nI 1 = (0 : Int32) by decide)]
theorem both_sg {i m : Nat} (h : i < 2) (g : Int32) (hm : m ≤ ftp i * 2 ^ (fp i - 1)) : ok i (mf_Fo_signed i g (lN m)) ∧ dm i (mf_Fo_signed i g (lN m)) := by
  obtain ⟨b, hb, e⟩ := sg01 (i := i) g (lN m)
  have hi := inf_lt h
  have hpp : 2 ^ (fw i + 1) = 2 * 2 ^ fw i := by rw [Nat.pow_succ, Nat.mul_comm]
  have hlt : b * 2 ^ fw i + m < 2 ^ (fw i + 1) := by
    rcases (show b = 0 ∨ b = 1 by omega) with rfl | rfl <;> omega
  rw [e, fx_sg h (by omega) hb]
  refine ⟨ok_nn ?_, dm_of hlt⟩
  unfold mf_Fo_isNoNumber
  have h63 : 2 ^ fw i ≤ 2 ^ 63 := Nat.pow_le_pow_right (by decide) (by rcases f01 h with rfl | rfl <;> decide +kernel)
  rw [fm_mag h (fx_64 h hlt), Nat.add_comm, Nat.add_mul_mod_self_right, Nat.mod_eq_of_lt (by omega), fx_inf h, if_pos ((pk_lLE (by omega) (by omega)).mpr hm)]
theorem both_Z {i n : Nat} (h : i < 2) (g : Int32) (k : Int) : ok i (mf_Fo_signed i g (lN (fr_Z (fp i) (ftp i * 2 ^ (fp i - 1)) n k))) ∧ dm i (mf_Fo_signed i g (lN (fr_Z (fp i) (ftp i * 2 ^ (fp i - 1)) n k))) := both_sg h g (fr_Z_le _ _ _ _)
theorem both_inf {i : Nat} (h : i < 2) (g : Int32) : ok i (mf_Fo_signed i g (fo_inf i)) ∧ dm i (mf_Fo_signed i g (fo_inf i)) := by
  rw [fx_inf h]
  exact both_sg h g (Nat.le_refl _)
theorem both_0 {i : Nat} (h : i < 2) (g : Int32) : ok i (mf_Fo_signed i g (0 : Int64)) ∧ dm i (mf_Fo_signed i g (0 : Int64)) := both_sg (m := 0) h g (Nat.zero_le _)
theorem both_z {i : Nat} (h : i < 2) : ok i (0 : Int64) ∧ dm i (0 : Int64) := both_0 h 0
theorem both_nan {i : Nat} (h : i < 2) : ok i (fo_nan i) ∧ dm i (fo_nan i) := ⟨ok_nan h, dm_nan h⟩
theorem both_sum {i na nb : Nat} (h : i < 2) (ha : na < 2 ^ 64) (hb : nb < 2 ^ 64) (hm : nb % 2 ^ fw i ≤ na % 2 ^ fw i) : ok i (mf_Fo_finiteSum i (lN na) (lN nb)) ∧ dm i (mf_Fo_finiteSum i (lN na) (lN nb)) := by
  rw [cs_sum h ha hb hm]
  split
  · exact both_Z h _ _
  · split
    · exact both_z h
    · exact both_Z h _ _
theorem both_plus {i : Nat} (h : i < 2) {a b : Int64} (ha : dm i a) (hb : dm i b) : ok i (mf_Fo_plus i a b) ∧ dm i (mf_Fo_plus i a b) := by
  obtain ⟨na, hna, rfl⟩ := ha
  obtain ⟨nb, hnb, rfl⟩ := hb
  have ha4 := fx_64 h hna
  have hb4 := fx_64 h hnb
  unfold mf_Fo_plus
  by_cases c1 : mf_Fo_isNoNumber i (lN na) = 0
  · rw [if_pos c1]
    by_cases c2 : mf_Fo_isNoNumber i (lN nb) = 0
    · rw [if_pos c2]
      by_cases c3 : mf_Fo_isInfinite i (lN na) = 0
      · rw [if_pos c3]
        by_cases c4 : mf_Fo_isInfinite i (lN nb) = 0
        · rw [if_pos c4]
          obtain ⟨ea, qa⟩ := fx_mag h hna
          obtain ⟨eb, qb⟩ := fx_mag h hnb
          rw [ea, eb]
          by_cases c5 : na % 2 ^ fw i < nb % 2 ^ fw i
          · rw [if_pos ((pk_lLT qa qb).mpr c5)]
            exact both_sum h hb4 ha4 (by omega)
          · rw [if_neg (fun q => c5 ((pk_lLT qa qb).mp q))]
            exact both_sum h ha4 hb4 (by omega)
        · rw [if_neg c4]
          exact ⟨ok_nn c2, dm_of hnb⟩
      · rw [if_neg c3]
        split
        · exact ⟨ok_nn c1, dm_of hna⟩
        · split
          · exact ⟨ok_nn c1, dm_of hna⟩
          · exact both_nan h
    · rw [if_neg c2]
      exact both_nan h
  · rw [if_neg c1]
    exact both_nan h
theorem both_minus {i : Nat} (h : i < 2) {a b : Int64} (ha : dm i a) (hb : dm i b) : ok i (mf_Fo_minus i a b) ∧ dm i (mf_Fo_minus i a b) := by
  unfold mf_Fo_minus
  refine both_plus h ha ?_
  obtain ⟨nb, hnb, rfl⟩ := hb
  obtain ⟨e1, e2, -⟩ := fx_xor h hnb
  unfold mf_Fo_negated mf_Fo_told
  rw [e1]
  split
  · exact dm_of e2
  · exact dm_nan h
theorem both_times {i na nb : Nat} (h : i < 2) (ha : na < 2 ^ 64) (hb : nb < 2 ^ 64) : ok i (mf_Fo_times i (lN na) (lN nb)) ∧ dm i (mf_Fo_times i (lN na) (lN nb)) := by
  have key : ∀ g : Int32, ok i (mf_Fo_times_b39 i (lN na) (lN nb) g) ∧ dm i (mf_Fo_times_b39 i (lN na) (lN nb) g) := by
    intro g
    have k57 : ok i (mf_Fo_times_b57 i (lN na) (lN nb) g) ∧ dm i (mf_Fo_times_b57 i (lN na) (lN nb) g) := by
      unfold mf_Fo_times_b57
      split
      · split
        · exact both_inf h g
        · exact both_nan h
      · exact both_nan h
    unfold mf_Fo_times_b39
    split
    · split
      · by_cases c5 : mf_Fo_isZero i (lN na) = 0
        · rw [if_pos c5]
          by_cases c6 : mf_Fo_isZero i (lN nb) = 0
          · rw [if_pos c6]
            obtain ⟨wa, a1, a2, a3⟩ := fx_w h ha c5
            obtain ⟨wb, b1, b2, b3⟩ := fx_w h hb c6
            rw [cs_prod h g ha hb a1 a2 b1 b2 a3 b3]
            exact both_Z h _ _
          · rw [if_neg c6]
            exact both_0 h g
        · rw [if_neg c5]
          exact both_0 h g
      · exact k57
    · exact k57
  unfold mf_Fo_times
  split
  · split
    · split
      · exact key 0
      · exact key 1
    · exact both_nan h
  · exact both_nan h
theorem both_over {i na nb : Nat} (h : i < 2) (ha : na < 2 ^ 64) (hb : nb < 2 ^ 64) : ok i (mf_Fo_over i (lN na) (lN nb)) ∧ dm i (mf_Fo_over i (lN na) (lN nb)) := by
  have key : ∀ g : Int32, ok i (mf_Fo_over_b39 i (lN na) (lN nb) g) ∧ dm i (mf_Fo_over_b39 i (lN na) (lN nb) g) := by
    intro g
    unfold mf_Fo_over_b39
    split
    · by_cases c6 : mf_Fo_isZero i (lN nb) = 0
      · rw [if_pos c6]
        split
        · by_cases c5 : mf_Fo_isZero i (lN na) = 0
          · rw [if_pos c5]
            obtain ⟨wa, a1, a2, a3⟩ := fx_w h ha c5
            obtain ⟨wb, b1, b2, b3⟩ := fx_w h hb c6
            rw [cs_quot h g ha hb a1 a2 b1 b2 a3 b3]
            exact both_Z h _ _
          · rw [if_neg c5]
            exact both_0 h g
        · exact both_0 h g
      · rw [if_neg c6]
        split
        · exact both_inf h g
        · exact both_nan h
    · split
      · exact both_inf h g
      · exact both_nan h
  unfold mf_Fo_over
  split
  · split
    · split
      · exact key 0
      · exact key 1
    · exact both_nan h
  · exact both_nan h
theorem both_near {i j n : Nat} (h : i < 2) (hj : j < 2) (hn : n < 2 ^ 64) : ok i (mf_Fo_nearestTo i j (lN n)) ∧ dm i (mf_Fo_nearestTo i j (lN n)) := by
  unfold mf_Fo_nearestTo
  split
  · split
    · obtain ⟨a1, a2, a3, p1, p2, p3⟩ := fm_bd hj n
      rw [fm_sig hj hn, fm_scale hj hn, rd_C' h _ (by omega) (by omega) (by omega)]
      exact both_Z h _ _
    · exact both_inf h _
  · exact both_nan h
theorem both_rem {i : Nat} (h : i < 2) {a b : Int64} (ha : dm i a) (hb : dm i b) : ok i (mf_Fo_remainder i a b) := by
  obtain ⟨na, hna, rfl⟩ := ha
  obtain ⟨nb, hnb, rfl⟩ := hb
  have ha4 := fx_64 h hna
  have hb4 := fx_64 h hnb
  unfold mf_Fo_remainder
  by_cases c1 : mf_Fo_isNoNumber i (lN na) = 0
  · rw [if_pos c1]
    split
    · split
      · by_cases c4 : mf_Fo_isZero i (lN nb) = 0
        · rw [if_pos c4]
          by_cases c6 : mf_Fo_magnitude i (lN nb) ≤ mf_Fo_magnitude i (lN na)
          · rw [if_pos c6]
            obtain ⟨a1, a2, a3, p1, p2, p3⟩ := fm_bd h na
            obtain ⟨b1, -, b3, -, -, -⟩ := fm_bd h nb
            obtain ⟨wb, w1, w2, -⟩ := fx_w h hb4 c4
            have hw0 := Nat.two_pow_pos wb
            have hm : nb % 2 ^ fw i ≤ na % 2 ^ fw i := by
              obtain ⟨ea, qa⟩ := fx_mag h hna
              obtain ⟨eb, qb⟩ := fx_mag h hnb
              rw [ea, eb] at c6
              exact (pk_lLE qb qa).mp c6
            obtain ⟨m1, -⟩ := ft_mono (p := fp i) hm
            unfold mf_Fo_finiteRemainder
            rw [fm_sig h ha4, fm_sig h hb4, fm_scale h ha4, fm_scale h hb4, iI_sub]
            have hsc := fm_scale h hb4
            generalize ft_sig (fp i) (na % 2 ^ fw i) = Sa at *
            generalize ft_sig (fp i) (nb % 2 ^ fw i) = Sb at *
            generalize ft_exp (fp i) (na % 2 ^ fw i) = Ka at *
            generalize ft_exp (fp i) (nb % 2 ^ fw i) = Kb at *
            rw [if_neg (fun q => absurd ((li_eq0 (by omega)).mp q) (by omega)), show (Ka : Int) - fle i - ((Kb : Int) - fle i) = ((Ka - Kb : Nat) : Int) by omega, iI_t (by omega) (by omega), show (((Ka - Kb : Nat) : Int)).toNat + 1 = Ka - Kb + 1 by omega, pk_lRem (by omega) (by omega) (by omega), cr_loop (lN na) (lN nb) (by omega) (by omega) (Ka - Kb + 1) ((Ka - Kb : Nat) : Int) Sa (by omega) (by omega) (by omega), hsc]
            have hlt := Nat.mod_lt (Sa * 2 ^ (((Ka - Kb : Nat) : Int)).toNat) (show 0 < Sb by omega)
            rw [rd_C' h _ (by omega) (by omega) (by omega)]
            exact (both_Z h _ _).1
          · rw [if_neg c6]
            exact ok_nn c1
        · rw [if_neg c4]
          exact ok_nan h
      · exact ok_nan h
    · exact ok_nan h
  · rw [if_neg c1]
    exact ok_nan h
