/-! What the law rests on: class and reference answer alike, from states that are alike -/
def nb_R (g f : Nat → Int64) : Prop := ∀ i, g i = mf_Tw_told (f i)
theorem R_to {g f : Nat → Int64} (h : nb_R g f) (i : Nat) : g i = to (f i) := (h i).trans (tc_told _)
theorem R_upd {g f : Nat → Int64} (h : nb_R g f) (k : Nat) {x y : Int64} (e : x = to y) : nb_R (vp_updL g k x) (vp_updL f k y) := by
  intro i
  by_cases q : i = k
  · subst q
    rw [pk_uLs, pk_uLs, tc_told]
    exact e
  · rw [pk_uLn q, pk_uLn q]
    exact h i
theorem R_fin {g f : Nat → Int64} (h : nb_R g f) (k : Nat) {x y : Int64} (e : x = to y) : (vp_updL g k x) k = mf_Tw_told ((vp_updL f k y) k) ∧ nb_R (vp_updL g k x) (vp_updL f k y) := by
  refine ⟨?_, R_upd h k e⟩
  rw [pk_uLs, pk_uLs, tc_told]
  exact e
theorem in_8 (k : Int32) : mf_Tw_in k (8 : Int32) = mf_Nb_isStore k := rfl
theorem in_N {k : Int32} {m : Nat} (hm : m < 100) (h : ¬ mf_Tw_in k (nI m) = 0) : ∃ n : Nat, n < m ∧ k = nI n := by
  unfold mf_Tw_in at h
  by_cases c : k < 0
  · rw [if_pos c] at h
    exact absurd rfl h
  · rw [if_neg c] at h
    by_cases d : nI m ≤ k
    · rw [if_pos d] at h
      exact absurd rfl h
    · have e := iI_of k
      have l1 : 0 ≤ k.toInt := by
        have := mt Int32.lt_iff_toInt_lt.mpr c
        rw [show (0 : Int32).toInt = 0 from rfl] at this
        omega
      have l2 : k.toInt < m := by
        have := mt Int32.le_iff_toInt_le.mpr d
        rw [iI_n, iI_t (by omega) (by omega)] at this
        omega
      exact ⟨k.toInt.toNat, by omega, by rw [← iI_nn l1]; exact e⟩
theorem sm_keep {g f : Nat → Int64} (h : nb_R g f) (k : Int32) (a : Int64) : (mf_Nb_keep g k a).1 = (mf_Tw_keep f k a).1 ∧ nb_R (mf_Nb_keep g k a).2 (mf_Tw_keep f k a).2 := by
  unfold mf_Nb_keep mf_Tw_keep
  rw [in_8]
  by_cases c : mf_Nb_isStore k = 0
  · rw [if_pos c, if_pos c]
    exact ⟨rfl, h⟩
  · rw [if_neg c, if_neg c]
    exact ⟨rfl, R_upd h _ rfl⟩
theorem in_15 {o : Int32} (h1 : ¬ o < 0) (h2 : ¬ (14 : Int32) < o) : ¬ mf_Tw_in o (15 : Int32) = 0 := by
  unfold mf_Tw_in
  have l := mt Int32.lt_iff_toInt_lt.mpr h2
  rw [show (14 : Int32).toInt = 14 from rfl] at l
  rw [if_neg h1, if_neg (show ¬ (15 : Int32) ≤ o by rw [Int32.le_iff_toInt_le, show (15 : Int32).toInt = 15 from rfl]; omega)]
  decide
theorem sm_reckon {g f : Nat → Int64} (h : nb_R g f) (o k x y : Int32) : (mf_Nb_reckon g o k x y).1 = (mf_Tw_reckon f o k x y).1 ∧ nb_R (mf_Nb_reckon g o k x y).2 (mf_Tw_reckon f o k x y).2 := by
  unfold mf_Nb_reckon mf_Tw_reckon
  rw [in_8, in_8, in_8]
  by_cases c1 : o < 0
  · rw [if_pos c1, if_pos (show mf_Tw_in o 15 = 0 from if_pos c1)]
    exact ⟨rfl, h⟩
  · by_cases c2 : (14 : Int32) < o
    · rw [if_neg c1, if_pos c2, if_pos (show mf_Tw_in o 15 = 0 from (if_neg c1).trans (if_pos (by
        have l := Int32.lt_iff_toInt_lt.mp c2
        rw [show (14 : Int32).toInt = 14 from rfl] at l
        rw [Int32.le_iff_toInt_le, show (15 : Int32).toInt = 15 from rfl]
        omega)))]
      exact ⟨rfl, h⟩
    · rw [if_neg c1, if_neg c2, if_neg (in_15 c1 c2)]
      by_cases d1 : mf_Nb_isStore k = 0
      · rw [if_pos d1, if_pos d1]
        exact ⟨rfl, h⟩
      · by_cases d2 : mf_Nb_isStore x = 0
        · rw [if_neg d1, if_neg d1, if_pos d2, if_pos d2]
          exact ⟨rfl, h⟩
        · by_cases d3 : mf_Nb_isStore y = 0
          · rw [if_neg d1, if_neg d1, if_neg d2, if_neg d2, if_pos d3, if_pos d3]
            exact ⟨rfl, h⟩
          · rw [if_neg d1, if_neg d1, if_neg d2, if_neg d2, if_neg d3, if_neg d3]
            exact R_fin h _ (by rw [R_to h, R_to h]; exact rc_eq c1 c2 _ _)
theorem sm_whole {g f : Nat → Int64} (h : nb_R g f) (k n : Int32) (a : Int64) : (mf_Nb_whole g k n a).1 = (mf_Tw_wholeM f k n a).1 ∧ nb_R (mf_Nb_whole g k n a).2 (mf_Tw_wholeM f k n a).2 := by
  unfold mf_Nb_whole mf_Tw_wholeM
  rw [in_8]
  by_cases c1 : mf_Nb_isStore k = 0
  · rw [if_pos c1, if_pos c1]
    exact ⟨rfl, h⟩
  · rw [if_neg c1, if_neg c1]
    by_cases c2 : mf_Tw_in n 2 = 0
    · rw [if_pos c2]
      by_cases d : n < 0
      · rw [if_pos d]
        exact ⟨rfl, h⟩
      · rw [if_neg d, if_neg (fun q => by
          unfold mf_Tw_in at c2
          rw [if_neg d] at c2
          by_cases w : (2 : Int32) ≤ n
          · rw [Int32.le_iff_toInt_le] at w q
            rw [show (2 : Int32).toInt = 2 from rfl] at w
            rw [show (1 : Int32).toInt = 1 from rfl] at q
            omega
          · rw [if_neg w] at c2
            exact absurd c2 (by decide))]
        exact ⟨rfl, h⟩
    · rw [if_neg c2]
      obtain ⟨m, hm, rfl⟩ := in_N (m := 2) (by decide) c2
      clear c2
      rcases f01 hm with q | q
      · subst q
        rw [if_neg (show ¬ nI 0 < 0 by decide), if_pos (show nI 0 ≤ (1 : Int32) by decide), show (nI 0).toNatClampNeg = 1 - 1 by decide]
        simp only [if_pos (show nI 0 = (0 : Int32) from rfl)]
        have ow := ow_eq (i := 1) (by decide) a
        by_cases z : a = (-9223372036854775808 : Int64)
        · rw [if_pos z]
          rw [if_pos z] at ow
          exact R_fin h _ (by rw [ow.1]; exact ow.2.1.symm)
        · rw [if_neg z]
          rw [if_neg z] at ow
          by_cases y : 0 ≤ a
          · rw [if_pos y]
            rw [if_pos y] at ow
            exact R_fin h _ (by rw [ow.1]; exact ow.2.1.symm)
          · rw [if_neg y]
            rw [if_neg y] at ow
            exact R_fin h _ (by rw [ow.1]; exact ow.2.1.symm)
      · subst q
        rw [if_neg (show ¬ nI 1 < 0 by decide), if_pos (show nI 1 ≤ (1 : Int32) by decide), show (nI 1).toNatClampNeg = 1 - 0 by decide]
        simp only [if_neg (show ¬ nI 1 = (0 : Int32) by decide)]
        have ow := ow_eq (i := 0) (by decide) a
        by_cases z : a = (-9223372036854775808 : Int64)
        · rw [if_pos z]
          rw [if_pos z] at ow
          exact R_fin h _ (by rw [ow.1, E_dbl]; exact (ok_wid _).symm)
        · rw [if_neg z]
          rw [if_neg z] at ow
          by_cases y : 0 ≤ a
          · rw [if_pos y]
            rw [if_pos y] at ow
            exact R_fin h _ (by rw [ow.1, E_dbl]; exact (ok_wid _).symm)
          · rw [if_neg y]
            rw [if_neg y] at ow
            exact R_fin h _ (by rw [ow.1, E_dbl]; exact (ok_wid _).symm)
theorem sm_cast {g f : Nat → Int64} (h : nb_R g f) (k n : Int32) : mf_Nb_cast g k n = mf_Tw_cast f k n := by
  unfold mf_Nb_cast mf_Tw_cast
  rw [in_8]
  by_cases c1 : mf_Nb_isStore k = 0
  · rw [if_pos c1, if_pos c1]
  · rw [if_neg c1, if_neg c1, R_to h, ← cu_I, ← cu_L]
    by_cases c2 : mf_Tw_in n 5 = 0
    · rw [if_pos c2, if_neg (fun q => by rw [q] at c2; exact absurd c2 (by decide)), if_neg (fun q => by rw [q] at c2; exact absurd c2 (by decide)), if_neg (fun q => by rw [q] at c2; exact absurd c2 (by decide)), if_neg (fun q => by rw [q] at c2; exact absurd c2 (by decide)), if_neg (fun q => by rw [q] at c2; exact absurd c2 (by decide))]
    · rw [if_neg c2]
      obtain ⟨m, hm, rfl⟩ := in_N (m := 5) (by decide) c2
      clear c2
      have hc : m = 0 ∨ m = 1 ∨ m = 2 ∨ m = 3 ∨ m = 4 := by omega
      rcases hc with rfl | rfl | rfl | rfl | rfl
      · rw [if_pos (show nI 0 = (0 : Int32) from rfl), if_neg (show ¬ nI 0 = (1 : Int32) by decide), if_pos (show nI 0 = (0 : Int32) from rfl)]
      · rw [if_neg (show ¬ nI 1 = (0 : Int32) by decide), if_pos (show nI 1 = (1 : Int32) from rfl), if_pos (show nI 1 = (1 : Int32) from rfl)]
      · rw [if_neg (show ¬ nI 2 = (0 : Int32) by decide), if_neg (show ¬ nI 2 = (1 : Int32) by decide), if_pos (show nI 2 = (2 : Int32) from rfl), if_neg (show ¬ nI 2 = (1 : Int32) by decide), if_neg (show ¬ nI 2 = (0 : Int32) by decide), if_pos (show nI 2 = (2 : Int32) from rfl)]
      · rw [if_neg (show ¬ nI 3 = (0 : Int32) by decide), if_neg (show ¬ nI 3 = (1 : Int32) by decide), if_neg (show ¬ nI 3 = (2 : Int32) by decide), if_pos (show nI 3 = (3 : Int32) from rfl), if_neg (show ¬ nI 3 = (1 : Int32) by decide), if_neg (show ¬ nI 3 = (0 : Int32) by decide), if_neg (show ¬ nI 3 = (2 : Int32) by decide), if_pos (show nI 3 = (3 : Int32) from rfl)]
      · rw [if_neg (show ¬ nI 4 = (0 : Int32) by decide), if_neg (show ¬ nI 4 = (1 : Int32) by decide), if_neg (show ¬ nI 4 = (2 : Int32) by decide), if_neg (show ¬ nI 4 = (3 : Int32) by decide), if_pos (show nI 4 = (4 : Int32) from rfl), if_neg (show ¬ nI 4 = (1 : Int32) by decide), if_neg (show ¬ nI 4 = (0 : Int32) by decide), if_neg (show ¬ nI 4 = (2 : Int32) by decide), if_neg (show ¬ nI 4 = (3 : Int32) by decide)]
theorem sm_compare {g f : Nat → Int64} (h : nb_R g f) (k n : Int32) : mf_Nb_compare g k n = mf_Tw_compare f k n := by
  unfold mf_Nb_compare mf_Tw_compare
  rw [in_8, in_8, R_to h, R_to h, rl_eq]
  rfl
theorem hn_loop {g f : Nat → Int64} (h : nb_R g f) (k : Int32) : ∀ (fuel : Nat) (x y : Int64) (c : Int32), x = to y → mf_Nb_horner_b21 g k fuel x c = mf_Tw_horner_b23 f k fuel y c := by
  intro fuel
  induction fuel with
  | zero => intro x y c _; rfl
  | succ n ih =>
    intro x y c e
    rw [mf_Nb_horner_b21, mf_Tw_horner_b23]
    by_cases q : c < 0
    · rw [if_pos q, if_pos q, tc_told]
      exact e
    · rw [if_neg q, if_neg q]
      refine ih _ _ _ ?_
      unfold mf_Tw_add2 mf_Tw_multiply2
      rw [e, R_to h, R_to h, O_mul, O_add]
theorem sm_horner {g f : Nat → Int64} (h : nb_R g f) (k : Int32) : mf_Nb_horner g k = mf_Tw_horner f k := by
  unfold mf_Nb_horner mf_Tw_horner
  rw [in_8]
  by_cases c1 : mf_Nb_isStore k = 0
  · rw [if_pos c1, if_pos c1]
  · rw [if_neg c1, if_neg c1]
    exact hn_loop h k _ _ _ _ (R_to h _)
theorem sm_single {g f : Nat → Int64} (h : nb_R g f) (k : Int32) : mf_Nb_single g k = mf_Tw_single f k := by
  unfold mf_Nb_single mf_Tw_single
  rw [in_8, R_to h, O_flt]
theorem sm_fromSingle {g f : Nat → Int64} (h : nb_R g f) (k n : Int32) : (mf_Nb_fromSingle g k n).1 = (mf_Tw_fromSingle f k n).1 ∧ nb_R (mf_Nb_fromSingle g k n).2 (mf_Tw_fromSingle f k n).2 := by
  unfold mf_Nb_fromSingle mf_Tw_fromSingle
  rw [in_8]
  by_cases c1 : mf_Nb_isStore k = 0
  · rw [if_pos c1, if_pos c1]
    exact ⟨rfl, h⟩
  · rw [if_neg c1, if_neg c1]
    exact R_fin h _ (by rw [E_dbl]; exact (ok_wid _).symm)
theorem su_plain {g f : Nat → Int64} (h : nb_R g f) : ∀ (fuel : Nat) (x y z : Int64) (c : Int32), x = to y → mf_Nb_plainSum_b4 g fuel x c = mf_Tw_sum_b29 f 0 fuel y z 8 c := by
  intro fuel
  induction fuel with
  | zero => intro x y z c _; rfl
  | succ n ih =>
    intro x y z c e
    rw [mf_Nb_plainSum_b4, mf_Tw_sum_b29]
    by_cases q : (8 : Int32) ≤ c
    · rw [if_pos q, if_pos q, if_neg (show ¬ (0 : Int32) = 1 by decide), tc_told]
      exact e
    · rw [if_neg q, if_neg q, if_pos (show (0 : Int32) = 0 from rfl), if_neg (show ¬ (0 : Int32) = 1 by decide), if_neg (show ¬ (2 : Int32) ≤ 0 by decide)]
      refine ih _ _ _ _ ?_
      unfold mf_Tw_add2
      rw [e, R_to h, O_add]
theorem su_float {g f : Nat → Int64} (h : nb_R g f) : ∀ (fuel : Nat) (x z : Int64) (c : Int32), dm 0 x → mf_Nb_floatSum_b4 g fuel x c = mf_Tw_sum_b29 f 1 fuel x z 8 c := by
  intro fuel
  induction fuel with
  | zero => intro x z c _; rfl
  | succ n ih =>
    intro x z c e
    rw [mf_Nb_floatSum_b4, mf_Tw_sum_b29]
    by_cases q : (8 : Int32) ≤ c
    · rw [if_pos q, if_pos q, if_pos (show (1 : Int32) = 1 from rfl), tc_told, E_dbl]
      exact (ok_wid _).symm
    · rw [if_neg q, if_neg q, if_neg (show ¬ (1 : Int32) = 0 by decide), if_pos (show (1 : Int32) = 1 from rfl), if_neg (show ¬ (2 : Int32) ≤ 1 by decide), R_to h, O_flt, F_add e (dm_flt _)]
      exact ih _ _ _ (both_plus (i := 0) (by decide) e (dm_flt _)).2
theorem su_keep {g f : Nat → Int64} (h : nb_R g f) : ∀ (fuel : Nat) (x y u v : Int64) (c : Int32), x = to y → u = to v → mf_Nb_sumKeeping_b7 g fuel x u c = mf_Tw_sum_b29 f 2 fuel y v 8 c := by
  intro fuel
  induction fuel with
  | zero => intro x y u v c _ _; rfl
  | succ n ih =>
    intro x y u v c e e2
    rw [mf_Nb_sumKeeping_b7, mf_Tw_sum_b29]
    by_cases q : (8 : Int32) ≤ c
    · rw [if_pos q, if_pos q, if_neg (show ¬ (2 : Int32) = 1 by decide), tc_told]
      exact e
    · rw [if_neg q, if_neg q, if_neg (show ¬ (2 : Int32) = 0 by decide), if_neg (show ¬ (2 : Int32) = 1 by decide), if_pos (show (2 : Int32) ≤ 2 by decide)]
      unfold mf_Tw_add2 mf_Tw_subtract2
      refine ih _ _ _ _ _ ?_ ?_
      · rw [e, e2, R_to h, O_sub, O_add]
      · rw [e, e2, R_to h, O_sub, O_add, O_sub, O_sub]
theorem sm_sum {g f : Nat → Int64} (h : nb_R g f) (w : Int32) : mf_Nb_sum g w = mf_Tw_sum f w := by
  unfold mf_Nb_sum mf_Tw_sum
  have z0 : (0 : Int64) = to 0 := (both_z (i := 1) (by decide)).1.symm
  by_cases c : mf_Tw_in w 3 = 0
  · rw [if_pos c, if_neg (fun q => by rw [q] at c; exact absurd c (by decide)), if_neg (fun q => by rw [q] at c; exact absurd c (by decide)), if_neg (fun q => by rw [q] at c; exact absurd c (by decide))]
  · rw [if_neg c]
    obtain ⟨m, hm, rfl⟩ := in_N (m := 3) (by decide) c
    clear c
    have hc : m = 0 ∨ m = 1 ∨ m = 2 := by omega
    rcases hc with rfl | rfl | rfl
    · rw [if_pos (show nI 0 = (0 : Int32) from rfl)]
      exact su_plain h _ _ _ _ _ z0
    · rw [if_neg (show ¬ nI 1 = (0 : Int32) by decide), if_pos (show nI 1 = (1 : Int32) from rfl)]
      exact su_float h _ _ _ _ (both_z (i := 0) (by decide)).2
    · rw [if_neg (show ¬ nI 2 = (0 : Int32) by decide), if_neg (show ¬ nI 2 = (1 : Int32) by decide), if_pos (show nI 2 = (2 : Int32) from rfl)]
      exact su_keep h _ _ _ _ _ _ z0 z0
