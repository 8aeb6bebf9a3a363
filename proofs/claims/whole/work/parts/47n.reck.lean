/-! Root, sign turned, what is reckoned, how two stand -/
theorem rt_loop (a : Int64) : ∀ (fuel : Nat) (x : Int64) (c : Int32), mf_Tw_root_b30 a fuel x c = mf_Nb_root_b30 a fuel x c := by
  intro fuel
  induction fuel with
  | zero => intro x c; rfl
  | succ n ih =>
    intro x c
    have e : mf_Tw_divide2 (mf_Tw_add2 x (mf_Tw_divide2 a x)) (4611686018427387904 : Int64) = mf_Fo_over 1 (mf_Fo_plus 1 x (mf_Fo_over 1 a x)) (4611686018427387904 : Int64) := by
      unfold mf_Tw_divide2 mf_Tw_add2
      rw [E_div a x, E_add, E_div]
    rw [mf_Tw_root_b30, mf_Nb_root_b30, e, ih]
theorem rt_ok1 (a : Int64) : ∀ (fuel : Nat) (x : Int64) (c : Int32), ok 1 x → ok 1 (mf_Nb_root_b30 a fuel x c) := by
  intro fuel
  induction fuel with
  | zero => intro x c _; exact (both_z (i := 1) (by decide)).1
  | succ n ih =>
    intro x c hx
    rw [mf_Nb_root_b30]
    split
    · exact hx
    · exact ih _ _ (ok_over _ _)
theorem rt_ok (a x : Int64) : ok 1 (mf_Nb_root_b30 a ((((5 : Int32).toInt - (0 : Int32).toInt).toNat) + 1) x (0 : Int32)) := by
  rw [mf_Nb_root_b30, if_neg (show ¬ (5 : Int32) ≤ 0 by decide)]
  exact rt_ok1 _ _ _ _ (ok_over _ _)
theorem nn_0 : mf_Fo_isNoNumber 1 (lN 0) = 0 := by decide
theorem sv_0 : sv 0 = 0 := by decide
theorem rt_eq (a : Int64) : mf_Nb_root (to a) = to (mf_Tw_root a) := by
  obtain ⟨n, hn, rfl⟩ := wb_of a
  have ho := od_eq hn (show 0 < 2 ^ 64 by decide)
  rw [if_pos nn_0, sv_0, lN0] at ho
  have ei := tc_isInfinite (i := 1) (by decide) (lN n)
  rw [show (1 - 1 : Nat) = 0 from rfl] at ei
  unfold mf_Tw_root
  rw [ho, ei, rt_loop]
  by_cases c1 : mf_Fo_isNoNumber 1 (lN n) = 0
  · rw [if_pos c1, to_nn c1]
    unfold mf_Nb_root
    by_cases c : n < 2 ^ 63
    · by_cases d : n = 0
      · subst d
        rw [sv_0, if_pos (show (0 : Int) ≤ 0 by decide), if_pos (show (0 : Int) = 0 from rfl), if_neg (show ¬ (0 : Int32) = 1 by decide), if_pos (show lN 0 ≤ 0 by decide), to_nn c1]
      · have hv : sv n = (n : Int) := by
          unfold sv fsg
          rw [show fw 1 = 63 from rfl, if_pos (by omega), Nat.mod_eq_of_lt c]
        rw [hv, if_pos (show (0 : Int) ≤ (n : Int) by omega), if_neg (show ¬ (n : Int) = 0 by omega), if_pos (show (1 : Int32) = 1 from rfl), if_neg (show ¬ lN n ≤ 0 from fun q => d (by have := (pk_lLE (b := 0) c (by decide)).mp q; omega))]
        by_cases w : mf_Fo_isInfinite 1 (lN n) = 0
        · have l := fx_inflt (i := 1) (by decide) hn c1 w
          rw [fm_mag (by decide) hn, show fw 1 = 63 from rfl, Nat.mod_eq_of_lt c] at l
          rw [if_pos w, if_pos l]
          exact (rt_ok _ _).symm
        · have l : lN n = fo_inf 1 := by
            unfold mf_Fo_isInfinite at w
            rw [fm_mag (by decide) hn, show fw 1 = 63 from rfl, Nat.mod_eq_of_lt c] at w
            by_cases z : lN n = fo_inf 1
            · exact z
            · rw [if_neg z] at w
              exact absurd rfl w
          rw [if_neg w, if_neg (show ¬ lN n < fo_inf 1 by rw [l]; decide), to_nn c1]
    · have hv : ¬ 0 < sv n := by
        unfold sv fsg
        rw [show fw 1 = 63 from rfl, if_neg (by omega)]
        omega
      have h1 : ¬ (if (0 : Int) ≤ sv n then (if sv n = 0 then (0 : Int32) else 1) else -1) = 1 := by
        by_cases z : (0 : Int) ≤ sv n
        · rw [if_pos z, if_pos (by omega)]
          decide
        · rw [if_neg z]
          decide
      rw [if_neg h1, if_pos (show lN n ≤ 0 by rw [Int64.le_iff_toInt_le, lN_neg (by omega) hn, show (0 : Int64).toInt = 0 from rfl]; omega), to_nn c1]
  · rw [if_neg c1, if_neg (show ¬ (2 : Int32) = 1 by decide), to_nan c1]
    unfold mf_Nb_root
    rw [if_neg (show ¬ fo_nan 1 ≤ 0 by decide), if_neg (show ¬ fo_nan 1 < fo_inf 1 by decide)]
theorem ng_eq (a : Int64) : mf_Fo_negated 1 (to a) = to (mf_Tw_turned a 0) := by
  have e := tc_turned (i := 1) (by decide) a
  rw [show (1 - 1 : Nat) = 0 from rfl] at e
  rw [e]
  unfold mf_Fo_negated
  by_cases c1 : mf_Fo_isNoNumber 1 a = 0
  · rw [to_nn c1]
    rfl
  · rw [to_nan c1, to_nan (show ¬ mf_Fo_isNoNumber 1 (a ^^^ fo_sign 1) = 0 by rw [nn_xor]; exact c1)]
    exact if_neg (show ¬ mf_Fo_isNoNumber 1 (fo_nan 1 ^^^ fo_sign 1) = 0 by rw [nn_xor]; exact fx_nanT (i := 1) (by decide))
theorem sg_eq (a : Int64) : mf_Nb_widened (mf_Nb_narrowed (to a)) = to (mf_Tw_toDouble (mf_Tw_toFloat a)) := by
  rw [O_flt, E_dbl]
  exact (ok_wid _).symm
theorem dm_flt (a : Int64) : dm 0 (mf_Tw_toFloat a) := by
  rw [E_flt]
  exact dm_nar a
theorem F_add {x y : Int64} (hx : dm 0 x) (hy : dm 0 y) : mf_Tw_add x y 1 = mf_Fo_plus 0 x y := by
  obtain ⟨n, hn, rfl⟩ := hx
  obtain ⟨k, hk, rfl⟩ := hy
  exact ad_eq (i := 0) (by decide) hn hk
theorem F_sub {x y : Int64} (hx : dm 0 x) (hy : dm 0 y) : mf_Tw_subtract x y 1 = mf_Fo_minus 0 x y := by
  obtain ⟨n, hn, rfl⟩ := hx
  obtain ⟨k, hk, rfl⟩ := hy
  exact sb_eq (i := 0) (by decide) hn hk
theorem F_mul {x y : Int64} (hx : dm 0 x) (hy : dm 0 y) : mf_Tw_multiply x y 1 = mf_Fo_times 0 x y := by
  obtain ⟨n, hn, rfl⟩ := hx
  obtain ⟨k, hk, rfl⟩ := hy
  exact ml_eq (i := 0) (by decide) (fx_64 (i := 0) (by decide) hn) (fx_64 (i := 0) (by decide) hk)
theorem F_div {x y : Int64} (hx : dm 0 x) (hy : dm 0 y) : mf_Tw_divide x y 1 = mf_Fo_over 0 x y := by
  obtain ⟨n, hn, rfl⟩ := hx
  obtain ⟨k, hk, rfl⟩ := hy
  exact dq_eq (i := 0) (by decide) (fx_64 (i := 0) (by decide) hn) (fx_64 (i := 0) (by decide) hk)
theorem F_rem {x y : Int64} (hx : dm 0 x) (hy : dm 0 y) : mf_Tw_rest x y 1 = mf_Fo_remainder 0 x y := by
  obtain ⟨n, hn, rfl⟩ := hx
  obtain ⟨k, hk, rfl⟩ := hy
  exact rs_eq (i := 0) (by decide) (fx_64 (i := 0) (by decide) hn) (fx_64 (i := 0) (by decide) hk)
theorem fl_eq (F G : Int64 → Int64 → Int64) (h : ∀ x y, dm 0 x → dm 0 y → G x y = F x y) (a b : Int64) : mf_Nb_widened (F (mf_Nb_narrowed (to a)) (mf_Nb_narrowed (to b))) = to (mf_Tw_toDouble (G (mf_Tw_toFloat a) (mf_Tw_toFloat b))) := by
  rw [O_flt, O_flt, E_dbl, h _ _ (dm_flt a) (dm_flt b)]
  exact (ok_wid _).symm
theorem op_N {o : Int32} (h1 : ¬ o < 0) (h2 : ¬ (14 : Int32) < o) : ∃ n : Nat, n < 15 ∧ o = nI n := by
  have e := iI_of o
  have l1 : 0 ≤ o.toInt := by
    have := mt Int32.lt_iff_toInt_lt.mpr h1
    rw [show (0 : Int32).toInt = 0 from rfl] at this
    omega
  have l2 : o.toInt ≤ 14 := by
    have := mt Int32.lt_iff_toInt_lt.mpr h2
    rw [show (14 : Int32).toInt = 14 from rfl] at this
    omega
  exact ⟨o.toInt.toNat, by omega, by rw [← iI_nn l1]; exact e⟩
theorem rc_eq {o : Int32} (h1 : ¬ o < 0) (h2 : ¬ (14 : Int32) < o) (a b : Int64) : mf_Nb_reckoned o (to a) (to b) = to (mf_Tw_reckoned o a b) := by
  obtain ⟨n, hn, rfl⟩ := op_N h1 h2
  clear h1 h2
  have hc : n = 0 ∨ n = 1 ∨ n = 2 ∨ n = 3 ∨ n = 4 ∨ n = 5 ∨ n = 6 ∨ n = 7 ∨ n = 8 ∨ n = 9 ∨ n = 10 ∨ n = 11 ∨ n = 12 ∨ n = 13 ∨ n = 14 := by omega
  rcases hc with rfl | rfl | rfl | rfl | rfl | rfl | rfl | rfl | rfl | rfl | rfl | rfl | rfl | rfl | rfl <;> simp (decide := true) only [mf_Nb_reckoned, mf_Nb_combined, mf_Nb_reckoned_b49, mf_Tw_reckoned, mf_Tw_reckoned_b16, if_true, if_false]
  · exact O_add a b
  · exact O_sub a b
  · exact O_mul a b
  · exact O_div a b
  · exact O_rem a b
  · exact rt_eq a
  · exact ng_eq a
  · exact sg_eq a
  · exact fl_eq (mf_Fo_plus 0) (fun x y => mf_Tw_add x y 1) (fun x y hx hy => F_add hx hy) a b
  · exact fl_eq (mf_Fo_minus 0) (fun x y => mf_Tw_subtract x y 1) (fun x y hx hy => F_sub hx hy) a b
  · exact fl_eq (mf_Fo_times 0) (fun x y => mf_Tw_multiply x y 1) (fun x y hx hy => F_mul hx hy) a b
  · exact fl_eq (mf_Fo_over 0) (fun x y => mf_Tw_divide x y 1) (fun x y hx hy => F_div hx hy) a b
  · exact fl_eq (mf_Fo_remainder 0) (fun x y => mf_Tw_rest x y 1) (fun x y hx hy => F_rem hx hy) a b
  · exact (end_eq a b).1
  · exact (end_eq a b).2
def rel (o : Int32) : Int32 := if o = (-1 : Int32) then (11 : Int32) else if o = (0 : Int32) then (22 : Int32) else if o = (1 : Int32) then (56 : Int32) else (8 : Int32)
theorem nn_rel (a b : Int64) (h : ¬ mf_Fo_isNoNumber 1 a = 0 ∨ ¬ mf_Fo_isNoNumber 1 b = 0) : mf_Nb_relations a b = 8 := by
  unfold mf_Nb_relations
  by_cases c1 : mf_Fo_isNoNumber 1 a = 0
  · rw [if_pos c1, if_neg (h.resolve_left (fun q => q c1))]
  · rw [if_neg c1]
theorem rl_far {na nb : Nat} (ha : na < 2 ^ 64) (hb : nb < 2 ^ 64) (c1 : mf_Fo_isNoNumber 1 (lN na) = 0) (c2 : mf_Fo_isNoNumber 1 (lN nb) = 0) (h : ¬ sv na = sv nb) : mf_Nb_relations (lN na) (lN nb) = if rk nb ≤ rk na then 56 else 11 := by
  have hne : ¬ lN na = lN nb := fun q => h (by
    have e1 := wb_tn ha
    rw [q, wb_tn hb] at e1
    rw [e1])
  have e48 : mf_Nb_relations_b48 (lN na) (lN nb) 0 = if rk nb ≤ rk na then 56 else 11 := by
    unfold mf_Nb_relations_b48
    rw [if_neg hne, if_pos rfl]
    by_cases q : rk nb ≤ rk na
    · rw [if_pos q, if_pos (show mf_Nb_rank (lN nb) ≤ mf_Nb_rank (lN na) by rw [Int64.le_iff_toInt_le, rk_eq ha, rk_eq hb]; exact q)]
    · rw [if_neg q, if_neg (show ¬ mf_Nb_rank (lN nb) ≤ mf_Nb_rank (lN na) by rw [Int64.le_iff_toInt_le, rk_eq ha, rk_eq hb]; exact q)]
  unfold mf_Nb_relations mf_Nb_relations_b47
  rw [if_pos c1, if_pos c2, e48]
  by_cases z1 : mf_Fo_isZero 1 (lN na) = 0
  · rw [if_pos z1]
  · by_cases z2 : mf_Fo_isZero 1 (lN nb) = 0
    · rw [if_neg z1, if_pos z2]
    · exfalso
      rw [fx_zero (by decide) ha] at z1
      rw [fx_zero (by decide) hb] at z2
      rw [show fw 1 = 63 from rfl] at z1 z2
      apply h
      unfold sv
      split <;> split <;> omega
theorem rl_near {na nb : Nat} (ha : na < 2 ^ 64) (hb : nb < 2 ^ 64) (c1 : mf_Fo_isNoNumber 1 (lN na) = 0) (c2 : mf_Fo_isNoNumber 1 (lN nb) = 0) (h : sv na = sv nb) : mf_Nb_relations (lN na) (lN nb) = 22 := by
  have k : na = nb ∨ (na % 2 ^ 63 = 0 ∧ nb % 2 ^ 63 = 0) := by
    rcases rk_same ha hb h with w | ⟨w1, w2, w3, w4, w5, w6⟩ | ⟨w1, w2, w3, w4, w5, w6⟩
    · exact Or.inl w
    · exact Or.inr ⟨w3, w4⟩
    · exact Or.inr ⟨w3, w4⟩
  unfold mf_Nb_relations mf_Nb_relations_b47
  rw [if_pos c1, if_pos c2]
  rcases k with w | ⟨w1, w2⟩
  · subst w
    unfold mf_Nb_relations_b48
    simp only [if_true, ite_self]
  · rw [if_neg (show ¬ mf_Fo_isZero 1 (lN na) = 0 by rw [fx_zero (by decide) ha]; exact fun q => q w1), if_neg (show ¬ mf_Fo_isZero 1 (lN nb) = 0 by rw [fx_zero (by decide) hb]; exact fun q => q w2)]
    unfold mf_Nb_relations_b48
    rw [if_neg (show ¬ (1 : Int32) = 0 by decide), ite_self]
theorem rl_eq (a b : Int64) : mf_Nb_relations (to a) (to b) = rel (mf_Tw_order a b) := by
  have hN := fx_nanT (i := 1) (by decide)
  obtain ⟨na, ha, rfl⟩ := wb_of a
  obtain ⟨nb, hb, rfl⟩ := wb_of b
  rw [od_eq ha hb]
  by_cases c1 : mf_Fo_isNoNumber 1 (lN na) = 0
  · by_cases c2 : mf_Fo_isNoNumber 1 (lN nb) = 0
    · rw [to_nn c1, to_nn c2, if_pos c1, if_pos c2]
      by_cases q : sv na = sv nb
      · rw [rl_near ha hb c1 c2 q, if_pos (show sv nb ≤ sv na by omega), if_pos q]
        decide
      · rw [rl_far ha hb c1 c2 q]
        by_cases p : sv nb ≤ sv na
        · have r := rk_lt (show sv nb < sv na by omega)
          rw [if_pos (show rk nb ≤ rk na by omega), if_pos p, if_neg q]
          decide
        · have r := rk_lt (show sv na < sv nb by omega)
          rw [if_neg (show ¬ rk nb ≤ rk na by omega), if_neg p]
          decide
    · rw [to_nan c2, nn_rel _ _ (Or.inr hN), if_pos c1, if_neg c2]
      decide
  · rw [to_nan c1, nn_rel _ _ (Or.inl hN), if_neg c1]
    decide
