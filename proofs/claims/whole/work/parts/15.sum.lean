/-! Sums and differences: the summand of the lesser exponent may be cut, if a bit or a flag tells of it -/
def ft_tt (x : Nat) : Nat := if x = 0 then 0 else 1
theorem ft_tt_lt (x : Nat) : ft_tt x < 2 := by
  unfold ft_tt
  split <;> omega
theorem ft_tt_0 {x : Nat} : ft_tt x = 0 ↔ x = 0 := by
  unfold ft_tt
  split <;> omega
/-- shifted to the right, its last bit telling of what was lost -/
def ft_st (x d : Nat) : Nat := x / 2 ^ d ||| ft_tt (x % 2 ^ d)
theorem ft_st_ex (x j d : Nat) (h : d ≤ j) : ft_st (x * 2 ^ j) d = x * 2 ^ (j - d) := by
  have e : x * 2 ^ j = x * 2 ^ (j - d) * 2 ^ d := by
    rw [Nat.mul_assoc, ← Nat.pow_add, show j - d + d = j by omega]
  unfold ft_st
  rw [e, Nat.mul_div_cancel _ (Nat.two_pow_pos d), Nat.mul_mod_left, ft_tt_0.mpr rfl, Nat.or_zero]
theorem ft_st_cut (x j d : Nat) (h : j ≤ d) : ft_st (x * 2 ^ j) d = x / 2 ^ (d - j) ||| ft_tt (x % 2 ^ (d - j)) := by
  have hj := Nat.two_pow_pos j
  have e : 2 ^ d = 2 ^ (d - j) * 2 ^ j := by
    rw [← Nat.pow_add, show d - j + j = d by omega]
  unfold ft_st
  rw [e, Nat.mul_div_mul_right _ _ hj, Nat.mul_mod_mul_right]
  congr 1
  unfold ft_tt
  by_cases c : x % 2 ^ (d - j) = 0
  · rw [c, Nat.zero_mul]
  · rw [if_neg c, if_neg]
    intro z
    rcases Nat.mul_eq_zero.mp z with z | z
    · exact c z
    · omega
/-- x * D + t and y * D say the same above the last place, if .. -/
theorem ft_cg {p inf D x y t : Nat} {j : Nat} {k : Int} (hD : 2 ^ j = D) (ht : t < D) (h1 : x / 2 = y / 2) (h2 : (x % 2 = 0 ∧ t = 0) ↔ y % 2 = 0) (h3 : 2 ^ p ≤ x / 2) : fr_Z p inf (x * D + t) k = fr_Z p inf (y * D) k := by
  have hD0 : 0 < D := by omega
  have e : 2 ^ (j + 1) = D * 2 := by rw [Nat.pow_succ, hD]
  have x1 : (x * D + t) / D = x := by
    rw [Nat.add_comm, Nat.add_mul_div_right _ _ hD0, Nat.div_eq_of_lt ht, Nat.zero_add]
  have x2 : (x * D + t) % D = t := by
    rw [Nat.add_comm, Nat.add_mul_mod_self_right, Nat.mod_eq_of_lt ht]
  have y1 : y * D / D = y := Nat.mul_div_cancel _ hD0
  have y2 : y * D % D = 0 := Nat.mul_mod_left _ _
  refine fr_Z_cong (d := j + 1) ?_ ?_ ?_
  · rw [e, ← Nat.div_div_eq_div_mul, ← Nat.div_div_eq_div_mul, x1, y1, h1]
  · rw [e, Nat.mod_mul, Nat.mod_mul, x1, x2, y1, y2]
    rcases (show x % 2 = 0 ∨ x % 2 = 1 by omega) with z | z <;> rcases (show y % 2 = 0 ∨ y % 2 = 1 by omega) with w | w <;> rw [z, w] <;> omega
  · rw [e, ← Nat.div_div_eq_div_mul, x1]
    exact h3
theorem ft_pw {a b : Nat} (h : b ≤ a) : 2 ^ a = 2 ^ b * 2 ^ (a - b) := by
  rw [← Nat.pow_add, show b + (a - b) = a by omega]
theorem ft_big {p S d : Nat} (hp : 2 ≤ p) (h : 2 ^ (p - 1) ≤ S) : 2 ^ p * 256 ≤ S * 2 ^ 9 := by
  have hX : 2 ^ p = 2 * 2 ^ (p - 1) := by
    rw [← Nat.pow_succ', show (p - 1).succ = p by omega]
  omega
theorem ft_addC {p inf S T K d : Nat} (hp : 2 ≤ p) (hn : 9 < d → 2 ^ (p - 1) ≤ S) : fr_Z p inf (S * 2 ^ 9 + ft_st (T * 2 ^ 9) d) ((K : Int) + d - 9) = fr_Z p inf (S * 2 ^ d + T) (K : Int) := by
  by_cases c : d ≤ 9
  · rw [ft_st_ex T 9 d c]
    refine fr_Z_to p inf (j := 9 - d) ?_ (by omega)
    rw [Nat.add_mul, Nat.mul_assoc, ← ft_pw c]
  · rw [ft_st_cut T 9 d (by omega)]
    have hS := ft_big (d := d) hp (hn (by omega))
    rw [← fr_Z_mul p inf _ (d - 9) ((K : Int) + d - 9), show (K : Int) + d - 9 - ((d - 9 : Nat) : Int) = K by omega]
    have ht := Nat.mod_lt T (Nat.two_pow_pos (d - 9))
    have eT := Nat.div_add_mod T (2 ^ (d - 9))
    have eN : S * 2 ^ d + T = (S * 2 ^ 9 + T / 2 ^ (d - 9)) * 2 ^ (d - 9) + T % 2 ^ (d - 9) := by
      rw [ft_pw (show 9 ≤ d by omega), Nat.add_mul, ← Nat.mul_assoc, Nat.mul_comm (T / 2 ^ (d - 9))]
      omega
    rw [eN]
    generalize T / 2 ^ (d - 9) = q
    generalize T % 2 ^ (d - 9) = t at ht ⊢
    have ho := fr_or (q := q) (ft_tt_lt t)
    have h0 := ft_tt_0 (x := t)
    have hl := ft_tt_lt t
    generalize ft_tt t = τ at *
    rw [ho]
    refine (ft_cg rfl ht ?_ ?_ ?_).symm
    · split <;> omega
    · split <;> omega
    · omega
theorem ft_subC {p inf S T K d : Nat} (hp : 2 ≤ p) (hT : T < 2 ^ p) (hn : 9 < d → 2 ^ (p - 1) ≤ S) (hle : T ≤ S * 2 ^ d) :
    ft_st (T * 2 ^ 9) d ≤ S * 2 ^ 9 ∧ (S * 2 ^ 9 = ft_st (T * 2 ^ 9) d ↔ S * 2 ^ d = T) ∧ fr_Z p inf (S * 2 ^ 9 - ft_st (T * 2 ^ 9) d) ((K : Int) + d - 9) = fr_Z p inf (S * 2 ^ d - T) (K : Int) := by
  by_cases c : d ≤ 9
  · rw [ft_st_ex T 9 d c]
    have e : S * 2 ^ 9 = S * 2 ^ d * 2 ^ (9 - d) := by rw [Nat.mul_assoc, ← ft_pw c]
    have hx := Nat.two_pow_pos (9 - d)
    rw [e]
    refine ⟨Nat.mul_le_mul_right _ hle, Nat.mul_left_inj (Nat.ne_of_gt hx), fr_Z_to p inf (j := 9 - d) ?_ (by omega)⟩
    rw [Nat.sub_mul]
  · rw [ft_st_cut T 9 d (by omega)]
    have hS := ft_big (d := d) hp (hn (by omega))
    have hx := Nat.two_pow_pos (d - 9)
    have hx2 : 2 ^ 1 ≤ 2 ^ (d - 9) := Nat.pow_le_pow_right (by decide) (by omega)
    rw [← fr_Z_mul p inf _ (d - 9) ((K : Int) + d - 9), show (K : Int) + d - 9 - ((d - 9 : Nat) : Int) = K by omega]
    have ht := Nat.mod_lt T hx
    have eT := Nat.div_add_mod T (2 ^ (d - 9))
    have hq : T / 2 ^ (d - 9) ≤ T := Nat.div_le_self _ _
    have e9 : S * 2 ^ d = S * 2 ^ 9 * 2 ^ (d - 9) := by rw [ft_pw (show 9 ≤ d by omega), ← Nat.mul_assoc]
    rw [e9]
    rw [e9] at hle
    have hGe : S * 2 ^ 9 % 2 = 0 := by omega
    obtain ⟨G, hG⟩ : ∃ G, G = S * 2 ^ 9 := ⟨_, rfl⟩
    rw [← hG] at hS hle hGe ⊢
    clear hG e9
    generalize hDe : 2 ^ (d - 9) = D at *
    generalize T / D = q at *
    generalize T % D = t at *
    have ho := fr_or (q := q) (ft_tt_lt t)
    have h0 := ft_tt_0 (x := t)
    have hl := ft_tt_lt t
    generalize ft_tt t = τ at *
    rw [ho]
    have hGD : G ≤ G * D := Nat.le_mul_of_pos_right _ hx
    have hqD : (q + 1) * D ≤ G * D := Nat.mul_le_mul_right _ (by omega)
    rw [Nat.add_mul, Nat.one_mul] at hqD
    rw [Nat.mul_comm D q] at eT
    refine ⟨by split <;> omega, by split <;> omega, ?_⟩
    by_cases z : t = 0
    · have hτ : τ = 0 := h0.mpr z
      rw [hτ, Nat.add_zero, show (if q % 2 = 0 then q else q) = q by split <;> rfl, Nat.sub_mul, show G * D - q * D = G * D - T by omega]
    · have hτ : τ = 1 := by omega
      have eN : G * D - T = (G - q - 1) * D + (D - t) := by
        rw [Nat.sub_mul, Nat.sub_mul, Nat.one_mul]
        omega
      rw [eN, hτ]
      refine (ft_cg hDe (by omega) ?_ ?_ ?_).symm
      · split <;> omega
      · split <;> omega
      · omega
/-- the reference's way, where the exponents are more than nine apart -/
theorem ft_cg2 {p inf D x t : Nat} {j : Nat} {k : Int} (hD : 2 ^ j = D) (hj : 1 ≤ j) (ht : t < D) (h3 : 2 ^ p ≤ x) : fr_Z p inf (2 * x + ft_tt t) (k - 1) = fr_Z p inf (x * D + t) (k - (j : Int)) := by
  have hD0 : 0 < D := by omega
  obtain ⟨i, rfl⟩ : ∃ i, j = i + 1 := ⟨j - 1, by omega⟩
  have hE : D = 2 ^ i * 2 := by rw [← hD, Nat.pow_succ]
  have hi := Nat.two_pow_pos i
  have x1 : (x * D + t) / D = x := by
    rw [Nat.add_comm, Nat.add_mul_div_right _ _ hD0, Nat.div_eq_of_lt ht, Nat.zero_add]
  have x2 : (x * D + t) % D = t := by
    rw [Nat.add_comm, Nat.add_mul_mod_self_right, Nat.mod_eq_of_lt ht]
  have y0 : (2 * x + ft_tt t) * 2 ^ i = ft_tt t * 2 ^ i + x * D := by
    rw [hE, Nat.add_mul, Nat.mul_assoc, ← Nat.mul_assoc x, Nat.mul_comm (x * 2 ^ i) 2]
    omega
  have hl := ft_tt_lt t
  have h0 := ft_tt_0 (x := t)
  have hlt : ft_tt t * 2 ^ i < D := by
    rcases (show ft_tt t = 0 ∨ ft_tt t = 1 by omega) with z | z <;> rw [z] <;> omega
  rw [← fr_Z_mul p inf (2 * x + ft_tt t) i (k - 1), show k - 1 - (i : Int) = k - ((i + 1 : Nat) : Int) by omega, y0]
  refine fr_Z_cong (d := i + 1) ?_ ?_ ?_
  · rw [hD, x1, Nat.add_mul_div_right _ _ hD0, Nat.div_eq_of_lt hlt, Nat.zero_add]
  · rw [hD, x2, Nat.add_mul_mod_self_right, Nat.mod_eq_of_lt hlt, ← h0]
    constructor
    · intro z
      rcases Nat.mul_eq_zero.mp z with z | z
      · exact z
      · omega
    · intro z
      rw [z, Nat.zero_mul]
  · rw [hD, Nat.add_mul_div_right _ _ hD0, Nat.div_eq_of_lt hlt, Nat.zero_add]
    exact h3
theorem ft_addT {p inf S T K d : Nat} (hp : 2 ≤ p) (hd : 9 < d) (hn : 2 ^ (p - 1) ≤ S) : fr_Z p inf (2 * (S * 2 ^ 9 + T / 2 ^ (d - 9)) + ft_tt (T % 2 ^ (d - 9))) ((K : Int) + d - 9 - 1) = fr_Z p inf (S * 2 ^ d + T) (K : Int) := by
  have hS := ft_big (d := d) hp hn
  have ht := Nat.mod_lt T (Nat.two_pow_pos (d - 9))
  have eT := Nat.div_add_mod T (2 ^ (d - 9))
  have eN : S * 2 ^ d + T = (S * 2 ^ 9 + T / 2 ^ (d - 9)) * 2 ^ (d - 9) + T % 2 ^ (d - 9) := by
    rw [ft_pw (show 9 ≤ d by omega), Nat.add_mul, ← Nat.mul_assoc, Nat.mul_comm (T / 2 ^ (d - 9))]
    omega
  rw [eN, ft_cg2 (j := d - 9) rfl (by omega) ht (Nat.le_trans (show 2 ^ p ≤ S * 2 ^ 9 by omega) (Nat.le_add_right _ _)), show (K : Int) + d - 9 - ((d - 9 : Nat) : Int) = K by omega]
theorem ft_subT {p inf S T K d : Nat} (hp : 2 ≤ p) (hd : 9 < d) (hT : T < 2 ^ p) (hn : 2 ^ (p - 1) ≤ S) :
    T / 2 ^ (d - 9) + 1 < S * 2 ^ 9 ∧ fr_Z p inf (2 * (S * 2 ^ 9 - T / 2 ^ (d - 9) - ft_tt (T % 2 ^ (d - 9))) + ft_tt (T % 2 ^ (d - 9))) ((K : Int) + d - 9 - 1) = fr_Z p inf (S * 2 ^ d - T) (K : Int) := by
  have hS := ft_big (d := d) hp hn
  have hx := Nat.two_pow_pos (d - 9)
  have ht := Nat.mod_lt T hx
  have eT := Nat.div_add_mod T (2 ^ (d - 9))
  have hq : T / 2 ^ (d - 9) ≤ T := Nat.div_le_self _ _
  have e9 : S * 2 ^ d = S * 2 ^ 9 * 2 ^ (d - 9) := by rw [ft_pw (show 9 ≤ d by omega), ← Nat.mul_assoc]
  refine ⟨by omega, ?_⟩
  rw [e9]
  obtain ⟨G, hG⟩ : ∃ G, G = S * 2 ^ 9 := ⟨_, rfl⟩
  rw [← hG] at hS ⊢
  clear hG e9
  have hk : (K : Int) + d - 9 - ((d - 9 : Nat) : Int) = K := by omega
  generalize hDe : 2 ^ (d - 9) = D at *
  generalize T / D = q at *
  generalize T % D = t at *
  have hqD : (q + 1) * D ≤ G * D := Nat.mul_le_mul_right _ (by omega)
  rw [Nat.add_mul, Nat.one_mul] at hqD
  rw [Nat.mul_comm D q] at eT
  by_cases z : t = 0
  · have hτ : ft_tt t = 0 := ft_tt_0.mpr z
    have c := ft_cg2 (p := p) (inf := inf) (k := (K : Int) + d - 9) (x := G - q) (t := 0) hDe (by omega) hx (by omega)
    rw [ft_tt_0.mpr rfl, hk] at c
    rw [hτ, Nat.sub_zero, c, Nat.sub_mul]
    congr 1
    omega
  · have hτ : ft_tt t = 1 := by
      unfold ft_tt
      rw [if_neg z]
    have hτ2 : ft_tt (D - t) = 1 := by
      unfold ft_tt
      rw [if_neg (by omega)]
    have c := ft_cg2 (p := p) (inf := inf) (k := (K : Int) + d - 9) (x := G - q - 1) (t := D - t) hDe (by omega) (by omega) (by omega)
    rw [hτ2, hk] at c
    rw [hτ, c, Nat.sub_mul, Nat.sub_mul, Nat.one_mul]
    congr 1
    omega
