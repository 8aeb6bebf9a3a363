/-! The parts of a number's BITS, in whole numbers -/
theorem ft_mid (n b e : Nat) : n &&& ((2 ^ e - 1) * 2 ^ b) = n / 2 ^ b % 2 ^ e * 2 ^ b := by
  apply Nat.eq_of_testBit_eq
  intro i
  rw [Nat.testBit_and, Nat.testBit_mul_two_pow, Nat.testBit_mul_two_pow, Nat.testBit_two_pow_sub_one, Nat.testBit_mod_two_pow, Nat.testBit_div_two_pow]
  by_cases h : b ≤ i
  · rw [show i - b + b = i by omega]
    cases n.testBit i <;> simp [h]
  · simp [h]
theorem ft_bit (n w : Nat) : n &&& 2 ^ w = n / 2 ^ w % 2 * 2 ^ w := by
  have h := ft_mid n w 1
  rw [show (2 ^ 1 - 1) * 2 ^ w = 2 ^ w by rw [Nat.pow_one]; omega, Nat.pow_one] at h
  exact h
/-- the significand and, counted from the least, the exponent of a magnitude m with p places -/
def ft_sig (p m : Nat) : Nat := if m / 2 ^ (p - 1) = 0 then m else m % 2 ^ (p - 1) + 2 ^ (p - 1)
def ft_exp (p m : Nat) : Nat := max (m / 2 ^ (p - 1)) 1 - 1
theorem ft_sig_lt {p m : Nat} (hp : 1 ≤ p) : ft_sig p m < 2 ^ p := by
  have hX : 2 ^ p = 2 * 2 ^ (p - 1) := by
    rw [← Nat.pow_succ', show (p - 1).succ = p by omega]
  have hX0 := Nat.two_pow_pos (p - 1)
  unfold ft_sig
  rw [hX]
  generalize 2 ^ (p - 1) = X at *
  by_cases c : m / X = 0
  · rw [if_pos c]
    rcases (Nat.div_eq_zero_iff).mp c with z | z <;> omega
  · rw [if_neg c]
    have := Nat.mod_lt m hX0
    omega
theorem ft_sig_norm {p m : Nat} (h : 1 ≤ ft_exp p m) : 2 ^ (p - 1) ≤ ft_sig p m := by
  unfold ft_exp at h
  unfold ft_sig
  rw [if_neg (by omega)]
  omega
theorem ft_sig_zero {p m : Nat} : ft_sig p m = 0 ↔ m = 0 := by
  have hX0 := Nat.two_pow_pos (p - 1)
  unfold ft_sig
  by_cases c : m / 2 ^ (p - 1) = 0
  · rw [if_pos c]
  · rw [if_neg c]
    constructor
    · intro h
      omega
    · intro h
      subst h
      exact absurd (Nat.zero_div _) c
/-- a magnitude that isn't less has an exponent that isn't less; and its number isn't less -/
theorem ft_mono {p a b : Nat} (h : b ≤ a) : ft_exp p b ≤ ft_exp p a ∧ ft_sig p b ≤ ft_sig p a * 2 ^ (ft_exp p a - ft_exp p b) := by
  have hX0 := Nat.two_pow_pos (p - 1)
  unfold ft_sig ft_exp
  generalize 2 ^ (p - 1) = X at *
  have hq : b / X ≤ a / X := Nat.div_le_div_right h
  have da := Nat.div_add_mod a X
  have db := Nat.div_add_mod b X
  have ma := Nat.mod_lt a hX0
  have mb := Nat.mod_lt b hX0
  generalize a / X = qa at *
  generalize b / X = qb at *
  generalize a % X = ra at *
  generalize b % X = rb at *
  refine ⟨by omega, ?_⟩
  by_cases c : max qb 1 - 1 = max qa 1 - 1
  · rw [c, Nat.sub_self, Nat.pow_zero, Nat.mul_one]
    by_cases za : qa = 0
    · have zb : qb = 0 := by omega
      rw [if_pos za, if_pos zb]
      exact h
    · rw [if_neg za]
      by_cases zb : qb = 0
      · rw [if_pos zb]
        subst zb
        rw [Nat.mul_zero] at db
        omega
      · rw [if_neg zb]
        have e : qb = qa := by omega
        subst e
        omega
  · have za : ¬ qa = 0 := by omega
    rw [if_neg za]
    have n2 : (if qb = 0 then b else rb + X) < 2 * X := by
      by_cases zb : qb = 0
      · rw [if_pos zb]
        subst zb
        rw [Nat.mul_zero] at db
        omega
      · rw [if_neg zb]
        omega
    have n3 : 2 ^ 1 ≤ 2 ^ (max qa 1 - 1 - (max qb 1 - 1)) := Nat.pow_le_pow_right (by decide) (by omega)
    have n4 := Nat.mul_le_mul (show X ≤ ra + X by omega) n3
    omega
