/-! Products, quotients, rests -/
theorem ft_stZ {p inf P j : Nat} {k : Int} (hj : 1 ≤ j) (hQ : 2 ^ (p + 1) ≤ P / 2 ^ j) : fr_Z p inf (ft_st P j) k = fr_Z p inf P (k - (j : Int)) := by
  have hx := Nat.two_pow_pos j
  have e := Nat.div_add_mod P (2 ^ j)
  rw [Nat.mul_comm] at e
  have hpw : 2 ^ (p + 1) = 2 * 2 ^ p := by rw [Nat.pow_succ, Nat.mul_comm]
  unfold ft_st
  rw [fr_Z_or (ft_tt_lt _) hQ, ft_cg2 (j := j) rfl hj (Nat.mod_lt P hx) (by omega), e]
theorem ft_moreZ {p inf P j : Nat} {k : Int} (hj : 1 ≤ j) (hQ : 2 ^ p ≤ P / 2 ^ j) : fr_Z p inf (2 * (P / 2 ^ j) + ft_tt (P % 2 ^ j)) (k - 1) = fr_Z p inf P (k - (j : Int)) := by
  have e := Nat.div_add_mod P (2 ^ j)
  rw [Nat.mul_comm] at e
  rw [ft_cg2 (j := j) rfl hj (Nat.mod_lt P (Nat.two_pow_pos j)) hQ, e]
/-- a product by halves of 27 bits -/
theorem pr_ab (u l v k : Nat) : (u * 134217728 + l) * (v * 134217728 + k) = u * v * 18014398509481984 + (u * k + l * v) * 134217728 + l * k := by
  rw [Nat.add_mul, Nat.mul_add, Nat.mul_add, Nat.mul_mul_mul_comm, ← Nat.mul_assoc l v, Nat.mul_right_comm u 134217728 k]
  generalize u * v = X
  generalize u * k = Y
  generalize l * v = Z
  generalize l * k = V
  omega
theorem pr_lt {a b m n : Nat} (ha : a < m) (hb : b < n) : a * b ≤ (m - 1) * (n - 1) := Nat.mul_le_mul (by omega) (by omega)
theorem pr_C {a b : Nat} (ha : a < 9007199254740992) (hb : b < 9007199254740992) {X Y Z V mid : Nat} (hX : X = a / 134217728 * (b / 134217728)) (hY : Y = a / 134217728 * (b % 134217728)) (hZ : Z = a % 134217728 * (b / 134217728)) (hV : V = a % 134217728 * (b % 134217728)) (hm : mid = Y + Z + V / 134217728) :
    (X + mid / 134217728) * 18014398509481984 + (mid % 134217728 * 134217728 + V % 134217728) = a * b ∧ X < 4503599627370496 ∧ V < 18014398509481984 ∧ mid < 36028797018963968 := by
  have e := pr_ab (a / 134217728) (a % 134217728) (b / 134217728) (b % 134217728)
  rw [← hX, ← hY, ← hZ, ← hV, show a / 134217728 * 134217728 + a % 134217728 = a by omega, show b / 134217728 * 134217728 + b % 134217728 = b by omega] at e
  have uA : a / 134217728 < 67108864 := by omega
  have uB : b / 134217728 < 67108864 := by omega
  have lA : a % 134217728 < 134217728 := by omega
  have lB : b % 134217728 < 134217728 := by omega
  have b1 := pr_lt uA uB
  have b2 := pr_lt uA lB
  have b3 := pr_lt lA uB
  have b4 := pr_lt lA lB
  rw [← hX] at b1
  rw [← hY] at b2
  rw [← hZ] at b3
  rw [← hV] at b4
  rw [e]
  omega
/-- the reference's sum of the same four -/
theorem pr_T {a b : Nat} (ha : a < 9007199254740992) (hb : b < 9007199254740992) {X Y Z V low : Nat} (hX : X = a / 134217728 * (b / 134217728)) (hY : Y = a / 134217728 * (b % 134217728)) (hZ : Z = a % 134217728 * (b / 134217728)) (hV : V = a % 134217728 * (b % 134217728)) (hm : low = V + (Y + Z) % 134217728 * 134217728) :
    (X + (Y + Z) / 134217728 + low / 18014398509481984) * 18014398509481984 + low % 18014398509481984 = a * b ∧ X < 4503599627370496 ∧ Y + Z < 36028797018963968 ∧ low < 36028797018963968 ∧ X + (Y + Z) / 134217728 + low / 18014398509481984 < 4503599627370496 := by
  have e := pr_ab (a / 134217728) (a % 134217728) (b / 134217728) (b % 134217728)
  rw [← hX, ← hY, ← hZ, ← hV, show a / 134217728 * 134217728 + a % 134217728 = a by omega, show b / 134217728 * 134217728 + b % 134217728 = b by omega] at e
  have uA : a / 134217728 < 67108864 := by omega
  have uB : b / 134217728 < 67108864 := by omega
  have lA : a % 134217728 < 134217728 := by omega
  have lB : b % 134217728 < 134217728 := by omega
  have b1 := pr_lt uA uB
  have b2 := pr_lt uA lB
  have b3 := pr_lt lA uB
  have b4 := pr_lt lA lB
  have b5 := pr_lt ha hb
  rw [← hX] at b1
  rw [← hY] at b2
  rw [← hZ] at b3
  rw [← hV] at b4
  rw [e] at b5 ⊢
  omega
/-- a quotient by steps -/
theorem dv_step {x y q r c : Nat} (hy : 0 < y) (hq : x / y = q) (hr : x % y = r) : x * c / y = q * c + r * c / y ∧ x * c % y = r * c % y := by
  have e : x * c = y * (q * c) + r * c := by
    rw [← Nat.mul_assoc, ← Nat.add_mul, ← hq, ← hr, Nat.div_add_mod]
  rw [e]
  exact ⟨Nat.mul_add_div hy _ _, Nat.mul_add_mod _ _ _⟩
theorem dv_lt {r y c : Nat} (h : r < y) (hc : 0 < c) : r * c / y < c := by
  rw [Nat.div_lt_iff_lt_mul (by omega), Nat.mul_comm c y]
  exact Nat.mul_lt_mul_of_pos_right h hc
/-- one bit of it -/
theorem dv_bit {x y q r : Nat} (hy : 0 < y) (hq : x / y = q) (hr : x % y = r) : x * 2 / y = (if 2 * r < y then 2 * q else 2 * q + 1) ∧ x * 2 % y = (if 2 * r < y then 2 * r else 2 * r - y) := by
  obtain ⟨h1, h2⟩ := dv_step (c := 2) hy hq hr
  have hl : r < y := by rw [← hr]; exact Nat.mod_lt _ hy
  rw [h1, h2, Nat.mul_comm r 2, Nat.mul_comm q 2]
  by_cases c : 2 * r < y
  · rw [if_pos c, if_pos c, Nat.div_eq_of_lt c, Nat.mod_eq_of_lt c]
    exact ⟨rfl, rfl⟩
  · rw [if_neg c, if_neg c]
    have e : 2 * r = y * 1 + (2 * r - y) := by omega
    constructor
    · rw [e, Nat.mul_add_div hy, Nat.div_eq_of_lt (by omega)]
    · rw [Nat.mod_eq_sub_mod (by omega), Nat.mod_eq_of_lt (by omega)]
