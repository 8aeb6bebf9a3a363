/-! The two ways to round, in whole numbers: the class's (from a significand of 63 places), the reference's (with a flag for what was cut off) -/
theorem fr_dv_le {n w s : Nat} (h : n < 2 ^ w) (hs : s ≤ w) : fr_dv n s ≤ 2 ^ (w - s) := by
  have h1 : n / 2 ^ s < 2 ^ (w - s) := by
    rw [Nat.div_lt_iff_lt_mul (Nat.two_pow_pos s), ← Nat.pow_add, show w - s + s = w by omega]
    exact h
  have h2 : fr_up n s ≤ 1 := by
    unfold fr_up
    split <;> omega
  unfold fr_dv
  omega
theorem fr_dv_ge {n w s : Nat} (h : 2 ^ w ≤ n) (hs : s ≤ w) : 2 ^ (w - s) ≤ fr_dv n s := by
  have h1 : 2 ^ (w - s) ≤ n / 2 ^ s := by
    rw [Nat.le_div_iff_mul_le (Nat.two_pow_pos s), ← Nat.pow_add, show w - s + s = w by omega]
    exact h
  unfold fr_dv
  omega
theorem fr_dv_far {n w s : Nat} (h : n < 2 ^ w) (hs : w < s) : fr_dv n s = 0 := by
  have h1 : 2 ^ (w + 1) ≤ 2 ^ s := Nat.pow_le_pow_right (by decide) hs
  rw [Nat.pow_succ] at h1
  have h2 : n / 2 ^ s = 0 := Nat.div_eq_of_lt (by omega)
  have h3 : n % 2 ^ s = n := Nat.mod_eq_of_lt (by omega)
  unfold fr_dv fr_up
  rw [h2, h3, if_neg (by omega)]
/-- the class's way: ex its exponent, dr how many bits it drops -/
theorem fr_C {p top n w : Nat} {k ex dr : Int} (hp : 2 ≤ p) (hp2 : p ≤ 53) (ht : 1 ≤ top) (hw : w ≤ 62) (h1 : 2 ^ w ≤ n) (h2 : n < 2 ^ (w + 1)) (hx : ex = k - (62 - (w : Int)) + 64 - p) (hd : dr = 63 - p + max (1 - ex) 0) :
    fr_Z p (top * 2 ^ (p - 1)) n k = if (top : Int) ≤ ex then top * 2 ^ (p - 1) else if 63 < dr then 0 else (max (ex - 1) 0).toNat * 2 ^ (p - 1) + fr_dv (n * 2 ^ (62 - w)) dr.toNat := by
  have e1 : 2 ^ 62 ≤ n * 2 ^ (62 - w) := by
    have z := Nat.mul_le_mul_right (2 ^ (62 - w)) h1
    rw [← Nat.pow_add, show w + (62 - w) = 62 by omega] at z
    exact z
  have e2 : n * 2 ^ (62 - w) < 2 ^ (62 + 1) := by
    have z := Nat.mul_lt_mul_of_pos_right h2 (Nat.two_pow_pos (62 - w))
    rw [← Nat.pow_add, show w + 1 + (62 - w) = 62 + 1 by omega] at z
    exact z
  rw [← fr_Z_mul p (top * 2 ^ (p - 1)) n (62 - w) k]
  generalize n * 2 ^ (62 - w) = M at e1 e2
  have hJ : k - ((62 - w : Nat) : Int) = ex - 64 + p := by omega
  rw [hJ, fr_Z_eq (s := dr) e1 e2 (by omega) (by omega)]
  have hX : 2 ^ p = 2 * 2 ^ (p - 1) := by
    rw [← Nat.pow_succ', show (p - 1).succ = p by omega]
  have hX0 := Nat.two_pow_pos (p - 1)
  generalize hXe : 2 ^ (p - 1) = X at hX hX0
  by_cases c1 : (top : Int) ≤ ex
  · rw [if_pos c1]
    have a1 : X ≤ fr_dv M dr.toNat := by
      have z := fr_dv_ge (s := dr.toNat) e1 (by omega)
      rw [show 62 - dr.toNat = p - 1 by omega, hXe] at z
      exact z
    have a2 : top ≤ (dr + (ex - 64 + p)).toNat + 1 := by omega
    have a3 := Nat.mul_le_mul_right X a2
    rw [Nat.add_mul, Nat.one_mul] at a3
    omega
  · rw [if_neg c1]
    by_cases c2 : 63 < dr
    · rw [if_pos c2, fr_dv_far (w := 62 + 1) e2 (by omega), show (dr + (ex - 64 + p)).toNat = 0 by omega]
      omega
    · rw [if_neg c2]
      have b1 := fr_dv_le (s := dr.toNat) e2 (by omega)
      rw [show (dr + (ex - 64 + (p : Int))).toNat = (max (ex - 1) 0).toNat by omega]
      have b3 : fr_dv M dr.toNat + (max (ex - 1) 0).toNat * X ≤ top * X := by
        by_cases c3 : 1 ≤ ex
        · rw [show 62 + 1 - dr.toNat = p by omega, hX] at b1
          have a2 : (max (ex - 1) 0).toNat + 2 ≤ top := by omega
          have a3 := Nat.mul_le_mul_right X a2
          rw [Nat.add_mul] at a3
          omega
        · have b2 : 2 ^ (62 + 1 - dr.toNat) ≤ 2 ^ (p - 1) := Nat.pow_le_pow_right (by decide) (by omega)
          rw [hXe] at b2
          have a3 := Nat.mul_le_mul_right X ht
          rw [Nat.one_mul] at a3
          rw [show (max (ex - 1) 0).toNat = 0 by omega, Nat.zero_mul]
          omega
      omega
/-- one more or not, by a flag for what was cut off -/
def fr_upm (n s more : Nat) : Nat := if 2 ^ s < 2 * (n % 2 ^ s) ∨ (2 * (n % 2 ^ s) = 2 ^ s ∧ (more = 1 ∨ (n / 2 ^ s) % 2 = 1)) then 1 else 0
theorem fr_dv_more {n s more : Nat} (hm : more < 2) (hs : 1 ≤ s) : fr_dv (2 * n + more) (s + 1) = n / 2 ^ s + fr_upm n s more := by
  obtain ⟨k, rfl⟩ : ∃ k, s = k + 1 := ⟨s - 1, by omega⟩
  have hX : 2 ^ (k + 1) = 2 * 2 ^ k := by rw [Nat.pow_succ, Nat.mul_comm]
  have hX2 : 2 ^ (k + 1 + 1) = 2 * (2 * 2 ^ k) := by rw [Nat.pow_succ, Nat.mul_comm, hX]
  have q1 : (2 * n + more) / 2 ^ (k + 1 + 1) = n / 2 ^ (k + 1) := by
    rw [hX2, ← Nat.div_div_eq_div_mul, show (2 * n + more) / 2 = n by omega, hX]
  have q2 : (2 * n + more) % 2 ^ (k + 1 + 1) = 2 * (n % 2 ^ (k + 1)) + more := by
    rw [hX2, Nat.mod_mul, show (2 * n + more) / 2 = n by omega, show (2 * n + more) % 2 = more by omega, hX]
    omega
  unfold fr_dv fr_up fr_upm
  rw [q1, q2, hX2, hX]
  generalize n % (2 * 2 ^ k) = r
  generalize n / (2 * 2 ^ k) % 2 = o
  generalize 2 ^ k = h
  congr 1
  by_cases c : 2 * h < 2 * r ∨ (2 * r = 2 * h ∧ (more = 1 ∨ o = 1))
  · rw [if_pos c, if_pos (by omega)]
  · rw [if_neg c, if_neg (by omega)]
theorem fr_dv_lt {n w s : Nat} (h : n < 2 ^ w) (hs : s ≤ w) (more : Nat) : n / 2 ^ s + fr_upm n s more ≤ 2 ^ (w - s) := by
  have h1 : n / 2 ^ s < 2 ^ (w - s) := by
    rw [Nat.div_lt_iff_lt_mul (Nat.two_pow_pos s), ← Nat.pow_add, show w - s + s = w by omega]
    exact h
  have h2 : fr_upm n s more ≤ 1 := by
    unfold fr_upm
    split <;> omega
  omega
/-- the reference's rounded significand -/
def fr_x (n more : Nat) (s : Int) : Nat := if s ≤ 0 then n * 2 ^ (-s).toNat else if 63 < s then 0 else n / 2 ^ s.toNat + fr_upm n s.toNat more
theorem fr_T1 {p inf n w more : Nat} {k s : Int} (hm : more < 2) (hmw : more = 1 → p ≤ w) (hw : w ≤ 62) (h1 : 2 ^ w ≤ n) (h2 : n < 2 ^ (w + 1)) (hs : s = max ((w : Int) + 1 - p) (-k)) :
    fr_Z p inf (2 * n + more) (k - 1) = min inf (fr_x n more s + (s + k).toNat * 2 ^ (p - 1)) := by
  have g1 : 2 ^ (w + 1) ≤ 2 * n + more := by rw [Nat.pow_succ]; omega
  have g2 : 2 * n + more < 2 ^ (w + 1 + 1) := by rw [Nat.pow_succ]; omega
  unfold fr_x
  by_cases c : s ≤ 0
  · rw [if_pos c]
    have h0 : more = 0 := by omega
    subst h0
    have z := fr_Z_mul p inf n 1 k
    rw [Nat.pow_one, Nat.mul_comm n 2] at z
    rw [Nat.add_zero, show k - 1 = k - ((1 : Nat) : Int) by omega, z]
    exact fr_Z_eq2 h1 h2 hs c
  · rw [if_neg c, fr_Z_eq (s := s + 1) g1 g2 (by omega) (by omega), show s + 1 + (k - 1) = s + k by omega, show (s + 1).toNat = s.toNat + 1 by omega, fr_dv_more hm (by omega)]
    by_cases c2 : 63 < s
    · rw [if_pos c2]
      have z := fr_dv_far (n := 2 * n + more) (w := w + 1 + 1) (s := s.toNat + 1) g2 (by omega)
      rw [fr_dv_more hm (by omega)] at z
      rw [z]
    · rw [if_neg c2]
theorem fr_x_le {p n w more : Nat} {k s : Int} (hp : 1 ≤ p) (hw : w ≤ 62) (h1 : 2 ^ w ≤ n) (h2 : n < 2 ^ (w + 1)) (hs : s = max ((w : Int) + 1 - p) (-k)) : fr_x n more s ≤ 2 ^ p ∧ (fr_x n more s < 2 ^ (p - 1) → (s + k).toNat = 0) := by
  unfold fr_x
  by_cases c : s ≤ 0
  · rw [if_pos c]
    constructor
    · have z := Nat.mul_le_mul_right (2 ^ (-s).toNat) (Nat.le_of_lt h2)
      rw [← Nat.pow_add] at z
      exact Nat.le_trans z (Nat.pow_le_pow_right (by decide) (by omega))
    · intro q
      by_cases d : s = -k
      · omega
      · have z := Nat.mul_le_mul_right (2 ^ (-s).toNat) h1
        rw [← Nat.pow_add, show w + (-s).toNat = p - 1 by omega] at z
        omega
  · rw [if_neg c]
    by_cases c2 : 63 < s
    · rw [if_pos c2]
      constructor
      · exact Nat.zero_le _
      · intro q
        by_cases d : s = -k
        · omega
        · omega
    · rw [if_neg c2]
      constructor
      · by_cases d : s.toNat ≤ w + 1
        · exact Nat.le_trans (fr_dv_lt h2 d more) (Nat.pow_le_pow_right (by decide) (by omega))
        · have z1 : 2 ^ (w + 1 + 1) ≤ 2 ^ s.toNat := Nat.pow_le_pow_right (by decide) (by omega)
          have z2 : n / 2 ^ s.toNat = 0 := Nat.div_eq_of_lt (by rw [Nat.pow_succ] at z1; omega)
          have z3 : fr_upm n s.toNat more ≤ 1 := by
            unfold fr_upm
            split <;> omega
          have z4 := Nat.two_pow_pos p
          omega
      · intro q
        by_cases d : s = -k
        · omega
        · have z : 2 ^ (p - 1) ≤ n / 2 ^ s.toNat := by
            rw [Nat.le_div_iff_mul_le (Nat.two_pow_pos _), ← Nat.pow_add, show p - 1 + s.toNat = w by omega]
            exact h1
          omega
/-- the reference's way from there to the BITS -/
def fr_bits (p top x l : Nat) : Nat := if l + 1 < top then (if x / 2 ^ (p - 1) = 0 then x else (l + 1) * 2 ^ (p - 1) + x % 2 ^ (p - 1)) else top * 2 ^ (p - 1)
def fr_end (p top x l : Nat) : Nat := if x / 2 ^ p = 0 then fr_bits p top x l else fr_bits p top (x / 2) (l + 1)
theorem fr_T2 {p top x l : Nat} (hp : 1 ≤ p) (ht : 2 ≤ top) (h1 : x ≤ 2 ^ p) (h2 : x < 2 ^ (p - 1) → l = 0) : min (top * 2 ^ (p - 1)) (x + l * 2 ^ (p - 1)) = fr_end p top x l := by
  have hX : 2 ^ p = 2 * 2 ^ (p - 1) := by
    rw [← Nat.pow_succ', show (p - 1).succ = p by omega]
  have hX0 := Nat.two_pow_pos (p - 1)
  unfold fr_end fr_bits
  rw [hX] at h1 ⊢
  generalize 2 ^ (p - 1) = X at *
  by_cases c : x / (2 * X) = 0
  · rw [if_pos c]
    have c' : x < 2 * X := by
      rcases (Nat.div_eq_zero_iff).mp c with z | z
      · omega
      · exact z
    by_cases d : l + 1 < top
    · rw [if_pos d]
      have a3 := Nat.mul_le_mul_right X (show l + 2 ≤ top by omega)
      rw [Nat.add_mul] at a3
      by_cases f : x / X = 0
      · rw [if_pos f]
        have f' : x < X := by
          rcases (Nat.div_eq_zero_iff).mp f with z | z
          · omega
          · exact z
        rw [h2 f', Nat.zero_mul]
        omega
      · rw [if_neg f]
        have f' : X ≤ x := by
          rcases Nat.lt_or_ge x X with z | z
          · exact absurd (Nat.div_eq_of_lt z) f
          · exact z
        have m1 : x % X = x - X := by
          rw [Nat.mod_eq_sub_mod f', Nat.mod_eq_of_lt (by omega)]
        rw [m1, Nat.add_mul, Nat.one_mul]
        omega
    · rw [if_neg d]
      have f' : X ≤ x := by
        rcases Nat.lt_or_ge x X with z | z
        · have := h2 z
          omega
        · exact z
      have a3 := Nat.mul_le_mul_right X (show top ≤ l + 1 by omega)
      rw [Nat.add_mul, Nat.one_mul] at a3
      omega
  · rw [if_neg c]
    have c' : x = 2 * X := by
      rcases Nat.lt_or_ge x (2 * X) with z | z
      · exact absurd (Nat.div_eq_of_lt z) c
      · omega
    subst c'
    rw [show 2 * X / 2 = X by omega, Nat.div_self hX0, Nat.mod_self, if_neg (show ¬ (1 : Nat) = 0 by decide)]
    by_cases d : l + 1 + 1 < top
    · rw [if_pos d]
      have a3 := Nat.mul_le_mul_right X (show l + 2 ≤ top by omega)
      rw [show l + 1 + 1 = l + 2 by omega, Nat.add_mul] at *
      omega
    · rw [if_neg d]
      have a3 := Nat.mul_le_mul_right X (show top ≤ l + 2 by omega)
      rw [Nat.add_mul] at a3
      omega
