/-! ROUNDING, in whole numbers: the value n / 2^b, told in units of the least magnitude of a form of p places, to the nearest number of that form, of two the even one, as its BITS without a sign (inf: the BITS of the infinite) -/
def fr_sz (n : Nat) : Nat := if n = 0 then 0 else n.log2 + 1
theorem fr_sz_0 : fr_sz 0 = 0 := if_pos rfl
theorem fr_sz_eq {n w : Nat} (h1 : 2 ^ w ≤ n) (h2 : n < 2 ^ (w + 1)) : fr_sz n = w + 1 := by
  have h0 : n ≠ 0 := by
    have := Nat.two_pow_pos w
    omega
  unfold fr_sz
  rw [if_neg h0, (Nat.log2_eq_iff h0).mpr ⟨h1, h2⟩]
theorem fr_sz_of {n : Nat} (h : n ≠ 0) : ∃ w, fr_sz n = w + 1 ∧ 2 ^ w ≤ n ∧ n < 2 ^ (w + 1) :=
  ⟨n.log2, by unfold fr_sz; rw [if_neg h], Nat.log2_self_le h, Nat.lt_log2_self⟩
theorem fr_sz_mul {n : Nat} (h : n ≠ 0) (j : Nat) : fr_sz (n * 2 ^ j) = fr_sz n + j := by
  obtain ⟨w, e, h1, h2⟩ := fr_sz_of h
  rw [e]
  have z : fr_sz (n * 2 ^ j) = (w + j) + 1 := fr_sz_eq (by rw [Nat.pow_add]; exact Nat.mul_le_mul_right _ h1) (by
    rw [show w + j + 1 = (w + 1) + j by omega, Nat.pow_add]
    exact Nat.mul_lt_mul_of_pos_right h2 (Nat.two_pow_pos j))
  omega
/-- one more, or none: n / 2^s to the nearest, of two the even -/
def fr_up (n s : Nat) : Nat := if 2 ^ s < 2 * (n % 2 ^ s) ∨ (2 * (n % 2 ^ s) = 2 ^ s ∧ (n / 2 ^ s) % 2 = 1) then 1 else 0
def fr_dv (n s : Nat) : Nat := n / 2 ^ s + fr_up n s
theorem fr_dv_0 (n : Nat) : fr_dv n 0 = n := by
  unfold fr_dv fr_up
  rw [if_neg (by omega)]
  omega
theorem fr_dv_zero (s : Nat) : fr_dv 0 s = 0 := by
  have := Nat.two_pow_pos s
  unfold fr_dv fr_up
  rw [Nat.zero_div, Nat.zero_mod, if_neg (by omega)]
theorem fr_dv_mul (n s j : Nat) : fr_dv (n * 2 ^ j) (s + j) = fr_dv n s := by
  have hp := Nat.two_pow_pos j
  have e1 : n * 2 ^ j / 2 ^ (s + j) = n / 2 ^ s := by rw [Nat.pow_add, Nat.mul_div_mul_right _ _ hp]
  have e2 : n * 2 ^ j % 2 ^ (s + j) = n % 2 ^ s * 2 ^ j := by rw [Nat.pow_add, Nat.mul_mod_mul_right]
  have c1 : (2 ^ (s + j) < 2 * (n % 2 ^ s * 2 ^ j)) ↔ (2 ^ s < 2 * (n % 2 ^ s)) := by
    rw [Nat.pow_add, ← Nat.mul_assoc]
    exact Nat.mul_lt_mul_right hp
  have c2 : (2 * (n % 2 ^ s * 2 ^ j) = 2 ^ (s + j)) ↔ (2 * (n % 2 ^ s) = 2 ^ s) := by
    rw [Nat.pow_add, ← Nat.mul_assoc]
    exact Nat.mul_left_inj (Nat.ne_of_gt hp)
  unfold fr_dv fr_up
  rw [e1, e2]
  simp only [c1, c2]
theorem fr_cmp {D h r t : Nat} (ht : t < D) : (2 * h * D < 2 * (t + D * r) ↔ (h < r ∨ (h = r ∧ t ≠ 0))) ∧ (2 * (t + D * r) = 2 * h * D ↔ (h = r ∧ t = 0)) := by
  have e : 2 * h * D = 2 * (D * h) := by rw [Nat.mul_assoc, Nat.mul_comm h D]
  rw [e]
  rcases Nat.lt_trichotomy h r with q | q | q
  · have a : D * (h + 1) ≤ D * r := Nat.mul_le_mul_left _ q
    rw [Nat.mul_succ] at a
    constructor <;> constructor <;> intro z <;> omega
  · subst q
    constructor <;> constructor <;> intro z <;> omega
  · have a : D * (r + 1) ≤ D * h := Nat.mul_le_mul_left _ q
    rw [Nat.mul_succ] at a
    constructor <;> constructor <;> intro z <;> omega
theorem fr_dv_cong {n m d s : Nat} (h1 : n / 2 ^ d = m / 2 ^ d) (h2 : n % 2 ^ d = 0 ↔ m % 2 ^ d = 0) (hs : d < s) : fr_dv n s = fr_dv m s := by
  obtain ⟨k, rfl⟩ : ∃ k, s = d + (k + 1) := ⟨s - d - 1, by omega⟩
  have hD := Nat.two_pow_pos d
  have e : 2 ^ (d + (k + 1)) = 2 ^ d * (2 * 2 ^ k) := by rw [Nat.pow_add, Nat.pow_succ, Nat.mul_comm (2 ^ k) 2]
  have e' : 2 ^ (d + (k + 1)) = 2 * 2 ^ k * 2 ^ d := by rw [e, Nat.mul_comm]
  have q1 : ∀ x : Nat, x / 2 ^ (d + (k + 1)) = x / 2 ^ d / (2 * 2 ^ k) := fun x => by rw [e, Nat.div_div_eq_div_mul]
  have q2 : ∀ x : Nat, x % 2 ^ (d + (k + 1)) = x % 2 ^ d + 2 ^ d * (x / 2 ^ d % (2 * 2 ^ k)) := fun x => by rw [e, Nat.mod_mul]
  have c : ∀ x : Nat, fr_up x (d + (k + 1)) = if (2 ^ k < x / 2 ^ d % (2 * 2 ^ k) ∨ (2 ^ k = x / 2 ^ d % (2 * 2 ^ k) ∧ x % 2 ^ d ≠ 0)) ∨ ((2 ^ k = x / 2 ^ d % (2 * 2 ^ k) ∧ x % 2 ^ d = 0) ∧ (x / 2 ^ d / (2 * 2 ^ k)) % 2 = 1) then 1 else 0 := fun x => by
    have f := fr_cmp (h := 2 ^ k) (r := x / 2 ^ d % (2 * 2 ^ k)) (Nat.mod_lt x hD)
    unfold fr_up
    rw [q2 x, q1 x, e']
    simp only [f.1, f.2]
  unfold fr_dv
  rw [c n, c m, q1 n, q1 m, h1]
  simp only [ne_eq, h2]
def fr_R (p inf n b : Nat) : Nat := min inf (fr_dv n (max (fr_sz n - p) b) + (max (fr_sz n - p) b - b) * 2 ^ (p - 1))
theorem fr_R_zero (p inf b : Nat) : fr_R p inf 0 b = 0 := by
  unfold fr_R
  rw [fr_sz_0, fr_dv_zero, show max (0 - p) b = b by omega, Nat.sub_self, Nat.zero_mul]
  omega
theorem fr_R_mul (p inf n b j : Nat) : fr_R p inf (n * 2 ^ j) (b + j) = fr_R p inf n b := by
  by_cases h : n = 0
  · subst h
    rw [Nat.zero_mul, fr_R_zero, fr_R_zero]
  · unfold fr_R
    rw [fr_sz_mul h, show max (fr_sz n + j - p) (b + j) = max (fr_sz n - p) b + j by omega, fr_dv_mul, Nat.add_sub_add_right]
theorem fr_R_cong {p inf n m d b : Nat} (h1 : n / 2 ^ d = m / 2 ^ d) (h2 : n % 2 ^ d = 0 ↔ m % 2 ^ d = 0) (h3 : 2 ^ p ≤ n / 2 ^ d) : fr_R p inf n b = fr_R p inf m b := by
  have hp := Nat.two_pow_pos p
  have hd := Nat.two_pow_pos d
  have hQ : n / 2 ^ d ≠ 0 := by omega
  obtain ⟨w, ew, w1, w2⟩ := fr_sz_of hQ
  have hw : p < w + 1 := (Nat.pow_lt_pow_iff_right (by omega)).mp (Nat.lt_of_le_of_lt h3 w2)
  have sz : ∀ x : Nat, x / 2 ^ d = n / 2 ^ d → fr_sz x = w + d + 1 := fun x hx => by
    apply fr_sz_eq
    · rw [Nat.pow_add]
      exact (Nat.le_div_iff_mul_le hd).mp (by rw [hx]; exact w1)
    · rw [show w + d + 1 = (w + 1) + d by omega, Nat.pow_add]
      exact (Nat.div_lt_iff_lt_mul hd).mp (by rw [hx]; exact w2)
  unfold fr_R
  rw [sz n rfl, sz m h1.symm, fr_dv_cong h1 h2 (s := max (w + d + 1 - p) b) (by omega)]
/-- the same of n * 2^k, k in units of the least exponent -/
def fr_Z (p inf n : Nat) (k : Int) : Nat := if 0 ≤ k then fr_R p inf (n * 2 ^ k.toNat) 0 else fr_R p inf n (-k).toNat
theorem fr_Z_zero (p inf : Nat) (k : Int) : fr_Z p inf 0 k = 0 := by
  unfold fr_Z
  rw [Nat.zero_mul, fr_R_zero, fr_R_zero]
  split <;> rfl
theorem fr_Z_mul (p inf n j : Nat) (k : Int) : fr_Z p inf (n * 2 ^ j) (k - (j : Int)) = fr_Z p inf n k := by
  unfold fr_Z
  by_cases h1 : 0 ≤ k - (j : Int)
  · rw [if_pos h1, if_pos (by omega), Nat.mul_assoc, ← Nat.pow_add, show j + (k - (j : Int)).toNat = k.toNat by omega]
  · rw [if_neg h1]
    by_cases h2 : 0 ≤ k
    · rw [if_pos h2]
      have e : n * 2 ^ j = n * 2 ^ k.toNat * 2 ^ (-(k - (j : Int))).toNat := by
        rw [Nat.mul_assoc, ← Nat.pow_add, show k.toNat + (-(k - (j : Int))).toNat = j by omega]
      have f := fr_R_mul p inf (n * 2 ^ k.toNat) 0 (-(k - (j : Int))).toNat
      rw [Nat.zero_add] at f
      rw [e, f]
    · rw [if_neg h2, show (-(k - (j : Int))).toNat = (-k).toNat + j by omega, fr_R_mul]
theorem fr_Z_to (p inf : Nat) {n m j : Nat} {k k2 : Int} (hm : m = n * 2 ^ j) (hk : k2 = k - (j : Int)) : fr_Z p inf m k2 = fr_Z p inf n k := by
  rw [hm, hk, fr_Z_mul]
theorem fr_Z_cong {p inf n m d : Nat} {k : Int} (h1 : n / 2 ^ d = m / 2 ^ d) (h2 : n % 2 ^ d = 0 ↔ m % 2 ^ d = 0) (h3 : 2 ^ p ≤ n / 2 ^ d) : fr_Z p inf n k = fr_Z p inf m k := by
  unfold fr_Z
  by_cases h : 0 ≤ k
  · rw [if_pos h, if_pos h]
    have hj := Nat.two_pow_pos k.toNat
    refine fr_R_cong (d := d + k.toNat) ?_ ?_ ?_
    · rw [Nat.pow_add, Nat.mul_div_mul_right _ _ hj, Nat.mul_div_mul_right _ _ hj, h1]
    · rw [Nat.pow_add, Nat.mul_mod_mul_right, Nat.mul_mod_mul_right]
      constructor
      · intro z
        rcases Nat.mul_eq_zero.mp z with z | z
        · rw [h2.mp z, Nat.zero_mul]
        · omega
      · intro z
        rcases Nat.mul_eq_zero.mp z with z | z
        · rw [h2.mpr z, Nat.zero_mul]
        · omega
    · rw [Nat.pow_add, Nat.mul_div_mul_right _ _ hj]
      exact h3
  · rw [if_neg h, if_neg h]
    exact fr_R_cong h1 h2 h3
/-- told by a shift s that isn't below 0 -/
theorem fr_Z_eq {p inf n w : Nat} {k s : Int} (h1 : 2 ^ w ≤ n) (h2 : n < 2 ^ (w + 1)) (hs : s = max ((w : Int) + 1 - p) (-k)) (h0 : 0 ≤ s) : fr_Z p inf n k = min inf (fr_dv n s.toNat + (s + k).toNat * 2 ^ (p - 1)) := by
  have hn : n ≠ 0 := by
    have := Nat.two_pow_pos w
    omega
  have ez := fr_sz_eq h1 h2
  unfold fr_Z
  by_cases h : 0 ≤ k
  · rw [if_pos h]
    unfold fr_R
    rw [fr_sz_mul hn, ez, show max (w + 1 + k.toNat - p) 0 = s.toNat + k.toNat by omega, fr_dv_mul, show s.toNat + k.toNat - 0 = (s + k).toNat by omega]
  · rw [if_neg h]
    unfold fr_R
    rw [ez, show max (w + 1 - p) (-k).toNat = s.toNat by omega, show s.toNat - (-k).toNat = (s + k).toNat by omega]
theorem fr_Z_eq2 {p inf n w : Nat} {k s : Int} (h1 : 2 ^ w ≤ n) (h2 : n < 2 ^ (w + 1)) (hs : s = max ((w : Int) + 1 - p) (-k)) (h0 : s ≤ 0) : fr_Z p inf n k = min inf (n * 2 ^ (-s).toNat + (s + k).toNat * 2 ^ (p - 1)) := by
  have hn : n ≠ 0 := by
    have := Nat.two_pow_pos w
    omega
  have ez := fr_sz_eq h1 h2
  have hk : 0 ≤ k := by omega
  unfold fr_Z
  rw [if_pos hk]
  unfold fr_R
  have e : n * 2 ^ k.toNat = n * 2 ^ (-s).toNat * 2 ^ (s + k).toNat := by
    rw [Nat.mul_assoc, ← Nat.pow_add, show (-s).toNat + (s + k).toNat = k.toNat by omega]
  have f := fr_dv_mul (n * 2 ^ (-s).toNat) 0 (s + k).toNat
  rw [Nat.zero_add, fr_dv_0] at f
  rw [fr_sz_mul hn, ez, show max (w + 1 + k.toNat - p) 0 = (s + k).toNat by omega, e, f, Nat.sub_zero]
/-- what is cut off, told by a last bit -/
theorem fr_or {q t : Nat} (ht : t < 2) : q ||| t = if q % 2 = 0 then q + t else q := by
  have e : ∀ r : Nat, (2 * r) ||| 1 = 2 * r + 1 := fun r => by
    have h := Nat.two_pow_add_eq_or_of_lt (i := 1) (b := 1) (by decide) r
    rw [Nat.pow_one] at h
    exact h.symm
  rcases (show t = 0 ∨ t = 1 by omega) with rfl | rfl
  · rw [Nat.or_zero]
    split <;> rfl
  · rcases (show q % 2 = 0 ∨ q % 2 = 1 by omega) with z | z
    · rw [if_pos z]
      obtain ⟨r, rfl⟩ : ∃ r, q = 2 * r := ⟨q / 2, by omega⟩
      exact e r
    · rw [if_neg (by omega)]
      obtain ⟨r, rfl⟩ : ∃ r, q = 2 * r + 1 := ⟨q / 2, by omega⟩
      rw [← e r, Nat.or_assoc, show (1 ||| 1 : Nat) = 1 from rfl]
theorem fr_Z_or {p inf q t : Nat} {k : Int} (ht : t < 2) (hq : 2 ^ (p + 1) ≤ q) : fr_Z p inf (q ||| t) k = fr_Z p inf (2 * q + t) (k - 1) := by
  have e := fr_Z_mul p inf (q ||| t) 1 k
  rw [← e, Nat.pow_one, fr_or ht]
  have hpw : 2 ^ (p + 1) = 2 * 2 ^ p := by rw [Nat.pow_succ, Nat.mul_comm]
  refine fr_Z_cong (d := 2) ?_ ?_ ?_
  · split <;> omega
  · split <;> omega
  · split <;> omega
