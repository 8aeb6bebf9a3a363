/-! Longs and ints by their numbers. The rows wb_.. began as a family of the kit's laws/BITS.to-paste -/
theorem wb_tb (n : Nat) : (lN n).toBitVec = BitVec.ofNat 64 n := rfl
theorem wb_inj {a b : Int64} (h : a.toBitVec = b.toBitVec) : a = b := Int64.toBitVec_inj.mp h
theorem wb_tn {n : Nat} (h : n < 2 ^ 64) : (lN n).toBitVec.toNat = n := by rw [wb_tb, BitVec.toNat_ofNat, Nat.mod_eq_of_lt h]
theorem wb_of (x : Int64) : ∃ n, n < 2 ^ 64 ∧ x = lN n := ⟨x.toBitVec.toNat, x.toBitVec.isLt, wb_inj (by rw [wb_tb]; simp)⟩
theorem wb_of32 (x : Int32) : ∃ n, n < 2 ^ 32 ∧ x = nI n := ⟨x.toBitVec.toNat, x.toBitVec.isLt, Int32.toBitVec_inj.mp (by show _ = BitVec.ofNat 32 _; simp)⟩
theorem wb_c : ∀ k, k < 64 → ((nI k).toInt64 &&& 63) = lN k := by decide +kernel
theorem wb_cu : ∀ k, k < 64 → ((nI k).toInt64.toUInt64 &&& Int64.toUInt64 63) = UInt64.ofNat k := by decide +kernel
theorem wb_sm : ∀ k, k < 64 → (BitVec.ofNat 64 k).smod 64 = BitVec.ofNat 64 k := by decide +kernel
theorem wb_pw {a b : Nat} (h : a ≤ b) : 2 ^ b = 2 ^ a * 2 ^ (b - a) := by rw [← Nat.pow_add]; congr 1; omega
theorem wb_lt2 {a b : Nat} (h : a < b) : 2 ^ a < 2 ^ b := Nat.pow_lt_pow_right (by decide) h
theorem wb_mod (n : Nat) : lN n = lN (n % 2 ^ 64) := wb_inj (by rw [wb_tb, wb_tb]; apply BitVec.eq_of_toNat_eq; rw [BitVec.toNat_ofNat, BitVec.toNat_ofNat, Nat.mod_mod])
theorem wb_shr {n k : Nat} (hn : n < 2 ^ 64) (hk : k < 64) : ((lN n).toUInt64 >>> ((nI k).toInt64.toUInt64 &&& Int64.toUInt64 63)).toInt64 = lN (n / 2 ^ k) := by
  rw [wb_cu k hk]
  apply wb_inj
  apply BitVec.eq_of_toNat_eq
  show ((lN n).toUInt64 >>> UInt64.ofNat k).toNat = (BitVec.ofNat 64 _).toNat
  have h1 : (UInt64.ofNat k).toNat = k := by
    show (BitVec.ofNat 64 k).toNat = k
    rw [BitVec.toNat_ofNat, Nat.mod_eq_of_lt (by omega)]
  have h2 : (lN n).toUInt64.toNat = n := wb_tn hn
  rw [UInt64.toNat_shiftRight, h1, h2, Nat.mod_eq_of_lt hk, Nat.shiftRight_eq_div_pow, BitVec.toNat_ofNat, Nat.mod_eq_of_lt (Nat.lt_of_le_of_lt (Nat.div_le_self _ _) hn)]
theorem wb_shl (n : Nat) {k : Nat} (hk : k < 64) : lN n <<< ((nI k).toInt64 &&& 63) = lN (n * 2 ^ k) := by
  rw [wb_c k hk]
  apply wb_inj
  rw [Int64.toBitVec_shiftLeft, wb_tb, wb_tb, wb_tb, wb_sm k hk]
  apply BitVec.eq_of_toNat_eq
  rw [BitVec.shiftLeft_eq', BitVec.toNat_shiftLeft, BitVec.toNat_ofNat, BitVec.toNat_ofNat, BitVec.toNat_ofNat, Nat.mod_eq_of_lt (show k < 2 ^ 64 by omega), Nat.shiftLeft_eq, Nat.mul_mod, Nat.mod_mod, ← Nat.mul_mod]
theorem wb_and {a b : Nat} (ha : a < 2 ^ 64) (hb : b < 2 ^ 64) : lN a &&& lN b = lN (a &&& b) := by
  apply wb_inj
  rw [Int64.toBitVec_and, wb_tb, wb_tb, wb_tb]
  apply BitVec.eq_of_toNat_eq
  rw [BitVec.toNat_and, BitVec.toNat_ofNat, BitVec.toNat_ofNat, BitVec.toNat_ofNat, Nat.mod_eq_of_lt ha, Nat.mod_eq_of_lt hb, Nat.mod_eq_of_lt (Nat.and_lt_two_pow _ hb)]
theorem wb_or {a b : Nat} (ha : a < 2 ^ 64) (hb : b < 2 ^ 64) : lN a ||| lN b = lN (a ||| b) := by
  apply wb_inj
  rw [Int64.toBitVec_or, wb_tb, wb_tb, wb_tb]
  apply BitVec.eq_of_toNat_eq
  rw [BitVec.toNat_or, BitVec.toNat_ofNat, BitVec.toNat_ofNat, BitVec.toNat_ofNat, Nat.mod_eq_of_lt ha, Nat.mod_eq_of_lt hb, Nat.mod_eq_of_lt (Nat.or_lt_two_pow ha hb)]
theorem wb_mask {n k : Nat} (hn : n < 2 ^ 64) (hk : k < 64) : lN n &&& lN (2 ^ k - 1) = lN (n % 2 ^ k) := by
  rw [wb_and hn (by have := wb_lt2 hk; omega), Nat.and_two_pow_sub_one_eq_mod]
theorem wb_a1 {n : Nat} (hn : n < 2 ^ 64) : lN n &&& 1 = lN (n % 2) := wb_mask (k := 1) hn (by decide)
theorem wb_bit {n k : Nat} (hn : n < 2 ^ 64) (hk : k < 64) : ((lN n).toUInt64 >>> ((nI k).toInt64.toUInt64 &&& Int64.toUInt64 63)).toInt64 &&& 1 = lN (n / 2 ^ k % 2) := by
  rw [wb_shr hn hk, wb_a1 (Nat.lt_of_le_of_lt (Nat.div_le_self _ _) hn)]
theorem wb_sar {n k : Nat} (hn : n < 2 ^ 63) (hk : k < 64) : lN n >>> ((nI k).toInt64 &&& 63) = lN (n / 2 ^ k) := by
  have hd : n / 2 ^ k ≤ n := Nat.div_le_self _ _
  have hn' : n / 2 ^ k < 2 ^ 63 := Nat.lt_of_le_of_lt hd hn
  rw [wb_c k hk]
  apply Int64.toInt_inj.mp
  have hD : ((lN k).toBitVec.smod 64).toNat = k := by rw [wb_tb, wb_sm k hk, BitVec.toNat_ofNat, Nat.mod_eq_of_lt (by omega)]
  have e : (lN n >>> lN k).toInt = (lN n).toInt >>> k := by
    have f : (lN n >>> lN k).toInt = (lN n).toInt >>> ((lN k).toBitVec.smod 64).toNat := BitVec.toInt_sshiftRight ..
    rw [hD] at f
    exact f
  rw [e, Int.shiftRight_eq_div_pow, pk_lT hn, pk_lT hn']
  rfl
/-- an Int32 by a whole number -/
def iI (z : Int) : Int32 := Int32.ofInt z
theorem iI_n (n : Nat) : nI n = iI (n : Int) := Int32.ofInt_eq_ofNat.symm
theorem iI_of (x : Int32) : x = iI x.toInt := (Int32.ofInt_toInt x).symm
theorem iI_add (a b : Int) : iI a + iI b = iI (a + b) := (Int32.ofInt_add a b).symm
theorem iI_sub (a b : Int) : iI a - iI b = iI (a - b) := (Int32.ofInt_sub a b).symm
theorem iI_mul (a b : Int) : iI a * iI b = iI (a * b) := (Int32.ofInt_mul a b).symm
theorem iI_neg (a : Int) : -iI a = iI (-a) := (Int32.ofInt_neg a).symm
theorem iI_t {z : Int} (h1 : -2147483648 ≤ z) (h2 : z < 2147483648) : (iI z).toInt = z := Int32.toInt_ofInt_of_le (by omega) (by omega)
theorem iI_lt {a b : Int} (h1 : -2147483648 ≤ a) (h2 : a < 2147483648) (h3 : -2147483648 ≤ b) (h4 : b < 2147483648) : iI a < iI b ↔ a < b := by
  rw [Int32.lt_iff_toInt_lt, iI_t h1 h2, iI_t h3 h4]
theorem iI_le {a b : Int} (h1 : -2147483648 ≤ a) (h2 : a < 2147483648) (h3 : -2147483648 ≤ b) (h4 : b < 2147483648) : iI a ≤ iI b ↔ a ≤ b := by
  rw [Int32.le_iff_toInt_le, iI_t h1 h2, iI_t h3 h4]
theorem iI_eq {a b : Int} (h1 : -2147483648 ≤ a) (h2 : a < 2147483648) (h3 : -2147483648 ≤ b) (h4 : b < 2147483648) : iI a = iI b ↔ a = b := by
  rw [← Int32.toInt_inj, iI_t h1 h2, iI_t h3 h4]
theorem iI_nn {z : Int} (h : 0 ≤ z) : iI z = nI z.toNat := by
  rw [iI_n, Int.toNat_of_nonneg h]
theorem li_shl (n : Nat) {z : Int} (h0 : 0 ≤ z) (h1 : z < 64) : lN n <<< ((iI z).toInt64 &&& 63) = lN (n * 2 ^ z.toNat) := by
  rw [iI_nn h0]
  exact wb_shl n (by omega)
theorem li_shr {n : Nat} {z : Int} (hn : n < 2 ^ 64) (h0 : 0 ≤ z) (h1 : z < 64) : ((lN n).toUInt64 >>> ((iI z).toInt64.toUInt64 &&& Int64.toUInt64 63)).toInt64 = lN (n / 2 ^ z.toNat) := by
  rw [iI_nn h0]
  exact wb_shr hn (by omega)
theorem li_sar {n : Nat} {z : Int} (hn : n < 2 ^ 63) (h0 : 0 ≤ z) (h1 : z < 64) : lN n >>> ((iI z).toInt64 &&& 63) = lN (n / 2 ^ z.toNat) := by
  rw [iI_nn h0]
  exact wb_sar hn (by omega)
theorem li_i2l {z : Int} (h0 : 0 ≤ z) (h1 : z < 2147483648) : (iI z).toInt64 = lN z.toNat := by
  rw [iI_nn h0]
  exact nI_l (by omega)
theorem li_eq0 {n : Nat} (h : n < 2 ^ 63) : lN n = 0 ↔ n = 0 := pk_lEQ (b := 0) h (by decide)
theorem li_lit (n : Nat) : Int64.ofNat n = lN n := rfl
theorem li_sub {a b : Nat} (h : b ≤ a) : lN a - lN b = lN (a - b) := lN_sub h
/-- 2^z as a long, less one -/
theorem li_pw {z : Int} (h0 : 0 ≤ z) (h1 : z < 64) : (1 : Int64) <<< ((iI z).toInt64 &&& 63) = lN (2 ^ z.toNat) := by
  have h := li_shl 1 h0 h1
  rw [Nat.one_mul] at h
  exact h
theorem li_pm {z : Int} (h0 : 0 ≤ z) (h1 : z < 64) : (1 : Int64) <<< ((iI z).toInt64 &&& 63) - 1 = lN (2 ^ z.toNat - 1) := by
  rw [li_pw h0 h1]
  exact lN_sub (b := 1) (Nat.two_pow_pos _)
theorem li_mask {n : Nat} {z : Int} (hn : n < 2 ^ 64) (h0 : 0 ≤ z) (h1 : z < 64) : lN n &&& ((1 : Int64) <<< ((iI z).toInt64 &&& 63) - 1) = lN (n % 2 ^ z.toNat) := by
  rw [li_pm h0 h1]
  exact wb_mask hn (by omega)
/-- two long ones joined where they don't overlap -/
theorem li_or {a b k : Nat} (ha : a < 2 ^ k) (h : b * 2 ^ k + a < 2 ^ 64) : lN (b * 2 ^ k) ||| lN a = lN (b * 2 ^ k + a) := by
  rw [wb_or (by omega) (by omega)]
  congr 1
  rw [← Nat.shiftLeft_eq, Nat.shiftLeft_add_eq_or_of_lt ha]
