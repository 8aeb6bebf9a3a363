/-! Methods that write: their start, their end -/
def nb_V (D : va_G) (ci h0 q0 : Nat) (cA : ClassId) (f : Nat → Int64) (ad : Nat → Nat) (sz : Nat) : State → Prop := fun U => U.heap.size = sz ∧ va_P D nb_cl (nb_w ci h0 q0 cA f) U.heap ∧ va_K D nb_cl [(cA, .long)] U ∧ va_D (fun _ => True) (nb_w ci h0 q0 cA f) ∧ nb_C ad (va_A (nb_w ci h0 q0 cA f) sz) U U.heap
def nb_At (D : va_G) (ci : Nat) (A : Nat → Prop) (h0 q0 : Nat) (cA : ClassId) (f : Nat → Int64) (t : State) : Prop := va_P D nb_cl (nb_w ci h0 q0 cA f) t.heap ∧ va_K D nb_cl [(cA, .long)] t ∧ va_D A (nb_w ci h0 q0 cA f)
theorem tw_in2 {n : Int32} (h : ¬ mf_Tw_in n (2 : Int32) = 0) : 0 ≤ n.toInt ∧ n.toInt < 2 := by
  unfold mf_Tw_in at h
  by_cases h1 : n < 0
  · rw [if_pos h1] at h
    exact absurd rfl h
  · rw [if_neg h1] at h
    by_cases h2 : (2 : Int32) ≤ n
    · rw [if_pos h2] at h
      exact absurd rfl h
    · rw [Int32.lt_iff_toInt_lt, show (0 : Int32).toInt = 0 from rfl] at h1
      rw [Int32.le_iff_toInt_le, show (2 : Int32).toInt = 2 from rfl] at h2
      omega
theorem tw_cl {n : Int32} (h0 : 0 ≤ n.toInt) : (n.toNatClampNeg : Int) = n.toInt := Int.toNat_of_nonneg h0
theorem tw_lt {n : Int32} (h : ¬ mf_Tw_in n (2 : Int32) = 0) : n.toNatClampNeg < 2 := by
  have h1 := tw_in2 h
  have h2 := tw_cl h1.1
  omega
theorem tw_nI {n : Int32} (h : ¬ mf_Tw_in n (2 : Int32) = 0) : nI n.toNatClampNeg = n := by
  have h1 := tw_in2 h
  rw [iI_n, tw_cl h1.1, ← iI_of]
