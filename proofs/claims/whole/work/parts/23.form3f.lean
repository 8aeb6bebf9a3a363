def mf_Fo_plus (i : Nat) (a : Int64) (b : Int64) : Int64 :=
  if (mf_Fo_isNoNumber i a) = 0 then (if (mf_Fo_isNoNumber i b) = 0 then (if (mf_Fo_isInfinite i a) = 0 then (if (mf_Fo_isInfinite i b) = 0 then (if (mf_Fo_magnitude i a) < (mf_Fo_magnitude i b) then mf_Fo_finiteSum i b a
          else mf_Fo_finiteSum i a b)
        else b)
      else if (mf_Fo_isInfinite i b) = 0 then a
      else if a = b then a
      else fo_nan i)
    else fo_nan i)
  else fo_nan i
def mf_Fo_minus (i : Nat) (a : Int64) (b : Int64) : Int64 :=
  mf_Fo_plus i a (mf_Fo_negated i b)
def mf_Fo_times_b57 (i : Nat) (a : Int64) (b : Int64) (x5 : Int32) : Int64 :=
  if (mf_Fo_isZero i a) = 0 then (if (mf_Fo_isZero i b) = 0 then mf_Fo_signed i x5 (fo_inf i)
    else fo_nan i)
  else fo_nan i
def mf_Fo_times_b39 (i : Nat) (a : Int64) (b : Int64) (k0 : Int32) : Int64 :=
  if (mf_Fo_isInfinite i a) = 0 then (if (mf_Fo_isInfinite i b) = 0 then (if (mf_Fo_isZero i a) = 0 then (if (mf_Fo_isZero i b) = 0 then mf_Fo_finiteProduct i k0 a b
        else mf_Fo_signed i k0 (0 : Int64))
      else mf_Fo_signed i k0 (0 : Int64))
    else mf_Fo_times_b57 i a b k0)
  else mf_Fo_times_b57 i a b k0
def mf_Fo_times (i : Nat) (a : Int64) (b : Int64) : Int64 :=
  if (mf_Fo_isNoNumber i a) = 0 then (if (mf_Fo_isNoNumber i b) = 0 then (if (mf_Fo_isNegative i a) = (mf_Fo_isNegative i b) then mf_Fo_times_b39 i a b (0 : Int32)
      else mf_Fo_times_b39 i a b (1 : Int32))
    else fo_nan i)
  else fo_nan i
def mf_Fo_over_b39 (i : Nat) (a : Int64) (b : Int64) (k0 : Int32) : Int64 :=
  if (mf_Fo_isInfinite i a) = 0 then (if (mf_Fo_isZero i b) = 0 then (if (mf_Fo_isInfinite i b) = 0 then (if (mf_Fo_isZero i a) = 0 then mf_Fo_finiteQuotient i k0 a b
        else mf_Fo_signed i k0 (0 : Int64))
      else mf_Fo_signed i k0 (0 : Int64))
    else if (mf_Fo_isZero i a) = 0 then mf_Fo_signed i k0 (fo_inf i)
    else fo_nan i)
  else if (mf_Fo_isInfinite i b) = 0 then mf_Fo_signed i k0 (fo_inf i)
  else fo_nan i
def mf_Fo_over (i : Nat) (a : Int64) (b : Int64) : Int64 :=
  if (mf_Fo_isNoNumber i a) = 0 then (if (mf_Fo_isNoNumber i b) = 0 then (if (mf_Fo_isNegative i a) = (mf_Fo_isNegative i b) then mf_Fo_over_b39 i a b (0 : Int32)
      else mf_Fo_over_b39 i a b (1 : Int32))
    else fo_nan i)
  else fo_nan i
def mf_Fo_remainder (i : Nat) (a : Int64) (b : Int64) : Int64 :=
  if (mf_Fo_isNoNumber i a) = 0 then (if (mf_Fo_isNoNumber i b) = 0 then (if (mf_Fo_isInfinite i a) = 0 then (if (mf_Fo_isZero i b) = 0 then (if (mf_Fo_magnitude i b) ≤ (mf_Fo_magnitude i a) then mf_Fo_finiteRemainder i a b
          else a)
        else fo_nan i)
      else fo_nan i)
    else fo_nan i)
  else fo_nan i
def mf_Fo_nearestTo (i : Nat) (j : Nat) (a : Int64) : Int64 :=
  if (mf_Fo_isNoNumber j a) = 0 then (if (mf_Fo_isInfinite j a) = 0 then mf_Fo_rounded i (mf_Fo_isNegative j a) (mf_Fo_significand j a) (mf_Fo_scale j a)
    else mf_Fo_signed i (mf_Fo_isNegative j a) (fo_inf i))
  else fo_nan i
def mf_Fo_ofWhole (i : Nat) (a : Int64) : Int64 :=
  if a = (-9223372036854775808 : Int64) then mf_Fo_rounded i (1 : Int32) (1 : Int64) (63 : Int32)
  else if 0 ≤ a then mf_Fo_rounded i (0 : Int32) (if 0 < a then a else -a) (0 : Int32)
  else mf_Fo_rounded i (1 : Int32) (if 0 < a then a else -a) (0 : Int32)
def mf_Fo_cut (i : Nat) (a : Int64) : Int64 :=
  if (mf_Fo_isNoNumber i a) = 0 then (if (mf_Fo_scale i a) ≤ ((62 : Int32) - (fo_fb i)) then (if (-(fo_fb i)) ≤ (mf_Fo_scale i a) then (if (mf_Fo_scale i a) < 0 then (if (mf_Fo_isNegative i a) = 0 then (mf_Fo_significand i a) >>> ((-(mf_Fo_scale i a)).toInt64 &&& 63)
          else -((mf_Fo_significand i a) >>> ((-(mf_Fo_scale i a)).toInt64 &&& 63)))
        else if (mf_Fo_isNegative i a) = 0 then (mf_Fo_significand i a) <<< ((mf_Fo_scale i a).toInt64 &&& 63)
        else -((mf_Fo_significand i a) <<< ((mf_Fo_scale i a).toInt64 &&& 63)))
      else (0 : Int64))
    else if (mf_Fo_isNegative i a) = 0 then (9223372036854775807 : Int64)
    else (-9223372036854775808 : Int64))
  else (0 : Int64)
