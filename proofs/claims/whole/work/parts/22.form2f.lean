def mf_Fo_rounded (i : Nat) (g : Int32) (a : Int64) (z : Int32) : Int64 :=
  if a = 0 then mf_Fo_signed i g (0 : Int64)
  else if (((z - ((mf_Jd_lnlz a) - (1 : Int32))) + (62 : Int32)) + (fo_bias i)) < (fo_top i) then (if (((62 : Int32) - (fo_fb i)) + (if ((1 : Int32) - (((z - ((mf_Jd_lnlz a) - (1 : Int32))) + (62 : Int32)) + (fo_bias i))) < (0 : Int32) then (0 : Int32) else ((1 : Int32) - (((z - ((mf_Jd_lnlz a) - (1 : Int32))) + (62 : Int32)) + (fo_bias i))))) ≤ (63 : Int32) then mf_Fo_signed i g ((((if ((((z - ((mf_Jd_lnlz a) - (1 : Int32))) + (62 : Int32)) + (fo_bias i)) - (1 : Int32)) < (0 : Int32) then (0 : Int32) else ((((z - ((mf_Jd_lnlz a) - (1 : Int32))) + (62 : Int32)) + (fo_bias i)) - (1 : Int32))).toInt64) <<< ((fo_fb i).toInt64 &&& 63)) + (mf_Fo_withoutLowest (a <<< (((mf_Jd_lnlz a) - (1 : Int32)).toInt64 &&& 63)) (((62 : Int32) - (fo_fb i)) + (if ((1 : Int32) - (((z - ((mf_Jd_lnlz a) - (1 : Int32))) + (62 : Int32)) + (fo_bias i))) < (0 : Int32) then (0 : Int32) else ((1 : Int32) - (((z - ((mf_Jd_lnlz a) - (1 : Int32))) + (62 : Int32)) + (fo_bias i)))))))
    else mf_Fo_signed i g (0 : Int64))
  else mf_Fo_signed i g (fo_inf i)
def mf_Fo_finiteSum (i : Nat) (a : Int64) (b : Int64) : Int64 :=
  if (mf_Fo_isNegative i a) = (mf_Fo_isNegative i b) then mf_Fo_rounded i (mf_Fo_isNegative i a) (((mf_Fo_significand i a) <<< ((9 : Int32).toInt64 &&& 63)) + (mf_Fo_shiftedOut ((mf_Fo_significand i b) <<< ((9 : Int32).toInt64 &&& 63)) ((mf_Fo_scale i a) - (mf_Fo_scale i b)))) ((mf_Fo_scale i a) - (9 : Int32))
  else if (mf_Fo_isNegative i a) = 0 then mf_Fo_rounded i (0 : Int32) (((mf_Fo_significand i a) <<< ((9 : Int32).toInt64 &&& 63)) - (mf_Fo_shiftedOut ((mf_Fo_significand i b) <<< ((9 : Int32).toInt64 &&& 63)) ((mf_Fo_scale i a) - (mf_Fo_scale i b)))) ((mf_Fo_scale i a) - (9 : Int32))
  else if ((mf_Fo_significand i a) <<< ((9 : Int32).toInt64 &&& 63)) = (mf_Fo_shiftedOut ((mf_Fo_significand i b) <<< ((9 : Int32).toInt64 &&& 63)) ((mf_Fo_scale i a) - (mf_Fo_scale i b))) then mf_Fo_rounded i (0 : Int32) (((mf_Fo_significand i a) <<< ((9 : Int32).toInt64 &&& 63)) - (mf_Fo_shiftedOut ((mf_Fo_significand i b) <<< ((9 : Int32).toInt64 &&& 63)) ((mf_Fo_scale i a) - (mf_Fo_scale i b)))) ((mf_Fo_scale i a) - (9 : Int32))
  else mf_Fo_rounded i (1 : Int32) (((mf_Fo_significand i a) <<< ((9 : Int32).toInt64 &&& 63)) - (mf_Fo_shiftedOut ((mf_Fo_significand i b) <<< ((9 : Int32).toInt64 &&& 63)) ((mf_Fo_scale i a) - (mf_Fo_scale i b)))) ((mf_Fo_scale i a) - (9 : Int32))
def mf_Fo_upperProduct (a : Int64) (b : Int64) : Int64 :=
  ((((a >>> ((27 : Int32).toInt64 &&& 63)) * (b >>> ((27 : Int32).toInt64 &&& 63))) + (((((a >>> ((27 : Int32).toInt64 &&& 63)) * (b &&& (134217727 : Int64))) + ((a &&& (134217727 : Int64)) * (b >>> ((27 : Int32).toInt64 &&& 63)))) + (((a &&& (134217727 : Int64)) * (b &&& (134217727 : Int64))) >>> ((27 : Int32).toInt64 &&& 63))) >>> ((27 : Int32).toInt64 &&& 63))) <<< ((10 : Int32).toInt64 &&& 63)) ||| (mf_Fo_shiftedOut (((((((a >>> ((27 : Int32).toInt64 &&& 63)) * (b &&& (134217727 : Int64))) + ((a &&& (134217727 : Int64)) * (b >>> ((27 : Int32).toInt64 &&& 63)))) + (((a &&& (134217727 : Int64)) * (b &&& (134217727 : Int64))) >>> ((27 : Int32).toInt64 &&& 63))) &&& (134217727 : Int64)) <<< ((27 : Int32).toInt64 &&& 63)) ||| (((a &&& (134217727 : Int64)) * (b &&& (134217727 : Int64))) &&& (134217727 : Int64))) (44 : Int32))
def mf_Fo_longQuotient_b21 (a : Int64) (b : Int64) : Nat → Int64 → Int64 → Int32 → Int64
  | 0, _, _, _ => 0
  | fuel + 1, x4, x6, x8 => if (6 : Int32) ≤ x8 then (if x6 = 0 then x4
      else x4 ||| (1 : Int64))
    else mf_Fo_longQuotient_b21 a b fuel ((x4 <<< ((10 : Int32).toInt64 &&& 63)) ||| ((x6 <<< ((10 : Int32).toInt64 &&& 63)) / b)) ((x6 <<< ((10 : Int32).toInt64 &&& 63)) - (x6 <<< ((10 : Int32).toInt64 &&& 63)) / b * b) (x8 + (1 : Int32))
def mf_Fo_longQuotient (a : Int64) (b : Int64) : Int64 :=
  if b = 0 then (0 : Int64)
  else mf_Fo_longQuotient_b21 a b ((((6 : Int32).toInt - (0 : Int32).toInt).toNat) + 1) (a / b) (a - a / b * b) (0 : Int32)
def mf_Fo_finiteProduct (i : Nat) (g : Int32) (a : Int64) (b : Int64) : Int64 :=
  mf_Fo_rounded i g (mf_Fo_upperProduct ((mf_Fo_significand i a) <<< ((mf_Fo_shiftToLead (mf_Fo_significand i a)).toInt64 &&& 63)) ((mf_Fo_significand i b) <<< ((mf_Fo_shiftToLead (mf_Fo_significand i b)).toInt64 &&& 63))) ((((((mf_Fo_scale i a) - (mf_Fo_shiftToLead (mf_Fo_significand i a))) + (mf_Fo_scale i b)) - (mf_Fo_shiftToLead (mf_Fo_significand i b))) + (54 : Int32)) - (10 : Int32))
def mf_Fo_finiteQuotient (i : Nat) (g : Int32) (a : Int64) (b : Int64) : Int64 :=
  mf_Fo_rounded i g (mf_Fo_longQuotient ((mf_Fo_significand i a) <<< ((mf_Fo_shiftToLead (mf_Fo_significand i a)).toInt64 &&& 63)) ((mf_Fo_significand i b) <<< ((mf_Fo_shiftToLead (mf_Fo_significand i b)).toInt64 &&& 63))) ((((mf_Fo_scale i a) - (mf_Fo_shiftToLead (mf_Fo_significand i a))) - ((mf_Fo_scale i b) - (mf_Fo_shiftToLead (mf_Fo_significand i b)))) - (60 : Int32))
def mf_Fo_finiteRemainder_b42 (i : Nat) (a : Int64) (b : Int64) : Nat → Int64 → Int64 → Int32 → Int64
  | 0, _, _, _ => 0
  | fuel + 1, x5, x7, x9 => if x9 ≤ 0 then mf_Fo_rounded i (mf_Fo_isNegative i a) x7 (mf_Fo_scale i b)
    else mf_Fo_finiteRemainder_b42 i a b fuel x5 ((x7 <<< ((if (10 : Int32) < x9 then (10 : Int32) else x9).toInt64 &&& 63)) - (x7 <<< ((if (10 : Int32) < x9 then (10 : Int32) else x9).toInt64 &&& 63)) / x5 * x5) (x9 + (-10 : Int32))
def mf_Fo_finiteRemainder (i : Nat) (a : Int64) (b : Int64) : Int64 :=
  if (mf_Fo_significand i b) = 0 then fo_nan i
  else mf_Fo_finiteRemainder_b42 i a b ((((mf_Fo_scale i a) - (mf_Fo_scale i b)).toInt.toNat) + 1) (mf_Fo_significand i b) ((mf_Fo_significand i a) - (mf_Fo_significand i a) / (mf_Fo_significand i b) * (mf_Fo_significand i b)) ((mf_Fo_scale i a) - (mf_Fo_scale i b))
