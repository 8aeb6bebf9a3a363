def mf_Fo_magnitude (i : Nat) (a : Int64) : Int64 :=
  a &&& ((fo_sign i) - (1 : Int64))
def mf_Fo_isNoNumber (i : Nat) (a : Int64) : Int32 :=
  if (mf_Fo_magnitude i a) ≤ (fo_inf i) then (0 : Int32)
  else (1 : Int32)
def mf_Fo_isZero (i : Nat) (a : Int64) : Int32 :=
  if (mf_Fo_magnitude i a) = 0 then (1 : Int32)
  else (0 : Int32)
def mf_Fo_isNegative (i : Nat) (a : Int64) : Int32 :=
  if (a &&& (fo_sign i)) = 0 then (0 : Int32)
  else (1 : Int32)
def mf_Fo_isInfinite (i : Nat) (a : Int64) : Int32 :=
  if (mf_Fo_magnitude i a) = (fo_inf i) then (1 : Int32)
  else (0 : Int32)
def mf_Fo_told (i : Nat) (a : Int64) : Int64 :=
  if (mf_Fo_isNoNumber i a) = 0 then a
  else fo_nan i
def mf_Fo_negated (i : Nat) (a : Int64) : Int64 :=
  mf_Fo_told i (a ^^^ (fo_sign i))
def mf_Fo_signed (i : Nat) (g : Int32) (a : Int64) : Int64 :=
  if g = 0 then a
  else a ||| (fo_sign i)
def mf_Fo_significand (i : Nat) (a : Int64) : Int64 :=
  if (a &&& (fo_inf i)) = 0 then a &&& ((fo_least i) - (1 : Int64))
  else (a &&& ((fo_least i) - (1 : Int64))) ||| (fo_least i)
def mf_Fo_scale (i : Nat) (a : Int64) : Int32 :=
  ((if (((a &&& (fo_inf i)) >>> ((fo_fb i).toInt64 &&& 63)).toInt32) < (1 : Int32) then (1 : Int32) else (((a &&& (fo_inf i)) >>> ((fo_fb i).toInt64 &&& 63)).toInt32)) - (fo_bias i)) - (fo_fb i)
def mf_Fo_withoutLowest (a : Int64) (d : Int32) : Int64 :=
  if ((1 : Int64) <<< ((d - (1 : Int32)).toInt64 &&& 63)) < (a &&& (((1 : Int64) <<< (d.toInt64 &&& 63)) - (1 : Int64))) then ((a.toUInt64 >>> (d.toInt64.toUInt64 &&& Int64.toUInt64 63)).toInt64) + (1 : Int64)
  else if (a &&& (((1 : Int64) <<< (d.toInt64 &&& 63)) - (1 : Int64))) = ((1 : Int64) <<< ((d - (1 : Int32)).toInt64 &&& 63)) then (if (((a.toUInt64 >>> (d.toInt64.toUInt64 &&& Int64.toUInt64 63)).toInt64) &&& (1 : Int64)) = (1 : Int64) then ((a.toUInt64 >>> (d.toInt64.toUInt64 &&& Int64.toUInt64 63)).toInt64) + (1 : Int64)
    else (a.toUInt64 >>> (d.toInt64.toUInt64 &&& Int64.toUInt64 63)).toInt64)
  else (a.toUInt64 >>> (d.toInt64.toUInt64 &&& Int64.toUInt64 63)).toInt64
def mf_Fo_shiftedOut (a : Int64) (d : Int32) : Int64 :=
  if d ≤ (62 : Int32) then (if ((a >>> (d.toInt64 &&& 63)) <<< (d.toInt64 &&& 63)) = a then a >>> (d.toInt64 &&& 63)
    else (a >>> (d.toInt64 &&& 63)) ||| (1 : Int64))
  else if a = 0 then (0 : Int64)
  else (1 : Int64)
def mf_Fo_shiftToLead (a : Int64) : Int32 :=
  (mf_Jd_lnlz a) - (11 : Int32)
