def mf_Tw_wide (f : Nat) : Int32 :=
  if (nI f) = 0 then (64 : Int32)
  else (32 : Int32)
def mf_Tw_minus (a : Int64) (f : Nat) : Int32 :=
  if (((a.toUInt64 >>> (((mf_Tw_wide f) - (1 : Int32)).toInt64.toUInt64 &&& Int64.toUInt64 63)).toInt64) &&& (1 : Int64)) = (1 : Int64) then (1 : Int32)
  else (0 : Int32)
def mf_Tw_size (a : Int64) (f : Nat) : Int64 :=
  a &&& (((1 : Int64) <<< (((mf_Tw_wide f) - (1 : Int32)).toInt64 &&& 63)) - (1 : Int64))
def mf_Tw_infinite (f : Nat) : Int64 :=
  if (nI f) = 0 then (9218868437227405312 : Int64)
  else (2139095040 : Int64)
def mf_Tw_none (f : Nat) : Int64 :=
  if (nI f) = 0 then (9221120237041090560 : Int64)
  else (2143289344 : Int64)
def mf_Tw_isNone (a : Int64) (f : Nat) : Int32 :=
  if (mf_Tw_size a f) ≤ (mf_Tw_infinite f) then (0 : Int32)
  else (1 : Int32)
def mf_Tw_isInfinite (a : Int64) (f : Nat) : Int32 :=
  if (mf_Tw_size a f) = (mf_Tw_infinite f) then (1 : Int32)
  else (0 : Int32)
def mf_Tw_isZero (a : Int64) (f : Nat) : Int32 :=
  if (mf_Tw_size a f) = 0 then (1 : Int32)
  else (0 : Int32)
def mf_Tw_signed (a : Int64) (g : Int32) (f : Nat) : Int64 :=
  if g = 0 then a
  else a ||| ((1 : Int64) <<< (((mf_Tw_wide f) - (1 : Int32)).toInt64 &&& 63))
def mf_Tw_turned (a : Int64) (f : Nat) : Int64 :=
  a ^^^ ((1 : Int64) <<< (((mf_Tw_wide f) - (1 : Int32)).toInt64 &&& 63))
def mf_Tw_whole (a : Int64) (f : Nat) : Int64 :=
  if (((mf_Tw_size a f).toUInt64 >>> (((tw_pl f) - (1 : Int32)).toInt64.toUInt64 &&& Int64.toUInt64 63)).toInt64) = 0 then (mf_Tw_size a f) &&& (((1 : Int64) <<< (((tw_pl f) - (1 : Int32)).toInt64 &&& 63)) - (1 : Int64))
  else ((mf_Tw_size a f) &&& (((1 : Int64) <<< (((tw_pl f) - (1 : Int32)).toInt64 &&& 63)) - (1 : Int64))) ||| ((1 : Int64) <<< (((tw_pl f) - (1 : Int32)).toInt64 &&& 63))
def mf_Tw_power (a : Int64) (f : Nat) : Int32 :=
  ((tw_le f) + ((if (1 : Int64) < (((mf_Tw_size a f).toUInt64 >>> (((tw_pl f) - (1 : Int32)).toInt64.toUInt64 &&& Int64.toUInt64 63)).toInt64) then (((mf_Tw_size a f).toUInt64 >>> (((tw_pl f) - (1 : Int32)).toInt64.toUInt64 &&& Int64.toUInt64 63)).toInt64) else (1 : Int64)).toInt32)) - (1 : Int32)
