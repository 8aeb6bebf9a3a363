def mf_Tw_rounded_b162 (g : Int32) (a : Int64) (z : Int32) (o : Int32) (f : Nat) (x6 : Int32) (x9 : Int64) (x11 : Int32) : Int64 :=
  if x11 ≤ (tw_gr f) then (if (x9 >>> ((x6 - (1 : Int32)).toInt64 &&& 63)) = 0 then mf_Tw_signed x9 g f
    else mf_Tw_signed (((((x11 - (tw_le f)) + (1 : Int32)).toInt64) <<< ((x6 - (1 : Int32)).toInt64 &&& 63)) ||| (x9 &&& (((1 : Int64) <<< ((x6 - (1 : Int32)).toInt64 &&& 63)) - (1 : Int64)))) g f)
  else mf_Tw_signed (mf_Tw_infinite f) g f
def mf_Tw_rounded_b137 (g : Int32) (a : Int64) (z : Int32) (o : Int32) (f : Nat) (x6 : Int32) (x8 : Int32) (x9 : Int64) : Int64 :=
  if (x9 >>> (x6.toInt64 &&& 63)) = 0 then mf_Tw_rounded_b162 g a z o f x6 x9 (z + x8)
  else mf_Tw_rounded_b162 g a z o f x6 (x9 >>> ((1 : Int32).toInt64 &&& 63)) ((z + x8) + (1 : Int32))
def mf_Tw_rounded_b131 (g : Int32) (a : Int64) (z : Int32) (o : Int32) (f : Nat) (x6 : Int32) (x8 : Int32) (x9 : Int64) : Int64 :=
  mf_Tw_rounded_b137 g a z o f x6 x8 (x9 + (1 : Int64))
def mf_Tw_rounded (g : Int32) (a : Int64) (z : Int32) (o : Int32) (f : Nat) : Int64 :=
  if a = 0 then mf_Tw_signed (0 : Int64) g f
  else if 0 < (if (((64 : Int32) - (mf_Jd_lnlz a)) - (tw_pl f)) < ((tw_le f) - z) then ((tw_le f) - z) else (((64 : Int32) - (mf_Jd_lnlz a)) - (tw_pl f))) then (if (if (((64 : Int32) - (mf_Jd_lnlz a)) - (tw_pl f)) < ((tw_le f) - z) then ((tw_le f) - z) else (((64 : Int32) - (mf_Jd_lnlz a)) - (tw_pl f))) ≤ (63 : Int32) then (if ((1 : Int64) <<< (((if (((64 : Int32) - (mf_Jd_lnlz a)) - (tw_pl f)) < ((tw_le f) - z) then ((tw_le f) - z) else (((64 : Int32) - (mf_Jd_lnlz a)) - (tw_pl f))) - (1 : Int32)).toInt64 &&& 63)) < (a &&& (((1 : Int64) <<< ((if (((64 : Int32) - (mf_Jd_lnlz a)) - (tw_pl f)) < ((tw_le f) - z) then ((tw_le f) - z) else (((64 : Int32) - (mf_Jd_lnlz a)) - (tw_pl f))).toInt64 &&& 63)) - (1 : Int64))) then mf_Tw_rounded_b131 g a z o f (tw_pl f) (if (((64 : Int32) - (mf_Jd_lnlz a)) - (tw_pl f)) < ((tw_le f) - z) then ((tw_le f) - z) else (((64 : Int32) - (mf_Jd_lnlz a)) - (tw_pl f))) (a >>> ((if (((64 : Int32) - (mf_Jd_lnlz a)) - (tw_pl f)) < ((tw_le f) - z) then ((tw_le f) - z) else (((64 : Int32) - (mf_Jd_lnlz a)) - (tw_pl f))).toInt64 &&& 63))
      else if (a &&& (((1 : Int64) <<< ((if (((64 : Int32) - (mf_Jd_lnlz a)) - (tw_pl f)) < ((tw_le f) - z) then ((tw_le f) - z) else (((64 : Int32) - (mf_Jd_lnlz a)) - (tw_pl f))).toInt64 &&& 63)) - (1 : Int64))) = ((1 : Int64) <<< (((if (((64 : Int32) - (mf_Jd_lnlz a)) - (tw_pl f)) < ((tw_le f) - z) then ((tw_le f) - z) else (((64 : Int32) - (mf_Jd_lnlz a)) - (tw_pl f))) - (1 : Int32)).toInt64 &&& 63)) then (if o = 0 then (if ((a >>> ((if (((64 : Int32) - (mf_Jd_lnlz a)) - (tw_pl f)) < ((tw_le f) - z) then ((tw_le f) - z) else (((64 : Int32) - (mf_Jd_lnlz a)) - (tw_pl f))).toInt64 &&& 63)) &&& (1 : Int64)) = (1 : Int64) then mf_Tw_rounded_b131 g a z o f (tw_pl f) (if (((64 : Int32) - (mf_Jd_lnlz a)) - (tw_pl f)) < ((tw_le f) - z) then ((tw_le f) - z) else (((64 : Int32) - (mf_Jd_lnlz a)) - (tw_pl f))) (a >>> ((if (((64 : Int32) - (mf_Jd_lnlz a)) - (tw_pl f)) < ((tw_le f) - z) then ((tw_le f) - z) else (((64 : Int32) - (mf_Jd_lnlz a)) - (tw_pl f))).toInt64 &&& 63))
          else mf_Tw_rounded_b137 g a z o f (tw_pl f) (if (((64 : Int32) - (mf_Jd_lnlz a)) - (tw_pl f)) < ((tw_le f) - z) then ((tw_le f) - z) else (((64 : Int32) - (mf_Jd_lnlz a)) - (tw_pl f))) (a >>> ((if (((64 : Int32) - (mf_Jd_lnlz a)) - (tw_pl f)) < ((tw_le f) - z) then ((tw_le f) - z) else (((64 : Int32) - (mf_Jd_lnlz a)) - (tw_pl f))).toInt64 &&& 63)))
        else mf_Tw_rounded_b131 g a z o f (tw_pl f) (if (((64 : Int32) - (mf_Jd_lnlz a)) - (tw_pl f)) < ((tw_le f) - z) then ((tw_le f) - z) else (((64 : Int32) - (mf_Jd_lnlz a)) - (tw_pl f))) (a >>> ((if (((64 : Int32) - (mf_Jd_lnlz a)) - (tw_pl f)) < ((tw_le f) - z) then ((tw_le f) - z) else (((64 : Int32) - (mf_Jd_lnlz a)) - (tw_pl f))).toInt64 &&& 63)))
      else mf_Tw_rounded_b137 g a z o f (tw_pl f) (if (((64 : Int32) - (mf_Jd_lnlz a)) - (tw_pl f)) < ((tw_le f) - z) then ((tw_le f) - z) else (((64 : Int32) - (mf_Jd_lnlz a)) - (tw_pl f))) (a >>> ((if (((64 : Int32) - (mf_Jd_lnlz a)) - (tw_pl f)) < ((tw_le f) - z) then ((tw_le f) - z) else (((64 : Int32) - (mf_Jd_lnlz a)) - (tw_pl f))).toInt64 &&& 63)))
    else mf_Tw_rounded_b137 g a z o f (tw_pl f) (if (((64 : Int32) - (mf_Jd_lnlz a)) - (tw_pl f)) < ((tw_le f) - z) then ((tw_le f) - z) else (((64 : Int32) - (mf_Jd_lnlz a)) - (tw_pl f))) (0 : Int64))
  else mf_Tw_rounded_b137 g a z o f (tw_pl f) (if (((64 : Int32) - (mf_Jd_lnlz a)) - (tw_pl f)) < ((tw_le f) - z) then ((tw_le f) - z) else (((64 : Int32) - (mf_Jd_lnlz a)) - (tw_pl f))) (a <<< ((-(if (((64 : Int32) - (mf_Jd_lnlz a)) - (tw_pl f)) < ((tw_le f) - z) then ((tw_le f) - z) else (((64 : Int32) - (mf_Jd_lnlz a)) - (tw_pl f)))).toInt64 &&& 63))
def mf_Tw_exact (g : Int32) (a : Int64) (z : Int32) (f : Nat) : Int64 :=
  mf_Tw_rounded g a z (0 : Int32) f
def mf_Tw_add_b386 (a : Int64) (b : Int64) (f : Nat) (x6 : Int64) (x8 : Int64) (x15 : Int32) (x16 : Int32) (x17 : Int64) : Int64 :=
  if 0 ≤ x17 then mf_Tw_rounded (mf_Tw_minus x6 f) x17 x15 x16 f
  else mf_Tw_rounded (mf_Tw_minus x8 f) (-x17) x15 (0 : Int32) f
def mf_Tw_add_b368 (a : Int64) (b : Int64) (f : Nat) (x6 : Int64) (x8 : Int64) (x15 : Int32) (x16 : Int32) (k0 : Int32) (k1 : Int64) : Int64 :=
  if (k1 - k0.toInt64) = 0 then (if x16 = 0 then (0 : Int64)
    else mf_Tw_add_b386 a b f x6 x8 x15 x16 (k1 - k0.toInt64))
  else mf_Tw_add_b386 a b f x6 x8 x15 x16 (k1 - k0.toInt64)
def mf_Tw_add_b314 (a : Int64) (b : Int64) (f : Nat) (x6 : Int64) (x8 : Int64) (x11 : Int64) (x13 : Int64) (x15 : Int32) (x16 : Int32) : Int64 :=
  if (mf_Tw_minus x6 f) = (mf_Tw_minus x8 f) then mf_Tw_rounded (mf_Tw_minus x6 f) (x11 + x13) x15 x16 f
  else if x16 = 0 then mf_Tw_add_b368 a b f x6 x8 x15 x16 (0 : Int32) (x11 - x13)
  else mf_Tw_add_b368 a b f x6 x8 x15 x16 (1 : Int32) (x11 - x13)
def mf_Tw_add_b312 (a : Int64) (b : Int64) (f : Nat) (x6 : Int64) (x8 : Int64) (x11 : Int64) (x15 : Int32) (x16 : Int32) (k0 : Int64) : Int64 :=
  mf_Tw_add_b314 a b f x6 x8 x11 k0 x15 x16
def mf_Tw_add_b294 (a : Int64) (b : Int64) (f : Nat) (x6 : Int64) (x8 : Int64) (x11 : Int64) (x13 : Int64) (x15 : Int32) (x17 : Int32) (k0 : Int32) : Int64 :=
  if x17 ≤ (62 : Int32) then mf_Tw_add_b312 a b f x6 x8 x11 x15 k0 (x13 >>> (x17.toInt64 &&& 63))
  else mf_Tw_add_b312 a b f x6 x8 x11 x15 k0 (0 : Int64)
def mf_Tw_add_b161 (a : Int64) (b : Int64) (f : Nat) (x6 : Int64) (k0 : Int64) : Int64 :=
  if (9 : Int32) < ((mf_Tw_power x6 f) - (mf_Tw_power k0 f)) then (if (((mf_Tw_power x6 f) - (mf_Tw_power k0 f)) - (9 : Int32)) ≤ (62 : Int32) then (if ((mf_Tw_whole k0 f) &&& (((1 : Int64) <<< ((((mf_Tw_power x6 f) - (mf_Tw_power k0 f)) - (9 : Int32)).toInt64 &&& 63)) - (1 : Int64))) = 0 then mf_Tw_add_b294 a b f x6 k0 ((mf_Tw_whole x6 f) <<< ((9 : Int32).toInt64 &&& 63)) (mf_Tw_whole k0 f) ((mf_Tw_power x6 f) - (9 : Int32)) (((mf_Tw_power x6 f) - (mf_Tw_power k0 f)) - (9 : Int32)) (0 : Int32)
      else mf_Tw_add_b294 a b f x6 k0 ((mf_Tw_whole x6 f) <<< ((9 : Int32).toInt64 &&& 63)) (mf_Tw_whole k0 f) ((mf_Tw_power x6 f) - (9 : Int32)) (((mf_Tw_power x6 f) - (mf_Tw_power k0 f)) - (9 : Int32)) (1 : Int32))
    else if (mf_Tw_whole k0 f) = 0 then mf_Tw_add_b294 a b f x6 k0 ((mf_Tw_whole x6 f) <<< ((9 : Int32).toInt64 &&& 63)) (mf_Tw_whole k0 f) ((mf_Tw_power x6 f) - (9 : Int32)) (((mf_Tw_power x6 f) - (mf_Tw_power k0 f)) - (9 : Int32)) (0 : Int32)
    else mf_Tw_add_b294 a b f x6 k0 ((mf_Tw_whole x6 f) <<< ((9 : Int32).toInt64 &&& 63)) (mf_Tw_whole k0 f) ((mf_Tw_power x6 f) - (9 : Int32)) (((mf_Tw_power x6 f) - (mf_Tw_power k0 f)) - (9 : Int32)) (1 : Int32))
  else mf_Tw_add_b314 a b f x6 k0 ((mf_Tw_whole x6 f) <<< (((mf_Tw_power x6 f) - (mf_Tw_power k0 f)).toInt64 &&& 63)) (mf_Tw_whole k0 f) (mf_Tw_power k0 f) (0 : Int32)
def mf_Tw_add_b149 (a : Int64) (b : Int64) (f : Nat) (x5 : Int32) (k0 : Int64) : Int64 :=
  if x5 = 0 then mf_Tw_add_b161 a b f k0 a
  else mf_Tw_add_b161 a b f k0 b
def mf_Tw_add_b137 (a : Int64) (b : Int64) (f : Nat) (k0 : Int32) : Int64 :=
  if k0 = 0 then mf_Tw_add_b149 a b f k0 b
  else mf_Tw_add_b149 a b f k0 a
def mf_Tw_add_b117 (a : Int64) (b : Int64) (f : Nat)  : Int64 :=
  if (mf_Tw_power a f) < (mf_Tw_power b f) then mf_Tw_add_b137 a b f (0 : Int32)
  else mf_Tw_add_b137 a b f (1 : Int32)
def mf_Tw_add_b42 (a : Int64) (b : Int64) (f : Nat)  : Int64 :=
  if (mf_Tw_isInfinite a f) = 0 then b
  else if (mf_Tw_isInfinite b f) = 0 then a
  else if a = b then a
  else mf_Tw_none f
def mf_Tw_add (a : Int64) (b : Int64) (f : Nat) : Int64 :=
  if (mf_Tw_isNone a f) = 0 then (if (mf_Tw_isNone b f) = 0 then (if (mf_Tw_isInfinite a f) = 0 then (if (mf_Tw_isInfinite b f) = 0 then (if (mf_Tw_isZero a f) = 0 then mf_Tw_add_b117 a b f 
          else if (mf_Tw_isZero b f) = 0 then mf_Tw_add_b117 a b f 
          else if a = b then a
          else (0 : Int64))
        else mf_Tw_add_b42 a b f )
      else mf_Tw_add_b42 a b f )
    else mf_Tw_none f)
  else mf_Tw_none f
def mf_Tw_subtract (a : Int64) (b : Int64) (f : Nat) : Int64 :=
  if (mf_Tw_isNone b f) = 0 then mf_Tw_add a (mf_Tw_turned b f) f
  else mf_Tw_none f
def mf_Tw_moved (a : Int64) (f : Nat) : Int32 :=
  ((mf_Jd_lnlz a) - (64 : Int32)) + (tw_pl f)
