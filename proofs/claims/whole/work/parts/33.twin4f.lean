def mf_Tw_changed (a : Int64) (f : Nat) (t : Nat) : Int64 :=
  if (mf_Tw_isNone a f) = 0 then (if (mf_Tw_isInfinite a f) = 0 then mf_Tw_exact (mf_Tw_minus a f) (mf_Tw_whole a f) (mf_Tw_power a f) t
    else mf_Tw_signed (mf_Tw_infinite t) (mf_Tw_minus a f) t)
  else mf_Tw_none t
def mf_Tw_toFloat (a : Int64) : Int64 :=
  mf_Tw_changed a 0 1
def mf_Tw_toDouble (a : Int64) : Int64 :=
  mf_Tw_changed a 1 0
def mf_Tw_order_b40 (a : Int64) (b : Int64) (k0 : Int64) : Int32 :=
  if (mf_Tw_minus b 0) = 0 then mf_Jd_lcmp k0 (mf_Tw_size b 0)
  else mf_Jd_lcmp k0 (-(mf_Tw_size b 0))
def mf_Tw_order (a : Int64) (b : Int64) : Int32 :=
  if (mf_Tw_isNone a 0) = 0 then (if (mf_Tw_isNone b 0) = 0 then (if (mf_Tw_minus a 0) = 0 then mf_Tw_order_b40 a b (mf_Tw_size a 0)
      else mf_Tw_order_b40 a b (-(mf_Tw_size a 0)))
    else (2 : Int32))
  else (2 : Int32)
def mf_Tw_told (a : Int64) : Int64 :=
  if (mf_Tw_isNone a 0) = 0 then a
  else (9221120237041090560 : Int64)
def mf_Tw_add2 (a : Int64) (b : Int64) : Int64 :=
  mf_Tw_add a b 0
def mf_Tw_subtract2 (a : Int64) (b : Int64) : Int64 :=
  mf_Tw_subtract a b 0
def mf_Tw_multiply2 (a : Int64) (b : Int64) : Int64 :=
  mf_Tw_multiply a b 0
def mf_Tw_divide2 (a : Int64) (b : Int64) : Int64 :=
  mf_Tw_divide a b 0
def mf_Tw_root_b30 (a : Int64) : Nat → Int64 → Int32 → Int64
  | 0, _, _ => 0
  | fuel + 1, x2, x4 => if (5 : Int32) ≤ x4 then x2
    else mf_Tw_root_b30 a fuel (mf_Tw_divide2 (mf_Tw_add2 x2 (mf_Tw_divide2 a x2)) (4611686018427387904 : Int64)) (x4 + (1 : Int32))
def mf_Tw_root (a : Int64) : Int64 :=
  if (mf_Tw_order a (0 : Int64)) = (1 : Int32) then (if (mf_Tw_isInfinite a 0) = 0 then mf_Tw_root_b30 a ((((5 : Int32).toInt - (0 : Int32).toInt).toNat) + 1) ((a >>> ((1 : Int32).toInt64 &&& 63)) + (2303591209400008704 : Int64)) (0 : Int32)
    else a)
  else a
def mf_Tw_in (k : Int32) (n : Int32) : Int32 :=
  if k < 0 then (0 : Int32)
  else if n ≤ k then (0 : Int32)
  else (1 : Int32)
def mf_Tw_floatOf (k : Int32) : Int64 :=
  k.toInt64 &&& (4294967295 : Int64)
def mf_Tw_end (a : Int64) (b : Int64) (g : Int32) : Int64 :=
  if (mf_Tw_order a b) = (2 : Int32) then (9221120237041090560 : Int64)
  else if (mf_Tw_order a b) = 0 then (if (mf_Tw_minus a 0) = g then b
    else a)
  else if 0 ≤ (mf_Tw_order a b) then (if (0 : Int32) = g then b
    else a)
  else if (1 : Int32) = g then b
  else a
def mf_Tw_reckoned_b16 (o : Int32) (a : Int64) (b : Int64)  : Int64 :=
  if o = (0 : Int32) then mf_Tw_add a b 0
  else if o = (1 : Int32) then mf_Tw_subtract a b 0
  else if o = (2 : Int32) then mf_Tw_multiply a b 0
  else if o = (3 : Int32) then mf_Tw_divide a b 0
  else if o = (4 : Int32) then mf_Tw_rest a b 0
  else if o = (5 : Int32) then mf_Tw_root a
  else if o = (6 : Int32) then mf_Tw_turned a 0
  else if o = (7 : Int32) then mf_Tw_toDouble (mf_Tw_toFloat a)
  else if o = (8 : Int32) then mf_Tw_add a b 0
  else if o = (9 : Int32) then mf_Tw_subtract a b 0
  else if o = (10 : Int32) then mf_Tw_multiply a b 0
  else if o = (11 : Int32) then mf_Tw_divide a b 0
  else if o = (12 : Int32) then mf_Tw_rest a b 0
  else if o = (14 : Int32) then mf_Tw_end a b (1 : Int32)
  else mf_Tw_end a b (0 : Int32)
def mf_Tw_reckoned (o : Int32) (a : Int64) (b : Int64) : Int64 :=
  if o < (8 : Int32) then mf_Tw_reckoned_b16 o a b 
  else if (12 : Int32) < o then mf_Tw_reckoned_b16 o a b 
  else if o = (0 : Int32) then mf_Tw_toDouble (mf_Tw_add (mf_Tw_toFloat a) (mf_Tw_toFloat b) 1)
  else if o = (1 : Int32) then mf_Tw_toDouble (mf_Tw_subtract (mf_Tw_toFloat a) (mf_Tw_toFloat b) 1)
  else if o = (2 : Int32) then mf_Tw_toDouble (mf_Tw_multiply (mf_Tw_toFloat a) (mf_Tw_toFloat b) 1)
  else if o = (3 : Int32) then mf_Tw_toDouble (mf_Tw_divide (mf_Tw_toFloat a) (mf_Tw_toFloat b) 1)
  else if o = (4 : Int32) then mf_Tw_toDouble (mf_Tw_rest (mf_Tw_toFloat a) (mf_Tw_toFloat b) 1)
  else if o = (5 : Int32) then mf_Tw_toDouble (mf_Tw_root a)
  else if o = (6 : Int32) then mf_Tw_toDouble (mf_Tw_turned a 0)
  else if o = (7 : Int32) then mf_Tw_toDouble (mf_Tw_toDouble (mf_Tw_toFloat a))
  else if o = (8 : Int32) then mf_Tw_toDouble (mf_Tw_add (mf_Tw_toFloat a) (mf_Tw_toFloat b) 1)
  else if o = (9 : Int32) then mf_Tw_toDouble (mf_Tw_subtract (mf_Tw_toFloat a) (mf_Tw_toFloat b) 1)
  else if o = (10 : Int32) then mf_Tw_toDouble (mf_Tw_multiply (mf_Tw_toFloat a) (mf_Tw_toFloat b) 1)
  else if o = (11 : Int32) then mf_Tw_toDouble (mf_Tw_divide (mf_Tw_toFloat a) (mf_Tw_toFloat b) 1)
  else if o = (12 : Int32) then mf_Tw_toDouble (mf_Tw_rest (mf_Tw_toFloat a) (mf_Tw_toFloat b) 1)
  else if o = (14 : Int32) then mf_Tw_toDouble (mf_Tw_end a b (1 : Int32))
  else mf_Tw_toDouble (mf_Tw_end a b (0 : Int32))
def mf_Tw_cutTo_b102 (a : Int64) (lo : Int64) (hi : Int64) (x6 : Int32) (k0 : Int64) : Int64 :=
  if x6 = 0 then (if k0 ≤ hi then k0
    else hi)
  else if lo ≤ (-k0) then -k0
  else lo
def mf_Tw_cutTo_b72 (a : Int64) (lo : Int64) (hi : Int64) (x6 : Int32) (x9 : Int64) (x11 : Int32) : Int64 :=
  if x11 < 0 then (if (-62 : Int32) ≤ x11 then mf_Tw_cutTo_b102 a lo hi x6 (x9 >>> ((-x11).toInt64 &&& 63))
    else mf_Tw_cutTo_b102 a lo hi x6 (0 : Int64))
  else mf_Tw_cutTo_b102 a lo hi x6 (x9 <<< (x11.toInt64 &&& 63))
def mf_Tw_cutTo_b28 (a : Int64) (lo : Int64) (hi : Int64) (x6 : Int32) (k0 : Int64) : Int64 :=
  if (mf_Tw_isInfinite a 0) = 0 then (if (mf_Tw_power a 0) ≤ (10 : Int32) then mf_Tw_cutTo_b72 a lo hi x6 (mf_Tw_whole a 0) (mf_Tw_power a 0)
    else if (mf_Tw_whole a 0) = 0 then mf_Tw_cutTo_b72 a lo hi x6 (mf_Tw_whole a 0) (mf_Tw_power a 0)
    else k0)
  else k0
def mf_Tw_cutTo (a : Int64) (lo : Int64) (hi : Int64) : Int64 :=
  if (mf_Tw_isNone a 0) = 0 then (if (mf_Tw_minus a 0) = 0 then mf_Tw_cutTo_b28 a lo hi (mf_Tw_minus a 0) hi
    else mf_Tw_cutTo_b28 a lo hi (mf_Tw_minus a 0) lo)
  else (0 : Int64)
