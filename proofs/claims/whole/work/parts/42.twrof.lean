def mf_Tw_sum_b29 (f : Nat → Int64) (w : Int32) : Nat → Int64 → Int64 → Int32 → Int32 → Int64
  | 0, _, _, _, _ => 0
  | fuel + 1, x2, x4, x7, x8 => if x7 ≤ x8 then (if w = (1 : Int32) then mf_Tw_told (mf_Tw_toDouble x2)
      else mf_Tw_told x2)
    else if w = 0 then (if w = (1 : Int32) then (if (2 : Int32) ≤ w then mf_Tw_sum_b29 f w fuel (mf_Tw_add2 (mf_Tw_add (mf_Tw_add2 x2 (f x8.toNatClampNeg)) (mf_Tw_toFloat (f x8.toNatClampNeg)) 1) (mf_Tw_subtract2 (f x8.toNatClampNeg) x4)) (mf_Tw_subtract2 (mf_Tw_subtract2 (mf_Tw_add2 (mf_Tw_add (mf_Tw_add2 x2 (f x8.toNatClampNeg)) (mf_Tw_toFloat (f x8.toNatClampNeg)) 1) (mf_Tw_subtract2 (f x8.toNatClampNeg) x4)) (mf_Tw_add (mf_Tw_add2 x2 (f x8.toNatClampNeg)) (mf_Tw_toFloat (f x8.toNatClampNeg)) 1)) (mf_Tw_subtract2 (f x8.toNatClampNeg) x4)) x7 (x8 + (1 : Int32))
        else mf_Tw_sum_b29 f w fuel (mf_Tw_add (mf_Tw_add2 x2 (f x8.toNatClampNeg)) (mf_Tw_toFloat (f x8.toNatClampNeg)) 1) x4 x7 (x8 + (1 : Int32)))
      else if (2 : Int32) ≤ w then mf_Tw_sum_b29 f w fuel (mf_Tw_add2 (mf_Tw_add2 x2 (f x8.toNatClampNeg)) (mf_Tw_subtract2 (f x8.toNatClampNeg) x4)) (mf_Tw_subtract2 (mf_Tw_subtract2 (mf_Tw_add2 (mf_Tw_add2 x2 (f x8.toNatClampNeg)) (mf_Tw_subtract2 (f x8.toNatClampNeg) x4)) (mf_Tw_add2 x2 (f x8.toNatClampNeg))) (mf_Tw_subtract2 (f x8.toNatClampNeg) x4)) x7 (x8 + (1 : Int32))
      else mf_Tw_sum_b29 f w fuel (mf_Tw_add2 x2 (f x8.toNatClampNeg)) x4 x7 (x8 + (1 : Int32)))
    else if w = (1 : Int32) then (if (2 : Int32) ≤ w then mf_Tw_sum_b29 f w fuel (mf_Tw_add2 (mf_Tw_add x2 (mf_Tw_toFloat (f x8.toNatClampNeg)) 1) (mf_Tw_subtract2 (f x8.toNatClampNeg) x4)) (mf_Tw_subtract2 (mf_Tw_subtract2 (mf_Tw_add2 (mf_Tw_add x2 (mf_Tw_toFloat (f x8.toNatClampNeg)) 1) (mf_Tw_subtract2 (f x8.toNatClampNeg) x4)) (mf_Tw_add x2 (mf_Tw_toFloat (f x8.toNatClampNeg)) 1)) (mf_Tw_subtract2 (f x8.toNatClampNeg) x4)) x7 (x8 + (1 : Int32))
      else mf_Tw_sum_b29 f w fuel (mf_Tw_add x2 (mf_Tw_toFloat (f x8.toNatClampNeg)) 1) x4 x7 (x8 + (1 : Int32)))
    else if (2 : Int32) ≤ w then mf_Tw_sum_b29 f w fuel (mf_Tw_add2 x2 (mf_Tw_subtract2 (f x8.toNatClampNeg) x4)) (mf_Tw_subtract2 (mf_Tw_subtract2 (mf_Tw_add2 x2 (mf_Tw_subtract2 (f x8.toNatClampNeg) x4)) x2) (mf_Tw_subtract2 (f x8.toNatClampNeg) x4)) x7 (x8 + (1 : Int32))
    else mf_Tw_sum_b29 f w fuel x2 x4 x7 (x8 + (1 : Int32))
def mf_Tw_sum (f : Nat → Int64) (w : Int32) : Int64 :=
  if (mf_Tw_in w (3 : Int32)) = 0 then (1 : Int64)
  else mf_Tw_sum_b29 f w ((((8 : Int32).toInt - (0 : Int32).toInt).toNat) + 1) (0 : Int64) (0 : Int64) (8 : Int32) (0 : Int32)
def mf_Tw_cast (f : Nat → Int64) (k : Int32) (n : Int32) : Int64 :=
  if (mf_Tw_in k (8 : Int32)) = 0 then (4611686018427387904 : Int64)
  else if (mf_Tw_in n (5 : Int32)) = 0 then (4611686018427387904 : Int64)
  else if n = (1 : Int32) then mf_Tw_cutTo (f k.toNatClampNeg) (-9223372036854775808 : Int64) (9223372036854775807 : Int64)
  else if n = 0 then ((mf_Tw_cutTo (f k.toNatClampNeg) (-2147483648 : Int64) (2147483647 : Int64)).toInt32).toInt64
  else if n = (2 : Int32) then (((mf_Tw_cutTo (f k.toNatClampNeg) (-2147483648 : Int64) (2147483647 : Int64)).toInt32).toInt16.toInt32).toInt64
  else if n = (3 : Int32) then ((((mf_Tw_cutTo (f k.toNatClampNeg) (-2147483648 : Int64) (2147483647 : Int64)).toInt32).toUInt32 % 65536).toInt32).toInt64
  else (((mf_Tw_cutTo (f k.toNatClampNeg) (-2147483648 : Int64) (2147483647 : Int64)).toInt32).toInt8.toInt32).toInt64
def mf_Tw_compare (f : Nat → Int64) (k : Int32) (n : Int32) : Int32 :=
  if (mf_Tw_in k (8 : Int32)) = 0 then (-1 : Int32)
  else if (mf_Tw_in n (8 : Int32)) = 0 then (-1 : Int32)
  else if (mf_Tw_order (f k.toNatClampNeg) (f n.toNatClampNeg)) = (-1 : Int32) then (11 : Int32)
  else if (mf_Tw_order (f k.toNatClampNeg) (f n.toNatClampNeg)) = (0 : Int32) then (22 : Int32)
  else if (mf_Tw_order (f k.toNatClampNeg) (f n.toNatClampNeg)) = (1 : Int32) then (56 : Int32)
  else (8 : Int32)
def mf_Tw_horner_b23 (f : Nat → Int64) (k : Int32) : Nat → Int64 → Int32 → Int64
  | 0, _, _ => 0
  | fuel + 1, x2, x4 => if x4 < 0 then mf_Tw_told x2
    else mf_Tw_horner_b23 f k fuel (mf_Tw_add2 (mf_Tw_multiply2 x2 (f k.toNatClampNeg)) (f x4.toNatClampNeg)) (x4 + (-1 : Int32))
def mf_Tw_horner (f : Nat → Int64) (k : Int32) : Int64 :=
  if (mf_Tw_in k (8 : Int32)) = 0 then (1 : Int64)
  else mf_Tw_horner_b23 f k ((((6 : Int32).toInt + 1).toNat) + 1) (f (7 : Int32).toNatClampNeg) (6 : Int32)
def mf_Tw_single (f : Nat → Int64) (k : Int32) : Int32 :=
  if (mf_Tw_in k (8 : Int32)) = 0 then (1 : Int32)
  else (mf_Tw_toFloat (f k.toNatClampNeg)).toInt32
