def mf_Nb_plainSum_b4 (f : Nat → Int64) : Nat → Int64 → Int32 → Int64
  | 0, _, _ => 0
  | fuel + 1, x1, x3 => if (8 : Int32) ≤ x3 then x1
    else mf_Nb_plainSum_b4 f fuel (mf_Fo_plus 1 x1 (f x3.toNatClampNeg)) (x3 + (1 : Int32))
def mf_Nb_plainSum (f : Nat → Int64) : Int64 :=
  mf_Nb_plainSum_b4 f ((((8 : Int32).toInt - (0 : Int32).toInt).toNat) + 1) (0 : Int64) (0 : Int32)
def mf_Nb_floatSum_b4 (f : Nat → Int64) : Nat → Int64 → Int32 → Int64
  | 0, _, _ => 0
  | fuel + 1, x1, x3 => if (8 : Int32) ≤ x3 then mf_Nb_widened x1
    else mf_Nb_floatSum_b4 f fuel (mf_Fo_plus 0 x1 (mf_Nb_narrowed (f x3.toNatClampNeg))) (x3 + (1 : Int32))
def mf_Nb_floatSum (f : Nat → Int64) : Int64 :=
  mf_Nb_floatSum_b4 f ((((8 : Int32).toInt - (0 : Int32).toInt).toNat) + 1) (0 : Int64) (0 : Int32)
def mf_Nb_sumKeeping_b7 (f : Nat → Int64) : Nat → Int64 → Int64 → Int32 → Int64
  | 0, _, _, _ => 0
  | fuel + 1, x1, x3, x5 => if (8 : Int32) ≤ x5 then x1
    else mf_Nb_sumKeeping_b7 f fuel (mf_Fo_plus 1 x1 (mf_Fo_minus 1 (f x5.toNatClampNeg) x3)) (mf_Fo_minus 1 (mf_Fo_minus 1 (mf_Fo_plus 1 x1 (mf_Fo_minus 1 (f x5.toNatClampNeg) x3)) x1) (mf_Fo_minus 1 (f x5.toNatClampNeg) x3)) (x5 + (1 : Int32))
def mf_Nb_sumKeeping (f : Nat → Int64) : Int64 :=
  mf_Nb_sumKeeping_b7 f ((((8 : Int32).toInt - (0 : Int32).toInt).toNat) + 1) (0 : Int64) (0 : Int64) (0 : Int32)
def mf_Nb_sum (f : Nat → Int64) (w : Int32) : Int64 :=
  if w = (0 : Int32) then mf_Nb_plainSum f
  else if w = (1 : Int32) then mf_Nb_floatSum f
  else if w = (2 : Int32) then mf_Nb_sumKeeping f
  else (1 : Int64)
def mf_Nb_cast (f : Nat → Int64) (k : Int32) (n : Int32) : Int64 :=
  if (mf_Nb_isStore k) = 0 then (4611686018427387904 : Int64)
  else if n = (0 : Int32) then ((if (if (mf_Fo_cut 1 (f k.toNatClampNeg)) < (2147483647 : Int64) then (mf_Fo_cut 1 (f k.toNatClampNeg)) else (2147483647 : Int64)) < (-2147483648 : Int64) then (-2147483648 : Int64) else (if (mf_Fo_cut 1 (f k.toNatClampNeg)) < (2147483647 : Int64) then (mf_Fo_cut 1 (f k.toNatClampNeg)) else (2147483647 : Int64))).toInt32).toInt64
  else if n = (1 : Int32) then mf_Fo_cut 1 (f k.toNatClampNeg)
  else if n = (2 : Int32) then (((if (if (mf_Fo_cut 1 (f k.toNatClampNeg)) < (2147483647 : Int64) then (mf_Fo_cut 1 (f k.toNatClampNeg)) else (2147483647 : Int64)) < (-2147483648 : Int64) then (-2147483648 : Int64) else (if (mf_Fo_cut 1 (f k.toNatClampNeg)) < (2147483647 : Int64) then (mf_Fo_cut 1 (f k.toNatClampNeg)) else (2147483647 : Int64))).toInt32).toInt16.toInt32).toInt64
  else if n = (3 : Int32) then ((((if (if (mf_Fo_cut 1 (f k.toNatClampNeg)) < (2147483647 : Int64) then (mf_Fo_cut 1 (f k.toNatClampNeg)) else (2147483647 : Int64)) < (-2147483648 : Int64) then (-2147483648 : Int64) else (if (mf_Fo_cut 1 (f k.toNatClampNeg)) < (2147483647 : Int64) then (mf_Fo_cut 1 (f k.toNatClampNeg)) else (2147483647 : Int64))).toInt32).toUInt32 % 65536).toInt32).toInt64
  else if n = (4 : Int32) then (((if (if (mf_Fo_cut 1 (f k.toNatClampNeg)) < (2147483647 : Int64) then (mf_Fo_cut 1 (f k.toNatClampNeg)) else (2147483647 : Int64)) < (-2147483648 : Int64) then (-2147483648 : Int64) else (if (mf_Fo_cut 1 (f k.toNatClampNeg)) < (2147483647 : Int64) then (mf_Fo_cut 1 (f k.toNatClampNeg)) else (2147483647 : Int64))).toInt32).toInt8.toInt32).toInt64
  else (4611686018427387904 : Int64)
def mf_Nb_compare (f : Nat → Int64) (k : Int32) (n : Int32) : Int32 :=
  if (mf_Nb_isStore k) = 0 then (-1 : Int32)
  else if (mf_Nb_isStore n) = 0 then (-1 : Int32)
  else mf_Nb_relations (f k.toNatClampNeg) (f n.toNatClampNeg)
def mf_Nb_horner_b21 (f : Nat → Int64) (k : Int32) : Nat → Int64 → Int32 → Int64
  | 0, _, _ => 0
  | fuel + 1, x2, x4 => if x4 < 0 then x2
    else mf_Nb_horner_b21 f k fuel (mf_Fo_plus 1 (mf_Fo_times 1 x2 (f k.toNatClampNeg)) (f x4.toNatClampNeg)) (x4 + (-1 : Int32))
def mf_Nb_horner (f : Nat → Int64) (k : Int32) : Int64 :=
  if (mf_Nb_isStore k) = 0 then (1 : Int64)
  else mf_Nb_horner_b21 f k ((((6 : Int32).toInt + 1).toNat) + 1) (f (7 : Int32).toNatClampNeg) (6 : Int32)
def mf_Nb_single (f : Nat → Int64) (k : Int32) : Int32 :=
  if (mf_Nb_isStore k) = 0 then (1 : Int32)
  else (mf_Nb_narrowed (f k.toNatClampNeg)).toInt32
