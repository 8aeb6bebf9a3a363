def mf_Nb_isStore (k : Int32) : Int32 :=
  if k < 0 then (0 : Int32)
  else if (8 : Int32) ≤ k then (0 : Int32)
  else (1 : Int32)
def mf_Nb_combined (i : Nat) (o : Int32) (a : Int64) (b : Int64) : Int64 :=
  if o = (0 : Int32) then mf_Fo_plus i a b
  else if o = (1 : Int32) then mf_Fo_minus i a b
  else if o = (2 : Int32) then mf_Fo_times i a b
  else if o = (3 : Int32) then mf_Fo_over i a b
  else mf_Fo_remainder i a b
def mf_Nb_narrowed (a : Int64) : Int64 :=
  mf_Fo_nearestTo 0 1 a
def mf_Nb_widened (a : Int64) : Int64 :=
  mf_Fo_nearestTo 1 0 a
def mf_Nb_root_b30 (a : Int64) : Nat → Int64 → Int32 → Int64
  | 0, _, _ => 0
  | fuel + 1, x2, x4 => if (5 : Int32) ≤ x4 then x2
    else mf_Nb_root_b30 a fuel (mf_Fo_over 1 (mf_Fo_plus 1 x2 (mf_Fo_over 1 a x2)) (4611686018427387904 : Int64)) (x4 + (1 : Int32))
def mf_Nb_root (a : Int64) : Int64 :=
  if a ≤ 0 then a
  else if a < (fo_inf 1) then mf_Nb_root_b30 a ((((5 : Int32).toInt - (0 : Int32).toInt).toNat) + 1) ((a >>> ((1 : Int32).toInt64 &&& 63)) + (2303591209400008704 : Int64)) (0 : Int32)
  else a
def mf_Nb_rank (a : Int64) : Int64 :=
  if 0 ≤ a then a
  else a ^^^ (9223372036854775807 : Int64)
def mf_Nb_less (a : Int64) (b : Int64) : Int64 :=
  if (mf_Fo_isNoNumber 1 a) = 0 then (if (mf_Fo_isNoNumber 1 b) = 0 then (if (mf_Nb_rank b) ≤ (mf_Nb_rank a) then b
      else a)
    else fo_nan 1)
  else fo_nan 1
def mf_Nb_greater (a : Int64) (b : Int64) : Int64 :=
  if (mf_Fo_isNoNumber 1 a) = 0 then (if (mf_Fo_isNoNumber 1 b) = 0 then (if (mf_Nb_rank a) ≤ (mf_Nb_rank b) then b
      else a)
    else fo_nan 1)
  else fo_nan 1
def mf_Nb_relations_b48 (a : Int64) (b : Int64) (k0 : Int32) : Int32 :=
  if a = b then (22 : Int32)
  else if k0 = 0 then (if (mf_Nb_rank b) ≤ (mf_Nb_rank a) then (56 : Int32)
    else (11 : Int32))
  else (22 : Int32)
def mf_Nb_relations_b47 (a : Int64) (b : Int64)  : Int32 :=
  mf_Nb_relations_b48 a b (0 : Int32)
def mf_Nb_relations (a : Int64) (b : Int64) : Int32 :=
  if (mf_Fo_isNoNumber 1 a) = 0 then (if (mf_Fo_isNoNumber 1 b) = 0 then (if (mf_Fo_isZero 1 a) = 0 then mf_Nb_relations_b47 a b 
      else if (mf_Fo_isZero 1 b) = 0 then mf_Nb_relations_b47 a b 
      else mf_Nb_relations_b48 a b (1 : Int32))
    else (8 : Int32))
  else (8 : Int32)
def mf_Nb_reckoned_b49 (o : Int32) (a : Int64) (b : Int64)  : Int64 :=
  if o = (5 : Int32) then mf_Nb_root a
  else if o = (6 : Int32) then mf_Fo_negated 1 a
  else if o = (7 : Int32) then mf_Nb_widened (mf_Nb_narrowed a)
  else if o = (8 : Int32) then mf_Nb_greater a b
  else if o = (9 : Int32) then mf_Nb_greater a b
  else if o = (10 : Int32) then mf_Nb_greater a b
  else if o = (11 : Int32) then mf_Nb_greater a b
  else if o = (12 : Int32) then mf_Nb_greater a b
  else if o = (13 : Int32) then mf_Nb_less a b
  else mf_Nb_greater a b
def mf_Nb_reckoned (o : Int32) (a : Int64) (b : Int64) : Int64 :=
  if (4 : Int32) < o then (if o < (8 : Int32) then mf_Nb_reckoned_b49 o a b 
    else if (12 : Int32) < o then mf_Nb_reckoned_b49 o a b 
    else mf_Nb_widened (mf_Nb_combined 0 (o - (8 : Int32)) (mf_Nb_narrowed a) (mf_Nb_narrowed b)))
  else mf_Nb_combined 1 o a b
