def mf_Tw_keep (f : Nat → Int64) (k : Int32) (a : Int64) : Int32 × (Nat → Int64) :=
  if (mf_Tw_in k (8 : Int32)) = 0 then ((-1 : Int32), f)
  else ((0 : Int32), vp_updL f k.toNatClampNeg a)
def mf_Tw_reckon (f : Nat → Int64) (o : Int32) (k : Int32) (x : Int32) (y : Int32) : Int64 × (Nat → Int64) :=
  if (mf_Tw_in o (15 : Int32)) = 0 then ((1 : Int64), f)
  else if (mf_Tw_in k (8 : Int32)) = 0 then ((1 : Int64), f)
  else if (mf_Tw_in x (8 : Int32)) = 0 then ((1 : Int64), f)
  else if (mf_Tw_in y (8 : Int32)) = 0 then ((1 : Int64), f)
  else (mf_Tw_told ((vp_updL f k.toNatClampNeg (mf_Tw_reckoned o (f x.toNatClampNeg) (f y.toNatClampNeg))) k.toNatClampNeg), vp_updL f k.toNatClampNeg (mf_Tw_reckoned o (f x.toNatClampNeg) (f y.toNatClampNeg)))
def mf_Tw_wholeM (f : Nat → Int64) (k : Int32) (n : Int32) (a : Int64) : Int64 × (Nat → Int64) :=
  if (mf_Tw_in k (8 : Int32)) = 0 then ((1 : Int64), f)
  else if (mf_Tw_in n (2 : Int32)) = 0 then ((1 : Int64), f)
  else if a = (-9223372036854775808 : Int64) then (if n = 0 then (mf_Tw_told ((vp_updL f k.toNatClampNeg (mf_Tw_exact (1 : Int32) (4611686018427387904 : Int64) (1 : Int32) (n.toNatClampNeg))) k.toNatClampNeg), vp_updL f k.toNatClampNeg (mf_Tw_exact (1 : Int32) (4611686018427387904 : Int64) (1 : Int32) (n.toNatClampNeg)))
    else (mf_Tw_told ((vp_updL f k.toNatClampNeg (mf_Tw_toDouble (mf_Tw_exact (1 : Int32) (4611686018427387904 : Int64) (1 : Int32) (n.toNatClampNeg)))) k.toNatClampNeg), vp_updL f k.toNatClampNeg (mf_Tw_toDouble (mf_Tw_exact (1 : Int32) (4611686018427387904 : Int64) (1 : Int32) (n.toNatClampNeg)))))
  else if 0 ≤ a then (if n = 0 then (mf_Tw_told ((vp_updL f k.toNatClampNeg (mf_Tw_exact (0 : Int32) (if 0 < a then a else -a) (0 : Int32) (n.toNatClampNeg))) k.toNatClampNeg), vp_updL f k.toNatClampNeg (mf_Tw_exact (0 : Int32) (if 0 < a then a else -a) (0 : Int32) (n.toNatClampNeg)))
    else (mf_Tw_told ((vp_updL f k.toNatClampNeg (mf_Tw_toDouble (mf_Tw_exact (0 : Int32) (if 0 < a then a else -a) (0 : Int32) (n.toNatClampNeg)))) k.toNatClampNeg), vp_updL f k.toNatClampNeg (mf_Tw_toDouble (mf_Tw_exact (0 : Int32) (if 0 < a then a else -a) (0 : Int32) (n.toNatClampNeg)))))
  else if n = 0 then (mf_Tw_told ((vp_updL f k.toNatClampNeg (mf_Tw_exact (1 : Int32) (if 0 < a then a else -a) (0 : Int32) (n.toNatClampNeg))) k.toNatClampNeg), vp_updL f k.toNatClampNeg (mf_Tw_exact (1 : Int32) (if 0 < a then a else -a) (0 : Int32) (n.toNatClampNeg)))
  else (mf_Tw_told ((vp_updL f k.toNatClampNeg (mf_Tw_toDouble (mf_Tw_exact (1 : Int32) (if 0 < a then a else -a) (0 : Int32) (n.toNatClampNeg)))) k.toNatClampNeg), vp_updL f k.toNatClampNeg (mf_Tw_toDouble (mf_Tw_exact (1 : Int32) (if 0 < a then a else -a) (0 : Int32) (n.toNatClampNeg))))
def mf_Tw_fromSingle (f : Nat → Int64) (k : Int32) (n : Int32) : Int64 × (Nat → Int64) :=
  if (mf_Tw_in k (8 : Int32)) = 0 then ((1 : Int64), f)
  else (mf_Tw_told ((vp_updL f k.toNatClampNeg (mf_Tw_toDouble (mf_Tw_floatOf n))) k.toNatClampNeg), vp_updL f k.toNatClampNeg (mf_Tw_toDouble (mf_Tw_floatOf n)))
