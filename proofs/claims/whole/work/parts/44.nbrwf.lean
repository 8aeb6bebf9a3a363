def mf_Nb_keep (f : Nat → Int64) (k : Int32) (a : Int64) : Int32 × (Nat → Int64) :=
  if (mf_Nb_isStore k) = 0 then ((-1 : Int32), f)
  else ((0 : Int32), vp_updL f k.toNatClampNeg (mf_Fo_told 1 a))
def mf_Nb_reckon (f : Nat → Int64) (o : Int32) (k : Int32) (x : Int32) (y : Int32) : Int64 × (Nat → Int64) :=
  if o < 0 then ((1 : Int64), f)
  else if (14 : Int32) < o then ((1 : Int64), f)
  else if (mf_Nb_isStore k) = 0 then ((1 : Int64), f)
  else if (mf_Nb_isStore x) = 0 then ((1 : Int64), f)
  else if (mf_Nb_isStore y) = 0 then ((1 : Int64), f)
  else ((vp_updL f k.toNatClampNeg (mf_Nb_reckoned o (f x.toNatClampNeg) (f y.toNatClampNeg))) k.toNatClampNeg, vp_updL f k.toNatClampNeg (mf_Nb_reckoned o (f x.toNatClampNeg) (f y.toNatClampNeg)))
def mf_Nb_whole (f : Nat → Int64) (k : Int32) (n : Int32) (a : Int64) : Int64 × (Nat → Int64) :=
  if (mf_Nb_isStore k) = 0 then ((1 : Int64), f)
  else if n < 0 then ((1 : Int64), f)
  else if n ≤ (1 : Int32) then (if n = 0 then ((vp_updL f k.toNatClampNeg (mf_Fo_ofWhole 1 a)) k.toNatClampNeg, vp_updL f k.toNatClampNeg (mf_Fo_ofWhole 1 a))
    else ((vp_updL f k.toNatClampNeg (mf_Nb_widened (mf_Fo_ofWhole 0 a))) k.toNatClampNeg, vp_updL f k.toNatClampNeg (mf_Nb_widened (mf_Fo_ofWhole 0 a))))
  else ((1 : Int64), f)
def mf_Nb_fromSingle (f : Nat → Int64) (k : Int32) (n : Int32) : Int64 × (Nat → Int64) :=
  if (mf_Nb_isStore k) = 0 then ((1 : Int64), f)
  else ((vp_updL f k.toNatClampNeg (mf_Nb_widened (n.toInt64 &&& (4294967295 : Int64)))) k.toNatClampNeg, vp_updL f k.toNatClampNeg (mf_Nb_widened (n.toInt64 &&& (4294967295 : Int64))))
