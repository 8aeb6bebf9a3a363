def mf_Jd_inlz_b61 (x : Int32) (x0 : Int32) (x1 : Int32) : Int32 :=
  if x0 < (4 : Int32) then x1 - ((x0.toUInt32 >>> ((1 : Int32).toUInt32 &&& Int32.toUInt32 31)).toInt32)
  else (x1 + (-2 : Int32)) - ((((x0.toUInt32 >>> ((2 : Int32).toUInt32 &&& Int32.toUInt32 31)).toInt32).toUInt32 >>> ((1 : Int32).toUInt32 &&& Int32.toUInt32 31)).toInt32)
def mf_Jd_inlz_b48 (x : Int32) (x0 : Int32) (x1 : Int32) : Int32 :=
  if x0 < (16 : Int32) then mf_Jd_inlz_b61 x x0 x1
  else mf_Jd_inlz_b61 x ((x0.toUInt32 >>> ((4 : Int32).toUInt32 &&& Int32.toUInt32 31)).toInt32) (x1 + (-4 : Int32))
def mf_Jd_inlz_b33 (x : Int32) (x0 : Int32) (x1 : Int32) : Int32 :=
  if x0 < (256 : Int32) then mf_Jd_inlz_b48 x x0 x1
  else mf_Jd_inlz_b48 x ((x0.toUInt32 >>> ((8 : Int32).toUInt32 &&& Int32.toUInt32 31)).toInt32) (x1 + (-8 : Int32))
def mf_Jd_inlz (x : Int32) : Int32 :=
  if 0 < x then (if x < (65536 : Int32) then mf_Jd_inlz_b33 x x (31 : Int32)
    else mf_Jd_inlz_b33 x ((x.toUInt32 >>> ((16 : Int32).toUInt32 &&& Int32.toUInt32 31)).toInt32) ((31 : Int32) + (-16 : Int32)))
  else if x = 0 then (32 : Int32)
  else (0 : Int32)
def mf_Jd_lnlz (x : Int64) : Int32 :=
  if (((x.toUInt64 >>> ((32 : Int32).toInt64.toUInt64 &&& Int64.toUInt64 63)).toInt64).toInt32) = 0 then (32 : Int32) + (mf_Jd_inlz x.toInt32)
  else mf_Jd_inlz (((x.toUInt64 >>> ((32 : Int32).toInt64.toUInt64 &&& Int64.toUInt64 63)).toInt64).toInt32)
def mf_Jd_lcmp (x : Int64) (y : Int64) : Int32 :=
  if y ≤ x then (if x = y then (0 : Int32)
    else (1 : Int32))
  else (-1 : Int32)
