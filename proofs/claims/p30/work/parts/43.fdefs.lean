/-! the bits of shares and means: both ways of reading them, as functions that may fail -/
def cD (x y : UInt64) (op : CmpOp) : Int := (Op.cmpValue (FP.dcmp x y) op).toInt
theorem cD_r (x y : UInt64) (op : CmpOp) : inR (cD x y op) := cmp_r _
