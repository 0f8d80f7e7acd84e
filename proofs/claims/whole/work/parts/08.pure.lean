/-! ===== the numbers ===== -/
def mMod (x : Int32) : Int32 := x - x / nI 997 * nI 997
def mLeaf (d t : Int32) : Int32 := mMod ((nI 37 * t) + (nI 101 * (d + nI 1)))
def mJoin (a b p : Int32) : Int32 := mMod (((nI 61 * a) + (nI 89 * b)) + p)
