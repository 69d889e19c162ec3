/-! floats and doubles of small whole numbers -/
def fI (n : Int) : UInt32 := FP.i2f (Int32.ofInt n)
def dI (n : Int) : UInt64 := FP.i2d (Int32.ofInt n)
theorem fl_deq {y : UInt64} (h : zn64 y = true) : FP.dcmp y y = some .eq := fq_deq h
theorem dl_pos {n : Int} (h0 : 0 ≤ n) (h1 : n ≤ 1000000) : (Op.cmpValue (FP.dcmp (dI n) (UInt64.ofNat 0)) .g).toInt = if 0 < n then 1 else 0 := dq_pos h0 h1
theorem dl_div {a b : Int} (ha : 0 ≤ a ∧ a ≤ 1000000) (hb : 0 < b ∧ b ≤ 1000000) : zn64 (FP.ddiv (dI a) (dI b)) = true := dq_div ha hb
