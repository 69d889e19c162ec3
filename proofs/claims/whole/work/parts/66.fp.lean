/-! floats and doubles of small whole numbers -/
def fI (n : Int) : UInt32 := FP.i2f (Int32.ofInt n)
def dI (n : Int) : UInt64 := FP.i2d (Int32.ofInt n)
theorem fl_pos {n : Int} (h0 : 0 ≤ n) (h1 : n ≤ 1000000) : (Op.cmpValue (FP.fcmp (fI n) (UInt32.ofNat 0)) .g).toInt = if 0 < n then 1 else 0 := fq_pos h0 h1
theorem fl_div {a b : Int} (ha : 0 ≤ a ∧ a ≤ 1000000) (hb : 0 < b ∧ b ≤ 1000000) : zn32 (FP.fdiv (fI a) (fI b)) = true := fq_div ha hb
theorem fl_f2d {x : UInt32} (h : zn32 x = true) : zn64 (FP.f2d x) = true := fq_f2d h
theorem fl_deq {y : UInt64} (h : zn64 y = true) : FP.dcmp y y = some .eq := fq_deq h
theorem dl_pos {n : Int} (h0 : 0 ≤ n) (h1 : n ≤ 1000000) : (Op.cmpValue (FP.dcmp (dI n) (UInt64.ofNat 0)) .g).toInt = if 0 < n then 1 else 0 := dq_pos h0 h1
theorem dl_div {a b : Int} (ha : 0 ≤ a ∧ a ≤ 1000000) (hb : 0 < b ∧ b ≤ 1000000) : zn64 (FP.ddiv (dI a) (dI b)) = true := dq_div ha hb
theorem fl_l2f {n : Int} (h0 : 0 ≤ n) (h1 : n ≤ 1000000) : FP.l2f (Int64.ofInt n) = fI n := fq_l2f h0 h1
