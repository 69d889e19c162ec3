/-! floats and doubles: NaN by the bits; quotients of whole numbers; comparisons -/
theorem fq32 (a : UInt32) : decide (a &&& 0x7fffffff ≤ 0x7f800000) = true ↔ Jvm.FP.Core.fIsNaN a = false := by
  rw [decide_eq_true_iff, UInt32.le_iff_toNat_le, UInt32.toNat_and]
  have e : (0x7fffffff : UInt32).toNat = 2 ^ 31 - 1 := by decide
  have e2 : (0x7f800000 : UInt32).toNat = 2139095040 := by decide
  rw [e, e2, Nat.and_two_pow_sub_one_eq_mod]
  have h := Jvm.FP.Core.isNaN_bits32 a
  cases hn : Jvm.FP.Core.fIsNaN a with
  | true =>
    rw [hn] at h
    have := h.mp rfl
    exact ⟨fun h2 => absurd h2 (by omega), fun h2 => by cases h2⟩
  | false =>
    rw [hn] at h
    exact ⟨fun _ => rfl, fun _ => Nat.not_lt.mp (fun hc => by have := h.mpr hc; cases this)⟩
theorem fq64 (a : UInt64) : decide (a &&& 0x7fffffffffffffff ≤ 0x7ff0000000000000) = true ↔ Jvm.FP.Core.dIsNaN a = false := by
  rw [decide_eq_true_iff, UInt64.le_iff_toNat_le, UInt64.toNat_and]
  have e : (0x7fffffffffffffff : UInt64).toNat = 2 ^ 63 - 1 := by decide
  have e2 : (0x7ff0000000000000 : UInt64).toNat = 9218868437227405312 := by decide
  rw [e, e2, Nat.and_two_pow_sub_one_eq_mod]
  have h := Jvm.FP.Core.isNaN_bits a
  cases hn : Jvm.FP.Core.dIsNaN a with
  | true =>
    rw [hn] at h
    have := h.mp rfl
    exact ⟨fun h2 => absurd h2 (by omega), fun h2 => by cases h2⟩
  | false =>
    rw [hn] at h
    exact ⟨fun _ => rfl, fun _ => Nat.not_lt.mp (fun hc => by have := h.mpr hc; cases this)⟩
theorem fq_toInt {n : Int} (h0 : 0 ≤ n) (h1 : n ≤ 1000000) : (Int32.ofInt n).toInt = n := Int32.toInt_ofInt_of_le (by omega) (by omega)
theorem fq_toLong {n : Int} (h0 : 0 ≤ n) (h1 : n ≤ 1000000) : (Int64.ofInt n).toInt = n := Int64.toInt_ofInt_of_le (by omega) (by omega)
theorem fq_ne {n : Int} (h0 : 0 < n) (h1 : n ≤ 1000000) : Int32.ofInt n ≠ 0 := fun h => by
  have := fq_toInt (n := n) (by omega) h1
  rw [h] at this
  have e : (0 : Int32).toInt = 0 := by decide
  omega
theorem fq_div {a b : Int} (ha : 0 ≤ a ∧ a ≤ 1000000) (hb : 0 < b ∧ b ≤ 1000000) : decide (FP.fdiv (FP.i2f (Int32.ofInt a)) (FP.i2f (Int32.ofInt b)) &&& 0x7fffffff ≤ 0x7f800000) = true := by
  refine (fq32 _).mpr (Jvm.FP.Core.fdiv_out (Jvm.FP.Core.i2f_fin _).notNaN (Jvm.FP.Core.i2f_fin _) (fun hz => ?_))
  exact Jvm.FP.Core.i2f_ne_zero (fq_ne hb.1 hb.2) ((Jvm.FP.Core.zero_bits232 _).mp hz)
theorem dq_div {a b : Int} (ha : 0 ≤ a ∧ a ≤ 1000000) (hb : 0 < b ∧ b ≤ 1000000) : decide (FP.ddiv (FP.i2d (Int32.ofInt a)) (FP.i2d (Int32.ofInt b)) &&& 0x7fffffffffffffff ≤ 0x7ff0000000000000) = true := by
  refine (fq64 _).mpr (Jvm.FP.Core.ddiv_out (Jvm.FP.Core.i2d_fin _).notNaN (Jvm.FP.Core.i2d_fin _) (fun hz => ?_))
  exact Jvm.FP.Core.i2d_ne_zero (fq_ne hb.1 hb.2) ((Jvm.FP.Core.zero_bits2 _).mp hz)
theorem fq_f2d {x : UInt32} (h : decide (x &&& 0x7fffffff ≤ 0x7f800000) = true) : decide (FP.f2d x &&& 0x7fffffffffffffff ≤ 0x7ff0000000000000) = true :=
  (fq64 _).mpr ((Jvm.FP.f2d_nan x).trans ((fq32 x).mp h))
theorem fq_deq {y : UInt64} (h : decide (y &&& 0x7fffffffffffffff ≤ 0x7ff0000000000000) = true) : FP.dcmp y y = some .eq :=
  Jvm.FP.Core.dcmp_self ((Jvm.FP.Core.notNaN_iff y).mp ((fq64 y).mp h))
theorem fq_cmp {n : Int} (h0 : 0 ≤ n) : (Op.cmpValue (some (compare n 0)) .g).toInt = if 0 < n then 1 else 0 := by
  by_cases h : 0 < n
  · rw [if_pos h, show compare n 0 = .gt from Int.compare_eq_gt.mpr h]
    decide
  · rw [if_neg h, show n = 0 by omega]
    decide
theorem fq_zero : FP.i2f 0 = UInt32.ofNat 0 := by decide +kernel
theorem dq_zero : FP.i2d 0 = UInt64.ofNat 0 := by decide +kernel
theorem fq_pos {n : Int} (h0 : 0 ≤ n) (h1 : n ≤ 1000000) : (Op.cmpValue (FP.fcmp (FP.i2f (Int32.ofInt n)) (UInt32.ofNat 0)) .g).toInt = if 0 < n then 1 else 0 := by
  have a := Jvm.FP.Core.i2f_int (a := Int32.ofInt n) (by rw [fq_toInt h0 h1]; omega)
  have b := Jvm.FP.Core.i2f_int (a := 0) (by decide)
  rw [fq_toInt h0 h1] at a
  have e : (0 : Int32).toInt = 0 := by decide
  rw [e] at b
  rw [← fq_zero, show FP.fcmp (FP.i2f (Int32.ofInt n)) (FP.i2f 0) = some (compare n 0) from Jvm.FP.Core.fcmp_int a b]
  exact fq_cmp h0
theorem dq_pos {n : Int} (h0 : 0 ≤ n) (h1 : n ≤ 1000000) : (Op.cmpValue (FP.dcmp (FP.i2d (Int32.ofInt n)) (UInt64.ofNat 0)) .g).toInt = if 0 < n then 1 else 0 := by
  have a := Jvm.FP.Core.i2d_int (Int32.ofInt n)
  have b := Jvm.FP.Core.i2d_int 0
  rw [fq_toInt h0 h1] at a
  have e : (0 : Int32).toInt = 0 := by decide
  rw [e] at b
  rw [← dq_zero, show FP.dcmp (FP.i2d (Int32.ofInt n)) (FP.i2d 0) = some (compare n 0) from Jvm.FP.Core.dcmp_int a b]
  exact fq_cmp h0
theorem fq_l2f {n : Int} (h0 : 0 ≤ n) (h1 : n ≤ 1000000) : FP.l2f (Int64.ofInt n) = FP.i2f (Int32.ofInt n) := by
  show UInt32.ofNat (Jvm.FP.Core.fromInt Jvm.FP.Core.b32 (Int64.ofInt n).toInt) = UInt32.ofNat (Jvm.FP.Core.fromInt Jvm.FP.Core.b32 (Int32.ofInt n).toInt)
  rw [fq_toInt h0 h1, fq_toLong h0 h1]
