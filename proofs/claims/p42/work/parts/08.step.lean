/-! what the small machine's values are on the machine, and the steps that need no heap -/
def zrf (ad : Int → Nat) (z : Int) : Option Nat := if z = -1 then none else some (ad z)
def zval (ad : Int → Nat) (v : zV) : Value := match v.1 with
  | 0 => .int (Int32.ofInt v.2)
  | 1 => va_rf (zrf ad v.2)
  | 2 => .long (Int64.ofInt v.2)
  | 3 => .float (UInt32.ofNat v.2.toNat)
  | 4 => .double (UInt64.ofNat v.2.toNat)
  | _ => .null
/-- a value that is in its range, a reference that lies among n cells (or is null, or one of the two arrays that are only read) -/
def zok (n : Nat) (v : zV) : Prop := match v.1 with
  | 0 => zi32 v.2
  | 1 => v.2 = -1 ∨ v.2 = -2 ∨ v.2 = -3 ∨ (0 ≤ v.2 ∧ v.2 < n)
  | 2 => zi64 v.2
  | 3 => 0 ≤ v.2 ∧ v.2 < 4294967296
  | 4 => 0 ≤ v.2 ∧ v.2 < 18446744073709551616
  | 9 => True
  | _ => False
theorem zok_mono {n m : Nat} {v : zV} (h : zok n v) (hnm : n ≤ m) : zok m v := by
  obtain ⟨t, z⟩ := v
  match t, h with
  | 0, h => exact h
  | 1, h => simp only [zok] at h ⊢; omega
  | 2, h => exact h
  | 3, h => exact h
  | 4, h => exact h
  | 5, h => exact h
  | 6, h => exact h
  | 7, h => exact h
  | 8, h => exact h
  | 9, h => exact h
  | k + 10, h => exact h
/-- two places for the cells that agree on the first n -/
def zag (n : Nat) (ad ad' : Int → Nat) : Prop := ∀ z : Int, z < n → ad' z = ad z
theorem zval_ag {n : Nat} {ad ad' : Int → Nat} {v : zV} (h : zok n v) (ha : zag n ad ad') : zval ad' v = zval ad v := by
  obtain ⟨t, z⟩ := v
  unfold zval
  match t, h with
  | 0, _ => rfl
  | 1, h =>
    show va_rf (zrf ad' z) = va_rf (zrf ad z)
    unfold zrf
    split
    · rfl
    · rw [ha z (by simp only [zok] at h; omega)]
  | 2, _ => rfl
  | 3, _ => rfl
  | 4, _ => rfl
  | 5, _ => rfl
  | 6, _ => rfl
  | 7, _ => rfl
  | 8, _ => rfl
  | 9, _ => rfl
  | k + 10, _ => rfl
theorem zcatv (ad : Int → Nat) (v : zV) : (zval ad v).category = if v.1 = 2 ∨ v.1 = 4 then 2 else 1 := by
  obtain ⟨t, z⟩ := v
  unfold zval
  match t with
  | 0 => rfl
  | 1 => show (va_rf (zrf ad z)).category = 1; unfold zrf; split <;> rfl
  | 2 => rfl
  | 3 => rfl
  | 4 => rfl
  | 5 => rfl
  | 6 => rfl
  | 7 => rfl
  | 8 => rfl
  | 9 => rfl
  | k + 10 => simp [Value.category]
/-- the locals that are known -/
def zlo (ad : Int → Nat) (ls : List zV) : List (Nat × Value) := (List.range ls.length).filterMap (fun j => match ls[j]? with
  | some v => if v.1 = 9 then none else some (j, zval ad v)
  | none => none)
theorem zlo_mem {ad : Int → Nat} {ls : List zV} {q : Nat × Value} : q ∈ zlo ad ls ↔ ∃ v, ls[q.1]? = some v ∧ v.1 ≠ 9 ∧ q.2 = zval ad v := by
  unfold zlo
  rw [List.mem_filterMap]
  constructor
  · rintro ⟨j, hj, h⟩
    split at h
    · rename_i v hv
      split at h
      · cases h
      · cases h; exact ⟨v, hv, by assumption, rfl⟩
    · cases h
  · rintro ⟨v, h1, h2, h3⟩
    refine ⟨q.1, List.mem_range.mpr (List.getElem?_eq_some_iff.mp h1).1, ?_⟩
    rw [h1]
    simp [h2, ← h3]
theorem zlo_at {ad : Int → Nat} {ls : List zV} {lsC : Array Slot} {n i : Nat} {v : zV} (h : lv_has lsC n (zlo ad ls)) (hi : ls[i]? = some v) (h9 : v.1 ≠ 9) : lsC[i]? = some (.val (zval ad v)) :=
  h.2.2 (i, zval ad v) (zlo_mem.mpr ⟨v, hi, h9, rfl⟩)
theorem zlo_sub {lsC : Array Slot} {n : Nat} {l l' : List (Nat × Value)} (h : lv_has lsC n l) (hs : ∀ q ∈ l', q ∈ l) : lv_has lsC n l' := ⟨h.1, h.2.1, fun q hq => h.2.2 q (hs q hq)⟩
theorem zput_len (ls : List zV) (i : Nat) (v : zV) : (zput ls i v).length = ls.length := by
  unfold zput
  split
  · simp
  · split <;> simp
theorem zput_get {ls : List zV} {i j : Nat} {v w : zV} (h : (zput ls i v)[j]? = some w) (h9 : w.1 ≠ 9) : (j = i ∧ w = v) ∨ (j ≠ i ∧ ls[j]? = some w ∧ ¬ (j + 1 = i ∧ (w.1 = 2 ∨ w.1 = 4))) := by
  have key : ∀ k : Nat, (ls.set k v)[j]? = some w → (j = k ∧ w = v) ∨ (j ≠ k ∧ ls[j]? = some w) := by
    intro k hk
    by_cases hj : k = j
    · subst hj
      by_cases hl : k < ls.length
      · rw [List.getElem?_set_self hl] at hk; cases hk; exact Or.inl ⟨rfl, rfl⟩
      · rw [List.getElem?_eq_none (by simp; omega)] at hk; cases hk
    · rw [List.getElem?_set_ne hj] at hk; exact Or.inr ⟨fun e => hj e.symm, hk⟩
  have key2 : ∀ k x, ((ls.set (k + 1) v).set k (9, x))[j]? = some w → (j = k + 1 ∧ w = v) ∨ (j ≠ k + 1 ∧ j ≠ k ∧ ls[j]? = some w) := by
    intro k x hk
    by_cases hj : k = j
    · subst hj
      by_cases hl : k < (ls.set (k + 1) v).length
      · rw [List.getElem?_set_self hl] at hk; cases hk; exact absurd rfl h9
      · rw [List.getElem?_eq_none (by simp at hl ⊢; omega)] at hk; cases hk
    · rw [List.getElem?_set_ne hj] at hk
      rcases key (k + 1) hk with ⟨a, b⟩ | ⟨a, b⟩
      · exact Or.inl ⟨a, b⟩
      · exact Or.inr ⟨a, fun e => hj e.symm, b⟩
  unfold zput at h
  split at h
  · rcases key 0 h with ⟨a, b⟩ | ⟨a, b⟩
    · exact Or.inl ⟨a, b⟩
    · exact Or.inr ⟨a, b, by omega⟩
  · rename_i k
    split at h
    · rcases key2 k 0 h with ⟨a, b⟩ | ⟨a, b, c⟩
      · exact Or.inl ⟨a, b⟩
      · exact Or.inr ⟨a, c, by omega⟩
    · rcases key2 k 0 h with ⟨a, b⟩ | ⟨a, b, c⟩
      · exact Or.inl ⟨a, b⟩
      · exact Or.inr ⟨a, c, by omega⟩
    · rename_i n2 n4
      rcases key (k + 1) h with ⟨a, b⟩ | ⟨a, b⟩
      · exact Or.inl ⟨a, b⟩
      · refine Or.inr ⟨a, b, ?_⟩
        rintro ⟨e, e2⟩
        have hj : j = k := by omega
        subst hj
        rcases e2 with e2 | e2
        · exact n2 w.2 (by rw [b]; exact congrArg some (Prod.ext e2 rfl))
        · exact n4 w.2 (by rw [b]; exact congrArg some (Prod.ext e2 rfl))
theorem zput_has {ad : Int → Nat} {ls : List zV} {lsC : Array Slot} {n i : Nat} {v : zV} (h : lv_has lsC n ((i, zval ad v) :: (zlo ad ls).filter (fun q => !(q.1 == i) && !(q.1 + 1 == i && q.2.category == 2)))) : lv_has lsC n (zlo ad (zput ls i v)) := by
  refine zlo_sub h (fun q hq => ?_)
  obtain ⟨w, h1, h2, h3⟩ := zlo_mem.mp hq
  rcases zput_get h1 h2 with ⟨a, b⟩ | ⟨a, b, c⟩
  · exact List.mem_cons.mpr (Or.inl (Prod.ext a (by rw [h3, b])))
  · refine List.mem_cons.mpr (Or.inr (List.mem_filter.mpr ⟨zlo_mem.mpr ⟨w, b, h2, h3⟩, ?_⟩))
    rw [h3, zcatv]
    simp only [Bool.and_eq_true, Bool.not_eq_true', beq_eq_false_iff_ne, ne_eq, Bool.and_eq_false_iff]
    refine ⟨a, ?_⟩
    by_cases e : q.1 + 1 = i
    · right
      rw [if_neg (fun e2 => c ⟨e, e2⟩)]
      decide
    · exact Or.inl e
theorem zput2_get {ls : List zV} {i j : Nat} {v w : zV} (h : (zput2 ls i v)[j]? = some w) (h9 : w.1 ≠ 9) : j ≠ i + 1 ∧ (zput ls i v)[j]? = some w := by
  unfold zput2 at h
  by_cases hj : i + 1 = j
  · subst hj
    by_cases hl : i + 1 < (zput ls i v).length
    · rw [List.getElem?_set_self hl] at h; cases h; exact absurd rfl h9
    · rw [List.getElem?_eq_none (by simp at hl ⊢; omega)] at h; cases h
  · rw [List.getElem?_set_ne hj] at h
    exact ⟨fun e => hj e.symm, h⟩
theorem zput2_len (ls : List zV) (i : Nat) (v : zV) : (zput2 ls i v).length = ls.length := by
  unfold zput2; rw [List.length_set, zput_len]
theorem zput2_has {ad : Int → Nat} {ls : List zV} {lsC : Array Slot} {n i : Nat} {v : zV} (h : lv_has lsC n ((i, zval ad v) :: (zlo ad ls).filter (fun q => !(q.1 == i) && (!(q.1 == i + 1) && !(q.1 + 1 == i && q.2.category == 2))))) : lv_has lsC n (zlo ad (zput2 ls i v)) := by
  refine zlo_sub h (fun q hq => ?_)
  obtain ⟨w, h1, h2, h3⟩ := zlo_mem.mp hq
  obtain ⟨hne, h1⟩ := zput2_get h1 h2
  rcases zput_get h1 h2 with ⟨a, b⟩ | ⟨a, b, c⟩
  · exact List.mem_cons.mpr (Or.inl (Prod.ext a (by rw [h3, b])))
  · refine List.mem_cons.mpr (Or.inr (List.mem_filter.mpr ⟨zlo_mem.mpr ⟨w, b, h2, h3⟩, ?_⟩))
    rw [h3, zcatv]
    simp only [Bool.and_eq_true, Bool.not_eq_true', beq_eq_false_iff_ne, ne_eq, Bool.and_eq_false_iff]
    refine ⟨a, hne, ?_⟩
    by_cases e : q.1 + 1 = i
    · right
      rw [if_neg (fun e2 => c ⟨e, e2⟩)]
      decide
    · exact Or.inl e
/-- the known locals are in their ranges -/
def zoks (n : Nat) (l : List zV) : Prop := ∀ v ∈ l, zok n v
theorem zoks_put {n i : Nat} {ls : List zV} {v : zV} (h : zoks n ls) (hv : zok n v) : zoks n (zput ls i v) := by
  intro w hw
  by_cases h9 : w.1 = 9
  · obtain ⟨t, z⟩ := w; subst h9; trivial
  · obtain ⟨j, hj⟩ := List.getElem?_of_mem hw
    rcases zput_get hj h9 with ⟨-, b⟩ | ⟨-, b, -⟩
    · rw [b]; exact hv
    · exact h w (List.mem_of_getElem? b)
theorem zoks_put2 {n i : Nat} {ls : List zV} {v : zV} (h : zoks n ls) (hv : zok n v) : zoks n (zput2 ls i v) := by
  intro w hw
  by_cases h9 : w.1 = 9
  · obtain ⟨t, z⟩ := w; subst h9; trivial
  · obtain ⟨j, hj⟩ := List.getElem?_of_mem hw
    exact zoks_put (i := i) h hv w (List.mem_of_getElem? (zput2_get hj h9).2)
-- numbers
theorem zI32 {z : Int} (h : zi32 z) : (Int32.ofInt z).toInt = z := Int32.toInt_ofInt_of_le (by unfold zi32 at h; omega) (by unfold zi32 at h; omega)
theorem zI64 {z : Int} (h : zi64 z) : (Int64.ofInt z).toInt = z := Int64.toInt_ofInt_of_le (by unfold zi64 at h; omega) (by unfold zi64 at h; omega)
theorem zi32_wrap (z : Int) : zi32 (zw32 z) := by unfold zi32 zw32; have := @Int.bmod_lt z 4294967296 (by decide); have := @Int.le_bmod z 4294967296 (by decide); omega
theorem zi64_wrap (z : Int) : zi64 (zw64 z) := by unfold zi64 zw64; have := @Int.bmod_lt z 18446744073709551616 (by decide); have := @Int.le_bmod z 18446744073709551616 (by decide); omega
theorem zofw32 (z : Int) : Int32.ofInt (zw32 z) = Int32.ofInt z := by
  apply Int32.toInt_inj.mp
  rw [zI32 (zi32_wrap z), Int32.toInt_ofInt]
  rfl
theorem zofw64 (z : Int) : Int64.ofInt (zw64 z) = Int64.ofInt z := by
  apply Int64.toInt_inj.mp
  rw [zI64 (zi64_wrap z), Int64.toInt_ofInt]
  rfl
theorem zi32_toInt (x : Int32) : zi32 x.toInt := ⟨by have := x.le_toInt; omega, by have := x.toInt_lt; omega⟩
theorem zi8 {n : Int} (h1 : -128 ≤ n) (h2 : n < 128) : (Int8.ofInt n).toInt32 = Int32.ofInt n := by
  apply Int32.toInt_inj.mp
  rw [Int8.toInt_toInt32, Int8.toInt_ofInt_of_le (by omega) (by omega), zI32 ⟨by omega, by omega⟩]
theorem zi16 {n : Int} (h1 : -32768 ≤ n) (h2 : n < 32768) : (Int16.ofInt n).toInt32 = Int32.ofInt n := by
  apply Int32.toInt_inj.mp
  rw [Int16.toInt_toInt32, Int16.toInt_ofInt_of_le (by omega) (by omega), zI32 ⟨by omega, by omega⟩]
theorem zclamp {z : Int} (h0 : 0 ≤ z) (h : z < 2147483648) : (Int32.ofInt z).toNatClampNeg = z.toNat := by
  show (Int32.ofInt z).toInt.toNat = _
  rw [zI32 ⟨by omega, by omega⟩]
theorem zvpin {z : Int} {n : Nat} (h0 : 0 ≤ z) (h : z < n) (h2 : z < 2147483648) : vp_in (Int32.ofInt z) n := by
  rw [vp_in_iff, zI32 ⟨by omega, by omega⟩]
  exact ⟨h0, h⟩
theorem zu32 (x : UInt32) : UInt32.ofNat ((x.toNat : Int).toNat) = x := by simp
theorem zu64 (x : UInt64) : UInt64.ofNat ((x.toNat : Int).toNat) = x := by simp
theorem zltI {a b : Int} (ha : zi32 a) (hb : zi32 b) : Int32.ofInt a < Int32.ofInt b ↔ a < b := by rw [Int32.lt_iff_toInt_lt, zI32 ha, zI32 hb]
theorem zleI {a b : Int} (ha : zi32 a) (hb : zi32 b) : Int32.ofInt a ≤ Int32.ofInt b ↔ a ≤ b := by rw [Int32.le_iff_toInt_le, zI32 ha, zI32 hb]
theorem zeqI {a b : Int} (ha : zi32 a) (hb : zi32 b) : Int32.ofInt a = Int32.ofInt b ↔ a = b := by rw [← Int32.toInt_inj, zI32 ha, zI32 hb]
