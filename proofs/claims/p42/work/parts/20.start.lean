/-! the law's entry -/
theorem znw_all : zNW.all (fun w => zwarm w && decide (w ∈ lw_tbl)) = true := by decide +kernel
theorem ztx_all : zTX.all (fun q => decide (Cond.stringRef q.1 q.2.1 q.2.2 ∈ lw_tbl)) = true := by decide +kernel
theorem ztx_ex : zTX.all (fun q => decide (Cond.exactly (.string q.1 q.2.1) "java/lang/String" ∈ flatC (Cond.and given_1 narrow_1))) = true := by decide +kernel
theorem znc_all : zNC.all (fun q => decide (Cond.not (.castable q.1 q.2) ∈ flatC (Cond.and given_1 narrow_1))) = true := by decide +kernel
def zfw : List Int := [10, 8, 6, 4, 5]
def zroF (L : Nat) (xs : Nat → Int32) : zRo := fun z => if z = -2 then some (5, fun j => zfw.getD j 0) else if z = -3 then some (L, fun j => (xs j).toInt) else none
def zS0 : zS := ([], fun _ _ => 0, 0, 0)
theorem zfw_ok : ∀ j, zi32 (zfw.getD j 0)
  | 0 => ⟨by decide, by decide⟩
  | 1 => ⟨by decide, by decide⟩
  | 2 => ⟨by decide, by decide⟩
  | 3 => ⟨by decide, by decide⟩
  | 4 => ⟨by decide, by decide⟩
  | k + 5 => ⟨by show (-2147483648 : Int) ≤ 0; decide, by show (0 : Int) < 2147483648; decide⟩
section
variable {s : State} {b L : Nat} {xs : Nat → Int32}
theorem z_cls (hz : ∀ w ∈ zWS, w.before #[Value.ref b] s = true) : ∀ k : Nat, ∃ x : ClassId × (Nat → Nat), ∀ q, zcl[k]? = some q → u_Kn s q.1 q.2.1 q.2.2 x.1 x.2
  | 0 => by
    obtain ⟨c0, i0, h⟩ := u_known (C := RX0) (T := TX0) (N := 2) (n := 2) hz zu_0 (hz _ (zwm 150 (by decide +kernel)))
    exact ⟨(c0, i0), fun q hq => by cases hq; exact h⟩
  | 1 => by
    obtain ⟨c0, i0, h⟩ := u_known (C := RX1) (T := TX1) (N := 2) (n := 2) hz zu_1 (hz _ (zwm 103 (by decide +kernel)))
    exact ⟨(c0, i0), fun q hq => by cases hq; exact h⟩
  | 2 => by
    obtain ⟨c0, i0, h⟩ := u_known (C := RX2) (T := TX2) (N := 3) (n := 3) hz zu_2 (hz _ (zwm 96 (by decide +kernel)))
    exact ⟨(c0, i0), fun q hq => by cases hq; exact h⟩
  | 3 => by
    obtain ⟨c0, i0, h⟩ := u_known (C := RX3) (T := TX3) (N := 5) (n := 5) hz zu_3 (hz _ (zwm 128 (by decide +kernel)))
    exact ⟨(c0, i0), fun q hq => by cases hq; exact h⟩
  | 4 => by
    obtain ⟨c0, i0, h⟩ := u_known (C := RX4) (T := TX4) (N := 4) (n := 4) hz zu_4 (hz _ (zwm 163 (by decide +kernel)))
    exact ⟨(c0, i0), fun q hq => by cases hq; exact h⟩
  | 5 => by
    obtain ⟨c0, i0, h⟩ := u_known (C := RX5) (T := TX5) (N := 3) (n := 3) hz zu_5 (hz _ (zwm 72 (by decide +kernel)))
    exact ⟨(c0, i0), fun q hq => by cases hq; exact h⟩
  | 6 => by
    obtain ⟨c0, i0, h⟩ := u_known (C := RX6) (T := TX6) (N := 5) (n := 5) hz zu_6 (hz _ (zwm 47 (by decide +kernel)))
    exact ⟨(c0, i0), fun q hq => by cases hq; exact h⟩
  | 7 => by
    obtain ⟨c0, i0, h⟩ := u_known (C := RX7) (T := TX7) (N := 9) (n := 9) hz zu_7 (hz _ (zwm 39 (by decide +kernel)))
    exact ⟨(c0, i0), fun q hq => by cases hq; exact h⟩
  | k + 8 => ⟨(0, fun _ => 0), fun q hq => by simp [zcl] at hq⟩
theorem z_arr {ty : FieldType} (h : (Cond.arrayClass ty).before #[Value.ref b] s = true) (ho : ∀ C, ty ≠ .object C) : ∃ c : ClassId, ArrOfT s c ty ∧ va_RA s c ty := by
  obtain ⟨c, k, comp, h1, h2, h3⟩ := Cond.arrayClass_spec h
  refine ⟨c, fun n z => ⟨fun k h => (by cases h), k, h2, comp, h3⟩, ?_⟩
  cases ty <;> first | exact h1 | exact absurd rfl (ho _)
theorem z_sf (hts : ∀ w ∈ lw_tbl, w.before #[Value.ref b] s = true) (hgv : (Jvm.Cond.and given_1 narrow_1).before #[Value.ref b] s = true) (hX : va_X b L xs s s.heap) (hbl : b < s.heap.size) (hL : L ≤ 260) :
    ∃ (D : va_G) (cA : Nat → ClassId) (ad : Int → Nat), ad (-3) = b ∧ zSF zNW zTX zNC D cA ad (zroF L xs) (fun q => s.heap.size ≤ q) s s.heap := by
  have hz : ∀ w ∈ zWS, w.before #[Value.ref b] s = true := fun w hw => hts w (List.mem_filter.mp hw).1
  have hs := flat_of_before _ hgv
  have hA : ∀ a : Nat, a < s.heap.size → ¬ (fun q : Nat => s.heap.size ≤ q) a := fun a h => Nat.not_le.mpr h
  obtain ⟨f, hf⟩ := Classical.axiomOfChoice (z_cls hz)
  obtain ⟨cI, aI1, aI2⟩ := z_arr (ty := FieldType.int) (hz _ (zwm 69 (by decide +kernel))) (fun C e => by cases e)
  obtain ⟨cC, aC1, aC2⟩ := z_arr (ty := FieldType.char) (hz _ (zwm 68 (by decide +kernel))) (fun C e => by cases e)
  obtain ⟨cZ, aZ1, aZ2⟩ := z_arr (ty := FieldType.boolean) (hz _ (zwm 70 (by decide +kernel))) (fun C e => by cases e)
  have hover : (Cond.arrayOver (.object RX1)).before #[Value.ref b] s = true := (hts _ (List.mem_of_getElem? (i := 102) (by decide +kernel)))
  obtain ⟨comp, cO, kO, o1, -, o2, o3, o4⟩ := Cond.arrayOver_spec hover
  obtain ⟨t, ht, hT⟩ := va_Tof (tm := .static "LintPress" "FIRST_WEIGHTS" "[I") (ty := .int) (N := 5) (f := fun j => .int (Int32.ofInt (zfw.getD j 0))) (A := fun q => s.heap.size ≤ q) (by decide) (hs _ (by decide +kernel)) (va_eqt (hs _ (by decide +kernel)))
    (fun j hj => by
      match j, hj with
      | 0, _ => exact va_eqt (hs _ (by decide +kernel))
      | 1, _ => exact va_eqt (hs _ (by decide +kernel))
      | 2, _ => exact va_eqt (hs _ (by decide +kernel))
      | 3, _ => exact va_eqt (hs _ (by decide +kernel))
      | 4, _ => exact va_eqt (hs _ (by decide +kernel))
      | k + 5, h => exact absurd h (by omega)) hA
  refine ⟨(fun k => (f k).1, fun k => (f k).2), fun k => if k = 1 then cI else if k = 2 then cC else if k = 3 then cZ else cO, fun z => if z = -2 then t else b, rfl, ⟨fun k q hq => hf k q hq, fun k q hk => ?_⟩, fun w hw => ?_, fun q hq => ?_, fun q hq => ?_, ?_, ?_, va_AO.of hover, ?_, fun z r hr => ?_⟩
  · match k, hk with
    | 0, hk => cases hk; exact ⟨aI1, aI2⟩
    | 1, hk => cases hk; exact ⟨aC1, aC2⟩
    | 2, hk => cases hk; exact ⟨aZ1, aZ2⟩
    | 3, hk => cases hk; exact ⟨fun n z => ⟨fun k h => (by cases h), kO, o2, comp, o3⟩, kO, comp, o2, o3, o1, o4⟩
    | k + 4, hk => simp [ztys] at hk
  · have h := List.all_eq_true.mp znw_all w hw
    simp only [Bool.and_eq_true, decide_eq_true_eq] at h
    exact ⟨h.1, va_Nw.of (zwarm_tab h.1) (hts _ h.2)⟩
  · have h1 := List.all_eq_true.mp ztx_all q hq
    have h2 := List.all_eq_true.mp ztx_ex q hq
    simp only [decide_eq_true_eq] at h1 h2
    obtain ⟨a, c, cA, kA, q1, q2⟩ := Cond.exactly_spec (args := #[Value.ref b]) (first := s) (o := none) (s := s) (idx := []) (hs _ h2)
    exact ⟨a, vk_R.of (hts _ h1) q1⟩
  · have h1 := List.all_eq_true.mp znc_all q hq
    simp only [decide_eq_true_eq] at h1
    exact va_Nc.of (hs _ h1)
  · exact vx_Zqof (hts _ (List.mem_of_getElem? (i := 297) (by decide +kernel))) (hts _ (List.mem_of_getElem? (i := 26) (by decide +kernel))) (hs _ (by decide +kernel)) hA
  · exact vx_Zqof (hts _ (List.mem_of_getElem? (i := 299) (by decide +kernel))) (hts _ (List.mem_of_getElem? (i := 26) (by decide +kernel))) (hs _ (by decide +kernel)) hA
  · exact va_Zof (hts _ (List.mem_of_getElem? (i := 78) (by decide +kernel))) (hts _ (List.mem_of_getElem? (i := 18) (by decide +kernel))) ht hA
  · unfold zroF at hr
    split at hr
    · rename_i hz2
      cases hr
      obtain ⟨scr, x1, x2, x3, x4, x5, x6, x7⟩ := hT
      have ht9 : t < s.heap.size := (Array.getElem?_eq_some_iff.mp x1).1
      refine ⟨Or.inl hz2, ?_, ?_, ?_, zfw_ok, by decide⟩
      · show zX (if z = -2 then t else b) _ _ _ _
        rw [if_pos hz2]
        exact ⟨scr, x1, x2, x3, x4, x5, x6⟩
      · show (if z = -2 then t else b) < _
        rw [if_pos hz2]; exact ht9
      · show ¬ _ ≤ (if z = -2 then t else b)
        rw [if_pos hz2]; omega
    · rename_i hz2
      split at hr
      · rename_i hz3
        cases hr
        obtain ⟨scr, x1, x2, x3, x4, x5⟩ := hX
        refine ⟨Or.inr hz3, ?_, ?_, ?_, fun j => zi32_toInt _, by show L < _; omega⟩
        · show zX (if z = -2 then t else b) _ _ _ _
          rw [if_neg hz2]
          refine ⟨scr, x1, x2, x3, by show L ≤ _; omega, by rw [x4], fun j hj => ?_⟩
          show scr.slots[j]? = some (.int (Int32.ofInt (xs j).toInt))
          rw [Int32.ofInt_toInt]
          exact x5 j hj
        · show (if z = -2 then t else b) < _
          rw [if_neg hz2]; exact hbl
        · show ¬ _ ≤ (if z = -2 then t else b)
          rw [if_neg hz2]; omega
      · cases hr
end
