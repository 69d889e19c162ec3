/-! the steps that need no heap, on the machine -/
section
variable {p : Program} {l : Launch} {e : Env} {R : Room} {s : State} {m : MethodId} {args : Array Value} {below : List Frame} {meth : Method} {c : Code} {H : Heap} {locs : List Loc} {cells slots : Nat} {Q : State → Prop}
variable {cc : ByteArray} {pc n : Nat} {lsC : Array Slot} {rest : List Value} {ad : Int → Nat} {ls st : List zV}
theorem zs_push {con : Nat → Option Int} (hx : p.tables.exec = Jvm.exec) (hb : c.code = cc) (hown : ∃ own, s.vm.findClass own = some m.cls ∧ ∀ k v, con k = some v → (Cond.constant own k (Int32.ofInt v)).before args s = true ∧ zi32 v) {i : Instr} {len : Nat} {v : zV} (h : zpush con i len ls = some v) (hL : lv_has lsC ls.length (zlo ad ls)) (hd : decode cc pc = .ok (i, len)) (hok : zoks n ls)
    (k : zok n v → W p l e R s m args below meth c H locs cells slots Q (F0 m (pc + len) lsC (zval ad v :: rest))) : W p l e R s m args below meth c H locs cells slots Q (F0 m pc lsC rest) := by
  obtain ⟨own, hown, hcon⟩ := hown
  unfold zpush at h
  split at h
  · split at h
    · cases h; exact lv_iconst hx hb hd rfl (k ⟨by omega, by omega⟩)
    · cases h
  · split at h
    · rename_i h2; cases h; exact lv_bipush hx hb hd (zi8 h2.1 h2.2) (k ⟨by omega, by omega⟩)
    · cases h
  · split at h
    · rename_i h2; cases h; exact lv_sipush hx hb hd (zi16 h2.1 h2.2) (k ⟨by omega, by omega⟩)
    · cases h
  · cases h; exact lv_lconst hx hb hd (by rw [← Int64.ofInt_eq_ofNat]) (k ⟨by omega, by omega⟩)
  · split at h
    · rename_i n0 h2; cases h
      have e0 : n0 = 0 := Fin.ext h2
      subst e0
      refine lv_fconst0 hx hb hd ?_
      have k := k ⟨by omega, by have := (FP.fconst0).toNat_lt; omega⟩
      simp only [zval, zu32] at k
      exact k
    · cases h
  · split at h
    · rename_i n0 h2; cases h
      have e0 : n0 = 0 := Fin.ext h2
      subst e0
      refine lv_dconst0 hx hb hd ?_
      have k := k ⟨by omega, by have := (FP.dconst0).toNat_lt; omega⟩
      simp only [zval, zu64] at k
      exact k
    · cases h
  · cases h; exact lv_null hx hb hd (k (Or.inl rfl))
  · split at h
    · rename_i v0 h2; cases h; exact lv_ldc hx hb hown (hcon _ _ h2).1 hd (k (hcon _ _ h2).2)
    · cases h
  · split at h
    · rename_i v0 h2; cases h; exact lv_ldcw hx hb hown (hcon _ _ h2).1 hd (k (hcon _ _ h2).2)
    · cases h
  · split at h
    · rename_i v0 h2; cases h; exact lv_iload_n hx hb hd rfl (zlo_at hL h2 (by simp)) (k (hok _ (List.mem_of_getElem? h2)))
    · cases h
  · split at h
    · rename_i v0 h2; cases h; exact lv_iload hx hb hd (zlo_at hL h2 (by simp)) (k (hok _ (List.mem_of_getElem? h2)))
    · cases h
  · split at h
    · rename_i v0 h2; cases h
      have g1 := zlo_at hL h2 (by simp)
      have k := k (hok _ (List.mem_of_getElem? h2))
      simp only [zval, zrf] at g1 k
      split at g1
      · simp only [*, if_true] at k; exact lv_aload_nN hx hb hd rfl g1 k
      · simp only [*, if_false] at k; exact lv_aload_n hx hb hd rfl g1 k
    · cases h
  · split at h
    · rename_i v0 h2; cases h
      have g1 := zlo_at hL h2 (by simp)
      have k := k (hok _ (List.mem_of_getElem? h2))
      simp only [zval, zrf] at g1 k
      split at g1
      · simp only [*, if_true] at k; exact lv_aloadN hx hb hd g1 k
      · simp only [*, if_false] at k; exact lv_aload hx hb hd g1 k
    · cases h
  · split at h
    · rename_i v0 h2; cases h; exact lv_lload_n hx hb hd rfl (zlo_at hL h2 (by simp)) (k (hok _ (List.mem_of_getElem? h2)))
    · cases h
  · split at h
    · rename_i v0 h2; cases h; exact lv_lload hx hb hd (zlo_at hL h2 (by simp)) (k (hok _ (List.mem_of_getElem? h2)))
    · cases h
  · split at h
    · rename_i v0 h2; cases h; exact lv_fload_n hx hb hd rfl (zlo_at hL h2 (by simp)) (k (hok _ (List.mem_of_getElem? h2)))
    · cases h
  · split at h
    · rename_i v0 h2; cases h; exact lv_fload hx hb hd (zlo_at hL h2 (by simp)) (k (hok _ (List.mem_of_getElem? h2)))
    · cases h
  · split at h
    · rename_i v0 h2; cases h; exact lv_dload_n hx hb hd rfl (zlo_at hL h2 (by simp)) (k (hok _ (List.mem_of_getElem? h2)))
    · cases h
  · split at h
    · rename_i v0 h2; cases h; exact lv_dload hx hb hd (zlo_at hL h2 (by simp)) (k (hok _ (List.mem_of_getElem? h2)))
    · cases h
  · cases h
theorem zs_store (hx : p.tables.exec = Jvm.exec) (hb : c.code = cc) {i : Instr} {len : Nat} {r : List zV × List zV} (h : zstore i len ls st = some r) (hL : lv_has lsC ls.length (zlo ad ls)) (hd : decode cc pc = .ok (i, len)) (hok : zoks n ls) (hos : zoks n st)
    (k : ∀ lsC' : Array Slot, lv_has lsC' r.1.length (zlo ad r.1) → zoks n r.1 → zoks n r.2 → W p l e R s m args below meth c H locs cells slots Q (F0 m (pc + len) lsC' (r.2.map (zval ad)))) : W p l e R s m args below meth c H locs cells slots Q (F0 m pc lsC (st.map (zval ad))) := by
  unfold zstore at h
  split at h
  · split at h
    · rename_i h2; cases h
      have ho := List.forall_mem_cons.mp hos
      exact lv_istore_n hx hb hd rfl hL h2 rfl (fun l' hl' => k l' (by rw [zput_len]; exact zput_has (v := (0, _)) hl') (zoks_put hok ho.1) ho.2)
    · cases h
  · split at h
    · rename_i h2; cases h
      have ho := List.forall_mem_cons.mp hos
      exact lv_istore hx hb hd hL h2 rfl (fun l' hl' => k l' (by rw [zput_len]; exact zput_has (v := (0, _)) hl') (zoks_put hok ho.1) ho.2)
    · cases h
  · split at h
    · rename_i h2; cases h
      have ho := List.forall_mem_cons.mp hos
      rename_i v0 st0
      show W p l e R s m args below meth c H locs cells slots Q (F0 m pc lsC (va_rf (zrf ad v0) :: st0.map (zval ad)))
      have key : ∀ x, zrf ad v0 = x → W p l e R s m args below meth c H locs cells slots Q (F0 m pc lsC (va_rf x :: st0.map (zval ad))) := by
        intro x hx2
        cases x with
        | none => exact lv_astore_nN hx hb hd rfl hL h2 rfl (fun l' hl' => k l' (by rw [zput_len]; exact zput_has (v := (1, v0)) (by simp only [zval, hx2]; exact hl')) (zoks_put hok ho.1) ho.2)
        | some y => exact lv_astore_n hx hb hd rfl hL h2 rfl (fun l' hl' => k l' (by rw [zput_len]; exact zput_has (v := (1, v0)) (by simp only [zval, hx2]; exact hl')) (zoks_put hok ho.1) ho.2)
      exact key _ rfl
    · cases h
  · split at h
    · rename_i h2; cases h
      have ho := List.forall_mem_cons.mp hos
      rename_i v0 st0
      show W p l e R s m args below meth c H locs cells slots Q (F0 m pc lsC (va_rf (zrf ad v0) :: st0.map (zval ad)))
      have key : ∀ x, zrf ad v0 = x → W p l e R s m args below meth c H locs cells slots Q (F0 m pc lsC (va_rf x :: st0.map (zval ad))) := by
        intro x hx2
        cases x with
        | none => exact lv_astoreN hx hb hd hL h2 rfl (fun l' hl' => k l' (by rw [zput_len]; exact zput_has (v := (1, v0)) (by simp only [zval, hx2]; exact hl')) (zoks_put hok ho.1) ho.2)
        | some y => exact lv_astore hx hb hd hL h2 rfl (fun l' hl' => k l' (by rw [zput_len]; exact zput_has (v := (1, v0)) (by simp only [zval, hx2]; exact hl')) (zoks_put hok ho.1) ho.2)
      exact key _ rfl
    · cases h
  · split at h
    · rename_i h2; cases h
      have ho := List.forall_mem_cons.mp hos
      exact lv_fstore_n hx hb hd rfl hL h2 rfl (fun l' hl' => k l' (by rw [zput_len]; exact zput_has (v := (3, _)) hl') (zoks_put hok ho.1) ho.2)
    · cases h
  · split at h
    · rename_i h2; cases h
      have ho := List.forall_mem_cons.mp hos
      exact lv_fstore hx hb hd hL h2 rfl (fun l' hl' => k l' (by rw [zput_len]; exact zput_has (v := (3, _)) hl') (zoks_put hok ho.1) ho.2)
    · cases h
  · split at h
    · rename_i h2; cases h
      have ho := List.forall_mem_cons.mp hos
      exact lv_lstore_n hx hb hd rfl hL h2 rfl (fun l' hl' => k l' (by rw [zput2_len]; exact zput2_has (v := (2, _)) hl') (zoks_put2 hok ho.1) ho.2)
    · cases h
  · split at h
    · rename_i h2; cases h
      have ho := List.forall_mem_cons.mp hos
      exact lv_lstore hx hb hd hL h2 rfl (fun l' hl' => k l' (by rw [zput2_len]; exact zput2_has (v := (2, _)) hl') (zoks_put2 hok ho.1) ho.2)
    · cases h
  · split at h
    · rename_i h2; cases h
      have ho := List.forall_mem_cons.mp hos
      exact lv_dstore_n hx hb hd rfl hL h2 rfl (fun l' hl' => k l' (by rw [zput2_len]; exact zput2_has (v := (4, _)) hl') (zoks_put2 hok ho.1) ho.2)
    · cases h
  · split at h
    · rename_i h2; cases h
      have ho := List.forall_mem_cons.mp hos
      exact lv_dstore hx hb hd hL h2 rfl (fun l' hl' => k l' (by rw [zput2_len]; exact zput2_has (v := (4, _)) hl') (zoks_put2 hok ho.1) ho.2)
    · cases h
  · rename_i st0 k0 n0
    split at h
    · rename_i v0 h2; cases h
      obtain ⟨kk, hkk⟩ := List.getElem?_of_mem (zlo_mem (ad := ad) (ls := ls) (q := (k0, Value.int (Int32.ofInt v0))) |>.mpr ⟨(0, v0), h2, by simp, rfl⟩)
      refine lv_iinc (v := Int32.ofInt (zw32 (v0 + n0))) hx hb hd hL hkk (by rw [zofw32, Int32.ofInt_add]) (List.getElem?_eq_some_iff.mp h2).1 rfl (fun l' hl' => k l' (by rw [zput_len]; exact zput_has (v := (0, _)) hl') (zoks_put hok (zi32_wrap _)) hos)
    · cases h
  · cases h
end
section
variable {p : Program} {l : Launch} {e : Env} {R : Room} {s : State} {m : MethodId} {args : Array Value} {below : List Frame} {meth : Method} {c : Code} {H : Heap} {locs : List Loc} {cells slots : Nat} {Q : State → Prop}
variable {cc : ByteArray} {pc n : Nat} {lsC : Array Slot} {rest : List Value} {ad : Int → Nat} {ls st : List zV}
theorem zok3 (x : UInt32) : zok n (3, (x.toNat : Int)) := by
  show 0 ≤ (x.toNat : Int) ∧ (x.toNat : Int) < 4294967296
  have := UInt32.toNat_lt x
  omega
theorem zok4 (x : UInt64) : zok n (4, (x.toNat : Int)) := by
  show 0 ≤ (x.toNat : Int) ∧ (x.toNat : Int) < 18446744073709551616
  have := UInt64.toNat_lt x
  omega
theorem zn32_of {x : UInt32} (h : zn32 x = true) : vf_n32 x := by unfold zn32 at h; unfold vf_n32; exact of_decide_eq_true h
theorem zn64_of {x : UInt64} (h : zn64 x = true) : vf_n64 x := by unfold zn64 at h; unfold vf_n64; exact of_decide_eq_true h
theorem zsumcat (ad : Int → Nat) (st : List zV) : ((st.map (zval ad)).map fun v => v.category).sum ≤ 2 * st.length := by
  induction st with
  | nil => simp
  | cons v t ih =>
    simp only [List.map_cons, List.sum_cons, List.length_cons]
    have : (zval ad v).category ≤ 2 := by rw [zcatv]; split <;> omega
    omega
theorem zs_arith (hx : p.tables.exec = Jvm.exec) (hb : c.code = cc) {mth : Nat → Nat} (hml : c.maxLocals = lsC.size)
    (hm : ∃ own, s.vm.findClass own = some m.cls ∧ ∀ k,
      (mth k = 1 → (Cond.methodLink own k Lib.Math.max.name).before args s = true ∧ (Cond.static Lib.Math.max.name).before args s = true ∧ (Cond.initialized "java/lang/Math").before args s = true ∧ (Cond.code Lib.Math.max.name Lib.Math.max.code 2 (some .int)).before args s = true) ∧
      (mth k = 2 → (Cond.methodLink own k Lib.Math.min.name).before args s = true ∧ (Cond.static Lib.Math.min.name).before args s = true ∧ (Cond.initialized "java/lang/Math").before args s = true ∧ (Cond.code Lib.Math.min.name Lib.Math.min.code 2 (some .int)).before args s = true) ∧
      (mth k = 3 → (Cond.methodLink own k Lib.objectInit).before args s = true ∧ (Cond.instanceMethod Lib.objectInit).before args s = true ∧ (Cond.code Lib.objectInit ⟨#[0xb1]⟩ 1 none).before args s = true))
    (hf : 1 ≤ R.frames) (hlo : 200 ≤ R.locals) (hcl : cells ≤ R.cells) (hsl : slots ≤ R.slots)
    {i : Instr} {len : Nat} {r : List zV} (h : zarith mth i len st = some r) (hd : decode cc pc = .ok (i, len)) (hos : zoks n st)
    (k : zoks n r → W p l e R s m args below meth c H locs cells slots Q (F0 m (pc + len) lsC (r.map (zval ad)))) : W p l e R s m args below meth c H locs cells slots Q (F0 m pc lsC (st.map (zval ad))) := by
  obtain ⟨own, hown, hm⟩ := hm
  unfold zarith at h
  split at h
  · cases h
    have ho := (List.forall_mem_cons.mp (List.forall_mem_cons.mp hos).2).2
    refine lv_iadd hx hb hd ?_
    have k := k (List.forall_mem_cons.mpr ⟨zi32_wrap _, ho⟩)
    rw [List.map_cons, show ∀ z, zval ad (0, z) = .int (Int32.ofInt z) from fun _ => rfl, zofw32, Int32.ofInt_add] at k
    exact k
  · cases h
    have ho := (List.forall_mem_cons.mp (List.forall_mem_cons.mp hos).2).2
    refine lv_isub hx hb hd ?_
    have k := k (List.forall_mem_cons.mpr ⟨zi32_wrap _, ho⟩)
    rw [List.map_cons, show ∀ z, zval ad (0, z) = .int (Int32.ofInt z) from fun _ => rfl, zofw32, Int32.ofInt_sub] at k
    exact k
  · cases h
    have ho := (List.forall_mem_cons.mp (List.forall_mem_cons.mp hos).2).2
    refine lv_imul hx hb hd ?_
    have k := k (List.forall_mem_cons.mpr ⟨zi32_wrap _, ho⟩)
    rw [List.map_cons, show ∀ z, zval ad (0, z) = .int (Int32.ofInt z) from fun _ => rfl, zofw32, Int32.ofInt_mul] at k
    exact k
  · cases h
    have ho := (List.forall_mem_cons.mp (List.forall_mem_cons.mp hos).2).2
    refine lv_iand hx hb hd ?_
    have k := k (List.forall_mem_cons.mpr ⟨zi32_toInt _, ho⟩)
    rw [List.map_cons, show ∀ z, zval ad (0, z) = .int (Int32.ofInt z) from fun _ => rfl, Int32.ofInt_toInt] at k
    exact k
  · cases h
    have ho := (List.forall_mem_cons.mp (List.forall_mem_cons.mp hos).2).2
    refine lv_ior hx hb hd ?_
    have k := k (List.forall_mem_cons.mpr ⟨zi32_toInt _, ho⟩)
    rw [List.map_cons, show ∀ z, zval ad (0, z) = .int (Int32.ofInt z) from fun _ => rfl, Int32.ofInt_toInt] at k
    exact k
  · cases h
    have ho := (List.forall_mem_cons.mp (List.forall_mem_cons.mp hos).2).2
    refine lv_ixor hx hb hd ?_
    have k := k (List.forall_mem_cons.mpr ⟨zi32_toInt _, ho⟩)
    rw [List.map_cons, show ∀ z, zval ad (0, z) = .int (Int32.ofInt z) from fun _ => rfl, Int32.ofInt_toInt] at k
    exact k
  · cases h
    have ho := (List.forall_mem_cons.mp (List.forall_mem_cons.mp hos).2).2
    refine lv_ishl hx hb hd ?_
    have k := k (List.forall_mem_cons.mpr ⟨zi32_toInt _, ho⟩)
    rw [List.map_cons, show ∀ z, zval ad (0, z) = .int (Int32.ofInt z) from fun _ => rfl, Int32.ofInt_toInt] at k
    exact k
  · cases h
    have ho := (List.forall_mem_cons.mp (List.forall_mem_cons.mp hos).2).2
    refine lv_iushr hx hb hd rfl ?_
    have k := k (List.forall_mem_cons.mpr ⟨zi32_toInt _, ho⟩)
    rw [List.map_cons, show ∀ z, zval ad (0, z) = .int (Int32.ofInt z) from fun _ => rfl, Int32.ofInt_toInt] at k
    exact k
  · split at h
    · rename_i b0 a0 st0 h2; cases h
      have ho1 := List.forall_mem_cons.mp hos
      have ho2 := List.forall_mem_cons.mp ho1.2
      have hb0 : zi32 b0 := ho1.1
      have ha0 : zi32 a0 := ho2.1
      have hq : zi32 (a0.tdiv b0) := by
        unfold zi32 at *
        have h3 := Int.natAbs_tdiv_le_natAbs a0 b0
        rcases Int.le_total 0 a0 with h4 | h4
        · have := Int.tdiv_nonneg h4 (Int.le_of_lt h2)
          omega
        · have h5 := Int.tdiv_nonneg (show 0 ≤ -a0 by omega) (Int.le_of_lt h2)
          rw [Int.neg_tdiv] at h5
          omega
      refine lv_irem hx hb hd (fun e => ?_) ?_
      · have := congrArg Int32.toInt e
        rw [zI32 hb0] at this
        have h0 : (0 : Int32).toInt = 0 := rfl
        omega
      · have k := k (List.forall_mem_cons.mpr ⟨zi32_wrap _, ho2.2⟩)
        rw [List.map_cons, show ∀ z, zval ad (0, z) = .int (Int32.ofInt z) from fun _ => rfl] at k
        have e1 : Int32.ofInt (a0.tdiv b0) = Int32.ofInt a0 / Int32.ofInt b0 := by
          apply Int32.toInt_inj.mp
          rw [Int32.toInt_div_of_ne_right _ _ (fun e => ?_), zI32 hq, zI32 ha0, zI32 hb0]
          have := congrArg Int32.toInt e
          rw [zI32 hb0] at this
          have h0 : (-1 : Int32).toInt = -1 := rfl
          omega
        rw [zofw32, Int32.ofInt_sub, Int32.ofInt_mul, e1] at k
        exact k
    · cases h
  · split at h
    · rename_i b0 a0 st0 h2; cases h
      have ho1 := List.forall_mem_cons.mp hos
      have ho2 := List.forall_mem_cons.mp ho1.2
      have hb0 : zi32 b0 := ho1.1
      have ha0 : zi32 a0 := ho2.1
      have hq : zi32 (a0.tdiv b0) := by
        unfold zi32 at *
        have h3 := Int.natAbs_tdiv_le_natAbs a0 b0
        rcases Int.le_total 0 a0 with h4 | h4
        · have := Int.tdiv_nonneg h4 (Int.le_of_lt h2)
          omega
        · have h5 := Int.tdiv_nonneg (show 0 ≤ -a0 by omega) (Int.le_of_lt h2)
          rw [Int.neg_tdiv] at h5
          omega
      refine lv_idiv hx hb hd (fun e => ?_) ?_
      · have := congrArg Int32.toInt e
        rw [zI32 hb0] at this
        have h0 : (0 : Int32).toInt = 0 := rfl
        omega
      · have k := k (List.forall_mem_cons.mpr ⟨hq, ho2.2⟩)
        rw [List.map_cons, show ∀ z, zval ad (0, z) = .int (Int32.ofInt z) from fun _ => rfl] at k
        have e1 : Int32.ofInt (a0.tdiv b0) = Int32.ofInt a0 / Int32.ofInt b0 := by
          apply Int32.toInt_inj.mp
          rw [Int32.toInt_div_of_ne_right _ _ (fun e => ?_), zI32 hq, zI32 ha0, zI32 hb0]
          have := congrArg Int32.toInt e
          rw [zI32 hb0] at this
          have h0 : (-1 : Int32).toInt = -1 := rfl
          omega
        rw [e1] at k
        exact k
    · cases h
  · cases h
    have ho := (List.forall_mem_cons.mp (List.forall_mem_cons.mp hos).2).2
    refine lv_ladd hx hb hd ?_
    have k := k (List.forall_mem_cons.mpr ⟨zi64_wrap _, ho⟩)
    rw [List.map_cons, show ∀ z, zval ad (2, z) = .long (Int64.ofInt z) from fun _ => rfl, zofw64, Int64.ofInt_add] at k
    exact k
  · rename_i b0 a0 st0
    cases h
    have ho1 := List.forall_mem_cons.mp hos
    have ho2 := List.forall_mem_cons.mp ho1.2
    refine W.lcmp hx hb hd ?_
    have k := k (List.forall_mem_cons.mpr ⟨by show zi32 _; unfold zi32; split <;> (try split) <;> omega, ho2.2⟩)
    have e1 : lg_cmp (Int64.ofInt a0) (Int64.ofInt b0) = Int32.ofInt (if a0 < b0 then -1 else if a0 = b0 then 0 else 1) := by
      have g1 : zi64 a0 := ho2.1
      have g2 : zi64 b0 := ho1.1
      unfold lg_cmp
      simp only [gt_iff_lt, Int64.lt_iff_toInt_lt, ← Int64.toInt_inj, zI64 g1, zI64 g2]
      by_cases c1 : a0 < b0
      · rw [if_neg (by omega), if_neg (by omega), if_pos c1]; rfl
      · by_cases c2 : a0 = b0
        · rw [if_neg (by omega), if_pos c2, if_neg c1, if_pos c2]; rfl
        · rw [if_pos (by omega), if_neg c1, if_neg c2]; rfl
    rw [e1]
    exact k
  · rename_i a0 st0
    cases h
    have ho1 := List.forall_mem_cons.mp hos
    have g1 : zi32 a0 := ho1.1
    refine lv_i2l hx hb hd (v := Int64.ofInt a0) ?_ (k (List.forall_mem_cons.mpr ⟨⟨by unfold zi32 at g1; omega, by unfold zi32 at g1; omega⟩, ho1.2⟩))
    apply Int64.toInt_inj.mp
    rw [Int32.toInt_toInt64, zI32 g1, zI64 ⟨by unfold zi32 at g1; omega, by unfold zi32 at g1; omega⟩]
  · cases h
    have ho1 := List.forall_mem_cons.mp hos
    refine lv_i2f hx hb hd ?_
    have k := k (List.forall_mem_cons.mpr ⟨zok3 _, ho1.2⟩)
    rw [List.map_cons, show ∀ z, zval ad (3, z) = .float (UInt32.ofNat z.toNat) from fun _ => rfl, zu32] at k
    exact k
  · cases h
    have ho1 := List.forall_mem_cons.mp hos
    refine lv_l2f hx hb hd ?_
    have k := k (List.forall_mem_cons.mpr ⟨zok3 _, ho1.2⟩)
    rw [List.map_cons, show ∀ z, zval ad (3, z) = .float (UInt32.ofNat z.toNat) from fun _ => rfl, zu32] at k
    exact k
  · cases h
    have ho1 := List.forall_mem_cons.mp hos
    refine lv_i2d hx hb hd ?_
    have k := k (List.forall_mem_cons.mpr ⟨zok4 _, ho1.2⟩)
    rw [List.map_cons, show ∀ z, zval ad (4, z) = .double (UInt64.ofNat z.toNat) from fun _ => rfl, zu64] at k
    exact k
  · split at h
    · rename_i h2
      cases h
      have ho1 := List.forall_mem_cons.mp hos
      refine lv_f2d hx hb hd (zn64_of h2) ?_
      have k := k (List.forall_mem_cons.mpr ⟨zok4 _, ho1.2⟩)
      rw [List.map_cons, show ∀ z, zval ad (4, z) = .double (UInt64.ofNat z.toNat) from fun _ => rfl, zu64] at k
      exact k
    · cases h
  · split at h
    · rename_i h2
      cases h
      have ho1 := List.forall_mem_cons.mp hos
      have ho2 := List.forall_mem_cons.mp ho1.2
      refine lv_fdiv hx hb hd (zn32_of h2) ?_
      have k := k (List.forall_mem_cons.mpr ⟨zok3 _, ho2.2⟩)
      rw [List.map_cons, show ∀ z, zval ad (3, z) = .float (UInt32.ofNat z.toNat) from fun _ => rfl, zu32] at k
      exact k
    · cases h
  · split at h
    · rename_i h2
      cases h
      have ho1 := List.forall_mem_cons.mp hos
      have ho2 := List.forall_mem_cons.mp ho1.2
      refine lv_ddiv hx hb hd (zn64_of h2) ?_
      have k := k (List.forall_mem_cons.mpr ⟨zok4 _, ho2.2⟩)
      rw [List.map_cons, show ∀ z, zval ad (4, z) = .double (UInt64.ofNat z.toNat) from fun _ => rfl, zu64] at k
      exact k
    · cases h
  · cases h
    have ho := (List.forall_mem_cons.mp (List.forall_mem_cons.mp hos).2).2
    refine lv_fcmp hx hb hd ?_
    have k := k (List.forall_mem_cons.mpr ⟨zi32_toInt _, ho⟩)
    rw [List.map_cons, show ∀ z, zval ad (0, z) = .int (Int32.ofInt z) from fun _ => rfl, Int32.ofInt_toInt] at k
    exact k
  · cases h
    have ho := (List.forall_mem_cons.mp (List.forall_mem_cons.mp hos).2).2
    refine lv_dcmp hx hb hd ?_
    have k := k (List.forall_mem_cons.mpr ⟨zi32_toInt _, ho⟩)
    rw [List.map_cons, show ∀ z, zval ad (0, z) = .int (Int32.ofInt z) from fun _ => rfl, Int32.ofInt_toInt] at k
    exact k
  · split at h
    · rename_i t0 a0 st0 h2
      cases h
      have ho1 := List.forall_mem_cons.mp hos
      exact lv_dup hx hb hd (by rw [zcatv, if_neg]; simp only []; omega) (k (List.forall_mem_cons.mpr ⟨ho1.1, List.forall_mem_cons.mpr ⟨ho1.1, ho1.2⟩⟩))
    · cases h
  · cases h
    have ho1 := List.forall_mem_cons.mp hos
    have ho2 := List.forall_mem_cons.mp ho1.2
    exact lv_dup2_11 hx hb hd (by rw [zcatv, if_neg]; simp) (by rw [zcatv, if_neg]; simp) (k (List.forall_mem_cons.mpr ⟨ho1.1, List.forall_mem_cons.mpr ⟨ho2.1, hos⟩⟩))
  · split at h
    · rename_i t0 a0 st0 h2
      cases h
      have ho1 := List.forall_mem_cons.mp hos
      exact lv_pop hx hb hd (by rw [zcatv, if_neg]; simp only []; omega) (k ho1.2)
    · cases h
  · rename_i k0 b0 a0 st0
    have ho1 := List.forall_mem_cons.mp hos
    have ho2 := List.forall_mem_cons.mp ho1.2
    have g1 : zi32 b0 := ho1.1
    have g2 : zi32 a0 := ho2.1
    have hc9 := zsumcat ad st0
    split at h
    · rename_i hlen
      split at h
      · rename_i h2
        cases h
        obtain ⟨q1, q2, q3, q4⟩ := (hm k0).1 h2
        refine va_mmax hx hb hml hown q1 q2 q3 q4 hf (by omega) hcl hsl hd ?_
        have k := k (List.forall_mem_cons.mpr ⟨by show zi32 _; split <;> assumption, ho2.2⟩)
        rw [List.map_cons, show ∀ z, zval ad (0, z) = .int (Int32.ofInt z) from fun _ => rfl] at k
        by_cases c1 : a0 < b0
        · rw [if_pos ((zltI g2 g1).mpr c1)]; rw [if_pos c1] at k; exact k
        · rw [if_neg (fun q => c1 ((zltI g2 g1).mp q))]; rw [if_neg c1] at k; exact k
      · split at h
        · rename_i h2
          cases h
          obtain ⟨q1, q2, q3, q4⟩ := (hm k0).2.1 h2
          refine va_mmin hx hb hml hown q1 q2 q3 q4 hf (by omega) hcl hsl hd ?_
          have k := k (List.forall_mem_cons.mpr ⟨by show zi32 _; split <;> assumption, ho2.2⟩)
          rw [List.map_cons, show ∀ z, zval ad (0, z) = .int (Int32.ofInt z) from fun _ => rfl] at k
          by_cases c1 : a0 < b0
          · rw [if_pos c1] at k
            first
              | (rw [if_pos ((zltI g2 g1).mpr c1)]; exact k)
              | (rw [if_neg (fun q => absurd ((zltI g1 g2).mp q) (by omega))]; exact k)
              | (rw [if_pos ((zleI g2 g1).mpr (by omega))]; exact k)
          · rw [if_neg c1] at k
            first
              | (rw [if_neg (fun q => c1 ((zltI g2 g1).mp q))]; exact k)
              | (by_cases c2 : b0 < a0
                 · rw [if_pos ((zltI g1 g2).mpr c2)]; exact k
                 · rw [if_neg (fun q => c2 ((zltI g1 g2).mp q))]
                   have e9 : a0 = b0 := by omega
                   rw [e9]; exact k)
              | (by_cases c2 : a0 ≤ b0
                 · rw [if_pos ((zleI g2 g1).mpr c2)]
                   have e9 : a0 = b0 := by omega
                   rw [e9]; exact k
                 · rw [if_neg (fun q => c2 ((zleI g2 g1).mp q))]; exact k)
        · cases h
    · cases h
  · rename_i k0 o0 st0
    have hc9 := zsumcat ad st0
    split at h
    · rename_i h2
      have h := Option.some.inj h
      subst h
      obtain ⟨q1, q2, q3⟩ := (hm k0).2.2 h2.1
      have ho1 := List.forall_mem_cons.mp hos
      have e1 : zval ad (1, o0) = .ref (ad o0) := by
        show va_rf (zrf ad o0) = _
        unfold zrf
        rw [if_neg (by omega)]
        rfl
      rw [List.map_cons, e1]
      refine W.objInit hx hb hown q1 q2 q3 rfl (by rw [hml]) rfl hd hf ?_ ?_
      · show 2 * 0 + _ + 12 ≤ _
        omega
      · exact k ho1.2
    · cases h
  · cases h
end

section
variable {p : Program} {l : Launch} {e : Env} {R : Room} {s : State} {m : MethodId} {args : Array Value} {below : List Frame} {meth : Method} {c : Code} {H : Heap} {locs : List Loc} {cells slots : Nat} {Q : State → Prop}
variable {cc : ByteArray} {pc n : Nat} {lsC : Array Slot} {rest : List Value} {ad : Int → Nat} {ls st : List zV}
theorem zoff_spec {pc : Nat} {off : Int} {b : Bool} {st : List zV} {r : Nat × List zV} (h : zoff pc off b st = some r) : ∃ t : Nat, (pc : Int) + off = (t : Int) ∧ r = (bif b then t else pc + 3, st) := by
  unfold zoff at h
  split at h
  · cases h; exact ⟨((pc : Int) + off).toNat, by rw [Int.toNat_of_nonneg (by assumption)], rfl⟩
  · cases h
theorem zs_if (hx : p.tables.exec = Jvm.exec) (hb : c.code = cc) {c0 : ClassFile.Cond} {off : Int} {t : Nat} {a : Int} (ht : (pc : Int) + off = (t : Int)) (hd : decode cc pc = .ok (.ifCond c0 off, 3)) (g1 : zi32 a)
    (k : W p l e R s m args below meth c H locs cells slots Q (F0 m (bif zc0 c0 a then t else pc + 3) lsC rest)) : W p l e R s m args below meth c H locs cells slots Q (F0 m pc lsC (.int (Int32.ofInt a) :: rest)) := by
  have g0 : zi32 0 := ⟨by decide, by decide⟩
  have e0 : (0 : Int32) = Int32.ofInt 0 := rfl
  have kt : zc0 c0 a = true → W p l e R s m args below meth c H locs cells slots Q (F0 m t lsC rest) := fun h => by rw [h] at k; exact k
  have kf : zc0 c0 a = false → W p l e R s m args below meth c H locs cells slots Q (F0 m (pc + 3) lsC rest) := fun h => by rw [h] at k; exact k
  cases c0
  · refine lv_if_eq hx hb hd ht (fun q => kt ?_) (fun q => kf ?_) <;> rw [e0, zeqI g1 g0] at q <;> simp [zc0, q]
  · refine lv_if_ne hx hb hd ht (fun q => kt ?_) (fun q => kf ?_) <;> rw [e0] at q <;> simp only [ne_eq, zeqI g1 g0, Decidable.not_not] at q <;> simp [zc0, q]
  · refine lv_if_lt hx hb hd ht (fun q => kt ?_) (fun q => kf ?_) <;> rw [e0, zltI g1 g0] at q <;> simp [zc0] <;> omega
  · refine lv_if_ge hx hb hd ht (fun q => kt ?_) (fun q => kf ?_) <;> rw [e0, zleI g0 g1] at q <;> simp [zc0] <;> omega
  · refine lv_if_gt hx hb hd ht (fun q => kt ?_) (fun q => kf ?_) <;> rw [e0, zltI g0 g1] at q <;> simp [zc0] <;> omega
  · refine lv_if_le hx hb hd ht (fun q => kt ?_) (fun q => kf ?_) <;> rw [e0, zleI g1 g0] at q <;> simp [zc0] <;> omega
theorem zs_icmp (hx : p.tables.exec = Jvm.exec) (hb : c.code = cc) {c0 : ClassFile.Cond} {off : Int} {t : Nat} {a b : Int} (ht : (pc : Int) + off = (t : Int)) (hd : decode cc pc = .ok (.if_icmp c0 off, 3)) (g1 : zi32 a) (g0 : zi32 b)
    (k : W p l e R s m args below meth c H locs cells slots Q (F0 m (bif zc2 c0 a b then t else pc + 3) lsC rest)) : W p l e R s m args below meth c H locs cells slots Q (F0 m pc lsC (.int (Int32.ofInt b) :: .int (Int32.ofInt a) :: rest)) := by
  have kt : zc2 c0 a b = true → W p l e R s m args below meth c H locs cells slots Q (F0 m t lsC rest) := fun h => by rw [h] at k; exact k
  have kf : zc2 c0 a b = false → W p l e R s m args below meth c H locs cells slots Q (F0 m (pc + 3) lsC rest) := fun h => by rw [h] at k; exact k
  cases c0
  · refine lv_icmp_eq hx hb hd ht (fun q => kt ?_) (fun q => kf ?_) <;> rw [zeqI g1 g0] at q <;> simp [zc2, q]
  · refine lv_icmp_ne hx hb hd ht (fun q => kt ?_) (fun q => kf ?_) <;> simp only [ne_eq, zeqI g1 g0, Decidable.not_not] at q <;> simp [zc2, q]
  · refine lv_icmp_lt hx hb hd ht (fun q => kt ?_) (fun q => kf ?_) <;> rw [zltI g1 g0] at q <;> simp [zc2] <;> omega
  · refine lv_icmp_ge hx hb hd ht (fun q => kt ?_) (fun q => kf ?_) <;> rw [zleI g0 g1] at q <;> simp [zc2] <;> omega
  · refine lv_icmp_gt hx hb hd ht (fun q => kt ?_) (fun q => kf ?_) <;> rw [zltI g0 g1] at q <;> simp [zc2] <;> omega
  · refine lv_icmp_le hx hb hd ht (fun q => kt ?_) (fun q => kf ?_) <;> rw [zleI g1 g0] at q <;> simp [zc2] <;> omega
theorem zs_jump (hx : p.tables.exec = Jvm.exec) (hb : c.code = cc) {i : Instr} {len : Nat} {r : Nat × List zV} (h : zjump i len pc st = some r) (hd : decode cc pc = .ok (i, len)) (hos : zoks n st)
    (k : zoks n r.2 → W p l e R s m args below meth c H locs cells slots Q (F0 m r.1 lsC (r.2.map (zval ad)))) : W p l e R s m args below meth c H locs cells slots Q (F0 m pc lsC (st.map (zval ad))) := by
  unfold zjump at h
  split at h
  · obtain ⟨t, h1, rfl⟩ := zoff_spec h
    exact lv_goto hx hb hd h1 (k hos)
  · obtain ⟨t, h1, rfl⟩ := zoff_spec h
    have ho1 := List.forall_mem_cons.mp hos
    exact zs_if hx hb h1 hd ho1.1 (k ho1.2)
  · obtain ⟨t, h1, rfl⟩ := zoff_spec h
    have ho1 := List.forall_mem_cons.mp hos
    have ho2 := List.forall_mem_cons.mp ho1.2
    exact zs_icmp hx hb h1 hd ho2.1 ho1.1 (k ho2.2)
  · rename_i off0 a0 st0
    obtain ⟨t, h1, rfl⟩ := zoff_spec h
    have ho1 := List.forall_mem_cons.mp hos
    have k := k ho1.2
    show W p l e R s m args below meth c H locs cells slots Q (F0 m pc lsC (va_rf (zrf ad a0) :: st0.map (zval ad)))
    by_cases c1 : a0 = -1
    · rw [show zrf ad a0 = none from if_pos c1]
      simp only [c1, decide_true, cond_true] at k
      exact lv_ifnullN hx hb hd h1 k
    · rw [show zrf ad a0 = some (ad a0) from if_neg c1]
      simp only [c1, decide_false, cond_false] at k
      exact lv_ifnull hx hb hd k
  · rename_i d0 lo0 hi0 offs0 len0 a0 st0
    have ho1 := List.forall_mem_cons.mp hos
    have g1 : zi32 a0 := ho1.1
    split at h
    · rename_i h2
      split at h
      · rename_i h3
        cases h
        exact lv_tableOut hx hb hd (by rw [zI32 g1]; exact h2) (by rw [Int.toNat_of_nonneg h3]) (k ho1.2)
      · cases h
    · rename_i h2
      split at h
      · rename_i off h4
        split at h
        · rename_i h3
          cases h
          exact lv_tableIn hx hb hd (by rw [zI32 g1]; omega) (by rw [zI32 g1]; omega) (by rw [zI32 g1]; exact h4) (by rw [Int.toNat_of_nonneg h3]) (k ho1.2)
        · cases h
      · cases h
  · cases h
end
