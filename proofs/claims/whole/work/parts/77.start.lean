/-! the law's start, and its whole -/
theorem void_eq {o : Option zR} (h : isVoid o = true) : o = some (.inl none, zget9 o) := by
  match o, h with
  | some (.inl none, _), _ => rfl
  | some (.inl (some _), _), h => cases h
  | some (.inr _, _), h => cases h
  | none, h => cases h
set_option maxRecDepth 100000 in
theorem zSf_ly : zSf.1 = zLY := by decide +kernel
set_option maxRecDepth 100000 in
theorem zSb_len : zSb.1.length = 97 := by decide +kernel
set_option maxRecDepth 100000 in
theorem zSd_len : zSd.1.length = 117 := by decide +kernel
set_option maxRecDepth 100000 in
theorem zSf_c : zSf.2.2.1 ≤ 1000 ∧ zSf.2.2.2 ≤ 10000 := by decide +kernel
set_option maxRecDepth 100000 in
theorem zSf_ptr : (List.range 119).all (fun a => (List.range 26).all (fun j => zptr a j == 0 || zSf.2.1 a j == (zptr a j : Int))) = true := by decide +kernel
theorem zptrL_len : zptrL.length = 119 ∧ zptrL.all (fun r => decide (r.length ≤ 26)) = true := by decide +kernel
theorem zSf_pt : PT zSf.2.1 := by
  intro a j h
  have ha : a < 119 := by
    apply Classical.byContradiction
    intro hc
    apply h
    have e : zptrL.getD a [] = [] := by
      rw [List.getD_eq_getElem?_getD, List.getElem?_eq_none (by rw [zptrL_len.1]; omega)]
      rfl
    unfold zptr
    rw [e]
    rfl
  have hj : j < 26 := by
    apply Classical.byContradiction
    intro hc
    apply h
    unfold zptr
    have hr : (zptrL.getD a []).length ≤ 26 := by
      rw [List.getD_eq_getElem?_getD]
      cases e : zptrL[a]? with
      | none => exact Nat.zero_le _
      | some r => exact of_decide_eq_true (List.all_eq_true.mp zptrL_len.2 r (List.mem_of_getElem? e))
    rw [List.getD_eq_getElem?_getD (l := zptrL.getD a []), List.getElem?_eq_none (by omega)]
    rfl
  have h1 := List.all_eq_true.mp (List.all_eq_true.mp zSf_ptr a (List.mem_range.mpr ha)) j (List.mem_range.mpr hj)
  simp only [Bool.or_eq_true, beq_iff_eq] at h1
  rcases h1 with h1 | h1
  · exact absurd h1 h
  · exact h1
set_option maxRecDepth 100000 in
theorem zSf_v : (zSf.2.1 1 4 = 0 ∧ zSf.2.1 9 1 = 0 ∧ zSf.2.1 9 2 = 0 ∧ zSf.2.1 0 7 = 40 ∧ zSf.2.1 0 8 = 0 ∧ zSf.2.1 6 2 = 0) ∧ (zSf.2.1 97 1 = 0 ∧ zSf.2.1 97 6 = 40 ∧ zSf.2.1 97 9 = 0 ∧ zSf.2.1 97 10 = 0 ∧ zSf.2.1 97 12 = 0) := by decide +kernel
set_option maxRecDepth 100000 in
theorem zSf_r : (List.range 5).all (fun j => zSf.2.1 7 j == zfw.getD j 0 && zSf.2.1 8 j == 0 && zSf.2.1 102 j == zfw.getD j 0 && zSf.2.1 103 j == 0 && decide (0 ≤ zfw.getD j 0 ∧ zfw.getD j 0 ≤ 99)) = true := by decide +kernel
set_option maxRecDepth 100000 in
theorem zSf_m : (List.range 300).all (fun k => zSf.2.1 106 k == 0 && zSf.2.1 109 k == 0) = true := by decide +kernel
theorem zSf_LI : LI zSf.2.1 0 := by
  obtain ⟨⟨a1, a2, a3, a4, a5, a6⟩, b1, b2, b3, b4, b5⟩ := zSf_v
  have hr : ∀ j, j < 5 → zSf.2.1 7 j = zfw.getD j 0 ∧ zSf.2.1 8 j = 0 ∧ zSf.2.1 102 j = zfw.getD j 0 ∧ zSf.2.1 103 j = 0 ∧ (0 ≤ zfw.getD j 0 ∧ zfw.getD j 0 ≤ 99) := fun j hj => by
    have h := List.all_eq_true.mp zSf_r j (List.mem_range.mpr hj)
    simp only [Bool.and_eq_true, beq_iff_eq, decide_eq_true_eq] at h
    exact ⟨h.1.1.1.1, h.1.1.1.2, h.1.1.2, h.1.2, h.2⟩
  have hm : ∀ k, k < 300 → zSf.2.1 106 k = 0 ∧ zSf.2.1 109 k = 0 := fun k hk => by
    have h := List.all_eq_true.mp zSf_m k (List.mem_range.mpr hk)
    simp only [Bool.and_eq_true, beq_iff_eq] at h
    exact h
  refine ⟨(0, fun _ => (0, 0, 0, 0)), (fun j => zfw.getD j 0, fun _ => 0, 0), (0, fun _ => ((0, fun _ => (0, 0, 0, 0)), fun _ => 0)), 40, 0, ?_, ?_, ?_⟩
  · exact ⟨⟨a1, fun j hj => absurd hj (Nat.not_lt_zero _)⟩, ⟨fun j hj => (hr j hj).1, fun j hj => (hr j hj).2.1, a6⟩, ⟨0, by omega, a2, a3, Nat.zero_le _, fun q hq => absurd hq (Nat.not_lt_zero _)⟩, a4, a5, fun h => absurd h (by decide)⟩
  · exact ⟨⟨b1, fun j hj => absurd hj (Nat.not_lt_zero _)⟩, ⟨fun j hj => (hr j hj).2.2.1, fun j hj => (hr j hj).2.2.2.1, b3⟩, ⟨b5, Nat.zero_le _, fun q hq => absurd hq (Nat.not_lt_zero _), fun k hk => by
      obtain ⟨h1, h2⟩ := hm k hk
      rw [h1, h2]
      exact ⟨⟨by omega, by omega⟩, Or.inl rfl⟩⟩, b2, b4, fun h => absurd h (by decide)⟩
  · exact ⟨⟨Nat.zero_le _, fun j hj => absurd hj (Nat.not_lt_zero _)⟩, ⟨fun j hj => (hr j hj).2.2.2.2, fun j _ => ⟨Int.le_refl _, Int.le_refl _⟩, Int.le_refl _, Int.le_refl _⟩, fun q hq => absurd hq (Nat.not_lt_zero _), ⟨by omega, by omega⟩, Or.inl rfl, Int.le_refl _, fun q hq => absurd hq (Nat.not_lt_zero _)⟩
/-- the run from here answers 1, within the room -/
def Rg (ro : zRo) (d : Nat) (M : zM) (pc : Nat) (ls st : List zV) (S : zS) : Prop := ∃ (n : Nat) (S' : zS), zrun ro n d M pc ls st S = some (.inl (some (0, 1)), S') ∧ S'.2.2.1 ≤ 603072 ∧ S'.2.2.2 ≤ 7215210
section
variable {ro : zRo} {d : Nat} {M : zM} {pc : Nat} {ls st : List zV} {S : zS}
theorem Rg_push {i : Instr} {len : Nat} {v : zV} (g : zget (zMt M) pc = some (i, len)) (h : zpush (zcon (zMk M)) i len ls = some v) (K : Rg ro d M (pc + len) ls (v :: st) S) : Rg ro d M pc ls st S := by
  obtain ⟨n, S', a, b⟩ := K
  exact ⟨n + 1, S', by rw [zrun]; simp only [g, h]; exact a, b⟩
theorem Rg_store {i : Instr} {len : Nat} {v : List zV × List zV} (g : zget (zMt M) pc = some (i, len)) (h1 : zpush (zcon (zMk M)) i len ls = none) (h : zstore i len ls st = some v) (K : Rg ro d M (pc + len) v.1 v.2 S) : Rg ro d M pc ls st S := by
  obtain ⟨n, S', a, b⟩ := K
  exact ⟨n + 1, S', by rw [zrun]; simp only [g, h1, h]; exact a, b⟩
theorem Rg_arith {i : Instr} {len : Nat} {v : List zV} (g : zget (zMt M) pc = some (i, len)) (h1 : zpush (zcon (zMk M)) i len ls = none) (h2 : zstore i len ls st = none) (h : zarith (zmth (zMk M)) i len st = some v) (K : Rg ro d M (pc + len) ls v S) : Rg ro d M pc ls st S := by
  obtain ⟨n, S', a, b⟩ := K
  exact ⟨n + 1, S', by rw [zrun]; simp only [g, h1, h2, h]; exact a, b⟩
theorem Rg_heap {i : Instr} {len : Nat} {st' : List zV} {S1 : zS} (g : zget (zMt M) pc = some (i, len)) (h1 : zpush (zcon (zMk M)) i len ls = none) (h2 : zstore i len ls st = none) (h3 : zarith (zmth (zMk M)) i len st = none) (h4 : zjump i len pc st = none) (h5 : zend (zMr M) i len st = none) (h6 : zthr (zexn (zMk M)) (zMt M) pc i len = none)
    (h : zheap (zfld (zMk M)) (zcls (zMk M)) zfty (zref (zMk M)) (zstc (zMk M)) (M.1.name == "<init>") ro i len st S = some (st', S1)) (K : Rg ro d M (pc + len) ls st' S1) : Rg ro d M pc ls st S := by
  obtain ⟨n, S', a, b⟩ := K
  exact ⟨n + 1, S', by rw [zrun]; simp only [g, h1, h2, h3, h4, h5, h6, h]; exact a, b⟩
theorem Rg_call {i : Instr} {kd na n1 d' : Nat} {M' : zM} {S1 : zS} (g : zget (zMt M) pc = some (i, 3)) (h1 : zpush (zcon (zMk M)) i 3 ls = none) (h2 : zstore i 3 ls st = none) (h3 : zarith (zmth (zMk M)) i 3 st = none) (h4 : zjump i 3 pc st = none) (h5 : zend (zMr M) i 3 st = none) (h6 : zthr (zexn (zMk M)) (zMt M) pc i 3 = none)
    (hi : zinv (zMk M) i 3 = some (kd, na, M')) (hb : (decide (na ≤ st.length) && (st.take na).all zplain && decide (na ≤ zMl M') && (st.drop na).all zplain && decide ((st.drop na).length ≤ 8) && zrecv S kd (zMk M') (st.take na).reverse) = true)
    (hrun : zrun ro n1 d' M' 0 (zargs (zMl M') (st.take na).reverse) [] S = some (.inl none, S1)) (K : Rg ro (d' + 1) M (pc + 3) ls (st.drop na) S1) : Rg ro (d' + 1) M pc ls st S := by
  obtain ⟨n, S', a, b⟩ := K
  have h7 := zinv_heap hi ro (zfld (zMk M)) (zcls (zMk M)) zfty (zref (zMk M)) (zstc (zMk M)) (M.1.name == "<init>") st S
  refine ⟨n + n1 + 1, S', ?_, b⟩
  rw [zrun]
  simp only [g, h1, h2, h3, h4, h5, h6, h7, hi, hb, cond_true]
  rw [zr_le n1 (n + n1) _ _ _ _ _ _ _ _ (by omega) (Nat.le_refl _) hrun]
  exact zr_le n (n + n1) _ _ _ _ _ _ _ _ (by omega) (Nat.le_refl _) a
end
theorem ro0_le (L : Nat) (xs : Nat → Int32) : ∀ z r, ro0 z = some r → zroF L xs z = some r := by
  intro z r h
  unfold ro0 at h
  unfold zroF
  split at h
  · rename_i hz
    rw [if_pos hz]
    exact h
  · cases h
theorem zlaw {L : Nat} (hL : L ≤ 2048) (xs : Nat → Int32) : zgoal L xs := by
  show Rg (zroF L xs) 100 mL_law 0 [(1, -3), (9, 0), (9, 0), (9, 0), (9, 0), (9, 0), (9, 0), (9, 0), (9, 0)] [] zS0
  have hx : zrun (zroF L xs) 1000 99 mX7_init 0 (zargs (zMl mX7_init) [(1, 0)]) [] zSa = some (.inl none, zSb) := zr_ro (ro0_le L xs) _ _ _ _ _ _ _ _ (void_eq zXi_ok)
  have hm : zrun (zroF L xs) 1000 99 mX8_init 0 (zargs (zMl mX8_init) [(1, 97)]) [] zSc = some (.inl none, zSd) := zr_ro (ro0_le L xs) _ _ _ _ _ _ _ _ (void_eq zMi_ok)
  refine Rg_heap (i := .new 8) (len := 3) (st' := [(1, 0)]) (S1 := zSa) (by decide +kernel) rfl rfl rfl rfl rfl rfl rfl ?_
  refine Rg_arith (i := .dup) (len := 1) (v := [(1, 0), (1, 0)]) (by decide +kernel) rfl rfl rfl ?_
  refine Rg_call (i := .invokespecial 126) (kd := 3) (na := 1) (M' := mX7_init) (by decide +kernel) rfl rfl rfl rfl rfl rfl rfl (by decide +kernel) hx ?_
  refine Rg_store (i := .astore_n 1) (len := 1) (v := ([(1, -3), (1, 0), (9, 0), (9, 0), (9, 0), (9, 0), (9, 0), (9, 0), (9, 0)], [])) (by decide +kernel) rfl rfl ?_
  refine Rg_heap (i := .new 127) (len := 3) (st' := [(1, 97)]) (S1 := zSc) (by decide +kernel) rfl rfl rfl rfl rfl rfl (by
    show some ([((1 : Nat), (zSb.1.length : Int))], zSc) = _
    rw [zSb_len]
    rfl) ?_
  refine Rg_arith (i := .dup) (len := 1) (v := [(1, 97), (1, 97)]) (by decide +kernel) rfl rfl rfl ?_
  refine Rg_call (i := .invokespecial 129) (kd := 3) (na := 1) (M' := mX8_init) (by decide +kernel) rfl rfl rfl rfl rfl rfl rfl (by decide +kernel) hm ?_
  refine Rg_store (i := .astore_n 2) (len := 1) (v := ([(1, -3), (1, 0), (1, 97), (9, 0), (9, 0), (9, 0), (9, 0), (9, 0), (9, 0)], [])) (by decide +kernel) rfl rfl ?_
  refine Rg_push (i := .iconst 1) (len := 1) (v := (0, 1)) (by decide +kernel) rfl ?_
  refine Rg_heap (i := .newarray .long) (len := 2) (st' := [(1, 117)]) (S1 := zSe) (by decide +kernel) rfl rfl rfl rfl rfl rfl (by
    show some ([((1 : Nat), (zSd.1.length : Int))], zSe) = _
    rw [zSd_len]
    rfl) ?_
  refine Rg_store (i := .astore_n 3) (len := 1) (v := ([(1, -3), (1, 0), (1, 97), (1, 117), (9, 0), (9, 0), (9, 0), (9, 0), (9, 0)], [])) (by decide +kernel) rfl rfl ?_
  refine Rg_push (i := .iconst 1) (len := 1) (v := (0, 1)) (by decide +kernel) rfl ?_
  refine Rg_heap (i := .newarray .double) (len := 2) (st' := [(1, 118)]) (S1 := zSf) (by decide +kernel) rfl rfl rfl rfl rfl rfl (by
    show some ([((1 : Nat), ((zSd.1 ++ [(4, 0, 1)]).length : Int))], zSf) = _
    rw [List.length_append, zSd_len]
    rfl) ?_
  refine Rg_store (i := .astore 4) (len := 2) (v := ([(1, -3), (1, 0), (1, 97), (1, 117), (1, 118), (9, 0), (9, 0), (9, 0), (9, 0)], [])) (by decide +kernel) rfl rfl ?_
  refine Rg_push (i := .iconst 0) (len := 1) (v := (0, 0)) (by decide +kernel) rfl ?_
  refine Rg_store (i := .istore 5) (len := 2) (v := ([(1, -3), (1, 0), (1, 97), (1, 117), (1, 118), (0, 0), (9, 0), (9, 0), (9, 0)], [])) (by decide +kernel) rfl rfl ?_
  have hro : zroF L xs (-3) = some (L, fun j => (xs j).toInt) := rfl
  have hz := lloop hro hL 512 0 (by omega) (9, 0) (9, 0) (9, 0) zSf.2.1 zSf_LI
  obtain ⟨n, r, w', k, h1, -, h2, h3⟩ := hz zSf_pt zSf.2.2.1 zSf.2.2.2
  have hc := zSf_c
  subst h3
  have e : zSf = (zLY, zSf.2.1, zSf.2.2.1, zSf.2.2.2) := by rw [← zSf_ly]
  refine ⟨n, (zLY, w', zSf.2.2.1 + k, zSf.2.2.2 + 6 * k), ?_, ?_, ?_⟩
  · rw [e]
    exact h1
  · show zSf.2.2.1 + k ≤ 603072
    omega
  · show zSf.2.2.2 + 6 * k ≤ 7215210
    omega
