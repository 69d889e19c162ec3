/-! the law, run by the small machine -/
/-- the run from here answers 1, within the room -/
def Rg (ro : zRo) (d : Nat) (M : zM) (pc : Nat) (ls st : List zV) (S : zS) : Prop := ∃ (n : Nat) (S' : zS), zrun ro n d M pc ls st S = some (.inl (some (0, 1)), S') ∧ S'.2.2.1 ≤ 683861 ∧ S'.2.2.2 ≤ 7040784
section
variable {ro : zRo} {d : Nat} {M : zM} {pc : Nat} {ls st : List zV} {S : zS}
theorem Rg_push {i : Instr} {len : Nat} {v : zV} (g : zget (zMt M) pc = some (i, len)) (h : zpush (zcon (zMk M)) i len ls = some v) (K : Rg ro d M (pc + len) ls (v :: st) S) : Rg ro d M pc ls st S := by
  obtain ⟨n, S', a, b⟩ := K
  exact ⟨n + 1, S', by rw [zrun]; simp only [g, h]; exact a, b⟩
theorem Rg_store {i : Instr} {len : Nat} {v : List zV × List zV} (g : zget (zMt M) pc = some (i, len)) (h1 : zpush (zcon (zMk M)) i len ls = none) (h : zstore i len ls st = some v) (K : Rg ro d M (pc + len) v.1 v.2 S) : Rg ro d M pc ls st S := by
  obtain ⟨n, S', a, b⟩ := K
  exact ⟨n + 1, S', by rw [zrun]; simp only [g, h1, h]; exact a, b⟩
theorem Rg_arith {i : Instr} {len : Nat} {v : List zV} (g : zget (zMt M) pc = some (i, len)) (h1 : zpush (zcon (zMk M)) i len ls = none) (h2 : zstore i len ls st = none) (h : zarith (zmth (zMk M)) i len st = some v) (K : Rg ro d M (pc + len) ls v S) : Rg ro d M pc ls st S := by
  obtain ⟨n, S', a, b⟩ := K
  exact ⟨n + 1, S', by rw [zrun]; simp only [g, h1, h2, h]; exact a, b⟩
theorem Rg_heap {i : Instr} {len : Nat} {st' : List zV} {S1 : zS} (g : zget (zMt M) pc = some (i, len)) (h1 : zpush (zcon (zMk M)) i len ls = none) (h2 : zstore i len ls st = none) (h3 : zarith (zmth (zMk M)) i len st = none) (h4 : zjump i len pc st = none) (h5 : zend (zMr M) i len st = none) (h6 : zthr (zexn (zMk M)) (zMt M) pc i len = none)
    (h : zheap (zfld (zMk M)) (zcls (zMk M)) zfty (zref (zMk M)) (zstc (zMk M)) (M.1.name == "<init>") ro i len st S = some (st', S1)) (K : Rg ro d M (pc + len) ls st' S1) : Rg ro d M pc ls st S := by
  obtain ⟨n, S', a, b⟩ := K
  exact ⟨n + 1, S', by rw [zrun]; simp only [g, h1, h2, h3, h4, h5, h6, h]; exact a, b⟩
theorem Rg_call {i : Instr} {kd na n1 d' : Nat} {M' : zM} {S1 : zS} (g : zget (zMt M) pc = some (i, 3)) (h1 : zpush (zcon (zMk M)) i 3 ls = none) (h2 : zstore i 3 ls st = none) (h3 : zarith (zmth (zMk M)) i 3 st = none) (h4 : zjump i 3 pc st = none) (h5 : zend (zMr M) i 3 st = none) (h6 : zthr (zexn (zMk M)) (zMt M) pc i 3 = none)
    (hi : zinv (zMk M) i 3 = some (kd, na, M')) (hb : (decide (na ≤ st.length) && (st.take na).all zplain && decide (na ≤ zMl M') && (st.drop na).all zplain && decide ((st.drop na).length ≤ 8) && zrecv S kd (zMk M') (st.take na).reverse) = true)
    (hrun : zrun ro n1 d' M' 0 (zargs (zMl M') (st.take na).reverse) [] S = some (.inl none, S1)) (K : Rg ro (d' + 1) M (pc + 3) ls (st.drop na) S1) : Rg ro (d' + 1) M pc ls st S := by
  obtain ⟨n, S', a, b⟩ := K
  have h7 := zinv_heap9 hi ro (zfld (zMk M)) (zcls (zMk M)) zfty (zref (zMk M)) (zstc (zMk M)) (M.1.name == "<init>") st S
  refine ⟨n + n1 + 1, S', ?_, b⟩
  rw [zrun]
  simp only [g, h1, h2, h3, h4, h5, h6, h7, hi, hb, cond_true]
  rw [zr_le n1 (n + n1) _ _ _ _ _ _ _ _ (by omega) (Nat.le_refl _) hrun]
  exact zr_le n (n + n1) _ _ _ _ _ _ _ _ (by omega) (Nat.le_refl _) a
end
theorem ro0_le (L : Nat) (xs : Nat → Int32) : ∀ z r, ro0 z = some r → zroF L xs z = some r := by
  intro z r h
  unfold ro0 at h
  unfold zroF
  split at h
  · rename_i hz
    rw [if_pos hz]
    exact h
  · cases h
theorem zlaw {L : Nat} (hL : L ≤ 260) (xs : Nat → Int32) : zgoal L xs := by
  show Rg (zroF L xs) 100 mL_law 0 [(1, -3), (9, 0), (9, 0), (9, 0), (9, 0), (9, 0), (9, 0), (9, 0), (9, 0), (9, 0), (9, 0)] [] zS0
  have hx : zrun (zroF L xs) 1000 99 mX7_init 0 (zargs (zMl mX7_init) [(1, 0)]) [] zSa = some (.inl none, zSb) := zr_ro (ro0_le L xs) _ _ _ _ _ _ _ _ (void_eq zXi_ok)
  refine Rg_heap (i := .new 16) (len := 3) (st' := [(1, 0)]) (S1 := zSa) gL_law_0 rfl rfl rfl rfl rfl rfl rfl ?_
  refine Rg_arith (i := .dup) (len := 1) (v := [(1, 0), (1, 0)]) gL_law_3 rfl rfl rfl ?_
  refine Rg_call (i := .invokespecial 180) (kd := 3) (na := 1) (M' := mX7_init) gL_law_4 rfl rfl rfl rfl rfl rfl rfl (by decide +kernel) hx ?_
  refine Rg_store (i := .astore_n 1) (len := 1) (v := ([(1, -3), (1, 0), (9, 0), (9, 0), (9, 0), (9, 0), (9, 0), (9, 0), (9, 0), (9, 0), (9, 0)], [])) gL_law_7 rfl rfl ?_
  have hro : zroF L xs (-3) = some (L, fun j => (xs j).toInt) := rfl
  have hz := Y_deep (d := 100) (by omega) (tY_start (X := []) hro zSb_CR.1 zSb_CR.2 rfl rfl)
  obtain ⟨n, r, X', w', c', s', h1, h2, h3, -, h4⟩ := hz zSb_pt zSb.2.2.1 zSb.2.2.2
  have hc := zSb_c
  have h4 : r = .inl (some (0, 1)) := h4
  subst h4
  have e : zSb = (zLY ++ [], zSb.2.1, zSb.2.2.1, zSb.2.2.2) := by rw [List.append_nil, ← zSb_ly]
  refine ⟨n, (zLY ++ X', w', c', s'), ?_, ?_, ?_⟩
  · rw [e]
    exact h1
  · show c' ≤ 683861
    omega
  · show s' ≤ 7040784
    omega
