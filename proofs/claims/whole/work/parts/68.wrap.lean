/-! the law's own methods: a call of the class, what it throws told by a number -/
def Lw (ro : zRo) (d : Nat) (M : zM) (as : List zV) (w : zW) (P : Int → zW → Prop) : Prop := Z ro d M 0 (zargs (zMl M) as) [] w (fun r w' k => k ≤ 1 ∧ ∃ v, r = .inl (some (0, v)) ∧ P v w')
/-- what the law sees of a call: its number, where it is 0 the answer in cell q -/
def lP (w : zW) (q cd : Nat) (v : Int) (C1 C0 : zW → Prop) : Int → zW → Prop := fun c w' => c = (cd : Int) ∧ (cd = 0 → C1 w' ∧ w' q 0 = v) ∧ (cd ≠ 0 → C0 w') ∧ ∀ a k, 97 ≤ a → a ≤ 116 → w' a k = w a k
def stab (q : Nat) (C : zW → Prop) : Prop := ∀ W x, C W → C (zup W q 0 x)
section
variable {ro : zRo} {d : Nat} {M : zM} {pc : Nat} {ls st : List zV} {w : zW} {Q : (Option zV ⊕ String) → zW → Nat → Prop}
theorem Z_callL {i : Instr} {kd na : Nat} {M' : zM} {d' : Nat} {P : Int → zW → Prop} (g : zget (zMt M) pc = some (i, 3)) (h1 : zpush (zcon (zMk M)) i 3 ls = none) (h2 : zstore i 3 ls st = none) (h3 : zarith (zmth (zMk M)) i 3 st = none) (h4 : zjump i 3 pc st = none) (h5 : zend (zMr M) i 3 st = none) (h6 : zthr (zexn (zMk M)) (zMt M) pc i 3 = none)
    (h7 : ∀ S, zheap (zfld (zMk M)) (zcls (zMk M)) zfty (zref (zMk M)) (zstc (zMk M)) (M.1.name == "<init>") ro i 3 st S = none)
    (hi : zinv (zMk M) i 3 = some (kd, na, M')) (hb : (decide (na ≤ st.length) && (st.take na).all zplain && decide (na ≤ zMl M') && (st.drop na).all zplain && decide ((st.drop na).length ≤ 8)) = true)
    (hr : ∀ c s, zrecv (zLY, w, c, s) kd (zMk M') (st.take na).reverse = true) (hd : d' + 1 ≤ d)
    (C : Lw ro d' M' (st.take na).reverse w P) (K : ∀ v w', P v w' → Z ro d M (pc + 3) ls ((0, v) :: st.drop na) w' (fun r w2 k2 => ∀ e, e ≤ 1 → Q r w2 (k2 + e))) : Z ro d M pc ls st w Q := by
  refine Z_call g h1 h2 h3 h4 h5 h6 h7 hi hb hr hd C (fun o w' k h => ?_) (fun E w' k h => ?_)
  · obtain ⟨hk, v, e, hP⟩ := h
    cases e
    exact Z_mono (K v w' hP) (fun r w2 k2 h2 => h2 k hk)
  · obtain ⟨hk, v, e, hP⟩ := h
    cases e
end
theorem f2d_ok {mth : Nat → Nat} {st : List zV} {x : UInt32} (h : zn64 (FP.f2d x) = true) : zarith mth .f2d 1 ((3, (x.toNat : Int)) :: st) = some ((4, ((FP.f2d x).toNat : Int)) :: st) := by
  show (if zn64 (FP.f2d (UInt32.ofNat ((x.toNat : Int)).toNat)) = true then _ else none) = _
  rw [u32_id, if_pos h]
section
variable {ro : zRo} {w : zW} {C1 C0 : zW → Prop} {cd : Nat} {v : Int}
theorem wL_addName (i : Int) (l : Int) (H : Xv ro 4 mX7_addName [(1, ((0 : Nat) : Int)), (0, i), (0, l)] w (mP w cd C1 C0 (ans (some (0, v)) ["java/lang/IllegalArgumentException", "java/lang/IllegalStateException"] cd))) (hcd : cd ≤ 2) (h1 : stab 117 C1) : Lw ro 5 mL_addName [(1, ((0 : Nat) : Int)), (0, i), (0, l), (1, ((117 : Nat) : Int))] w (lP w 117 cd v C1 C0) := by
  show Z ro 5 mL_addName 0 [(1, ((0 : Nat) : Int)), (0, i), (0, l), (1, ((117 : Nat) : Int)), (9, 0)] [] w _
  refine Z_push gL_addName_0 (v := (1, ((117 : Nat) : Int))) rfl ?_
  refine Z_push gL_addName_1 (v := (0, 0)) rfl ?_
  refine Z_push gL_addName_2 (v := (1, ((0 : Nat) : Int))) rfl ?_
  refine Z_push gL_addName_3 (v := (0, i)) rfl ?_
  refine Z_push gL_addName_4 (v := (0, l)) rfl ?_
  refine Z_callC (kd := 0) (na := 3) (M' := mX7_addName) gL_addName_5 rfl rfl rfl rfl rfl rfl (fun _ => rfl) rfl rfl (fun _ _ => zrecv_obj rfl _ _ _) (d' := 4) (by decide) (H) (Or.inl rfl) (fun E9 w9 hE => ?_) ?_
  · obtain ⟨e, c1, c0, hf⟩ := hE
    rcases (by omega : cd = 0 ∨ cd = 1 ∨ cd = 2) with rfl | rfl | rfl
    · rw [ans_0 rfl] at e
      cases e
    · rw [ans_1 rfl] at e
      cases e
      refine ⟨13, (15, [(1, ((0 : Nat) : Int)), (0, i), (0, l), (1, ((117 : Nat) : Int)), (9, 0)]), by decide +kernel, rfl, ?_⟩
      refine Z_push gL_addName_15 (v := (0, 1)) rfl ?_
      refine Z_retX (v := (0, 1)) gL_addName_16 rfl rfl rfl rfl rfl ?_
      exact ⟨by omega, 1, rfl, rfl, fun h => absurd h (by omega), fun _ => c0 (by omega), fun a k h1 h2 => hf a k h1⟩
    · rw [ans_2 rfl] at e
      cases e
      refine ⟨17, (19, [(1, ((0 : Nat) : Int)), (0, i), (0, l), (1, ((117 : Nat) : Int)), (9, 0)]), by decide +kernel, rfl, ?_⟩
      refine Z_push gL_addName_19 (v := (0, 2)) rfl ?_
      refine Z_retX (v := (0, 2)) gL_addName_20 rfl rfl rfl rfl rfl ?_
      exact ⟨by omega, 2, rfl, rfl, fun h => absurd h (by omega), fun _ => c0 (by omega), fun a k h1 h2 => hf a k h1⟩
  · rintro o w2 ⟨e, c1, c0, hf⟩
    rcases (by omega : cd = 0 ∨ cd = 1 ∨ cd = 2) with rfl | rfl | rfl
    · rw [ans_0 rfl] at e
      cases e
      refine Z_arith gL_addName_8 rfl rfl (v := [(2, v), (0, 0), (1, ((117 : Nat) : Int))]) rfl ?_
      refine Z_lastore gL_addName_9 rfl (by omega) (by omega) ?_
      refine Z_goto gL_addName_10 (tgt := 21) (by decide) ?_
      refine Z_push gL_addName_21 (v := (0, 0)) rfl ?_
      refine Z_retX (v := (0, 0)) gL_addName_22 rfl rfl rfl rfl rfl ?_
      exact ⟨by omega, 0, rfl, rfl, fun _ => ⟨h1 _ _ (c1 rfl), zup_eq _ _ _ _⟩, fun h => absurd rfl h, fun a k h1 h2 => (zup_ne (by omega)).trans (hf a k h1)⟩
    · rw [ans_1 rfl] at e
      cases e
    · rw [ans_2 rfl] at e
      cases e
theorem wL_addComment (l : Int) (H : Xv ro 4 mX7_addComment [(1, ((0 : Nat) : Int)), (0, l)] w (mP w cd C1 C0 (ans (some (0, v)) ["java/lang/IllegalArgumentException", "java/lang/IllegalStateException"] cd))) (hcd : cd ≤ 2) (h1 : stab 117 C1) : Lw ro 5 mL_addComment [(1, ((0 : Nat) : Int)), (0, l), (1, ((117 : Nat) : Int))] w (lP w 117 cd v C1 C0) := by
  show Z ro 5 mL_addComment 0 [(1, ((0 : Nat) : Int)), (0, l), (1, ((117 : Nat) : Int)), (9, 0)] [] w _
  refine Z_push gL_addComment_0 (v := (1, ((117 : Nat) : Int))) rfl ?_
  refine Z_push gL_addComment_1 (v := (0, 0)) rfl ?_
  refine Z_push gL_addComment_2 (v := (1, ((0 : Nat) : Int))) rfl ?_
  refine Z_push gL_addComment_3 (v := (0, l)) rfl ?_
  refine Z_callC (kd := 0) (na := 2) (M' := mX7_addComment) gL_addComment_4 rfl rfl rfl rfl rfl rfl (fun _ => rfl) rfl rfl (fun _ _ => zrecv_obj rfl _ _ _) (d' := 4) (by decide) (H) (Or.inl rfl) (fun E9 w9 hE => ?_) ?_
  · obtain ⟨e, c1, c0, hf⟩ := hE
    rcases (by omega : cd = 0 ∨ cd = 1 ∨ cd = 2) with rfl | rfl | rfl
    · rw [ans_0 rfl] at e
      cases e
    · rw [ans_1 rfl] at e
      cases e
      refine ⟨12, (13, [(1, ((0 : Nat) : Int)), (0, l), (1, ((117 : Nat) : Int)), (9, 0)]), by decide +kernel, rfl, ?_⟩
      refine Z_push gL_addComment_13 (v := (0, 1)) rfl ?_
      refine Z_retX (v := (0, 1)) gL_addComment_14 rfl rfl rfl rfl rfl ?_
      exact ⟨by omega, 1, rfl, rfl, fun h => absurd h (by omega), fun _ => c0 (by omega), fun a k h1 h2 => hf a k h1⟩
    · rw [ans_2 rfl] at e
      cases e
      refine ⟨15, (16, [(1, ((0 : Nat) : Int)), (0, l), (1, ((117 : Nat) : Int)), (9, 0)]), by decide +kernel, rfl, ?_⟩
      refine Z_push gL_addComment_16 (v := (0, 2)) rfl ?_
      refine Z_retX (v := (0, 2)) gL_addComment_17 rfl rfl rfl rfl rfl ?_
      exact ⟨by omega, 2, rfl, rfl, fun h => absurd h (by omega), fun _ => c0 (by omega), fun a k h1 h2 => hf a k h1⟩
  · rintro o w2 ⟨e, c1, c0, hf⟩
    rcases (by omega : cd = 0 ∨ cd = 1 ∨ cd = 2) with rfl | rfl | rfl
    · rw [ans_0 rfl] at e
      cases e
      refine Z_arith gL_addComment_7 rfl rfl (v := [(2, v), (0, 0), (1, ((117 : Nat) : Int))]) rfl ?_
      refine Z_lastore gL_addComment_8 rfl (by omega) (by omega) ?_
      refine Z_goto gL_addComment_9 (tgt := 18) (by decide) ?_
      refine Z_push gL_addComment_18 (v := (0, 0)) rfl ?_
      refine Z_retX (v := (0, 0)) gL_addComment_19 rfl rfl rfl rfl rfl ?_
      exact ⟨by omega, 0, rfl, rfl, fun _ => ⟨h1 _ _ (c1 rfl), zup_eq _ _ _ _⟩, fun h => absurd rfl h, fun a k h1 h2 => (zup_ne (by omega)).trans (hf a k h1)⟩
    · rw [ans_1 rfl] at e
      cases e
    · rw [ans_2 rfl] at e
      cases e
theorem wL_begin (H : Xv ro 4 mX7_begin [(1, ((0 : Nat) : Int))] w (mP w cd C1 C0 (ans (some (0, v)) ["java/lang/IllegalStateException"] cd))) (hcd : cd ≤ 1) (h1 : stab 117 C1) : Lw ro 5 mL_begin [(1, ((0 : Nat) : Int)), (1, ((117 : Nat) : Int))] w (lP w 117 cd v C1 C0) := by
  show Z ro 5 mL_begin 0 [(1, ((0 : Nat) : Int)), (1, ((117 : Nat) : Int)), (9, 0)] [] w _
  refine Z_push gL_begin_0 (v := (1, ((117 : Nat) : Int))) rfl ?_
  refine Z_push gL_begin_1 (v := (0, 0)) rfl ?_
  refine Z_push gL_begin_2 (v := (1, ((0 : Nat) : Int))) rfl ?_
  refine Z_callC (kd := 0) (na := 1) (M' := mX7_begin) gL_begin_3 rfl rfl rfl rfl rfl rfl (fun _ => rfl) rfl rfl (fun _ _ => zrecv_obj rfl _ _ _) (d' := 4) (by decide) (H) (Or.inl rfl) (fun E9 w9 hE => ?_) ?_
  · obtain ⟨e, c1, c0, hf⟩ := hE
    rcases (by omega : cd = 0 ∨ cd = 1) with rfl | rfl
    · rw [ans_0 rfl] at e
      cases e
    · rw [ans_1 rfl] at e
      cases e
      refine ⟨11, (12, [(1, ((0 : Nat) : Int)), (1, ((117 : Nat) : Int)), (9, 0)]), by decide +kernel, rfl, ?_⟩
      refine Z_push gL_begin_12 (v := (0, 1)) rfl ?_
      refine Z_retX (v := (0, 1)) gL_begin_13 rfl rfl rfl rfl rfl ?_
      exact ⟨by omega, 1, rfl, rfl, fun h => absurd h (by omega), fun _ => c0 (by omega), fun a k h1 h2 => hf a k h1⟩
  · rintro o w2 ⟨e, c1, c0, hf⟩
    rcases (by omega : cd = 0 ∨ cd = 1) with rfl | rfl
    · rw [ans_0 rfl] at e
      cases e
      refine Z_arith gL_begin_6 rfl rfl (v := [(2, v), (0, 0), (1, ((117 : Nat) : Int))]) rfl ?_
      refine Z_lastore gL_begin_7 rfl (by omega) (by omega) ?_
      refine Z_goto gL_begin_8 (tgt := 14) (by decide) ?_
      refine Z_push gL_begin_14 (v := (0, 0)) rfl ?_
      refine Z_retX (v := (0, 0)) gL_begin_15 rfl rfl rfl rfl rfl ?_
      exact ⟨by omega, 0, rfl, rfl, fun _ => ⟨h1 _ _ (c1 rfl), zup_eq _ _ _ _⟩, fun h => absurd rfl h, fun a k h1 h2 => (zup_ne (by omega)).trans (hf a k h1)⟩
    · rw [ans_1 rfl] at e
      cases e
theorem wL_end (H : Xv ro 4 mX7_end [(1, ((0 : Nat) : Int))] w (mP w cd C1 C0 (ans (some (0, v)) ["java/lang/IllegalStateException"] cd))) (hcd : cd ≤ 1) (h1 : stab 117 C1) : Lw ro 5 mL_end [(1, ((0 : Nat) : Int)), (1, ((117 : Nat) : Int))] w (lP w 117 cd v C1 C0) := by
  show Z ro 5 mL_end 0 [(1, ((0 : Nat) : Int)), (1, ((117 : Nat) : Int)), (9, 0)] [] w _
  refine Z_push gL_end_0 (v := (1, ((117 : Nat) : Int))) rfl ?_
  refine Z_push gL_end_1 (v := (0, 0)) rfl ?_
  refine Z_push gL_end_2 (v := (1, ((0 : Nat) : Int))) rfl ?_
  refine Z_callC (kd := 0) (na := 1) (M' := mX7_end) gL_end_3 rfl rfl rfl rfl rfl rfl (fun _ => rfl) rfl rfl (fun _ _ => zrecv_obj rfl _ _ _) (d' := 4) (by decide) (H) (Or.inl rfl) (fun E9 w9 hE => ?_) ?_
  · obtain ⟨e, c1, c0, hf⟩ := hE
    rcases (by omega : cd = 0 ∨ cd = 1) with rfl | rfl
    · rw [ans_0 rfl] at e
      cases e
    · rw [ans_1 rfl] at e
      cases e
      refine ⟨11, (12, [(1, ((0 : Nat) : Int)), (1, ((117 : Nat) : Int)), (9, 0)]), by decide +kernel, rfl, ?_⟩
      refine Z_push gL_end_12 (v := (0, 1)) rfl ?_
      refine Z_retX (v := (0, 1)) gL_end_13 rfl rfl rfl rfl rfl ?_
      exact ⟨by omega, 1, rfl, rfl, fun h => absurd h (by omega), fun _ => c0 (by omega), fun a k h1 h2 => hf a k h1⟩
  · rintro o w2 ⟨e, c1, c0, hf⟩
    rcases (by omega : cd = 0 ∨ cd = 1) with rfl | rfl
    · rw [ans_0 rfl] at e
      cases e
      refine Z_arith gL_end_6 rfl rfl (v := [(2, v), (0, 0), (1, ((117 : Nat) : Int))]) rfl ?_
      refine Z_lastore gL_end_7 rfl (by omega) (by omega) ?_
      refine Z_goto gL_end_8 (tgt := 14) (by decide) ?_
      refine Z_push gL_end_14 (v := (0, 0)) rfl ?_
      refine Z_retX (v := (0, 0)) gL_end_15 rfl rfl rfl rfl rfl ?_
      exact ⟨by omega, 0, rfl, rfl, fun _ => ⟨h1 _ _ (c1 rfl), zup_eq _ _ _ _⟩, fun h => absurd rfl h, fun a k h1 h2 => (zup_ne (by omega)).trans (hf a k h1)⟩
    · rw [ans_1 rfl] at e
      cases e
theorem wL_kindOf (i : Int) (H : Xv ro 2 mX7_kindOf [(1, ((0 : Nat) : Int)), (0, i)] w (mP w cd C1 C0 (ans (some (0, v)) ["java/lang/IndexOutOfBoundsException"] cd))) (hcd : cd ≤ 1) (h1 : stab 117 C1) : Lw ro 3 mL_kindOf [(1, ((0 : Nat) : Int)), (0, i), (1, ((117 : Nat) : Int))] w (lP w 117 cd v C1 C0) := by
  show Z ro 3 mL_kindOf 0 [(1, ((0 : Nat) : Int)), (0, i), (1, ((117 : Nat) : Int)), (9, 0)] [] w _
  refine Z_push gL_kindOf_0 (v := (1, ((117 : Nat) : Int))) rfl ?_
  refine Z_push gL_kindOf_1 (v := (0, 0)) rfl ?_
  refine Z_push gL_kindOf_2 (v := (1, ((0 : Nat) : Int))) rfl ?_
  refine Z_push gL_kindOf_3 (v := (0, i)) rfl ?_
  refine Z_callC (kd := 0) (na := 2) (M' := mX7_kindOf) gL_kindOf_4 rfl rfl rfl rfl rfl rfl (fun _ => rfl) rfl rfl (fun _ _ => zrecv_obj rfl _ _ _) (d' := 2) (by decide) (H) (Or.inl rfl) (fun E9 w9 hE => ?_) ?_
  · obtain ⟨e, c1, c0, hf⟩ := hE
    rcases (by omega : cd = 0 ∨ cd = 1) with rfl | rfl
    · rw [ans_0 rfl] at e
      cases e
    · rw [ans_1 rfl] at e
      cases e
      refine ⟨12, (13, [(1, ((0 : Nat) : Int)), (0, i), (1, ((117 : Nat) : Int)), (9, 0)]), by decide +kernel, rfl, ?_⟩
      refine Z_push gL_kindOf_13 (v := (0, 1)) rfl ?_
      refine Z_retX (v := (0, 1)) gL_kindOf_14 rfl rfl rfl rfl rfl ?_
      exact ⟨by omega, 1, rfl, rfl, fun h => absurd h (by omega), fun _ => c0 (by omega), fun a k h1 h2 => hf a k h1⟩
  · rintro o w2 ⟨e, c1, c0, hf⟩
    rcases (by omega : cd = 0 ∨ cd = 1) with rfl | rfl
    · rw [ans_0 rfl] at e
      cases e
      refine Z_arith gL_kindOf_7 rfl rfl (v := [(2, v), (0, 0), (1, ((117 : Nat) : Int))]) rfl ?_
      refine Z_lastore gL_kindOf_8 rfl (by omega) (by omega) ?_
      refine Z_goto gL_kindOf_9 (tgt := 15) (by decide) ?_
      refine Z_push gL_kindOf_15 (v := (0, 0)) rfl ?_
      refine Z_retX (v := (0, 0)) gL_kindOf_16 rfl rfl rfl rfl rfl ?_
      exact ⟨by omega, 0, rfl, rfl, fun _ => ⟨h1 _ _ (c1 rfl), zup_eq _ _ _ _⟩, fun h => absurd rfl h, fun a k h1 h2 => (zup_ne (by omega)).trans (hf a k h1)⟩
    · rw [ans_1 rfl] at e
      cases e
theorem wL_nameOf (i : Int) (H : Xv ro 2 mX7_nameOf [(1, ((0 : Nat) : Int)), (0, i)] w (mP w cd C1 C0 (ans (some (0, v)) ["java/lang/IndexOutOfBoundsException", "java/lang/IllegalStateException"] cd))) (hcd : cd ≤ 2) (h1 : stab 117 C1) : Lw ro 3 mL_nameOf [(1, ((0 : Nat) : Int)), (0, i), (1, ((117 : Nat) : Int))] w (lP w 117 cd v C1 C0) := by
  show Z ro 3 mL_nameOf 0 [(1, ((0 : Nat) : Int)), (0, i), (1, ((117 : Nat) : Int)), (9, 0)] [] w _
  refine Z_push gL_nameOf_0 (v := (1, ((117 : Nat) : Int))) rfl ?_
  refine Z_push gL_nameOf_1 (v := (0, 0)) rfl ?_
  refine Z_push gL_nameOf_2 (v := (1, ((0 : Nat) : Int))) rfl ?_
  refine Z_push gL_nameOf_3 (v := (0, i)) rfl ?_
  refine Z_callC (kd := 0) (na := 2) (M' := mX7_nameOf) gL_nameOf_4 rfl rfl rfl rfl rfl rfl (fun _ => rfl) rfl rfl (fun _ _ => zrecv_obj rfl _ _ _) (d' := 2) (by decide) (H) (Or.inl rfl) (fun E9 w9 hE => ?_) ?_
  · obtain ⟨e, c1, c0, hf⟩ := hE
    rcases (by omega : cd = 0 ∨ cd = 1 ∨ cd = 2) with rfl | rfl | rfl
    · rw [ans_0 rfl] at e
      cases e
    · rw [ans_1 rfl] at e
      cases e
      refine ⟨12, (13, [(1, ((0 : Nat) : Int)), (0, i), (1, ((117 : Nat) : Int)), (9, 0)]), by decide +kernel, rfl, ?_⟩
      refine Z_push gL_nameOf_13 (v := (0, 1)) rfl ?_
      refine Z_retX (v := (0, 1)) gL_nameOf_14 rfl rfl rfl rfl rfl ?_
      exact ⟨by omega, 1, rfl, rfl, fun h => absurd h (by omega), fun _ => c0 (by omega), fun a k h1 h2 => hf a k h1⟩
    · rw [ans_2 rfl] at e
      cases e
      refine ⟨15, (16, [(1, ((0 : Nat) : Int)), (0, i), (1, ((117 : Nat) : Int)), (9, 0)]), by decide +kernel, rfl, ?_⟩
      refine Z_push gL_nameOf_16 (v := (0, 2)) rfl ?_
      refine Z_retX (v := (0, 2)) gL_nameOf_17 rfl rfl rfl rfl rfl ?_
      exact ⟨by omega, 2, rfl, rfl, fun h => absurd h (by omega), fun _ => c0 (by omega), fun a k h1 h2 => hf a k h1⟩
  · rintro o w2 ⟨e, c1, c0, hf⟩
    rcases (by omega : cd = 0 ∨ cd = 1 ∨ cd = 2) with rfl | rfl | rfl
    · rw [ans_0 rfl] at e
      cases e
      refine Z_arith gL_nameOf_7 rfl rfl (v := [(2, v), (0, 0), (1, ((117 : Nat) : Int))]) rfl ?_
      refine Z_lastore gL_nameOf_8 rfl (by omega) (by omega) ?_
      refine Z_goto gL_nameOf_9 (tgt := 18) (by decide) ?_
      refine Z_push gL_nameOf_18 (v := (0, 0)) rfl ?_
      refine Z_retX (v := (0, 0)) gL_nameOf_19 rfl rfl rfl rfl rfl ?_
      exact ⟨by omega, 0, rfl, rfl, fun _ => ⟨h1 _ _ (c1 rfl), zup_eq _ _ _ _⟩, fun h => absurd rfl h, fun a k h1 h2 => (zup_ne (by omega)).trans (hf a k h1)⟩
    · rw [ans_1 rfl] at e
      cases e
    · rw [ans_2 rfl] at e
      cases e
theorem wL_widthOf (i : Int) (H : Xv ro 3 mX7_widthOf [(1, ((0 : Nat) : Int)), (0, i)] w (mP w cd C1 C0 (ans (some (0, v)) ["java/lang/IndexOutOfBoundsException"] cd))) (hcd : cd ≤ 1) (h1 : stab 117 C1) : Lw ro 4 mL_widthOf [(1, ((0 : Nat) : Int)), (0, i), (1, ((117 : Nat) : Int))] w (lP w 117 cd v C1 C0) := by
  show Z ro 4 mL_widthOf 0 [(1, ((0 : Nat) : Int)), (0, i), (1, ((117 : Nat) : Int)), (9, 0)] [] w _
  refine Z_push gL_widthOf_0 (v := (1, ((117 : Nat) : Int))) rfl ?_
  refine Z_push gL_widthOf_1 (v := (0, 0)) rfl ?_
  refine Z_push gL_widthOf_2 (v := (1, ((0 : Nat) : Int))) rfl ?_
  refine Z_push gL_widthOf_3 (v := (0, i)) rfl ?_
  refine Z_callC (kd := 0) (na := 2) (M' := mX7_widthOf) gL_widthOf_4 rfl rfl rfl rfl rfl rfl (fun _ => rfl) rfl rfl (fun _ _ => zrecv_obj rfl _ _ _) (d' := 3) (by decide) (H) (Or.inl rfl) (fun E9 w9 hE => ?_) ?_
  · obtain ⟨e, c1, c0, hf⟩ := hE
    rcases (by omega : cd = 0 ∨ cd = 1) with rfl | rfl
    · rw [ans_0 rfl] at e
      cases e
    · rw [ans_1 rfl] at e
      cases e
      refine ⟨12, (13, [(1, ((0 : Nat) : Int)), (0, i), (1, ((117 : Nat) : Int)), (9, 0)]), by decide +kernel, rfl, ?_⟩
      refine Z_push gL_widthOf_13 (v := (0, 1)) rfl ?_
      refine Z_retX (v := (0, 1)) gL_widthOf_14 rfl rfl rfl rfl rfl ?_
      exact ⟨by omega, 1, rfl, rfl, fun h => absurd h (by omega), fun _ => c0 (by omega), fun a k h1 h2 => hf a k h1⟩
  · rintro o w2 ⟨e, c1, c0, hf⟩
    rcases (by omega : cd = 0 ∨ cd = 1) with rfl | rfl
    · rw [ans_0 rfl] at e
      cases e
      refine Z_arith gL_widthOf_7 rfl rfl (v := [(2, v), (0, 0), (1, ((117 : Nat) : Int))]) rfl ?_
      refine Z_lastore gL_widthOf_8 rfl (by omega) (by omega) ?_
      refine Z_goto gL_widthOf_9 (tgt := 15) (by decide) ?_
      refine Z_push gL_widthOf_15 (v := (0, 0)) rfl ?_
      refine Z_retX (v := (0, 0)) gL_widthOf_16 rfl rfl rfl rfl rfl ?_
      exact ⟨by omega, 0, rfl, rfl, fun _ => ⟨h1 _ _ (c1 rfl), zup_eq _ _ _ _⟩, fun h => absurd rfl h, fun a k h1 h2 => (zup_ne (by omega)).trans (hf a k h1)⟩
    · rw [ans_1 rfl] at e
      cases e
theorem wL_depthOf (i : Int) (H : Xv ro 3 mX7_depthOf [(1, ((0 : Nat) : Int)), (0, i)] w (mP w cd C1 C0 (ans (some (0, v)) ["java/lang/IndexOutOfBoundsException"] cd))) (hcd : cd ≤ 1) (h1 : stab 117 C1) : Lw ro 4 mL_depthOf [(1, ((0 : Nat) : Int)), (0, i), (1, ((117 : Nat) : Int))] w (lP w 117 cd v C1 C0) := by
  show Z ro 4 mL_depthOf 0 [(1, ((0 : Nat) : Int)), (0, i), (1, ((117 : Nat) : Int)), (9, 0)] [] w _
  refine Z_push gL_depthOf_0 (v := (1, ((117 : Nat) : Int))) rfl ?_
  refine Z_push gL_depthOf_1 (v := (0, 0)) rfl ?_
  refine Z_push gL_depthOf_2 (v := (1, ((0 : Nat) : Int))) rfl ?_
  refine Z_push gL_depthOf_3 (v := (0, i)) rfl ?_
  refine Z_callC (kd := 0) (na := 2) (M' := mX7_depthOf) gL_depthOf_4 rfl rfl rfl rfl rfl rfl (fun _ => rfl) rfl rfl (fun _ _ => zrecv_obj rfl _ _ _) (d' := 3) (by decide) (H) (Or.inl rfl) (fun E9 w9 hE => ?_) ?_
  · obtain ⟨e, c1, c0, hf⟩ := hE
    rcases (by omega : cd = 0 ∨ cd = 1) with rfl | rfl
    · rw [ans_0 rfl] at e
      cases e
    · rw [ans_1 rfl] at e
      cases e
      refine ⟨12, (13, [(1, ((0 : Nat) : Int)), (0, i), (1, ((117 : Nat) : Int)), (9, 0)]), by decide +kernel, rfl, ?_⟩
      refine Z_push gL_depthOf_13 (v := (0, 1)) rfl ?_
      refine Z_retX (v := (0, 1)) gL_depthOf_14 rfl rfl rfl rfl rfl ?_
      exact ⟨by omega, 1, rfl, rfl, fun h => absurd h (by omega), fun _ => c0 (by omega), fun a k h1 h2 => hf a k h1⟩
  · rintro o w2 ⟨e, c1, c0, hf⟩
    rcases (by omega : cd = 0 ∨ cd = 1) with rfl | rfl
    · rw [ans_0 rfl] at e
      cases e
      refine Z_arith gL_depthOf_7 rfl rfl (v := [(2, v), (0, 0), (1, ((117 : Nat) : Int))]) rfl ?_
      refine Z_lastore gL_depthOf_8 rfl (by omega) (by omega) ?_
      refine Z_goto gL_depthOf_9 (tgt := 15) (by decide) ?_
      refine Z_push gL_depthOf_15 (v := (0, 0)) rfl ?_
      refine Z_retX (v := (0, 0)) gL_depthOf_16 rfl rfl rfl rfl rfl ?_
      exact ⟨by omega, 0, rfl, rfl, fun _ => ⟨h1 _ _ (c1 rfl), zup_eq _ _ _ _⟩, fun h => absurd rfl h, fun a k h1 h2 => (zup_ne (by omega)).trans (hf a k h1)⟩
    · rw [ans_1 rfl] at e
      cases e
theorem wL_occurrences (i : Int) (H : Xv ro 4 mX7_occurrences [(1, ((0 : Nat) : Int)), (0, i)] w (mP w cd C1 C0 (ans (some (0, v)) ["java/lang/IllegalArgumentException"] cd))) (hcd : cd ≤ 1) (h1 : stab 117 C1) : Lw ro 5 mL_occurrences [(1, ((0 : Nat) : Int)), (0, i), (1, ((117 : Nat) : Int))] w (lP w 117 cd v C1 C0) := by
  show Z ro 5 mL_occurrences 0 [(1, ((0 : Nat) : Int)), (0, i), (1, ((117 : Nat) : Int)), (9, 0)] [] w _
  refine Z_push gL_occurrences_0 (v := (1, ((117 : Nat) : Int))) rfl ?_
  refine Z_push gL_occurrences_1 (v := (0, 0)) rfl ?_
  refine Z_push gL_occurrences_2 (v := (1, ((0 : Nat) : Int))) rfl ?_
  refine Z_push gL_occurrences_3 (v := (0, i)) rfl ?_
  refine Z_callC (kd := 0) (na := 2) (M' := mX7_occurrences) gL_occurrences_4 rfl rfl rfl rfl rfl rfl (fun _ => rfl) rfl rfl (fun _ _ => zrecv_obj rfl _ _ _) (d' := 4) (by decide) (H) (Or.inl rfl) (fun E9 w9 hE => ?_) ?_
  · obtain ⟨e, c1, c0, hf⟩ := hE
    rcases (by omega : cd = 0 ∨ cd = 1) with rfl | rfl
    · rw [ans_0 rfl] at e
      cases e
    · rw [ans_1 rfl] at e
      cases e
      refine ⟨12, (13, [(1, ((0 : Nat) : Int)), (0, i), (1, ((117 : Nat) : Int)), (9, 0)]), by decide +kernel, rfl, ?_⟩
      refine Z_push gL_occurrences_13 (v := (0, 1)) rfl ?_
      refine Z_retX (v := (0, 1)) gL_occurrences_14 rfl rfl rfl rfl rfl ?_
      exact ⟨by omega, 1, rfl, rfl, fun h => absurd h (by omega), fun _ => c0 (by omega), fun a k h1 h2 => hf a k h1⟩
  · rintro o w2 ⟨e, c1, c0, hf⟩
    rcases (by omega : cd = 0 ∨ cd = 1) with rfl | rfl
    · rw [ans_0 rfl] at e
      cases e
      refine Z_arith gL_occurrences_7 rfl rfl (v := [(2, v), (0, 0), (1, ((117 : Nat) : Int))]) rfl ?_
      refine Z_lastore gL_occurrences_8 rfl (by omega) (by omega) ?_
      refine Z_goto gL_occurrences_9 (tgt := 15) (by decide) ?_
      refine Z_push gL_occurrences_15 (v := (0, 0)) rfl ?_
      refine Z_retX (v := (0, 0)) gL_occurrences_16 rfl rfl rfl rfl rfl ?_
      exact ⟨by omega, 0, rfl, rfl, fun _ => ⟨h1 _ _ (c1 rfl), zup_eq _ _ _ _⟩, fun h => absurd rfl h, fun a k h1 h2 => (zup_ne (by omega)).trans (hf a k h1)⟩
    · rw [ans_1 rfl] at e
      cases e
theorem wL_commonest (H : Xv ro 4 mX7_commonest [(1, ((0 : Nat) : Int))] w (mP w cd C1 C0 (ans (some (0, v)) ["java/util/NoSuchElementException"] cd))) (hcd : cd ≤ 1) (h1 : stab 117 C1) : Lw ro 5 mL_commonest [(1, ((0 : Nat) : Int)), (1, ((117 : Nat) : Int))] w (lP w 117 cd v C1 C0) := by
  show Z ro 5 mL_commonest 0 [(1, ((0 : Nat) : Int)), (1, ((117 : Nat) : Int)), (9, 0)] [] w _
  refine Z_push gL_commonest_0 (v := (1, ((117 : Nat) : Int))) rfl ?_
  refine Z_push gL_commonest_1 (v := (0, 0)) rfl ?_
  refine Z_push gL_commonest_2 (v := (1, ((0 : Nat) : Int))) rfl ?_
  refine Z_callC (kd := 0) (na := 1) (M' := mX7_commonest) gL_commonest_3 rfl rfl rfl rfl rfl rfl (fun _ => rfl) rfl rfl (fun _ _ => zrecv_obj rfl _ _ _) (d' := 4) (by decide) (H) (Or.inl rfl) (fun E9 w9 hE => ?_) ?_
  · obtain ⟨e, c1, c0, hf⟩ := hE
    rcases (by omega : cd = 0 ∨ cd = 1) with rfl | rfl
    · rw [ans_0 rfl] at e
      cases e
    · rw [ans_1 rfl] at e
      cases e
      refine ⟨11, (12, [(1, ((0 : Nat) : Int)), (1, ((117 : Nat) : Int)), (9, 0)]), by decide +kernel, rfl, ?_⟩
      refine Z_push gL_commonest_12 (v := (0, 1)) rfl ?_
      refine Z_retX (v := (0, 1)) gL_commonest_13 rfl rfl rfl rfl rfl ?_
      exact ⟨by omega, 1, rfl, rfl, fun h => absurd h (by omega), fun _ => c0 (by omega), fun a k h1 h2 => hf a k h1⟩
  · rintro o w2 ⟨e, c1, c0, hf⟩
    rcases (by omega : cd = 0 ∨ cd = 1) with rfl | rfl
    · rw [ans_0 rfl] at e
      cases e
      refine Z_arith gL_commonest_6 rfl rfl (v := [(2, v), (0, 0), (1, ((117 : Nat) : Int))]) rfl ?_
      refine Z_lastore gL_commonest_7 rfl (by omega) (by omega) ?_
      refine Z_goto gL_commonest_8 (tgt := 14) (by decide) ?_
      refine Z_push gL_commonest_14 (v := (0, 0)) rfl ?_
      refine Z_retX (v := (0, 0)) gL_commonest_15 rfl rfl rfl rfl rfl ?_
      exact ⟨by omega, 0, rfl, rfl, fun _ => ⟨h1 _ _ (c1 rfl), zup_eq _ _ _ _⟩, fun h => absurd rfl h, fun a k h1 h2 => (zup_ne (by omega)).trans (hf a k h1)⟩
    · rw [ans_1 rfl] at e
      cases e
theorem wL_pin (i : Int) (j : Int) (b : Int) (H : Xv ro 2 mX7_pin [(1, ((0 : Nat) : Int)), (0, i), (0, j), (0, b)] w (mP w cd C1 C0 (ans (some (0, v)) ["java/lang/IndexOutOfBoundsException", "java/lang/IllegalArgumentException"] cd))) (hcd : cd ≤ 2) (h1 : stab 117 C1) : Lw ro 3 mL_pin [(1, ((0 : Nat) : Int)), (0, i), (0, j), (0, b), (1, ((117 : Nat) : Int))] w (lP w 117 cd v C1 C0) := by
  show Z ro 3 mL_pin 0 [(1, ((0 : Nat) : Int)), (0, i), (0, j), (0, b), (1, ((117 : Nat) : Int)), (9, 0)] [] w _
  refine Z_push gL_pin_0 (v := (1, ((117 : Nat) : Int))) rfl ?_
  refine Z_push gL_pin_2 (v := (0, 0)) rfl ?_
  refine Z_push gL_pin_3 (v := (1, ((0 : Nat) : Int))) rfl ?_
  refine Z_push gL_pin_4 (v := (0, i)) rfl ?_
  refine Z_push gL_pin_5 (v := (0, j)) rfl ?_
  refine Z_push gL_pin_6 (v := (0, b)) rfl ?_
  refine Z_callC (kd := 0) (na := 4) (M' := mX7_pin) gL_pin_7 rfl rfl rfl rfl rfl rfl (fun _ => rfl) rfl rfl (fun _ _ => zrecv_obj rfl _ _ _) (d' := 2) (by decide) (H) (Or.inl rfl) (fun E9 w9 hE => ?_) ?_
  · obtain ⟨e, c1, c0, hf⟩ := hE
    rcases (by omega : cd = 0 ∨ cd = 1 ∨ cd = 2) with rfl | rfl | rfl
    · rw [ans_0 rfl] at e
      cases e
    · rw [ans_1 rfl] at e
      cases e
      refine ⟨15, (17, [(1, ((0 : Nat) : Int)), (0, i), (0, j), (0, b), (1, ((117 : Nat) : Int)), (9, 0)]), by decide +kernel, rfl, ?_⟩
      refine Z_push gL_pin_17 (v := (0, 1)) rfl ?_
      refine Z_retX (v := (0, 1)) gL_pin_18 rfl rfl rfl rfl rfl ?_
      exact ⟨by omega, 1, rfl, rfl, fun h => absurd h (by omega), fun _ => c0 (by omega), fun a k h1 h2 => hf a k h1⟩
    · rw [ans_2 rfl] at e
      cases e
      refine ⟨19, (21, [(1, ((0 : Nat) : Int)), (0, i), (0, j), (0, b), (1, ((117 : Nat) : Int)), (9, 0)]), by decide +kernel, rfl, ?_⟩
      refine Z_push gL_pin_21 (v := (0, 2)) rfl ?_
      refine Z_retX (v := (0, 2)) gL_pin_22 rfl rfl rfl rfl rfl ?_
      exact ⟨by omega, 2, rfl, rfl, fun h => absurd h (by omega), fun _ => c0 (by omega), fun a k h1 h2 => hf a k h1⟩
  · rintro o w2 ⟨e, c1, c0, hf⟩
    rcases (by omega : cd = 0 ∨ cd = 1 ∨ cd = 2) with rfl | rfl | rfl
    · rw [ans_0 rfl] at e
      cases e
      refine Z_arith gL_pin_10 rfl rfl (v := [(2, v), (0, 0), (1, ((117 : Nat) : Int))]) rfl ?_
      refine Z_lastore gL_pin_11 rfl (by omega) (by omega) ?_
      refine Z_goto gL_pin_12 (tgt := 23) (by decide) ?_
      refine Z_push gL_pin_23 (v := (0, 0)) rfl ?_
      refine Z_retX (v := (0, 0)) gL_pin_24 rfl rfl rfl rfl rfl ?_
      exact ⟨by omega, 0, rfl, rfl, fun _ => ⟨h1 _ _ (c1 rfl), zup_eq _ _ _ _⟩, fun h => absurd rfl h, fun a k h1 h2 => (zup_ne (by omega)).trans (hf a k h1)⟩
    · rw [ans_1 rfl] at e
      cases e
    · rw [ans_2 rfl] at e
      cases e
theorem wL_isPinned (i : Int) (hv : v = 0 ∨ v = 1) (H : Xv ro 2 mX7_isPinned [(1, ((0 : Nat) : Int)), (0, i)] w (mP w cd C1 C0 (ans (some (0, v)) ["java/lang/IndexOutOfBoundsException"] cd))) (hcd : cd ≤ 1) (h1 : stab 117 C1) : Lw ro 3 mL_isPinned [(1, ((0 : Nat) : Int)), (0, i), (1, ((117 : Nat) : Int))] w (lP w 117 cd v C1 C0) := by
  show Z ro 3 mL_isPinned 0 [(1, ((0 : Nat) : Int)), (0, i), (1, ((117 : Nat) : Int)), (9, 0)] [] w _
  refine Z_push gL_isPinned_0 (v := (1, ((117 : Nat) : Int))) rfl ?_
  refine Z_push gL_isPinned_1 (v := (0, 0)) rfl ?_
  refine Z_push gL_isPinned_2 (v := (1, ((0 : Nat) : Int))) rfl ?_
  refine Z_push gL_isPinned_3 (v := (0, i)) rfl ?_
  refine Z_callC (kd := 0) (na := 2) (M' := mX7_isPinned) gL_isPinned_4 rfl rfl rfl rfl rfl rfl (fun _ => rfl) rfl rfl (fun _ _ => zrecv_obj rfl _ _ _) (d' := 2) (by decide) (H) (Or.inl rfl) (fun E9 w9 hE => ?_) ?_
  · obtain ⟨e, c1, c0, hf⟩ := hE
    rcases (by omega : cd = 0 ∨ cd = 1) with rfl | rfl
    · rw [ans_0 rfl] at e
      cases e
    · rw [ans_1 rfl] at e
      cases e
      refine ⟨19, (20, [(1, ((0 : Nat) : Int)), (0, i), (1, ((117 : Nat) : Int)), (9, 0)]), by decide +kernel, rfl, ?_⟩
      refine Z_push gL_isPinned_20 (v := (0, 1)) rfl ?_
      refine Z_retX (v := (0, 1)) gL_isPinned_21 rfl rfl rfl rfl rfl ?_
      exact ⟨by omega, 1, rfl, rfl, fun h => absurd h (by omega), fun _ => c0 (by omega), fun a k h1 h2 => hf a k h1⟩
  · rintro o w2 ⟨e, c1, c0, hf⟩
    rcases (by omega : cd = 0 ∨ cd = 1) with rfl | rfl
    · rw [ans_0 rfl] at e
      cases e
      refine Z_if_eq gL_isPinned_7 (tgt := 14) (by decide) (fun h7 => ?_) (fun h7 => ?_)
      · rw [h7]
        refine Z_push gL_isPinned_14 (v := (2, 0)) rfl ?_
        refine Z_lastore gL_isPinned_15 rfl (by omega) (by omega) ?_
        refine Z_goto gL_isPinned_16 (tgt := 22) (by decide) ?_
        refine Z_push gL_isPinned_22 (v := (0, 0)) rfl ?_
        refine Z_retX (v := (0, 0)) gL_isPinned_23 rfl rfl rfl rfl rfl ?_
        exact ⟨by omega, 0, rfl, rfl, fun _ => ⟨h1 _ _ (c1 rfl), zup_eq _ _ _ _⟩, fun h => absurd rfl h, fun a k h1 h2 => (zup_ne (by omega)).trans (hf a k h1)⟩
      · rw [show v = 1 by omega]
        refine Z_push gL_isPinned_10 (v := (2, 1)) rfl ?_
        refine Z_goto gL_isPinned_11 (tgt := 15) (by decide) ?_
        refine Z_lastore gL_isPinned_15 rfl (by omega) (by omega) ?_
        refine Z_goto gL_isPinned_16 (tgt := 22) (by decide) ?_
        refine Z_push gL_isPinned_22 (v := (0, 0)) rfl ?_
        refine Z_retX (v := (0, 0)) gL_isPinned_23 rfl rfl rfl rfl rfl ?_
        exact ⟨by omega, 0, rfl, rfl, fun _ => ⟨h1 _ _ (c1 rfl), zup_eq _ _ _ _⟩, fun h => absurd rfl h, fun a k h1 h2 => (zup_ne (by omega)).trans (hf a k h1)⟩
    · rw [ans_1 rfl] at e
      cases e
theorem wL_ruleOf (f : Int) (H : Xv ro 6 mX7_ruleOf [(1, ((0 : Nat) : Int)), (0, f)] w (mP w cd C1 C0 (ans (some (0, v)) ["java/util/NoSuchElementException"] cd))) (hcd : cd ≤ 1) (h1 : stab 117 C1) : Lw ro 7 mL_ruleOf [(1, ((0 : Nat) : Int)), (0, f), (1, ((117 : Nat) : Int))] w (lP w 117 cd v C1 C0) := by
  show Z ro 7 mL_ruleOf 0 [(1, ((0 : Nat) : Int)), (0, f), (1, ((117 : Nat) : Int)), (9, 0)] [] w _
  refine Z_push gL_ruleOf_0 (v := (1, ((117 : Nat) : Int))) rfl ?_
  refine Z_push gL_ruleOf_1 (v := (0, 0)) rfl ?_
  refine Z_push gL_ruleOf_2 (v := (1, ((0 : Nat) : Int))) rfl ?_
  refine Z_push gL_ruleOf_3 (v := (0, f)) rfl ?_
  refine Z_callC (kd := 0) (na := 2) (M' := mX7_ruleOf) gL_ruleOf_4 rfl rfl rfl rfl rfl rfl (fun _ => rfl) rfl rfl (fun _ _ => zrecv_obj rfl _ _ _) (d' := 6) (by decide) (H) (Or.inl rfl) (fun E9 w9 hE => ?_) ?_
  · obtain ⟨e, c1, c0, hf⟩ := hE
    rcases (by omega : cd = 0 ∨ cd = 1) with rfl | rfl
    · rw [ans_0 rfl] at e
      cases e
    · rw [ans_1 rfl] at e
      cases e
      refine ⟨12, (13, [(1, ((0 : Nat) : Int)), (0, f), (1, ((117 : Nat) : Int)), (9, 0)]), by decide +kernel, rfl, ?_⟩
      refine Z_push gL_ruleOf_13 (v := (0, 1)) rfl ?_
      refine Z_retX (v := (0, 1)) gL_ruleOf_14 rfl rfl rfl rfl rfl ?_
      exact ⟨by omega, 1, rfl, rfl, fun h => absurd h (by omega), fun _ => c0 (by omega), fun a k h1 h2 => hf a k h1⟩
  · rintro o w2 ⟨e, c1, c0, hf⟩
    rcases (by omega : cd = 0 ∨ cd = 1) with rfl | rfl
    · rw [ans_0 rfl] at e
      cases e
      refine Z_arith gL_ruleOf_7 rfl rfl (v := [(2, v), (0, 0), (1, ((117 : Nat) : Int))]) rfl ?_
      refine Z_lastore gL_ruleOf_8 rfl (by omega) (by omega) ?_
      refine Z_goto gL_ruleOf_9 (tgt := 15) (by decide) ?_
      refine Z_push gL_ruleOf_15 (v := (0, 0)) rfl ?_
      refine Z_retX (v := (0, 0)) gL_ruleOf_16 rfl rfl rfl rfl rfl ?_
      exact ⟨by omega, 0, rfl, rfl, fun _ => ⟨h1 _ _ (c1 rfl), zup_eq _ _ _ _⟩, fun h => absurd rfl h, fun a k h1 h2 => (zup_ne (by omega)).trans (hf a k h1)⟩
    · rw [ans_1 rfl] at e
      cases e
theorem wL_firstOf (f : Int) (H : Xv ro 6 mX7_firstOf [(1, ((0 : Nat) : Int)), (0, f)] w (mP w cd C1 C0 (ans (some (0, v)) ["java/util/NoSuchElementException"] cd))) (hcd : cd ≤ 1) (h1 : stab 117 C1) : Lw ro 7 mL_firstOf [(1, ((0 : Nat) : Int)), (0, f), (1, ((117 : Nat) : Int))] w (lP w 117 cd v C1 C0) := by
  show Z ro 7 mL_firstOf 0 [(1, ((0 : Nat) : Int)), (0, f), (1, ((117 : Nat) : Int)), (9, 0)] [] w _
  refine Z_push gL_firstOf_0 (v := (1, ((117 : Nat) : Int))) rfl ?_
  refine Z_push gL_firstOf_1 (v := (0, 0)) rfl ?_
  refine Z_push gL_firstOf_2 (v := (1, ((0 : Nat) : Int))) rfl ?_
  refine Z_push gL_firstOf_3 (v := (0, f)) rfl ?_
  refine Z_callC (kd := 0) (na := 2) (M' := mX7_firstOf) gL_firstOf_4 rfl rfl rfl rfl rfl rfl (fun _ => rfl) rfl rfl (fun _ _ => zrecv_obj rfl _ _ _) (d' := 6) (by decide) (H) (Or.inl rfl) (fun E9 w9 hE => ?_) ?_
  · obtain ⟨e, c1, c0, hf⟩ := hE
    rcases (by omega : cd = 0 ∨ cd = 1) with rfl | rfl
    · rw [ans_0 rfl] at e
      cases e
    · rw [ans_1 rfl] at e
      cases e
      refine ⟨12, (13, [(1, ((0 : Nat) : Int)), (0, f), (1, ((117 : Nat) : Int)), (9, 0)]), by decide +kernel, rfl, ?_⟩
      refine Z_push gL_firstOf_13 (v := (0, 1)) rfl ?_
      refine Z_retX (v := (0, 1)) gL_firstOf_14 rfl rfl rfl rfl rfl ?_
      exact ⟨by omega, 1, rfl, rfl, fun h => absurd h (by omega), fun _ => c0 (by omega), fun a k h1 h2 => hf a k h1⟩
  · rintro o w2 ⟨e, c1, c0, hf⟩
    rcases (by omega : cd = 0 ∨ cd = 1) with rfl | rfl
    · rw [ans_0 rfl] at e
      cases e
      refine Z_arith gL_firstOf_7 rfl rfl (v := [(2, v), (0, 0), (1, ((117 : Nat) : Int))]) rfl ?_
      refine Z_lastore gL_firstOf_8 rfl (by omega) (by omega) ?_
      refine Z_goto gL_firstOf_9 (tgt := 15) (by decide) ?_
      refine Z_push gL_firstOf_15 (v := (0, 0)) rfl ?_
      refine Z_retX (v := (0, 0)) gL_firstOf_16 rfl rfl rfl rfl rfl ?_
      exact ⟨by omega, 0, rfl, rfl, fun _ => ⟨h1 _ _ (c1 rfl), zup_eq _ _ _ _⟩, fun h => absurd rfl h, fun a k h1 h2 => (zup_ne (by omega)).trans (hf a k h1)⟩
    · rw [ans_1 rfl] at e
      cases e
theorem wL_lastOf (f : Int) (H : Xv ro 6 mX7_lastOf [(1, ((0 : Nat) : Int)), (0, f)] w (mP w cd C1 C0 (ans (some (0, v)) ["java/util/NoSuchElementException"] cd))) (hcd : cd ≤ 1) (h1 : stab 117 C1) : Lw ro 7 mL_lastOf [(1, ((0 : Nat) : Int)), (0, f), (1, ((117 : Nat) : Int))] w (lP w 117 cd v C1 C0) := by
  show Z ro 7 mL_lastOf 0 [(1, ((0 : Nat) : Int)), (0, f), (1, ((117 : Nat) : Int)), (9, 0)] [] w _
  refine Z_push gL_lastOf_0 (v := (1, ((117 : Nat) : Int))) rfl ?_
  refine Z_push gL_lastOf_1 (v := (0, 0)) rfl ?_
  refine Z_push gL_lastOf_2 (v := (1, ((0 : Nat) : Int))) rfl ?_
  refine Z_push gL_lastOf_3 (v := (0, f)) rfl ?_
  refine Z_callC (kd := 0) (na := 2) (M' := mX7_lastOf) gL_lastOf_4 rfl rfl rfl rfl rfl rfl (fun _ => rfl) rfl rfl (fun _ _ => zrecv_obj rfl _ _ _) (d' := 6) (by decide) (H) (Or.inl rfl) (fun E9 w9 hE => ?_) ?_
  · obtain ⟨e, c1, c0, hf⟩ := hE
    rcases (by omega : cd = 0 ∨ cd = 1) with rfl | rfl
    · rw [ans_0 rfl] at e
      cases e
    · rw [ans_1 rfl] at e
      cases e
      refine ⟨12, (13, [(1, ((0 : Nat) : Int)), (0, f), (1, ((117 : Nat) : Int)), (9, 0)]), by decide +kernel, rfl, ?_⟩
      refine Z_push gL_lastOf_13 (v := (0, 1)) rfl ?_
      refine Z_retX (v := (0, 1)) gL_lastOf_14 rfl rfl rfl rfl rfl ?_
      exact ⟨by omega, 1, rfl, rfl, fun h => absurd h (by omega), fun _ => c0 (by omega), fun a k h1 h2 => hf a k h1⟩
  · rintro o w2 ⟨e, c1, c0, hf⟩
    rcases (by omega : cd = 0 ∨ cd = 1) with rfl | rfl
    · rw [ans_0 rfl] at e
      cases e
      refine Z_arith gL_lastOf_7 rfl rfl (v := [(2, v), (0, 0), (1, ((117 : Nat) : Int))]) rfl ?_
      refine Z_lastore gL_lastOf_8 rfl (by omega) (by omega) ?_
      refine Z_goto gL_lastOf_9 (tgt := 15) (by decide) ?_
      refine Z_push gL_lastOf_15 (v := (0, 0)) rfl ?_
      refine Z_retX (v := (0, 0)) gL_lastOf_16 rfl rfl rfl rfl rfl ?_
      exact ⟨by omega, 0, rfl, rfl, fun _ => ⟨h1 _ _ (c1 rfl), zup_eq _ _ _ _⟩, fun h => absurd rfl h, fun a k h1 h2 => (zup_ne (by omega)).trans (hf a k h1)⟩
    · rw [ans_1 rfl] at e
      cases e
theorem wL_canFix (f : Int) (hv : v = 0 ∨ v = 1) (H : Xv ro 6 mX7_canFix [(1, ((0 : Nat) : Int)), (0, f)] w (mP w cd C1 C0 (ans (some (0, v)) ["java/util/NoSuchElementException"] cd))) (hcd : cd ≤ 1) (h1 : stab 117 C1) : Lw ro 7 mL_canFix [(1, ((0 : Nat) : Int)), (0, f), (1, ((117 : Nat) : Int))] w (lP w 117 cd v C1 C0) := by
  show Z ro 7 mL_canFix 0 [(1, ((0 : Nat) : Int)), (0, f), (1, ((117 : Nat) : Int)), (9, 0)] [] w _
  refine Z_push gL_canFix_0 (v := (1, ((117 : Nat) : Int))) rfl ?_
  refine Z_push gL_canFix_1 (v := (0, 0)) rfl ?_
  refine Z_push gL_canFix_2 (v := (1, ((0 : Nat) : Int))) rfl ?_
  refine Z_push gL_canFix_3 (v := (0, f)) rfl ?_
  refine Z_callC (kd := 0) (na := 2) (M' := mX7_canFix) gL_canFix_4 rfl rfl rfl rfl rfl rfl (fun _ => rfl) rfl rfl (fun _ _ => zrecv_obj rfl _ _ _) (d' := 6) (by decide) (H) (Or.inl rfl) (fun E9 w9 hE => ?_) ?_
  · obtain ⟨e, c1, c0, hf⟩ := hE
    rcases (by omega : cd = 0 ∨ cd = 1) with rfl | rfl
    · rw [ans_0 rfl] at e
      cases e
    · rw [ans_1 rfl] at e
      cases e
      refine ⟨19, (20, [(1, ((0 : Nat) : Int)), (0, f), (1, ((117 : Nat) : Int)), (9, 0)]), by decide +kernel, rfl, ?_⟩
      refine Z_push gL_canFix_20 (v := (0, 1)) rfl ?_
      refine Z_retX (v := (0, 1)) gL_canFix_21 rfl rfl rfl rfl rfl ?_
      exact ⟨by omega, 1, rfl, rfl, fun h => absurd h (by omega), fun _ => c0 (by omega), fun a k h1 h2 => hf a k h1⟩
  · rintro o w2 ⟨e, c1, c0, hf⟩
    rcases (by omega : cd = 0 ∨ cd = 1) with rfl | rfl
    · rw [ans_0 rfl] at e
      cases e
      refine Z_if_eq gL_canFix_7 (tgt := 14) (by decide) (fun h7 => ?_) (fun h7 => ?_)
      · rw [h7]
        refine Z_push gL_canFix_14 (v := (2, 0)) rfl ?_
        refine Z_lastore gL_canFix_15 rfl (by omega) (by omega) ?_
        refine Z_goto gL_canFix_16 (tgt := 22) (by decide) ?_
        refine Z_push gL_canFix_22 (v := (0, 0)) rfl ?_
        refine Z_retX (v := (0, 0)) gL_canFix_23 rfl rfl rfl rfl rfl ?_
        exact ⟨by omega, 0, rfl, rfl, fun _ => ⟨h1 _ _ (c1 rfl), zup_eq _ _ _ _⟩, fun h => absurd rfl h, fun a k h1 h2 => (zup_ne (by omega)).trans (hf a k h1)⟩
      · rw [show v = 1 by omega]
        refine Z_push gL_canFix_10 (v := (2, 1)) rfl ?_
        refine Z_goto gL_canFix_11 (tgt := 15) (by decide) ?_
        refine Z_lastore gL_canFix_15 rfl (by omega) (by omega) ?_
        refine Z_goto gL_canFix_16 (tgt := 22) (by decide) ?_
        refine Z_push gL_canFix_22 (v := (0, 0)) rfl ?_
        refine Z_retX (v := (0, 0)) gL_canFix_23 rfl rfl rfl rfl rfl ?_
        exact ⟨by omega, 0, rfl, rfl, fun _ => ⟨h1 _ _ (c1 rfl), zup_eq _ _ _ _⟩, fun h => absurd rfl h, fun a k h1 h2 => (zup_ne (by omega)).trans (hf a k h1)⟩
    · rw [ans_1 rfl] at e
      cases e
theorem wL_bestByTrying (H : Xv ro 34 mX7_bestByTrying [(1, ((0 : Nat) : Int))] w (mP w cd C1 C0 (ans (some (0, v)) ["java/lang/UnsupportedOperationException"] cd))) (hcd : cd ≤ 1) (h1 : stab 117 C1) : Lw ro 35 mL_bestByTrying [(1, ((0 : Nat) : Int)), (1, ((117 : Nat) : Int))] w (lP w 117 cd v C1 C0) := by
  show Z ro 35 mL_bestByTrying 0 [(1, ((0 : Nat) : Int)), (1, ((117 : Nat) : Int)), (9, 0)] [] w _
  refine Z_push gL_bestByTrying_0 (v := (1, ((117 : Nat) : Int))) rfl ?_
  refine Z_push gL_bestByTrying_1 (v := (0, 0)) rfl ?_
  refine Z_push gL_bestByTrying_2 (v := (1, ((0 : Nat) : Int))) rfl ?_
  refine Z_callC (kd := 0) (na := 1) (M' := mX7_bestByTrying) gL_bestByTrying_3 rfl rfl rfl rfl rfl rfl (fun _ => rfl) rfl rfl (fun _ _ => zrecv_obj rfl _ _ _) (d' := 34) (by decide) (H) (Or.inl rfl) (fun E9 w9 hE => ?_) ?_
  · obtain ⟨e, c1, c0, hf⟩ := hE
    rcases (by omega : cd = 0 ∨ cd = 1) with rfl | rfl
    · rw [ans_0 rfl] at e
      cases e
    · rw [ans_1 rfl] at e
      cases e
      refine ⟨11, (12, [(1, ((0 : Nat) : Int)), (1, ((117 : Nat) : Int)), (9, 0)]), by decide +kernel, rfl, ?_⟩
      refine Z_push gL_bestByTrying_12 (v := (0, 1)) rfl ?_
      refine Z_retX (v := (0, 1)) gL_bestByTrying_13 rfl rfl rfl rfl rfl ?_
      exact ⟨by omega, 1, rfl, rfl, fun h => absurd h (by omega), fun _ => c0 (by omega), fun a k h1 h2 => hf a k h1⟩
  · rintro o w2 ⟨e, c1, c0, hf⟩
    rcases (by omega : cd = 0 ∨ cd = 1) with rfl | rfl
    · rw [ans_0 rfl] at e
      cases e
      refine Z_arith gL_bestByTrying_6 rfl rfl (v := [(2, v), (0, 0), (1, ((117 : Nat) : Int))]) rfl ?_
      refine Z_lastore gL_bestByTrying_7 rfl (by omega) (by omega) ?_
      refine Z_goto gL_bestByTrying_8 (tgt := 14) (by decide) ?_
      refine Z_push gL_bestByTrying_14 (v := (0, 0)) rfl ?_
      refine Z_retX (v := (0, 0)) gL_bestByTrying_15 rfl rfl rfl rfl rfl ?_
      exact ⟨by omega, 0, rfl, rfl, fun _ => ⟨h1 _ _ (c1 rfl), zup_eq _ _ _ _⟩, fun h => absurd rfl h, fun a k h1 h2 => (zup_ne (by omega)).trans (hf a k h1)⟩
    · rw [ans_1 rfl] at e
      cases e
theorem wL_isInBest (f : Int) (hv : v = 0 ∨ v = 1) (H : Xv ro 6 mX7_isInBest [(1, ((0 : Nat) : Int)), (0, f)] w (mP w cd C1 C0 (ans (some (0, v)) ["java/util/NoSuchElementException"] cd))) (hcd : cd ≤ 1) (h1 : stab 117 C1) : Lw ro 7 mL_isInBest [(1, ((0 : Nat) : Int)), (0, f), (1, ((117 : Nat) : Int))] w (lP w 117 cd v C1 C0) := by
  show Z ro 7 mL_isInBest 0 [(1, ((0 : Nat) : Int)), (0, f), (1, ((117 : Nat) : Int)), (9, 0)] [] w _
  refine Z_push gL_isInBest_0 (v := (1, ((117 : Nat) : Int))) rfl ?_
  refine Z_push gL_isInBest_1 (v := (0, 0)) rfl ?_
  refine Z_push gL_isInBest_2 (v := (1, ((0 : Nat) : Int))) rfl ?_
  refine Z_push gL_isInBest_3 (v := (0, f)) rfl ?_
  refine Z_callC (kd := 0) (na := 2) (M' := mX7_isInBest) gL_isInBest_4 rfl rfl rfl rfl rfl rfl (fun _ => rfl) rfl rfl (fun _ _ => zrecv_obj rfl _ _ _) (d' := 6) (by decide) (H) (Or.inl rfl) (fun E9 w9 hE => ?_) ?_
  · obtain ⟨e, c1, c0, hf⟩ := hE
    rcases (by omega : cd = 0 ∨ cd = 1) with rfl | rfl
    · rw [ans_0 rfl] at e
      cases e
    · rw [ans_1 rfl] at e
      cases e
      refine ⟨19, (20, [(1, ((0 : Nat) : Int)), (0, f), (1, ((117 : Nat) : Int)), (9, 0)]), by decide +kernel, rfl, ?_⟩
      refine Z_push gL_isInBest_20 (v := (0, 1)) rfl ?_
      refine Z_retX (v := (0, 1)) gL_isInBest_21 rfl rfl rfl rfl rfl ?_
      exact ⟨by omega, 1, rfl, rfl, fun h => absurd h (by omega), fun _ => c0 (by omega), fun a k h1 h2 => hf a k h1⟩
  · rintro o w2 ⟨e, c1, c0, hf⟩
    rcases (by omega : cd = 0 ∨ cd = 1) with rfl | rfl
    · rw [ans_0 rfl] at e
      cases e
      refine Z_if_eq gL_isInBest_7 (tgt := 14) (by decide) (fun h7 => ?_) (fun h7 => ?_)
      · rw [h7]
        refine Z_push gL_isInBest_14 (v := (2, 0)) rfl ?_
        refine Z_lastore gL_isInBest_15 rfl (by omega) (by omega) ?_
        refine Z_goto gL_isInBest_16 (tgt := 22) (by decide) ?_
        refine Z_push gL_isInBest_22 (v := (0, 0)) rfl ?_
        refine Z_retX (v := (0, 0)) gL_isInBest_23 rfl rfl rfl rfl rfl ?_
        exact ⟨by omega, 0, rfl, rfl, fun _ => ⟨h1 _ _ (c1 rfl), zup_eq _ _ _ _⟩, fun h => absurd rfl h, fun a k h1 h2 => (zup_ne (by omega)).trans (hf a k h1)⟩
      · rw [show v = 1 by omega]
        refine Z_push gL_isInBest_10 (v := (2, 1)) rfl ?_
        refine Z_goto gL_isInBest_11 (tgt := 15) (by decide) ?_
        refine Z_lastore gL_isInBest_15 rfl (by omega) (by omega) ?_
        refine Z_goto gL_isInBest_16 (tgt := 22) (by decide) ?_
        refine Z_push gL_isInBest_22 (v := (0, 0)) rfl ?_
        refine Z_retX (v := (0, 0)) gL_isInBest_23 rfl rfl rfl rfl rfl ?_
        exact ⟨by omega, 0, rfl, rfl, fun _ => ⟨h1 _ _ (c1 rfl), zup_eq _ _ _ _⟩, fun h => absurd rfl h, fun a k h1 h2 => (zup_ne (by omega)).trans (hf a k h1)⟩
    · rw [ans_1 rfl] at e
      cases e
theorem wL_fix (f : Int) (H : Xv ro 7 mX7_fix [(1, ((0 : Nat) : Int)), (0, f)] w (mP w cd C1 C0 (ans (some (0, v)) ["java/util/NoSuchElementException", "java/lang/UnsupportedOperationException"] cd))) (hcd : cd ≤ 2) (h1 : stab 117 C1) : Lw ro 8 mL_fix [(1, ((0 : Nat) : Int)), (0, f), (1, ((117 : Nat) : Int))] w (lP w 117 cd v C1 C0) := by
  show Z ro 8 mL_fix 0 [(1, ((0 : Nat) : Int)), (0, f), (1, ((117 : Nat) : Int)), (9, 0)] [] w _
  refine Z_push gL_fix_0 (v := (1, ((117 : Nat) : Int))) rfl ?_
  refine Z_push gL_fix_1 (v := (0, 0)) rfl ?_
  refine Z_push gL_fix_2 (v := (1, ((0 : Nat) : Int))) rfl ?_
  refine Z_push gL_fix_3 (v := (0, f)) rfl ?_
  refine Z_callC (kd := 0) (na := 2) (M' := mX7_fix) gL_fix_4 rfl rfl rfl rfl rfl rfl (fun _ => rfl) rfl rfl (fun _ _ => zrecv_obj rfl _ _ _) (d' := 7) (by decide) (H) (Or.inl rfl) (fun E9 w9 hE => ?_) ?_
  · obtain ⟨e, c1, c0, hf⟩ := hE
    rcases (by omega : cd = 0 ∨ cd = 1 ∨ cd = 2) with rfl | rfl | rfl
    · rw [ans_0 rfl] at e
      cases e
    · rw [ans_1 rfl] at e
      cases e
      refine ⟨12, (13, [(1, ((0 : Nat) : Int)), (0, f), (1, ((117 : Nat) : Int)), (9, 0)]), by decide +kernel, rfl, ?_⟩
      refine Z_push gL_fix_13 (v := (0, 1)) rfl ?_
      refine Z_retX (v := (0, 1)) gL_fix_14 rfl rfl rfl rfl rfl ?_
      exact ⟨by omega, 1, rfl, rfl, fun h => absurd h (by omega), fun _ => c0 (by omega), fun a k h1 h2 => hf a k h1⟩
    · rw [ans_2 rfl] at e
      cases e
      refine ⟨15, (16, [(1, ((0 : Nat) : Int)), (0, f), (1, ((117 : Nat) : Int)), (9, 0)]), by decide +kernel, rfl, ?_⟩
      refine Z_push gL_fix_16 (v := (0, 2)) rfl ?_
      refine Z_retX (v := (0, 2)) gL_fix_17 rfl rfl rfl rfl rfl ?_
      exact ⟨by omega, 2, rfl, rfl, fun h => absurd h (by omega), fun _ => c0 (by omega), fun a k h1 h2 => hf a k h1⟩
  · rintro o w2 ⟨e, c1, c0, hf⟩
    rcases (by omega : cd = 0 ∨ cd = 1 ∨ cd = 2) with rfl | rfl | rfl
    · rw [ans_0 rfl] at e
      cases e
      refine Z_arith gL_fix_7 rfl rfl (v := [(2, v), (0, 0), (1, ((117 : Nat) : Int))]) rfl ?_
      refine Z_lastore gL_fix_8 rfl (by omega) (by omega) ?_
      refine Z_goto gL_fix_9 (tgt := 18) (by decide) ?_
      refine Z_push gL_fix_18 (v := (0, 0)) rfl ?_
      refine Z_retX (v := (0, 0)) gL_fix_19 rfl rfl rfl rfl rfl ?_
      exact ⟨by omega, 0, rfl, rfl, fun _ => ⟨h1 _ _ (c1 rfl), zup_eq _ _ _ _⟩, fun h => absurd rfl h, fun a k h1 h2 => (zup_ne (by omega)).trans (hf a k h1)⟩
    · rw [ans_1 rfl] at e
      cases e
    · rw [ans_2 rfl] at e
      cases e
theorem wL_fixBest (H : Xv ro 7 mX7_fixBest [(1, ((0 : Nat) : Int))] w (mP w cd C1 C0 (ans (some (0, v)) ["java/lang/IllegalStateException"] cd))) (hcd : cd ≤ 1) (h1 : stab 117 C1) : Lw ro 8 mL_fixBest [(1, ((0 : Nat) : Int)), (1, ((117 : Nat) : Int))] w (lP w 117 cd v C1 C0) := by
  show Z ro 8 mL_fixBest 0 [(1, ((0 : Nat) : Int)), (1, ((117 : Nat) : Int)), (9, 0)] [] w _
  refine Z_push gL_fixBest_0 (v := (1, ((117 : Nat) : Int))) rfl ?_
  refine Z_push gL_fixBest_1 (v := (0, 0)) rfl ?_
  refine Z_push gL_fixBest_2 (v := (1, ((0 : Nat) : Int))) rfl ?_
  refine Z_callC (kd := 0) (na := 1) (M' := mX7_fixBest) gL_fixBest_3 rfl rfl rfl rfl rfl rfl (fun _ => rfl) rfl rfl (fun _ _ => zrecv_obj rfl _ _ _) (d' := 7) (by decide) (H) (Or.inl rfl) (fun E9 w9 hE => ?_) ?_
  · obtain ⟨e, c1, c0, hf⟩ := hE
    rcases (by omega : cd = 0 ∨ cd = 1) with rfl | rfl
    · rw [ans_0 rfl] at e
      cases e
    · rw [ans_1 rfl] at e
      cases e
      refine ⟨11, (12, [(1, ((0 : Nat) : Int)), (1, ((117 : Nat) : Int)), (9, 0)]), by decide +kernel, rfl, ?_⟩
      refine Z_push gL_fixBest_12 (v := (0, 1)) rfl ?_
      refine Z_retX (v := (0, 1)) gL_fixBest_13 rfl rfl rfl rfl rfl ?_
      exact ⟨by omega, 1, rfl, rfl, fun h => absurd h (by omega), fun _ => c0 (by omega), fun a k h1 h2 => hf a k h1⟩
  · rintro o w2 ⟨e, c1, c0, hf⟩
    rcases (by omega : cd = 0 ∨ cd = 1) with rfl | rfl
    · rw [ans_0 rfl] at e
      cases e
      refine Z_arith gL_fixBest_6 rfl rfl (v := [(2, v), (0, 0), (1, ((117 : Nat) : Int))]) rfl ?_
      refine Z_lastore gL_fixBest_7 rfl (by omega) (by omega) ?_
      refine Z_goto gL_fixBest_8 (tgt := 14) (by decide) ?_
      refine Z_push gL_fixBest_14 (v := (0, 0)) rfl ?_
      refine Z_retX (v := (0, 0)) gL_fixBest_15 rfl rfl rfl rfl rfl ?_
      exact ⟨by omega, 0, rfl, rfl, fun _ => ⟨h1 _ _ (c1 rfl), zup_eq _ _ _ _⟩, fun h => absurd rfl h, fun a k h1 h2 => (zup_ne (by omega)).trans (hf a k h1)⟩
    · rw [ans_1 rfl] at e
      cases e
theorem wL_rename (x : Int) (y : Int) (H : Xv ro 7 mX7_rename [(1, ((0 : Nat) : Int)), (0, x), (0, y)] w (mP w cd C1 C0 (ans (some (0, v)) ["java/lang/IllegalArgumentException", "java/util/NoSuchElementException", "java/lang/UnsupportedOperationException"] cd))) (hcd : cd ≤ 3) (h1 : stab 117 C1) : Lw ro 8 mL_rename [(1, ((0 : Nat) : Int)), (0, x), (0, y), (1, ((117 : Nat) : Int))] w (lP w 117 cd v C1 C0) := by
  show Z ro 8 mL_rename 0 [(1, ((0 : Nat) : Int)), (0, x), (0, y), (1, ((117 : Nat) : Int)), (9, 0)] [] w _
  refine Z_push gL_rename_0 (v := (1, ((117 : Nat) : Int))) rfl ?_
  refine Z_push gL_rename_1 (v := (0, 0)) rfl ?_
  refine Z_push gL_rename_2 (v := (1, ((0 : Nat) : Int))) rfl ?_
  refine Z_push gL_rename_3 (v := (0, x)) rfl ?_
  refine Z_push gL_rename_4 (v := (0, y)) rfl ?_
  refine Z_callC (kd := 0) (na := 3) (M' := mX7_rename) gL_rename_5 rfl rfl rfl rfl rfl rfl (fun _ => rfl) rfl rfl (fun _ _ => zrecv_obj rfl _ _ _) (d' := 7) (by decide) (H) (Or.inl rfl) (fun E9 w9 hE => ?_) ?_
  · obtain ⟨e, c1, c0, hf⟩ := hE
    rcases (by omega : cd = 0 ∨ cd = 1 ∨ cd = 2 ∨ cd = 3) with rfl | rfl | rfl | rfl
    · rw [ans_0 rfl] at e
      cases e
    · rw [ans_1 rfl] at e
      cases e
      refine ⟨13, (15, [(1, ((0 : Nat) : Int)), (0, x), (0, y), (1, ((117 : Nat) : Int)), (9, 0)]), by decide +kernel, rfl, ?_⟩
      refine Z_push gL_rename_15 (v := (0, 1)) rfl ?_
      refine Z_retX (v := (0, 1)) gL_rename_16 rfl rfl rfl rfl rfl ?_
      exact ⟨by omega, 1, rfl, rfl, fun h => absurd h (by omega), fun _ => c0 (by omega), fun a k h1 h2 => hf a k h1⟩
    · rw [ans_2 rfl] at e
      cases e
      refine ⟨17, (19, [(1, ((0 : Nat) : Int)), (0, x), (0, y), (1, ((117 : Nat) : Int)), (9, 0)]), by decide +kernel, rfl, ?_⟩
      refine Z_push gL_rename_19 (v := (0, 2)) rfl ?_
      refine Z_retX (v := (0, 2)) gL_rename_20 rfl rfl rfl rfl rfl ?_
      exact ⟨by omega, 2, rfl, rfl, fun h => absurd h (by omega), fun _ => c0 (by omega), fun a k h1 h2 => hf a k h1⟩
    · rw [ans_3 rfl] at e
      cases e
      refine ⟨21, (23, [(1, ((0 : Nat) : Int)), (0, x), (0, y), (1, ((117 : Nat) : Int)), (9, 0)]), by decide +kernel, rfl, ?_⟩
      refine Z_push gL_rename_23 (v := (0, 3)) rfl ?_
      refine Z_retX (v := (0, 3)) gL_rename_24 rfl rfl rfl rfl rfl ?_
      exact ⟨by omega, 3, rfl, rfl, fun h => absurd h (by omega), fun _ => c0 (by omega), fun a k h1 h2 => hf a k h1⟩
  · rintro o w2 ⟨e, c1, c0, hf⟩
    rcases (by omega : cd = 0 ∨ cd = 1 ∨ cd = 2 ∨ cd = 3) with rfl | rfl | rfl | rfl
    · rw [ans_0 rfl] at e
      cases e
      refine Z_arith gL_rename_8 rfl rfl (v := [(2, v), (0, 0), (1, ((117 : Nat) : Int))]) rfl ?_
      refine Z_lastore gL_rename_9 rfl (by omega) (by omega) ?_
      refine Z_goto gL_rename_10 (tgt := 25) (by decide) ?_
      refine Z_push gL_rename_25 (v := (0, 0)) rfl ?_
      refine Z_retX (v := (0, 0)) gL_rename_26 rfl rfl rfl rfl rfl ?_
      exact ⟨by omega, 0, rfl, rfl, fun _ => ⟨h1 _ _ (c1 rfl), zup_eq _ _ _ _⟩, fun h => absurd rfl h, fun a k h1 h2 => (zup_ne (by omega)).trans (hf a k h1)⟩
    · rw [ans_1 rfl] at e
      cases e
    · rw [ans_2 rfl] at e
      cases e
    · rw [ans_3 rfl] at e
      cases e
theorem wL_move (i : Int) (j : Int) (H : Xv ro 7 mX7_move [(1, ((0 : Nat) : Int)), (0, i), (0, j)] w (mP w cd C1 C0 (ans (some (0, v)) ["java/lang/IndexOutOfBoundsException", "java/lang/IllegalArgumentException", "java/lang/UnsupportedOperationException"] cd))) (hcd : cd ≤ 3) (h1 : stab 117 C1) : Lw ro 8 mL_move [(1, ((0 : Nat) : Int)), (0, i), (0, j), (1, ((117 : Nat) : Int))] w (lP w 117 cd v C1 C0) := by
  show Z ro 8 mL_move 0 [(1, ((0 : Nat) : Int)), (0, i), (0, j), (1, ((117 : Nat) : Int)), (9, 0)] [] w _
  refine Z_push gL_move_0 (v := (1, ((117 : Nat) : Int))) rfl ?_
  refine Z_push gL_move_1 (v := (0, 0)) rfl ?_
  refine Z_push gL_move_2 (v := (1, ((0 : Nat) : Int))) rfl ?_
  refine Z_push gL_move_3 (v := (0, i)) rfl ?_
  refine Z_push gL_move_4 (v := (0, j)) rfl ?_
  refine Z_callC (kd := 0) (na := 3) (M' := mX7_move) gL_move_5 rfl rfl rfl rfl rfl rfl (fun _ => rfl) rfl rfl (fun _ _ => zrecv_obj rfl _ _ _) (d' := 7) (by decide) (H) (Or.inl rfl) (fun E9 w9 hE => ?_) ?_
  · obtain ⟨e, c1, c0, hf⟩ := hE
    rcases (by omega : cd = 0 ∨ cd = 1 ∨ cd = 2 ∨ cd = 3) with rfl | rfl | rfl | rfl
    · rw [ans_0 rfl] at e
      cases e
    · rw [ans_1 rfl] at e
      cases e
      refine ⟨13, (15, [(1, ((0 : Nat) : Int)), (0, i), (0, j), (1, ((117 : Nat) : Int)), (9, 0)]), by decide +kernel, rfl, ?_⟩
      refine Z_push gL_move_15 (v := (0, 1)) rfl ?_
      refine Z_retX (v := (0, 1)) gL_move_16 rfl rfl rfl rfl rfl ?_
      exact ⟨by omega, 1, rfl, rfl, fun h => absurd h (by omega), fun _ => c0 (by omega), fun a k h1 h2 => hf a k h1⟩
    · rw [ans_2 rfl] at e
      cases e
      refine ⟨17, (19, [(1, ((0 : Nat) : Int)), (0, i), (0, j), (1, ((117 : Nat) : Int)), (9, 0)]), by decide +kernel, rfl, ?_⟩
      refine Z_push gL_move_19 (v := (0, 2)) rfl ?_
      refine Z_retX (v := (0, 2)) gL_move_20 rfl rfl rfl rfl rfl ?_
      exact ⟨by omega, 2, rfl, rfl, fun h => absurd h (by omega), fun _ => c0 (by omega), fun a k h1 h2 => hf a k h1⟩
    · rw [ans_3 rfl] at e
      cases e
      refine ⟨21, (23, [(1, ((0 : Nat) : Int)), (0, i), (0, j), (1, ((117 : Nat) : Int)), (9, 0)]), by decide +kernel, rfl, ?_⟩
      refine Z_push gL_move_23 (v := (0, 3)) rfl ?_
      refine Z_retX (v := (0, 3)) gL_move_24 rfl rfl rfl rfl rfl ?_
      exact ⟨by omega, 3, rfl, rfl, fun h => absurd h (by omega), fun _ => c0 (by omega), fun a k h1 h2 => hf a k h1⟩
  · rintro o w2 ⟨e, c1, c0, hf⟩
    rcases (by omega : cd = 0 ∨ cd = 1 ∨ cd = 2 ∨ cd = 3) with rfl | rfl | rfl | rfl
    · rw [ans_0 rfl] at e
      cases e
      refine Z_arith gL_move_8 rfl rfl (v := [(2, v), (0, 0), (1, ((117 : Nat) : Int))]) rfl ?_
      refine Z_lastore gL_move_9 rfl (by omega) (by omega) ?_
      refine Z_goto gL_move_10 (tgt := 25) (by decide) ?_
      refine Z_push gL_move_25 (v := (0, 0)) rfl ?_
      refine Z_retX (v := (0, 0)) gL_move_26 rfl rfl rfl rfl rfl ?_
      exact ⟨by omega, 0, rfl, rfl, fun _ => ⟨h1 _ _ (c1 rfl), zup_eq _ _ _ _⟩, fun h => absurd rfl h, fun a k h1 h2 => (zup_ne (by omega)).trans (hf a k h1)⟩
    · rw [ans_1 rfl] at e
      cases e
    · rw [ans_2 rfl] at e
      cases e
    · rw [ans_3 rfl] at e
      cases e
theorem wL_undo (H : Xv ro 6 mX7_undo [(1, ((0 : Nat) : Int))] w (mP w cd C1 C0 (ans (some (0, v)) ["java/lang/IllegalStateException"] cd))) (hcd : cd ≤ 1) (h1 : stab 117 C1) : Lw ro 7 mL_undo [(1, ((0 : Nat) : Int)), (1, ((117 : Nat) : Int))] w (lP w 117 cd v C1 C0) := by
  show Z ro 7 mL_undo 0 [(1, ((0 : Nat) : Int)), (1, ((117 : Nat) : Int)), (9, 0)] [] w _
  refine Z_push gL_undo_0 (v := (1, ((117 : Nat) : Int))) rfl ?_
  refine Z_push gL_undo_1 (v := (0, 0)) rfl ?_
  refine Z_push gL_undo_2 (v := (1, ((0 : Nat) : Int))) rfl ?_
  refine Z_callC (kd := 0) (na := 1) (M' := mX7_undo) gL_undo_3 rfl rfl rfl rfl rfl rfl (fun _ => rfl) rfl rfl (fun _ _ => zrecv_obj rfl _ _ _) (d' := 6) (by decide) (H) (Or.inl rfl) (fun E9 w9 hE => ?_) ?_
  · obtain ⟨e, c1, c0, hf⟩ := hE
    rcases (by omega : cd = 0 ∨ cd = 1) with rfl | rfl
    · rw [ans_0 rfl] at e
      cases e
    · rw [ans_1 rfl] at e
      cases e
      refine ⟨11, (12, [(1, ((0 : Nat) : Int)), (1, ((117 : Nat) : Int)), (9, 0)]), by decide +kernel, rfl, ?_⟩
      refine Z_push gL_undo_12 (v := (0, 1)) rfl ?_
      refine Z_retX (v := (0, 1)) gL_undo_13 rfl rfl rfl rfl rfl ?_
      exact ⟨by omega, 1, rfl, rfl, fun h => absurd h (by omega), fun _ => c0 (by omega), fun a k h1 h2 => hf a k h1⟩
  · rintro o w2 ⟨e, c1, c0, hf⟩
    rcases (by omega : cd = 0 ∨ cd = 1) with rfl | rfl
    · rw [ans_0 rfl] at e
      cases e
      refine Z_arith gL_undo_6 rfl rfl (v := [(2, v), (0, 0), (1, ((117 : Nat) : Int))]) rfl ?_
      refine Z_lastore gL_undo_7 rfl (by omega) (by omega) ?_
      refine Z_goto gL_undo_8 (tgt := 14) (by decide) ?_
      refine Z_push gL_undo_14 (v := (0, 0)) rfl ?_
      refine Z_retX (v := (0, 0)) gL_undo_15 rfl rfl rfl rfl rfl ?_
      exact ⟨by omega, 0, rfl, rfl, fun _ => ⟨h1 _ _ (c1 rfl), zup_eq _ _ _ _⟩, fun h => absurd rfl h, fun a k h1 h2 => (zup_ne (by omega)).trans (hf a k h1)⟩
    · rw [ans_1 rfl] at e
      cases e
theorem wL_weight (r : Int) (H : Xv ro 2 mX7_weight [(1, ((0 : Nat) : Int)), (0, r)] w (mP w cd C1 C0 (ans (some (0, v)) ["java/lang/IllegalArgumentException"] cd))) (hcd : cd ≤ 1) (h1 : stab 117 C1) : Lw ro 3 mL_weight [(1, ((0 : Nat) : Int)), (0, r), (1, ((117 : Nat) : Int))] w (lP w 117 cd v C1 C0) := by
  show Z ro 3 mL_weight 0 [(1, ((0 : Nat) : Int)), (0, r), (1, ((117 : Nat) : Int)), (9, 0)] [] w _
  refine Z_push gL_weight_0 (v := (1, ((117 : Nat) : Int))) rfl ?_
  refine Z_push gL_weight_1 (v := (0, 0)) rfl ?_
  refine Z_push gL_weight_2 (v := (1, ((0 : Nat) : Int))) rfl ?_
  refine Z_push gL_weight_3 (v := (0, r)) rfl ?_
  refine Z_callC (kd := 0) (na := 2) (M' := mX7_weight) gL_weight_4 rfl rfl rfl rfl rfl rfl (fun _ => rfl) rfl rfl (fun _ _ => zrecv_obj rfl _ _ _) (d' := 2) (by decide) (H) (Or.inl rfl) (fun E9 w9 hE => ?_) ?_
  · obtain ⟨e, c1, c0, hf⟩ := hE
    rcases (by omega : cd = 0 ∨ cd = 1) with rfl | rfl
    · rw [ans_0 rfl] at e
      cases e
    · rw [ans_1 rfl] at e
      cases e
      refine ⟨12, (13, [(1, ((0 : Nat) : Int)), (0, r), (1, ((117 : Nat) : Int)), (9, 0)]), by decide +kernel, rfl, ?_⟩
      refine Z_push gL_weight_13 (v := (0, 1)) rfl ?_
      refine Z_retX (v := (0, 1)) gL_weight_14 rfl rfl rfl rfl rfl ?_
      exact ⟨by omega, 1, rfl, rfl, fun h => absurd h (by omega), fun _ => c0 (by omega), fun a k h1 h2 => hf a k h1⟩
  · rintro o w2 ⟨e, c1, c0, hf⟩
    rcases (by omega : cd = 0 ∨ cd = 1) with rfl | rfl
    · rw [ans_0 rfl] at e
      cases e
      refine Z_arith gL_weight_7 rfl rfl (v := [(2, v), (0, 0), (1, ((117 : Nat) : Int))]) rfl ?_
      refine Z_lastore gL_weight_8 rfl (by omega) (by omega) ?_
      refine Z_goto gL_weight_9 (tgt := 15) (by decide) ?_
      refine Z_push gL_weight_15 (v := (0, 0)) rfl ?_
      refine Z_retX (v := (0, 0)) gL_weight_16 rfl rfl rfl rfl rfl ?_
      exact ⟨by omega, 0, rfl, rfl, fun _ => ⟨h1 _ _ (c1 rfl), zup_eq _ _ _ _⟩, fun h => absurd rfl h, fun a k h1 h2 => (zup_ne (by omega)).trans (hf a k h1)⟩
    · rw [ans_1 rfl] at e
      cases e
theorem wL_ruleAt (k : Int) (H : Xv ro 3 mX7_ruleAt [(1, ((0 : Nat) : Int)), (0, k)] w (mP w cd C1 C0 (ans (some (0, v)) ["java/util/NoSuchElementException"] cd))) (hcd : cd ≤ 1) (h1 : stab 117 C1) : Lw ro 4 mL_ruleAt [(1, ((0 : Nat) : Int)), (0, k), (1, ((117 : Nat) : Int))] w (lP w 117 cd v C1 C0) := by
  show Z ro 4 mL_ruleAt 0 [(1, ((0 : Nat) : Int)), (0, k), (1, ((117 : Nat) : Int)), (9, 0)] [] w _
  refine Z_push gL_ruleAt_0 (v := (1, ((117 : Nat) : Int))) rfl ?_
  refine Z_push gL_ruleAt_1 (v := (0, 0)) rfl ?_
  refine Z_push gL_ruleAt_2 (v := (1, ((0 : Nat) : Int))) rfl ?_
  refine Z_push gL_ruleAt_3 (v := (0, k)) rfl ?_
  refine Z_callC (kd := 0) (na := 2) (M' := mX7_ruleAt) gL_ruleAt_4 rfl rfl rfl rfl rfl rfl (fun _ => rfl) rfl rfl (fun _ _ => zrecv_obj rfl _ _ _) (d' := 3) (by decide) (H) (Or.inl rfl) (fun E9 w9 hE => ?_) ?_
  · obtain ⟨e, c1, c0, hf⟩ := hE
    rcases (by omega : cd = 0 ∨ cd = 1) with rfl | rfl
    · rw [ans_0 rfl] at e
      cases e
    · rw [ans_1 rfl] at e
      cases e
      refine ⟨12, (13, [(1, ((0 : Nat) : Int)), (0, k), (1, ((117 : Nat) : Int)), (9, 0)]), by decide +kernel, rfl, ?_⟩
      refine Z_push gL_ruleAt_13 (v := (0, 1)) rfl ?_
      refine Z_retX (v := (0, 1)) gL_ruleAt_14 rfl rfl rfl rfl rfl ?_
      exact ⟨by omega, 1, rfl, rfl, fun h => absurd h (by omega), fun _ => c0 (by omega), fun a k h1 h2 => hf a k h1⟩
  · rintro o w2 ⟨e, c1, c0, hf⟩
    rcases (by omega : cd = 0 ∨ cd = 1) with rfl | rfl
    · rw [ans_0 rfl] at e
      cases e
      refine Z_arith gL_ruleAt_7 rfl rfl (v := [(2, v), (0, 0), (1, ((117 : Nat) : Int))]) rfl ?_
      refine Z_lastore gL_ruleAt_8 rfl (by omega) (by omega) ?_
      refine Z_goto gL_ruleAt_9 (tgt := 15) (by decide) ?_
      refine Z_push gL_ruleAt_15 (v := (0, 0)) rfl ?_
      refine Z_retX (v := (0, 0)) gL_ruleAt_16 rfl rfl rfl rfl rfl ?_
      exact ⟨by omega, 0, rfl, rfl, fun _ => ⟨h1 _ _ (c1 rfl), zup_eq _ _ _ _⟩, fun h => absurd rfl h, fun a k h1 h2 => (zup_ne (by omega)).trans (hf a k h1)⟩
    · rw [ans_1 rfl] at e
      cases e
theorem wL_undone (r : Int) (H : Xv ro 2 mX7_undone [(1, ((0 : Nat) : Int)), (0, r)] w (mP w cd C1 C0 (ans (some (2, v)) ["java/lang/IllegalArgumentException"] cd))) (hcd : cd ≤ 1) (h1 : stab 117 C1) : Lw ro 3 mL_undone [(1, ((0 : Nat) : Int)), (0, r), (1, ((117 : Nat) : Int))] w (lP w 117 cd v C1 C0) := by
  show Z ro 3 mL_undone 0 [(1, ((0 : Nat) : Int)), (0, r), (1, ((117 : Nat) : Int)), (9, 0)] [] w _
  refine Z_push gL_undone_0 (v := (1, ((117 : Nat) : Int))) rfl ?_
  refine Z_push gL_undone_1 (v := (0, 0)) rfl ?_
  refine Z_push gL_undone_2 (v := (1, ((0 : Nat) : Int))) rfl ?_
  refine Z_push gL_undone_3 (v := (0, r)) rfl ?_
  refine Z_callC (kd := 0) (na := 2) (M' := mX7_undone) gL_undone_4 rfl rfl rfl rfl rfl rfl (fun _ => rfl) rfl rfl (fun _ _ => zrecv_obj rfl _ _ _) (d' := 2) (by decide) (H) (Or.inl rfl) (fun E9 w9 hE => ?_) ?_
  · obtain ⟨e, c1, c0, hf⟩ := hE
    rcases (by omega : cd = 0 ∨ cd = 1) with rfl | rfl
    · rw [ans_0 rfl] at e
      cases e
    · rw [ans_1 rfl] at e
      cases e
      refine ⟨11, (12, [(1, ((0 : Nat) : Int)), (0, r), (1, ((117 : Nat) : Int)), (9, 0)]), by decide +kernel, rfl, ?_⟩
      refine Z_push gL_undone_12 (v := (0, 1)) rfl ?_
      refine Z_retX (v := (0, 1)) gL_undone_13 rfl rfl rfl rfl rfl ?_
      exact ⟨by omega, 1, rfl, rfl, fun h => absurd h (by omega), fun _ => c0 (by omega), fun a k h1 h2 => hf a k h1⟩
  · rintro o w2 ⟨e, c1, c0, hf⟩
    rcases (by omega : cd = 0 ∨ cd = 1) with rfl | rfl
    · rw [ans_0 rfl] at e
      cases e
      refine Z_lastore gL_undone_7 rfl (by omega) (by omega) ?_
      refine Z_goto gL_undone_8 (tgt := 14) (by decide) ?_
      refine Z_push gL_undone_14 (v := (0, 0)) rfl ?_
      refine Z_retX (v := (0, 0)) gL_undone_15 rfl rfl rfl rfl rfl ?_
      exact ⟨by omega, 0, rfl, rfl, fun _ => ⟨h1 _ _ (c1 rfl), zup_eq _ _ _ _⟩, fun h => absurd rfl h, fun a k h1 h2 => (zup_ne (by omega)).trans (hf a k h1)⟩
    · rw [ans_1 rfl] at e
      cases e
theorem wL_undoneShare {x : UInt32} (hx : zn64 (FP.f2d x) = true) (H : Xv ro 3 mX7_undoneShare [(1, ((0 : Nat) : Int))] w (mP w cd C1 C0 (ans (some (3, (x.toNat : Int))) ["java/lang/ArithmeticException"] cd))) (hcd : cd ≤ 1) (h1 : stab 118 C1) : Lw ro 4 mL_undoneShare [(1, ((0 : Nat) : Int)), (1, ((118 : Nat) : Int))] w (lP w 118 cd ((FP.f2d x).toNat : Int) C1 C0) := by
  show Z ro 4 mL_undoneShare 0 [(1, ((0 : Nat) : Int)), (1, ((118 : Nat) : Int)), (9, 0)] [] w _
  refine Z_push gL_undoneShare_0 (v := (1, ((118 : Nat) : Int))) rfl ?_
  refine Z_push gL_undoneShare_1 (v := (0, 0)) rfl ?_
  refine Z_push gL_undoneShare_2 (v := (1, ((0 : Nat) : Int))) rfl ?_
  refine Z_callC (kd := 0) (na := 1) (M' := mX7_undoneShare) gL_undoneShare_3 rfl rfl rfl rfl rfl rfl (fun _ => rfl) rfl rfl (fun _ _ => zrecv_obj rfl _ _ _) (d' := 3) (by decide) (H) (Or.inl rfl) (fun E9 w9 hE => ?_) ?_
  · obtain ⟨e, c1, c0, hf⟩ := hE
    rcases (by omega : cd = 0 ∨ cd = 1) with rfl | rfl
    · rw [ans_0 rfl] at e
      cases e
    · rw [ans_1 rfl] at e
      cases e
      refine ⟨11, (12, [(1, ((0 : Nat) : Int)), (1, ((118 : Nat) : Int)), (9, 0)]), by decide +kernel, rfl, ?_⟩
      refine Z_push gL_undoneShare_12 (v := (0, 1)) rfl ?_
      refine Z_retX (v := (0, 1)) gL_undoneShare_13 rfl rfl rfl rfl rfl ?_
      exact ⟨by omega, 1, rfl, rfl, fun h => absurd h (by omega), fun _ => c0 (by omega), fun a k h1 h2 => hf a k h1⟩
  · rintro o w2 ⟨e, c1, c0, hf⟩
    rcases (by omega : cd = 0 ∨ cd = 1) with rfl | rfl
    · rw [ans_0 rfl] at e
      cases e
      refine Z_arith gL_undoneShare_6 rfl rfl (v := [(4, ((FP.f2d x).toNat : Int)), (0, 0), (1, ((118 : Nat) : Int))]) (f2d_ok hx) ?_
      refine Z_dastore gL_undoneShare_7 rfl (by omega) (by omega) ?_
      refine Z_goto gL_undoneShare_8 (tgt := 14) (by decide) ?_
      refine Z_push gL_undoneShare_14 (v := (0, 0)) rfl ?_
      refine Z_retX (v := (0, 0)) gL_undoneShare_15 rfl rfl rfl rfl rfl ?_
      exact ⟨by omega, 0, rfl, rfl, fun _ => ⟨h1 _ _ (c1 rfl), zup_eq _ _ _ _⟩, fun h => absurd rfl h, fun a k h1 h2 => (zup_ne (by omega)).trans (hf a k h1)⟩
    · rw [ans_1 rfl] at e
      cases e
theorem wL_setWidth (l : Int) (H : Xv ro 0 mX7_setWidth [(1, ((0 : Nat) : Int)), (0, l)] w (mP w cd C1 C0 (ans (some (0, v)) ["java/lang/IllegalArgumentException"] cd))) (hcd : cd ≤ 1) (h1 : stab 117 C1) : Lw ro 1 mL_setWidth [(1, ((0 : Nat) : Int)), (0, l), (1, ((117 : Nat) : Int))] w (lP w 117 cd v C1 C0) := by
  show Z ro 1 mL_setWidth 0 [(1, ((0 : Nat) : Int)), (0, l), (1, ((117 : Nat) : Int)), (9, 0)] [] w _
  refine Z_push gL_setWidth_0 (v := (1, ((117 : Nat) : Int))) rfl ?_
  refine Z_push gL_setWidth_1 (v := (0, 0)) rfl ?_
  refine Z_push gL_setWidth_2 (v := (1, ((0 : Nat) : Int))) rfl ?_
  refine Z_push gL_setWidth_3 (v := (0, l)) rfl ?_
  refine Z_callC (kd := 0) (na := 2) (M' := mX7_setWidth) gL_setWidth_4 rfl rfl rfl rfl rfl rfl (fun _ => rfl) rfl rfl (fun _ _ => zrecv_obj rfl _ _ _) (d' := 0) (by decide) (H) (Or.inl rfl) (fun E9 w9 hE => ?_) ?_
  · obtain ⟨e, c1, c0, hf⟩ := hE
    rcases (by omega : cd = 0 ∨ cd = 1) with rfl | rfl
    · rw [ans_0 rfl] at e
      cases e
    · rw [ans_1 rfl] at e
      cases e
      refine ⟨12, (13, [(1, ((0 : Nat) : Int)), (0, l), (1, ((117 : Nat) : Int)), (9, 0)]), by decide +kernel, rfl, ?_⟩
      refine Z_push gL_setWidth_13 (v := (0, 1)) rfl ?_
      refine Z_retX (v := (0, 1)) gL_setWidth_14 rfl rfl rfl rfl rfl ?_
      exact ⟨by omega, 1, rfl, rfl, fun h => absurd h (by omega), fun _ => c0 (by omega), fun a k h1 h2 => hf a k h1⟩
  · rintro o w2 ⟨e, c1, c0, hf⟩
    rcases (by omega : cd = 0 ∨ cd = 1) with rfl | rfl
    · rw [ans_0 rfl] at e
      cases e
      refine Z_arith gL_setWidth_7 rfl rfl (v := [(2, v), (0, 0), (1, ((117 : Nat) : Int))]) rfl ?_
      refine Z_lastore gL_setWidth_8 rfl (by omega) (by omega) ?_
      refine Z_goto gL_setWidth_9 (tgt := 15) (by decide) ?_
      refine Z_push gL_setWidth_15 (v := (0, 0)) rfl ?_
      refine Z_retX (v := (0, 0)) gL_setWidth_16 rfl rfl rfl rfl rfl ?_
      exact ⟨by omega, 0, rfl, rfl, fun _ => ⟨h1 _ _ (c1 rfl), zup_eq _ _ _ _⟩, fun h => absurd rfl h, fun a k h1 h2 => (zup_ne (by omega)).trans (hf a k h1)⟩
    · rw [ans_1 rfl] at e
      cases e
theorem wL_costByTrying (H : Xv ro 17 mX7_costByTrying [(1, ((0 : Nat) : Int))] w (mP w cd C1 C0 (ans (some (0, v)) ["java/lang/UnsupportedOperationException"] cd))) (hcd : cd ≤ 1) (h1 : stab 117 C1) : Lw ro 18 mL_costByTrying [(1, ((0 : Nat) : Int)), (1, ((117 : Nat) : Int))] w (lP w 117 cd v C1 C0) := by
  show Z ro 18 mL_costByTrying 0 [(1, ((0 : Nat) : Int)), (1, ((117 : Nat) : Int)), (9, 0)] [] w _
  refine Z_push gL_costByTrying_0 (v := (1, ((117 : Nat) : Int))) rfl ?_
  refine Z_push gL_costByTrying_1 (v := (0, 0)) rfl ?_
  refine Z_push gL_costByTrying_2 (v := (1, ((0 : Nat) : Int))) rfl ?_
  refine Z_callC (kd := 0) (na := 1) (M' := mX7_costByTrying) gL_costByTrying_3 rfl rfl rfl rfl rfl rfl (fun _ => rfl) rfl rfl (fun _ _ => zrecv_obj rfl _ _ _) (d' := 17) (by decide) (H) (Or.inl rfl) (fun E9 w9 hE => ?_) ?_
  · obtain ⟨e, c1, c0, hf⟩ := hE
    rcases (by omega : cd = 0 ∨ cd = 1) with rfl | rfl
    · rw [ans_0 rfl] at e
      cases e
    · rw [ans_1 rfl] at e
      cases e
      refine ⟨11, (12, [(1, ((0 : Nat) : Int)), (1, ((117 : Nat) : Int)), (9, 0)]), by decide +kernel, rfl, ?_⟩
      refine Z_push gL_costByTrying_12 (v := (0, 1)) rfl ?_
      refine Z_retX (v := (0, 1)) gL_costByTrying_13 rfl rfl rfl rfl rfl ?_
      exact ⟨by omega, 1, rfl, rfl, fun h => absurd h (by omega), fun _ => c0 (by omega), fun a k h1 h2 => hf a k h1⟩
  · rintro o w2 ⟨e, c1, c0, hf⟩
    rcases (by omega : cd = 0 ∨ cd = 1) with rfl | rfl
    · rw [ans_0 rfl] at e
      cases e
      refine Z_arith gL_costByTrying_6 rfl rfl (v := [(2, v), (0, 0), (1, ((117 : Nat) : Int))]) rfl ?_
      refine Z_lastore gL_costByTrying_7 rfl (by omega) (by omega) ?_
      refine Z_goto gL_costByTrying_8 (tgt := 14) (by decide) ?_
      refine Z_push gL_costByTrying_14 (v := (0, 0)) rfl ?_
      refine Z_retX (v := (0, 0)) gL_costByTrying_15 rfl rfl rfl rfl rfl ?_
      exact ⟨by omega, 0, rfl, rfl, fun _ => ⟨h1 _ _ (c1 rfl), zup_eq _ _ _ _⟩, fun h => absurd rfl h, fun a k h1 h2 => (zup_ne (by omega)).trans (hf a k h1)⟩
    · rw [ans_1 rfl] at e
      cases e
theorem wL_lineOf (i : Int) (H : Xv ro 2 mX7_lineOf [(1, ((0 : Nat) : Int)), (0, i)] w (mP w cd C1 C0 (ans (some (0, v)) ["java/lang/IndexOutOfBoundsException", "java/lang/IllegalStateException"] cd))) (hcd : cd ≤ 2) (h1 : stab 117 C1) : Lw ro 3 mL_lineOf [(1, ((0 : Nat) : Int)), (0, i), (1, ((117 : Nat) : Int))] w (lP w 117 cd v C1 C0) := by
  show Z ro 3 mL_lineOf 0 [(1, ((0 : Nat) : Int)), (0, i), (1, ((117 : Nat) : Int)), (9, 0)] [] w _
  refine Z_push gL_lineOf_0 (v := (1, ((117 : Nat) : Int))) rfl ?_
  refine Z_push gL_lineOf_1 (v := (0, 0)) rfl ?_
  refine Z_push gL_lineOf_2 (v := (1, ((0 : Nat) : Int))) rfl ?_
  refine Z_push gL_lineOf_3 (v := (0, i)) rfl ?_
  refine Z_callC (kd := 0) (na := 2) (M' := mX7_lineOf) gL_lineOf_4 rfl rfl rfl rfl rfl rfl (fun _ => rfl) rfl rfl (fun _ _ => zrecv_obj rfl _ _ _) (d' := 2) (by decide) (H) (Or.inl rfl) (fun E9 w9 hE => ?_) ?_
  · obtain ⟨e, c1, c0, hf⟩ := hE
    rcases (by omega : cd = 0 ∨ cd = 1 ∨ cd = 2) with rfl | rfl | rfl
    · rw [ans_0 rfl] at e
      cases e
    · rw [ans_1 rfl] at e
      cases e
      refine ⟨12, (13, [(1, ((0 : Nat) : Int)), (0, i), (1, ((117 : Nat) : Int)), (9, 0)]), by decide +kernel, rfl, ?_⟩
      refine Z_push gL_lineOf_13 (v := (0, 1)) rfl ?_
      refine Z_retX (v := (0, 1)) gL_lineOf_14 rfl rfl rfl rfl rfl ?_
      exact ⟨by omega, 1, rfl, rfl, fun h => absurd h (by omega), fun _ => c0 (by omega), fun a k h1 h2 => hf a k h1⟩
    · rw [ans_2 rfl] at e
      cases e
      refine ⟨15, (16, [(1, ((0 : Nat) : Int)), (0, i), (1, ((117 : Nat) : Int)), (9, 0)]), by decide +kernel, rfl, ?_⟩
      refine Z_push gL_lineOf_16 (v := (0, 2)) rfl ?_
      refine Z_retX (v := (0, 2)) gL_lineOf_17 rfl rfl rfl rfl rfl ?_
      exact ⟨by omega, 2, rfl, rfl, fun h => absurd h (by omega), fun _ => c0 (by omega), fun a k h1 h2 => hf a k h1⟩
  · rintro o w2 ⟨e, c1, c0, hf⟩
    rcases (by omega : cd = 0 ∨ cd = 1 ∨ cd = 2) with rfl | rfl | rfl
    · rw [ans_0 rfl] at e
      cases e
      refine Z_arith gL_lineOf_7 rfl rfl (v := [(2, v), (0, 0), (1, ((117 : Nat) : Int))]) rfl ?_
      refine Z_lastore gL_lineOf_8 rfl (by omega) (by omega) ?_
      refine Z_goto gL_lineOf_9 (tgt := 18) (by decide) ?_
      refine Z_push gL_lineOf_18 (v := (0, 0)) rfl ?_
      refine Z_retX (v := (0, 0)) gL_lineOf_19 rfl rfl rfl rfl rfl ?_
      exact ⟨by omega, 0, rfl, rfl, fun _ => ⟨h1 _ _ (c1 rfl), zup_eq _ _ _ _⟩, fun h => absurd rfl h, fun a k h1 h2 => (zup_ne (by omega)).trans (hf a k h1)⟩
    · rw [ans_1 rfl] at e
      cases e
    · rw [ans_2 rfl] at e
      cases e
theorem wL_lineWidth (l : Int) (H : Xv ro 4 mX7_lineWidth [(1, ((0 : Nat) : Int)), (0, l)] w (mP w cd C1 C0 (ans (some (0, v)) ["java/lang/IllegalStateException", "java/util/NoSuchElementException"] cd))) (hcd : cd ≤ 2) (h1 : stab 117 C1) : Lw ro 5 mL_lineWidth [(1, ((0 : Nat) : Int)), (0, l), (1, ((117 : Nat) : Int))] w (lP w 117 cd v C1 C0) := by
  show Z ro 5 mL_lineWidth 0 [(1, ((0 : Nat) : Int)), (0, l), (1, ((117 : Nat) : Int)), (9, 0)] [] w _
  refine Z_push gL_lineWidth_0 (v := (1, ((117 : Nat) : Int))) rfl ?_
  refine Z_push gL_lineWidth_1 (v := (0, 0)) rfl ?_
  refine Z_push gL_lineWidth_2 (v := (1, ((0 : Nat) : Int))) rfl ?_
  refine Z_push gL_lineWidth_3 (v := (0, l)) rfl ?_
  refine Z_callC (kd := 0) (na := 2) (M' := mX7_lineWidth) gL_lineWidth_4 rfl rfl rfl rfl rfl rfl (fun _ => rfl) rfl rfl (fun _ _ => zrecv_obj rfl _ _ _) (d' := 4) (by decide) (H) (Or.inl rfl) (fun E9 w9 hE => ?_) ?_
  · obtain ⟨e, c1, c0, hf⟩ := hE
    rcases (by omega : cd = 0 ∨ cd = 1 ∨ cd = 2) with rfl | rfl | rfl
    · rw [ans_0 rfl] at e
      cases e
    · rw [ans_1 rfl] at e
      cases e
      refine ⟨12, (13, [(1, ((0 : Nat) : Int)), (0, l), (1, ((117 : Nat) : Int)), (9, 0)]), by decide +kernel, rfl, ?_⟩
      refine Z_push gL_lineWidth_13 (v := (0, 1)) rfl ?_
      refine Z_retX (v := (0, 1)) gL_lineWidth_14 rfl rfl rfl rfl rfl ?_
      exact ⟨by omega, 1, rfl, rfl, fun h => absurd h (by omega), fun _ => c0 (by omega), fun a k h1 h2 => hf a k h1⟩
    · rw [ans_2 rfl] at e
      cases e
      refine ⟨15, (16, [(1, ((0 : Nat) : Int)), (0, l), (1, ((117 : Nat) : Int)), (9, 0)]), by decide +kernel, rfl, ?_⟩
      refine Z_push gL_lineWidth_16 (v := (0, 2)) rfl ?_
      refine Z_retX (v := (0, 2)) gL_lineWidth_17 rfl rfl rfl rfl rfl ?_
      exact ⟨by omega, 2, rfl, rfl, fun h => absurd h (by omega), fun _ => c0 (by omega), fun a k h1 h2 => hf a k h1⟩
  · rintro o w2 ⟨e, c1, c0, hf⟩
    rcases (by omega : cd = 0 ∨ cd = 1 ∨ cd = 2) with rfl | rfl | rfl
    · rw [ans_0 rfl] at e
      cases e
      refine Z_arith gL_lineWidth_7 rfl rfl (v := [(2, v), (0, 0), (1, ((117 : Nat) : Int))]) rfl ?_
      refine Z_lastore gL_lineWidth_8 rfl (by omega) (by omega) ?_
      refine Z_goto gL_lineWidth_9 (tgt := 18) (by decide) ?_
      refine Z_push gL_lineWidth_18 (v := (0, 0)) rfl ?_
      refine Z_retX (v := (0, 0)) gL_lineWidth_19 rfl rfl rfl rfl rfl ?_
      exact ⟨by omega, 0, rfl, rfl, fun _ => ⟨h1 _ _ (c1 rfl), zup_eq _ _ _ _⟩, fun h => absurd rfl h, fun a k h1 h2 => (zup_ne (by omega)).trans (hf a k h1)⟩
    · rw [ans_1 rfl] at e
      cases e
    · rw [ans_2 rfl] at e
      cases e
theorem wL_meanWidth (H : Xv ro 3 mX7_meanWidth [(1, ((0 : Nat) : Int))] w (mP w cd C1 C0 (ans (some (4, v)) ["java/lang/ArithmeticException"] cd))) (hcd : cd ≤ 1) (h1 : stab 118 C1) : Lw ro 4 mL_meanWidth [(1, ((0 : Nat) : Int)), (1, ((118 : Nat) : Int))] w (lP w 118 cd v C1 C0) := by
  show Z ro 4 mL_meanWidth 0 [(1, ((0 : Nat) : Int)), (1, ((118 : Nat) : Int)), (9, 0)] [] w _
  refine Z_push gL_meanWidth_0 (v := (1, ((118 : Nat) : Int))) rfl ?_
  refine Z_push gL_meanWidth_1 (v := (0, 0)) rfl ?_
  refine Z_push gL_meanWidth_2 (v := (1, ((0 : Nat) : Int))) rfl ?_
  refine Z_callC (kd := 0) (na := 1) (M' := mX7_meanWidth) gL_meanWidth_3 rfl rfl rfl rfl rfl rfl (fun _ => rfl) rfl rfl (fun _ _ => zrecv_obj rfl _ _ _) (d' := 3) (by decide) (H) (Or.inl rfl) (fun E9 w9 hE => ?_) ?_
  · obtain ⟨e, c1, c0, hf⟩ := hE
    rcases (by omega : cd = 0 ∨ cd = 1) with rfl | rfl
    · rw [ans_0 rfl] at e
      cases e
    · rw [ans_1 rfl] at e
      cases e
      refine ⟨10, (11, [(1, ((0 : Nat) : Int)), (1, ((118 : Nat) : Int)), (9, 0)]), by decide +kernel, rfl, ?_⟩
      refine Z_push gL_meanWidth_11 (v := (0, 1)) rfl ?_
      refine Z_retX (v := (0, 1)) gL_meanWidth_12 rfl rfl rfl rfl rfl ?_
      exact ⟨by omega, 1, rfl, rfl, fun h => absurd h (by omega), fun _ => c0 (by omega), fun a k h1 h2 => hf a k h1⟩
  · rintro o w2 ⟨e, c1, c0, hf⟩
    rcases (by omega : cd = 0 ∨ cd = 1) with rfl | rfl
    · rw [ans_0 rfl] at e
      cases e
      refine Z_dastore gL_meanWidth_6 rfl (by omega) (by omega) ?_
      refine Z_goto gL_meanWidth_7 (tgt := 13) (by decide) ?_
      refine Z_push gL_meanWidth_13 (v := (0, 0)) rfl ?_
      refine Z_retX (v := (0, 0)) gL_meanWidth_14 rfl rfl rfl rfl rfl ?_
      exact ⟨by omega, 0, rfl, rfl, fun _ => ⟨h1 _ _ (c1 rfl), zup_eq _ _ _ _⟩, fun h => absurd rfl h, fun a k h1 h2 => (zup_ne (by omega)).trans (hf a k h1)⟩
    · rw [ans_1 rfl] at e
      cases e
end
