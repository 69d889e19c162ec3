/-! a run reads of the given rows only what they hold -/
section
variable {ro ro' : zRo}
theorem zheap_ro (hro : ∀ z r, ro z = some r → ro' z = some r) {fld : Nat → Option (Nat × Nat × Nat × Bool × Bool)} {cls : Nat → Option (Nat × Nat)} {fty : Nat → Nat → Nat} {ref : Nat → Bool} {stc : Nat → Option Int} {ctor : Bool} {i : Instr} {len : Nat} {st : List zV} {S : zS} {x : List zV × zS} (h : zheap fld cls fty ref stc ctor ro i len st S = some x) : zheap fld cls fty ref stc ctor ro' i len st S = some x := by
  unfold zheap at h
  split at h
  all_goals first
    | exact h
    | cases h
    | skip
  · rename_i j a st
    show (match zarr S 1 a j with
      | some q => some ((0, S.2.1 q.1 q.2) :: st, S)
      | none => if a < -1 then match ro' a with
        | some r => if 0 ≤ j ∧ j < (r.1 : Int) then some ((0, r.2 j.toNat) :: st, S) else none
        | none => none else none) = some x
    cases hz : zarr S 1 a j with
    | some q => rw [hz] at h; exact h
    | none =>
      rw [hz] at h
      simp only at h ⊢
      by_cases ha : a < -1
      · rw [if_pos ha] at h ⊢
        cases hr : ro a with
        | none => rw [hr] at h; cases h
        | some r => rw [hr] at h; rw [hro a r hr]; exact h
      · rw [if_neg ha] at h; cases h
  · rename_i a st
    show (if 0 ≤ a then match S.1[a.toNat]? with
      | some e => if (1 ≤ e.1 ∧ e.1 ≤ 3) ∨ e.1 = 6 then some ((0, (e.2.2 : Int)) :: st, S) else none
      | none => none
    else if a < -1 then match ro' a with | some r => some ((0, (r.1 : Int)) :: st, S) | none => none else none) = some x
    by_cases h0 : 0 ≤ a
    · rw [if_pos h0] at h ⊢; exact h
    · rw [if_neg h0] at h ⊢
      by_cases ha : a < -1
      · rw [if_pos ha] at h ⊢
        cases hr : ro a with
        | none => rw [hr] at h; cases h
        | some r => rw [hr] at h; rw [hro a r hr]; exact h
      · rw [if_neg ha] at h; cases h
theorem zinv_heap9 {c : Nat} {i : Instr} {len : Nat} {v : Nat × Nat × zM} (h : zinv c i len = some v) (ro : zRo) (fld : Nat → Option (Nat × Nat × Nat × Bool × Bool)) (cls : Nat → Option (Nat × Nat)) (fty : Nat → Nat → Nat) (ref : Nat → Bool) (stc : Nat → Option Int) (ctor : Bool) (st : List zV) (S : zS) : zheap fld cls fty ref stc ctor ro i len st S = none := by
  unfold zinv at h
  split at h
  · rfl
  · rfl
  · rfl
  · cases h
theorem zr_ro (hro : ∀ z r, ro z = some r → ro' z = some r) : ∀ (n d : Nat) (M : zM) (pc : Nat) (ls st : List zV) (S : zS) (r : zR), zrun ro n d M pc ls st S = some r → zrun ro' n d M pc ls st S = some r
  | 0, _, _, _, _, _, _, _, h => by unfold zrun at h; cases h
  | n + 1, d, M, pc, ls, st, S, r, h => by
    have ih := fun d M pc ls st S r => zr_ro hro n d M pc ls st S r
    unfold zrun at h ⊢
    cases h0 : zget (zMt M) pc with
    | none => simp only [h0] at h; cases h
    | some q =>
    simp only [h0] at h ⊢
    cases h1 : zpush (zcon (zMk M)) q.1 q.2 ls with
    | some v => simp only [h1] at h ⊢; exact ih _ _ _ _ _ _ _ h
    | none =>
    simp only [h1] at h ⊢
    cases h2 : zstore q.1 q.2 ls st with
    | some v => simp only [h2] at h ⊢; exact ih _ _ _ _ _ _ _ h
    | none =>
    simp only [h2] at h ⊢
    cases h3 : zarith (zmth (zMk M)) q.1 q.2 st with
    | some v => simp only [h3] at h ⊢; exact ih _ _ _ _ _ _ _ h
    | none =>
    simp only [h3] at h ⊢
    cases h4 : zjump q.1 q.2 pc st with
    | some v => simp only [h4] at h ⊢; exact ih _ _ _ _ _ _ _ h
    | none =>
    simp only [h4] at h ⊢
    cases h5 : zend (zMr M) q.1 q.2 st with
    | some v => simp only [h5] at h ⊢; exact h
    | none =>
    simp only [h5] at h ⊢
    cases h6 : zthr (zexn (zMk M)) (zMt M) pc q.1 q.2 with
    | some v => simp only [h6] at h ⊢; exact h
    | none =>
    simp only [h6] at h ⊢
    cases h7 : zheap (zfld (zMk M)) (zcls (zMk M)) zfty (zref (zMk M)) (zstc (zMk M)) (M.1.name == "<init>") ro q.1 q.2 st S with
    | some v =>
      have h7' := zheap_ro hro h7
      simp only [h7] at h
      simp only [h7']
      exact ih _ _ _ _ _ _ _ h
    | none =>
    simp only [h7] at h
    match d, h with
    | 0, h => cases h
    | d + 1, h =>
    cases h8 : zinv (zMk M) q.1 q.2 with
    | none => simp only [h8] at h; cases h
    | some v =>
    have h7' := zinv_heap9 h8 ro' (zfld (zMk M)) (zcls (zMk M)) zfty (zref (zMk M)) (zstc (zMk M)) (M.1.name == "<init>") st S
    simp only [h7']
    simp only [h8] at h ⊢
    cases hc : (decide (v.2.1 ≤ st.length) && (st.take v.2.1).all zplain && decide (v.2.1 ≤ zMl v.2.2) && (st.drop v.2.1).all zplain && decide ((st.drop v.2.1).length ≤ 8) && zrecv S v.1 (zMk v.2.2) (st.take v.2.1).reverse) with
    | false => rw [hc] at h; cases h
    | true =>
    rw [hc] at h
    simp only [cond_true] at h ⊢
    cases h9 : zrun ro n d v.2.2 0 (zargs (zMl v.2.2) (st.take v.2.1).reverse) [] S with
    | none => simp only [h9] at h; cases h
    | some r9 =>
    have h9' := ih d _ _ _ _ _ _ h9
    simp only [h9] at h
    simp only [h9']
    obtain ⟨o, S1⟩ := r9
    match o, h with
    | .inl (some v9), h => exact ih _ _ _ _ _ _ _ h
    | .inl none, h => exact ih _ _ _ _ _ _ _ h
    | .inr E, h =>
      simp only at h ⊢
      by_cases hk : v.1 = 0 ∨ v.1 = 1
      · rw [if_pos hk] at h ⊢
        cases hh : zhand (zexn (zMk M)) zCA zNC pc E (zMh M) with
        | some h10 =>
          simp only [hh] at h ⊢
          cases hh2 : zcatch (zMt M) h10 ls with
          | some r2 => simp only [hh2] at h ⊢; exact ih _ _ _ _ _ _ _ h
          | none => simp only [hh2] at h; cases h
        | none => simp only [hh] at h ⊢; exact h
      · rw [if_neg hk] at h; cases h
end
