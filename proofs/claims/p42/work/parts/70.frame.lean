/-! THE FRAME: a run that makes no cell goes the same with further cells behind -/
def xtS (X : List zLE) (S : zS) : zS := (S.1 ++ X, S.2)
theorem get_xt {L X : List zLE} {i : Nat} {e : zLE} (h : L[i]? = some e) : (L ++ X)[i]? = some e := by
  rw [List.getElem?_append_left (List.getElem?_eq_some_iff.mp h).1]
  exact h
theorem zarr_xt {X : List zLE} {S : zS} {k : Nat} {a j : Int} {q : Nat × Nat} (h : zarr S k a j = some q) : zarr (xtS X S) k a j = some q := by
  unfold zarr at h ⊢
  split at h
  · rename_i h0
    rw [if_pos h0]
    split at h
    · rename_i e he
      rw [show (xtS X S).1[a.toNat]? = some e from get_xt he]
      exact h
    · cases h
  · cases h
theorem zobj_xt {X : List zLE} {S : zS} {o : Int} {c k n : Nat} (h : zobj S o c k = some n) : zobj (xtS X S) o c k = some n := by
  unfold zobj at h ⊢
  split at h
  · rename_i h0
    rw [if_pos h0]
    split at h
    · rename_i e he
      rw [show (xtS X S).1[o.toNat]? = some e from get_xt he]
      exact h
    · cases h
  · cases h
theorem zarr_neg {S : zS} {k : Nat} {a j : Int} (h : a < -1) : zarr S k a j = none := by unfold zarr; rw [if_neg (by omega)]
section
variable {fld : Nat → Option (Nat × Nat × Nat × Bool × Bool)} {cls : Nat → Option (Nat × Nat)} {fty : Nat → Nat → Nat} {ref : Nat → Bool} {stc : Nat → Option Int} {ctor : Bool} {ro : zRo} {i : Instr} {len : Nat} {st : List zV} {S : zS} {r : List zV × zS}
theorem znew_len (S : zS) (e : zLE) (f : Nat → Int) : (znew S e f).1.length = S.1.length + 1 := by show (S.1 ++ [e]).length = _; simp
theorem zheap_fr (h : zheap fld cls fty ref stc ctor ro i len st S = some r) : S.1.length ≤ r.2.1.length ∧ (r.2.1.length = S.1.length → ∀ X, zheap fld cls fty ref stc ctor ro i len st (xtS X S) = some (r.1, xtS X r.2)) := by
  have made : ∀ (st1 : List zV) (e : zLE) (f : Nat → Int), some (st1, znew S e f) = some r → S.1.length ≤ r.2.1.length ∧ ∀ P : Prop, r.2.1.length = S.1.length → P := by
    intro st1 e f hr
    cases hr
    have := znew_len S e f
    exact ⟨by show _ ≤ (znew S e f).1.length; omega, fun P h2 => absurd h2 (by show ¬ (znew S e f).1.length = _; omega)⟩
  unfold zheap at h
  split at h
  · split at h
    · rename_i f hf
      split at h
      · rename_i n hn
        cases h
        exact ⟨Nat.le_refl _, fun _ X => by simp only [zheap, hf, zobj_xt hn]; rfl⟩
      · cases h
    · cases h
  · split at h
    · rename_i f hf
      split at h
      · rename_i h3
        split at h
        · rename_i n hn
          cases h
          exact ⟨Nat.le_refl _, fun _ X => by simp only [zheap, hf, zobj_xt hn]; rw [if_pos h3]; rfl⟩
        · cases h
      · cases h
    · cases h
  · split at h
    · rename_i q hq
      cases h
      exact ⟨Nat.le_refl _, fun _ X => by simp only [zheap, zarr_xt hq]; rfl⟩
    · split at h
      · rename_i ha
        split at h
        · rename_i r0 hr0
          split at h
          · rename_i hj
            cases h
            exact ⟨Nat.le_refl _, fun _ X => by simp only [zheap, zarr_neg ha, hr0]; rw [if_pos ha, if_pos hj]⟩
          · cases h
        · cases h
      · cases h
  · split at h
    · rename_i q hq
      cases h
      exact ⟨Nat.le_refl _, fun _ X => by simp only [zheap, zarr_xt hq]; rfl⟩
    · cases h
  · split at h
    · rename_i q hq
      cases h
      exact ⟨Nat.le_refl _, fun _ X => by simp only [zheap, zarr_xt hq]; rfl⟩
    · cases h
  · split at h
    · rename_i q hq
      cases h
      exact ⟨Nat.le_refl _, fun _ X => by simp only [zheap, zarr_xt hq]; rfl⟩
    · cases h
  · split at h
    · rename_i q hq
      cases h
      exact ⟨Nat.le_refl _, fun _ X => by simp only [zheap, zarr_xt hq]; rfl⟩
    · cases h
  · split at h
    · rename_i hv
      split at h
      · rename_i q hq
        cases h
        exact ⟨Nat.le_refl _, fun _ X => by simp only [zheap, zarr_xt hq]; rw [if_pos hv]; rfl⟩
      · cases h
    · cases h
  · split at h
    · rename_i hv
      split at h
      · rename_i q hq
        cases h
        exact ⟨Nat.le_refl _, fun _ X => by simp only [zheap, zarr_xt hq]; rw [if_pos hv]; rfl⟩
      · cases h
    · cases h
  · split at h
    · rename_i q hq
      split at h
      · rename_i n0 hn0
        cases h
        exact ⟨Nat.le_refl _, fun _ X => by simp only [zheap, zarr_xt hq, zobj_xt hn0]; rfl⟩
      · cases h
    · cases h
  · split at h
    · rename_i ha
      split at h
      · rename_i e0 he0
        split at h
        · rename_i hk0
          cases h
          exact ⟨Nat.le_refl _, fun _ X => by simp only [zheap]; rw [if_pos ha, show (xtS X S).1[_]? = some e0 from get_xt he0]; simp only; rw [if_pos hk0]⟩
        · cases h
      · cases h
    · rename_i ha
      split at h
      · rename_i hb
        split at h
        · rename_i r0 hr0
          cases h
          exact ⟨Nat.le_refl _, fun _ X => by simp only [zheap]; rw [if_neg ha, if_pos hb, hr0]⟩
        · cases h
      · cases h
  · split at h
    · split at h
      · obtain ⟨m1, m2⟩ := made _ _ _ h; exact ⟨m1, fun h2 => m2 _ h2⟩
      · obtain ⟨m1, m2⟩ := made _ _ _ h; exact ⟨m1, fun h2 => m2 _ h2⟩
      · obtain ⟨m1, m2⟩ := made _ _ _ h; exact ⟨m1, fun h2 => m2 _ h2⟩
      · cases h
    · cases h
  · split at h
    · obtain ⟨m1, m2⟩ := made _ _ _ h; exact ⟨m1, fun h2 => m2 _ h2⟩
    · cases h
  · split at h
    · obtain ⟨m1, m2⟩ := made _ _ _ h; exact ⟨m1, fun h2 => m2 _ h2⟩
    · cases h
  · split at h
    · rename_i r0 hr0
      cases h
      exact ⟨Nat.le_refl _, fun _ X => by simp only [zheap, hr0]⟩
    · cases h
  · cases h
end
/-- where something is called, no cell is read or written -/
theorem zinv_heap {fld : Nat → Option (Nat × Nat × Nat × Bool × Bool)} {cls : Nat → Option (Nat × Nat)} {fty : Nat → Nat → Nat} {ref : Nat → Bool} {stc : Nat → Option Int} {ctor : Bool} {ro : zRo} {c : Nat} {i : Instr} {len : Nat} {q : Nat × Nat × zM} (h : zinv c i len = some q) (st : List zV) (S : zS) : zheap fld cls fty ref stc ctor ro i len st S = none := by
  unfold zinv at h
  split at h
  · rfl
  · rfl
  · rfl
  · cases h
theorem zrecv_xt {X : List zLE} {S : zS} {kd c : Nat} {as : List zV} (h : zrecv S kd c as = true) : zrecv (xtS X S) kd c as = true := by
  unfold zrecv at h ⊢
  cases hk : (kd == 0 || kd == 3 || kd == 4) with
  | false => rfl
  | true =>
    rw [hk] at h
    simp only [cond_true] at h ⊢
    split at h
    · rename_i o as'
      simp only [Bool.or_eq_true] at h ⊢
      rcases h with h | h
      · obtain ⟨n, hn⟩ := Option.isSome_iff_exists.mp h
        exact Or.inl (by rw [zobj_xt hn]; rfl)
      · refine Or.inr ?_
        simp only [Bool.and_eq_true, decide_eq_true_eq] at h ⊢
        refine ⟨h.1, ?_⟩
        obtain ⟨h0, h⟩ := h
        split at h
        · rename_i e he
          rw [show (xtS X S).1[o.toNat]? = some e from get_xt he]
          exact h
        · cases h
    · cases h
theorem zr_fr {ro : zRo} : ∀ (n d : Nat) (M : zM) (pc : Nat) (ls st : List zV) (S : zS) (r : zR), zrun ro n d M pc ls st S = some r → S.1.length ≤ r.2.1.length ∧ (r.2.1.length = S.1.length → ∀ X, zrun ro n d M pc ls st (xtS X S) = some (r.1, xtS X r.2))
  | 0, _, _, _, _, _, _, _, h => by unfold zrun at h; cases h
  | n + 1, d, M, pc, ls, st, S, r, h => by
    have ih := fun d M pc ls st S r => zr_fr (ro := ro) n d M pc ls st S r
    unfold zrun at h ⊢
    cases h0 : zget (zMt M) pc with
    | none => simp only [h0] at h; cases h
    | some q =>
    simp only [h0] at h ⊢
    cases h1 : zpush (zcon (zMk M)) q.1 q.2 ls with
    | some v => simp only [h1] at h ⊢; exact ih _ _ _ _ _ _ _ h
    | none =>
    simp only [h1] at h ⊢
    cases h2 : zstore q.1 q.2 ls st with
    | some v => simp only [h2] at h ⊢; exact ih _ _ _ _ _ _ _ h
    | none =>
    simp only [h2] at h ⊢
    cases h3 : zarith (zmth (zMk M)) q.1 q.2 st with
    | some v => simp only [h3] at h ⊢; exact ih _ _ _ _ _ _ _ h
    | none =>
    simp only [h3] at h ⊢
    cases h4 : zjump q.1 q.2 pc st with
    | some v => simp only [h4] at h ⊢; exact ih _ _ _ _ _ _ _ h
    | none =>
    simp only [h4] at h ⊢
    cases h5 : zend (zMr M) q.1 q.2 st with
    | some v => simp only [h5] at h ⊢; cases h; exact ⟨Nat.le_refl _, fun _ X => rfl⟩
    | none =>
    simp only [h5] at h ⊢
    cases h6 : zthr (zexn (zMk M)) (zMt M) pc q.1 q.2 with
    | some v =>
      simp only [h6] at h ⊢
      by_cases hc : (zstr (zMk M) v.2.2.1).isSome = true ∧ zxic (zMk M) v.2.2.2.1 = some v.1 ∧ (zMh M).isEmpty = true ∧ st.length ≤ 50
      · rw [if_pos hc] at h
        cases h
        exact ⟨Nat.le_refl _, fun _ X => by rw [if_pos hc]; rfl⟩
      · rw [if_neg hc] at h; cases h
    | none =>
    simp only [h6] at h ⊢
    cases h7 : zheap (zfld (zMk M)) (zcls (zMk M)) zfty (zref (zMk M)) (zstc (zMk M)) (M.1.name == "<init>") ro q.1 q.2 st S with
    | some v =>
      simp only [h7] at h
      obtain ⟨a1, a2⟩ := zheap_fr h7
      obtain ⟨b1, b2⟩ := ih _ _ _ _ _ _ _ h
      refine ⟨Nat.le_trans a1 b1, fun he X => ?_⟩
      rw [a2 (by omega) X]
      exact b2 (by omega) X
    | none =>
    simp only [h7] at h
    match d, h with
    | 0, h => cases h
    | d + 1, h =>
    cases h8 : zinv (zMk M) q.1 q.2 with
    | none => simp only [h8] at h; cases h
    | some v =>
    simp only [h8] at h
    have h7' := fun X => zinv_heap (fld := zfld (zMk M)) (cls := zcls (zMk M)) (fty := zfty) (ref := zref (zMk M)) (stc := zstc (zMk M)) (ctor := (M.1.name == "<init>")) (ro := ro) h8 st (xtS X S)
    cases hc : (decide (v.2.1 ≤ st.length) && (st.take v.2.1).all zplain && decide (v.2.1 ≤ zMl v.2.2) && (st.drop v.2.1).all zplain && decide ((st.drop v.2.1).length ≤ 8) && zrecv S v.1 (zMk v.2.2) (st.take v.2.1).reverse) with
    | false => rw [hc] at h; cases h
    | true =>
    have hc' : ∀ X, (decide (v.2.1 ≤ st.length) && (st.take v.2.1).all zplain && decide (v.2.1 ≤ zMl v.2.2) && (st.drop v.2.1).all zplain && decide ((st.drop v.2.1).length ≤ 8) && zrecv (xtS X S) v.1 (zMk v.2.2) (st.take v.2.1).reverse) = true := fun X => by
      rw [Bool.and_eq_true] at hc ⊢
      exact ⟨hc.1, zrecv_xt hc.2⟩
    rw [hc] at h
    simp only [cond_true] at h
    cases h9 : zrun ro n d v.2.2 0 (zargs (zMl v.2.2) (st.take v.2.1).reverse) [] S with
    | none => simp only [h9] at h; cases h
    | some r9 =>
    obtain ⟨c1, c2⟩ := ih d _ _ _ _ _ _ h9
    simp only [h9] at h
    obtain ⟨o, S1⟩ := r9
    have c1 : S.1.length ≤ S1.1.length := c1
    match o, h, c2 with
    | .inl (some v9), h, c2 =>
      obtain ⟨b1, b2⟩ := ih _ _ _ _ _ _ _ h
      refine ⟨Nat.le_trans c1 b1, fun he X => ?_⟩
      simp only [h7' X, h8, hc' X, cond_true]
      rw [c2 (by show S1.1.length = _; omega) X]
      exact b2 (by omega) X
    | .inl none, h, c2 =>
      obtain ⟨b1, b2⟩ := ih _ _ _ _ _ _ _ h
      refine ⟨Nat.le_trans c1 b1, fun he X => ?_⟩
      simp only [h7' X, h8, hc' X, cond_true]
      rw [c2 (by show S1.1.length = _; omega) X]
      exact b2 (by omega) X
    | .inr E, h, c2 =>
      simp only at h
      by_cases hk : v.1 = 0 ∨ v.1 = 1
      · rw [if_pos hk] at h
        cases hh : zhand (zexn (zMk M)) zCA zNC pc E (zMh M) with
        | some h10 =>
          simp only [hh] at h
          cases hh2 : zcatch (zMt M) h10 ls with
          | some r2 =>
            simp only [hh2] at h
            obtain ⟨b1, b2⟩ := ih _ _ _ _ _ _ _ h
            refine ⟨Nat.le_trans c1 b1, fun he X => ?_⟩
            simp only [h7' X, h8, hc' X, cond_true]
            rw [c2 (by show S1.1.length = _; omega) X]
            simp only
            rw [if_pos hk]
            simp only [hh, hh2]
            exact b2 (by omega) X
          | none => simp only [hh2] at h; cases h
        | none =>
          simp only [hh] at h
          by_cases hm : (zMh M).isEmpty = true
          · rw [if_pos hm] at h
            cases h
            refine ⟨c1, fun he X => ?_⟩
            simp only [h7' X, h8, hc' X, cond_true]
            rw [c2 he X]
            simp only
            rw [if_pos hk]
            simp only [hh]
            rw [if_pos hm]
          · rw [if_neg hm] at h; cases h
      · rw [if_neg hk] at h; cases h
