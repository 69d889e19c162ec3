/-! RULES OVER THE SMALL MACHINE. zLY: what the two constructors lay; zptr: where a place in it points (0: it points nowhere). -/
def zLY : List zLE := [(0, 7, 9), (0, 6, 5), (2, 0, 30), (1, 0, 30), (1, 0, 30), (3, 0, 30), (0, 5, 3), (1, 0, 5), (1, 0, 5), (0, 2, 3), (6, 0, 10), (0, 1, 2), (0, 6, 5), (2, 0, 30), (1, 0, 30), (1, 0, 30), (3, 0, 30), (1, 0, 5), (0, 1, 2), (0, 6, 5), (2, 0, 30), (1, 0, 30), (1, 0, 30), (3, 0, 30), (1, 0, 5), (0, 1, 2), (0, 6, 5), (2, 0, 30), (1, 0, 30), (1, 0, 30), (3, 0, 30), (1, 0, 5), (0, 1, 2), (0, 6, 5), (2, 0, 30), (1, 0, 30), (1, 0, 30), (3, 0, 30), (1, 0, 5), (0, 1, 2), (0, 6, 5), (2, 0, 30), (1, 0, 30), (1, 0, 30), (3, 0, 30), (1, 0, 5), (0, 1, 2), (0, 6, 5), (2, 0, 30), (1, 0, 30), (1, 0, 30), (3, 0, 30), (1, 0, 5), (0, 1, 2), (0, 6, 5), (2, 0, 30), (1, 0, 30), (1, 0, 30), (3, 0, 30), (1, 0, 5), (0, 1, 2), (0, 6, 5), (2, 0, 30), (1, 0, 30), (1, 0, 30), (3, 0, 30), (1, 0, 5), (0, 1, 2), (0, 6, 5), (2, 0, 30), (1, 0, 30), (1, 0, 30), (3, 0, 30), (1, 0, 5), (0, 1, 2), (0, 6, 5), (2, 0, 30), (1, 0, 30), (1, 0, 30), (3, 0, 30), (1, 0, 5), (0, 3, 5), (1, 0, 30), (1, 0, 30), (1, 0, 30), (1, 0, 30), (0, 0, 2), (1, 0, 31), (3, 0, 30), (0, 4, 4), (1, 0, 31), (1, 0, 31), (1, 0, 31), (0, 4, 4), (1, 0, 31), (1, 0, 31), (1, 0, 31)]
def zptrL : List (List Nat) := [[1, 6, 9, 81, 86, 89, 93, 0, 0], [2, 3, 4, 5, 0], [], [], [], [], [7, 8, 0], [], [], [10, 0, 0], [11, 18, 25, 32, 39, 46, 53, 60, 67, 74], [12, 17], [13, 14, 15, 16, 0], [], [], [], [], [], [19, 24], [20, 21, 22, 23, 0], [], [], [], [], [], [26, 31], [27, 28, 29, 30, 0], [], [], [], [], [], [33, 38], [34, 35, 36, 37, 0], [], [], [], [], [], [40, 45], [41, 42, 43, 44, 0], [], [], [], [], [], [47, 52], [48, 49, 50, 51, 0], [], [], [], [], [], [54, 59], [55, 56, 57, 58, 0], [], [], [], [], [], [61, 66], [62, 63, 64, 65, 0], [], [], [], [], [], [68, 73], [69, 70, 71, 72, 0], [], [], [], [], [], [75, 80], [76, 77, 78, 79, 0], [], [], [], [], [], [82, 83, 84, 85, 0], [], [], [], [], [87, 88], [], [], [90, 91, 92, 0], [], [], [], [94, 95, 96, 0], [], [], []]
def zptr (a j : Nat) : Nat := (zptrL.getD a []).getD j 0
def PT (w : zW) : Prop := ∀ a j, zptr a j ≠ 0 → w a j = (zptr a j : Int)
theorem PT.at {w : zW} (h : PT w) {a j b : Nat} (hb : zptr a j = b) (h0 : b ≠ 0) : w a j = (b : Int) := by
  subst hb; exact h a j h0
theorem PT.up {w : zW} (h : PT w) {a j : Nat} {v : Int} (hb : zptr a j = 0) : PT (zup w a j v) := by
  intro i k hk
  show (if i = a ∧ k = j then v else w i k) = _
  rw [if_neg (by rintro ⟨rfl, rfl⟩; exact hk hb)]
  exact h i k hk
theorem zr_le {ro : zRo} : ∀ (n n' d d' : Nat) (M : zM) (pc : Nat) (ls st : List zV) (S : zS) (r : zR), n ≤ n' → d ≤ d' → zrun ro n d M pc ls st S = some r → zrun ro n' d' M pc ls st S = some r
  | 0, _, _, _, _, _, _, _, _, _, _, _, h => by unfold zrun at h; cases h
  | n + 1, 0, _, _, _, _, _, _, _, _, hn, _, _ => by omega
  | n + 1, n' + 1, d, d', M, pc, ls, st, S, r, hn, hd, h => by
    have ih := fun d d' (hd : d ≤ d') M pc ls st S r => zr_le (ro := ro) n n' d d' M pc ls st S r (by omega) hd
    unfold zrun at h ⊢
    cases h0 : zget (zMt M) pc with
    | none => simp only [h0] at h; cases h
    | some q =>
    simp only [h0] at h ⊢
    cases h1 : zpush (zcon (zMk M)) q.1 q.2 ls with
    | some v => simp only [h1] at h ⊢; exact ih _ _ hd _ _ _ _ _ _ h
    | none =>
    simp only [h1] at h ⊢
    cases h2 : zstore q.1 q.2 ls st with
    | some v => simp only [h2] at h ⊢; exact ih _ _ hd _ _ _ _ _ _ h
    | none =>
    simp only [h2] at h ⊢
    cases h3 : zarith (zmth (zMk M)) q.1 q.2 st with
    | some v => simp only [h3] at h ⊢; exact ih _ _ hd _ _ _ _ _ _ h
    | none =>
    simp only [h3] at h ⊢
    cases h4 : zjump q.1 q.2 pc st with
    | some v => simp only [h4] at h ⊢; exact ih _ _ hd _ _ _ _ _ _ h
    | none =>
    simp only [h4] at h ⊢
    cases h5 : zend (zMr M) q.1 q.2 st with
    | some v => simp only [h5] at h ⊢; exact h
    | none =>
    simp only [h5] at h ⊢
    cases h6 : zthr (zexn (zMk M)) (zMt M) pc q.1 q.2 with
    | some v => simp only [h6] at h ⊢; exact h
    | none =>
    simp only [h6] at h ⊢
    cases h7 : zheap (zfld (zMk M)) (zcls (zMk M)) zfty (zref (zMk M)) (zstc (zMk M)) (M.1.name == "<init>") ro q.1 q.2 st S with
    | some v => simp only [h7] at h ⊢; exact ih _ _ hd _ _ _ _ _ _ h
    | none =>
    simp only [h7] at h ⊢
    match d, d', hd, h with
    | 0, _, _, h => cases h
    | d + 1, 0, hd, _ => omega
    | d + 1, d' + 1, hd, h =>
    cases h8 : zinv (zMk M) q.1 q.2 with
    | none => simp only [h8] at h; cases h
    | some v =>
    simp only [h8] at h ⊢
    cases hc : (decide (v.2.1 ≤ st.length) && (st.take v.2.1).all zplain && decide (v.2.1 ≤ zMl v.2.2) && (st.drop v.2.1).all zplain && decide ((st.drop v.2.1).length ≤ 8) && zrecv S v.1 (zMk v.2.2) (st.take v.2.1).reverse) with
    | false => rw [hc] at h; cases h
    | true =>
    rw [hc] at h
    simp only [cond_true] at h ⊢
    cases h9 : zrun ro n d v.2.2 0 (zargs (zMl v.2.2) (st.take v.2.1).reverse) [] S with
    | none => simp only [h9] at h; cases h
    | some r9 =>
    have h9' := ih d d' (by omega) _ _ _ _ _ _ h9
    simp only [h9] at h
    simp only [h9']
    obtain ⟨o, S1⟩ := r9
    match o, h with
    | .inl (some v9), h => exact ih _ _ hd _ _ _ _ _ _ h
    | .inl none, h => exact ih _ _ hd _ _ _ _ _ _ h
    | .inr E, h =>
      simp only at h ⊢
      by_cases hk : v.1 = 0 ∨ v.1 = 1
      · rw [if_pos hk] at h ⊢
        cases hh : zhand (zexn (zMk M)) zCA zNC pc E (zMh M) with
        | some h10 =>
          simp only [hh] at h ⊢
          cases hh2 : zcatch (zMt M) h10 ls with
          | some r2 => simp only [hh2] at h ⊢; exact ih _ _ hd _ _ _ _ _ _ h
          | none => simp only [hh2] at h; cases h
        | none => simp only [hh] at h ⊢; exact h
      · rw [if_neg hk] at h; cases h
/-- from here the run ends: result, world and the number of exceptions made are as Q says -/
def Z (ro : zRo) (d : Nat) (M : zM) (pc : Nat) (ls st : List zV) (w : zW) (Q : (Option zV ⊕ String) → zW → Nat → Prop) : Prop := PT w → ∀ c s : Nat, ∃ (n : Nat) (r : Option zV ⊕ String) (w' : zW) (k : Nat), zrun ro n d M pc ls st (zLY, w, c, s) = some (r, (zLY, w', c + k, s + 6 * k)) ∧ PT w' ∧ Q r w' k
section
variable {ro : zRo} {d : Nat} {M : zM} {pc : Nat} {ls st : List zV} {w : zW} {Q : (Option zV ⊕ String) → zW → Nat → Prop}
theorem Z_pt (K : PT w → Z ro d M pc ls st w Q) : Z ro d M pc ls st w Q := fun h => K h h
theorem Z_mono {Q' : (Option zV ⊕ String) → zW → Nat → Prop} (K : Z ro d M pc ls st w Q') (h : ∀ r w' k, Q' r w' k → Q r w' k) : Z ro d M pc ls st w Q := by
  intro hp c s
  obtain ⟨n, r, w', k, a, b, e⟩ := K hp c s
  exact ⟨n, r, w', k, a, b, h _ _ _ e⟩
theorem Z_deep {d' : Nat} (hd : d' ≤ d) (K : Z ro d' M pc ls st w Q) : Z ro d M pc ls st w Q := by
  intro hp c s
  obtain ⟨n, r, w', k, a, b, e⟩ := K hp c s
  exact ⟨n, r, w', k, zr_le _ _ _ _ _ _ _ _ _ _ (Nat.le_refl n) hd a, b, e⟩
theorem Z_one {pc' : Nat} {ls' st' : List zV} {w' : zW} (K : Z ro d M pc' ls' st' w' Q) (hp : PT w → PT w') (h : ∀ n c s, zrun ro (n + 1) d M pc ls st (zLY, w, c, s) = zrun ro n d M pc' ls' st' (zLY, w', c, s)) : Z ro d M pc ls st w Q := by
  intro hw c s
  obtain ⟨n, r, w2, k, a, b, e⟩ := K (hp hw) c s
  exact ⟨n + 1, r, w2, k, by rw [h]; exact a, b, e⟩
theorem Z_push {i : Instr} {len : Nat} {v : zV} (g : zget (zMt M) pc = some (i, len)) (h : zpush (zcon (zMk M)) i len ls = some v) (K : Z ro d M (pc + len) ls (v :: st) w Q) : Z ro d M pc ls st w Q :=
  Z_one K id (fun n c s => by rw [zrun]; simp only [g, h])
theorem Z_store {i : Instr} {len : Nat} {v : List zV × List zV} (g : zget (zMt M) pc = some (i, len)) (h1 : zpush (zcon (zMk M)) i len ls = none) (h : zstore i len ls st = some v) (K : Z ro d M (pc + len) v.1 v.2 w Q) : Z ro d M pc ls st w Q :=
  Z_one K id (fun n c s => by rw [zrun]; simp only [g, h1, h])
theorem Z_arith {i : Instr} {len : Nat} {v : List zV} (g : zget (zMt M) pc = some (i, len)) (h1 : zpush (zcon (zMk M)) i len ls = none) (h2 : zstore i len ls st = none) (h : zarith (zmth (zMk M)) i len st = some v) (K : Z ro d M (pc + len) ls v w Q) : Z ro d M pc ls st w Q :=
  Z_one K id (fun n c s => by rw [zrun]; simp only [g, h1, h2, h])
theorem Z_jump {i : Instr} {len : Nat} {v : Nat × List zV} (g : zget (zMt M) pc = some (i, len)) (h1 : zpush (zcon (zMk M)) i len ls = none) (h2 : zstore i len ls st = none) (h3 : zarith (zmth (zMk M)) i len st = none) (h : zjump i len pc st = some v) (K : Z ro d M v.1 ls v.2 w Q) : Z ro d M pc ls st w Q :=
  Z_one K id (fun n c s => by rw [zrun]; simp only [g, h1, h2, h3, h])
theorem Z_heap {i : Instr} {len : Nat} {st' : List zV} {w' : zW} (g : zget (zMt M) pc = some (i, len)) (h1 : zpush (zcon (zMk M)) i len ls = none) (h2 : zstore i len ls st = none) (h3 : zarith (zmth (zMk M)) i len st = none) (h4 : zjump i len pc st = none) (h5 : zend (zMr M) i len st = none) (h6 : zthr (zexn (zMk M)) (zMt M) pc i len = none)
    (h : ∀ c s, zheap (zfld (zMk M)) (zcls (zMk M)) zfty (zref (zMk M)) (zstc (zMk M)) (M.1.name == "<init>") ro i len st (zLY, w, c, s) = some (st', (zLY, w', c, s))) (hp : PT w → PT w') (K : Z ro d M (pc + len) ls st' w' Q) : Z ro d M pc ls st w Q :=
  Z_one K hp (fun n c s => by rw [zrun]; simp only [g, h1, h2, h3, h4, h5, h6, h])
theorem Z_end {i : Instr} {len : Nat} {v : Option zV} (g : zget (zMt M) pc = some (i, len)) (h1 : zpush (zcon (zMk M)) i len ls = none) (h2 : zstore i len ls st = none) (h3 : zarith (zmth (zMk M)) i len st = none) (h4 : zjump i len pc st = none) (h : zend (zMr M) i len st = some v) (K : Q (.inl v) w 0) : Z ro d M pc ls st w Q :=
  fun hw c s => ⟨1, .inl v, w, 0, by rw [zrun]; simp only [g, h1, h2, h3, h4, h]; rfl, hw, K⟩
theorem Z_thr {i : Instr} {len : Nat} {v : String × Nat × Nat × Nat × Bool} (g : zget (zMt M) pc = some (i, len)) (h1 : zpush (zcon (zMk M)) i len ls = none) (h2 : zstore i len ls st = none) (h3 : zarith (zmth (zMk M)) i len st = none) (h4 : zjump i len pc st = none) (h5 : zend (zMr M) i len st = none) (h6 : zthr (zexn (zMk M)) (zMt M) pc i len = some v) (h : (zstr (zMk M) v.2.2.1).isSome = true ∧ zxic (zMk M) v.2.2.2.1 = some v.1 ∧ (zMh M).isEmpty = true ∧ st.length ≤ 50) (K : Q (.inr v.1) w 1) : Z ro d M pc ls st w Q :=
  fun hw c s => ⟨1, .inr v.1, w, 1, by rw [zrun]; simp only [g, h1, h2, h3, h4, h5, h6]; rw [if_pos h], hw, K⟩
end
