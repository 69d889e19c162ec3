/-! lines: widths, costs, the least sums, where lines begin -/
/-- how wide a line of m entries from k on is -/
def lwS (T : zTx) (k : Nat) : Nat → Int
  | 0 => -1
  | m + 1 => lwS T k m + (1 + wT T ((k + m : Nat) : Int))
def islT (T : zTx) (j : Nat) : Int := if (j : Int) = (T.1 : Int) - 1 then 1 else 0
def cstT (T : zTx) (lim : Int) (k m : Nat) : Int := costl (lwS T k (m + 1)) lim (islT T (k + m))
def mnE (T : zTx) (lim : Int) (k : Nat) (S : Nat → Int) : Nat → Int × Nat
  | 0 => (1000000000, T.1)
  | m + 1 => if cbT T ((k + m : Nat) : Int) ≠ 0 ∧ cstT T lim k m + S (k + m + 1) ≤ (mnE T lim k S m).1 then (cstT T lim k m + S (k + m + 1), k + m + 1) else mnE T lim k S m
def lEs (T : zTx) (lim : Int) (k : Nat) (S : Nat → Int) : Int := (mnE T lim k S (T.1 - k)).1
def lE (T : zTx) (lim : Int) : Nat → Int := dn T.1 (lEs T lim) T.1
def nxE (T : zTx) (lim : Int) (k : Nat) : Nat := (mnE T lim k (lE T lim) (T.1 - k)).2
theorem cbT_01 (T : zTx) (i : Int) : cbT T i = 0 ∨ cbT T i = 1 := by unfold cbT; split <;> simp
theorem mnE_congr {T : zTx} {lim : Int} {k : Nat} {S S' : Nat → Int} (h : ∀ q, k < q → S q = S' q) : ∀ m, mnE T lim k S m = mnE T lim k S' m
  | 0 => rfl
  | m + 1 => by
    unfold mnE
    rw [mnE_congr h m, h (k + m + 1) (by omega)]
section
variable {T : zTx} {lim : Int}
theorem lE_s {k : Nat} (hk : k < T.1) : lE T lim k = (mnE T lim k (lE T lim) (T.1 - k)).1 :=
  dn_spec (step := lEs T lim) (fun k S S' h => by unfold lEs; rw [mnE_congr h]) hk
theorem lE_end {k : Nat} (hk : T.1 ≤ k) : lE T lim k = 0 := dn_end hk _ (Nat.le_refl _)
theorem lwS_bd (hV : TV T) (k : Nat) : ∀ m : Nat, (m : Int) - 1 ≤ lwS T k m ∧ lwS T k m ≤ 14 * m - 1
  | 0 => ⟨by show (0 : Int) - 1 ≤ -1; omega, by show (-1 : Int) ≤ 14 * 0 - 1; omega⟩
  | m + 1 => by
    have := lwS_bd hV k m
    have := wT_bd hV ((k + m : Nat) : Int)
    unfold lwS
    omega
theorem costl_bd {lw isl : Int} (h1 : 0 ≤ lw ∧ lw ≤ 440) (h2 : 13 ≤ lim ∧ lim ≤ 60) : 0 ≤ costl lw lim isl ∧ costl lw lim isl ≤ 50000 := by
  unfold costl
  split
  · omega
  · split
    · omega
    · have := sq_small (x := lim - lw) (by omega) (by omega)
      have h3 : (lim - lw) * (lim - lw) ≤ 60 * 60 := Int.mul_le_mul (by omega) (by omega) (by omega) (by omega)
      omega
theorem cst_bd (hV : TV T) (h2 : 13 ≤ lim ∧ lim ≤ 60) {k m : Nat} (h : k + m < T.1) : 0 ≤ cstT T lim k m ∧ cstT T lim k m ≤ 50000 := by
  have h1 := lwS_bd hV k (m + 1)
  have h3 := hV.1
  exact costl_bd (by omega) h2
theorem mn_A {S : Nat → Int} {k : Nat} : ∀ m, (mnE T lim k S m).1 ≤ 1000000000 ∧ ∀ q, q < m → cbT T ((k + q : Nat) : Int) ≠ 0 → (mnE T lim k S m).1 ≤ cstT T lim k q + S (k + q + 1)
  | 0 => ⟨Int.le_refl _, fun q h => absurd h (Nat.not_lt_zero _)⟩
  | m + 1 => by
    obtain ⟨h1, h2⟩ := mn_A (S := S) (k := k) m
    unfold mnE
    split
    · rename_i hc
      refine ⟨Int.le_trans hc.2 h1, fun q hq hcb => ?_⟩
      by_cases e : q = m
      · subst e; exact Int.le_refl _
      · exact Int.le_trans hc.2 (h2 q (by omega) hcb)
    · rename_i hc
      refine ⟨h1, fun q hq hcb => ?_⟩
      by_cases e : q = m
      · subst e
        have : ¬ cstT T lim k q + S (k + q + 1) ≤ (mnE T lim k S q).1 := fun h => hc ⟨hcb, h⟩
        omega
      · exact h2 q (by omega) hcb
theorem mn_B {S : Nat → Int} {k : Nat} : ∀ m, (mnE T lim k S m = (1000000000, T.1)) ∨ ∃ q, q < m ∧ (mnE T lim k S m).2 = k + q + 1 ∧ cbT T ((k + q : Nat) : Int) ≠ 0 ∧ (mnE T lim k S m).1 = cstT T lim k q + S (k + q + 1) ∧ ∀ p, q < p → p < m → cbT T ((k + p : Nat) : Int) ≠ 0 → (mnE T lim k S m).1 < cstT T lim k p + S (k + p + 1)
  | 0 => Or.inl rfl
  | m + 1 => by
    have ih := mn_B (S := S) (k := k) m
    unfold mnE
    split
    · rename_i hc
      exact Or.inr ⟨m, by omega, rfl, hc.1, rfl, fun p h1 h2 => absurd h1 (by omega)⟩
    · rename_i hc
      rcases ih with ih | ⟨q, h1, h2, h3, h4, h5⟩
      · exact Or.inl ih
      · refine Or.inr ⟨q, by omega, h2, h3, h4, fun p p1 p2 p3 => ?_⟩
        by_cases e : p = m
        · subst e
          have : ¬ cstT T lim k p + S (k + p + 1) ≤ (mnE T lim k S p).1 := fun h => hc ⟨p3, h⟩
          omega
        · exact h5 p p1 (by omega) p3
theorem cb_last (T : zTx) {j : Nat} (h : j + 1 = T.1) : cbT T (j : Int) = 1 := by
  unfold cbT
  rw [if_pos (Or.inl (by omega))]
theorem lE_bd (hV : TV T) (h2 : 13 ≤ lim ∧ lim ≤ 60) : ∀ m k, T.1 ≤ k + m → 0 ≤ lE T lim k ∧ lE T lim k ≤ 50000
  | 0, k, h => by rw [lE_end (by omega)]; omega
  | m + 1, k, h => by
    by_cases hk : k < T.1
    · rw [lE_s hk]
      obtain ⟨a1, a2⟩ := mn_A (T := T) (lim := lim) (S := lE T lim) (k := k) (T.1 - k)
      have b := mn_B (T := T) (lim := lim) (S := lE T lim) (k := k) (T.1 - k)
      have c := a2 (T.1 - k - 1) (by omega) (by rw [cb_last T (by omega)]; decide)
      have c1 := cst_bd hV h2 (k := k) (m := T.1 - k - 1) (by omega)
      rw [lE_end (k := k + (T.1 - k - 1) + 1) (by omega)] at c
      refine ⟨?_, by omega⟩
      rcases b with b | ⟨q, q1, -, -, q4, -⟩
      · rw [b]; show (0 : Int) ≤ 1000000000; omega
      · rw [q4]
        have d1 := cst_bd hV h2 (k := k) (m := q) (by omega)
        have d2 := lE_bd hV h2 m (k + q + 1) (by omega)
        omega
    · rw [lE_end (by omega)]; omega
theorem lE_bd' (hV : TV T) (h2 : 13 ≤ lim ∧ lim ≤ 60) (k : Nat) : 0 ≤ lE T lim k ∧ lE T lim k ≤ 50000 := lE_bd hV h2 T.1 k (by omega)
/-- the line that is taken at k: the longest of those with the least sum -/
theorem nx_spec (hV : TV T) (h2 : 13 ≤ lim ∧ lim ≤ 60) {k : Nat} (hk : k < T.1) : ∃ q, k + q < T.1 ∧ nxE T lim k = k + q + 1 ∧ cbT T ((k + q : Nat) : Int) ≠ 0 ∧ lE T lim k = cstT T lim k q + lE T lim (k + q + 1) ∧ (∀ p, q < p → k + p < T.1 → cbT T ((k + p : Nat) : Int) ≠ 0 → lE T lim k < cstT T lim k p + lE T lim (k + p + 1)) ∧ (∀ p, k + p < T.1 → cbT T ((k + p : Nat) : Int) ≠ 0 → lE T lim k ≤ cstT T lim k p + lE T lim (k + p + 1)) := by
  have hb := lE_bd' hV h2 k
  have b := mn_B (T := T) (lim := lim) (S := lE T lim) (k := k) (T.1 - k)
  obtain ⟨a1, a2⟩ := mn_A (T := T) (lim := lim) (S := lE T lim) (k := k) (T.1 - k)
  have e := lE_s (lim := lim) hk
  rw [← e] at a2
  rcases b with b | ⟨q, q1, q2, q3, q4, q5⟩
  · rw [b] at e
    have : lE T lim k = 1000000000 := e
    omega
  · rw [← e] at q4 q5
    exact ⟨q, by omega, q2, q3, q4, fun p p1 p2 p3 => q5 p p1 (by omega) p3, fun p p1 p2 => a2 p (by omega) p2⟩
theorem nx_bd (hV : TV T) (h2 : 13 ≤ lim ∧ lim ≤ 60) {k : Nat} (hk : k < T.1) : k < nxE T lim k ∧ nxE T lim k ≤ T.1 := by
  obtain ⟨q, q1, q2, -⟩ := nx_spec hV h2 hk
  omega
end
/-! where lines begin -/
def stE (T : zTx) (lim : Int) : Nat → Nat
  | 0 => 0
  | i + 1 => if stE T lim i < T.1 then nxE T lim (stE T lim i) else T.1
def cntP (p : Nat → Bool) : Nat → Nat
  | 0 => 0
  | m + 1 => cntP p m + (if p m = true then 1 else 0)
theorem cntP_le (p : Nat → Bool) : ∀ n, cntP p n ≤ n
  | 0 => Nat.le_refl _
  | n + 1 => by have := cntP_le p n; unfold cntP; split <;> omega
theorem cntP_all {p : Nat → Bool} : ∀ {n}, (∀ i, i < n → p i = true) → cntP p n = n
  | 0, _ => rfl
  | n + 1, h => by
    unfold cntP
    rw [cntP_all (fun i hi => h i (by omega)), if_pos (h n (by omega))]
theorem cntP_iff {p : Nat → Bool} (hp : ∀ i, p (i + 1) = true → p i = true) : ∀ {n i : Nat}, i < n → (p i = true ↔ i < cntP p n)
  | 0, i, h => absurd h (Nat.not_lt_zero _)
  | n + 1, i, h => by
    have dn : ∀ m i, p (i + m) = true → p i = true := by
      intro m
      induction m with
      | zero => exact fun i h => h
      | succ m ih => exact fun i h => ih i (hp _ h)
    by_cases hn : p n = true
    · have ha : ∀ j, j < n + 1 → p j = true := fun j hj => dn (n - j) j (by rw [show j + (n - j) = n by omega]; exact hn)
      rw [cntP_all ha]
      exact ⟨fun _ => h, fun _ => ha i h⟩
    · have e : cntP p (n + 1) = cntP p n := by
        show cntP p n + (if p n = true then 1 else 0) = _
        rw [if_neg hn]; rfl
      rw [e]
      by_cases hi : i = n
      · subst hi
        have := cntP_le p i
        exact ⟨fun h => absurd h hn, fun h => by omega⟩
      · exact cntP_iff hp (by omega)
def lcE (T : zTx) (lim : Int) : Nat := cntP (fun i => decide (stE T lim i < T.1)) T.1
def lnE (T : zTx) (lim : Int) (k : Nat) : Nat := cntP (fun i => decide (stE T lim (i + 1) ≤ k)) T.1
section
variable {T : zTx} {lim : Int}
theorem st_s {i : Nat} (h : stE T lim i < T.1) : stE T lim (i + 1) = nxE T lim (stE T lim i) := if_pos h
theorem st_le (hV : TV T) (h2 : 13 ≤ lim ∧ lim ≤ 60) : ∀ i, stE T lim i ≤ T.1
  | 0 => Nat.zero_le _
  | i + 1 => by
    unfold stE
    split
    · rename_i h; exact (nx_bd hV h2 h).2
    · exact Nat.le_refl _
theorem st_lt (hV : TV T) (h2 : 13 ≤ lim ∧ lim ≤ 60) {i : Nat} (h : stE T lim i < T.1) : stE T lim i < stE T lim (i + 1) := by
  rw [st_s h]; exact (nx_bd hV h2 h).1
theorem st_mono1 (hV : TV T) (h2 : 13 ≤ lim ∧ lim ≤ 60) (i : Nat) : stE T lim i ≤ stE T lim (i + 1) := by
  by_cases h : stE T lim i < T.1
  · have := st_lt hV h2 h; omega
  · have := st_le hV h2 i
    have e : stE T lim (i + 1) = T.1 := if_neg h
    omega
theorem st_mono (hV : TV T) (h2 : 13 ≤ lim ∧ lim ≤ 60) {i j : Nat} (h : i ≤ j) : stE T lim i ≤ stE T lim j := by
  have key : ∀ m, stE T lim i ≤ stE T lim (i + m) := by
    intro m
    induction m with
    | zero => exact Nat.le_refl _
    | succ m ih => exact Nat.le_trans ih (st_mono1 hV h2 (i + m))
  have := key (j - i)
  rw [show i + (j - i) = j by omega] at this
  exact this
theorem st_ge (hV : TV T) (h2 : 13 ≤ lim ∧ lim ≤ 60) : ∀ i, i ≤ T.1 → i ≤ stE T lim i
  | 0, _ => Nat.zero_le _
  | i + 1, h => by
    have h1 := st_ge hV h2 i (by omega)
    by_cases h3 : stE T lim i < T.1
    · have := st_lt hV h2 h3; omega
    · have e : stE T lim (i + 1) = T.1 := if_neg h3
      omega
theorem st_n (hV : TV T) (h2 : 13 ≤ lim ∧ lim ≤ 60) {i : Nat} (h : T.1 ≤ i) : stE T lim i = T.1 := by
  have h1 := st_ge hV h2 T.1 (Nat.le_refl _)
  have h3 := st_mono hV h2 h
  have h4 := st_le hV h2 i
  omega
theorem lc_le (T : zTx) (lim : Int) : lcE T lim ≤ T.1 := cntP_le _ _
theorem lc_iff (hV : TV T) (h2 : 13 ≤ lim ∧ lim ≤ 60) (i : Nat) : stE T lim i < T.1 ↔ i < lcE T lim := by
  by_cases h : i < T.1
  · have := cntP_iff (p := fun i => decide (stE T lim i < T.1)) (fun i h => by
      have h := of_decide_eq_true h
      have := st_mono1 hV h2 i
      exact decide_eq_true (by omega)) h
    rw [decide_eq_true_iff] at this
    exact this
  · have h1 := st_n hV h2 (i := i) (by omega)
    have h3 := lc_le T lim
    omega
theorem st_lc (hV : TV T) (h2 : 13 ≤ lim ∧ lim ≤ 60) : stE T lim (lcE T lim) = T.1 := by
  have h1 := lc_iff hV h2 (lcE T lim)
  have h3 := st_le hV h2 (lcE T lim)
  omega
theorem ln_iff (hV : TV T) (h2 : 13 ≤ lim ∧ lim ≤ 60) {k : Nat} (hk : k < T.1) (i : Nat) : stE T lim (i + 1) ≤ k ↔ i < lnE T lim k := by
  by_cases h : i < T.1
  · have := cntP_iff (p := fun i => decide (stE T lim (i + 1) ≤ k)) (fun i h => by
      have h := of_decide_eq_true h
      have := st_mono1 hV h2 (i + 1)
      exact decide_eq_true (by omega)) h
    rw [decide_eq_true_iff] at this
    exact this
  · have h1 := st_n hV h2 (i := i + 1) (by omega)
    have h3 : lnE T lim k ≤ T.1 := cntP_le _ _
    omega
theorem ln_spec (hV : TV T) (h2 : 13 ≤ lim ∧ lim ≤ 60) {k : Nat} (hk : k < T.1) : stE T lim (lnE T lim k) ≤ k ∧ k < stE T lim (lnE T lim k + 1) ∧ lnE T lim k < lcE T lim := by
  have a := ln_iff hV h2 hk (lnE T lim k)
  have c : stE T lim (lnE T lim k) ≤ k := by
    cases h : lnE T lim k with
    | zero => exact Nat.zero_le _
    | succ i => exact (ln_iff hV h2 hk i).mpr (by omega)
  have d := lc_iff hV h2 (lnE T lim k)
  exact ⟨c, by omega, by omega⟩
theorem ln_uniq (hV : TV T) (h2 : 13 ≤ lim ∧ lim ≤ 60) {k i : Nat} (hk : k < T.1) (h3 : stE T lim i ≤ k) (h4 : k < stE T lim (i + 1)) : lnE T lim k = i := by
  obtain ⟨a, b, c⟩ := ln_spec hV h2 hk
  apply Classical.byContradiction
  intro hne
  by_cases h : lnE T lim k < i
  · have := st_mono hV h2 (i := lnE T lim k + 1) (j := i) (by omega)
    omega
  · have := st_mono hV h2 (i := i + 1) (j := lnE T lim k) (by omega)
    omega
/-- a line's cost, with what follows -/
theorem lE_line (hV : TV T) (h2 : 13 ≤ lim ∧ lim ≤ 60) {i : Nat} (hi : i < lcE T lim) : lE T lim (stE T lim i) = costl (lwS T (stE T lim i) (stE T lim (i + 1) - stE T lim i)) lim (if i + 1 = lcE T lim then 1 else 0) + lE T lim (stE T lim (i + 1)) := by
  have h := (lc_iff hV h2 i).mpr hi
  obtain ⟨q, q1, q2, q3, q4, -⟩ := nx_spec hV h2 h
  rw [st_s h, q2, q4]
  have e1 : stE T lim i + q + 1 - stE T lim i = q + 1 := by omega
  rw [e1]
  unfold cstT islT
  have h3 := lc_iff hV h2 (i + 1)
  rw [st_s h, q2] at h3
  by_cases hl : i + 1 = lcE T lim
  · rw [if_pos hl, if_pos (by omega)]
  · rw [if_neg hl, if_neg (by omega)]
end
