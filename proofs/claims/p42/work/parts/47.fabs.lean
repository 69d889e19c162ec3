/-! findings by their first entries: the rule, the last entry, what fixing it is worth, its number -/
def rlT (T : zTx) (j : Nat) : Int := if j < T.1 then (if rpT T j = -1 then (if blT T j = 1 then 4 else -1) else rpT T j) else -1
def enT (T : zTx) (j : Nat) : Nat := if rlT T j = 4 then j + 2 else j + 1
/-- 1 if none of m entries from j on is pinned -/
def pnF (T : zTx) (j : Nat) : Nat → Int
  | 0 => 1
  | m + 1 => if pnF T j m = 1 ∧ pT T ((j + m : Nat) : Int) = 0 then 1 else 0
def gnT (T : zTx) (R : zRu) (j : Nat) : Int := if rlT T j = -1 then 0 else if pnF T j (enT T j + 1 - j) = 1 then R.1 (rlT T j).toNat else 0
def fdN (T : zTx) : Nat → Nat
  | 0 => 0
  | j + 1 => fdN T j + (if rlT T j = -1 then 0 else 1)
theorem pnF_01 (T : zTx) (j : Nat) : ∀ m, pnF T j m = 0 ∨ pnF T j m = 1
  | 0 => Or.inr rfl
  | m + 1 => by unfold pnF; split <;> simp
theorem rp_cases (T : zTx) (j : Int) : rpT T j = 0 ∨ rpT T j = 1 ∨ rpT T j = 2 ∨ rpT T j = 3 ∨ rpT T j = -1 := by
  unfold rpT
  repeat' split
  all_goals omega
theorem bl_01 (T : zTx) (j : Int) : blT T j = 0 ∨ blT T j = 1 := by unfold blT; split <;> simp
theorem rl_cases (T : zTx) (j : Nat) : rlT T j = 0 ∨ rlT T j = 1 ∨ rlT T j = 2 ∨ rlT T j = 3 ∨ rlT T j = 4 ∨ rlT T j = -1 := by
  have := rp_cases T j
  unfold rlT
  repeat' split
  all_goals omega
theorem kT_32 {T : zTx} {i : Int} (h : ¬ (0 ≤ i ∧ i < T.1)) : kT T i = 32 := if_neg h
/-- what a rule says of the entries -/
theorem rl_kinds {T : zTx} {j : Nat} : (rlT T j = 0 → kT T j = 110 ∧ kT T (j + 1) = 110 ∧ (T.2 (j + 1)).2.1 = (T.2 j).2.1) ∧ (rlT T j = 1 → kT T j = 123 ∧ kT T (j + 1) = 125) ∧ (rlT T j = 2 → kT T j = 99 ∧ kT T (j + 1) = 125) ∧ (rlT T j = 3 → kT T j = 99 ∧ kT T (j + 1) = 99) ∧ (rlT T j = 4 → kT T j = 123 ∧ kT T (j + 1) = 110 ∧ kT T (j + 2) = 125) := by
  have h0 : rlT T j ≠ -1 → j < T.1 := fun h => Classical.byContradiction fun hc => h (if_neg hc)
  by_cases hj : j < T.1
  · have e : rlT T j = (if rpT T j = -1 then (if blT T j = 1 then 4 else -1) else rpT T j) := if_pos hj
    rw [e]
    unfold rpT blT isT
    rw [show ((j : Int)).toNat = j from rfl, show ((j : Int) + 1).toNat = j + 1 from rfl]
    by_cases h1 : kT T j = 110 ∧ (if kT T ((j : Int) + 1) = 110 ∧ (T.2 (j + 1)).2.1 = (T.2 j).2.1 then (1 : Int) else 0) = 1
    · rw [if_pos h1]
      obtain ⟨a, b⟩ := h1
      split at b
      · rename_i c
        exact ⟨fun _ => ⟨a, c.1, c.2⟩, by simp, by simp, by simp, by simp⟩
      · simp at b
    · rw [if_neg h1]
      by_cases h2 : kT T j = 123 ∧ kT T ((j : Int) + 1) = 125
      · rw [if_pos h2]; exact ⟨by simp, fun _ => h2, by simp, by simp, by simp⟩
      · rw [if_neg h2]
        by_cases h3 : kT T j = 99 ∧ kT T ((j : Int) + 1) = 125
        · rw [if_pos h3]; exact ⟨by simp, by simp, fun _ => h3, by simp, by simp⟩
        · rw [if_neg h3]
          by_cases h4 : kT T j = 99 ∧ kT T ((j : Int) + 1) = 99
          · rw [if_pos h4]; exact ⟨by simp, by simp, by simp, fun _ => h4, by simp⟩
          · rw [if_neg h4, if_pos rfl]
            by_cases h5 : kT T j = 123 ∧ kT T ((j : Int) + 1) = 110 ∧ kT T ((j : Int) + 2) = 125
            · rw [if_pos h5, if_pos rfl]; exact ⟨by simp, by simp, by simp, by simp, fun _ => h5⟩
            · rw [if_neg h5, if_neg (by decide)]; exact ⟨by simp, by simp, by simp, by simp, by simp⟩
  · have e : rlT T j = -1 := if_neg hj
    rw [e]
    exact ⟨by simp, by simp, by simp, by simp, by simp⟩
theorem rp_bl {T : zTx} {j : Int} (h : rpT T j ≠ -1) : blT T j = 0 := by
  unfold blT
  rw [if_neg]
  intro ⟨h1, h2, h3⟩
  apply h
  unfold rpT
  rw [if_neg (by omega), if_neg (by omega), if_neg (by omega), if_neg (by omega)]
theorem rl_lt {T : zTx} {j : Nat} (h : rlT T j ≠ -1) : j < T.1 := Classical.byContradiction fun hc => h (if_neg hc)
theorem en_gt (T : zTx) (j : Nat) : j < enT T j ∧ enT T j ≤ j + 2 := by unfold enT; split <;> omega
theorem en_lt {T : zTx} {j : Nat} (h : rlT T j ≠ -1) : enT T j < T.1 := by
  have hk := rl_kinds (T := T) (j := j)
  have hc := rl_cases T j
  unfold enT
  by_cases h4 : rlT T j = 4
  · rw [if_pos h4]
    have := (hk.2.2.2.2 h4).2.2
    have h5 := kT_in (T := T) (i := (j : Int) + 2) (by omega)
    omega
  · rw [if_neg h4]
    have : kT T ((j : Int) + 1) ≠ 32 := by
      rcases hc with h | h | h | h | h | h
      · have := (hk.1 h).2.1; omega
      · have := (hk.2.1 h).2; omega
      · have := (hk.2.2.1 h).2; omega
      · have := (hk.2.2.2.1 h).2; omega
      · exact absurd h h4
      · exact absurd h (by assumption)
    have h5 := kT_in this
    omega
theorem gn_bd {B : Int} {R : zRu} (hV : RV B R) (T : zTx) (j : Nat) : 0 ≤ gnT T R j ∧ gnT T R j ≤ 99 := by
  unfold gnT
  split
  · omega
  · have := rl_cases T j
    have := hV.1 (rlT T j).toNat (by omega)
    split <;> omega
theorem gn_rl {T : zTx} {R : zRu} {j : Nat} (h : gnT T R j ≠ 0) : rlT T j ≠ -1 := fun e => h (if_pos e)
theorem fdN_s {T : zTx} {j : Nat} (h : rlT T j ≠ -1) : fdN T (j + 1) = fdN T j + 1 := by
  show fdN T j + (if rlT T j = -1 then 0 else 1) = _
  rw [if_neg h]
theorem fdN_n {T : zTx} {j : Nat} (h : rlT T j = -1) : fdN T (j + 1) = fdN T j := by
  show fdN T j + (if rlT T j = -1 then 0 else 1) = _
  rw [if_pos h]; rfl
theorem fdN_mono (T : zTx) {j : Nat} : ∀ m, fdN T j ≤ fdN T (j + m)
  | 0 => Nat.le_refl _
  | m + 1 => Nat.le_trans (fdN_mono T m) (Nat.le_add_right _ _)
theorem fdN_mono' (T : zTx) {j k : Nat} (h : j ≤ k) : fdN T j ≤ fdN T k := by
  have := fdN_mono T (j := j) (k - j)
  rw [show j + (k - j) = k by omega] at this
  exact this
theorem fdN_le (T : zTx) : ∀ j, fdN T j ≤ j
  | 0 => Nat.le_refl _
  | j + 1 => by
    have := fdN_le T j
    show fdN T j + (if rlT T j = -1 then 0 else 1) ≤ _
    split <;> omega
theorem fdN_ex {T : zTx} {i : Nat} : ∀ {n : Nat}, i < fdN T n → ∃ j, j < n ∧ rlT T j ≠ -1 ∧ fdN T j = i
  | 0, h => absurd h (Nat.not_lt_zero _)
  | n + 1, h => by
    by_cases hn : rlT T n = -1
    · rw [fdN_n hn] at h
      obtain ⟨j, h1, h2⟩ := fdN_ex h
      exact ⟨j, by omega, h2⟩
    · rw [fdN_s hn] at h
      by_cases he : i < fdN T n
      · obtain ⟨j, h1, h2⟩ := fdN_ex he
        exact ⟨j, by omega, h2⟩
      · exact ⟨n, by omega, hn, by omega⟩
theorem fdN_lt {T : zTx} {j k : Nat} (h : rlT T j ≠ -1) : fdN T j < fdN T k ↔ j < k := by
  constructor
  · intro h1
    apply Classical.byContradiction
    intro hc
    have := fdN_mono' T (j := k) (k := j) (by omega)
    omega
  · intro h1
    have := fdN_mono' T (j := j + 1) (k := k) (by omega)
    rw [fdN_s h] at this
    omega
theorem fdN_inj {T : zTx} {j k : Nat} (h : rlT T j ≠ -1) (h' : rlT T k ≠ -1) (e : fdN T j = fdN T k) : j = k := by
  have h1 := fdN_lt (k := k) h
  have h2 := fdN_lt (k := j) h'
  omega
theorem fdN_end (T : zTx) : ∀ m, fdN T (T.1 + m) = fdN T T.1
  | 0 => rfl
  | m + 1 => by
    rw [show T.1 + (m + 1) = (T.1 + m) + 1 from rfl, fdN_n (if_neg (by omega))]
    exact fdN_end T m
/-- what changes at findings alone is the same where the number is -/
theorem plat {α : Type} {T : zTx} {f : Nat → α} (hf : ∀ j, rlT T j = -1 → f (j + 1) = f j) {j k : Nat} (e : fdN T j = fdN T k) : f j = f k := by
  have key : ∀ m j, fdN T j = fdN T (j + m) → f j = f (j + m) := by
    intro m
    induction m with
    | zero => intro j _; rfl
    | succ m ih =>
      intro j h
      have h1 := fdN_mono T (j := j) m
      have h2 := fdN_mono T (j := j + m) 1
      have h3 : fdN T (j + (m + 1)) = fdN T (j + m + 1) := rfl
      by_cases hr : rlT T (j + m) = -1
      · rw [ih j (by omega)]
        exact (hf _ hr).symm
      · have := fdN_s hr
        omega
  by_cases h : j ≤ k
  · have := key (k - j) j (by rw [show j + (k - j) = k by omega]; exact e)
    rw [this, show j + (k - j) = k by omega]
  · have := key (j - k) k (by rw [show k + (j - k) = j by omega]; exact e.symm)
    rw [this, show k + (j - k) = j by omega]
/-! downward: values from n - 1 down to 0, each out of those behind it -/
def dn (n : Nat) (step : Nat → (Nat → Int) → Int) : Nat → Nat → Int
  | 0 => fun _ => 0
  | m + 1 => updN (dn n step m) (n - 1 - m) (step (n - 1 - m) (dn n step m))
theorem dn_stable {n : Nat} {step : Nat → (Nat → Int) → Int} {k m : Nat} (hk : n - k ≤ m) : ∀ q, m + q ≤ n → dn n step (m + q) k = dn n step m k
  | 0, _ => rfl
  | q + 1, h => by
    have := dn_stable (step := step) (k := k) hk q (by omega)
    show (if k = n - 1 - (m + q) then _ else dn n step (m + q) k) = _
    rw [if_neg (by omega)]
    exact this
theorem dn_spec {n : Nat} {step : Nat → (Nat → Int) → Int} (hs : ∀ k S S', (∀ q, k < q → S q = S' q) → step k S = step k S') {k : Nat} (hk : k < n) : dn n step n k = step k (dn n step n) := by
  have h1 := dn_stable (n := n) (step := step) (k := k) (m := n - k) (Nat.le_refl _) k (by omega)
  rw [show n - k + k = n by omega] at h1
  rw [h1]
  have h2 : dn n step (n - k) k = step k (dn n step (n - k - 1)) := by
    have : n - k = (n - k - 1) + 1 := by omega
    rw [this]
    show (if k = n - 1 - (n - k - 1) then step (n - 1 - (n - k - 1)) (dn n step (n - k - 1)) else _) = _
    rw [if_pos (by omega), show n - 1 - (n - k - 1) = k by omega]
    rfl
  rw [h2]
  apply hs
  intro q hq
  have h3 := dn_stable (n := n) (step := step) (k := q) (m := n - k - 1) (by omega) (k + 1) (by omega)
  rw [show n - k - 1 + (k + 1) = n by omega] at h3
  exact h3.symm
theorem dn_end {n : Nat} {step : Nat → (Nat → Int) → Int} {k : Nat} (hk : n ≤ k) : ∀ m, m ≤ n → dn n step m k = 0
  | 0, _ => rfl
  | m + 1, h => by
    show (if k = n - 1 - m then _ else dn n step m k) = 0
    rw [if_neg (by omega)]
    exact dn_end hk m (by omega)
/-! the best sums by entries -/
def sEs (T : zTx) (R : zRu) (k : Nat) (S : Nat → Int) : Int := if rlT T k = -1 then S (k + 1) else if S (k + 1) < gnT T R k + S (enT T k + 1) then gnT T R k + S (enT T k + 1) else S (k + 1)
def sE (T : zTx) (R : zRu) : Nat → Int := dn T.1 (sEs T R) T.1
section
variable {T : zTx} {R : zRu} {B : Int}
theorem sE_s {k : Nat} (hk : k < T.1) : sE T R k = sEs T R k (sE T R) := by
  refine dn_spec (fun k S S' h => ?_) hk
  have := en_gt T k
  unfold sEs
  rw [h (k + 1) (by omega), h (enT T k + 1) (by omega)]
theorem sE_end {k : Nat} (hk : T.1 ≤ k) : sE T R k = 0 := dn_end hk _ (Nat.le_refl _)
theorem sE_f {k : Nat} (hk : rlT T k ≠ -1) : sE T R k = if sE T R (k + 1) < gnT T R k + sE T R (enT T k + 1) then gnT T R k + sE T R (enT T k + 1) else sE T R (k + 1) := by
  rw [sE_s (rl_lt hk)]
  unfold sEs
  rw [if_neg hk]
theorem sE_n {k : Nat} (hk : rlT T k = -1) : sE T R k = sE T R (k + 1) := by
  by_cases h : k < T.1
  · rw [sE_s h]
    unfold sEs
    rw [if_pos hk]
  · rw [sE_end (by omega), sE_end (by omega)]
theorem sE_dec1 (k : Nat) : sE T R (k + 1) ≤ sE T R k := by
  by_cases h : rlT T k = -1
  · rw [sE_n h]; omega
  · rw [sE_f h]; split <;> omega
theorem sE_dec (k : Nat) : ∀ m, sE T R (k + m) ≤ sE T R k
  | 0 => by simp
  | m + 1 => Int.le_trans (sE_dec1 (k + m)) (sE_dec k m)
theorem sE_dec' {j k : Nat} (h : j ≤ k) : sE T R k ≤ sE T R j := by
  have := sE_dec (T := T) (R := R) j (k - j)
  rw [show j + (k - j) = k by omega] at this
  exact this
theorem sE_0 {k : Nat} (h : gnT T R k = 0) : sE T R k = sE T R (k + 1) := by
  by_cases hr : rlT T k = -1
  · exact sE_n hr
  · rw [sE_f hr, h]
    have := en_gt T k
    have := sE_dec' (T := T) (R := R) (j := k + 1) (k := enT T k + 1) (by omega)
    rw [if_neg (by omega)]
theorem sE_bd (hV : RV B R) : ∀ m k, T.1 ≤ k + m → 0 ≤ sE T R k ∧ sE T R k ≤ 99 * m
  | 0, k, h => by rw [sE_end (by omega)]; simp
  | m + 1, k, h => by
    have h1 := sE_bd hV m (k + 1) (by omega)
    by_cases hr : rlT T k = -1
    · rw [sE_n hr]; omega
    · have h2 := gn_bd hV T k
      have h4 := en_gt T k
      have h3 := sE_bd hV m (enT T k + 1) (by omega)
      rw [sE_f hr]
      split <;> omega
theorem sE_bd' (hV : RV B R) (hT : T.1 ≤ 30) (k : Nat) : 0 ≤ sE T R k ∧ sE T R k ≤ 2970 := by
  have := sE_bd (T := T) hV 30 k (by omega)
  omega
end
/-! the best set by entries -/
def frE (T : zTx) (R : zRu) : Nat → Nat
  | 0 => 0
  | k + 1 => if rlT T k ≠ -1 ∧ frE T R k ≤ k ∧ 0 < gnT T R k ∧ gnT T R k + sE T R (enT T k + 1) = sE T R k then enT T k + 1 else frE T R k
def bsT (T : zTx) (R : zRu) (k : Nat) : Bool := decide (rlT T k ≠ -1 ∧ frE T R k ≤ k ∧ 0 < gnT T R k ∧ gnT T R k + sE T R (enT T k + 1) = sE T R k)
def fxN (T : zTx) (R : zRu) : Nat → Nat
  | 0 => 0
  | k + 1 => fxN T R k + (if 0 < gnT T R k then 1 else 0)
section
variable {T : zTx} {R : zRu} {B : Int}
theorem bs_t {k : Nat} (h : bsT T R k = true) : rlT T k ≠ -1 ∧ frE T R k ≤ k ∧ 0 < gnT T R k ∧ gnT T R k + sE T R (enT T k + 1) = sE T R k := of_decide_eq_true h
theorem fr_t {k : Nat} (h : bsT T R k = true) : frE T R (k + 1) = enT T k + 1 := if_pos (bs_t h)
theorem fr_f {k : Nat} (h : bsT T R k = false) : frE T R (k + 1) = frE T R k := if_neg (of_decide_eq_false h)
theorem bs_n {k : Nat} (h : rlT T k = -1) : bsT T R k = false := decide_eq_false (fun h2 => h2.1 h)
theorem fr_le (k : Nat) : frE T R k ≤ frE T R (k + 1) := by
  cases h : bsT T R k with
  | true => rw [fr_t h]; have := (bs_t h).2.1; have := en_gt T k; omega
  | false => rw [fr_f h]; exact Nat.le_refl _
theorem fr_mono (k : Nat) : ∀ m, frE T R k ≤ frE T R (k + m)
  | 0 => Nat.le_refl _
  | m + 1 => Nat.le_trans (fr_mono k m) (fr_le (k + m))
theorem bs_sep {j k : Nat} (h : bsT T R j = true) (hjk : j < k) (h2 : bsT T R k = true) : enT T j < k := by
  have h1 := fr_mono (T := T) (R := R) (j + 1) (k - (j + 1))
  rw [show j + 1 + (k - (j + 1)) = k by omega, fr_t h] at h1
  have := (bs_t h2).2.1
  omega
theorem fr_bd (hT : T.1 ≤ 30) : ∀ k, frE T R k ≤ 31
  | 0 => by show 0 ≤ 31; omega
  | k + 1 => by
    cases h : bsT T R k with
    | true => rw [fr_t h]; have := en_lt (bs_t h).1; omega
    | false => rw [fr_f h]; exact fr_bd hT k
theorem fx_le (k : Nat) : fxN T R k ≤ k := by
  induction k with
  | zero => exact Nat.le_refl _
  | succ k ih => show fxN T R k + _ ≤ _; split <;> omega
theorem fx_n {k : Nat} (h : rlT T k = -1) : fxN T R (k + 1) = fxN T R k := by
  show fxN T R k + (if 0 < gnT T R k then 1 else 0) = _
  rw [if_neg]
  · rfl
  · rw [show gnT T R k = 0 from if_pos h]; decide
end
