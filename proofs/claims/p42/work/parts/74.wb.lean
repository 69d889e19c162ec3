/-! blocks: at no place more have ended than have begun -/
def WB (T : zTx) : Prop := ∀ m, m ≤ T.1 → 0 ≤ osF T.2 m
def WD (D : zDs) : Prop := ∀ q, q < D.1 → WB (D.2 q).1
section
variable {T : zTx} {R : zRu} {D : zDs} {lim la B : Int}
theorem WB_op (h : WB T) {m : Nat} (hm : m ≤ T.1) : 0 ≤ opT T m := by rw [opT_os m hm]; exact h m hm
theorem WB_dp (h : WB T) {j : Nat} (hj : j < T.1) : 0 ≤ dpT T (j : Int) := by
  unfold dpT
  rw [show ((j : Int)).toNat = j from rfl]
  have h1 := WB_op h (m := j + 1) (by omega)
  have h2 := WB_op h (m := j) (by omega)
  have e : opT T (j + 1) = opT T j + (if kT T j = 123 then 1 else if kT T j = 125 then -1 else 0) := rfl
  rw [e] at h1
  split
  · rename_i h3
    rw [if_neg (by omega), if_pos h3] at h1
    omega
  · exact h2
theorem WB_congr {T' : zTx} (h : WB T) (h1 : T'.1 = T.1) (h2 : ∀ q, q < T.1 → (T'.2 q).1 = (T.2 q).1) : WB T' := fun m hm => by
  rw [osF_congr (g := T.2) (fun q hq => h2 q (by omega))]
  exact h m (by omega)
theorem WB_pi (h : WB T) (a b : Nat) (v : Int) : WB (piR T a b v) := WB_congr h rfl (fun q _ => by
  show (if a ≤ q ∧ q < b then ((T.2 q).1, (T.2 q).2.1, (T.2 q).2.2.1, v) else T.2 q).1 = _
  split <;> rfl)
theorem WB_rn (h : WB T) (x y : Int) : WB (rnT T x y) := WB_congr h rfl (fun q _ => by
  show (if isT T q x = 1 then ((T.2 q).1, y, (T.2 q).2.2.1, (T.2 q).2.2.2) else T.2 q).1 = _
  split <;> rfl)
theorem WB_ad (h : WB T) {x : zE} (hx : 0 ≤ opT T T.1 + fK x.1) : WB (adT T x) := by
  have key : ∀ m, m ≤ T.1 → osF (updE T.2 T.1 x) m = osF T.2 m := fun m hm => osF_congr (fun q hq => by
    show (if q = T.1 then x else T.2 q).1 = _
    rw [if_neg (by omega)])
  intro m hm
  have hm : m ≤ T.1 + 1 := hm
  show 0 ≤ osF (updE T.2 T.1 x) m
  by_cases h1 : m ≤ T.1
  · rw [key m h1]; exact h m h1
  · obtain rfl : m = T.1 + 1 := by omega
    show 0 ≤ osF (updE T.2 T.1 x) T.1 + fK (if T.1 = T.1 then x else T.2 T.1).1
    rw [key _ (Nat.le_refl _), if_pos rfl, ← opT_os _ (Nat.le_refl _)]
    exact hx
theorem WB_rm (h : WB T) {i : Nat} (hk : fK (T.2 i).1 ≤ 0) : WB (rmT T i) := by
  intro m hm
  have hm : m ≤ T.1 - 1 := hm
  show 0 ≤ osF (fun k => if k < i then T.2 k else T.2 (k + 1)) m
  rw [osF_rm]
  split
  · exact h m (by omega)
  · have := h (m + 1) (by omega)
    omega
theorem WB_rm2 (h : WB T) {j e : Nat} (he : e = 1 ∨ (e = 2 ∧ (T.2 (j + 1)).1 = 110)) (hj : j + e < T.1) (h1 : (T.2 j).1 = 123) (h2 : (T.2 (j + e)).1 = 125) : WB (rmT (rmT T (j + e)) j) := by
  intro m hm
  have hm : m ≤ T.1 - 1 - 1 := hm
  show 0 ≤ osF (fun k => if k < j then (rmT T (j + e)).2 k else (rmT T (j + e)).2 (k + 1)) m
  have e1 : ((rmT T (j + e)).2 j).1 = 123 := by rw [rmT_lt (by omega)]; exact h1
  have e2 : ∀ q, osF (rmT T (j + e)).2 q = if q ≤ j + e then osF T.2 q else osF T.2 (q + 1) + 1 := fun q => by
    show osF (fun k => if k < j + e then T.2 k else T.2 (k + 1)) q = _
    rw [osF_rm, h2]
    show (if q ≤ j + e then osF T.2 q else osF T.2 (q + 1) - (-1 : Int)) = _
    split <;> omega
  rw [osF_rm, e1, e2, e2]
  show 0 ≤ if m ≤ j then (if m ≤ j + e then osF T.2 m else osF T.2 (m + 1) + 1) else (if m + 1 ≤ j + e then osF T.2 (m + 1) else osF T.2 (m + 1 + 1) + 1) - (1 : Int)
  by_cases c1 : m ≤ j
  · rw [if_pos c1, if_pos (by omega)]
    exact h m (by omega)
  · rw [if_neg c1]
    by_cases c2 : m + 1 ≤ j + e
    · rw [if_pos c2]
      rcases he with he | ⟨rfl, h3⟩
      · omega
      · obtain rfl : m = j + 1 := by omega
        have e3 : osF T.2 (j + 1 + 1) = osF T.2 j + fK (T.2 j).1 + fK (T.2 (j + 1)).1 := rfl
        rw [e3, h1, h3]
        have := h j (by omega)
        show 0 ≤ osF T.2 j + (1 : Int) + (0 : Int) - 1
        omega
    · rw [if_neg c2]
      have := h (m + 1 + 1) (by omega)
      omega
theorem WB_cy (h : WB T) {a b : Nat} (ha : a < T.1) (hb : b < T.1) (hab : a ≠ b) (hk : fK (T.2 a).1 = 0) : WB (cyT T a b) := by
  intro m hm
  have hm : m ≤ T.1 := hm
  show 0 ≤ osF (fun k => if k = b then T.2 a else if a ≤ k ∧ k < b then T.2 (k + 1) else if b < k ∧ k ≤ a then T.2 (k - 1) else T.2 k) m
  by_cases c : a < b
  · rw [osF_up _ c, hk]
    split
    · exact h m hm
    · split
      · have := h (m + 1) (by omega); omega
      · exact h m hm
  · rw [osF_down _ (by omega), hk]
    split
    · exact h m hm
    · split
      · have := h (m - 1) (by omega); omega
      · exact h m hm
theorem WB_jo (h : WB T) {i : Nat} (h2 : (T.2 (i + 1)).1 = 99) : WB (joT T i) := by
  have h3 : WB (T.1, updE T.2 i ((T.2 i).1, (T.2 i).2.1, (if (T.2 i).2.2.1 + (T.2 (i + 1)).2.2.1 < 9 then (T.2 i).2.2.1 + (T.2 (i + 1)).2.2.1 else 9), (T.2 i).2.2.2)) := WB_congr h rfl (fun q _ => by
    show (if q = i then ((T.2 i).1, (T.2 i).2.1, (if (T.2 i).2.2.1 + (T.2 (i + 1)).2.2.1 < 9 then (T.2 i).2.2.1 + (T.2 (i + 1)).2.2.1 else 9), (T.2 i).2.2.2) else T.2 q).1 = _
    split
    · rename_i e; rw [e]
    · rfl)
  refine WB_rm h3 ?_
  show fK (if i + 1 = i then _ else T.2 (i + 1)).1 ≤ 0
  rw [if_neg (by omega), h2]
  decide
/-- what a fix finds, with all its kinds -/
def KQ (T : zTx) (r j : Nat) : Prop := (r = 0 ∧ j + 1 < T.1 ∧ (T.2 (j + 1)).1 = 110) ∨ (r = 1 ∧ j + 1 < T.1 ∧ (T.2 j).1 = 123 ∧ (T.2 (j + 1)).1 = 125) ∨ (r = 2 ∧ j + 1 < T.1 ∧ (T.2 j).1 = 99) ∨ (r = 3 ∧ j + 1 < T.1 ∧ (T.2 j).1 = 99 ∧ (T.2 (j + 1)).1 = 99) ∨ (r = 4 ∧ j + 2 < T.1 ∧ (T.2 j).1 = 123 ∧ (T.2 (j + 1)).1 = 110 ∧ (T.2 (j + 2)).1 = 125)
theorem KQ_of {j : Nat} (h : rlT T j ≠ -1) {S : zTx} (hS : ∀ q, q ≤ enT T j → q < S.1 ∧ S.2 q = T.2 q) : KQ S (rlT T j).toNat j := by
  obtain ⟨k0, k1, k2, k3, k4⟩ := rl_kinds (T := T) (j := j)
  have hj := rl_lt h
  have hl := en_lt h
  have hg := en_gt T j
  obtain ⟨s0, e0⟩ := hS j (by omega)
  obtain ⟨s1, e1⟩ := hS (j + 1) (by omega)
  have f0 := kT_nat (T := T) (j := j) hj
  have f1 : kT T ((j : Int) + 1) = (T.2 (j + 1)).1 := kT_nat (T := T) (j := j + 1) (by omega)
  unfold KQ
  rw [e0, e1]
  rcases rl_cases T j with e | e | e | e | e | e
  · rw [e]; have := k0 e; exact Or.inl ⟨rfl, s1, by omega⟩
  · rw [e]; have := k1 e; exact Or.inr (Or.inl ⟨rfl, s1, by omega, by omega⟩)
  · rw [e]; have := k2 e; exact Or.inr (Or.inr (Or.inl ⟨rfl, s1, by omega⟩))
  · rw [e]; have := k3 e; exact Or.inr (Or.inr (Or.inr (Or.inl ⟨rfl, s1, by omega, by omega⟩)))
  · have e4 : enT T j = j + 2 := if_pos e
    obtain ⟨s2, e2⟩ := hS (j + 2) (by omega)
    have f2 : kT T ((j : Int) + 2) = (T.2 (j + 2)).1 := kT_nat (T := T) (j := j + 2) (by omega)
    rw [e]; have := k4 e; exact Or.inr (Or.inr (Or.inr (Or.inr ⟨rfl, s2, by omega, by omega, by rw [e2]; omega⟩)))
  · exact absurd e h
theorem KQ_self {j : Nat} (h : rlT T j ≠ -1) : KQ T (rlT T j).toNat j := KQ_of h (fun q hq => ⟨by have := en_lt h; omega, rfl⟩)
theorem WB_fx {r j : Nat} (h : WB T) (hk : KQ T r j) : WB (fxT T r j) := by
  rcases hk with ⟨rfl, h1, h2⟩ | ⟨rfl, h1, h2, h3⟩ | ⟨rfl, h1, h2⟩ | ⟨rfl, h1, h2, h3⟩ | ⟨rfl, h1, h2, h3, h4⟩
  · show WB (rmT T (j + 1))
    exact WB_rm h (by rw [h2]; decide)
  · show WB (rmT (rmT T (j + 1)) j)
    exact WB_rm2 h (Or.inl rfl) h1 h2 h3
  · show WB (cyT T j (j + 1))
    exact WB_cy h (by omega) (by omega) (by omega) (by rw [h2]; rfl)
  · exact WB_jo h h3
  · show WB (rmT (rmT T (j + 2)) j)
    exact WB_rm2 h (Or.inr ⟨rfl, h3⟩) h1 h2 h4
theorem WB_fb (hV : SV B T R D lim la) (h : WB T) : ∀ m k, k + m = T.1 → WB (fbK T R D k).1 := by
  intro m
  induction m with
  | zero =>
    intro k hk
    have e : fbK T R D k = (T, R, kpD D T) := by unfold fbK; rw [show T.1 - k = 0 by omega]; rfl
    rw [e]
    exact h
  | succ m ih =>
    intro k hk
    have i1 := (fb_inv hV m (k + 1) (by omega)).1
    cases hb : bsT T R k with
    | false =>
      rw [fbK_f hb]
      exact ih (k + 1) (by omega)
    | true =>
      have hr := (bs_t hb).1
      have hl := en_lt hr
      have hK : KQ (fbK T R D (k + 1)).1 (rlT T k).toNat k := KQ_of hr (fun q hq => i1 q (by omega) (fun j hj hj2 => by have := bs_sep hb (by omega : k < j) hj2; omega))
      rw [fbK_t hb]
      exact WB_fx (ih (k + 1) (by omega)) hK
theorem WD_kp (hD : WD D) (hT : WB T) : WD (kpD D T) := by
  intro q hq
  have hq : q < (if D.1 < 10 then D.1 + 1 else 10) := hq
  show WB (if q = 0 then (T, fun _ => (0 : Int)) else D.2 (q - 1)).1
  by_cases h2 : q = 0
  · rw [if_pos h2]; exact hT
  · rw [if_neg h2]
    by_cases h3 : q - 1 < D.1
    · exact hD _ h3
    · split at hq <;> omega
theorem WD_nf (hD : WD D) (r : Nat) : WD (nfD D r) := by
  intro q hq
  have h1 := hD q hq
  show WB (if q = 0 then ((D.2 0).1, updN (D.2 0).2 r ((D.2 0).2 r + 1)) else D.2 q).1
  split
  · rename_i h; subst h; exact h1
  · exact h1
theorem WD_fb (hV : SV B T R D lim la) (h : WB T) (hD : WD D) : WD (fbK T R D 0).2.2 := by
  obtain ⟨i1, i2, i3, i4, i5, i6, i7, i8⟩ := fb_inv hV T.1 0 (by omega)
  intro q hq
  rw [i5] at hq
  by_cases h0 : q = 0
  · subst h0
    rw [i6]; exact h
  · rw [i8 q h0]; exact WD_kp hD h q hq
theorem WD_un (hD : WD D) : WD (unD D) := fun q hq => by
  have hq : q < D.1 - 1 := hq
  exact hD (q + 1) (by omega)
theorem WD_fg : WD (fgD D) := fun q hq => absurd hq (Nat.not_lt_zero _)
end
/-- the state's facts at the law -/
def SW (B : Int) (T : zTx) (R : zRu) (D : zDs) (lim la : Int) : Prop := SV B T R D lim la ∧ WB T ∧ WD D
