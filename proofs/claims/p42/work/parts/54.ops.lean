/-! what the writers make of the state, and that it stays in range -/
def piR (T : zTx) (a b : Nat) (v : Int) : zTx := (T.1, fun q => if a ≤ q ∧ q < b then ((T.2 q).1, (T.2 q).2.1, (T.2 q).2.2.1, v) else T.2 q)
def pnC (T : zTx) (a : Nat) (v : Int) : Nat → Nat
  | 0 => 0
  | m + 1 => pnC T a v m + (if pT T ((a + m : Nat) : Int) = v then 0 else 1)
def fxT (T : zTx) (r j : Nat) : zTx := if r = 0 then rmT T (j + 1) else if r = 1 then rmT (rmT T (j + 1)) j else if r = 2 then cyT T j (j + 1) else if r = 3 then joT T j else rmT (rmT T (j + 2)) j
def fgD (D : zDs) : zDs := (0, D.2)
def fbS (T : zTx) (R : zRu) (D : zDs) : Nat → zTx × zRu × zDs
  | 0 => (T, R, kpD D T)
  | m + 1 => if bsT T R (T.1 - 1 - m) = true then (fxT (fbS T R D m).1 (rlT T (T.1 - 1 - m)).toNat (T.1 - 1 - m), rwR (fbS T R D m).2.1 (rlT T (T.1 - 1 - m)).toNat, nfD (fbS T R D m).2.2 (rlT T (T.1 - 1 - m)).toNat) else fbS T R D m
/-- the fixes of the best set from entry k on are made -/
def fbK (T : zTx) (R : zRu) (D : zDs) (k : Nat) : zTx × zRu × zDs := fbS T R D (T.1 - k)
def bcS (T : zTx) (R : zRu) : Nat → Nat
  | 0 => 0
  | m + 1 => bcS T R m + (if bsT T R (T.1 - 1 - m) = true then 1 else 0)
def bcK (T : zTx) (R : zRu) (k : Nat) : Nat := bcS T R (T.1 - k)
section
variable {T : zTx} {R : zRu} {D : zDs} {lim la B : Int}
theorem fbK_t {k : Nat} (h : bsT T R k = true) : fbK T R D k = (fxT (fbK T R D (k + 1)).1 (rlT T k).toNat k, rwR (fbK T R D (k + 1)).2.1 (rlT T k).toNat, nfD (fbK T R D (k + 1)).2.2 (rlT T k).toNat) := by
  have hk := rl_lt (bs_t h).1
  unfold fbK
  rw [show T.1 - k = (T.1 - (k + 1)) + 1 by omega]
  have e : T.1 - 1 - (T.1 - (k + 1)) = k := by omega
  show (if bsT T R (T.1 - 1 - (T.1 - (k + 1))) = true then _ else _) = _
  rw [e, if_pos h]
theorem fbK_f {k : Nat} (h : bsT T R k = false) : fbK T R D k = fbK T R D (k + 1) := by
  unfold fbK
  by_cases hk : k < T.1
  · rw [show T.1 - k = (T.1 - (k + 1)) + 1 by omega]
    have e : T.1 - 1 - (T.1 - (k + 1)) = k := by omega
    show (if bsT T R (T.1 - 1 - (T.1 - (k + 1))) = true then _ else _) = _
    rw [e, if_neg (by rw [h]; decide)]
  · rw [show T.1 - k = 0 by omega, show T.1 - (k + 1) = 0 by omega]
theorem bcK_t {k : Nat} (h : bsT T R k = true) : bcK T R k = bcK T R (k + 1) + 1 := by
  have hk := rl_lt (bs_t h).1
  unfold bcK
  rw [show T.1 - k = (T.1 - (k + 1)) + 1 by omega]
  have e : T.1 - 1 - (T.1 - (k + 1)) = k := by omega
  show bcS T R (T.1 - (k + 1)) + (if bsT T R (T.1 - 1 - (T.1 - (k + 1))) = true then 1 else 0) = _
  rw [e, if_pos h]
theorem bcK_f {k : Nat} (h : bsT T R k = false) : bcK T R k = bcK T R (k + 1) := by
  unfold bcK
  by_cases hk : k < T.1
  · rw [show T.1 - k = (T.1 - (k + 1)) + 1 by omega]
    have e : T.1 - 1 - (T.1 - (k + 1)) = k := by omega
    show bcS T R (T.1 - (k + 1)) + (if bsT T R (T.1 - 1 - (T.1 - (k + 1))) = true then 1 else 0) = _
    rw [e, if_neg (by rw [h]; decide)]
    rfl
  · rw [show T.1 - k = 0 by omega, show T.1 - (k + 1) = 0 by omega]
theorem bcS_le : ∀ m, bcS T R m ≤ m
  | 0 => Nat.le_refl _
  | m + 1 => by have := bcS_le m; unfold bcS; split <;> omega
theorem bcK_le (hT : T.1 ≤ 30) (k : Nat) : bcK T R k ≤ 30 := by
  have := bcS_le (T := T) (R := R) (T.1 - k)
  unfold bcK
  omega
/-! texts in range -/
theorem TV_ad (h : TV T) (hn : T.1 < 30) {x : zE} (hx : eV x) : TV (adT T x) := ⟨hn, fun j hj => by
  have hj : j < T.1 + 1 := hj
  show eV (if j = T.1 then x else T.2 j)
  split
  · exact hx
  · exact h.2 j (by omega)⟩
theorem TV_rm (h : TV T) (i : Nat) : TV (rmT T i) := ⟨by have := h.1; show T.1 - 1 ≤ 30; omega, fun j hj => by
  have hj : j < T.1 - 1 := hj
  show eV (if j < i then T.2 j else T.2 (j + 1))
  split
  · exact h.2 j (by omega)
  · exact h.2 (j + 1) (by omega)⟩
theorem TV_cy (h : TV T) {a b : Nat} (ha : a < T.1) (hb : b < T.1) : TV (cyT T a b) := ⟨h.1, fun j hj => by
  have hj : j < T.1 := hj
  show eV (if j = b then T.2 a else if a ≤ j ∧ j < b then T.2 (j + 1) else if b < j ∧ j ≤ a then T.2 (j - 1) else T.2 j)
  repeat' split
  · exact h.2 a ha
  · exact h.2 (j + 1) (by omega)
  · exact h.2 (j - 1) (by omega)
  · exact h.2 j hj⟩
theorem TV_jo (h : TV T) {i : Nat} (hi : i + 1 < T.1) (h1 : (T.2 i).1 = 99) (h2 : (T.2 (i + 1)).1 = 99) : TV (joT T i) := by
  unfold joT
  apply TV_rm
  refine ⟨h.1, fun q hq => ?_⟩
  have hq : q < T.1 := hq
  show eV (if q = i then _ else T.2 q)
  split
  · obtain ⟨a1, a2, a3, a4⟩ := h.2 i (by omega)
    obtain ⟨b1, b2, b3, b4⟩ := h.2 (i + 1) hi
    have a3 := a3 (Or.inr h1)
    have b3 := b3 (Or.inr h2)
    refine ⟨a1, a2, fun _ => ?_, a4⟩
    dsimp only
    split <;> omega
  · exact h.2 q hq
theorem TV_pi (h : TV T) (a b : Nat) {v : Int} (hv : v = 0 ∨ v = 1) : TV (piR T a b v) := ⟨h.1, fun j hj => by
  show eV (if a ≤ j ∧ j < b then _ else T.2 j)
  split
  · obtain ⟨a1, a2, a3, a4⟩ := h.2 j hj
    exact ⟨a1, a2, a3, hv⟩
  · exact h.2 j hj⟩
theorem TV_rn (h : TV T) (x : Int) {y : Int} (hy : 0 ≤ y ∧ y < 100) : TV (rnT T x y) := ⟨h.1, fun j hj => by
  show eV (if isT T j x = 1 then _ else T.2 j)
  split
  · obtain ⟨a1, a2, a3, a4⟩ := h.2 j hj
    exact ⟨a1, fun _ => hy, a3, a4⟩
  · exact h.2 j hj⟩
/-! how many blocks are open at the end -/
def fK (k : Int) : Int := if k = 123 then 1 else if k = 125 then -1 else 0
def osF (f : Nat → zE) : Nat → Int
  | 0 => 0
  | j + 1 => osF f j + fK (f j).1
theorem opT_os : ∀ m, m ≤ T.1 → opT T m = osF T.2 m
  | 0, _ => rfl
  | m + 1, h => by
    show opT T m + fK (kT T m) = osF T.2 m + fK (T.2 m).1
    rw [opT_os m (by omega), kT_nat (by omega)]
theorem osF_congr {f g : Nat → zE} : ∀ {m : Nat}, (∀ q, q < m → (f q).1 = (g q).1) → osF f m = osF g m
  | 0, _ => rfl
  | m + 1, h => by
    show osF f m + fK (f m).1 = osF g m + fK (g m).1
    rw [osF_congr (fun q hq => h q (by omega)), h m (by omega)]
theorem osF_rm (f : Nat → zE) (i : Nat) : ∀ m, osF (fun k => if k < i then f k else f (k + 1)) m = if m ≤ i then osF f m else osF f (m + 1) - fK (f i).1
  | 0 => by rw [if_pos (Nat.zero_le _)]; rfl
  | m + 1 => by
    show osF (fun k => if k < i then f k else f (k + 1)) m + fK (if m < i then f m else f (m + 1)).1 = _
    rw [osF_rm f i m]
    have e1 : osF f (m + 1) = osF f m + fK (f m).1 := rfl
    have e2 : osF f (m + 1 + 1) = osF f (m + 1) + fK (f (m + 1)).1 := rfl
    by_cases h1 : m < i
    · rw [if_pos h1, if_pos (by omega), if_pos (by omega), e1]
    · rw [if_neg h1, if_neg (by omega : ¬ m + 1 ≤ i), e2]
      by_cases h2 : m = i
      · subst h2; rw [if_pos (Nat.le_refl _), e1]; omega
      · rw [if_neg (by omega)]; omega
theorem op_rm {i : Nat} (hi : i < T.1) : opT (rmT T i) (rmT T i).1 = opT T T.1 - fK (T.2 i).1 := by
  rw [opT_os _ (Nat.le_refl _), opT_os _ (Nat.le_refl _)]
  show osF (fun k => if k < i then T.2 k else T.2 (k + 1)) (T.1 - 1) = _
  rw [osF_rm]
  by_cases h : T.1 - 1 ≤ i
  · have e : i = T.1 - 1 := by omega
    have e2 : osF T.2 (T.1 - 1 + 1) = osF T.2 (T.1 - 1) + fK (T.2 (T.1 - 1)).1 := rfl
    rw [show T.1 - 1 + 1 = T.1 by omega] at e2
    rw [if_pos h, e2, e]
    omega
  · rw [if_neg h, show T.1 - 1 + 1 = T.1 by omega]
theorem osF_up (f : Nat → zE) {a b : Nat} (hab : a < b) : ∀ m, osF (fun k => if k = b then f a else if a ≤ k ∧ k < b then f (k + 1) else if b < k ∧ k ≤ a then f (k - 1) else f k) m = if m ≤ a then osF f m else if m ≤ b then osF f (m + 1) - fK (f a).1 else osF f m
  | 0 => by rw [if_pos (Nat.zero_le _)]; rfl
  | m + 1 => by
    show osF _ m + fK (if m = b then f a else if a ≤ m ∧ m < b then f (m + 1) else if b < m ∧ m ≤ a then f (m - 1) else f m).1 = _
    rw [osF_up f hab m]
    have e1 : osF f (m + 1) = osF f m + fK (f m).1 := rfl
    have e2 : osF f (m + 1 + 1) = osF f (m + 1) + fK (f (m + 1)).1 := rfl
    by_cases h1 : m < a
    · rw [if_neg (by omega : ¬ m = b), if_neg (by omega : ¬ (a ≤ m ∧ m < b)), if_neg (by omega : ¬ (b < m ∧ m ≤ a)), if_pos (by omega), if_pos (by omega), e1]
    · by_cases h2 : m < b
      · rw [if_neg (by omega : ¬ m = b), if_pos (by omega : a ≤ m ∧ m < b), if_neg (by omega : ¬ m + 1 ≤ a), if_pos (by omega : m + 1 ≤ b), e2]
        by_cases h3 : m = a
        · subst h3; rw [if_pos (Nat.le_refl _), e1]; omega
        · rw [if_neg (by omega : ¬ m ≤ a), if_pos (by omega : m ≤ b)]; omega
      · by_cases h4 : m = b
        · rw [if_pos h4, if_neg (by omega : ¬ m ≤ a), if_pos (by omega : m ≤ b), if_neg (by omega : ¬ m + 1 ≤ a), if_neg (by omega : ¬ m + 1 ≤ b)]
          omega
        · rw [if_neg h4, if_neg (by omega : ¬ (a ≤ m ∧ m < b)), if_neg (by omega : ¬ (b < m ∧ m ≤ a)), if_neg (by omega : ¬ m ≤ a), if_neg (by omega : ¬ m ≤ b), if_neg (by omega : ¬ m + 1 ≤ a), if_neg (by omega : ¬ m + 1 ≤ b), e1]
theorem osF_down (f : Nat → zE) {a b : Nat} (hab : b < a) : ∀ m, osF (fun k => if k = b then f a else if a ≤ k ∧ k < b then f (k + 1) else if b < k ∧ k ≤ a then f (k - 1) else f k) m = if m ≤ b then osF f m else if m ≤ a then osF f (m - 1) + fK (f a).1 else osF f m
  | 0 => by rw [if_pos (Nat.zero_le _)]; rfl
  | m + 1 => by
    show osF _ m + fK (if m = b then f a else if a ≤ m ∧ m < b then f (m + 1) else if b < m ∧ m ≤ a then f (m - 1) else f m).1 = _
    rw [osF_down f hab m]
    have e1 : osF f (m + 1) = osF f m + fK (f m).1 := rfl
    by_cases h1 : m < b
    · rw [if_neg (by omega : ¬ m = b), if_neg (by omega : ¬ (a ≤ m ∧ m < b)), if_neg (by omega : ¬ (b < m ∧ m ≤ a)), if_pos (by omega), if_pos (by omega), e1]
    · by_cases h2 : m = b
      · rw [if_pos h2, if_pos (by omega : m ≤ b), if_neg (by omega : ¬ m + 1 ≤ b), if_pos (by omega : m + 1 ≤ a), Nat.add_sub_cancel]
      · by_cases h3 : m ≤ a
        · rw [if_neg h2, if_neg (by omega : ¬ (a ≤ m ∧ m < b)), if_pos (by omega : b < m ∧ m ≤ a), if_neg (by omega : ¬ m ≤ b), if_pos h3, if_neg (by omega : ¬ m + 1 ≤ b), Nat.add_sub_cancel]
          have e3 : osF f (m - 1 + 1) = osF f (m - 1) + fK (f (m - 1)).1 := rfl
          rw [show m - 1 + 1 = m by omega] at e3
          by_cases h4 : m + 1 ≤ a
          · rw [if_pos h4, e3]; omega
          · rw [if_neg h4, e1, e3, show m = a by omega]; omega
        · rw [if_neg h2, if_neg (by omega : ¬ (a ≤ m ∧ m < b)), if_neg (by omega : ¬ (b < m ∧ m ≤ a)), if_neg (by omega : ¬ m ≤ b), if_neg h3, if_neg (by omega : ¬ m + 1 ≤ b), if_neg (by omega : ¬ m + 1 ≤ a), e1]
theorem op_cy {a b : Nat} (ha : a < T.1) (hb : b < T.1) (hab : a ≠ b) : opT (cyT T a b) (cyT T a b).1 = opT T T.1 := by
  rw [opT_os _ (Nat.le_refl _), opT_os _ (Nat.le_refl _)]
  show osF (fun k => if k = b then T.2 a else if a ≤ k ∧ k < b then T.2 (k + 1) else if b < k ∧ k ≤ a then T.2 (k - 1) else T.2 k) T.1 = _
  by_cases h : a < b
  · rw [osF_up T.2 h, if_neg (by omega), if_neg (by omega)]
  · rw [osF_down T.2 (by omega : b < a), if_neg (by omega), if_neg (by omega)]
theorem op_congr {T' : zTx} (h1 : T'.1 = T.1) (h2 : ∀ q, q < T.1 → (T'.2 q).1 = (T.2 q).1) : opT T' T'.1 = opT T T.1 := by
  rw [opT_os _ (Nat.le_refl _), opT_os _ (Nat.le_refl _), h1]
  exact osF_congr h2
theorem op_pi (a b : Nat) (v : Int) : opT (piR T a b v) (piR T a b v).1 = opT T T.1 := op_congr rfl (fun q _ => by
  show (if a ≤ q ∧ q < b then _ else T.2 q).1 = _
  split <;> rfl)
theorem op_rn (x y : Int) : opT (rnT T x y) (rnT T x y).1 = opT T T.1 := op_congr rfl (fun q _ => by
  show (if isT T q x = 1 then _ else T.2 q).1 = _
  split <;> rfl)
theorem op_ad (x : zE) : opT (adT T x) (adT T x).1 = opT T T.1 + fK x.1 := by
  rw [opT_os _ (Nat.le_refl _), opT_os _ (Nat.le_refl _)]
  show osF (updE T.2 T.1 x) T.1 + fK (if T.1 = T.1 then x else T.2 T.1).1 = _
  rw [if_pos rfl, osF_congr (g := T.2) (fun q hq => by show (if q = T.1 then x else T.2 q).1 = _; rw [if_neg (by omega)])]
theorem op_jo {i : Nat} (hi : i + 1 < T.1) (h2 : (T.2 (i + 1)).1 = 99) : opT (joT T i) (joT T i).1 = opT T T.1 := by
  unfold joT
  generalize hx : updE T.2 i ((T.2 i).1, (T.2 i).2.1, (if (T.2 i).2.2.1 + (T.2 (i + 1)).2.2.1 < 9 then (T.2 i).2.2.1 + (T.2 (i + 1)).2.2.1 else 9), (T.2 i).2.2.2) = f1
  have e1 : (f1 (i + 1)).1 = 99 := by
    subst hx
    show (if i + 1 = i then _ else T.2 (i + 1)).1 = 99
    rw [if_neg (by omega)]
    exact h2
  have e2 : ∀ q, q < T.1 → (f1 q).1 = (T.2 q).1 := fun q hq => by
    subst hx
    show (if q = i then _ else T.2 q).1 = _
    split
    · rename_i e; subst e; rfl
    · rfl
  rw [op_rm (T := (T.1, f1)) hi]
  show opT (T.1, f1) T.1 - fK (f1 (i + 1)).1 = _
  rw [e1, show opT (T.1, f1) T.1 = opT T T.1 from op_congr (T' := (T.1, f1)) rfl e2]
  show _ - (0 : Int) = _
  omega
/-! a fix can be made -/
def KP (T : zTx) (r j : Nat) : Prop := (r = 0 ∧ j + 1 < T.1 ∧ (T.2 (j + 1)).1 = 110) ∨ (r = 1 ∧ j + 1 < T.1 ∧ (T.2 j).1 = 123 ∧ (T.2 (j + 1)).1 = 125) ∨ (r = 2 ∧ j + 1 < T.1) ∨ (r = 3 ∧ j + 1 < T.1 ∧ (T.2 j).1 = 99 ∧ (T.2 (j + 1)).1 = 99) ∨ (r = 4 ∧ j + 2 < T.1 ∧ (T.2 j).1 = 123 ∧ (T.2 (j + 2)).1 = 125)
theorem KP_of {j : Nat} (h : rlT T j ≠ -1) {S : zTx} (hS : ∀ q, q ≤ enT T j → q < S.1 ∧ S.2 q = T.2 q) : KP S (rlT T j).toNat j := by
  obtain ⟨k0, k1, k2, k3, k4⟩ := rl_kinds (T := T) (j := j)
  have hj := rl_lt h
  have hl := en_lt h
  have hg := en_gt T j
  obtain ⟨s0, e0⟩ := hS j (by omega)
  obtain ⟨s1, e1⟩ := hS (j + 1) (by omega)
  have f0 := kT_nat (T := T) (j := j) hj
  have f1 : kT T ((j : Int) + 1) = (T.2 (j + 1)).1 := kT_nat (T := T) (j := j + 1) (by omega)
  unfold KP
  rw [e0, e1]
  rcases rl_cases T j with e | e | e | e | e | e
  · rw [e]; have := k0 e; exact Or.inl ⟨rfl, s1, by omega⟩
  · rw [e]; have := k1 e; exact Or.inr (Or.inl ⟨rfl, s1, by omega, by omega⟩)
  · rw [e]; exact Or.inr (Or.inr (Or.inl ⟨rfl, s1⟩))
  · rw [e]; have := k3 e; exact Or.inr (Or.inr (Or.inr (Or.inl ⟨rfl, s1, by omega, by omega⟩)))
  · have e4 : enT T j = j + 2 := if_pos e
    obtain ⟨s2, e2⟩ := hS (j + 2) (by omega)
    have f2 : kT T ((j : Int) + 2) = (T.2 (j + 2)).1 := kT_nat (T := T) (j := j + 2) (by omega)
    rw [e]; have := k4 e; exact Or.inr (Or.inr (Or.inr (Or.inr ⟨rfl, s2, by omega, by rw [e2]; omega⟩)))
  · exact absurd e h
theorem KP_self {j : Nat} (h : rlT T j ≠ -1) : KP T (rlT T j).toNat j := KP_of h (fun q hq => ⟨by have := en_lt h; omega, rfl⟩)
theorem TV_fx {r j : Nat} (h : TV T) (hk : KP T r j) : TV (fxT T r j) := by
  rcases hk with ⟨rfl, h1, -⟩ | ⟨rfl, h1, -⟩ | ⟨rfl, h1⟩ | ⟨rfl, h1, h2, h3⟩ | ⟨rfl, h1, -⟩
  · exact TV_rm h _
  · exact TV_rm (TV_rm h _) _
  · exact TV_cy h (by omega) (by omega)
  · exact TV_jo h h1 h2 h3
  · exact TV_rm (TV_rm h _) _
theorem rmT_lt {i q : Nat} (h : q < i) : (rmT T i).2 q = T.2 q := if_pos h
theorem op_fx {r j : Nat} (hk : KP T r j) : opT (fxT T r j) (fxT T r j).1 = opT T T.1 := by
  rcases hk with ⟨rfl, h1, h2⟩ | ⟨rfl, h1, h2, h3⟩ | ⟨rfl, h1⟩ | ⟨rfl, h1, h2, h3⟩ | ⟨rfl, h1, h2, h3⟩
  · show opT (rmT T (j + 1)) (rmT T (j + 1)).1 = _
    rw [op_rm h1, h2]
    show _ - (0 : Int) = _
    omega
  · show opT (rmT (rmT T (j + 1)) j) (rmT (rmT T (j + 1)) j).1 = _
    rw [op_rm (show j < T.1 - 1 by omega), op_rm h1, rmT_lt (by omega), h2, h3]
    show _ - (-1 : Int) - 1 = _
    omega
  · exact op_cy (by omega) (by omega) (by omega)
  · exact op_jo h1 h3
  · show opT (rmT (rmT T (j + 2)) j) (rmT (rmT T (j + 2)) j).1 = _
    rw [op_rm (show j < T.1 - 1 by omega), op_rm h1, rmT_lt (by omega), h2, h3]
    show _ - (-1 : Int) - 1 = _
    omega
theorem fx_keep {r j : Nat} (hk : KP T r j) {q : Nat} (hq : q < j) : q < (fxT T r j).1 ∧ (fxT T r j).2 q = T.2 q := by
  rcases hk with ⟨rfl, h1, -⟩ | ⟨rfl, h1, -⟩ | ⟨rfl, h1⟩ | ⟨rfl, h1, h2, h3⟩ | ⟨rfl, h1, -⟩
  · exact ⟨show q < T.1 - 1 by omega, rmT_lt (by omega)⟩
  · exact ⟨show q < T.1 - 1 - 1 by omega, (rmT_lt (by omega)).trans (rmT_lt (by omega))⟩
  · refine ⟨show q < T.1 by omega, ?_⟩
    show (if q = j + 1 then T.2 j else if j ≤ q ∧ q < j + 1 then T.2 (q + 1) else if j + 1 < q ∧ q ≤ j then T.2 (q - 1) else T.2 q) = _
    rw [if_neg (by omega), if_neg (by omega), if_neg (by omega)]
  · refine ⟨show q < T.1 - 1 by omega, (rmT_lt (by omega)).trans ?_⟩
    show (if q = j then _ else T.2 q) = _
    rw [if_neg (by omega)]
  · exact ⟨show q < T.1 - 1 - 1 by omega, (rmT_lt (by omega)).trans (rmT_lt (by omega))⟩
theorem RV_le {B' : Int} (h : RV B R) (hb : B ≤ B') : RV B' R := ⟨h.1, fun j hj => by have := h.2.1 j hj; omega, by have := h.2.2; omega⟩
theorem RV_rw (h : RV B R) {r : Nat} (hr : r < 5) : RV (B + 1) (rwR R r) := by
  obtain ⟨a1, a2, a3⟩ := h
  have := a1 r hr
  refine ⟨fun j hj => ?_, fun j hj => ?_, ?_⟩
  · have := a1 j hj
    show 0 ≤ (if j = r then (if R.1 r + 1 < 99 then R.1 r + 1 else 99) else R.1 j) ∧ (if j = r then (if R.1 r + 1 < 99 then R.1 r + 1 else 99) else R.1 j) ≤ 99
    repeat' split
    all_goals omega
  · have := a2 j hj
    show 0 ≤ R.2.1 j ∧ R.2.1 j ≤ B + 1
    omega
  · show 0 ≤ R.2.2 + 1 ∧ R.2.2 + 1 ≤ B + 1
    omega
theorem RV_puN : ∀ (k : Nat) {B : Int} {R : zRu} {r : Nat}, RV B R → r < 5 → RV (B + k) (puN R r k)
  | 0, B, R, r, h, hr => RV_le h (by omega)
  | k + 1, B, R, r, h, hr => RV_le (RV_puN k (RV_pu h hr) hr) (by omega)
theorem RV_puA {g : Nat → Int} (hg : ∀ r, r < 5 → 0 ≤ g r ∧ g r ≤ 30) : ∀ (k j : Nat) {B : Int} {R : zRu}, j + k ≤ 5 → RV B R → RV (B + 30 * k) (puA R g j k)
  | 0, j, B, R, h, hR => RV_le hR (by omega)
  | k + 1, j, B, R, h, hR => by
    have hgj := hg j (by omega)
    exact RV_le (RV_puA hg k (j + 1) (by omega) (RV_puN (g j).toNat hR (by omega))) (by omega)
theorem rl_5 {j : Nat} (h : rlT T j ≠ -1) : (rlT T j).toNat < 5 := by have := rl_cases T j; omega
/-- what holds while the best set is fixed -/
theorem fb_inv (hV : SV B T R D lim la) : ∀ m k, k + m = T.1 →
    (∀ q, q < T.1 → (∀ j, k ≤ j → bsT T R j = true → q < j) → q < (fbK T R D k).1.1 ∧ (fbK T R D k).1.2 q = T.2 q) ∧ TV (fbK T R D k).1 ∧ RV (B + m) (fbK T R D k).2.1 ∧ opT (fbK T R D k).1 (fbK T R D k).1.1 = opT T T.1 ∧
    (fbK T R D k).2.2.1 = (kpD D T).1 ∧ ((fbK T R D k).2.2.2 0).1 = T ∧ (∀ r, 0 ≤ ((fbK T R D k).2.2.2 0).2 r ∧ ((fbK T R D k).2.2.2 0).2 r ≤ m) ∧ (∀ q, q ≠ 0 → (fbK T R D k).2.2.2 q = (kpD D T).2 q) := by
  obtain ⟨hTV, hRV, hDV, hlim, hla, hop, hopD⟩ := id hV
  intro m
  induction m with
  | zero =>
    intro k hk
    have e : fbK T R D k = (T, R, kpD D T) := by unfold fbK; rw [show T.1 - k = 0 by omega]; rfl
    rw [e]
    exact ⟨fun q hq _ => ⟨hq, rfl⟩, hTV, RV_le hRV (by omega), rfl, rfl, rfl, fun r => ⟨Int.le_refl _, Int.le_refl _⟩, fun q _ => rfl⟩
  | succ m ih =>
    intro k hk
    obtain ⟨i1, i2, i3, i4, i5, i6, i7, i8⟩ := ih (k + 1) (by omega)
    cases hb : bsT T R k with
    | false =>
      rw [fbK_f hb]
      exact ⟨fun q hq h => i1 q hq (fun j hj => h j (by omega)), i2, RV_le i3 (by omega), i4, i5, i6, fun r => by have := i7 r; omega, i8⟩
    | true =>
      have hr := (bs_t hb).1
      have hl := en_lt hr
      have hK : KP (fbK T R D (k + 1)).1 (rlT T k).toNat k := KP_of hr (fun q hq => i1 q (by omega) (fun j hj hj2 => by have := bs_sep hb (by omega : k < j) hj2; omega))
      have hg := en_gt T k
      rw [fbK_t hb]
      refine ⟨fun q hq h => ?_, TV_fx i2 hK, RV_le (RV_rw i3 (rl_5 hr)) (by omega), (op_fx hK).trans i4, i5, ?_, fun r => ?_, fun q hq => ?_⟩
      · have hqk := h k (Nat.le_refl _) hb
        have h1 := fx_keep hK hqk
        exact ⟨h1.1, h1.2.trans (i1 q hq (fun j hj _ => by omega)).2⟩
      · show (if (0 : Nat) = 0 then ((( fbK T R D (k + 1)).2.2.2 0).1, updN ((fbK T R D (k + 1)).2.2.2 0).2 (rlT T k).toNat (((fbK T R D (k + 1)).2.2.2 0).2 (rlT T k).toNat + 1)) else (fbK T R D (k + 1)).2.2.2 0).1 = T
        rw [if_pos rfl]
        exact i6
      · have h1 := i7 r
        have h2 := i7 (rlT T k).toNat
        show 0 ≤ (if r = (rlT T k).toNat then ((fbK T R D (k + 1)).2.2.2 0).2 (rlT T k).toNat + 1 else ((fbK T R D (k + 1)).2.2.2 0).2 r) ∧ (if r = (rlT T k).toNat then ((fbK T R D (k + 1)).2.2.2 0).2 (rlT T k).toNat + 1 else ((fbK T R D (k + 1)).2.2.2 0).2 r) ≤ ((m + 1 : Nat) : Int)
        split <;> omega
      · show (if q = 0 then _ else (fbK T R D (k + 1)).2.2.2 q) = _
        rw [if_neg hq]
        exact i8 q hq
theorem DV_kp (hD : DV D) (hT : TV T) : DV (kpD D T) := by
  intro q hq
  have hq : q < (if D.1 < 10 then D.1 + 1 else 10) := hq
  show TV (if q = 0 then (T, fun _ => (0 : Int)) else D.2 (q - 1)).1 ∧ ∀ r, r < 5 → 0 ≤ (if q = 0 then (T, fun _ => (0 : Int)) else D.2 (q - 1)).2 r ∧ (if q = 0 then (T, fun _ => (0 : Int)) else D.2 (q - 1)).2 r ≤ 30
  by_cases h : q = 0
  · rw [if_pos h]
    exact ⟨hT, fun r _ => ⟨Int.le_refl _, by show (0 : Int) ≤ 30; omega⟩⟩
  · rw [if_neg h]
    by_cases h2 : q - 1 < D.1
    · exact hD (q - 1) h2
    · split at hq <;> omega
theorem opD_kp (h : ∀ q, q < D.1 → 0 ≤ opT (D.2 q).1 (D.2 q).1.1) (hT : 0 ≤ opT T T.1) : ∀ q, q < (kpD D T).1 → 0 ≤ opT ((kpD D T).2 q).1 ((kpD D T).2 q).1.1 := by
  intro q hq
  have hq : q < (if D.1 < 10 then D.1 + 1 else 10) := hq
  show 0 ≤ opT (if q = 0 then (T, fun _ => (0 : Int)) else D.2 (q - 1)).1 (if q = 0 then (T, fun _ => (0 : Int)) else D.2 (q - 1)).1.1
  by_cases h2 : q = 0
  · rw [if_pos h2]; exact hT
  · rw [if_neg h2]
    by_cases h3 : q - 1 < D.1
    · exact h _ h3
    · split at hq <;> omega
theorem SV_ad (hV : SV B T R D lim la) (hn : T.1 < 30) {x : zE} (hx : eV x) (ho : 0 ≤ opT T T.1 + fK x.1) : SV (B + 150) (adT T x) R (fgD D) lim 0 := by
  obtain ⟨hTV, hRV, hDV, hlim, hla, hop, hopD⟩ := hV
  exact ⟨TV_ad hTV hn hx, RV_le hRV (by omega), fun q hq => absurd hq (Nat.not_lt_zero _), hlim, Or.inl rfl, by rw [op_ad]; exact ho, fun q hq => absurd hq (Nat.not_lt_zero _)⟩
theorem SV_pin (hV : SV B T R D lim la) (a b : Nat) {v : Int} (hv : v = 0 ∨ v = 1) : SV (B + 150) (piR T a b v) R D lim 0 := by
  obtain ⟨hTV, hRV, hDV, hlim, hla, hop, hopD⟩ := hV
  exact ⟨TV_pi hTV a b hv, RV_le hRV (by omega), hDV, hlim, Or.inl rfl, by rw [op_pi]; exact hop, hopD⟩
theorem SV_width (hV : SV B T R D lim la) {l : Int} (hl : 13 ≤ l ∧ l ≤ 60) : SV (B + 150) T R D l 0 := by
  obtain ⟨hTV, hRV, hDV, hlim, hla, hop, hopD⟩ := hV
  exact ⟨hTV, RV_le hRV (by omega), hDV, hl, Or.inl rfl, hop, hopD⟩
theorem SV_lay (hV : SV B T R D lim la) : SV (B + 150) T R D lim 1 := by
  obtain ⟨hTV, hRV, hDV, hlim, hla, hop, hopD⟩ := hV
  exact ⟨hTV, RV_le hRV (by omega), hDV, hlim, Or.inr rfl, hop, hopD⟩
theorem SV_same (hV : SV B T R D lim la) : SV (B + 150) T R D lim la := by
  obtain ⟨hTV, hRV, hDV, hlim, hla, hop, hopD⟩ := hV
  exact ⟨hTV, RV_le hRV (by omega), hDV, hlim, hla, hop, hopD⟩
theorem SV_rename (hV : SV B T R D lim la) (x : Int) {y : Int} (hy : 0 ≤ y ∧ y < 100) : SV (B + 150) (rnT T x y) R (kpD D T) lim 0 := by
  obtain ⟨hTV, hRV, hDV, hlim, hla, hop, hopD⟩ := hV
  exact ⟨TV_rn hTV x hy, RV_le hRV (by omega), DV_kp hDV hTV, hlim, Or.inl rfl, by rw [op_rn]; exact hop, opD_kp hopD hop⟩
theorem SV_move (hV : SV B T R D lim la) {a b : Nat} (ha : a < T.1) (hb : b < T.1) (hab : a ≠ b) : SV (B + 150) (cyT T a b) R (kpD D T) lim 0 := by
  obtain ⟨hTV, hRV, hDV, hlim, hla, hop, hopD⟩ := hV
  exact ⟨TV_cy hTV ha hb, RV_le hRV (by omega), DV_kp hDV hTV, hlim, Or.inl rfl, by rw [op_cy ha hb hab]; exact hop, opD_kp hopD hop⟩
theorem SV_undo (hV : SV B T R D lim la) (h0 : 0 < D.1) : SV (B + 150) (D.2 0).1 (puA R (D.2 0).2 0 5) (unD D) lim 0 := by
  obtain ⟨hTV, hRV, hDV, hlim, hla, hop, hopD⟩ := hV
  refine ⟨(hDV 0 h0).1, RV_le (RV_puA (hDV 0 h0).2 5 0 (by omega) hRV) (by omega), fun q hq => ?_, hlim, Or.inl rfl, hopD 0 h0, fun q hq => ?_⟩
  · have hq : q < D.1 - 1 := hq
    exact hDV (q + 1) (by omega)
  · have hq : q < D.1 - 1 := hq
    exact hopD (q + 1) (by omega)
theorem SV_fixes (hV : SV B T R D lim la) : SV (B + 150) (fbK T R D 0).1 (fbK T R D 0).2.1 (fbK T R D 0).2.2 lim 0 := by
  obtain ⟨i1, i2, i3, i4, i5, i6, i7, i8⟩ := fb_inv hV T.1 0 (by omega)
  obtain ⟨hTV, hRV, hDV, hlim, hla, hop, hopD⟩ := hV
  have h30 := hTV.1
  have hk := DV_kp hDV hTV
  have ho := opD_kp hopD hop
  refine ⟨i2, RV_le i3 (by omega), fun q hq => ?_, hlim, Or.inl rfl, by rw [i4]; exact hop, fun q hq => ?_⟩
  · rw [i5] at hq
    by_cases h : q = 0
    · subst h
      exact ⟨by rw [i6]; exact hTV, fun r hr => by have := i7 r; omega⟩
    · rw [i8 q h]; exact hk q hq
  · rw [i5] at hq
    by_cases h : q = 0
    · subst h
      rw [i6]; exact hop
    · rw [i8 q h]; exact ho q hq
theorem SV_fix (hV : SV B T R D lim la) {j : Nat} (hj : rlT T j ≠ -1) : SV (B + 150) (fxT T (rlT T j).toNat j) (rwR R (rlT T j).toNat) (nfD (kpD D T) (rlT T j).toNat) lim 0 := by
  obtain ⟨hTV, hRV, hDV, hlim, hla, hop, hopD⟩ := hV
  have hk := DV_kp hDV hTV
  have ho := opD_kp hopD hop
  refine ⟨TV_fx hTV (KP_self hj), RV_le (RV_rw hRV (rl_5 hj)) (by omega), fun q hq => ?_, hlim, Or.inl rfl, by rw [op_fx (KP_self hj)]; exact hop, fun q hq => ?_⟩
  · by_cases h : q = 0
    · subst h
      refine ⟨hTV, fun r hr => ?_⟩
      show 0 ≤ (if r = (rlT T j).toNat then (0 : Int) + 1 else 0) ∧ (if r = (rlT T j).toNat then (0 : Int) + 1 else 0) ≤ 30
      split <;> omega
    · have := hk q hq
      show TV (if q = 0 then _ else (kpD D T).2 q).1 ∧ ∀ r, r < 5 → 0 ≤ (if q = 0 then _ else (kpD D T).2 q).2 r ∧ (if q = 0 then _ else (kpD D T).2 q).2 r ≤ 30
      rw [if_neg h]
      exact this
  · by_cases h : q = 0
    · subst h
      exact hop
    · have := ho q hq
      show 0 ≤ opT (if q = 0 then _ else (kpD D T).2 q).1 (if q = 0 then _ else (kpD D T).2 q).1.1
      rw [if_neg h]
      exact this
end
