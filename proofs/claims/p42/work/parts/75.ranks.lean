/-! ranks: each of 0 to 4 has its rule -/
section
variable {R : zRu}
def ahR (R : zRu) (s r : Nat) : Prop := R.1 r < R.1 s ∨ (R.1 s = R.1 r ∧ s < r)
theorem rk_le {s r : Nat} (h : ahR R s r) : ∀ m, rkS R s m + (if s < m then 1 else 0) ≤ rkS R r m
  | 0 => by show (0 : Int) + _ ≤ 0; rw [if_neg (Nat.not_lt_zero _)]; decide
  | m + 1 => by
    have ih := rk_le h m
    unfold ahR at h
    unfold rkS
    by_cases e : m = s
    · subst e
      rw [if_neg (Nat.lt_irrefl _)] at ih
      rw [if_neg (show ¬ (R.1 m < R.1 m ∨ (R.1 m = R.1 m ∧ m < m)) by omega), if_pos (show m < m + 1 by omega), if_pos (show R.1 r < R.1 m ∨ (R.1 m = R.1 r ∧ m < r) from h)]
      omega
    · by_cases c1 : R.1 s < R.1 m ∨ (R.1 m = R.1 s ∧ m < s)
      · rw [if_pos c1, if_pos (show R.1 r < R.1 m ∨ (R.1 m = R.1 r ∧ m < r) by omega)]
        split at ih <;> split <;> omega
      · rw [if_neg c1]
        split at ih <;> split <;> split <;> omega
theorem rk_b4 (r : Nat) : ∀ m : Nat, rkS R r m + (if r < m then 1 else 0) ≤ m
  | 0 => by show (0 : Int) + _ ≤ 0; rw [if_neg (Nat.not_lt_zero _)]; decide
  | m + 1 => by
    have ih := rk_b4 r m
    unfold rkS
    by_cases e : m = r
    · subst e
      rw [if_neg (Nat.lt_irrefl _)] at ih
      rw [if_neg (show ¬ (R.1 m < R.1 m ∨ (R.1 m = R.1 m ∧ m < m)) by omega), if_pos (show m < m + 1 by omega)]
      omega
    · split at ih <;> split <;> split <;> omega
theorem rk_lt {s r : Nat} (h : ahR R s r) (hs : s < 5) : rkS R s 5 < rkS R r 5 := by
  have := rk_le h 5
  rw [if_pos hs] at this
  omega
theorem ah_tot {s r : Nat} (h : s ≠ r) : ahR R s r ∨ ahR R r s := by unfold ahR; omega
theorem rk_ne {s r : Nat} (h : s ≠ r) (hs : s < 5) (hr : r < 5) : rkS R s 5 ≠ rkS R r 5 := by
  rcases ah_tot (R := R) h with a | a
  · have := rk_lt a hs; omega
  · have := rk_lt a hr; omega
theorem rk_04 {r : Nat} (h : r < 5) : 0 ≤ rkS R r 5 ∧ rkS R r 5 < 5 := by
  have h1 := rk_b4 (R := R) r 5
  rw [if_pos h] at h1
  have h2 := (rkS_bd R r 5).1
  omega
theorem pig5 : ∀ a b c d e k : Fin 5, a ≠ b → a ≠ c → a ≠ d → a ≠ e → b ≠ c → b ≠ d → b ≠ e → c ≠ d → c ≠ e → d ≠ e → k = a ∨ k = b ∨ k = c ∨ k = d ∨ k = e := by decide +kernel
theorem rk_ex (R : zRu) {k : Int} (hk : 0 ≤ k ∧ k < 5) : ∃ r : Nat, r < 5 ∧ rkS R r 5 = k := by
  have b := fun (r : Nat) (h : r < 5) => rk_04 (R := R) h
  have n := fun (s r : Nat) (h : s ≠ r) (hs : s < 5) (hr : r < 5) => rk_ne (R := R) h hs hr
  have f : ∀ (s r : Nat) (hs : s < 5) (hr : r < 5), s ≠ r → (⟨(rkS R s 5).toNat, by have := b s hs; omega⟩ : Fin 5) ≠ ⟨(rkS R r 5).toNat, by have := b r hr; omega⟩ := by
    intro s r hs hr h e
    have e := congrArg Fin.val e
    have e : (rkS R s 5).toNat = (rkS R r 5).toNat := e
    have := b s hs
    have := b r hr
    exact n s r h hs hr (by omega)
  have g : ∀ (r : Nat) (hr : r < 5), (⟨k.toNat, by omega⟩ : Fin 5) = ⟨(rkS R r 5).toNat, by have := b r hr; omega⟩ → rkS R r 5 = k := by
    intro r hr e
    have e : k.toNat = (rkS R r 5).toNat := congrArg Fin.val e
    have := b r hr
    omega
  rcases pig5 _ _ _ _ _ ⟨k.toNat, by omega⟩ (f 0 1 (by omega) (by omega) (by omega)) (f 0 2 (by omega) (by omega) (by omega)) (f 0 3 (by omega) (by omega) (by omega)) (f 0 4 (by omega) (by omega) (by omega)) (f 1 2 (by omega) (by omega) (by omega)) (f 1 3 (by omega) (by omega) (by omega)) (f 1 4 (by omega) (by omega) (by omega)) (f 2 3 (by omega) (by omega) (by omega)) (f 2 4 (by omega) (by omega) (by omega)) (f 3 4 (by omega) (by omega) (by omega)) with e | e | e | e | e
  · exact ⟨0, by omega, g 0 (by omega) e⟩
  · exact ⟨1, by omega, g 1 (by omega) e⟩
  · exact ⟨2, by omega, g 2 (by omega) e⟩
  · exact ⟨3, by omega, g 3 (by omega) e⟩
  · exact ⟨4, by omega, g 4 (by omega) e⟩
theorem ra_spec (R : zRu) (k : Int) : ∀ m, (raS R k m = -1 ∧ ∀ r, r < m → rkS R r 5 ≠ k) ∨ ∃ r : Nat, r < m ∧ raS R k m = (r : Int) ∧ rkS R r 5 = k
  | 0 => Or.inl ⟨rfl, fun r h => absurd h (Nat.not_lt_zero _)⟩
  | m + 1 => by
    unfold raS
    rcases ra_spec R k m with ⟨a, b⟩ | ⟨r, a, b, c⟩
    · rw [if_pos a]
      by_cases h : rkS R m 5 = k
      · rw [if_pos h]; exact Or.inr ⟨m, by omega, rfl, h⟩
      · rw [if_neg h]
        refine Or.inl ⟨rfl, fun r hr => ?_⟩
        by_cases e : r = m
        · subst e; exact h
        · exact b r (by omega)
    · rw [if_neg (by rw [b]; omega)]
      exact Or.inr ⟨r, by omega, b, c⟩
theorem ra_ok (R : zRu) {k : Int} (hk : 0 ≤ k ∧ k < 5) : ∃ r : Nat, r < 5 ∧ raS R k 5 = (r : Int) ∧ rkS R r 5 = k := by
  rcases ra_spec R k 5 with ⟨a, b⟩ | h
  · obtain ⟨r, h1, h2⟩ := rk_ex R hk
    exact absurd h2 (b r h1)
  · exact h
theorem ra_no (R : zRu) {k : Int} (hk : ¬ (0 ≤ k ∧ k < 5)) : raS R k 5 = -1 := by
  rcases ra_spec R k 5 with ⟨a, b⟩ | ⟨r, h1, h2, h3⟩
  · exact a
  · have := rk_04 (R := R) h1
    omega
theorem cdRank_0 {k : Int} (hk : 0 ≤ k ∧ k < 5) : cdRank R k = 0 := by
  obtain ⟨r, h1, h2, h3⟩ := ra_ok R hk
  unfold cdRank
  rw [if_neg (by rw [h2]; omega)]
theorem cdRank_1 {k : Int} (hk : ¬ (0 ≤ k ∧ k < 5)) : cdRank R k = 1 := by
  unfold cdRank
  rw [if_pos (ra_no R hk)]
theorem ra_ord {s r : Nat} {k : Int} (hs : s < 5) (hr : r < 5) (h1 : rkS R s 5 = k - 1) (h2 : rkS R r 5 = k) : ahR R s r := by
  have hne : s ≠ r := fun e => by subst e; omega
  rcases ah_tot (R := R) hne with a | a
  · exact a
  · have := rk_lt a hr
    omega
/-- the rules that were seen, a bit for each -/
def snI (ρ : Nat → Int) : Nat → Int
  | 0 => 0
  | k + 1 => (Int32.ofInt (snI ρ k) ||| Int32.ofInt ((Int32.ofInt 1 <<< (Int32.ofInt (ρ k) &&& 31)).toInt)).toInt
def sn5 (a b c d e : Int) : Int := snI (fun i => if i = 0 then a else if i = 1 then b else if i = 2 then c else if i = 3 then d else e) 5
def sn5B (a b c d e : Nat) : Bool := a == b || a == c || a == d || a == e || b == c || b == d || b == e || c == d || c == e || d == e || decide (sn5 (a : Int) (b : Int) (c : Int) (d : Int) (e : Int) = 31)
theorem sn5_all : (List.range 5).all (fun a => (List.range 5).all (fun b => (List.range 5).all (fun c => (List.range 5).all (fun d => (List.range 5).all (fun e => sn5B a b c d e))))) = true := by decide +kernel
theorem sn5_31 {a b c d e : Nat} (ha : a < 5) (hb : b < 5) (hc : c < 5) (hd : d < 5) (he : e < 5) (h : a ≠ b ∧ a ≠ c ∧ a ≠ d ∧ a ≠ e ∧ b ≠ c ∧ b ≠ d ∧ b ≠ e ∧ c ≠ d ∧ c ≠ e ∧ d ≠ e) : sn5 (a : Int) (b : Int) (c : Int) (d : Int) (e : Int) = 31 := by
  have h1 := List.all_eq_true.mp sn5_all a (List.mem_range.mpr ha)
  have h2 := List.all_eq_true.mp h1 b (List.mem_range.mpr hb)
  have h3 := List.all_eq_true.mp h2 c (List.mem_range.mpr hc)
  have h4 := List.all_eq_true.mp h3 d (List.mem_range.mpr hd)
  have h5 := List.all_eq_true.mp h4 e (List.mem_range.mpr he)
  unfold sn5B at h5
  simp only [Bool.or_eq_true, beq_iff_eq, decide_eq_true_eq] at h5
  omega
theorem snI_31 (R : zRu) : snI (fun k => raS R (k : Int) 5) 5 = 31 := by
  obtain ⟨a, a1, a2, a3⟩ := ra_ok R (k := 0) (by omega)
  obtain ⟨b, b1, b2, b3⟩ := ra_ok R (k := 1) (by omega)
  obtain ⟨c, c1, c2, c3⟩ := ra_ok R (k := 2) (by omega)
  obtain ⟨d, d1, d2, d3⟩ := ra_ok R (k := 3) (by omega)
  obtain ⟨e, e1, e2, e3⟩ := ra_ok R (k := 4) (by omega)
  have h : snI (fun k => raS R (k : Int) 5) 5 = sn5 (raS R 0 5) (raS R 1 5) (raS R 2 5) (raS R 3 5) (raS R 4 5) := rfl
  have ne : ∀ {p q : Nat}, rkS R p 5 ≠ rkS R q 5 → p ≠ q := fun h e => h (by rw [e])
  rw [h, a2, b2, c2, d2, e2]
  exact sn5_31 a1 b1 c1 d1 e1 ⟨ne (by omega), ne (by omega), ne (by omega), ne (by omega), ne (by omega), ne (by omega), ne (by omega), ne (by omega), ne (by omega), ne (by omega)⟩
end
