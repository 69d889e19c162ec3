/-! the class's text: flags over it, and what is written into it -/
def b2i (b : Bool) : Int := bif b then 1 else 0
theorem b2i_01 (b : Bool) : b2i b = 0 ∨ b2i b = 1 := by cases b <;> simp [b2i]
def anyN (n : Nat) (f : Nat → Bool) : Bool := (List.range n).any f
theorem anyN_t {n : Nat} {f : Nat → Bool} {j : Nat} (h : j < n) (hf : f j = true) : anyN n f = true := List.any_eq_true.mpr ⟨j, List.mem_range.mpr h, hf⟩
theorem anyN_f {n : Nat} {f : Nat → Bool} (h : ∀ j, j < n → f j = false) : anyN n f = false := by
  unfold anyN
  rw [List.any_eq_false]
  intro j hj
  rw [h j (List.mem_range.mp hj)]
  simp
def pT (T : zTx) (i : Int) : Int := if 0 ≤ i ∧ i < T.1 then (T.2 i.toNat).2.2.2 else 0
def hpT (T : zTx) (x : Int) : Bool := anyN T.1 (fun j => decide (isT T j x = 1 ∧ pT T j = 1))
def mvT (T : zTx) (lo hi : Int) : Bool := !anyN T.1 (fun j => decide (lo ≤ j ∧ (j : Int) ≤ hi) && decide ((kT T j ≠ 110 ∧ kT T j ≠ 99) ∨ pT T j = 1))
def cbT (T : zTx) (i : Int) : Int := if i = T.1 - 1 ∨ pT T i = 0 ∨ pT T (i + 1) = 0 then 1 else 0
theorem pT_01 {T : zTx} (hV : TV T) (i : Int) : pT T i = 0 ∨ pT T i = 1 := by
  unfold pT
  split
  · exact (hV.2 i.toNat (by omega)).2.2.2
  · exact Or.inl rfl
section
variable {ro : zRo} {w : zW} {t : Nat} {T : zTx}
theorem TR_pT (hR : TR w t T) (hV : TV T) {i : Int} (h : 0 ≤ i ∧ i < T.1) : rdf w (t + 4) 30 i = pT T i := by
  rw [TR_pin hR hV h]; unfold pT; rw [if_pos h]
theorem vX6_hasPinned (hT : TX t) (hR : TR w t T) (hV : TV T) (x : Int) : Pv ro 3 mX6_hasPinned [(1, (t : Int)), (0, x)] w (0, b2i (hpT T x)) := by
  have hL0 := hT.1
  have hR1 := hR.1
  have hV1 := hV.1
  have loop : ∀ k j : Nat, j + k = T.1 → (∀ q, q < j → (decide (isT T q x = 1 ∧ pT T q = 1)) = false) → Z ro 3 mX6_hasPinned 2 [(1, (t : Int)), (0, x), (0, (j : Int))] [] w (fun r w' k => k = 0 ∧ ∃ o, r = .inl o ∧ (o = some (0, b2i (hpT T x)) ∧ w' = w)) := by
    intro k
    induction k with
    | zero =>
      intro j hj hq
      refine Z_push gX6_hasPinned_2 (v := (0, (j : Int))) rfl ?_
      refine Z_push gX6_hasPinned_3 (v := (1, ((t : Nat) : Int))) rfl ?_
      refine Z_get gX6_hasPinned_4 rfl (by assumption) (by decide) ?_
      refine Z_icmp_ge gX6_hasPinned_7 (tgt := 35) (by decide) (fun _ => ?_) (fun h7 => absurd h7 (by omega))
      refine Z_push gX6_hasPinned_35 (v := (0, 0)) rfl ?_
      refine Z_retB gX6_hasPinned_36 rfl (by first | exact Or.inl rfl | exact Or.inr rfl | assumption | omega) _ ?_
      exact ⟨by rw [show hpT T x = false from anyN_f (fun q h => hq q (by omega))]; rfl, rfl⟩
    | succ k ih =>
      intro j hj hq
      have hp := TR_pT hR hV (i := (j : Int)) (by omega)
      have hn := fun (h : decide (isT T j x = 1 ∧ pT T j = 1) = false) => ih (j + 1) (by omega) (fun q hlt => if e : q = j then by subst e; exact h else hq q (by omega))
      rw [show ((j + 1 : Nat) : Int) = (j : Int) + 1 from rfl] at hn
      refine Z_push gX6_hasPinned_2 (v := (0, (j : Int))) rfl ?_
      refine Z_push gX6_hasPinned_3 (v := (1, ((t : Nat) : Int))) rfl ?_
      refine Z_get gX6_hasPinned_4 rfl (by assumption) (by decide) ?_
      refine Z_icmp_ge gX6_hasPinned_7 (tgt := 35) (by decide) (fun h7 => absurd h7 (by omega)) (fun _ => ?_)
      refine Z_push gX6_hasPinned_10 (v := (1, ((t : Nat) : Int))) rfl ?_
      refine Z_push gX6_hasPinned_11 (v := (0, (j : Int))) rfl ?_
      refine Z_push gX6_hasPinned_12 (v := (0, x)) rfl ?_
      refine Z_callP (kd := 0) (na := 3) (M' := mX6_isNamed) gX6_hasPinned_13 rfl rfl rfl rfl rfl rfl (fun _ => rfl) rfl rfl (fun _ _ => zrecv_obj (by assumption) _ _ _) (d' := 2) (by decide) (vX6_isNamed (T := T) (by assumption) (by assumption) (by assumption) _ _) ?_
      refine Z_if_eq gX6_hasPinned_16 (tgt := 29) (by decide) (fun h16 => ?_) (fun h16 => ?_)
      · refine Z_iinc gX6_hasPinned_29 rfl ⟨by omega, by omega⟩ (ls' := [(1, ((t : Nat) : Int)), (0, x), (0, (j : Int) + 1)]) rfl ?_
        refine Z_goto gX6_hasPinned_32 (tgt := 2) (by decide) ?_
        exact hn (by simp; omega)
      · refine Z_push gX6_hasPinned_19 (v := (1, ((t : Nat) : Int))) rfl ?_
        refine Z_push gX6_hasPinned_20 (v := (0, (j : Int))) rfl ?_
        refine Z_callP (kd := 0) (na := 2) (M' := mX6_pinnedAt) gX6_hasPinned_21 rfl rfl rfl rfl rfl rfl (fun _ => rfl) rfl rfl (fun _ _ => zrecv_obj (by assumption) _ _ _) (d' := 1) (by decide) (vX6_pinnedAt (by assumption) _) ?_
        refine Z_if_eq gX6_hasPinned_24 (tgt := 29) (by decide) (fun h24 => ?_) (fun h24 => ?_)
        · refine Z_iinc gX6_hasPinned_29 rfl ⟨by omega, by omega⟩ (ls' := [(1, ((t : Nat) : Int)), (0, x), (0, (j : Int) + 1)]) rfl ?_
          refine Z_goto gX6_hasPinned_32 (tgt := 2) (by decide) ?_
          exact hn (by simp; omega)
        · have h1 := isT_01 T j x
          have h2 := pT_01 hV j
          refine Z_push gX6_hasPinned_27 (v := (0, 1)) rfl ?_
          refine Z_retB gX6_hasPinned_28 rfl (by first | exact Or.inl rfl | exact Or.inr rfl | assumption | omega) _ ?_
          exact ⟨by rw [show hpT T x = true from anyN_t (j := j) (by omega) (by simp; omega)]; rfl, rfl⟩
  show Z ro 3 mX6_hasPinned 0 [(1, (t : Int)), (0, x), (9, 0)] [] w _
  refine Z_push gX6_hasPinned_0 (v := (0, 0)) rfl ?_
  refine Z_sto gX6_hasPinned_1 rfl (ls' := [(1, ((t : Nat) : Int)), (0, x), (0, 0)]) (st' := []) rfl ?_
  exact loop T.1 0 (by omega) (fun q h => absurd h (by omega))
theorem vX6_canBreakBehind (hT : TX t) (hR : TR w t T) (hV : TV T) {i : Int} (hi : 0 ≤ i ∧ i < T.1) : Pv ro 2 mX6_canBreakBehind [(1, (t : Int)), (0, i)] w (0, cbT T i) := by
  have hL0 := hT.1
  have hR1 := hR.1
  have hV1 := hV.1
  have hp := TR_pT hR hV hi
  show Z ro 2 mX6_canBreakBehind 0 [(1, (t : Int)), (0, i), (9, 0)] [] w _
  refine Z_push gX6_canBreakBehind_0 (v := (0, i)) rfl ?_
  refine Z_push gX6_canBreakBehind_1 (v := (1, ((t : Nat) : Int))) rfl ?_
  refine Z_get gX6_canBreakBehind_2 rfl (by assumption) (by decide) ?_
  refine Z_push gX6_canBreakBehind_5 (v := (0, 1)) rfl ?_
  refine Z_isub gX6_canBreakBehind_6 ⟨by omega, by omega⟩ ?_
  refine Z_icmp_ne gX6_canBreakBehind_7 (tgt := 14) (by decide) (fun h7 => ?_) (fun h7 => ?_)
  · refine Z_push gX6_canBreakBehind_14 (v := (0, 0)) rfl ?_
    refine Z_sto gX6_canBreakBehind_15 rfl (ls' := [(1, ((t : Nat) : Int)), (0, i), (0, 0)]) (st' := []) rfl ?_
    refine Z_push gX6_canBreakBehind_16 (v := (0, 0)) rfl ?_
    refine Z_if_ne gX6_canBreakBehind_17 (tgt := 38) (by decide) (fun h17 => absurd h17 (by omega)) (fun _ => ?_)
    refine Z_push gX6_canBreakBehind_20 (v := (1, ((t : Nat) : Int))) rfl ?_
    refine Z_push gX6_canBreakBehind_21 (v := (0, i)) rfl ?_
    refine Z_callP (kd := 0) (na := 2) (M' := mX6_pinnedAt) gX6_canBreakBehind_22 rfl rfl rfl rfl rfl rfl (fun _ => rfl) rfl rfl (fun _ _ => zrecv_obj (by assumption) _ _ _) (d' := 1) (by decide) (vX6_pinnedAt (by assumption) _) ?_
    refine Z_if_eq gX6_canBreakBehind_25 (tgt := 38) (by decide) (fun h25 => ?_) (fun h25 => ?_)
    · refine Z_push gX6_canBreakBehind_38 (v := (0, 1)) rfl ?_
      refine Z_goto gX6_canBreakBehind_39 (tgt := 43) (by decide) ?_
      refine Z_retB gX6_canBreakBehind_43 rfl (by first | exact Or.inl rfl | exact Or.inr rfl | assumption | omega) _ ?_
      exact ⟨by unfold cbT; rw [if_pos (by omega)], rfl⟩
    · have hp2 := TR_pT hR hV (i := i + 1) (by omega)
      refine Z_push gX6_canBreakBehind_28 (v := (1, ((t : Nat) : Int))) rfl ?_
      refine Z_push gX6_canBreakBehind_29 (v := (0, i)) rfl ?_
      refine Z_push gX6_canBreakBehind_30 (v := (0, 1)) rfl ?_
      refine Z_iadd gX6_canBreakBehind_31 ⟨by omega, by omega⟩ ?_
      refine Z_callP (kd := 0) (na := 2) (M' := mX6_pinnedAt) gX6_canBreakBehind_32 rfl rfl rfl rfl rfl rfl (fun _ => rfl) rfl rfl (fun _ _ => zrecv_obj (by assumption) _ _ _) (d' := 1) (by decide) (vX6_pinnedAt (by assumption) _) ?_
      refine Z_if_ne gX6_canBreakBehind_35 (tgt := 42) (by decide) (fun h35 => ?_) (fun h35 => ?_)
      · refine Z_push gX6_canBreakBehind_42 (v := (0, 0)) rfl ?_
        refine Z_retB gX6_canBreakBehind_43 rfl (by first | exact Or.inl rfl | exact Or.inr rfl | assumption | omega) _ ?_
        exact ⟨by unfold cbT; rw [if_neg (by omega)], rfl⟩
      · refine Z_push gX6_canBreakBehind_38 (v := (0, 1)) rfl ?_
        refine Z_goto gX6_canBreakBehind_39 (tgt := 43) (by decide) ?_
        refine Z_retB gX6_canBreakBehind_43 rfl (by first | exact Or.inl rfl | exact Or.inr rfl | assumption | omega) _ ?_
        exact ⟨by unfold cbT; rw [if_pos (by omega)], rfl⟩
  · refine Z_push gX6_canBreakBehind_10 (v := (0, 1)) rfl ?_
    refine Z_goto gX6_canBreakBehind_11 (tgt := 15) (by decide) ?_
    refine Z_sto gX6_canBreakBehind_15 rfl (ls' := [(1, ((t : Nat) : Int)), (0, i), (0, 1)]) (st' := []) rfl ?_
    refine Z_push gX6_canBreakBehind_16 (v := (0, 1)) rfl ?_
    refine Z_if_ne gX6_canBreakBehind_17 (tgt := 38) (by decide) (fun _ => ?_) (fun h17 => absurd h17 (by omega))
    refine Z_push gX6_canBreakBehind_38 (v := (0, 1)) rfl ?_
    refine Z_goto gX6_canBreakBehind_39 (tgt := 43) (by decide) ?_
    refine Z_retB gX6_canBreakBehind_43 rfl (by first | exact Or.inl rfl | exact Or.inr rfl | assumption | omega) _ ?_
    exact ⟨by unfold cbT; rw [if_pos (by omega)], rfl⟩
/-- an entry written whole -/
def pe (w : zW) (t : Nat) (i k n l p : Int) : zW := zwr (zwr (zwr (zup w (t + 1) i.toNat k) (t + 2) 30 i n) (t + 3) 30 i l) (t + 4) 30 i p
theorem vX6_put (hT : TX t) {i k : Int} (n l : Int) {p : Int} (hi : 0 ≤ i ∧ i < 30) (hk : 0 ≤ k ∧ k < 65536) (hp : p = 0 ∨ p = 1) : Pw ro 1 mX6_put [(1, (t : Int)), (0, i), (0, k), (0, n), (0, l), (0, p)] w (pe w t i k n l p) := by
  obtain ⟨hL0, hL1, hL2, hL3, hL4, hp0, hp1, hp2, hp3, hp4⟩ := hT
  show Z ro 1 mX6_put 0 [(1, (t : Int)), (0, i), (0, k), (0, n), (0, l), (0, p)] [] w _
  refine Z_push gX6_put_0 (v := (0, i)) rfl ?_
  refine Z_if_lt gX6_put_1 (tgt := 20) (by decide) (fun h1 => absurd h1 (by omega)) (fun _ => ?_)
  refine Z_push gX6_put_4 (v := (0, i)) rfl ?_
  refine Z_push gX6_put_5 (v := (1, ((t : Nat) : Int))) rfl ?_
  refine Z_getR (b := t + 1) gX6_put_6 rfl (by assumption) (by decide) (by assumption) (by omega) ?_
  refine Z_len (len := 30) gX6_put_9 (by assumption) (by decide) ?_
  refine Z_icmp_ge gX6_put_10 (tgt := 20) (by decide) (fun h10 => absurd h10 (by omega)) (fun _ => ?_)
  refine Z_push gX6_put_13 (v := (1, ((t : Nat) : Int))) rfl ?_
  refine Z_getR (b := t + 1) gX6_put_14 rfl (by assumption) (by decide) (by assumption) (by omega) ?_
  refine Z_push gX6_put_17 (v := (0, i)) rfl ?_
  refine Z_push gX6_put_18 (v := (0, k)) rfl ?_
  refine Z_castore gX6_put_19 (by assumption) (by omega) (by omega) (by omega) ?_
  refine Z_push gX6_put_20 (v := (1, ((t : Nat) : Int))) rfl ?_
  refine Z_getR (b := t + 2) gX6_put_21 rfl (by assumption) (by decide) (by assumption) (by omega) ?_
  refine Z_push gX6_put_24 (v := (0, i)) rfl ?_
  refine Z_push gX6_put_25 (v := (0, n)) rfl ?_
  refine Z_callW (kd := 2) (na := 3) (M' := mX7_write) gX6_put_26 rfl rfl rfl rfl rfl rfl (fun _ => rfl) rfl rfl (fun _ _ => rfl) (d' := 0) (by decide) (vX7_write (len := 30) (by first | assumption | rfl) _ _) ?_
  refine Z_push gX6_put_29 (v := (1, ((t : Nat) : Int))) rfl ?_
  refine Z_getR (b := t + 3) gX6_put_30 rfl (by assumption) (by decide) (by assumption) (by omega) ?_
  refine Z_push gX6_put_33 (v := (0, i)) rfl ?_
  refine Z_push gX6_put_34 (v := (0, l)) rfl ?_
  refine Z_callW (kd := 2) (na := 3) (M' := mX7_write) gX6_put_36 rfl rfl rfl rfl rfl rfl (fun _ => rfl) rfl rfl (fun _ _ => rfl) (d' := 0) (by decide) (vX7_write (len := 30) (by first | assumption | rfl) _ _) ?_
  refine Z_push gX6_put_39 (v := (1, ((t : Nat) : Int))) rfl ?_
  refine Z_getR (b := t + 4) gX6_put_40 rfl (by assumption) (by decide) (by assumption) (by omega) ?_
  refine Z_push gX6_put_43 (v := (0, i)) rfl ?_
  refine Z_push gX6_put_44 (v := (0, p)) rfl ?_
  refine Z_callW (kd := 2) (na := 3) (M' := mX7_writeFlag) gX6_put_46 rfl rfl rfl rfl rfl rfl (fun _ => rfl) rfl rfl (fun _ _ => rfl) (d' := 0) (by decide) (vX7_writeFlag (len := 30) (by first | assumption | rfl) _ _ (by first | assumption | omega)) ?_
  refine Z_end gX6_put_49 rfl rfl rfl rfl (v := none) rfl ⟨rfl, none, rfl, ?_⟩
  exact ⟨rfl, rfl⟩
theorem pe_at {i k n l p : Int} (hi : 0 ≤ i ∧ i < 30) (a j : Nat) : pe w t i k n l p a j = if j = i.toNat ∧ a = t + 4 then p else if j = i.toNat ∧ a = t + 3 then l else if j = i.toNat ∧ a = t + 2 then n else if j = i.toNat ∧ a = t + 1 then k else w a j := by
  unfold pe zwr
  rw [if_pos (by omega), if_pos (by omega), if_pos (by omega)]
  unfold zup
  repeat' split
  all_goals first | rfl | omega
end
