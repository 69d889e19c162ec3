/-! the class's rules: weights, undone counts, what was fixed -/
abbrev zRu : Type := (Nat → Int) × (Nat → Int) × Int
def updN (f : Nat → Int) (j : Nat) (v : Int) : Nat → Int := fun k => if k = j then v else f k
/-- the class's rules hold R -/
def RR (w : zW) (R : zRu) : Prop := (∀ j, j < 5 → w 7 j = R.1 j) ∧ (∀ j, j < 5 → w 8 j = R.2.1 j) ∧ w 6 2 = R.2.2
/-- in range, the counts up to B -/
def RV (B : Int) (R : zRu) : Prop := (∀ j, j < 5 → 0 ≤ R.1 j ∧ R.1 j ≤ 99) ∧ (∀ j, j < 5 → 0 ≤ R.2.1 j ∧ R.2.1 j ≤ B) ∧ (0 ≤ R.2.2 ∧ R.2.2 ≤ B)
def rwR (R : zRu) (r : Nat) : zRu := (updN R.1 r (if R.1 r + 1 < 99 then R.1 r + 1 else 99), R.2.1, R.2.2 + 1)
def puR (R : zRu) (r : Nat) : zRu := (updN R.1 r (R.1 r - (R.1 r + 3).tdiv 4), updN R.2.1 r (R.2.1 r + 1), R.2.2)
def frR (w w' : zW) : Prop := ∀ a k, a ≠ 7 → a ≠ 8 → ¬ (a = 6 ∧ k = 2) → w' a k = w a k
theorem frR.refl (w : zW) : frR w w := fun _ _ _ _ _ => rfl
theorem frR.trans {a b c : zW} (h : frR a b) (k : frR b c) : frR a c := fun x y h1 h2 h3 => (k x y h1 h2 h3).trans (h x y h1 h2 h3)
def unS (R : zRu) : Nat → Int
  | 0 => 0
  | j + 1 => unS R j + R.2.1 j
def rkS (R : zRu) (r : Nat) : Nat → Int
  | 0 => 0
  | j + 1 => rkS R r j + (if R.1 r < R.1 j ∨ (R.1 j = R.1 r ∧ j < r) then 1 else 0)
theorem rkS_bd (R : zRu) (r : Nat) : ∀ j : Nat, 0 ≤ rkS R r j ∧ rkS R r j ≤ j
  | 0 => ⟨by simp [rkS], by simp [rkS]⟩
  | j + 1 => by
    have := rkS_bd R r j
    unfold rkS
    split <;> omega
section
variable {ro : zRo} {w : zW} {R : zRu} {B : Int}
theorem unS_bd (hV : RV B R) : ∀ j : Nat, j ≤ 5 → 0 ≤ unS R j ∧ unS R j ≤ j * B
  | 0, _ => ⟨by simp [unS], by simp [unS]⟩
  | j + 1, h => by
    have := unS_bd hV j (by omega)
    have := hV.2.1 j (by omega)
    unfold unS
    rw [show ((j + 1 : Nat) : Int) * B = (j : Int) * B + B by rw [Int.natCast_succ, Int.add_mul, Int.one_mul]]
    omega
theorem vX5_weightFor (hR : RR w R) {r : Nat} (hr : r < 5) : Pv ro 1 mX5_weightFor [(1, ((6 : Nat) : Int)), (0, (r : Int))] w (0, R.1 r) := by
  have e : rd w 7 5 (r : Int) = R.1 r := by unfold rd; rw [if_pos (by omega)]; exact hR.1 r hr
  show Z ro 1 mX5_weightFor 0 [(1, ((6 : Nat) : Int)), (0, (r : Int))] [] w _
  refine Z_push gX5_weightFor_0 (v := (1, ((6 : Nat) : Int))) rfl ?_
  refine Z_getR (b := 7) gX5_weightFor_1 rfl rfl (by decide) rfl (by omega) ?_
  refine Z_push gX5_weightFor_4 (v := (0, (r : Int))) rfl ?_
  refine Z_callP (kd := 2) (na := 2) (M' := mX7_read) gX5_weightFor_5 rfl rfl rfl rfl rfl rfl (fun _ => rfl) rfl rfl (fun _ _ => rfl) (d' := 0) (by decide) (vX7_read (len := 5) (by first | assumption | rfl) _) ?_
  refine Z_ret (v := (0, rd w 7 5 (r : Int))) gX5_weightFor_8 rfl rfl rfl rfl rfl _ ?_
  exact ⟨by rw [e], rfl⟩
theorem vX5_undoneFor (hR : RR w R) {r : Nat} (hr : r < 5) : Pv ro 1 mX5_undoneFor [(1, ((6 : Nat) : Int)), (0, (r : Int))] w (0, R.2.1 r) := by
  have e : rd w 8 5 (r : Int) = R.2.1 r := by unfold rd; rw [if_pos (by omega)]; exact hR.2.1 r hr
  show Z ro 1 mX5_undoneFor 0 [(1, ((6 : Nat) : Int)), (0, (r : Int))] [] w _
  refine Z_push gX5_undoneFor_0 (v := (1, ((6 : Nat) : Int))) rfl ?_
  refine Z_getR (b := 8) gX5_undoneFor_1 rfl rfl (by decide) rfl (by omega) ?_
  refine Z_push gX5_undoneFor_4 (v := (0, (r : Int))) rfl ?_
  refine Z_callP (kd := 2) (na := 2) (M' := mX7_read) gX5_undoneFor_5 rfl rfl rfl rfl rfl rfl (fun _ => rfl) rfl rfl (fun _ _ => rfl) (d' := 0) (by decide) (vX7_read (len := 5) (by first | assumption | rfl) _) ?_
  refine Z_ret (v := (0, rd w 8 5 (r : Int))) gX5_undoneFor_8 rfl rfl rfl rfl rfl _ ?_
  exact ⟨by rw [e], rfl⟩
theorem vX5_rankFor (hR : RR w R) (hV : RV B R) {r : Nat} (hr : r < 5) : Pv ro 2 mX5_rankFor [(1, ((6 : Nat) : Int)), (0, (r : Int))] w (0, rkS R r 5) := by
  have loop : ∀ k j : Nat, j + k = 5 → ∀ v1 v2, Z ro 2 mX5_rankFor 4 [(1, ((6 : Nat) : Int)), (0, (r : Int)), (0, rkS R r j), (0, (j : Int)), (v1, v2)] [] w (fun r9 w' k => k = 0 ∧ ∃ o, r9 = .inl o ∧ (o = some (0, rkS R r 5) ∧ w' = w)) := by
    intro k
    induction k with
    | zero =>
      intro j hj v1 v2
      refine Z_push gX5_rankFor_4 (v := (0, (j : Int))) rfl ?_
      refine Z_push gX5_rankFor_5 (v := (0, 5)) rfl ?_
      refine Z_icmp_ge gX5_rankFor_6 (tgt := 46) (by decide) (fun _ => ?_) (fun h6 => absurd h6 (by omega))
      refine Z_push gX5_rankFor_46 (v := (0, rkS R r j)) rfl ?_
      refine Z_ret (v := (0, rkS R r j)) gX5_rankFor_47 rfl rfl rfl rfl rfl _ ?_
      exact ⟨by rw [show j = 5 by omega], rfl⟩
    | succ k ih =>
      intro j hj v1 v2
      have hb := rkS_bd R r j
      have h1 := hV.1 j (by omega)
      have h2 := hV.1 r hr
      have hn := ih (j + 1) (by omega)
      rw [show ((j + 1 : Nat) : Int) = (j : Int) + 1 from rfl, show rkS R r (j + 1) = rkS R r j + (if R.1 r < R.1 j ∨ (R.1 j = R.1 r ∧ j < r) then 1 else 0) from rfl] at hn
      refine Z_push gX5_rankFor_4 (v := (0, (j : Int))) rfl ?_
      refine Z_push gX5_rankFor_5 (v := (0, 5)) rfl ?_
      refine Z_icmp_ge gX5_rankFor_6 (tgt := 46) (by decide) (fun h6 => absurd h6 (by omega)) (fun _ => ?_)
      refine Z_push gX5_rankFor_9 (v := (1, ((6 : Nat) : Int))) rfl ?_
      refine Z_push gX5_rankFor_10 (v := (0, (j : Int))) rfl ?_
      refine Z_callP (kd := 0) (na := 2) (M' := mX5_weightFor) gX5_rankFor_11 rfl rfl rfl rfl rfl rfl (fun _ => rfl) rfl rfl (fun _ _ => zrecv_obj rfl _ _ _) (d' := 1) (by decide) (vX5_weightFor hR (show j < 5 by omega)) ?_
      refine Z_push gX5_rankFor_14 (v := (1, ((6 : Nat) : Int))) rfl ?_
      refine Z_push gX5_rankFor_15 (v := (0, (r : Int))) rfl ?_
      refine Z_callP (kd := 0) (na := 2) (M' := mX5_weightFor) gX5_rankFor_16 rfl rfl rfl rfl rfl rfl (fun _ => rfl) rfl rfl (fun _ _ => zrecv_obj rfl _ _ _) (d' := 1) (by decide) (vX5_weightFor hR hr) ?_
      refine Z_isub gX5_rankFor_19 ⟨by omega, by omega⟩ ?_
      refine Z_sto gX5_rankFor_20 rfl (ls' := [(1, ((6 : Nat) : Int)), (0, (r : Int)), (0, rkS R r j), (0, (j : Int)), (0, (R.1 j) - (R.1 r))]) (st' := []) rfl ?_
      refine Z_push gX5_rankFor_22 (v := (0, (R.1 j) - (R.1 r))) rfl ?_
      refine Z_if_gt gX5_rankFor_24 (tgt := 37) (by decide) (fun h24 => ?_) (fun h24 => ?_)
      · refine Z_iinc gX5_rankFor_37 rfl ⟨by omega, by omega⟩ (ls' := [(1, ((6 : Nat) : Int)), (0, (r : Int)), (0, rkS R r j + 1), (0, (j : Int)), (0, (R.1 j) - (R.1 r))]) rfl ?_
        refine Z_iinc gX5_rankFor_40 rfl ⟨by omega, by omega⟩ (ls' := [(1, ((6 : Nat) : Int)), (0, (r : Int)), (0, rkS R r j + 1), (0, (j : Int) + 1), (0, (R.1 j) - (R.1 r))]) rfl ?_
        refine Z_goto gX5_rankFor_43 (tgt := 4) (by decide) ?_
        rw [if_pos (by omega)] at hn
        exact hn _ _
      · refine Z_push gX5_rankFor_27 (v := (0, (R.1 j) - (R.1 r))) rfl ?_
        refine Z_if_ne gX5_rankFor_29 (tgt := 40) (by decide) (fun h29 => ?_) (fun h29 => ?_)
        · refine Z_iinc gX5_rankFor_40 rfl ⟨by omega, by omega⟩ (ls' := [(1, ((6 : Nat) : Int)), (0, (r : Int)), (0, rkS R r j), (0, (j : Int) + 1), (0, (R.1 j) - (R.1 r))]) rfl ?_
          refine Z_goto gX5_rankFor_43 (tgt := 4) (by decide) ?_
          rw [if_neg (by omega), Int.add_zero] at hn
          exact hn _ _
        · refine Z_push gX5_rankFor_32 (v := (0, (j : Int))) rfl ?_
          refine Z_push gX5_rankFor_33 (v := (0, (r : Int))) rfl ?_
          refine Z_icmp_ge gX5_rankFor_34 (tgt := 40) (by decide) (fun h34 => ?_) (fun h34 => ?_)
          · refine Z_iinc gX5_rankFor_40 rfl ⟨by omega, by omega⟩ (ls' := [(1, ((6 : Nat) : Int)), (0, (r : Int)), (0, rkS R r j), (0, (j : Int) + 1), (0, (R.1 j) - (R.1 r))]) rfl ?_
            refine Z_goto gX5_rankFor_43 (tgt := 4) (by decide) ?_
            rw [if_neg (by omega), Int.add_zero] at hn
            exact hn _ _
          · refine Z_iinc gX5_rankFor_37 rfl ⟨by omega, by omega⟩ (ls' := [(1, ((6 : Nat) : Int)), (0, (r : Int)), (0, rkS R r j + 1), (0, (j : Int)), (0, (R.1 j) - (R.1 r))]) rfl ?_
            refine Z_iinc gX5_rankFor_40 rfl ⟨by omega, by omega⟩ (ls' := [(1, ((6 : Nat) : Int)), (0, (r : Int)), (0, rkS R r j + 1), (0, (j : Int) + 1), (0, (R.1 j) - (R.1 r))]) rfl ?_
            refine Z_goto gX5_rankFor_43 (tgt := 4) (by decide) ?_
            rw [if_pos (by omega)] at hn
            exact hn _ _
  show Z ro 2 mX5_rankFor 0 [(1, ((6 : Nat) : Int)), (0, (r : Int)), (9, 0), (9, 0), (9, 0)] [] w _
  refine Z_push gX5_rankFor_0 (v := (0, 0)) rfl ?_
  refine Z_sto gX5_rankFor_1 rfl (ls' := [(1, ((6 : Nat) : Int)), (0, (r : Int)), (0, 0), (9, 0), (9, 0)]) (st' := []) rfl ?_
  refine Z_push gX5_rankFor_2 (v := (0, 0)) rfl ?_
  refine Z_sto gX5_rankFor_3 rfl (ls' := [(1, ((6 : Nat) : Int)), (0, (r : Int)), (0, 0), (0, 0), (9, 0)]) (st' := []) rfl ?_
  exact loop 5 0 rfl _ _
end
