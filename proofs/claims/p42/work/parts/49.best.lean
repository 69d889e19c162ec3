/-! the best set -/
/-- the sums by the findings' numbers -/
def SR (w : zW) (T : zTx) (R : zRu) : Prop := ∀ k, w 87 (fdN T k) = sE T R k
/-- which ones are chosen -/
def CHR (w : zW) (T : zTx) (R : zRu) : Prop := ∀ j, rlT T j ≠ -1 → w 88 (fdN T j) = b2i (bsT T R j)
def frB (w w' : zW) : Prop := ∀ a k, a ≠ 87 → a ≠ 88 → w' a k = w a k
theorem frB.refl (w : zW) : frB w w := fun _ _ _ _ => rfl
theorem frB.trans {a b c : zW} (h : frB a b) (k : frB b c) : frB a c := fun x y h1 h2 => (k x y h1 h2).trans (h x y h1 h2)
section
variable {ro : zRo} {w : zW} {T : zTx} {R : zRu} {B : Int}
theorem FR_frB {W : zW} {n : Nat} (h : FR w T R n) (f : frB w W) : FR W T R n := ⟨(f _ _ (by omega) (by omega)).trans h.1, fun j hj hr => by
  obtain ⟨a, b, c, e⟩ := h.2 j hj hr
  exact ⟨(f _ _ (by omega) (by omega)).trans a, (f _ _ (by omega) (by omega)).trans b, (f _ _ (by omega) (by omega)).trans c, (f _ _ (by omega) (by omega)).trans e⟩⟩
theorem fdN_30 (hV : TV T) (k : Nat) : fdN T k ≤ 30 := by
  have h1 := fdN_le T T.1
  have h2 := hV.1
  by_cases h : k ≤ T.1
  · have := fdN_mono' T h; omega
  · have := fdN_end T (k - T.1)
    rw [show T.1 + (k - T.1) = k by omega] at this
    omega
theorem vX0_sumWith (hF : FR w T R T.1) (hV : TV T) (hRV : RV B R) {j : Nat} (hj : rlT T j ≠ -1) (hS : ∀ k, fdN T j < fdN T k → w 87 (fdN T k) = sE T R k) : Pv ro 2 mX0_sumWith [(1, ((86 : Nat) : Int)), (1, ((81 : Nat) : Int)), (0, (fdN T j : Int))] w (0, gnT T R j + sE T R (enT T j + 1)) := by
  have hV1 := hV.1
  have hen := en_gt T j
  have hel := en_lt hj
  have hlt := (fdN_lt (k := enT T j + 1) hj).mpr (by omega)
  have hle := fdN_mono' T (j := enT T j + 1) (k := T.1) (by omega)
  have h30 := fdN_30 hV T.1
  have hg := gn_bd hRV T j
  have hs := sE_bd' (T := T) hRV hV1 (enT T j + 1)
  have fin : Z ro 2 mX0_sumWith 31 [(1, ((86 : Nat) : Int)), (1, ((81 : Nat) : Int)), (0, (fdN T j : Int)), (0, (fdN T (enT T j + 1) : Int))] [] w (fun r9 w' k => k = 0 ∧ ∃ o, r9 = .inl o ∧ (o = some (0, gnT T R j + sE T R (enT T j + 1)) ∧ w' = w)) := by
    refine Z_push gX0_sumWith_31 (v := (1, ((81 : Nat) : Int))) rfl ?_
    refine Z_push gX0_sumWith_32 (v := (0, (fdN T j : Int))) rfl ?_
    refine Z_callP (kd := 0) (na := 2) (M' := mX3_gain) gX0_sumWith_33 rfl rfl rfl rfl rfl rfl (fun _ => rfl) rfl rfl (fun _ _ => zrecv_obj rfl _ _ _) (d' := 1) (by omega) (vX3_gain hF hV hj) ?_
    refine Z_push gX0_sumWith_36 (v := (1, ((86 : Nat) : Int))) rfl ?_
    refine Z_getR (b := 87) gX0_sumWith_37 rfl rfl (by decide) rfl (by omega) ?_
    refine Z_push gX0_sumWith_40 (v := (0, (fdN T (enT T j + 1) : Int))) rfl ?_
    refine Z_callP (kd := 2) (na := 2) (M' := mX7_read) gX0_sumWith_41 rfl rfl rfl rfl rfl rfl (fun _ => rfl) rfl rfl (fun _ _ => rfl) (d' := 0) (by omega) (vX7_readN (len := 31) rfl (by omega) (hS _ hlt)) ?_
    refine Z_iadd gX0_sumWith_44 ⟨by omega, by omega⟩ ?_
    refine Z_ret (v := (0, (gnT T R j) + (sE T R (enT T j + 1)))) gX0_sumWith_45 rfl rfl rfl rfl rfl _ ?_
    exact ⟨rfl, rfl⟩
  have loop : ∀ m q : Nat, q + m = fdN T (enT T j + 1) → fdN T j < q → Z ro 2 mX0_sumWith 4 [(1, ((86 : Nat) : Int)), (1, ((81 : Nat) : Int)), (0, (fdN T j : Int)), (0, (q : Int))] [] w (fun r9 w' k => k = 0 ∧ ∃ o, r9 = .inl o ∧ (o = some (0, gnT T R j + sE T R (enT T j + 1)) ∧ w' = w)) := by
    intro m
    induction m with
    | zero =>
      intro q hq hjq
      obtain rfl : q = fdN T (enT T j + 1) := by omega
      refine Z_push gX0_sumWith_4 (v := (0, (fdN T (enT T j + 1) : Int))) rfl ?_
      refine Z_push gX0_sumWith_5 (v := (1, ((81 : Nat) : Int))) rfl ?_
      refine Z_callP (kd := 0) (na := 1) (M' := mX3_count) gX0_sumWith_6 rfl rfl rfl rfl rfl rfl (fun _ => rfl) rfl rfl (fun _ _ => zrecv_obj rfl _ _ _) (d' := 0) (by omega) (vX3_count hF.1) ?_
      refine Z_icmp_ge gX0_sumWith_9 (tgt := 31) (by decide) (fun h9 => ?_) (fun h9 => ?_)
      · exact fin
      · obtain ⟨j2, b1, b2, b3⟩ := fdN_ex (T := T) (i := fdN T (enT T j + 1)) (n := T.1) (by omega)
        have b4 := fdN_lt (k := enT T j + 1) b2
        refine Z_push gX0_sumWith_12 (v := (1, ((81 : Nat) : Int))) rfl ?_
        refine Z_push gX0_sumWith_13 (v := (0, (fdN T (enT T j + 1) : Int))) rfl ?_
        refine Z_callP (kd := 0) (na := 2) (M' := mX3_first) gX0_sumWith_14 rfl rfl rfl rfl rfl rfl (fun _ => rfl) rfl rfl (fun _ _ => zrecv_obj rfl _ _ _) (d' := 1) (by omega) (b3 ▸ vX3_first hF hV b2) ?_
        refine Z_push gX0_sumWith_17 (v := (1, ((81 : Nat) : Int))) rfl ?_
        refine Z_push gX0_sumWith_18 (v := (0, (fdN T j : Int))) rfl ?_
        refine Z_callP (kd := 0) (na := 2) (M' := mX3_last) gX0_sumWith_19 rfl rfl rfl rfl rfl rfl (fun _ => rfl) rfl rfl (fun _ _ => zrecv_obj rfl _ _ _) (d' := 1) (by omega) (vX3_last hF hV hj) ?_
        refine Z_icmp_gt gX0_sumWith_22 (tgt := 31) (by decide) (fun _ => ?_) (fun h22 => absurd h22 (by omega))
        exact fin
    | succ m ih =>
      intro q hq hjq
      obtain ⟨j2, b1, b2, rfl⟩ := fdN_ex (T := T) (i := q) (n := T.1) (by omega)
      have b4 := fdN_lt (k := enT T j + 1) b2
      refine Z_push gX0_sumWith_4 (v := (0, (fdN T j2 : Int))) rfl ?_
      refine Z_push gX0_sumWith_5 (v := (1, ((81 : Nat) : Int))) rfl ?_
      refine Z_callP (kd := 0) (na := 1) (M' := mX3_count) gX0_sumWith_6 rfl rfl rfl rfl rfl rfl (fun _ => rfl) rfl rfl (fun _ _ => zrecv_obj rfl _ _ _) (d' := 0) (by omega) (vX3_count hF.1) ?_
      refine Z_icmp_ge gX0_sumWith_9 (tgt := 31) (by decide) (fun h9 => absurd h9 (by omega)) (fun _ => ?_)
      refine Z_push gX0_sumWith_12 (v := (1, ((81 : Nat) : Int))) rfl ?_
      refine Z_push gX0_sumWith_13 (v := (0, (fdN T j2 : Int))) rfl ?_
      refine Z_callP (kd := 0) (na := 2) (M' := mX3_first) gX0_sumWith_14 rfl rfl rfl rfl rfl rfl (fun _ => rfl) rfl rfl (fun _ _ => zrecv_obj rfl _ _ _) (d' := 1) (by omega) (vX3_first hF hV b2) ?_
      refine Z_push gX0_sumWith_17 (v := (1, ((81 : Nat) : Int))) rfl ?_
      refine Z_push gX0_sumWith_18 (v := (0, (fdN T j : Int))) rfl ?_
      refine Z_callP (kd := 0) (na := 2) (M' := mX3_last) gX0_sumWith_19 rfl rfl rfl rfl rfl rfl (fun _ => rfl) rfl rfl (fun _ _ => zrecv_obj rfl _ _ _) (d' := 1) (by omega) (vX3_last hF hV hj) ?_
      refine Z_icmp_gt gX0_sumWith_22 (tgt := 31) (by decide) (fun h22 => absurd h22 (by omega)) (fun _ => ?_)
      refine Z_iinc gX0_sumWith_25 rfl ⟨by omega, by omega⟩ (ls' := [(1, ((86 : Nat) : Int)), (1, ((81 : Nat) : Int)), (0, (fdN T j : Int)), (0, (fdN T j2 : Int) + 1)]) rfl ?_
      refine Z_goto gX0_sumWith_28 (tgt := 4) (by decide) ?_
      exact ih (fdN T j2 + 1) (by omega) (by omega)
  show Z ro 2 mX0_sumWith 0 [(1, ((86 : Nat) : Int)), (1, ((81 : Nat) : Int)), (0, (fdN T j : Int)), (9, 0)] [] w _
  refine Z_push gX0_sumWith_0 (v := (0, (fdN T j : Int))) rfl ?_
  refine Z_push gX0_sumWith_1 (v := (0, 1)) rfl ?_
  refine Z_iadd gX0_sumWith_2 ⟨by omega, by omega⟩ ?_
  refine Z_sto gX0_sumWith_3 rfl (ls' := [(1, ((86 : Nat) : Int)), (1, ((81 : Nat) : Int)), (0, (fdN T j : Int)), (0, (fdN T j : Int) + 1)]) (st' := []) rfl ?_
  exact loop (fdN T (enT T j + 1) - (fdN T j + 1)) (fdN T j + 1) (by omega) (by omega)
theorem vX0_sumUp (hF : FR w T R T.1) (hV : TV T) (hRV : RV B R) : Ev ro 3 mX0_sumUp [(1, ((86 : Nat) : Int)), (1, ((81 : Nat) : Int))] w (fun o w' => o = none ∧ SR w' T R ∧ frB w w') := by
  have hV1 := hV.1
  have h30 := fdN_30 hV T.1
  have hall : ∀ k, fdN T k ≤ fdN T T.1 := fun k => by
    by_cases h : k ≤ T.1
    · exact fdN_mono' T h
    · have := fdN_end T (k - T.1)
      rw [show T.1 + (k - T.1) = k by omega] at this
      omega
  have loop : ∀ i : Nat, i ≤ fdN T T.1 → ∀ W : zW, (∀ k, i ≤ fdN T k → W 87 (fdN T k) = sE T R k) → frB w W → Z ro 3 mX0_sumUp 19 [(1, ((86 : Nat) : Int)), (1, ((81 : Nat) : Int)), (0, (i : Int) - 1)] [] W (fun r9 w' k => k = 0 ∧ ∃ o, r9 = .inl o ∧ (o = none ∧ SR w' T R ∧ frB w w')) := by
    intro i
    induction i with
    | zero =>
      intro hi W hW hf
      refine Z_push gX0_sumUp_19 (v := (0, ((0 : Nat) : Int) - 1)) rfl ?_
      refine Z_if_lt gX0_sumUp_20 (tgt := 56) (by decide) (fun _ => ?_) (fun h20 => absurd h20 (by omega))
      refine Z_end gX0_sumUp_56 rfl rfl rfl rfl (v := none) rfl ⟨rfl, none, rfl, ?_⟩
      exact ⟨rfl, fun k => hW k (Nat.zero_le _), hf⟩
    | succ i ih =>
      intro hi W hW hf
      rw [show ((i + 1 : Nat) : Int) - 1 = (i : Int) by omega]
      obtain ⟨j, b1, b2, rfl⟩ := fdN_ex (T := T) (i := i) (n := T.1) (by omega)
      have hFW := FR_frB hF hf
      have e1 : W 87 (fdN T j + 1) = sE T R (j + 1) := by
        have := hW (j + 1) (by rw [fdN_s b2]; omega)
        rw [fdN_s b2] at this
        exact this
      refine Z_push gX0_sumUp_19 (v := (0, (fdN T j : Int))) rfl ?_
      refine Z_if_lt gX0_sumUp_20 (tgt := 56) (by decide) (fun h20 => absurd h20 (by omega)) (fun _ => ?_)
      refine Z_push gX0_sumUp_23 (v := (1, ((86 : Nat) : Int))) rfl ?_
      refine Z_getR (b := 87) gX0_sumUp_24 rfl rfl (by decide) rfl (by omega) ?_
      refine Z_push gX0_sumUp_27 (v := (0, (fdN T j : Int))) rfl ?_
      refine Z_push gX0_sumUp_28 (v := (1, ((86 : Nat) : Int))) rfl ?_
      refine Z_getR (b := 87) gX0_sumUp_29 rfl rfl (by decide) rfl (by omega) ?_
      refine Z_push gX0_sumUp_32 (v := (0, (fdN T j : Int))) rfl ?_
      refine Z_push gX0_sumUp_33 (v := (0, 1)) rfl ?_
      refine Z_iadd gX0_sumUp_34 ⟨by omega, by omega⟩ ?_
      refine Z_callP (kd := 2) (na := 2) (M' := mX7_read) gX0_sumUp_35 rfl rfl rfl rfl rfl rfl (fun _ => rfl) rfl rfl (fun _ _ => rfl) (d' := 0) (by omega) (vX7_readN (len := 31) (i := fdN T j + 1) rfl (by omega) e1) ?_
      refine Z_push gX0_sumUp_38 (v := (1, ((86 : Nat) : Int))) rfl ?_
      refine Z_push gX0_sumUp_39 (v := (1, ((81 : Nat) : Int))) rfl ?_
      refine Z_push gX0_sumUp_40 (v := (0, (fdN T j : Int))) rfl ?_
      refine Z_callP (kd := 0) (na := 3) (M' := mX0_sumWith) gX0_sumUp_41 rfl rfl rfl rfl rfl rfl (fun _ => rfl) rfl rfl (fun _ _ => zrecv_obj rfl _ _ _) (d' := 2) (by omega) (vX0_sumWith hFW hV hRV b2 (fun k hk => hW k hk)) ?_
      refine Z_arith gX0_sumUp_44 rfl rfl (v := [(0, (if sE T R (j + 1) < gnT T R j + sE T R (enT T j + 1) then gnT T R j + sE T R (enT T j + 1) else sE T R (j + 1))), (0, (fdN T j : Int)), (1, ((87 : Nat) : Int))]) rfl ?_
      refine Z_callW (kd := 2) (na := 3) (M' := mX7_write) gX0_sumUp_47 rfl rfl rfl rfl rfl rfl (fun _ => rfl) rfl rfl (fun _ _ => rfl) (d' := 0) (by omega) (vX7_writeN (len := 31) rfl (by omega) _) ?_
      refine Z_iinc gX0_sumUp_50 rfl ⟨by omega, by omega⟩ (ls' := [(1, ((86 : Nat) : Int)), (1, ((81 : Nat) : Int)), (0, (fdN T j : Int) + (-1))]) rfl ?_
      refine Z_goto gX0_sumUp_53 (tgt := 19) (by decide) ?_
      rw [show (fdN T j : Int) + (-1) = (fdN T j : Int) - 1 by omega]
      refine ih (by omega) _ (fun k hk => ?_) (hf.trans (fun a k h1 h2 => zup_ne (fun h => h1 h.1)))
      by_cases e : fdN T k = fdN T j
      · rw [e, zup_eq, ← sE_f b2]
        exact (plat (f := sE T R) (fun q hq => (sE_n hq).symm) e).symm
      · rw [zup_ne (fun h => e h.2)]
        exact hW k (by omega)
  show Z ro 3 mX0_sumUp 0 [(1, ((86 : Nat) : Int)), (1, ((81 : Nat) : Int)), (9, 0)] [] w _
  have f0 : frB w (zup w 87 (fdN T T.1) 0) := fun a k h1 h2 => zup_ne (fun h => h1 h.1)
  refine Z_push gX0_sumUp_0 (v := (1, ((86 : Nat) : Int))) rfl ?_
  refine Z_getR (b := 87) gX0_sumUp_1 rfl rfl (by decide) rfl (by omega) ?_
  refine Z_push gX0_sumUp_4 (v := (1, ((81 : Nat) : Int))) rfl ?_
  refine Z_callP (kd := 0) (na := 1) (M' := mX3_count) gX0_sumUp_5 rfl rfl rfl rfl rfl rfl (fun _ => rfl) rfl rfl (fun _ _ => zrecv_obj rfl _ _ _) (d' := 0) (by omega) (vX3_count hF.1) ?_
  refine Z_push gX0_sumUp_8 (v := (0, 0)) rfl ?_
  refine Z_callW (kd := 2) (na := 3) (M' := mX7_write) gX0_sumUp_9 rfl rfl rfl rfl rfl rfl (fun _ => rfl) rfl rfl (fun _ _ => rfl) (d' := 0) (by omega) (vX7_writeN (len := 31) rfl (by omega) _) ?_
  refine Z_push gX0_sumUp_12 (v := (1, ((81 : Nat) : Int))) rfl ?_
  refine Z_callP (kd := 0) (na := 1) (M' := mX3_count) gX0_sumUp_13 rfl rfl rfl rfl rfl rfl (fun _ => rfl) rfl rfl (fun _ _ => zrecv_obj rfl _ _ _) (d' := 0) (by omega) (vX3_count (FR_frB hF f0).1) ?_
  refine Z_push gX0_sumUp_16 (v := (0, 1)) rfl ?_
  refine Z_isub gX0_sumUp_17 ⟨by omega, by omega⟩ ?_
  refine Z_sto gX0_sumUp_18 rfl (ls' := [(1, ((86 : Nat) : Int)), (1, ((81 : Nat) : Int)), (0, (fdN T T.1 : Int) - 1)]) (st' := []) rfl ?_
  refine loop _ (Nat.le_refl _) _ (fun k hk => ?_) f0
  have e : fdN T k = fdN T T.1 := Nat.le_antisymm (hall k) hk
  rw [e, zup_eq]
  exact ((plat (f := sE T R) (fun q hq => (sE_n hq).symm) e).trans (sE_end (Nat.le_refl _))).symm
theorem vX0_isWorthTaking (hF : FR w T R T.1) (hV : TV T) (hRV : RV B R) (hS : SR w T R) {j : Nat} (hj : rlT T j ≠ -1) : Pv ro 3 mX0_isWorthTaking [(1, ((86 : Nat) : Int)), (1, ((81 : Nat) : Int)), (0, (fdN T j : Int))] w (0, b2i (decide (0 < gnT T R j ∧ gnT T R j + sE T R (enT T j + 1) = sE T R j))) := by
  have h30 := fdN_30 hV j
  show Z ro 3 mX0_isWorthTaking 0 [(1, ((86 : Nat) : Int)), (1, ((81 : Nat) : Int)), (0, (fdN T j : Int))] [] w _
  refine Z_push gX0_isWorthTaking_0 (v := (1, ((81 : Nat) : Int))) rfl ?_
  refine Z_push gX0_isWorthTaking_1 (v := (0, (fdN T j : Int))) rfl ?_
  refine Z_callP (kd := 0) (na := 2) (M' := mX3_gain) gX0_isWorthTaking_2 rfl rfl rfl rfl rfl rfl (fun _ => rfl) rfl rfl (fun _ _ => zrecv_obj rfl _ _ _) (d' := 1) (by omega) (vX3_gain hF hV hj) ?_
  refine Z_if_le gX0_isWorthTaking_5 (tgt := 29) (by decide) (fun h5 => ?_) (fun h5 => ?_)
  · refine Z_push gX0_isWorthTaking_29 (v := (0, 0)) rfl ?_
    refine Z_retB gX0_isWorthTaking_30 rfl (by first | exact Or.inl rfl | exact Or.inr rfl | assumption | omega) _ ?_
    exact ⟨by rw [decide_eq_false (fun h => by omega)]; rfl, rfl⟩
  · refine Z_push gX0_isWorthTaking_8 (v := (1, ((86 : Nat) : Int))) rfl ?_
    refine Z_push gX0_isWorthTaking_9 (v := (1, ((81 : Nat) : Int))) rfl ?_
    refine Z_push gX0_isWorthTaking_10 (v := (0, (fdN T j : Int))) rfl ?_
    refine Z_callP (kd := 0) (na := 3) (M' := mX0_sumWith) gX0_isWorthTaking_11 rfl rfl rfl rfl rfl rfl (fun _ => rfl) rfl rfl (fun _ _ => zrecv_obj rfl _ _ _) (d' := 2) (by omega) (vX0_sumWith hF hV hRV hj (fun k hk => hS k)) ?_
    refine Z_push gX0_isWorthTaking_14 (v := (1, ((86 : Nat) : Int))) rfl ?_
    refine Z_getR (b := 87) gX0_isWorthTaking_15 rfl rfl (by decide) rfl (by omega) ?_
    refine Z_push gX0_isWorthTaking_18 (v := (0, (fdN T j : Int))) rfl ?_
    refine Z_callP (kd := 2) (na := 2) (M' := mX7_read) gX0_isWorthTaking_19 rfl rfl rfl rfl rfl rfl (fun _ => rfl) rfl rfl (fun _ _ => rfl) (d' := 0) (by omega) (vX7_readN (len := 31) rfl (by omega) (hS j)) ?_
    refine Z_icmp_ne gX0_isWorthTaking_22 (tgt := 29) (by decide) (fun h22 => ?_) (fun h22 => ?_)
    · refine Z_push gX0_isWorthTaking_29 (v := (0, 0)) rfl ?_
      refine Z_retB gX0_isWorthTaking_30 rfl (by first | exact Or.inl rfl | exact Or.inr rfl | assumption | omega) _ ?_
      exact ⟨by rw [decide_eq_false (fun h => h22 h.2)]; rfl, rfl⟩
    · refine Z_push gX0_isWorthTaking_25 (v := (0, 1)) rfl ?_
      refine Z_goto gX0_isWorthTaking_26 (tgt := 30) (by decide) ?_
      refine Z_retB gX0_isWorthTaking_30 rfl (by first | exact Or.inl rfl | exact Or.inr rfl | assumption | omega) _ ?_
      exact ⟨by rw [decide_eq_true ⟨by omega, h22⟩]; rfl, rfl⟩
theorem vX0_choose (hF : FR w T R T.1) (hV : TV T) (hRV : RV B R) : Ev ro 4 mX0_choose [(1, ((86 : Nat) : Int)), (1, ((81 : Nat) : Int))] w (fun o w' => o = none ∧ SR w' T R ∧ CHR w' T R ∧ frB w w') := by
  have hV1 := hV.1
  have h30 := fdN_30 hV T.1
  have tail : ∀ m i : Nat, i + m = 30 → fdN T T.1 ≤ i → ∀ (fr : Int) (v : zV) (W : zW), SR W T R → CHR W T R → frB w W → Z ro 4 mX0_choose 9 [(1, ((86 : Nat) : Int)), (1, ((81 : Nat) : Int)), (0, fr), (0, (i : Int)), v] [] W (fun r9 w' k => k = 0 ∧ ∃ o, r9 = .inl o ∧ (o = none ∧ SR w' T R ∧ CHR w' T R ∧ frB w w')) := by
    intro m
    induction m with
    | zero =>
      intro i hi hc fr v W h1 h2 h3
      obtain ⟨v1, v2⟩ := v
      refine Z_push gX0_choose_9 (v := (0, (i : Int))) rfl ?_
      refine Z_push gX0_choose_10 (v := (0, 30)) rfl ?_
      refine Z_icmp_ge gX0_choose_12 (tgt := 77) (by decide) (fun _ => ?_) (fun h12 => absurd h12 (by omega))
      refine Z_end gX0_choose_77 rfl rfl rfl rfl (v := none) rfl ⟨rfl, none, rfl, ?_⟩
      exact ⟨rfl, h1, h2, h3⟩
    | succ m ih =>
      intro i hi hc fr v W h1 h2 h3
      obtain ⟨v1, v2⟩ := v
      refine Z_push gX0_choose_9 (v := (0, (i : Int))) rfl ?_
      refine Z_push gX0_choose_10 (v := (0, 30)) rfl ?_
      refine Z_icmp_ge gX0_choose_12 (tgt := 77) (by decide) (fun h12 => absurd h12 (by omega)) (fun _ => ?_)
      refine Z_push gX0_choose_15 (v := (0, (i : Int))) rfl ?_
      refine Z_push gX0_choose_16 (v := (1, ((81 : Nat) : Int))) rfl ?_
      refine Z_callP (kd := 0) (na := 1) (M' := mX3_count) gX0_choose_17 rfl rfl rfl rfl rfl rfl (fun _ => rfl) rfl rfl (fun _ _ => zrecv_obj rfl _ _ _) (d' := 0) (by omega) (vX3_count (FR_frB hF h3).1) ?_
      refine Z_icmp_ge gX0_choose_20 (tgt := 45) (by decide) (fun _ => ?_) (fun h20 => absurd h20 (by omega))
      refine Z_push gX0_choose_45 (v := (0, 0)) rfl ?_
      refine Z_sto gX0_choose_46 rfl (ls' := [(1, ((86 : Nat) : Int)), (1, ((81 : Nat) : Int)), (0, fr), (0, (i : Int)), (0, 0)]) (st' := []) rfl ?_
      refine Z_push gX0_choose_48 (v := (1, ((86 : Nat) : Int))) rfl ?_
      refine Z_getR (b := 88) gX0_choose_49 rfl rfl (by decide) rfl (by omega) ?_
      refine Z_push gX0_choose_52 (v := (0, (i : Int))) rfl ?_
      refine Z_push gX0_choose_53 (v := (0, 0)) rfl ?_
      refine Z_callW (kd := 2) (na := 3) (M' := mX7_writeFlag) gX0_choose_55 rfl rfl rfl rfl rfl rfl (fun _ => rfl) rfl rfl (fun _ _ => rfl) (d' := 0) (by omega) (vX7_writeFlagN (len := 30) rfl (by omega) (Or.inl rfl)) ?_
      refine Z_push gX0_choose_58 (v := (0, 0)) rfl ?_
      refine Z_if_eq gX0_choose_60 (tgt := 71) (by decide) (fun _ => ?_) (fun h60 => absurd h60 (by omega))
      refine Z_iinc gX0_choose_71 rfl ⟨by omega, by omega⟩ (ls' := [(1, ((86 : Nat) : Int)), (1, ((81 : Nat) : Int)), (0, fr), (0, (i : Int) + 1), (0, 0)]) rfl ?_
      refine Z_goto gX0_choose_74 (tgt := 9) (by decide) ?_
      refine ih (i + 1) (by omega) (by omega) fr _ _ (fun k => ?_) (fun j hj => ?_) (h3.trans (fun a k a1 a2 => zup_ne (fun h => a2 h.1)))
      · exact (zup_ne (by omega)).trans (h1 k)
      · have := (fdN_lt (k := T.1) hj).mpr (rl_lt hj)
        exact (zup_ne (by omega)).trans (h2 j hj)
  have loop : ∀ m i : Nat, i + m = fdN T T.1 → ∀ (fr : Nat) (v : zV) (W : zW), (∀ k, fdN T k = i → frE T R k = fr) → SR W T R → (∀ j, rlT T j ≠ -1 → fdN T j < i → W 88 (fdN T j) = b2i (bsT T R j)) → frB w W → Z ro 4 mX0_choose 9 [(1, ((86 : Nat) : Int)), (1, ((81 : Nat) : Int)), (0, (fr : Int)), (0, (i : Int)), v] [] W (fun r9 w' k => k = 0 ∧ ∃ o, r9 = .inl o ∧ (o = none ∧ SR w' T R ∧ CHR w' T R ∧ frB w w')) := by
    intro m
    induction m with
    | zero =>
      intro i hi fr v W h0 h1 h2 h3
      exact tail (30 - i) i (by omega) (by omega) _ v W h1 (fun j hj => h2 j hj (by have := (fdN_lt (k := T.1) hj).mpr (rl_lt hj); omega)) h3
    | succ m ih =>
      intro i hi fr v W h0 h1 h2 h3
      obtain ⟨v1, v2⟩ := v
      obtain ⟨j, b1, b2, rfl⟩ := fdN_ex (T := T) (i := i) (n := T.1) (by omega)
      have hFW := FR_frB hF h3
      have hfr := h0 j rfl
      have hen := en_gt T j
      have hel := en_lt b2
      have nxt : ∀ (fr' : Nat) (v : zV) (x : Int), x = b2i (bsT T R j) → frE T R (j + 1) = fr' → Z ro 4 mX0_choose 9 [(1, ((86 : Nat) : Int)), (1, ((81 : Nat) : Int)), (0, (fr' : Int)), (0, (fdN T j : Int) + 1), v] [] (zup W 88 (fdN T j) x) (fun r9 w' k => k = 0 ∧ ∃ o, r9 = .inl o ∧ (o = none ∧ SR w' T R ∧ CHR w' T R ∧ frB w w')) := by
        intro fr' v x hx hf
        refine ih (fdN T j + 1) (by omega) fr' v _ (fun k hk => (plat (f := frE T R) (fun q hq => fr_f (bs_n hq)) (by rw [hk, fdN_s b2])).trans hf) (fun k => ?_) (fun q hq hlt => ?_) (h3.trans (fun a k a1 a2 => zup_ne (fun h => a2 h.1)))
        · exact (zup_ne (by omega)).trans (h1 k)
        · by_cases e : fdN T q = fdN T j
          · rw [e, zup_eq, hx, fdN_inj hq b2 e]
          · exact (zup_ne (fun h => e h.2)).trans (h2 q hq (by omega))
      have no : bsT T R j = false → ∀ v : zV, Z ro 4 mX0_choose 45 [(1, ((86 : Nat) : Int)), (1, ((81 : Nat) : Int)), (0, (fr : Int)), (0, (fdN T j : Int)), v] [] W (fun r9 w' k => k = 0 ∧ ∃ o, r9 = .inl o ∧ (o = none ∧ SR w' T R ∧ CHR w' T R ∧ frB w w')) := by
        intro hb v
        obtain ⟨v1, v2⟩ := v
        refine Z_push gX0_choose_45 (v := (0, 0)) rfl ?_
        refine Z_sto gX0_choose_46 rfl (ls' := [(1, ((86 : Nat) : Int)), (1, ((81 : Nat) : Int)), (0, (fr : Int)), (0, (fdN T j : Int)), (0, 0)]) (st' := []) rfl ?_
        refine Z_push gX0_choose_48 (v := (1, ((86 : Nat) : Int))) rfl ?_
        refine Z_getR (b := 88) gX0_choose_49 rfl rfl (by decide) rfl (by omega) ?_
        refine Z_push gX0_choose_52 (v := (0, (fdN T j : Int))) rfl ?_
        refine Z_push gX0_choose_53 (v := (0, 0)) rfl ?_
        refine Z_callW (kd := 2) (na := 3) (M' := mX7_writeFlag) gX0_choose_55 rfl rfl rfl rfl rfl rfl (fun _ => rfl) rfl rfl (fun _ _ => rfl) (d' := 0) (by omega) (vX7_writeFlagN (len := 30) rfl (by omega) (Or.inl rfl)) ?_
        refine Z_push gX0_choose_58 (v := (0, 0)) rfl ?_
        refine Z_if_eq gX0_choose_60 (tgt := 71) (by decide) (fun _ => ?_) (fun h60 => absurd h60 (by omega))
        refine Z_iinc gX0_choose_71 rfl ⟨by omega, by omega⟩ (ls' := [(1, ((86 : Nat) : Int)), (1, ((81 : Nat) : Int)), (0, (fr : Int)), (0, (fdN T j : Int) + 1), (0, 0)]) rfl ?_
        refine Z_goto gX0_choose_74 (tgt := 9) (by decide) ?_
        exact nxt fr _ 0 (by rw [hb]; rfl) ((fr_f hb).trans hfr)
      refine Z_push gX0_choose_9 (v := (0, (fdN T j : Int))) rfl ?_
      refine Z_push gX0_choose_10 (v := (0, 30)) rfl ?_
      refine Z_icmp_ge gX0_choose_12 (tgt := 77) (by decide) (fun h12 => absurd h12 (by omega)) (fun _ => ?_)
      refine Z_push gX0_choose_15 (v := (0, (fdN T j : Int))) rfl ?_
      refine Z_push gX0_choose_16 (v := (1, ((81 : Nat) : Int))) rfl ?_
      refine Z_callP (kd := 0) (na := 1) (M' := mX3_count) gX0_choose_17 rfl rfl rfl rfl rfl rfl (fun _ => rfl) rfl rfl (fun _ _ => zrecv_obj rfl _ _ _) (d' := 0) (by omega) (vX3_count hFW.1) ?_
      refine Z_icmp_ge gX0_choose_20 (tgt := 45) (by decide) (fun h20 => absurd h20 (by omega)) (fun _ => ?_)
      refine Z_push gX0_choose_23 (v := (1, ((81 : Nat) : Int))) rfl ?_
      refine Z_push gX0_choose_24 (v := (0, (fdN T j : Int))) rfl ?_
      refine Z_callP (kd := 0) (na := 2) (M' := mX3_first) gX0_choose_25 rfl rfl rfl rfl rfl rfl (fun _ => rfl) rfl rfl (fun _ _ => zrecv_obj rfl _ _ _) (d' := 1) (by omega) (vX3_first hFW hV b2) ?_
      refine Z_push gX0_choose_28 (v := (0, (fr : Int))) rfl ?_
      refine Z_icmp_lt gX0_choose_29 (tgt := 45) (by decide) (fun h29 => ?_) (fun h29 => ?_)
      · exact no (decide_eq_false (fun h => by omega)) _
      · refine Z_push gX0_choose_32 (v := (1, ((86 : Nat) : Int))) rfl ?_
        refine Z_push gX0_choose_33 (v := (1, ((81 : Nat) : Int))) rfl ?_
        refine Z_push gX0_choose_34 (v := (0, (fdN T j : Int))) rfl ?_
        refine Z_callP (kd := 0) (na := 3) (M' := mX0_isWorthTaking) gX0_choose_35 rfl rfl rfl rfl rfl rfl (fun _ => rfl) rfl rfl (fun _ _ => zrecv_obj rfl _ _ _) (d' := 3) (by omega) (vX0_isWorthTaking hFW hV hRV h1 b2) ?_
        refine Z_if_eq gX0_choose_38 (tgt := 45) (by decide) (fun h38 => ?_) (fun h38 => ?_)
        · refine no (decide_eq_false (fun h => ?_)) _
          rw [decide_eq_true h.2.2] at h38
          exact absurd h38 (by decide)
        · have hb : bsT T R j = true := decide_eq_true (by
            refine ⟨b2, by omega, Classical.byContradiction fun hc => ?_⟩
            rw [decide_eq_false hc] at h38
            exact h38 rfl)
          refine Z_push gX0_choose_41 (v := (0, 1)) rfl ?_
          refine Z_goto gX0_choose_42 (tgt := 46) (by decide) ?_
          refine Z_sto gX0_choose_46 rfl (ls' := [(1, ((86 : Nat) : Int)), (1, ((81 : Nat) : Int)), (0, (fr : Int)), (0, (fdN T j : Int)), (0, 1)]) (st' := []) rfl ?_
          refine Z_push gX0_choose_48 (v := (1, ((86 : Nat) : Int))) rfl ?_
          refine Z_getR (b := 88) gX0_choose_49 rfl rfl (by decide) rfl (by omega) ?_
          refine Z_push gX0_choose_52 (v := (0, (fdN T j : Int))) rfl ?_
          refine Z_push gX0_choose_53 (v := (0, 1)) rfl ?_
          refine Z_callW (kd := 2) (na := 3) (M' := mX7_writeFlag) gX0_choose_55 rfl rfl rfl rfl rfl rfl (fun _ => rfl) rfl rfl (fun _ _ => rfl) (d' := 0) (by omega) (vX7_writeFlagN (len := 30) rfl (by omega) (Or.inr rfl)) ?_
          refine Z_push gX0_choose_58 (v := (0, 1)) rfl ?_
          refine Z_if_eq gX0_choose_60 (tgt := 71) (by decide) (fun h60 => absurd h60 (by omega)) (fun _ => ?_)
          refine Z_push gX0_choose_63 (v := (1, ((81 : Nat) : Int))) rfl ?_
          refine Z_push gX0_choose_64 (v := (0, (fdN T j : Int))) rfl ?_
          refine Z_callP (kd := 0) (na := 2) (M' := mX3_last) gX0_choose_65 rfl rfl rfl rfl rfl rfl (fun _ => rfl) rfl rfl (fun _ _ => zrecv_obj rfl _ _ _) (d' := 1) (by omega) (vX3_last (FR_frB hFW (fun a k a1 a2 => zup_ne (fun h => a2 h.1))) hV b2) ?_
          refine Z_push gX0_choose_68 (v := (0, 1)) rfl ?_
          refine Z_iadd gX0_choose_69 ⟨by omega, by omega⟩ ?_
          refine Z_sto gX0_choose_70 rfl (ls' := [(1, ((86 : Nat) : Int)), (1, ((81 : Nat) : Int)), (0, (enT T j : Int) + 1), (0, (fdN T j : Int)), (0, 1)]) (st' := []) rfl ?_
          refine Z_iinc gX0_choose_71 rfl ⟨by omega, by omega⟩ (ls' := [(1, ((86 : Nat) : Int)), (1, ((81 : Nat) : Int)), (0, (enT T j : Int) + 1), (0, (fdN T j : Int) + 1), (0, 1)]) rfl ?_
          refine Z_goto gX0_choose_74 (tgt := 9) (by decide) ?_
          exact nxt (enT T j + 1) _ 1 (by rw [hb]; rfl) (fr_t hb)
  show Z ro 4 mX0_choose 0 [(1, ((86 : Nat) : Int)), (1, ((81 : Nat) : Int)), (9, 0), (9, 0), (9, 0)] [] w _
  refine Z_push gX0_choose_0 (v := (1, ((86 : Nat) : Int))) rfl ?_
  refine Z_push gX0_choose_1 (v := (1, ((81 : Nat) : Int))) rfl ?_
  refine Z_callE (kd := 0) (na := 2) (M' := mX0_sumUp) gX0_choose_2 rfl rfl rfl rfl rfl rfl (fun _ => rfl) rfl rfl (fun _ _ => zrecv_obj rfl _ _ _) (d' := 3) (by omega) (vX0_sumUp hF hV hRV) ?_
  rintro o w2 ⟨rfl, g2, g3⟩
  refine Z_push gX0_choose_5 (v := (0, 0)) rfl ?_
  refine Z_sto gX0_choose_6 rfl (ls' := [(1, ((86 : Nat) : Int)), (1, ((81 : Nat) : Int)), (0, 0), (9, 0), (9, 0)]) (st' := []) rfl ?_
  refine Z_push gX0_choose_7 (v := (0, 0)) rfl ?_
  refine Z_sto gX0_choose_8 rfl (ls' := [(1, ((86 : Nat) : Int)), (1, ((81 : Nat) : Int)), (0, 0), (0, 0), (9, 0)]) (st' := []) rfl ?_
  exact loop (fdN T T.1) 0 (by omega) 0 _ w2 (fun k hk => (plat (f := frE T R) (k := 0) (fun q hq => fr_f (bs_n hq)) hk)) g2 (fun j hj h => absurd h (by omega)) g3
theorem vX0_sum (hS : SR w T R) : Pv ro 1 mX0_sum [(1, ((86 : Nat) : Int))] w (0, sE T R 0) := by
  show Z ro 1 mX0_sum 0 [(1, ((86 : Nat) : Int))] [] w _
  refine Z_push gX0_sum_0 (v := (1, ((86 : Nat) : Int))) rfl ?_
  refine Z_getR (b := 87) gX0_sum_1 rfl rfl (by decide) rfl (by omega) ?_
  refine Z_push gX0_sum_4 (v := (0, 0)) rfl ?_
  refine Z_callP (kd := 2) (na := 2) (M' := mX7_read) gX0_sum_5 rfl rfl rfl rfl rfl rfl (fun _ => rfl) rfl rfl (fun _ _ => rfl) (d' := 0) (by omega) (vX7_readN (len := 31) (i := 0) rfl (by omega) (hS 0)) ?_
  refine Z_ret (v := (0, sE T R 0)) gX0_sum_8 rfl rfl rfl rfl rfl _ ?_
  exact ⟨rfl, rfl⟩
theorem vX0_holds (hC : CHR w T R) (hV : TV T) {j : Nat} (hj : rlT T j ≠ -1) : Pv ro 1 mX0_holds [(1, ((86 : Nat) : Int)), (0, (fdN T j : Int))] w (0, b2i (bsT T R j)) := by
  have h1 := (fdN_lt (k := T.1) hj).mpr (rl_lt hj)
  have h30 := fdN_30 hV T.1
  have h01 := b2i_01 (bsT T R j)
  show Z ro 1 mX0_holds 0 [(1, ((86 : Nat) : Int)), (0, (fdN T j : Int))] [] w _
  refine Z_push gX0_holds_0 (v := (1, ((86 : Nat) : Int))) rfl ?_
  refine Z_getR (b := 88) gX0_holds_1 rfl rfl (by decide) rfl (by omega) ?_
  refine Z_push gX0_holds_4 (v := (0, (fdN T j : Int))) rfl ?_
  refine Z_callP (kd := 2) (na := 2) (M' := mX7_readFlag) gX0_holds_5 rfl rfl rfl rfl rfl rfl (fun _ => rfl) rfl rfl (fun _ _ => rfl) (d' := 0) (by omega) (vX7_readFlagN (len := 30) rfl (by omega) (hC j hj)) ?_
  refine Z_retB gX0_holds_8 rfl (by first | exact Or.inl rfl | exact Or.inr rfl | assumption | omega) _ ?_
  exact ⟨rfl, rfl⟩
theorem b2i_t {b : Bool} (h : b2i b ≠ 0) : b = true := by cases b with | true => rfl | false => exact absurd rfl h
theorem b2i_f {b : Bool} (h : b2i b = 0) : b = false := by cases b with | false => rfl | true => exact absurd h (by decide)
theorem vX0_hasClash (hF : FR w T R T.1) (hV : TV T) (hC : CHR w T R) : Pv ro 2 mX0_hasClash [(1, ((86 : Nat) : Int)), (1, ((81 : Nat) : Int))] w (0, 0) := by
  have h30 := fdN_30 hV T.1
  have outer : ∀ m i : Nat, i + m = fdN T T.1 → ∀ v1 v2 : zV, Z ro 2 mX0_hasClash 2 [(1, ((86 : Nat) : Int)), (1, ((81 : Nat) : Int)), (0, (i : Int)), v1, v2] [] w (fun r9 w' k => k = 0 ∧ ∃ o, r9 = .inl o ∧ (o = some (0, 0) ∧ w' = w)) := by
    intro m
    induction m with
    | zero =>
      intro i hi v1 v2
      obtain ⟨x1, x2⟩ := v1
      obtain ⟨y1, y2⟩ := v2
      refine Z_push gX0_hasClash_2 (v := (0, (i : Int))) rfl ?_
      refine Z_push gX0_hasClash_3 (v := (1, ((81 : Nat) : Int))) rfl ?_
      refine Z_callP (kd := 0) (na := 1) (M' := mX3_count) gX0_hasClash_4 rfl rfl rfl rfl rfl rfl (fun _ => rfl) rfl rfl (fun _ _ => zrecv_obj rfl _ _ _) (d' := 0) (by omega) (vX3_count hF.1) ?_
      refine Z_icmp_ge gX0_hasClash_7 (tgt := 90) (by decide) (fun _ => ?_) (fun h7 => absurd h7 (by omega))
      refine Z_push gX0_hasClash_90 (v := (0, 0)) rfl ?_
      refine Z_retB gX0_hasClash_91 rfl (by first | exact Or.inl rfl | exact Or.inr rfl | assumption | omega) _ ?_
      exact ⟨rfl, rfl⟩
    | succ m ih =>
      intro i hi v1 v2
      obtain ⟨x1, x2⟩ := v1
      obtain ⟨y1, y2⟩ := v2
      obtain ⟨j, b1, b2, rfl⟩ := fdN_ex (T := T) (i := i) (n := T.1) (by omega)
      have inner : ∀ m2 i2 : Nat, i2 + m2 = fdN T T.1 → fdN T j < i2 → ∀ v2 : zV, Z ro 2 mX0_hasClash 14 [(1, ((86 : Nat) : Int)), (1, ((81 : Nat) : Int)), (0, (fdN T j : Int)), (0, (i2 : Int)), v2] [] w (fun r9 w' k => k = 0 ∧ ∃ o, r9 = .inl o ∧ (o = some (0, 0) ∧ w' = w)) := by
        intro m2
        induction m2 with
        | zero =>
          intro i2 hi2 hlt v2
          obtain ⟨y1, y2⟩ := v2
          refine Z_push gX0_hasClash_14 (v := (0, (i2 : Int))) rfl ?_
          refine Z_push gX0_hasClash_15 (v := (1, ((81 : Nat) : Int))) rfl ?_
          refine Z_callP (kd := 0) (na := 1) (M' := mX3_count) gX0_hasClash_16 rfl rfl rfl rfl rfl rfl (fun _ => rfl) rfl rfl (fun _ _ => zrecv_obj rfl _ _ _) (d' := 0) (by omega) (vX3_count hF.1) ?_
          refine Z_icmp_ge gX0_hasClash_19 (tgt := 84) (by decide) (fun _ => ?_) (fun h19 => absurd h19 (by omega))
          refine Z_iinc gX0_hasClash_84 rfl ⟨by omega, by omega⟩ (ls' := [(1, ((86 : Nat) : Int)), (1, ((81 : Nat) : Int)), (0, (fdN T j : Int) + 1), (0, (i2 : Int)), (y1, y2)]) rfl ?_
          refine Z_goto gX0_hasClash_87 (tgt := 2) (by decide) ?_
          exact ih (fdN T j + 1) (by omega) _ _
        | succ m2 ih2 =>
          intro i2 hi2 hlt v2
          obtain ⟨y1, y2⟩ := v2
          obtain ⟨j2, c1, c2, rfl⟩ := fdN_ex (T := T) (i := i2) (n := T.1) (by omega)
          have hjj := (fdN_lt (k := j2) b2).mp hlt
          have hen2 := en_gt T j2
          refine Z_push gX0_hasClash_14 (v := (0, (fdN T j2 : Int))) rfl ?_
          refine Z_push gX0_hasClash_15 (v := (1, ((81 : Nat) : Int))) rfl ?_
          refine Z_callP (kd := 0) (na := 1) (M' := mX3_count) gX0_hasClash_16 rfl rfl rfl rfl rfl rfl (fun _ => rfl) rfl rfl (fun _ _ => zrecv_obj rfl _ _ _) (d' := 0) (by omega) (vX3_count hF.1) ?_
          refine Z_icmp_ge gX0_hasClash_19 (tgt := 84) (by decide) (fun h19 => absurd h19 (by omega)) (fun _ => ?_)
          refine Z_push gX0_hasClash_22 (v := (1, ((81 : Nat) : Int))) rfl ?_
          refine Z_push gX0_hasClash_23 (v := (0, (fdN T j : Int))) rfl ?_
          refine Z_callP (kd := 0) (na := 2) (M' := mX3_first) gX0_hasClash_24 rfl rfl rfl rfl rfl rfl (fun _ => rfl) rfl rfl (fun _ _ => zrecv_obj rfl _ _ _) (d' := 1) (by omega) (vX3_first hF hV b2) ?_
          refine Z_push gX0_hasClash_27 (v := (1, ((81 : Nat) : Int))) rfl ?_
          refine Z_push gX0_hasClash_28 (v := (0, (fdN T j2 : Int))) rfl ?_
          refine Z_callP (kd := 0) (na := 2) (M' := mX3_last) gX0_hasClash_29 rfl rfl rfl rfl rfl rfl (fun _ => rfl) rfl rfl (fun _ _ => zrecv_obj rfl _ _ _) (d' := 1) (by omega) (vX3_last hF hV c2) ?_
          refine Z_icmp_gt gX0_hasClash_32 (tgt := 52) (by decide) (fun h32 => absurd h32 (by omega)) (fun _ => ?_)
          refine Z_push gX0_hasClash_35 (v := (1, ((81 : Nat) : Int))) rfl ?_
          refine Z_push gX0_hasClash_36 (v := (0, (fdN T j2 : Int))) rfl ?_
          refine Z_callP (kd := 0) (na := 2) (M' := mX3_first) gX0_hasClash_37 rfl rfl rfl rfl rfl rfl (fun _ => rfl) rfl rfl (fun _ _ => zrecv_obj rfl _ _ _) (d' := 1) (by omega) (vX3_first hF hV c2) ?_
          refine Z_push gX0_hasClash_40 (v := (1, ((81 : Nat) : Int))) rfl ?_
          refine Z_push gX0_hasClash_41 (v := (0, (fdN T j : Int))) rfl ?_
          refine Z_callP (kd := 0) (na := 2) (M' := mX3_last) gX0_hasClash_42 rfl rfl rfl rfl rfl rfl (fun _ => rfl) rfl rfl (fun _ _ => zrecv_obj rfl _ _ _) (d' := 1) (by omega) (vX3_last hF hV b2) ?_
          refine Z_icmp_gt gX0_hasClash_45 (tgt := 52) (by decide) (fun h45 => ?_) (fun h45 => ?_)
          · refine Z_push gX0_hasClash_52 (v := (0, 0)) rfl ?_
            refine Z_sto gX0_hasClash_53 rfl (ls' := [(1, ((86 : Nat) : Int)), (1, ((81 : Nat) : Int)), (0, (fdN T j : Int)), (0, (fdN T j2 : Int)), (0, 0)]) (st' := []) rfl ?_
            refine Z_push gX0_hasClash_55 (v := (0, 0)) rfl ?_
            refine Z_if_eq gX0_hasClash_57 (tgt := 78) (by decide) (fun _ => ?_) (fun h57 => absurd h57 (by omega))
            refine Z_iinc gX0_hasClash_78 rfl ⟨by omega, by omega⟩ (ls' := [(1, ((86 : Nat) : Int)), (1, ((81 : Nat) : Int)), (0, (fdN T j : Int)), (0, (fdN T j2 : Int) + 1), (0, 0)]) rfl ?_
            refine Z_goto gX0_hasClash_81 (tgt := 14) (by decide) ?_
            exact ih2 (fdN T j2 + 1) (by omega) (by omega) _
          · refine Z_push gX0_hasClash_48 (v := (0, 1)) rfl ?_
            refine Z_goto gX0_hasClash_49 (tgt := 53) (by decide) ?_
            refine Z_sto gX0_hasClash_53 rfl (ls' := [(1, ((86 : Nat) : Int)), (1, ((81 : Nat) : Int)), (0, (fdN T j : Int)), (0, (fdN T j2 : Int)), (0, 1)]) (st' := []) rfl ?_
            refine Z_push gX0_hasClash_55 (v := (0, 1)) rfl ?_
            refine Z_if_eq gX0_hasClash_57 (tgt := 78) (by decide) (fun h57 => absurd h57 (by omega)) (fun _ => ?_)
            refine Z_push gX0_hasClash_60 (v := (1, ((86 : Nat) : Int))) rfl ?_
            refine Z_push gX0_hasClash_61 (v := (0, (fdN T j : Int))) rfl ?_
            refine Z_callP (kd := 0) (na := 2) (M' := mX0_holds) gX0_hasClash_62 rfl rfl rfl rfl rfl rfl (fun _ => rfl) rfl rfl (fun _ _ => zrecv_obj rfl _ _ _) (d' := 1) (by omega) (vX0_holds hC hV b2) ?_
            refine Z_if_eq gX0_hasClash_65 (tgt := 78) (by decide) (fun h65 => ?_) (fun h65 => ?_)
            · refine Z_iinc gX0_hasClash_78 rfl ⟨by omega, by omega⟩ (ls' := [(1, ((86 : Nat) : Int)), (1, ((81 : Nat) : Int)), (0, (fdN T j : Int)), (0, (fdN T j2 : Int) + 1), (0, 1)]) rfl ?_
              refine Z_goto gX0_hasClash_81 (tgt := 14) (by decide) ?_
              exact ih2 (fdN T j2 + 1) (by omega) (by omega) _
            · refine Z_push gX0_hasClash_68 (v := (1, ((86 : Nat) : Int))) rfl ?_
              refine Z_push gX0_hasClash_69 (v := (0, (fdN T j2 : Int))) rfl ?_
              refine Z_callP (kd := 0) (na := 2) (M' := mX0_holds) gX0_hasClash_70 rfl rfl rfl rfl rfl rfl (fun _ => rfl) rfl rfl (fun _ _ => zrecv_obj rfl _ _ _) (d' := 1) (by omega) (vX0_holds hC hV c2) ?_
              refine Z_if_eq gX0_hasClash_73 (tgt := 78) (by decide) (fun h73 => ?_) (fun h73 => ?_)
              · refine Z_iinc gX0_hasClash_78 rfl ⟨by omega, by omega⟩ (ls' := [(1, ((86 : Nat) : Int)), (1, ((81 : Nat) : Int)), (0, (fdN T j : Int)), (0, (fdN T j2 : Int) + 1), (0, 1)]) rfl ?_
                refine Z_goto gX0_hasClash_81 (tgt := 14) (by decide) ?_
                exact ih2 (fdN T j2 + 1) (by omega) (by omega) _
              · have := bs_sep (b2i_t h65) hjj (b2i_t h73)
                omega
      refine Z_push gX0_hasClash_2 (v := (0, (fdN T j : Int))) rfl ?_
      refine Z_push gX0_hasClash_3 (v := (1, ((81 : Nat) : Int))) rfl ?_
      refine Z_callP (kd := 0) (na := 1) (M' := mX3_count) gX0_hasClash_4 rfl rfl rfl rfl rfl rfl (fun _ => rfl) rfl rfl (fun _ _ => zrecv_obj rfl _ _ _) (d' := 0) (by omega) (vX3_count hF.1) ?_
      refine Z_icmp_ge gX0_hasClash_7 (tgt := 90) (by decide) (fun h7 => absurd h7 (by omega)) (fun _ => ?_)
      refine Z_push gX0_hasClash_10 (v := (0, (fdN T j : Int))) rfl ?_
      refine Z_push gX0_hasClash_11 (v := (0, 1)) rfl ?_
      refine Z_iadd gX0_hasClash_12 ⟨by omega, by omega⟩ ?_
      refine Z_sto gX0_hasClash_13 rfl (ls' := [(1, ((86 : Nat) : Int)), (1, ((81 : Nat) : Int)), (0, (fdN T j : Int)), (0, (fdN T j : Int) + 1), (y1, y2)]) (st' := []) rfl ?_
      exact inner (fdN T T.1 - (fdN T j + 1)) (fdN T j + 1) (by omega) (by omega) _
  show Z ro 2 mX0_hasClash 0 [(1, ((86 : Nat) : Int)), (1, ((81 : Nat) : Int)), (9, 0), (9, 0), (9, 0)] [] w _
  refine Z_push gX0_hasClash_0 (v := (0, 0)) rfl ?_
  refine Z_sto gX0_hasClash_1 rfl (ls' := [(1, ((86 : Nat) : Int)), (1, ((81 : Nat) : Int)), (0, 0), (9, 0), (9, 0)]) (st' := []) rfl ?_
  exact outer (fdN T T.1) 0 (by omega) _ _
theorem vX7_mostByTrying (hF : FR w T R T.1) (hV : TV T) (hRV : RV B R) : ∀ m i : Nat, i + m = fdN T T.1 → ∀ fr k : Nat, fr ≤ 31 → fdN T k = i → Pv ro (m + 2) mX7_mostByTrying [(1, ((81 : Nat) : Int)), (0, (i : Int)), (0, (fr : Int))] w (0, sE T R (if k < fr then fr else k)) := by
  have hV1 := hV.1
  have h30 := fdN_30 hV T.1
  intro m
  induction m with
  | zero =>
    intro i hi fr k hfr hk
    show Z ro _ mX7_mostByTrying 0 [(1, ((81 : Nat) : Int)), (0, (i : Int)), (0, (fr : Int)), (9, 0), (9, 0)] [] w _
    refine Z_push gX7_mostByTrying_0 (v := (0, (i : Int))) rfl ?_
    refine Z_push gX7_mostByTrying_1 (v := (1, ((81 : Nat) : Int))) rfl ?_
    refine Z_callP (kd := 0) (na := 1) (M' := mX3_count) gX7_mostByTrying_2 rfl rfl rfl rfl rfl rfl (fun _ => rfl) rfl rfl (fun _ _ => zrecv_obj rfl _ _ _) (d' := 0) (by omega) (vX3_count hF.1) ?_
    refine Z_icmp_ge gX7_mostByTrying_5 (tgt := 14) (by decide) (fun _ => ?_) (fun h5 => absurd h5 (by omega))
    refine Z_push gX7_mostByTrying_14 (v := (0, 0)) rfl ?_
    refine Z_ret (v := (0, 0)) gX7_mostByTrying_15 rfl rfl rfl rfl rfl _ ?_
    refine ⟨?_, rfl⟩
    have h0 : ∀ q, k ≤ q → sE T R q = 0 := fun q hq => by
      have h1 : sE T R k = 0 := (plat (f := sE T R) (j := k) (k := T.1) (fun q hq => (sE_n hq).symm) (by omega)).trans (sE_end (Nat.le_refl _))
      have h2 := sE_dec' (T := T) (R := R) hq
      have h3 := sE_bd' (T := T) hRV hV1 q
      omega
    rw [h0 _ (by split <;> omega)]
  | succ m ih =>
    intro i hi fr k hfr hk
    obtain ⟨j, b1, b2, rfl⟩ := fdN_ex (T := T) (i := i) (n := T.1) (by omega)
    have hen := en_gt T j
    have hel := en_lt b2
    have hg := gn_bd hRV T j
    have l1 := ih (fdN T j + 1) (by omega) fr (j + 1) hfr (fdN_s b2)
    have l2 := ih (fdN T j + 1) (by omega) (enT T j + 1) (j + 1) (by omega) (fdN_s b2)
    have hb := sE_bd' (T := T) hRV hV1 (enT T j + 1)
    rw [if_pos (show j + 1 < enT T j + 1 by omega)] at l2
    have hjk : sE T R (if k < fr then fr else k) = sE T R (if j < fr then fr else j) := by
      have e1 : ∀ q, fdN T q = fdN T j → sE T R q = sE T R j := fun q hq => plat (f := sE T R) (fun q hq => (sE_n hq).symm) hq
      by_cases h1 : k < fr
      · rw [if_pos h1]
        by_cases h2 : j < fr
        · rw [if_pos h2]
        · rw [if_neg h2]
          have m1 := fdN_mono' T (j := k) (k := fr) (by omega)
          have m2 := fdN_mono' T (j := fr) (k := j) (by omega)
          exact e1 fr (by omega)
      · rw [if_neg h1]
        by_cases h2 : j < fr
        · rw [if_pos h2]
          have := (fdN_lt (k := k) b2).mpr (by omega)
          omega
        · rw [if_neg h2]
          exact e1 k hk
    rw [hjk]
    show Z ro _ mX7_mostByTrying 0 [(1, ((81 : Nat) : Int)), (0, (fdN T j : Int)), (0, (fr : Int)), (9, 0), (9, 0)] [] w _
    refine Z_push gX7_mostByTrying_0 (v := (0, (fdN T j : Int))) rfl ?_
    refine Z_push gX7_mostByTrying_1 (v := (1, ((81 : Nat) : Int))) rfl ?_
    refine Z_callP (kd := 0) (na := 1) (M' := mX3_count) gX7_mostByTrying_2 rfl rfl rfl rfl rfl rfl (fun _ => rfl) rfl rfl (fun _ _ => zrecv_obj rfl _ _ _) (d' := 0) (by omega) (vX3_count hF.1) ?_
    refine Z_icmp_ge gX7_mostByTrying_5 (tgt := 14) (by decide) (fun h5 => absurd h5 (by omega)) (fun _ => ?_)
    refine Z_push gX7_mostByTrying_8 (v := (0, (fdN T j : Int))) rfl ?_
    refine Z_push gX7_mostByTrying_9 (v := (0, 30)) rfl ?_
    refine Z_icmp_lt gX7_mostByTrying_11 (tgt := 16) (by decide) (fun _ => ?_) (fun h11 => absurd h11 (by omega))
    refine Z_push gX7_mostByTrying_16 (v := (1, ((81 : Nat) : Int))) rfl ?_
    refine Z_push gX7_mostByTrying_17 (v := (0, (fdN T j : Int))) rfl ?_
    refine Z_push gX7_mostByTrying_18 (v := (0, 1)) rfl ?_
    refine Z_iadd gX7_mostByTrying_19 ⟨by omega, by omega⟩ ?_
    refine Z_push gX7_mostByTrying_20 (v := (0, (fr : Int))) rfl ?_
    refine Z_callP (kd := 1) (na := 3) (M' := mX7_mostByTrying) gX7_mostByTrying_21 rfl rfl rfl rfl rfl rfl (fun _ => rfl) rfl rfl (fun _ _ => rfl) (d' := m + 2) (by omega) (l1) ?_
    refine Z_sto gX7_mostByTrying_24 rfl (ls' := [(1, ((81 : Nat) : Int)), (0, (fdN T j : Int)), (0, (fr : Int)), (0, sE T R (if j + 1 < fr then fr else j + 1)), (9, 0)]) (st' := []) rfl ?_
    refine Z_push gX7_mostByTrying_25 (v := (1, ((81 : Nat) : Int))) rfl ?_
    refine Z_push gX7_mostByTrying_26 (v := (0, (fdN T j : Int))) rfl ?_
    refine Z_callP (kd := 0) (na := 2) (M' := mX3_gain) gX7_mostByTrying_27 rfl rfl rfl rfl rfl rfl (fun _ => rfl) rfl rfl (fun _ _ => zrecv_obj rfl _ _ _) (d' := 1) (by omega) (vX3_gain hF hV b2) ?_
    refine Z_if_le gX7_mostByTrying_30 (tgt := 42) (by decide) (fun h30 => ?_) (fun h30 => ?_)
    · refine Z_push gX7_mostByTrying_42 (v := (0, sE T R (if j + 1 < fr then fr else j + 1))) rfl ?_
      refine Z_ret (v := (0, sE T R (if j + 1 < fr then fr else j + 1))) gX7_mostByTrying_43 rfl rfl rfl rfl rfl _ ?_
      refine ⟨?_, rfl⟩
      have e0 : sE T R (j + 1) = sE T R j := (sE_0 (by omega)).symm
      by_cases h1 : j < fr
      · rw [if_pos h1]
        by_cases h2 : j + 1 < fr
        · rw [if_pos h2]
        · rw [if_neg h2, show j + 1 = fr by omega]
      · rw [if_neg h1, if_neg (by omega), e0]
    · refine Z_push gX7_mostByTrying_33 (v := (1, ((81 : Nat) : Int))) rfl ?_
      refine Z_push gX7_mostByTrying_34 (v := (0, (fdN T j : Int))) rfl ?_
      refine Z_callP (kd := 0) (na := 2) (M' := mX3_first) gX7_mostByTrying_35 rfl rfl rfl rfl rfl rfl (fun _ => rfl) rfl rfl (fun _ _ => zrecv_obj rfl _ _ _) (d' := 1) (by omega) (vX3_first hF hV b2) ?_
      refine Z_push gX7_mostByTrying_38 (v := (0, (fr : Int))) rfl ?_
      refine Z_icmp_ge gX7_mostByTrying_39 (tgt := 44) (by decide) (fun h39 => ?_) (fun h39 => ?_)
      · rw [if_neg (show ¬ j + 1 < fr by omega)]
        refine Z_push gX7_mostByTrying_44 (v := (1, ((81 : Nat) : Int))) rfl ?_
        refine Z_push gX7_mostByTrying_45 (v := (0, (fdN T j : Int))) rfl ?_
        refine Z_callP (kd := 0) (na := 2) (M' := mX3_gain) gX7_mostByTrying_46 rfl rfl rfl rfl rfl rfl (fun _ => rfl) rfl rfl (fun _ _ => zrecv_obj rfl _ _ _) (d' := 1) (by omega) (vX3_gain hF hV b2) ?_
        refine Z_push gX7_mostByTrying_49 (v := (1, ((81 : Nat) : Int))) rfl ?_
        refine Z_push gX7_mostByTrying_50 (v := (0, (fdN T j : Int))) rfl ?_
        refine Z_push gX7_mostByTrying_51 (v := (0, 1)) rfl ?_
        refine Z_iadd gX7_mostByTrying_52 ⟨by omega, by omega⟩ ?_
        refine Z_push gX7_mostByTrying_53 (v := (1, ((81 : Nat) : Int))) rfl ?_
        refine Z_push gX7_mostByTrying_54 (v := (0, (fdN T j : Int))) rfl ?_
        refine Z_callP (kd := 0) (na := 2) (M' := mX3_last) gX7_mostByTrying_55 rfl rfl rfl rfl rfl rfl (fun _ => rfl) rfl rfl (fun _ _ => zrecv_obj rfl _ _ _) (d' := 1) (by omega) (vX3_last hF hV b2) ?_
        refine Z_push gX7_mostByTrying_58 (v := (0, 1)) rfl ?_
        refine Z_iadd gX7_mostByTrying_59 ⟨by omega, by omega⟩ ?_
        refine Z_callP (kd := 1) (na := 3) (M' := mX7_mostByTrying) gX7_mostByTrying_60 rfl rfl rfl rfl rfl rfl (fun _ => rfl) rfl rfl (fun _ _ => rfl) (d' := m + 2) (by omega) (l2) ?_
        refine Z_iadd gX7_mostByTrying_63 ⟨by omega, by omega⟩ ?_
        refine Z_sto gX7_mostByTrying_64 rfl (ls' := [(1, ((81 : Nat) : Int)), (0, (fdN T j : Int)), (0, (fr : Int)), (0, sE T R (j + 1)), (0, (gnT T R j) + (sE T R (enT T j + 1)))]) (st' := []) rfl ?_
        refine Z_push gX7_mostByTrying_66 (v := (0, sE T R (j + 1))) rfl ?_
        refine Z_push gX7_mostByTrying_67 (v := (0, (gnT T R j) + (sE T R (enT T j + 1)))) rfl ?_
        refine Z_arith gX7_mostByTrying_69 rfl rfl (v := [(0, (if sE T R (j + 1) < (gnT T R j) + (sE T R (enT T j + 1)) then (gnT T R j) + (sE T R (enT T j + 1)) else sE T R (j + 1)))]) rfl ?_
        refine Z_ret (v := (0, (if sE T R (j + 1) < (gnT T R j) + (sE T R (enT T j + 1)) then (gnT T R j) + (sE T R (enT T j + 1)) else sE T R (j + 1)))) gX7_mostByTrying_72 rfl rfl rfl rfl rfl _ ?_
        exact ⟨by rw [if_neg (show ¬ j < fr by omega), sE_f b2], rfl⟩
      · refine Z_push gX7_mostByTrying_42 (v := (0, sE T R (if j + 1 < fr then fr else j + 1))) rfl ?_
        refine Z_ret (v := (0, sE T R (if j + 1 < fr then fr else j + 1))) gX7_mostByTrying_43 rfl rfl rfl rfl rfl _ ?_
        refine ⟨?_, rfl⟩
        rw [if_pos (show j < fr by omega)]
        by_cases h2 : j + 1 < fr
        · rw [if_pos h2]
        · rw [if_neg h2, show j + 1 = fr by omega]
end
