/-! the model's readers -/
/-- the widths of the entries on a line -/
def lsW (T : zTx) (lim its : Int) : Nat → Int
  | 0 => -1
  | k + 1 => lsW T lim its k + (if (lnE T lim k : Int) = its then wT T (k : Int) + 1 else 0)
section
variable {ro : zRo} {w w' : zW} {T : zTx} {R : zRu} {D : zDs} {lim la B : Int}
theorem lsW_bd (hV : TV T) (its : Int) : ∀ k : Nat, -1 ≤ lsW T lim its k ∧ lsW T lim its k ≤ 14 * k - 1
  | 0 => ⟨Int.le_refl _, by show (-1 : Int) ≤ 14 * 0 - 1; omega⟩
  | k + 1 => by
    have := lsW_bd hV its k
    have := wT_bd hV (k : Int)
    unfold lsW
    split <;> omega
theorem lsW_no (hV : TV T) (h2 : 13 ≤ lim ∧ lim ≤ 60) {its : Int} (h : ¬ (0 ≤ its ∧ its < (lcE T lim : Int))) : ∀ k, k ≤ T.1 → lsW T lim its k = -1
  | 0, _ => rfl
  | k + 1, hk => by
    have h3 := ln_spec hV h2 (k := k) (by omega)
    show lsW T lim its k + (if (lnE T lim k : Int) = its then wT T (k : Int) + 1 else 0) = -1
    rw [if_neg (by omega), lsW_no hV h2 h k (by omega)]
    rfl
theorem lsW_in (hV : TV T) (h2 : 13 ≤ lim ∧ lim ≤ 60) {l : Nat} (h : l < lcE T lim) : ∀ k, k ≤ T.1 → lsW T lim (l : Int) k = if k ≤ stE T lim l then -1 else if k ≤ stE T lim (l + 1) then lwS T (stE T lim l) (k - stE T lim l) else lwS T (stE T lim l) (stE T lim (l + 1) - stE T lim l)
  | 0, _ => by rw [if_pos (Nat.zero_le _)]; rfl
  | k + 1, hk => by
    have ih := lsW_in hV h2 h k (by omega)
    have h3 := ln_spec hV h2 (k := k) (by omega)
    have h4 := st_lt hV h2 ((lc_iff hV h2 l).mpr h)
    show lsW T lim l k + (if (lnE T lim k : Int) = (l : Int) then wT T (k : Int) + 1 else 0) = _
    rw [ih]
    by_cases hc : stE T lim l ≤ k ∧ k < stE T lim (l + 1)
    · have e := ln_uniq hV h2 (by omega) hc.1 hc.2
      rw [if_pos (by omega : (lnE T lim k : Int) = (l : Int)), if_neg (by omega : ¬ k + 1 ≤ stE T lim l), if_pos (by omega : k + 1 ≤ stE T lim (l + 1)), show k + 1 - stE T lim l = (k - stE T lim l) + 1 by omega]
      have e2 : lwS T (stE T lim l) (k - stE T lim l + 1) = lwS T (stE T lim l) (k - stE T lim l) + (1 + wT T ((stE T lim l + (k - stE T lim l) : Nat) : Int)) := rfl
      rw [show stE T lim l + (k - stE T lim l) = k by omega] at e2
      rw [e2]
      by_cases hc2 : k ≤ stE T lim l
      · rw [if_pos hc2, show k - stE T lim l = 0 by omega]
        show -1 + (wT T (k : Int) + 1) = -1 + (1 + wT T (k : Int))
        omega
      · rw [if_neg hc2, if_pos (by omega : k ≤ stE T lim (l + 1))]
        omega
    · have hne : ¬ (lnE T lim k : Int) = (l : Int) := fun e => by
        have e : lnE T lim k = l := by omega
        rw [e] at h3
        exact hc ⟨h3.1, h3.2.1⟩
      rw [if_neg hne, Int.add_zero]
      by_cases h5 : k + 1 ≤ stE T lim l
      · rw [if_pos (by omega : k ≤ stE T lim l), if_pos h5]
      · rw [if_neg h5, if_neg (by omega : ¬ k + 1 ≤ stE T lim (l + 1))]
        rw [if_neg (by omega : ¬ k ≤ stE T lim l)]
        by_cases h6 : k ≤ stE T lim (l + 1)
        · rw [if_pos h6, show k = stE T lim (l + 1) by omega]
        · rw [if_neg h6]
/-- what a look leaves -/
def LK (w w' : zW) (T : zTx) (R : zRu) : Prop := MF w' T T.1 ∧ MSm w' T R ∧ MB w' T R ∧ frZ w w'
theorem noFnd0 (hM : MT w T) (hU : MU w R) (hV : TV T) (hRV : RV B R) {f : Int} (h : 0 ≤ f ∧ f < (fdN T T.1 : Int)) : Ev ro 2 mX8_noFinding [(1, ((97 : Nat) : Int)), (0, f)] w (fun o w' => o = some (0, 0) ∧ LK w w' T R) := by
  have h30 := fdN_30 hV T.1
  show Z ro 2 mX8_noFinding 0 [(1, ((97 : Nat) : Int)), (0, f)] [] w _
  refine Z_push gX8_noFinding_0 (v := (1, ((97 : Nat) : Int))) rfl ?_
  refine Z_callE (kd := 0) (na := 1) (M' := mX8_look) gX8_noFinding_1 rfl rfl rfl rfl rfl rfl (fun _ => rfl) rfl rfl (fun _ _ => zrecv_obj rfl _ _ _) (d' := 1) (by omega) (vX8_look hM hU hV hRV) ?_
  rintro o w2 ⟨rfl, g⟩
  refine Z_push gX8_noFinding_4 (v := (0, f)) rfl ?_
  refine Z_push gX8_noFinding_5 (v := (0, 0)) rfl ?_
  refine Z_push gX8_noFinding_6 (v := (1, ((97 : Nat) : Int))) rfl ?_
  refine Z_getV (v := (fdN T T.1 : Int)) gX8_noFinding_7 rfl rfl (by decide) g.1.1 ?_
  refine Z_push gX8_noFinding_10 (v := (0, 1)) rfl ?_
  refine Z_isub gX8_noFinding_11 ⟨by omega, by omega⟩ ?_
  refine Z_callP (kd := 1) (na := 3) (M' := mX8_in) gX8_noFinding_12 rfl rfl rfl rfl rfl rfl (fun _ => rfl) rfl rfl (fun _ _ => rfl) (d' := 0) (by omega) (vX8_in1 (by omega)) ?_
  refine Z_if_ne gX8_noFinding_15 (tgt := 22) (by decide) (fun _ => ?_) (fun h15 => absurd h15 (by omega))
  refine Z_push gX8_noFinding_22 (v := (0, 0)) rfl ?_
  refine Z_retB gX8_noFinding_23 rfl (by first | exact Or.inl rfl | exact Or.inr rfl | assumption | omega) _ ?_
  exact ⟨rfl, g⟩
theorem noFnd1 (hM : MT w T) (hU : MU w R) (hV : TV T) (hRV : RV B R) {f : Int} (h : ¬ (0 ≤ f ∧ f < (fdN T T.1 : Int))) : Ev ro 2 mX8_noFinding [(1, ((97 : Nat) : Int)), (0, f)] w (fun o w' => o = some (0, 1) ∧ LK w w' T R) := by
  have h30 := fdN_30 hV T.1
  show Z ro 2 mX8_noFinding 0 [(1, ((97 : Nat) : Int)), (0, f)] [] w _
  refine Z_push gX8_noFinding_0 (v := (1, ((97 : Nat) : Int))) rfl ?_
  refine Z_callE (kd := 0) (na := 1) (M' := mX8_look) gX8_noFinding_1 rfl rfl rfl rfl rfl rfl (fun _ => rfl) rfl rfl (fun _ _ => zrecv_obj rfl _ _ _) (d' := 1) (by omega) (vX8_look hM hU hV hRV) ?_
  rintro o w2 ⟨rfl, g⟩
  refine Z_push gX8_noFinding_4 (v := (0, f)) rfl ?_
  refine Z_push gX8_noFinding_5 (v := (0, 0)) rfl ?_
  refine Z_push gX8_noFinding_6 (v := (1, ((97 : Nat) : Int))) rfl ?_
  refine Z_getV (v := (fdN T T.1 : Int)) gX8_noFinding_7 rfl rfl (by decide) g.1.1 ?_
  refine Z_push gX8_noFinding_10 (v := (0, 1)) rfl ?_
  refine Z_isub gX8_noFinding_11 ⟨by omega, by omega⟩ ?_
  refine Z_callP (kd := 1) (na := 3) (M' := mX8_in) gX8_noFinding_12 rfl rfl rfl rfl rfl rfl (fun _ => rfl) rfl rfl (fun _ _ => rfl) (d' := 0) (by omega) (vX8_in0 (by omega)) ?_
  refine Z_if_ne gX8_noFinding_15 (tgt := 22) (by decide) (fun h15 => absurd h15 (by omega)) (fun _ => ?_)
  refine Z_push gX8_noFinding_18 (v := (0, 1)) rfl ?_
  refine Z_goto gX8_noFinding_19 (tgt := 23) (by decide) ?_
  refine Z_retB gX8_noFinding_23 rfl (by first | exact Or.inl rfl | exact Or.inr rfl | assumption | omega) _ ?_
  exact ⟨rfl, g⟩
theorem vX8_fixables (hF : MF w T T.1) (hM : MT w T) (hU : MU w R) (hV : TV T) (hRV : RV B R) : Pv ro 1 mX8_fixables [(1, ((97 : Nat) : Int))] w (0, (fxN T R T.1 : Int)) := by
  have h30 := fdN_30 hV T.1
  have loop : ∀ m i : Nat, i + m = fdN T T.1 → ∀ s : Nat, s ≤ i → (∀ k, fdN T k = i → fxN T R k = s) → Z ro 1 mX8_fixables 4 [(1, ((97 : Nat) : Int)), (0, (s : Int)), (0, (i : Int))] [] w (fun r9 w' k => k = 0 ∧ ∃ o, r9 = .inl o ∧ (o = some (0, (fxN T R T.1 : Int)) ∧ w' = w)) := by
    intro m
    induction m with
    | zero =>
      intro i hi s hsi hs
      refine Z_push gX8_fixables_4 (v := (0, (i : Int))) rfl ?_
      refine Z_push gX8_fixables_5 (v := (1, ((97 : Nat) : Int))) rfl ?_
      refine Z_getV (v := (fdN T T.1 : Int)) gX8_fixables_6 rfl rfl (by decide) hF.1 ?_
      refine Z_icmp_ge gX8_fixables_9 (tgt := 34) (by decide) (fun _ => ?_) (fun h9 => absurd h9 (by omega))
      refine Z_push gX8_fixables_34 (v := (0, (s : Int))) rfl ?_
      refine Z_ret (v := (0, (s : Int))) gX8_fixables_35 rfl rfl rfl rfl rfl _ ?_
      exact ⟨by rw [hs T.1 (by omega)], rfl⟩
    | succ m ih =>
      intro i hi s hsi hs
      obtain ⟨j, hj, hr, rfl⟩ := fdN_ex (T := T) (i := i) (n := T.1) (by omega)
      have hs1 := hs j rfl
      have hn2 : ∀ s' : Nat, fxN T R (j + 1) = s' → ∀ k, fdN T k = fdN T j + 1 → fxN T R k = s' := fun s' h k hk => (plat (f := fxN T R) (fun q hq => fx_n hq) (by rw [hk, fdN_s hr])).trans h
      have hs2 : fxN T R (j + 1) = fxN T R j + (if 0 < gnT T R j then 1 else 0) := rfl
      refine Z_push gX8_fixables_4 (v := (0, (fdN T j : Int))) rfl ?_
      refine Z_push gX8_fixables_5 (v := (1, ((97 : Nat) : Int))) rfl ?_
      refine Z_getV (v := (fdN T T.1 : Int)) gX8_fixables_6 rfl rfl (by decide) hF.1 ?_
      refine Z_icmp_ge gX8_fixables_9 (tgt := 34) (by decide) (fun h9 => absurd h9 (by omega)) (fun _ => ?_)
      refine Z_push gX8_fixables_12 (v := (0, (s : Int))) rfl ?_
      refine Z_push gX8_fixables_13 (v := (1, ((97 : Nat) : Int))) rfl ?_
      refine Z_push gX8_fixables_14 (v := (0, (fdN T j : Int))) rfl ?_
      refine Z_callP (kd := 0) (na := 2) (M' := mX8_fixable) gX8_fixables_15 rfl rfl rfl rfl rfl rfl (fun _ => rfl) rfl rfl (fun _ _ => zrecv_obj rfl _ _ _) (d' := 0) (by omega) (vX8_fixable hF hM hU hV hRV hr) ?_
      refine Z_if_eq gX8_fixables_18 (tgt := 25) (by decide) (fun h18 => ?_) (fun h18 => ?_)
      · have hg0 : ¬ 0 < gnT T R j := fun h => by rw [if_pos h] at h18; exact absurd h18 (by decide)
        rw [if_neg hg0] at hs2
        refine Z_push gX8_fixables_25 (v := (0, 0)) rfl ?_
        refine Z_iadd gX8_fixables_26 ⟨by omega, by omega⟩ ?_
        refine Z_sto gX8_fixables_27 rfl (ls' := [(1, ((97 : Nat) : Int)), (0, (s : Int) + 0), (0, (fdN T j : Int))]) (st' := []) rfl ?_
        refine Z_iinc gX8_fixables_28 rfl ⟨by omega, by omega⟩ (ls' := [(1, ((97 : Nat) : Int)), (0, (s : Int) + 0), (0, (fdN T j : Int) + 1)]) rfl ?_
        refine Z_goto gX8_fixables_31 (tgt := 4) (by decide) ?_
        rw [Int.add_zero]
        exact ih (fdN T j + 1) (by omega) s (by omega) (hn2 s (by omega))
      · have hg1 : 0 < gnT T R j := Classical.byContradiction fun h => h18 (if_neg h)
        rw [if_pos hg1] at hs2
        refine Z_push gX8_fixables_21 (v := (0, 1)) rfl ?_
        refine Z_goto gX8_fixables_22 (tgt := 26) (by decide) ?_
        refine Z_iadd gX8_fixables_26 ⟨by omega, by omega⟩ ?_
        refine Z_sto gX8_fixables_27 rfl (ls' := [(1, ((97 : Nat) : Int)), (0, (s : Int) + 1), (0, (fdN T j : Int))]) (st' := []) rfl ?_
        refine Z_iinc gX8_fixables_28 rfl ⟨by omega, by omega⟩ (ls' := [(1, ((97 : Nat) : Int)), (0, (s : Int) + 1), (0, (fdN T j : Int) + 1)]) rfl ?_
        refine Z_goto gX8_fixables_31 (tgt := 4) (by decide) ?_
        exact ih (fdN T j + 1) (by omega) (s + 1) (by omega) (hn2 (s + 1) (by omega))
  show Z ro 1 mX8_fixables 0 [(1, ((97 : Nat) : Int)), (9, 0), (9, 0)] [] w _
  refine Z_push gX8_fixables_0 (v := (0, 0)) rfl ?_
  refine Z_sto gX8_fixables_1 rfl (ls' := [(1, ((97 : Nat) : Int)), (0, 0), (9, 0)]) (st' := []) rfl ?_
  refine Z_push gX8_fixables_2 (v := (0, 0)) rfl ?_
  refine Z_sto gX8_fixables_3 rfl (ls' := [(1, ((97 : Nat) : Int)), (0, 0), (0, 0)]) (st' := []) rfl ?_
  exact loop (fdN T T.1) 0 (by omega) 0 (by omega) (fun k hk => (plat (f := fxN T R) (k := 0) (fun q hq => fx_n hq) hk))
theorem mX8w_entries (hM : MR w T R D lim la) (hV : SV B T R D lim la) : Ev ro 0 mX8_entries [(1, ((97 : Nat) : Int))] w (rM w 0 0 ((T.1 : Int)) (fun w' => MR w' T R D lim la)) := by
  obtain ⟨hTV, hRV, hDV, hlim, hla, hop, hopD⟩ := id hV
  have hV1 := hTV.1
  have hM1 := MR_Y hM (frY.th w 0)
  have h0 : zup w 97 0 0 97 0 = 0 := zup_eq _ _ _ _
  have f0 : frM w (zup w 97 0 0) := (frY.th w 0).M
  show Z ro 0 mX8_entries 0 [(1, ((97 : Nat) : Int))] [] w _
  refine Z_push gX8_entries_0 (v := (1, ((97 : Nat) : Int))) rfl ?_
  refine Z_push gX8_entries_1 (v := (0, 0)) rfl ?_
  refine Z_put gX8_entries_2 rfl rfl (by decide) rfl (fun h => by cases h) ?_
  generalize zup w 97 0 0 = w1 at hM1 h0 f0 ⊢
  obtain ⟨hT1, hU1, hD1, hl1, hla1, hln1⟩ := id hM1
  refine Z_push gX8_entries_5 (v := (1, ((97 : Nat) : Int))) rfl ?_
  refine Z_getV (v := (T.1 : Int)) gX8_entries_6 rfl rfl (by decide) hT1.1 ?_
  refine Z_ret (v := (0, (T.1 : Int))) gX8_entries_9 rfl rfl rfl rfl rfl _ ?_
  exact ⟨⟨_, rfl, fun _ => rfl⟩, h0, hM1, f0⟩
theorem mX8w_kindOf (hM : MR w T R D lim la) (hV : SV B T R D lim la) (i : Int) : Ev ro 2 mX8_kindOf [(1, ((97 : Nat) : Int)), (0, i)] w (rM w 0 (cdEnt T i) (kT T i) (fun w' => MR w' T R D lim la)) := by
  obtain ⟨hTV, hRV, hDV, hlim, hla, hop, hopD⟩ := id hV
  have hV1 := hTV.1
  have hM1 := MR_Y hM (frY.th w 0)
  have h0 : zup w 97 0 0 97 0 = 0 := zup_eq _ _ _ _
  have f0 : frM w (zup w 97 0 0) := (frY.th w 0).M
  show Z ro 2 mX8_kindOf 0 [(1, ((97 : Nat) : Int)), (0, i)] [] w _
  refine Z_push gX8_kindOf_0 (v := (1, ((97 : Nat) : Int))) rfl ?_
  refine Z_push gX8_kindOf_1 (v := (0, 0)) rfl ?_
  refine Z_put gX8_kindOf_2 rfl rfl (by decide) rfl (fun h => by cases h) ?_
  generalize zup w 97 0 0 = w1 at hM1 h0 f0 ⊢
  obtain ⟨hT1, hU1, hD1, hl1, hla1, hln1⟩ := id hM1
  by_cases h : 0 ≤ i ∧ i < T.1
  · obtain ⟨q, rfl⟩ : ∃ q : Nat, i = (q : Int) := ⟨i.toNat, by omega⟩
    have hq : q < T.1 := by omega
    have hk := kT_v hTV h
    refine Z_push gX8_kindOf_5 (v := (1, ((97 : Nat) : Int))) rfl ?_
    refine Z_push gX8_kindOf_6 (v := (1, ((97 : Nat) : Int))) rfl ?_
    refine Z_push gX8_kindOf_7 (v := (0, (q : Int))) rfl ?_
    refine Z_callP (kd := 0) (na := 2) (M' := mX8_noEntry) gX8_kindOf_8 rfl rfl rfl rfl rfl rfl (fun _ => rfl) rfl rfl (fun _ _ => zrecv_obj rfl _ _ _) (d' := 1) (by omega) (noEnt0 hT1 hV1 h) ?_
    refine Z_push gX8_kindOf_11 (v := (0, 1)) rfl ?_
    refine Z_callP (kd := 0) (na := 3) (M' := mX8_fails) gX8_kindOf_12 rfl rfl rfl rfl rfl rfl (fun _ => rfl) rfl rfl (fun _ _ => zrecv_obj rfl _ _ _) (d' := 0) (by omega) (fail0 h0 1) ?_
    refine Z_if_eq gX8_kindOf_15 (tgt := 22) (by decide) (fun _ => ?_) (fun h15 => absurd h15 (by omega))
    refine Z_push gX8_kindOf_22 (v := (1, ((97 : Nat) : Int))) rfl ?_
    refine Z_getR (b := 98) gX8_kindOf_23 rfl rfl (by decide) rfl (by omega) ?_
    refine Z_push gX8_kindOf_26 (v := (0, (q : Int))) rfl ?_
    refine Z_caloadV (v := kT T (q : Int)) gX8_kindOf_27 rfl (by omega) (by omega) (hT1.k hq) ?_
    refine Z_retC gX8_kindOf_28 rfl (by omega) _ ?_
    have hcd : (cdEnt T (q : Int)) = 0 := by unfold cdEnt; (repeat' split) <;> omega
    exact ⟨⟨_, rfl, fun _ => rfl⟩, h0.trans (by rw [hcd]; rfl), hM1, f0⟩
  · refine Z_push gX8_kindOf_5 (v := (1, ((97 : Nat) : Int))) rfl ?_
    refine Z_push gX8_kindOf_6 (v := (1, ((97 : Nat) : Int))) rfl ?_
    refine Z_push gX8_kindOf_7 (v := (0, i)) rfl ?_
    refine Z_callP (kd := 0) (na := 2) (M' := mX8_noEntry) gX8_kindOf_8 rfl rfl rfl rfl rfl rfl (fun _ => rfl) rfl rfl (fun _ _ => zrecv_obj rfl _ _ _) (d' := 1) (by omega) (noEnt1 hT1 hV1 h) ?_
    refine Z_push gX8_kindOf_11 (v := (0, 1)) rfl ?_
    refine Z_callQ (kd := 0) (na := 3) (M' := mX8_fails) gX8_kindOf_12 rfl rfl rfl rfl rfl rfl (fun _ => rfl) rfl rfl (fun _ _ => zrecv_obj rfl _ _ _) (d' := 0) (by omega) (fail1 h0 (by omega)) ?_
    refine Z_if_eq gX8_kindOf_15 (tgt := 22) (by decide) (fun h15 => absurd h15 (by omega)) (fun _ => ?_)
    refine Z_push gX8_kindOf_18 (v := (0, 0)) rfl ?_
    refine Z_goto gX8_kindOf_19 (tgt := 28) (by decide) ?_
    refine Z_retC gX8_kindOf_28 rfl (by omega) _ ?_
    have hcd : (cdEnt T i) = 1 := by unfold cdEnt; (repeat' split) <;> omega
    exact ⟨⟨_, rfl, fun h => absurd h (by omega)⟩, (zup_eq _ _ _ _).trans (by rw [hcd]; rfl), MR_Y hM1 (frY.th w1 1), f0.trans (frY.th w1 1).M⟩
theorem mX8w_widthOf (hM : MR w T R D lim la) (hV : SV B T R D lim la) (i : Int) : Ev ro 2 mX8_widthOf [(1, ((97 : Nat) : Int)), (0, i)] w (rM w 0 (cdEnt T i) (wT T i) (fun w' => MR w' T R D lim la)) := by
  obtain ⟨hTV, hRV, hDV, hlim, hla, hop, hopD⟩ := id hV
  have hV1 := hTV.1
  have hM1 := MR_Y hM (frY.th w 0)
  have h0 : zup w 97 0 0 97 0 = 0 := zup_eq _ _ _ _
  have f0 : frM w (zup w 97 0 0) := (frY.th w 0).M
  show Z ro 2 mX8_widthOf 0 [(1, ((97 : Nat) : Int)), (0, i)] [] w _
  refine Z_push gX8_widthOf_0 (v := (1, ((97 : Nat) : Int))) rfl ?_
  refine Z_push gX8_widthOf_1 (v := (0, 0)) rfl ?_
  refine Z_put gX8_widthOf_2 rfl rfl (by decide) rfl (fun h => by cases h) ?_
  generalize zup w 97 0 0 = w1 at hM1 h0 f0 ⊢
  obtain ⟨hT1, hU1, hD1, hl1, hla1, hln1⟩ := id hM1
  by_cases h : 0 ≤ i ∧ i < T.1
  · obtain ⟨q, rfl⟩ : ∃ q : Nat, i = (q : Int) := ⟨i.toNat, by omega⟩
    have hq : q < T.1 := by omega
    refine Z_push gX8_widthOf_5 (v := (1, ((97 : Nat) : Int))) rfl ?_
    refine Z_push gX8_widthOf_6 (v := (1, ((97 : Nat) : Int))) rfl ?_
    refine Z_push gX8_widthOf_7 (v := (0, (q : Int))) rfl ?_
    refine Z_callP (kd := 0) (na := 2) (M' := mX8_noEntry) gX8_widthOf_8 rfl rfl rfl rfl rfl rfl (fun _ => rfl) rfl rfl (fun _ _ => zrecv_obj rfl _ _ _) (d' := 1) (by omega) (noEnt0 hT1 hV1 h) ?_
    refine Z_push gX8_widthOf_11 (v := (0, 1)) rfl ?_
    refine Z_callP (kd := 0) (na := 3) (M' := mX8_fails) gX8_widthOf_12 rfl rfl rfl rfl rfl rfl (fun _ => rfl) rfl rfl (fun _ _ => zrecv_obj rfl _ _ _) (d' := 0) (by omega) (fail0 h0 1) ?_
    refine Z_if_eq gX8_widthOf_15 (tgt := 22) (by decide) (fun _ => ?_) (fun h15 => absurd h15 (by omega))
    refine Z_push gX8_widthOf_22 (v := (1, ((97 : Nat) : Int))) rfl ?_
    refine Z_push gX8_widthOf_23 (v := (0, (q : Int))) rfl ?_
    refine Z_callP (kd := 0) (na := 2) (M' := mX8_wide) gX8_widthOf_24 rfl rfl rfl rfl rfl rfl (fun _ => rfl) rfl rfl (fun _ _ => zrecv_obj rfl _ _ _) (d' := 0) (by omega) (vX8_wide hT1 hTV hq) ?_
    refine Z_ret (v := (0, wT T (q : Int))) gX8_widthOf_27 rfl rfl rfl rfl rfl _ ?_
    have hcd : (cdEnt T (q : Int)) = 0 := by unfold cdEnt; (repeat' split) <;> omega
    exact ⟨⟨_, rfl, fun _ => rfl⟩, h0.trans (by rw [hcd]; rfl), hM1, f0⟩
  · refine Z_push gX8_widthOf_5 (v := (1, ((97 : Nat) : Int))) rfl ?_
    refine Z_push gX8_widthOf_6 (v := (1, ((97 : Nat) : Int))) rfl ?_
    refine Z_push gX8_widthOf_7 (v := (0, i)) rfl ?_
    refine Z_callP (kd := 0) (na := 2) (M' := mX8_noEntry) gX8_widthOf_8 rfl rfl rfl rfl rfl rfl (fun _ => rfl) rfl rfl (fun _ _ => zrecv_obj rfl _ _ _) (d' := 1) (by omega) (noEnt1 hT1 hV1 h) ?_
    refine Z_push gX8_widthOf_11 (v := (0, 1)) rfl ?_
    refine Z_callQ (kd := 0) (na := 3) (M' := mX8_fails) gX8_widthOf_12 rfl rfl rfl rfl rfl rfl (fun _ => rfl) rfl rfl (fun _ _ => zrecv_obj rfl _ _ _) (d' := 0) (by omega) (fail1 h0 (by omega)) ?_
    refine Z_if_eq gX8_widthOf_15 (tgt := 22) (by decide) (fun h15 => absurd h15 (by omega)) (fun _ => ?_)
    refine Z_push gX8_widthOf_18 (v := (0, 0)) rfl ?_
    refine Z_goto gX8_widthOf_19 (tgt := 27) (by decide) ?_
    refine Z_ret (v := (0, 0)) gX8_widthOf_27 rfl rfl rfl rfl rfl _ ?_
    have hcd : (cdEnt T i) = 1 := by unfold cdEnt; (repeat' split) <;> omega
    exact ⟨⟨_, rfl, fun h => absurd h (by omega)⟩, (zup_eq _ _ _ _).trans (by rw [hcd]; rfl), MR_Y hM1 (frY.th w1 1), f0.trans (frY.th w1 1).M⟩
theorem mX8w_depthOf (hM : MR w T R D lim la) (hV : SV B T R D lim la) (i : Int) : Ev ro 2 mX8_depthOf [(1, ((97 : Nat) : Int)), (0, i)] w (rM w 0 (cdEnt T i) (dpT T i) (fun w' => MR w' T R D lim la)) := by
  obtain ⟨hTV, hRV, hDV, hlim, hla, hop, hopD⟩ := id hV
  have hV1 := hTV.1
  have hM1 := MR_Y hM (frY.th w 0)
  have h0 : zup w 97 0 0 97 0 = 0 := zup_eq _ _ _ _
  have f0 : frM w (zup w 97 0 0) := (frY.th w 0).M
  show Z ro 2 mX8_depthOf 0 [(1, ((97 : Nat) : Int)), (0, i)] [] w _
  refine Z_push gX8_depthOf_0 (v := (1, ((97 : Nat) : Int))) rfl ?_
  refine Z_push gX8_depthOf_1 (v := (0, 0)) rfl ?_
  refine Z_put gX8_depthOf_2 rfl rfl (by decide) rfl (fun h => by cases h) ?_
  generalize zup w 97 0 0 = w1 at hM1 h0 f0 ⊢
  obtain ⟨hT1, hU1, hD1, hl1, hla1, hln1⟩ := id hM1
  by_cases h : 0 ≤ i ∧ i < T.1
  · obtain ⟨q, rfl⟩ : ∃ q : Nat, i = (q : Int) := ⟨i.toNat, by omega⟩
    have hq : q < T.1 := by omega
    refine Z_push gX8_depthOf_5 (v := (1, ((97 : Nat) : Int))) rfl ?_
    refine Z_push gX8_depthOf_6 (v := (1, ((97 : Nat) : Int))) rfl ?_
    refine Z_push gX8_depthOf_7 (v := (0, (q : Int))) rfl ?_
    refine Z_callP (kd := 0) (na := 2) (M' := mX8_noEntry) gX8_depthOf_8 rfl rfl rfl rfl rfl rfl (fun _ => rfl) rfl rfl (fun _ _ => zrecv_obj rfl _ _ _) (d' := 1) (by omega) (noEnt0 hT1 hV1 h) ?_
    refine Z_push gX8_depthOf_11 (v := (0, 1)) rfl ?_
    refine Z_callP (kd := 0) (na := 3) (M' := mX8_fails) gX8_depthOf_12 rfl rfl rfl rfl rfl rfl (fun _ => rfl) rfl rfl (fun _ _ => zrecv_obj rfl _ _ _) (d' := 0) (by omega) (fail0 h0 1) ?_
    refine Z_if_eq gX8_depthOf_15 (tgt := 22) (by decide) (fun _ => ?_) (fun h15 => absurd h15 (by omega))
    refine Z_push gX8_depthOf_22 (v := (1, ((97 : Nat) : Int))) rfl ?_
    refine Z_push gX8_depthOf_23 (v := (0, (q : Int))) rfl ?_
    refine Z_callP (kd := 0) (na := 2) (M' := mX8_depth) gX8_depthOf_24 rfl rfl rfl rfl rfl rfl (fun _ => rfl) rfl rfl (fun _ _ => zrecv_obj rfl _ _ _) (d' := 0) (by omega) (vX8_depth hT1 hTV hq) ?_
    refine Z_ret (v := (0, dpT T (q : Int))) gX8_depthOf_27 rfl rfl rfl rfl rfl _ ?_
    have hcd : (cdEnt T (q : Int)) = 0 := by unfold cdEnt; (repeat' split) <;> omega
    exact ⟨⟨_, rfl, fun _ => rfl⟩, h0.trans (by rw [hcd]; rfl), hM1, f0⟩
  · refine Z_push gX8_depthOf_5 (v := (1, ((97 : Nat) : Int))) rfl ?_
    refine Z_push gX8_depthOf_6 (v := (1, ((97 : Nat) : Int))) rfl ?_
    refine Z_push gX8_depthOf_7 (v := (0, i)) rfl ?_
    refine Z_callP (kd := 0) (na := 2) (M' := mX8_noEntry) gX8_depthOf_8 rfl rfl rfl rfl rfl rfl (fun _ => rfl) rfl rfl (fun _ _ => zrecv_obj rfl _ _ _) (d' := 1) (by omega) (noEnt1 hT1 hV1 h) ?_
    refine Z_push gX8_depthOf_11 (v := (0, 1)) rfl ?_
    refine Z_callQ (kd := 0) (na := 3) (M' := mX8_fails) gX8_depthOf_12 rfl rfl rfl rfl rfl rfl (fun _ => rfl) rfl rfl (fun _ _ => zrecv_obj rfl _ _ _) (d' := 0) (by omega) (fail1 h0 (by omega)) ?_
    refine Z_if_eq gX8_depthOf_15 (tgt := 22) (by decide) (fun h15 => absurd h15 (by omega)) (fun _ => ?_)
    refine Z_push gX8_depthOf_18 (v := (0, 0)) rfl ?_
    refine Z_goto gX8_depthOf_19 (tgt := 27) (by decide) ?_
    refine Z_ret (v := (0, 0)) gX8_depthOf_27 rfl rfl rfl rfl rfl _ ?_
    have hcd : (cdEnt T i) = 1 := by unfold cdEnt; (repeat' split) <;> omega
    exact ⟨⟨_, rfl, fun h => absurd h (by omega)⟩, (zup_eq _ _ _ _).trans (by rw [hcd]; rfl), MR_Y hM1 (frY.th w1 1), f0.trans (frY.th w1 1).M⟩
theorem mX8w_nameOf (hM : MR w T R D lim la) (hV : SV B T R D lim la) (i : Int) : Ev ro 2 mX8_nameOf [(1, ((97 : Nat) : Int)), (0, i)] w (rM w 0 (cdNameOf T i) ((T.2 i.toNat).2.1) (fun w' => MR w' T R D lim la)) := by
  obtain ⟨hTV, hRV, hDV, hlim, hla, hop, hopD⟩ := id hV
  have hV1 := hTV.1
  have hM1 := MR_Y hM (frY.th w 0)
  have h0 : zup w 97 0 0 97 0 = 0 := zup_eq _ _ _ _
  have f0 : frM w (zup w 97 0 0) := (frY.th w 0).M
  show Z ro 2 mX8_nameOf 0 [(1, ((97 : Nat) : Int)), (0, i)] [] w _
  refine Z_push gX8_nameOf_0 (v := (1, ((97 : Nat) : Int))) rfl ?_
  refine Z_push gX8_nameOf_1 (v := (0, 0)) rfl ?_
  refine Z_put gX8_nameOf_2 rfl rfl (by decide) rfl (fun h => by cases h) ?_
  generalize zup w 97 0 0 = w1 at hM1 h0 f0 ⊢
  obtain ⟨hT1, hU1, hD1, hl1, hla1, hln1⟩ := id hM1
  by_cases h : 0 ≤ i ∧ i < T.1
  · obtain ⟨q, rfl⟩ : ∃ q : Nat, i = (q : Int) := ⟨i.toNat, by omega⟩
    have hq : q < T.1 := by omega
    refine Z_push gX8_nameOf_5 (v := (1, ((97 : Nat) : Int))) rfl ?_
    refine Z_push gX8_nameOf_6 (v := (1, ((97 : Nat) : Int))) rfl ?_
    refine Z_push gX8_nameOf_7 (v := (0, (q : Int))) rfl ?_
    refine Z_callP (kd := 0) (na := 2) (M' := mX8_noEntry) gX8_nameOf_8 rfl rfl rfl rfl rfl rfl (fun _ => rfl) rfl rfl (fun _ _ => zrecv_obj rfl _ _ _) (d' := 1) (by omega) (noEnt0 hT1 hV1 h) ?_
    refine Z_push gX8_nameOf_11 (v := (0, 1)) rfl ?_
    refine Z_callP (kd := 0) (na := 3) (M' := mX8_fails) gX8_nameOf_12 rfl rfl rfl rfl rfl rfl (fun _ => rfl) rfl rfl (fun _ _ => zrecv_obj rfl _ _ _) (d' := 0) (by omega) (fail0 h0 1) ?_
    refine Z_if_ne gX8_nameOf_15 (tgt := 42) (by decide) (fun h15 => absurd h15 (by omega)) (fun _ => ?_)
    refine Z_push gX8_nameOf_18 (v := (1, ((97 : Nat) : Int))) rfl ?_
    refine Z_push gX8_nameOf_19 (v := (1, ((97 : Nat) : Int))) rfl ?_
    refine Z_getR (b := 98) gX8_nameOf_20 rfl rfl (by decide) rfl (by omega) ?_
    refine Z_push gX8_nameOf_23 (v := (0, (q : Int))) rfl ?_
    refine Z_caloadV (v := kT T (q : Int)) gX8_nameOf_24 rfl (by omega) (by omega) (hT1.k hq) ?_
    refine Z_push gX8_nameOf_25 (v := (0, 110)) rfl ?_
    refine Z_icmp_eq gX8_nameOf_27 (tgt := 34) (by decide) (fun h27 => ?_) (fun h27 => ?_)
    · refine Z_push gX8_nameOf_34 (v := (0, 0)) rfl ?_
      refine Z_push gX8_nameOf_35 (v := (0, 2)) rfl ?_
      refine Z_callP (kd := 0) (na := 3) (M' := mX8_fails) gX8_nameOf_36 rfl rfl rfl rfl rfl rfl (fun _ => rfl) rfl rfl (fun _ _ => zrecv_obj rfl _ _ _) (d' := 0) (by omega) (fail0 h0 2) ?_
      refine Z_if_eq gX8_nameOf_39 (tgt := 46) (by decide) (fun _ => ?_) (fun h39 => absurd h39 (by omega))
      refine Z_push gX8_nameOf_46 (v := (1, ((97 : Nat) : Int))) rfl ?_
      refine Z_getR (b := 99) gX8_nameOf_47 rfl rfl (by decide) rfl (by omega) ?_
      refine Z_push gX8_nameOf_50 (v := (0, (q : Int))) rfl ?_
      refine Z_ialoadV (v := (T.2 q).2.1) gX8_nameOf_51 rfl (by omega) (by omega) (hT1.n hq h27) ?_
      refine Z_ret (v := (0, (T.2 q).2.1)) gX8_nameOf_52 rfl rfl rfl rfl rfl _ ?_
      have hcd : (cdNameOf T (q : Int)) = 0 := by unfold cdNameOf; (repeat' split) <;> omega
      exact ⟨⟨_, rfl, fun _ => rfl⟩, h0.trans (by rw [hcd]; rfl), hM1, f0⟩
    · refine Z_push gX8_nameOf_30 (v := (0, 1)) rfl ?_
      refine Z_goto gX8_nameOf_31 (tgt := 35) (by decide) ?_
      refine Z_push gX8_nameOf_35 (v := (0, 2)) rfl ?_
      refine Z_callQ (kd := 0) (na := 3) (M' := mX8_fails) gX8_nameOf_36 rfl rfl rfl rfl rfl rfl (fun _ => rfl) rfl rfl (fun _ _ => zrecv_obj rfl _ _ _) (d' := 0) (by omega) (fail1 h0 (by omega)) ?_
      refine Z_if_eq gX8_nameOf_39 (tgt := 46) (by decide) (fun h39 => absurd h39 (by omega)) (fun _ => ?_)
      refine Z_push gX8_nameOf_42 (v := (0, 0)) rfl ?_
      refine Z_goto gX8_nameOf_43 (tgt := 52) (by decide) ?_
      refine Z_ret (v := (0, 0)) gX8_nameOf_52 rfl rfl rfl rfl rfl _ ?_
      have hcd : (cdNameOf T (q : Int)) = 2 := by unfold cdNameOf; (repeat' split) <;> omega
      exact ⟨⟨_, rfl, fun h => absurd h (by omega)⟩, (zup_eq _ _ _ _).trans (by rw [hcd]; rfl), MR_Y hM1 (frY.th w1 2), f0.trans (frY.th w1 2).M⟩
  · refine Z_push gX8_nameOf_5 (v := (1, ((97 : Nat) : Int))) rfl ?_
    refine Z_push gX8_nameOf_6 (v := (1, ((97 : Nat) : Int))) rfl ?_
    refine Z_push gX8_nameOf_7 (v := (0, i)) rfl ?_
    refine Z_callP (kd := 0) (na := 2) (M' := mX8_noEntry) gX8_nameOf_8 rfl rfl rfl rfl rfl rfl (fun _ => rfl) rfl rfl (fun _ _ => zrecv_obj rfl _ _ _) (d' := 1) (by omega) (noEnt1 hT1 hV1 h) ?_
    refine Z_push gX8_nameOf_11 (v := (0, 1)) rfl ?_
    refine Z_callQ (kd := 0) (na := 3) (M' := mX8_fails) gX8_nameOf_12 rfl rfl rfl rfl rfl rfl (fun _ => rfl) rfl rfl (fun _ _ => zrecv_obj rfl _ _ _) (d' := 0) (by omega) (fail1 h0 (by omega)) ?_
    refine Z_if_ne gX8_nameOf_15 (tgt := 42) (by decide) (fun _ => ?_) (fun h15 => absurd h15 (by omega))
    refine Z_push gX8_nameOf_42 (v := (0, 0)) rfl ?_
    refine Z_goto gX8_nameOf_43 (tgt := 52) (by decide) ?_
    refine Z_ret (v := (0, 0)) gX8_nameOf_52 rfl rfl rfl rfl rfl _ ?_
    have hcd : (cdNameOf T i) = 1 := by unfold cdNameOf; (repeat' split) <;> omega
    exact ⟨⟨_, rfl, fun h => absurd h (by omega)⟩, (zup_eq _ _ _ _).trans (by rw [hcd]; rfl), MR_Y hM1 (frY.th w1 1), f0.trans (frY.th w1 1).M⟩
theorem mX8w_isPinned (hM : MR w T R D lim la) (hV : SV B T R D lim la) (i : Int) : Ev ro 2 mX8_isPinned [(1, ((97 : Nat) : Int)), (0, i)] w (rM w 0 (cdEnt T i) (pT T i) (fun w' => MR w' T R D lim la)) := by
  obtain ⟨hTV, hRV, hDV, hlim, hla, hop, hopD⟩ := id hV
  have hV1 := hTV.1
  have hM1 := MR_Y hM (frY.th w 0)
  have h0 : zup w 97 0 0 97 0 = 0 := zup_eq _ _ _ _
  have f0 : frM w (zup w 97 0 0) := (frY.th w 0).M
  show Z ro 2 mX8_isPinned 0 [(1, ((97 : Nat) : Int)), (0, i)] [] w _
  refine Z_push gX8_isPinned_0 (v := (1, ((97 : Nat) : Int))) rfl ?_
  refine Z_push gX8_isPinned_1 (v := (0, 0)) rfl ?_
  refine Z_put gX8_isPinned_2 rfl rfl (by decide) rfl (fun h => by cases h) ?_
  generalize zup w 97 0 0 = w1 at hM1 h0 f0 ⊢
  obtain ⟨hT1, hU1, hD1, hl1, hla1, hln1⟩ := id hM1
  by_cases h : 0 ≤ i ∧ i < T.1
  · obtain ⟨q, rfl⟩ : ∃ q : Nat, i = (q : Int) := ⟨i.toNat, by omega⟩
    have hq : q < T.1 := by omega
    have h01 := pT_01 hTV (q : Int)
    refine Z_push gX8_isPinned_5 (v := (1, ((97 : Nat) : Int))) rfl ?_
    refine Z_push gX8_isPinned_6 (v := (1, ((97 : Nat) : Int))) rfl ?_
    refine Z_push gX8_isPinned_7 (v := (0, (q : Int))) rfl ?_
    refine Z_callP (kd := 0) (na := 2) (M' := mX8_noEntry) gX8_isPinned_8 rfl rfl rfl rfl rfl rfl (fun _ => rfl) rfl rfl (fun _ _ => zrecv_obj rfl _ _ _) (d' := 1) (by omega) (noEnt0 hT1 hV1 h) ?_
    refine Z_push gX8_isPinned_11 (v := (0, 1)) rfl ?_
    refine Z_callP (kd := 0) (na := 3) (M' := mX8_fails) gX8_isPinned_12 rfl rfl rfl rfl rfl rfl (fun _ => rfl) rfl rfl (fun _ _ => zrecv_obj rfl _ _ _) (d' := 0) (by omega) (fail0 h0 1) ?_
    refine Z_if_ne gX8_isPinned_15 (tgt := 31) (by decide) (fun h15 => absurd h15 (by omega)) (fun _ => ?_)
    refine Z_push gX8_isPinned_18 (v := (1, ((97 : Nat) : Int))) rfl ?_
    refine Z_getR (b := 101) gX8_isPinned_19 rfl rfl (by decide) rfl (by omega) ?_
    refine Z_push gX8_isPinned_22 (v := (0, (q : Int))) rfl ?_
    refine Z_baloadV (v := pT T (q : Int)) gX8_isPinned_23 rfl (by omega) (by omega) (hT1.p hq) ?_
    refine Z_if_eq gX8_isPinned_24 (tgt := 31) (by decide) (fun h24 => ?_) (fun h24 => ?_)
    · rw [h24]
      refine Z_push gX8_isPinned_31 (v := (0, 0)) rfl ?_
      refine Z_retB gX8_isPinned_32 rfl (by first | exact Or.inl rfl | exact Or.inr rfl | assumption | omega) _ ?_
      have hcd : (cdEnt T (q : Int)) = 0 := by unfold cdEnt; (repeat' split) <;> omega
      exact ⟨⟨_, rfl, fun _ => rfl⟩, h0.trans (by rw [hcd]; rfl), hM1, f0⟩
    · rw [show pT T (q : Int) = 1 by omega]
      refine Z_push gX8_isPinned_27 (v := (0, 1)) rfl ?_
      refine Z_goto gX8_isPinned_28 (tgt := 32) (by decide) ?_
      refine Z_retB gX8_isPinned_32 rfl (by first | exact Or.inl rfl | exact Or.inr rfl | assumption | omega) _ ?_
      have hcd : (cdEnt T (q : Int)) = 0 := by unfold cdEnt; (repeat' split) <;> omega
      exact ⟨⟨_, rfl, fun _ => rfl⟩, h0.trans (by rw [hcd]; rfl), hM1, f0⟩
  · refine Z_push gX8_isPinned_5 (v := (1, ((97 : Nat) : Int))) rfl ?_
    refine Z_push gX8_isPinned_6 (v := (1, ((97 : Nat) : Int))) rfl ?_
    refine Z_push gX8_isPinned_7 (v := (0, i)) rfl ?_
    refine Z_callP (kd := 0) (na := 2) (M' := mX8_noEntry) gX8_isPinned_8 rfl rfl rfl rfl rfl rfl (fun _ => rfl) rfl rfl (fun _ _ => zrecv_obj rfl _ _ _) (d' := 1) (by omega) (noEnt1 hT1 hV1 h) ?_
    refine Z_push gX8_isPinned_11 (v := (0, 1)) rfl ?_
    refine Z_callQ (kd := 0) (na := 3) (M' := mX8_fails) gX8_isPinned_12 rfl rfl rfl rfl rfl rfl (fun _ => rfl) rfl rfl (fun _ _ => zrecv_obj rfl _ _ _) (d' := 0) (by omega) (fail1 h0 (by omega)) ?_
    refine Z_if_ne gX8_isPinned_15 (tgt := 31) (by decide) (fun _ => ?_) (fun h15 => absurd h15 (by omega))
    refine Z_push gX8_isPinned_31 (v := (0, 0)) rfl ?_
    refine Z_retB gX8_isPinned_32 rfl (by first | exact Or.inl rfl | exact Or.inr rfl | assumption | omega) _ ?_
    have hcd : (cdEnt T i) = 1 := by unfold cdEnt; (repeat' split) <;> omega
    exact ⟨⟨_, rfl, fun h => absurd h (by omega)⟩, (zup_eq _ _ _ _).trans (by rw [hcd]; rfl), MR_Y hM1 (frY.th w1 1), f0.trans (frY.th w1 1).M⟩
theorem mX8w_occurrences (hM : MR w T R D lim la) (hV : SV B T R D lim la) (i : Int) : Ev ro 2 mX8_occurrences [(1, ((97 : Nat) : Int)), (0, i)] w (rM w 0 (cdName i) (tmT T i T.1) (fun w' => MR w' T R D lim la)) := by
  obtain ⟨hTV, hRV, hDV, hlim, hla, hop, hopD⟩ := id hV
  have hV1 := hTV.1
  have hM1 := MR_Y hM (frY.th w 0)
  have h0 : zup w 97 0 0 97 0 = 0 := zup_eq _ _ _ _
  have f0 : frM w (zup w 97 0 0) := (frY.th w 0).M
  show Z ro 2 mX8_occurrences 0 [(1, ((97 : Nat) : Int)), (0, i)] [] w _
  refine Z_push gX8_occurrences_0 (v := (1, ((97 : Nat) : Int))) rfl ?_
  refine Z_push gX8_occurrences_1 (v := (0, 0)) rfl ?_
  refine Z_put gX8_occurrences_2 rfl rfl (by decide) rfl (fun h => by cases h) ?_
  generalize zup w 97 0 0 = w1 at hM1 h0 f0 ⊢
  obtain ⟨hT1, hU1, hD1, hl1, hla1, hln1⟩ := id hM1
  by_cases h : 0 ≤ i ∧ i < 100
  · refine Z_push gX8_occurrences_5 (v := (1, ((97 : Nat) : Int))) rfl ?_
    refine Z_push gX8_occurrences_6 (v := (0, i)) rfl ?_
    refine Z_callP (kd := 1) (na := 1) (M' := mX8_isName) gX8_occurrences_7 rfl rfl rfl rfl rfl rfl (fun _ => rfl) rfl rfl (fun _ _ => rfl) (d' := 1) (by omega) (isNm1 h) ?_
    refine Z_if_ne gX8_occurrences_10 (tgt := 17) (by decide) (fun _ => ?_) (fun h10 => absurd h10 (by omega))
    refine Z_push gX8_occurrences_17 (v := (0, 0)) rfl ?_
    refine Z_push gX8_occurrences_18 (v := (0, 1)) rfl ?_
    refine Z_callP (kd := 0) (na := 3) (M' := mX8_fails) gX8_occurrences_19 rfl rfl rfl rfl rfl rfl (fun _ => rfl) rfl rfl (fun _ _ => zrecv_obj rfl _ _ _) (d' := 0) (by omega) (fail0 h0 1) ?_
    refine Z_if_eq gX8_occurrences_22 (tgt := 29) (by decide) (fun _ => ?_) (fun h22 => absurd h22 (by omega))
    refine Z_push gX8_occurrences_29 (v := (1, ((97 : Nat) : Int))) rfl ?_
    refine Z_push gX8_occurrences_30 (v := (0, i)) rfl ?_
    refine Z_callP (kd := 0) (na := 2) (M' := mX8_occurs) gX8_occurrences_31 rfl rfl rfl rfl rfl rfl (fun _ => rfl) rfl rfl (fun _ _ => zrecv_obj rfl _ _ _) (d' := 0) (by omega) (vX8_occurs hT1 hTV i) ?_
    refine Z_ret (v := (0, tmT T i T.1)) gX8_occurrences_34 rfl rfl rfl rfl rfl _ ?_
    have hcd : (cdName i) = 0 := by unfold cdName; (repeat' split) <;> omega
    exact ⟨⟨_, rfl, fun _ => rfl⟩, h0.trans (by rw [hcd]; rfl), hM1, f0⟩
  · refine Z_push gX8_occurrences_5 (v := (1, ((97 : Nat) : Int))) rfl ?_
    refine Z_push gX8_occurrences_6 (v := (0, i)) rfl ?_
    refine Z_callP (kd := 1) (na := 1) (M' := mX8_isName) gX8_occurrences_7 rfl rfl rfl rfl rfl rfl (fun _ => rfl) rfl rfl (fun _ _ => rfl) (d' := 1) (by omega) (isNm0 h) ?_
    refine Z_if_ne gX8_occurrences_10 (tgt := 17) (by decide) (fun h10 => absurd h10 (by omega)) (fun _ => ?_)
    refine Z_push gX8_occurrences_13 (v := (0, 1)) rfl ?_
    refine Z_goto gX8_occurrences_14 (tgt := 18) (by decide) ?_
    refine Z_push gX8_occurrences_18 (v := (0, 1)) rfl ?_
    refine Z_callQ (kd := 0) (na := 3) (M' := mX8_fails) gX8_occurrences_19 rfl rfl rfl rfl rfl rfl (fun _ => rfl) rfl rfl (fun _ _ => zrecv_obj rfl _ _ _) (d' := 0) (by omega) (fail1 h0 (by omega)) ?_
    refine Z_if_eq gX8_occurrences_22 (tgt := 29) (by decide) (fun h22 => absurd h22 (by omega)) (fun _ => ?_)
    refine Z_push gX8_occurrences_25 (v := (0, 0)) rfl ?_
    refine Z_goto gX8_occurrences_26 (tgt := 34) (by decide) ?_
    refine Z_ret (v := (0, 0)) gX8_occurrences_34 rfl rfl rfl rfl rfl _ ?_
    have hcd : (cdName i) = 1 := by unfold cdName; (repeat' split) <;> omega
    exact ⟨⟨_, rfl, fun h => absurd h (by omega)⟩, (zup_eq _ _ _ _).trans (by rw [hcd]; rfl), MR_Y hM1 (frY.th w1 1), f0.trans (frY.th w1 1).M⟩
theorem mX8w_commonest (hM : MR w T R D lim la) (hV : SV B T R D lim la) : Ev ro 1 mX8_commonest [(1, ((97 : Nat) : Int))] w (rM w 0 (cdCom T) ((cmT T 100 : Int)) (fun w' => MR w' T R D lim la)) := by
  obtain ⟨hTV, hRV, hDV, hlim, hla, hop, hopD⟩ := id hV
  have hV1 := hTV.1
  have hM1 := MR_Y hM (frY.th w 0)
  have h0 : zup w 97 0 0 97 0 = 0 := zup_eq _ _ _ _
  have f0 : frM w (zup w 97 0 0) := (frY.th w 0).M
  show Z ro 1 mX8_commonest 0 [(1, ((97 : Nat) : Int)), (9, 0), (9, 0)] [] w _
  refine Z_push gX8_commonest_0 (v := (1, ((97 : Nat) : Int))) rfl ?_
  refine Z_push gX8_commonest_1 (v := (0, 0)) rfl ?_
  refine Z_put gX8_commonest_2 rfl rfl (by decide) rfl (fun h => by cases h) ?_
  generalize zup w 97 0 0 = w1 at hM1 h0 f0 ⊢
  obtain ⟨hT1, hU1, hD1, hl1, hla1, hln1⟩ := id hM1
  have htm := fun x => tmT_bd T x T.1
  have loop : ∀ k j : Nat, j + k + 1 = 100 → Z ro 1 mX8_commonest 9 [(1, ((97 : Nat) : Int)), (0, (cmT T (j + 1) : Int)), (0, ((j + 1 : Nat) : Int))] [] w1 (fun r w' k9 => k9 = 0 ∧ ∃ o, r = .inl o ∧ (rM w 0 (cdCom T) (cmT T 100 : Int) (fun w' => MR w' T R D lim la)) o w') := by
    intro k
    induction k with
    | zero =>
      intro j hj
      obtain rfl : j = 99 := by omega
      refine Z_push gX8_commonest_9 (v := (0, ((99 + 1 : Nat) : Int))) rfl ?_
      refine Z_push gX8_commonest_10 (v := (0, 100)) rfl ?_
      refine Z_icmp_ge gX8_commonest_12 (tgt := 40) (by decide) (fun _ => ?_) (fun h12 => absurd h12 (by decide))
      refine Z_push gX8_commonest_40 (v := (1, ((97 : Nat) : Int))) rfl ?_
      refine Z_push gX8_commonest_41 (v := (1, ((97 : Nat) : Int))) rfl ?_
      refine Z_push gX8_commonest_42 (v := (0, (cmT T 100 : Int))) rfl ?_
      refine Z_callP (kd := 0) (na := 2) (M' := mX8_occurs) gX8_commonest_43 rfl rfl rfl rfl rfl rfl (fun _ => rfl) rfl rfl (fun _ _ => zrecv_obj rfl _ _ _) (d' := 0) (by omega) (vX8_occurs hT1 hTV _) ?_
      refine Z_if_ne gX8_commonest_46 (tgt := 53) (by decide) (fun h46 => ?_) (fun h46 => ?_)
      · refine Z_push gX8_commonest_53 (v := (0, 0)) rfl ?_
        refine Z_push gX8_commonest_54 (v := (0, 1)) rfl ?_
        refine Z_callP (kd := 0) (na := 3) (M' := mX8_fails) gX8_commonest_55 rfl rfl rfl rfl rfl rfl (fun _ => rfl) rfl rfl (fun _ _ => zrecv_obj rfl _ _ _) (d' := 0) (by omega) (fail0 h0 1) ?_
        refine Z_if_eq gX8_commonest_58 (tgt := 65) (by decide) (fun _ => ?_) (fun h58 => absurd h58 (by omega))
        refine Z_push gX8_commonest_65 (v := (0, (cmT T 100 : Int))) rfl ?_
        refine Z_ret (v := (0, (cmT T 100 : Int))) gX8_commonest_66 rfl rfl rfl rfl rfl _ ?_
        have hcd : (cdCom T) = 0 := by unfold cdCom; (repeat' split) <;> omega
        exact ⟨⟨_, rfl, fun _ => rfl⟩, h0.trans (by rw [hcd]; rfl), hM1, f0⟩
      · refine Z_push gX8_commonest_49 (v := (0, 1)) rfl ?_
        refine Z_goto gX8_commonest_50 (tgt := 54) (by decide) ?_
        refine Z_push gX8_commonest_54 (v := (0, 1)) rfl ?_
        refine Z_callQ (kd := 0) (na := 3) (M' := mX8_fails) gX8_commonest_55 rfl rfl rfl rfl rfl rfl (fun _ => rfl) rfl rfl (fun _ _ => zrecv_obj rfl _ _ _) (d' := 0) (by omega) (fail1 h0 (by omega)) ?_
        refine Z_if_eq gX8_commonest_58 (tgt := 65) (by decide) (fun h58 => absurd h58 (by omega)) (fun _ => ?_)
        refine Z_push gX8_commonest_61 (v := (0, 0)) rfl ?_
        refine Z_goto gX8_commonest_62 (tgt := 66) (by decide) ?_
        refine Z_ret (v := (0, 0)) gX8_commonest_66 rfl rfl rfl rfl rfl _ ?_
        have hcd : (cdCom T) = 1 := by unfold cdCom; (repeat' split) <;> omega
        exact ⟨⟨_, rfl, fun h => absurd h (by omega)⟩, (zup_eq _ _ _ _).trans (by rw [hcd]; rfl), MR_Y hM1 (frY.th w1 1), f0.trans (frY.th w1 1).M⟩
    | succ k ih =>
      intro j hj
      have hn := ih (j + 1) (by omega)
      have e : cmT T (j + 1 + 1) = if tmT T (cmT T (j + 1) : Int) T.1 < tmT T ((j + 1 : Nat) : Int) T.1 then j + 1 else cmT T (j + 1) := rfl
      rw [show ((j + 1 + 1 : Nat) : Int) = ((j + 1 : Nat) : Int) + 1 from rfl] at hn
      refine Z_push gX8_commonest_9 (v := (0, ((j + 1 : Nat) : Int))) rfl ?_
      refine Z_push gX8_commonest_10 (v := (0, 100)) rfl ?_
      refine Z_icmp_ge gX8_commonest_12 (tgt := 40) (by decide) (fun h12 => absurd h12 (by omega)) (fun _ => ?_)
      refine Z_push gX8_commonest_15 (v := (1, ((97 : Nat) : Int))) rfl ?_
      refine Z_push gX8_commonest_16 (v := (0, ((j + 1 : Nat) : Int))) rfl ?_
      refine Z_callP (kd := 0) (na := 2) (M' := mX8_occurs) gX8_commonest_17 rfl rfl rfl rfl rfl rfl (fun _ => rfl) rfl rfl (fun _ _ => zrecv_obj rfl _ _ _) (d' := 0) (by omega) (vX8_occurs hT1 hTV _) ?_
      refine Z_push gX8_commonest_20 (v := (1, ((97 : Nat) : Int))) rfl ?_
      refine Z_push gX8_commonest_21 (v := (0, (cmT T (j + 1) : Int))) rfl ?_
      refine Z_callP (kd := 0) (na := 2) (M' := mX8_occurs) gX8_commonest_22 rfl rfl rfl rfl rfl rfl (fun _ => rfl) rfl rfl (fun _ _ => zrecv_obj rfl _ _ _) (d' := 0) (by omega) (vX8_occurs hT1 hTV _) ?_
      refine Z_icmp_le gX8_commonest_25 (tgt := 32) (by decide) (fun h25 => ?_) (fun h25 => ?_)
      · rw [if_neg (by omega)] at e
        rw [e] at hn
        refine Z_push gX8_commonest_32 (v := (0, (cmT T (j + 1) : Int))) rfl ?_
        refine Z_sto gX8_commonest_33 rfl (ls' := [(1, ((97 : Nat) : Int)), (0, (cmT T (j + 1) : Int)), (0, ((j + 1 : Nat) : Int))]) (st' := []) rfl ?_
        refine Z_iinc gX8_commonest_34 rfl ⟨by omega, by omega⟩ (ls' := [(1, ((97 : Nat) : Int)), (0, (cmT T (j + 1) : Int)), (0, ((j + 1 : Nat) : Int) + 1)]) rfl ?_
        refine Z_goto gX8_commonest_37 (tgt := 9) (by decide) ?_
        exact hn
      · rw [if_pos (by omega)] at e
        rw [e] at hn
        refine Z_push gX8_commonest_28 (v := (0, ((j + 1 : Nat) : Int))) rfl ?_
        refine Z_goto gX8_commonest_29 (tgt := 33) (by decide) ?_
        refine Z_sto gX8_commonest_33 rfl (ls' := [(1, ((97 : Nat) : Int)), (0, ((j + 1 : Nat) : Int)), (0, ((j + 1 : Nat) : Int))]) (st' := []) rfl ?_
        refine Z_iinc gX8_commonest_34 rfl ⟨by omega, by omega⟩ (ls' := [(1, ((97 : Nat) : Int)), (0, ((j + 1 : Nat) : Int)), (0, ((j + 1 : Nat) : Int) + 1)]) rfl ?_
        refine Z_goto gX8_commonest_37 (tgt := 9) (by decide) ?_
        exact hn
  have hn := loop 99 0 (by omega)
  have e0 : cmT T (0 + 1) = 0 := by show (if _ then 0 else 0) = 0; split <;> rfl
  rw [e0] at hn
  refine Z_push gX8_commonest_5 (v := (0, 0)) rfl ?_
  refine Z_sto gX8_commonest_6 rfl (ls' := [(1, ((97 : Nat) : Int)), (0, 0), (9, 0)]) (st' := []) rfl ?_
  refine Z_push gX8_commonest_7 (v := (0, 1)) rfl ?_
  refine Z_sto gX8_commonest_8 rfl (ls' := [(1, ((97 : Nat) : Int)), (0, 0), (0, 1)]) (st' := []) rfl ?_
  exact hn
theorem mX8w_findings (hM : MR w T R D lim la) (hV : SV B T R D lim la) : Ev ro 2 mX8_findings [(1, ((97 : Nat) : Int))] w (rM w 0 0 ((fdN T T.1 : Int)) (fun w' => MR w' T R D lim la)) := by
  obtain ⟨hTV, hRV, hDV, hlim, hla, hop, hopD⟩ := id hV
  have hV1 := hTV.1
  have hM1 := MR_Y hM (frY.th w 0)
  have h0 : zup w 97 0 0 97 0 = 0 := zup_eq _ _ _ _
  have f0 : frM w (zup w 97 0 0) := (frY.th w 0).M
  show Z ro 2 mX8_findings 0 [(1, ((97 : Nat) : Int))] [] w _
  refine Z_push gX8_findings_0 (v := (1, ((97 : Nat) : Int))) rfl ?_
  refine Z_push gX8_findings_1 (v := (0, 0)) rfl ?_
  refine Z_put gX8_findings_2 rfl rfl (by decide) rfl (fun h => by cases h) ?_
  generalize zup w 97 0 0 = w1 at hM1 h0 f0 ⊢
  obtain ⟨hT1, hU1, hD1, hl1, hla1, hln1⟩ := id hM1
  refine Z_push gX8_findings_5 (v := (1, ((97 : Nat) : Int))) rfl ?_
  refine Z_callE (kd := 0) (na := 1) (M' := mX8_look) gX8_findings_6 rfl rfl rfl rfl rfl rfl (fun _ => rfl) rfl rfl (fun _ _ => zrecv_obj rfl _ _ _) (d' := 1) (by omega) (vX8_look hT1 hU1 hTV hRV) ?_
  rintro o w2 ⟨rfl, g1, g2, g3, g4⟩
  refine Z_push gX8_findings_9 (v := (1, ((97 : Nat) : Int))) rfl ?_
  refine Z_getV (v := (fdN T T.1 : Int)) gX8_findings_10 rfl rfl (by decide) g1.1 ?_
  refine Z_ret (v := (0, (fdN T T.1 : Int))) gX8_findings_13 rfl rfl rfl rfl rfl _ ?_
  exact ⟨⟨_, rfl, fun _ => rfl⟩, (g4 _ _ (by omega) (by omega)).trans h0, MR_Y hM1 g4.Y, f0.trans g4.Y.M⟩
theorem mX8w_ruleOf (hM : MR w T R D lim la) (hV : SV B T R D lim la) (f : Int) : Ev ro 3 mX8_ruleOf [(1, ((97 : Nat) : Int)), (0, f)] w (rM w 0 (cdFnd T f) (rlT T (feT T f.toNat)) (fun w' => MR w' T R D lim la)) := by
  obtain ⟨hTV, hRV, hDV, hlim, hla, hop, hopD⟩ := id hV
  have hV1 := hTV.1
  have hM1 := MR_Y hM (frY.th w 0)
  have h0 : zup w 97 0 0 97 0 = 0 := zup_eq _ _ _ _
  have f0 : frM w (zup w 97 0 0) := (frY.th w 0).M
  show Z ro 3 mX8_ruleOf 0 [(1, ((97 : Nat) : Int)), (0, f)] [] w _
  refine Z_push gX8_ruleOf_0 (v := (1, ((97 : Nat) : Int))) rfl ?_
  refine Z_push gX8_ruleOf_1 (v := (0, 0)) rfl ?_
  refine Z_put gX8_ruleOf_2 rfl rfl (by decide) rfl (fun h => by cases h) ?_
  generalize zup w 97 0 0 = w1 at hM1 h0 f0 ⊢
  obtain ⟨hT1, hU1, hD1, hl1, hla1, hln1⟩ := id hM1
  by_cases h : 0 ≤ f ∧ f < (fdN T T.1 : Int)
  · obtain ⟨j, hj, hr, he⟩ := fdN_ex (T := T) (i := f.toNat) (n := T.1) (by omega)
    have hfe : feT T f.toNat = j := by rw [← he]; exact fe_at hr
    have h30 := fdN_30 hTV T.1
    rw [hfe]
    obtain rfl : f = (fdN T j : Int) := by omega
    refine Z_push gX8_ruleOf_5 (v := (1, ((97 : Nat) : Int))) rfl ?_
    refine Z_push gX8_ruleOf_6 (v := (1, ((97 : Nat) : Int))) rfl ?_
    refine Z_push gX8_ruleOf_7 (v := (0, (fdN T j : Int))) rfl ?_
    refine Z_callE (kd := 0) (na := 2) (M' := mX8_noFinding) gX8_ruleOf_8 rfl rfl rfl rfl rfl rfl (fun _ => rfl) rfl rfl (fun _ _ => zrecv_obj rfl _ _ _) (d' := 2) (by omega) (noFnd0 hT1 hU1 hTV hRV h) ?_
    rintro o w2 ⟨rfl, g1, g2, g3, g4⟩
    obtain ⟨f1, f2, f3⟩ := g1.2 j hj hr
    have h0 : w2 97 0 = 0 := (g4 _ _ (by omega) (by omega)).trans h0
    refine Z_push gX8_ruleOf_11 (v := (0, 1)) rfl ?_
    refine Z_callP (kd := 0) (na := 3) (M' := mX8_fails) gX8_ruleOf_12 rfl rfl rfl rfl rfl rfl (fun _ => rfl) rfl rfl (fun _ _ => zrecv_obj rfl _ _ _) (d' := 0) (by omega) (fail0 h0 1) ?_
    refine Z_if_eq gX8_ruleOf_15 (tgt := 22) (by decide) (fun _ => ?_) (fun h15 => absurd h15 (by omega))
    refine Z_push gX8_ruleOf_22 (v := (1, ((97 : Nat) : Int))) rfl ?_
    refine Z_getR (b := 111) gX8_ruleOf_23 rfl rfl (by decide) rfl (by omega) ?_
    refine Z_push gX8_ruleOf_26 (v := (0, (fdN T j : Int))) rfl ?_
    refine Z_ialoadV (v := rlT T j) gX8_ruleOf_27 rfl (by omega) (by omega) f1 ?_
    refine Z_ret (v := (0, rlT T j)) gX8_ruleOf_28 rfl rfl rfl rfl rfl _ ?_
    have hcd : (cdFnd T (fdN T j : Int)) = 0 := by unfold cdFnd; (repeat' split) <;> omega
    exact ⟨⟨_, rfl, fun _ => rfl⟩, h0.trans (by rw [hcd]; rfl), MR_Y hM1 g4.Y, f0.trans g4.Y.M⟩
  · refine Z_push gX8_ruleOf_5 (v := (1, ((97 : Nat) : Int))) rfl ?_
    refine Z_push gX8_ruleOf_6 (v := (1, ((97 : Nat) : Int))) rfl ?_
    refine Z_push gX8_ruleOf_7 (v := (0, f)) rfl ?_
    refine Z_callE (kd := 0) (na := 2) (M' := mX8_noFinding) gX8_ruleOf_8 rfl rfl rfl rfl rfl rfl (fun _ => rfl) rfl rfl (fun _ _ => zrecv_obj rfl _ _ _) (d' := 2) (by omega) (noFnd1 hT1 hU1 hTV hRV h) ?_
    rintro o w2 ⟨rfl, g1, g2, g3, g4⟩
    have h0 : w2 97 0 = 0 := (g4 _ _ (by omega) (by omega)).trans h0
    refine Z_push gX8_ruleOf_11 (v := (0, 1)) rfl ?_
    refine Z_callQ (kd := 0) (na := 3) (M' := mX8_fails) gX8_ruleOf_12 rfl rfl rfl rfl rfl rfl (fun _ => rfl) rfl rfl (fun _ _ => zrecv_obj rfl _ _ _) (d' := 0) (by omega) (fail1 h0 (by omega)) ?_
    refine Z_if_eq gX8_ruleOf_15 (tgt := 22) (by decide) (fun h15 => absurd h15 (by omega)) (fun _ => ?_)
    refine Z_push gX8_ruleOf_18 (v := (0, 0)) rfl ?_
    refine Z_goto gX8_ruleOf_19 (tgt := 28) (by decide) ?_
    refine Z_ret (v := (0, 0)) gX8_ruleOf_28 rfl rfl rfl rfl rfl _ ?_
    have hcd : (cdFnd T f) = 1 := by unfold cdFnd; (repeat' split) <;> omega
    exact ⟨⟨_, rfl, fun h => absurd h (by omega)⟩, (zup_eq _ _ _ _).trans (by rw [hcd]; rfl), MR_Y (MR_Y hM1 g4.Y) (frY.th w2 1), (f0.trans g4.Y.M).trans (frY.th w2 1).M⟩
theorem mX8w_firstOf (hM : MR w T R D lim la) (hV : SV B T R D lim la) (f : Int) : Ev ro 3 mX8_firstOf [(1, ((97 : Nat) : Int)), (0, f)] w (rM w 0 (cdFnd T f) ((feT T f.toNat : Int)) (fun w' => MR w' T R D lim la)) := by
  obtain ⟨hTV, hRV, hDV, hlim, hla, hop, hopD⟩ := id hV
  have hV1 := hTV.1
  have hM1 := MR_Y hM (frY.th w 0)
  have h0 : zup w 97 0 0 97 0 = 0 := zup_eq _ _ _ _
  have f0 : frM w (zup w 97 0 0) := (frY.th w 0).M
  show Z ro 3 mX8_firstOf 0 [(1, ((97 : Nat) : Int)), (0, f)] [] w _
  refine Z_push gX8_firstOf_0 (v := (1, ((97 : Nat) : Int))) rfl ?_
  refine Z_push gX8_firstOf_1 (v := (0, 0)) rfl ?_
  refine Z_put gX8_firstOf_2 rfl rfl (by decide) rfl (fun h => by cases h) ?_
  generalize zup w 97 0 0 = w1 at hM1 h0 f0 ⊢
  obtain ⟨hT1, hU1, hD1, hl1, hla1, hln1⟩ := id hM1
  by_cases h : 0 ≤ f ∧ f < (fdN T T.1 : Int)
  · obtain ⟨j, hj, hr, he⟩ := fdN_ex (T := T) (i := f.toNat) (n := T.1) (by omega)
    have hfe : feT T f.toNat = j := by rw [← he]; exact fe_at hr
    have h30 := fdN_30 hTV T.1
    rw [hfe]
    obtain rfl : f = (fdN T j : Int) := by omega
    refine Z_push gX8_firstOf_5 (v := (1, ((97 : Nat) : Int))) rfl ?_
    refine Z_push gX8_firstOf_6 (v := (1, ((97 : Nat) : Int))) rfl ?_
    refine Z_push gX8_firstOf_7 (v := (0, (fdN T j : Int))) rfl ?_
    refine Z_callE (kd := 0) (na := 2) (M' := mX8_noFinding) gX8_firstOf_8 rfl rfl rfl rfl rfl rfl (fun _ => rfl) rfl rfl (fun _ _ => zrecv_obj rfl _ _ _) (d' := 2) (by omega) (noFnd0 hT1 hU1 hTV hRV h) ?_
    rintro o w2 ⟨rfl, g1, g2, g3, g4⟩
    obtain ⟨f1, f2, f3⟩ := g1.2 j hj hr
    have h0 : w2 97 0 = 0 := (g4 _ _ (by omega) (by omega)).trans h0
    refine Z_push gX8_firstOf_11 (v := (0, 1)) rfl ?_
    refine Z_callP (kd := 0) (na := 3) (M' := mX8_fails) gX8_firstOf_12 rfl rfl rfl rfl rfl rfl (fun _ => rfl) rfl rfl (fun _ _ => zrecv_obj rfl _ _ _) (d' := 0) (by omega) (fail0 h0 1) ?_
    refine Z_if_eq gX8_firstOf_15 (tgt := 22) (by decide) (fun _ => ?_) (fun h15 => absurd h15 (by omega))
    refine Z_push gX8_firstOf_22 (v := (1, ((97 : Nat) : Int))) rfl ?_
    refine Z_getR (b := 112) gX8_firstOf_23 rfl rfl (by decide) rfl (by omega) ?_
    refine Z_push gX8_firstOf_26 (v := (0, (fdN T j : Int))) rfl ?_
    refine Z_ialoadV (v := (j : Int)) gX8_firstOf_27 rfl (by omega) (by omega) f2 ?_
    refine Z_ret (v := (0, (j : Int))) gX8_firstOf_28 rfl rfl rfl rfl rfl _ ?_
    have hcd : (cdFnd T (fdN T j : Int)) = 0 := by unfold cdFnd; (repeat' split) <;> omega
    exact ⟨⟨_, rfl, fun _ => rfl⟩, h0.trans (by rw [hcd]; rfl), MR_Y hM1 g4.Y, f0.trans g4.Y.M⟩
  · refine Z_push gX8_firstOf_5 (v := (1, ((97 : Nat) : Int))) rfl ?_
    refine Z_push gX8_firstOf_6 (v := (1, ((97 : Nat) : Int))) rfl ?_
    refine Z_push gX8_firstOf_7 (v := (0, f)) rfl ?_
    refine Z_callE (kd := 0) (na := 2) (M' := mX8_noFinding) gX8_firstOf_8 rfl rfl rfl rfl rfl rfl (fun _ => rfl) rfl rfl (fun _ _ => zrecv_obj rfl _ _ _) (d' := 2) (by omega) (noFnd1 hT1 hU1 hTV hRV h) ?_
    rintro o w2 ⟨rfl, g1, g2, g3, g4⟩
    have h0 : w2 97 0 = 0 := (g4 _ _ (by omega) (by omega)).trans h0
    refine Z_push gX8_firstOf_11 (v := (0, 1)) rfl ?_
    refine Z_callQ (kd := 0) (na := 3) (M' := mX8_fails) gX8_firstOf_12 rfl rfl rfl rfl rfl rfl (fun _ => rfl) rfl rfl (fun _ _ => zrecv_obj rfl _ _ _) (d' := 0) (by omega) (fail1 h0 (by omega)) ?_
    refine Z_if_eq gX8_firstOf_15 (tgt := 22) (by decide) (fun h15 => absurd h15 (by omega)) (fun _ => ?_)
    refine Z_push gX8_firstOf_18 (v := (0, 0)) rfl ?_
    refine Z_goto gX8_firstOf_19 (tgt := 28) (by decide) ?_
    refine Z_ret (v := (0, 0)) gX8_firstOf_28 rfl rfl rfl rfl rfl _ ?_
    have hcd : (cdFnd T f) = 1 := by unfold cdFnd; (repeat' split) <;> omega
    exact ⟨⟨_, rfl, fun h => absurd h (by omega)⟩, (zup_eq _ _ _ _).trans (by rw [hcd]; rfl), MR_Y (MR_Y hM1 g4.Y) (frY.th w2 1), (f0.trans g4.Y.M).trans (frY.th w2 1).M⟩
theorem mX8w_lastOf (hM : MR w T R D lim la) (hV : SV B T R D lim la) (f : Int) : Ev ro 3 mX8_lastOf [(1, ((97 : Nat) : Int)), (0, f)] w (rM w 0 (cdFnd T f) ((enT T (feT T f.toNat) : Int)) (fun w' => MR w' T R D lim la)) := by
  obtain ⟨hTV, hRV, hDV, hlim, hla, hop, hopD⟩ := id hV
  have hV1 := hTV.1
  have hM1 := MR_Y hM (frY.th w 0)
  have h0 : zup w 97 0 0 97 0 = 0 := zup_eq _ _ _ _
  have f0 : frM w (zup w 97 0 0) := (frY.th w 0).M
  show Z ro 3 mX8_lastOf 0 [(1, ((97 : Nat) : Int)), (0, f)] [] w _
  refine Z_push gX8_lastOf_0 (v := (1, ((97 : Nat) : Int))) rfl ?_
  refine Z_push gX8_lastOf_1 (v := (0, 0)) rfl ?_
  refine Z_put gX8_lastOf_2 rfl rfl (by decide) rfl (fun h => by cases h) ?_
  generalize zup w 97 0 0 = w1 at hM1 h0 f0 ⊢
  obtain ⟨hT1, hU1, hD1, hl1, hla1, hln1⟩ := id hM1
  by_cases h : 0 ≤ f ∧ f < (fdN T T.1 : Int)
  · obtain ⟨j, hj, hr, he⟩ := fdN_ex (T := T) (i := f.toNat) (n := T.1) (by omega)
    have hfe : feT T f.toNat = j := by rw [← he]; exact fe_at hr
    have h30 := fdN_30 hTV T.1
    rw [hfe]
    obtain rfl : f = (fdN T j : Int) := by omega
    refine Z_push gX8_lastOf_5 (v := (1, ((97 : Nat) : Int))) rfl ?_
    refine Z_push gX8_lastOf_6 (v := (1, ((97 : Nat) : Int))) rfl ?_
    refine Z_push gX8_lastOf_7 (v := (0, (fdN T j : Int))) rfl ?_
    refine Z_callE (kd := 0) (na := 2) (M' := mX8_noFinding) gX8_lastOf_8 rfl rfl rfl rfl rfl rfl (fun _ => rfl) rfl rfl (fun _ _ => zrecv_obj rfl _ _ _) (d' := 2) (by omega) (noFnd0 hT1 hU1 hTV hRV h) ?_
    rintro o w2 ⟨rfl, g1, g2, g3, g4⟩
    obtain ⟨f1, f2, f3⟩ := g1.2 j hj hr
    have h0 : w2 97 0 = 0 := (g4 _ _ (by omega) (by omega)).trans h0
    refine Z_push gX8_lastOf_11 (v := (0, 1)) rfl ?_
    refine Z_callP (kd := 0) (na := 3) (M' := mX8_fails) gX8_lastOf_12 rfl rfl rfl rfl rfl rfl (fun _ => rfl) rfl rfl (fun _ _ => zrecv_obj rfl _ _ _) (d' := 0) (by omega) (fail0 h0 1) ?_
    refine Z_if_eq gX8_lastOf_15 (tgt := 22) (by decide) (fun _ => ?_) (fun h15 => absurd h15 (by omega))
    refine Z_push gX8_lastOf_22 (v := (1, ((97 : Nat) : Int))) rfl ?_
    refine Z_getR (b := 113) gX8_lastOf_23 rfl rfl (by decide) rfl (by omega) ?_
    refine Z_push gX8_lastOf_26 (v := (0, (fdN T j : Int))) rfl ?_
    refine Z_ialoadV (v := (enT T j : Int)) gX8_lastOf_27 rfl (by omega) (by omega) f3 ?_
    refine Z_ret (v := (0, (enT T j : Int))) gX8_lastOf_28 rfl rfl rfl rfl rfl _ ?_
    have hcd : (cdFnd T (fdN T j : Int)) = 0 := by unfold cdFnd; (repeat' split) <;> omega
    exact ⟨⟨_, rfl, fun _ => rfl⟩, h0.trans (by rw [hcd]; rfl), MR_Y hM1 g4.Y, f0.trans g4.Y.M⟩
  · refine Z_push gX8_lastOf_5 (v := (1, ((97 : Nat) : Int))) rfl ?_
    refine Z_push gX8_lastOf_6 (v := (1, ((97 : Nat) : Int))) rfl ?_
    refine Z_push gX8_lastOf_7 (v := (0, f)) rfl ?_
    refine Z_callE (kd := 0) (na := 2) (M' := mX8_noFinding) gX8_lastOf_8 rfl rfl rfl rfl rfl rfl (fun _ => rfl) rfl rfl (fun _ _ => zrecv_obj rfl _ _ _) (d' := 2) (by omega) (noFnd1 hT1 hU1 hTV hRV h) ?_
    rintro o w2 ⟨rfl, g1, g2, g3, g4⟩
    have h0 : w2 97 0 = 0 := (g4 _ _ (by omega) (by omega)).trans h0
    refine Z_push gX8_lastOf_11 (v := (0, 1)) rfl ?_
    refine Z_callQ (kd := 0) (na := 3) (M' := mX8_fails) gX8_lastOf_12 rfl rfl rfl rfl rfl rfl (fun _ => rfl) rfl rfl (fun _ _ => zrecv_obj rfl _ _ _) (d' := 0) (by omega) (fail1 h0 (by omega)) ?_
    refine Z_if_eq gX8_lastOf_15 (tgt := 22) (by decide) (fun h15 => absurd h15 (by omega)) (fun _ => ?_)
    refine Z_push gX8_lastOf_18 (v := (0, 0)) rfl ?_
    refine Z_goto gX8_lastOf_19 (tgt := 28) (by decide) ?_
    refine Z_ret (v := (0, 0)) gX8_lastOf_28 rfl rfl rfl rfl rfl _ ?_
    have hcd : (cdFnd T f) = 1 := by unfold cdFnd; (repeat' split) <;> omega
    exact ⟨⟨_, rfl, fun h => absurd h (by omega)⟩, (zup_eq _ _ _ _).trans (by rw [hcd]; rfl), MR_Y (MR_Y hM1 g4.Y) (frY.th w2 1), (f0.trans g4.Y.M).trans (frY.th w2 1).M⟩
theorem mX8w_canFix (hM : MR w T R D lim la) (hV : SV B T R D lim la) (f : Int) : Ev ro 3 mX8_canFix [(1, ((97 : Nat) : Int)), (0, f)] w (rM w 0 (cdFnd T f) (if 0 < gnT T R (feT T f.toNat) then 1 else 0) (fun w' => MR w' T R D lim la)) := by
  obtain ⟨hTV, hRV, hDV, hlim, hla, hop, hopD⟩ := id hV
  have hV1 := hTV.1
  have hM1 := MR_Y hM (frY.th w 0)
  have h0 : zup w 97 0 0 97 0 = 0 := zup_eq _ _ _ _
  have f0 : frM w (zup w 97 0 0) := (frY.th w 0).M
  show Z ro 3 mX8_canFix 0 [(1, ((97 : Nat) : Int)), (0, f)] [] w _
  refine Z_push gX8_canFix_0 (v := (1, ((97 : Nat) : Int))) rfl ?_
  refine Z_push gX8_canFix_1 (v := (0, 0)) rfl ?_
  refine Z_put gX8_canFix_2 rfl rfl (by decide) rfl (fun h => by cases h) ?_
  generalize zup w 97 0 0 = w1 at hM1 h0 f0 ⊢
  obtain ⟨hT1, hU1, hD1, hl1, hla1, hln1⟩ := id hM1
  by_cases h : 0 ≤ f ∧ f < (fdN T T.1 : Int)
  · obtain ⟨j, hj, hr, he⟩ := fdN_ex (T := T) (i := f.toNat) (n := T.1) (by omega)
    have hfe : feT T f.toNat = j := by rw [← he]; exact fe_at hr
    have h30 := fdN_30 hTV T.1
    rw [hfe]
    obtain rfl : f = (fdN T j : Int) := by omega
    refine Z_push gX8_canFix_5 (v := (1, ((97 : Nat) : Int))) rfl ?_
    refine Z_push gX8_canFix_6 (v := (1, ((97 : Nat) : Int))) rfl ?_
    refine Z_push gX8_canFix_7 (v := (0, (fdN T j : Int))) rfl ?_
    refine Z_callE (kd := 0) (na := 2) (M' := mX8_noFinding) gX8_canFix_8 rfl rfl rfl rfl rfl rfl (fun _ => rfl) rfl rfl (fun _ _ => zrecv_obj rfl _ _ _) (d' := 2) (by omega) (noFnd0 hT1 hU1 hTV hRV h) ?_
    rintro o w2 ⟨rfl, g1, g2, g3, g4⟩
    obtain ⟨f1, f2, f3⟩ := g1.2 j hj hr
    have h0 : w2 97 0 = 0 := (g4 _ _ (by omega) (by omega)).trans h0
    refine Z_push gX8_canFix_11 (v := (0, 1)) rfl ?_
    refine Z_callP (kd := 0) (na := 3) (M' := mX8_fails) gX8_canFix_12 rfl rfl rfl rfl rfl rfl (fun _ => rfl) rfl rfl (fun _ _ => zrecv_obj rfl _ _ _) (d' := 0) (by omega) (fail0 h0 1) ?_
    refine Z_if_ne gX8_canFix_15 (tgt := 30) (by decide) (fun h15 => absurd h15 (by omega)) (fun _ => ?_)
    refine Z_push gX8_canFix_18 (v := (1, ((97 : Nat) : Int))) rfl ?_
    refine Z_push gX8_canFix_19 (v := (0, (fdN T j : Int))) rfl ?_
    refine Z_callP (kd := 0) (na := 2) (M' := mX8_fixable) gX8_canFix_20 rfl rfl rfl rfl rfl rfl (fun _ => rfl) rfl rfl (fun _ _ => zrecv_obj rfl _ _ _) (d' := 0) (by omega) (vX8_fixable g1 (MT_Z hT1 g4) (MU_Z hU1 g4) hTV hRV hr) ?_
    refine Z_if_eq gX8_canFix_23 (tgt := 30) (by decide) (fun h23 => ?_) (fun h23 => ?_)
    · rw [h23]
      refine Z_push gX8_canFix_30 (v := (0, 0)) rfl ?_
      refine Z_retB gX8_canFix_31 rfl (by first | exact Or.inl rfl | exact Or.inr rfl | assumption | omega) _ ?_
      have hcd : (cdFnd T (fdN T j : Int)) = 0 := by unfold cdFnd; (repeat' split) <;> omega
      exact ⟨⟨_, rfl, fun _ => rfl⟩, h0.trans (by rw [hcd]; rfl), MR_Y hM1 g4.Y, f0.trans g4.Y.M⟩
    · have hg9 : 0 < gnT T R j := Classical.byContradiction fun h => h23 (if_neg h)
      rw [if_pos hg9]
      refine Z_push gX8_canFix_26 (v := (0, 1)) rfl ?_
      refine Z_goto gX8_canFix_27 (tgt := 31) (by decide) ?_
      refine Z_retB gX8_canFix_31 rfl (by first | exact Or.inl rfl | exact Or.inr rfl | assumption | omega) _ ?_
      have hcd : (cdFnd T (fdN T j : Int)) = 0 := by unfold cdFnd; (repeat' split) <;> omega
      exact ⟨⟨_, rfl, fun _ => rfl⟩, h0.trans (by rw [hcd]; rfl), MR_Y hM1 g4.Y, f0.trans g4.Y.M⟩
  · refine Z_push gX8_canFix_5 (v := (1, ((97 : Nat) : Int))) rfl ?_
    refine Z_push gX8_canFix_6 (v := (1, ((97 : Nat) : Int))) rfl ?_
    refine Z_push gX8_canFix_7 (v := (0, f)) rfl ?_
    refine Z_callE (kd := 0) (na := 2) (M' := mX8_noFinding) gX8_canFix_8 rfl rfl rfl rfl rfl rfl (fun _ => rfl) rfl rfl (fun _ _ => zrecv_obj rfl _ _ _) (d' := 2) (by omega) (noFnd1 hT1 hU1 hTV hRV h) ?_
    rintro o w2 ⟨rfl, g1, g2, g3, g4⟩
    have h0 : w2 97 0 = 0 := (g4 _ _ (by omega) (by omega)).trans h0
    refine Z_push gX8_canFix_11 (v := (0, 1)) rfl ?_
    refine Z_callQ (kd := 0) (na := 3) (M' := mX8_fails) gX8_canFix_12 rfl rfl rfl rfl rfl rfl (fun _ => rfl) rfl rfl (fun _ _ => zrecv_obj rfl _ _ _) (d' := 0) (by omega) (fail1 h0 (by omega)) ?_
    refine Z_if_ne gX8_canFix_15 (tgt := 30) (by decide) (fun _ => ?_) (fun h15 => absurd h15 (by omega))
    refine Z_push gX8_canFix_30 (v := (0, 0)) rfl ?_
    refine Z_retB gX8_canFix_31 rfl (by first | exact Or.inl rfl | exact Or.inr rfl | assumption | omega) _ ?_
    have hcd : (cdFnd T f) = 1 := by unfold cdFnd; (repeat' split) <;> omega
    exact ⟨⟨_, rfl, fun h => absurd h (by omega)⟩, (zup_eq _ _ _ _).trans (by rw [hcd]; rfl), MR_Y (MR_Y hM1 g4.Y) (frY.th w2 1), (f0.trans g4.Y.M).trans (frY.th w2 1).M⟩
theorem mX8w_isInBest (hM : MR w T R D lim la) (hV : SV B T R D lim la) (f : Int) : Ev ro 3 mX8_isInBest [(1, ((97 : Nat) : Int)), (0, f)] w (rM w 0 (cdFnd T f) (b2i (bsT T R (feT T f.toNat))) (fun w' => MR w' T R D lim la)) := by
  obtain ⟨hTV, hRV, hDV, hlim, hla, hop, hopD⟩ := id hV
  have hV1 := hTV.1
  have hM1 := MR_Y hM (frY.th w 0)
  have h0 : zup w 97 0 0 97 0 = 0 := zup_eq _ _ _ _
  have f0 : frM w (zup w 97 0 0) := (frY.th w 0).M
  show Z ro 3 mX8_isInBest 0 [(1, ((97 : Nat) : Int)), (0, f)] [] w _
  refine Z_push gX8_isInBest_0 (v := (1, ((97 : Nat) : Int))) rfl ?_
  refine Z_push gX8_isInBest_1 (v := (0, 0)) rfl ?_
  refine Z_put gX8_isInBest_2 rfl rfl (by decide) rfl (fun h => by cases h) ?_
  generalize zup w 97 0 0 = w1 at hM1 h0 f0 ⊢
  obtain ⟨hT1, hU1, hD1, hl1, hla1, hln1⟩ := id hM1
  by_cases h : 0 ≤ f ∧ f < (fdN T T.1 : Int)
  · obtain ⟨j, hj, hr, he⟩ := fdN_ex (T := T) (i := f.toNat) (n := T.1) (by omega)
    have hfe : feT T f.toNat = j := by rw [← he]; exact fe_at hr
    have h30 := fdN_30 hTV T.1
    rw [hfe]
    obtain rfl : f = (fdN T j : Int) := by omega
    refine Z_push gX8_isInBest_5 (v := (1, ((97 : Nat) : Int))) rfl ?_
    refine Z_push gX8_isInBest_6 (v := (1, ((97 : Nat) : Int))) rfl ?_
    refine Z_push gX8_isInBest_7 (v := (0, (fdN T j : Int))) rfl ?_
    refine Z_callE (kd := 0) (na := 2) (M' := mX8_noFinding) gX8_isInBest_8 rfl rfl rfl rfl rfl rfl (fun _ => rfl) rfl rfl (fun _ _ => zrecv_obj rfl _ _ _) (d' := 2) (by omega) (noFnd0 hT1 hU1 hTV hRV h) ?_
    rintro o w2 ⟨rfl, g1, g2, g3, g4⟩
    obtain ⟨f1, f2, f3⟩ := g1.2 j hj hr
    have h0 : w2 97 0 = 0 := (g4 _ _ (by omega) (by omega)).trans h0
    refine Z_push gX8_isInBest_11 (v := (0, 1)) rfl ?_
    refine Z_callP (kd := 0) (na := 3) (M' := mX8_fails) gX8_isInBest_12 rfl rfl rfl rfl rfl rfl (fun _ => rfl) rfl rfl (fun _ _ => zrecv_obj rfl _ _ _) (d' := 0) (by omega) (fail0 h0 1) ?_
    refine Z_if_ne gX8_isInBest_15 (tgt := 31) (by decide) (fun h15 => absurd h15 (by omega)) (fun _ => ?_)
    refine Z_push gX8_isInBest_18 (v := (1, ((97 : Nat) : Int))) rfl ?_
    refine Z_getR (b := 114) gX8_isInBest_19 rfl rfl (by decide) rfl (by omega) ?_
    refine Z_push gX8_isInBest_22 (v := (0, (fdN T j : Int))) rfl ?_
    refine Z_baloadV (v := b2i (bsT T R j)) gX8_isInBest_23 rfl (by omega) (by omega) (g3 j hr) ?_
    refine Z_if_eq gX8_isInBest_24 (tgt := 31) (by decide) (fun h24 => ?_) (fun h24 => ?_)
    · rw [h24]
      refine Z_push gX8_isInBest_31 (v := (0, 0)) rfl ?_
      refine Z_retB gX8_isInBest_32 rfl (by first | exact Or.inl rfl | exact Or.inr rfl | assumption | omega) _ ?_
      have hcd : (cdFnd T (fdN T j : Int)) = 0 := by unfold cdFnd; (repeat' split) <;> omega
      exact ⟨⟨_, rfl, fun _ => rfl⟩, h0.trans (by rw [hcd]; rfl), MR_Y hM1 g4.Y, f0.trans g4.Y.M⟩
    · rw [b2i_t h24]
      refine Z_push gX8_isInBest_27 (v := (0, 1)) rfl ?_
      refine Z_goto gX8_isInBest_28 (tgt := 32) (by decide) ?_
      refine Z_retB gX8_isInBest_32 rfl (by first | exact Or.inl rfl | exact Or.inr rfl | assumption | omega) _ ?_
      have hcd : (cdFnd T (fdN T j : Int)) = 0 := by unfold cdFnd; (repeat' split) <;> omega
      exact ⟨⟨_, rfl, fun _ => rfl⟩, h0.trans (by rw [hcd]; rfl), MR_Y hM1 g4.Y, f0.trans g4.Y.M⟩
  · refine Z_push gX8_isInBest_5 (v := (1, ((97 : Nat) : Int))) rfl ?_
    refine Z_push gX8_isInBest_6 (v := (1, ((97 : Nat) : Int))) rfl ?_
    refine Z_push gX8_isInBest_7 (v := (0, f)) rfl ?_
    refine Z_callE (kd := 0) (na := 2) (M' := mX8_noFinding) gX8_isInBest_8 rfl rfl rfl rfl rfl rfl (fun _ => rfl) rfl rfl (fun _ _ => zrecv_obj rfl _ _ _) (d' := 2) (by omega) (noFnd1 hT1 hU1 hTV hRV h) ?_
    rintro o w2 ⟨rfl, g1, g2, g3, g4⟩
    have h0 : w2 97 0 = 0 := (g4 _ _ (by omega) (by omega)).trans h0
    refine Z_push gX8_isInBest_11 (v := (0, 1)) rfl ?_
    refine Z_callQ (kd := 0) (na := 3) (M' := mX8_fails) gX8_isInBest_12 rfl rfl rfl rfl rfl rfl (fun _ => rfl) rfl rfl (fun _ _ => zrecv_obj rfl _ _ _) (d' := 0) (by omega) (fail1 h0 (by omega)) ?_
    refine Z_if_ne gX8_isInBest_15 (tgt := 31) (by decide) (fun _ => ?_) (fun h15 => absurd h15 (by omega))
    refine Z_push gX8_isInBest_31 (v := (0, 0)) rfl ?_
    refine Z_retB gX8_isInBest_32 rfl (by first | exact Or.inl rfl | exact Or.inr rfl | assumption | omega) _ ?_
    have hcd : (cdFnd T f) = 1 := by unfold cdFnd; (repeat' split) <;> omega
    exact ⟨⟨_, rfl, fun h => absurd h (by omega)⟩, (zup_eq _ _ _ _).trans (by rw [hcd]; rfl), MR_Y (MR_Y hM1 g4.Y) (frY.th w2 1), (f0.trans g4.Y.M).trans (frY.th w2 1).M⟩
theorem mX8w_best (hM : MR w T R D lim la) (hV : SV B T R D lim la) : Ev ro 2 mX8_best [(1, ((97 : Nat) : Int))] w (rM w 0 0 (sE T R 0) (fun w' => MR w' T R D lim la)) := by
  obtain ⟨hTV, hRV, hDV, hlim, hla, hop, hopD⟩ := id hV
  have hV1 := hTV.1
  have hM1 := MR_Y hM (frY.th w 0)
  have h0 : zup w 97 0 0 97 0 = 0 := zup_eq _ _ _ _
  have f0 : frM w (zup w 97 0 0) := (frY.th w 0).M
  show Z ro 2 mX8_best 0 [(1, ((97 : Nat) : Int))] [] w _
  refine Z_push gX8_best_0 (v := (1, ((97 : Nat) : Int))) rfl ?_
  refine Z_push gX8_best_1 (v := (0, 0)) rfl ?_
  refine Z_put gX8_best_2 rfl rfl (by decide) rfl (fun h => by cases h) ?_
  generalize zup w 97 0 0 = w1 at hM1 h0 f0 ⊢
  obtain ⟨hT1, hU1, hD1, hl1, hla1, hln1⟩ := id hM1
  refine Z_push gX8_best_5 (v := (1, ((97 : Nat) : Int))) rfl ?_
  refine Z_callE (kd := 0) (na := 1) (M' := mX8_look) gX8_best_6 rfl rfl rfl rfl rfl rfl (fun _ => rfl) rfl rfl (fun _ _ => zrecv_obj rfl _ _ _) (d' := 1) (by omega) (vX8_look hT1 hU1 hTV hRV) ?_
  rintro o w2 ⟨rfl, g1, g2, g3, g4⟩
  refine Z_push gX8_best_9 (v := (1, ((97 : Nat) : Int))) rfl ?_
  refine Z_getR (b := 115) gX8_best_10 rfl rfl (by decide) rfl (by omega) ?_
  refine Z_push gX8_best_13 (v := (0, 0)) rfl ?_
  refine Z_ialoadV (v := sE T R 0) gX8_best_14 rfl (by omega) (by omega) (g2 0 (by omega)) ?_
  refine Z_ret (v := (0, sE T R 0)) gX8_best_15 rfl rfl rfl rfl rfl _ ?_
  exact ⟨⟨_, rfl, fun _ => rfl⟩, (g4 _ _ (by omega) (by omega)).trans h0, MR_Y hM1 g4.Y, f0.trans g4.Y.M⟩
theorem mX8w_bestByTrying (hM : MR w T R D lim la) (hV : SV B T R D lim la) : Ev ro 2 mX8_bestByTrying [(1, ((97 : Nat) : Int))] w (rM w 0 (cdTry T R) (sE T R 0) (fun w' => MR w' T R D lim la)) := by
  obtain ⟨hTV, hRV, hDV, hlim, hla, hop, hopD⟩ := id hV
  have hV1 := hTV.1
  have hM1 := MR_Y hM (frY.th w 0)
  have h0 : zup w 97 0 0 97 0 = 0 := zup_eq _ _ _ _
  have f0 : frM w (zup w 97 0 0) := (frY.th w 0).M
  show Z ro 2 mX8_bestByTrying 0 [(1, ((97 : Nat) : Int))] [] w _
  refine Z_push gX8_bestByTrying_0 (v := (1, ((97 : Nat) : Int))) rfl ?_
  refine Z_push gX8_bestByTrying_1 (v := (0, 0)) rfl ?_
  refine Z_put gX8_bestByTrying_2 rfl rfl (by decide) rfl (fun h => by cases h) ?_
  generalize zup w 97 0 0 = w1 at hM1 h0 f0 ⊢
  obtain ⟨hT1, hU1, hD1, hl1, hla1, hln1⟩ := id hM1
  refine Z_push gX8_bestByTrying_5 (v := (1, ((97 : Nat) : Int))) rfl ?_
  refine Z_callE (kd := 0) (na := 1) (M' := mX8_look) gX8_bestByTrying_6 rfl rfl rfl rfl rfl rfl (fun _ => rfl) rfl rfl (fun _ _ => zrecv_obj rfl _ _ _) (d' := 1) (by omega) (vX8_look hT1 hU1 hTV hRV) ?_
  rintro o w2 ⟨rfl, g1, g2, g3, g4⟩
  have h0 : w2 97 0 = 0 := (g4 _ _ (by omega) (by omega)).trans h0
  refine Z_push gX8_bestByTrying_9 (v := (1, ((97 : Nat) : Int))) rfl ?_
  refine Z_push gX8_bestByTrying_10 (v := (1, ((97 : Nat) : Int))) rfl ?_
  refine Z_callP (kd := 0) (na := 1) (M' := mX8_fixables) gX8_bestByTrying_11 rfl rfl rfl rfl rfl rfl (fun _ => rfl) rfl rfl (fun _ _ => zrecv_obj rfl _ _ _) (d' := 1) (by omega) (vX8_fixables g1 (MT_Z hT1 g4) (MU_Z hU1 g4) hTV hRV) ?_
  refine Z_push gX8_bestByTrying_14 (v := (0, 12)) rfl ?_
  refine Z_icmp_le gX8_bestByTrying_16 (tgt := 23) (by decide) (fun h16 => ?_) (fun h16 => ?_)
  · refine Z_push gX8_bestByTrying_23 (v := (0, 0)) rfl ?_
    refine Z_push gX8_bestByTrying_24 (v := (0, 1)) rfl ?_
    refine Z_callP (kd := 0) (na := 3) (M' := mX8_fails) gX8_bestByTrying_25 rfl rfl rfl rfl rfl rfl (fun _ => rfl) rfl rfl (fun _ _ => zrecv_obj rfl _ _ _) (d' := 0) (by omega) (fail0 h0 1) ?_
    refine Z_if_eq gX8_bestByTrying_28 (tgt := 35) (by decide) (fun _ => ?_) (fun h28 => absurd h28 (by omega))
    refine Z_push gX8_bestByTrying_35 (v := (1, ((97 : Nat) : Int))) rfl ?_
    refine Z_getR (b := 115) gX8_bestByTrying_36 rfl rfl (by decide) rfl (by omega) ?_
    refine Z_push gX8_bestByTrying_39 (v := (0, 0)) rfl ?_
    refine Z_ialoadV (v := sE T R 0) gX8_bestByTrying_40 rfl (by omega) (by omega) (g2 0 (by omega)) ?_
    refine Z_ret (v := (0, sE T R 0)) gX8_bestByTrying_41 rfl rfl rfl rfl rfl _ ?_
    have hcd : (cdTry T R) = 0 := by unfold cdTry; (repeat' split) <;> omega
    exact ⟨⟨_, rfl, fun _ => rfl⟩, h0.trans (by rw [hcd]; rfl), MR_Y hM1 g4.Y, f0.trans g4.Y.M⟩
  · refine Z_push gX8_bestByTrying_19 (v := (0, 1)) rfl ?_
    refine Z_goto gX8_bestByTrying_20 (tgt := 24) (by decide) ?_
    refine Z_push gX8_bestByTrying_24 (v := (0, 1)) rfl ?_
    refine Z_callQ (kd := 0) (na := 3) (M' := mX8_fails) gX8_bestByTrying_25 rfl rfl rfl rfl rfl rfl (fun _ => rfl) rfl rfl (fun _ _ => zrecv_obj rfl _ _ _) (d' := 0) (by omega) (fail1 h0 (by omega)) ?_
    refine Z_if_eq gX8_bestByTrying_28 (tgt := 35) (by decide) (fun h28 => absurd h28 (by omega)) (fun _ => ?_)
    refine Z_push gX8_bestByTrying_31 (v := (0, 0)) rfl ?_
    refine Z_goto gX8_bestByTrying_32 (tgt := 41) (by decide) ?_
    refine Z_ret (v := (0, 0)) gX8_bestByTrying_41 rfl rfl rfl rfl rfl _ ?_
    have hcd : (cdTry T R) = 1 := by unfold cdTry; (repeat' split) <;> omega
    exact ⟨⟨_, rfl, fun h => absurd h (by omega)⟩, (zup_eq _ _ _ _).trans (by rw [hcd]; rfl), MR_Y (MR_Y hM1 g4.Y) (frY.th w2 1), (f0.trans g4.Y.M).trans (frY.th w2 1).M⟩
theorem mX8w_weight (hM : MR w T R D lim la) (hV : SV B T R D lim la) (r : Int) : Ev ro 2 mX8_weight [(1, ((97 : Nat) : Int)), (0, r)] w (rM w 0 (cdRule r) (R.1 r.toNat) (fun w' => MR w' T R D lim la)) := by
  obtain ⟨hTV, hRV, hDV, hlim, hla, hop, hopD⟩ := id hV
  have hV1 := hTV.1
  have hM1 := MR_Y hM (frY.th w 0)
  have h0 : zup w 97 0 0 97 0 = 0 := zup_eq _ _ _ _
  have f0 : frM w (zup w 97 0 0) := (frY.th w 0).M
  show Z ro 2 mX8_weight 0 [(1, ((97 : Nat) : Int)), (0, r)] [] w _
  refine Z_push gX8_weight_0 (v := (1, ((97 : Nat) : Int))) rfl ?_
  refine Z_push gX8_weight_1 (v := (0, 0)) rfl ?_
  refine Z_put gX8_weight_2 rfl rfl (by decide) rfl (fun h => by cases h) ?_
  generalize zup w 97 0 0 = w1 at hM1 h0 f0 ⊢
  obtain ⟨hT1, hU1, hD1, hl1, hla1, hln1⟩ := id hM1
  by_cases h : 0 ≤ r ∧ r < 5
  · obtain ⟨q, rfl⟩ : ∃ q : Nat, r = (q : Int) := ⟨r.toNat, by omega⟩
    refine Z_push gX8_weight_5 (v := (1, ((97 : Nat) : Int))) rfl ?_
    refine Z_push gX8_weight_6 (v := (0, (q : Int))) rfl ?_
    refine Z_callP (kd := 1) (na := 1) (M' := mX8_isRule) gX8_weight_7 rfl rfl rfl rfl rfl rfl (fun _ => rfl) rfl rfl (fun _ _ => rfl) (d' := 1) (by omega) (isRl1 h) ?_
    refine Z_if_ne gX8_weight_10 (tgt := 17) (by decide) (fun _ => ?_) (fun h10 => absurd h10 (by omega))
    refine Z_push gX8_weight_17 (v := (0, 0)) rfl ?_
    refine Z_push gX8_weight_18 (v := (0, 1)) rfl ?_
    refine Z_callP (kd := 0) (na := 3) (M' := mX8_fails) gX8_weight_19 rfl rfl rfl rfl rfl rfl (fun _ => rfl) rfl rfl (fun _ _ => zrecv_obj rfl _ _ _) (d' := 0) (by omega) (fail0 h0 1) ?_
    refine Z_if_eq gX8_weight_22 (tgt := 29) (by decide) (fun _ => ?_) (fun h22 => absurd h22 (by omega))
    refine Z_push gX8_weight_29 (v := (1, ((97 : Nat) : Int))) rfl ?_
    refine Z_getR (b := 102) gX8_weight_30 rfl rfl (by decide) rfl (by omega) ?_
    refine Z_push gX8_weight_33 (v := (0, (q : Int))) rfl ?_
    refine Z_ialoadV (v := R.1 q) gX8_weight_34 rfl (by omega) (by omega) (hU1.1 q (by omega)) ?_
    refine Z_ret (v := (0, R.1 q)) gX8_weight_35 rfl rfl rfl rfl rfl _ ?_
    have hcd : (cdRule (q : Int)) = 0 := by unfold cdRule; (repeat' split) <;> omega
    exact ⟨⟨_, rfl, fun _ => rfl⟩, h0.trans (by rw [hcd]; rfl), hM1, f0⟩
  · refine Z_push gX8_weight_5 (v := (1, ((97 : Nat) : Int))) rfl ?_
    refine Z_push gX8_weight_6 (v := (0, r)) rfl ?_
    refine Z_callP (kd := 1) (na := 1) (M' := mX8_isRule) gX8_weight_7 rfl rfl rfl rfl rfl rfl (fun _ => rfl) rfl rfl (fun _ _ => rfl) (d' := 1) (by omega) (isRl0 h) ?_
    refine Z_if_ne gX8_weight_10 (tgt := 17) (by decide) (fun h10 => absurd h10 (by omega)) (fun _ => ?_)
    refine Z_push gX8_weight_13 (v := (0, 1)) rfl ?_
    refine Z_goto gX8_weight_14 (tgt := 18) (by decide) ?_
    refine Z_push gX8_weight_18 (v := (0, 1)) rfl ?_
    refine Z_callQ (kd := 0) (na := 3) (M' := mX8_fails) gX8_weight_19 rfl rfl rfl rfl rfl rfl (fun _ => rfl) rfl rfl (fun _ _ => zrecv_obj rfl _ _ _) (d' := 0) (by omega) (fail1 h0 (by omega)) ?_
    refine Z_if_eq gX8_weight_22 (tgt := 29) (by decide) (fun h22 => absurd h22 (by omega)) (fun _ => ?_)
    refine Z_push gX8_weight_25 (v := (0, 0)) rfl ?_
    refine Z_goto gX8_weight_26 (tgt := 35) (by decide) ?_
    refine Z_ret (v := (0, 0)) gX8_weight_35 rfl rfl rfl rfl rfl _ ?_
    have hcd : (cdRule r) = 1 := by unfold cdRule; (repeat' split) <;> omega
    exact ⟨⟨_, rfl, fun h => absurd h (by omega)⟩, (zup_eq _ _ _ _).trans (by rw [hcd]; rfl), MR_Y hM1 (frY.th w1 1), f0.trans (frY.th w1 1).M⟩
theorem mX8w_undone (hM : MR w T R D lim la) (hV : SV B T R D lim la) (r : Int) : Ev ro 2 mX8_undone [(1, ((97 : Nat) : Int)), (0, r)] w (rM w 2 (cdRule r) (R.2.1 r.toNat) (fun w' => MR w' T R D lim la)) := by
  obtain ⟨hTV, hRV, hDV, hlim, hla, hop, hopD⟩ := id hV
  have hV1 := hTV.1
  have hM1 := MR_Y hM (frY.th w 0)
  have h0 : zup w 97 0 0 97 0 = 0 := zup_eq _ _ _ _
  have f0 : frM w (zup w 97 0 0) := (frY.th w 0).M
  show Z ro 2 mX8_undone 0 [(1, ((97 : Nat) : Int)), (0, r)] [] w _
  refine Z_push gX8_undone_0 (v := (1, ((97 : Nat) : Int))) rfl ?_
  refine Z_push gX8_undone_1 (v := (0, 0)) rfl ?_
  refine Z_put gX8_undone_2 rfl rfl (by decide) rfl (fun h => by cases h) ?_
  generalize zup w 97 0 0 = w1 at hM1 h0 f0 ⊢
  obtain ⟨hT1, hU1, hD1, hl1, hla1, hln1⟩ := id hM1
  by_cases h : 0 ≤ r ∧ r < 5
  · obtain ⟨q, rfl⟩ : ∃ q : Nat, r = (q : Int) := ⟨r.toNat, by omega⟩
    refine Z_push gX8_undone_5 (v := (1, ((97 : Nat) : Int))) rfl ?_
    refine Z_push gX8_undone_6 (v := (0, (q : Int))) rfl ?_
    refine Z_callP (kd := 1) (na := 1) (M' := mX8_isRule) gX8_undone_7 rfl rfl rfl rfl rfl rfl (fun _ => rfl) rfl rfl (fun _ _ => rfl) (d' := 1) (by omega) (isRl1 h) ?_
    refine Z_if_ne gX8_undone_10 (tgt := 17) (by decide) (fun _ => ?_) (fun h10 => absurd h10 (by omega))
    refine Z_push gX8_undone_17 (v := (0, 0)) rfl ?_
    refine Z_push gX8_undone_18 (v := (0, 1)) rfl ?_
    refine Z_callP (kd := 0) (na := 3) (M' := mX8_fails) gX8_undone_19 rfl rfl rfl rfl rfl rfl (fun _ => rfl) rfl rfl (fun _ _ => zrecv_obj rfl _ _ _) (d' := 0) (by omega) (fail0 h0 1) ?_
    refine Z_if_eq gX8_undone_22 (tgt := 29) (by decide) (fun _ => ?_) (fun h22 => absurd h22 (by omega))
    refine Z_push gX8_undone_29 (v := (1, ((97 : Nat) : Int))) rfl ?_
    refine Z_getR (b := 103) gX8_undone_30 rfl rfl (by decide) rfl (by omega) ?_
    refine Z_push gX8_undone_33 (v := (0, (q : Int))) rfl ?_
    refine Z_laloadV (v := R.2.1 q) gX8_undone_34 rfl (by omega) (by omega) (hU1.2.1 q (by omega)) ?_
    refine Z_ret (v := (2, R.2.1 q)) gX8_undone_35 rfl rfl rfl rfl rfl _ ?_
    have hcd : (cdRule (q : Int)) = 0 := by unfold cdRule; (repeat' split) <;> omega
    exact ⟨⟨_, rfl, fun _ => rfl⟩, h0.trans (by rw [hcd]; rfl), hM1, f0⟩
  · refine Z_push gX8_undone_5 (v := (1, ((97 : Nat) : Int))) rfl ?_
    refine Z_push gX8_undone_6 (v := (0, r)) rfl ?_
    refine Z_callP (kd := 1) (na := 1) (M' := mX8_isRule) gX8_undone_7 rfl rfl rfl rfl rfl rfl (fun _ => rfl) rfl rfl (fun _ _ => rfl) (d' := 1) (by omega) (isRl0 h) ?_
    refine Z_if_ne gX8_undone_10 (tgt := 17) (by decide) (fun h10 => absurd h10 (by omega)) (fun _ => ?_)
    refine Z_push gX8_undone_13 (v := (0, 1)) rfl ?_
    refine Z_goto gX8_undone_14 (tgt := 18) (by decide) ?_
    refine Z_push gX8_undone_18 (v := (0, 1)) rfl ?_
    refine Z_callQ (kd := 0) (na := 3) (M' := mX8_fails) gX8_undone_19 rfl rfl rfl rfl rfl rfl (fun _ => rfl) rfl rfl (fun _ _ => zrecv_obj rfl _ _ _) (d' := 0) (by omega) (fail1 h0 (by omega)) ?_
    refine Z_if_eq gX8_undone_22 (tgt := 29) (by decide) (fun h22 => absurd h22 (by omega)) (fun _ => ?_)
    refine Z_push gX8_undone_25 (v := (2, 0)) rfl ?_
    refine Z_goto gX8_undone_26 (tgt := 35) (by decide) ?_
    refine Z_ret (v := (2, 0)) gX8_undone_35 rfl rfl rfl rfl rfl _ ?_
    have hcd : (cdRule r) = 1 := by unfold cdRule; (repeat' split) <;> omega
    exact ⟨⟨_, rfl, fun h => absurd h (by omega)⟩, (zup_eq _ _ _ _).trans (by rw [hcd]; rfl), MR_Y hM1 (frY.th w1 1), f0.trans (frY.th w1 1).M⟩
theorem mX8w_ruleAt (hM : MR w T R D lim la) (hV : SV B T R D lim la) (k : Int) : Ev ro 1 mX8_ruleAt [(1, ((97 : Nat) : Int)), (0, k)] w (rM w 0 (cdRank R k) (raS R k 5) (fun w' => MR w' T R D lim la)) := by
  obtain ⟨hTV, hRV, hDV, hlim, hla, hop, hopD⟩ := id hV
  have hV1 := hTV.1
  have hM1 := MR_Y hM (frY.th w 0)
  have h0 : zup w 97 0 0 97 0 = 0 := zup_eq _ _ _ _
  have f0 : frM w (zup w 97 0 0) := (frY.th w 0).M
  show Z ro 1 mX8_ruleAt 0 [(1, ((97 : Nat) : Int)), (0, k), (9, 0), (9, 0), (9, 0)] [] w _
  refine Z_push gX8_ruleAt_0 (v := (1, ((97 : Nat) : Int))) rfl ?_
  refine Z_push gX8_ruleAt_1 (v := (0, 0)) rfl ?_
  refine Z_put gX8_ruleAt_2 rfl rfl (by decide) rfl (fun h => by cases h) ?_
  generalize zup w 97 0 0 = w1 at hM1 h0 f0 ⊢
  obtain ⟨hT1, hU1, hD1, hl1, hla1, hln1⟩ := id hM1
  have outer : ∀ m q : Nat, q + m = 5 → raS R k q = -1 → ∀ v1 v2 : zV, Z ro 1 mX8_ruleAt 7 [(1, ((97 : Nat) : Int)), (0, k), (0, (q : Int)), v1, v2] [] w1 (fun r w' k9 => k9 = 0 ∧ ∃ o, r = .inl o ∧ (rM w 0 (cdRank R k) (raS R k 5) (fun w' => MR w' T R D lim la)) o w') := by
    intro m
    induction m with
    | zero =>
      intro q hq hn v1 v2
      obtain ⟨x1, x2⟩ := v1
      obtain ⟨y1, y2⟩ := v2
      obtain rfl : q = 5 := by omega
      refine Z_push gX8_ruleAt_7 (v := (0, ((5 : Nat) : Int))) rfl ?_
      refine Z_push gX8_ruleAt_8 (v := (0, 5)) rfl ?_
      refine Z_icmp_ge gX8_ruleAt_9 (tgt := 88) (by decide) (fun _ => ?_) (fun h9 => absurd h9 (by omega))
      refine Z_push gX8_ruleAt_88 (v := (1, ((97 : Nat) : Int))) rfl ?_
      refine Z_push gX8_ruleAt_89 (v := (0, 1)) rfl ?_
      refine Z_push gX8_ruleAt_90 (v := (0, 1)) rfl ?_
      refine Z_callQ (kd := 0) (na := 3) (M' := mX8_fails) gX8_ruleAt_91 rfl rfl rfl rfl rfl rfl (fun _ => rfl) rfl rfl (fun _ _ => zrecv_obj rfl _ _ _) (d' := 0) (by omega) (fail1 h0 (by omega)) ?_
      refine Z_arith gX8_ruleAt_94 rfl rfl (v := []) rfl ?_
      refine Z_push gX8_ruleAt_95 (v := (0, 0)) rfl ?_
      refine Z_ret (v := (0, 0)) gX8_ruleAt_96 rfl rfl rfl rfl rfl _ ?_
      have hcd : (cdRank R k) = 1 := by unfold cdRank; (repeat' split) <;> omega
      exact ⟨⟨_, rfl, fun h => absurd h (by omega)⟩, (zup_eq _ _ _ _).trans (by rw [hcd]; rfl), MR_Y hM1 (frY.th w1 1), f0.trans (frY.th w1 1).M⟩
    | succ m ih =>
      intro q hq hn v1 v2
      obtain ⟨x1, x2⟩ := v1
      obtain ⟨y1, y2⟩ := v2
      have e : raS R k (q + 1) = if rkS R q 5 = k then (q : Int) else -1 := if_pos hn
      have hwq := hU1.1 q (by omega)
      have inner : ∀ m2 p : Nat, p + m2 = 5 → Z ro 1 mX8_ruleAt 17 [(1, ((97 : Nat) : Int)), (0, k), (0, (q : Int)), (0, rkS R q p), (0, (p : Int))] [] w1 (fun r w' k9 => k9 = 0 ∧ ∃ o, r = .inl o ∧ (rM w 0 (cdRank R k) (raS R k 5) (fun w' => MR w' T R D lim la)) o w') := by
        intro m2
        induction m2 with
        | zero =>
          intro p hp
          obtain rfl : p = 5 := by omega
          refine Z_push gX8_ruleAt_17 (v := (0, ((5 : Nat) : Int))) rfl ?_
          refine Z_push gX8_ruleAt_19 (v := (0, 5)) rfl ?_
          refine Z_icmp_ge gX8_ruleAt_20 (tgt := 75) (by decide) (fun _ => ?_) (fun h20 => absurd h20 (by omega))
          refine Z_push gX8_ruleAt_75 (v := (0, rkS R q 5)) rfl ?_
          refine Z_push gX8_ruleAt_76 (v := (0, k)) rfl ?_
          refine Z_icmp_ne gX8_ruleAt_77 (tgt := 82) (by decide) (fun h77 => ?_) (fun h77 => ?_)
          · rw [if_neg h77] at e
            refine Z_iinc gX8_ruleAt_82 rfl ⟨by omega, by omega⟩ (ls' := [(1, ((97 : Nat) : Int)), (0, k), (0, (q : Int) + 1), (0, rkS R q 5), (0, ((5 : Nat) : Int))]) rfl ?_
            refine Z_goto gX8_ruleAt_85 (tgt := 7) (by decide) ?_
            exact ih (q + 1) (by omega) e _ _
          · rw [if_pos h77] at e
            have up : ∀ p, raS R k (q + 1 + p) = (q : Int) := by
              intro p
              induction p with
              | zero => exact e
              | succ p ihp => exact (if_neg (show ¬ raS R k (q + 1 + p) = -1 by rw [ihp]; omega)).trans ihp
            have e5 := up m
            rw [show q + 1 + m = 5 by omega] at e5
            refine Z_push gX8_ruleAt_80 (v := (0, (q : Int))) rfl ?_
            refine Z_ret (v := (0, (q : Int))) gX8_ruleAt_81 rfl rfl rfl rfl rfl _ ?_
            exact ⟨⟨_, rfl, fun _ => e5.symm⟩, h0.trans (by rw [show cdRank R k = 0 by unfold cdRank; rw [if_neg (by omega)]]; rfl), hM1, f0⟩
        | succ m2 ih2 =>
          intro p hp
          have hn2 := ih2 (p + 1) (by omega)
          have hwp := hU1.1 p (by omega)
          have hb := rkS_bd R q p
          rw [show ((p + 1 : Nat) : Int) = (p : Int) + 1 from rfl, show rkS R q (p + 1) = rkS R q p + (if R.1 q < R.1 p ∨ (R.1 p = R.1 q ∧ p < q) then 1 else 0) from rfl] at hn2
          refine Z_push gX8_ruleAt_17 (v := (0, (p : Int))) rfl ?_
          refine Z_push gX8_ruleAt_19 (v := (0, 5)) rfl ?_
          refine Z_icmp_ge gX8_ruleAt_20 (tgt := 75) (by decide) (fun h20 => absurd h20 (by omega)) (fun _ => ?_)
          refine Z_push gX8_ruleAt_23 (v := (0, rkS R q p)) rfl ?_
          refine Z_push gX8_ruleAt_24 (v := (1, ((97 : Nat) : Int))) rfl ?_
          refine Z_getR (b := 102) gX8_ruleAt_25 rfl rfl (by decide) rfl (by omega) ?_
          refine Z_push gX8_ruleAt_28 (v := (0, (p : Int))) rfl ?_
          refine Z_ialoadV (v := R.1 p) gX8_ruleAt_30 rfl (by omega) (by omega) hwp ?_
          refine Z_push gX8_ruleAt_31 (v := (1, ((97 : Nat) : Int))) rfl ?_
          refine Z_getR (b := 102) gX8_ruleAt_32 rfl rfl (by decide) rfl (by omega) ?_
          refine Z_push gX8_ruleAt_35 (v := (0, (q : Int))) rfl ?_
          refine Z_ialoadV (v := R.1 q) gX8_ruleAt_36 rfl (by omega) (by omega) hwq ?_
          refine Z_icmp_gt gX8_ruleAt_37 (tgt := 62) (by decide) (fun h37 => ?_) (fun h37 => ?_)
          · rw [if_pos (by omega)] at hn2
            refine Z_push gX8_ruleAt_62 (v := (0, 1)) rfl ?_
            refine Z_goto gX8_ruleAt_63 (tgt := 67) (by decide) ?_
            refine Z_iadd gX8_ruleAt_67 ⟨by omega, by omega⟩ ?_
            refine Z_sto gX8_ruleAt_68 rfl (ls' := [(1, ((97 : Nat) : Int)), (0, k), (0, (q : Int)), (0, (rkS R q p) + 1), (0, (p : Int))]) (st' := []) rfl ?_
            refine Z_iinc gX8_ruleAt_69 rfl ⟨by omega, by omega⟩ (ls' := [(1, ((97 : Nat) : Int)), (0, k), (0, (q : Int)), (0, (rkS R q p) + 1), (0, (p : Int) + 1)]) rfl ?_
            refine Z_goto gX8_ruleAt_72 (tgt := 17) (by decide) ?_
            exact hn2
          · refine Z_push gX8_ruleAt_40 (v := (1, ((97 : Nat) : Int))) rfl ?_
            refine Z_getR (b := 102) gX8_ruleAt_41 rfl rfl (by decide) rfl (by omega) ?_
            refine Z_push gX8_ruleAt_44 (v := (0, (p : Int))) rfl ?_
            refine Z_ialoadV (v := R.1 p) gX8_ruleAt_46 rfl (by omega) (by omega) hwp ?_
            refine Z_push gX8_ruleAt_47 (v := (1, ((97 : Nat) : Int))) rfl ?_
            refine Z_getR (b := 102) gX8_ruleAt_48 rfl rfl (by decide) rfl (by omega) ?_
            refine Z_push gX8_ruleAt_51 (v := (0, (q : Int))) rfl ?_
            refine Z_ialoadV (v := R.1 q) gX8_ruleAt_52 rfl (by omega) (by omega) hwq ?_
            refine Z_icmp_ne gX8_ruleAt_53 (tgt := 66) (by decide) (fun h53 => ?_) (fun h53 => ?_)
            · rw [if_neg (by omega)] at hn2
              refine Z_push gX8_ruleAt_66 (v := (0, 0)) rfl ?_
              refine Z_iadd gX8_ruleAt_67 ⟨by omega, by omega⟩ ?_
              refine Z_sto gX8_ruleAt_68 rfl (ls' := [(1, ((97 : Nat) : Int)), (0, k), (0, (q : Int)), (0, (rkS R q p) + 0), (0, (p : Int))]) (st' := []) rfl ?_
              refine Z_iinc gX8_ruleAt_69 rfl ⟨by omega, by omega⟩ (ls' := [(1, ((97 : Nat) : Int)), (0, k), (0, (q : Int)), (0, (rkS R q p) + 0), (0, (p : Int) + 1)]) rfl ?_
              refine Z_goto gX8_ruleAt_72 (tgt := 17) (by decide) ?_
              exact hn2
            · refine Z_push gX8_ruleAt_56 (v := (0, (p : Int))) rfl ?_
              refine Z_push gX8_ruleAt_58 (v := (0, (q : Int))) rfl ?_
              refine Z_icmp_ge gX8_ruleAt_59 (tgt := 66) (by decide) (fun h59 => ?_) (fun h59 => ?_)
              · rw [if_neg (by omega)] at hn2
                refine Z_push gX8_ruleAt_66 (v := (0, 0)) rfl ?_
                refine Z_iadd gX8_ruleAt_67 ⟨by omega, by omega⟩ ?_
                refine Z_sto gX8_ruleAt_68 rfl (ls' := [(1, ((97 : Nat) : Int)), (0, k), (0, (q : Int)), (0, (rkS R q p) + 0), (0, (p : Int))]) (st' := []) rfl ?_
                refine Z_iinc gX8_ruleAt_69 rfl ⟨by omega, by omega⟩ (ls' := [(1, ((97 : Nat) : Int)), (0, k), (0, (q : Int)), (0, (rkS R q p) + 0), (0, (p : Int) + 1)]) rfl ?_
                refine Z_goto gX8_ruleAt_72 (tgt := 17) (by decide) ?_
                exact hn2
              · rw [if_pos (by omega)] at hn2
                refine Z_push gX8_ruleAt_62 (v := (0, 1)) rfl ?_
                refine Z_goto gX8_ruleAt_63 (tgt := 67) (by decide) ?_
                refine Z_iadd gX8_ruleAt_67 ⟨by omega, by omega⟩ ?_
                refine Z_sto gX8_ruleAt_68 rfl (ls' := [(1, ((97 : Nat) : Int)), (0, k), (0, (q : Int)), (0, (rkS R q p) + 1), (0, (p : Int))]) (st' := []) rfl ?_
                refine Z_iinc gX8_ruleAt_69 rfl ⟨by omega, by omega⟩ (ls' := [(1, ((97 : Nat) : Int)), (0, k), (0, (q : Int)), (0, (rkS R q p) + 1), (0, (p : Int) + 1)]) rfl ?_
                refine Z_goto gX8_ruleAt_72 (tgt := 17) (by decide) ?_
                exact hn2
      refine Z_push gX8_ruleAt_7 (v := (0, (q : Int))) rfl ?_
      refine Z_push gX8_ruleAt_8 (v := (0, 5)) rfl ?_
      refine Z_icmp_ge gX8_ruleAt_9 (tgt := 88) (by decide) (fun h9 => absurd h9 (by omega)) (fun _ => ?_)
      refine Z_push gX8_ruleAt_12 (v := (0, 0)) rfl ?_
      refine Z_sto gX8_ruleAt_13 rfl (ls' := [(1, ((97 : Nat) : Int)), (0, k), (0, (q : Int)), (0, 0), (y1, y2)]) (st' := []) rfl ?_
      refine Z_push gX8_ruleAt_14 (v := (0, 0)) rfl ?_
      refine Z_sto gX8_ruleAt_15 rfl (ls' := [(1, ((97 : Nat) : Int)), (0, k), (0, (q : Int)), (0, 0), (0, 0)]) (st' := []) rfl ?_
      exact inner 5 0 rfl
  refine Z_push gX8_ruleAt_5 (v := (0, 0)) rfl ?_
  refine Z_sto gX8_ruleAt_6 rfl (ls' := [(1, ((97 : Nat) : Int)), (0, k), (0, 0), (9, 0), (9, 0)]) (st' := []) rfl ?_
  exact outer 5 0 rfl rfl _ _
theorem mX8w_isLaidOut (hM : MR w T R D lim la) (hV : SV B T R D lim la) : Ev ro 0 mX8_isLaidOut [(1, ((97 : Nat) : Int))] w (rM w 0 0 (la) (fun w' => MR w' T R D lim la)) := by
  obtain ⟨hTV, hRV, hDV, hlim, hla, hop, hopD⟩ := id hV
  have hV1 := hTV.1
  have hM1 := MR_Y hM (frY.th w 0)
  have h0 : zup w 97 0 0 97 0 = 0 := zup_eq _ _ _ _
  have f0 : frM w (zup w 97 0 0) := (frY.th w 0).M
  show Z ro 0 mX8_isLaidOut 0 [(1, ((97 : Nat) : Int))] [] w _
  refine Z_push gX8_isLaidOut_0 (v := (1, ((97 : Nat) : Int))) rfl ?_
  refine Z_push gX8_isLaidOut_1 (v := (0, 0)) rfl ?_
  refine Z_put gX8_isLaidOut_2 rfl rfl (by decide) rfl (fun h => by cases h) ?_
  generalize zup w 97 0 0 = w1 at hM1 h0 f0 ⊢
  obtain ⟨hT1, hU1, hD1, hl1, hla1, hln1⟩ := id hM1
  refine Z_push gX8_isLaidOut_5 (v := (1, ((97 : Nat) : Int))) rfl ?_
  refine Z_getV (v := la) gX8_isLaidOut_6 rfl rfl (by decide) hla1 ?_
  refine Z_retB gX8_isLaidOut_9 rfl (by first | exact Or.inl rfl | exact Or.inr rfl | assumption | omega) _ ?_
  exact ⟨⟨_, rfl, fun _ => rfl⟩, h0, hM1, f0⟩
theorem mX8w_isTidy (hM : MR w T R D lim la) (hV : SV B T R D lim la) : Ev ro 0 mX8_isTidy [(1, ((97 : Nat) : Int))] w (rM w 0 0 (1) (fun w' => MR w' T R D lim la)) := by
  obtain ⟨hTV, hRV, hDV, hlim, hla, hop, hopD⟩ := id hV
  have hV1 := hTV.1
  have hM1 := MR_Y hM (frY.th w 0)
  have h0 : zup w 97 0 0 97 0 = 0 := zup_eq _ _ _ _
  have f0 : frM w (zup w 97 0 0) := (frY.th w 0).M
  show Z ro 0 mX8_isTidy 0 [(1, ((97 : Nat) : Int))] [] w _
  refine Z_push gX8_isTidy_0 (v := (1, ((97 : Nat) : Int))) rfl ?_
  refine Z_push gX8_isTidy_1 (v := (0, 0)) rfl ?_
  refine Z_put gX8_isTidy_2 rfl rfl (by decide) rfl (fun h => by cases h) ?_
  generalize zup w 97 0 0 = w1 at hM1 h0 f0 ⊢
  obtain ⟨hT1, hU1, hD1, hl1, hla1, hln1⟩ := id hM1
  refine Z_push gX8_isTidy_5 (v := (0, 1)) rfl ?_
  refine Z_retB gX8_isTidy_6 rfl (by first | exact Or.inl rfl | exact Or.inr rfl | assumption | omega) _ ?_
  exact ⟨⟨_, rfl, fun _ => rfl⟩, h0, hM1, f0⟩
theorem mX8w_lineOf (hM : MR w T R D lim la) (hV : SV B T R D lim la) (i : Int) : Ev ro 2 mX8_lineOf [(1, ((97 : Nat) : Int)), (0, i)] w (rM w 0 (cdLO T la i) ((lnE T lim i.toNat : Int)) (fun w' => MR w' T R D lim la)) := by
  obtain ⟨hTV, hRV, hDV, hlim, hla, hop, hopD⟩ := id hV
  have hV1 := hTV.1
  have hM1 := MR_Y hM (frY.th w 0)
  have h0 : zup w 97 0 0 97 0 = 0 := zup_eq _ _ _ _
  have f0 : frM w (zup w 97 0 0) := (frY.th w 0).M
  show Z ro 2 mX8_lineOf 0 [(1, ((97 : Nat) : Int)), (0, i)] [] w _
  refine Z_push gX8_lineOf_0 (v := (1, ((97 : Nat) : Int))) rfl ?_
  refine Z_push gX8_lineOf_1 (v := (0, 0)) rfl ?_
  refine Z_put gX8_lineOf_2 rfl rfl (by decide) rfl (fun h => by cases h) ?_
  generalize zup w 97 0 0 = w1 at hM1 h0 f0 ⊢
  obtain ⟨hT1, hU1, hD1, hl1, hla1, hln1⟩ := id hM1
  by_cases h : 0 ≤ i ∧ i < T.1
  · obtain ⟨q, rfl⟩ : ∃ q : Nat, i = (q : Int) := ⟨i.toNat, by omega⟩
    have hq : q < T.1 := by omega
    refine Z_push gX8_lineOf_5 (v := (1, ((97 : Nat) : Int))) rfl ?_
    refine Z_push gX8_lineOf_6 (v := (1, ((97 : Nat) : Int))) rfl ?_
    refine Z_push gX8_lineOf_7 (v := (0, (q : Int))) rfl ?_
    refine Z_callP (kd := 0) (na := 2) (M' := mX8_noEntry) gX8_lineOf_8 rfl rfl rfl rfl rfl rfl (fun _ => rfl) rfl rfl (fun _ _ => zrecv_obj rfl _ _ _) (d' := 1) (by omega) (noEnt0 hT1 hV1 h) ?_
    refine Z_push gX8_lineOf_11 (v := (0, 1)) rfl ?_
    refine Z_callP (kd := 0) (na := 3) (M' := mX8_fails) gX8_lineOf_12 rfl rfl rfl rfl rfl rfl (fun _ => rfl) rfl rfl (fun _ _ => zrecv_obj rfl _ _ _) (d' := 0) (by omega) (fail0 h0 1) ?_
    refine Z_if_ne gX8_lineOf_15 (tgt := 38) (by decide) (fun h15 => absurd h15 (by omega)) (fun _ => ?_)
    refine Z_push gX8_lineOf_18 (v := (1, ((97 : Nat) : Int))) rfl ?_
    refine Z_push gX8_lineOf_19 (v := (1, ((97 : Nat) : Int))) rfl ?_
    refine Z_getV (v := la) gX8_lineOf_20 rfl rfl (by decide) hla1 ?_
    refine Z_if_ne gX8_lineOf_23 (tgt := 30) (by decide) (fun h23 => ?_) (fun h23 => ?_)
    · refine Z_push gX8_lineOf_30 (v := (0, 0)) rfl ?_
      refine Z_push gX8_lineOf_31 (v := (0, 2)) rfl ?_
      refine Z_callP (kd := 0) (na := 3) (M' := mX8_fails) gX8_lineOf_32 rfl rfl rfl rfl rfl rfl (fun _ => rfl) rfl rfl (fun _ _ => zrecv_obj rfl _ _ _) (d' := 0) (by omega) (fail0 h0 2) ?_
      refine Z_if_eq gX8_lineOf_35 (tgt := 42) (by decide) (fun _ => ?_) (fun h35 => absurd h35 (by omega))
      refine Z_push gX8_lineOf_42 (v := (1, ((97 : Nat) : Int))) rfl ?_
      refine Z_getR (b := 104) gX8_lineOf_43 rfl rfl (by decide) rfl (by omega) ?_
      refine Z_push gX8_lineOf_46 (v := (0, (q : Int))) rfl ?_
      refine Z_ialoadV (v := (lnE T lim q : Int)) gX8_lineOf_47 rfl (by omega) (by omega) (hln1 (by omega) q hq) ?_
      refine Z_ret (v := (0, (lnE T lim q : Int))) gX8_lineOf_48 rfl rfl rfl rfl rfl _ ?_
      have hcd : (cdLO T la (q : Int)) = 0 := by unfold cdLO; (repeat' split) <;> omega
      exact ⟨⟨_, rfl, fun _ => rfl⟩, h0.trans (by rw [hcd]; rfl), hM1, f0⟩
    · refine Z_push gX8_lineOf_26 (v := (0, 1)) rfl ?_
      refine Z_goto gX8_lineOf_27 (tgt := 31) (by decide) ?_
      refine Z_push gX8_lineOf_31 (v := (0, 2)) rfl ?_
      refine Z_callQ (kd := 0) (na := 3) (M' := mX8_fails) gX8_lineOf_32 rfl rfl rfl rfl rfl rfl (fun _ => rfl) rfl rfl (fun _ _ => zrecv_obj rfl _ _ _) (d' := 0) (by omega) (fail1 h0 (by omega)) ?_
      refine Z_if_eq gX8_lineOf_35 (tgt := 42) (by decide) (fun h35 => absurd h35 (by omega)) (fun _ => ?_)
      refine Z_push gX8_lineOf_38 (v := (0, 0)) rfl ?_
      refine Z_goto gX8_lineOf_39 (tgt := 48) (by decide) ?_
      refine Z_ret (v := (0, 0)) gX8_lineOf_48 rfl rfl rfl rfl rfl _ ?_
      have hcd : (cdLO T la (q : Int)) = 2 := by unfold cdLO; (repeat' split) <;> omega
      exact ⟨⟨_, rfl, fun h => absurd h (by omega)⟩, (zup_eq _ _ _ _).trans (by rw [hcd]; rfl), MR_Y hM1 (frY.th w1 2), f0.trans (frY.th w1 2).M⟩
  · refine Z_push gX8_lineOf_5 (v := (1, ((97 : Nat) : Int))) rfl ?_
    refine Z_push gX8_lineOf_6 (v := (1, ((97 : Nat) : Int))) rfl ?_
    refine Z_push gX8_lineOf_7 (v := (0, i)) rfl ?_
    refine Z_callP (kd := 0) (na := 2) (M' := mX8_noEntry) gX8_lineOf_8 rfl rfl rfl rfl rfl rfl (fun _ => rfl) rfl rfl (fun _ _ => zrecv_obj rfl _ _ _) (d' := 1) (by omega) (noEnt1 hT1 hV1 h) ?_
    refine Z_push gX8_lineOf_11 (v := (0, 1)) rfl ?_
    refine Z_callQ (kd := 0) (na := 3) (M' := mX8_fails) gX8_lineOf_12 rfl rfl rfl rfl rfl rfl (fun _ => rfl) rfl rfl (fun _ _ => zrecv_obj rfl _ _ _) (d' := 0) (by omega) (fail1 h0 (by omega)) ?_
    refine Z_if_ne gX8_lineOf_15 (tgt := 38) (by decide) (fun _ => ?_) (fun h15 => absurd h15 (by omega))
    refine Z_push gX8_lineOf_38 (v := (0, 0)) rfl ?_
    refine Z_goto gX8_lineOf_39 (tgt := 48) (by decide) ?_
    refine Z_ret (v := (0, 0)) gX8_lineOf_48 rfl rfl rfl rfl rfl _ ?_
    have hcd : (cdLO T la i) = 1 := by unfold cdLO; (repeat' split) <;> omega
    exact ⟨⟨_, rfl, fun h => absurd h (by omega)⟩, (zup_eq _ _ _ _).trans (by rw [hcd]; rfl), MR_Y hM1 (frY.th w1 1), f0.trans (frY.th w1 1).M⟩
theorem mX8w_lineWidth (hM : MR w T R D lim la) (hV : SV B T R D lim la) (l : Int) : Ev ro 1 mX8_lineWidth [(1, ((97 : Nat) : Int)), (0, l)] w (rM w 0 (cdLW T lim la l) (lwS T (stE T lim l.toNat) (stE T lim (l.toNat + 1) - stE T lim l.toNat)) (fun w' => MR w' T R D lim la)) := by
  obtain ⟨hTV, hRV, hDV, hlim, hla, hop, hopD⟩ := id hV
  have hV1 := hTV.1
  have hM1 := MR_Y hM (frY.th w 0)
  have h0 : zup w 97 0 0 97 0 = 0 := zup_eq _ _ _ _
  have f0 : frM w (zup w 97 0 0) := (frY.th w 0).M
  show Z ro 1 mX8_lineWidth 0 [(1, ((97 : Nat) : Int)), (0, l), (9, 0), (9, 0)] [] w _
  refine Z_push gX8_lineWidth_0 (v := (1, ((97 : Nat) : Int))) rfl ?_
  refine Z_push gX8_lineWidth_1 (v := (0, 0)) rfl ?_
  refine Z_put gX8_lineWidth_2 rfl rfl (by decide) rfl (fun h => by cases h) ?_
  generalize zup w 97 0 0 = w1 at hM1 h0 f0 ⊢
  obtain ⟨hT1, hU1, hD1, hl1, hla1, hln1⟩ := id hM1
  refine Z_push gX8_lineWidth_5 (v := (1, ((97 : Nat) : Int))) rfl ?_
  refine Z_push gX8_lineWidth_6 (v := (1, ((97 : Nat) : Int))) rfl ?_
  refine Z_getV (v := la) gX8_lineWidth_7 rfl rfl (by decide) hla1 ?_
  refine Z_if_ne gX8_lineWidth_10 (tgt := 17) (by decide) (fun h10 => ?_) (fun h10 => ?_)
  · have hln := hln1 (by omega)
    have loop : ∀ m k : Nat, k + m = T.1 → Z ro 1 mX8_lineWidth 31 [(1, ((97 : Nat) : Int)), (0, l), (0, lsW T lim l k), (0, (k : Int))] [] w1 (fun r w' k9 => k9 = 0 ∧ ∃ o, r = .inl o ∧ (rM w 0 (cdLW T lim la l) (lwS T (stE T lim l.toNat) (stE T lim (l.toNat + 1) - stE T lim l.toNat)) (fun w' => MR w' T R D lim la)) o w') := by
      intro m
      induction m with
      | zero =>
        intro k hk
        obtain rfl : k = T.1 := by omega
        by_cases hl : 0 ≤ l ∧ l < (lcE T lim : Int)
        · obtain ⟨q, rfl⟩ : ∃ q : Nat, l = (q : Int) := ⟨l.toNat, by omega⟩
          have hq : q < lcE T lim := by omega
          have h4 := st_lt hTV hlim ((lc_iff hTV hlim q).mpr hq)
          have h5 := st_le hTV hlim (q + 1)
          have e := lsW_in hTV hlim hq T.1 (Nat.le_refl _)
          rw [if_neg (by omega)] at e
          have e2 : lsW T lim (q : Int) T.1 = lwS T (stE T lim q) (stE T lim (q + 1) - stE T lim q) := by
            rw [e]
            split
            · rw [show T.1 = stE T lim (q + 1) by omega]
            · rfl
          have hb := lwS_bd hTV (stE T lim q) (stE T lim (q + 1) - stE T lim q)
          rw [e2]
          refine Z_push gX8_lineWidth_31 (v := (0, (T.1 : Int))) rfl ?_
          refine Z_push gX8_lineWidth_32 (v := (1, ((97 : Nat) : Int))) rfl ?_
          refine Z_getV (v := (T.1 : Int)) gX8_lineWidth_33 rfl rfl (by decide) hT1.1 ?_
          refine Z_icmp_ge gX8_lineWidth_36 (tgt := 69) (by decide) (fun _ => ?_) (fun h36 => absurd h36 (by omega))
          refine Z_push gX8_lineWidth_69 (v := (1, ((97 : Nat) : Int))) rfl ?_
          refine Z_push gX8_lineWidth_70 (v := (0, lwS T (stE T lim q) (stE T lim (q + 1) - stE T lim q))) rfl ?_
          refine Z_push gX8_lineWidth_71 (v := (0, -1)) rfl ?_
          refine Z_icmp_ne gX8_lineWidth_72 (tgt := 79) (by decide) (fun _ => ?_) (fun h72 => absurd h72 (by omega))
          refine Z_push gX8_lineWidth_79 (v := (0, 0)) rfl ?_
          refine Z_push gX8_lineWidth_80 (v := (0, 2)) rfl ?_
          refine Z_callP (kd := 0) (na := 3) (M' := mX8_fails) gX8_lineWidth_81 rfl rfl rfl rfl rfl rfl (fun _ => rfl) rfl rfl (fun _ _ => zrecv_obj rfl _ _ _) (d' := 0) (by omega) (fail0 h0 2) ?_
          refine Z_if_eq gX8_lineWidth_84 (tgt := 91) (by decide) (fun _ => ?_) (fun h84 => absurd h84 (by omega))
          refine Z_push gX8_lineWidth_91 (v := (0, lwS T (stE T lim q) (stE T lim (q + 1) - stE T lim q))) rfl ?_
          refine Z_ret (v := (0, lwS T (stE T lim q) (stE T lim (q + 1) - stE T lim q))) gX8_lineWidth_92 rfl rfl rfl rfl rfl _ ?_
          have hcd : (cdLW T lim la (q : Int)) = 0 := by unfold cdLW; (repeat' split) <;> omega
          exact ⟨⟨_, rfl, fun _ => rfl⟩, h0.trans (by rw [hcd]; rfl), hM1, f0⟩
        · have e := lsW_no hTV hlim hl T.1 (Nat.le_refl _)
          rw [e]
          refine Z_push gX8_lineWidth_31 (v := (0, (T.1 : Int))) rfl ?_
          refine Z_push gX8_lineWidth_32 (v := (1, ((97 : Nat) : Int))) rfl ?_
          refine Z_getV (v := (T.1 : Int)) gX8_lineWidth_33 rfl rfl (by decide) hT1.1 ?_
          refine Z_icmp_ge gX8_lineWidth_36 (tgt := 69) (by decide) (fun _ => ?_) (fun h36 => absurd h36 (by omega))
          refine Z_push gX8_lineWidth_69 (v := (1, ((97 : Nat) : Int))) rfl ?_
          refine Z_push gX8_lineWidth_70 (v := (0, -1)) rfl ?_
          refine Z_push gX8_lineWidth_71 (v := (0, -1)) rfl ?_
          refine Z_icmp_ne gX8_lineWidth_72 (tgt := 79) (by decide) (fun h72 => absurd h72 (by omega)) (fun _ => ?_)
          refine Z_push gX8_lineWidth_75 (v := (0, 1)) rfl ?_
          refine Z_goto gX8_lineWidth_76 (tgt := 80) (by decide) ?_
          refine Z_push gX8_lineWidth_80 (v := (0, 2)) rfl ?_
          refine Z_callQ (kd := 0) (na := 3) (M' := mX8_fails) gX8_lineWidth_81 rfl rfl rfl rfl rfl rfl (fun _ => rfl) rfl rfl (fun _ _ => zrecv_obj rfl _ _ _) (d' := 0) (by omega) (fail1 h0 (by omega)) ?_
          refine Z_if_eq gX8_lineWidth_84 (tgt := 91) (by decide) (fun h84 => absurd h84 (by omega)) (fun _ => ?_)
          refine Z_push gX8_lineWidth_87 (v := (0, 0)) rfl ?_
          refine Z_goto gX8_lineWidth_88 (tgt := 92) (by decide) ?_
          refine Z_ret (v := (0, 0)) gX8_lineWidth_92 rfl rfl rfl rfl rfl _ ?_
          have hcd : (cdLW T lim la l) = 2 := by unfold cdLW; (repeat' split) <;> omega
          exact ⟨⟨_, rfl, fun h => absurd h (by omega)⟩, (zup_eq _ _ _ _).trans (by rw [hcd]; rfl), MR_Y hM1 (frY.th w1 2), f0.trans (frY.th w1 2).M⟩
      | succ m ih =>
        intro k hk
        have hn := ih (k + 1) (by omega)
        have hb := lsW_bd (lim := lim) hTV l k
        have hw := wT_bd hTV (k : Int)
        rw [show ((k + 1 : Nat) : Int) = (k : Int) + 1 from rfl, show lsW T lim l (k + 1) = lsW T lim l k + (if (lnE T lim k : Int) = l then wT T (k : Int) + 1 else 0) from rfl] at hn
        refine Z_push gX8_lineWidth_31 (v := (0, (k : Int))) rfl ?_
        refine Z_push gX8_lineWidth_32 (v := (1, ((97 : Nat) : Int))) rfl ?_
        refine Z_getV (v := (T.1 : Int)) gX8_lineWidth_33 rfl rfl (by decide) hT1.1 ?_
        refine Z_icmp_ge gX8_lineWidth_36 (tgt := 69) (by decide) (fun h36 => absurd h36 (by omega)) (fun _ => ?_)
        refine Z_push gX8_lineWidth_39 (v := (0, lsW T lim l k)) rfl ?_
        refine Z_push gX8_lineWidth_40 (v := (1, ((97 : Nat) : Int))) rfl ?_
        refine Z_getR (b := 104) gX8_lineWidth_41 rfl rfl (by decide) rfl (by omega) ?_
        refine Z_push gX8_lineWidth_44 (v := (0, (k : Int))) rfl ?_
        refine Z_ialoadV (v := (lnE T lim k : Int)) gX8_lineWidth_45 rfl (by omega) (by omega) (hln k (by omega)) ?_
        refine Z_push gX8_lineWidth_46 (v := (0, l)) rfl ?_
        refine Z_icmp_ne gX8_lineWidth_47 (tgt := 60) (by decide) (fun h47 => ?_) (fun h47 => ?_)
        · rw [if_neg h47] at hn
          refine Z_push gX8_lineWidth_60 (v := (0, 0)) rfl ?_
          refine Z_iadd gX8_lineWidth_61 ⟨by omega, by omega⟩ ?_
          refine Z_sto gX8_lineWidth_62 rfl (ls' := [(1, ((97 : Nat) : Int)), (0, l), (0, (lsW T lim l k) + 0), (0, (k : Int))]) (st' := []) rfl ?_
          refine Z_iinc gX8_lineWidth_63 rfl ⟨by omega, by omega⟩ (ls' := [(1, ((97 : Nat) : Int)), (0, l), (0, (lsW T lim l k) + 0), (0, (k : Int) + 1)]) rfl ?_
          refine Z_goto gX8_lineWidth_66 (tgt := 31) (by decide) ?_
          exact hn
        · rw [if_pos h47] at hn
          refine Z_push gX8_lineWidth_50 (v := (1, ((97 : Nat) : Int))) rfl ?_
          refine Z_push gX8_lineWidth_51 (v := (0, (k : Int))) rfl ?_
          refine Z_callP (kd := 0) (na := 2) (M' := mX8_wide) gX8_lineWidth_52 rfl rfl rfl rfl rfl rfl (fun _ => rfl) rfl rfl (fun _ _ => zrecv_obj rfl _ _ _) (d' := 0) (by omega) (vX8_wide hT1 hTV (show k < T.1 by omega)) ?_
          refine Z_push gX8_lineWidth_55 (v := (0, 1)) rfl ?_
          refine Z_iadd gX8_lineWidth_56 ⟨by omega, by omega⟩ ?_
          refine Z_goto gX8_lineWidth_57 (tgt := 61) (by decide) ?_
          refine Z_iadd gX8_lineWidth_61 ⟨by omega, by omega⟩ ?_
          refine Z_sto gX8_lineWidth_62 rfl (ls' := [(1, ((97 : Nat) : Int)), (0, l), (0, (lsW T lim l k) + ((wT T (k : Int)) + 1)), (0, (k : Int))]) (st' := []) rfl ?_
          refine Z_iinc gX8_lineWidth_63 rfl ⟨by omega, by omega⟩ (ls' := [(1, ((97 : Nat) : Int)), (0, l), (0, (lsW T lim l k) + ((wT T (k : Int)) + 1)), (0, (k : Int) + 1)]) rfl ?_
          refine Z_goto gX8_lineWidth_66 (tgt := 31) (by decide) ?_
          exact hn
    refine Z_push gX8_lineWidth_17 (v := (0, 0)) rfl ?_
    refine Z_push gX8_lineWidth_18 (v := (0, 1)) rfl ?_
    refine Z_callP (kd := 0) (na := 3) (M' := mX8_fails) gX8_lineWidth_19 rfl rfl rfl rfl rfl rfl (fun _ => rfl) rfl rfl (fun _ _ => zrecv_obj rfl _ _ _) (d' := 0) (by omega) (fail0 h0 1) ?_
    refine Z_if_eq gX8_lineWidth_22 (tgt := 27) (by decide) (fun _ => ?_) (fun h22 => absurd h22 (by omega))
    refine Z_push gX8_lineWidth_27 (v := (0, -1)) rfl ?_
    refine Z_sto gX8_lineWidth_28 rfl (ls' := [(1, ((97 : Nat) : Int)), (0, l), (0, -1), (9, 0)]) (st' := []) rfl ?_
    refine Z_push gX8_lineWidth_29 (v := (0, 0)) rfl ?_
    refine Z_sto gX8_lineWidth_30 rfl (ls' := [(1, ((97 : Nat) : Int)), (0, l), (0, -1), (0, 0)]) (st' := []) rfl ?_
    exact loop T.1 0 (by omega)
  · refine Z_push gX8_lineWidth_13 (v := (0, 1)) rfl ?_
    refine Z_goto gX8_lineWidth_14 (tgt := 18) (by decide) ?_
    refine Z_push gX8_lineWidth_18 (v := (0, 1)) rfl ?_
    refine Z_callQ (kd := 0) (na := 3) (M' := mX8_fails) gX8_lineWidth_19 rfl rfl rfl rfl rfl rfl (fun _ => rfl) rfl rfl (fun _ _ => zrecv_obj rfl _ _ _) (d' := 0) (by omega) (fail1 h0 (by omega)) ?_
    refine Z_if_eq gX8_lineWidth_22 (tgt := 27) (by decide) (fun h22 => absurd h22 (by omega)) (fun _ => ?_)
    refine Z_push gX8_lineWidth_25 (v := (0, 0)) rfl ?_
    refine Z_ret (v := (0, 0)) gX8_lineWidth_26 rfl rfl rfl rfl rfl _ ?_
    have hcd : (cdLW T lim la l) = 1 := by unfold cdLW; (repeat' split) <;> omega
    exact ⟨⟨_, rfl, fun h => absurd h (by omega)⟩, (zup_eq _ _ _ _).trans (by rw [hcd]; rfl), MR_Y hM1 (frY.th w1 1), f0.trans (frY.th w1 1).M⟩
end
