/-! the class's readers -/
def rP (w : zW) (T : zTx) (R : zRu) (D : zDs) (lim la : Int) (a : Option zV ⊕ String) : (Option zV ⊕ String) → zW → Prop := fun r w' => r = a ∧ CR w' T R D lim la ∧ frC w w'
def cdName (i : Int) : Nat := if 0 ≤ i ∧ i < 100 then 0 else 1
def cdEnt (T : zTx) (i : Int) : Nat := if 0 ≤ i ∧ i < T.1 then 0 else 1
def cdNameOf (T : zTx) (i : Int) : Nat := if 0 ≤ i ∧ i < T.1 then (if kT T i = 110 then 0 else 2) else 1
def cdFnd (T : zTx) (f : Int) : Nat := if 0 ≤ f ∧ f < (fdN T T.1 : Int) then 0 else 1
def cdRule (i : Int) : Nat := if 0 ≤ i ∧ i < 5 then 0 else 1
def cmT (T : zTx) : Nat → Nat
  | 0 => 0
  | m + 1 => if tmT T (cmT T m : Int) T.1 < tmT T (m : Int) T.1 then m else cmT T m
def cdCom (T : zTx) : Nat := if tmT T (cmT T 100 : Int) T.1 = 0 then 1 else 0
def feT (T : zTx) (i : Nat) : Nat := cntP (fun j => decide (fdN T (j + 1) ≤ i)) T.1
def raS (R : zRu) (k : Int) : Nat → Int
  | 0 => -1
  | m + 1 => if raS R k m = -1 then (if rkS R m 5 = k then (m : Int) else -1) else raS R k m
def cdRank (R : zRu) (k : Int) : Nat := if raS R k 5 = -1 then 1 else 0
def cdTry (T : zTx) (R : zRu) : Nat := if 12 < fxN T R T.1 then 1 else 0
def cdCT (T : zTx) : Nat := if 12 < T.1 then 1 else 0
def cdLO (T : zTx) (la i : Int) : Nat := if 0 ≤ i ∧ i < T.1 then (if la = 0 then 2 else 0) else 1
def cdLW (T : zTx) (lim la l : Int) : Nat := if la = 0 then 1 else if 0 ≤ l ∧ l < (lcE T lim : Int) then 0 else 2
theorem fe_at {T : zTx} {j : Nat} (hr : rlT T j ≠ -1) : feT T (fdN T j) = j := by
  have hj := rl_lt hr
  have key := fun (q : Nat) (hq : q < T.1) => cntP_iff (p := fun q => decide (fdN T (q + 1) ≤ fdN T j)) (fun q h => by
    have h := of_decide_eq_true h
    have := fdN_mono' T (j := q + 1) (k := q + 1 + 1) (by omega)
    exact decide_eq_true (by omega)) hq
  have hle : feT T (fdN T j) ≤ T.1 := cntP_le _ _
  have e1 : ¬ j < feT T (fdN T j) := fun h => by
    have := of_decide_eq_true ((key j hj).mpr h)
    rw [fdN_s hr] at this
    omega
  apply Classical.byContradiction
  intro hne
  have h2 : feT T (fdN T j) < j := by omega
  have h3 := (key (feT T (fdN T j)) (by omega)).mp (decide_eq_true (fdN_mono' T (by omega)))
  exact absurd h3 (Nat.lt_irrefl _)
theorem cmT_lt (T : zTx) : ∀ m, cmT T m < m + 1
  | 0 => Nat.lt_succ_self _
  | m + 1 => by have := cmT_lt T m; unfold cmT; split <;> omega
section
variable {ro : zRo} {w : zW} {T : zTx} {R : zRu} {D : zDs} {lim la B : Int}
theorem uX7_entries (hC : CR w T R D lim la) (hV : SV B T R D lim la) : Xv ro 1 mX7_entries [(1, ((0 : Nat) : Int))] w (rP w T R D lim la (ans (some (0, (T.1 : Int))) [] 0)) := by
  obtain ⟨hR, hRR, hD, h7, h8, hL⟩ := id hC
  obtain ⟨hTV, hRV, hDV, hlim, hla, hop, hopD⟩ := id hV
  have hT := TX_1
  have hV1 := hTV.1
  show Z ro 1 mX7_entries 0 [(1, ((0 : Nat) : Int))] [] w _
  refine Z_push gX7_entries_0 (v := (1, ((0 : Nat) : Int))) rfl ?_
  refine Z_getR (b := 1) gX7_entries_1 rfl rfl (by decide) rfl (by omega) ?_
  refine Z_callP (kd := 0) (na := 1) (M' := mX6_size) gX7_entries_4 rfl rfl rfl rfl rfl rfl (fun _ => rfl) rfl rfl (fun _ _ => zrecv_obj rfl _ _ _) (d' := 0) (by omega) (vX6_size (by assumption) (by assumption)) ?_
  refine Z_retX (v := (0, (T.1 : Int))) gX7_entries_7 rfl rfl rfl rfl rfl ?_
  exact ⟨rfl, rfl, hC, frC.refl _⟩
theorem uX7_kindOf (hC : CR w T R D lim la) (hV : SV B T R D lim la) (i : Int) : Xv ro 2 mX7_kindOf [(1, ((0 : Nat) : Int)), (0, i)] w (rP w T R D lim la (ans (some (0, kT T i)) ["java/lang/IndexOutOfBoundsException"] (cdEnt T i))) := by
  obtain ⟨hR, hRR, hD, h7, h8, hL⟩ := id hC
  obtain ⟨hTV, hRV, hDV, hlim, hla, hop, hopD⟩ := id hV
  have hT := TX_1
  have hV1 := hTV.1
  show Z ro 2 mX7_kindOf 0 [(1, ((0 : Nat) : Int)), (0, i)] [] w _
  by_cases h : 0 ≤ i ∧ i < T.1
  · have hk := kT_v hTV h
    refine Z_push gX7_kindOf_0 (v := (1, ((0 : Nat) : Int))) rfl ?_
    refine Z_push gX7_kindOf_1 (v := (0, i)) rfl ?_
    refine Z_callW (kd := 0) (na := 2) (M' := mX7_needEntry) gX7_kindOf_2 rfl rfl rfl rfl rfl rfl (fun _ => rfl) rfl rfl (fun _ _ => zrecv_obj rfl _ _ _) (d' := 1) (by omega) (nEntry_ok hR h) ?_
    refine Z_push gX7_kindOf_5 (v := (1, ((0 : Nat) : Int))) rfl ?_
    refine Z_getR (b := 1) gX7_kindOf_6 rfl rfl (by decide) rfl (by omega) ?_
    refine Z_push gX7_kindOf_9 (v := (0, i)) rfl ?_
    refine Z_callP (kd := 0) (na := 2) (M' := mX6_kindAt) gX7_kindOf_10 rfl rfl rfl rfl rfl rfl (fun _ => rfl) rfl rfl (fun _ _ => zrecv_obj rfl _ _ _) (d' := 0) (by omega) (vX6_kindAt hT hR hTV i) ?_
    refine Z_retXC gX7_kindOf_13 rfl (by omega) ?_
    exact ⟨rfl, (ans_0 (show cdEnt T i = 0 by unfold cdEnt; (repeat' split) <;> omega)).symm, hC, frC.refl _⟩
  · refine Z_push gX7_kindOf_0 (v := (1, ((0 : Nat) : Int))) rfl ?_
    refine Z_push gX7_kindOf_1 (v := (0, i)) rfl ?_
    refine Z_callT (kd := 0) (na := 2) (M' := mX7_needEntry) gX7_kindOf_2 rfl rfl rfl rfl rfl rfl (fun _ => rfl) rfl rfl (fun _ _ => zrecv_obj rfl _ _ _) (d' := 1) (by omega) (nEntry_no hR h) (Or.inl rfl) rfl (fun w9 hE => ?_)
    subst hE
    exact ⟨rfl, (ans_1 (show cdEnt T i = 1 by unfold cdEnt; (repeat' split) <;> omega)).symm, hC, frC.refl _⟩
theorem uX7_widthOf (hC : CR w T R D lim la) (hV : SV B T R D lim la) (i : Int) : Xv ro 3 mX7_widthOf [(1, ((0 : Nat) : Int)), (0, i)] w (rP w T R D lim la (ans (some (0, wT T i)) ["java/lang/IndexOutOfBoundsException"] (cdEnt T i))) := by
  obtain ⟨hR, hRR, hD, h7, h8, hL⟩ := id hC
  obtain ⟨hTV, hRV, hDV, hlim, hla, hop, hopD⟩ := id hV
  have hT := TX_1
  have hV1 := hTV.1
  show Z ro 3 mX7_widthOf 0 [(1, ((0 : Nat) : Int)), (0, i)] [] w _
  by_cases h : 0 ≤ i ∧ i < T.1
  · refine Z_push gX7_widthOf_0 (v := (1, ((0 : Nat) : Int))) rfl ?_
    refine Z_push gX7_widthOf_1 (v := (0, i)) rfl ?_
    refine Z_callW (kd := 0) (na := 2) (M' := mX7_needEntry) gX7_widthOf_2 rfl rfl rfl rfl rfl rfl (fun _ => rfl) rfl rfl (fun _ _ => zrecv_obj rfl _ _ _) (d' := 1) (by omega) (nEntry_ok hR h) ?_
    refine Z_push gX7_widthOf_5 (v := (1, ((0 : Nat) : Int))) rfl ?_
    refine Z_getR (b := 1) gX7_widthOf_6 rfl rfl (by decide) rfl (by omega) ?_
    refine Z_push gX7_widthOf_9 (v := (0, i)) rfl ?_
    refine Z_callP (kd := 0) (na := 2) (M' := mX6_widthAt) gX7_widthOf_10 rfl rfl rfl rfl rfl rfl (fun _ => rfl) rfl rfl (fun _ _ => zrecv_obj rfl _ _ _) (d' := 2) (by omega) (vX6_widthAt hT hR hTV i) ?_
    refine Z_retX (v := (0, wT T i)) gX7_widthOf_13 rfl rfl rfl rfl rfl ?_
    exact ⟨rfl, (ans_0 (show cdEnt T i = 0 by unfold cdEnt; (repeat' split) <;> omega)).symm, hC, frC.refl _⟩
  · refine Z_push gX7_widthOf_0 (v := (1, ((0 : Nat) : Int))) rfl ?_
    refine Z_push gX7_widthOf_1 (v := (0, i)) rfl ?_
    refine Z_callT (kd := 0) (na := 2) (M' := mX7_needEntry) gX7_widthOf_2 rfl rfl rfl rfl rfl rfl (fun _ => rfl) rfl rfl (fun _ _ => zrecv_obj rfl _ _ _) (d' := 1) (by omega) (nEntry_no hR h) (Or.inl rfl) rfl (fun w9 hE => ?_)
    subst hE
    exact ⟨rfl, (ans_1 (show cdEnt T i = 1 by unfold cdEnt; (repeat' split) <;> omega)).symm, hC, frC.refl _⟩
theorem uX7_depthOf (hC : CR w T R D lim la) (hV : SV B T R D lim la) (i : Int) : Xv ro 3 mX7_depthOf [(1, ((0 : Nat) : Int)), (0, i)] w (rP w T R D lim la (ans (some (0, dpT T i)) ["java/lang/IndexOutOfBoundsException"] (cdEnt T i))) := by
  obtain ⟨hR, hRR, hD, h7, h8, hL⟩ := id hC
  obtain ⟨hTV, hRV, hDV, hlim, hla, hop, hopD⟩ := id hV
  have hT := TX_1
  have hV1 := hTV.1
  show Z ro 3 mX7_depthOf 0 [(1, ((0 : Nat) : Int)), (0, i)] [] w _
  by_cases h : 0 ≤ i ∧ i < T.1
  · refine Z_push gX7_depthOf_0 (v := (1, ((0 : Nat) : Int))) rfl ?_
    refine Z_push gX7_depthOf_1 (v := (0, i)) rfl ?_
    refine Z_callW (kd := 0) (na := 2) (M' := mX7_needEntry) gX7_depthOf_2 rfl rfl rfl rfl rfl rfl (fun _ => rfl) rfl rfl (fun _ _ => zrecv_obj rfl _ _ _) (d' := 1) (by omega) (nEntry_ok hR h) ?_
    refine Z_push gX7_depthOf_5 (v := (1, ((0 : Nat) : Int))) rfl ?_
    refine Z_getR (b := 1) gX7_depthOf_6 rfl rfl (by decide) rfl (by omega) ?_
    refine Z_push gX7_depthOf_9 (v := (0, i)) rfl ?_
    refine Z_callP (kd := 0) (na := 2) (M' := mX6_depthAt) gX7_depthOf_10 rfl rfl rfl rfl rfl rfl (fun _ => rfl) rfl rfl (fun _ _ => zrecv_obj rfl _ _ _) (d' := 2) (by omega) (vX6_depthAt hT hR hTV (i := i) ⟨h.1, by omega⟩) ?_
    refine Z_retX (v := (0, dpT T i)) gX7_depthOf_13 rfl rfl rfl rfl rfl ?_
    exact ⟨rfl, (ans_0 (show cdEnt T i = 0 by unfold cdEnt; (repeat' split) <;> omega)).symm, hC, frC.refl _⟩
  · refine Z_push gX7_depthOf_0 (v := (1, ((0 : Nat) : Int))) rfl ?_
    refine Z_push gX7_depthOf_1 (v := (0, i)) rfl ?_
    refine Z_callT (kd := 0) (na := 2) (M' := mX7_needEntry) gX7_depthOf_2 rfl rfl rfl rfl rfl rfl (fun _ => rfl) rfl rfl (fun _ _ => zrecv_obj rfl _ _ _) (d' := 1) (by omega) (nEntry_no hR h) (Or.inl rfl) rfl (fun w9 hE => ?_)
    subst hE
    exact ⟨rfl, (ans_1 (show cdEnt T i = 1 by unfold cdEnt; (repeat' split) <;> omega)).symm, hC, frC.refl _⟩
theorem uX7_isPinned (hC : CR w T R D lim la) (hV : SV B T R D lim la) (i : Int) : Xv ro 2 mX7_isPinned [(1, ((0 : Nat) : Int)), (0, i)] w (rP w T R D lim la (ans (some (0, pT T i)) ["java/lang/IndexOutOfBoundsException"] (cdEnt T i))) := by
  obtain ⟨hR, hRR, hD, h7, h8, hL⟩ := id hC
  obtain ⟨hTV, hRV, hDV, hlim, hla, hop, hopD⟩ := id hV
  have hT := TX_1
  have hV1 := hTV.1
  show Z ro 2 mX7_isPinned 0 [(1, ((0 : Nat) : Int)), (0, i)] [] w _
  by_cases h : 0 ≤ i ∧ i < T.1
  · have hk := pT_01 hTV i
    refine Z_push gX7_isPinned_0 (v := (1, ((0 : Nat) : Int))) rfl ?_
    refine Z_push gX7_isPinned_1 (v := (0, i)) rfl ?_
    refine Z_callW (kd := 0) (na := 2) (M' := mX7_needEntry) gX7_isPinned_2 rfl rfl rfl rfl rfl rfl (fun _ => rfl) rfl rfl (fun _ _ => zrecv_obj rfl _ _ _) (d' := 1) (by omega) (nEntry_ok hR h) ?_
    refine Z_push gX7_isPinned_5 (v := (1, ((0 : Nat) : Int))) rfl ?_
    refine Z_getR (b := 1) gX7_isPinned_6 rfl rfl (by decide) rfl (by omega) ?_
    refine Z_push gX7_isPinned_9 (v := (0, i)) rfl ?_
    refine Z_callP (kd := 0) (na := 2) (M' := mX6_pinnedAt) gX7_isPinned_10 rfl rfl rfl rfl rfl rfl (fun _ => rfl) rfl rfl (fun _ _ => zrecv_obj rfl _ _ _) (d' := 1) (by omega) (show Pv ro 1 mX6_pinnedAt _ _ (0, pT T i) from TR_pT hR hTV h ▸ vX6_pinnedAt hT i) ?_
    refine Z_retXB gX7_isPinned_13 rfl (by first | exact Or.inl rfl | exact Or.inr rfl | assumption | omega) ?_
    exact ⟨rfl, (ans_0 (show cdEnt T i = 0 by unfold cdEnt; (repeat' split) <;> omega)).symm, hC, frC.refl _⟩
  · refine Z_push gX7_isPinned_0 (v := (1, ((0 : Nat) : Int))) rfl ?_
    refine Z_push gX7_isPinned_1 (v := (0, i)) rfl ?_
    refine Z_callT (kd := 0) (na := 2) (M' := mX7_needEntry) gX7_isPinned_2 rfl rfl rfl rfl rfl rfl (fun _ => rfl) rfl rfl (fun _ _ => zrecv_obj rfl _ _ _) (d' := 1) (by omega) (nEntry_no hR h) (Or.inl rfl) rfl (fun w9 hE => ?_)
    subst hE
    exact ⟨rfl, (ans_1 (show cdEnt T i = 1 by unfold cdEnt; (repeat' split) <;> omega)).symm, hC, frC.refl _⟩
theorem uX7_nameOf (hC : CR w T R D lim la) (hV : SV B T R D lim la) (i : Int) : Xv ro 2 mX7_nameOf [(1, ((0 : Nat) : Int)), (0, i)] w (rP w T R D lim la (ans (some (0, (T.2 i.toNat).2.1)) ["java/lang/IndexOutOfBoundsException", "java/lang/IllegalStateException"] (cdNameOf T i))) := by
  obtain ⟨hR, hRR, hD, h7, h8, hL⟩ := id hC
  obtain ⟨hTV, hRV, hDV, hlim, hla, hop, hopD⟩ := id hV
  have hT := TX_1
  have hV1 := hTV.1
  show Z ro 2 mX7_nameOf 0 [(1, ((0 : Nat) : Int)), (0, i)] [] w _
  by_cases h : 0 ≤ i ∧ i < T.1
  · refine Z_push gX7_nameOf_0 (v := (1, ((0 : Nat) : Int))) rfl ?_
    refine Z_push gX7_nameOf_1 (v := (0, i)) rfl ?_
    refine Z_callW (kd := 0) (na := 2) (M' := mX7_needEntry) gX7_nameOf_2 rfl rfl rfl rfl rfl rfl (fun _ => rfl) rfl rfl (fun _ _ => zrecv_obj rfl _ _ _) (d' := 1) (by omega) (nEntry_ok hR h) ?_
    refine Z_push gX7_nameOf_5 (v := (1, ((0 : Nat) : Int))) rfl ?_
    refine Z_getR (b := 1) gX7_nameOf_6 rfl rfl (by decide) rfl (by omega) ?_
    refine Z_push gX7_nameOf_9 (v := (0, i)) rfl ?_
    refine Z_callP (kd := 0) (na := 2) (M' := mX6_kindAt) gX7_nameOf_10 rfl rfl rfl rfl rfl rfl (fun _ => rfl) rfl rfl (fun _ _ => zrecv_obj rfl _ _ _) (d' := 0) (by omega) (vX6_kindAt hT hR hTV i) ?_
    refine Z_push gX7_nameOf_13 (v := (0, 110)) rfl ?_
    refine Z_icmp_eq gX7_nameOf_15 (tgt := 28) (by decide) (fun h15 => ?_) (fun h15 => ?_)
    · refine Z_push gX7_nameOf_28 (v := (1, ((0 : Nat) : Int))) rfl ?_
      refine Z_getR (b := 1) gX7_nameOf_29 rfl rfl (by decide) rfl (by omega) ?_
      refine Z_push gX7_nameOf_32 (v := (0, i)) rfl ?_
      refine Z_callP (kd := 0) (na := 2) (M' := mX6_nameAt) gX7_nameOf_33 rfl rfl rfl rfl rfl rfl (fun _ => rfl) rfl rfl (fun _ _ => zrecv_obj rfl _ _ _) (d' := 1) (by omega) (show Pv ro 1 mX6_nameAt _ _ (0, (T.2 i.toNat).2.1) from TR_name hR hTV h15 ▸ vX6_nameAt hT i) ?_
      refine Z_retX (v := (0, (T.2 i.toNat).2.1)) gX7_nameOf_36 rfl rfl rfl rfl rfl ?_
      exact ⟨rfl, (ans_0 (show cdNameOf T i = 0 by unfold cdNameOf; (repeat' split) <;> omega)).symm, hC, frC.refl _⟩
    · refine Z_thrX (v := ("java/lang/IllegalStateException", 84, 98, 88, false)) gX7_nameOf_18 rfl rfl rfl rfl rfl (by decide +kernel) (by decide +kernel) (by decide +kernel) rfl rfl ?_
      exact ⟨rfl, (ans_2 (show cdNameOf T i = 2 by unfold cdNameOf; (repeat' split) <;> omega)).symm, hC, frC.refl _⟩
  · refine Z_push gX7_nameOf_0 (v := (1, ((0 : Nat) : Int))) rfl ?_
    refine Z_push gX7_nameOf_1 (v := (0, i)) rfl ?_
    refine Z_callT (kd := 0) (na := 2) (M' := mX7_needEntry) gX7_nameOf_2 rfl rfl rfl rfl rfl rfl (fun _ => rfl) rfl rfl (fun _ _ => zrecv_obj rfl _ _ _) (d' := 1) (by omega) (nEntry_no hR h) (Or.inl rfl) rfl (fun w9 hE => ?_)
    subst hE
    exact ⟨rfl, (ans_1 (show cdNameOf T i = 1 by unfold cdNameOf; (repeat' split) <;> omega)).symm, hC, frC.refl _⟩
theorem uX7_occurrences (hC : CR w T R D lim la) (hV : SV B T R D lim la) (i : Int) : Xv ro 4 mX7_occurrences [(1, ((0 : Nat) : Int)), (0, i)] w (rP w T R D lim la (ans (some (0, tmT T i T.1)) ["java/lang/IllegalArgumentException"] (cdName i))) := by
  obtain ⟨hR, hRR, hD, h7, h8, hL⟩ := id hC
  obtain ⟨hTV, hRV, hDV, hlim, hla, hop, hopD⟩ := id hV
  have hT := TX_1
  have hV1 := hTV.1
  show Z ro 4 mX7_occurrences 0 [(1, ((0 : Nat) : Int)), (0, i)] [] w _
  by_cases h : 0 ≤ i ∧ i < 100
  · refine Z_push gX7_occurrences_0 (v := (0, i)) rfl ?_
    refine Z_callW (kd := 1) (na := 1) (M' := mX7_needName) gX7_occurrences_1 rfl rfl rfl rfl rfl rfl (fun _ => rfl) rfl rfl (fun _ _ => rfl) (d' := 0) (by omega) (nName_ok h) ?_
    refine Z_push gX7_occurrences_4 (v := (1, ((0 : Nat) : Int))) rfl ?_
    refine Z_getR (b := 1) gX7_occurrences_5 rfl rfl (by decide) rfl (by omega) ?_
    refine Z_push gX7_occurrences_8 (v := (0, i)) rfl ?_
    refine Z_callP (kd := 0) (na := 2) (M' := mX6_timesOf) gX7_occurrences_9 rfl rfl rfl rfl rfl rfl (fun _ => rfl) rfl rfl (fun _ _ => zrecv_obj rfl _ _ _) (d' := 3) (by omega) (vX6_timesOf hT hR hTV i) ?_
    refine Z_retX (v := (0, tmT T i T.1)) gX7_occurrences_12 rfl rfl rfl rfl rfl ?_
    exact ⟨rfl, (ans_0 (show cdName i = 0 by unfold cdName; (repeat' split) <;> omega)).symm, hC, frC.refl _⟩
  · refine Z_push gX7_occurrences_0 (v := (0, i)) rfl ?_
    refine Z_callT (kd := 1) (na := 1) (M' := mX7_needName) gX7_occurrences_1 rfl rfl rfl rfl rfl rfl (fun _ => rfl) rfl rfl (fun _ _ => rfl) (d' := 0) (by omega) (nName_no h) (Or.inr rfl) rfl (fun w9 hE => ?_)
    subst hE
    exact ⟨rfl, (ans_1 (show cdName i = 1 by unfold cdName; (repeat' split) <;> omega)).symm, hC, frC.refl _⟩
theorem uX7_commonest (hC : CR w T R D lim la) (hV : SV B T R D lim la) : Xv ro 4 mX7_commonest [(1, ((0 : Nat) : Int))] w (rP w T R D lim la (ans (some (0, (cmT T 100 : Int))) ["java/util/NoSuchElementException"] (cdCom T))) := by
  obtain ⟨hR, hRR, hD, h7, h8, hL⟩ := id hC
  obtain ⟨hTV, hRV, hDV, hlim, hla, hop, hopD⟩ := id hV
  have hT := TX_1
  have hV1 := hTV.1
  show Z ro 4 mX7_commonest 0 [(1, ((0 : Nat) : Int)), (9, 0), (9, 0), (9, 0), (9, 0)] [] w _
  have htm := fun x => tmT_bd T x T.1
  have loop : ∀ k j : Nat, j + k + 1 = 100 → ∀ v : zV, Z ro 4 mX7_commonest 6 [(1, ((0 : Nat) : Int)), (0, tmT T (cmT T (j + 1) : Int) T.1), (0, (cmT T (j + 1) : Int)), (0, ((j + 1 : Nat) : Int)), v] [] w (fun r w' k => k = kx r ∧ rP w T R D lim la (ans (some (0, (cmT T 100 : Int))) ["java/util/NoSuchElementException"] (cdCom T)) r w') := by
    intro k
    induction k with
    | zero =>
      intro j hj v
      obtain ⟨v1, v2⟩ := v
      obtain rfl : j = 99 := by omega
      refine Z_push gX7_commonest_6 (v := (0, ((99 + 1 : Nat) : Int))) rfl ?_
      refine Z_push gX7_commonest_7 (v := (0, 100)) rfl ?_
      refine Z_icmp_ge gX7_commonest_9 (tgt := 39) (by decide) (fun _ => ?_) (fun h9 => absurd h9 (by decide))
      refine Z_push gX7_commonest_39 (v := (0, tmT T (cmT T 100 : Int) T.1)) rfl ?_
      refine Z_if_ne gX7_commonest_40 (tgt := 53) (by decide) (fun h40 => ?_) (fun h40 => ?_)
      · refine Z_push gX7_commonest_53 (v := (0, (cmT T 100 : Int))) rfl ?_
        refine Z_retX (v := (0, (cmT T 100 : Int))) gX7_commonest_54 rfl rfl rfl rfl rfl ?_
        exact ⟨rfl, (ans_0 (show cdCom T = 0 by unfold cdCom; (repeat' split) <;> omega)).symm, hC, frC.refl _⟩
      · refine Z_thrX (v := ("java/util/NoSuchElementException", 109, 111, 113, false)) gX7_commonest_43 rfl rfl rfl rfl rfl (by decide +kernel) (by decide +kernel) (by decide +kernel) rfl rfl ?_
        exact ⟨rfl, (ans_1 (show cdCom T = 1 by unfold cdCom; (repeat' split) <;> omega)).symm, hC, frC.refl _⟩
    | succ k ih =>
      intro j hj v
      obtain ⟨v1, v2⟩ := v
      have hn := ih (j + 1) (by omega)
      have e : cmT T (j + 1 + 1) = if tmT T (cmT T (j + 1) : Int) T.1 < tmT T ((j + 1 : Nat) : Int) T.1 then j + 1 else cmT T (j + 1) := rfl
      rw [show ((j + 1 + 1 : Nat) : Int) = ((j + 1 : Nat) : Int) + 1 from rfl] at hn
      refine Z_push gX7_commonest_6 (v := (0, ((j + 1 : Nat) : Int))) rfl ?_
      refine Z_push gX7_commonest_7 (v := (0, 100)) rfl ?_
      refine Z_icmp_ge gX7_commonest_9 (tgt := 39) (by decide) (fun h9 => absurd h9 (by omega)) (fun _ => ?_)
      refine Z_push gX7_commonest_12 (v := (1, ((0 : Nat) : Int))) rfl ?_
      refine Z_getR (b := 1) gX7_commonest_13 rfl rfl (by decide) rfl (by omega) ?_
      refine Z_push gX7_commonest_16 (v := (0, ((j + 1 : Nat) : Int))) rfl ?_
      refine Z_callP (kd := 0) (na := 2) (M' := mX6_timesOf) gX7_commonest_17 rfl rfl rfl rfl rfl rfl (fun _ => rfl) rfl rfl (fun _ _ => zrecv_obj rfl _ _ _) (d' := 3) (by omega) (vX6_timesOf hT hR hTV _) ?_
      refine Z_sto gX7_commonest_20 rfl (ls' := [(1, ((0 : Nat) : Int)), (0, tmT T (cmT T (j + 1) : Int) T.1), (0, (cmT T (j + 1) : Int)), (0, ((j + 1 : Nat) : Int)), (0, tmT T ((j + 1 : Nat) : Int) T.1)]) (st' := []) rfl ?_
      refine Z_push gX7_commonest_22 (v := (0, tmT T ((j + 1 : Nat) : Int) T.1)) rfl ?_
      refine Z_push gX7_commonest_24 (v := (0, tmT T (cmT T (j + 1) : Int) T.1)) rfl ?_
      refine Z_icmp_le gX7_commonest_25 (tgt := 33) (by decide) (fun h25 => ?_) (fun h25 => ?_)
      · rw [if_neg (by omega)] at e
        rw [e] at hn
        refine Z_iinc gX7_commonest_33 rfl ⟨by omega, by omega⟩ (ls' := [(1, ((0 : Nat) : Int)), (0, tmT T (cmT T (j + 1) : Int) T.1), (0, (cmT T (j + 1) : Int)), (0, ((j + 1 : Nat) : Int) + 1), (0, tmT T ((j + 1 : Nat) : Int) T.1)]) rfl ?_
        refine Z_goto gX7_commonest_36 (tgt := 6) (by decide) ?_
        exact hn _
      · rw [if_pos (by omega)] at e
        rw [e] at hn
        refine Z_push gX7_commonest_28 (v := (0, tmT T ((j + 1 : Nat) : Int) T.1)) rfl ?_
        refine Z_sto gX7_commonest_30 rfl (ls' := [(1, ((0 : Nat) : Int)), (0, tmT T ((j + 1 : Nat) : Int) T.1), (0, (cmT T (j + 1) : Int)), (0, ((j + 1 : Nat) : Int)), (0, tmT T ((j + 1 : Nat) : Int) T.1)]) (st' := []) rfl ?_
        refine Z_push gX7_commonest_31 (v := (0, ((j + 1 : Nat) : Int))) rfl ?_
        refine Z_sto gX7_commonest_32 rfl (ls' := [(1, ((0 : Nat) : Int)), (0, tmT T ((j + 1 : Nat) : Int) T.1), (0, ((j + 1 : Nat) : Int)), (0, ((j + 1 : Nat) : Int)), (0, tmT T ((j + 1 : Nat) : Int) T.1)]) (st' := []) rfl ?_
        refine Z_iinc gX7_commonest_33 rfl ⟨by omega, by omega⟩ (ls' := [(1, ((0 : Nat) : Int)), (0, tmT T ((j + 1 : Nat) : Int) T.1), (0, ((j + 1 : Nat) : Int)), (0, ((j + 1 : Nat) : Int) + 1), (0, tmT T ((j + 1 : Nat) : Int) T.1)]) rfl ?_
        refine Z_goto gX7_commonest_36 (tgt := 6) (by decide) ?_
        exact hn _
  have h0 := loop 99 0 (by omega)
  have e0 : cmT T (0 + 1) = 0 := by show (if _ then 0 else 0) = 0; split <;> rfl
  rw [e0] at h0
  refine Z_push gX7_commonest_0 (v := (0, 0)) rfl ?_
  refine Z_sto gX7_commonest_1 rfl (ls' := [(1, ((0 : Nat) : Int)), (0, 0), (9, 0), (9, 0), (9, 0)]) (st' := []) rfl ?_
  refine Z_push gX7_commonest_2 (v := (0, 0)) rfl ?_
  refine Z_sto gX7_commonest_3 rfl (ls' := [(1, ((0 : Nat) : Int)), (0, 0), (0, 0), (9, 0), (9, 0)]) (st' := []) rfl ?_
  refine Z_push gX7_commonest_4 (v := (0, 0)) rfl ?_
  refine Z_sto gX7_commonest_5 rfl (ls' := [(1, ((0 : Nat) : Int)), (0, 0), (0, 0), (0, 0), (9, 0)]) (st' := []) rfl ?_
  refine Z_push gX7_commonest_6 (v := (0, 0)) rfl ?_
  refine Z_push gX7_commonest_7 (v := (0, 100)) rfl ?_
  refine Z_icmp_ge gX7_commonest_9 (tgt := 39) (by decide) (fun h9 => absurd h9 (by omega)) (fun _ => ?_)
  refine Z_push gX7_commonest_12 (v := (1, ((0 : Nat) : Int))) rfl ?_
  refine Z_getR (b := 1) gX7_commonest_13 rfl rfl (by decide) rfl (by omega) ?_
  refine Z_push gX7_commonest_16 (v := (0, 0)) rfl ?_
  refine Z_callP (kd := 0) (na := 2) (M' := mX6_timesOf) gX7_commonest_17 rfl rfl rfl rfl rfl rfl (fun _ => rfl) rfl rfl (fun _ _ => zrecv_obj rfl _ _ _) (d' := 3) (by omega) (vX6_timesOf hT hR hTV _) ?_
  refine Z_sto gX7_commonest_20 rfl (ls' := [(1, ((0 : Nat) : Int)), (0, 0), (0, 0), (0, 0), (0, tmT T 0 T.1)]) (st' := []) rfl ?_
  refine Z_push gX7_commonest_22 (v := (0, tmT T 0 T.1)) rfl ?_
  refine Z_push gX7_commonest_24 (v := (0, 0)) rfl ?_
  refine Z_icmp_le gX7_commonest_25 (tgt := 33) (by decide) (fun h25 => ?_) (fun h25 => ?_)
  · have h1 := htm 0
    rw [show tmT T ((0 : Nat) : Int) T.1 = 0 by show tmT T 0 T.1 = 0; omega] at h0
    refine Z_iinc gX7_commonest_33 rfl ⟨by omega, by omega⟩ (ls' := [(1, ((0 : Nat) : Int)), (0, 0), (0, 0), (0, 0 + 1), (0, tmT T 0 T.1)]) rfl ?_
    refine Z_goto gX7_commonest_36 (tgt := 6) (by decide) ?_
    exact h0 _
  · refine Z_push gX7_commonest_28 (v := (0, tmT T 0 T.1)) rfl ?_
    refine Z_sto gX7_commonest_30 rfl (ls' := [(1, ((0 : Nat) : Int)), (0, tmT T 0 T.1), (0, 0), (0, 0), (0, tmT T 0 T.1)]) (st' := []) rfl ?_
    refine Z_push gX7_commonest_31 (v := (0, 0)) rfl ?_
    refine Z_sto gX7_commonest_32 rfl (ls' := [(1, ((0 : Nat) : Int)), (0, tmT T 0 T.1), (0, 0), (0, 0), (0, tmT T 0 T.1)]) (st' := []) rfl ?_
    refine Z_iinc gX7_commonest_33 rfl ⟨by omega, by omega⟩ (ls' := [(1, ((0 : Nat) : Int)), (0, tmT T 0 T.1), (0, 0), (0, 0 + 1), (0, tmT T 0 T.1)]) rfl ?_
    refine Z_goto gX7_commonest_36 (tgt := 6) (by decide) ?_
    exact h0 _
theorem uX7_findings (hC : CR w T R D lim la) (hV : SV B T R D lim la) : Xv ro 5 mX7_findings [(1, ((0 : Nat) : Int))] w (rP w T R D lim la (ans (some (0, (fdN T T.1 : Int))) [] 0)) := by
  obtain ⟨hR, hRR, hD, h7, h8, hL⟩ := id hC
  obtain ⟨hTV, hRV, hDV, hlim, hla, hop, hopD⟩ := id hV
  have hT := TX_1
  have hV1 := hTV.1
  show Z ro 5 mX7_findings 0 [(1, ((0 : Nat) : Int))] [] w _
  refine Z_push gX7_findings_0 (v := (1, ((0 : Nat) : Int))) rfl ?_
  refine Z_getR (b := 81) gX7_findings_1 rfl rfl (by decide) rfl (by omega) ?_
  refine Z_push gX7_findings_4 (v := (1, ((0 : Nat) : Int))) rfl ?_
  refine Z_getR (b := 1) gX7_findings_5 rfl rfl (by decide) rfl (by omega) ?_
  refine Z_push gX7_findings_8 (v := (1, ((0 : Nat) : Int))) rfl ?_
  refine Z_getR (b := 6) gX7_findings_9 rfl rfl (by decide) rfl (by omega) ?_
  refine Z_callE (kd := 0) (na := 3) (M' := mX3_search) gX7_findings_12 rfl rfl rfl rfl rfl rfl (fun _ => rfl) rfl rfl (fun _ _ => zrecv_obj rfl _ _ _) (d' := 4) (by omega) (vX3_search hR hTV hRR) ?_
  rintro o w2 ⟨rfl, g2, g3⟩
  refine Z_push gX7_findings_15 (v := (1, ((0 : Nat) : Int))) rfl ?_
  refine Z_getR (b := 81) gX7_findings_16 rfl rfl (by decide) rfl (by omega) ?_
  refine Z_callP (kd := 0) (na := 1) (M' := mX3_count) gX7_findings_19 rfl rfl rfl rfl rfl rfl (fun _ => rfl) rfl rfl (fun _ _ => zrecv_obj rfl _ _ _) (d' := 0) (by omega) (vX3_count g2.1) ?_
  refine Z_retX (v := (0, (fdN T T.1 : Int))) gX7_findings_22 rfl rfl rfl rfl rfl ?_
  exact ⟨rfl, rfl, CR_X hC g3.X, g3.X.C⟩
theorem uX7_ruleOf (hC : CR w T R D lim la) (hV : SV B T R D lim la) (f : Int) : Xv ro 6 mX7_ruleOf [(1, ((0 : Nat) : Int)), (0, f)] w (rP w T R D lim la (ans (some (0, rlT T (feT T f.toNat))) ["java/util/NoSuchElementException"] (cdFnd T f))) := by
  obtain ⟨hR, hRR, hD, h7, h8, hL⟩ := id hC
  obtain ⟨hTV, hRV, hDV, hlim, hla, hop, hopD⟩ := id hV
  have hT := TX_1
  have hV1 := hTV.1
  show Z ro 6 mX7_ruleOf 0 [(1, ((0 : Nat) : Int)), (0, f)] [] w _
  by_cases h : 0 ≤ f ∧ f < (fdN T T.1 : Int)
  · obtain ⟨j, hj, hr, he⟩ := fdN_ex (T := T) (i := f.toNat) (n := T.1) (by omega)
    have hfe : feT T f.toNat = j := by rw [← he]; exact fe_at hr
    rw [hfe]
    obtain rfl : f = (fdN T j : Int) := by omega
    refine Z_push gX7_ruleOf_0 (v := (1, ((0 : Nat) : Int))) rfl ?_
    refine Z_push gX7_ruleOf_1 (v := (0, (fdN T j : Int))) rfl ?_
    refine Z_callE (kd := 0) (na := 2) (M' := mX7_needFinding) gX7_ruleOf_2 rfl rfl rfl rfl rfl rfl (fun _ => rfl) rfl rfl (fun _ _ => zrecv_obj rfl _ _ _) (d' := 5) (by omega) (nFind_ok hR hTV hRR h) ?_
    rintro o w2 ⟨rfl, g2, g3⟩
    refine Z_push gX7_ruleOf_5 (v := (1, ((0 : Nat) : Int))) rfl ?_
    refine Z_getR (b := 81) gX7_ruleOf_6 rfl rfl (by decide) rfl (by omega) ?_
    refine Z_push gX7_ruleOf_9 (v := (0, (fdN T j : Int))) rfl ?_
    refine Z_callP (kd := 0) (na := 2) (M' := mX3_rule) gX7_ruleOf_10 rfl rfl rfl rfl rfl rfl (fun _ => rfl) rfl rfl (fun _ _ => zrecv_obj rfl _ _ _) (d' := 1) (by omega) (vX3_rule g2 hTV hr) ?_
    refine Z_retX (v := (0, rlT T j)) gX7_ruleOf_13 rfl rfl rfl rfl rfl ?_
    exact ⟨rfl, (ans_0 (show cdFnd T (fdN T j : Int) = 0 by unfold cdFnd; (repeat' split) <;> omega)).symm, CR_X hC g3.X, g3.X.C⟩
  · refine Z_push gX7_ruleOf_0 (v := (1, ((0 : Nat) : Int))) rfl ?_
    refine Z_push gX7_ruleOf_1 (v := (0, f)) rfl ?_
    refine Z_callT (kd := 0) (na := 2) (M' := mX7_needFinding) gX7_ruleOf_2 rfl rfl rfl rfl rfl rfl (fun _ => rfl) rfl rfl (fun _ _ => zrecv_obj rfl _ _ _) (d' := 5) (by omega) (nFind_no hR hTV hRR h) (Or.inl rfl) rfl (fun w9 hE => ?_)
    obtain ⟨g2, g3⟩ := hE
    exact ⟨rfl, (ans_1 (show cdFnd T f = 1 by unfold cdFnd; (repeat' split) <;> omega)).symm, CR_X hC g3.X, g3.X.C⟩
theorem uX7_firstOf (hC : CR w T R D lim la) (hV : SV B T R D lim la) (f : Int) : Xv ro 6 mX7_firstOf [(1, ((0 : Nat) : Int)), (0, f)] w (rP w T R D lim la (ans (some (0, (feT T f.toNat : Int))) ["java/util/NoSuchElementException"] (cdFnd T f))) := by
  obtain ⟨hR, hRR, hD, h7, h8, hL⟩ := id hC
  obtain ⟨hTV, hRV, hDV, hlim, hla, hop, hopD⟩ := id hV
  have hT := TX_1
  have hV1 := hTV.1
  show Z ro 6 mX7_firstOf 0 [(1, ((0 : Nat) : Int)), (0, f)] [] w _
  by_cases h : 0 ≤ f ∧ f < (fdN T T.1 : Int)
  · obtain ⟨j, hj, hr, he⟩ := fdN_ex (T := T) (i := f.toNat) (n := T.1) (by omega)
    have hfe : feT T f.toNat = j := by rw [← he]; exact fe_at hr
    rw [hfe]
    obtain rfl : f = (fdN T j : Int) := by omega
    refine Z_push gX7_firstOf_0 (v := (1, ((0 : Nat) : Int))) rfl ?_
    refine Z_push gX7_firstOf_1 (v := (0, (fdN T j : Int))) rfl ?_
    refine Z_callE (kd := 0) (na := 2) (M' := mX7_needFinding) gX7_firstOf_2 rfl rfl rfl rfl rfl rfl (fun _ => rfl) rfl rfl (fun _ _ => zrecv_obj rfl _ _ _) (d' := 5) (by omega) (nFind_ok hR hTV hRR h) ?_
    rintro o w2 ⟨rfl, g2, g3⟩
    refine Z_push gX7_firstOf_5 (v := (1, ((0 : Nat) : Int))) rfl ?_
    refine Z_getR (b := 81) gX7_firstOf_6 rfl rfl (by decide) rfl (by omega) ?_
    refine Z_push gX7_firstOf_9 (v := (0, (fdN T j : Int))) rfl ?_
    refine Z_callP (kd := 0) (na := 2) (M' := mX3_first) gX7_firstOf_10 rfl rfl rfl rfl rfl rfl (fun _ => rfl) rfl rfl (fun _ _ => zrecv_obj rfl _ _ _) (d' := 1) (by omega) (vX3_first g2 hTV hr) ?_
    refine Z_retX (v := (0, (j : Int))) gX7_firstOf_13 rfl rfl rfl rfl rfl ?_
    exact ⟨rfl, (ans_0 (show cdFnd T (fdN T j : Int) = 0 by unfold cdFnd; (repeat' split) <;> omega)).symm, CR_X hC g3.X, g3.X.C⟩
  · refine Z_push gX7_firstOf_0 (v := (1, ((0 : Nat) : Int))) rfl ?_
    refine Z_push gX7_firstOf_1 (v := (0, f)) rfl ?_
    refine Z_callT (kd := 0) (na := 2) (M' := mX7_needFinding) gX7_firstOf_2 rfl rfl rfl rfl rfl rfl (fun _ => rfl) rfl rfl (fun _ _ => zrecv_obj rfl _ _ _) (d' := 5) (by omega) (nFind_no hR hTV hRR h) (Or.inl rfl) rfl (fun w9 hE => ?_)
    obtain ⟨g2, g3⟩ := hE
    exact ⟨rfl, (ans_1 (show cdFnd T f = 1 by unfold cdFnd; (repeat' split) <;> omega)).symm, CR_X hC g3.X, g3.X.C⟩
theorem uX7_lastOf (hC : CR w T R D lim la) (hV : SV B T R D lim la) (f : Int) : Xv ro 6 mX7_lastOf [(1, ((0 : Nat) : Int)), (0, f)] w (rP w T R D lim la (ans (some (0, (enT T (feT T f.toNat) : Int))) ["java/util/NoSuchElementException"] (cdFnd T f))) := by
  obtain ⟨hR, hRR, hD, h7, h8, hL⟩ := id hC
  obtain ⟨hTV, hRV, hDV, hlim, hla, hop, hopD⟩ := id hV
  have hT := TX_1
  have hV1 := hTV.1
  show Z ro 6 mX7_lastOf 0 [(1, ((0 : Nat) : Int)), (0, f)] [] w _
  by_cases h : 0 ≤ f ∧ f < (fdN T T.1 : Int)
  · obtain ⟨j, hj, hr, he⟩ := fdN_ex (T := T) (i := f.toNat) (n := T.1) (by omega)
    have hfe : feT T f.toNat = j := by rw [← he]; exact fe_at hr
    rw [hfe]
    obtain rfl : f = (fdN T j : Int) := by omega
    refine Z_push gX7_lastOf_0 (v := (1, ((0 : Nat) : Int))) rfl ?_
    refine Z_push gX7_lastOf_1 (v := (0, (fdN T j : Int))) rfl ?_
    refine Z_callE (kd := 0) (na := 2) (M' := mX7_needFinding) gX7_lastOf_2 rfl rfl rfl rfl rfl rfl (fun _ => rfl) rfl rfl (fun _ _ => zrecv_obj rfl _ _ _) (d' := 5) (by omega) (nFind_ok hR hTV hRR h) ?_
    rintro o w2 ⟨rfl, g2, g3⟩
    refine Z_push gX7_lastOf_5 (v := (1, ((0 : Nat) : Int))) rfl ?_
    refine Z_getR (b := 81) gX7_lastOf_6 rfl rfl (by decide) rfl (by omega) ?_
    refine Z_push gX7_lastOf_9 (v := (0, (fdN T j : Int))) rfl ?_
    refine Z_callP (kd := 0) (na := 2) (M' := mX3_last) gX7_lastOf_10 rfl rfl rfl rfl rfl rfl (fun _ => rfl) rfl rfl (fun _ _ => zrecv_obj rfl _ _ _) (d' := 1) (by omega) (vX3_last g2 hTV hr) ?_
    refine Z_retX (v := (0, (enT T j : Int))) gX7_lastOf_13 rfl rfl rfl rfl rfl ?_
    exact ⟨rfl, (ans_0 (show cdFnd T (fdN T j : Int) = 0 by unfold cdFnd; (repeat' split) <;> omega)).symm, CR_X hC g3.X, g3.X.C⟩
  · refine Z_push gX7_lastOf_0 (v := (1, ((0 : Nat) : Int))) rfl ?_
    refine Z_push gX7_lastOf_1 (v := (0, f)) rfl ?_
    refine Z_callT (kd := 0) (na := 2) (M' := mX7_needFinding) gX7_lastOf_2 rfl rfl rfl rfl rfl rfl (fun _ => rfl) rfl rfl (fun _ _ => zrecv_obj rfl _ _ _) (d' := 5) (by omega) (nFind_no hR hTV hRR h) (Or.inl rfl) rfl (fun w9 hE => ?_)
    obtain ⟨g2, g3⟩ := hE
    exact ⟨rfl, (ans_1 (show cdFnd T f = 1 by unfold cdFnd; (repeat' split) <;> omega)).symm, CR_X hC g3.X, g3.X.C⟩
theorem uX7_canFix (hC : CR w T R D lim la) (hV : SV B T R D lim la) (f : Int) : Xv ro 6 mX7_canFix [(1, ((0 : Nat) : Int)), (0, f)] w (rP w T R D lim la (ans (some (0, (if 0 < gnT T R (feT T f.toNat) then 1 else 0))) ["java/util/NoSuchElementException"] (cdFnd T f))) := by
  obtain ⟨hR, hRR, hD, h7, h8, hL⟩ := id hC
  obtain ⟨hTV, hRV, hDV, hlim, hla, hop, hopD⟩ := id hV
  have hT := TX_1
  have hV1 := hTV.1
  show Z ro 6 mX7_canFix 0 [(1, ((0 : Nat) : Int)), (0, f)] [] w _
  by_cases h : 0 ≤ f ∧ f < (fdN T T.1 : Int)
  · obtain ⟨j, hj, hr, he⟩ := fdN_ex (T := T) (i := f.toNat) (n := T.1) (by omega)
    have hfe : feT T f.toNat = j := by rw [← he]; exact fe_at hr
    rw [hfe]
    obtain rfl : f = (fdN T j : Int) := by omega
    refine Z_push gX7_canFix_0 (v := (1, ((0 : Nat) : Int))) rfl ?_
    refine Z_push gX7_canFix_1 (v := (0, (fdN T j : Int))) rfl ?_
    refine Z_callE (kd := 0) (na := 2) (M' := mX7_needFinding) gX7_canFix_2 rfl rfl rfl rfl rfl rfl (fun _ => rfl) rfl rfl (fun _ _ => zrecv_obj rfl _ _ _) (d' := 5) (by omega) (nFind_ok hR hTV hRR h) ?_
    rintro o w2 ⟨rfl, g2, g3⟩
    refine Z_push gX7_canFix_5 (v := (1, ((0 : Nat) : Int))) rfl ?_
    refine Z_getR (b := 81) gX7_canFix_6 rfl rfl (by decide) rfl (by omega) ?_
    refine Z_push gX7_canFix_9 (v := (0, (fdN T j : Int))) rfl ?_
    refine Z_callP (kd := 0) (na := 2) (M' := mX3_gain) gX7_canFix_10 rfl rfl rfl rfl rfl rfl (fun _ => rfl) rfl rfl (fun _ _ => zrecv_obj rfl _ _ _) (d' := 1) (by omega) (vX3_gain g2 hTV hr) ?_
    refine Z_if_le gX7_canFix_13 (tgt := 20) (by decide) (fun h13 => ?_) (fun h13 => ?_)
    · refine Z_push gX7_canFix_20 (v := (0, 0)) rfl ?_
      refine Z_retXB gX7_canFix_21 rfl (by first | exact Or.inl rfl | exact Or.inr rfl | assumption | omega) ?_
      rw [if_neg (by omega)]
      exact ⟨rfl, (ans_0 (show cdFnd T (fdN T j : Int) = 0 by unfold cdFnd; (repeat' split) <;> omega)).symm, CR_X hC g3.X, g3.X.C⟩
    · refine Z_push gX7_canFix_16 (v := (0, 1)) rfl ?_
      refine Z_goto gX7_canFix_17 (tgt := 21) (by decide) ?_
      refine Z_retXB gX7_canFix_21 rfl (by first | exact Or.inl rfl | exact Or.inr rfl | assumption | omega) ?_
      rw [if_pos (by omega)]
      exact ⟨rfl, (ans_0 (show cdFnd T (fdN T j : Int) = 0 by unfold cdFnd; (repeat' split) <;> omega)).symm, CR_X hC g3.X, g3.X.C⟩
  · refine Z_push gX7_canFix_0 (v := (1, ((0 : Nat) : Int))) rfl ?_
    refine Z_push gX7_canFix_1 (v := (0, f)) rfl ?_
    refine Z_callT (kd := 0) (na := 2) (M' := mX7_needFinding) gX7_canFix_2 rfl rfl rfl rfl rfl rfl (fun _ => rfl) rfl rfl (fun _ _ => zrecv_obj rfl _ _ _) (d' := 5) (by omega) (nFind_no hR hTV hRR h) (Or.inl rfl) rfl (fun w9 hE => ?_)
    obtain ⟨g2, g3⟩ := hE
    exact ⟨rfl, (ans_1 (show cdFnd T f = 1 by unfold cdFnd; (repeat' split) <;> omega)).symm, CR_X hC g3.X, g3.X.C⟩
theorem uX7_isInBest (hC : CR w T R D lim la) (hV : SV B T R D lim la) (f : Int) : Xv ro 6 mX7_isInBest [(1, ((0 : Nat) : Int)), (0, f)] w (rP w T R D lim la (ans (some (0, b2i (bsT T R (feT T f.toNat)))) ["java/util/NoSuchElementException"] (cdFnd T f))) := by
  obtain ⟨hR, hRR, hD, h7, h8, hL⟩ := id hC
  obtain ⟨hTV, hRV, hDV, hlim, hla, hop, hopD⟩ := id hV
  have hT := TX_1
  have hV1 := hTV.1
  show Z ro 6 mX7_isInBest 0 [(1, ((0 : Nat) : Int)), (0, f)] [] w _
  by_cases h : 0 ≤ f ∧ f < (fdN T T.1 : Int)
  · obtain ⟨j, hj, hr, he⟩ := fdN_ex (T := T) (i := f.toNat) (n := T.1) (by omega)
    have hfe : feT T f.toNat = j := by rw [← he]; exact fe_at hr
    rw [hfe]
    obtain rfl : f = (fdN T j : Int) := by omega
    refine Z_push gX7_isInBest_0 (v := (1, ((0 : Nat) : Int))) rfl ?_
    refine Z_push gX7_isInBest_1 (v := (0, (fdN T j : Int))) rfl ?_
    refine Z_callE (kd := 0) (na := 2) (M' := mX7_needFinding) gX7_isInBest_2 rfl rfl rfl rfl rfl rfl (fun _ => rfl) rfl rfl (fun _ _ => zrecv_obj rfl _ _ _) (d' := 5) (by omega) (nFind_ok hR hTV hRR h) ?_
    rintro o w2 ⟨rfl, g2, g3⟩
    have h01 := b2i_01 (bsT T R j)
    refine Z_push gX7_isInBest_5 (v := (1, ((0 : Nat) : Int))) rfl ?_
    refine Z_getR (b := 86) gX7_isInBest_6 rfl rfl (by decide) rfl (by omega) ?_
    refine Z_push gX7_isInBest_9 (v := (1, ((0 : Nat) : Int))) rfl ?_
    refine Z_getR (b := 81) gX7_isInBest_10 rfl rfl (by decide) rfl (by omega) ?_
    refine Z_callE (kd := 0) (na := 2) (M' := mX0_choose) gX7_isInBest_13 rfl rfl rfl rfl rfl rfl (fun _ => rfl) rfl rfl (fun _ _ => zrecv_obj rfl _ _ _) (d' := 4) (by omega) (vX0_choose g2 hTV hRV) ?_
    rintro o w3 ⟨rfl, k2, k3, k4⟩
    refine Z_push gX7_isInBest_16 (v := (1, ((0 : Nat) : Int))) rfl ?_
    refine Z_getR (b := 86) gX7_isInBest_17 rfl rfl (by decide) rfl (by omega) ?_
    refine Z_push gX7_isInBest_20 (v := (0, (fdN T j : Int))) rfl ?_
    refine Z_callP (kd := 0) (na := 2) (M' := mX0_holds) gX7_isInBest_21 rfl rfl rfl rfl rfl rfl (fun _ => rfl) rfl rfl (fun _ _ => zrecv_obj rfl _ _ _) (d' := 1) (by omega) (vX0_holds k3 hTV hr) ?_
    refine Z_retXB gX7_isInBest_24 rfl (by first | exact Or.inl rfl | exact Or.inr rfl | assumption | omega) ?_
    exact ⟨rfl, (ans_0 (show cdFnd T (fdN T j : Int) = 0 by unfold cdFnd; (repeat' split) <;> omega)).symm, CR_X hC (g3.X.trans k4.X), (g3.X.trans k4.X).C⟩
  · refine Z_push gX7_isInBest_0 (v := (1, ((0 : Nat) : Int))) rfl ?_
    refine Z_push gX7_isInBest_1 (v := (0, f)) rfl ?_
    refine Z_callT (kd := 0) (na := 2) (M' := mX7_needFinding) gX7_isInBest_2 rfl rfl rfl rfl rfl rfl (fun _ => rfl) rfl rfl (fun _ _ => zrecv_obj rfl _ _ _) (d' := 5) (by omega) (nFind_no hR hTV hRR h) (Or.inl rfl) rfl (fun w9 hE => ?_)
    obtain ⟨g2, g3⟩ := hE
    exact ⟨rfl, (ans_1 (show cdFnd T f = 1 by unfold cdFnd; (repeat' split) <;> omega)).symm, CR_X hC g3.X, g3.X.C⟩
theorem uX7_best (hC : CR w T R D lim la) (hV : SV B T R D lim la) : Xv ro 6 mX7_best [(1, ((0 : Nat) : Int))] w (rP w T R D lim la (ans (some (0, sE T R 0)) [] 0)) := by
  obtain ⟨hR, hRR, hD, h7, h8, hL⟩ := id hC
  obtain ⟨hTV, hRV, hDV, hlim, hla, hop, hopD⟩ := id hV
  have hT := TX_1
  have hV1 := hTV.1
  show Z ro 6 mX7_best 0 [(1, ((0 : Nat) : Int))] [] w _
  refine Z_push gX7_best_0 (v := (1, ((0 : Nat) : Int))) rfl ?_
  refine Z_callE (kd := 0) (na := 1) (M' := mX7_chooseBest) gX7_best_1 rfl rfl rfl rfl rfl rfl (fun _ => rfl) rfl rfl (fun _ _ => zrecv_obj rfl _ _ _) (d' := 5) (by omega) (vX7_chooseBest hR hTV hRR hRV) ?_
  rintro o w2 ⟨rfl, g2, g3, g4, g5⟩
  refine Z_push gX7_best_4 (v := (1, ((0 : Nat) : Int))) rfl ?_
  refine Z_getR (b := 86) gX7_best_5 rfl rfl (by decide) rfl (by omega) ?_
  refine Z_callP (kd := 0) (na := 1) (M' := mX0_sum) gX7_best_8 rfl rfl rfl rfl rfl rfl (fun _ => rfl) rfl rfl (fun _ _ => zrecv_obj rfl _ _ _) (d' := 1) (by omega) (vX0_sum g3) ?_
  refine Z_retX (v := (0, sE T R 0)) gX7_best_11 rfl rfl rfl rfl rfl ?_
  exact ⟨rfl, rfl, CR_X hC g5, g5.C⟩
theorem uX7_bestByTrying (hC : CR w T R D lim la) (hV : SV B T R D lim la) : Xv ro 34 mX7_bestByTrying [(1, ((0 : Nat) : Int))] w (rP w T R D lim la (ans (some (0, sE T R 0)) ["java/lang/UnsupportedOperationException"] (cdTry T R))) := by
  obtain ⟨hR, hRR, hD, h7, h8, hL⟩ := id hC
  obtain ⟨hTV, hRV, hDV, hlim, hla, hop, hopD⟩ := id hV
  have hT := TX_1
  have hV1 := hTV.1
  show Z ro 34 mX7_bestByTrying 0 [(1, ((0 : Nat) : Int))] [] w _
  have h30 := fdN_30 hTV T.1
  refine Z_push gX7_bestByTrying_0 (v := (1, ((0 : Nat) : Int))) rfl ?_
  refine Z_getR (b := 81) gX7_bestByTrying_1 rfl rfl (by decide) rfl (by omega) ?_
  refine Z_push gX7_bestByTrying_4 (v := (1, ((0 : Nat) : Int))) rfl ?_
  refine Z_getR (b := 1) gX7_bestByTrying_5 rfl rfl (by decide) rfl (by omega) ?_
  refine Z_push gX7_bestByTrying_8 (v := (1, ((0 : Nat) : Int))) rfl ?_
  refine Z_getR (b := 6) gX7_bestByTrying_9 rfl rfl (by decide) rfl (by omega) ?_
  refine Z_callE (kd := 0) (na := 3) (M' := mX3_search) gX7_bestByTrying_12 rfl rfl rfl rfl rfl rfl (fun _ => rfl) rfl rfl (fun _ _ => zrecv_obj rfl _ _ _) (d' := 4) (by omega) (vX3_search hR hTV hRR) ?_
  rintro o w2 ⟨rfl, g2, g3⟩
  refine Z_push gX7_bestByTrying_15 (v := (1, ((0 : Nat) : Int))) rfl ?_
  refine Z_getR (b := 81) gX7_bestByTrying_16 rfl rfl (by decide) rfl (by omega) ?_
  refine Z_callP (kd := 0) (na := 1) (M' := mX3_fixable) gX7_bestByTrying_19 rfl rfl rfl rfl rfl rfl (fun _ => rfl) rfl rfl (fun _ _ => zrecv_obj rfl _ _ _) (d' := 2) (by omega) (vX3_fixable g2 hTV) ?_
  refine Z_push gX7_bestByTrying_22 (v := (0, 12)) rfl ?_
  refine Z_icmp_le gX7_bestByTrying_24 (tgt := 37) (by decide) (fun h24 => ?_) (fun h24 => ?_)
  · refine Z_push gX7_bestByTrying_37 (v := (1, ((0 : Nat) : Int))) rfl ?_
    refine Z_getR (b := 81) gX7_bestByTrying_38 rfl rfl (by decide) rfl (by omega) ?_
    refine Z_push gX7_bestByTrying_41 (v := (0, 0)) rfl ?_
    refine Z_push gX7_bestByTrying_42 (v := (0, 0)) rfl ?_
    refine Z_callP (kd := 1) (na := 3) (M' := mX7_mostByTrying) gX7_bestByTrying_43 rfl rfl rfl rfl rfl rfl (fun _ => rfl) rfl rfl (fun _ _ => rfl) (d' := 33) (by omega) (Ev_deep (by omega) (vX7_mostByTrying g2 hTV hRV (fdN T T.1) 0 (by omega) 0 0 (by omega) rfl)) ?_
    refine Z_retX (v := (0, sE T R 0)) gX7_bestByTrying_46 rfl rfl rfl rfl rfl ?_
    exact ⟨rfl, (ans_0 (show cdTry T R = 0 by unfold cdTry; (repeat' split) <;> omega)).symm, CR_X hC g3.X, g3.X.C⟩
  · refine Z_thrX (v := ("java/lang/UnsupportedOperationException", 158, 160, 162, false)) gX7_bestByTrying_27 rfl rfl rfl rfl rfl (by decide +kernel) (by decide +kernel) (by decide +kernel) rfl rfl ?_
    exact ⟨rfl, (ans_1 (show cdTry T R = 1 by unfold cdTry; (repeat' split) <;> omega)).symm, CR_X hC g3.X, g3.X.C⟩
theorem uX7_weight (hC : CR w T R D lim la) (hV : SV B T R D lim la) (r : Int) : Xv ro 2 mX7_weight [(1, ((0 : Nat) : Int)), (0, r)] w (rP w T R D lim la (ans (some (0, R.1 r.toNat)) ["java/lang/IllegalArgumentException"] (cdRule r))) := by
  obtain ⟨hR, hRR, hD, h7, h8, hL⟩ := id hC
  obtain ⟨hTV, hRV, hDV, hlim, hla, hop, hopD⟩ := id hV
  have hT := TX_1
  have hV1 := hTV.1
  show Z ro 2 mX7_weight 0 [(1, ((0 : Nat) : Int)), (0, r)] [] w _
  by_cases h : 0 ≤ r ∧ r < 5
  · obtain ⟨q, rfl⟩ : ∃ q : Nat, r = (q : Int) := ⟨r.toNat, by omega⟩
    refine Z_push gX7_weight_0 (v := (0, (q : Int))) rfl ?_
    refine Z_callW (kd := 1) (na := 1) (M' := mX7_needRule) gX7_weight_1 rfl rfl rfl rfl rfl rfl (fun _ => rfl) rfl rfl (fun _ _ => rfl) (d' := 0) (by omega) (nRule_ok h) ?_
    refine Z_push gX7_weight_4 (v := (1, ((0 : Nat) : Int))) rfl ?_
    refine Z_getR (b := 6) gX7_weight_5 rfl rfl (by decide) rfl (by omega) ?_
    refine Z_push gX7_weight_8 (v := (0, (q : Int))) rfl ?_
    refine Z_callP (kd := 0) (na := 2) (M' := mX5_weightFor) gX7_weight_9 rfl rfl rfl rfl rfl rfl (fun _ => rfl) rfl rfl (fun _ _ => zrecv_obj rfl _ _ _) (d' := 1) (by omega) (vX5_weightFor hRR (show q < 5 by omega)) ?_
    refine Z_retX (v := (0, R.1 q)) gX7_weight_12 rfl rfl rfl rfl rfl ?_
    exact ⟨rfl, (ans_0 (show cdRule (q : Int) = 0 by unfold cdRule; (repeat' split) <;> omega)).symm, hC, frC.refl _⟩
  · refine Z_push gX7_weight_0 (v := (0, r)) rfl ?_
    refine Z_callT (kd := 1) (na := 1) (M' := mX7_needRule) gX7_weight_1 rfl rfl rfl rfl rfl rfl (fun _ => rfl) rfl rfl (fun _ _ => rfl) (d' := 0) (by omega) (nRule_no h) (Or.inr rfl) rfl (fun w9 hE => ?_)
    subst hE
    exact ⟨rfl, (ans_1 (show cdRule r = 1 by unfold cdRule; (repeat' split) <;> omega)).symm, hC, frC.refl _⟩
theorem uX7_undone (hC : CR w T R D lim la) (hV : SV B T R D lim la) (r : Int) : Xv ro 2 mX7_undone [(1, ((0 : Nat) : Int)), (0, r)] w (rP w T R D lim la (ans (some (2, R.2.1 r.toNat)) ["java/lang/IllegalArgumentException"] (cdRule r))) := by
  obtain ⟨hR, hRR, hD, h7, h8, hL⟩ := id hC
  obtain ⟨hTV, hRV, hDV, hlim, hla, hop, hopD⟩ := id hV
  have hT := TX_1
  have hV1 := hTV.1
  show Z ro 2 mX7_undone 0 [(1, ((0 : Nat) : Int)), (0, r)] [] w _
  by_cases h : 0 ≤ r ∧ r < 5
  · obtain ⟨q, rfl⟩ : ∃ q : Nat, r = (q : Int) := ⟨r.toNat, by omega⟩
    refine Z_push gX7_undone_0 (v := (0, (q : Int))) rfl ?_
    refine Z_callW (kd := 1) (na := 1) (M' := mX7_needRule) gX7_undone_1 rfl rfl rfl rfl rfl rfl (fun _ => rfl) rfl rfl (fun _ _ => rfl) (d' := 0) (by omega) (nRule_ok h) ?_
    refine Z_push gX7_undone_4 (v := (1, ((0 : Nat) : Int))) rfl ?_
    refine Z_getR (b := 6) gX7_undone_5 rfl rfl (by decide) rfl (by omega) ?_
    refine Z_push gX7_undone_8 (v := (0, (q : Int))) rfl ?_
    refine Z_callP (kd := 0) (na := 2) (M' := mX5_undoneFor) gX7_undone_9 rfl rfl rfl rfl rfl rfl (fun _ => rfl) rfl rfl (fun _ _ => zrecv_obj rfl _ _ _) (d' := 1) (by omega) (vX5_undoneFor hRR (show q < 5 by omega)) ?_
    refine Z_arith gX7_undone_12 rfl rfl (v := [(2, R.2.1 q)]) rfl ?_
    refine Z_retX (v := (2, R.2.1 q)) gX7_undone_13 rfl rfl rfl rfl rfl ?_
    exact ⟨rfl, (ans_0 (show cdRule (q : Int) = 0 by unfold cdRule; (repeat' split) <;> omega)).symm, hC, frC.refl _⟩
  · refine Z_push gX7_undone_0 (v := (0, r)) rfl ?_
    refine Z_callT (kd := 1) (na := 1) (M' := mX7_needRule) gX7_undone_1 rfl rfl rfl rfl rfl rfl (fun _ => rfl) rfl rfl (fun _ _ => rfl) (d' := 0) (by omega) (nRule_no h) (Or.inr rfl) rfl (fun w9 hE => ?_)
    subst hE
    exact ⟨rfl, (ans_1 (show cdRule r = 1 by unfold cdRule; (repeat' split) <;> omega)).symm, hC, frC.refl _⟩
theorem uX7_ruleAt (hC : CR w T R D lim la) (hV : SV B T R D lim la) (k : Int) : Xv ro 3 mX7_ruleAt [(1, ((0 : Nat) : Int)), (0, k)] w (rP w T R D lim la (ans (some (0, raS R k 5)) ["java/util/NoSuchElementException"] (cdRank R k))) := by
  obtain ⟨hR, hRR, hD, h7, h8, hL⟩ := id hC
  obtain ⟨hTV, hRV, hDV, hlim, hla, hop, hopD⟩ := id hV
  have hT := TX_1
  have hV1 := hTV.1
  show Z ro 3 mX7_ruleAt 0 [(1, ((0 : Nat) : Int)), (0, k), (9, 0)] [] w _
  have loop : ∀ m q : Nat, q + m = 5 → raS R k q = -1 → Z ro 3 mX7_ruleAt 2 [(1, ((0 : Nat) : Int)), (0, k), (0, (q : Int))] [] w (fun r w' k9 => k9 = kx r ∧ rP w T R D lim la (ans (some (0, raS R k 5)) ["java/util/NoSuchElementException"] (cdRank R k)) r w') := by
    intro m
    induction m with
    | zero =>
      intro q hq hn
      obtain rfl : q = 5 := by omega
      refine Z_push gX7_ruleAt_2 (v := (0, ((5 : Nat) : Int))) rfl ?_
      refine Z_push gX7_ruleAt_3 (v := (0, 5)) rfl ?_
      refine Z_icmp_ge gX7_ruleAt_4 (tgt := 27) (by decide) (fun _ => ?_) (fun h4 => absurd h4 (by omega))
      refine Z_thrX (v := ("java/util/NoSuchElementException", 109, 232, 113, false)) gX7_ruleAt_27 rfl rfl rfl rfl rfl (by decide +kernel) (by decide +kernel) (by decide +kernel) rfl rfl ?_
      exact ⟨rfl, (ans_1 (show cdRank R k = 1 by unfold cdRank; (repeat' split) <;> omega)).symm, hC, frC.refl _⟩
    | succ m ih =>
      intro q hq hn
      have e : raS R k (q + 1) = if rkS R q 5 = k then (q : Int) else -1 := if_pos hn
      refine Z_push gX7_ruleAt_2 (v := (0, (q : Int))) rfl ?_
      refine Z_push gX7_ruleAt_3 (v := (0, 5)) rfl ?_
      refine Z_icmp_ge gX7_ruleAt_4 (tgt := 27) (by decide) (fun h4 => absurd h4 (by omega)) (fun _ => ?_)
      refine Z_push gX7_ruleAt_7 (v := (1, ((0 : Nat) : Int))) rfl ?_
      refine Z_getR (b := 6) gX7_ruleAt_8 rfl rfl (by decide) rfl (by omega) ?_
      refine Z_push gX7_ruleAt_11 (v := (0, (q : Int))) rfl ?_
      refine Z_callP (kd := 0) (na := 2) (M' := mX5_rankFor) gX7_ruleAt_12 rfl rfl rfl rfl rfl rfl (fun _ => rfl) rfl rfl (fun _ _ => zrecv_obj rfl _ _ _) (d' := 2) (by omega) (vX5_rankFor hRR hRV (show q < 5 by omega)) ?_
      refine Z_push gX7_ruleAt_15 (v := (0, k)) rfl ?_
      refine Z_icmp_ne gX7_ruleAt_16 (tgt := 21) (by decide) (fun h16 => ?_) (fun h16 => ?_)
      · rw [if_neg h16] at e
        refine Z_iinc gX7_ruleAt_21 rfl ⟨by omega, by omega⟩ (ls' := [(1, ((0 : Nat) : Int)), (0, k), (0, (q : Int) + 1)]) rfl ?_
        refine Z_goto gX7_ruleAt_24 (tgt := 2) (by decide) ?_
        exact ih (q + 1) (by omega) e
      · rw [if_pos h16] at e
        have up : ∀ p, raS R k (q + 1 + p) = (q : Int) := by
          intro p
          induction p with
          | zero => exact e
          | succ p ihp => exact (if_neg (show ¬ raS R k (q + 1 + p) = -1 by rw [ihp]; omega)).trans ihp
        have e5 := up m
        rw [show q + 1 + m = 5 by omega] at e5
        refine Z_push gX7_ruleAt_19 (v := (0, (q : Int))) rfl ?_
        refine Z_retX (v := (0, (q : Int))) gX7_ruleAt_20 rfl rfl rfl rfl rfl ?_
        rw [e5]
        exact ⟨rfl, (ans_0 (show cdRank R k = 0 by unfold cdRank; rw [if_neg (by omega)])).symm, hC, frC.refl _⟩
  refine Z_push gX7_ruleAt_0 (v := (0, 0)) rfl ?_
  refine Z_sto gX7_ruleAt_1 rfl (ls' := [(1, ((0 : Nat) : Int)), (0, k), (0, 0)]) (st' := []) rfl ?_
  exact loop 5 0 rfl rfl
theorem uX7_isLaidOut (hC : CR w T R D lim la) (hV : SV B T R D lim la) : Xv ro 0 mX7_isLaidOut [(1, ((0 : Nat) : Int))] w (rP w T R D lim la (ans (some (0, la)) [] 0)) := by
  obtain ⟨hR, hRR, hD, h7, h8, hL⟩ := id hC
  obtain ⟨hTV, hRV, hDV, hlim, hla, hop, hopD⟩ := id hV
  have hT := TX_1
  have hV1 := hTV.1
  show Z ro 0 mX7_isLaidOut 0 [(1, ((0 : Nat) : Int))] [] w _
  refine Z_push gX7_isLaidOut_0 (v := (1, ((0 : Nat) : Int))) rfl ?_
  refine Z_getV (v := la) gX7_isLaidOut_1 rfl rfl (by decide) h8 ?_
  refine Z_retXB gX7_isLaidOut_4 rfl (by first | exact Or.inl rfl | exact Or.inr rfl | assumption | omega) ?_
  exact ⟨rfl, rfl, hC, frC.refl _⟩
theorem uX7_cost (hC : CR w T R D lim la) (hV : SV B T R D lim la) : Xv ro 5 mX7_cost [(1, ((0 : Nat) : Int))] w (rP w T R D lim la (ans (some (0, lE T lim 0)) [] 0)) := by
  obtain ⟨hR, hRR, hD, h7, h8, hL⟩ := id hC
  obtain ⟨hTV, hRV, hDV, hlim, hla, hop, hopD⟩ := id hV
  have hT := TX_1
  have hV1 := hTV.1
  show Z ro 5 mX7_cost 0 [(1, ((0 : Nat) : Int))] [] w _
  refine Z_push gX7_cost_0 (v := (1, ((0 : Nat) : Int))) rfl ?_
  refine Z_getR (b := 93) gX7_cost_1 rfl rfl (by decide) rfl (by omega) ?_
  refine Z_push gX7_cost_4 (v := (1, ((0 : Nat) : Int))) rfl ?_
  refine Z_getR (b := 1) gX7_cost_5 rfl rfl (by decide) rfl (by omega) ?_
  refine Z_push gX7_cost_8 (v := (1, ((0 : Nat) : Int))) rfl ?_
  refine Z_getV (v := lim) gX7_cost_9 rfl rfl (by decide) h7 ?_
  refine Z_callE (kd := 0) (na := 3) (M' := mX4_divide) gX7_cost_12 rfl rfl rfl rfl rfl rfl (fun _ => rfl) rfl rfl (fun _ _ => zrecv_obj rfl _ _ _) (d' := 4) (by omega) (vX4_divide LX_93 hR hTV hlim) ?_
  rintro o w2 ⟨rfl, g2, g3, g4⟩
  refine Z_push gX7_cost_15 (v := (1, ((0 : Nat) : Int))) rfl ?_
  refine Z_getR (b := 93) gX7_cost_16 rfl rfl (by decide) rfl (by omega) ?_
  refine Z_callP (kd := 0) (na := 1) (M' := mX4_least) gX7_cost_19 rfl rfl rfl rfl rfl rfl (fun _ => rfl) rfl rfl (fun _ _ => zrecv_obj rfl _ _ _) (d' := 1) (by omega) (vX4_least LX_93 g3) ?_
  refine Z_retX (v := (0, lE T lim 0)) gX7_cost_22 rfl rfl rfl rfl rfl ?_
  exact ⟨rfl, rfl, CR_X hC g4.X, g4.X.C⟩
theorem uX7_costByTrying (hC : CR w T R D lim la) (hV : SV B T R D lim la) : Xv ro 17 mX7_costByTrying [(1, ((0 : Nat) : Int))] w (rP w T R D lim la (ans (some (0, lE T lim 0)) ["java/lang/UnsupportedOperationException"] (cdCT T))) := by
  obtain ⟨hR, hRR, hD, h7, h8, hL⟩ := id hC
  obtain ⟨hTV, hRV, hDV, hlim, hla, hop, hopD⟩ := id hV
  have hT := TX_1
  have hV1 := hTV.1
  show Z ro 17 mX7_costByTrying 0 [(1, ((0 : Nat) : Int))] [] w _
  refine Z_push gX7_costByTrying_0 (v := (1, ((0 : Nat) : Int))) rfl ?_
  refine Z_getR (b := 1) gX7_costByTrying_1 rfl rfl (by decide) rfl (by omega) ?_
  refine Z_callP (kd := 0) (na := 1) (M' := mX6_size) gX7_costByTrying_4 rfl rfl rfl rfl rfl rfl (fun _ => rfl) rfl rfl (fun _ _ => zrecv_obj rfl _ _ _) (d' := 0) (by omega) (vX6_size (by assumption) (by assumption)) ?_
  refine Z_push gX7_costByTrying_7 (v := (0, 12)) rfl ?_
  refine Z_icmp_le gX7_costByTrying_9 (tgt := 23) (by decide) (fun h9 => ?_) (fun h9 => ?_)
  · refine Z_push gX7_costByTrying_23 (v := (1, ((0 : Nat) : Int))) rfl ?_
    refine Z_getR (b := 1) gX7_costByTrying_24 rfl rfl (by decide) rfl (by omega) ?_
    refine Z_push gX7_costByTrying_27 (v := (1, ((0 : Nat) : Int))) rfl ?_
    refine Z_getV (v := lim) gX7_costByTrying_28 rfl rfl (by decide) h7 ?_
    refine Z_push gX7_costByTrying_31 (v := (0, 0)) rfl ?_
    refine Z_callP (kd := 1) (na := 3) (M' := mX7_leastByTrying) gX7_costByTrying_32 rfl rfl rfl rfl rfl rfl (fun _ => rfl) rfl rfl (fun _ _ => rfl) (d' := 16) (by omega) (Ev_deep (by omega) (vX7_leastByTrying hR hTV hlim (by omega) T.1 0 (by omega) (by omega))) ?_
    refine Z_retX (v := (0, lE T lim 0)) gX7_costByTrying_35 rfl rfl rfl rfl rfl ?_
    exact ⟨rfl, (ans_0 (show cdCT T = 0 by unfold cdCT; (repeat' split) <;> omega)).symm, hC, frC.refl _⟩
  · refine Z_thrX (v := ("java/lang/UnsupportedOperationException", 158, 260, 162, true)) gX7_costByTrying_12 rfl rfl rfl rfl rfl (by decide +kernel) (by decide +kernel) (by decide +kernel) rfl rfl ?_
    exact ⟨rfl, (ans_1 (show cdCT T = 1 by unfold cdCT; (repeat' split) <;> omega)).symm, hC, frC.refl _⟩
theorem uX7_lineOf (hC : CR w T R D lim la) (hV : SV B T R D lim la) (i : Int) : Xv ro 2 mX7_lineOf [(1, ((0 : Nat) : Int)), (0, i)] w (rP w T R D lim la (ans (some (0, (lnE T lim i.toNat : Int))) ["java/lang/IndexOutOfBoundsException", "java/lang/IllegalStateException"] (cdLO T la i))) := by
  obtain ⟨hR, hRR, hD, h7, h8, hL⟩ := id hC
  obtain ⟨hTV, hRV, hDV, hlim, hla, hop, hopD⟩ := id hV
  have hT := TX_1
  have hV1 := hTV.1
  show Z ro 2 mX7_lineOf 0 [(1, ((0 : Nat) : Int)), (0, i)] [] w _
  by_cases h : 0 ≤ i ∧ i < T.1
  · by_cases hl : la = 0
    · refine Z_push gX7_lineOf_0 (v := (1, ((0 : Nat) : Int))) rfl ?_
      refine Z_push gX7_lineOf_1 (v := (0, i)) rfl ?_
      refine Z_callW (kd := 0) (na := 2) (M' := mX7_needEntry) gX7_lineOf_2 rfl rfl rfl rfl rfl rfl (fun _ => rfl) rfl rfl (fun _ _ => zrecv_obj rfl _ _ _) (d' := 1) (by omega) (nEntry_ok hR h) ?_
      refine Z_push gX7_lineOf_5 (v := (1, ((0 : Nat) : Int))) rfl ?_
      refine Z_callT (kd := 0) (na := 1) (M' := mX7_needLayout) gX7_lineOf_6 rfl rfl rfl rfl rfl rfl (fun _ => rfl) rfl rfl (fun _ _ => zrecv_obj rfl _ _ _) (d' := 0) (by omega) (nLay_no (by omega)) (Or.inl rfl) rfl (fun w9 hE => ?_)
      subst hE
      exact ⟨rfl, (ans_2 (show cdLO T la i = 2 by unfold cdLO; (repeat' split) <;> omega)).symm, hC, frC.refl _⟩
    · obtain ⟨q, rfl⟩ : ∃ q : Nat, i = (q : Int) := ⟨i.toNat, by omega⟩
      refine Z_push gX7_lineOf_0 (v := (1, ((0 : Nat) : Int))) rfl ?_
      refine Z_push gX7_lineOf_1 (v := (0, (q : Int))) rfl ?_
      refine Z_callW (kd := 0) (na := 2) (M' := mX7_needEntry) gX7_lineOf_2 rfl rfl rfl rfl rfl rfl (fun _ => rfl) rfl rfl (fun _ _ => zrecv_obj rfl _ _ _) (d' := 1) (by omega) (nEntry_ok hR h) ?_
      refine Z_push gX7_lineOf_5 (v := (1, ((0 : Nat) : Int))) rfl ?_
      refine Z_callW (kd := 0) (na := 1) (M' := mX7_needLayout) gX7_lineOf_6 rfl rfl rfl rfl rfl rfl (fun _ => rfl) rfl rfl (fun _ _ => zrecv_obj rfl _ _ _) (d' := 0) (by omega) (nLay_ok (by omega)) ?_
      refine Z_push gX7_lineOf_9 (v := (1, ((0 : Nat) : Int))) rfl ?_
      refine Z_getR (b := 89) gX7_lineOf_10 rfl rfl (by decide) rfl (by omega) ?_
      refine Z_push gX7_lineOf_13 (v := (0, (q : Int))) rfl ?_
      refine Z_callP (kd := 0) (na := 2) (M' := mX4_lineHolding) gX7_lineOf_14 rfl rfl rfl rfl rfl rfl (fun _ => rfl) rfl rfl (fun _ _ => zrecv_obj rfl _ _ _) (d' := 1) (by omega) (vX4_lineHolding LX_89 (hL (by omega)) hTV hlim (show q < T.1 by omega)) ?_
      refine Z_retX (v := (0, (lnE T lim q : Int))) gX7_lineOf_17 rfl rfl rfl rfl rfl ?_
      exact ⟨rfl, (ans_0 (show cdLO T la (q : Int) = 0 by unfold cdLO; (repeat' split) <;> omega)).symm, hC, frC.refl _⟩
  · refine Z_push gX7_lineOf_0 (v := (1, ((0 : Nat) : Int))) rfl ?_
    refine Z_push gX7_lineOf_1 (v := (0, i)) rfl ?_
    refine Z_callT (kd := 0) (na := 2) (M' := mX7_needEntry) gX7_lineOf_2 rfl rfl rfl rfl rfl rfl (fun _ => rfl) rfl rfl (fun _ _ => zrecv_obj rfl _ _ _) (d' := 1) (by omega) (nEntry_no hR h) (Or.inl rfl) rfl (fun w9 hE => ?_)
    subst hE
    exact ⟨rfl, (ans_1 (show cdLO T la i = 1 by unfold cdLO; (repeat' split) <;> omega)).symm, hC, frC.refl _⟩
theorem uX7_lineWidth (hC : CR w T R D lim la) (hV : SV B T R D lim la) (l : Int) : Xv ro 4 mX7_lineWidth [(1, ((0 : Nat) : Int)), (0, l)] w (rP w T R D lim la (ans (some (0, lwS T (stE T lim l.toNat) (stE T lim (l.toNat + 1) - stE T lim l.toNat))) ["java/lang/IllegalStateException", "java/util/NoSuchElementException"] (cdLW T lim la l))) := by
  obtain ⟨hR, hRR, hD, h7, h8, hL⟩ := id hC
  obtain ⟨hTV, hRV, hDV, hlim, hla, hop, hopD⟩ := id hV
  have hT := TX_1
  have hV1 := hTV.1
  show Z ro 4 mX7_lineWidth 0 [(1, ((0 : Nat) : Int)), (0, l)] [] w _
  by_cases hl : la = 0
  · refine Z_push gX7_lineWidth_0 (v := (1, ((0 : Nat) : Int))) rfl ?_
    refine Z_callT (kd := 0) (na := 1) (M' := mX7_needLayout) gX7_lineWidth_1 rfl rfl rfl rfl rfl rfl (fun _ => rfl) rfl rfl (fun _ _ => zrecv_obj rfl _ _ _) (d' := 0) (by omega) (nLay_no (by omega)) (Or.inl rfl) rfl (fun w9 hE => ?_)
    subst hE
    exact ⟨rfl, (ans_1 (show cdLW T lim la l = 1 by unfold cdLW; (repeat' split) <;> omega)).symm, hC, frC.refl _⟩
  · have hLR := hL (by omega)
    refine Z_push gX7_lineWidth_0 (v := (1, ((0 : Nat) : Int))) rfl ?_
    refine Z_callW (kd := 0) (na := 1) (M' := mX7_needLayout) gX7_lineWidth_1 rfl rfl rfl rfl rfl rfl (fun _ => rfl) rfl rfl (fun _ _ => zrecv_obj rfl _ _ _) (d' := 0) (by omega) (nLay_ok (by omega)) ?_
    refine Z_push gX7_lineWidth_4 (v := (0, l)) rfl ?_
    refine Z_if_lt gX7_lineWidth_5 (tgt := 19) (by decide) (fun h5 => ?_) (fun h5 => ?_)
    · refine Z_thrX (v := ("java/util/NoSuchElementException", 109, 272, 113, true)) gX7_lineWidth_19 rfl rfl rfl rfl rfl (by decide +kernel) (by decide +kernel) (by decide +kernel) rfl rfl ?_
      exact ⟨rfl, (ans_2 (show cdLW T lim la l = 2 by unfold cdLW; (repeat' split) <;> omega)).symm, hC, frC.refl _⟩
    · refine Z_push gX7_lineWidth_8 (v := (0, l)) rfl ?_
      refine Z_push gX7_lineWidth_9 (v := (1, ((0 : Nat) : Int))) rfl ?_
      refine Z_getR (b := 89) gX7_lineWidth_10 rfl rfl (by decide) rfl (by omega) ?_
      refine Z_callP (kd := 0) (na := 1) (M' := mX4_lines) gX7_lineWidth_13 rfl rfl rfl rfl rfl rfl (fun _ => rfl) rfl rfl (fun _ _ => zrecv_obj rfl _ _ _) (d' := 0) (by omega) (vX4_lines LX_89 hLR.1) ?_
      refine Z_icmp_lt gX7_lineWidth_16 (tgt := 30) (by decide) (fun h16 => ?_) (fun h16 => ?_)
      · obtain ⟨q, rfl⟩ : ∃ q : Nat, l = (q : Int) := ⟨l.toNat, by omega⟩
        refine Z_push gX7_lineWidth_30 (v := (1, ((0 : Nat) : Int))) rfl ?_
        refine Z_getR (b := 89) gX7_lineWidth_31 rfl rfl (by decide) rfl (by omega) ?_
        refine Z_push gX7_lineWidth_34 (v := (1, ((0 : Nat) : Int))) rfl ?_
        refine Z_getR (b := 1) gX7_lineWidth_35 rfl rfl (by decide) rfl (by omega) ?_
        refine Z_push gX7_lineWidth_38 (v := (0, (q : Int))) rfl ?_
        refine Z_callP (kd := 0) (na := 3) (M' := mX4_widthOfLine) gX7_lineWidth_39 rfl rfl rfl rfl rfl rfl (fun _ => rfl) rfl rfl (fun _ _ => zrecv_obj rfl _ _ _) (d' := 3) (by omega) (vX4_widthOfLine LX_89 hLR hR hTV hlim (i := q) (by omega)) ?_
        refine Z_retX (v := (0, lwS T (stE T lim q) (stE T lim (q + 1) - stE T lim q))) gX7_lineWidth_42 rfl rfl rfl rfl rfl ?_
        exact ⟨rfl, (ans_0 (show cdLW T lim la (q : Int) = 0 by unfold cdLW; (repeat' split) <;> omega)).symm, hC, frC.refl _⟩
      · refine Z_thrX (v := ("java/util/NoSuchElementException", 109, 272, 113, true)) gX7_lineWidth_19 rfl rfl rfl rfl rfl (by decide +kernel) (by decide +kernel) (by decide +kernel) rfl rfl ?_
        exact ⟨rfl, (ans_2 (show cdLW T lim la l = 2 by unfold cdLW; (repeat' split) <;> omega)).symm, hC, frC.refl _⟩
theorem vX7_shownIsLikeTried (hR : TR w 1 T) (hTV : TV T) (hlim : 13 ≤ lim ∧ lim ≤ 60) (h7 : w 0 7 = lim) (h1 : LR w 89 T lim) (h2 : LR w 93 T lim) (h3 : w 94 0 = lE T lim 0) : Pv ro 5 mX7_shownIsLikeTried [(1, ((0 : Nat) : Int))] w (0, 1) := by
  have hT := TX_1
  show Z ro 5 mX7_shownIsLikeTried 0 [(1, ((0 : Nat) : Int))] [] w _
  refine Z_push gX7_shownIsLikeTried_0 (v := (1, ((0 : Nat) : Int))) rfl ?_
  refine Z_getR (b := 89) gX7_shownIsLikeTried_1 rfl rfl (by decide) rfl (by omega) ?_
  refine Z_push gX7_shownIsLikeTried_4 (v := (1, ((0 : Nat) : Int))) rfl ?_
  refine Z_getR (b := 1) gX7_shownIsLikeTried_5 rfl rfl (by decide) rfl (by omega) ?_
  refine Z_push gX7_shownIsLikeTried_8 (v := (1, ((0 : Nat) : Int))) rfl ?_
  refine Z_getV (v := lim) gX7_shownIsLikeTried_9 rfl rfl (by decide) h7 ?_
  refine Z_callP (kd := 0) (na := 3) (M' := mX4_sumOfCosts) gX7_shownIsLikeTried_12 rfl rfl rfl rfl rfl rfl (fun _ => rfl) rfl rfl (fun _ _ => zrecv_obj rfl _ _ _) (d' := 4) (by omega) (vX4_sumOfCosts LX_89 h1 hR hTV hlim) ?_
  refine Z_push gX7_shownIsLikeTried_15 (v := (1, ((0 : Nat) : Int))) rfl ?_
  refine Z_getR (b := 93) gX7_shownIsLikeTried_16 rfl rfl (by decide) rfl (by omega) ?_
  refine Z_callP (kd := 0) (na := 1) (M' := mX4_least) gX7_shownIsLikeTried_19 rfl rfl rfl rfl rfl rfl (fun _ => rfl) rfl rfl (fun _ _ => zrecv_obj rfl _ _ _) (d' := 1) (by omega) (vX4_least LX_93 h3) ?_
  refine Z_icmp_ne gX7_shownIsLikeTried_22 (tgt := 50) (by decide) (fun h22 => absurd h22 (by omega)) (fun _ => ?_)
  refine Z_push gX7_shownIsLikeTried_25 (v := (1, ((0 : Nat) : Int))) rfl ?_
  refine Z_getR (b := 89) gX7_shownIsLikeTried_26 rfl rfl (by decide) rfl (by omega) ?_
  refine Z_push gX7_shownIsLikeTried_29 (v := (1, ((0 : Nat) : Int))) rfl ?_
  refine Z_getR (b := 93) gX7_shownIsLikeTried_30 rfl rfl (by decide) rfl (by omega) ?_
  refine Z_push gX7_shownIsLikeTried_33 (v := (1, ((0 : Nat) : Int))) rfl ?_
  refine Z_getR (b := 1) gX7_shownIsLikeTried_34 rfl rfl (by decide) rfl (by omega) ?_
  refine Z_callP (kd := 0) (na := 1) (M' := mX6_size) gX7_shownIsLikeTried_37 rfl rfl rfl rfl rfl rfl (fun _ => rfl) rfl rfl (fun _ _ => zrecv_obj rfl _ _ _) (d' := 0) (by omega) (vX6_size (by assumption) (by assumption)) ?_
  refine Z_callP (kd := 0) (na := 3) (M' := mX4_isSameAs) gX7_shownIsLikeTried_40 rfl rfl rfl rfl rfl rfl (fun _ => rfl) rfl rfl (fun _ _ => zrecv_obj rfl _ _ _) (d' := 2) (by omega) (vX4_isSameAs LX_89 LX_93 h1 h2 hTV hlim) ?_
  refine Z_if_eq gX7_shownIsLikeTried_43 (tgt := 50) (by decide) (fun h43 => absurd h43 (by omega)) (fun _ => ?_)
  refine Z_push gX7_shownIsLikeTried_46 (v := (0, 1)) rfl ?_
  refine Z_goto gX7_shownIsLikeTried_47 (tgt := 51) (by decide) ?_
  refine Z_retB gX7_shownIsLikeTried_51 rfl (by first | exact Or.inl rfl | exact Or.inr rfl | assumption | omega) _ ?_
  exact ⟨rfl, rfl⟩
theorem uX7_isTidy (hC : CR w T R D lim la) (hV : SV B T R D lim la) : Xv ro 34 mX7_isTidy [(1, ((0 : Nat) : Int))] w (rP w T R D lim la (ans (some (0, 1)) [] 0)) := by
  obtain ⟨hR, hRR, hD, h7, h8, hL⟩ := id hC
  obtain ⟨hTV, hRV, hDV, hlim, hla, hop, hopD⟩ := id hV
  have hT := TX_1
  have hV1 := hTV.1
  show Z ro 34 mX7_isTidy 0 [(1, ((0 : Nat) : Int))] [] w _
  have h30 := fdN_30 hTV T.1
  have rest : ∀ W : zW, frX w W → Z ro 34 mX7_isTidy 67 [(1, ((0 : Nat) : Int))] [] W (fun r w' k => k = kx r ∧ rP w T R D lim la (ans (some (0, 1)) [] 0) r w') := by
    intro W hf
    have hCW := CR_X hC hf
    refine Z_push gX7_isTidy_67 (v := (1, ((0 : Nat) : Int))) rfl ?_
    refine Z_callE (kd := 0) (na := 1) (M' := mX7_chooseBest) gX7_isTidy_68 rfl rfl rfl rfl rfl rfl (fun _ => rfl) rfl rfl (fun _ _ => zrecv_obj rfl _ _ _) (d' := 5) (by omega) (vX7_chooseBest hCW.1 hTV hCW.2.1 hRV) ?_
    rintro o w2 ⟨rfl, g2, g3, g4, g5⟩
    refine Z_push gX7_isTidy_71 (v := (1, ((0 : Nat) : Int))) rfl ?_
    refine Z_getR (b := 86) gX7_isTidy_72 rfl rfl (by decide) rfl (by omega) ?_
    refine Z_push gX7_isTidy_75 (v := (1, ((0 : Nat) : Int))) rfl ?_
    refine Z_getR (b := 81) gX7_isTidy_76 rfl rfl (by decide) rfl (by omega) ?_
    refine Z_callP (kd := 0) (na := 2) (M' := mX0_hasClash) gX7_isTidy_79 rfl rfl rfl rfl rfl rfl (fun _ => rfl) rfl rfl (fun _ _ => zrecv_obj rfl _ _ _) (d' := 2) (by omega) (vX0_hasClash g2 hTV g4) ?_
    refine Z_if_eq gX7_isTidy_82 (tgt := 87) (by decide) (fun _ => ?_) (fun h82 => absurd h82 (by omega))
    refine Z_push gX7_isTidy_87 (v := (1, ((0 : Nat) : Int))) rfl ?_
    refine Z_getR (b := 81) gX7_isTidy_88 rfl rfl (by decide) rfl (by omega) ?_
    refine Z_callP (kd := 0) (na := 1) (M' := mX3_fixable) gX7_isTidy_91 rfl rfl rfl rfl rfl rfl (fun _ => rfl) rfl rfl (fun _ _ => zrecv_obj rfl _ _ _) (d' := 2) (by omega) (vX3_fixable g2 hTV) ?_
    refine Z_push gX7_isTidy_94 (v := (0, 12)) rfl ?_
    refine Z_icmp_gt gX7_isTidy_96 (tgt := 118) (by decide) (fun h96 => ?_) (fun h96 => ?_)
    · refine Z_push gX7_isTidy_118 (v := (0, 1)) rfl ?_
      refine Z_goto gX7_isTidy_119 (tgt := 123) (by decide) ?_
      refine Z_retXB gX7_isTidy_123 rfl (by first | exact Or.inl rfl | exact Or.inr rfl | assumption | omega) ?_
      exact ⟨rfl, rfl, CR_X hCW g5, (hf.trans g5).C⟩
    · refine Z_push gX7_isTidy_99 (v := (1, ((0 : Nat) : Int))) rfl ?_
      refine Z_getR (b := 81) gX7_isTidy_100 rfl rfl (by decide) rfl (by omega) ?_
      refine Z_push gX7_isTidy_103 (v := (0, 0)) rfl ?_
      refine Z_push gX7_isTidy_104 (v := (0, 0)) rfl ?_
      refine Z_callP (kd := 1) (na := 3) (M' := mX7_mostByTrying) gX7_isTidy_105 rfl rfl rfl rfl rfl rfl (fun _ => rfl) rfl rfl (fun _ _ => rfl) (d' := 33) (by omega) (show Pv ro 33 mX7_mostByTrying _ _ (0, sE T R 0) from Ev_deep (by omega) (vX7_mostByTrying g2 hTV hRV (fdN T T.1) 0 (by omega) 0 0 (by omega) rfl)) ?_
      refine Z_push gX7_isTidy_108 (v := (1, ((0 : Nat) : Int))) rfl ?_
      refine Z_getR (b := 86) gX7_isTidy_109 rfl rfl (by decide) rfl (by omega) ?_
      refine Z_callP (kd := 0) (na := 1) (M' := mX0_sum) gX7_isTidy_112 rfl rfl rfl rfl rfl rfl (fun _ => rfl) rfl rfl (fun _ _ => zrecv_obj rfl _ _ _) (d' := 1) (by omega) (vX0_sum g3) ?_
      refine Z_icmp_ne gX7_isTidy_115 (tgt := 122) (by decide) (fun h115 => absurd h115 (by omega)) (fun _ => ?_)
      refine Z_push gX7_isTidy_118 (v := (0, 1)) rfl ?_
      refine Z_goto gX7_isTidy_119 (tgt := 123) (by decide) ?_
      refine Z_retXB gX7_isTidy_123 rfl (by first | exact Or.inl rfl | exact Or.inr rfl | assumption | omega) ?_
      exact ⟨rfl, rfl, CR_X hCW g5, (hf.trans g5).C⟩
  have mid : ∀ W : zW, frX w W → W 94 0 = lE T lim 0 → Z ro 34 mX7_isTidy 31 [(1, ((0 : Nat) : Int))] [] W (fun r w' k => k = kx r ∧ rP w T R D lim la (ans (some (0, 1)) [] 0) r w') := by
    intro W hf h94
    have hCW := CR_X hC hf
    have hRW := hCW.1
    refine Z_push gX7_isTidy_31 (v := (1, ((0 : Nat) : Int))) rfl ?_
    refine Z_getR (b := 1) gX7_isTidy_32 rfl rfl (by decide) rfl (by omega) ?_
    refine Z_callP (kd := 0) (na := 1) (M' := mX6_size) gX7_isTidy_35 rfl rfl rfl rfl rfl rfl (fun _ => rfl) rfl rfl (fun _ _ => zrecv_obj rfl _ _ _) (d' := 0) (by omega) (vX6_size hT hRW) ?_
    refine Z_push gX7_isTidy_38 (v := (0, 12)) rfl ?_
    refine Z_icmp_gt gX7_isTidy_40 (tgt := 67) (by decide) (fun h40 => ?_) (fun h40 => ?_)
    · exact rest W hf
    · refine Z_push gX7_isTidy_43 (v := (1, ((0 : Nat) : Int))) rfl ?_
      refine Z_getR (b := 1) gX7_isTidy_44 rfl rfl (by decide) rfl (by omega) ?_
      refine Z_push gX7_isTidy_47 (v := (1, ((0 : Nat) : Int))) rfl ?_
      refine Z_getV (v := lim) gX7_isTidy_48 rfl rfl (by decide) hCW.2.2.2.1 ?_
      refine Z_push gX7_isTidy_51 (v := (0, 0)) rfl ?_
      refine Z_callP (kd := 1) (na := 3) (M' := mX7_leastByTrying) gX7_isTidy_52 rfl rfl rfl rfl rfl rfl (fun _ => rfl) rfl rfl (fun _ _ => rfl) (d' := 16) (by omega) (Ev_deep (by omega) (vX7_leastByTrying hRW hTV hlim (by omega) T.1 0 (by omega) (by omega))) ?_
      refine Z_push gX7_isTidy_55 (v := (1, ((0 : Nat) : Int))) rfl ?_
      refine Z_getR (b := 93) gX7_isTidy_56 rfl rfl (by decide) rfl (by omega) ?_
      refine Z_callP (kd := 0) (na := 1) (M' := mX4_least) gX7_isTidy_59 rfl rfl rfl rfl rfl rfl (fun _ => rfl) rfl rfl (fun _ _ => zrecv_obj rfl _ _ _) (d' := 1) (by omega) (vX4_least LX_93 h94) ?_
      refine Z_icmp_eq gX7_isTidy_62 (tgt := 67) (by decide) (fun _ => ?_) (fun h62 => absurd h62 (by omega))
      exact rest W hf
  refine Z_push gX7_isTidy_0 (v := (1, ((0 : Nat) : Int))) rfl ?_
  refine Z_getR (b := 93) gX7_isTidy_1 rfl rfl (by decide) rfl (by omega) ?_
  refine Z_push gX7_isTidy_4 (v := (1, ((0 : Nat) : Int))) rfl ?_
  refine Z_getR (b := 1) gX7_isTidy_5 rfl rfl (by decide) rfl (by omega) ?_
  refine Z_push gX7_isTidy_8 (v := (1, ((0 : Nat) : Int))) rfl ?_
  refine Z_getV (v := lim) gX7_isTidy_9 rfl rfl (by decide) h7 ?_
  refine Z_callE (kd := 0) (na := 3) (M' := mX4_divide) gX7_isTidy_12 rfl rfl rfl rfl rfl rfl (fun _ => rfl) rfl rfl (fun _ _ => zrecv_obj rfl _ _ _) (d' := 4) (by omega) (vX4_divide LX_93 hR hTV hlim) ?_
  rintro o w2 ⟨rfl, g2, g3, g4⟩
  have hC2 := CR_X hC g4.X
  refine Z_push gX7_isTidy_15 (v := (1, ((0 : Nat) : Int))) rfl ?_
  refine Z_getV (v := la) gX7_isTidy_16 rfl rfl (by decide) hC2.2.2.2.2.1 ?_
  refine Z_if_eq gX7_isTidy_19 (tgt := 31) (by decide) (fun h19 => ?_) (fun h19 => ?_)
  · exact mid w2 g4.X g3
  · refine Z_push gX7_isTidy_22 (v := (1, ((0 : Nat) : Int))) rfl ?_
    refine Z_callP (kd := 0) (na := 1) (M' := mX7_shownIsLikeTried) gX7_isTidy_23 rfl rfl rfl rfl rfl rfl (fun _ => rfl) rfl rfl (fun _ _ => zrecv_obj rfl _ _ _) (d' := 5) (by omega) (vX7_shownIsLikeTried hC2.1 hTV hlim hC2.2.2.2.1 (hC2.2.2.2.2.2 (by omega)) g2 g3) ?_
    refine Z_if_ne gX7_isTidy_26 (tgt := 31) (by decide) (fun _ => ?_) (fun h26 => absurd h26 (by omega))
    exact mid w2 g4.X g3
end
