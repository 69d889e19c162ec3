/-! the class's text: what is read of it -/
abbrev TX (t : Nat) : Prop := zLY[t]? = some (0, 6, 5) ∧ zLY[t + 1]? = some (2, 0, 30) ∧ zLY[t + 2]? = some (1, 0, 30) ∧ zLY[t + 3]? = some (1, 0, 30) ∧ zLY[t + 4]? = some (3, 0, 30) ∧ zptr t 0 = t + 1 ∧ zptr t 1 = t + 2 ∧ zptr t 2 = t + 3 ∧ zptr t 3 = t + 4 ∧ zptr t 4 = 0
theorem TX_1 : TX 1 := by decide +kernel
theorem TX_d : ∀ i : Nat, i < 10 → TX (12 + 7 * i) := by
  have h : (List.range 10).all (fun i => decide (TX (12 + 7 * i))) = true := by decide +kernel
  exact fun i hi => of_decide_eq_true (List.all_eq_true.mp h i (List.mem_range.mpr hi))
/-- a text as such: how many entries, and of each its kind, its name (where it is a name), its length (where it is a name or a comment), its pin -/
abbrev zE : Type := Int × Int × Int × Int
abbrev zTx : Type := Nat × (Nat → zE)
def eR (w : zW) (a b c e j : Nat) (x : zE) : Prop := w a j = x.1 ∧ (x.1 = 110 → w b j = x.2.1) ∧ (x.1 = 110 ∨ x.1 = 99 → w c j = x.2.2.1) ∧ w e j = x.2.2.2
def eV (x : zE) : Prop := (x.1 = 110 ∨ x.1 = 99 ∨ x.1 = 123 ∨ x.1 = 125) ∧ (x.1 = 110 → 0 ≤ x.2.1 ∧ x.2.1 < 100) ∧ (x.1 = 110 ∨ x.1 = 99 → 1 ≤ x.2.2.1 ∧ x.2.2.1 ≤ 9) ∧ (x.2.2.2 = 0 ∨ x.2.2.2 = 1)
def TV (T : zTx) : Prop := T.1 ≤ 30 ∧ ∀ j, j < T.1 → eV (T.2 j)
/-- the class's text in cell t holds T -/
def TR (w : zW) (t : Nat) (T : zTx) : Prop := w t 4 = (T.1 : Int) ∧ ∀ j, j < T.1 → eR w (t + 1) (t + 2) (t + 3) (t + 4) j (T.2 j)
def kT (T : zTx) (i : Int) : Int := if 0 ≤ i ∧ i < T.1 then (T.2 i.toNat).1 else 32
def wT (T : zTx) (i : Int) : Int := if kT T i = 110 then (T.2 i.toNat).2.2.1 else if kT T i = 99 then (T.2 i.toNat).2.2.1 + 4 else 1
def isT (T : zTx) (i x : Int) : Int := if kT T i = 110 ∧ (T.2 i.toNat).2.1 = x then 1 else 0
def opT (T : zTx) : Nat → Int
  | 0 => 0
  | j + 1 => opT T j + (if kT T j = 123 then 1 else if kT T j = 125 then -1 else 0)
theorem opT_bd (T : zTx) : ∀ j : Nat, -(j : Int) ≤ opT T j ∧ opT T j ≤ j
  | 0 => ⟨by simp [opT], by simp [opT]⟩
  | j + 1 => by
    have := opT_bd T j
    unfold opT
    split
    · omega
    · split <;> omega
def tmT (T : zTx) (x : Int) : Nat → Int
  | 0 => 0
  | j + 1 => tmT T x j + isT T j x
theorem isT_01 (T : zTx) (i x : Int) : isT T i x = 0 ∨ isT T i x = 1 := by unfold isT; split <;> simp
theorem tmT_bd (T : zTx) (x : Int) : ∀ j : Nat, 0 ≤ tmT T x j ∧ tmT T x j ≤ j
  | 0 => ⟨by simp [tmT], by simp [tmT]⟩
  | j + 1 => by
    have := tmT_bd T x j
    have := isT_01 T j x
    unfold tmT
    omega
theorem kT_in {T : zTx} {i : Int} (h : kT T i ≠ 32) : 0 ≤ i ∧ i < T.1 := Classical.byContradiction fun hc => h (by unfold kT; rw [if_neg hc])
theorem kT_v {T : zTx} (hV : TV T) {i : Int} (h : 0 ≤ i ∧ i < T.1) : kT T i = 110 ∨ kT T i = 99 ∨ kT T i = 123 ∨ kT T i = 125 := by
  unfold kT
  rw [if_pos h]
  exact (hV.2 i.toNat (by omega)).1
theorem kT_nat {T : zTx} {j : Nat} (h : j < T.1) : kT T j = (T.2 j).1 := by
  unfold kT
  rw [if_pos (by omega)]
  rfl
section
variable {ro : zRo} {w : zW} {t : Nat} {T : zTx}
theorem wT_bd (hV : TV T) (i : Int) : 1 ≤ wT T i ∧ wT T i ≤ 13 := by
  unfold wT
  by_cases h : kT T i = 32
  · rw [h]; simp
  · have hi := kT_in h
    have hv := (hV.2 i.toNat (by omega)).2.2.1
    have hk : kT T i = (T.2 i.toNat).1 := by unfold kT; rw [if_pos hi]
    split
    · have := hv (by omega); omega
    · split
      · have := hv (by omega); omega
      · omega
theorem vX6_size (hT : TX t) (hR : TR w t T) : Pv ro 0 mX6_size [(1, (t : Int))] w (0, (T.1 : Int)) := by
  obtain ⟨hL0, hL1, hL2, hL3, hL4, hp0, hp1, hp2, hp3, hp4⟩ := hT
  show Z ro 0 mX6_size 0 [(1, (t : Int))] [] w _
  refine Z_push gX6_size_0 (v := (1, ((t : Nat) : Int))) rfl ?_
  refine Z_get gX6_size_1 rfl (by assumption) (by decide) ?_
  refine Z_ret (v := (0, w t 4)) gX6_size_4 rfl rfl rfl rfl rfl _ ?_
  exact ⟨by rw [hR.1], rfl⟩
theorem vX6_kindAt (hT : TX t) (hR : TR w t T) (hV : TV T) (i : Int) : Pv ro 0 mX6_kindAt [(1, (t : Int)), (0, i)] w (0, kT T i) := by
  obtain ⟨hL0, hL1, hL2, hL3, hL4, hp0, hp1, hp2, hp3, hp4⟩ := hT
  obtain ⟨hR1, hR2⟩ := hR
  obtain ⟨hV1, hV2⟩ := hV
  show Z ro 0 mX6_kindAt 0 [(1, (t : Int)), (0, i)] [] w _
  refine Z_push gX6_kindAt_0 (v := (0, i)) rfl ?_
  refine Z_if_lt gX6_kindAt_1 (tgt := 30) (by decide) (fun h1 => ?_) (fun h1 => ?_)
  · refine Z_push gX6_kindAt_30 (v := (0, 32)) rfl ?_
    refine Z_retC gX6_kindAt_32 rfl (by omega) _ ?_
    exact ⟨by unfold kT; rw [if_neg (by omega)], rfl⟩
  · refine Z_push gX6_kindAt_4 (v := (0, i)) rfl ?_
    refine Z_push gX6_kindAt_5 (v := (1, ((t : Nat) : Int))) rfl ?_
    refine Z_get gX6_kindAt_6 rfl (by assumption) (by decide) ?_
    refine Z_icmp_ge gX6_kindAt_9 (tgt := 30) (by decide) (fun h9 => ?_) (fun h9 => ?_)
    · refine Z_push gX6_kindAt_30 (v := (0, 32)) rfl ?_
      refine Z_retC gX6_kindAt_32 rfl (by omega) _ ?_
      exact ⟨by unfold kT; rw [if_neg (by omega)], rfl⟩
    · refine Z_push gX6_kindAt_12 (v := (0, i)) rfl ?_
      refine Z_push gX6_kindAt_13 (v := (1, ((t : Nat) : Int))) rfl ?_
      refine Z_getR (b := t + 1) gX6_kindAt_14 rfl (by assumption) (by decide) (by assumption) (by omega) ?_
      refine Z_len (len := 30) gX6_kindAt_17 (by assumption) (by decide) ?_
      refine Z_icmp_ge gX6_kindAt_18 (tgt := 30) (by decide) (fun h18 => ?_) (fun h18 => ?_)
      · exfalso; omega
      · have hk := (hV2 i.toNat (by omega)).1
        have hk2 := (hR2 i.toNat (by omega)).1
        refine Z_push gX6_kindAt_21 (v := (1, ((t : Nat) : Int))) rfl ?_
        refine Z_getR (b := t + 1) gX6_kindAt_22 rfl (by assumption) (by decide) (by assumption) (by omega) ?_
        refine Z_push gX6_kindAt_25 (v := (0, i)) rfl ?_
        refine Z_caload gX6_kindAt_26 (by assumption) (by omega) (by omega) ?_
        refine Z_goto gX6_kindAt_27 (tgt := 32) (by decide) ?_
        refine Z_retC gX6_kindAt_32 rfl (by omega) _ ?_
        exact ⟨by unfold kT; rw [if_pos (by omega), hk2], rfl⟩
theorem vX6_nameAt (hT : TX t) (i : Int) : Pv ro 1 mX6_nameAt [(1, (t : Int)), (0, i)] w (0, rd w (t + 2) 30 i) := by
  obtain ⟨hL0, hL1, hL2, hL3, hL4, hp0, hp1, hp2, hp3, hp4⟩ := hT
  show Z ro 1 mX6_nameAt 0 [(1, (t : Int)), (0, i)] [] w _
  refine Z_push gX6_nameAt_0 (v := (1, ((t : Nat) : Int))) rfl ?_
  refine Z_getR (b := t + 2) gX6_nameAt_1 rfl (by assumption) (by decide) (by assumption) (by omega) ?_
  refine Z_push gX6_nameAt_4 (v := (0, i)) rfl ?_
  refine Z_callP (kd := 2) (na := 2) (M' := mX7_read) gX6_nameAt_5 rfl rfl rfl rfl rfl rfl (fun _ => rfl) rfl rfl (fun _ _ => rfl) (d' := 0) (by decide) (vX7_read (len := 30) (by first | assumption | rfl) _) ?_
  refine Z_ret (v := (0, rd w (t + 2) 30 i)) gX6_nameAt_8 rfl rfl rfl rfl rfl _ ?_
  exact ⟨rfl, rfl⟩
theorem vX6_lengthAt (hT : TX t) (i : Int) : Pv ro 1 mX6_lengthAt [(1, (t : Int)), (0, i)] w (0, rd w (t + 3) 30 i) := by
  obtain ⟨hL0, hL1, hL2, hL3, hL4, hp0, hp1, hp2, hp3, hp4⟩ := hT
  show Z ro 1 mX6_lengthAt 0 [(1, (t : Int)), (0, i)] [] w _
  refine Z_push gX6_lengthAt_0 (v := (1, ((t : Nat) : Int))) rfl ?_
  refine Z_getR (b := t + 3) gX6_lengthAt_1 rfl (by assumption) (by decide) (by assumption) (by omega) ?_
  refine Z_push gX6_lengthAt_4 (v := (0, i)) rfl ?_
  refine Z_callP (kd := 2) (na := 2) (M' := mX7_read) gX6_lengthAt_5 rfl rfl rfl rfl rfl rfl (fun _ => rfl) rfl rfl (fun _ _ => rfl) (d' := 0) (by decide) (vX7_read (len := 30) (by first | assumption | rfl) _) ?_
  refine Z_ret (v := (0, rd w (t + 3) 30 i)) gX6_lengthAt_8 rfl rfl rfl rfl rfl _ ?_
  exact ⟨rfl, rfl⟩
theorem rdf_01 (w : zW) (a len : Nat) (i : Int) : rdf w a len i = 0 ∨ rdf w a len i = 1 := by unfold rdf; split <;> simp
theorem vX6_pinnedAt (hT : TX t) (i : Int) : Pv ro 1 mX6_pinnedAt [(1, (t : Int)), (0, i)] w (0, rdf w (t + 4) 30 i) := by
  obtain ⟨hL0, hL1, hL2, hL3, hL4, hp0, hp1, hp2, hp3, hp4⟩ := hT
  have h01 := rdf_01 w (t + 4) 30 i
  show Z ro 1 mX6_pinnedAt 0 [(1, (t : Int)), (0, i)] [] w _
  refine Z_push gX6_pinnedAt_0 (v := (1, ((t : Nat) : Int))) rfl ?_
  refine Z_getR (b := t + 4) gX6_pinnedAt_1 rfl (by assumption) (by decide) (by assumption) (by omega) ?_
  refine Z_push gX6_pinnedAt_4 (v := (0, i)) rfl ?_
  refine Z_callP (kd := 2) (na := 2) (M' := mX7_readFlag) gX6_pinnedAt_5 rfl rfl rfl rfl rfl rfl (fun _ => rfl) rfl rfl (fun _ _ => rfl) (d' := 0) (by decide) (vX7_readFlag (len := 30) (by first | assumption | rfl) _) ?_
  refine Z_retB gX6_pinnedAt_8 rfl (by first | exact Or.inl rfl | exact Or.inr rfl | assumption | omega) _ ?_
  exact ⟨rfl, rfl⟩
theorem TR_len (hR : TR w t T) (hV : TV T) {i : Int} (h : kT T i = 110 ∨ kT T i = 99) : rd w (t + 3) 30 i = (T.2 i.toNat).2.2.1 := by
  have hi := kT_in (T := T) (i := i) (by omega)
  have hk : kT T i = (T.2 i.toNat).1 := by unfold kT; rw [if_pos hi]
  have := hV.1
  unfold rd
  rw [if_pos (by omega)]
  exact (hR.2 i.toNat (by omega)).2.2.1 (by omega)
theorem TR_name (hR : TR w t T) (hV : TV T) {i : Int} (h : kT T i = 110) : rd w (t + 2) 30 i = (T.2 i.toNat).2.1 := by
  have hi := kT_in (T := T) (i := i) (by omega)
  have hk : kT T i = (T.2 i.toNat).1 := by unfold kT; rw [if_pos hi]
  have := hV.1
  unfold rd
  rw [if_pos (by omega)]
  exact (hR.2 i.toNat (by omega)).2.1 (by omega)
theorem TR_pin (hR : TR w t T) (hV : TV T) {i : Int} (h : 0 ≤ i ∧ i < T.1) : rdf w (t + 4) 30 i = (T.2 i.toNat).2.2.2 := by
  have := hV.1
  have h1 := (hR.2 i.toNat (by omega)).2.2.2
  have h2 := (hV.2 i.toNat (by omega)).2.2.2
  unfold rdf
  rw [h1]
  split <;> omega
theorem len_bd (hV : TV T) {i : Int} (h : kT T i = 110 ∨ kT T i = 99) : 1 ≤ (T.2 i.toNat).2.2.1 ∧ (T.2 i.toNat).2.2.1 ≤ 9 := by
  have hi := kT_in (T := T) (i := i) (by omega)
  have hk : kT T i = (T.2 i.toNat).1 := by unfold kT; rw [if_pos hi]
  exact (hV.2 i.toNat (by omega)).2.2.1 (by omega)
theorem vX6_widthAt (hT : TX t) (hR : TR w t T) (hV : TV T) (i : Int) : Pv ro 2 mX6_widthAt [(1, (t : Int)), (0, i)] w (0, wT T i) := by
  have hL0 := hT.1
  show Z ro 2 mX6_widthAt 0 [(1, (t : Int)), (0, i)] [] w _
  refine Z_push gX6_widthAt_0 (v := (1, ((t : Nat) : Int))) rfl ?_
  refine Z_push gX6_widthAt_1 (v := (0, i)) rfl ?_
  refine Z_callP (kd := 0) (na := 2) (M' := mX6_kindAt) gX6_widthAt_2 rfl rfl rfl rfl rfl rfl (fun _ => rfl) rfl rfl (fun _ _ => zrecv_obj (by assumption) _ _ _) (d' := 0) (by decide) (vX6_kindAt (T := T) (by assumption) (by assumption) (by assumption) _) ?_
  refine Z_push gX6_widthAt_5 (v := (0, 110)) rfl ?_
  refine Z_icmp_ne gX6_widthAt_7 (tgt := 16) (by decide) (fun h7 => ?_) (fun h7 => ?_)
  · refine Z_push gX6_widthAt_16 (v := (1, ((t : Nat) : Int))) rfl ?_
    refine Z_push gX6_widthAt_17 (v := (0, i)) rfl ?_
    refine Z_callP (kd := 0) (na := 2) (M' := mX6_kindAt) gX6_widthAt_18 rfl rfl rfl rfl rfl rfl (fun _ => rfl) rfl rfl (fun _ _ => zrecv_obj (by assumption) _ _ _) (d' := 0) (by decide) (vX6_kindAt (T := T) (by assumption) (by assumption) (by assumption) _) ?_
    refine Z_push gX6_widthAt_21 (v := (0, 99)) rfl ?_
    refine Z_icmp_ne gX6_widthAt_23 (tgt := 36) (by decide) (fun h23 => ?_) (fun h23 => ?_)
    · refine Z_push gX6_widthAt_36 (v := (0, 1)) rfl ?_
      refine Z_ret (v := (0, 1)) gX6_widthAt_37 rfl rfl rfl rfl rfl _ ?_
      exact ⟨by unfold wT; rw [if_neg h7, if_neg h23], rfl⟩
    · have h1 := TR_len hR hV (Or.inr h23)
      have h2 := len_bd hV (Or.inr h23)
      refine Z_push gX6_widthAt_26 (v := (1, ((t : Nat) : Int))) rfl ?_
      refine Z_push gX6_widthAt_27 (v := (0, i)) rfl ?_
      refine Z_callP (kd := 0) (na := 2) (M' := mX6_lengthAt) gX6_widthAt_28 rfl rfl rfl rfl rfl rfl (fun _ => rfl) rfl rfl (fun _ _ => zrecv_obj (by assumption) _ _ _) (d' := 1) (by decide) (vX6_lengthAt (by assumption) _) ?_
      refine Z_push gX6_widthAt_31 (v := (0, 4)) rfl ?_
      refine Z_iadd gX6_widthAt_32 ⟨by omega, by omega⟩ ?_
      refine Z_goto gX6_widthAt_33 (tgt := 37) (by decide) ?_
      refine Z_ret (v := (0, (rd w (t + 3) 30 i) + 4)) gX6_widthAt_37 rfl rfl rfl rfl rfl _ ?_
      exact ⟨by unfold wT; rw [if_neg h7, if_pos h23, h1], rfl⟩
  · refine Z_push gX6_widthAt_10 (v := (1, ((t : Nat) : Int))) rfl ?_
    refine Z_push gX6_widthAt_11 (v := (0, i)) rfl ?_
    refine Z_callP (kd := 0) (na := 2) (M' := mX6_lengthAt) gX6_widthAt_12 rfl rfl rfl rfl rfl rfl (fun _ => rfl) rfl rfl (fun _ _ => zrecv_obj (by assumption) _ _ _) (d' := 1) (by decide) (vX6_lengthAt (by assumption) _) ?_
    refine Z_ret (v := (0, rd w (t + 3) 30 i)) gX6_widthAt_15 rfl rfl rfl rfl rfl _ ?_
    exact ⟨by unfold wT; rw [if_pos h7, TR_len hR hV (Or.inl h7)], rfl⟩
theorem vX6_isNamed (hT : TX t) (hR : TR w t T) (hV : TV T) (i x : Int) : Pv ro 2 mX6_isNamed [(1, (t : Int)), (0, i), (0, x)] w (0, isT T i x) := by
  have hL0 := hT.1
  show Z ro 2 mX6_isNamed 0 [(1, (t : Int)), (0, i), (0, x)] [] w _
  refine Z_push gX6_isNamed_0 (v := (1, ((t : Nat) : Int))) rfl ?_
  refine Z_push gX6_isNamed_1 (v := (0, i)) rfl ?_
  refine Z_callP (kd := 0) (na := 2) (M' := mX6_kindAt) gX6_isNamed_2 rfl rfl rfl rfl rfl rfl (fun _ => rfl) rfl rfl (fun _ _ => zrecv_obj (by assumption) _ _ _) (d' := 0) (by decide) (vX6_kindAt (T := T) (by assumption) (by assumption) (by assumption) _) ?_
  refine Z_push gX6_isNamed_5 (v := (0, 110)) rfl ?_
  refine Z_icmp_ne gX6_isNamed_7 (tgt := 23) (by decide) (fun h7 => ?_) (fun h7 => ?_)
  · refine Z_push gX6_isNamed_23 (v := (0, 0)) rfl ?_
    refine Z_retB gX6_isNamed_24 rfl (by first | exact Or.inl rfl | exact Or.inr rfl | assumption | omega) _ ?_
    exact ⟨by unfold isT; rw [if_neg (fun h => h7 h.1)], rfl⟩
  · have hn := TR_name hR hV h7
    refine Z_push gX6_isNamed_10 (v := (1, ((t : Nat) : Int))) rfl ?_
    refine Z_push gX6_isNamed_11 (v := (0, i)) rfl ?_
    refine Z_callP (kd := 0) (na := 2) (M' := mX6_nameAt) gX6_isNamed_12 rfl rfl rfl rfl rfl rfl (fun _ => rfl) rfl rfl (fun _ _ => zrecv_obj (by assumption) _ _ _) (d' := 1) (by decide) (vX6_nameAt (by assumption) _) ?_
    refine Z_push gX6_isNamed_15 (v := (0, x)) rfl ?_
    refine Z_icmp_ne gX6_isNamed_16 (tgt := 23) (by decide) (fun h16 => ?_) (fun h16 => ?_)
    · refine Z_push gX6_isNamed_23 (v := (0, 0)) rfl ?_
      refine Z_retB gX6_isNamed_24 rfl (by first | exact Or.inl rfl | exact Or.inr rfl | assumption | omega) _ ?_
      exact ⟨by unfold isT; rw [if_neg (fun h => h16 (hn.trans h.2))], rfl⟩
    · refine Z_push gX6_isNamed_19 (v := (0, 1)) rfl ?_
      refine Z_goto gX6_isNamed_20 (tgt := 24) (by decide) ?_
      refine Z_retB gX6_isNamed_24 rfl (by first | exact Or.inl rfl | exact Or.inr rfl | assumption | omega) _ ?_
      exact ⟨by unfold isT; rw [if_pos ⟨h7, hn.symm.trans h16⟩], rfl⟩
theorem vX6_openAhead (hT : TX t) (hR : TR w t T) (hV : TV T) {i : Int} (hi : 0 ≤ i ∧ i ≤ T.1) : Pv ro 1 mX6_openAhead [(1, (t : Int)), (0, i)] w (0, opT T i.toNat) := by
  have hL0 := hT.1
  have hR1 := hR.1
  have hV1 := hV.1
  have loop : ∀ k j : Nat, j + k = i.toNat → Z ro 1 mX6_openAhead 4 [(1, (t : Int)), (0, i), (0, opT T j), (0, (j : Int))] [] w (fun r w' k => k = 0 ∧ ∃ o, r = .inl o ∧ (o = some (0, opT T i.toNat) ∧ w' = w)) := by
    intro k
    induction k with
    | zero =>
      intro j hj
      refine Z_push gX6_openAhead_4 (v := (0, (j : Int))) rfl ?_
      refine Z_push gX6_openAhead_5 (v := (0, i)) rfl ?_
      refine Z_icmp_ge gX6_openAhead_6 (tgt := 52) (by decide) (fun _ => ?_) (fun h6 => absurd h6 (by omega))
      refine Z_push gX6_openAhead_52 (v := (0, opT T j)) rfl ?_
      refine Z_ret (v := (0, opT T j)) gX6_openAhead_53 rfl rfl rfl rfl rfl _ ?_
      exact ⟨by rw [show i.toNat = j by omega], rfl⟩
    | succ k ih =>
      intro j hj
      have hb := opT_bd T j
      have hn := ih (j + 1) (by omega)
      rw [show ((j + 1 : Nat) : Int) = (j : Int) + 1 from rfl] at hn
      rw [show opT T (j + 1) = opT T j + (if kT T j = 123 then 1 else if kT T j = 125 then -1 else 0) from rfl] at hn
      refine Z_push gX6_openAhead_4 (v := (0, (j : Int))) rfl ?_
      refine Z_push gX6_openAhead_5 (v := (0, i)) rfl ?_
      refine Z_icmp_ge gX6_openAhead_6 (tgt := 52) (by decide) (fun h6 => absurd h6 (by omega)) (fun _ => ?_)
      refine Z_push gX6_openAhead_9 (v := (0, (j : Int))) rfl ?_
      refine Z_push gX6_openAhead_10 (v := (1, ((t : Nat) : Int))) rfl ?_
      refine Z_get gX6_openAhead_11 rfl (by assumption) (by decide) ?_
      refine Z_icmp_ge gX6_openAhead_14 (tgt := 52) (by decide) (fun h14 => absurd h14 (by omega)) (fun _ => ?_)
      refine Z_push gX6_openAhead_17 (v := (1, ((t : Nat) : Int))) rfl ?_
      refine Z_push gX6_openAhead_18 (v := (0, (j : Int))) rfl ?_
      refine Z_callP (kd := 0) (na := 2) (M' := mX6_kindAt) gX6_openAhead_19 rfl rfl rfl rfl rfl rfl (fun _ => rfl) rfl rfl (fun _ _ => zrecv_obj (by assumption) _ _ _) (d' := 0) (by decide) (vX6_kindAt (T := T) (by assumption) (by assumption) (by assumption) _) ?_
      refine Z_push gX6_openAhead_22 (v := (0, 123)) rfl ?_
      refine Z_icmp_ne gX6_openAhead_24 (tgt := 33) (by decide) (fun h24 => ?_) (fun h24 => ?_)
      · refine Z_push gX6_openAhead_33 (v := (1, ((t : Nat) : Int))) rfl ?_
        refine Z_push gX6_openAhead_34 (v := (0, (j : Int))) rfl ?_
        refine Z_callP (kd := 0) (na := 2) (M' := mX6_kindAt) gX6_openAhead_35 rfl rfl rfl rfl rfl rfl (fun _ => rfl) rfl rfl (fun _ _ => zrecv_obj (by assumption) _ _ _) (d' := 0) (by decide) (vX6_kindAt (T := T) (by assumption) (by assumption) (by assumption) _) ?_
        refine Z_push gX6_openAhead_38 (v := (0, 125)) rfl ?_
        refine Z_icmp_ne gX6_openAhead_40 (tgt := 46) (by decide) (fun h40 => ?_) (fun h40 => ?_)
        · refine Z_iinc gX6_openAhead_46 rfl ⟨by omega, by omega⟩ (ls' := [(1, ((t : Nat) : Int)), (0, i), (0, opT T j), (0, (j : Int) + 1)]) rfl ?_
          refine Z_goto gX6_openAhead_49 (tgt := 4) (by decide) ?_
          rw [if_neg (by omega), if_neg (by omega), Int.add_zero] at hn
          exact hn
        · refine Z_iinc gX6_openAhead_43 rfl ⟨by omega, by omega⟩ (ls' := [(1, ((t : Nat) : Int)), (0, i), (0, (opT T j) + (-1)), (0, (j : Int))]) rfl ?_
          refine Z_iinc gX6_openAhead_46 rfl ⟨by omega, by omega⟩ (ls' := [(1, ((t : Nat) : Int)), (0, i), (0, (opT T j) + (-1)), (0, (j : Int) + 1)]) rfl ?_
          refine Z_goto gX6_openAhead_49 (tgt := 4) (by decide) ?_
          rw [if_neg (by omega), if_pos (by omega)] at hn
          exact hn
      · refine Z_iinc gX6_openAhead_27 rfl ⟨by omega, by omega⟩ (ls' := [(1, ((t : Nat) : Int)), (0, i), (0, opT T j + 1), (0, (j : Int))]) rfl ?_
        refine Z_goto gX6_openAhead_30 (tgt := 46) (by decide) ?_
        refine Z_iinc gX6_openAhead_46 rfl ⟨by omega, by omega⟩ (ls' := [(1, ((t : Nat) : Int)), (0, i), (0, opT T j + 1), (0, (j : Int) + 1)]) rfl ?_
        refine Z_goto gX6_openAhead_49 (tgt := 4) (by decide) ?_
        rw [if_pos (by omega)] at hn
        exact hn
  show Z ro 1 mX6_openAhead 0 [(1, (t : Int)), (0, i), (9, 0), (9, 0)] [] w _
  refine Z_push gX6_openAhead_0 (v := (0, 0)) rfl ?_
  refine Z_sto gX6_openAhead_1 rfl (ls' := [(1, ((t : Nat) : Int)), (0, i), (0, 0), (9, 0)]) (st' := []) rfl ?_
  refine Z_push gX6_openAhead_2 (v := (0, 0)) rfl ?_
  refine Z_sto gX6_openAhead_3 rfl (ls' := [(1, ((t : Nat) : Int)), (0, i), (0, 0), (0, 0)]) (st' := []) rfl ?_
  exact loop i.toNat 0 (by omega)
def dpT (T : zTx) (i : Int) : Int := if kT T i = 125 then opT T i.toNat - 1 else opT T i.toNat
theorem vX6_depthAt (hT : TX t) (hR : TR w t T) (hV : TV T) {i : Int} (hi : 0 ≤ i ∧ i ≤ T.1) : Pv ro 2 mX6_depthAt [(1, (t : Int)), (0, i)] w (0, dpT T i) := by
  have hL0 := hT.1
  have hV1 := hV.1
  have hb := opT_bd T i.toNat
  show Z ro 2 mX6_depthAt 0 [(1, (t : Int)), (0, i)] [] w _
  refine Z_push gX6_depthAt_0 (v := (1, ((t : Nat) : Int))) rfl ?_
  refine Z_push gX6_depthAt_1 (v := (0, i)) rfl ?_
  refine Z_callP (kd := 0) (na := 2) (M' := mX6_kindAt) gX6_depthAt_2 rfl rfl rfl rfl rfl rfl (fun _ => rfl) rfl rfl (fun _ _ => zrecv_obj (by assumption) _ _ _) (d' := 0) (by decide) (vX6_kindAt (T := T) (by assumption) (by assumption) (by assumption) _) ?_
  refine Z_push gX6_depthAt_5 (v := (0, 125)) rfl ?_
  refine Z_icmp_ne gX6_depthAt_7 (tgt := 20) (by decide) (fun h7 => ?_) (fun h7 => ?_)
  · refine Z_push gX6_depthAt_20 (v := (1, ((t : Nat) : Int))) rfl ?_
    refine Z_push gX6_depthAt_21 (v := (0, i)) rfl ?_
    refine Z_callP (kd := 0) (na := 2) (M' := mX6_openAhead) gX6_depthAt_22 rfl rfl rfl rfl rfl rfl (fun _ => rfl) rfl rfl (fun _ _ => zrecv_obj (by assumption) _ _ _) (d' := 1) (by decide) (vX6_openAhead (T := T) (by assumption) (by assumption) (by assumption) (by omega)) ?_
    refine Z_ret (v := (0, opT T (i).toNat)) gX6_depthAt_25 rfl rfl rfl rfl rfl _ ?_
    exact ⟨by unfold dpT; rw [if_neg h7], rfl⟩
  · refine Z_push gX6_depthAt_10 (v := (1, ((t : Nat) : Int))) rfl ?_
    refine Z_push gX6_depthAt_11 (v := (0, i)) rfl ?_
    refine Z_callP (kd := 0) (na := 2) (M' := mX6_openAhead) gX6_depthAt_12 rfl rfl rfl rfl rfl rfl (fun _ => rfl) rfl rfl (fun _ _ => zrecv_obj (by assumption) _ _ _) (d' := 1) (by decide) (vX6_openAhead (T := T) (by assumption) (by assumption) (by assumption) (by omega)) ?_
    refine Z_push gX6_depthAt_15 (v := (0, 1)) rfl ?_
    refine Z_isub gX6_depthAt_16 ⟨by omega, by omega⟩ ?_
    refine Z_goto gX6_depthAt_17 (tgt := 25) (by decide) ?_
    refine Z_ret (v := (0, (opT T (i).toNat) - 1)) gX6_depthAt_25 rfl rfl rfl rfl rfl _ ?_
    exact ⟨by unfold dpT; rw [if_pos h7], rfl⟩
theorem vX6_timesOf (hT : TX t) (hR : TR w t T) (hV : TV T) (x : Int) : Pv ro 3 mX6_timesOf [(1, (t : Int)), (0, x)] w (0, tmT T x T.1) := by
  have hL0 := hT.1
  have hR1 := hR.1
  have hV1 := hV.1
  have loop : ∀ k j : Nat, j + k = T.1 → Z ro 3 mX6_timesOf 4 [(1, (t : Int)), (0, x), (0, tmT T x j), (0, (j : Int))] [] w (fun r w' k => k = 0 ∧ ∃ o, r = .inl o ∧ (o = some (0, tmT T x T.1) ∧ w' = w)) := by
    intro k
    induction k with
    | zero =>
      intro j hj
      refine Z_push gX6_timesOf_4 (v := (0, (j : Int))) rfl ?_
      refine Z_push gX6_timesOf_5 (v := (1, ((t : Nat) : Int))) rfl ?_
      refine Z_get gX6_timesOf_6 rfl (by assumption) (by decide) ?_
      refine Z_icmp_ge gX6_timesOf_9 (tgt := 30) (by decide) (fun _ => ?_) (fun h9 => absurd h9 (by omega))
      refine Z_push gX6_timesOf_30 (v := (0, tmT T x j)) rfl ?_
      refine Z_ret (v := (0, tmT T x j)) gX6_timesOf_31 rfl rfl rfl rfl rfl _ ?_
      exact ⟨by rw [show T.1 = j by omega], rfl⟩
    | succ k ih =>
      intro j hj
      have hb := tmT_bd T x j
      have h01 := isT_01 T j x
      have hn := ih (j + 1) (by omega)
      rw [show ((j + 1 : Nat) : Int) = (j : Int) + 1 from rfl] at hn
      rw [show tmT T x (j + 1) = tmT T x j + isT T j x from rfl] at hn
      refine Z_push gX6_timesOf_4 (v := (0, (j : Int))) rfl ?_
      refine Z_push gX6_timesOf_5 (v := (1, ((t : Nat) : Int))) rfl ?_
      refine Z_get gX6_timesOf_6 rfl (by assumption) (by decide) ?_
      refine Z_icmp_ge gX6_timesOf_9 (tgt := 30) (by decide) (fun h9 => absurd h9 (by omega)) (fun _ => ?_)
      refine Z_push gX6_timesOf_12 (v := (1, ((t : Nat) : Int))) rfl ?_
      refine Z_push gX6_timesOf_13 (v := (0, (j : Int))) rfl ?_
      refine Z_push gX6_timesOf_14 (v := (0, x)) rfl ?_
      refine Z_callP (kd := 0) (na := 3) (M' := mX6_isNamed) gX6_timesOf_15 rfl rfl rfl rfl rfl rfl (fun _ => rfl) rfl rfl (fun _ _ => zrecv_obj (by assumption) _ _ _) (d' := 2) (by decide) (vX6_isNamed (T := T) (by assumption) (by assumption) (by assumption) _ _) ?_
      refine Z_if_eq gX6_timesOf_18 (tgt := 24) (by decide) (fun h18 => ?_) (fun h18 => ?_)
      · refine Z_iinc gX6_timesOf_24 rfl ⟨by omega, by omega⟩ (ls' := [(1, ((t : Nat) : Int)), (0, x), (0, tmT T x j), (0, (j : Int) + 1)]) rfl ?_
        refine Z_goto gX6_timesOf_27 (tgt := 4) (by decide) ?_
        rw [h18, Int.add_zero] at hn
        exact hn
      · refine Z_iinc gX6_timesOf_21 rfl ⟨by omega, by omega⟩ (ls' := [(1, ((t : Nat) : Int)), (0, x), (0, tmT T x j + 1), (0, (j : Int))]) rfl ?_
        refine Z_iinc gX6_timesOf_24 rfl ⟨by omega, by omega⟩ (ls' := [(1, ((t : Nat) : Int)), (0, x), (0, tmT T x j + 1), (0, (j : Int) + 1)]) rfl ?_
        refine Z_goto gX6_timesOf_27 (tgt := 4) (by decide) ?_
        rw [show isT T j x = 1 by omega] at hn
        exact hn
  show Z ro 3 mX6_timesOf 0 [(1, (t : Int)), (0, x), (9, 0), (9, 0)] [] w _
  refine Z_push gX6_timesOf_0 (v := (0, 0)) rfl ?_
  refine Z_sto gX6_timesOf_1 rfl (ls' := [(1, ((t : Nat) : Int)), (0, x), (0, 0), (9, 0)]) (st' := []) rfl ?_
  refine Z_push gX6_timesOf_2 (v := (0, 0)) rfl ?_
  refine Z_sto gX6_timesOf_3 rfl (ls' := [(1, ((t : Nat) : Int)), (0, x), (0, 0), (0, 0)]) (st' := []) rfl ?_
  exact loop T.1 0 (by omega)
end
