/-! the class's text: what is read of it -/
abbrev TX (t : Nat) : Prop := zLY[t]? = some (0, 6, 5) ∧ zLY[t + 1]? = some (2, 0, 30) ∧ zLY[t + 2]? = some (1, 0, 30) ∧ zLY[t + 3]? = some (1, 0, 30) ∧ zLY[t + 4]? = some (3, 0, 30) ∧ zptr t 0 = t + 1 ∧ zptr t 1 = t + 2 ∧ zptr t 2 = t + 3 ∧ zptr t 3 = t + 4 ∧ zptr t 4 = 0
theorem TX_1 : TX 1 := by decide +kernel
theorem TX_d : ∀ i : Nat, i < 10 → TX (12 + 7 * i) := by
  have h : (List.range 10).all (fun i => decide (TX (12 + 7 * i))) = true := by decide +kernel
  exact fun i hi => of_decide_eq_true (List.all_eq_true.mp h i (List.mem_range.mpr hi))
/-- an entry is of one of the four kinds, its length and pin are in range -/
def TI (w : zW) (t : Nat) : Prop := (0 ≤ w t 4 ∧ w t 4 ≤ 30) ∧ ∀ j : Nat, (j : Int) < w t 4 → (w (t + 1) j = 110 ∨ w (t + 1) j = 99 ∨ w (t + 1) j = 123 ∨ w (t + 1) j = 125) ∧ (1 ≤ w (t + 3) j ∧ w (t + 3) j ≤ 9) ∧ (w (t + 4) j = 0 ∨ w (t + 4) j = 1)
def kd (w : zW) (t : Nat) (i : Int) : Int := if 0 ≤ i ∧ i < w t 4 then w (t + 1) i.toNat else 32
def wd (w : zW) (t : Nat) (i : Int) : Int := if kd w t i = 110 then rd w (t + 3) 30 i else if kd w t i = 99 then rd w (t + 3) 30 i + 4 else 1
def opn (w : zW) (t : Nat) : Nat → Int
  | 0 => 0
  | j + 1 => opn w t j + (if w (t + 1) j = 123 then 1 else if w (t + 1) j = 125 then -1 else 0)
theorem opn_bd (w : zW) (t : Nat) : ∀ j : Nat, -(j : Int) ≤ opn w t j ∧ opn w t j ≤ j
  | 0 => ⟨by simp [opn], by simp [opn]⟩
  | j + 1 => by
    have := opn_bd w t j
    unfold opn
    split
    · omega
    · split <;> omega
def isn (w : zW) (t : Nat) (i x : Int) : Int := if kd w t i = 110 ∧ rd w (t + 2) 30 i = x then 1 else 0
def tms (w : zW) (t : Nat) (x : Int) : Nat → Int
  | 0 => 0
  | j + 1 => tms w t x j + isn w t j x
theorem isn_01 (w : zW) (t : Nat) (i x : Int) : isn w t i x = 0 ∨ isn w t i x = 1 := by unfold isn; split <;> simp
theorem tms_bd (w : zW) (t : Nat) (x : Int) : ∀ j : Nat, 0 ≤ tms w t x j ∧ tms w t x j ≤ j
  | 0 => ⟨by simp [tms], by simp [tms]⟩
  | j + 1 => by
    have := tms_bd w t x j
    have := isn_01 w t j x
    unfold tms
    omega
section
variable {ro : zRo} {w : zW} {t : Nat}
theorem rd_len (hI : TI w t) {i : Int} (h : 0 ≤ i ∧ i < w t 4) : 1 ≤ rd w (t + 3) 30 i ∧ rd w (t + 3) 30 i ≤ 9 := by
  obtain ⟨⟨h0, h1⟩, h2⟩ := hI
  have := (h2 i.toNat (by omega)).2.1
  unfold rd
  rw [if_pos (by omega)]
  exact this
theorem wd_bd (hI : TI w t) (i : Int) : 1 ≤ wd w t i ∧ wd w t i ≤ 13 := by
  unfold wd
  by_cases h : 0 ≤ i ∧ i < w t 4
  · have := rd_len hI h
    split
    · omega
    · split <;> omega
  · have : kd w t i = 32 := by unfold kd; rw [if_neg h]
    rw [this]; simp
theorem vX6_size (hT : TX t) : Pv ro 0 mX6_size [(1, (t : Int))] w (0, w t 4) := by
  obtain ⟨hL0, hL1, hL2, hL3, hL4, hp0, hp1, hp2, hp3, hp4⟩ := hT
  show Z ro 0 mX6_size 0 [(1, (t : Int))] [] w _
  refine Z_push gX6_size_0 (v := (1, ((t : Nat) : Int))) rfl ?_
  refine Z_get gX6_size_1 rfl (by assumption) (by decide) ?_
  refine Z_ret (v := (0, w t 4)) gX6_size_4 rfl rfl rfl rfl rfl _ ?_
  exact ⟨rfl, rfl⟩
theorem vX6_kindAt (hT : TX t) (hI : TI w t) (i : Int) : Pv ro 0 mX6_kindAt [(1, (t : Int)), (0, i)] w (0, kd w t i) := by
  obtain ⟨hL0, hL1, hL2, hL3, hL4, hp0, hp1, hp2, hp3, hp4⟩ := hT
  obtain ⟨hI1, hI2⟩ := hI
  show Z ro 0 mX6_kindAt 0 [(1, (t : Int)), (0, i)] [] w _
  refine Z_push gX6_kindAt_0 (v := (0, i)) rfl ?_
  refine Z_if_lt gX6_kindAt_1 (tgt := 30) (by decide) (fun h1 => ?_) (fun h1 => ?_)
  · refine Z_push gX6_kindAt_30 (v := (0, 32)) rfl ?_
    refine Z_retC gX6_kindAt_32 rfl (by omega) _ ?_
    exact ⟨by unfold kd; rw [if_neg (by omega)], rfl⟩
  · refine Z_push gX6_kindAt_4 (v := (0, i)) rfl ?_
    refine Z_push gX6_kindAt_5 (v := (1, ((t : Nat) : Int))) rfl ?_
    refine Z_get gX6_kindAt_6 rfl (by assumption) (by decide) ?_
    refine Z_icmp_ge gX6_kindAt_9 (tgt := 30) (by decide) (fun h9 => ?_) (fun h9 => ?_)
    · refine Z_push gX6_kindAt_30 (v := (0, 32)) rfl ?_
      refine Z_retC gX6_kindAt_32 rfl (by omega) _ ?_
      exact ⟨by unfold kd; rw [if_neg (by omega)], rfl⟩
    · refine Z_push gX6_kindAt_12 (v := (0, i)) rfl ?_
      refine Z_push gX6_kindAt_13 (v := (1, ((t : Nat) : Int))) rfl ?_
      refine Z_getR (b := t + 1) gX6_kindAt_14 rfl (by assumption) (by decide) (by assumption) (by omega) ?_
      refine Z_len (len := 30) gX6_kindAt_17 (by assumption) (by decide) ?_
      refine Z_icmp_ge gX6_kindAt_18 (tgt := 30) (by decide) (fun h18 => ?_) (fun h18 => ?_)
      · exfalso; omega
      · have hk := (hI2 i.toNat (by omega)).1
        refine Z_push gX6_kindAt_21 (v := (1, ((t : Nat) : Int))) rfl ?_
        refine Z_getR (b := t + 1) gX6_kindAt_22 rfl (by assumption) (by decide) (by assumption) (by omega) ?_
        refine Z_push gX6_kindAt_25 (v := (0, i)) rfl ?_
        refine Z_caload gX6_kindAt_26 (by assumption) (by omega) (by omega) ?_
        refine Z_goto gX6_kindAt_27 (tgt := 32) (by decide) ?_
        refine Z_retC gX6_kindAt_32 rfl (by omega) _ ?_
        exact ⟨by unfold kd; rw [if_pos (by omega)], rfl⟩
theorem vX6_nameAt (hT : TX t) (i : Int) : Pv ro 1 mX6_nameAt [(1, (t : Int)), (0, i)] w (0, rd w (t + 2) 30 i) := by
  obtain ⟨hL0, hL1, hL2, hL3, hL4, hp0, hp1, hp2, hp3, hp4⟩ := hT
  show Z ro 1 mX6_nameAt 0 [(1, (t : Int)), (0, i)] [] w _
  refine Z_push gX6_nameAt_0 (v := (1, ((t : Nat) : Int))) rfl ?_
  refine Z_getR (b := t + 2) gX6_nameAt_1 rfl (by assumption) (by decide) (by assumption) (by omega) ?_
  refine Z_push gX6_nameAt_4 (v := (0, i)) rfl ?_
  refine Z_callP (kd := 2) (na := 2) (M' := mX7_read) gX6_nameAt_5 rfl rfl rfl rfl rfl rfl (fun _ => rfl) rfl rfl (fun _ _ => rfl) (d' := 0) (by decide) (vX7_read (len := 30) (by first | assumption | rfl) _) ?_
  refine Z_ret (v := (0, rd w (t + 2) 30 i)) gX6_nameAt_8 rfl rfl rfl rfl rfl _ ?_
  exact ⟨rfl, rfl⟩
theorem vX6_lengthAt (hT : TX t) (i : Int) : Pv ro 1 mX6_lengthAt [(1, (t : Int)), (0, i)] w (0, rd w (t + 3) 30 i) := by
  obtain ⟨hL0, hL1, hL2, hL3, hL4, hp0, hp1, hp2, hp3, hp4⟩ := hT
  show Z ro 1 mX6_lengthAt 0 [(1, (t : Int)), (0, i)] [] w _
  refine Z_push gX6_lengthAt_0 (v := (1, ((t : Nat) : Int))) rfl ?_
  refine Z_getR (b := t + 3) gX6_lengthAt_1 rfl (by assumption) (by decide) (by assumption) (by omega) ?_
  refine Z_push gX6_lengthAt_4 (v := (0, i)) rfl ?_
  refine Z_callP (kd := 2) (na := 2) (M' := mX7_read) gX6_lengthAt_5 rfl rfl rfl rfl rfl rfl (fun _ => rfl) rfl rfl (fun _ _ => rfl) (d' := 0) (by decide) (vX7_read (len := 30) (by first | assumption | rfl) _) ?_
  refine Z_ret (v := (0, rd w (t + 3) 30 i)) gX6_lengthAt_8 rfl rfl rfl rfl rfl _ ?_
  exact ⟨rfl, rfl⟩
theorem vX6_pinnedAt (hT : TX t) (i : Int) : Pv ro 1 mX6_pinnedAt [(1, (t : Int)), (0, i)] w (0, rdf w (t + 4) 30 i) := by
  obtain ⟨hL0, hL1, hL2, hL3, hL4, hp0, hp1, hp2, hp3, hp4⟩ := hT
  have h01 : rdf w (t + 4) 30 i = 0 ∨ rdf w (t + 4) 30 i = 1 := by unfold rdf; split <;> simp
  show Z ro 1 mX6_pinnedAt 0 [(1, (t : Int)), (0, i)] [] w _
  refine Z_push gX6_pinnedAt_0 (v := (1, ((t : Nat) : Int))) rfl ?_
  refine Z_getR (b := t + 4) gX6_pinnedAt_1 rfl (by assumption) (by decide) (by assumption) (by omega) ?_
  refine Z_push gX6_pinnedAt_4 (v := (0, i)) rfl ?_
  refine Z_callP (kd := 2) (na := 2) (M' := mX7_readFlag) gX6_pinnedAt_5 rfl rfl rfl rfl rfl rfl (fun _ => rfl) rfl rfl (fun _ _ => rfl) (d' := 0) (by decide) (vX7_readFlag (len := 30) (by first | assumption | rfl) _) ?_
  refine Z_retB gX6_pinnedAt_8 rfl (by first | exact Or.inl rfl | exact Or.inr rfl | assumption | omega) _ ?_
  exact ⟨rfl, rfl⟩
theorem vX6_widthAt (hT : TX t) (hI : TI w t) (i : Int) : Pv ro 2 mX6_widthAt [(1, (t : Int)), (0, i)] w (0, wd w t i) := by
  have hl : kd w t i ≠ 32 → 1 ≤ rd w (t + 3) 30 i ∧ rd w (t + 3) 30 i ≤ 9 := fun h => rd_len hI (Classical.byContradiction fun hc => h (by unfold kd; rw [if_neg hc]))
  have hL0 := hT.1
  show Z ro 2 mX6_widthAt 0 [(1, (t : Int)), (0, i)] [] w _
  refine Z_push gX6_widthAt_0 (v := (1, ((t : Nat) : Int))) rfl ?_
  refine Z_push gX6_widthAt_1 (v := (0, i)) rfl ?_
  refine Z_callP (kd := 0) (na := 2) (M' := mX6_kindAt) gX6_widthAt_2 rfl rfl rfl rfl rfl rfl (fun _ => rfl) rfl rfl (fun _ _ => zrecv_obj (by assumption) _ _ _) (d' := 0) (by decide) (vX6_kindAt (by assumption) (by assumption) _) ?_
  refine Z_push gX6_widthAt_5 (v := (0, 110)) rfl ?_
  refine Z_icmp_ne gX6_widthAt_7 (tgt := 16) (by decide) (fun h7 => ?_) (fun h7 => ?_)
  · refine Z_push gX6_widthAt_16 (v := (1, ((t : Nat) : Int))) rfl ?_
    refine Z_push gX6_widthAt_17 (v := (0, i)) rfl ?_
    refine Z_callP (kd := 0) (na := 2) (M' := mX6_kindAt) gX6_widthAt_18 rfl rfl rfl rfl rfl rfl (fun _ => rfl) rfl rfl (fun _ _ => zrecv_obj (by assumption) _ _ _) (d' := 0) (by decide) (vX6_kindAt (by assumption) (by assumption) _) ?_
    refine Z_push gX6_widthAt_21 (v := (0, 99)) rfl ?_
    refine Z_icmp_ne gX6_widthAt_23 (tgt := 36) (by decide) (fun h23 => ?_) (fun h23 => ?_)
    · refine Z_push gX6_widthAt_36 (v := (0, 1)) rfl ?_
      refine Z_ret (v := (0, 1)) gX6_widthAt_37 rfl rfl rfl rfl rfl _ ?_
      exact ⟨by unfold wd; rw [if_neg h7, if_neg h23], rfl⟩
    · have := hl (by omega)
      refine Z_push gX6_widthAt_26 (v := (1, ((t : Nat) : Int))) rfl ?_
      refine Z_push gX6_widthAt_27 (v := (0, i)) rfl ?_
      refine Z_callP (kd := 0) (na := 2) (M' := mX6_lengthAt) gX6_widthAt_28 rfl rfl rfl rfl rfl rfl (fun _ => rfl) rfl rfl (fun _ _ => zrecv_obj (by assumption) _ _ _) (d' := 1) (by decide) (vX6_lengthAt (by assumption) _) ?_
      refine Z_push gX6_widthAt_31 (v := (0, 4)) rfl ?_
      refine Z_iadd gX6_widthAt_32 ⟨by omega, by omega⟩ ?_
      refine Z_goto gX6_widthAt_33 (tgt := 37) (by decide) ?_
      refine Z_ret (v := (0, (rd w (t + 3) 30 i) + 4)) gX6_widthAt_37 rfl rfl rfl rfl rfl _ ?_
      exact ⟨by unfold wd; rw [if_neg h7, if_pos h23], rfl⟩
  · refine Z_push gX6_widthAt_10 (v := (1, ((t : Nat) : Int))) rfl ?_
    refine Z_push gX6_widthAt_11 (v := (0, i)) rfl ?_
    refine Z_callP (kd := 0) (na := 2) (M' := mX6_lengthAt) gX6_widthAt_12 rfl rfl rfl rfl rfl rfl (fun _ => rfl) rfl rfl (fun _ _ => zrecv_obj (by assumption) _ _ _) (d' := 1) (by decide) (vX6_lengthAt (by assumption) _) ?_
    refine Z_ret (v := (0, rd w (t + 3) 30 i)) gX6_widthAt_15 rfl rfl rfl rfl rfl _ ?_
    exact ⟨by unfold wd; rw [if_pos h7], rfl⟩
theorem vX6_isNamed (hT : TX t) (hI : TI w t) (i x : Int) : Pv ro 2 mX6_isNamed [(1, (t : Int)), (0, i), (0, x)] w (0, isn w t i x) := by
  have hL0 := hT.1
  show Z ro 2 mX6_isNamed 0 [(1, (t : Int)), (0, i), (0, x)] [] w _
  refine Z_push gX6_isNamed_0 (v := (1, ((t : Nat) : Int))) rfl ?_
  refine Z_push gX6_isNamed_1 (v := (0, i)) rfl ?_
  refine Z_callP (kd := 0) (na := 2) (M' := mX6_kindAt) gX6_isNamed_2 rfl rfl rfl rfl rfl rfl (fun _ => rfl) rfl rfl (fun _ _ => zrecv_obj (by assumption) _ _ _) (d' := 0) (by decide) (vX6_kindAt (by assumption) (by assumption) _) ?_
  refine Z_push gX6_isNamed_5 (v := (0, 110)) rfl ?_
  refine Z_icmp_ne gX6_isNamed_7 (tgt := 23) (by decide) (fun h7 => ?_) (fun h7 => ?_)
  · refine Z_push gX6_isNamed_23 (v := (0, 0)) rfl ?_
    refine Z_retB gX6_isNamed_24 rfl (by first | exact Or.inl rfl | exact Or.inr rfl | assumption | omega) _ ?_
    exact ⟨by unfold isn; rw [if_neg (fun h => h7 h.1)], rfl⟩
  · refine Z_push gX6_isNamed_10 (v := (1, ((t : Nat) : Int))) rfl ?_
    refine Z_push gX6_isNamed_11 (v := (0, i)) rfl ?_
    refine Z_callP (kd := 0) (na := 2) (M' := mX6_nameAt) gX6_isNamed_12 rfl rfl rfl rfl rfl rfl (fun _ => rfl) rfl rfl (fun _ _ => zrecv_obj (by assumption) _ _ _) (d' := 1) (by decide) (vX6_nameAt (by assumption) _) ?_
    refine Z_push gX6_isNamed_15 (v := (0, x)) rfl ?_
    refine Z_icmp_ne gX6_isNamed_16 (tgt := 23) (by decide) (fun h16 => ?_) (fun h16 => ?_)
    · refine Z_push gX6_isNamed_23 (v := (0, 0)) rfl ?_
      refine Z_retB gX6_isNamed_24 rfl (by first | exact Or.inl rfl | exact Or.inr rfl | assumption | omega) _ ?_
      exact ⟨by unfold isn; rw [if_neg (fun h => h16 h.2)], rfl⟩
    · refine Z_push gX6_isNamed_19 (v := (0, 1)) rfl ?_
      refine Z_goto gX6_isNamed_20 (tgt := 24) (by decide) ?_
      refine Z_retB gX6_isNamed_24 rfl (by first | exact Or.inl rfl | exact Or.inr rfl | assumption | omega) _ ?_
      exact ⟨by unfold isn; rw [if_pos ⟨h7, h16⟩], rfl⟩
theorem vX6_openAhead (hT : TX t) (hI : TI w t) {i : Int} (hi : 0 ≤ i ∧ i ≤ w t 4) : Pv ro 1 mX6_openAhead [(1, (t : Int)), (0, i)] w (0, opn w t i.toNat) := by
  have hL0 := hT.1
  have hI1 := hI.1
  have loop : ∀ k j : Nat, j + k = i.toNat → Z ro 1 mX6_openAhead 4 [(1, (t : Int)), (0, i), (0, opn w t j), (0, (j : Int))] [] w (fun r w' k => k = 0 ∧ ∃ o, r = .inl o ∧ (o = some (0, opn w t i.toNat) ∧ w' = w)) := by
    intro k
    induction k with
    | zero =>
      intro j hj
      refine Z_push gX6_openAhead_4 (v := (0, (j : Int))) rfl ?_
      refine Z_push gX6_openAhead_5 (v := (0, i)) rfl ?_
      refine Z_icmp_ge gX6_openAhead_6 (tgt := 52) (by decide) (fun _ => ?_) (fun h6 => absurd h6 (by omega))
      refine Z_push gX6_openAhead_52 (v := (0, opn w t j)) rfl ?_
      refine Z_ret (v := (0, opn w t j)) gX6_openAhead_53 rfl rfl rfl rfl rfl _ ?_
      exact ⟨by rw [show i.toNat = j by omega], rfl⟩
    | succ k ih =>
      intro j hj
      have hb := opn_bd w t j
      have hkd : kd w t j = w (t + 1) j := by unfold kd; rw [if_pos (by omega)]; rfl
      have hn := ih (j + 1) (by omega)
      rw [show ((j + 1 : Nat) : Int) = (j : Int) + 1 from rfl] at hn
      rw [show opn w t (j + 1) = opn w t j + (if w (t + 1) j = 123 then 1 else if w (t + 1) j = 125 then -1 else 0) from rfl] at hn
      refine Z_push gX6_openAhead_4 (v := (0, (j : Int))) rfl ?_
      refine Z_push gX6_openAhead_5 (v := (0, i)) rfl ?_
      refine Z_icmp_ge gX6_openAhead_6 (tgt := 52) (by decide) (fun h6 => absurd h6 (by omega)) (fun _ => ?_)
      refine Z_push gX6_openAhead_9 (v := (0, (j : Int))) rfl ?_
      refine Z_push gX6_openAhead_10 (v := (1, ((t : Nat) : Int))) rfl ?_
      refine Z_get gX6_openAhead_11 rfl (by assumption) (by decide) ?_
      refine Z_icmp_ge gX6_openAhead_14 (tgt := 52) (by decide) (fun h14 => absurd h14 (by omega)) (fun _ => ?_)
      refine Z_push gX6_openAhead_17 (v := (1, ((t : Nat) : Int))) rfl ?_
      refine Z_push gX6_openAhead_18 (v := (0, (j : Int))) rfl ?_
      refine Z_callP (kd := 0) (na := 2) (M' := mX6_kindAt) gX6_openAhead_19 rfl rfl rfl rfl rfl rfl (fun _ => rfl) rfl rfl (fun _ _ => zrecv_obj (by assumption) _ _ _) (d' := 0) (by decide) (vX6_kindAt (by assumption) (by assumption) _) ?_
      refine Z_push gX6_openAhead_22 (v := (0, 123)) rfl ?_
      refine Z_icmp_ne gX6_openAhead_24 (tgt := 33) (by decide) (fun h24 => ?_) (fun h24 => ?_)
      · refine Z_push gX6_openAhead_33 (v := (1, ((t : Nat) : Int))) rfl ?_
        refine Z_push gX6_openAhead_34 (v := (0, (j : Int))) rfl ?_
        refine Z_callP (kd := 0) (na := 2) (M' := mX6_kindAt) gX6_openAhead_35 rfl rfl rfl rfl rfl rfl (fun _ => rfl) rfl rfl (fun _ _ => zrecv_obj (by assumption) _ _ _) (d' := 0) (by decide) (vX6_kindAt (by assumption) (by assumption) _) ?_
        refine Z_push gX6_openAhead_38 (v := (0, 125)) rfl ?_
        refine Z_icmp_ne gX6_openAhead_40 (tgt := 46) (by decide) (fun h40 => ?_) (fun h40 => ?_)
        · refine Z_iinc gX6_openAhead_46 rfl ⟨by omega, by omega⟩ (ls' := [(1, ((t : Nat) : Int)), (0, i), (0, opn w t j), (0, (j : Int) + 1)]) rfl ?_
          refine Z_goto gX6_openAhead_49 (tgt := 4) (by decide) ?_
          rw [if_neg (by omega), if_neg (by omega), Int.add_zero] at hn
          exact hn
        · refine Z_iinc gX6_openAhead_43 rfl ⟨by omega, by omega⟩ (ls' := [(1, ((t : Nat) : Int)), (0, i), (0, (opn w t j) + (-1)), (0, (j : Int))]) rfl ?_
          refine Z_iinc gX6_openAhead_46 rfl ⟨by omega, by omega⟩ (ls' := [(1, ((t : Nat) : Int)), (0, i), (0, (opn w t j) + (-1)), (0, (j : Int) + 1)]) rfl ?_
          refine Z_goto gX6_openAhead_49 (tgt := 4) (by decide) ?_
          rw [if_neg (by omega), if_pos (by omega)] at hn
          exact hn
      · refine Z_iinc gX6_openAhead_27 rfl ⟨by omega, by omega⟩ (ls' := [(1, ((t : Nat) : Int)), (0, i), (0, opn w t j + 1), (0, (j : Int))]) rfl ?_
        refine Z_goto gX6_openAhead_30 (tgt := 46) (by decide) ?_
        refine Z_iinc gX6_openAhead_46 rfl ⟨by omega, by omega⟩ (ls' := [(1, ((t : Nat) : Int)), (0, i), (0, opn w t j + 1), (0, (j : Int) + 1)]) rfl ?_
        refine Z_goto gX6_openAhead_49 (tgt := 4) (by decide) ?_
        rw [if_pos (by omega)] at hn
        exact hn
  show Z ro 1 mX6_openAhead 0 [(1, (t : Int)), (0, i), (9, 0), (9, 0)] [] w _
  refine Z_push gX6_openAhead_0 (v := (0, 0)) rfl ?_
  refine Z_sto gX6_openAhead_1 rfl (ls' := [(1, ((t : Nat) : Int)), (0, i), (0, 0), (9, 0)]) (st' := []) rfl ?_
  refine Z_push gX6_openAhead_2 (v := (0, 0)) rfl ?_
  refine Z_sto gX6_openAhead_3 rfl (ls' := [(1, ((t : Nat) : Int)), (0, i), (0, 0), (0, 0)]) (st' := []) rfl ?_
  exact loop i.toNat 0 (by omega)
end
