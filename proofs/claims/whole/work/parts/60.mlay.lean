/-! the model's lines -/
section
variable {ro : zRo} {w w' : zW} {T : zTx} {R : zRu} {D : zDs} {lim la B : Int}
theorem vX8_span (hM : MT w T) (hV : TV T) {a b : Nat} (hab : a ≤ b) (hb : b < T.1) : Pv ro 1 mX8_span [(1, ((97 : Nat) : Int)), (0, (a : Int)), (0, (b : Int))] w (0, lwS T a (b + 1 - a)) := by
  have hV1 := hV.1
  have loop : ∀ k m : Nat, a + m + k = b + 1 → Z ro 1 mX8_span 7 [(1, ((97 : Nat) : Int)), (0, (a : Int)), (0, (b : Int)), (0, lwS T a m + 1 - m + (b : Int) - a), (0, ((a + m : Nat) : Int))] [] w (fun r w' k9 => k9 = 0 ∧ ∃ o, r = .inl o ∧ (o = some (0, lwS T a (b + 1 - a)) ∧ w' = w)) := by
    intro k
    induction k with
    | zero =>
      intro m hm
      rw [show lwS T a m + 1 - m + (b : Int) - a = lwS T a (b + 1 - a) by rw [show m = b + 1 - a by omega]; omega]
      refine Z_push gX8_span_7 (v := (0, ((a + m : Nat) : Int))) rfl ?_
      refine Z_push gX8_span_9 (v := (0, (b : Int))) rfl ?_
      refine Z_icmp_gt gX8_span_10 (tgt := 28) (by decide) (fun _ => ?_) (fun h10 => absurd h10 (by omega))
      refine Z_push gX8_span_28 (v := (0, lwS T a (b + 1 - a))) rfl ?_
      refine Z_ret (v := (0, lwS T a (b + 1 - a))) gX8_span_29 rfl rfl rfl rfl rfl _ ?_
      exact ⟨rfl, rfl⟩
    | succ k ih =>
      intro m hm
      have hn := ih (m + 1) (by omega)
      have hl := lwS_bd hV a m
      have hw := wT_bd hV ((a + m : Nat) : Int)
      have e : lwS T a (m + 1) = lwS T a m + (1 + wT T ((a + m : Nat) : Int)) := rfl
      rw [show ((a + (m + 1) : Nat) : Int) = ((a + m : Nat) : Int) + 1 from rfl, e] at hn
      refine Z_push gX8_span_7 (v := (0, ((a + m : Nat) : Int))) rfl ?_
      refine Z_push gX8_span_9 (v := (0, (b : Int))) rfl ?_
      refine Z_icmp_gt gX8_span_10 (tgt := 28) (by decide) (fun h10 => absurd h10 (by omega)) (fun _ => ?_)
      refine Z_push gX8_span_13 (v := (0, lwS T a m + 1 - m + (b : Int) - a)) rfl ?_
      refine Z_push gX8_span_14 (v := (1, ((97 : Nat) : Int))) rfl ?_
      refine Z_push gX8_span_15 (v := (0, ((a + m : Nat) : Int))) rfl ?_
      refine Z_callP (kd := 0) (na := 2) (M' := mX8_wide) gX8_span_17 rfl rfl rfl rfl rfl rfl (fun _ => rfl) rfl rfl (fun _ _ => zrecv_obj rfl _ _ _) (d' := 0) (by omega) (vX8_wide hM hV (show a + m < T.1 by omega)) ?_
      refine Z_iadd gX8_span_20 ⟨by omega, by omega⟩ ?_
      refine Z_sto gX8_span_21 rfl (ls' := [(1, ((97 : Nat) : Int)), (0, (a : Int)), (0, (b : Int)), (0, (lwS T a m + 1 - m + (b : Int) - a) + (wT T ((a + m : Nat) : Int))), (0, ((a + m : Nat) : Int))]) (st' := []) rfl ?_
      refine Z_iinc gX8_span_22 rfl ⟨by omega, by omega⟩ (ls' := [(1, ((97 : Nat) : Int)), (0, (a : Int)), (0, (b : Int)), (0, (lwS T a m + 1 - m + (b : Int) - a) + (wT T ((a + m : Nat) : Int))), (0, ((a + m : Nat) : Int) + 1)]) rfl ?_
      refine Z_goto gX8_span_25 (tgt := 7) (by decide) ?_
      rw [show lwS T a m + 1 - (m : Int) + (b : Int) - (a : Int) + wT T ((a + m : Nat) : Int) = lwS T a m + (1 + wT T ((a + m : Nat) : Int)) + 1 - ((m + 1 : Nat) : Int) + (b : Int) - (a : Int) by omega]
      exact hn
  show Z ro 1 mX8_span 0 [(1, ((97 : Nat) : Int)), (0, (a : Int)), (0, (b : Int)), (9, 0), (9, 0)] [] w _
  have h0 := loop (b + 1 - a) 0 (by omega)
  rw [show lwS T a 0 + 1 - ((0 : Nat) : Int) + (b : Int) - (a : Int) = (b : Int) - (a : Int) by show -1 + 1 - (0 : Int) + _ - _ = _; omega] at h0
  refine Z_push gX8_span_0 (v := (0, (b : Int))) rfl ?_
  refine Z_push gX8_span_1 (v := (0, (a : Int))) rfl ?_
  refine Z_isub gX8_span_2 ⟨by omega, by omega⟩ ?_
  refine Z_sto gX8_span_3 rfl (ls' := [(1, ((97 : Nat) : Int)), (0, (a : Int)), (0, (b : Int)), (0, (b : Int) - (a : Int)), (9, 0)]) (st' := []) rfl ?_
  refine Z_push gX8_span_4 (v := (0, (a : Int))) rfl ?_
  refine Z_sto gX8_span_5 rfl (ls' := [(1, ((97 : Nat) : Int)), (0, (a : Int)), (0, (b : Int)), (0, (b : Int) - (a : Int)), (0, (a : Int))]) (st' := []) rfl ?_
  exact h0
/-- what 'costs' answers -/
def coE (T : zTx) (lim : Int) (k p : Nat) : Int := if cbT T ((k + p : Nat) : Int) = 0 then 1000000000 else cstT T lim k p + lE T lim (k + p + 1)
theorem vX8_costs (hM : MT w T) (hV : TV T) (h2 : 13 ≤ lim ∧ lim ≤ 60) (hl : w 97 6 = lim) {k p : Nat} (hp : k + p < T.1) (hS : w 116 (k + p + 1) = lE T lim (k + p + 1)) : Pv ro 2 mX8_costs [(1, ((97 : Nat) : Int)), (0, (k : Int)), (0, ((k + p : Nat) : Int))] w (0, coE T lim k p) := by
  have hV1 := hV.1
  have b1 := lwS_bd hV k (p + 1)
  have b3 := cst_bd hV h2 hp
  have b4 := lE_bd' hV h2 (k + p + 1)
  have hpp := pT_01 hV ((k + p : Nat) : Int)
  have hpn := pT_01 hV (((k + p : Nat) : Int) + 1)
  have ecb : cbT T ((k + p : Nat) : Int) = if ((k + p : Nat) : Int) = (T.1 : Int) - 1 ∨ pT T ((k + p : Nat) : Int) = 0 ∨ pT T (((k + p : Nat) : Int) + 1) = 0 then 1 else 0 := rfl
  have ec : cstT T lim k p = costl (lwS T k (p + 1)) lim (islT T (k + p)) := rfl
  have ei : islT T (k + p) = if ((k + p : Nat) : Int) = (T.1 : Int) - 1 then 1 else 0 := rfl
  have hsp : Pv ro 1 mX8_span [(1, ((97 : Nat) : Int)), (0, (k : Int)), (0, ((k + p : Nat) : Int))] w (0, lwS T k (p + 1)) := by
    have := vX8_span (ro := ro) hM hV (a := k) (b := k + p) (by omega) hp
    rw [show k + p + 1 - k = p + 1 by omega] at this
    exact this
  have fin : coE T lim k p = cstT T lim k p + lE T lim (k + p + 1) → Z ro 2 mX8_costs 33 [(1, ((97 : Nat) : Int)), (0, (k : Int)), (0, ((k + p : Nat) : Int)), (9, 0), (9, 0)] [] w (fun r w' k9 => k9 = 0 ∧ ∃ o, r = .inl o ∧ (o = some (0, coE T lim k p) ∧ w' = w)) := by
    intro hc
    unfold costl at ec
    refine Z_push gX8_costs_33 (v := (1, ((97 : Nat) : Int))) rfl ?_
    refine Z_getV (v := lim) gX8_costs_34 rfl rfl (by decide) hl ?_
    refine Z_push gX8_costs_37 (v := (1, ((97 : Nat) : Int))) rfl ?_
    refine Z_push gX8_costs_38 (v := (0, (k : Int))) rfl ?_
    refine Z_push gX8_costs_39 (v := (0, ((k + p : Nat) : Int))) rfl ?_
    refine Z_callP (kd := 0) (na := 3) (M' := mX8_span) gX8_costs_40 rfl rfl rfl rfl rfl rfl (fun _ => rfl) rfl rfl (fun _ _ => zrecv_obj rfl _ _ _) (d' := 1) (by omega) (hsp) ?_
    refine Z_isub gX8_costs_43 ⟨by omega, by omega⟩ ?_
    refine Z_sto gX8_costs_44 rfl (ls' := [(1, ((97 : Nat) : Int)), (0, (k : Int)), (0, ((k + p : Nat) : Int)), (0, lim - (lwS T k (p + 1))), (9, 0)]) (st' := []) rfl ?_
    refine Z_push gX8_costs_45 (v := (0, lim - (lwS T k (p + 1)))) rfl ?_
    refine Z_if_ge gX8_costs_46 (tgt := 56) (by decide) (fun h46 => ?_) (fun h46 => ?_)
    · rw [if_neg (by omega)] at ec
      refine Z_push gX8_costs_56 (v := (0, ((k + p : Nat) : Int))) rfl ?_
      refine Z_push gX8_costs_57 (v := (0, 1)) rfl ?_
      refine Z_iadd gX8_costs_58 ⟨by omega, by omega⟩ ?_
      refine Z_push gX8_costs_59 (v := (1, ((97 : Nat) : Int))) rfl ?_
      refine Z_getV (v := (T.1 : Int)) gX8_costs_60 rfl rfl (by decide) hM.1 ?_
      refine Z_icmp_ne gX8_costs_63 (tgt := 70) (by decide) (fun h63 => ?_) (fun h63 => ?_)
      · rw [if_neg (by omega)] at ei
        rw [if_neg (by omega)] at ec
        have hsq := sq_small (x := lim - lwS T k (p + 1)) (by omega) (by omega)
        refine Z_push gX8_costs_70 (v := (0, lim - (lwS T k (p + 1)))) rfl ?_
        refine Z_push gX8_costs_71 (v := (0, lim - (lwS T k (p + 1)))) rfl ?_
        refine Z_imul gX8_costs_72 ⟨by omega, by omega⟩ ?_
        refine Z_sto gX8_costs_73 rfl (ls' := [(1, ((97 : Nat) : Int)), (0, (k : Int)), (0, ((k + p : Nat) : Int)), (0, lim - (lwS T k (p + 1))), (0, (lim - (lwS T k (p + 1))) * (lim - (lwS T k (p + 1))))]) (st' := []) rfl ?_
        refine Z_push gX8_costs_75 (v := (0, (lim - (lwS T k (p + 1))) * (lim - (lwS T k (p + 1))))) rfl ?_
        refine Z_push gX8_costs_77 (v := (1, ((97 : Nat) : Int))) rfl ?_
        refine Z_getR (b := 116) gX8_costs_78 rfl rfl (by decide) rfl (by omega) ?_
        refine Z_push gX8_costs_81 (v := (0, ((k + p : Nat) : Int))) rfl ?_
        refine Z_push gX8_costs_82 (v := (0, 1)) rfl ?_
        refine Z_iadd gX8_costs_83 ⟨by omega, by omega⟩ ?_
        refine Z_ialoadV (v := lE T lim (k + p + 1)) gX8_costs_84 rfl (by omega) (by omega) hS ?_
        refine Z_iadd gX8_costs_85 ⟨by omega, by omega⟩ ?_
        refine Z_ret (v := (0, ((lim - (lwS T k (p + 1))) * (lim - (lwS T k (p + 1)))) + (lE T lim (k + p + 1)))) gX8_costs_86 rfl rfl rfl rfl rfl _ ?_
        exact ⟨by rw [hc, ec], rfl⟩
      · rw [if_pos (by omega)] at ei
        rw [if_pos (by omega)] at ec
        refine Z_push gX8_costs_66 (v := (0, 0)) rfl ?_
        refine Z_goto gX8_costs_67 (tgt := 73) (by decide) ?_
        refine Z_sto gX8_costs_73 rfl (ls' := [(1, ((97 : Nat) : Int)), (0, (k : Int)), (0, ((k + p : Nat) : Int)), (0, lim - (lwS T k (p + 1))), (0, 0)]) (st' := []) rfl ?_
        refine Z_push gX8_costs_75 (v := (0, 0)) rfl ?_
        refine Z_push gX8_costs_77 (v := (1, ((97 : Nat) : Int))) rfl ?_
        refine Z_getR (b := 116) gX8_costs_78 rfl rfl (by decide) rfl (by omega) ?_
        refine Z_push gX8_costs_81 (v := (0, ((k + p : Nat) : Int))) rfl ?_
        refine Z_push gX8_costs_82 (v := (0, 1)) rfl ?_
        refine Z_iadd gX8_costs_83 ⟨by omega, by omega⟩ ?_
        refine Z_ialoadV (v := lE T lim (k + p + 1)) gX8_costs_84 rfl (by omega) (by omega) hS ?_
        refine Z_iadd gX8_costs_85 ⟨by omega, by omega⟩ ?_
        refine Z_ret (v := (0, 0 + (lE T lim (k + p + 1)))) gX8_costs_86 rfl rfl rfl rfl rfl _ ?_
        exact ⟨by rw [hc, ec], rfl⟩
    · rw [if_pos (by omega)] at ec
      refine Z_push gX8_costs_49 (v := (0, -100)) rfl ?_
      refine Z_push gX8_costs_51 (v := (0, lim - (lwS T k (p + 1)))) rfl ?_
      refine Z_imul gX8_costs_52 ⟨by omega, by omega⟩ ?_
      refine Z_goto gX8_costs_53 (tgt := 73) (by decide) ?_
      refine Z_sto gX8_costs_73 rfl (ls' := [(1, ((97 : Nat) : Int)), (0, (k : Int)), (0, ((k + p : Nat) : Int)), (0, lim - (lwS T k (p + 1))), (0, (-100) * (lim - (lwS T k (p + 1))))]) (st' := []) rfl ?_
      refine Z_push gX8_costs_75 (v := (0, (-100) * (lim - (lwS T k (p + 1))))) rfl ?_
      refine Z_push gX8_costs_77 (v := (1, ((97 : Nat) : Int))) rfl ?_
      refine Z_getR (b := 116) gX8_costs_78 rfl rfl (by decide) rfl (by omega) ?_
      refine Z_push gX8_costs_81 (v := (0, ((k + p : Nat) : Int))) rfl ?_
      refine Z_push gX8_costs_82 (v := (0, 1)) rfl ?_
      refine Z_iadd gX8_costs_83 ⟨by omega, by omega⟩ ?_
      refine Z_ialoadV (v := lE T lim (k + p + 1)) gX8_costs_84 rfl (by omega) (by omega) hS ?_
      refine Z_iadd gX8_costs_85 ⟨by omega, by omega⟩ ?_
      refine Z_ret (v := (0, ((-100) * (lim - (lwS T k (p + 1)))) + (lE T lim (k + p + 1)))) gX8_costs_86 rfl rfl rfl rfl rfl _ ?_
      exact ⟨by rw [hc, ec, show (-100 : Int) * (lim - lwS T k (p + 1)) = (lwS T k (p + 1) - lim) * 100 by omega], rfl⟩
  show Z ro 2 mX8_costs 0 [(1, ((97 : Nat) : Int)), (0, (k : Int)), (0, ((k + p : Nat) : Int)), (9, 0), (9, 0)] [] w _
  refine Z_push gX8_costs_0 (v := (0, ((k + p : Nat) : Int))) rfl ?_
  refine Z_push gX8_costs_1 (v := (0, 1)) rfl ?_
  refine Z_iadd gX8_costs_2 ⟨by omega, by omega⟩ ?_
  refine Z_push gX8_costs_3 (v := (1, ((97 : Nat) : Int))) rfl ?_
  refine Z_getV (v := (T.1 : Int)) gX8_costs_4 rfl rfl (by decide) hM.1 ?_
  refine Z_icmp_ge gX8_costs_7 (tgt := 33) (by decide) (fun h7 => ?_) (fun h7 => ?_)
  · rw [if_pos (by omega)] at ecb
    exact fin (if_neg (by omega))
  · refine Z_push gX8_costs_10 (v := (1, ((97 : Nat) : Int))) rfl ?_
    refine Z_getR (b := 101) gX8_costs_11 rfl rfl (by decide) rfl (by omega) ?_
    refine Z_push gX8_costs_14 (v := (0, ((k + p : Nat) : Int))) rfl ?_
    refine Z_baloadV (v := pT T ((k + p : Nat) : Int)) gX8_costs_15 rfl (by omega) (by omega) (hM.p (k := k + p) (by omega)) ?_
    refine Z_if_eq gX8_costs_16 (tgt := 33) (by decide) (fun h16 => ?_) (fun h16 => ?_)
    · rw [if_pos (by omega)] at ecb
      exact fin (if_neg (by omega))
    · refine Z_push gX8_costs_19 (v := (1, ((97 : Nat) : Int))) rfl ?_
      refine Z_getR (b := 101) gX8_costs_20 rfl rfl (by decide) rfl (by omega) ?_
      refine Z_push gX8_costs_23 (v := (0, ((k + p : Nat) : Int))) rfl ?_
      refine Z_push gX8_costs_24 (v := (0, 1)) rfl ?_
      refine Z_iadd gX8_costs_25 ⟨by omega, by omega⟩ ?_
      refine Z_baloadV (v := pT T (((k + p : Nat) : Int) + 1)) gX8_costs_26 rfl (by omega) (by omega) (hM.p (k := k + p + 1) (by omega)) ?_
      refine Z_if_eq gX8_costs_27 (tgt := 33) (by decide) (fun h27 => ?_) (fun h27 => ?_)
      · rw [if_pos (by omega)] at ecb
        exact fin (if_neg (by omega))
      · rw [if_neg (by omega)] at ecb
        refine Z_push gX8_costs_30 (v := (0, 1000000000)) rfl ?_
        refine Z_ret (v := (0, 1000000000)) gX8_costs_32 rfl rfl rfl rfl rfl _ ?_
        exact ⟨by rw [show coE T lim k p = 1000000000 from if_pos ecb], rfl⟩
def frN (w w' : zW) : Prop := ∀ a k, a ≠ 116 → w' a k = w a k
theorem frN.refl (w : zW) : frN w w := fun _ _ _ => rfl
theorem frN.trans {a b c : zW} (h : frN a b) (k : frN b c) : frN a c := fun x y h1 => (k x y h1).trans (h x y h1)
theorem frN.Y {w w' : zW} (h : frN w w') : frY w w' := fun a k h1 h2 => h a k (by omega)
theorem mn_le (hV : TV T) (h2 : 13 ≤ lim ∧ lim ≤ 60) {k : Nat} : ∀ m, k + m ≤ T.1 → 0 ≤ (mnE T lim k (lE T lim) m).1 ∧ (mnE T lim k (lE T lim) m).1 ≤ 1000000000
  | 0, _ => ⟨by show (0 : Int) ≤ 1000000000; omega, Int.le_refl _⟩
  | m + 1, h => by
    have ih := mn_le hV h2 (k := k) m (by omega)
    have b3 := cst_bd hV h2 (k := k) (m := m) (by omega)
    have b4 := lE_bd' hV h2 (k + m + 1)
    unfold mnE
    split
    · dsimp only; omega
    · exact ih
theorem mn_co (hV : TV T) (h2 : 13 ≤ lim ∧ lim ≤ 60) {k m : Nat} (h : k + m < T.1) : (mnE T lim k (lE T lim) (m + 1)).1 = if coE T lim k m < (mnE T lim k (lE T lim) m).1 then coE T lim k m else (mnE T lim k (lE T lim) m).1 := by
  have hb := mn_le hV h2 (k := k) m (by omega)
  show (if cbT T ((k + m : Nat) : Int) ≠ 0 ∧ cstT T lim k m + lE T lim (k + m + 1) ≤ (mnE T lim k (lE T lim) m).1 then (cstT T lim k m + lE T lim (k + m + 1), k + m + 1) else mnE T lim k (lE T lim) m).1 = _
  unfold coE
  by_cases h0 : cbT T ((k + m : Nat) : Int) = 0
  · rw [if_pos h0, if_neg (fun h => h.1 h0), if_neg (by omega)]
  · rw [if_neg h0]
    by_cases hc : cstT T lim k m + lE T lim (k + m + 1) ≤ (mnE T lim k (lE T lim) m).1
    · rw [if_pos ⟨h0, hc⟩]
      by_cases hd : cstT T lim k m + lE T lim (k + m + 1) < (mnE T lim k (lE T lim) m).1
      · rw [if_pos hd]
      · rw [if_neg hd]
        show cstT T lim k m + lE T lim (k + m + 1) = _
        omega
    · rw [if_neg (fun h => hc h.2), if_neg (by omega)]
theorem vX8_measure (hM : MT w T) (hV : TV T) (h2 : 13 ≤ lim ∧ lim ≤ 60) (hl : w 97 6 = lim) : Ev ro 3 mX8_measure [(1, ((97 : Nat) : Int))] w (fun o w' => o = none ∧ (∀ q, q ≤ T.1 → w' 116 q = lE T lim q) ∧ frN w w') := by
  have hV1 := hV.1
  have hMW : ∀ W, frN w W → MT W T := fun W f => MT_frame hM (fun a k h => f a k (by omega))
  have outer : ∀ k : Nat, k ≤ T.1 → ∀ (v2 v3 : zV) (W : zW), (∀ q, k ≤ q → q ≤ T.1 → W 116 q = lE T lim q) → frN w W → Z ro 3 mX8_measure 17 [(1, ((97 : Nat) : Int)), (0, (k : Int) - 1), v2, v3] [] W (fun r9 w' k9 => k9 = 0 ∧ ∃ o, r9 = .inl o ∧ (o = none ∧ (∀ q, q ≤ T.1 → w' 116 q = lE T lim q) ∧ frN w w')) := by
    intro k
    induction k with
    | zero =>
      intro hk v2 v3 W hS hf
      obtain ⟨x1, x2⟩ := v2
      obtain ⟨y1, y2⟩ := v3
      refine Z_push gX8_measure_17 (v := (0, ((0 : Nat) : Int) - 1)) rfl ?_
      refine Z_if_lt gX8_measure_18 (tgt := 84) (by decide) (fun _ => ?_) (fun h18 => absurd h18 (by omega))
      refine Z_end gX8_measure_84 rfl rfl rfl rfl (v := none) rfl ⟨rfl, none, rfl, ?_⟩
      exact ⟨rfl, fun q hq => hS q (by omega) hq, hf⟩
    | succ k ih =>
      intro hk v2 v3 W hS hf
      obtain ⟨x1, x2⟩ := v2
      obtain ⟨y1, y2⟩ := v3
      rw [show ((k + 1 : Nat) : Int) - 1 = (k : Int) by omega]
      have inner : ∀ q m : Nat, k + m + q = T.1 → ∀ (v3 : zV) (W : zW), (∀ q, k < q → q ≤ T.1 → W 116 q = lE T lim q) → W 116 k = (mnE T lim k (lE T lim) m).1 → frN w W → Z ro 3 mX8_measure 31 [(1, ((97 : Nat) : Int)), (0, (k : Int)), (0, ((k + m : Nat) : Int)), v3] [] W (fun r9 w' k9 => k9 = 0 ∧ ∃ o, r9 = .inl o ∧ (o = none ∧ (∀ q, q ≤ T.1 → w' 116 q = lE T lim q) ∧ frN w w')) := by
        intro q
        induction q with
        | zero =>
          intro m hm v3 W hS hk0 hf
          obtain ⟨y1, y2⟩ := v3
          have hk1 : W 116 k = lE T lim k := by rw [hk0, lE_s (by omega), show m = T.1 - k by omega]
          refine Z_push gX8_measure_31 (v := (0, ((k + m : Nat) : Int))) rfl ?_
          refine Z_push gX8_measure_32 (v := (1, ((97 : Nat) : Int))) rfl ?_
          refine Z_getV (v := (T.1 : Int)) gX8_measure_33 rfl rfl (by decide) (hMW W hf).1 ?_
          refine Z_icmp_ge gX8_measure_36 (tgt := 78) (by decide) (fun _ => ?_) (fun h36 => absurd h36 (by omega))
          refine Z_iinc gX8_measure_78 rfl ⟨by omega, by omega⟩ (ls' := [(1, ((97 : Nat) : Int)), (0, (k : Int) + (-1)), (0, ((k + m : Nat) : Int)), (y1, y2)]) rfl ?_
          refine Z_goto gX8_measure_81 (tgt := 17) (by decide) ?_
          rw [show (k : Int) + (-1) = (k : Int) - 1 by omega]
          exact ih (by omega) _ _ W (fun q h1 h2 => if e : q = k then by subst e; exact hk1 else hS q (by omega) h2) hf
        | succ q ih2 =>
          intro m hm v3 W hS hk0 hf
          obtain ⟨y1, y2⟩ := v3
          have hn := fun (v3 : zV) (x : Int) (hx : x = (mnE T lim k (lE T lim) (m + 1)).1) => ih2 (m + 1) (by omega) v3 (zup W 116 k x) (fun q h1 h2 => (zup_ne (by omega)).trans (hS q h1 h2)) ((zup_eq _ _ _ _).trans hx) (hf.trans (fun a k h => zup_ne (by omega)))
          rw [show ((k + (m + 1) : Nat) : Int) = ((k + m : Nat) : Int) + 1 from rfl, mn_co hV h2 (show k + m < T.1 by omega)] at hn
          refine Z_push gX8_measure_31 (v := (0, ((k + m : Nat) : Int))) rfl ?_
          refine Z_push gX8_measure_32 (v := (1, ((97 : Nat) : Int))) rfl ?_
          refine Z_getV (v := (T.1 : Int)) gX8_measure_33 rfl rfl (by decide) (hMW W hf).1 ?_
          refine Z_icmp_ge gX8_measure_36 (tgt := 78) (by decide) (fun h36 => absurd h36 (by omega)) (fun _ => ?_)
          refine Z_push gX8_measure_39 (v := (1, ((97 : Nat) : Int))) rfl ?_
          refine Z_push gX8_measure_40 (v := (0, (k : Int))) rfl ?_
          refine Z_push gX8_measure_41 (v := (0, ((k + m : Nat) : Int))) rfl ?_
          refine Z_callP (kd := 0) (na := 3) (M' := mX8_costs) gX8_measure_42 rfl rfl rfl rfl rfl rfl (fun _ => rfl) rfl rfl (fun _ _ => zrecv_obj rfl _ _ _) (d' := 2) (by omega) (vX8_costs (hMW W hf) hV h2 ((hf _ _ (by omega)).trans hl) (show k + m < T.1 by omega) (hS _ (by omega) (by omega))) ?_
          refine Z_sto gX8_measure_45 rfl (ls' := [(1, ((97 : Nat) : Int)), (0, (k : Int)), (0, ((k + m : Nat) : Int)), (0, coE T lim k m)]) (st' := []) rfl ?_
          refine Z_push gX8_measure_46 (v := (1, ((97 : Nat) : Int))) rfl ?_
          refine Z_getR (b := 116) gX8_measure_47 rfl rfl (by decide) rfl (by omega) ?_
          refine Z_push gX8_measure_50 (v := (0, (k : Int))) rfl ?_
          refine Z_push gX8_measure_51 (v := (0, coE T lim k m)) rfl ?_
          refine Z_push gX8_measure_52 (v := (1, ((97 : Nat) : Int))) rfl ?_
          refine Z_getR (b := 116) gX8_measure_53 rfl rfl (by decide) rfl (by omega) ?_
          refine Z_push gX8_measure_56 (v := (0, (k : Int))) rfl ?_
          refine Z_ialoadV (v := (mnE T lim k (lE T lim) m).1) gX8_measure_57 rfl (by omega) (by omega) hk0 ?_
          refine Z_icmp_ge gX8_measure_58 (tgt := 65) (by decide) (fun h58 => ?_) (fun h58 => ?_)
          · refine Z_push gX8_measure_65 (v := (1, ((97 : Nat) : Int))) rfl ?_
            refine Z_getR (b := 116) gX8_measure_66 rfl rfl (by decide) rfl (by omega) ?_
            refine Z_push gX8_measure_69 (v := (0, (k : Int))) rfl ?_
            refine Z_ialoadV (v := (mnE T lim k (lE T lim) m).1) gX8_measure_70 rfl (by omega) (by omega) hk0 ?_
            refine Z_iastore gX8_measure_71 rfl (by omega) (by omega) ?_
            refine Z_iinc gX8_measure_72 rfl ⟨by omega, by omega⟩ (ls' := [(1, ((97 : Nat) : Int)), (0, (k : Int)), (0, ((k + m : Nat) : Int) + 1), (0, coE T lim k m)]) rfl ?_
            refine Z_goto gX8_measure_75 (tgt := 31) (by decide) ?_
            exact hn _ _ (by rw [if_neg (by omega)])
          · refine Z_push gX8_measure_61 (v := (0, coE T lim k m)) rfl ?_
            refine Z_goto gX8_measure_62 (tgt := 71) (by decide) ?_
            refine Z_iastore gX8_measure_71 rfl (by omega) (by omega) ?_
            refine Z_iinc gX8_measure_72 rfl ⟨by omega, by omega⟩ (ls' := [(1, ((97 : Nat) : Int)), (0, (k : Int)), (0, ((k + m : Nat) : Int) + 1), (0, coE T lim k m)]) rfl ?_
            refine Z_goto gX8_measure_75 (tgt := 31) (by decide) ?_
            exact hn _ _ (by rw [if_pos (by omega)])
      refine Z_push gX8_measure_17 (v := (0, (k : Int))) rfl ?_
      refine Z_if_lt gX8_measure_18 (tgt := 84) (by decide) (fun h18 => absurd h18 (by omega)) (fun _ => ?_)
      refine Z_push gX8_measure_21 (v := (1, ((97 : Nat) : Int))) rfl ?_
      refine Z_getR (b := 116) gX8_measure_22 rfl rfl (by decide) rfl (by omega) ?_
      refine Z_push gX8_measure_25 (v := (0, (k : Int))) rfl ?_
      refine Z_push gX8_measure_26 (v := (0, 1000000000)) rfl ?_
      refine Z_iastore gX8_measure_28 rfl (by omega) (by omega) ?_
      refine Z_push gX8_measure_29 (v := (0, (k : Int))) rfl ?_
      refine Z_sto gX8_measure_30 rfl (ls' := [(1, ((97 : Nat) : Int)), (0, (k : Int)), (0, (k : Int)), (y1, y2)]) (st' := []) rfl ?_
      exact inner (T.1 - k) 0 (by omega) _ _ (fun q h1 h2 => (zup_ne (by omega)).trans (hS q (by omega) h2)) (zup_eq _ _ _ _) (hf.trans (fun a k h => zup_ne (by omega)))
  show Z ro 3 mX8_measure 0 [(1, ((97 : Nat) : Int)), (9, 0), (9, 0), (9, 0)] [] w _
  have f0 : frN w (zup w 116 T.1 0) := fun a k h => zup_ne (by omega)
  refine Z_push gX8_measure_0 (v := (1, ((97 : Nat) : Int))) rfl ?_
  refine Z_getR (b := 116) gX8_measure_1 rfl rfl (by decide) rfl (by omega) ?_
  refine Z_push gX8_measure_4 (v := (1, ((97 : Nat) : Int))) rfl ?_
  refine Z_getV (v := (T.1 : Int)) gX8_measure_5 rfl rfl (by decide) hM.1 ?_
  refine Z_push gX8_measure_8 (v := (0, 0)) rfl ?_
  refine Z_iastore gX8_measure_9 rfl (by omega) (by omega) ?_
  refine Z_push gX8_measure_10 (v := (1, ((97 : Nat) : Int))) rfl ?_
  refine Z_getV (v := (T.1 : Int)) gX8_measure_11 rfl rfl (by decide) (hMW _ f0).1 ?_
  refine Z_push gX8_measure_14 (v := (0, 1)) rfl ?_
  refine Z_isub gX8_measure_15 ⟨by omega, by omega⟩ ?_
  refine Z_sto gX8_measure_16 rfl (ls' := [(1, ((97 : Nat) : Int)), (0, (T.1 : Int) - 1), (9, 0), (9, 0)]) (st' := []) rfl ?_
  refine outer T.1 (Nat.le_refl _) _ _ _ (fun q h1 h2 => ?_) f0
  rw [lE_end h1, show q = T.1 by omega]
  exact zup_eq _ _ _ _
theorem mX8w_cost (hM : MR w T R D lim la) (hV : SV B T R D lim la) : Ev ro 4 mX8_cost [(1, ((97 : Nat) : Int))] w (rM w 0 0 (lE T lim 0) (fun w' => MR w' T R D lim la)) := by
  obtain ⟨hTV, hRV, hDV, hlim, hla, hop, hopD⟩ := id hV
  have hV1 := hTV.1
  have hM1 := MR_Y hM (frY.th w 0)
  have h0 : zup w 97 0 0 97 0 = 0 := zup_eq _ _ _ _
  have f0 : frM w (zup w 97 0 0) := (frY.th w 0).M
  show Z ro 4 mX8_cost 0 [(1, ((97 : Nat) : Int))] [] w _
  refine Z_push gX8_cost_0 (v := (1, ((97 : Nat) : Int))) rfl ?_
  refine Z_push gX8_cost_1 (v := (0, 0)) rfl ?_
  refine Z_put gX8_cost_2 rfl rfl (by decide) rfl (fun h => by cases h) ?_
  generalize zup w 97 0 0 = w1 at hM1 h0 f0 ⊢
  obtain ⟨hT1, hU1, hD1, hl1, hla1, hln1⟩ := id hM1
  refine Z_push gX8_cost_5 (v := (1, ((97 : Nat) : Int))) rfl ?_
  refine Z_callE (kd := 0) (na := 1) (M' := mX8_measure) gX8_cost_6 rfl rfl rfl rfl rfl rfl (fun _ => rfl) rfl rfl (fun _ _ => zrecv_obj rfl _ _ _) (d' := 3) (by omega) (vX8_measure hT1 hTV hlim hl1) ?_
  rintro o w2 ⟨rfl, g1, g2⟩
  refine Z_push gX8_cost_9 (v := (1, ((97 : Nat) : Int))) rfl ?_
  refine Z_getR (b := 116) gX8_cost_10 rfl rfl (by decide) rfl (by omega) ?_
  refine Z_push gX8_cost_13 (v := (0, 0)) rfl ?_
  refine Z_ialoadV (v := lE T lim 0) gX8_cost_14 rfl (by omega) (by omega) (g1 0 (by omega)) ?_
  refine Z_ret (v := (0, lE T lim 0)) gX8_cost_15 rfl rfl rfl rfl rfl _ ?_
  exact ⟨⟨_, rfl, fun _ => rfl⟩, (g2 _ _ (by omega)).trans h0, MR_Y hM1 g2.Y, f0.trans g2.Y.M⟩
theorem mX8w_costByTrying (hM : MR w T R D lim la) (hV : SV B T R D lim la) : Ev ro 4 mX8_costByTrying [(1, ((97 : Nat) : Int))] w (rM w 0 (cdCT T) (lE T lim 0) (fun w' => MR w' T R D lim la)) := by
  obtain ⟨hTV, hRV, hDV, hlim, hla, hop, hopD⟩ := id hV
  have hV1 := hTV.1
  have hM1 := MR_Y hM (frY.th w 0)
  have h0 : zup w 97 0 0 97 0 = 0 := zup_eq _ _ _ _
  have f0 : frM w (zup w 97 0 0) := (frY.th w 0).M
  show Z ro 4 mX8_costByTrying 0 [(1, ((97 : Nat) : Int))] [] w _
  refine Z_push gX8_costByTrying_0 (v := (1, ((97 : Nat) : Int))) rfl ?_
  refine Z_push gX8_costByTrying_1 (v := (0, 0)) rfl ?_
  refine Z_put gX8_costByTrying_2 rfl rfl (by decide) rfl (fun h => by cases h) ?_
  generalize zup w 97 0 0 = w1 at hM1 h0 f0 ⊢
  obtain ⟨hT1, hU1, hD1, hl1, hla1, hln1⟩ := id hM1
  refine Z_push gX8_costByTrying_5 (v := (1, ((97 : Nat) : Int))) rfl ?_
  refine Z_push gX8_costByTrying_6 (v := (1, ((97 : Nat) : Int))) rfl ?_
  refine Z_getV (v := (T.1 : Int)) gX8_costByTrying_7 rfl rfl (by decide) hT1.1 ?_
  refine Z_push gX8_costByTrying_10 (v := (0, 12)) rfl ?_
  refine Z_icmp_le gX8_costByTrying_12 (tgt := 19) (by decide) (fun h12 => ?_) (fun h12 => ?_)
  · refine Z_push gX8_costByTrying_19 (v := (0, 0)) rfl ?_
    refine Z_push gX8_costByTrying_20 (v := (0, 1)) rfl ?_
    refine Z_callP (kd := 0) (na := 3) (M' := mX8_fails) gX8_costByTrying_21 rfl rfl rfl rfl rfl rfl (fun _ => rfl) rfl rfl (fun _ _ => zrecv_obj rfl _ _ _) (d' := 0) (by omega) (fail0 h0 1) ?_
    refine Z_if_eq gX8_costByTrying_24 (tgt := 29) (by decide) (fun _ => ?_) (fun h24 => absurd h24 (by omega))
    refine Z_push gX8_costByTrying_29 (v := (1, ((97 : Nat) : Int))) rfl ?_
    refine Z_callE (kd := 0) (na := 1) (M' := mX8_measure) gX8_costByTrying_30 rfl rfl rfl rfl rfl rfl (fun _ => rfl) rfl rfl (fun _ _ => zrecv_obj rfl _ _ _) (d' := 3) (by omega) (vX8_measure hT1 hTV hlim hl1) ?_
    rintro o w2 ⟨rfl, g1, g2⟩
    refine Z_push gX8_costByTrying_33 (v := (1, ((97 : Nat) : Int))) rfl ?_
    refine Z_getR (b := 116) gX8_costByTrying_34 rfl rfl (by decide) rfl (by omega) ?_
    refine Z_push gX8_costByTrying_37 (v := (0, 0)) rfl ?_
    refine Z_ialoadV (v := lE T lim 0) gX8_costByTrying_38 rfl (by omega) (by omega) (g1 0 (by omega)) ?_
    refine Z_ret (v := (0, lE T lim 0)) gX8_costByTrying_39 rfl rfl rfl rfl rfl _ ?_
    have hcd : (cdCT T) = 0 := by unfold cdCT; (repeat' split) <;> omega
    exact ⟨⟨_, rfl, fun _ => rfl⟩, ((g2 _ _ (by omega)).trans h0).trans (by rw [hcd]; rfl), MR_Y hM1 g2.Y, f0.trans g2.Y.M⟩
  · refine Z_push gX8_costByTrying_15 (v := (0, 1)) rfl ?_
    refine Z_goto gX8_costByTrying_16 (tgt := 20) (by decide) ?_
    refine Z_push gX8_costByTrying_20 (v := (0, 1)) rfl ?_
    refine Z_callQ (kd := 0) (na := 3) (M' := mX8_fails) gX8_costByTrying_21 rfl rfl rfl rfl rfl rfl (fun _ => rfl) rfl rfl (fun _ _ => zrecv_obj rfl _ _ _) (d' := 0) (by omega) (fail1 h0 (by omega)) ?_
    refine Z_if_eq gX8_costByTrying_24 (tgt := 29) (by decide) (fun h24 => absurd h24 (by omega)) (fun _ => ?_)
    refine Z_push gX8_costByTrying_27 (v := (0, 0)) rfl ?_
    refine Z_ret (v := (0, 0)) gX8_costByTrying_28 rfl rfl rfl rfl rfl _ ?_
    have hcd : (cdCT T) = 1 := by unfold cdCT; (repeat' split) <;> omega
    exact ⟨⟨_, rfl, fun h => absurd h (by omega)⟩, (zup_eq _ _ _ _).trans (by rw [hcd]; rfl), MR_Y hM1 (frY.th w1 1), f0.trans (frY.th w1 1).M⟩
theorem mX8w_layOut (hM : MR w T R D lim la) (hV : SV B T R D lim la) : Ev ro 4 mX8_layOut [(1, ((97 : Nat) : Int))] w (mM w 0 0 (lcE T lim : Int) (fun w' => MR w' T R D lim 1) (fun w' => MR w' T R D lim la)) := by
  obtain ⟨hTV, hRV, hDV, hlim, hla, hop, hopD⟩ := id hV
  have hV1 := hTV.1
  have hM1 := MR_Y hM (frY.th w 0)
  have h0 : zup w 97 0 0 97 0 = 0 := zup_eq _ _ _ _
  have f0 : frM w (zup w 97 0 0) := (frY.th w 0).M
  show Z ro 4 mX8_layOut 0 [(1, ((97 : Nat) : Int)), (9, 0), (9, 0), (9, 0), (9, 0)] [] w _
  refine Z_push gX8_layOut_0 (v := (1, ((97 : Nat) : Int))) rfl ?_
  refine Z_push gX8_layOut_1 (v := (0, 0)) rfl ?_
  refine Z_put gX8_layOut_2 rfl rfl (by decide) rfl (fun h => by cases h) ?_
  generalize zup w 97 0 0 = w1 at hM1 h0 f0 ⊢
  obtain ⟨hT1, hU1, hD1, hl1, hla1, hln1⟩ := id hM1
  refine Z_push gX8_layOut_5 (v := (1, ((97 : Nat) : Int))) rfl ?_
  refine Z_callE (kd := 0) (na := 1) (M' := mX8_measure) gX8_layOut_6 rfl rfl rfl rfl rfl rfl (fun _ => rfl) rfl rfl (fun _ _ => zrecv_obj rfl _ _ _) (d' := 3) (by omega) (vX8_measure hT1 hTV hlim hl1) ?_
  rintro o w2 ⟨rfl, g1, g2⟩
  have hM2 := MR_Y hM1 g2.Y
  have h02 : w2 97 0 = 0 := (g2 _ _ (by omega)).trans h0
  have f02 := f0.trans g2.Y.M
  clear hM1 h0 f0 hT1 hU1 hD1 hl1 hla1 hln1
  obtain ⟨hT2, hU2, hD2, hl2, hla2, -⟩ := id hM2
  have hlcT := lc_le T lim
  -- nothing but the lines is written
  have stay : ∀ W, (∀ a k, a ≠ 104 → W a k = w2 a k) → MT W T ∧ W 97 6 = lim ∧ (∀ q, q ≤ T.1 → W 116 q = lE T lim q) := fun W f => ⟨MT_frame hT2 (fun a k h => f a k (by omega)), (f _ _ (by omega)).trans hl2, fun q hq => (f _ _ (by omega)).trans (g1 q hq)⟩
  have outer : ∀ m i : Nat, i + m = lcE T lim → ∀ (v3 v4 : zV) (W : zW), (∀ q, q < stE T lim i → W 104 q = (lnE T lim q : Int)) → (∀ a k, a ≠ 104 → W a k = w2 a k) → Z ro 4 mX8_layOut 13 [(1, ((97 : Nat) : Int)), (0, (i : Int)), (0, (stE T lim i : Int)), v3, v4] [] W (fun r9 w' k9 => k9 = 0 ∧ ∃ o, r9 = .inl o ∧ (mM w 0 0 (lcE T lim : Int) (fun w' => MR w' T R D lim 1) (fun w' => MR w' T R D lim la)) o w') := by
    intro m
    induction m with
    | zero =>
      intro i hi v3 v4 W hL hf
      obtain ⟨x1, x2⟩ := v3
      obtain ⟨y1, y2⟩ := v4
      obtain rfl : i = lcE T lim := by omega
      have hst := st_lc hTV hlim
      refine Z_push gX8_layOut_13 (v := (0, (stE T lim (lcE T lim) : Int))) rfl ?_
      refine Z_push gX8_layOut_14 (v := (1, ((97 : Nat) : Int))) rfl ?_
      refine Z_getV (v := (T.1 : Int)) gX8_layOut_15 rfl rfl (by decide) (stay W hf).1.1 ?_
      refine Z_icmp_ge gX8_layOut_18 (tgt := 82) (by decide) (fun _ => ?_) (fun h18 => absurd h18 (by omega))
      refine Z_push gX8_layOut_82 (v := (1, ((97 : Nat) : Int))) rfl ?_
      refine Z_push gX8_layOut_83 (v := (0, 1)) rfl ?_
      refine Z_put gX8_layOut_84 rfl rfl (by decide) rfl (fun _ => (by first | exact Or.inl rfl | exact Or.inr rfl | assumption)) ?_
      refine Z_push gX8_layOut_87 (v := (0, (lcE T lim : Int))) rfl ?_
      refine Z_ret (v := (0, (lcE T lim : Int))) gX8_layOut_88 rfl rfl rfl rfl rfl _ ?_
      refine ⟨⟨_, rfl, fun _ => rfl⟩, (zup_ne (by omega)).trans ((hf _ _ (by omega)).trans h02), fun _ => ⟨MT_frame hT2 (fun a k h => (zup_ne (by omega)).trans (hf a k (by omega))), MU_frame hU2 (fun a k h => (zup_ne (by omega)).trans (hf a k (by omega))), MD_frame hD2 (fun a k h => (zup_ne (by omega)).trans (hf a k (by omega))), (zup_ne (by omega)).trans ((hf _ _ (by omega)).trans hl2), zup_eq _ _ _ _, fun _ k hk => (zup_ne (by omega)).trans (hL k (by omega))⟩, fun h => absurd rfl h, fun a k ha => (zup_ne (by omega)).trans ((hf a k (by omega)).trans (f02 a k ha))⟩
    | succ m ih =>
      intro i hi v3 v4 W hL hf
      obtain ⟨x1, x2⟩ := v3
      obtain ⟨y1, y2⟩ := v4
      have hst := (lc_iff hTV hlim i).mpr (by omega)
      obtain ⟨q, q1, q2, q3, q4, q5, q6⟩ := nx_spec hTV hlim hst
      have hs := st_s hst
      have hlb := lE_bd' hTV hlim (stE T lim i)
      -- the entries of the line are told its number
      have fill : ∀ p m2 : Nat, m2 + p = q + 1 → ∀ W : zW, (∀ r, r < stE T lim i + m2 → W 104 r = (lnE T lim r : Int)) → (∀ a k, a ≠ 104 → W a k = w2 a k) → Z ro 4 mX8_layOut 52 [(1, ((97 : Nat) : Int)), (0, (i : Int)), (0, (stE T lim i : Int)), (0, ((stE T lim i + q : Nat) : Int)), (0, ((stE T lim i + m2 : Nat) : Int))] [] W (fun r9 w' k9 => k9 = 0 ∧ ∃ o, r9 = .inl o ∧ (mM w 0 0 (lcE T lim : Int) (fun w' => MR w' T R D lim 1) (fun w' => MR w' T R D lim la)) o w') := by
        intro p
        induction p with
        | zero =>
          intro m2 hm W hL hf
          refine Z_push gX8_layOut_52 (v := (0, ((stE T lim i + m2 : Nat) : Int))) rfl ?_
          refine Z_push gX8_layOut_54 (v := (0, ((stE T lim i + q : Nat) : Int))) rfl ?_
          refine Z_icmp_gt gX8_layOut_55 (tgt := 72) (by decide) (fun _ => ?_) (fun h55 => absurd h55 (by omega))
          refine Z_iinc gX8_layOut_72 rfl ⟨by omega, by omega⟩ (ls' := [(1, ((97 : Nat) : Int)), (0, (i : Int) + 1), (0, (stE T lim i : Int)), (0, ((stE T lim i + q : Nat) : Int)), (0, ((stE T lim i + m2 : Nat) : Int))]) rfl ?_
          refine Z_push gX8_layOut_75 (v := (0, ((stE T lim i + q : Nat) : Int))) rfl ?_
          refine Z_push gX8_layOut_76 (v := (0, 1)) rfl ?_
          refine Z_iadd gX8_layOut_77 ⟨by omega, by omega⟩ ?_
          refine Z_sto gX8_layOut_78 rfl (ls' := [(1, ((97 : Nat) : Int)), (0, (i : Int) + 1), (0, ((stE T lim i + q : Nat) : Int) + 1), (0, ((stE T lim i + q : Nat) : Int)), (0, ((stE T lim i + m2 : Nat) : Int))]) (st' := []) rfl ?_
          refine Z_goto gX8_layOut_79 (tgt := 13) (by decide) ?_
          have hn := ih (i + 1) (by omega) (0, ((stE T lim i + q : Nat) : Int)) (0, ((stE T lim i + m2 : Nat) : Int)) W (fun r hr => hL r (by omega)) hf
          rw [hs, q2] at hn
          exact hn
        | succ p ihp =>
          intro m2 hm W hL hf
          have eln : lnE T lim (stE T lim i + m2) = i := ln_uniq hTV hlim (by omega) (by omega) (by rw [hs, q2]; omega)
          refine Z_push gX8_layOut_52 (v := (0, ((stE T lim i + m2 : Nat) : Int))) rfl ?_
          refine Z_push gX8_layOut_54 (v := (0, ((stE T lim i + q : Nat) : Int))) rfl ?_
          refine Z_icmp_gt gX8_layOut_55 (tgt := 72) (by decide) (fun h55 => absurd h55 (by omega)) (fun _ => ?_)
          refine Z_push gX8_layOut_58 (v := (1, ((97 : Nat) : Int))) rfl ?_
          refine Z_getR (b := 104) gX8_layOut_59 rfl rfl (by decide) rfl (by omega) ?_
          refine Z_push gX8_layOut_62 (v := (0, ((stE T lim i + m2 : Nat) : Int))) rfl ?_
          refine Z_push gX8_layOut_64 (v := (0, (i : Int))) rfl ?_
          refine Z_iastore gX8_layOut_65 rfl (by omega) (by omega) ?_
          refine Z_iinc gX8_layOut_66 rfl ⟨by omega, by omega⟩ (ls' := [(1, ((97 : Nat) : Int)), (0, (i : Int)), (0, (stE T lim i : Int)), (0, ((stE T lim i + q : Nat) : Int)), (0, ((stE T lim i + m2 : Nat) : Int) + 1)]) rfl ?_
          refine Z_goto gX8_layOut_69 (tgt := 52) (by decide) ?_
          refine ihp (m2 + 1) (by omega) _ (fun r hr => ?_) (fun a k h => (zup_ne (by omega)).trans (hf a k h))
          by_cases e : r = stE T lim i + m2
          · subst e
            rw [eln]
            exact zup_eq _ _ _ _
          · exact (zup_ne (fun h => e h.2)).trans (hL r (by omega))
      have find : ∀ p m2 : Nat, m2 = q + p → stE T lim i + m2 < T.1 → ∀ v4 : zV, Z ro 4 mX8_layOut 28 [(1, ((97 : Nat) : Int)), (0, (i : Int)), (0, (stE T lim i : Int)), (0, ((stE T lim i + m2 : Nat) : Int)), v4] [] W (fun r9 w' k9 => k9 = 0 ∧ ∃ o, r9 = .inl o ∧ (mM w 0 0 (lcE T lim : Int) (fun w' => MR w' T R D lim 1) (fun w' => MR w' T R D lim la)) o w') := by
        intro p
        induction p with
        | zero =>
          intro m2 hm hlt v4
          obtain ⟨y1, y2⟩ := v4
          obtain rfl : m2 = q := by omega
          have ec : coE T lim (stE T lim i) m2 = lE T lim (stE T lim i) := by
            unfold coE
            rw [if_neg q3]
            exact q4.symm
          refine Z_push gX8_layOut_28 (v := (1, ((97 : Nat) : Int))) rfl ?_
          refine Z_push gX8_layOut_29 (v := (0, (stE T lim i : Int))) rfl ?_
          refine Z_push gX8_layOut_30 (v := (0, ((stE T lim i + m2 : Nat) : Int))) rfl ?_
          refine Z_callP (kd := 0) (na := 3) (M' := mX8_costs) gX8_layOut_31 rfl rfl rfl rfl rfl rfl (fun _ => rfl) rfl rfl (fun _ _ => zrecv_obj rfl _ _ _) (d' := 2) (by omega) (vX8_costs (stay W hf).1 hTV hlim (stay W hf).2.1 hlt ((stay W hf).2.2 _ (by omega))) ?_
          refine Z_push gX8_layOut_34 (v := (1, ((97 : Nat) : Int))) rfl ?_
          refine Z_getR (b := 116) gX8_layOut_35 rfl rfl (by decide) rfl (by omega) ?_
          refine Z_push gX8_layOut_38 (v := (0, (stE T lim i : Int))) rfl ?_
          refine Z_ialoadV (v := lE T lim (stE T lim i)) gX8_layOut_39 rfl (by omega) (by omega) ((stay W hf).2.2 _ (by omega)) ?_
          refine Z_icmp_eq gX8_layOut_40 (tgt := 49) (by decide) (fun _ => ?_) (fun h40 => absurd h40 (by omega))
          refine Z_push gX8_layOut_49 (v := (0, (stE T lim i : Int))) rfl ?_
          refine Z_sto gX8_layOut_50 rfl (ls' := [(1, ((97 : Nat) : Int)), (0, (i : Int)), (0, (stE T lim i : Int)), (0, ((stE T lim i + m2 : Nat) : Int)), (0, (stE T lim i : Int))]) (st' := []) rfl ?_
          exact fill (m2 + 1) 0 (by omega) W (fun r hr => hL r hr) hf
        | succ p ihp =>
          intro m2 hm hlt v4
          obtain ⟨y1, y2⟩ := v4
          have ec : coE T lim (stE T lim i) m2 ≠ lE T lim (stE T lim i) := by
            unfold coE
            by_cases hc : cbT T ((stE T lim i + m2 : Nat) : Int) = 0
            · rw [if_pos hc]; omega
            · rw [if_neg hc]
              have := q5 m2 (by omega) hlt hc
              omega
          have hn := ihp (m2 - 1) (by omega) (by omega) (y1, y2)
          rw [show ((stE T lim i + (m2 - 1) : Nat) : Int) = ((stE T lim i + m2 : Nat) : Int) + (-1) by omega] at hn
          refine Z_push gX8_layOut_28 (v := (1, ((97 : Nat) : Int))) rfl ?_
          refine Z_push gX8_layOut_29 (v := (0, (stE T lim i : Int))) rfl ?_
          refine Z_push gX8_layOut_30 (v := (0, ((stE T lim i + m2 : Nat) : Int))) rfl ?_
          refine Z_callP (kd := 0) (na := 3) (M' := mX8_costs) gX8_layOut_31 rfl rfl rfl rfl rfl rfl (fun _ => rfl) rfl rfl (fun _ _ => zrecv_obj rfl _ _ _) (d' := 2) (by omega) (vX8_costs (stay W hf).1 hTV hlim (stay W hf).2.1 hlt ((stay W hf).2.2 _ (by omega))) ?_
          refine Z_push gX8_layOut_34 (v := (1, ((97 : Nat) : Int))) rfl ?_
          refine Z_getR (b := 116) gX8_layOut_35 rfl rfl (by decide) rfl (by omega) ?_
          refine Z_push gX8_layOut_38 (v := (0, (stE T lim i : Int))) rfl ?_
          refine Z_ialoadV (v := lE T lim (stE T lim i)) gX8_layOut_39 rfl (by omega) (by omega) ((stay W hf).2.2 _ (by omega)) ?_
          refine Z_icmp_eq gX8_layOut_40 (tgt := 49) (by decide) (fun h40 => absurd h40 (by omega)) (fun _ => ?_)
          refine Z_iinc gX8_layOut_43 rfl ⟨by omega, by omega⟩ (ls' := [(1, ((97 : Nat) : Int)), (0, (i : Int)), (0, (stE T lim i : Int)), (0, ((stE T lim i + m2 : Nat) : Int) + (-1)), (y1, y2)]) rfl ?_
          refine Z_goto gX8_layOut_46 (tgt := 28) (by decide) ?_
          exact hn
      have hn := find (T.1 - 1 - stE T lim i - q) (T.1 - 1 - stE T lim i) (by omega) (by omega) (y1, y2)
      rw [show ((stE T lim i + (T.1 - 1 - stE T lim i) : Nat) : Int) = (T.1 : Int) - 1 by omega] at hn
      refine Z_push gX8_layOut_13 (v := (0, (stE T lim i : Int))) rfl ?_
      refine Z_push gX8_layOut_14 (v := (1, ((97 : Nat) : Int))) rfl ?_
      refine Z_getV (v := (T.1 : Int)) gX8_layOut_15 rfl rfl (by decide) (stay W hf).1.1 ?_
      refine Z_icmp_ge gX8_layOut_18 (tgt := 82) (by decide) (fun h18 => absurd h18 (by omega)) (fun _ => ?_)
      refine Z_push gX8_layOut_21 (v := (1, ((97 : Nat) : Int))) rfl ?_
      refine Z_getV (v := (T.1 : Int)) gX8_layOut_22 rfl rfl (by decide) (stay W hf).1.1 ?_
      refine Z_push gX8_layOut_25 (v := (0, 1)) rfl ?_
      refine Z_isub gX8_layOut_26 ⟨by omega, by omega⟩ ?_
      refine Z_sto gX8_layOut_27 rfl (ls' := [(1, ((97 : Nat) : Int)), (0, (i : Int)), (0, (stE T lim i : Int)), (0, (T.1 : Int) - 1), (y1, y2)]) (st' := []) rfl ?_
      exact hn
  refine Z_push gX8_layOut_9 (v := (0, 0)) rfl ?_
  refine Z_sto gX8_layOut_10 rfl (ls' := [(1, ((97 : Nat) : Int)), (0, 0), (9, 0), (9, 0), (9, 0)]) (st' := []) rfl ?_
  refine Z_push gX8_layOut_11 (v := (0, 0)) rfl ?_
  refine Z_sto gX8_layOut_12 rfl (ls' := [(1, ((97 : Nat) : Int)), (0, 0), (0, 0), (9, 0), (9, 0)]) (st' := []) rfl ?_
  exact outer (lcE T lim) 0 (by omega) _ _ w2 (fun q h => absurd (show q < 0 from h) (Nat.not_lt_zero _)) (fun _ _ _ => rfl)
end
