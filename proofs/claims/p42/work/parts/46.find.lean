/-! what is found at an entry -/
def rpT (T : zTx) (j : Int) : Int := if kT T j = 110 ∧ isT T (j + 1) (T.2 j.toNat).2.1 = 1 then 0 else if kT T j = 123 ∧ kT T (j + 1) = 125 then 1 else if kT T j = 99 ∧ kT T (j + 1) = 125 then 2 else if kT T j = 99 ∧ kT T (j + 1) = 99 then 3 else -1
def blT (T : zTx) (j : Int) : Int := if kT T j = 123 ∧ kT T (j + 1) = 110 ∧ kT T (j + 2) = 125 then 1 else 0
section
variable {ro : zRo} {w : zW} {t : Nat} {T : zTx}
theorem vX3_ruleOfPair (hT : TX t) (hR : TR w t T) (hV : TV T) {j : Int} (hj : 0 ≤ j ∧ j < T.1) : Pv ro 3 mX3_ruleOfPair [(1, (t : Int)), (0, j)] w (0, rpT T j) := by
  have hL0 := hT.1
  have hV1 := hV.1
  have h01 := isT_01 T (j + 1) (T.2 j.toNat).2.1
  show Z ro 3 mX3_ruleOfPair 0 [(1, (t : Int)), (0, j), (9, 0), (9, 0)] [] w _
  have tail : ¬ (kT T j = 110 ∧ isT T (j + 1) (T.2 j.toNat).2.1 = 1) → Z ro 3 mX3_ruleOfPair 37 [(1, (t : Int)), (0, j), (0, kT T j), (0, kT T (j + 1))] [] w (fun r w' k => k = 0 ∧ ∃ o, r = .inl o ∧ (o = some (0, rpT T j) ∧ w' = w)) := by
    intro h0
    have t3 : ¬ (kT T j = 123 ∧ kT T (j + 1) = 125) → ¬ (kT T j = 99 ∧ kT T (j + 1) = 125) → Z ro 3 mX3_ruleOfPair 65 [(1, (t : Int)), (0, j), (0, kT T j), (0, kT T (j + 1))] [] w (fun r w' k => k = 0 ∧ ∃ o, r = .inl o ∧ (o = some (0, rpT T j) ∧ w' = w)) := by
      intro h1 h2
      refine Z_push gX3_ruleOfPair_65 (v := (0, kT T j)) rfl ?_
      refine Z_push gX3_ruleOfPair_66 (v := (0, 99)) rfl ?_
      refine Z_icmp_ne gX3_ruleOfPair_68 (tgt := 81) (by decide) (fun h68 => ?_) (fun h68 => ?_)
      · refine Z_push gX3_ruleOfPair_81 (v := (0, -1)) rfl ?_
        refine Z_ret (v := (0, -1)) gX3_ruleOfPair_82 rfl rfl rfl rfl rfl _ ?_
        exact ⟨by unfold rpT; rw [if_neg h0, if_neg h1, if_neg h2, if_neg (fun h => h68 h.1)], rfl⟩
      · refine Z_push gX3_ruleOfPair_71 (v := (0, kT T (j + 1))) rfl ?_
        refine Z_push gX3_ruleOfPair_72 (v := (0, 99)) rfl ?_
        refine Z_icmp_ne gX3_ruleOfPair_74 (tgt := 81) (by decide) (fun h74 => ?_) (fun h74 => ?_)
        · refine Z_push gX3_ruleOfPair_81 (v := (0, -1)) rfl ?_
          refine Z_ret (v := (0, -1)) gX3_ruleOfPair_82 rfl rfl rfl rfl rfl _ ?_
          exact ⟨by unfold rpT; rw [if_neg h0, if_neg h1, if_neg h2, if_neg (fun h => h74 h.2)], rfl⟩
        · refine Z_push gX3_ruleOfPair_77 (v := (0, 3)) rfl ?_
          refine Z_goto gX3_ruleOfPair_78 (tgt := 82) (by decide) ?_
          refine Z_ret (v := (0, 3)) gX3_ruleOfPair_82 rfl rfl rfl rfl rfl _ ?_
          exact ⟨by unfold rpT; rw [if_neg h0, if_neg h1, if_neg h2, if_pos ⟨h68, h74⟩], rfl⟩
    have t2 : ¬ (kT T j = 123 ∧ kT T (j + 1) = 125) → Z ro 3 mX3_ruleOfPair 51 [(1, (t : Int)), (0, j), (0, kT T j), (0, kT T (j + 1))] [] w (fun r w' k => k = 0 ∧ ∃ o, r = .inl o ∧ (o = some (0, rpT T j) ∧ w' = w)) := by
      intro h1
      refine Z_push gX3_ruleOfPair_51 (v := (0, kT T j)) rfl ?_
      refine Z_push gX3_ruleOfPair_52 (v := (0, 99)) rfl ?_
      refine Z_icmp_ne gX3_ruleOfPair_54 (tgt := 65) (by decide) (fun h54 => ?_) (fun h54 => ?_)
      · exact t3 h1 (fun h => h54 h.1)
      · refine Z_push gX3_ruleOfPair_57 (v := (0, kT T (j + 1))) rfl ?_
        refine Z_push gX3_ruleOfPair_58 (v := (0, 125)) rfl ?_
        refine Z_icmp_ne gX3_ruleOfPair_60 (tgt := 65) (by decide) (fun h60 => ?_) (fun h60 => ?_)
        · exact t3 h1 (fun h => h60 h.2)
        · refine Z_push gX3_ruleOfPair_63 (v := (0, 2)) rfl ?_
          refine Z_ret (v := (0, 2)) gX3_ruleOfPair_64 rfl rfl rfl rfl rfl _ ?_
          exact ⟨by unfold rpT; rw [if_neg h0, if_neg h1, if_pos ⟨h54, h60⟩], rfl⟩
    refine Z_push gX3_ruleOfPair_37 (v := (0, kT T j)) rfl ?_
    refine Z_push gX3_ruleOfPair_38 (v := (0, 123)) rfl ?_
    refine Z_icmp_ne gX3_ruleOfPair_40 (tgt := 51) (by decide) (fun h40 => ?_) (fun h40 => ?_)
    · exact t2 (fun h => h40 h.1)
    · refine Z_push gX3_ruleOfPair_43 (v := (0, kT T (j + 1))) rfl ?_
      refine Z_push gX3_ruleOfPair_44 (v := (0, 125)) rfl ?_
      refine Z_icmp_ne gX3_ruleOfPair_46 (tgt := 51) (by decide) (fun h46 => ?_) (fun h46 => ?_)
      · exact t2 (fun h => h46 h.2)
      · refine Z_push gX3_ruleOfPair_49 (v := (0, 1)) rfl ?_
        refine Z_ret (v := (0, 1)) gX3_ruleOfPair_50 rfl rfl rfl rfl rfl _ ?_
        exact ⟨by unfold rpT; rw [if_neg h0, if_pos ⟨h40, h46⟩], rfl⟩
  refine Z_push gX3_ruleOfPair_0 (v := (1, ((t : Nat) : Int))) rfl ?_
  refine Z_push gX3_ruleOfPair_1 (v := (0, j)) rfl ?_
  refine Z_callP (kd := 0) (na := 2) (M' := mX6_kindAt) gX3_ruleOfPair_2 rfl rfl rfl rfl rfl rfl (fun _ => rfl) rfl rfl (fun _ _ => zrecv_obj (by assumption) _ _ _) (d' := 0) (by decide) (vX6_kindAt (T := T) (by assumption) (by assumption) (by assumption) _) ?_
  refine Z_sto gX3_ruleOfPair_5 rfl (ls' := [(1, ((t : Nat) : Int)), (0, j), (0, kT T j), (9, 0)]) (st' := []) rfl ?_
  refine Z_push gX3_ruleOfPair_6 (v := (1, ((t : Nat) : Int))) rfl ?_
  refine Z_push gX3_ruleOfPair_7 (v := (0, j)) rfl ?_
  refine Z_push gX3_ruleOfPair_8 (v := (0, 1)) rfl ?_
  refine Z_iadd gX3_ruleOfPair_9 ⟨by omega, by omega⟩ ?_
  refine Z_callP (kd := 0) (na := 2) (M' := mX6_kindAt) gX3_ruleOfPair_10 rfl rfl rfl rfl rfl rfl (fun _ => rfl) rfl rfl (fun _ _ => zrecv_obj (by assumption) _ _ _) (d' := 0) (by decide) (vX6_kindAt (T := T) (by assumption) (by assumption) (by assumption) _) ?_
  refine Z_sto gX3_ruleOfPair_13 rfl (ls' := [(1, ((t : Nat) : Int)), (0, j), (0, kT T j), (0, kT T (j + 1))]) (st' := []) rfl ?_
  refine Z_push gX3_ruleOfPair_14 (v := (0, kT T j)) rfl ?_
  refine Z_push gX3_ruleOfPair_15 (v := (0, 110)) rfl ?_
  refine Z_icmp_ne gX3_ruleOfPair_17 (tgt := 37) (by decide) (fun h17 => ?_) (fun h17 => ?_)
  · exact tail (fun h => h17 h.1)
  · have hn := TR_name hR hV h17
    refine Z_push gX3_ruleOfPair_20 (v := (1, ((t : Nat) : Int))) rfl ?_
    refine Z_push gX3_ruleOfPair_21 (v := (0, j)) rfl ?_
    refine Z_push gX3_ruleOfPair_22 (v := (0, 1)) rfl ?_
    refine Z_iadd gX3_ruleOfPair_23 ⟨by omega, by omega⟩ ?_
    refine Z_push gX3_ruleOfPair_24 (v := (1, ((t : Nat) : Int))) rfl ?_
    refine Z_push gX3_ruleOfPair_25 (v := (0, j)) rfl ?_
    refine Z_callP (kd := 0) (na := 2) (M' := mX6_nameAt) gX3_ruleOfPair_26 rfl rfl rfl rfl rfl rfl (fun _ => rfl) rfl rfl (fun _ _ => zrecv_obj (by assumption) _ _ _) (d' := 1) (by decide) (show Pv ro 1 mX6_nameAt _ _ (0, (T.2 j.toNat).2.1) from hn ▸ vX6_nameAt hT j) ?_
    refine Z_callP (kd := 0) (na := 3) (M' := mX6_isNamed) gX3_ruleOfPair_29 rfl rfl rfl rfl rfl rfl (fun _ => rfl) rfl rfl (fun _ _ => zrecv_obj (by assumption) _ _ _) (d' := 2) (by decide) (vX6_isNamed (T := T) (by assumption) (by assumption) (by assumption) _ _) ?_
    refine Z_if_eq gX3_ruleOfPair_32 (tgt := 37) (by decide) (fun h32 => ?_) (fun h32 => ?_)
    · exact tail (fun h => by omega)
    · refine Z_push gX3_ruleOfPair_35 (v := (0, 0)) rfl ?_
      refine Z_ret (v := (0, 0)) gX3_ruleOfPair_36 rfl rfl rfl rfl rfl _ ?_
      exact ⟨by unfold rpT; rw [if_pos ⟨h17, by omega⟩], rfl⟩
theorem vX3_isNameInBlock (hT : TX t) (hR : TR w t T) (hV : TV T) {j : Int} (hj : 0 ≤ j ∧ j < T.1) : Pv ro 1 mX3_isNameInBlock [(1, (t : Int)), (0, j)] w (0, blT T j) := by
  have hL0 := hT.1
  have hV1 := hV.1
  show Z ro 1 mX3_isNameInBlock 0 [(1, (t : Int)), (0, j)] [] w _
  refine Z_push gX3_isNameInBlock_0 (v := (1, ((t : Nat) : Int))) rfl ?_
  refine Z_push gX3_isNameInBlock_1 (v := (0, j)) rfl ?_
  refine Z_callP (kd := 0) (na := 2) (M' := mX6_kindAt) gX3_isNameInBlock_2 rfl rfl rfl rfl rfl rfl (fun _ => rfl) rfl rfl (fun _ _ => zrecv_obj (by assumption) _ _ _) (d' := 0) (by decide) (vX6_kindAt (T := T) (by assumption) (by assumption) (by assumption) _) ?_
  refine Z_push gX3_isNameInBlock_5 (v := (0, 123)) rfl ?_
  refine Z_icmp_ne gX3_isNameInBlock_7 (tgt := 38) (by decide) (fun h7 => ?_) (fun h7 => ?_)
  · refine Z_push gX3_isNameInBlock_38 (v := (0, 0)) rfl ?_
    refine Z_retB gX3_isNameInBlock_39 rfl (by first | exact Or.inl rfl | exact Or.inr rfl | assumption | omega) _ ?_
    exact ⟨by unfold blT; rw [if_neg (fun h => h7 h.1)], rfl⟩
  · refine Z_push gX3_isNameInBlock_10 (v := (1, ((t : Nat) : Int))) rfl ?_
    refine Z_push gX3_isNameInBlock_11 (v := (0, j)) rfl ?_
    refine Z_push gX3_isNameInBlock_12 (v := (0, 1)) rfl ?_
    refine Z_iadd gX3_isNameInBlock_13 ⟨by omega, by omega⟩ ?_
    refine Z_callP (kd := 0) (na := 2) (M' := mX6_kindAt) gX3_isNameInBlock_14 rfl rfl rfl rfl rfl rfl (fun _ => rfl) rfl rfl (fun _ _ => zrecv_obj (by assumption) _ _ _) (d' := 0) (by decide) (vX6_kindAt (T := T) (by assumption) (by assumption) (by assumption) _) ?_
    refine Z_push gX3_isNameInBlock_17 (v := (0, 110)) rfl ?_
    refine Z_icmp_ne gX3_isNameInBlock_19 (tgt := 38) (by decide) (fun h19 => ?_) (fun h19 => ?_)
    · refine Z_push gX3_isNameInBlock_38 (v := (0, 0)) rfl ?_
      refine Z_retB gX3_isNameInBlock_39 rfl (by first | exact Or.inl rfl | exact Or.inr rfl | assumption | omega) _ ?_
      exact ⟨by unfold blT; rw [if_neg (fun h => h19 h.2.1)], rfl⟩
    · refine Z_push gX3_isNameInBlock_22 (v := (1, ((t : Nat) : Int))) rfl ?_
      refine Z_push gX3_isNameInBlock_23 (v := (0, j)) rfl ?_
      refine Z_push gX3_isNameInBlock_24 (v := (0, 2)) rfl ?_
      refine Z_iadd gX3_isNameInBlock_25 ⟨by omega, by omega⟩ ?_
      refine Z_callP (kd := 0) (na := 2) (M' := mX6_kindAt) gX3_isNameInBlock_26 rfl rfl rfl rfl rfl rfl (fun _ => rfl) rfl rfl (fun _ _ => zrecv_obj (by assumption) _ _ _) (d' := 0) (by decide) (vX6_kindAt (T := T) (by assumption) (by assumption) (by assumption) _) ?_
      refine Z_push gX3_isNameInBlock_29 (v := (0, 125)) rfl ?_
      refine Z_icmp_ne gX3_isNameInBlock_31 (tgt := 38) (by decide) (fun h31 => ?_) (fun h31 => ?_)
      · refine Z_push gX3_isNameInBlock_38 (v := (0, 0)) rfl ?_
        refine Z_retB gX3_isNameInBlock_39 rfl (by first | exact Or.inl rfl | exact Or.inr rfl | assumption | omega) _ ?_
        exact ⟨by unfold blT; rw [if_neg (fun h => h31 h.2.2)], rfl⟩
      · refine Z_push gX3_isNameInBlock_34 (v := (0, 1)) rfl ?_
        refine Z_goto gX3_isNameInBlock_35 (tgt := 39) (by decide) ?_
        refine Z_retB gX3_isNameInBlock_39 rfl (by first | exact Or.inl rfl | exact Or.inr rfl | assumption | omega) _ ?_
        exact ⟨by unfold blT; rw [if_pos ⟨h7, h19, h31⟩], rfl⟩
end
