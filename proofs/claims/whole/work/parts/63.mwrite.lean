/-! the model's writers -/
section
variable {ro : zRo} {w w' : zW} {T : zTx} {R : zRu} {D : zDs} {lim la B : Int}
theorem MR_th (hM : MR w T R D lim la) (v : Int) : MR (zup w 97 0 v) T R D lim la := MR_Y hM (frY.th w v)
/-- a text changed in its place -/
theorem MR_tx (hM : MR w T R D lim la) {T' : zTx} (h1 : MT w' T') (h2 : w' 97 10 = 0) (f : ∀ a k, ¬ (98 ≤ a ∧ a ≤ 101) → ¬ (a = 97 ∧ (k = 0 ∨ k = 1 ∨ k = 10)) → w' a k = w a k) : MR w' T' R D lim 0 := by
  obtain ⟨m1, m2, m3, m4, m5, m6⟩ := hM
  exact ⟨h1, MU_frame m2 (fun a k h => f a k (by omega) (by omega)), MD_frame m3 (fun a k h => f a k (by omega) (by omega)), (f _ _ (by omega) (by omega)).trans m4, h2, fun h => absurd h (by decide)⟩
theorem anyN_s (n : Nat) (f : Nat → Bool) : anyN (n + 1) f = (anyN n f || f n) := by
  unfold anyN
  rw [List.range_succ, List.any_append]
  simp
theorem mX8w_addName (hM : MR w T R D lim la) (hV : SV B T R D lim la) (i : Int) (l : Int) : Ev ro 2 mX8_addName [(1, ((97 : Nat) : Int)), (0, i), (0, l)] w (mM w 0 (cdAddName T i l) ((T.1 : Int)) (fun w' => MR w' (adT T (110, i, l, 0)) R (fgD D) lim 0) (fun w' => MR w' T R D lim la)) := by
  obtain ⟨hTV, hRV, hDV, hlim, hla, hop, hopD⟩ := id hV
  have hV1 := hTV.1
  have hM1 := MR_Y hM (frY.th w 0)
  have h0 : zup w 97 0 0 97 0 = 0 := zup_eq _ _ _ _
  have f0 : frM w (zup w 97 0 0) := (frY.th w 0).M
  show Z ro 2 mX8_addName 0 [(1, ((97 : Nat) : Int)), (0, i), (0, l)] [] w _
  refine Z_push gX8_addName_0 (v := (1, ((97 : Nat) : Int))) rfl ?_
  refine Z_push gX8_addName_1 (v := (0, 0)) rfl ?_
  refine Z_put gX8_addName_2 rfl rfl (by decide) rfl (fun h => by cases h) ?_
  generalize zup w 97 0 0 = w1 at hM1 h0 f0 ⊢
  obtain ⟨hT1, hU1, hD1, hl1, hla1, hln1⟩ := id hM1
  have bad : ¬ ((0 ≤ i ∧ i < 100) ∧ 1 ≤ l ∧ l ≤ 9) → Z ro 2 mX8_addName 23 [(1, ((97 : Nat) : Int)), (0, i), (0, l)] [(1, ((97 : Nat) : Int))] w1 (fun r w' k9 => k9 = 0 ∧ ∃ o, r = .inl o ∧ (mM w 0 (cdAddName T i l) (T.1 : Int) (fun w' => MR w' (adT T (110, i, l, 0)) R (fgD D) lim 0) (fun w' => MR w' T R D lim la)) o w') := by
    intro hb
    refine Z_push gX8_addName_23 (v := (0, 1)) rfl ?_
    refine Z_goto gX8_addName_24 (tgt := 28) (by decide) ?_
    refine Z_push gX8_addName_28 (v := (0, 1)) rfl ?_
    refine Z_callQ (kd := 0) (na := 3) (M' := mX8_fails) gX8_addName_29 rfl rfl rfl rfl rfl rfl (fun _ => rfl) rfl rfl (fun _ _ => zrecv_obj rfl _ _ _) (d' := 0) (by omega) (fail1 h0 (by omega)) ?_
    refine Z_if_ne gX8_addName_32 (tgt := 57) (by decide) (fun _ => ?_) (fun h32 => absurd h32 (by omega))
    refine Z_push gX8_addName_57 (v := (0, 0)) rfl ?_
    refine Z_goto gX8_addName_58 (tgt := 69) (by decide) ?_
    refine Z_ret (v := (0, 0)) gX8_addName_69 rfl rfl rfl rfl rfl _ ?_
    have hcd : (cdAddName T i l) = 1 := by unfold cdAddName; (repeat' split) <;> omega
    exact ⟨⟨_, rfl, fun h => absurd h (by omega)⟩, (zup_eq _ _ _ _).trans (by rw [hcd]; rfl), fun h => absurd h (by omega), fun _ => MR_Y hM1 (frY.th w1 1), f0.trans (frY.th w1 1).M⟩
  by_cases h : 0 ≤ i ∧ i < 100
  · by_cases h2 : 1 ≤ l ∧ l ≤ 9
    · refine Z_push gX8_addName_5 (v := (1, ((97 : Nat) : Int))) rfl ?_
      refine Z_push gX8_addName_6 (v := (0, i)) rfl ?_
      refine Z_callP (kd := 1) (na := 1) (M' := mX8_isName) gX8_addName_7 rfl rfl rfl rfl rfl rfl (fun _ => rfl) rfl rfl (fun _ _ => rfl) (d' := 1) (by omega) (isNm1 h) ?_
      refine Z_if_eq gX8_addName_10 (tgt := 23) (by decide) (fun h10 => absurd h10 (by omega)) (fun _ => ?_)
      refine Z_push gX8_addName_13 (v := (0, l)) rfl ?_
      refine Z_push gX8_addName_14 (v := (0, 1)) rfl ?_
      refine Z_push gX8_addName_15 (v := (0, 9)) rfl ?_
      refine Z_callP (kd := 1) (na := 3) (M' := mX8_in) gX8_addName_17 rfl rfl rfl rfl rfl rfl (fun _ => rfl) rfl rfl (fun _ _ => rfl) (d' := 0) (by omega) (vX8_in1 h2) ?_
      refine Z_if_ne gX8_addName_20 (tgt := 27) (by decide) (fun _ => ?_) (fun h20 => absurd h20 (by omega))
      refine Z_push gX8_addName_27 (v := (0, 0)) rfl ?_
      refine Z_push gX8_addName_28 (v := (0, 1)) rfl ?_
      refine Z_callP (kd := 0) (na := 3) (M' := mX8_fails) gX8_addName_29 rfl rfl rfl rfl rfl rfl (fun _ => rfl) rfl rfl (fun _ _ => zrecv_obj rfl _ _ _) (d' := 0) (by omega) (fail0 h0 1) ?_
      refine Z_if_ne gX8_addName_32 (tgt := 57) (by decide) (fun h32 => absurd h32 (by omega)) (fun _ => ?_)
      refine Z_push gX8_addName_35 (v := (1, ((97 : Nat) : Int))) rfl ?_
      refine Z_push gX8_addName_36 (v := (1, ((97 : Nat) : Int))) rfl ?_
      refine Z_getV (v := (T.1 : Int)) gX8_addName_37 rfl rfl (by decide) hT1.1 ?_
      refine Z_push gX8_addName_40 (v := (0, 30)) rfl ?_
      refine Z_icmp_ne gX8_addName_42 (tgt := 49) (by decide) (fun h42 => ?_) (fun h42 => ?_)
      · refine Z_push gX8_addName_49 (v := (0, 0)) rfl ?_
        refine Z_push gX8_addName_50 (v := (0, 2)) rfl ?_
        refine Z_callP (kd := 0) (na := 3) (M' := mX8_fails) gX8_addName_51 rfl rfl rfl rfl rfl rfl (fun _ => rfl) rfl rfl (fun _ _ => zrecv_obj rfl _ _ _) (d' := 0) (by omega) (fail0 h0 2) ?_
        refine Z_if_eq gX8_addName_54 (tgt := 61) (by decide) (fun _ => ?_) (fun h54 => absurd h54 (by omega))
        refine Z_push gX8_addName_61 (v := (1, ((97 : Nat) : Int))) rfl ?_
        refine Z_push gX8_addName_62 (v := (0, 110)) rfl ?_
        refine Z_push gX8_addName_64 (v := (0, i)) rfl ?_
        refine Z_push gX8_addName_65 (v := (0, l)) rfl ?_
        refine Z_callE (kd := 0) (na := 4) (M' := mX8_add) gX8_addName_66 rfl rfl rfl rfl rfl rfl (fun _ => rfl) rfl rfl (fun _ _ => zrecv_obj rfl _ _ _) (d' := 0) (by omega) (vX8_add hM1 hTV (by omega) (x := (110, i, l, 0)) (by omega) ⟨rfl, fun _ => rfl, fun _ => rfl, rfl⟩) ?_
        rintro o w2 ⟨rfl, g2, g3, g4⟩
        refine Z_ret (v := (0, (T.1 : Int))) gX8_addName_69 rfl rfl rfl rfl rfl _ ?_
        have hcd : (cdAddName T i l) = 0 := by unfold cdAddName; (repeat' split) <;> omega
        exact ⟨⟨_, rfl, fun _ => rfl⟩, (g3.trans h0).trans (by rw [hcd]; rfl), fun _ => g2, fun h => absurd hcd h, f0.trans g4⟩
      · refine Z_push gX8_addName_45 (v := (0, 1)) rfl ?_
        refine Z_goto gX8_addName_46 (tgt := 50) (by decide) ?_
        refine Z_push gX8_addName_50 (v := (0, 2)) rfl ?_
        refine Z_callQ (kd := 0) (na := 3) (M' := mX8_fails) gX8_addName_51 rfl rfl rfl rfl rfl rfl (fun _ => rfl) rfl rfl (fun _ _ => zrecv_obj rfl _ _ _) (d' := 0) (by omega) (fail1 h0 (by omega)) ?_
        refine Z_if_eq gX8_addName_54 (tgt := 61) (by decide) (fun h54 => absurd h54 (by omega)) (fun _ => ?_)
        refine Z_push gX8_addName_57 (v := (0, 0)) rfl ?_
        refine Z_goto gX8_addName_58 (tgt := 69) (by decide) ?_
        refine Z_ret (v := (0, 0)) gX8_addName_69 rfl rfl rfl rfl rfl _ ?_
        have hcd : (cdAddName T i l) = 2 := by unfold cdAddName; (repeat' split) <;> omega
        exact ⟨⟨_, rfl, fun h => absurd h (by omega)⟩, (zup_eq _ _ _ _).trans (by rw [hcd]; rfl), fun h => absurd h (by omega), fun _ => MR_Y hM1 (frY.th w1 2), f0.trans (frY.th w1 2).M⟩
    · refine Z_push gX8_addName_5 (v := (1, ((97 : Nat) : Int))) rfl ?_
      refine Z_push gX8_addName_6 (v := (0, i)) rfl ?_
      refine Z_callP (kd := 1) (na := 1) (M' := mX8_isName) gX8_addName_7 rfl rfl rfl rfl rfl rfl (fun _ => rfl) rfl rfl (fun _ _ => rfl) (d' := 1) (by omega) (isNm1 h) ?_
      refine Z_if_eq gX8_addName_10 (tgt := 23) (by decide) (fun h10 => absurd h10 (by omega)) (fun _ => ?_)
      refine Z_push gX8_addName_13 (v := (0, l)) rfl ?_
      refine Z_push gX8_addName_14 (v := (0, 1)) rfl ?_
      refine Z_push gX8_addName_15 (v := (0, 9)) rfl ?_
      refine Z_callP (kd := 1) (na := 3) (M' := mX8_in) gX8_addName_17 rfl rfl rfl rfl rfl rfl (fun _ => rfl) rfl rfl (fun _ _ => rfl) (d' := 0) (by omega) (vX8_in0 h2) ?_
      refine Z_if_ne gX8_addName_20 (tgt := 27) (by decide) (fun h20 => absurd h20 (by omega)) (fun _ => ?_)
      exact bad (fun h => h2 h.2)
  · refine Z_push gX8_addName_5 (v := (1, ((97 : Nat) : Int))) rfl ?_
    refine Z_push gX8_addName_6 (v := (0, i)) rfl ?_
    refine Z_callP (kd := 1) (na := 1) (M' := mX8_isName) gX8_addName_7 rfl rfl rfl rfl rfl rfl (fun _ => rfl) rfl rfl (fun _ _ => rfl) (d' := 1) (by omega) (isNm0 h) ?_
    refine Z_if_eq gX8_addName_10 (tgt := 23) (by decide) (fun _ => ?_) (fun h10 => absurd h10 (by omega))
    exact bad (fun h2 => h h2.1)
theorem mX8w_addComment (hM : MR w T R D lim la) (hV : SV B T R D lim la) (l : Int) : Ev ro 1 mX8_addComment [(1, ((97 : Nat) : Int)), (0, l)] w (mM w 0 (cdAddC T l) ((T.1 : Int)) (fun w' => MR w' (adT T (99, 0, l, 0)) R (fgD D) lim 0) (fun w' => MR w' T R D lim la)) := by
  obtain ⟨hTV, hRV, hDV, hlim, hla, hop, hopD⟩ := id hV
  have hV1 := hTV.1
  have hM1 := MR_Y hM (frY.th w 0)
  have h0 : zup w 97 0 0 97 0 = 0 := zup_eq _ _ _ _
  have f0 : frM w (zup w 97 0 0) := (frY.th w 0).M
  show Z ro 1 mX8_addComment 0 [(1, ((97 : Nat) : Int)), (0, l)] [] w _
  refine Z_push gX8_addComment_0 (v := (1, ((97 : Nat) : Int))) rfl ?_
  refine Z_push gX8_addComment_1 (v := (0, 0)) rfl ?_
  refine Z_put gX8_addComment_2 rfl rfl (by decide) rfl (fun h => by cases h) ?_
  generalize zup w 97 0 0 = w1 at hM1 h0 f0 ⊢
  obtain ⟨hT1, hU1, hD1, hl1, hla1, hln1⟩ := id hM1
  by_cases h2 : 1 ≤ l ∧ l ≤ 9
  · refine Z_push gX8_addComment_5 (v := (1, ((97 : Nat) : Int))) rfl ?_
    refine Z_push gX8_addComment_6 (v := (0, l)) rfl ?_
    refine Z_push gX8_addComment_7 (v := (0, 1)) rfl ?_
    refine Z_push gX8_addComment_8 (v := (0, 9)) rfl ?_
    refine Z_callP (kd := 1) (na := 3) (M' := mX8_in) gX8_addComment_10 rfl rfl rfl rfl rfl rfl (fun _ => rfl) rfl rfl (fun _ _ => rfl) (d' := 0) (by omega) (vX8_in1 h2) ?_
    refine Z_if_ne gX8_addComment_13 (tgt := 20) (by decide) (fun _ => ?_) (fun h13 => absurd h13 (by omega))
    refine Z_push gX8_addComment_20 (v := (0, 0)) rfl ?_
    refine Z_push gX8_addComment_21 (v := (0, 1)) rfl ?_
    refine Z_callP (kd := 0) (na := 3) (M' := mX8_fails) gX8_addComment_22 rfl rfl rfl rfl rfl rfl (fun _ => rfl) rfl rfl (fun _ _ => zrecv_obj rfl _ _ _) (d' := 0) (by omega) (fail0 h0 1) ?_
    refine Z_if_ne gX8_addComment_25 (tgt := 50) (by decide) (fun h25 => absurd h25 (by omega)) (fun _ => ?_)
    refine Z_push gX8_addComment_28 (v := (1, ((97 : Nat) : Int))) rfl ?_
    refine Z_push gX8_addComment_29 (v := (1, ((97 : Nat) : Int))) rfl ?_
    refine Z_getV (v := (T.1 : Int)) gX8_addComment_30 rfl rfl (by decide) hT1.1 ?_
    refine Z_push gX8_addComment_33 (v := (0, 30)) rfl ?_
    refine Z_icmp_ne gX8_addComment_35 (tgt := 42) (by decide) (fun h35 => ?_) (fun h35 => ?_)
    · refine Z_push gX8_addComment_42 (v := (0, 0)) rfl ?_
      refine Z_push gX8_addComment_43 (v := (0, 2)) rfl ?_
      refine Z_callP (kd := 0) (na := 3) (M' := mX8_fails) gX8_addComment_44 rfl rfl rfl rfl rfl rfl (fun _ => rfl) rfl rfl (fun _ _ => zrecv_obj rfl _ _ _) (d' := 0) (by omega) (fail0 h0 2) ?_
      refine Z_if_eq gX8_addComment_47 (tgt := 54) (by decide) (fun _ => ?_) (fun h47 => absurd h47 (by omega))
      refine Z_push gX8_addComment_54 (v := (1, ((97 : Nat) : Int))) rfl ?_
      refine Z_push gX8_addComment_55 (v := (0, 99)) rfl ?_
      refine Z_push gX8_addComment_57 (v := (0, -1)) rfl ?_
      refine Z_push gX8_addComment_58 (v := (0, l)) rfl ?_
      refine Z_callE (kd := 0) (na := 4) (M' := mX8_add) gX8_addComment_59 rfl rfl rfl rfl rfl rfl (fun _ => rfl) rfl rfl (fun _ _ => zrecv_obj rfl _ _ _) (d' := 0) (by omega) (vX8_add hM1 hTV (by omega) (x := (99, 0, l, 0)) (by omega) ⟨rfl, fun h => absurd (show (99 : Int) = 110 from h) (by decide), fun _ => rfl, rfl⟩) ?_
      rintro o w2 ⟨rfl, g2, g3, g4⟩
      refine Z_ret (v := (0, (T.1 : Int))) gX8_addComment_62 rfl rfl rfl rfl rfl _ ?_
      have hcd : (cdAddC T l) = 0 := by unfold cdAddC; (repeat' split) <;> omega
      exact ⟨⟨_, rfl, fun _ => rfl⟩, (g3.trans h0).trans (by rw [hcd]; rfl), fun _ => g2, fun h => absurd hcd h, f0.trans g4⟩
    · refine Z_push gX8_addComment_38 (v := (0, 1)) rfl ?_
      refine Z_goto gX8_addComment_39 (tgt := 43) (by decide) ?_
      refine Z_push gX8_addComment_43 (v := (0, 2)) rfl ?_
      refine Z_callQ (kd := 0) (na := 3) (M' := mX8_fails) gX8_addComment_44 rfl rfl rfl rfl rfl rfl (fun _ => rfl) rfl rfl (fun _ _ => zrecv_obj rfl _ _ _) (d' := 0) (by omega) (fail1 h0 (by omega)) ?_
      refine Z_if_eq gX8_addComment_47 (tgt := 54) (by decide) (fun h47 => absurd h47 (by omega)) (fun _ => ?_)
      refine Z_push gX8_addComment_50 (v := (0, 0)) rfl ?_
      refine Z_goto gX8_addComment_51 (tgt := 62) (by decide) ?_
      refine Z_ret (v := (0, 0)) gX8_addComment_62 rfl rfl rfl rfl rfl _ ?_
      have hcd : (cdAddC T l) = 2 := by unfold cdAddC; (repeat' split) <;> omega
      exact ⟨⟨_, rfl, fun h => absurd h (by omega)⟩, (zup_eq _ _ _ _).trans (by rw [hcd]; rfl), fun h => absurd h (by omega), fun _ => MR_Y hM1 (frY.th w1 2), f0.trans (frY.th w1 2).M⟩
  · refine Z_push gX8_addComment_5 (v := (1, ((97 : Nat) : Int))) rfl ?_
    refine Z_push gX8_addComment_6 (v := (0, l)) rfl ?_
    refine Z_push gX8_addComment_7 (v := (0, 1)) rfl ?_
    refine Z_push gX8_addComment_8 (v := (0, 9)) rfl ?_
    refine Z_callP (kd := 1) (na := 3) (M' := mX8_in) gX8_addComment_10 rfl rfl rfl rfl rfl rfl (fun _ => rfl) rfl rfl (fun _ _ => rfl) (d' := 0) (by omega) (vX8_in0 h2) ?_
    refine Z_if_ne gX8_addComment_13 (tgt := 20) (by decide) (fun h13 => absurd h13 (by omega)) (fun _ => ?_)
    refine Z_push gX8_addComment_16 (v := (0, 1)) rfl ?_
    refine Z_goto gX8_addComment_17 (tgt := 21) (by decide) ?_
    refine Z_push gX8_addComment_21 (v := (0, 1)) rfl ?_
    refine Z_callQ (kd := 0) (na := 3) (M' := mX8_fails) gX8_addComment_22 rfl rfl rfl rfl rfl rfl (fun _ => rfl) rfl rfl (fun _ _ => zrecv_obj rfl _ _ _) (d' := 0) (by omega) (fail1 h0 (by omega)) ?_
    refine Z_if_ne gX8_addComment_25 (tgt := 50) (by decide) (fun _ => ?_) (fun h25 => absurd h25 (by omega))
    refine Z_push gX8_addComment_50 (v := (0, 0)) rfl ?_
    refine Z_goto gX8_addComment_51 (tgt := 62) (by decide) ?_
    refine Z_ret (v := (0, 0)) gX8_addComment_62 rfl rfl rfl rfl rfl _ ?_
    have hcd : (cdAddC T l) = 1 := by unfold cdAddC; (repeat' split) <;> omega
    exact ⟨⟨_, rfl, fun h => absurd h (by omega)⟩, (zup_eq _ _ _ _).trans (by rw [hcd]; rfl), fun h => absurd h (by omega), fun _ => MR_Y hM1 (frY.th w1 1), f0.trans (frY.th w1 1).M⟩
theorem mX8w_begin (hM : MR w T R D lim la) (hV : SV B T R D lim la) : Ev ro 1 mX8_begin [(1, ((97 : Nat) : Int))] w (mM w 0 (cdBeg T) (dpT (adT T (123, 0, 1, 0)) (T.1 : Int)) (fun w' => MR w' (adT T (123, 0, 1, 0)) R (fgD D) lim 0) (fun w' => MR w' T R D lim la)) := by
  obtain ⟨hTV, hRV, hDV, hlim, hla, hop, hopD⟩ := id hV
  have hV1 := hTV.1
  have hM1 := MR_Y hM (frY.th w 0)
  have h0 : zup w 97 0 0 97 0 = 0 := zup_eq _ _ _ _
  have f0 : frM w (zup w 97 0 0) := (frY.th w 0).M
  show Z ro 1 mX8_begin 0 [(1, ((97 : Nat) : Int))] [] w _
  refine Z_push gX8_begin_0 (v := (1, ((97 : Nat) : Int))) rfl ?_
  refine Z_push gX8_begin_1 (v := (0, 0)) rfl ?_
  refine Z_put gX8_begin_2 rfl rfl (by decide) rfl (fun h => by cases h) ?_
  generalize zup w 97 0 0 = w1 at hM1 h0 f0 ⊢
  obtain ⟨hT1, hU1, hD1, hl1, hla1, hln1⟩ := id hM1
  refine Z_push gX8_begin_5 (v := (1, ((97 : Nat) : Int))) rfl ?_
  refine Z_push gX8_begin_6 (v := (1, ((97 : Nat) : Int))) rfl ?_
  refine Z_getV (v := (T.1 : Int)) gX8_begin_7 rfl rfl (by decide) hT1.1 ?_
  refine Z_push gX8_begin_10 (v := (0, 30)) rfl ?_
  refine Z_icmp_ne gX8_begin_12 (tgt := 19) (by decide) (fun h12 => ?_) (fun h12 => ?_)
  · refine Z_push gX8_begin_19 (v := (0, 0)) rfl ?_
    refine Z_push gX8_begin_20 (v := (0, 1)) rfl ?_
    refine Z_callP (kd := 0) (na := 3) (M' := mX8_fails) gX8_begin_21 rfl rfl rfl rfl rfl rfl (fun _ => rfl) rfl rfl (fun _ _ => zrecv_obj rfl _ _ _) (d' := 0) (by omega) (fail0 h0 1) ?_
    refine Z_if_eq gX8_begin_24 (tgt := 31) (by decide) (fun _ => ?_) (fun h24 => absurd h24 (by omega))
    refine Z_push gX8_begin_31 (v := (1, ((97 : Nat) : Int))) rfl ?_
    refine Z_push gX8_begin_32 (v := (1, ((97 : Nat) : Int))) rfl ?_
    refine Z_push gX8_begin_33 (v := (0, 123)) rfl ?_
    refine Z_push gX8_begin_35 (v := (0, -1)) rfl ?_
    refine Z_push gX8_begin_36 (v := (0, 0)) rfl ?_
    refine Z_callE (kd := 0) (na := 4) (M' := mX8_add) gX8_begin_37 rfl rfl rfl rfl rfl rfl (fun _ => rfl) rfl rfl (fun _ _ => zrecv_obj rfl _ _ _) (d' := 0) (by omega) (vX8_add hM1 hTV (by omega) (x := (123, 0, 1, 0)) (by omega) ⟨rfl, fun h => absurd h (by decide), fun h => absurd h (by decide), rfl⟩) ?_
    rintro o w2 ⟨rfl, g2, g3, g4⟩
    have hV2 : TV (adT T (123, 0, 1, 0)) := TV_ad hTV (by omega) ⟨by simp, by simp, by simp, by simp⟩
    refine Z_callP (kd := 0) (na := 2) (M' := mX8_depth) gX8_begin_40 rfl rfl rfl rfl rfl rfl (fun _ => rfl) rfl rfl (fun _ _ => zrecv_obj rfl _ _ _) (d' := 0) (by omega) (vX8_depth g2.1 hV2 (k := T.1) (Nat.lt_succ_self _)) ?_
    refine Z_ret (v := (0, dpT (adT T (123, 0, 1, 0)) (T.1 : Int))) gX8_begin_43 rfl rfl rfl rfl rfl _ ?_
    have hcd : (cdBeg T) = 0 := by unfold cdBeg; (repeat' split) <;> omega
    exact ⟨⟨_, rfl, fun _ => rfl⟩, (g3.trans h0).trans (by rw [hcd]; rfl), fun _ => g2, fun h => absurd hcd h, f0.trans g4⟩
  · refine Z_push gX8_begin_15 (v := (0, 1)) rfl ?_
    refine Z_goto gX8_begin_16 (tgt := 20) (by decide) ?_
    refine Z_push gX8_begin_20 (v := (0, 1)) rfl ?_
    refine Z_callQ (kd := 0) (na := 3) (M' := mX8_fails) gX8_begin_21 rfl rfl rfl rfl rfl rfl (fun _ => rfl) rfl rfl (fun _ _ => zrecv_obj rfl _ _ _) (d' := 0) (by omega) (fail1 h0 (by omega)) ?_
    refine Z_if_eq gX8_begin_24 (tgt := 31) (by decide) (fun h24 => absurd h24 (by omega)) (fun _ => ?_)
    refine Z_push gX8_begin_27 (v := (0, 0)) rfl ?_
    refine Z_goto gX8_begin_28 (tgt := 43) (by decide) ?_
    refine Z_ret (v := (0, 0)) gX8_begin_43 rfl rfl rfl rfl rfl _ ?_
    have hcd : (cdBeg T) = 1 := by unfold cdBeg; (repeat' split) <;> omega
    exact ⟨⟨_, rfl, fun h => absurd h (by omega)⟩, (zup_eq _ _ _ _).trans (by rw [hcd]; rfl), fun h => absurd h (by omega), fun _ => MR_Y hM1 (frY.th w1 1), f0.trans (frY.th w1 1).M⟩
theorem mX8w_end (hM : MR w T R D lim la) (hV : SV B T R D lim la) : Ev ro 1 mX8_end [(1, ((97 : Nat) : Int))] w (mM w 0 (cdEnd T) (dpT (adT T (125, 0, 1, 0)) (T.1 : Int)) (fun w' => MR w' (adT T (125, 0, 1, 0)) R (fgD D) lim 0) (fun w' => MR w' T R D lim la)) := by
  obtain ⟨hTV, hRV, hDV, hlim, hla, hop, hopD⟩ := id hV
  have hV1 := hTV.1
  have hM1 := MR_Y hM (frY.th w 0)
  have h0 : zup w 97 0 0 97 0 = 0 := zup_eq _ _ _ _
  have f0 : frM w (zup w 97 0 0) := (frY.th w 0).M
  show Z ro 1 mX8_end 0 [(1, ((97 : Nat) : Int))] [] w _
  refine Z_push gX8_end_0 (v := (1, ((97 : Nat) : Int))) rfl ?_
  refine Z_push gX8_end_1 (v := (0, 0)) rfl ?_
  refine Z_put gX8_end_2 rfl rfl (by decide) rfl (fun h => by cases h) ?_
  generalize zup w 97 0 0 = w1 at hM1 h0 f0 ⊢
  obtain ⟨hT1, hU1, hD1, hl1, hla1, hln1⟩ := id hM1
  have hopb := opT_bd T T.1
  have bad : ¬ (0 < opT T T.1 ∧ T.1 ≠ 30) → Z ro 1 mX8_end 22 [(1, ((97 : Nat) : Int))] [(1, ((97 : Nat) : Int))] w1 (fun r w' k9 => k9 = 0 ∧ ∃ o, r = .inl o ∧ (mM w 0 (cdEnd T) (dpT (adT T (125, 0, 1, 0)) (T.1 : Int)) (fun w' => MR w' (adT T (125, 0, 1, 0)) R (fgD D) lim 0) (fun w' => MR w' T R D lim la)) o w') := by
    intro hb
    refine Z_push gX8_end_22 (v := (0, 1)) rfl ?_
    refine Z_goto gX8_end_23 (tgt := 27) (by decide) ?_
    refine Z_push gX8_end_27 (v := (0, 1)) rfl ?_
    refine Z_callQ (kd := 0) (na := 3) (M' := mX8_fails) gX8_end_28 rfl rfl rfl rfl rfl rfl (fun _ => rfl) rfl rfl (fun _ _ => zrecv_obj rfl _ _ _) (d' := 0) (by omega) (fail1 h0 (by omega)) ?_
    refine Z_if_eq gX8_end_31 (tgt := 38) (by decide) (fun h31 => absurd h31 (by omega)) (fun _ => ?_)
    refine Z_push gX8_end_34 (v := (0, 0)) rfl ?_
    refine Z_goto gX8_end_35 (tgt := 50) (by decide) ?_
    refine Z_ret (v := (0, 0)) gX8_end_50 rfl rfl rfl rfl rfl _ ?_
    have hcd : (cdEnd T) = 1 := by unfold cdEnd; (repeat' split) <;> omega
    exact ⟨⟨_, rfl, fun h => absurd h (by omega)⟩, (zup_eq _ _ _ _).trans (by rw [hcd]; rfl), fun h => absurd h (by omega), fun _ => MR_Y hM1 (frY.th w1 1), f0.trans (frY.th w1 1).M⟩
  refine Z_push gX8_end_5 (v := (1, ((97 : Nat) : Int))) rfl ?_
  refine Z_push gX8_end_6 (v := (1, ((97 : Nat) : Int))) rfl ?_
  refine Z_callP (kd := 0) (na := 1) (M' := mX8_open) gX8_end_7 rfl rfl rfl rfl rfl rfl (fun _ => rfl) rfl rfl (fun _ _ => zrecv_obj rfl _ _ _) (d' := 0) (by omega) (vX8_open hT1 hTV) ?_
  refine Z_if_eq gX8_end_10 (tgt := 22) (by decide) (fun h10 => ?_) (fun h10 => ?_)
  · exact bad (fun h => by omega)
  · refine Z_push gX8_end_13 (v := (1, ((97 : Nat) : Int))) rfl ?_
    refine Z_getV (v := (T.1 : Int)) gX8_end_14 rfl rfl (by decide) hT1.1 ?_
    refine Z_push gX8_end_17 (v := (0, 30)) rfl ?_
    refine Z_icmp_ne gX8_end_19 (tgt := 26) (by decide) (fun h19 => ?_) (fun h19 => ?_)
    · refine Z_push gX8_end_26 (v := (0, 0)) rfl ?_
      refine Z_push gX8_end_27 (v := (0, 1)) rfl ?_
      refine Z_callP (kd := 0) (na := 3) (M' := mX8_fails) gX8_end_28 rfl rfl rfl rfl rfl rfl (fun _ => rfl) rfl rfl (fun _ _ => zrecv_obj rfl _ _ _) (d' := 0) (by omega) (fail0 h0 1) ?_
      refine Z_if_eq gX8_end_31 (tgt := 38) (by decide) (fun _ => ?_) (fun h31 => absurd h31 (by omega))
      refine Z_push gX8_end_38 (v := (1, ((97 : Nat) : Int))) rfl ?_
      refine Z_push gX8_end_39 (v := (1, ((97 : Nat) : Int))) rfl ?_
      refine Z_push gX8_end_40 (v := (0, 125)) rfl ?_
      refine Z_push gX8_end_42 (v := (0, -1)) rfl ?_
      refine Z_push gX8_end_43 (v := (0, 0)) rfl ?_
      refine Z_callE (kd := 0) (na := 4) (M' := mX8_add) gX8_end_44 rfl rfl rfl rfl rfl rfl (fun _ => rfl) rfl rfl (fun _ _ => zrecv_obj rfl _ _ _) (d' := 0) (by omega) (vX8_add hM1 hTV (by omega) (x := (125, 0, 1, 0)) (by omega) ⟨rfl, fun h => absurd h (by decide), fun h => absurd h (by decide), rfl⟩) ?_
      rintro o w2 ⟨rfl, g2, g3, g4⟩
      have hV2 : TV (adT T (125, 0, 1, 0)) := TV_ad hTV (by omega) ⟨by simp, by simp, by simp, by simp⟩
      refine Z_callP (kd := 0) (na := 2) (M' := mX8_depth) gX8_end_47 rfl rfl rfl rfl rfl rfl (fun _ => rfl) rfl rfl (fun _ _ => zrecv_obj rfl _ _ _) (d' := 0) (by omega) (vX8_depth g2.1 hV2 (k := T.1) (Nat.lt_succ_self _)) ?_
      refine Z_ret (v := (0, dpT (adT T (125, 0, 1, 0)) (T.1 : Int))) gX8_end_50 rfl rfl rfl rfl rfl _ ?_
      have hcd : (cdEnd T) = 0 := by unfold cdEnd; (repeat' split) <;> omega
      exact ⟨⟨_, rfl, fun _ => rfl⟩, (g3.trans h0).trans (by rw [hcd]; rfl), fun _ => g2, fun h => absurd hcd h, f0.trans g4⟩
    · exact bad (fun h => h.2 (by omega))
theorem mX8w_pin (hM : MR w T R D lim la) (hV : SV B T R D lim la) (i : Int) (j : Int) (v : Int) (hv : v = 0 ∨ v = 1) : Ev ro 2 mX8_pin [(1, ((97 : Nat) : Int)), (0, i), (0, j), (0, v)] w (mM w 0 (cdPin T i j) ((pnC T i.toNat v (j.toNat + 1 - i.toNat) : Int)) (fun w' => MR w' (piR T i.toNat (j.toNat + 1) v) R D lim 0) (fun w' => MR w' T R D lim la)) := by
  obtain ⟨hTV, hRV, hDV, hlim, hla, hop, hopD⟩ := id hV
  have hV1 := hTV.1
  have hM1 := MR_Y hM (frY.th w 0)
  have h0 : zup w 97 0 0 97 0 = 0 := zup_eq _ _ _ _
  have f0 : frM w (zup w 97 0 0) := (frY.th w 0).M
  show Z ro 2 mX8_pin 0 [(1, ((97 : Nat) : Int)), (0, i), (0, j), (0, v), (9, 0), (9, 0)] [] w _
  refine Z_push gX8_pin_0 (v := (1, ((97 : Nat) : Int))) rfl ?_
  refine Z_push gX8_pin_1 (v := (0, 0)) rfl ?_
  refine Z_put gX8_pin_2 rfl rfl (by decide) rfl (fun h => by cases h) ?_
  generalize zup w 97 0 0 = w1 at hM1 h0 f0 ⊢
  obtain ⟨hT1, hU1, hD1, hl1, hla1, hln1⟩ := id hM1
  have bad : ¬ ((0 ≤ i ∧ i < T.1) ∧ 0 ≤ j ∧ j < T.1) → Z ro 2 mX8_pin 22 [(1, ((97 : Nat) : Int)), (0, i), (0, j), (0, v), (9, 0), (9, 0)] [(1, ((97 : Nat) : Int))] w1 (fun r w' k9 => k9 = 0 ∧ ∃ o, r = .inl o ∧ (mM w 0 (cdPin T i j) (pnC T i.toNat v (j.toNat + 1 - i.toNat) : Int) (fun w' => MR w' (piR T i.toNat (j.toNat + 1) v) R D lim 0) (fun w' => MR w' T R D lim la)) o w') := by
    intro hb
    refine Z_push gX8_pin_22 (v := (0, 1)) rfl ?_
    refine Z_goto gX8_pin_23 (tgt := 27) (by decide) ?_
    refine Z_push gX8_pin_27 (v := (0, 1)) rfl ?_
    refine Z_callQ (kd := 0) (na := 3) (M' := mX8_fails) gX8_pin_28 rfl rfl rfl rfl rfl rfl (fun _ => rfl) rfl rfl (fun _ _ => zrecv_obj rfl _ _ _) (d' := 0) (by omega) (fail1 h0 (by omega)) ?_
    refine Z_if_ne gX8_pin_31 (tgt := 52) (by decide) (fun _ => ?_) (fun h31 => absurd h31 (by omega))
    refine Z_push gX8_pin_52 (v := (0, 0)) rfl ?_
    refine Z_ret (v := (0, 0)) gX8_pin_53 rfl rfl rfl rfl rfl _ ?_
    have hcd : (cdPin T i j) = 1 := by unfold cdPin; (repeat' split) <;> omega
    exact ⟨⟨_, rfl, fun h => absurd h (by omega)⟩, (zup_eq _ _ _ _).trans (by rw [hcd]; rfl), fun h => absurd h (by omega), fun _ => MR_Y hM1 (frY.th w1 1), f0.trans (frY.th w1 1).M⟩
  by_cases h : 0 ≤ i ∧ i < T.1
  · by_cases h2 : 0 ≤ j ∧ j < T.1
    · refine Z_push gX8_pin_5 (v := (1, ((97 : Nat) : Int))) rfl ?_
      refine Z_push gX8_pin_6 (v := (1, ((97 : Nat) : Int))) rfl ?_
      refine Z_push gX8_pin_7 (v := (0, i)) rfl ?_
      refine Z_callP (kd := 0) (na := 2) (M' := mX8_noEntry) gX8_pin_8 rfl rfl rfl rfl rfl rfl (fun _ => rfl) rfl rfl (fun _ _ => zrecv_obj rfl _ _ _) (d' := 1) (by omega) (noEnt0 hT1 hV1 h) ?_
      refine Z_if_ne gX8_pin_11 (tgt := 22) (by decide) (fun h11 => absurd h11 (by omega)) (fun _ => ?_)
      refine Z_push gX8_pin_14 (v := (1, ((97 : Nat) : Int))) rfl ?_
      refine Z_push gX8_pin_15 (v := (0, j)) rfl ?_
      refine Z_callP (kd := 0) (na := 2) (M' := mX8_noEntry) gX8_pin_16 rfl rfl rfl rfl rfl rfl (fun _ => rfl) rfl rfl (fun _ _ => zrecv_obj rfl _ _ _) (d' := 1) (by omega) (noEnt0 hT1 hV1 h2) ?_
      refine Z_if_eq gX8_pin_19 (tgt := 26) (by decide) (fun _ => ?_) (fun h19 => absurd h19 (by omega))
      refine Z_push gX8_pin_26 (v := (0, 0)) rfl ?_
      refine Z_push gX8_pin_27 (v := (0, 1)) rfl ?_
      refine Z_callP (kd := 0) (na := 3) (M' := mX8_fails) gX8_pin_28 rfl rfl rfl rfl rfl rfl (fun _ => rfl) rfl rfl (fun _ _ => zrecv_obj rfl _ _ _) (d' := 0) (by omega) (fail0 h0 1) ?_
      refine Z_if_ne gX8_pin_31 (tgt := 52) (by decide) (fun h31 => absurd h31 (by omega)) (fun _ => ?_)
      refine Z_push gX8_pin_34 (v := (1, ((97 : Nat) : Int))) rfl ?_
      refine Z_push gX8_pin_35 (v := (0, j)) rfl ?_
      refine Z_push gX8_pin_36 (v := (0, i)) rfl ?_
      refine Z_icmp_ge gX8_pin_37 (tgt := 44) (by decide) (fun h37 => ?_) (fun h37 => ?_)
      · obtain ⟨a, rfl⟩ : ∃ a : Nat, i = (a : Int) := ⟨i.toNat, by omega⟩
        obtain ⟨b, rfl⟩ : ∃ b : Nat, j = (b : Int) := ⟨j.toNat, by omega⟩
        have hcd : cdPin T (a : Int) (b : Int) = 0 := by unfold cdPin; (repeat' split) <;> omega
        have loop : ∀ k m : Nat, a + m + k = b + 1 → ∀ W : zW, MT W (piR T a (a + m) v) → frP w1 W → Z ro 2 mX8_pin 60 [(1, ((97 : Nat) : Int)), (0, (a : Int)), (0, (b : Int)), (0, v), (0, (pnC T a v m : Int)), (0, ((a + m : Nat) : Int))] [] W (fun r w' k9 => k9 = 0 ∧ ∃ o, r = .inl o ∧ (mM w 0 (cdPin T (a : Int) (b : Int)) (pnC T a v (b + 1 - a) : Int) (fun w' => MR w' (piR T a (b + 1) v) R D lim 0) (fun w' => MR w' T R D lim la)) o w') := by
          intro k
          induction k with
          | zero =>
            intro m hm W hW hf
            refine Z_push gX8_pin_60 (v := (0, ((a + m : Nat) : Int))) rfl ?_
            refine Z_push gX8_pin_62 (v := (0, (b : Int))) rfl ?_
            refine Z_icmp_gt gX8_pin_63 (tgt := 101) (by decide) (fun _ => ?_) (fun h63 => absurd h63 (by omega))
            refine Z_push gX8_pin_101 (v := (1, ((97 : Nat) : Int))) rfl ?_
            refine Z_push gX8_pin_102 (v := (0, 0)) rfl ?_
            refine Z_put gX8_pin_103 rfl rfl (by decide) rfl (fun _ => (by first | exact Or.inl rfl | exact Or.inr rfl | assumption)) ?_
            refine Z_push gX8_pin_106 (v := (0, (pnC T a v m : Int))) rfl ?_
            refine Z_ret (v := (0, (pnC T a v m : Int))) gX8_pin_108 rfl rfl rfl rfl rfl _ ?_
            rw [show m = b + 1 - a by omega]
            rw [show a + m = b + 1 by omega] at hW
            exact ⟨⟨_, rfl, fun _ => rfl⟩, ((zup_ne (by omega)).trans ((hf _ _ (by omega) (by omega)).trans h0)).trans (by rw [hcd]; rfl), fun _ => MR_tx hM1 (MT_frame hW (fun q k h => zup_ne (by omega))) (zup_eq _ _ _ _) (fun q k h1 h2 => (zup_ne (by omega)).trans (hf q k h1 (by omega))), fun h => absurd hcd h, fun q k hq => (zup_ne (by omega)).trans ((hf q k (by omega) (by omega)).trans (f0 q k hq))⟩
          | succ k ih =>
            intro m hm W hW hf
            have hpb : ((a + m : Nat) : Int) < (T.1 : Int) := by omega
            have hW2 := (hW.2 (a + m) (show a + m < T.1 by omega)).2.2.2
            have e1 : W 101 (a + m) = pT T ((a + m : Nat) : Int) := by
              rw [hW2]
              show (if a ≤ a + m ∧ a + m < a + m then ((T.2 (a + m)).1, (T.2 (a + m)).2.1, (T.2 (a + m)).2.2.1, v) else T.2 (a + m)).2.2.2 = _
              rw [if_neg (by omega : ¬ (a ≤ a + m ∧ a + m < a + m))]
              unfold pT
              rw [if_pos ⟨by omega, hpb⟩]
              rfl
            have e2 : pnC T a v (m + 1) = pnC T a v m + (if pT T ((a + m : Nat) : Int) = v then 0 else 1) := rfl
            have hpc : pnC T a v m ≤ m := pnC_le T a v m
            have hMW : MT (zup W 101 (a + m) v) (piR T a (a + m + 1) v) := by
              refine ⟨(zup_ne (by omega)).trans hW.1, fun q hq => ?_⟩
              have hb := hW.2 q hq
              show eR _ 98 99 100 101 q (if a ≤ q ∧ q < a + m + 1 then _ else T.2 q)
              have hb : eR W 98 99 100 101 q (if a ≤ q ∧ q < a + m then ((T.2 q).1, (T.2 q).2.1, (T.2 q).2.2.1, v) else T.2 q) := hb
              by_cases e : q = a + m
              · subst e
                rw [if_neg (by omega)] at hb
                rw [if_pos (by omega)]
                obtain ⟨c1, c2, c3, c4⟩ := hb
                exact ⟨(zup_ne (by omega)).trans c1, fun h => (zup_ne (by omega)).trans (c2 h), fun h => (zup_ne (by omega)).trans (c3 h), zup_eq _ _ _ _⟩
              · rw [show (if a ≤ q ∧ q < a + m + 1 then ((T.2 q).1, (T.2 q).2.1, (T.2 q).2.2.1, v) else T.2 q) = (if a ≤ q ∧ q < a + m then ((T.2 q).1, (T.2 q).2.1, (T.2 q).2.2.1, v) else T.2 q) by
                  by_cases e3 : a ≤ q ∧ q < a + m
                  · rw [if_pos e3, if_pos (by omega)]
                  · rw [if_neg e3, if_neg (by omega)]]
                exact eR_frame hb (zup_ne (by omega)) (zup_ne (by omega)) (zup_ne (by omega)) (zup_ne (by omega))
            have hn := ih (m + 1) (by omega) (zup W 101 (a + m) v) hMW (fun q k h1 h2 => (zup_ne (by omega)).trans (hf q k h1 h2))
            rw [show ((a + (m + 1) : Nat) : Int) = ((a + m : Nat) : Int) + 1 from rfl] at hn
            refine Z_push gX8_pin_60 (v := (0, ((a + m : Nat) : Int))) rfl ?_
            refine Z_push gX8_pin_62 (v := (0, (b : Int))) rfl ?_
            refine Z_icmp_gt gX8_pin_63 (tgt := 101) (by decide) (fun h63 => absurd h63 (by omega)) (fun _ => ?_)
            refine Z_push gX8_pin_66 (v := (0, (pnC T a v m : Int))) rfl ?_
            refine Z_push gX8_pin_68 (v := (1, ((97 : Nat) : Int))) rfl ?_
            refine Z_getR (b := 101) gX8_pin_69 rfl rfl (by decide) rfl (by omega) ?_
            refine Z_push gX8_pin_72 (v := (0, ((a + m : Nat) : Int))) rfl ?_
            refine Z_baloadV (v := pT T ((a + m : Nat) : Int)) gX8_pin_74 rfl (by omega) (by omega) e1 ?_
            refine Z_push gX8_pin_75 (v := (0, v)) rfl ?_
            refine Z_icmp_ne gX8_pin_76 (tgt := 83) (by decide) (fun h76 => ?_) (fun h76 => ?_)
            · rw [if_neg h76] at e2
              rw [e2] at hn
              refine Z_push gX8_pin_83 (v := (0, 1)) rfl ?_
              refine Z_iadd gX8_pin_84 ⟨by omega, by omega⟩ ?_
              refine Z_sto gX8_pin_85 rfl (ls' := [(1, ((97 : Nat) : Int)), (0, (a : Int)), (0, (b : Int)), (0, v), (0, (pnC T a v m : Int) + 1), (0, ((a + m : Nat) : Int))]) (st' := []) rfl ?_
              refine Z_push gX8_pin_87 (v := (1, ((97 : Nat) : Int))) rfl ?_
              refine Z_getR (b := 101) gX8_pin_88 rfl rfl (by decide) rfl (by omega) ?_
              refine Z_push gX8_pin_91 (v := (0, ((a + m : Nat) : Int))) rfl ?_
              refine Z_push gX8_pin_93 (v := (0, v)) rfl ?_
              refine Z_bastore gX8_pin_94 rfl (by omega) (by omega) hv ?_
              refine Z_iinc gX8_pin_95 rfl ⟨by omega, by omega⟩ (ls' := [(1, ((97 : Nat) : Int)), (0, (a : Int)), (0, (b : Int)), (0, v), (0, (pnC T a v m : Int) + 1), (0, ((a + m : Nat) : Int) + 1)]) rfl ?_
              refine Z_goto gX8_pin_98 (tgt := 60) (by decide) ?_
              exact hn
            · rw [if_pos h76] at e2
              rw [e2] at hn
              refine Z_push gX8_pin_79 (v := (0, 0)) rfl ?_
              refine Z_goto gX8_pin_80 (tgt := 84) (by decide) ?_
              refine Z_iadd gX8_pin_84 ⟨by omega, by omega⟩ ?_
              refine Z_sto gX8_pin_85 rfl (ls' := [(1, ((97 : Nat) : Int)), (0, (a : Int)), (0, (b : Int)), (0, v), (0, (pnC T a v m : Int) + 0), (0, ((a + m : Nat) : Int))]) (st' := []) rfl ?_
              refine Z_push gX8_pin_87 (v := (1, ((97 : Nat) : Int))) rfl ?_
              refine Z_getR (b := 101) gX8_pin_88 rfl rfl (by decide) rfl (by omega) ?_
              refine Z_push gX8_pin_91 (v := (0, ((a + m : Nat) : Int))) rfl ?_
              refine Z_push gX8_pin_93 (v := (0, v)) rfl ?_
              refine Z_bastore gX8_pin_94 rfl (by omega) (by omega) hv ?_
              refine Z_iinc gX8_pin_95 rfl ⟨by omega, by omega⟩ (ls' := [(1, ((97 : Nat) : Int)), (0, (a : Int)), (0, (b : Int)), (0, v), (0, (pnC T a v m : Int) + 0), (0, ((a + m : Nat) : Int) + 1)]) rfl ?_
              refine Z_goto gX8_pin_98 (tgt := 60) (by decide) ?_
              exact hn
        refine Z_push gX8_pin_44 (v := (0, 0)) rfl ?_
        refine Z_push gX8_pin_45 (v := (0, 2)) rfl ?_
        refine Z_callP (kd := 0) (na := 3) (M' := mX8_fails) gX8_pin_46 rfl rfl rfl rfl rfl rfl (fun _ => rfl) rfl rfl (fun _ _ => zrecv_obj rfl _ _ _) (d' := 0) (by omega) (fail0 h0 2) ?_
        refine Z_if_eq gX8_pin_49 (tgt := 54) (by decide) (fun _ => ?_) (fun h49 => absurd h49 (by omega))
        refine Z_push gX8_pin_54 (v := (0, 0)) rfl ?_
        refine Z_sto gX8_pin_55 rfl (ls' := [(1, ((97 : Nat) : Int)), (0, (a : Int)), (0, (b : Int)), (0, v), (0, 0), (9, 0)]) (st' := []) rfl ?_
        refine Z_push gX8_pin_57 (v := (0, (a : Int))) rfl ?_
        refine Z_sto gX8_pin_58 rfl (ls' := [(1, ((97 : Nat) : Int)), (0, (a : Int)), (0, (b : Int)), (0, v), (0, 0), (0, (a : Int))]) (st' := []) rfl ?_
        exact loop (b + 1 - a) 0 (by omega) w1 (MT_congr hT1 rfl (fun q hq => by show T.2 q = (if a ≤ q ∧ q < a + 0 then _ else T.2 q); rw [if_neg (by omega)])) (frP.refl w1)
      · refine Z_push gX8_pin_40 (v := (0, 1)) rfl ?_
        refine Z_goto gX8_pin_41 (tgt := 45) (by decide) ?_
        refine Z_push gX8_pin_45 (v := (0, 2)) rfl ?_
        refine Z_callQ (kd := 0) (na := 3) (M' := mX8_fails) gX8_pin_46 rfl rfl rfl rfl rfl rfl (fun _ => rfl) rfl rfl (fun _ _ => zrecv_obj rfl _ _ _) (d' := 0) (by omega) (fail1 h0 (by omega)) ?_
        refine Z_if_eq gX8_pin_49 (tgt := 54) (by decide) (fun h49 => absurd h49 (by omega)) (fun _ => ?_)
        refine Z_push gX8_pin_52 (v := (0, 0)) rfl ?_
        refine Z_ret (v := (0, 0)) gX8_pin_53 rfl rfl rfl rfl rfl _ ?_
        have hcd : (cdPin T i j) = 2 := by unfold cdPin; (repeat' split) <;> omega
        exact ⟨⟨_, rfl, fun h => absurd h (by omega)⟩, (zup_eq _ _ _ _).trans (by rw [hcd]; rfl), fun h => absurd h (by omega), fun _ => MR_Y hM1 (frY.th w1 2), f0.trans (frY.th w1 2).M⟩
    · refine Z_push gX8_pin_5 (v := (1, ((97 : Nat) : Int))) rfl ?_
      refine Z_push gX8_pin_6 (v := (1, ((97 : Nat) : Int))) rfl ?_
      refine Z_push gX8_pin_7 (v := (0, i)) rfl ?_
      refine Z_callP (kd := 0) (na := 2) (M' := mX8_noEntry) gX8_pin_8 rfl rfl rfl rfl rfl rfl (fun _ => rfl) rfl rfl (fun _ _ => zrecv_obj rfl _ _ _) (d' := 1) (by omega) (noEnt0 hT1 hV1 h) ?_
      refine Z_if_ne gX8_pin_11 (tgt := 22) (by decide) (fun h11 => absurd h11 (by omega)) (fun _ => ?_)
      refine Z_push gX8_pin_14 (v := (1, ((97 : Nat) : Int))) rfl ?_
      refine Z_push gX8_pin_15 (v := (0, j)) rfl ?_
      refine Z_callP (kd := 0) (na := 2) (M' := mX8_noEntry) gX8_pin_16 rfl rfl rfl rfl rfl rfl (fun _ => rfl) rfl rfl (fun _ _ => zrecv_obj rfl _ _ _) (d' := 1) (by omega) (noEnt1 hT1 hV1 h2) ?_
      refine Z_if_eq gX8_pin_19 (tgt := 26) (by decide) (fun h19 => absurd h19 (by omega)) (fun _ => ?_)
      exact bad (fun h => h2 h.2)
  · refine Z_push gX8_pin_5 (v := (1, ((97 : Nat) : Int))) rfl ?_
    refine Z_push gX8_pin_6 (v := (1, ((97 : Nat) : Int))) rfl ?_
    refine Z_push gX8_pin_7 (v := (0, i)) rfl ?_
    refine Z_callP (kd := 0) (na := 2) (M' := mX8_noEntry) gX8_pin_8 rfl rfl rfl rfl rfl rfl (fun _ => rfl) rfl rfl (fun _ _ => zrecv_obj rfl _ _ _) (d' := 1) (by omega) (noEnt1 hT1 hV1 h) ?_
    refine Z_if_ne gX8_pin_11 (tgt := 22) (by decide) (fun _ => ?_) (fun h11 => absurd h11 (by omega))
    exact bad (fun h2 => h h2.1)
theorem mX8w_setWidth (hM : MR w T R D lim la) (hV : SV B T R D lim la) (l : Int) : Ev ro 1 mX8_setWidth [(1, ((97 : Nat) : Int)), (0, l)] w (mM w 0 (cdWd l) (lim) (fun w' => MR w' T R D l 0) (fun w' => MR w' T R D lim la)) := by
  obtain ⟨hTV, hRV, hDV, hlim, hla, hop, hopD⟩ := id hV
  have hV1 := hTV.1
  have hM1 := MR_Y hM (frY.th w 0)
  have h0 : zup w 97 0 0 97 0 = 0 := zup_eq _ _ _ _
  have f0 : frM w (zup w 97 0 0) := (frY.th w 0).M
  show Z ro 1 mX8_setWidth 0 [(1, ((97 : Nat) : Int)), (0, l), (9, 0)] [] w _
  refine Z_push gX8_setWidth_0 (v := (1, ((97 : Nat) : Int))) rfl ?_
  refine Z_push gX8_setWidth_1 (v := (0, 0)) rfl ?_
  refine Z_put gX8_setWidth_2 rfl rfl (by decide) rfl (fun h => by cases h) ?_
  generalize zup w 97 0 0 = w1 at hM1 h0 f0 ⊢
  obtain ⟨hT1, hU1, hD1, hl1, hla1, hln1⟩ := id hM1
  by_cases h : 13 ≤ l ∧ l ≤ 60
  · refine Z_push gX8_setWidth_5 (v := (1, ((97 : Nat) : Int))) rfl ?_
    refine Z_push gX8_setWidth_6 (v := (0, l)) rfl ?_
    refine Z_push gX8_setWidth_7 (v := (0, 13)) rfl ?_
    refine Z_push gX8_setWidth_9 (v := (0, 60)) rfl ?_
    refine Z_callP (kd := 1) (na := 3) (M' := mX8_in) gX8_setWidth_11 rfl rfl rfl rfl rfl rfl (fun _ => rfl) rfl rfl (fun _ _ => rfl) (d' := 0) (by omega) (vX8_in1 h) ?_
    refine Z_if_ne gX8_setWidth_14 (tgt := 21) (by decide) (fun _ => ?_) (fun h14 => absurd h14 (by omega))
    refine Z_push gX8_setWidth_21 (v := (0, 0)) rfl ?_
    refine Z_push gX8_setWidth_22 (v := (0, 1)) rfl ?_
    refine Z_callP (kd := 0) (na := 3) (M' := mX8_fails) gX8_setWidth_23 rfl rfl rfl rfl rfl rfl (fun _ => rfl) rfl rfl (fun _ _ => zrecv_obj rfl _ _ _) (d' := 0) (by omega) (fail0 h0 1) ?_
    refine Z_if_eq gX8_setWidth_26 (tgt := 31) (by decide) (fun _ => ?_) (fun h26 => absurd h26 (by omega))
    refine Z_push gX8_setWidth_31 (v := (1, ((97 : Nat) : Int))) rfl ?_
    refine Z_getV (v := lim) gX8_setWidth_32 rfl rfl (by decide) hl1 ?_
    refine Z_sto gX8_setWidth_35 rfl (ls' := [(1, ((97 : Nat) : Int)), (0, l), (0, lim)]) (st' := []) rfl ?_
    refine Z_push gX8_setWidth_36 (v := (1, ((97 : Nat) : Int))) rfl ?_
    refine Z_push gX8_setWidth_37 (v := (0, l)) rfl ?_
    refine Z_put gX8_setWidth_38 rfl rfl (by decide) rfl (fun h => by cases h) ?_
    refine Z_push gX8_setWidth_41 (v := (1, ((97 : Nat) : Int))) rfl ?_
    refine Z_push gX8_setWidth_42 (v := (0, 0)) rfl ?_
    refine Z_put gX8_setWidth_43 rfl rfl (by decide) rfl (fun _ => (by first | exact Or.inl rfl | exact Or.inr rfl | assumption)) ?_
    refine Z_push gX8_setWidth_46 (v := (0, lim)) rfl ?_
    refine Z_ret (v := (0, lim)) gX8_setWidth_47 rfl rfl rfl rfl rfl _ ?_
    have f : ∀ a k, ¬ (a = 97 ∧ (k = 6 ∨ k = 10)) → zup (zup w1 97 6 l) 97 10 0 a k = w1 a k := fun a k ha => (zup_ne (by omega)).trans (zup_ne (by omega))
    have hcd : (cdWd l) = 0 := by unfold cdWd; (repeat' split) <;> omega
    exact ⟨⟨_, rfl, fun _ => rfl⟩, ((f _ _ (by omega)).trans h0).trans (by rw [hcd]; rfl), fun _ => ⟨MT_frame hT1 (fun a k h => f a k (by omega)), MU_frame hU1 (fun a k h => f a k (by omega)), MD_frame hD1 (fun a k h => f a k (by omega)), (zup_ne (by omega)).trans (zup_eq _ _ _ _), zup_eq _ _ _ _, fun h => absurd h (by decide)⟩, fun h => absurd hcd h, (fun a k ha => (f a k (by omega)).trans (f0 a k ha))⟩
  · refine Z_push gX8_setWidth_5 (v := (1, ((97 : Nat) : Int))) rfl ?_
    refine Z_push gX8_setWidth_6 (v := (0, l)) rfl ?_
    refine Z_push gX8_setWidth_7 (v := (0, 13)) rfl ?_
    refine Z_push gX8_setWidth_9 (v := (0, 60)) rfl ?_
    refine Z_callP (kd := 1) (na := 3) (M' := mX8_in) gX8_setWidth_11 rfl rfl rfl rfl rfl rfl (fun _ => rfl) rfl rfl (fun _ _ => rfl) (d' := 0) (by omega) (vX8_in0 h) ?_
    refine Z_if_ne gX8_setWidth_14 (tgt := 21) (by decide) (fun h14 => absurd h14 (by omega)) (fun _ => ?_)
    refine Z_push gX8_setWidth_17 (v := (0, 1)) rfl ?_
    refine Z_goto gX8_setWidth_18 (tgt := 22) (by decide) ?_
    refine Z_push gX8_setWidth_22 (v := (0, 1)) rfl ?_
    refine Z_callQ (kd := 0) (na := 3) (M' := mX8_fails) gX8_setWidth_23 rfl rfl rfl rfl rfl rfl (fun _ => rfl) rfl rfl (fun _ _ => zrecv_obj rfl _ _ _) (d' := 0) (by omega) (fail1 h0 (by omega)) ?_
    refine Z_if_eq gX8_setWidth_26 (tgt := 31) (by decide) (fun h26 => absurd h26 (by omega)) (fun _ => ?_)
    refine Z_push gX8_setWidth_29 (v := (0, 0)) rfl ?_
    refine Z_ret (v := (0, 0)) gX8_setWidth_30 rfl rfl rfl rfl rfl _ ?_
    have hcd : (cdWd l) = 1 := by unfold cdWd; (repeat' split) <;> omega
    exact ⟨⟨_, rfl, fun h => absurd h (by omega)⟩, (zup_eq _ _ _ _).trans (by rw [hcd]; rfl), fun h => absurd h (by omega), fun _ => MR_Y hM1 (frY.th w1 1), f0.trans (frY.th w1 1).M⟩
end
