/-! the model's deeds: fix, the best set, rename, move, undo -/
section
variable {ro : zRo} {w w' : zW} {T : zTx} {R : zRu} {D : zDs} {lim la B : Int}
theorem MR_deed (hM : MR w T R D lim la) {T' : zTx} {R' : zRu} {D' : zDs} (h1 : MT w' T') (h2 : MU w' R') (h3 : MD w' D') (h4 : w' 97 6 = w 97 6) (h5 : w' 97 10 = 0) : MR w' T' R' D' lim 0 := ⟨h1, h2, h3, h4.trans hM.2.2.2.1, h5, fun h => absurd h (by decide)⟩
theorem cyT_same (T : zTx) (a : Nat) (q : Nat) : (cyT T a a).2 q = T.2 q := by
  show (if q = a then T.2 a else if a ≤ q ∧ q < a then T.2 (q + 1) else if a < q ∧ q ≤ a then T.2 (q - 1) else T.2 q) = _
  by_cases e : q = a
  · rw [if_pos e, e]
  · rw [if_neg e, if_neg (by omega), if_neg (by omega)]
theorem cyT_up (T : zTx) {a c : Nat} (h : a ≤ c) (q : Nat) : (swT (cyT T a c) c (c + 1)).2 q = (cyT T a (c + 1)).2 q := by
  show (if q = c + 1 then (if c = c then T.2 a else _) else if q = c then (if c + 1 = c then T.2 a else if a ≤ c + 1 ∧ c + 1 < c then T.2 (c + 1 + 1) else if c < c + 1 ∧ c + 1 ≤ a then T.2 (c + 1 - 1) else T.2 (c + 1)) else (if q = c then T.2 a else if a ≤ q ∧ q < c then T.2 (q + 1) else if c < q ∧ q ≤ a then T.2 (q - 1) else T.2 q)) = (if q = c + 1 then T.2 a else if a ≤ q ∧ q < c + 1 then T.2 (q + 1) else if c + 1 < q ∧ q ≤ a then T.2 (q - 1) else T.2 q)
  by_cases e : q = c + 1
  · rw [if_pos e, if_pos e, if_pos rfl]
  · rw [if_neg e, if_neg e]
    by_cases e2 : q = c
    · subst e2
      rw [if_pos rfl, if_neg (by omega : ¬ q + 1 = q), if_neg (by omega : ¬ (a ≤ q + 1 ∧ q + 1 < q)), if_neg (by omega : ¬ (q < q + 1 ∧ q + 1 ≤ a)), if_pos (by omega : a ≤ q ∧ q < q + 1)]
    · rw [if_neg e2, if_neg e2]
      by_cases e3 : a ≤ q ∧ q < c
      · rw [if_pos e3, if_pos (by omega : a ≤ q ∧ q < c + 1)]
      · rw [if_neg e3, if_neg (by omega : ¬ (a ≤ q ∧ q < c + 1)), if_neg (by omega : ¬ (c < q ∧ q ≤ a)), if_neg (by omega : ¬ (c + 1 < q ∧ q ≤ a))]
theorem cyT_down (T : zTx) {a c : Nat} (h : c + 1 ≤ a) (q : Nat) : (swT (cyT T a (c + 1)) (c + 1) c).2 q = (cyT T a c).2 q := by
  show (if q = c then (if c + 1 = c + 1 then T.2 a else _) else if q = c + 1 then (if c = c + 1 then T.2 a else if a ≤ c ∧ c < c + 1 then T.2 (c + 1) else if c + 1 < c ∧ c ≤ a then T.2 (c - 1) else T.2 c) else (if q = c + 1 then T.2 a else if a ≤ q ∧ q < c + 1 then T.2 (q + 1) else if c + 1 < q ∧ q ≤ a then T.2 (q - 1) else T.2 q)) = (if q = c then T.2 a else if a ≤ q ∧ q < c then T.2 (q + 1) else if c < q ∧ q ≤ a then T.2 (q - 1) else T.2 q)
  by_cases e : q = c
  · rw [if_pos e, if_pos e, if_pos rfl]
  · rw [if_neg e, if_neg e]
    by_cases e2 : q = c + 1
    · subst e2
      rw [if_pos rfl, if_neg (by omega : ¬ c = c + 1), if_neg (by omega : ¬ (a ≤ c ∧ c < c + 1)), if_neg (by omega : ¬ (c + 1 < c ∧ c ≤ a)), if_neg (by omega : ¬ (a ≤ c + 1 ∧ c + 1 < c)), if_pos (by omega : c < c + 1 ∧ c + 1 ≤ a), Nat.add_sub_cancel]
    · rw [if_neg e2, if_neg e2, if_neg (by omega : ¬ (a ≤ q ∧ q < c + 1)), if_neg (by omega : ¬ (a ≤ q ∧ q < c))]
      by_cases e3 : c < q ∧ q ≤ a
      · rw [if_pos e3, if_pos (by omega : c + 1 < q ∧ q ≤ a)]
      · rw [if_neg e3, if_neg (by omega : ¬ (c + 1 < q ∧ q ≤ a))]
theorem mX8w_fix (hM : MR w T R D lim la) (hV : SV B T R D lim la) (f : Int) (hB : B ≤ 900000) : Ev ro 3 mX8_fix [(1, ((97 : Nat) : Int)), (0, f)] w (mM w 0 (cdFix T R f) (((fxT T (rlT T (feT T f.toNat)).toNat (feT T f.toNat)).1 : Int)) (fun w' => MR w' (fxT T (rlT T (feT T f.toNat)).toNat (feT T f.toNat)) (rwR R (rlT T (feT T f.toNat)).toNat) (nfD (kpD D T) (rlT T (feT T f.toNat)).toNat) lim 0) (fun w' => MR w' T R D lim la)) := by
  obtain ⟨hTV, hRV, hDV, hlim, hla, hop, hopD⟩ := id hV
  have hV1 := hTV.1
  have hM1 := MR_Y hM (frY.th w 0)
  have h0 : zup w 97 0 0 97 0 = 0 := zup_eq _ _ _ _
  have f0 : frM w (zup w 97 0 0) := (frY.th w 0).M
  show Z ro 3 mX8_fix 0 [(1, ((97 : Nat) : Int)), (0, f)] [] w _
  refine Z_push gX8_fix_0 (v := (1, ((97 : Nat) : Int))) rfl ?_
  refine Z_push gX8_fix_1 (v := (0, 0)) rfl ?_
  refine Z_put gX8_fix_2 rfl rfl (by decide) rfl (fun h => by cases h) ?_
  generalize zup w 97 0 0 = w1 at hM1 h0 f0 ⊢
  obtain ⟨hT1, hU1, hD1, hl1, hla1, hln1⟩ := id hM1
  by_cases h : 0 ≤ f ∧ f < (fdN T T.1 : Int)
  · obtain ⟨j, hj, hr, he⟩ := fdN_ex (T := T) (i := f.toNat) (n := T.1) (by omega)
    have hfe : feT T f.toNat = j := by rw [← he]; exact fe_at hr
    have hcx : cdFix T R f = if 0 < gnT T R j then 0 else 2 := by unfold cdFix; rw [if_pos h, hfe]
    rw [hfe]
    obtain rfl : f = (fdN T j : Int) := by omega
    generalize cdFix T R (fdN T j : Int) = c at hcx ⊢
    refine Z_push gX8_fix_5 (v := (1, ((97 : Nat) : Int))) rfl ?_
    refine Z_push gX8_fix_6 (v := (1, ((97 : Nat) : Int))) rfl ?_
    refine Z_push gX8_fix_7 (v := (0, (fdN T j : Int))) rfl ?_
    refine Z_callE (kd := 0) (na := 2) (M' := mX8_noFinding) gX8_fix_8 rfl rfl rfl rfl rfl rfl (fun _ => rfl) rfl rfl (fun _ _ => zrecv_obj rfl _ _ _) (d' := 2) (by omega) (noFnd0 hT1 hU1 hTV hRV h) ?_
    rintro o w2 ⟨rfl, g1, g2, g3, g4⟩
    have hM2 := MR_Y hM1 g4.Y
    have h02 : w2 97 0 = 0 := (g4 _ _ (by omega) (by omega)).trans h0
    have f02 := f0.trans g4.Y.M
    obtain ⟨hT2, hU2, hD2, hl2, hla2, -⟩ := id hM2
    refine Z_push gX8_fix_11 (v := (0, 1)) rfl ?_
    refine Z_callP (kd := 0) (na := 3) (M' := mX8_fails) gX8_fix_12 rfl rfl rfl rfl rfl rfl (fun _ => rfl) rfl rfl (fun _ _ => zrecv_obj rfl _ _ _) (d' := 0) (by omega) (fail0 h02 1) ?_
    refine Z_if_ne gX8_fix_15 (tgt := 39) (by decide) (fun h15 => absurd h15 (by omega)) (fun _ => ?_)
    refine Z_push gX8_fix_18 (v := (1, ((97 : Nat) : Int))) rfl ?_
    refine Z_push gX8_fix_19 (v := (1, ((97 : Nat) : Int))) rfl ?_
    refine Z_push gX8_fix_20 (v := (0, (fdN T j : Int))) rfl ?_
    refine Z_callP (kd := 0) (na := 2) (M' := mX8_fixable) gX8_fix_21 rfl rfl rfl rfl rfl rfl (fun _ => rfl) rfl rfl (fun _ _ => zrecv_obj rfl _ _ _) (d' := 0) (by omega) (vX8_fixable g1 hT2 hU2 hTV hRV hr) ?_
    refine Z_if_ne gX8_fix_24 (tgt := 31) (by decide) (fun h24 => ?_) (fun h24 => ?_)
    · have hg1 : 0 < gnT T R j := Classical.byContradiction fun h => h24 (if_neg h)
      rw [if_pos hg1] at hcx
      refine Z_push gX8_fix_31 (v := (0, 0)) rfl ?_
      refine Z_push gX8_fix_32 (v := (0, 2)) rfl ?_
      refine Z_callP (kd := 0) (na := 3) (M' := mX8_fails) gX8_fix_33 rfl rfl rfl rfl rfl rfl (fun _ => rfl) rfl rfl (fun _ _ => zrecv_obj rfl _ _ _) (d' := 0) (by omega) (fail0 h02 2) ?_
      refine Z_if_eq gX8_fix_36 (tgt := 41) (by decide) (fun _ => ?_) (fun h36 => absurd h36 (by omega))
      refine Z_push gX8_fix_41 (v := (1, ((97 : Nat) : Int))) rfl ?_
      refine Z_callE (kd := 0) (na := 1) (M' := mX8_keep) gX8_fix_42 rfl rfl rfl rfl rfl rfl (fun _ => rfl) rfl rfl (fun _ _ => zrecv_obj rfl _ _ _) (d' := 0) (by omega) (vX8_keep hM2 hTV hDV) ?_
      rintro o w3 ⟨rfl, k1, k2⟩
      have hF3 : MF w3 T T.1 := MF_fr g1 (fun a k h => k2 a k (by omega) (by omega))
      refine Z_push gX8_fix_45 (v := (1, ((97 : Nat) : Int))) rfl ?_
      refine Z_push gX8_fix_46 (v := (0, (fdN T j : Int))) rfl ?_
      refine Z_callE (kd := 0) (na := 2) (M' := mX8_fixes) gX8_fix_47 rfl rfl rfl rfl rfl rfl (fun _ => rfl) rfl rfl (fun _ _ => zrecv_obj rfl _ _ _) (d' := 2) (by omega) (vX8_fixes hF3 hTV hr k1.1 hTV (KP_self hr) k1.2.1 hRV (by omega) k1.2.2.1 (DV_kp hDV hTV) (by show 0 < (if D.1 < 10 then D.1 + 1 else 10); split <;> omega)) ?_
      rintro o w4 ⟨rfl, m1, m2, m3, m4⟩
      refine Z_push gX8_fix_50 (v := (1, ((97 : Nat) : Int))) rfl ?_
      refine Z_getV (v := ((fxT T (rlT T j).toNat j).1 : Int)) gX8_fix_51 rfl rfl (by decide) m1.1 ?_
      refine Z_ret (v := (0, ((fxT T (rlT T j).toNat j).1 : Int))) gX8_fix_54 rfl rfl rfl rfl rfl _ ?_
      exact ⟨⟨_, rfl, fun _ => rfl⟩, ((m4 _ _ (by omega) (by omega) (by omega)).trans ((k2 _ _ (by omega) (by omega)).trans h02)).trans (by rw [hcx]; rfl), fun _ => MR_deed k1 m1 m2 m3 (m4 _ _ (by omega) (by omega) (by omega)) ((m4 _ _ (by omega) (by omega) (by omega)).trans k1.2.2.2.2.1), fun h => absurd hcx h, fun a k ha => (m4 a k (by omega) (by omega) (by omega)).trans ((k2 a k (by omega) (by omega)).trans (f02 a k ha))⟩
    · have hg0 : ¬ 0 < gnT T R j := fun h => by rw [if_pos h] at h24; exact absurd h24 (by decide)
      rw [if_neg hg0] at hcx
      refine Z_push gX8_fix_27 (v := (0, 1)) rfl ?_
      refine Z_goto gX8_fix_28 (tgt := 32) (by decide) ?_
      refine Z_push gX8_fix_32 (v := (0, 2)) rfl ?_
      refine Z_callQ (kd := 0) (na := 3) (M' := mX8_fails) gX8_fix_33 rfl rfl rfl rfl rfl rfl (fun _ => rfl) rfl rfl (fun _ _ => zrecv_obj rfl _ _ _) (d' := 0) (by omega) (fail1 h02 (by omega)) ?_
      refine Z_if_eq gX8_fix_36 (tgt := 41) (by decide) (fun h36 => absurd h36 (by omega)) (fun _ => ?_)
      refine Z_push gX8_fix_39 (v := (0, 0)) rfl ?_
      refine Z_ret (v := (0, 0)) gX8_fix_40 rfl rfl rfl rfl rfl _ ?_
      exact ⟨⟨_, rfl, fun h => absurd h (by omega)⟩, (zup_eq _ _ _ _).trans (by rw [hcx]; rfl), fun h => absurd h (by omega), fun _ => MR_Y hM2 (frY.th w2 2), f02.trans (frY.th w2 2).M⟩
  · refine Z_push gX8_fix_5 (v := (1, ((97 : Nat) : Int))) rfl ?_
    refine Z_push gX8_fix_6 (v := (1, ((97 : Nat) : Int))) rfl ?_
    refine Z_push gX8_fix_7 (v := (0, f)) rfl ?_
    refine Z_callE (kd := 0) (na := 2) (M' := mX8_noFinding) gX8_fix_8 rfl rfl rfl rfl rfl rfl (fun _ => rfl) rfl rfl (fun _ _ => zrecv_obj rfl _ _ _) (d' := 2) (by omega) (noFnd1 hT1 hU1 hTV hRV h) ?_
    rintro o w2 ⟨rfl, g1, g2, g3, g4⟩
    have h02 : w2 97 0 = 0 := (g4 _ _ (by omega) (by omega)).trans h0
    refine Z_push gX8_fix_11 (v := (0, 1)) rfl ?_
    refine Z_callQ (kd := 0) (na := 3) (M' := mX8_fails) gX8_fix_12 rfl rfl rfl rfl rfl rfl (fun _ => rfl) rfl rfl (fun _ _ => zrecv_obj rfl _ _ _) (d' := 0) (by omega) (fail1 h02 (by omega)) ?_
    refine Z_if_ne gX8_fix_15 (tgt := 39) (by decide) (fun _ => ?_) (fun h15 => absurd h15 (by omega))
    refine Z_push gX8_fix_39 (v := (0, 0)) rfl ?_
    refine Z_ret (v := (0, 0)) gX8_fix_40 rfl rfl rfl rfl rfl _ ?_
    have hcd : (cdFix T R f) = 1 := by unfold cdFix; (repeat' split) <;> omega
    exact ⟨⟨_, rfl, fun h => absurd h (by omega)⟩, (zup_eq _ _ _ _).trans (by rw [hcd]; rfl), fun h => absurd h (by omega), fun _ => MR_Y (MR_Y hM1 g4.Y) (frY.th w2 1), (f0.trans g4.Y.M).trans (frY.th w2 1).M⟩
theorem mX8w_fixBest (hM : MR w T R D lim la) (hV : SV B T R D lim la) (hB : B ≤ 900000) : Ev ro 3 mX8_fixBest [(1, ((97 : Nat) : Int))] w (mM w 0 (cdFB T R) ((bcK T R 0 : Int)) (fun w' => MR w' (fbK T R D 0).1 (fbK T R D 0).2.1 (fbK T R D 0).2.2 lim 0) (fun w' => MR w' T R D lim la)) := by
  obtain ⟨hTV, hRV, hDV, hlim, hla, hop, hopD⟩ := id hV
  have hV1 := hTV.1
  have hM1 := MR_Y hM (frY.th w 0)
  have h0 : zup w 97 0 0 97 0 = 0 := zup_eq _ _ _ _
  have f0 : frM w (zup w 97 0 0) := (frY.th w 0).M
  show Z ro 3 mX8_fixBest 0 [(1, ((97 : Nat) : Int)), (9, 0), (9, 0)] [] w _
  refine Z_push gX8_fixBest_0 (v := (1, ((97 : Nat) : Int))) rfl ?_
  refine Z_push gX8_fixBest_1 (v := (0, 0)) rfl ?_
  refine Z_put gX8_fixBest_2 rfl rfl (by decide) rfl (fun h => by cases h) ?_
  generalize zup w 97 0 0 = w1 at hM1 h0 f0 ⊢
  obtain ⟨hT1, hU1, hD1, hl1, hla1, hln1⟩ := id hM1
  have h30 := fdN_30 hTV T.1
  have hfx := fx_le (T := T) (R := R) T.1
  refine Z_push gX8_fixBest_5 (v := (1, ((97 : Nat) : Int))) rfl ?_
  refine Z_callE (kd := 0) (na := 1) (M' := mX8_look) gX8_fixBest_6 rfl rfl rfl rfl rfl rfl (fun _ => rfl) rfl rfl (fun _ _ => zrecv_obj rfl _ _ _) (d' := 1) (by omega) (vX8_look hT1 hU1 hTV hRV) ?_
  rintro o w2 ⟨rfl, g1, g2, g3, g4⟩
  have hM2 := MR_Y hM1 g4.Y
  have h02 : w2 97 0 = 0 := (g4 _ _ (by omega) (by omega)).trans h0
  have f02 := f0.trans g4.Y.M
  obtain ⟨hT2, hU2, hD2, hl2, hla2, -⟩ := id hM2
  refine Z_push gX8_fixBest_9 (v := (1, ((97 : Nat) : Int))) rfl ?_
  refine Z_push gX8_fixBest_10 (v := (1, ((97 : Nat) : Int))) rfl ?_
  refine Z_callP (kd := 0) (na := 1) (M' := mX8_fixables) gX8_fixBest_11 rfl rfl rfl rfl rfl rfl (fun _ => rfl) rfl rfl (fun _ _ => zrecv_obj rfl _ _ _) (d' := 1) (by omega) (vX8_fixables g1 hT2 hU2 hTV hRV) ?_
  refine Z_if_ne gX8_fixBest_14 (tgt := 21) (by decide) (fun h14 => ?_) (fun h14 => ?_)
  · have hcd : cdFB T R = 0 := by unfold cdFB; rw [if_neg (by omega)]
    refine Z_push gX8_fixBest_21 (v := (0, 0)) rfl ?_
    refine Z_push gX8_fixBest_22 (v := (0, 1)) rfl ?_
    refine Z_callP (kd := 0) (na := 3) (M' := mX8_fails) gX8_fixBest_23 rfl rfl rfl rfl rfl rfl (fun _ => rfl) rfl rfl (fun _ _ => zrecv_obj rfl _ _ _) (d' := 0) (by omega) (fail0 h02 1) ?_
    refine Z_if_eq gX8_fixBest_26 (tgt := 31) (by decide) (fun _ => ?_) (fun h26 => absurd h26 (by omega))
    refine Z_push gX8_fixBest_31 (v := (1, ((97 : Nat) : Int))) rfl ?_
    refine Z_callE (kd := 0) (na := 1) (M' := mX8_keep) gX8_fixBest_32 rfl rfl rfl rfl rfl rfl (fun _ => rfl) rfl rfl (fun _ _ => zrecv_obj rfl _ _ _) (d' := 0) (by omega) (vX8_keep hM2 hTV hDV) ?_
    rintro o w3 ⟨rfl, k1, k2⟩
    have hF3 : MF w3 T T.1 := MF_fr g1 (fun a k h => k2 a k (by omega) (by omega))
    have hB3 : MB w3 T R := fun j hj => (k2 _ _ (by omega) (by omega)).trans (g3 j hj)
    have loop : ∀ i : Nat, i ≤ fdN T T.1 → ∀ (c : Nat) (S : zTx × zRu × zDs), (∀ k, fdN T k = i → fbK T R D k = S) → (∀ k, fdN T k = i → bcK T R k = c) → ∀ W : zW, MT W S.1 → MU W S.2.1 → MD W S.2.2 → frG w3 W → Z ro 3 mX8_fixBest 44 [(1, ((97 : Nat) : Int)), (0, (c : Int)), (0, (i : Int) - 1)] [] W (fun r9 w9 k9 => k9 = 0 ∧ ∃ o, r9 = .inl o ∧ (mM w 0 (cdFB T R) (bcK T R 0 : Int) (fun w' => MR w' (fbK T R D 0).1 (fbK T R D 0).2.1 (fbK T R D 0).2.2 lim 0) (fun w' => MR w' T R D lim la)) o w9) := by
      intro i
      induction i with
      | zero =>
        intro hi c S hS hc W q1 q2 q3 q4
        have e1 := hS 0 rfl
        have e2 := hc 0 rfl
        subst e1
        subst e2
        refine Z_push gX8_fixBest_44 (v := (0, ((0 : Nat) : Int) - 1)) rfl ?_
        refine Z_if_lt gX8_fixBest_45 (tgt := 71) (by decide) (fun _ => ?_) (fun h45 => absurd h45 (by omega))
        refine Z_push gX8_fixBest_71 (v := (0, (bcK T R 0 : Int))) rfl ?_
        refine Z_ret (v := (0, (bcK T R 0 : Int))) gX8_fixBest_72 rfl rfl rfl rfl rfl _ ?_
        exact ⟨⟨_, rfl, fun _ => rfl⟩, ((q4 _ _ (by omega) (by omega) (by omega)).trans ((k2 _ _ (by omega) (by omega)).trans h02)).trans (by rw [hcd]; rfl), fun _ => MR_deed k1 q1 q2 q3 (q4 _ _ (by omega) (by omega) (by omega)) ((q4 _ _ (by omega) (by omega) (by omega)).trans k1.2.2.2.2.1), fun h => absurd hcd h, fun a k ha => (q4 a k (by omega) (by omega) (by omega)).trans ((k2 a k (by omega) (by omega)).trans (f02 a k ha))⟩
      | succ i ih =>
        intro hi c S hS hc W q1 q2 q3 q4
        rw [show ((i + 1 : Nat) : Int) - 1 = (i : Int) by omega]
        obtain ⟨j, b1, b2, rfl⟩ := fdN_ex (T := T) (i := i) (n := T.1) (by omega)
        have e1 := hS (j + 1) (fdN_s b2)
        have e2 := hc (j + 1) (fdN_s b2)
        subst e1
        subst e2
        have hbc := bcK_le (T := T) (R := R) hV1 (j + 1)
        obtain ⟨i1, i2, i3, i4, i5, i6, i7, i8⟩ := fb_inv hV (T.1 - (j + 1)) (j + 1) (by omega)
        have p1 : ∀ S', fbK T R D j = S' → ∀ k, fdN T k = fdN T j → fbK T R D k = S' := fun S' h k hk => (plat (f := fbK T R D) (fun q hq => (fbK_f (bs_n hq)).symm) hk).trans h
        have p2 : ∀ c', bcK T R j = c' → ∀ k, fdN T k = fdN T j → bcK T R k = c' := fun c' h k hk => (plat (f := bcK T R) (fun q hq => (bcK_f (bs_n hq)).symm) hk).trans h
        refine Z_push gX8_fixBest_44 (v := (0, (fdN T j : Int))) rfl ?_
        refine Z_if_lt gX8_fixBest_45 (tgt := 71) (by decide) (fun h45 => absurd h45 (by omega)) (fun _ => ?_)
        refine Z_push gX8_fixBest_48 (v := (1, ((97 : Nat) : Int))) rfl ?_
        refine Z_getR (b := 114) gX8_fixBest_49 rfl rfl (by decide) rfl (by omega) ?_
        refine Z_push gX8_fixBest_52 (v := (0, (fdN T j : Int))) rfl ?_
        refine Z_baloadV (v := b2i (bsT T R j)) gX8_fixBest_53 rfl (by omega) (by omega) ((q4 _ _ (by omega) (by omega) (by omega)).trans (hB3 j b2)) ?_
        refine Z_if_eq gX8_fixBest_54 (tgt := 65) (by decide) (fun h54 => ?_) (fun h54 => ?_)
        · have hb := b2i_f h54
          refine Z_iinc gX8_fixBest_65 rfl ⟨by omega, by omega⟩ (ls' := [(1, ((97 : Nat) : Int)), (0, (bcK T R (j + 1) : Int)), (0, (fdN T j : Int) + (-1))]) rfl ?_
          refine Z_goto gX8_fixBest_68 (tgt := 44) (by decide) ?_
          rw [show (fdN T j : Int) + (-1) = (fdN T j : Int) - 1 by omega]
          exact ih (by omega) _ _ (p1 _ (fbK_f hb)) (p2 _ (bcK_f hb)) W q1 q2 q3 q4
        · have hb := b2i_t h54
          have hl := en_lt b2
          have hK : KP (fbK T R D (j + 1)).1 (rlT T j).toNat j := KP_of b2 (fun q hq => i1 q (by omega) (fun j2 hj hj2 => by have := bs_sep hb (by omega : j < j2) hj2; omega))
          have hkp : 0 < (kpD D T).1 := by show 0 < (if D.1 < 10 then D.1 + 1 else 10); split <;> omega
          have hDVS : DV (fbK T R D (j + 1)).2.2 := fun q hq => by
            have hk := DV_kp hDV hTV
            rw [i5] at hq
            by_cases hq0 : q = 0
            · subst hq0
              exact ⟨by rw [i6]; exact hTV, fun r hr => by have := i7 r; omega⟩
            · rw [i8 q hq0]; exact hk q hq
          have hFW : MF W T T.1 := MF_fr hF3 (fun a k h => q4 a k (by omega) (by omega) (by omega))
          refine Z_push gX8_fixBest_57 (v := (1, ((97 : Nat) : Int))) rfl ?_
          refine Z_push gX8_fixBest_58 (v := (0, (fdN T j : Int))) rfl ?_
          refine Z_callE (kd := 0) (na := 2) (M' := mX8_fixes) gX8_fixBest_59 rfl rfl rfl rfl rfl rfl (fun _ => rfl) rfl rfl (fun _ _ => zrecv_obj rfl _ _ _) (d' := 2) (by omega) (vX8_fixes hFW hTV b2 q1 i2 hK q2 i3 (by omega) q3 hDVS (by rw [i5]; exact hkp)) ?_
          rintro o w4 ⟨rfl, m1, m2, m3, m4⟩
          refine Z_iinc gX8_fixBest_62 rfl ⟨by omega, by omega⟩ (ls' := [(1, ((97 : Nat) : Int)), (0, (bcK T R (j + 1) : Int) + 1), (0, (fdN T j : Int))]) rfl ?_
          refine Z_iinc gX8_fixBest_65 rfl ⟨by omega, by omega⟩ (ls' := [(1, ((97 : Nat) : Int)), (0, (bcK T R (j + 1) : Int) + 1), (0, (fdN T j : Int) + (-1))]) rfl ?_
          refine Z_goto gX8_fixBest_68 (tgt := 44) (by decide) ?_
          rw [show (fdN T j : Int) + (-1) = (fdN T j : Int) - 1 by omega]
          exact ih (by omega) (bcK T R (j + 1) + 1) _ (p1 _ (fbK_t hb)) (p2 _ (bcK_t hb)) w4 m1 m2 m3 (q4.trans m4)
    refine Z_push gX8_fixBest_35 (v := (0, 0)) rfl ?_
    refine Z_sto gX8_fixBest_36 rfl (ls' := [(1, ((97 : Nat) : Int)), (0, 0), (9, 0)]) (st' := []) rfl ?_
    refine Z_push gX8_fixBest_37 (v := (1, ((97 : Nat) : Int))) rfl ?_
    refine Z_getV (v := (fdN T T.1 : Int)) gX8_fixBest_38 rfl rfl (by decide) hF3.1 ?_
    refine Z_push gX8_fixBest_41 (v := (0, 1)) rfl ?_
    refine Z_isub gX8_fixBest_42 ⟨by omega, by omega⟩ ?_
    refine Z_sto gX8_fixBest_43 rfl (ls' := [(1, ((97 : Nat) : Int)), (0, 0), (0, (fdN T T.1 : Int) - 1)]) (st' := []) rfl ?_
    have f0 : fbK T R D T.1 = (T, R, kpD D T) := by unfold fbK; rw [show T.1 - T.1 = 0 by omega]; rfl
    have c0 : bcK T R T.1 = 0 := by unfold bcK; rw [show T.1 - T.1 = 0 by omega]; rfl
    exact loop (fdN T T.1) (Nat.le_refl _) 0 (T, R, kpD D T) (fun k hk => (plat (f := fbK T R D) (fun q hq => (fbK_f (bs_n hq)).symm) hk).trans f0) (fun k hk => (plat (f := bcK T R) (fun q hq => (bcK_f (bs_n hq)).symm) hk).trans c0) w3 k1.1 k1.2.1 k1.2.2.1 (frG.refl w3)
  · have hcd : cdFB T R = 1 := by unfold cdFB; rw [if_pos (by omega)]
    refine Z_push gX8_fixBest_17 (v := (0, 1)) rfl ?_
    refine Z_goto gX8_fixBest_18 (tgt := 22) (by decide) ?_
    refine Z_push gX8_fixBest_22 (v := (0, 1)) rfl ?_
    refine Z_callQ (kd := 0) (na := 3) (M' := mX8_fails) gX8_fixBest_23 rfl rfl rfl rfl rfl rfl (fun _ => rfl) rfl rfl (fun _ _ => zrecv_obj rfl _ _ _) (d' := 0) (by omega) (fail1 h02 (by omega)) ?_
    refine Z_if_eq gX8_fixBest_26 (tgt := 31) (by decide) (fun h26 => absurd h26 (by omega)) (fun _ => ?_)
    refine Z_push gX8_fixBest_29 (v := (0, 0)) rfl ?_
    refine Z_ret (v := (0, 0)) gX8_fixBest_30 rfl rfl rfl rfl rfl _ ?_
    exact ⟨⟨_, rfl, fun h => absurd h (by omega)⟩, (zup_eq _ _ _ _).trans (by rw [hcd]; rfl), fun h => absurd h (by omega), fun _ => MR_Y hM2 (frY.th w2 1), f02.trans (frY.th w2 1).M⟩
end
