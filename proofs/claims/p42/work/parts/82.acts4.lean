/-! the law's acts, its four deeds -/
theorem exC_neg (E : String) : exC E < 0 := by
  unfold exC
  repeat' split
  all_goals decide
theorem rv_neg {v : Int} : ∀ {Es : List String} {c : Nat}, c ≠ 0 → c ≤ Es.length → rV (ans (some (0, v)) Es c) < 0
  | [], c, h, hc => absurd hc (by show ¬ c ≤ 0; omega)
  | E :: _, 0, h, _ => absurd rfl h
  | E :: _, 1, _, _ => exC_neg E
  | E :: r, c + 2, _, hc => rv_neg (Es := r) (c := c + 1) (by omega) (by have : c + 2 ≤ r.length + 1 := hc; omega)
section
variable {T : zTx} {R : zRu} {D : zDs} {lim la B : Int}
theorem kp_b : 0 < (kpD D T).1 ∧ (kpD D T).1 ≤ 10 := by
  show 0 < (if D.1 < 10 then D.1 + 1 else 10) ∧ (if D.1 < 10 then D.1 + 1 else 10) ≤ 10
  split <;> omega
theorem dok_fix (hS : SW B T R D lim la) {a : Int} (h : cdFix T R a = 0) : DOK B T (fxT T (rlT T (feT T a.toNat)).toNat (feT T a.toNat)) (rwR R (rlT T (feT T a.toNat)).toNat) (nfD (kpD D T) (rlT T (feT T a.toNat)).toNat) lim := by
  have hj : rlT T (feT T a.toNat) ≠ -1 := by
    unfold cdFix at h
    split at h
    · split at h
      · exact gn_rl (R := R) (by omega)
      · exact absurd h (by decide)
    · exact absurd h (by decide)
  exact ⟨⟨SV_fix hS.1 hj, WB_fx hS.2.1 (KQ_self hj), WD_nf (WD_kp hS.2.2 hS.2.1) _⟩, (kp_b (T := T) (D := D)).1, (kp_b (T := T) (D := D)).2, rfl⟩
theorem dok_fixBest (hS : SW B T R D lim la) : DOK B T (fbK T R D 0).1 (fbK T R D 0).2.1 (fbK T R D 0).2.2 lim := by
  obtain ⟨i1, i2, i3, i4, i5, i6, i7, i8⟩ := fb_inv hS.1 T.1 0 (by omega)
  exact ⟨⟨SV_fixes hS.1, WB_fb hS.1 hS.2.1 T.1 0 (by omega), WD_fb hS.1 hS.2.1 hS.2.2⟩, by rw [i5]; exact (kp_b (T := T) (D := D)).1, by rw [i5]; exact (kp_b (T := T) (D := D)).2, i6⟩
theorem dok_rename (hS : SW B T R D lim la) {a b : Int} (h : cdRen T a b = 0) : DOK B T (rnT T a b) R (kpD D T) lim := by
  have hb : 0 ≤ b ∧ b < 100 := by
    unfold cdRen at h
    split at h
    · rename_i h2; exact h2.2.1
    · exact absurd h (by decide)
  exact ⟨⟨SV_rename hS.1 a hb, WB_rn hS.2.1 _ _, WD_kp hS.2.2 hS.2.1⟩, (kp_b (T := T) (D := D)).1, (kp_b (T := T) (D := D)).2, rfl⟩
theorem dok_move (hS : SW B T R D lim la) {a b : Int} (h : cdMv T a b = 0) : DOK B T (cyT T a.toNat b.toNat) R (kpD D T) lim := by
  have hk : ((0 ≤ a ∧ a < T.1) ∧ 0 ≤ b ∧ b < T.1) ∧ a ≠ b ∧ b2i (mvT T (mvLo a b) (mvHi a b)) = 1 := by
    unfold cdMv at h
    split at h
    · rename_i h1
      split at h
      · exact absurd h (by decide)
      · rename_i h2
        split at h
        · rename_i h3; exact ⟨h1, h2, h3⟩
        · exact absurd h (by decide)
    · exact absurd h (by decide)
  obtain ⟨⟨h1, h2⟩, h3, h4⟩ := hk
  have ha : ((a.toNat : Nat) : Int) = a := by omega
  have hf : fK (T.2 a.toNat).1 = 0 := by
    have e := kT_nat (T := T) (j := a.toNat) (by omega)
    rw [← e]
    by_cases c1 : kT T (a.toNat : Int) = 110
    · rw [c1]; rfl
    · by_cases c2 : kT T (a.toNat : Int) = 99
      · rw [c2]; rfl
      · have := mvT_f (T := T) (lo := mvLo a b) (hi := mvHi a b) (j := a.toNat) (by omega) (by rw [ha]; unfold mvLo; split <;> omega) (by rw [ha]; unfold mvHi; split <;> omega) (Or.inl ⟨c1, c2⟩)
        rw [this] at h4
        exact absurd h4 (by decide)
  exact ⟨⟨SV_move hS.1 (by omega) (by omega) (by omega), WB_cy hS.2.1 (by omega) (by omega) (by omega) hf, WD_kp hS.2.2 hS.2.1⟩, (kp_b (T := T) (D := D)).1, (kp_b (T := T) (D := D)).2, rfl⟩
end
section
variable {ro : zRo} {X : List zLE} {w : zW} {T : zTx} {R : zRu} {D : zDs} {lim la B : Int} {L : Nat} {f : Nat → Int}
theorem tY_acts (hro : ro (-3) = some (L, f)) (hS : SW B T R D lim la) (hB : B ≤ 800000) (hC : CR w T R D lim la) {i : Int} (hi : 0 ≤ i ∧ i ≤ 1000) : Y ro 38 mL_acts 0 (zargs (zMl mL_acts) [(1, ((0 : Nat) : Int)), (1, -3), (0, i)]) [] X w 400 (AQ B lim) := by
  have hV := hS.1
  have hT30 := hV.1.1
  have hfd := fdN_le T T.1
  show Y ro 38 mL_acts 0 [(1, ((0 : Nat) : Int)), (1, -3), (0, i), (9, 0), (9, 0), (9, 0), (9, 0), (9, 0), (9, 0), (9, 0), (9, 0)] [] X w 400 _
  refine Y_push gL_acts_0 (v := (1, ((0 : Nat) : Int))) rfl ?_
  refine Y_callY (kd := 1) (na := 1) (M' := mL_entries) (k1 := 130) gL_acts_1 rfl rfl rfl rfl rfl rfl (fun _ => rfl) rfl rfl (fun _ _ => rfl) (d' := 37) (by omega) (tY_entries hC hV) (by omega) (fun o X9 w9 h => ?_)
  obtain ⟨rfl, rfl, hC9, hE9, hF9⟩ := h
  have hX := get_new X (1, 0, T.1)
  have hG9 := frC.refl w9
  refine Y_sto gL_acts_4 rfl (ls' := [(1, ((0 : Nat) : Int)), (1, -3), (0, i), (1, ((97 + X.length : Nat) : Int)), (9, 0), (9, 0), (9, 0), (9, 0), (9, 0), (9, 0), (9, 0)]) (st' := []) rfl ?_
  refine Y_push gL_acts_5 (v := (1, ((97 + X.length : Nat) : Int))) rfl ?_
  refine Y_len (len := T.1) gL_acts_6 (by assumption) (by decide) ?_
  refine Y_sto gL_acts_7 rfl (ls' := [(1, ((0 : Nat) : Int)), (1, -3), (0, i), (1, ((97 + X.length : Nat) : Int)), (0, ((T.1 : Nat) : Int)), (9, 0), (9, 0), (9, 0), (9, 0), (9, 0), (9, 0)]) (st' := []) rfl ?_
  refine Y_push gL_acts_9 (v := (0, 6)) rfl ?_
  refine Y_push gL_acts_11 (v := (1, -3)) rfl ?_
  refine Y_push gL_acts_12 (v := (0, i)) rfl ?_
  refine Y_push gL_acts_13 (v := (0, 4)) rfl ?_
  refine Y_pick gL_acts_14 rfl rfl rfl rfl rfl rfl (fun _ => rfl) rfl rfl (by omega) (vL_pick hro ⟨by omega, by omega⟩ ⟨by omega, by omega⟩) (fun v1 h1a h1b => ?_)
  refine Y_iadd gL_acts_17 ⟨by omega, by omega⟩ ?_
  refine Y_sto gL_acts_18 rfl (ls' := [(1, ((0 : Nat) : Int)), (1, -3), (0, i), (1, ((97 + X.length : Nat) : Int)), (0, ((T.1 : Nat) : Int)), (0, 6 + v1), (9, 0), (9, 0), (9, 0), (9, 0), (9, 0)]) (st' := []) rfl ?_
  rcases (by omega : v1 = 0 ∨ v1 = 1 ∨ v1 = 2 ∨ v1 = 3) with e1 | e1 | e1 | e1
  · rw [show 6 + v1 = 6 by omega]
    refine Y_push gL_acts_20 (v := (0, 6)) rfl ?_
    refine Y_push gL_acts_22 (v := (0, 6)) rfl ?_
    refine Y_icmp_ne gL_acts_24 (tgt := 43) (by decide) (fun h24 => absurd h24 (by decide)) (fun _ => ?_)
    refine Y_push gL_acts_27 (v := (1, -3)) rfl ?_
    refine Y_push gL_acts_28 (v := (0, i)) rfl ?_
    refine Y_push gL_acts_29 (v := (0, 1)) rfl ?_
    refine Y_iadd gL_acts_30 ⟨by omega, by omega⟩ ?_
    refine Y_push gL_acts_31 (v := (1, ((0 : Nat) : Int))) rfl ?_
    refine Y_callR (kd := 0) (na := 1) (M' := mX7_findings) (v := (0, (fdN T T.1 : Int))) gL_acts_32 rfl rfl rfl rfl rfl rfl (fun _ => rfl) rfl rfl (fun _ _ => zrecv_obj rfl _ _ _) (d' := 5) (by omega) (uX7_findings hC9 hV) rfl (fun w1 hC1 hF1 => ?_)
    have hG1 := hG9.trans hF1
    refine Y_push gL_acts_35 (v := (0, 1)) rfl ?_
    refine Y_iadd gL_acts_36 ⟨by omega, by omega⟩ ?_
    refine Y_pick gL_acts_37 rfl rfl rfl rfl rfl rfl (fun _ => rfl) rfl rfl (by omega) (vL_pick hro ⟨by omega, by omega⟩ ⟨by omega, by omega⟩) (fun v6 h6a h6b => ?_)
    refine Y_goto gL_acts_40 (tgt := 73) (by decide) ?_
    refine Y_sto gL_acts_73 rfl (ls' := [(1, ((0 : Nat) : Int)), (1, -3), (0, i), (1, ((97 + X.length : Nat) : Int)), (0, (T.1 : Int)), (0, 6), (0, v6), (9, 0), (9, 0), (9, 0), (9, 0)]) (st' := []) rfl ?_
    refine Y_push gL_acts_75 (v := (0, 6)) rfl ?_
    refine Y_push gL_acts_77 (v := (0, 8)) rfl ?_
    refine Y_icmp_ne gL_acts_79 (tgt := 94) (by decide) (fun _ => ?_) (fun h79 => absurd h79 (by decide))
    refine Y_push gL_acts_94 (v := (1, -3)) rfl ?_
    refine Y_push gL_acts_95 (v := (0, i)) rfl ?_
    refine Y_push gL_acts_96 (v := (0, 2)) rfl ?_
    refine Y_iadd gL_acts_97 ⟨by omega, by omega⟩ ?_
    refine Y_push gL_acts_98 (v := (0, (T.1 : Int))) rfl ?_
    refine Y_push gL_acts_100 (v := (0, 1)) rfl ?_
    refine Y_iadd gL_acts_101 ⟨by omega, by omega⟩ ?_
    refine Y_pick gL_acts_102 rfl rfl rfl rfl rfl rfl (fun _ => rfl) rfl rfl (by omega) (vL_pick hro ⟨by omega, by omega⟩ ⟨by omega, by omega⟩) (fun v7 h7a h7b => ?_)
    refine Y_sto gL_acts_105 rfl (ls' := [(1, ((0 : Nat) : Int)), (1, -3), (0, i), (1, ((97 + X.length : Nat) : Int)), (0, (T.1 : Int)), (0, 6), (0, v6), (0, v7), (9, 0), (9, 0), (9, 0)]) (st' := []) rfl ?_
    have hEz : ∀ k, k < T.1 → w1 (97 + X.length) k = codE T k := fun k hk => (hG1 (97 + X.length) k (by omega)).trans (hE9 k hk)
    exact Y_K (by omega) (tY_actsTail hro hS hB (by assumption) hX (by omega) hEz hi (wD6 (by assumption) hV (by omega) _ _) (fun hc => rv_neg hc (by unfold cdFix; split <;> (try split) <;> decide)) (fun hc => ⟨by rw [q_0 hc]; omega, dok_fix hS hc⟩) _ _ _)
  · rw [show 6 + v1 = 7 by omega]
    refine Y_push gL_acts_20 (v := (0, 7)) rfl ?_
    refine Y_push gL_acts_22 (v := (0, 6)) rfl ?_
    refine Y_icmp_ne gL_acts_24 (tgt := 43) (by decide) (fun _ => ?_) (fun h24 => absurd h24 (by decide))
    refine Y_push gL_acts_43 (v := (0, 7)) rfl ?_
    refine Y_push gL_acts_45 (v := (0, 8)) rfl ?_
    refine Y_icmp_ne gL_acts_47 (tgt := 62) (by decide) (fun _ => ?_) (fun h47 => absurd h47 (by decide))
    refine Y_push gL_acts_62 (v := (1, -3)) rfl ?_
    refine Y_push gL_acts_63 (v := (0, i)) rfl ?_
    refine Y_push gL_acts_64 (v := (0, 1)) rfl ?_
    refine Y_iadd gL_acts_65 ⟨by omega, by omega⟩ ?_
    refine Y_push gL_acts_66 (v := (0, (T.1 : Int))) rfl ?_
    refine Y_push gL_acts_68 (v := (0, 1)) rfl ?_
    refine Y_iadd gL_acts_69 ⟨by omega, by omega⟩ ?_
    refine Y_pick gL_acts_70 rfl rfl rfl rfl rfl rfl (fun _ => rfl) rfl rfl (by omega) (vL_pick hro ⟨by omega, by omega⟩ ⟨by omega, by omega⟩) (fun v6 h6a h6b => ?_)
    refine Y_sto gL_acts_73 rfl (ls' := [(1, ((0 : Nat) : Int)), (1, -3), (0, i), (1, ((97 + X.length : Nat) : Int)), (0, (T.1 : Int)), (0, 7), (0, v6), (9, 0), (9, 0), (9, 0), (9, 0)]) (st' := []) rfl ?_
    refine Y_push gL_acts_75 (v := (0, 7)) rfl ?_
    refine Y_push gL_acts_77 (v := (0, 8)) rfl ?_
    refine Y_icmp_ne gL_acts_79 (tgt := 94) (by decide) (fun _ => ?_) (fun h79 => absurd h79 (by decide))
    refine Y_push gL_acts_94 (v := (1, -3)) rfl ?_
    refine Y_push gL_acts_95 (v := (0, i)) rfl ?_
    refine Y_push gL_acts_96 (v := (0, 2)) rfl ?_
    refine Y_iadd gL_acts_97 ⟨by omega, by omega⟩ ?_
    refine Y_push gL_acts_98 (v := (0, (T.1 : Int))) rfl ?_
    refine Y_push gL_acts_100 (v := (0, 1)) rfl ?_
    refine Y_iadd gL_acts_101 ⟨by omega, by omega⟩ ?_
    refine Y_pick gL_acts_102 rfl rfl rfl rfl rfl rfl (fun _ => rfl) rfl rfl (by omega) (vL_pick hro ⟨by omega, by omega⟩ ⟨by omega, by omega⟩) (fun v7 h7a h7b => ?_)
    refine Y_sto gL_acts_105 rfl (ls' := [(1, ((0 : Nat) : Int)), (1, -3), (0, i), (1, ((97 + X.length : Nat) : Int)), (0, (T.1 : Int)), (0, 7), (0, v6), (0, v7), (9, 0), (9, 0), (9, 0)]) (st' := []) rfl ?_
    have hEz : ∀ k, k < T.1 → w9 (97 + X.length) k = codE T k := fun k hk => (hG9 (97 + X.length) k (by omega)).trans (hE9 k hk)
    exact Y_K (by omega) (tY_actsTail hro hS hB (by assumption) hX (by omega) hEz hi (wD7 (by assumption) hV (by omega) _ _) (fun hc => rv_neg hc (by unfold cdFB; split <;> decide)) (fun hc => ⟨by rw [q_0 hc]; omega, dok_fixBest hS⟩) _ _ _)
  · rw [show 6 + v1 = 8 by omega]
    refine Y_push gL_acts_20 (v := (0, 8)) rfl ?_
    refine Y_push gL_acts_22 (v := (0, 6)) rfl ?_
    refine Y_icmp_ne gL_acts_24 (tgt := 43) (by decide) (fun _ => ?_) (fun h24 => absurd h24 (by decide))
    refine Y_push gL_acts_43 (v := (0, 8)) rfl ?_
    refine Y_push gL_acts_45 (v := (0, 8)) rfl ?_
    refine Y_icmp_ne gL_acts_47 (tgt := 62) (by decide) (fun h47 => absurd h47 (by decide)) (fun _ => ?_)
    refine Y_push gL_acts_50 (v := (1, -3)) rfl ?_
    refine Y_push gL_acts_51 (v := (0, i)) rfl ?_
    refine Y_push gL_acts_52 (v := (0, 1)) rfl ?_
    refine Y_iadd gL_acts_53 ⟨by omega, by omega⟩ ?_
    refine Y_push gL_acts_54 (v := (0, 8)) rfl ?_
    refine Y_pick gL_acts_56 rfl rfl rfl rfl rfl rfl (fun _ => rfl) rfl rfl (by omega) (vL_pick hro ⟨by omega, by omega⟩ ⟨by omega, by omega⟩) (fun v6 h6a h6b => ?_)
    refine Y_goto gL_acts_59 (tgt := 73) (by decide) ?_
    refine Y_sto gL_acts_73 rfl (ls' := [(1, ((0 : Nat) : Int)), (1, -3), (0, i), (1, ((97 + X.length : Nat) : Int)), (0, (T.1 : Int)), (0, 8), (0, v6), (9, 0), (9, 0), (9, 0), (9, 0)]) (st' := []) rfl ?_
    refine Y_push gL_acts_75 (v := (0, 8)) rfl ?_
    refine Y_push gL_acts_77 (v := (0, 8)) rfl ?_
    refine Y_icmp_ne gL_acts_79 (tgt := 94) (by decide) (fun h79 => absurd h79 (by decide)) (fun _ => ?_)
    refine Y_push gL_acts_82 (v := (1, -3)) rfl ?_
    refine Y_push gL_acts_83 (v := (0, i)) rfl ?_
    refine Y_push gL_acts_84 (v := (0, 2)) rfl ?_
    refine Y_iadd gL_acts_85 ⟨by omega, by omega⟩ ?_
    refine Y_push gL_acts_86 (v := (0, 12)) rfl ?_
    refine Y_pick gL_acts_88 rfl rfl rfl rfl rfl rfl (fun _ => rfl) rfl rfl (by omega) (vL_pick hro ⟨by omega, by omega⟩ ⟨by omega, by omega⟩) (fun v7 h7a h7b => ?_)
    refine Y_goto gL_acts_91 (tgt := 105) (by decide) ?_
    refine Y_sto gL_acts_105 rfl (ls' := [(1, ((0 : Nat) : Int)), (1, -3), (0, i), (1, ((97 + X.length : Nat) : Int)), (0, (T.1 : Int)), (0, 8), (0, v6), (0, v7), (9, 0), (9, 0), (9, 0)]) (st' := []) rfl ?_
    have hEz : ∀ k, k < T.1 → w9 (97 + X.length) k = codE T k := fun k hk => (hG9 (97 + X.length) k (by omega)).trans (hE9 k hk)
    exact Y_K (by omega) (tY_actsTail hro hS hB (by assumption) hX (by omega) hEz hi (wD8 (by assumption) hV _ _) (fun hc => rv_neg hc (by unfold cdRen; (repeat' split) <;> decide)) (fun hc => ⟨by rw [q_0 hc]; exact (tmT_bd T _ _).1, dok_rename hS hc⟩) _ _ _)
  · rw [show 6 + v1 = 9 by omega]
    refine Y_push gL_acts_20 (v := (0, 9)) rfl ?_
    refine Y_push gL_acts_22 (v := (0, 6)) rfl ?_
    refine Y_icmp_ne gL_acts_24 (tgt := 43) (by decide) (fun _ => ?_) (fun h24 => absurd h24 (by decide))
    refine Y_push gL_acts_43 (v := (0, 9)) rfl ?_
    refine Y_push gL_acts_45 (v := (0, 8)) rfl ?_
    refine Y_icmp_ne gL_acts_47 (tgt := 62) (by decide) (fun _ => ?_) (fun h47 => absurd h47 (by decide))
    refine Y_push gL_acts_62 (v := (1, -3)) rfl ?_
    refine Y_push gL_acts_63 (v := (0, i)) rfl ?_
    refine Y_push gL_acts_64 (v := (0, 1)) rfl ?_
    refine Y_iadd gL_acts_65 ⟨by omega, by omega⟩ ?_
    refine Y_push gL_acts_66 (v := (0, (T.1 : Int))) rfl ?_
    refine Y_push gL_acts_68 (v := (0, 1)) rfl ?_
    refine Y_iadd gL_acts_69 ⟨by omega, by omega⟩ ?_
    refine Y_pick gL_acts_70 rfl rfl rfl rfl rfl rfl (fun _ => rfl) rfl rfl (by omega) (vL_pick hro ⟨by omega, by omega⟩ ⟨by omega, by omega⟩) (fun v6 h6a h6b => ?_)
    refine Y_sto gL_acts_73 rfl (ls' := [(1, ((0 : Nat) : Int)), (1, -3), (0, i), (1, ((97 + X.length : Nat) : Int)), (0, (T.1 : Int)), (0, 9), (0, v6), (9, 0), (9, 0), (9, 0), (9, 0)]) (st' := []) rfl ?_
    refine Y_push gL_acts_75 (v := (0, 9)) rfl ?_
    refine Y_push gL_acts_77 (v := (0, 8)) rfl ?_
    refine Y_icmp_ne gL_acts_79 (tgt := 94) (by decide) (fun _ => ?_) (fun h79 => absurd h79 (by decide))
    refine Y_push gL_acts_94 (v := (1, -3)) rfl ?_
    refine Y_push gL_acts_95 (v := (0, i)) rfl ?_
    refine Y_push gL_acts_96 (v := (0, 2)) rfl ?_
    refine Y_iadd gL_acts_97 ⟨by omega, by omega⟩ ?_
    refine Y_push gL_acts_98 (v := (0, (T.1 : Int))) rfl ?_
    refine Y_push gL_acts_100 (v := (0, 1)) rfl ?_
    refine Y_iadd gL_acts_101 ⟨by omega, by omega⟩ ?_
    refine Y_pick gL_acts_102 rfl rfl rfl rfl rfl rfl (fun _ => rfl) rfl rfl (by omega) (vL_pick hro ⟨by omega, by omega⟩ ⟨by omega, by omega⟩) (fun v7 h7a h7b => ?_)
    refine Y_sto gL_acts_105 rfl (ls' := [(1, ((0 : Nat) : Int)), (1, -3), (0, i), (1, ((97 + X.length : Nat) : Int)), (0, (T.1 : Int)), (0, 9), (0, v6), (0, v7), (9, 0), (9, 0), (9, 0)]) (st' := []) rfl ?_
    have hEz : ∀ k, k < T.1 → w9 (97 + X.length) k = codE T k := fun k hk => (hG9 (97 + X.length) k (by omega)).trans (hE9 k hk)
    exact Y_K (by omega) (tY_actsTail hro hS hB (by assumption) hX (by omega) hEz hi (wD9 (by assumption) hV _ _) (fun hc => rv_neg hc (by unfold cdMv; (repeat' split) <;> decide)) (fun hc => ⟨by rw [q_0 hc]; unfold mvHi mvLo; split <;> omega, dok_move hS hc⟩) _ _ _)
end
