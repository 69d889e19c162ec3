/-! the model's rename, move, undo -/
section
variable {ro : zRo} {w w' : zW} {T : zTx} {R : zRu} {D : zDs} {lim la B : Int}
def rnP (T : zTx) (x y : Int) (k : Nat) : zTx := (T.1, fun q => if q < k then (rnT T x y).2 q else T.2 q)
def brd (T : zTx) (x y : Int) (k : Nat) : Bool := decide (0 < tmT T y T.1) || anyN k (fun j => decide (isT T j x = 1 ∧ pT T j = 1))
theorem mX8w_rename (hM : MR w T R D lim la) (hV : SV B T R D lim la) (x : Int) (y : Int) : Ev ro 2 mX8_rename [(1, ((97 : Nat) : Int)), (0, x), (0, y)] w (mM w 0 (cdRen T x y) (tmT T x T.1) (fun w' => MR w' (rnT T x y) R (kpD D T) lim 0) (fun w' => MR w' T R D lim la)) := by
  obtain ⟨hTV, hRV, hDV, hlim, hla, hop, hopD⟩ := id hV
  have hV1 := hTV.1
  have hM1 := MR_Y hM (frY.th w 0)
  have h0 : zup w 97 0 0 97 0 = 0 := zup_eq _ _ _ _
  have f0 : frM w (zup w 97 0 0) := (frY.th w 0).M
  show Z ro 2 mX8_rename 0 [(1, ((97 : Nat) : Int)), (0, x), (0, y), (9, 0), (9, 0), (9, 0)] [] w _
  refine Z_push gX8_rename_0 (v := (1, ((97 : Nat) : Int))) rfl ?_
  refine Z_push gX8_rename_1 (v := (0, 0)) rfl ?_
  refine Z_put gX8_rename_2 rfl rfl (by decide) rfl (fun h => by cases h) ?_
  generalize zup w 97 0 0 = w1 at hM1 h0 f0 ⊢
  obtain ⟨hT1, hU1, hD1, hl1, hla1, hln1⟩ := id hM1
  have ht1 := tmT_bd T x T.1
  have ht2 := tmT_bd T y T.1
  have hp01 := b2i_01 (hpT T x)
  have bad : ¬ ((0 ≤ x ∧ x < 100) ∧ (0 ≤ y ∧ y < 100) ∧ x ≠ y) → Z ro 2 mX8_rename 25 [(1, ((97 : Nat) : Int)), (0, x), (0, y), (9, 0), (9, 0), (9, 0)] [(1, ((97 : Nat) : Int))] w1 (fun r w' k9 => k9 = 0 ∧ ∃ o, r = .inl o ∧ (mM w 0 (cdRen T x y) (tmT T x T.1) (fun w' => MR w' (rnT T x y) R (kpD D T) lim 0) (fun w' => MR w' T R D lim la)) o w') := by
    intro hb
    refine Z_push gX8_rename_25 (v := (0, 1)) rfl ?_
    refine Z_goto gX8_rename_26 (tgt := 30) (by decide) ?_
    refine Z_push gX8_rename_30 (v := (0, 1)) rfl ?_
    refine Z_callQ (kd := 0) (na := 3) (M' := mX8_fails) gX8_rename_31 rfl rfl rfl rfl rfl rfl (fun _ => rfl) rfl rfl (fun _ _ => zrecv_obj rfl _ _ _) (d' := 0) (by omega) (fail1 h0 (by omega)) ?_
    refine Z_if_ne gX8_rename_34 (tgt := 58) (by decide) (fun _ => ?_) (fun h34 => absurd h34 (by omega))
    refine Z_push gX8_rename_58 (v := (0, 0)) rfl ?_
    refine Z_ret (v := (0, 0)) gX8_rename_59 rfl rfl rfl rfl rfl _ ?_
    have hcd : (cdRen T x y) = 1 := by unfold cdRen; (repeat' split) <;> omega
    exact ⟨⟨_, rfl, fun h => absurd h (by omega)⟩, (zup_eq _ _ _ _).trans (by rw [hcd]; rfl), fun h => absurd h (by omega), fun _ => MR_Y hM1 (frY.th w1 1), f0.trans (frY.th w1 1).M⟩
  by_cases h1 : 0 ≤ x ∧ x < 100
  · by_cases h2 : 0 ≤ y ∧ y < 100
    · refine Z_push gX8_rename_5 (v := (1, ((97 : Nat) : Int))) rfl ?_
      refine Z_push gX8_rename_6 (v := (0, x)) rfl ?_
      refine Z_callP (kd := 1) (na := 1) (M' := mX8_isName) gX8_rename_7 rfl rfl rfl rfl rfl rfl (fun _ => rfl) rfl rfl (fun _ _ => rfl) (d' := 1) (by omega) (isNm1 h1) ?_
      refine Z_if_eq gX8_rename_10 (tgt := 25) (by decide) (fun h10 => absurd h10 (by omega)) (fun _ => ?_)
      refine Z_push gX8_rename_13 (v := (0, y)) rfl ?_
      refine Z_callP (kd := 1) (na := 1) (M' := mX8_isName) gX8_rename_14 rfl rfl rfl rfl rfl rfl (fun _ => rfl) rfl rfl (fun _ _ => rfl) (d' := 1) (by omega) (isNm1 h2) ?_
      refine Z_if_eq gX8_rename_17 (tgt := 25) (by decide) (fun h17 => absurd h17 (by omega)) (fun _ => ?_)
      refine Z_push gX8_rename_20 (v := (0, x)) rfl ?_
      refine Z_push gX8_rename_21 (v := (0, y)) rfl ?_
      refine Z_icmp_ne gX8_rename_22 (tgt := 29) (by decide) (fun h22 => ?_) (fun h22 => ?_)
      · refine Z_push gX8_rename_29 (v := (0, 0)) rfl ?_
        refine Z_push gX8_rename_30 (v := (0, 1)) rfl ?_
        refine Z_callP (kd := 0) (na := 3) (M' := mX8_fails) gX8_rename_31 rfl rfl rfl rfl rfl rfl (fun _ => rfl) rfl rfl (fun _ _ => zrecv_obj rfl _ _ _) (d' := 0) (by omega) (fail0 h0 1) ?_
        refine Z_if_ne gX8_rename_34 (tgt := 58) (by decide) (fun h34 => absurd h34 (by omega)) (fun _ => ?_)
        refine Z_push gX8_rename_37 (v := (1, ((97 : Nat) : Int))) rfl ?_
        refine Z_push gX8_rename_38 (v := (1, ((97 : Nat) : Int))) rfl ?_
        refine Z_push gX8_rename_39 (v := (0, x)) rfl ?_
        refine Z_callP (kd := 0) (na := 2) (M' := mX8_occurs) gX8_rename_40 rfl rfl rfl rfl rfl rfl (fun _ => rfl) rfl rfl (fun _ _ => zrecv_obj rfl _ _ _) (d' := 0) (by omega) (vX8_occurs hT1 hTV x) ?_
        refine Z_if_ne gX8_rename_43 (tgt := 50) (by decide) (fun h43 => ?_) (fun h43 => ?_)
        · have after : ∀ v : zV, Z ro 2 mX8_rename 135 [(1, ((97 : Nat) : Int)), (0, x), (0, y), (0, b2i (brd T x y T.1)), v, (9, 0)] [] w1 (fun r w' k9 => k9 = 0 ∧ ∃ o, r = .inl o ∧ (mM w 0 (cdRen T x y) (tmT T x T.1) (fun w' => MR w' (rnT T x y) R (kpD D T) lim 0) (fun w' => MR w' T R D lim la)) o w') := by
            intro v
            obtain ⟨v1, v2⟩ := v
            have eb : brd T x y T.1 = (decide (0 < tmT T y T.1) || hpT T x) := rfl
            cases hbr : brd T x y T.1 with
            | true =>
              rw [hbr] at eb
              have hq : b2i (hpT T x) = 1 ∨ 0 < tmT T y T.1 := by
                by_cases hy : 0 < tmT T y T.1
                · exact Or.inr hy
                · rw [decide_eq_false hy, Bool.false_or] at eb
                  rw [← eb]; exact Or.inl rfl
              refine Z_push gX8_rename_135 (v := (1, ((97 : Nat) : Int))) rfl ?_
              refine Z_push gX8_rename_136 (v := (0, 1)) rfl ?_
              refine Z_push gX8_rename_137 (v := (0, 3)) rfl ?_
              refine Z_callQ (kd := 0) (na := 3) (M' := mX8_fails) gX8_rename_138 rfl rfl rfl rfl rfl rfl (fun _ => rfl) rfl rfl (fun _ _ => zrecv_obj rfl _ _ _) (d' := 0) (by omega) (fail1 h0 (by omega)) ?_
              refine Z_if_eq gX8_rename_141 (tgt := 146) (by decide) (fun h141 => absurd h141 (by omega)) (fun _ => ?_)
              refine Z_push gX8_rename_144 (v := (0, 0)) rfl ?_
              refine Z_ret (v := (0, 0)) gX8_rename_145 rfl rfl rfl rfl rfl _ ?_
              have hcd : (cdRen T x y) = 3 := by unfold cdRen; (repeat' split) <;> omega
              exact ⟨⟨_, rfl, fun h => absurd h (by omega)⟩, (zup_eq _ _ _ _).trans (by rw [hcd]; rfl), fun h => absurd h (by omega), fun _ => MR_Y hM1 (frY.th w1 3), f0.trans (frY.th w1 3).M⟩
            | false =>
              rw [hbr] at eb
              have hq : ¬ (b2i (hpT T x) = 1 ∨ 0 < tmT T y T.1) := by
                by_cases hy : 0 < tmT T y T.1
                · rw [decide_eq_true hy, Bool.true_or] at eb
                  exact absurd eb (by decide)
                · rw [decide_eq_false hy, Bool.false_or] at eb
                  rw [← eb]
                  intro h
                  rcases h with h | h
                  · exact absurd h (by decide)
                  · exact hy h
              have hcd : (cdRen T x y) = 0 := by unfold cdRen; (repeat' split) <;> omega
              refine Z_push gX8_rename_135 (v := (1, ((97 : Nat) : Int))) rfl ?_
              refine Z_push gX8_rename_136 (v := (0, 0)) rfl ?_
              refine Z_push gX8_rename_137 (v := (0, 3)) rfl ?_
              refine Z_callP (kd := 0) (na := 3) (M' := mX8_fails) gX8_rename_138 rfl rfl rfl rfl rfl rfl (fun _ => rfl) rfl rfl (fun _ _ => zrecv_obj rfl _ _ _) (d' := 0) (by omega) (fail0 h0 3) ?_
              refine Z_if_eq gX8_rename_141 (tgt := 146) (by decide) (fun _ => ?_) (fun h141 => absurd h141 (by omega))
              refine Z_push gX8_rename_146 (v := (1, ((97 : Nat) : Int))) rfl ?_
              refine Z_callE (kd := 0) (na := 1) (M' := mX8_keep) gX8_rename_147 rfl rfl rfl rfl rfl rfl (fun _ => rfl) rfl rfl (fun _ _ => zrecv_obj rfl _ _ _) (d' := 0) (by omega) (vX8_keep hM1 hTV hDV) ?_
              rintro o w2 ⟨rfl, k1, k2⟩
              have loop : ∀ m k : Nat, k + m = T.1 → ∀ W : zW, MT W (rnP T x y k) → frP w2 W → Z ro 2 mX8_rename 156 [(1, ((97 : Nat) : Int)), (0, x), (0, y), (0, 0), (0, tmT T x k), (0, (k : Int))] [] W (fun r w' k9 => k9 = 0 ∧ ∃ o, r = .inl o ∧ (mM w 0 (cdRen T x y) (tmT T x T.1) (fun w' => MR w' (rnT T x y) R (kpD D T) lim 0) (fun w' => MR w' T R D lim la)) o w') := by
                intro m
                induction m with
                | zero =>
                  intro k hk W hW hf
                  obtain rfl : k = T.1 := by omega
                  refine Z_push gX8_rename_156 (v := (0, (T.1 : Int))) rfl ?_
                  refine Z_push gX8_rename_158 (v := (1, ((97 : Nat) : Int))) rfl ?_
                  refine Z_getV (v := (T.1 : Int)) gX8_rename_159 rfl rfl (by decide) hW.1 ?_
                  refine Z_icmp_ge gX8_rename_162 (tgt := 205) (by decide) (fun _ => ?_) (fun h162 => absurd h162 (by omega))
                  refine Z_push gX8_rename_205 (v := (0, tmT T x T.1)) rfl ?_
                  refine Z_ret (v := (0, tmT T x T.1)) gX8_rename_207 rfl rfl rfl rfl rfl _ ?_
                  exact ⟨⟨_, rfl, fun _ => rfl⟩, ((hf _ _ (by omega) (by omega)).trans ((k2 _ _ (by omega) (by omega)).trans h0)).trans (by rw [hcd]; rfl), fun _ => MR_deed k1 (MT_congr hW rfl (fun q hq => if_pos hq)) (MU_frame k1.2.1 (fun a k h => hf a k (by omega) (by omega))) (MD_frame k1.2.2.1 (fun a k h => hf a k (by omega) (by omega))) (hf _ _ (by omega) (by omega)) ((hf _ _ (by omega) (by omega)).trans k1.2.2.2.2.1), fun h => absurd hcd h, fun a k ha => (hf a k (by omega) (by omega)).trans ((k2 a k (by omega) (by omega)).trans (f0 a k ha))⟩
                | succ m ih =>
                  intro k hk W hW hf
                  have hkT : k < T.1 := by omega
                  have hW1 : W 97 1 = (T.1 : Int) := hW.1
                  have he : eR W 98 99 100 101 k (T.2 k) := by
                    have := hW.2 k hkT
                    have e : (rnP T x y k).2 k = T.2 k := if_neg (Nat.lt_irrefl k)
                    rw [e] at this
                    exact this
                  have ek : kT T (k : Int) = (T.2 k).1 := kT_nat hkT
                  have hkk : W 98 k = kT T (k : Int) := he.1.trans ek.symm
                  have htb := tmT_bd T x k
                  have h01 := isT_01 T k x
                  have et : tmT T x (k + 1) = tmT T x k + isT T k x := rfl
                  have skip : isT T k x = 0 → Z ro 2 mX8_rename 199 [(1, ((97 : Nat) : Int)), (0, x), (0, y), (0, 0), (0, tmT T x k), (0, (k : Int))] [] W (fun r w' k9 => k9 = 0 ∧ ∃ o, r = .inl o ∧ (mM w 0 (cdRen T x y) (tmT T x T.1) (fun w' => MR w' (rnT T x y) R (kpD D T) lim 0) (fun w' => MR w' T R D lim la)) o w') := by
                    intro hz
                    have hn := ih (k + 1) (by omega) W (MT_congr hW rfl (fun q hq => by
                      show (if q < k then (rnT T x y).2 q else T.2 q) = (if q < k + 1 then (rnT T x y).2 q else T.2 q)
                      by_cases e : q = k
                      · subst e
                        rw [if_neg (Nat.lt_irrefl q), if_pos (Nat.lt_succ_self q)]
                        show T.2 q = (if isT T q x = 1 then _ else T.2 q)
                        rw [if_neg (by omega)]
                      · by_cases e2 : q < k
                        · rw [if_pos e2, if_pos (by omega)]
                        · rw [if_neg e2, if_neg (by omega)])) hf
                    rw [et, hz, Int.add_zero] at hn
                    refine Z_iinc gX8_rename_199 rfl ⟨by omega, by omega⟩ (ls' := [(1, ((97 : Nat) : Int)), (0, x), (0, y), (0, 0), (0, tmT T x k), (0, (k : Int) + 1)]) rfl ?_
                    refine Z_goto gX8_rename_202 (tgt := 156) (by decide) ?_
                    exact hn
                  refine Z_push gX8_rename_156 (v := (0, (k : Int))) rfl ?_
                  refine Z_push gX8_rename_158 (v := (1, ((97 : Nat) : Int))) rfl ?_
                  refine Z_getV (v := (T.1 : Int)) gX8_rename_159 rfl rfl (by decide) hW1 ?_
                  refine Z_icmp_ge gX8_rename_162 (tgt := 205) (by decide) (fun h162 => absurd h162 (by omega)) (fun _ => ?_)
                  refine Z_push gX8_rename_165 (v := (1, ((97 : Nat) : Int))) rfl ?_
                  refine Z_getR (b := 98) gX8_rename_166 rfl rfl (by decide) rfl (by omega) ?_
                  refine Z_push gX8_rename_169 (v := (0, (k : Int))) rfl ?_
                  refine Z_caloadV (v := kT T (k : Int)) gX8_rename_171 rfl (by omega) (by omega) hkk ?_
                  refine Z_push gX8_rename_172 (v := (0, 110)) rfl ?_
                  refine Z_icmp_ne gX8_rename_174 (tgt := 199) (by decide) (fun h174 => ?_) (fun h174 => ?_)
                  · exact skip (isT_0 (fun h => h174 h.1))
                  · have hnm : W 99 k = (T.2 k).2.1 := he.2.1 (by omega)
                    refine Z_push gX8_rename_177 (v := (1, ((97 : Nat) : Int))) rfl ?_
                    refine Z_getR (b := 99) gX8_rename_178 rfl rfl (by decide) rfl (by omega) ?_
                    refine Z_push gX8_rename_181 (v := (0, (k : Int))) rfl ?_
                    refine Z_ialoadV (v := (T.2 k).2.1) gX8_rename_183 rfl (by omega) (by omega) hnm ?_
                    refine Z_push gX8_rename_184 (v := (0, x)) rfl ?_
                    refine Z_icmp_ne gX8_rename_185 (tgt := 199) (by decide) (fun h185 => ?_) (fun h185 => ?_)
                    · exact skip (isT_0 (fun h => h185 h.2))
                    · have hz : isT T k x = 1 := isT_1 h174 h185
                      have hn := ih (k + 1) (by omega) (zup W 99 k y) ⟨(zup_ne (by omega)).trans hW1, fun q hq => by
                        have hq : q < T.1 := hq
                        show eR (zup W 99 k y) 98 99 100 101 q (if q < k + 1 then (rnT T x y).2 q else T.2 q)
                        by_cases e : q = k
                        · subst e
                          rw [if_pos (Nat.lt_succ_self q)]
                          show eR (zup W 99 q y) 98 99 100 101 q (if isT T q x = 1 then ((T.2 q).1, y, (T.2 q).2.2.1, (T.2 q).2.2.2) else T.2 q)
                          rw [if_pos hz]
                          obtain ⟨c1, c2, c3, c4⟩ := he
                          exact ⟨(zup_ne (by omega)).trans c1, fun _ => zup_eq _ _ _ _, fun h => (zup_ne (by omega)).trans (c3 h), (zup_ne (by omega)).trans c4⟩
                        · have hb := hW.2 q hq
                          have e2 : (rnP T x y k).2 q = (if q < k + 1 then (rnT T x y).2 q else T.2 q) := by
                            show (if q < k then (rnT T x y).2 q else T.2 q) = _
                            by_cases e2 : q < k
                            · rw [if_pos e2, if_pos (by omega)]
                            · rw [if_neg e2, if_neg (by omega)]
                          rw [e2] at hb
                          exact eR_frame hb (zup_ne (by omega)) (zup_ne (by omega)) (zup_ne (by omega)) (zup_ne (by omega))⟩ (fun a q h1 h2 => (zup_ne (by omega)).trans (hf a q h1 h2))
                      rw [et, hz] at hn
                      refine Z_push gX8_rename_188 (v := (1, ((97 : Nat) : Int))) rfl ?_
                      refine Z_getR (b := 99) gX8_rename_189 rfl rfl (by decide) rfl (by omega) ?_
                      refine Z_push gX8_rename_192 (v := (0, (k : Int))) rfl ?_
                      refine Z_push gX8_rename_194 (v := (0, y)) rfl ?_
                      refine Z_iastore gX8_rename_195 rfl (by omega) (by omega) ?_
                      refine Z_iinc gX8_rename_196 rfl ⟨by omega, by omega⟩ (ls' := [(1, ((97 : Nat) : Int)), (0, x), (0, y), (0, 0), (0, tmT T x k + 1), (0, (k : Int))]) rfl ?_
                      refine Z_iinc gX8_rename_199 rfl ⟨by omega, by omega⟩ (ls' := [(1, ((97 : Nat) : Int)), (0, x), (0, y), (0, 0), (0, tmT T x k + 1), (0, (k : Int) + 1)]) rfl ?_
                      refine Z_goto gX8_rename_202 (tgt := 156) (by decide) ?_
                      exact hn
              refine Z_push gX8_rename_150 (v := (0, 0)) rfl ?_
              refine Z_sto gX8_rename_151 rfl (ls' := [(1, ((97 : Nat) : Int)), (0, x), (0, y), (0, 0), (0, 0), (9, 0)]) (st' := []) rfl ?_
              refine Z_push gX8_rename_153 (v := (0, 0)) rfl ?_
              refine Z_sto gX8_rename_154 rfl (ls' := [(1, ((97 : Nat) : Int)), (0, x), (0, y), (0, 0), (0, 0), (0, 0)]) (st' := []) rfl ?_
              exact loop T.1 0 (by omega) w2 (MT_congr k1.1 rfl (fun q hq => show T.2 q = (if q < 0 then (rnT T x y).2 q else T.2 q) from (if_neg (Nat.not_lt_zero q)).symm)) (frP.refl w2)
          have scan : ∀ m k : Nat, k + m = T.1 → Z ro 2 mX8_rename 77 [(1, ((97 : Nat) : Int)), (0, x), (0, y), (0, b2i (brd T x y k)), (0, (k : Int)), (9, 0)] [] w1 (fun r w' k9 => k9 = 0 ∧ ∃ o, r = .inl o ∧ (mM w 0 (cdRen T x y) (tmT T x T.1) (fun w' => MR w' (rnT T x y) R (kpD D T) lim 0) (fun w' => MR w' T R D lim la)) o w') := by
            intro m
            induction m with
            | zero =>
              intro k hk
              obtain rfl : k = T.1 := by omega
              refine Z_push gX8_rename_77 (v := (0, (T.1 : Int))) rfl ?_
              refine Z_push gX8_rename_79 (v := (1, ((97 : Nat) : Int))) rfl ?_
              refine Z_getV (v := (T.1 : Int)) gX8_rename_80 rfl rfl (by decide) hT1.1 ?_
              refine Z_icmp_ge gX8_rename_83 (tgt := 135) (by decide) (fun _ => ?_) (fun h83 => absurd h83 (by omega))
              exact after _
            | succ m ih =>
              intro k hk
              have hkT : k < T.1 := by omega
              have hn := ih (k + 1) (by omega)
              have e : brd T x y (k + 1) = (brd T x y k || decide (isT T k x = 1 ∧ pT T k = 1)) := by
                unfold brd
                rw [anyN_s, Bool.or_assoc]
              have h01 := b2i_01 (brd T x y k)
              have h0p := pT_01 hTV (k : Int)
              rw [e, show ((k + 1 : Nat) : Int) = (k : Int) + 1 from rfl] at hn
              have keep0 : brd T x y k = false → ¬ (isT T k x = 1 ∧ pT T k = 1) → Z ro 2 mX8_rename 127 [(1, ((97 : Nat) : Int)), (0, x), (0, y), (0, b2i (brd T x y k)), (0, (k : Int)), (9, 0)] [] w1 (fun r w' k9 => k9 = 0 ∧ ∃ o, r = .inl o ∧ (mM w 0 (cdRen T x y) (tmT T x T.1) (fun w' => MR w' (rnT T x y) R (kpD D T) lim 0) (fun w' => MR w' T R D lim la)) o w') := by
                intro hb hz
                rw [hb, decide_eq_false hz] at hn
                refine Z_push gX8_rename_127 (v := (0, 0)) rfl ?_
                refine Z_sto gX8_rename_128 rfl (ls' := [(1, ((97 : Nat) : Int)), (0, x), (0, y), (0, 0), (0, (k : Int)), (9, 0)]) (st' := []) rfl ?_
                refine Z_iinc gX8_rename_129 rfl ⟨by omega, by omega⟩ (ls' := [(1, ((97 : Nat) : Int)), (0, x), (0, y), (0, 0), (0, (k : Int) + 1), (9, 0)]) rfl ?_
                refine Z_goto gX8_rename_132 (tgt := 77) (by decide) ?_
                exact hn
              refine Z_push gX8_rename_77 (v := (0, (k : Int))) rfl ?_
              refine Z_push gX8_rename_79 (v := (1, ((97 : Nat) : Int))) rfl ?_
              refine Z_getV (v := (T.1 : Int)) gX8_rename_80 rfl rfl (by decide) hT1.1 ?_
              refine Z_icmp_ge gX8_rename_83 (tgt := 135) (by decide) (fun h83 => absurd h83 (by omega)) (fun _ => ?_)
              refine Z_push gX8_rename_86 (v := (0, b2i (brd T x y k))) rfl ?_
              refine Z_if_ne gX8_rename_87 (tgt := 123) (by decide) (fun h87 => ?_) (fun h87 => ?_)
              · rw [b2i_t h87, Bool.true_or] at hn
                refine Z_push gX8_rename_123 (v := (0, 1)) rfl ?_
                refine Z_goto gX8_rename_124 (tgt := 128) (by decide) ?_
                refine Z_sto gX8_rename_128 rfl (ls' := [(1, ((97 : Nat) : Int)), (0, x), (0, y), (0, 1), (0, (k : Int)), (9, 0)]) (st' := []) rfl ?_
                refine Z_iinc gX8_rename_129 rfl ⟨by omega, by omega⟩ (ls' := [(1, ((97 : Nat) : Int)), (0, x), (0, y), (0, 1), (0, (k : Int) + 1), (9, 0)]) rfl ?_
                refine Z_goto gX8_rename_132 (tgt := 77) (by decide) ?_
                exact hn
              · have hb := b2i_f h87
                refine Z_push gX8_rename_90 (v := (1, ((97 : Nat) : Int))) rfl ?_
                refine Z_getR (b := 98) gX8_rename_91 rfl rfl (by decide) rfl (by omega) ?_
                refine Z_push gX8_rename_94 (v := (0, (k : Int))) rfl ?_
                refine Z_caloadV (v := kT T (k : Int)) gX8_rename_96 rfl (by omega) (by omega) (hT1.k hkT) ?_
                refine Z_push gX8_rename_97 (v := (0, 110)) rfl ?_
                refine Z_icmp_ne gX8_rename_99 (tgt := 127) (by decide) (fun h99 => ?_) (fun h99 => ?_)
                · exact keep0 hb (fun h => by rw [isT_0 (fun h9 => h99 h9.1)] at h; exact absurd h.1 (by decide))
                · refine Z_push gX8_rename_102 (v := (1, ((97 : Nat) : Int))) rfl ?_
                  refine Z_getR (b := 99) gX8_rename_103 rfl rfl (by decide) rfl (by omega) ?_
                  refine Z_push gX8_rename_106 (v := (0, (k : Int))) rfl ?_
                  refine Z_ialoadV (v := (T.2 k).2.1) gX8_rename_108 rfl (by omega) (by omega) (hT1.n hkT h99) ?_
                  refine Z_push gX8_rename_109 (v := (0, x)) rfl ?_
                  refine Z_icmp_ne gX8_rename_110 (tgt := 127) (by decide) (fun h110 => ?_) (fun h110 => ?_)
                  · exact keep0 hb (fun h => by rw [isT_0 (fun h9 => h110 h9.2)] at h; exact absurd h.1 (by decide))
                  · refine Z_push gX8_rename_113 (v := (1, ((97 : Nat) : Int))) rfl ?_
                    refine Z_getR (b := 101) gX8_rename_114 rfl rfl (by decide) rfl (by omega) ?_
                    refine Z_push gX8_rename_117 (v := (0, (k : Int))) rfl ?_
                    refine Z_baloadV (v := pT T (k : Int)) gX8_rename_119 rfl (by omega) (by omega) (hT1.p hkT) ?_
                    refine Z_if_eq gX8_rename_120 (tgt := 127) (by decide) (fun h120 => ?_) (fun h120 => ?_)
                    · exact keep0 hb (fun h => by omega)
                    · rw [hb, decide_eq_true (show isT T k x = 1 ∧ pT T k = 1 from ⟨isT_1 h99 h110, by omega⟩)] at hn
                      refine Z_push gX8_rename_123 (v := (0, 1)) rfl ?_
                      refine Z_goto gX8_rename_124 (tgt := 128) (by decide) ?_
                      refine Z_sto gX8_rename_128 rfl (ls' := [(1, ((97 : Nat) : Int)), (0, x), (0, y), (0, 1), (0, (k : Int)), (9, 0)]) (st' := []) rfl ?_
                      refine Z_iinc gX8_rename_129 rfl ⟨by omega, by omega⟩ (ls' := [(1, ((97 : Nat) : Int)), (0, x), (0, y), (0, 1), (0, (k : Int) + 1), (9, 0)]) rfl ?_
                      refine Z_goto gX8_rename_132 (tgt := 77) (by decide) ?_
                      exact hn
          have hs := scan T.1 0 (by omega)
          have eb0 : brd T x y 0 = decide (0 < tmT T y T.1) := by
            unfold brd
            rw [show anyN 0 (fun j => decide (isT T j x = 1 ∧ pT T j = 1)) = false from rfl, Bool.or_false]
          rw [eb0] at hs
          refine Z_push gX8_rename_50 (v := (0, 0)) rfl ?_
          refine Z_push gX8_rename_51 (v := (0, 2)) rfl ?_
          refine Z_callP (kd := 0) (na := 3) (M' := mX8_fails) gX8_rename_52 rfl rfl rfl rfl rfl rfl (fun _ => rfl) rfl rfl (fun _ _ => zrecv_obj rfl _ _ _) (d' := 0) (by omega) (fail0 h0 2) ?_
          refine Z_if_eq gX8_rename_55 (tgt := 60) (by decide) (fun _ => ?_) (fun h55 => absurd h55 (by omega))
          refine Z_push gX8_rename_60 (v := (1, ((97 : Nat) : Int))) rfl ?_
          refine Z_push gX8_rename_61 (v := (0, y)) rfl ?_
          refine Z_callP (kd := 0) (na := 2) (M' := mX8_occurs) gX8_rename_62 rfl rfl rfl rfl rfl rfl (fun _ => rfl) rfl rfl (fun _ _ => zrecv_obj rfl _ _ _) (d' := 0) (by omega) (vX8_occurs hT1 hTV y) ?_
          refine Z_if_le gX8_rename_65 (tgt := 72) (by decide) (fun h65 => ?_) (fun h65 => ?_)
          · rw [decide_eq_false (by omega)] at hs
            refine Z_push gX8_rename_72 (v := (0, 0)) rfl ?_
            refine Z_sto gX8_rename_73 rfl (ls' := [(1, ((97 : Nat) : Int)), (0, x), (0, y), (0, 0), (9, 0), (9, 0)]) (st' := []) rfl ?_
            refine Z_push gX8_rename_74 (v := (0, 0)) rfl ?_
            refine Z_sto gX8_rename_75 rfl (ls' := [(1, ((97 : Nat) : Int)), (0, x), (0, y), (0, 0), (0, 0), (9, 0)]) (st' := []) rfl ?_
            exact hs
          · rw [decide_eq_true (by omega)] at hs
            refine Z_push gX8_rename_68 (v := (0, 1)) rfl ?_
            refine Z_goto gX8_rename_69 (tgt := 73) (by decide) ?_
            refine Z_sto gX8_rename_73 rfl (ls' := [(1, ((97 : Nat) : Int)), (0, x), (0, y), (0, 1), (9, 0), (9, 0)]) (st' := []) rfl ?_
            refine Z_push gX8_rename_74 (v := (0, 0)) rfl ?_
            refine Z_sto gX8_rename_75 rfl (ls' := [(1, ((97 : Nat) : Int)), (0, x), (0, y), (0, 1), (0, 0), (9, 0)]) (st' := []) rfl ?_
            exact hs
        · refine Z_push gX8_rename_46 (v := (0, 1)) rfl ?_
          refine Z_goto gX8_rename_47 (tgt := 51) (by decide) ?_
          refine Z_push gX8_rename_51 (v := (0, 2)) rfl ?_
          refine Z_callQ (kd := 0) (na := 3) (M' := mX8_fails) gX8_rename_52 rfl rfl rfl rfl rfl rfl (fun _ => rfl) rfl rfl (fun _ _ => zrecv_obj rfl _ _ _) (d' := 0) (by omega) (fail1 h0 (by omega)) ?_
          refine Z_if_eq gX8_rename_55 (tgt := 60) (by decide) (fun h55 => absurd h55 (by omega)) (fun _ => ?_)
          refine Z_push gX8_rename_58 (v := (0, 0)) rfl ?_
          refine Z_ret (v := (0, 0)) gX8_rename_59 rfl rfl rfl rfl rfl _ ?_
          have hcd : (cdRen T x y) = 2 := by unfold cdRen; (repeat' split) <;> omega
          exact ⟨⟨_, rfl, fun h => absurd h (by omega)⟩, (zup_eq _ _ _ _).trans (by rw [hcd]; rfl), fun h => absurd h (by omega), fun _ => MR_Y hM1 (frY.th w1 2), f0.trans (frY.th w1 2).M⟩
      · exact bad (fun h => h.2.2 (by omega))
    · refine Z_push gX8_rename_5 (v := (1, ((97 : Nat) : Int))) rfl ?_
      refine Z_push gX8_rename_6 (v := (0, x)) rfl ?_
      refine Z_callP (kd := 1) (na := 1) (M' := mX8_isName) gX8_rename_7 rfl rfl rfl rfl rfl rfl (fun _ => rfl) rfl rfl (fun _ _ => rfl) (d' := 1) (by omega) (isNm1 h1) ?_
      refine Z_if_eq gX8_rename_10 (tgt := 25) (by decide) (fun h10 => absurd h10 (by omega)) (fun _ => ?_)
      refine Z_push gX8_rename_13 (v := (0, y)) rfl ?_
      refine Z_callP (kd := 1) (na := 1) (M' := mX8_isName) gX8_rename_14 rfl rfl rfl rfl rfl rfl (fun _ => rfl) rfl rfl (fun _ _ => rfl) (d' := 1) (by omega) (isNm0 h2) ?_
      refine Z_if_eq gX8_rename_17 (tgt := 25) (by decide) (fun _ => ?_) (fun h17 => absurd h17 (by omega))
      exact bad (fun h => h2 h.2.1)
  · refine Z_push gX8_rename_5 (v := (1, ((97 : Nat) : Int))) rfl ?_
    refine Z_push gX8_rename_6 (v := (0, x)) rfl ?_
    refine Z_callP (kd := 1) (na := 1) (M' := mX8_isName) gX8_rename_7 rfl rfl rfl rfl rfl rfl (fun _ => rfl) rfl rfl (fun _ _ => rfl) (d' := 1) (by omega) (isNm0 h1) ?_
    refine Z_if_eq gX8_rename_10 (tgt := 25) (by decide) (fun _ => ?_) (fun h10 => absurd h10 (by omega))
    exact bad (fun h => h1 h.1)
theorem mX8w_move (hM : MR w T R D lim la) (hV : SV B T R D lim la) (i : Int) (j : Int) : Ev ro 2 mX8_move [(1, ((97 : Nat) : Int)), (0, i), (0, j)] w (mM w 0 (cdMv T i j) (mvHi i j - mvLo i j) (fun w' => MR w' (cyT T i.toNat j.toNat) R (kpD D T) lim 0) (fun w' => MR w' T R D lim la)) := by
  obtain ⟨hTV, hRV, hDV, hlim, hla, hop, hopD⟩ := id hV
  have hV1 := hTV.1
  have hM1 := MR_Y hM (frY.th w 0)
  have h0 : zup w 97 0 0 97 0 = 0 := zup_eq _ _ _ _
  have f0 : frM w (zup w 97 0 0) := (frY.th w 0).M
  show Z ro 2 mX8_move 0 [(1, ((97 : Nat) : Int)), (0, i), (0, j), (9, 0), (9, 0), (9, 0), (9, 0), (9, 0)] [] w _
  refine Z_push gX8_move_0 (v := (1, ((97 : Nat) : Int))) rfl ?_
  refine Z_push gX8_move_1 (v := (0, 0)) rfl ?_
  refine Z_put gX8_move_2 rfl rfl (by decide) rfl (fun h => by cases h) ?_
  generalize zup w 97 0 0 = w1 at hM1 h0 f0 ⊢
  obtain ⟨hT1, hU1, hD1, hl1, hla1, hln1⟩ := id hM1
  have h01 := b2i_01 (mvT T (mvLo i j) (mvHi i j))
  have bad : ¬ ((0 ≤ i ∧ i < T.1) ∧ 0 ≤ j ∧ j < T.1) → Z ro 2 mX8_move 22 [(1, ((97 : Nat) : Int)), (0, i), (0, j), (9, 0), (9, 0), (9, 0), (9, 0), (9, 0)] [(1, ((97 : Nat) : Int))] w1 (fun r w' k9 => k9 = 0 ∧ ∃ o, r = .inl o ∧ (mM w 0 (cdMv T i j) (mvHi i j - mvLo i j) (fun w' => MR w' (cyT T i.toNat j.toNat) R (kpD D T) lim 0) (fun w' => MR w' T R D lim la)) o w') := by
    intro hb
    refine Z_push gX8_move_22 (v := (0, 1)) rfl ?_
    refine Z_goto gX8_move_23 (tgt := 27) (by decide) ?_
    refine Z_push gX8_move_27 (v := (0, 1)) rfl ?_
    refine Z_callQ (kd := 0) (na := 3) (M' := mX8_fails) gX8_move_28 rfl rfl rfl rfl rfl rfl (fun _ => rfl) rfl rfl (fun _ _ => zrecv_obj rfl _ _ _) (d' := 0) (by omega) (fail1 h0 (by omega)) ?_
    refine Z_if_ne gX8_move_31 (tgt := 52) (by decide) (fun _ => ?_) (fun h31 => absurd h31 (by omega))
    refine Z_push gX8_move_52 (v := (0, 0)) rfl ?_
    refine Z_ret (v := (0, 0)) gX8_move_53 rfl rfl rfl rfl rfl _ ?_
    have hcd : (cdMv T i j) = 1 := by unfold cdMv; (repeat' split) <;> omega
    exact ⟨⟨_, rfl, fun h => absurd h (by omega)⟩, (zup_eq _ _ _ _).trans (by rw [hcd]; rfl), fun h => absurd h (by omega), fun _ => MR_Y hM1 (frY.th w1 1), f0.trans (frY.th w1 1).M⟩
  -- whether all can be moved
  have scan : ∀ (lo hi : Nat), hi < T.1 → lo ≤ hi → (∀ v : zV, Z ro 2 mX8_move 142 [(1, ((97 : Nat) : Int)), (0, i), (0, j), (0, (lo : Int)), (0, (hi : Int)), (0, b2i (mvT T (lo : Int) (hi : Int))), v, (9, 0)] [] w1 (fun r w' k9 => k9 = 0 ∧ ∃ o, r = .inl o ∧ (mM w 0 (cdMv T i j) (mvHi i j - mvLo i j) (fun w' => MR w' (cyT T i.toNat j.toNat) R (kpD D T) lim 0) (fun w' => MR w' T R D lim la)) o w')) → ∀ m k : Nat, lo + k + m = hi + 1 → ∀ x : Int, ((x = 1 ∧ ∀ q : Nat, lo ≤ q → q < lo + k → ((kT T q = 110 ∨ kT T q = 99) ∧ pT T q ≠ 1)) ∨ (x = 0 ∧ ∃ q : Nat, lo ≤ q ∧ q < lo + k ∧ ((kT T q ≠ 110 ∧ kT T q ≠ 99) ∨ pT T q = 1))) → Z ro 2 mX8_move 83 [(1, ((97 : Nat) : Int)), (0, i), (0, j), (0, (lo : Int)), (0, (hi : Int)), (0, x), (0, ((lo + k : Nat) : Int)), (9, 0)] [] w1 (fun r w' k9 => k9 = 0 ∧ ∃ o, r = .inl o ∧ (mM w 0 (cdMv T i j) (mvHi i j - mvLo i j) (fun w' => MR w' (cyT T i.toNat j.toNat) R (kpD D T) lim 0) (fun w' => MR w' T R D lim la)) o w') := by
    intro lo hi hhi hlh K m
    induction m with
    | zero =>
      intro k hk x hx
      have e : x = b2i (mvT T (lo : Int) (hi : Int)) := by
        rcases hx with ⟨rfl, hx⟩ | ⟨rfl, q, q1, q2, q3⟩
        · rw [mvT_t (fun q a b c => hx q (by omega) (by omega))]; rfl
        · rw [mvT_f (j := q) (by omega) (by omega) (by omega) q3]; rfl
      subst e
      refine Z_push gX8_move_83 (v := (0, ((lo + k : Nat) : Int))) rfl ?_
      refine Z_push gX8_move_85 (v := (0, (hi : Int))) rfl ?_
      refine Z_icmp_gt gX8_move_87 (tgt := 142) (by decide) (fun _ => ?_) (fun h87 => absurd h87 (by omega))
      exact K _
    | succ m ih =>
      intro k hk x hx
      have hkT : lo + k < T.1 := by omega
      have h0p := pT_01 hTV ((lo + k : Nat) : Int)
      have hn := ih (k + 1) (by omega)
      rw [show ((lo + (k + 1) : Nat) : Int) = ((lo + k : Nat) : Int) + 1 from rfl] at hn
      have no0 : (∃ q : Nat, lo ≤ q ∧ q < lo + (k + 1) ∧ ((kT T q ≠ 110 ∧ kT T q ≠ 99) ∨ pT T q = 1)) → Z ro 2 mX8_move 133 [(1, ((97 : Nat) : Int)), (0, i), (0, j), (0, (lo : Int)), (0, (hi : Int)), (0, x), (0, ((lo + k : Nat) : Int)), (9, 0)] [] w1 (fun r w' k9 => k9 = 0 ∧ ∃ o, r = .inl o ∧ (mM w 0 (cdMv T i j) (mvHi i j - mvLo i j) (fun w' => MR w' (cyT T i.toNat j.toNat) R (kpD D T) lim 0) (fun w' => MR w' T R D lim la)) o w') := by
        intro hq
        refine Z_push gX8_move_133 (v := (0, 0)) rfl ?_
        refine Z_sto gX8_move_134 rfl (ls' := [(1, ((97 : Nat) : Int)), (0, i), (0, j), (0, (lo : Int)), (0, (hi : Int)), (0, 0), (0, ((lo + k : Nat) : Int)), (9, 0)]) (st' := []) rfl ?_
        refine Z_iinc gX8_move_136 rfl ⟨by omega, by omega⟩ (ls' := [(1, ((97 : Nat) : Int)), (0, i), (0, j), (0, (lo : Int)), (0, (hi : Int)), (0, 0), (0, ((lo + k : Nat) : Int) + 1), (9, 0)]) rfl ?_
        refine Z_goto gX8_move_139 (tgt := 83) (by decide) ?_
        exact hn 0 (Or.inr ⟨rfl, hq⟩)
      have yes1 : x = 1 → (kT T ((lo + k : Nat) : Int) = 110 ∨ kT T ((lo + k : Nat) : Int) = 99) → pT T ((lo + k : Nat) : Int) = 0 → Z ro 2 mX8_move 129 [(1, ((97 : Nat) : Int)), (0, i), (0, j), (0, (lo : Int)), (0, (hi : Int)), (0, x), (0, ((lo + k : Nat) : Int)), (9, 0)] [] w1 (fun r w' k9 => k9 = 0 ∧ ∃ o, r = .inl o ∧ (mM w 0 (cdMv T i j) (mvHi i j - mvLo i j) (fun w' => MR w' (cyT T i.toNat j.toNat) R (kpD D T) lim 0) (fun w' => MR w' T R D lim la)) o w') := by
        intro hx1 hk1 hp1
        refine Z_push gX8_move_129 (v := (0, 1)) rfl ?_
        refine Z_goto gX8_move_130 (tgt := 134) (by decide) ?_
        refine Z_sto gX8_move_134 rfl (ls' := [(1, ((97 : Nat) : Int)), (0, i), (0, j), (0, (lo : Int)), (0, (hi : Int)), (0, 1), (0, ((lo + k : Nat) : Int)), (9, 0)]) (st' := []) rfl ?_
        refine Z_iinc gX8_move_136 rfl ⟨by omega, by omega⟩ (ls' := [(1, ((97 : Nat) : Int)), (0, i), (0, j), (0, (lo : Int)), (0, (hi : Int)), (0, 1), (0, ((lo + k : Nat) : Int) + 1), (9, 0)]) rfl ?_
        refine Z_goto gX8_move_139 (tgt := 83) (by decide) ?_
        refine hn 1 (Or.inl ⟨rfl, fun q q1 q2 => ?_⟩)
        by_cases e : q = lo + k
        · subst e
          exact ⟨hk1, by omega⟩
        · rcases hx with ⟨-, hx⟩ | ⟨hx, -⟩
          · exact hx q q1 (by omega)
          · omega
      refine Z_push gX8_move_83 (v := (0, ((lo + k : Nat) : Int))) rfl ?_
      refine Z_push gX8_move_85 (v := (0, (hi : Int))) rfl ?_
      refine Z_icmp_gt gX8_move_87 (tgt := 142) (by decide) (fun h87 => absurd h87 (by omega)) (fun _ => ?_)
      refine Z_push gX8_move_90 (v := (0, x)) rfl ?_
      refine Z_if_eq gX8_move_92 (tgt := 133) (by decide) (fun h92 => ?_) (fun h92 => ?_)
      · rcases hx with ⟨hx, -⟩ | ⟨hx, q, q1, q2, q3⟩
        · omega
        · exact no0 ⟨q, q1, by omega, q3⟩
      · have hx1 : x = 1 := by rcases hx with ⟨hx, -⟩ | ⟨hx, -⟩ <;> omega
        refine Z_push gX8_move_95 (v := (1, ((97 : Nat) : Int))) rfl ?_
        refine Z_getR (b := 101) gX8_move_96 rfl rfl (by decide) rfl (by omega) ?_
        refine Z_push gX8_move_99 (v := (0, ((lo + k : Nat) : Int))) rfl ?_
        refine Z_baloadV (v := pT T ((lo + k : Nat) : Int)) gX8_move_101 rfl (by omega) (by omega) (hT1.p (k := lo + k) hkT) ?_
        refine Z_if_ne gX8_move_102 (tgt := 133) (by decide) (fun h102 => ?_) (fun h102 => ?_)
        · exact no0 ⟨lo + k, by omega, by omega, Or.inr (by omega)⟩
        · refine Z_push gX8_move_105 (v := (1, ((97 : Nat) : Int))) rfl ?_
          refine Z_getR (b := 98) gX8_move_106 rfl rfl (by decide) rfl (by omega) ?_
          refine Z_push gX8_move_109 (v := (0, ((lo + k : Nat) : Int))) rfl ?_
          refine Z_caloadV (v := kT T ((lo + k : Nat) : Int)) gX8_move_111 rfl (by omega) (by omega) (hT1.k (k := lo + k) hkT) ?_
          refine Z_push gX8_move_112 (v := (0, 110)) rfl ?_
          refine Z_icmp_eq gX8_move_114 (tgt := 129) (by decide) (fun h114 => ?_) (fun h114 => ?_)
          · exact yes1 hx1 (Or.inl h114) h102
          · refine Z_push gX8_move_117 (v := (1, ((97 : Nat) : Int))) rfl ?_
            refine Z_getR (b := 98) gX8_move_118 rfl rfl (by decide) rfl (by omega) ?_
            refine Z_push gX8_move_121 (v := (0, ((lo + k : Nat) : Int))) rfl ?_
            refine Z_caloadV (v := kT T ((lo + k : Nat) : Int)) gX8_move_123 rfl (by omega) (by omega) (hT1.k (k := lo + k) hkT) ?_
            refine Z_push gX8_move_124 (v := (0, 99)) rfl ?_
            refine Z_icmp_ne gX8_move_126 (tgt := 133) (by decide) (fun h126 => ?_) (fun h126 => ?_)
            · exact no0 ⟨lo + k, by omega, by omega, Or.inl ⟨h114, h126⟩⟩
            · exact yes1 hx1 (Or.inr h126) h102
  by_cases h : 0 ≤ i ∧ i < T.1
  · by_cases h2 : 0 ≤ j ∧ j < T.1
    · refine Z_push gX8_move_5 (v := (1, ((97 : Nat) : Int))) rfl ?_
      refine Z_push gX8_move_6 (v := (1, ((97 : Nat) : Int))) rfl ?_
      refine Z_push gX8_move_7 (v := (0, i)) rfl ?_
      refine Z_callP (kd := 0) (na := 2) (M' := mX8_noEntry) gX8_move_8 rfl rfl rfl rfl rfl rfl (fun _ => rfl) rfl rfl (fun _ _ => zrecv_obj rfl _ _ _) (d' := 1) (by omega) (noEnt0 hT1 hV1 h) ?_
      refine Z_if_ne gX8_move_11 (tgt := 22) (by decide) (fun h11 => absurd h11 (by omega)) (fun _ => ?_)
      refine Z_push gX8_move_14 (v := (1, ((97 : Nat) : Int))) rfl ?_
      refine Z_push gX8_move_15 (v := (0, j)) rfl ?_
      refine Z_callP (kd := 0) (na := 2) (M' := mX8_noEntry) gX8_move_16 rfl rfl rfl rfl rfl rfl (fun _ => rfl) rfl rfl (fun _ _ => zrecv_obj rfl _ _ _) (d' := 1) (by omega) (noEnt0 hT1 hV1 h2) ?_
      refine Z_if_eq gX8_move_19 (tgt := 26) (by decide) (fun _ => ?_) (fun h19 => absurd h19 (by omega))
      refine Z_push gX8_move_26 (v := (0, 0)) rfl ?_
      refine Z_push gX8_move_27 (v := (0, 1)) rfl ?_
      refine Z_callP (kd := 0) (na := 3) (M' := mX8_fails) gX8_move_28 rfl rfl rfl rfl rfl rfl (fun _ => rfl) rfl rfl (fun _ _ => zrecv_obj rfl _ _ _) (d' := 0) (by omega) (fail0 h0 1) ?_
      refine Z_if_ne gX8_move_31 (tgt := 52) (by decide) (fun h31 => absurd h31 (by omega)) (fun _ => ?_)
      refine Z_push gX8_move_34 (v := (1, ((97 : Nat) : Int))) rfl ?_
      refine Z_push gX8_move_35 (v := (0, i)) rfl ?_
      refine Z_push gX8_move_36 (v := (0, j)) rfl ?_
      refine Z_icmp_ne gX8_move_37 (tgt := 44) (by decide) (fun h37 => ?_) (fun h37 => ?_)
      · have hne : i ≠ j := by omega
        -- behind the scan
        have after : ∀ (lo hi : Nat) (v : zV), (lo : Int) = mvLo i j → (hi : Int) = mvHi i j → Z ro 2 mX8_move 142 [(1, ((97 : Nat) : Int)), (0, i), (0, j), (0, (lo : Int)), (0, (hi : Int)), (0, b2i (mvT T (lo : Int) (hi : Int))), v, (9, 0)] [] w1 (fun r w' k9 => k9 = 0 ∧ ∃ o, r = .inl o ∧ (mM w 0 (cdMv T i j) (mvHi i j - mvLo i j) (fun w' => MR w' (cyT T i.toNat j.toNat) R (kpD D T) lim 0) (fun w' => MR w' T R D lim la)) o w') := by
          intro lo hi v elo ehi
          obtain ⟨v1, v2⟩ := v
          rw [elo, ehi]
          refine Z_push gX8_move_142 (v := (1, ((97 : Nat) : Int))) rfl ?_
          refine Z_push gX8_move_143 (v := (0, b2i (mvT T (mvLo i j) (mvHi i j)))) rfl ?_
          refine Z_if_ne gX8_move_145 (tgt := 152) (by decide) (fun h145 => ?_) (fun h145 => ?_)
          · have hcd : (cdMv T i j) = 0 := by unfold cdMv; (repeat' split) <;> omega
            have hlohi : 0 ≤ mvHi i j - mvLo i j ∧ mvHi i j - mvLo i j ≤ 30 := by unfold mvHi mvLo; split <;> omega
            obtain ⟨a, ha⟩ : ∃ a : Nat, i = (a : Int) := ⟨i.toNat, by omega⟩
            obtain ⟨b, hb⟩ : ∃ b : Nat, j = (b : Int) := ⟨j.toNat, by omega⟩
            have ea : i.toNat = a := by omega
            have ebb : j.toNat = b := by omega
            rw [ea, ebb]
            refine Z_push gX8_move_152 (v := (0, 0)) rfl ?_
            refine Z_push gX8_move_153 (v := (0, 3)) rfl ?_
            refine Z_callP (kd := 0) (na := 3) (M' := mX8_fails) gX8_move_154 rfl rfl rfl rfl rfl rfl (fun _ => rfl) rfl rfl (fun _ _ => zrecv_obj rfl _ _ _) (d' := 0) (by omega) (fail0 h0 3) ?_
            refine Z_if_eq gX8_move_157 (tgt := 162) (by decide) (fun _ => ?_) (fun h157 => absurd h157 (by omega))
            refine Z_push gX8_move_162 (v := (1, ((97 : Nat) : Int))) rfl ?_
            refine Z_callE (kd := 0) (na := 1) (M' := mX8_keep) gX8_move_163 rfl rfl rfl rfl rfl rfl (fun _ => rfl) rfl rfl (fun _ _ => zrecv_obj rfl _ _ _) (d' := 0) (by omega) (vX8_keep hM1 hTV hDV) ?_
            rintro o w2 ⟨rfl, k1, k2⟩
            have fin : ∀ (W : zW) (st k : Int), MT W (cyT T a b) → frP w2 W → k = j → Z ro 2 mX8_move 181 [(1, ((97 : Nat) : Int)), (0, i), (0, j), (0, mvLo i j), (0, mvHi i j), (0, b2i (mvT T (mvLo i j) (mvHi i j))), (0, st), (0, k)] [] W (fun r w' k9 => k9 = 0 ∧ ∃ o, r = .inl o ∧ (mM w 0 (cdMv T i j) (mvHi i j - mvLo i j) (fun w' => MR w' (cyT T a b) R (kpD D T) lim 0) (fun w' => MR w' T R D lim la)) o w') := by
              intro W st k hW hf hk
              refine Z_push gX8_move_181 (v := (0, k)) rfl ?_
              refine Z_push gX8_move_183 (v := (0, j)) rfl ?_
              refine Z_icmp_eq gX8_move_184 (tgt := 208) (by decide) (fun _ => ?_) (fun h184 => absurd h184 (by omega))
              refine Z_push gX8_move_208 (v := (0, mvHi i j)) rfl ?_
              refine Z_push gX8_move_210 (v := (0, mvLo i j)) rfl ?_
              refine Z_isub gX8_move_211 ⟨by omega, by omega⟩ ?_
              refine Z_ret (v := (0, (mvHi i j) - (mvLo i j))) gX8_move_212 rfl rfl rfl rfl rfl _ ?_
              exact ⟨⟨_, rfl, fun _ => rfl⟩, ((hf _ _ (by omega) (by omega)).trans ((k2 _ _ (by omega) (by omega)).trans h0)).trans (by rw [hcd]; rfl), fun _ => MR_deed k1 hW (MU_frame k1.2.1 (fun a k h => hf a k (by omega) (by omega))) (MD_frame k1.2.2.1 (fun a k h => hf a k (by omega) (by omega))) (hf _ _ (by omega) (by omega)) ((hf _ _ (by omega) (by omega)).trans k1.2.2.2.2.1), fun h => absurd hcd h, fun a k ha => (hf a k (by omega) (by omega)).trans ((k2 a k (by omega) (by omega)).trans (f0 a k ha))⟩
            have up : ∀ m c : Nat, a ≤ c → c + m = b → ∀ W : zW, MT W (cyT T a c) → frP w2 W → Z ro 2 mX8_move 181 [(1, ((97 : Nat) : Int)), (0, i), (0, j), (0, mvLo i j), (0, mvHi i j), (0, b2i (mvT T (mvLo i j) (mvHi i j))), (0, 1), (0, (c : Int))] [] W (fun r w' k9 => k9 = 0 ∧ ∃ o, r = .inl o ∧ (mM w 0 (cdMv T i j) (mvHi i j - mvLo i j) (fun w' => MR w' (cyT T a b) R (kpD D T) lim 0) (fun w' => MR w' T R D lim la)) o w') := by
              intro m
              induction m with
              | zero =>
                intro c hac hc W hW hf
                obtain rfl : c = b := by omega
                exact fin W 1 _ hW hf hb.symm
              | succ m ih =>
                intro c hac hc W hW hf
                refine Z_push gX8_move_181 (v := (0, (c : Int))) rfl ?_
                refine Z_push gX8_move_183 (v := (0, j)) rfl ?_
                refine Z_icmp_eq gX8_move_184 (tgt := 208) (by decide) (fun h184 => absurd h184 (by omega)) (fun _ => ?_)
                refine Z_push gX8_move_187 (v := (1, ((97 : Nat) : Int))) rfl ?_
                refine Z_push gX8_move_188 (v := (0, (c : Int))) rfl ?_
                refine Z_push gX8_move_190 (v := (0, (c : Int))) rfl ?_
                refine Z_push gX8_move_192 (v := (0, 1)) rfl ?_
                refine Z_iadd gX8_move_194 ⟨by omega, by omega⟩ ?_
                refine Z_callE (kd := 0) (na := 3) (M' := mX8_change) gX8_move_195 rfl rfl rfl rfl rfl rfl (fun _ => rfl) rfl rfl (fun _ _ => zrecv_obj rfl _ _ _) (d' := 1) (by omega) (vX8_change hW (TV_cy hTV (a := a) (b := c) (by omega) (by omega)) (a := c) (b := c + 1) (show c < T.1 by omega) (show c + 1 < T.1 by omega)) ?_
                rintro o w3 ⟨rfl, m1, m2⟩
                refine Z_push gX8_move_198 (v := (0, (c : Int))) rfl ?_
                refine Z_push gX8_move_200 (v := (0, 1)) rfl ?_
                refine Z_iadd gX8_move_202 ⟨by omega, by omega⟩ ?_
                refine Z_sto gX8_move_203 rfl (ls' := [(1, ((97 : Nat) : Int)), (0, i), (0, j), (0, mvLo i j), (0, mvHi i j), (0, b2i (mvT T (mvLo i j) (mvHi i j))), (0, 1), (0, (c : Int) + 1)]) (st' := []) rfl ?_
                refine Z_goto gX8_move_205 (tgt := 181) (by decide) ?_
                exact ih (c + 1) (by omega) (by omega) w3 (MT_congr m1 rfl (fun q hq => cyT_up T hac q)) (hf.trans m2)
            have down : ∀ m c : Nat, c ≤ a → b + m = c → ∀ W : zW, MT W (cyT T a c) → frP w2 W → Z ro 2 mX8_move 181 [(1, ((97 : Nat) : Int)), (0, i), (0, j), (0, mvLo i j), (0, mvHi i j), (0, b2i (mvT T (mvLo i j) (mvHi i j))), (0, -1), (0, (c : Int))] [] W (fun r w' k9 => k9 = 0 ∧ ∃ o, r = .inl o ∧ (mM w 0 (cdMv T i j) (mvHi i j - mvLo i j) (fun w' => MR w' (cyT T a b) R (kpD D T) lim 0) (fun w' => MR w' T R D lim la)) o w') := by
              intro m
              induction m with
              | zero =>
                intro c hac hc W hW hf
                obtain rfl : c = b := by omega
                exact fin W (-1) _ hW hf hb.symm
              | succ m ih =>
                intro c hac hc W hW hf
                obtain ⟨c', rfl⟩ : ∃ c' : Nat, c = c' + 1 := ⟨c - 1, by omega⟩
                have hn := fun W => ih c' (by omega) (by omega) W
                have hch : Ev ro 1 mX8_change [(1, ((97 : Nat) : Int)), (0, ((c' + 1 : Nat) : Int)), (0, ((c' + 1 : Nat) : Int) + -1)] W (fun o w' => o = none ∧ MT w' (swT (cyT T a (c' + 1)) (c' + 1) c') ∧ frP W w') := by
                  rw [show ((c' + 1 : Nat) : Int) + -1 = (c' : Int) by omega]
                  exact vX8_change hW (TV_cy hTV (a := a) (b := c' + 1) (by omega) (by omega)) (a := c' + 1) (b := c') (show c' + 1 < T.1 by omega) (show c' < T.1 by omega)
                refine Z_push gX8_move_181 (v := (0, ((c' + 1 : Nat) : Int))) rfl ?_
                refine Z_push gX8_move_183 (v := (0, j)) rfl ?_
                refine Z_icmp_eq gX8_move_184 (tgt := 208) (by decide) (fun h184 => absurd h184 (by omega)) (fun _ => ?_)
                refine Z_push gX8_move_187 (v := (1, ((97 : Nat) : Int))) rfl ?_
                refine Z_push gX8_move_188 (v := (0, ((c' + 1 : Nat) : Int))) rfl ?_
                refine Z_push gX8_move_190 (v := (0, ((c' + 1 : Nat) : Int))) rfl ?_
                refine Z_push gX8_move_192 (v := (0, -1)) rfl ?_
                refine Z_iadd gX8_move_194 ⟨by omega, by omega⟩ ?_
                refine Z_callE (kd := 0) (na := 3) (M' := mX8_change) gX8_move_195 rfl rfl rfl rfl rfl rfl (fun _ => rfl) rfl rfl (fun _ _ => zrecv_obj rfl _ _ _) (d' := 1) (by omega) (hch) ?_
                rintro o w3 ⟨rfl, m1, m2⟩
                refine Z_push gX8_move_198 (v := (0, ((c' + 1 : Nat) : Int))) rfl ?_
                refine Z_push gX8_move_200 (v := (0, -1)) rfl ?_
                refine Z_iadd gX8_move_202 ⟨by omega, by omega⟩ ?_
                refine Z_sto gX8_move_203 rfl (ls' := [(1, ((97 : Nat) : Int)), (0, i), (0, j), (0, mvLo i j), (0, mvHi i j), (0, b2i (mvT T (mvLo i j) (mvHi i j))), (0, -1), (0, ((c' + 1 : Nat) : Int) + (-1))]) (st' := []) rfl ?_
                refine Z_goto gX8_move_205 (tgt := 181) (by decide) ?_
                rw [show ((c' + 1 : Nat) : Int) + -1 = (c' : Int) by omega]
                exact hn w3 (MT_congr m1 rfl (fun q hq => cyT_down T (by omega) q)) (hf.trans m2)
            have hW0 : MT w2 (cyT T a a) := MT_congr k1.1 rfl (fun q hq => (cyT_same T a q).symm)
            refine Z_push gX8_move_166 (v := (0, i)) rfl ?_
            refine Z_push gX8_move_167 (v := (0, j)) rfl ?_
            refine Z_icmp_ge gX8_move_168 (tgt := 175) (by decide) (fun h168 => ?_) (fun h168 => ?_)
            · have hd := down (a - b) a (Nat.le_refl _) (by omega) w2 hW0 (frP.refl w2)
              rw [← ha] at hd
              refine Z_push gX8_move_175 (v := (0, -1)) rfl ?_
              refine Z_sto gX8_move_176 rfl (ls' := [(1, ((97 : Nat) : Int)), (0, i), (0, j), (0, mvLo i j), (0, mvHi i j), (0, b2i (mvT T (mvLo i j) (mvHi i j))), (0, -1), (9, 0)]) (st' := []) rfl ?_
              refine Z_push gX8_move_178 (v := (0, i)) rfl ?_
              refine Z_sto gX8_move_179 rfl (ls' := [(1, ((97 : Nat) : Int)), (0, i), (0, j), (0, mvLo i j), (0, mvHi i j), (0, b2i (mvT T (mvLo i j) (mvHi i j))), (0, -1), (0, i)]) (st' := []) rfl ?_
              exact hd
            · have hu := up (b - a) a (Nat.le_refl _) (by omega) w2 hW0 (frP.refl w2)
              rw [← ha] at hu
              refine Z_push gX8_move_171 (v := (0, 1)) rfl ?_
              refine Z_goto gX8_move_172 (tgt := 176) (by decide) ?_
              refine Z_sto gX8_move_176 rfl (ls' := [(1, ((97 : Nat) : Int)), (0, i), (0, j), (0, mvLo i j), (0, mvHi i j), (0, b2i (mvT T (mvLo i j) (mvHi i j))), (0, 1), (9, 0)]) (st' := []) rfl ?_
              refine Z_push gX8_move_178 (v := (0, i)) rfl ?_
              refine Z_sto gX8_move_179 rfl (ls' := [(1, ((97 : Nat) : Int)), (0, i), (0, j), (0, mvLo i j), (0, mvHi i j), (0, b2i (mvT T (mvLo i j) (mvHi i j))), (0, 1), (0, i)]) (st' := []) rfl ?_
              exact hu
          · refine Z_push gX8_move_148 (v := (0, 1)) rfl ?_
            refine Z_goto gX8_move_149 (tgt := 153) (by decide) ?_
            refine Z_push gX8_move_153 (v := (0, 3)) rfl ?_
            refine Z_callQ (kd := 0) (na := 3) (M' := mX8_fails) gX8_move_154 rfl rfl rfl rfl rfl rfl (fun _ => rfl) rfl rfl (fun _ _ => zrecv_obj rfl _ _ _) (d' := 0) (by omega) (fail1 h0 (by omega)) ?_
            refine Z_if_eq gX8_move_157 (tgt := 162) (by decide) (fun h157 => absurd h157 (by omega)) (fun _ => ?_)
            refine Z_push gX8_move_160 (v := (0, 0)) rfl ?_
            refine Z_ret (v := (0, 0)) gX8_move_161 rfl rfl rfl rfl rfl _ ?_
            have hcd : (cdMv T i j) = 3 := by unfold cdMv; (repeat' split) <;> omega
            exact ⟨⟨_, rfl, fun h => absurd h (by omega)⟩, (zup_eq _ _ _ _).trans (by rw [hcd]; rfl), fun h => absurd h (by omega), fun _ => MR_Y hM1 (frY.th w1 3), f0.trans (frY.th w1 3).M⟩
        have fromLo : ∀ (lo hi : Nat), (lo : Int) = mvLo i j → (hi : Int) = mvHi i j → Z ro 2 mX8_move 83 [(1, ((97 : Nat) : Int)), (0, i), (0, j), (0, (lo : Int)), (0, (hi : Int)), (0, 1), (0, (lo : Int)), (9, 0)] [] w1 (fun r w' k9 => k9 = 0 ∧ ∃ o, r = .inl o ∧ (mM w 0 (cdMv T i j) (mvHi i j - mvLo i j) (fun w' => MR w' (cyT T i.toNat j.toNat) R (kpD D T) lim 0) (fun w' => MR w' T R D lim la)) o w') := by
          intro lo hi elo ehi
          have hh : hi < T.1 ∧ lo ≤ hi := by unfold mvLo at elo; unfold mvHi at ehi; split at elo <;> split at ehi <;> omega
          exact scan lo hi hh.1 hh.2 (fun v => after lo hi v elo ehi) (hi + 1 - lo) 0 (by omega) 1 (Or.inl ⟨rfl, fun q q1 q2 => absurd q2 (by omega)⟩)
        refine Z_push gX8_move_44 (v := (0, 0)) rfl ?_
        refine Z_push gX8_move_45 (v := (0, 2)) rfl ?_
        refine Z_callP (kd := 0) (na := 3) (M' := mX8_fails) gX8_move_46 rfl rfl rfl rfl rfl rfl (fun _ => rfl) rfl rfl (fun _ _ => zrecv_obj rfl _ _ _) (d' := 0) (by omega) (fail0 h0 2) ?_
        refine Z_if_eq gX8_move_49 (tgt := 54) (by decide) (fun _ => ?_) (fun h49 => absurd h49 (by omega))
        refine Z_push gX8_move_54 (v := (0, i)) rfl ?_
        refine Z_push gX8_move_55 (v := (0, j)) rfl ?_
        refine Z_icmp_ge gX8_move_56 (tgt := 63) (by decide) (fun h56 => ?_) (fun h56 => ?_)
        · have hf := fromLo j.toNat i.toNat (by unfold mvLo; rw [if_neg (by omega)]; omega) (by unfold mvHi; rw [if_neg (by omega)]; omega)
          rw [show ((j.toNat : Nat) : Int) = j by omega, show ((i.toNat : Nat) : Int) = i by omega] at hf
          refine Z_push gX8_move_63 (v := (0, j)) rfl ?_
          refine Z_sto gX8_move_64 rfl (ls' := [(1, ((97 : Nat) : Int)), (0, i), (0, j), (0, j), (9, 0), (9, 0), (9, 0), (9, 0)]) (st' := []) rfl ?_
          refine Z_push gX8_move_65 (v := (0, i)) rfl ?_
          refine Z_push gX8_move_66 (v := (0, j)) rfl ?_
          refine Z_icmp_ge gX8_move_67 (tgt := 74) (by decide) (fun _ => ?_) (fun h67 => absurd h67 (by omega))
          refine Z_push gX8_move_74 (v := (0, i)) rfl ?_
          refine Z_sto gX8_move_75 rfl (ls' := [(1, ((97 : Nat) : Int)), (0, i), (0, j), (0, j), (0, i), (9, 0), (9, 0), (9, 0)]) (st' := []) rfl ?_
          refine Z_push gX8_move_77 (v := (0, 1)) rfl ?_
          refine Z_sto gX8_move_78 rfl (ls' := [(1, ((97 : Nat) : Int)), (0, i), (0, j), (0, j), (0, i), (0, 1), (9, 0), (9, 0)]) (st' := []) rfl ?_
          refine Z_push gX8_move_80 (v := (0, j)) rfl ?_
          refine Z_sto gX8_move_81 rfl (ls' := [(1, ((97 : Nat) : Int)), (0, i), (0, j), (0, j), (0, i), (0, 1), (0, j), (9, 0)]) (st' := []) rfl ?_
          exact hf
        · have hf := fromLo i.toNat j.toNat (by unfold mvLo; rw [if_pos (by omega)]; omega) (by unfold mvHi; rw [if_pos (by omega)]; omega)
          rw [show ((j.toNat : Nat) : Int) = j by omega, show ((i.toNat : Nat) : Int) = i by omega] at hf
          refine Z_push gX8_move_59 (v := (0, i)) rfl ?_
          refine Z_goto gX8_move_60 (tgt := 64) (by decide) ?_
          refine Z_sto gX8_move_64 rfl (ls' := [(1, ((97 : Nat) : Int)), (0, i), (0, j), (0, i), (9, 0), (9, 0), (9, 0), (9, 0)]) (st' := []) rfl ?_
          refine Z_push gX8_move_65 (v := (0, i)) rfl ?_
          refine Z_push gX8_move_66 (v := (0, j)) rfl ?_
          refine Z_icmp_ge gX8_move_67 (tgt := 74) (by decide) (fun h67 => absurd h67 (by omega)) (fun _ => ?_)
          refine Z_push gX8_move_70 (v := (0, j)) rfl ?_
          refine Z_goto gX8_move_71 (tgt := 75) (by decide) ?_
          refine Z_sto gX8_move_75 rfl (ls' := [(1, ((97 : Nat) : Int)), (0, i), (0, j), (0, i), (0, j), (9, 0), (9, 0), (9, 0)]) (st' := []) rfl ?_
          refine Z_push gX8_move_77 (v := (0, 1)) rfl ?_
          refine Z_sto gX8_move_78 rfl (ls' := [(1, ((97 : Nat) : Int)), (0, i), (0, j), (0, i), (0, j), (0, 1), (9, 0), (9, 0)]) (st' := []) rfl ?_
          refine Z_push gX8_move_80 (v := (0, i)) rfl ?_
          refine Z_sto gX8_move_81 rfl (ls' := [(1, ((97 : Nat) : Int)), (0, i), (0, j), (0, i), (0, j), (0, 1), (0, i), (9, 0)]) (st' := []) rfl ?_
          exact hf
      · refine Z_push gX8_move_40 (v := (0, 1)) rfl ?_
        refine Z_goto gX8_move_41 (tgt := 45) (by decide) ?_
        refine Z_push gX8_move_45 (v := (0, 2)) rfl ?_
        refine Z_callQ (kd := 0) (na := 3) (M' := mX8_fails) gX8_move_46 rfl rfl rfl rfl rfl rfl (fun _ => rfl) rfl rfl (fun _ _ => zrecv_obj rfl _ _ _) (d' := 0) (by omega) (fail1 h0 (by omega)) ?_
        refine Z_if_eq gX8_move_49 (tgt := 54) (by decide) (fun h49 => absurd h49 (by omega)) (fun _ => ?_)
        refine Z_push gX8_move_52 (v := (0, 0)) rfl ?_
        refine Z_ret (v := (0, 0)) gX8_move_53 rfl rfl rfl rfl rfl _ ?_
        have hcd : (cdMv T i j) = 2 := by unfold cdMv; (repeat' split) <;> omega
        exact ⟨⟨_, rfl, fun h => absurd h (by omega)⟩, (zup_eq _ _ _ _).trans (by rw [hcd]; rfl), fun h => absurd h (by omega), fun _ => MR_Y hM1 (frY.th w1 2), f0.trans (frY.th w1 2).M⟩
    · refine Z_push gX8_move_5 (v := (1, ((97 : Nat) : Int))) rfl ?_
      refine Z_push gX8_move_6 (v := (1, ((97 : Nat) : Int))) rfl ?_
      refine Z_push gX8_move_7 (v := (0, i)) rfl ?_
      refine Z_callP (kd := 0) (na := 2) (M' := mX8_noEntry) gX8_move_8 rfl rfl rfl rfl rfl rfl (fun _ => rfl) rfl rfl (fun _ _ => zrecv_obj rfl _ _ _) (d' := 1) (by omega) (noEnt0 hT1 hV1 h) ?_
      refine Z_if_ne gX8_move_11 (tgt := 22) (by decide) (fun h11 => absurd h11 (by omega)) (fun _ => ?_)
      refine Z_push gX8_move_14 (v := (1, ((97 : Nat) : Int))) rfl ?_
      refine Z_push gX8_move_15 (v := (0, j)) rfl ?_
      refine Z_callP (kd := 0) (na := 2) (M' := mX8_noEntry) gX8_move_16 rfl rfl rfl rfl rfl rfl (fun _ => rfl) rfl rfl (fun _ _ => zrecv_obj rfl _ _ _) (d' := 1) (by omega) (noEnt1 hT1 hV1 h2) ?_
      refine Z_if_eq gX8_move_19 (tgt := 26) (by decide) (fun h19 => absurd h19 (by omega)) (fun _ => ?_)
      exact bad (fun h => h2 h.2)
  · refine Z_push gX8_move_5 (v := (1, ((97 : Nat) : Int))) rfl ?_
    refine Z_push gX8_move_6 (v := (1, ((97 : Nat) : Int))) rfl ?_
    refine Z_push gX8_move_7 (v := (0, i)) rfl ?_
    refine Z_callP (kd := 0) (na := 2) (M' := mX8_noEntry) gX8_move_8 rfl rfl rfl rfl rfl rfl (fun _ => rfl) rfl rfl (fun _ _ => zrecv_obj rfl _ _ _) (d' := 1) (by omega) (noEnt1 hT1 hV1 h) ?_
    refine Z_if_ne gX8_move_11 (tgt := 22) (by decide) (fun _ => ?_) (fun h11 => absurd h11 (by omega))
    exact bad (fun h2 => h h2.1)
theorem mX8w_undo (hM : MR w T R D lim la) (hV : SV B T R D lim la) (hB : B ≤ 900000) : Ev ro 1 mX8_undo [(1, ((97 : Nat) : Int))] w (mM w 0 (cdUn D) ((D.1 : Int) - 1) (fun w' => MR w' (D.2 0).1 (puA R (D.2 0).2 0 5) (unD D) lim 0) (fun w' => MR w' T R D lim la)) := by
  obtain ⟨hTV, hRV, hDV, hlim, hla, hop, hopD⟩ := id hV
  have hV1 := hTV.1
  have hM1 := MR_Y hM (frY.th w 0)
  have h0 : zup w 97 0 0 97 0 = 0 := zup_eq _ _ _ _
  have f0 : frM w (zup w 97 0 0) := (frY.th w 0).M
  show Z ro 1 mX8_undo 0 [(1, ((97 : Nat) : Int)), (9, 0), (9, 0)] [] w _
  refine Z_push gX8_undo_0 (v := (1, ((97 : Nat) : Int))) rfl ?_
  refine Z_push gX8_undo_1 (v := (0, 0)) rfl ?_
  refine Z_put gX8_undo_2 rfl rfl (by decide) rfl (fun h => by cases h) ?_
  generalize zup w 97 0 0 = w1 at hM1 h0 f0 ⊢
  obtain ⟨hT1, hU1, hD1, hl1, hla1, hln1⟩ := id hM1
  obtain ⟨d1, d2, d3, d4⟩ := id hD1
  refine Z_push gX8_undo_5 (v := (1, ((97 : Nat) : Int))) rfl ?_
  refine Z_push gX8_undo_6 (v := (1, ((97 : Nat) : Int))) rfl ?_
  refine Z_getV (v := (D.1 : Int)) gX8_undo_7 rfl rfl (by decide) d1 ?_
  refine Z_if_ne gX8_undo_10 (tgt := 17) (by decide) (fun h10 => ?_) (fun h10 => ?_)
  · have hc : 0 < D.1 := by omega
    have hcd : cdUn D = 0 := by unfold cdUn; rw [if_neg (by omega)]
    obtain ⟨hTv, hg2⟩ := hDV 0 hc
    have k0 := d3 0 hc
    rw [show D.1 - 1 - 0 = D.1 - 1 by omega] at k0
    generalize hT' : (D.2 0).1 = T' at k0 hTv ⊢
    generalize hg' : (D.2 0).2 = g at hg2 ⊢
    have k3 : ∀ r, r < 5 → w1 110 (5 * (D.1 - 1) + r) = g r := fun r hr => by rw [← hg']; exact k0.2.2 r hr
    have k1 : w1 105 (D.1 - 1) = (T'.1 : Int) := by rw [← hT']; exact k0.1
    have k2 : ∀ j, j < T'.1 → eR w1 106 107 108 109 (30 * (D.1 - 1) + j) (T'.2 j) := by rw [← hT']; exact k0.2.1
    have hs : D.1 - 1 < 10 := by omega
    have es : (D.1 : Int) - 1 = ((D.1 - 1 : Nat) : Int) := by omega
    rw [es]
    generalize hsn : D.1 - 1 = s at k1 k2 k3 hs es ⊢
    have hT1v := hTv.1
    -- the rules are punished
    have inner : ∀ k r c : Nat, c + k = (g r).toNat → r < 5 → ∀ (B' : Int) (R' : zRu) (W : zW), RV B' R' → B' + k ≤ 1000000 → MU W R' → W 97 12 = (s : Int) → (∀ r, r < 5 → W 110 (5 * s + r) = g r) → (∀ (c' : Int) (W2 : zW), MU W2 (puN R' r k) → RV (B' + k) (puN R' r k) → (∀ a q, a ≠ 102 → a ≠ 103 → W2 a q = W a q) → Z ro 1 mX8_undo 207 [(1, ((97 : Nat) : Int)), (0, (r : Int)), (0, c')] [] W2 (fun r w' k9 => k9 = 0 ∧ ∃ o, r = .inl o ∧ (mM w 0 (cdUn D) (s : Int) (fun w' => MR w' T' (puA R g 0 5) (unD D) lim 0) (fun w' => MR w' T R D lim la)) o w')) → Z ro 1 mX8_undo 155 [(1, ((97 : Nat) : Int)), (0, (r : Int)), (0, (c : Int))] [] W (fun r w' k9 => k9 = 0 ∧ ∃ o, r = .inl o ∧ (mM w 0 (cdUn D) (s : Int) (fun w' => MR w' T' (puA R g 0 5) (unD D) lim 0) (fun w' => MR w' T R D lim la)) o w') := by
      intro k
      induction k with
      | zero =>
        intro r c hc2 hr B' R' W hRV' hB' hU h12 h110 K
        have hgr := hg2 r hr
        have t1 : (5 * (s : Int) + (r : Int)).toNat = 5 * s + r := by omega
        refine Z_push gX8_undo_155 (v := (0, (c : Int))) rfl ?_
        refine Z_push gX8_undo_156 (v := (1, ((97 : Nat) : Int))) rfl ?_
        refine Z_getR (b := 110) gX8_undo_157 rfl rfl (by decide) rfl (by omega) ?_
        refine Z_push gX8_undo_160 (v := (0, 5)) rfl ?_
        refine Z_push gX8_undo_161 (v := (1, ((97 : Nat) : Int))) rfl ?_
        refine Z_getV (v := (s : Int)) gX8_undo_162 rfl rfl (by decide) h12 ?_
        refine Z_imul gX8_undo_165 ⟨by omega, by omega⟩ ?_
        refine Z_push gX8_undo_166 (v := (0, (r : Int))) rfl ?_
        refine Z_iadd gX8_undo_167 ⟨by omega, by omega⟩ ?_
        refine Z_ialoadV (v := g r) gX8_undo_168 rfl (by omega) (by omega) (by rw [t1]; exact h110 r hr) ?_
        refine Z_icmp_ge gX8_undo_169 (tgt := 207) (by decide) (fun _ => ?_) (fun h169 => absurd h169 (by omega))
        exact K _ W hU (RV_le hRV' (by omega)) (fun _ _ _ _ => rfl)
      | succ k ih =>
        intro r c hc2 hr B' R' W hRV' hB' hU h12 h110 K
        have hgr := hg2 r hr
        have t1 : (5 * (s : Int) + (r : Int)).toNat = 5 * s + r := by omega
        have hw := hU.1 r hr
        have hu := hU.2.1 r hr
        have hwb := hRV'.1 r hr
        have hub := hRV'.2.1 r hr
        have hd : 0 ≤ (R'.1 r + 3).tdiv 4 ∧ (R'.1 r + 3).tdiv 4 ≤ 102 := by
          rw [Int.tdiv_eq_ediv_of_nonneg (by omega)]
          omega
        have hn := ih r (c + 1) (by omega) hr (B' + 1) (puR R' r) (zup (zup W 102 r (R'.1 r - (R'.1 r + 3).tdiv 4)) 103 r (R'.2.1 r + 1)) (RV_pu hRV' hr) (by omega) ⟨fun q hq => by
            show _ = (if q = r then R'.1 r - (R'.1 r + 3).tdiv 4 else R'.1 q)
            rw [zup_ne (by omega)]
            by_cases e : q = r
            · subst e; rw [zup_eq, if_pos rfl]
            · rw [zup_ne (fun h => e h.2), if_neg e]; exact hU.1 q hq, fun q hq => by
            show _ = (if q = r then R'.2.1 r + 1 else R'.2.1 q)
            by_cases e : q = r
            · subst e; rw [zup_eq, if_pos rfl]
            · rw [zup_ne (fun h => e h.2), zup_ne (by omega), if_neg e]; exact hU.2.1 q hq, (zup_ne (by omega)).trans ((zup_ne (by omega)).trans hU.2.2)⟩ ((zup_ne (by omega)).trans ((zup_ne (by omega)).trans h12)) (fun q hq => (zup_ne (by omega)).trans ((zup_ne (by omega)).trans (h110 q hq))) (fun c' W2 a1 a2 a3 => K c' W2 a1 (by rw [show B' + ((k + 1 : Nat) : Int) = B' + 1 + (k : Int) by omega]; exact a2) (fun a q h1 h2 => (a3 a q h1 h2).trans ((zup_ne (by omega)).trans (zup_ne (by omega)))))
        refine Z_push gX8_undo_155 (v := (0, (c : Int))) rfl ?_
        refine Z_push gX8_undo_156 (v := (1, ((97 : Nat) : Int))) rfl ?_
        refine Z_getR (b := 110) gX8_undo_157 rfl rfl (by decide) rfl (by omega) ?_
        refine Z_push gX8_undo_160 (v := (0, 5)) rfl ?_
        refine Z_push gX8_undo_161 (v := (1, ((97 : Nat) : Int))) rfl ?_
        refine Z_getV (v := (s : Int)) gX8_undo_162 rfl rfl (by decide) h12 ?_
        refine Z_imul gX8_undo_165 ⟨by omega, by omega⟩ ?_
        refine Z_push gX8_undo_166 (v := (0, (r : Int))) rfl ?_
        refine Z_iadd gX8_undo_167 ⟨by omega, by omega⟩ ?_
        refine Z_ialoadV (v := g r) gX8_undo_168 rfl (by omega) (by omega) (by rw [t1]; exact h110 r hr) ?_
        refine Z_icmp_ge gX8_undo_169 (tgt := 207) (by decide) (fun h169 => absurd h169 (by omega)) (fun _ => ?_)
        refine Z_push gX8_undo_172 (v := (1, ((97 : Nat) : Int))) rfl ?_
        refine Z_getR (b := 102) gX8_undo_173 rfl rfl (by decide) rfl (by omega) ?_
        refine Z_push gX8_undo_176 (v := (0, (r : Int))) rfl ?_
        refine Z_arith gX8_undo_177 rfl rfl (v := [(0, (r : Int)), (1, ((102 : Nat) : Int)), (0, (r : Int)), (1, ((102 : Nat) : Int))]) rfl ?_
        refine Z_ialoadV (v := R'.1 r) gX8_undo_178 rfl (by omega) (by omega) hw ?_
        refine Z_push gX8_undo_179 (v := (1, ((97 : Nat) : Int))) rfl ?_
        refine Z_getR (b := 102) gX8_undo_180 rfl rfl (by decide) rfl (by omega) ?_
        refine Z_push gX8_undo_183 (v := (0, (r : Int))) rfl ?_
        refine Z_ialoadV (v := R'.1 r) gX8_undo_184 rfl (by omega) (by omega) hw ?_
        refine Z_push gX8_undo_185 (v := (0, 3)) rfl ?_
        refine Z_iadd gX8_undo_186 ⟨by omega, by omega⟩ ?_
        refine Z_push gX8_undo_187 (v := (0, 4)) rfl ?_
        refine Z_idiv gX8_undo_188 (by omega) ?_
        refine Z_isub gX8_undo_189 ⟨by omega, by omega⟩ ?_
        refine Z_iastore gX8_undo_190 rfl (by omega) (by omega) ?_
        refine Z_push gX8_undo_191 (v := (1, ((97 : Nat) : Int))) rfl ?_
        refine Z_getR (b := 103) gX8_undo_192 rfl rfl (by decide) rfl (by omega) ?_
        refine Z_push gX8_undo_195 (v := (0, (r : Int))) rfl ?_
        refine Z_arith gX8_undo_196 rfl rfl (v := [(0, (r : Int)), (1, ((103 : Nat) : Int)), (0, (r : Int)), (1, ((103 : Nat) : Int))]) rfl ?_
        refine Z_laloadV (v := R'.2.1 r) gX8_undo_197 rfl (by omega) (by omega) ((zup_ne (by omega)).trans hu) ?_
        refine Z_push gX8_undo_198 (v := (2, 1)) rfl ?_
        refine Z_ladd gX8_undo_199 ⟨by omega, by omega⟩ ?_
        refine Z_lastore gX8_undo_200 rfl (by omega) (by omega) ?_
        refine Z_iinc gX8_undo_201 rfl ⟨by omega, by omega⟩ (ls' := [(1, ((97 : Nat) : Int)), (0, (r : Int)), (0, (c : Int) + 1)]) rfl ?_
        refine Z_goto gX8_undo_204 (tgt := 155) (by decide) ?_
        exact hn
    have rules : ∀ m r : Nat, r + m = 5 → ∀ (v : zV) (B' : Int) (R' : zRu) (W : zW), RV B' R' → B' + 30 * m ≤ 1000000 → MU W R' → MT W T' → W 97 12 = (s : Int) → (∀ r, r < 5 → W 110 (5 * s + r) = g r) → puA R' g r m = puA R g 0 5 → (∀ a q, ¬ (98 ≤ a ∧ a ≤ 103) → ¬ (a = 97 ∧ (q = 1 ∨ q = 12)) → W a q = w1 a q) → Z ro 1 mX8_undo 148 [(1, ((97 : Nat) : Int)), (0, (r : Int)), v] [] W (fun r w' k9 => k9 = 0 ∧ ∃ o, r = .inl o ∧ (mM w 0 (cdUn D) (s : Int) (fun w' => MR w' T' (puA R g 0 5) (unD D) lim 0) (fun w' => MR w' T R D lim la)) o w') := by
      intro m
      induction m with
      | zero =>
        intro r hr v B' R' W hRV' hB' hU hMT h12 h110 hpu hf
        obtain ⟨v1, v2⟩ := v
        have z : ∀ a q, ¬ (a = 97 ∧ q = 10) → zup W 97 10 0 a q = W a q := fun a q h => zup_ne h
        refine Z_push gX8_undo_148 (v := (0, (r : Int))) rfl ?_
        refine Z_push gX8_undo_149 (v := (0, 5)) rfl ?_
        refine Z_icmp_ge gX8_undo_150 (tgt := 213) (by decide) (fun _ => ?_) (fun h150 => absurd h150 (by omega))
        refine Z_push gX8_undo_213 (v := (1, ((97 : Nat) : Int))) rfl ?_
        refine Z_push gX8_undo_214 (v := (0, 0)) rfl ?_
        refine Z_put gX8_undo_215 rfl rfl (by decide) rfl (fun _ => (by first | exact Or.inl rfl | exact Or.inr rfl | assumption)) ?_
        refine Z_push gX8_undo_218 (v := (1, ((97 : Nat) : Int))) rfl ?_
        refine Z_getV (v := (s : Int)) gX8_undo_219 rfl rfl (by decide) ((zup_ne (by omega)).trans h12) ?_
        refine Z_ret (v := (0, (s : Int))) gX8_undo_222 rfl rfl rfl rfl rfl _ ?_
        have hpu : R' = puA R g 0 5 := hpu
        rw [hpu] at hU
        refine ⟨⟨_, rfl, fun _ => rfl⟩, ((z _ _ (by omega)).trans ((hf _ _ (by omega) (by omega)).trans h0)).trans (by rw [hcd]; rfl), fun _ => MR_deed hM1 (MT_frame hMT (fun a k h => z a k (by omega))) (MU_frame hU (fun a k h => z a k (by omega))) ⟨?_, ?_, fun q hq => ?_, MC_frame d4 (fun a k h => (z a k (by omega)).trans (hf a k (by omega) (by omega)))⟩ ((z _ _ (by omega)).trans (hf _ _ (by omega) (by omega))) (zup_eq _ _ _ _), fun h => absurd hcd h, fun a k ha => (z a k (by omega)).trans ((hf a k (by omega) (by omega)).trans (f0 a k ha))⟩
        · rw [z _ _ (by omega), h12, ← hsn]; rfl
        · show D.1 - 1 ≤ 10
          omega
        · have hq : q < D.1 - 1 := hq
          have kq := d3 (q + 1) (by omega)
          have e : D.1 - 1 - (q + 1) = (unD D).1 - 1 - q := by show _ = D.1 - 1 - 1 - q; omega
          rw [e] at kq
          exact KR_frame kq ((z _ _ (by omega)).trans (hf _ _ (by omega) (by omega))) (fun a k a1 a2 _ _ => (z _ _ (by omega)).trans (hf _ _ (by omega) (by omega))) (fun k _ _ => (z _ _ (by omega)).trans (hf _ _ (by omega) (by omega)))
      | succ m ih =>
        intro r hr v B' R' W hRV' hB' hU hMT h12 h110 hpu hf
        obtain ⟨v1, v2⟩ := v
        have hgr := hg2 r (by omega)
        refine Z_push gX8_undo_148 (v := (0, (r : Int))) rfl ?_
        refine Z_push gX8_undo_149 (v := (0, 5)) rfl ?_
        refine Z_icmp_ge gX8_undo_150 (tgt := 213) (by decide) (fun h150 => absurd h150 (by omega)) (fun _ => ?_)
        refine Z_push gX8_undo_153 (v := (0, 0)) rfl ?_
        refine Z_sto gX8_undo_154 rfl (ls' := [(1, ((97 : Nat) : Int)), (0, (r : Int)), (0, 0)]) (st' := []) rfl ?_
        refine inner (g r).toNat r 0 (by omega) (by omega) B' R' W hRV' (by omega) hU h12 h110 (fun c' W2 a1 a2 a3 => ?_)
        refine Z_iinc gX8_undo_207 rfl ⟨by omega, by omega⟩ (ls' := [(1, ((97 : Nat) : Int)), (0, (r : Int) + 1), (0, c')]) rfl ?_
        refine Z_goto gX8_undo_210 (tgt := 148) (by decide) ?_
        exact ih (r + 1) (by omega) _ _ _ W2 a2 (by omega) a1 (MT_frame hMT (fun a k h => a3 a k (by omega) (by omega))) ((a3 _ _ (by omega) (by omega)).trans h12) (fun q hq => (a3 _ _ (by omega) (by omega)).trans (h110 q hq)) hpu (fun a q h1 h2 => (a3 a q (by omega) (by omega)).trans (hf a q h1 h2))
    -- the entries come back
    have back : ∀ m k : Nat, k + m = T'.1 → ∀ (v : zV) (W : zW), W 97 1 = (T'.1 : Int) → (∀ q, q < k → eR W 98 99 100 101 q (T'.2 q)) → W 97 12 = (s : Int) → (∀ a q, ¬ (98 ≤ a ∧ a ≤ 101) → ¬ (a = 97 ∧ (q = 1 ∨ q = 12)) → W a q = w1 a q) → Z ro 1 mX8_undo 52 [(1, ((97 : Nat) : Int)), (0, (k : Int)), v] [] W (fun r w' k9 => k9 = 0 ∧ ∃ o, r = .inl o ∧ (mM w 0 (cdUn D) (s : Int) (fun w' => MR w' T' (puA R g 0 5) (unD D) lim 0) (fun w' => MR w' T R D lim la)) o w') := by
      intro m
      induction m with
      | zero =>
        intro k hk v W hW1 hE h12 hf
        obtain ⟨v1, v2⟩ := v
        refine Z_push gX8_undo_52 (v := (0, (k : Int))) rfl ?_
        refine Z_push gX8_undo_53 (v := (1, ((97 : Nat) : Int))) rfl ?_
        refine Z_getV (v := (T'.1 : Int)) gX8_undo_54 rfl rfl (by decide) hW1 ?_
        refine Z_icmp_ge gX8_undo_57 (tgt := 146) (by decide) (fun _ => ?_) (fun h57 => absurd h57 (by omega))
        refine Z_push gX8_undo_146 (v := (0, 0)) rfl ?_
        refine Z_sto gX8_undo_147 rfl (ls' := [(1, ((97 : Nat) : Int)), (0, 0), (v1, v2)]) (st' := []) rfl ?_
        exact rules 5 0 rfl _ B R W hRV (by omega) (MU_frame hU1 (fun a q h => hf a q (by omega) (by omega))) ⟨hW1, fun q hq => hE q (by omega)⟩ h12 (fun q hq => (hf _ _ (by omega) (by omega)).trans (k3 q hq)) rfl (fun a q h1 h2 => hf a q (by omega) h2)
      | succ m ih =>
        intro k hk v W hW1 hE h12 hf
        obtain ⟨v1, v2⟩ := v
        have he := k2 k (by omega)
        obtain ⟨y1, y2, y3, y4⟩ := hTv.2 k (by omega)
        unfold eR at he
        have e1 : W 106 (30 * s + k) = w1 106 (30 * s + k) := hf _ _ (by omega) (by omega)
        have e2 : W 107 (30 * s + k) = w1 107 (30 * s + k) := hf _ _ (by omega) (by omega)
        have e3 : W 108 (30 * s + k) = w1 108 (30 * s + k) := hf _ _ (by omega) (by omega)
        have e4 : W 109 (30 * s + k) = w1 109 (30 * s + k) := hf _ _ (by omega) (by omega)
        generalize w1 106 (30 * s + k) = q1 at he e1
        generalize w1 107 (30 * s + k) = q2 at he e2
        generalize w1 108 (30 * s + k) = q3 at he e3
        generalize w1 109 (30 * s + k) = q4 at he e4
        have hq1 : 0 ≤ q1 ∧ q1 < 65536 := by have := he.1; omega
        have hq4 : q4 = 0 ∨ q4 = 1 := by have := he.2.2.2; omega
        have tn : (30 * (s : Int) + (k : Int)).toNat = 30 * s + k := by omega
        refine Z_push gX8_undo_52 (v := (0, (k : Int))) rfl ?_
        refine Z_push gX8_undo_53 (v := (1, ((97 : Nat) : Int))) rfl ?_
        refine Z_getV (v := (T'.1 : Int)) gX8_undo_54 rfl rfl (by decide) hW1 ?_
        refine Z_icmp_ge gX8_undo_57 (tgt := 146) (by decide) (fun h57 => absurd h57 (by omega)) (fun _ => ?_)
        refine Z_push gX8_undo_60 (v := (1, ((97 : Nat) : Int))) rfl ?_
        refine Z_getR (b := 98) gX8_undo_61 rfl rfl (by decide) rfl (by omega) ?_
        refine Z_push gX8_undo_64 (v := (0, (k : Int))) rfl ?_
        refine Z_push gX8_undo_65 (v := (1, ((97 : Nat) : Int))) rfl ?_
        refine Z_getR (b := 106) gX8_undo_66 rfl rfl (by decide) rfl (by omega) ?_
        refine Z_push gX8_undo_69 (v := (0, 30)) rfl ?_
        refine Z_push gX8_undo_71 (v := (1, ((97 : Nat) : Int))) rfl ?_
        refine Z_getV (v := (s : Int)) gX8_undo_72 rfl rfl (by decide) h12 ?_
        refine Z_imul gX8_undo_75 ⟨by omega, by omega⟩ ?_
        refine Z_push gX8_undo_76 (v := (0, (k : Int))) rfl ?_
        refine Z_iadd gX8_undo_77 ⟨by omega, by omega⟩ ?_
        refine Z_caloadV (v := q1) gX8_undo_78 rfl (by omega) (by omega) (by rw [tn]; exact e1) ?_
        refine Z_castore gX8_undo_79 rfl (by omega) (by omega) hq1 ?_
        refine Z_push gX8_undo_80 (v := (1, ((97 : Nat) : Int))) rfl ?_
        refine Z_getR (b := 99) gX8_undo_81 rfl rfl (by decide) rfl (by omega) ?_
        refine Z_push gX8_undo_84 (v := (0, (k : Int))) rfl ?_
        refine Z_push gX8_undo_85 (v := (1, ((97 : Nat) : Int))) rfl ?_
        refine Z_getR (b := 107) gX8_undo_86 rfl rfl (by decide) rfl (by omega) ?_
        refine Z_push gX8_undo_89 (v := (0, 30)) rfl ?_
        refine Z_push gX8_undo_91 (v := (1, ((97 : Nat) : Int))) rfl ?_
        refine Z_getV (v := (s : Int)) gX8_undo_92 rfl rfl (by decide) (by simp [zup, h12]) ?_
        refine Z_imul gX8_undo_95 ⟨by omega, by omega⟩ ?_
        refine Z_push gX8_undo_96 (v := (0, (k : Int))) rfl ?_
        refine Z_iadd gX8_undo_97 ⟨by omega, by omega⟩ ?_
        refine Z_ialoadV (v := q2) gX8_undo_98 rfl (by omega) (by omega) (by rw [tn]; simp [zup, e2]) ?_
        refine Z_iastore gX8_undo_99 rfl (by omega) (by omega) ?_
        refine Z_push gX8_undo_100 (v := (1, ((97 : Nat) : Int))) rfl ?_
        refine Z_getR (b := 100) gX8_undo_101 rfl rfl (by decide) rfl (by omega) ?_
        refine Z_push gX8_undo_104 (v := (0, (k : Int))) rfl ?_
        refine Z_push gX8_undo_105 (v := (1, ((97 : Nat) : Int))) rfl ?_
        refine Z_getR (b := 108) gX8_undo_106 rfl rfl (by decide) rfl (by omega) ?_
        refine Z_push gX8_undo_109 (v := (0, 30)) rfl ?_
        refine Z_push gX8_undo_111 (v := (1, ((97 : Nat) : Int))) rfl ?_
        refine Z_getV (v := (s : Int)) gX8_undo_112 rfl rfl (by decide) (by simp [zup, h12]) ?_
        refine Z_imul gX8_undo_115 ⟨by omega, by omega⟩ ?_
        refine Z_push gX8_undo_116 (v := (0, (k : Int))) rfl ?_
        refine Z_iadd gX8_undo_117 ⟨by omega, by omega⟩ ?_
        refine Z_ialoadV (v := q3) gX8_undo_118 rfl (by omega) (by omega) (by rw [tn]; simp [zup, e3]) ?_
        refine Z_iastore gX8_undo_119 rfl (by omega) (by omega) ?_
        refine Z_push gX8_undo_120 (v := (1, ((97 : Nat) : Int))) rfl ?_
        refine Z_getR (b := 101) gX8_undo_121 rfl rfl (by decide) rfl (by omega) ?_
        refine Z_push gX8_undo_124 (v := (0, (k : Int))) rfl ?_
        refine Z_push gX8_undo_125 (v := (1, ((97 : Nat) : Int))) rfl ?_
        refine Z_getR (b := 109) gX8_undo_126 rfl rfl (by decide) rfl (by omega) ?_
        refine Z_push gX8_undo_129 (v := (0, 30)) rfl ?_
        refine Z_push gX8_undo_131 (v := (1, ((97 : Nat) : Int))) rfl ?_
        refine Z_getV (v := (s : Int)) gX8_undo_132 rfl rfl (by decide) (by simp [zup, h12]) ?_
        refine Z_imul gX8_undo_135 ⟨by omega, by omega⟩ ?_
        refine Z_push gX8_undo_136 (v := (0, (k : Int))) rfl ?_
        refine Z_iadd gX8_undo_137 ⟨by omega, by omega⟩ ?_
        refine Z_baloadV (v := q4) gX8_undo_138 rfl (by omega) (by omega) (by rw [tn]; simp [zup, e4]) ?_
        refine Z_bastore gX8_undo_139 rfl (by omega) (by omega) hq4 ?_
        refine Z_iinc gX8_undo_140 rfl ⟨by omega, by omega⟩ (ls' := [(1, ((97 : Nat) : Int)), (0, (k : Int) + 1), (v1, v2)]) rfl ?_
        refine Z_goto gX8_undo_143 (tgt := 52) (by decide) ?_
        have z : ∀ a q, ¬ (98 ≤ a ∧ a ≤ 101 ∧ q = k) → zup (zup (zup (zup W 98 k q1) 99 k q2) 100 k q3) 101 k q4 a q = W a q := fun a q h => (zup_ne (by omega)).trans ((zup_ne (by omega)).trans ((zup_ne (by omega)).trans (zup_ne (by omega))))
        refine ih (k + 1) (by omega) _ _ ((z _ _ (by omega)).trans hW1) (fun q hq => ?_) ((z _ _ (by omega)).trans h12) (fun a q h1 h2 => (z _ _ (by omega)).trans (hf a q h1 h2))
        by_cases e : q = k
        · subst e
          have p1 : zup (zup (zup (zup W 98 q q1) 99 q q2) 100 q q3) 101 q q4 101 q = q4 := zup_eq _ _ _ _
          have p2 : zup (zup (zup (zup W 98 q q1) 99 q q2) 100 q q3) 101 q q4 100 q = q3 := (zup_ne (by omega)).trans (zup_eq _ _ _ _)
          have p3 : zup (zup (zup (zup W 98 q q1) 99 q q2) 100 q q3) 101 q q4 99 q = q2 := (zup_ne (by omega)).trans ((zup_ne (by omega)).trans (zup_eq _ _ _ _))
          have p4 : zup (zup (zup (zup W 98 q q1) 99 q q2) 100 q q3) 101 q q4 98 q = q1 := (zup_ne (by omega)).trans ((zup_ne (by omega)).trans ((zup_ne (by omega)).trans (zup_eq _ _ _ _)))
          show eR (zup (zup (zup (zup W 98 q q1) 99 q q2) 100 q q3) 101 q q4) 98 99 100 101 q (T'.2 q)
          unfold eR
          rw [p1, p2, p3, p4]
          exact he
        · exact eR_frame (hE q (by omega)) (z _ _ (by omega)) (z _ _ (by omega)) (z _ _ (by omega)) (z _ _ (by omega))
    have es2 : (((D.1 : Int) - 1)).toNat = s := by omega
    refine Z_push gX8_undo_17 (v := (0, 0)) rfl ?_
    refine Z_push gX8_undo_18 (v := (0, 1)) rfl ?_
    refine Z_callP (kd := 0) (na := 3) (M' := mX8_fails) gX8_undo_19 rfl rfl rfl rfl rfl rfl (fun _ => rfl) rfl rfl (fun _ _ => zrecv_obj rfl _ _ _) (d' := 0) (by omega) (fail0 h0 1) ?_
    refine Z_if_eq gX8_undo_22 (tgt := 27) (by decide) (fun _ => ?_) (fun h22 => absurd h22 (by omega))
    refine Z_push gX8_undo_27 (v := (1, ((97 : Nat) : Int))) rfl ?_
    refine Z_arith gX8_undo_28 rfl rfl (v := [(1, ((97 : Nat) : Int)), (1, ((97 : Nat) : Int))]) rfl ?_
    refine Z_getV (v := (D.1 : Int)) gX8_undo_29 rfl rfl (by decide) d1 ?_
    refine Z_push gX8_undo_32 (v := (0, 1)) rfl ?_
    refine Z_isub gX8_undo_33 ⟨by omega, by omega⟩ ?_
    refine Z_put gX8_undo_34 rfl rfl (by decide) rfl (fun h => by cases h) ?_
    refine Z_push gX8_undo_37 (v := (1, ((97 : Nat) : Int))) rfl ?_
    refine Z_push gX8_undo_38 (v := (1, ((97 : Nat) : Int))) rfl ?_
    refine Z_getR (b := 105) gX8_undo_39 rfl rfl (by decide) rfl (by omega) ?_
    refine Z_push gX8_undo_42 (v := (1, ((97 : Nat) : Int))) rfl ?_
    refine Z_getV (v := (D.1 : Int) - 1) gX8_undo_43 rfl rfl (by decide) (zup_eq _ _ _ _) ?_
    refine Z_ialoadV (v := (T'.1 : Int)) gX8_undo_46 rfl (by omega) (by omega) (by rw [es2]; exact (zup_ne (by omega)).trans k1) ?_
    refine Z_put gX8_undo_47 rfl rfl (by decide) rfl (fun h => by cases h) ?_
    refine Z_push gX8_undo_50 (v := (0, 0)) rfl ?_
    refine Z_sto gX8_undo_51 rfl (ls' := [(1, ((97 : Nat) : Int)), (0, 0), (9, 0)]) (st' := []) rfl ?_
    exact back T'.1 0 (by omega) _ _ (zup_eq _ _ _ _) (fun q h => absurd h (Nat.not_lt_zero _)) ((zup_ne (by omega)).trans ((zup_eq _ _ _ _).trans es)) (fun a q h1 h2 => (zup_ne (by omega)).trans (zup_ne (by omega)))
  · refine Z_push gX8_undo_13 (v := (0, 1)) rfl ?_
    refine Z_goto gX8_undo_14 (tgt := 18) (by decide) ?_
    refine Z_push gX8_undo_18 (v := (0, 1)) rfl ?_
    refine Z_callQ (kd := 0) (na := 3) (M' := mX8_fails) gX8_undo_19 rfl rfl rfl rfl rfl rfl (fun _ => rfl) rfl rfl (fun _ _ => zrecv_obj rfl _ _ _) (d' := 0) (by omega) (fail1 h0 (by omega)) ?_
    refine Z_if_eq gX8_undo_22 (tgt := 27) (by decide) (fun h22 => absurd h22 (by omega)) (fun _ => ?_)
    refine Z_push gX8_undo_25 (v := (0, 0)) rfl ?_
    refine Z_ret (v := (0, 0)) gX8_undo_26 rfl rfl rfl rfl rfl _ ?_
    have hcd : cdUn D = 1 := by unfold cdUn; rw [if_pos (by omega)]
    exact ⟨⟨_, rfl, fun h => absurd h (by omega)⟩, (zup_eq _ _ _ _).trans (by rw [hcd]; rfl), fun h => absurd h (by omega), fun _ => MR_Y hM1 (frY.th w1 1), f0.trans (frY.th w1 1).M⟩
end
