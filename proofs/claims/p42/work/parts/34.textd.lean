/-! the class's text: carry, join, copy, rename, add, pin -/
def cyT (T : zTx) (a b : Nat) : zTx := (T.1, fun k => if k = b then T.2 a else if a ≤ k ∧ k < b then T.2 (k + 1) else if b < k ∧ k ≤ a then T.2 (k - 1) else T.2 k)
section
variable {ro : zRo} {w : zW} {t : Nat} {T : zTx}
theorem vX6_carry (hT : TX t) (hR : TR w t T) (hV : TV T) {a b : Nat} (ha : a < T.1) (hb : b < T.1) (hab : a ≠ b) : Ev ro 3 mX6_carry [(1, (t : Int)), (0, (a : Int)), (0, (b : Int))] w (fun o w' => o = none ∧ TR w' t (cyT T a b) ∧ frT t w w') := by
  obtain ⟨n, f⟩ := T
  have hL0 := hT.1
  have hR1 := hR.1
  have hV1 : n ≤ 30 := hV.1
  have ha : a < n := ha
  have hb : b < n := hb
  have hx := TR_eS hR hV (i := (a : Int)) (show 0 ≤ (a : Int) ∧ (a : Int) < (n : Int) by omega)
  have hkk := kT_v hV (i := (a : Int)) (show 0 ≤ (a : Int) ∧ (a : Int) < (n : Int) by omega)
  have h01 := rdf_01 w (t + 4) 30 (a : Int)
  generalize hk : kT (n, f) (a : Int) = kk at hx hkk
  generalize hnn : rd w (t + 2) 30 (a : Int) = nn at hx
  generalize hll : rd w (t + 3) 30 (a : Int) = ll at hx
  generalize hpp : rdf w (t + 4) 30 (a : Int) = pp at hx h01
  have fin : ∀ (W : zW) (g : Nat → zE) (j : Int), TR W t (n, g) → frT t w W → (∀ q, q < n → updE g b (f a) q = (cyT (n, f) a b).2 q) → Z ro 3 mX6_carry 79 [(1, (t : Int)), (0, (a : Int)), (0, (b : Int)), (0, kk), (0, nn), (0, ll), (0, pp), (0, j)] [] W (fun r w' k => k = 0 ∧ ∃ o, r = .inl o ∧ (o = none ∧ TR w' t (cyT (n, f) a b) ∧ frT t w w')) := by
    intro W g j hW hF hg
    refine Z_push gX6_carry_79 (v := (1, ((t : Nat) : Int))) rfl ?_
    refine Z_push gX6_carry_80 (v := (0, (b : Int))) rfl ?_
    refine Z_push gX6_carry_81 (v := (0, kk)) rfl ?_
    refine Z_push gX6_carry_82 (v := (0, nn)) rfl ?_
    refine Z_push gX6_carry_84 (v := (0, ll)) rfl ?_
    refine Z_push gX6_carry_86 (v := (0, pp)) rfl ?_
    refine Z_callW (kd := 0) (na := 6) (M' := mX6_put) gX6_carry_88 rfl rfl rfl rfl rfl rfl (fun _ => rfl) rfl rfl (fun _ _ => zrecv_obj (by assumption) _ _ _) (d' := 1) (by decide) (vX6_put hT nn ll (by omega) (by omega) h01) ?_
    refine Z_end gX6_carry_91 rfl rfl rfl rfl (v := none) rfl ⟨rfl, none, rfl, ?_⟩
    refine ⟨rfl, TR_congr (TR_pe hW (by omega) (x := f a) hx) rfl (fun q hq => ?_), hF.trans (frT_pe (by omega))⟩
    exact hg q hq
  have down : ∀ k j : Nat, j = b + k → j ≤ a → ∀ W : zW, TR W t (n, fun q => if j < q ∧ q ≤ a then f (q - 1) else f q) → frT t w W → Z ro 3 mX6_carry 56 [(1, (t : Int)), (0, (a : Int)), (0, (b : Int)), (0, kk), (0, nn), (0, ll), (0, pp), (0, (j : Int))] [] W (fun r w' k => k = 0 ∧ ∃ o, r = .inl o ∧ (o = none ∧ TR w' t (cyT (n, f) a b) ∧ frT t w w')) := by
    intro k
    induction k with
    | zero =>
      intro j hj hja W hW hF
      refine Z_push gX6_carry_56 (v := (0, (j : Int))) rfl ?_
      refine Z_push gX6_carry_58 (v := (0, (b : Int))) rfl ?_
      refine Z_icmp_le gX6_carry_59 (tgt := 79) (by decide) (fun _ => ?_) (fun h59 => absurd h59 (by omega))
      refine fin W _ _ hW hF (fun q hq => ?_)
      show (if q = b then f a else (if j < q ∧ q ≤ a then f (q - 1) else f q)) = (if q = b then f a else if a ≤ q ∧ q < b then f (q + 1) else if b < q ∧ q ≤ a then f (q - 1) else f q)
      by_cases e : q = b
      · rw [if_pos e, if_pos e]
      · rw [if_neg e, if_neg e, if_neg (show ¬ (a ≤ q ∧ q < b) by omega)]
        by_cases e2 : b < q ∧ q ≤ a
        · rw [if_pos e2, if_pos (by omega)]
        · rw [if_neg e2, if_neg (by omega)]
    | succ k ih =>
      intro j hj hja W hW hF
      have hVW : TV (n, fun q => if j < q ∧ q ≤ a then f (q - 1) else f q) := ⟨hV1, fun q hq => by
        show eV (if _ then _ else _)
        have hq' : q < n := hq
        split
        · exact hV.2 _ (show q - 1 < n by omega)
        · exact hV.2 _ hq'⟩
      refine Z_push gX6_carry_56 (v := (0, (j : Int))) rfl ?_
      refine Z_push gX6_carry_58 (v := (0, (b : Int))) rfl ?_
      refine Z_icmp_le gX6_carry_59 (tgt := 79) (by decide) (fun h59 => absurd h59 (by omega)) (fun _ => ?_)
      refine Z_push gX6_carry_62 (v := (1, ((t : Nat) : Int))) rfl ?_
      refine Z_push gX6_carry_63 (v := (1, ((t : Nat) : Int))) rfl ?_
      refine Z_push gX6_carry_64 (v := (0, (j : Int))) rfl ?_
      refine Z_push gX6_carry_66 (v := (0, 1)) rfl ?_
      refine Z_isub gX6_carry_67 ⟨by omega, by omega⟩ ?_
      refine Z_push gX6_carry_68 (v := (0, (j : Int))) rfl ?_
      refine Z_callE (kd := 0) (na := 4) (M' := mX6_copyEntry) gX6_carry_70 rfl rfl rfl rfl rfl rfl (fun _ => rfl) rfl rfl (fun _ _ => zrecv_obj (by assumption) _ _ _) (d' := 2) (by decide) (vX6_copyEntry hT hT hW hW hVW (show 0 ≤ (j : Int) - 1 ∧ (j : Int) - 1 < (n : Int) by omega) (by omega)) ?_
      rintro o w2 ⟨rfl, h2, h3⟩
      refine Z_iinc gX6_carry_73 rfl ⟨by omega, by omega⟩ (ls' := [(1, ((t : Nat) : Int)), (0, (a : Int)), (0, (b : Int)), (0, kk), (0, nn), (0, ll), (0, pp), (0, (j : Int) + (-1))]) rfl ?_
      refine Z_goto gX6_carry_76 (tgt := 56) (by decide) ?_
      have hn := ih (j - 1) (by omega) (by omega) w2 (TR_congr h2 rfl (fun q hq => by
        have hq' : q < n := hq
        show (if q = (j : Int).toNat then (if j < ((j : Int) - 1).toNat ∧ ((j : Int) - 1).toNat ≤ a then f (((j : Int) - 1).toNat - 1) else f ((j : Int) - 1).toNat) else (if j < q ∧ q ≤ a then f (q - 1) else f q)) = (if j - 1 < q ∧ q ≤ a then f (q - 1) else f q)
        by_cases e : q = j
        · subst e
          rw [if_pos (by omega), if_neg (by omega), if_pos (by omega)]
          congr 1
          omega
        · rw [if_neg (by omega)]
          by_cases e2 : j < q ∧ q ≤ a
          · rw [if_pos e2, if_pos (by omega)]
          · rw [if_neg e2, if_neg (by omega)])) (hF.trans h3)
      rw [show ((j - 1 : Nat) : Int) = (j : Int) + (-1) by omega] at hn
      exact hn
  have up : ∀ k j : Nat, j + k = b → a ≤ j → ∀ W : zW, TR W t (n, fun q => if a ≤ q ∧ q < j then f (q + 1) else f q) → frT t w W → Z ro 3 mX6_carry 30 [(1, (t : Int)), (0, (a : Int)), (0, (b : Int)), (0, kk), (0, nn), (0, ll), (0, pp), (0, (j : Int))] [] W (fun r w' k => k = 0 ∧ ∃ o, r = .inl o ∧ (o = none ∧ TR w' t (cyT (n, f) a b) ∧ frT t w w')) := by
    intro k
    induction k with
    | zero =>
      intro j hj hja W hW hF
      refine Z_push gX6_carry_30 (v := (0, (j : Int))) rfl ?_
      refine Z_push gX6_carry_32 (v := (0, (b : Int))) rfl ?_
      refine Z_icmp_ge gX6_carry_33 (tgt := 53) (by decide) (fun _ => ?_) (fun h33 => absurd h33 (by omega))
      refine Z_push gX6_carry_53 (v := (0, (a : Int))) rfl ?_
      refine Z_sto gX6_carry_54 rfl (ls' := [(1, ((t : Nat) : Int)), (0, (a : Int)), (0, (b : Int)), (0, kk), (0, nn), (0, ll), (0, pp), (0, (a : Int))]) (st' := []) rfl ?_
      refine Z_push gX6_carry_56 (v := (0, (a : Int))) rfl ?_
      refine Z_push gX6_carry_58 (v := (0, (b : Int))) rfl ?_
      refine Z_icmp_le gX6_carry_59 (tgt := 79) (by decide) (fun _ => ?_) (fun h59 => absurd h59 (by omega))
      refine fin W _ _ hW hF (fun q hq => ?_)
      show (if q = b then f a else (if a ≤ q ∧ q < j then f (q + 1) else f q)) = (if q = b then f a else if a ≤ q ∧ q < b then f (q + 1) else if b < q ∧ q ≤ a then f (q - 1) else f q)
      by_cases e : q = b
      · rw [if_pos e, if_pos e]
      · rw [if_neg e, if_neg e, if_neg (show ¬ (b < q ∧ q ≤ a) by omega)]
        by_cases e2 : a ≤ q ∧ q < b
        · rw [if_pos e2, if_pos (by omega)]
        · rw [if_neg e2, if_neg (by omega)]
    | succ k ih =>
      intro j hj hja W hW hF
      have hVW : TV (n, fun q => if a ≤ q ∧ q < j then f (q + 1) else f q) := ⟨hV1, fun q hq => by
        show eV (if _ then _ else _)
        have hq' : q < n := hq
        split
        · exact hV.2 _ (show q + 1 < n by omega)
        · exact hV.2 _ hq'⟩
      refine Z_push gX6_carry_30 (v := (0, (j : Int))) rfl ?_
      refine Z_push gX6_carry_32 (v := (0, (b : Int))) rfl ?_
      refine Z_icmp_ge gX6_carry_33 (tgt := 53) (by decide) (fun h33 => absurd h33 (by omega)) (fun _ => ?_)
      refine Z_push gX6_carry_36 (v := (1, ((t : Nat) : Int))) rfl ?_
      refine Z_push gX6_carry_37 (v := (1, ((t : Nat) : Int))) rfl ?_
      refine Z_push gX6_carry_38 (v := (0, (j : Int))) rfl ?_
      refine Z_push gX6_carry_40 (v := (0, 1)) rfl ?_
      refine Z_iadd gX6_carry_41 ⟨by omega, by omega⟩ ?_
      refine Z_push gX6_carry_42 (v := (0, (j : Int))) rfl ?_
      refine Z_callE (kd := 0) (na := 4) (M' := mX6_copyEntry) gX6_carry_44 rfl rfl rfl rfl rfl rfl (fun _ => rfl) rfl rfl (fun _ _ => zrecv_obj (by assumption) _ _ _) (d' := 2) (by decide) (vX6_copyEntry hT hT hW hW hVW (show 0 ≤ (j : Int) + 1 ∧ (j : Int) + 1 < (n : Int) by omega) (by omega)) ?_
      rintro o w2 ⟨rfl, h2, h3⟩
      refine Z_iinc gX6_carry_47 rfl ⟨by omega, by omega⟩ (ls' := [(1, ((t : Nat) : Int)), (0, (a : Int)), (0, (b : Int)), (0, kk), (0, nn), (0, ll), (0, pp), (0, (j : Int) + 1)]) rfl ?_
      refine Z_goto gX6_carry_50 (tgt := 30) (by decide) ?_
      refine ih (j + 1) (by omega) (by omega) w2 (TR_congr h2 rfl (fun q hq => ?_)) (hF.trans h3)
      have hq' : q < n := hq
      show (if q = (j : Int).toNat then (if a ≤ ((j : Int) + 1).toNat ∧ ((j : Int) + 1).toNat < j then f (((j : Int) + 1).toNat + 1) else f ((j : Int) + 1).toNat) else (if a ≤ q ∧ q < j then f (q + 1) else f q)) = (if a ≤ q ∧ q < j + 1 then f (q + 1) else f q)
      by_cases e : q = j
      · subst e
        rw [if_pos (by omega), if_neg (by omega), if_pos (by omega)]
        congr 1
      · rw [if_neg (by omega)]
        by_cases e2 : a ≤ q ∧ q < j
        · rw [if_pos e2, if_pos (by omega)]
        · rw [if_neg e2, if_neg (by omega)]
  show Z ro 3 mX6_carry 0 [(1, (t : Int)), (0, (a : Int)), (0, (b : Int)), (9, 0), (9, 0), (9, 0), (9, 0), (9, 0)] [] w _
  refine Z_push gX6_carry_0 (v := (1, ((t : Nat) : Int))) rfl ?_
  refine Z_push gX6_carry_1 (v := (0, (a : Int))) rfl ?_
  refine Z_callP (kd := 0) (na := 2) (M' := mX6_kindAt) gX6_carry_2 rfl rfl rfl rfl rfl rfl (fun _ => rfl) rfl rfl (fun _ _ => zrecv_obj (by assumption) _ _ _) (d' := 0) (by decide) (vX6_kindAt (T := (n, f)) (by assumption) (by assumption) (by assumption) _) ?_
  refine Z_sto gX6_carry_5 rfl (ls' := [(1, ((t : Nat) : Int)), (0, (a : Int)), (0, (b : Int)), (0, kT (n, f) (a : Int)), (9, 0), (9, 0), (9, 0), (9, 0)]) (st' := []) rfl ?_
  refine Z_push gX6_carry_6 (v := (1, ((t : Nat) : Int))) rfl ?_
  refine Z_push gX6_carry_7 (v := (0, (a : Int))) rfl ?_
  refine Z_callP (kd := 0) (na := 2) (M' := mX6_nameAt) gX6_carry_8 rfl rfl rfl rfl rfl rfl (fun _ => rfl) rfl rfl (fun _ _ => zrecv_obj (by assumption) _ _ _) (d' := 1) (by decide) (vX6_nameAt (by assumption) _) ?_
  refine Z_sto gX6_carry_11 rfl (ls' := [(1, ((t : Nat) : Int)), (0, (a : Int)), (0, (b : Int)), (0, kT (n, f) (a : Int)), (0, rd w (t + 2) 30 (a : Int)), (9, 0), (9, 0), (9, 0)]) (st' := []) rfl ?_
  refine Z_push gX6_carry_13 (v := (1, ((t : Nat) : Int))) rfl ?_
  refine Z_push gX6_carry_14 (v := (0, (a : Int))) rfl ?_
  refine Z_callP (kd := 0) (na := 2) (M' := mX6_lengthAt) gX6_carry_15 rfl rfl rfl rfl rfl rfl (fun _ => rfl) rfl rfl (fun _ _ => zrecv_obj (by assumption) _ _ _) (d' := 1) (by decide) (vX6_lengthAt (by assumption) _) ?_
  refine Z_sto gX6_carry_18 rfl (ls' := [(1, ((t : Nat) : Int)), (0, (a : Int)), (0, (b : Int)), (0, kT (n, f) (a : Int)), (0, rd w (t + 2) 30 (a : Int)), (0, rd w (t + 3) 30 (a : Int)), (9, 0), (9, 0)]) (st' := []) rfl ?_
  refine Z_push gX6_carry_20 (v := (1, ((t : Nat) : Int))) rfl ?_
  refine Z_push gX6_carry_21 (v := (0, (a : Int))) rfl ?_
  refine Z_callP (kd := 0) (na := 2) (M' := mX6_pinnedAt) gX6_carry_22 rfl rfl rfl rfl rfl rfl (fun _ => rfl) rfl rfl (fun _ _ => zrecv_obj (by assumption) _ _ _) (d' := 1) (by decide) (vX6_pinnedAt (by assumption) _) ?_
  refine Z_sto gX6_carry_25 rfl (ls' := [(1, ((t : Nat) : Int)), (0, (a : Int)), (0, (b : Int)), (0, kT (n, f) (a : Int)), (0, rd w (t + 2) 30 (a : Int)), (0, rd w (t + 3) 30 (a : Int)), (0, rdf w (t + 4) 30 (a : Int)), (9, 0)]) (st' := []) rfl ?_
  refine Z_push gX6_carry_27 (v := (0, (a : Int))) rfl ?_
  refine Z_sto gX6_carry_28 rfl (ls' := [(1, ((t : Nat) : Int)), (0, (a : Int)), (0, (b : Int)), (0, kT (n, f) (a : Int)), (0, rd w (t + 2) 30 (a : Int)), (0, rd w (t + 3) 30 (a : Int)), (0, rdf w (t + 4) 30 (a : Int)), (0, (a : Int))]) (st' := []) rfl ?_
  rw [hk, hnn, hll, hpp]
  by_cases hlt : a < b
  · exact up (b - a) a (by omega) (Nat.le_refl _) w (TR_congr hR rfl (fun q hq => by show f q = if _ then _ else _; rw [if_neg (by omega)])) (frT.refl t w)
  · refine Z_push gX6_carry_30 (v := (0, (a : Int))) rfl ?_
    refine Z_push gX6_carry_32 (v := (0, (b : Int))) rfl ?_
    refine Z_icmp_ge gX6_carry_33 (tgt := 53) (by decide) (fun _ => ?_) (fun h33 => absurd h33 (by omega))
    refine Z_push gX6_carry_53 (v := (0, (a : Int))) rfl ?_
    refine Z_sto gX6_carry_54 rfl (ls' := [(1, ((t : Nat) : Int)), (0, (a : Int)), (0, (b : Int)), (0, kk), (0, nn), (0, ll), (0, pp), (0, (a : Int))]) (st' := []) rfl ?_
    exact down (a - b) a (by omega) (Nat.le_refl _) w (TR_congr hR rfl (fun q hq => by show f q = if _ then _ else _; rw [if_neg (by omega)])) (frT.refl t w)
end
