/-! the class's text: copy, rename, add, whether all can move -/
def adT (T : zTx) (x : zE) : zTx := (T.1 + 1, updE T.2 T.1 x)
section
variable {ro : zRo} {w : zW} {t : Nat} {T : zTx}
theorem vX6_copyFrom {s : Nat} (hT : TX t) (hS : TX s) (hR : TR w s T) (hV : TV T) (hd : t + 4 < s ∨ s + 4 < t) : Ev ro 3 mX6_copyFrom [(1, (t : Int)), (1, (s : Int))] w (fun o w' => o = none ∧ TR w' t T ∧ frT t w w') := by
  obtain ⟨n, f⟩ := T
  obtain ⟨hL0, hL1, hL2, hL3, hL4, hp0, hp1, hp2, hp3, hp4⟩ := id hT
  have hS0 := hS.1
  have hV1 : n ≤ 30 := hV.1
  have hR1 : w s 4 = (n : Int) := hR.1
  have loop : ∀ k j : Nat, j + k = n → ∀ (W : zW) (g : Nat → zE), TR W t (n, g) → (∀ q, q < j → g q = f q) → TR W s (n, f) → frT t w W → Z ro 3 mX6_copyFrom 10 [(1, (t : Int)), (1, (s : Int)), (0, (j : Int))] [] W (fun r w' k => k = 0 ∧ ∃ o, r = .inl o ∧ (o = none ∧ TR w' t (n, f) ∧ frT t w w')) := by
    intro k
    induction k with
    | zero =>
      intro j hj W g hW hg hWs hF
      have hW1 : W t 4 = (n : Int) := hW.1
      refine Z_push gX6_copyFrom_10 (v := (0, (j : Int))) rfl ?_
      refine Z_push gX6_copyFrom_11 (v := (1, ((t : Nat) : Int))) rfl ?_
      refine Z_get gX6_copyFrom_12 rfl (by assumption) (by decide) ?_
      refine Z_icmp_ge gX6_copyFrom_15 (tgt := 31) (by decide) (fun _ => ?_) (fun h15 => absurd h15 (by omega))
      refine Z_end gX6_copyFrom_31 rfl rfl rfl rfl (v := none) rfl ⟨rfl, none, rfl, ?_⟩
      exact ⟨rfl, TR_congr hW rfl (fun q hq => hg q (by have : q < n := hq; omega)), hF⟩
    | succ k ih =>
      intro j hj W g hW hg hWs hF
      have hW1 : W t 4 = (n : Int) := hW.1
      refine Z_push gX6_copyFrom_10 (v := (0, (j : Int))) rfl ?_
      refine Z_push gX6_copyFrom_11 (v := (1, ((t : Nat) : Int))) rfl ?_
      refine Z_get gX6_copyFrom_12 rfl (by assumption) (by decide) ?_
      refine Z_icmp_ge gX6_copyFrom_15 (tgt := 31) (by decide) (fun h15 => absurd h15 (by omega)) (fun _ => ?_)
      refine Z_push gX6_copyFrom_18 (v := (1, ((t : Nat) : Int))) rfl ?_
      refine Z_push gX6_copyFrom_19 (v := (1, ((s : Nat) : Int))) rfl ?_
      refine Z_push gX6_copyFrom_20 (v := (0, (j : Int))) rfl ?_
      refine Z_push gX6_copyFrom_21 (v := (0, (j : Int))) rfl ?_
      refine Z_callE (kd := 0) (na := 4) (M' := mX6_copyEntry) gX6_copyFrom_22 rfl rfl rfl rfl rfl rfl (fun _ => rfl) rfl rfl (fun _ _ => zrecv_obj (by assumption) _ _ _) (d' := 2) (by decide) (vX6_copyEntry hT hS hW hWs hV (show 0 ≤ (j : Int) ∧ (j : Int) < (n : Int) by omega) (by omega)) ?_
      rintro o w2 ⟨rfl, h2, h3⟩
      refine Z_iinc gX6_copyFrom_25 rfl ⟨by omega, by omega⟩ (ls' := [(1, ((t : Nat) : Int)), (1, ((s : Nat) : Int)), (0, (j : Int) + 1)]) rfl ?_
      refine Z_goto gX6_copyFrom_28 (tgt := 10) (by decide) ?_
      refine ih (j + 1) (by omega) w2 _ h2 (fun q hq => ?_) (TR_frame hWs (fun a k ha => h3 a k (by omega) (by omega))) (hF.trans h3)
      show (if q = (j : Int).toNat then f (j : Int).toNat else g q) = f q
      by_cases e : q = j
      · subst e; rw [if_pos (by omega)]; rfl
      · rw [if_neg (by omega)]; exact hg q (by omega)
  show Z ro 3 mX6_copyFrom 0 [(1, (t : Int)), (1, (s : Int)), (9, 0)] [] w _
  refine Z_push gX6_copyFrom_0 (v := (1, ((t : Nat) : Int))) rfl ?_
  refine Z_push gX6_copyFrom_1 (v := (1, ((s : Nat) : Int))) rfl ?_
  refine Z_get gX6_copyFrom_2 rfl (by assumption) (by decide) ?_
  refine Z_put gX6_copyFrom_5 rfl (by assumption) (by decide) (by assumption) (fun h => by cases h) ?_
  refine Z_push gX6_copyFrom_8 (v := (0, 0)) rfl ?_
  refine Z_sto gX6_copyFrom_9 rfl (ls' := [(1, ((t : Nat) : Int)), (1, ((s : Nat) : Int)), (0, 0)]) (st' := []) rfl ?_
  have hF : frT t w (zup w t 4 (w s 4)) := fun a k h1 h2 => if_neg (fun h => h2 h)
  refine loop n 0 (by omega) _ _ (TR_raw (n := n) ?_) (fun q h => absurd h (by omega)) (TR_frame hR (fun a k ha => hF a k (by omega) (by omega))) hF
  show (if t = t ∧ 4 = 4 then w s 4 else w t 4) = _
  rw [if_pos ⟨rfl, rfl⟩, hR1]
theorem vX6_replaceName (hT : TX t) (hR : TR w t T) (hV : TV T) (x : Int) {y : Int} (hy : 0 ≤ y ∧ y < 100) : Ev ro 3 mX6_replaceName [(1, (t : Int)), (0, x), (0, y)] w (fun o w' => o = none ∧ TR w' t (rnT T x y) ∧ frT t w w') := by
  obtain ⟨n, f⟩ := T
  obtain ⟨hL0, hL1, hL2, hL3, hL4, hp0, hp1, hp2, hp3, hp4⟩ := id hT
  have hV1 : n ≤ 30 := hV.1
  have loop : ∀ k j : Nat, j + k = n → ∀ (W : zW) (g : Nat → zE), TR W t (n, g) → TV (n, g) → (∀ q, q < n → g q = if q < j then (rnT (n, f) x y).2 q else f q) → frT t w W → Z ro 3 mX6_replaceName 2 [(1, (t : Int)), (0, x), (0, y), (0, (j : Int))] [] W (fun r w' k => k = 0 ∧ ∃ o, r = .inl o ∧ (o = none ∧ TR w' t (rnT (n, f) x y) ∧ frT t w w')) := by
    intro k
    induction k with
    | zero =>
      intro j hj W g hW hWV hg hF
      have hW1 : W t 4 = (n : Int) := hW.1
      refine Z_push gX6_replaceName_2 (v := (0, (j : Int))) rfl ?_
      refine Z_push gX6_replaceName_3 (v := (1, ((t : Nat) : Int))) rfl ?_
      refine Z_get gX6_replaceName_4 rfl (by assumption) (by decide) ?_
      refine Z_icmp_ge gX6_replaceName_7 (tgt := 34) (by decide) (fun _ => ?_) (fun h7 => absurd h7 (by omega))
      refine Z_end gX6_replaceName_34 rfl rfl rfl rfl (v := none) rfl ⟨rfl, none, rfl, ?_⟩
      refine ⟨rfl, TR_congr hW rfl (fun q hq => ?_), hF⟩
      have hq : q < n := hq
      exact (hg q hq).trans (if_pos (by omega))
    | succ k ih =>
      intro j hj W g hW hWV hg hF
      have hW1 : W t 4 = (n : Int) := hW.1
      have hgj : g j = f j := (hg j (by omega)).trans (if_neg (by omega))
      have e1 : isT (n, g) (j : Int) x = isT (n, f) (j : Int) x := by
        unfold isT kT
        show (if (if 0 ≤ (j : Int) ∧ (j : Int) < (n : Int) then (g j).1 else 32) = 110 ∧ (g j).2.1 = x then _ else _) = _
        rw [hgj]
        rfl
      have h01 := isT_01 (n, f) j x
      refine Z_push gX6_replaceName_2 (v := (0, (j : Int))) rfl ?_
      refine Z_push gX6_replaceName_3 (v := (1, ((t : Nat) : Int))) rfl ?_
      refine Z_get gX6_replaceName_4 rfl (by assumption) (by decide) ?_
      refine Z_icmp_ge gX6_replaceName_7 (tgt := 34) (by decide) (fun h7 => absurd h7 (by omega)) (fun _ => ?_)
      refine Z_push gX6_replaceName_10 (v := (1, ((t : Nat) : Int))) rfl ?_
      refine Z_push gX6_replaceName_11 (v := (0, (j : Int))) rfl ?_
      refine Z_push gX6_replaceName_12 (v := (0, x)) rfl ?_
      refine Z_callP (kd := 0) (na := 3) (M' := mX6_isNamed) gX6_replaceName_13 rfl rfl rfl rfl rfl rfl (fun _ => rfl) rfl rfl (fun _ _ => zrecv_obj (by assumption) _ _ _) (d' := 2) (by decide) (vX6_isNamed (T := (n, g)) (by assumption) (by assumption) (by assumption) _ _) ?_
      refine Z_if_eq gX6_replaceName_16 (tgt := 28) (by decide) (fun h16 => ?_) (fun h16 => ?_)
      · refine Z_iinc gX6_replaceName_28 rfl ⟨by omega, by omega⟩ (ls' := [(1, ((t : Nat) : Int)), (0, x), (0, y), (0, (j : Int) + 1)]) rfl ?_
        refine Z_goto gX6_replaceName_31 (tgt := 2) (by decide) ?_
        refine ih (j + 1) (by omega) W g hW hWV (fun q hq => ?_) hF
        rw [hg q hq]
        by_cases e : q = j
        · subst e
          rw [if_neg (by omega), if_pos (by omega)]
          show f q = if isT (n, f) q x = 1 then _ else f q
          rw [if_neg (by omega)]
        · by_cases e2 : q < j
          · rw [if_pos e2, if_pos (by omega)]
          · rw [if_neg e2, if_neg (by omega)]
      · have hk := TR_zwr hW (i := j) (by omega) (c := t + 2) (by omega) (v := y) (x := ((g j).1, y, (g j).2.2.1, (g j).2.2.2)) (fun _ => if_neg (by omega)) (fun _ h => by rw [if_pos rfl]) (fun _ h => by rw [if_neg (by omega)]; exact ⟨h, rfl⟩) (fun _ => if_neg (by omega))
        refine Z_push gX6_replaceName_19 (v := (1, ((t : Nat) : Int))) rfl ?_
        refine Z_getR (b := t + 2) gX6_replaceName_20 rfl (by assumption) (by decide) (by assumption) (by omega) ?_
        refine Z_push gX6_replaceName_23 (v := (0, (j : Int))) rfl ?_
        refine Z_push gX6_replaceName_24 (v := (0, y)) rfl ?_
        refine Z_callW (kd := 2) (na := 3) (M' := mX7_write) gX6_replaceName_25 rfl rfl rfl rfl rfl rfl (fun _ => rfl) rfl rfl (fun _ _ => rfl) (d' := 0) (by decide) (vX7_write (len := 30) (by first | assumption | rfl) _ _) ?_
        refine Z_iinc gX6_replaceName_28 rfl ⟨by omega, by omega⟩ (ls' := [(1, ((t : Nat) : Int)), (0, x), (0, y), (0, (j : Int) + 1)]) rfl ?_
        refine Z_goto gX6_replaceName_31 (tgt := 2) (by decide) ?_
        refine ih (j + 1) (by omega) _ _ hk.1 ⟨hV1, fun q hq => ?_⟩ (fun q hq => ?_) (hF.trans hk.2)
        · show eV (if q = j then _ else g q)
          split
          · obtain ⟨a1, a2, a3, a4⟩ := hWV.2 j (show j < n by omega)
            exact ⟨a1, fun _ => hy, a3, a4⟩
          · exact hWV.2 q hq
        · show (if q = j then ((g j).1, y, (g j).2.2.1, (g j).2.2.2) else g q) = _
          by_cases e : q = j
          · subst e
            rw [if_pos rfl, if_pos (by omega), hgj]
            show _ = if isT (n, f) q x = 1 then _ else f q
            rw [if_pos (by omega)]
          · rw [if_neg e, hg q hq]
            by_cases e2 : q < j
            · rw [if_pos e2, if_pos (by omega)]
            · rw [if_neg e2, if_neg (by omega)]
  show Z ro 3 mX6_replaceName 0 [(1, (t : Int)), (0, x), (0, y), (9, 0)] [] w _
  refine Z_push gX6_replaceName_0 (v := (0, 0)) rfl ?_
  refine Z_sto gX6_replaceName_1 rfl (ls' := [(1, ((t : Nat) : Int)), (0, x), (0, y), (0, 0)]) (st' := []) rfl ?_
  exact loop n 0 (by omega) w f hR hV (fun q hq => by rw [if_neg (by omega)]) (frT.refl t w)
end
