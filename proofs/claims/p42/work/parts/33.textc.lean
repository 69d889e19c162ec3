/-! the class's text: entries copied, taken away, carried, joined -/
def updE (f : Nat → zE) (j : Nat) (x : zE) : Nat → zE := fun k => if k = j then x else f k
/-- nothing but the text in t is touched -/
def frT (t : Nat) (w w' : zW) : Prop := ∀ a k, ¬ (t + 1 ≤ a ∧ a ≤ t + 4) → ¬ (a = t ∧ k = 4) → w' a k = w a k
theorem frT.refl (t : Nat) (w : zW) : frT t w w := fun _ _ _ _ => rfl
theorem frT.trans {t : Nat} {a b c : zW} (h : frT t a b) (k : frT t b c) : frT t a c := fun x y h1 h2 => (k x y h1 h2).trans (h x y h1 h2)
theorem TR_congr {w : zW} {t : Nat} {T T' : zTx} (h : TR w t T) (h1 : T.1 = T'.1) (h2 : ∀ j, j < T.1 → T.2 j = T'.2 j) : TR w t T' :=
  ⟨by rw [← h1]; exact h.1, fun j hj => by rw [← h2 j (by omega)]; exact h.2 j (by omega)⟩
/-- the four values stand for the entry x -/
def eS (x : zE) (k n l p : Int) : Prop := k = x.1 ∧ (x.1 = 110 → n = x.2.1) ∧ (x.1 = 110 ∨ x.1 = 99 → l = x.2.2.1) ∧ p = x.2.2.2
def rmT (T : zTx) (i : Nat) : zTx := (T.1 - 1, fun k => if k < i then T.2 k else T.2 (k + 1))
section
variable {ro : zRo} {w : zW} {t : Nat} {T : zTx}
theorem TR_eS {s : Nat} {T' : zTx} (hR : TR w s T') (hV : TV T') {i : Int} (h : 0 ≤ i ∧ i < T'.1) : eS (T'.2 i.toNat) (kT T' i) (rd w (s + 2) 30 i) (rd w (s + 3) 30 i) (rdf w (s + 4) 30 i) := by
  have hk : kT T' i = (T'.2 i.toNat).1 := by unfold kT; rw [if_pos h]
  exact ⟨hk, fun h1 => TR_name hR hV (by omega), fun h1 => TR_len hR hV (by omega), TR_pin hR hV h⟩
theorem TR_pe (hR : TR w t T) {i : Int} (hi : 0 ≤ i ∧ i < 30) {x : zE} {k n l p : Int} (hx : eS x k n l p) : TR (pe w t i k n l p) t (T.1, updE T.2 i.toNat x) := by
  obtain ⟨x1, x2, x3, x4⟩ := hx
  refine ⟨?_, fun j hj => ?_⟩
  · rw [pe_at hi]
    rw [if_neg (by omega), if_neg (by omega), if_neg (by omega), if_neg (by omega)]
    exact hR.1
  · obtain ⟨a1, a2, a3, a4⟩ := hR.2 j hj
    unfold eR updE
    rw [pe_at hi, pe_at hi, pe_at hi, pe_at hi]
    by_cases e : j = i.toNat
    · simp [e, x1, x4]
      exact ⟨x2, x3⟩
    · simp [e]
      exact ⟨a1, a2, a3, a4⟩
theorem frT_pe {i : Int} (hi : 0 ≤ i ∧ i < 30) {k n l p : Int} : frT t w (pe w t i k n l p) := by
  intro a j h1 h2
  rw [pe_at hi]
  rw [if_neg (by omega), if_neg (by omega), if_neg (by omega), if_neg (by omega)]
theorem vX6_copyEntry {s : Nat} {T' : zTx} (hT : TX t) (hS : TX s) (hR : TR w t T) (hR' : TR w s T') (hV : TV T') {i j : Int} (hi : 0 ≤ i ∧ i < T'.1) (hj : 0 ≤ j ∧ j < 30) : Ev ro 2 mX6_copyEntry [(1, (t : Int)), (1, (s : Int)), (0, i), (0, j)] w (fun o w' => o = none ∧ TR w' t (T.1, updE T.2 j.toNat (T'.2 i.toNat)) ∧ frT t w w') := by
  have hL0 := hT.1
  have hL1 := hS.1
  have hk := kT_v hV hi
  have h01 := rdf_01 w (s + 4) 30 i
  show Z ro 2 mX6_copyEntry 0 [(1, (t : Int)), (1, (s : Int)), (0, i), (0, j)] [] w _
  refine Z_push gX6_copyEntry_0 (v := (1, ((t : Nat) : Int))) rfl ?_
  refine Z_push gX6_copyEntry_1 (v := (0, j)) rfl ?_
  refine Z_push gX6_copyEntry_2 (v := (1, ((s : Nat) : Int))) rfl ?_
  refine Z_push gX6_copyEntry_3 (v := (0, i)) rfl ?_
  refine Z_callP (kd := 0) (na := 2) (M' := mX6_kindAt) gX6_copyEntry_4 rfl rfl rfl rfl rfl rfl (fun _ => rfl) rfl rfl (fun _ _ => zrecv_obj (by assumption) _ _ _) (d' := 0) (by decide) (vX6_kindAt (T := T') (by assumption) (by assumption) (by assumption) _) ?_
  refine Z_push gX6_copyEntry_7 (v := (1, ((s : Nat) : Int))) rfl ?_
  refine Z_push gX6_copyEntry_8 (v := (0, i)) rfl ?_
  refine Z_callP (kd := 0) (na := 2) (M' := mX6_nameAt) gX6_copyEntry_9 rfl rfl rfl rfl rfl rfl (fun _ => rfl) rfl rfl (fun _ _ => zrecv_obj (by assumption) _ _ _) (d' := 1) (by decide) (vX6_nameAt (by assumption) _) ?_
  refine Z_push gX6_copyEntry_12 (v := (1, ((s : Nat) : Int))) rfl ?_
  refine Z_push gX6_copyEntry_13 (v := (0, i)) rfl ?_
  refine Z_callP (kd := 0) (na := 2) (M' := mX6_lengthAt) gX6_copyEntry_14 rfl rfl rfl rfl rfl rfl (fun _ => rfl) rfl rfl (fun _ _ => zrecv_obj (by assumption) _ _ _) (d' := 1) (by decide) (vX6_lengthAt (by assumption) _) ?_
  refine Z_push gX6_copyEntry_17 (v := (1, ((s : Nat) : Int))) rfl ?_
  refine Z_push gX6_copyEntry_18 (v := (0, i)) rfl ?_
  refine Z_callP (kd := 0) (na := 2) (M' := mX6_pinnedAt) gX6_copyEntry_19 rfl rfl rfl rfl rfl rfl (fun _ => rfl) rfl rfl (fun _ _ => zrecv_obj (by assumption) _ _ _) (d' := 1) (by decide) (vX6_pinnedAt (by assumption) _) ?_
  refine Z_callW (kd := 0) (na := 6) (M' := mX6_put) gX6_copyEntry_22 rfl rfl rfl rfl rfl rfl (fun _ => rfl) rfl rfl (fun _ _ => zrecv_obj (by assumption) _ _ _) (d' := 1) (by decide) (vX6_put (by assumption) _ _ (by omega) (by omega) (by assumption)) ?_
  refine Z_end gX6_copyEntry_25 rfl rfl rfl rfl (v := none) rfl ⟨rfl, none, rfl, ?_⟩
  exact ⟨rfl, TR_pe hR hj (TR_eS hR' hV hi), frT_pe hj⟩
theorem vX6_takeAway (hT : TX t) (hR : TR w t T) (hV : TV T) {i : Int} (hi : 0 ≤ i ∧ i < T.1) : Ev ro 3 mX6_takeAway [(1, (t : Int)), (0, i)] w (fun o w' => o = none ∧ TR w' t (rmT T i.toNat) ∧ frT t w w') := by
  obtain ⟨n, f⟩ := T
  have hL0 := hT.1
  have hR1 := hR.1
  have hV1 := hV.1
  have hp4 := hT.2.2.2.2.2.2.2.2.2
  simp only at hi hR1 hV1
  have loop : ∀ k j : Nat, j + k + 1 = n → i ≤ j → ∀ W : zW, TR W t (n, fun q => if i.toNat ≤ q ∧ q < j then f (q + 1) else f q) → frT t w W → Z ro 3 mX6_takeAway 15 [(1, (t : Int)), (0, i), (0, (j : Int))] [] W (fun r w' k => k = 0 ∧ ∃ o, r = .inl o ∧ (o = none ∧ TR w' t (rmT (n, f) i.toNat) ∧ frT t w w')) := by
    intro k
    induction k with
    | zero =>
      intro j hj hij W hW hF
      have hW1 : W t 4 = (n : Int) := hW.1
      refine Z_push gX6_takeAway_15 (v := (0, (j : Int))) rfl ?_
      refine Z_push gX6_takeAway_16 (v := (0, 1)) rfl ?_
      refine Z_iadd gX6_takeAway_17 ⟨by omega, by omega⟩ ?_
      refine Z_push gX6_takeAway_18 (v := (1, ((t : Nat) : Int))) rfl ?_
      refine Z_get gX6_takeAway_19 rfl (by assumption) (by decide) ?_
      refine Z_icmp_ge gX6_takeAway_22 (tgt := 40) (by decide) (fun _ => ?_) (fun h22 => absurd h22 (by omega))
      refine Z_push gX6_takeAway_40 (v := (1, ((t : Nat) : Int))) rfl ?_
      refine Z_arith gX6_takeAway_41 rfl rfl (v := [(1, ((t : Nat) : Int)), (1, ((t : Nat) : Int))]) rfl ?_
      refine Z_get gX6_takeAway_42 rfl (by assumption) (by decide) ?_
      refine Z_push gX6_takeAway_45 (v := (0, 1)) rfl ?_
      refine Z_isub gX6_takeAway_46 ⟨by omega, by omega⟩ ?_
      refine Z_put gX6_takeAway_47 rfl (by assumption) (by decide) (by assumption) (fun h => by cases h) ?_
      refine Z_end gX6_takeAway_50 rfl rfl rfl rfl (v := none) rfl ⟨rfl, none, rfl, ?_⟩
      refine ⟨rfl, ⟨?_, fun q hq => ?_⟩, fun a c h1 h2 => ?_⟩
      · show (if t = t ∧ 4 = 4 then _ else _) = _
        rw [if_pos ⟨rfl, rfl⟩, hW1]
        show _ = ((n - 1 : Nat) : Int)
        omega
      · have hq' : q < n - 1 := hq
        obtain ⟨b1, b2, b3, b4⟩ := hW.2 q (show q < n by omega)
        have e : (rmT (n, f) i.toNat).2 q = (if i.toNat ≤ q ∧ q < j then f (q + 1) else f q) := by
          show (if q < i.toNat then f q else f (q + 1)) = _
          by_cases h : q < i.toNat
          · rw [if_pos h, if_neg (by omega)]
          · rw [if_neg h, if_pos (by omega)]
        rw [e]
        have hz : ∀ a, a ≠ t → zup W t 4 (W t 4 - 1) a q = W a q := fun a ha => if_neg (fun h => ha h.1)
        unfold eR
        rw [hz _ (by omega), hz _ (by omega), hz _ (by omega), hz _ (by omega)]
        exact ⟨b1, b2, b3, b4⟩
      · show (if a = t ∧ c = 4 then _ else _) = _
        rw [if_neg h2]
        exact hF a c h1 h2
    | succ k ih =>
      intro j hj hij W hW hF
      have hW1 : W t 4 = (n : Int) := hW.1
      have hVW : TV (n, fun q => if i.toNat ≤ q ∧ q < j then f (q + 1) else f q) := ⟨hV1, fun q hq => by
        show eV (if _ then _ else _)
        have hq' : q < n := hq
        split
        · exact hV.2 _ (show q + 1 < n by omega)
        · exact hV.2 _ hq'⟩
      refine Z_push gX6_takeAway_15 (v := (0, (j : Int))) rfl ?_
      refine Z_push gX6_takeAway_16 (v := (0, 1)) rfl ?_
      refine Z_iadd gX6_takeAway_17 ⟨by omega, by omega⟩ ?_
      refine Z_push gX6_takeAway_18 (v := (1, ((t : Nat) : Int))) rfl ?_
      refine Z_get gX6_takeAway_19 rfl (by assumption) (by decide) ?_
      refine Z_icmp_ge gX6_takeAway_22 (tgt := 40) (by decide) (fun h22 => absurd h22 (by omega)) (fun _ => ?_)
      refine Z_push gX6_takeAway_25 (v := (1, ((t : Nat) : Int))) rfl ?_
      refine Z_push gX6_takeAway_26 (v := (1, ((t : Nat) : Int))) rfl ?_
      refine Z_push gX6_takeAway_27 (v := (0, (j : Int))) rfl ?_
      refine Z_push gX6_takeAway_28 (v := (0, 1)) rfl ?_
      refine Z_iadd gX6_takeAway_29 ⟨by omega, by omega⟩ ?_
      refine Z_push gX6_takeAway_30 (v := (0, (j : Int))) rfl ?_
      refine Z_callE (kd := 0) (na := 4) (M' := mX6_copyEntry) gX6_takeAway_31 rfl rfl rfl rfl rfl rfl (fun _ => rfl) rfl rfl (fun _ _ => zrecv_obj (by assumption) _ _ _) (d' := 2) (by decide) (vX6_copyEntry hT hT hW hW hVW (show 0 ≤ (j : Int) + 1 ∧ (j : Int) + 1 < (n : Int) by omega) (by omega)) ?_
      rintro o w2 ⟨rfl, h2, h3⟩
      refine Z_iinc gX6_takeAway_34 rfl ⟨by omega, by omega⟩ (ls' := [(1, ((t : Nat) : Int)), (0, i), (0, (j : Int) + 1)]) rfl ?_
      refine Z_goto gX6_takeAway_37 (tgt := 15) (by decide) ?_
      refine ih (j + 1) (by omega) (by omega) w2 (TR_congr h2 rfl (fun q hq => ?_)) (hF.trans h3)
      have hq' : q < n := hq
      show (if q = (j : Int).toNat then (if i.toNat ≤ ((j : Int) + 1).toNat ∧ ((j : Int) + 1).toNat < j then f (((j : Int) + 1).toNat + 1) else f ((j : Int) + 1).toNat) else (if i.toNat ≤ q ∧ q < j then f (q + 1) else f q)) = (if i.toNat ≤ q ∧ q < j + 1 then f (q + 1) else f q)
      by_cases e : q = j
      · subst e
        rw [if_pos (by omega), if_neg (by omega), if_pos (by omega)]
        congr 1
      · rw [if_neg (by omega)]
        by_cases e2 : i.toNat ≤ q ∧ q < j
        · rw [if_pos e2, if_pos (by omega)]
        · rw [if_neg e2, if_neg (by omega)]
  show Z ro 3 mX6_takeAway 0 [(1, (t : Int)), (0, i), (9, 0)] [] w _
  refine Z_push gX6_takeAway_0 (v := (0, i)) rfl ?_
  refine Z_if_lt gX6_takeAway_1 (tgt := 12) (by decide) (fun h1 => absurd h1 (by omega)) (fun _ => ?_)
  refine Z_push gX6_takeAway_4 (v := (0, i)) rfl ?_
  refine Z_push gX6_takeAway_5 (v := (1, ((t : Nat) : Int))) rfl ?_
  refine Z_get gX6_takeAway_6 rfl (by assumption) (by decide) ?_
  refine Z_icmp_lt gX6_takeAway_9 (tgt := 13) (by decide) (fun _ => ?_) (fun h9 => absurd h9 (by omega))
  refine Z_push gX6_takeAway_13 (v := (0, i)) rfl ?_
  refine Z_sto gX6_takeAway_14 rfl (ls' := [(1, ((t : Nat) : Int)), (0, i), (0, i)]) (st' := []) rfl ?_
  have := loop (n - 1 - i.toNat) i.toNat (by omega) (by omega) w (TR_congr hR rfl (fun q hq => by show f q = if _ then _ else _; rw [if_neg (by omega)])) (frT.refl t w)
  rw [show ((i.toNat : Nat) : Int) = i by omega] at this
  exact this
end
