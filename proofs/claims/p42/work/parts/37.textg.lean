/-! the class's text: add, whether all can move -/
section
variable {ro : zRo} {w : zW} {t : Nat} {T : zTx}
theorem vX6_add (hT : TX t) (hR : TR w t T) (hn : T.1 < 30) {k nm l : Int} {x : zE} (hk : 0 ≤ k ∧ k < 65536) (hx : eS x k nm l 0) : Ev ro 2 mX6_add [(1, (t : Int)), (0, k), (0, nm), (0, l)] w (fun o w' => o = none ∧ TR w' t (adT T x) ∧ frT t w w') := by
  obtain ⟨hL0, hL1, hL2, hL3, hL4, hp0, hp1, hp2, hp3, hp4⟩ := id hT
  have hR1 := hR.1
  show Z ro 2 mX6_add 0 [(1, (t : Int)), (0, k), (0, nm), (0, l)] [] w _
  refine Z_push gX6_add_0 (v := (1, ((t : Nat) : Int))) rfl ?_
  refine Z_get gX6_add_1 rfl (by assumption) (by decide) ?_
  refine Z_push gX6_add_4 (v := (0, 30)) rfl ?_
  refine Z_icmp_ge gX6_add_6 (tgt := 31) (by decide) (fun h6 => absurd h6 (by omega)) (fun _ => ?_)
  refine Z_push gX6_add_9 (v := (1, ((t : Nat) : Int))) rfl ?_
  refine Z_push gX6_add_10 (v := (1, ((t : Nat) : Int))) rfl ?_
  refine Z_get gX6_add_11 rfl (by assumption) (by decide) ?_
  refine Z_push gX6_add_14 (v := (0, k)) rfl ?_
  refine Z_push gX6_add_15 (v := (0, nm)) rfl ?_
  refine Z_push gX6_add_16 (v := (0, l)) rfl ?_
  refine Z_push gX6_add_17 (v := (0, 0)) rfl ?_
  refine Z_callW (kd := 0) (na := 6) (M' := mX6_put) gX6_add_18 rfl rfl rfl rfl rfl rfl (fun _ => rfl) rfl rfl (fun _ _ => zrecv_obj (by assumption) _ _ _) (d' := 1) (by decide) (vX6_put hT nm l (by omega) hk (Or.inl rfl)) ?_
  have hi : 0 ≤ w t 4 ∧ w t 4 < 30 := by omega
  have h4 : pe w t (w t 4) k nm l 0 t 4 = (T.1 : Int) := by
    rw [pe_at hi, if_neg (by omega), if_neg (by omega), if_neg (by omega), if_neg (by omega)]
    exact hR1
  have hF := frT_pe (w := w) (t := t) hi (k := k) (n := nm) (l := l) (p := 0)
  have hA := fun a j => pe_at (w := w) (t := t) (k := k) (n := nm) (l := l) (p := 0) hi a j
  generalize pe w t (w t 4) k nm l 0 = W at h4 hF hA ⊢
  refine Z_push gX6_add_21 (v := (1, ((t : Nat) : Int))) rfl ?_
  refine Z_arith gX6_add_22 rfl rfl (v := [(1, ((t : Nat) : Int)), (1, ((t : Nat) : Int))]) rfl ?_
  refine Z_get gX6_add_23 rfl (by assumption) (by decide) ?_
  refine Z_push gX6_add_26 (v := (0, 1)) rfl ?_
  refine Z_iadd gX6_add_27 ⟨by omega, by omega⟩ ?_
  refine Z_put gX6_add_28 rfl (by assumption) (by decide) (by assumption) (fun h => by cases h) ?_
  refine Z_end gX6_add_31 rfl rfl rfl rfl (v := none) rfl ⟨rfl, none, rfl, ?_⟩
  refine ⟨rfl, ⟨?_, fun j hj => ?_⟩, fun a j h1 h2 => (if_neg (fun h => h2 h)).trans (hF a j h1 h2)⟩
  · show (if t = t ∧ 4 = 4 then W t 4 + 1 else W t 4) = ((T.1 + 1 : Nat) : Int)
    rw [if_pos ⟨rfl, rfl⟩, h4]
    rfl
  · have hj : j < T.1 + 1 := hj
    have hz : ∀ a, a ≠ t → zup W t 4 (W t 4 + 1) a j = W a j := fun a ha => if_neg (fun h => ha h.1)
    have hw : (w t 4).toNat = T.1 := by omega
    unfold eR
    rw [hz _ (by omega), hz _ (by omega), hz _ (by omega), hz _ (by omega), hA, hA, hA, hA, hw]
    show _ = (updE T.2 T.1 x j).1 ∧ _
    unfold adT updE
    by_cases e : j = T.1
    · obtain ⟨x1, x2, x3, x4⟩ := hx
      simp [e, x1, ← x4]
      exact ⟨x2, x3⟩
    · obtain ⟨a1, a2, a3, a4⟩ := hR.2 j (by omega)
      simp [e]
      exact ⟨a1, a2, a3, a4⟩
theorem mvT_t {lo hi : Int} (h : ∀ j : Nat, j < T.1 → lo ≤ j → (j : Int) ≤ hi → ((kT T j = 110 ∨ kT T j = 99) ∧ pT T j ≠ 1)) : mvT T lo hi = true := by
  unfold mvT
  rw [anyN_f (fun j hj => ?_)]
  · rfl
  · by_cases e : lo ≤ (j : Int) ∧ (j : Int) ≤ hi
    · have := h j hj e.1 e.2
      simp
      intro _ _
      omega
    · rw [decide_eq_false e]; rfl
theorem mvT_f {lo hi : Int} {j : Nat} (hj : j < T.1) (h1 : lo ≤ j) (h2 : (j : Int) ≤ hi) (h : (kT T j ≠ 110 ∧ kT T j ≠ 99) ∨ pT T j = 1) : mvT T lo hi = false := by
  unfold mvT
  rw [anyN_t hj]
  · rfl
  · rw [decide_eq_true ⟨h1, h2⟩, decide_eq_true h]; rfl
theorem vX6_allMovable (hT : TX t) (hR : TR w t T) (hV : TV T) {lo hi : Int} (h0 : 0 ≤ lo ∧ lo ≤ 30) (hhi : hi < T.1) : Pv ro 2 mX6_allMovable [(1, (t : Int)), (0, lo), (0, hi)] w (0, b2i (mvT T lo hi)) := by
  obtain ⟨hL0, hL1, hL2, hL3, hL4, hp0, hp1, hp2, hp3, hp4⟩ := id hT
  have hV1 := hV.1
  have hR1 := hR.1
  have loop : ∀ k j : Nat, (j : Int) + k = hi + 1 → lo ≤ j → (∀ q : Nat, q < T.1 → lo ≤ q → q < j → ((kT T q = 110 ∨ kT T q = 99) ∧ pT T q ≠ 1)) → ∀ v : zV, Z ro 2 mX6_allMovable 2 [(1, (t : Int)), (0, lo), (0, hi), (0, (j : Int)), v] [] w (fun r w' k => k = 0 ∧ ∃ o, r = .inl o ∧ (o = some (0, b2i (mvT T lo hi)) ∧ w' = w)) := by
    intro k
    induction k with
    | zero =>
      intro j hj hlo hq v
      obtain ⟨v1, v2⟩ := v
      refine Z_push gX6_allMovable_2 (v := (0, (j : Int))) rfl ?_
      refine Z_push gX6_allMovable_3 (v := (0, hi)) rfl ?_
      refine Z_icmp_gt gX6_allMovable_4 (tgt := 63) (by decide) (fun _ => ?_) (fun h4 => absurd h4 (by omega))
      refine Z_push gX6_allMovable_63 (v := (0, 1)) rfl ?_
      refine Z_retB gX6_allMovable_64 rfl (by first | exact Or.inl rfl | exact Or.inr rfl | assumption | omega) _ ?_
      exact ⟨by rw [mvT_t (fun q a b c => hq q a b (by omega))]; rfl, rfl⟩
    | succ k ih =>
      intro j hj hlo hq v
      obtain ⟨v1, v2⟩ := v
      have hp := TR_pT hR hV (i := (j : Int)) (by omega)
      have hp1 := pT_01 hV (j : Int)
      have hn := fun (h : (kT T j = 110 ∨ kT T j = 99) ∧ pT T j ≠ 1) => ih (j + 1) (by omega) (by omega) (fun q a b c => if e : q = j then by subst e; exact h else hq q a b (by omega))
      rw [show ((j + 1 : Nat) : Int) = (j : Int) + 1 from rfl] at hn
      refine Z_push gX6_allMovable_2 (v := (0, (j : Int))) rfl ?_
      refine Z_push gX6_allMovable_3 (v := (0, hi)) rfl ?_
      refine Z_icmp_gt gX6_allMovable_4 (tgt := 63) (by decide) (fun h4 => absurd h4 (by omega)) (fun _ => ?_)
      refine Z_push gX6_allMovable_7 (v := (0, (j : Int))) rfl ?_
      refine Z_push gX6_allMovable_8 (v := (1, ((t : Nat) : Int))) rfl ?_
      refine Z_get gX6_allMovable_9 rfl (by assumption) (by decide) ?_
      refine Z_icmp_ge gX6_allMovable_12 (tgt := 63) (by decide) (fun h12 => absurd h12 (by omega)) (fun _ => ?_)
      refine Z_push gX6_allMovable_15 (v := (1, ((t : Nat) : Int))) rfl ?_
      refine Z_push gX6_allMovable_16 (v := (0, (j : Int))) rfl ?_
      refine Z_callP (kd := 0) (na := 2) (M' := mX6_kindAt) gX6_allMovable_17 rfl rfl rfl rfl rfl rfl (fun _ => rfl) rfl rfl (fun _ _ => zrecv_obj (by assumption) _ _ _) (d' := 0) (by decide) (vX6_kindAt (T := T) (by assumption) (by assumption) (by assumption) _) ?_
      refine Z_push gX6_allMovable_20 (v := (0, 110)) rfl ?_
      refine Z_icmp_eq gX6_allMovable_22 (tgt := 35) (by decide) (fun h22 => ?_) (fun h22 => ?_)
      · refine Z_push gX6_allMovable_35 (v := (0, 1)) rfl ?_
        refine Z_goto gX6_allMovable_36 (tgt := 40) (by decide) ?_
        refine Z_sto gX6_allMovable_40 rfl (ls' := [(1, ((t : Nat) : Int)), (0, lo), (0, hi), (0, (j : Int)), (0, 1)]) (st' := []) rfl ?_
        refine Z_push gX6_allMovable_42 (v := (0, 1)) rfl ?_
        refine Z_if_eq gX6_allMovable_44 (tgt := 55) (by decide) (fun h44 => absurd h44 (by omega)) (fun _ => ?_)
        refine Z_push gX6_allMovable_47 (v := (1, ((t : Nat) : Int))) rfl ?_
        refine Z_push gX6_allMovable_48 (v := (0, (j : Int))) rfl ?_
        refine Z_callP (kd := 0) (na := 2) (M' := mX6_pinnedAt) gX6_allMovable_49 rfl rfl rfl rfl rfl rfl (fun _ => rfl) rfl rfl (fun _ _ => zrecv_obj (by assumption) _ _ _) (d' := 1) (by decide) (vX6_pinnedAt (by assumption) _) ?_
        refine Z_if_eq gX6_allMovable_52 (tgt := 57) (by decide) (fun h52 => ?_) (fun h52 => ?_)
        · refine Z_iinc gX6_allMovable_57 rfl ⟨by omega, by omega⟩ (ls' := [(1, ((t : Nat) : Int)), (0, lo), (0, hi), (0, (j : Int) + 1), (0, 1)]) rfl ?_
          refine Z_goto gX6_allMovable_60 (tgt := 2) (by decide) ?_
          exact hn ⟨Or.inl h22, by omega⟩ _
        · refine Z_push gX6_allMovable_55 (v := (0, 0)) rfl ?_
          refine Z_retB gX6_allMovable_56 rfl (by first | exact Or.inl rfl | exact Or.inr rfl | assumption | omega) _ ?_
          exact ⟨by rw [mvT_f (j := j) (by omega) hlo (by omega) (Or.inr (by omega))]; rfl, rfl⟩
      · refine Z_push gX6_allMovable_25 (v := (1, ((t : Nat) : Int))) rfl ?_
        refine Z_push gX6_allMovable_26 (v := (0, (j : Int))) rfl ?_
        refine Z_callP (kd := 0) (na := 2) (M' := mX6_kindAt) gX6_allMovable_27 rfl rfl rfl rfl rfl rfl (fun _ => rfl) rfl rfl (fun _ _ => zrecv_obj (by assumption) _ _ _) (d' := 0) (by decide) (vX6_kindAt (T := T) (by assumption) (by assumption) (by assumption) _) ?_
        refine Z_push gX6_allMovable_30 (v := (0, 99)) rfl ?_
        refine Z_icmp_ne gX6_allMovable_32 (tgt := 39) (by decide) (fun h32 => ?_) (fun h32 => ?_)
        · refine Z_push gX6_allMovable_39 (v := (0, 0)) rfl ?_
          refine Z_sto gX6_allMovable_40 rfl (ls' := [(1, ((t : Nat) : Int)), (0, lo), (0, hi), (0, (j : Int)), (0, 0)]) (st' := []) rfl ?_
          refine Z_push gX6_allMovable_42 (v := (0, 0)) rfl ?_
          refine Z_if_eq gX6_allMovable_44 (tgt := 55) (by decide) (fun _ => ?_) (fun h44 => absurd h44 (by omega))
          refine Z_push gX6_allMovable_55 (v := (0, 0)) rfl ?_
          refine Z_retB gX6_allMovable_56 rfl (by first | exact Or.inl rfl | exact Or.inr rfl | assumption | omega) _ ?_
          exact ⟨by rw [mvT_f (j := j) (by omega) hlo (by omega) (Or.inl ⟨h22, h32⟩)]; rfl, rfl⟩
        · refine Z_push gX6_allMovable_35 (v := (0, 1)) rfl ?_
          refine Z_goto gX6_allMovable_36 (tgt := 40) (by decide) ?_
          refine Z_sto gX6_allMovable_40 rfl (ls' := [(1, ((t : Nat) : Int)), (0, lo), (0, hi), (0, (j : Int)), (0, 1)]) (st' := []) rfl ?_
          refine Z_push gX6_allMovable_42 (v := (0, 1)) rfl ?_
          refine Z_if_eq gX6_allMovable_44 (tgt := 55) (by decide) (fun h44 => absurd h44 (by omega)) (fun _ => ?_)
          refine Z_push gX6_allMovable_47 (v := (1, ((t : Nat) : Int))) rfl ?_
          refine Z_push gX6_allMovable_48 (v := (0, (j : Int))) rfl ?_
          refine Z_callP (kd := 0) (na := 2) (M' := mX6_pinnedAt) gX6_allMovable_49 rfl rfl rfl rfl rfl rfl (fun _ => rfl) rfl rfl (fun _ _ => zrecv_obj (by assumption) _ _ _) (d' := 1) (by decide) (vX6_pinnedAt (by assumption) _) ?_
          refine Z_if_eq gX6_allMovable_52 (tgt := 57) (by decide) (fun h52 => ?_) (fun h52 => ?_)
          · refine Z_iinc gX6_allMovable_57 rfl ⟨by omega, by omega⟩ (ls' := [(1, ((t : Nat) : Int)), (0, lo), (0, hi), (0, (j : Int) + 1), (0, 1)]) rfl ?_
            refine Z_goto gX6_allMovable_60 (tgt := 2) (by decide) ?_
            exact hn ⟨Or.inr h32, by omega⟩ _
          · refine Z_push gX6_allMovable_55 (v := (0, 0)) rfl ?_
            refine Z_retB gX6_allMovable_56 rfl (by first | exact Or.inl rfl | exact Or.inr rfl | assumption | omega) _ ?_
            exact ⟨by rw [mvT_f (j := j) (by omega) hlo (by omega) (Or.inr (by omega))]; rfl, rfl⟩
  show Z ro 2 mX6_allMovable 0 [(1, (t : Int)), (0, lo), (0, hi), (9, 0), (9, 0)] [] w _
  refine Z_push gX6_allMovable_0 (v := (0, lo)) rfl ?_
  refine Z_sto gX6_allMovable_1 rfl (ls' := [(1, ((t : Nat) : Int)), (0, lo), (0, hi), (0, lo), (9, 0)]) (st' := []) rfl ?_
  by_cases hlh : lo ≤ hi
  · have := loop (hi + 1 - lo).toNat lo.toNat (by omega) (by omega) (fun q a b c => absurd c (by omega)) (9, 0)
    rw [show ((lo.toNat : Nat) : Int) = lo by omega] at this
    exact this
  · refine Z_push gX6_allMovable_2 (v := (0, lo)) rfl ?_
    refine Z_push gX6_allMovable_3 (v := (0, hi)) rfl ?_
    refine Z_icmp_gt gX6_allMovable_4 (tgt := 63) (by decide) (fun _ => ?_) (fun h4 => absurd h4 (by omega))
    refine Z_push gX6_allMovable_63 (v := (0, 1)) rfl ?_
    refine Z_retB gX6_allMovable_64 rfl (by first | exact Or.inl rfl | exact Or.inr rfl | assumption | omega) _ ?_
    exact ⟨by rw [mvT_t (fun q a b c => absurd c (by omega))]; rfl, rfl⟩
end
