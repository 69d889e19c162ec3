/-! the ring: a fix noted, a deed taken back -/
section
variable {ro : zRo} {w : zW} {T : zTx} {D : zDs}
theorem vX2_noteFix {nw r : Nat} (hD : DR w nw D) (hV : DV D) (hc : 0 < D.1) (hr : r < 5) : Ev ro 2 mX2_noteFix [(1, ((9 : Nat) : Int)), (0, (r : Int))] w (fun o w' => o = none ∧ DR w' nw (nfD D r) ∧ frD9 w w') := by
  obtain ⟨d1, d2, d3, d4, d5⟩ := hD
  have hE := DX_d nw d1
  have hL := hE.1
  obtain ⟨a1, a2⟩ := d5 0 hc
  have e0 : sl nw 0 = nw := by unfold sl; omega
  rw [e0] at a1 a2
  have hb := (hV 0 hc).2 r hr
  have hw := a2 r hr
  show Z ro 2 mX2_noteFix 0 [(1, ((9 : Nat) : Int)), (0, (r : Int)), (9, 0)] [] w _
  refine Z_push gX2_noteFix_0 (v := (1, ((9 : Nat) : Int))) rfl ?_
  refine Z_callP (kd := 0) (na := 1) (M' := mX2_newestDeed) gX2_noteFix_1 rfl rfl rfl rfl rfl rfl (fun _ => rfl) rfl rfl (fun _ _ => zrecv_obj rfl _ _ _) (d' := 0) (by decide) (vX2_newestDeed d2 d1) ?_
  refine Z_sto gX2_noteFix_4 rfl (ls' := [(1, ((9 : Nat) : Int)), (0, (r : Int)), (1, ((11 + 7 * nw : Nat) : Int))]) (st' := []) rfl ?_
  refine Z_push gX2_noteFix_5 (v := (1, ((11 + 7 * nw : Nat) : Int))) rfl ?_
  refine Z_nul gX2_noteFix_6 (tgt := 14) (by decide) (fun h => absurd h (by omega)) (fun _ => ?_)
  refine Z_push gX2_noteFix_9 (v := (1, ((11 + 7 * nw : Nat) : Int))) rfl ?_
  refine Z_push gX2_noteFix_10 (v := (0, (r : Int))) rfl ?_
  refine Z_callW (kd := 0) (na := 2) (M' := mX1_noteFix) gX2_noteFix_11 rfl rfl rfl rfl rfl rfl (fun _ => rfl) rfl rfl (fun _ _ => zrecv_obj (by assumption) _ _ _) (d' := 1) (by decide) (vX1_noteFix hE hr (by omega)) ?_
  refine Z_end gX2_noteFix_14 rfl rfl rfl rfl (v := none) rfl ⟨rfl, none, rfl, ?_⟩
  have hz : ∀ a k, ¬ (a = 11 + 7 * nw + 6 ∧ k = r) → zup w (11 + 7 * nw + 6) r (w (11 + 7 * nw + 6) r + 1) a k = w a k := fun a k h => if_neg h
  refine ⟨rfl, ⟨d1, (hz _ _ (by omega)).trans d2, (hz _ _ (by omega)).trans d3, d4, fun q hq => ?_⟩, fun a k h1 h2 => hz a k (by omega)⟩
  have hq : q < D.1 := hq
  by_cases h0 : q = 0
  · subst h0
    rw [e0]
    refine ⟨TR_frame a1 (fun a k ha => hz a k (by omega)), fun r' hr' => ?_⟩
    show (if _ ∧ r' = r then w (11 + 7 * nw + 6) r + 1 else w (11 + 7 * nw + 6) r') = (if r' = r then (D.2 0).2 r + 1 else (D.2 0).2 r')
    by_cases e : r' = r
    · rw [if_pos ⟨rfl, e⟩, if_pos e, hw]
    · rw [if_neg (fun h => e h.2), if_neg e]; exact a2 r' hr'
  · obtain ⟨b1, b2⟩ := d5 q hq
    have hs : sl nw q ≠ nw := by unfold sl; omega
    show TR _ _ (if q = 0 then _ else D.2 q).1 ∧ ∀ r', r' < 5 → _ = (if q = 0 then _ else D.2 q).2 r'
    rw [if_neg h0]
    exact ⟨TR_frame b1 (fun a k ha => hz a k (by omega)), fun r' hr' => (hz _ r' (by omega)).trans (b2 r' hr')⟩
end
