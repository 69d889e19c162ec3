/-! the ring: the newest deed taken back -/
section
variable {ro : zRo} {w : zW} {T : zTx} {D : zDs} {B : Int} {R : zRu}
theorem vX2_takeBack {nw : Nat} (hD : DR w nw D) (hV : DV D) (hc : 0 < D.1) (hRR : RR w R) (hRV : RV B R) (hB : B + 150 ≤ 1000000) : Ev ro 5 mX2_takeBack [(1, ((9 : Nat) : Int)), (1, ((1 : Nat) : Int)), (1, ((6 : Nat) : Int))] w (fun o w' => o = none ∧ TR w' 1 (D.2 0).1 ∧ RR w' (puA R (D.2 0).2 0 5) ∧ DR w' (if 0 < nw then nw - 1 else 9) (unD D) ∧ (∀ a k, ¬ (1 ≤ a ∧ a ≤ 9) → w' a k = w a k)) := by
  obtain ⟨d1, d2, d3, d4, d5⟩ := hD
  have hE := DX_d nw d1
  have hL := hE.1
  obtain ⟨a1, a2⟩ := d5 0 hc
  have e0 : sl nw 0 = nw := by unfold sl; omega
  rw [e0] at a1 a2
  have fin : ∀ (n2 : Nat) (W W2 : zW), n2 = (if 0 < nw then nw - 1 else 9) → TR W2 1 (D.2 0).1 → RR W2 (puA R (D.2 0).2 0 5) → (∀ a k, ¬ (1 + 1 ≤ a ∧ a ≤ 1 + 4) → ¬ (a = 1 ∧ k = 4) → a ≠ 7 → a ≠ 8 → ¬ (a = 6 ∧ k = 2) → W2 a k = w a k) → W = zup (zup W2 9 1 (n2 : Int)) 9 2 ((D.1 : Int) - 1) → (TR W 1 (D.2 0).1 ∧ RR W (puA R (D.2 0).2 0 5) ∧ DR W (if 0 < nw then nw - 1 else 9) (unD D) ∧ (∀ a k, ¬ (1 ≤ a ∧ a ≤ 9) → W a k = w a k)) := by
    intro n2 W W2 hn g1 g2 g3 hW
    have w3 : ∀ a k, a ≠ 9 → W a k = W2 a k := fun a k h => by
      rw [hW]; exact (if_neg (fun h2 => h h2.1)).trans (if_neg (fun h2 => h h2.1))
    refine ⟨TR_frame g1 (fun a k ha => w3 a k (by omega)), ⟨fun j hj => (w3 7 j (by omega)).trans (g2.1 j hj), fun j hj => (w3 8 j (by omega)).trans (g2.2.1 j hj), (w3 6 2 (by omega)).trans g2.2.2⟩, ⟨by rw [← hn]; split at hn <;> omega, ?_, ?_, show D.1 - 1 ≤ 10 by omega, fun q hq => ?_⟩, fun a k h => (w3 a k (by omega)).trans (g3 a k (by omega) (by omega) (by omega) (by omega) (by omega))⟩
    · rw [← hn, hW]; exact (if_neg (by omega)).trans (if_pos ⟨rfl, rfl⟩)
    · rw [hW]
      refine (if_pos ⟨rfl, rfl⟩).trans ?_
      show (D.1 : Int) - 1 = ((D.1 - 1 : Nat) : Int)
      omega
    · have hq : q < D.1 - 1 := hq
      rw [← hn]
      have hs : sl n2 q = sl nw (q + 1) := by unfold sl; split at hn <;> omega
      rw [hs]
      obtain ⟨b1, b2⟩ := d5 (q + 1) (by omega)
      have w4 : ∀ a k, ¬ (1 ≤ a ∧ a ≤ 9) → W a k = w a k := fun a k h => (w3 a k (by omega)).trans (g3 a k (by omega) (by omega) (by omega) (by omega) (by omega))
      exact ⟨TR_frame b1 (fun a k ha => w4 a k (by omega)), fun r hr => (w4 _ r (by omega)).trans (b2 r hr)⟩
  show Z ro 5 mX2_takeBack 0 [(1, ((9 : Nat) : Int)), (1, ((1 : Nat) : Int)), (1, ((6 : Nat) : Int)), (9, 0)] [] w _
  refine Z_push gX2_takeBack_0 (v := (1, ((9 : Nat) : Int))) rfl ?_
  refine Z_callP (kd := 0) (na := 1) (M' := mX2_newestDeed) gX2_takeBack_1 rfl rfl rfl rfl rfl rfl (fun _ => rfl) rfl rfl (fun _ _ => zrecv_obj rfl _ _ _) (d' := 0) (by decide) (vX2_newestDeed d2 d1) ?_
  refine Z_sto gX2_takeBack_4 rfl (ls' := [(1, ((9 : Nat) : Int)), (1, ((1 : Nat) : Int)), (1, ((6 : Nat) : Int)), (1, ((11 + 7 * nw : Nat) : Int))]) (st' := []) rfl ?_
  refine Z_push gX2_takeBack_5 (v := (1, ((11 + 7 * nw : Nat) : Int))) rfl ?_
  refine Z_nul gX2_takeBack_6 (tgt := 54) (by decide) (fun h => absurd h (by omega)) (fun _ => ?_)
  refine Z_push gX2_takeBack_9 (v := (1, ((9 : Nat) : Int))) rfl ?_
  refine Z_get gX2_takeBack_10 rfl rfl (by decide) ?_
  refine Z_if_le gX2_takeBack_13 (tgt := 54) (by decide) (fun h13 => absurd h13 (by omega)) (fun _ => ?_)
  refine Z_push gX2_takeBack_16 (v := (1, ((11 + 7 * nw : Nat) : Int))) rfl ?_
  refine Z_push gX2_takeBack_17 (v := (1, ((1 : Nat) : Int))) rfl ?_
  refine Z_push gX2_takeBack_18 (v := (1, ((6 : Nat) : Int))) rfl ?_
  refine Z_callE (kd := 0) (na := 3) (M' := mX1_takeBack) gX2_takeBack_19 rfl rfl rfl rfl rfl rfl (fun _ => rfl) rfl rfl (fun _ _ => zrecv_obj (by assumption) _ _ _) (d' := 4) (by decide) (vX1_takeBack hE TX_1 a1 (hV 0 hc).1 (by omega) rfl (by omega) a2 (hV 0 hc).2 hRR hRV hB) ?_
  rintro o w2 ⟨rfl, g1, g2, g3⟩
  have y1 : w2 9 1 = (nw : Int) := (g3 9 1 (by omega) (by omega) (by omega) (by omega) (by omega)).trans d2
  have y2 : w2 9 2 = (D.1 : Int) := (g3 9 2 (by omega) (by omega) (by omega) (by omega) (by omega)).trans d3
  have x2 : ∀ v : Int, zup w2 9 1 v 9 2 = w2 9 2 := fun v => if_neg (by omega)
  refine Z_push gX2_takeBack_22 (v := (1, ((9 : Nat) : Int))) rfl ?_
  refine Z_push gX2_takeBack_23 (v := (1, ((9 : Nat) : Int))) rfl ?_
  refine Z_get gX2_takeBack_24 rfl rfl (by decide) ?_
  refine Z_if_le gX2_takeBack_27 (tgt := 39) (by decide) (fun h27 => ?_) (fun h27 => ?_)
  · have y3 := x2 9
    refine Z_push gX2_takeBack_39 (v := (0, 9)) rfl ?_
    refine Z_put gX2_takeBack_41 rfl rfl (by decide) rfl (fun h => by cases h) ?_
    refine Z_push gX2_takeBack_44 (v := (1, ((9 : Nat) : Int))) rfl ?_
    refine Z_arith gX2_takeBack_45 rfl rfl (v := [(1, ((9 : Nat) : Int)), (1, ((9 : Nat) : Int))]) rfl ?_
    refine Z_get gX2_takeBack_46 rfl rfl (by decide) ?_
    refine Z_push gX2_takeBack_49 (v := (0, 1)) rfl ?_
    refine Z_isub gX2_takeBack_50 ⟨by omega, by omega⟩ ?_
    refine Z_put gX2_takeBack_51 rfl rfl (by decide) rfl (fun h => by cases h) ?_
    refine Z_end gX2_takeBack_54 rfl rfl rfl rfl (v := none) rfl ⟨rfl, none, rfl, ?_⟩
    rw [y3, y2]
    exact ⟨rfl, fin 9 _ w2 (by rw [if_neg (by omega)]) g1 g2 g3 rfl⟩
  · have y3 := x2 (w2 9 1 - 1)
    refine Z_push gX2_takeBack_30 (v := (1, ((9 : Nat) : Int))) rfl ?_
    refine Z_get gX2_takeBack_31 rfl rfl (by decide) ?_
    refine Z_push gX2_takeBack_34 (v := (0, 1)) rfl ?_
    refine Z_isub gX2_takeBack_35 ⟨by omega, by omega⟩ ?_
    refine Z_goto gX2_takeBack_36 (tgt := 41) (by decide) ?_
    refine Z_put gX2_takeBack_41 rfl rfl (by decide) rfl (fun h => by cases h) ?_
    refine Z_push gX2_takeBack_44 (v := (1, ((9 : Nat) : Int))) rfl ?_
    refine Z_arith gX2_takeBack_45 rfl rfl (v := [(1, ((9 : Nat) : Int)), (1, ((9 : Nat) : Int))]) rfl ?_
    refine Z_get gX2_takeBack_46 rfl rfl (by decide) ?_
    refine Z_push gX2_takeBack_49 (v := (0, 1)) rfl ?_
    refine Z_isub gX2_takeBack_50 ⟨by omega, by omega⟩ ?_
    refine Z_put gX2_takeBack_51 rfl rfl (by decide) rfl (fun h => by cases h) ?_
    refine Z_end gX2_takeBack_54 rfl rfl rfl rfl (v := none) rfl ⟨rfl, none, rfl, ?_⟩
    rw [y3, y2]
    exact ⟨rfl, fin (nw - 1) _ w2 (by rw [if_pos (by omega)]) g1 g2 g3 (by rw [show ((nw - 1 : Nat) : Int) = w2 9 1 - 1 by omega])⟩
end
