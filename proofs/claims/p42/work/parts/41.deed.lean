/-! a deed is started -/
def frD (e : Nat) (w w' : zW) : Prop := ∀ a k, ¬ (e + 1 ≤ a ∧ a ≤ e + 6) → w' a k = w a k
section
variable {ro : zRo} {w : zW} {T : zTx}
theorem vX1_start {e t : Nat} (hE : DX e) (hT : TX t) (hR : TR w t T) (hV : TV T) (hd : e + 6 < t ∨ t + 4 < e + 1) : Ev ro 4 mX1_start [(1, (e : Int)), (1, (t : Int))] w (fun o w' => o = none ∧ TR w' (e + 1) T ∧ (∀ r, r < 5 → w' (e + 6) r = 0) ∧ frD e w w') := by
  obtain ⟨hL, hp0, hp1, hL6, hT1⟩ := id hE
  have hL1 := hT1.1
  have loop : ∀ k j : Nat, j + k = 5 → ∀ W : zW, TR W (e + 1) T → (∀ r, r < j → W (e + 6) r = 0) → frD e w W → Z ro 4 mX1_start 10 [(1, (e : Int)), (1, (t : Int)), (0, (j : Int))] [] W (fun r w' k => k = 0 ∧ ∃ o, r = .inl o ∧ (o = none ∧ TR w' (e + 1) T ∧ (∀ r, r < 5 → w' (e + 6) r = 0) ∧ frD e w w')) := by
    intro k
    induction k with
    | zero =>
      intro j hj W h1 h2 h3
      refine Z_push gX1_start_10 (v := (0, (j : Int))) rfl ?_
      refine Z_push gX1_start_11 (v := (0, 5)) rfl ?_
      refine Z_icmp_ge gX1_start_12 (tgt := 30) (by decide) (fun _ => ?_) (fun h12 => absurd h12 (by omega))
      refine Z_end gX1_start_30 rfl rfl rfl rfl (v := none) rfl ⟨rfl, none, rfl, ?_⟩
      exact ⟨rfl, h1, fun r hr => h2 r (by omega), h3⟩
    | succ k ih =>
      intro j hj W h1 h2 h3
      refine Z_push gX1_start_10 (v := (0, (j : Int))) rfl ?_
      refine Z_push gX1_start_11 (v := (0, 5)) rfl ?_
      refine Z_icmp_ge gX1_start_12 (tgt := 30) (by decide) (fun h12 => absurd h12 (by omega)) (fun _ => ?_)
      refine Z_push gX1_start_15 (v := (1, ((e : Nat) : Int))) rfl ?_
      refine Z_getR (b := e + 6) gX1_start_16 rfl (by assumption) (by decide) (by assumption) (by omega) ?_
      refine Z_push gX1_start_19 (v := (0, (j : Int))) rfl ?_
      refine Z_push gX1_start_20 (v := (0, 0)) rfl ?_
      refine Z_callW (kd := 2) (na := 3) (M' := mX7_write) gX1_start_21 rfl rfl rfl rfl rfl rfl (fun _ => rfl) rfl rfl (fun _ _ => rfl) (d' := 0) (by decide) (vX7_write (len := 5) (by first | assumption | rfl) _ _) ?_
      refine Z_iinc gX1_start_24 rfl ⟨by omega, by omega⟩ (ls' := [(1, ((e : Nat) : Int)), (1, ((t : Nat) : Int)), (0, (j : Int) + 1)]) rfl ?_
      refine Z_goto gX1_start_27 (tgt := 10) (by decide) ?_
      rw [zwr_in (by omega)]
      refine ih (j + 1) (by omega) _ (TR_frame h1 (fun a k ha => if_neg (by omega))) (fun r hr => ?_) (fun a k ha => (if_neg (by omega)).trans (h3 a k ha))
      show (if e + 6 = e + 6 ∧ r = j then 0 else W (e + 6) r) = 0
      by_cases hrj : r = j
      · rw [if_pos ⟨rfl, hrj⟩]
      · rw [if_neg (fun h => hrj h.2)]; exact h2 r (by omega)
  show Z ro 4 mX1_start 0 [(1, (e : Int)), (1, (t : Int)), (9, 0)] [] w _
  refine Z_push gX1_start_0 (v := (1, ((e : Nat) : Int))) rfl ?_
  refine Z_getR (b := e + 1) gX1_start_1 rfl (by assumption) (by decide) (by assumption) (by omega) ?_
  refine Z_push gX1_start_4 (v := (1, ((t : Nat) : Int))) rfl ?_
  refine Z_callE (kd := 0) (na := 2) (M' := mX6_copyFrom) gX1_start_5 rfl rfl rfl rfl rfl rfl (fun _ => rfl) rfl rfl (fun _ _ => zrecv_obj (by assumption) _ _ _) (d' := 3) (by decide) (vX6_copyFrom hT1 hT hR hV (by omega)) ?_
  rintro o w2 ⟨rfl, g2, g3⟩
  refine Z_push gX1_start_8 (v := (0, 0)) rfl ?_
  refine Z_sto gX1_start_9 rfl (ls' := [(1, ((e : Nat) : Int)), (1, ((t : Nat) : Int)), (0, 0)]) (st' := []) rfl ?_
  exact loop 5 0 rfl w2 g2 (fun r h => absurd h (by omega)) (fun a k ha => g3 a k (by omega) (by omega))
end
