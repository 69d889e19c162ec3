/-! the class's rules: reward, punish -/
section
variable {ro : zRo} {w : zW} {R : zRu} {B : Int}
theorem zwr_in {a len i : Nat} {v : Int} (h : i < len) : zwr w a len (i : Int) v = zup w a i v := by unfold zwr; rw [if_pos (by omega)]; rfl
theorem vX5_reward (hR : RR w R) (hV : RV B R) (hB : B ≤ 1000000) {r : Nat} (hr : r < 5) : Ev ro 2 mX5_reward [(1, ((6 : Nat) : Int)), (0, (r : Int))] w (fun o w' => o = none ∧ RR w' (rwR R r) ∧ frR w w') := by
  obtain ⟨h1, h2, h3⟩ := id hR
  obtain ⟨v1, v2, v3⟩ := id hV
  have hr1 := v1 r hr
  show Z ro 2 mX5_reward 0 [(1, ((6 : Nat) : Int)), (0, (r : Int))] [] w _
  refine Z_push gX5_reward_0 (v := (1, ((6 : Nat) : Int))) rfl ?_
  refine Z_getR (b := 7) gX5_reward_1 rfl rfl (by decide) rfl (by omega) ?_
  refine Z_push gX5_reward_4 (v := (0, (r : Int))) rfl ?_
  refine Z_push gX5_reward_5 (v := (1, ((6 : Nat) : Int))) rfl ?_
  refine Z_push gX5_reward_6 (v := (0, (r : Int))) rfl ?_
  refine Z_callP (kd := 0) (na := 2) (M' := mX5_weightFor) gX5_reward_7 rfl rfl rfl rfl rfl rfl (fun _ => rfl) rfl rfl (fun _ _ => zrecv_obj rfl _ _ _) (d' := 1) (by decide) (vX5_weightFor hR hr) ?_
  refine Z_push gX5_reward_10 (v := (0, 1)) rfl ?_
  refine Z_iadd gX5_reward_11 ⟨by omega, by omega⟩ ?_
  refine Z_push gX5_reward_12 (v := (0, 99)) rfl ?_
  refine Z_arith gX5_reward_14 rfl rfl (v := [(0, (if (R.1 r) + 1 < 99 then (R.1 r) + 1 else 99)), (0, (r : Int)), (1, ((7 : Nat) : Int))]) rfl ?_
  refine Z_callW (kd := 2) (na := 3) (M' := mX7_write) gX5_reward_17 rfl rfl rfl rfl rfl rfl (fun _ => rfl) rfl rfl (fun _ _ => rfl) (d' := 0) (by decide) (vX7_write (len := 5) (by first | assumption | rfl) _ _) ?_
  rw [zwr_in (by omega)]
  have e : zup w 7 r (if R.1 r + 1 < 99 then R.1 r + 1 else 99) 6 2 = R.2.2 := (if_neg (by omega)).trans h3
  refine Z_push gX5_reward_20 (v := (1, ((6 : Nat) : Int))) rfl ?_
  refine Z_arith gX5_reward_21 rfl rfl (v := [(1, ((6 : Nat) : Int)), (1, ((6 : Nat) : Int))]) rfl ?_
  refine Z_get gX5_reward_22 rfl rfl (by decide) ?_
  refine Z_push gX5_reward_25 (v := (0, 1)) rfl ?_
  refine Z_iadd gX5_reward_26 ⟨by omega, by omega⟩ ?_
  refine Z_put gX5_reward_27 rfl rfl (by decide) rfl (fun h => by cases h) ?_
  refine Z_end gX5_reward_30 rfl rfl rfl rfl (v := none) rfl ⟨rfl, none, rfl, ?_⟩
  refine ⟨rfl, ⟨fun j hj => ?_, fun j hj => ?_, ?_⟩, fun a k ha hb hc => ?_⟩
  · show (if 7 = 6 ∧ j = 2 then _ else if 7 = 7 ∧ j = r then _ else w 7 j) = (if j = r then _ else R.1 j)
    rw [if_neg (by omega)]
    by_cases hj2 : j = r
    · rw [if_pos ⟨rfl, hj2⟩, if_pos hj2]
    · rw [if_neg (fun h => hj2 h.2), if_neg hj2]; exact h1 j hj
  · show (if 8 = 6 ∧ j = 2 then _ else if 8 = 7 ∧ j = r then _ else w 8 j) = R.2.1 j
    rw [if_neg (by omega), if_neg (by omega)]
    exact h2 j hj
  · show (if 6 = 6 ∧ 2 = 2 then _ else _) = R.2.2 + 1
    rw [if_pos ⟨rfl, rfl⟩, e]
  · show (if a = 6 ∧ k = 2 then _ else if a = 7 ∧ k = r then _ else w a k) = w a k
    rw [if_neg hc, if_neg (fun h => ha h.1)]
theorem vX5_punish (hR : RR w R) (hV : RV B R) (hB : B ≤ 1000000) {r : Nat} (hr : r < 5) : Ev ro 2 mX5_punish [(1, ((6 : Nat) : Int)), (0, (r : Int))] w (fun o w' => o = none ∧ RR w' (puR R r) ∧ frR w w') := by
  obtain ⟨h1, h2, h3⟩ := id hR
  obtain ⟨v1, v2, v3⟩ := id hV
  have hr1 := v1 r hr
  have hr2 := v2 r hr
  have hd : 0 ≤ (R.1 r + 3).tdiv 4 ∧ (R.1 r + 3).tdiv 4 ≤ 102 := by
    rw [Int.tdiv_eq_ediv_of_nonneg (by omega)]
    omega
  have hR2 : RR (zup w 7 r (R.1 r - (R.1 r + 3).tdiv 4)) (updN R.1 r (R.1 r - (R.1 r + 3).tdiv 4), R.2.1, R.2.2) := by
    refine ⟨fun j hj => ?_, fun j hj => ?_, ?_⟩
    · show (if 7 = 7 ∧ j = r then _ else w 7 j) = (if j = r then _ else R.1 j)
      by_cases hj2 : j = r
      · rw [if_pos ⟨rfl, hj2⟩, if_pos hj2]
      · rw [if_neg (fun h => hj2 h.2), if_neg hj2]; exact h1 j hj
    · exact (if_neg (by omega)).trans (h2 j hj)
    · exact (if_neg (by omega)).trans h3
  show Z ro 2 mX5_punish 0 [(1, ((6 : Nat) : Int)), (0, (r : Int)), (9, 0)] [] w _
  refine Z_push gX5_punish_0 (v := (1, ((6 : Nat) : Int))) rfl ?_
  refine Z_push gX5_punish_1 (v := (0, (r : Int))) rfl ?_
  refine Z_callP (kd := 0) (na := 2) (M' := mX5_weightFor) gX5_punish_2 rfl rfl rfl rfl rfl rfl (fun _ => rfl) rfl rfl (fun _ _ => zrecv_obj rfl _ _ _) (d' := 1) (by decide) (vX5_weightFor hR hr) ?_
  refine Z_push gX5_punish_5 (v := (0, 3)) rfl ?_
  refine Z_iadd gX5_punish_6 ⟨by omega, by omega⟩ ?_
  refine Z_push gX5_punish_7 (v := (0, 4)) rfl ?_
  refine Z_idiv gX5_punish_8 (by omega) ?_
  refine Z_sto gX5_punish_9 rfl (ls' := [(1, ((6 : Nat) : Int)), (0, (r : Int)), (0, ((R.1 r) + 3).tdiv 4)]) (st' := []) rfl ?_
  refine Z_push gX5_punish_10 (v := (1, ((6 : Nat) : Int))) rfl ?_
  refine Z_getR (b := 7) gX5_punish_11 rfl rfl (by decide) rfl (by omega) ?_
  refine Z_push gX5_punish_14 (v := (0, (r : Int))) rfl ?_
  refine Z_push gX5_punish_15 (v := (1, ((6 : Nat) : Int))) rfl ?_
  refine Z_push gX5_punish_16 (v := (0, (r : Int))) rfl ?_
  refine Z_callP (kd := 0) (na := 2) (M' := mX5_weightFor) gX5_punish_17 rfl rfl rfl rfl rfl rfl (fun _ => rfl) rfl rfl (fun _ _ => zrecv_obj rfl _ _ _) (d' := 1) (by decide) (vX5_weightFor hR hr) ?_
  refine Z_push gX5_punish_20 (v := (0, ((R.1 r) + 3).tdiv 4)) rfl ?_
  refine Z_isub gX5_punish_21 ⟨by omega, by omega⟩ ?_
  refine Z_callW (kd := 2) (na := 3) (M' := mX7_write) gX5_punish_22 rfl rfl rfl rfl rfl rfl (fun _ => rfl) rfl rfl (fun _ _ => rfl) (d' := 0) (by decide) (vX7_write (len := 5) (by first | assumption | rfl) _ _) ?_
  rw [zwr_in (by omega)]
  refine Z_push gX5_punish_25 (v := (1, ((6 : Nat) : Int))) rfl ?_
  refine Z_getR (b := 8) gX5_punish_26 rfl rfl (by decide) rfl (by omega) ?_
  refine Z_push gX5_punish_29 (v := (0, (r : Int))) rfl ?_
  refine Z_push gX5_punish_30 (v := (1, ((6 : Nat) : Int))) rfl ?_
  refine Z_push gX5_punish_31 (v := (0, (r : Int))) rfl ?_
  refine Z_callP (kd := 0) (na := 2) (M' := mX5_undoneFor) gX5_punish_32 rfl rfl rfl rfl rfl rfl (fun _ => rfl) rfl rfl (fun _ _ => zrecv_obj rfl _ _ _) (d' := 1) (by decide) (show Pv ro 1 mX5_undoneFor _ _ (0, R.2.1 r) from vX5_undoneFor hR2 hr) ?_
  refine Z_push gX5_punish_35 (v := (0, 1)) rfl ?_
  refine Z_iadd gX5_punish_36 ⟨by omega, by omega⟩ ?_
  refine Z_callW (kd := 2) (na := 3) (M' := mX7_write) gX5_punish_37 rfl rfl rfl rfl rfl rfl (fun _ => rfl) rfl rfl (fun _ _ => rfl) (d' := 0) (by decide) (vX7_write (len := 5) (by first | assumption | rfl) _ _) ?_
  refine Z_end gX5_punish_40 rfl rfl rfl rfl (v := none) rfl ⟨rfl, none, rfl, ?_⟩
  rw [zwr_in (by omega)]
  refine ⟨rfl, ⟨fun j hj => ?_, fun j hj => ?_, ?_⟩, fun a k ha hb hc => ?_⟩
  · exact (if_neg (by omega)).trans (hR2.1 j hj)
  · show (if 8 = 8 ∧ j = r then _ else _) = (if j = r then _ else R.2.1 j)
    by_cases hj2 : j = r
    · rw [if_pos ⟨rfl, hj2⟩, if_pos hj2]
    · rw [if_neg (fun h => hj2 h.2), if_neg hj2]; exact hR2.2.1 j hj
  · exact (if_neg (by omega)).trans hR2.2.2
  · exact (if_neg (fun h => hb h.1)).trans (if_neg (fun h => ha h.1))
end
