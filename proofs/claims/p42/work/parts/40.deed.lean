/-! the class's deeds -/
/-- a deed in cell e: its text in e + 1, its fixes in row e + 6 -/
abbrev DX (e : Nat) : Prop := zLY[e]? = some (0, 1, 2) ∧ zptr e 0 = e + 1 ∧ zptr e 1 = e + 6 ∧ zLY[e + 6]? = some (1, 0, 5) ∧ TX (e + 1)
theorem DX_d : ∀ i : Nat, i < 10 → DX (11 + 7 * i) := by
  have h : (List.range 10).all (fun i => decide (DX (11 + 7 * i))) = true := by decide +kernel
  exact fun i hi => of_decide_eq_true (List.all_eq_true.mp h i (List.mem_range.mpr hi))
theorem ring_at : ∀ i : Nat, i < 10 → zptr 10 i = 11 + 7 * i := by
  have h : (List.range 10).all (fun i => decide (zptr 10 i = 11 + 7 * i)) = true := by decide +kernel
  exact fun i hi => of_decide_eq_true (List.all_eq_true.mp h i (List.mem_range.mpr hi))
section
variable {ro : zRo} {w : zW}
theorem vX2_count : Pv ro 0 mX2_count [(1, ((9 : Nat) : Int))] w (0, w 9 2) := by
  show Z ro 0 mX2_count 0 [(1, ((9 : Nat) : Int))] [] w _
  refine Z_push gX2_count_0 (v := (1, ((9 : Nat) : Int))) rfl ?_
  refine Z_get gX2_count_1 rfl rfl (by decide) ?_
  refine Z_ret (v := (0, w 9 2)) gX2_count_4 rfl rfl rfl rfl rfl _ ?_
  exact ⟨rfl, rfl⟩
theorem vX2_forget : Pw ro 0 mX2_forget [(1, ((9 : Nat) : Int))] w (zup w 9 2 0) := by
  show Z ro 0 mX2_forget 0 [(1, ((9 : Nat) : Int))] [] w _
  refine Z_push gX2_forget_0 (v := (1, ((9 : Nat) : Int))) rfl ?_
  refine Z_push gX2_forget_1 (v := (0, 0)) rfl ?_
  refine Z_put gX2_forget_2 rfl rfl (by decide) rfl (fun h => by cases h) ?_
  refine Z_end gX2_forget_5 rfl rfl rfl rfl (v := none) rfl ⟨rfl, none, rfl, ?_⟩
  exact ⟨rfl, rfl⟩
theorem vX2_newestDeed {s : Nat} (h : w 9 1 = (s : Int)) (hs : s < 10) : Pv ro 0 mX2_newestDeed [(1, ((9 : Nat) : Int))] w (1, ((11 + 7 * s : Nat) : Int)) := by
  have hr := ring_at s hs
  show Z ro 0 mX2_newestDeed 0 [(1, ((9 : Nat) : Int))] [] w _
  refine Z_push gX2_newestDeed_0 (v := (1, ((9 : Nat) : Int))) rfl ?_
  refine Z_get gX2_newestDeed_1 rfl rfl (by decide) ?_
  refine Z_if_lt gX2_newestDeed_4 (tgt := 31) (by decide) (fun h4 => absurd h4 (by omega)) (fun _ => ?_)
  refine Z_push gX2_newestDeed_7 (v := (1, ((9 : Nat) : Int))) rfl ?_
  refine Z_get gX2_newestDeed_8 rfl rfl (by decide) ?_
  refine Z_push gX2_newestDeed_11 (v := (1, ((9 : Nat) : Int))) rfl ?_
  refine Z_getR (b := 10) gX2_newestDeed_12 rfl rfl (by decide) rfl (by omega) ?_
  refine Z_len (len := 10) gX2_newestDeed_15 rfl (by decide) ?_
  refine Z_icmp_ge gX2_newestDeed_16 (tgt := 31) (by decide) (fun h16 => absurd h16 (by omega)) (fun _ => ?_)
  refine Z_push gX2_newestDeed_19 (v := (1, ((9 : Nat) : Int))) rfl ?_
  refine Z_getR (b := 10) gX2_newestDeed_20 rfl rfl (by decide) rfl (by omega) ?_
  refine Z_push gX2_newestDeed_23 (v := (1, ((9 : Nat) : Int))) rfl ?_
  refine Z_get gX2_newestDeed_24 rfl rfl (by decide) ?_
  refine Z_aaloadR (b := 11 + 7 * s) gX2_newestDeed_27 rfl (by omega) (by omega) (by rw [show (w 9 1).toNat = s by omega]; exact hr) (by omega) ?_
  refine Z_goto gX2_newestDeed_28 (tgt := 32) (by decide) ?_
  refine Z_ret (v := (1, ((11 + 7 * s : Nat) : Int))) gX2_newestDeed_32 rfl rfl rfl rfl rfl _ ?_
  exact ⟨rfl, rfl⟩
theorem vX1_noteFix {e r : Nat} (hE : DX e) (hr : r < 5) (h0 : 0 ≤ w (e + 6) r ∧ w (e + 6) r ≤ 1000) : Pw ro 1 mX1_noteFix [(1, (e : Int)), (0, (r : Int))] w (zup w (e + 6) r (w (e + 6) r + 1)) := by
  obtain ⟨hL, hp0, hp1, hL6, hT⟩ := hE
  have e1 : rd w (e + 6) 5 (r : Int) = w (e + 6) r := by unfold rd; rw [if_pos (by omega)]; rfl
  show Z ro 1 mX1_noteFix 0 [(1, (e : Int)), (0, (r : Int))] [] w _
  refine Z_push gX1_noteFix_0 (v := (1, ((e : Nat) : Int))) rfl ?_
  refine Z_getR (b := e + 6) gX1_noteFix_1 rfl (by assumption) (by decide) (by assumption) (by omega) ?_
  refine Z_push gX1_noteFix_4 (v := (0, (r : Int))) rfl ?_
  refine Z_push gX1_noteFix_5 (v := (1, ((e : Nat) : Int))) rfl ?_
  refine Z_getR (b := e + 6) gX1_noteFix_6 rfl (by assumption) (by decide) (by assumption) (by omega) ?_
  refine Z_push gX1_noteFix_9 (v := (0, (r : Int))) rfl ?_
  refine Z_callP (kd := 2) (na := 2) (M' := mX7_read) gX1_noteFix_10 rfl rfl rfl rfl rfl rfl (fun _ => rfl) rfl rfl (fun _ _ => rfl) (d' := 0) (by decide) (vX7_read (len := 5) (by first | assumption | rfl) _) ?_
  refine Z_push gX1_noteFix_13 (v := (0, 1)) rfl ?_
  refine Z_iadd gX1_noteFix_14 ⟨by omega, by omega⟩ ?_
  refine Z_callW (kd := 2) (na := 3) (M' := mX7_write) gX1_noteFix_15 rfl rfl rfl rfl rfl rfl (fun _ => rfl) rfl rfl (fun _ _ => rfl) (d' := 0) (by decide) (vX7_write (len := 5) (by first | assumption | rfl) _ _) ?_
  refine Z_end gX1_noteFix_18 rfl rfl rfl rfl (v := none) rfl ⟨rfl, none, rfl, ?_⟩
  exact ⟨rfl, by rw [e1, zwr_in (by omega)]⟩
end
