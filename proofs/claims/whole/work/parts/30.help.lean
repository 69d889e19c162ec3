/-! the helpers over rows -/
def rd (w : zW) (a len : Nat) (i : Int) : Int := if 0 ≤ i ∧ i < len then w a i.toNat else 0
section
variable {ro : zRo} {w : zW}
theorem vX7_read {a c len : Nat} (hL : zLY[a]? = some (1, c, len)) (i : Int) : Pv ro 0 mX7_read [(1, (a : Int)), (0, i)] w (0, rd w a len i) := by
  show Z ro 0 mX7_read 0 [(1, (a : Int)), (0, i)] [] w _
  refine Z_push gX7_read_0 (v := (0, i)) rfl ?_
  refine Z_if_lt gX7_read_1 (tgt := 16) (by decide) (fun h1 => ?_) (fun h1 => ?_)
  · refine Z_push gX7_read_16 (v := (0, 0)) rfl ?_
    refine Z_ret (v := (0, 0)) gX7_read_17 rfl rfl rfl rfl rfl _ ?_
    exact ⟨by unfold rd; rw [if_neg (by omega)], rfl⟩
  · refine Z_push gX7_read_4 (v := (0, i)) rfl ?_
    refine Z_push gX7_read_5 (v := (1, ((a : Nat) : Int))) rfl ?_
    refine Z_len (len := len) gX7_read_6 (by assumption) (by decide) ?_
    refine Z_icmp_ge gX7_read_7 (tgt := 16) (by decide) (fun h7 => ?_) (fun h7 => ?_)
    · refine Z_push gX7_read_16 (v := (0, 0)) rfl ?_
      refine Z_ret (v := (0, 0)) gX7_read_17 rfl rfl rfl rfl rfl _ ?_
      exact ⟨by unfold rd; rw [if_neg (by omega)], rfl⟩
    · refine Z_push gX7_read_10 (v := (1, ((a : Nat) : Int))) rfl ?_
      refine Z_push gX7_read_11 (v := (0, i)) rfl ?_
      refine Z_iaload gX7_read_12 (by assumption) (by omega) (by omega) ?_
      refine Z_goto gX7_read_13 (tgt := 17) (by decide) ?_
      refine Z_ret (v := (0, w a (i).toNat)) gX7_read_17 rfl rfl rfl rfl rfl _ ?_
      exact ⟨by unfold rd; rw [if_pos (by omega)], rfl⟩
end
