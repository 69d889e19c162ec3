/-! the helpers over rows -/
def rd (w : zW) (a len : Nat) (i : Int) : Int := if 0 ≤ i ∧ i < len then w a i.toNat else 0
def rdf (w : zW) (a len : Nat) (i : Int) : Int := if (0 ≤ i ∧ i < len) ∧ w a i.toNat ≠ 0 then 1 else 0
def zwr (w : zW) (a len : Nat) (i v : Int) : zW := if 0 ≤ i ∧ i < len then zup w a i.toNat v else w
def costl (lw lim isl : Int) : Int := if lw > lim then (lw - lim) * 100 else if isl ≠ 0 then 0 else (lim - lw) * (lim - lw)
section
variable {ro : zRo} {w : zW}
theorem vX7_read {a c len : Nat} (hL : zLY[a]? = some (1, c, len)) (i : Int) : Pv ro 0 mX7_read [(1, (a : Int)), (0, i)] w (0, rd w a len i) := by
  show Z ro 0 mX7_read 0 [(1, (a : Int)), (0, i)] [] w _
  refine Z_push gX7_read_0 (v := (0, i)) rfl ?_
  refine Z_if_lt gX7_read_1 (tgt := 16) (by decide) (fun h1 => ?_) (fun h1 => ?_)
  · refine Z_push gX7_read_16 (v := (0, 0)) rfl ?_
    refine Z_ret (v := (0, 0)) gX7_read_17 rfl rfl rfl rfl rfl _ ?_
    exact ⟨by unfold rd; rw [if_neg (by omega)], rfl⟩
  · refine Z_push gX7_read_4 (v := (0, i)) rfl ?_
    refine Z_push gX7_read_5 (v := (1, ((a : Nat) : Int))) rfl ?_
    refine Z_len (len := len) gX7_read_6 (by assumption) (by decide) ?_
    refine Z_icmp_ge gX7_read_7 (tgt := 16) (by decide) (fun h7 => ?_) (fun h7 => ?_)
    · refine Z_push gX7_read_16 (v := (0, 0)) rfl ?_
      refine Z_ret (v := (0, 0)) gX7_read_17 rfl rfl rfl rfl rfl _ ?_
      exact ⟨by unfold rd; rw [if_neg (by omega)], rfl⟩
    · refine Z_push gX7_read_10 (v := (1, ((a : Nat) : Int))) rfl ?_
      refine Z_push gX7_read_11 (v := (0, i)) rfl ?_
      refine Z_iaload gX7_read_12 (by assumption) (by omega) (by omega) ?_
      refine Z_goto gX7_read_13 (tgt := 17) (by decide) ?_
      refine Z_ret (v := (0, w a (i).toNat)) gX7_read_17 rfl rfl rfl rfl rfl _ ?_
      exact ⟨by unfold rd; rw [if_pos (by omega)], rfl⟩
theorem vX7_write {a c len : Nat} (hL : zLY[a]? = some (1, c, len)) (i v : Int) : Pw ro 0 mX7_write [(1, (a : Int)), (0, i), (0, v)] w (zwr w a len i v) := by
  show Z ro 0 mX7_write 0 [(1, (a : Int)), (0, i), (0, v)] [] w _
  refine Z_push gX7_write_0 (v := (0, i)) rfl ?_
  refine Z_if_lt gX7_write_1 (tgt := 14) (by decide) (fun h1 => ?_) (fun h1 => ?_)
  · refine Z_end gX7_write_14 rfl rfl rfl rfl (v := none) rfl ⟨rfl, none, rfl, ?_⟩
    exact ⟨rfl, by unfold zwr; rw [if_neg (by omega)]⟩
  · refine Z_push gX7_write_4 (v := (0, i)) rfl ?_
    refine Z_push gX7_write_5 (v := (1, ((a : Nat) : Int))) rfl ?_
    refine Z_len (len := len) gX7_write_6 (by assumption) (by decide) ?_
    refine Z_icmp_ge gX7_write_7 (tgt := 14) (by decide) (fun h7 => ?_) (fun h7 => ?_)
    · refine Z_end gX7_write_14 rfl rfl rfl rfl (v := none) rfl ⟨rfl, none, rfl, ?_⟩
      exact ⟨rfl, by unfold zwr; rw [if_neg (by omega)]⟩
    · refine Z_push gX7_write_10 (v := (1, ((a : Nat) : Int))) rfl ?_
      refine Z_push gX7_write_11 (v := (0, i)) rfl ?_
      refine Z_push gX7_write_12 (v := (0, v)) rfl ?_
      refine Z_iastore gX7_write_13 (by assumption) (by omega) (by omega) ?_
      refine Z_end gX7_write_14 rfl rfl rfl rfl (v := none) rfl ⟨rfl, none, rfl, ?_⟩
      exact ⟨rfl, by unfold zwr; rw [if_pos (by omega)]⟩
theorem vX7_readFlag {a c len : Nat} (hL : zLY[a]? = some (3, c, len)) (i : Int) : Pv ro 0 mX7_readFlag [(1, (a : Int)), (0, i)] w (0, rdf w a len i) := by
  show Z ro 0 mX7_readFlag 0 [(1, (a : Int)), (0, i)] [] w _
  refine Z_push gX7_readFlag_0 (v := (0, i)) rfl ?_
  refine Z_if_lt gX7_readFlag_1 (tgt := 20) (by decide) (fun h1 => ?_) (fun h1 => ?_)
  · refine Z_push gX7_readFlag_20 (v := (0, 0)) rfl ?_
    refine Z_retB gX7_readFlag_21 rfl (by first | exact Or.inl rfl | exact Or.inr rfl | assumption | omega) _ ?_
    exact ⟨by unfold rdf; rw [if_neg (by omega)], rfl⟩
  · refine Z_push gX7_readFlag_4 (v := (0, i)) rfl ?_
    refine Z_push gX7_readFlag_5 (v := (1, ((a : Nat) : Int))) rfl ?_
    refine Z_len (len := len) gX7_readFlag_6 (by assumption) (by decide) ?_
    refine Z_icmp_ge gX7_readFlag_7 (tgt := 20) (by decide) (fun h7 => ?_) (fun h7 => ?_)
    · refine Z_push gX7_readFlag_20 (v := (0, 0)) rfl ?_
      refine Z_retB gX7_readFlag_21 rfl (by first | exact Or.inl rfl | exact Or.inr rfl | assumption | omega) _ ?_
      exact ⟨by unfold rdf; rw [if_neg (by omega)], rfl⟩
    · refine Z_push gX7_readFlag_10 (v := (1, ((a : Nat) : Int))) rfl ?_
      refine Z_push gX7_readFlag_11 (v := (0, i)) rfl ?_
      refine Z_baload gX7_readFlag_12 (by assumption) (by omega) (by omega) ?_
      refine Z_if_eq gX7_readFlag_13 (tgt := 20) (by decide) (fun h13 => ?_) (fun h13 => ?_)
      · refine Z_push gX7_readFlag_20 (v := (0, 0)) rfl ?_
        refine Z_retB gX7_readFlag_21 rfl (by first | exact Or.inl rfl | exact Or.inr rfl | assumption | omega) _ ?_
        exact ⟨by unfold rdf; rw [if_neg (fun h => h.2 h13)], rfl⟩
      · refine Z_push gX7_readFlag_16 (v := (0, 1)) rfl ?_
        refine Z_goto gX7_readFlag_17 (tgt := 21) (by decide) ?_
        refine Z_retB gX7_readFlag_21 rfl (by first | exact Or.inl rfl | exact Or.inr rfl | assumption | omega) _ ?_
        exact ⟨by unfold rdf; rw [if_pos ⟨by omega, h13⟩], rfl⟩
theorem vX7_writeFlag {a c len : Nat} (hL : zLY[a]? = some (3, c, len)) (i v : Int) (hv : v = 0 ∨ v = 1) : Pw ro 0 mX7_writeFlag [(1, (a : Int)), (0, i), (0, v)] w (zwr w a len i v) := by
  show Z ro 0 mX7_writeFlag 0 [(1, (a : Int)), (0, i), (0, v)] [] w _
  refine Z_push gX7_writeFlag_0 (v := (0, i)) rfl ?_
  refine Z_if_lt gX7_writeFlag_1 (tgt := 14) (by decide) (fun h1 => ?_) (fun h1 => ?_)
  · refine Z_end gX7_writeFlag_14 rfl rfl rfl rfl (v := none) rfl ⟨rfl, none, rfl, ?_⟩
    exact ⟨rfl, by unfold zwr; rw [if_neg (by omega)]⟩
  · refine Z_push gX7_writeFlag_4 (v := (0, i)) rfl ?_
    refine Z_push gX7_writeFlag_5 (v := (1, ((a : Nat) : Int))) rfl ?_
    refine Z_len (len := len) gX7_writeFlag_6 (by assumption) (by decide) ?_
    refine Z_icmp_ge gX7_writeFlag_7 (tgt := 14) (by decide) (fun h7 => ?_) (fun h7 => ?_)
    · refine Z_end gX7_writeFlag_14 rfl rfl rfl rfl (v := none) rfl ⟨rfl, none, rfl, ?_⟩
      exact ⟨rfl, by unfold zwr; rw [if_neg (by omega)]⟩
    · refine Z_push gX7_writeFlag_10 (v := (1, ((a : Nat) : Int))) rfl ?_
      refine Z_push gX7_writeFlag_11 (v := (0, i)) rfl ?_
      refine Z_push gX7_writeFlag_12 (v := (0, v)) rfl ?_
      refine Z_bastore gX7_writeFlag_13 (by assumption) (by omega) (by omega) (by omega) ?_
      refine Z_end gX7_writeFlag_14 rfl rfl rfl rfl (v := none) rfl ⟨rfl, none, rfl, ?_⟩
      exact ⟨rfl, by unfold zwr; rw [if_pos (by omega)]⟩
theorem sq_small {x : Int} (h0 : 0 ≤ x) (h1 : x ≤ 1000) : 0 ≤ x * x ∧ x * x ≤ 1000000 := by
  have := Int.mul_le_mul h1 h1 h0 (by omega)
  exact ⟨Int.mul_nonneg h0 h0, by omega⟩
theorem vX7_costOfLine (lw lim isl : Int) (h1 : -1000 ≤ lw ∧ lw ≤ 1000) (h2 : 0 ≤ lim ∧ lim ≤ 60) (h3 : -1 ≤ lw) : Pv ro 0 mX7_costOfLine [(0, lw), (0, lim), (0, isl)] w (0, costl lw lim isl) := by
  show Z ro 0 mX7_costOfLine 0 [(0, lw), (0, lim), (0, isl)] [] w _
  have hz : (lim - lw) ≤ 61 := by omega
  refine Z_push gX7_costOfLine_0 (v := (0, lw)) rfl ?_
  refine Z_push gX7_costOfLine_1 (v := (0, lim)) rfl ?_
  refine Z_icmp_le gX7_costOfLine_2 (tgt := 12) (by decide) (fun h2 => ?_) (fun h2 => ?_)
  · refine Z_push gX7_costOfLine_12 (v := (0, isl)) rfl ?_
    refine Z_if_eq gX7_costOfLine_13 (tgt := 20) (by decide) (fun h13 => ?_) (fun h13 => ?_)
    · have hs := sq_small (x := lim - lw) (by omega) (by omega)
      refine Z_push gX7_costOfLine_20 (v := (0, lim)) rfl ?_
      refine Z_push gX7_costOfLine_21 (v := (0, lw)) rfl ?_
      refine Z_isub gX7_costOfLine_22 ⟨by omega, by omega⟩ ?_
      refine Z_push gX7_costOfLine_23 (v := (0, lim)) rfl ?_
      refine Z_push gX7_costOfLine_24 (v := (0, lw)) rfl ?_
      refine Z_isub gX7_costOfLine_25 ⟨by omega, by omega⟩ ?_
      refine Z_imul gX7_costOfLine_26 ⟨by omega, by omega⟩ ?_
      refine Z_ret (v := (0, (lim - lw) * (lim - lw))) gX7_costOfLine_27 rfl rfl rfl rfl rfl _ ?_
      exact ⟨by unfold costl; rw [if_neg (by omega), if_neg (by omega)], rfl⟩
    · refine Z_push gX7_costOfLine_16 (v := (0, 0)) rfl ?_
      refine Z_goto gX7_costOfLine_17 (tgt := 27) (by decide) ?_
      refine Z_ret (v := (0, 0)) gX7_costOfLine_27 rfl rfl rfl rfl rfl _ ?_
      exact ⟨by unfold costl; rw [if_neg (by omega), if_pos (by omega)], rfl⟩
  · refine Z_push gX7_costOfLine_5 (v := (0, lw)) rfl ?_
    refine Z_push gX7_costOfLine_6 (v := (0, lim)) rfl ?_
    refine Z_isub gX7_costOfLine_7 ⟨by omega, by omega⟩ ?_
    refine Z_push gX7_costOfLine_8 (v := (0, 100)) rfl ?_
    refine Z_imul gX7_costOfLine_10 ⟨by omega, by omega⟩ ?_
    refine Z_ret (v := (0, (lw - lim) * 100)) gX7_costOfLine_11 rfl rfl rfl rfl rfl _ ?_
    exact ⟨by unfold costl; rw [if_pos (by omega)], rfl⟩
end
