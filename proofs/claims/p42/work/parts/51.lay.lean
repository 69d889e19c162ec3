/-! the class's layouts -/
abbrev LX (c : Nat) : Prop := zLY[c]? = some (0, 4, 4) ∧ zLY[c + 1]? = some (1, 0, 31) ∧ zLY[c + 2]? = some (1, 0, 31) ∧ zLY[c + 3]? = some (1, 0, 31) ∧ zptr c 0 = c + 1 ∧ zptr c 1 = c + 2 ∧ zptr c 2 = c + 3 ∧ zptr c 3 = 0 ∧ 81 < c
theorem LX_89 : LX 89 := by decide +kernel
theorem LX_93 : LX 93 := by decide +kernel
/-- the layout in cell c shows the lines of T -/
def LR (w : zW) (c : Nat) (T : zTx) (lim : Int) : Prop := w c 3 = (lcE T lim : Int) ∧ ∀ i, i ≤ lcE T lim → w (c + 3) i = (stE T lim i : Int)
def frL (c : Nat) (w w' : zW) : Prop := ∀ a k, ¬ (c + 1 ≤ a ∧ a ≤ c + 3) → ¬ (a = c ∧ k = 3) → w' a k = w a k
theorem frL.refl (c : Nat) (w : zW) : frL c w w := fun _ _ _ _ => rfl
theorem frL.trans {c : Nat} {x y z : zW} (h : frL c x y) (k : frL c y z) : frL c x z := fun a b h1 h2 => (k a b h1 h2).trans (h a b h1 h2)
section
variable {ro : zRo} {w : zW} {T : zTx} {lim : Int} {c : Nat}
theorem TR_frL {W : zW} (h : TR w 1 T) (hc : LX c) (f : frL c w W) : TR W 1 T := TR_frame h (fun a k ha => f a k (by have := hc.2.2.2.2.2.2.2.2; omega) (by have := hc.2.2.2.2.2.2.2.2; omega))
theorem vX4_lines {n : Int} (hc : LX c) (h : w c 3 = n) : Pv ro 0 mX4_lines [(1, (c : Int))] w (0, n) := by
  have hL0 := hc.1
  show Z ro 0 mX4_lines 0 [(1, (c : Int))] [] w _
  refine Z_push gX4_lines_0 (v := (1, ((c : Nat) : Int))) rfl ?_
  refine Z_getV (v := n) gX4_lines_1 rfl (by assumption) (by decide) h ?_
  refine Z_ret (v := (0, n)) gX4_lines_4 rfl rfl rfl rfl rfl _ ?_
  exact ⟨rfl, rfl⟩
theorem vX4_least {v : Int} (hc : LX c) (h : w (c + 1) 0 = v) : Pv ro 1 mX4_least [(1, (c : Int))] w (0, v) := by
  obtain ⟨hL0, hL1, hL2, hL3, hp0, hp1, hp2, hp3, -⟩ := hc
  show Z ro 1 mX4_least 0 [(1, (c : Int))] [] w _
  refine Z_push gX4_least_0 (v := (1, ((c : Nat) : Int))) rfl ?_
  refine Z_getR (b := c + 1) gX4_least_1 rfl (by assumption) (by decide) (by assumption) (by omega) ?_
  refine Z_push gX4_least_4 (v := (0, 0)) rfl ?_
  refine Z_callP (kd := 2) (na := 2) (M' := mX7_read) gX4_least_5 rfl rfl rfl rfl rfl rfl (fun _ => rfl) rfl rfl (fun _ _ => rfl) (d' := 0) (by omega) (vX7_readN (len := 31) (i := 0) (by assumption) (by omega) h) ?_
  refine Z_ret (v := (0, v)) gX4_least_8 rfl rfl rfl rfl rfl _ ?_
  exact ⟨rfl, rfl⟩
theorem vX4_chooseLineFrom (hc : LX c) (hR : TR w 1 T) (hV : TV T) (h2 : 13 ≤ lim ∧ lim ≤ 60) {k : Nat} (hk : k < T.1) (hS : ∀ q, k < q → q ≤ T.1 → w (c + 1) q = lE T lim q) : Pw ro 3 mX4_chooseLineFrom [(1, (c : Int)), (1, ((1 : Nat) : Int)), (0, lim), (0, (k : Int))] w (zup (zup w (c + 1) k (lE T lim k)) (c + 2) k (nxE T lim k : Int)) := by
  obtain ⟨hL0, hL1, hL2, hL3, hp0, hp1, hp2, hp3, hc81⟩ := hc
  have hT := TX_1
  have hV1 := hV.1
  have loop : ∀ m j : Nat, k + j + m = T.1 → ∀ v1 v2 : zV, Z ro 3 mX4_chooseLineFrom 16 [(1, (c : Int)), (1, ((1 : Nat) : Int)), (0, lim), (0, (k : Int)), (0, (mnE T lim k (lE T lim) j).1), (0, ((mnE T lim k (lE T lim) j).2 : Int)), (0, lwS T k j), (0, ((k + j : Nat) : Int)), v1, v2] [] w (fun r9 w' k9 => k9 = 0 ∧ ∃ o, r9 = .inl o ∧ (o = none ∧ w' = zup (zup w (c + 1) k (lE T lim k)) (c + 2) k (nxE T lim k : Int))) := by
    intro m
    induction m with
    | zero =>
      intro j hj v1 v2
      obtain ⟨x1, x2⟩ := v1
      obtain ⟨y1, y2⟩ := v2
      have e : j = T.1 - k := by omega
      refine Z_push gX4_chooseLineFrom_16 (v := (0, ((k + j : Nat) : Int))) rfl ?_
      refine Z_push gX4_chooseLineFrom_18 (v := (1, ((1 : Nat) : Int))) rfl ?_
      refine Z_callP (kd := 0) (na := 1) (M' := mX6_size) gX4_chooseLineFrom_19 rfl rfl rfl rfl rfl rfl (fun _ => rfl) rfl rfl (fun _ _ => zrecv_obj rfl _ _ _) (d' := 0) (by omega) (vX6_size (by assumption) (by assumption)) ?_
      refine Z_icmp_ge gX4_chooseLineFrom_22 (tgt := 110) (by decide) (fun _ => ?_) (fun h22 => absurd h22 (by omega))
      refine Z_push gX4_chooseLineFrom_110 (v := (1, ((c : Nat) : Int))) rfl ?_
      refine Z_getR (b := c + 1) gX4_chooseLineFrom_111 rfl (by assumption) (by decide) (by assumption) (by omega) ?_
      refine Z_push gX4_chooseLineFrom_114 (v := (0, (k : Int))) rfl ?_
      refine Z_push gX4_chooseLineFrom_115 (v := (0, (mnE T lim k (lE T lim) j).1)) rfl ?_
      refine Z_callW (kd := 2) (na := 3) (M' := mX7_write) gX4_chooseLineFrom_117 rfl rfl rfl rfl rfl rfl (fun _ => rfl) rfl rfl (fun _ _ => rfl) (d' := 0) (by omega) (vX7_writeN (len := 31) (by assumption) (by omega) _) ?_
      refine Z_push gX4_chooseLineFrom_120 (v := (1, ((c : Nat) : Int))) rfl ?_
      refine Z_getR (b := c + 2) gX4_chooseLineFrom_121 rfl (by assumption) (by decide) (by assumption) (by omega) ?_
      refine Z_push gX4_chooseLineFrom_124 (v := (0, (k : Int))) rfl ?_
      refine Z_push gX4_chooseLineFrom_125 (v := (0, ((mnE T lim k (lE T lim) j).2 : Int))) rfl ?_
      refine Z_callW (kd := 2) (na := 3) (M' := mX7_write) gX4_chooseLineFrom_127 rfl rfl rfl rfl rfl rfl (fun _ => rfl) rfl rfl (fun _ _ => rfl) (d' := 0) (by omega) (vX7_writeN (len := 31) (by assumption) (by omega) _) ?_
      refine Z_end gX4_chooseLineFrom_130 rfl rfl rfl rfl (v := none) rfl ⟨rfl, none, rfl, ?_⟩
      refine ⟨rfl, ?_⟩
      rw [lE_s hk, e]
      rfl
    | succ m ih =>
      intro j hj v1 v2
      obtain ⟨x1, x2⟩ := v1
      obtain ⟨y1, y2⟩ := v2
      have hn := ih (j + 1) (by omega)
      rw [show ((k + (j + 1) : Nat) : Int) = ((k + j : Nat) : Int) + 1 from rfl, show lwS T k (j + 1) = lwS T k j + (1 + wT T ((k + j : Nat) : Int)) from rfl] at hn
      have b1 := lwS_bd hV k j
      have b2 := wT_bd hV ((k + j : Nat) : Int)
      have b3 := cst_bd hV h2 (k := k) (m := j) (by omega)
      have b4 := lE_bd' hV h2 (k + j + 1)
      have b5 := cbT_01 T ((k + j : Nat) : Int)
      have em : mnE T lim k (lE T lim) (j + 1) = if cbT T ((k + j : Nat) : Int) ≠ 0 ∧ cstT T lim k j + lE T lim (k + j + 1) ≤ (mnE T lim k (lE T lim) j).1 then (cstT T lim k j + lE T lim (k + j + 1), k + j + 1) else mnE T lim k (lE T lim) j := rfl
      have cont : ∀ (x : Int) (v2 : zV), x = islT T (k + j) → Z ro 3 mX4_chooseLineFrom 56 [(1, (c : Int)), (1, ((1 : Nat) : Int)), (0, lim), (0, (k : Int)), (0, (mnE T lim k (lE T lim) j).1), (0, ((mnE T lim k (lE T lim) j).2 : Int)), (0, lwS T k j + (1 + wT T ((k + j : Nat) : Int))), (0, ((k + j : Nat) : Int)), (0, x), v2] [] w (fun r9 w' k9 => k9 = 0 ∧ ∃ o, r9 = .inl o ∧ (o = none ∧ w' = zup (zup w (c + 1) k (lE T lim k)) (c + 2) k (nxE T lim k : Int))) := by
        intro x v2 hx
        obtain ⟨y1, y2⟩ := v2
        subst hx
        have h3 : Pv ro 0 mX7_costOfLine [(0, lwS T k j + (1 + wT T ((k + j : Nat) : Int))), (0, lim), (0, islT T (k + j))] w (0, cstT T lim k j) := vX7_costOfLine _ _ _ (by omega) (by omega) (by omega)
        refine Z_push gX4_chooseLineFrom_56 (v := (0, lwS T k j + (1 + wT T ((k + j : Nat) : Int)))) rfl ?_
        refine Z_push gX4_chooseLineFrom_58 (v := (0, lim)) rfl ?_
        refine Z_push gX4_chooseLineFrom_59 (v := (0, islT T (k + j))) rfl ?_
        refine Z_callP (kd := 2) (na := 3) (M' := mX7_costOfLine) gX4_chooseLineFrom_61 rfl rfl rfl rfl rfl rfl (fun _ => rfl) rfl rfl (fun _ _ => rfl) (d' := 0) (by omega) (h3) ?_
        refine Z_push gX4_chooseLineFrom_64 (v := (1, ((c : Nat) : Int))) rfl ?_
        refine Z_getR (b := c + 1) gX4_chooseLineFrom_65 rfl (by assumption) (by decide) (by assumption) (by omega) ?_
        refine Z_push gX4_chooseLineFrom_68 (v := (0, ((k + j : Nat) : Int))) rfl ?_
        refine Z_push gX4_chooseLineFrom_70 (v := (0, 1)) rfl ?_
        refine Z_iadd gX4_chooseLineFrom_71 ⟨by omega, by omega⟩ ?_
        refine Z_callP (kd := 2) (na := 2) (M' := mX7_read) gX4_chooseLineFrom_72 rfl rfl rfl rfl rfl rfl (fun _ => rfl) rfl rfl (fun _ _ => rfl) (d' := 0) (by omega) (vX7_readN (len := 31) (i := k + j + 1) (by assumption) (by omega) (hS _ (by omega) (by omega))) ?_
        refine Z_iadd gX4_chooseLineFrom_75 ⟨by omega, by omega⟩ ?_
        refine Z_sto gX4_chooseLineFrom_76 rfl (ls' := [(1, ((c : Nat) : Int)), (1, ((1 : Nat) : Int)), (0, lim), (0, (k : Int)), (0, (mnE T lim k (lE T lim) j).1), (0, ((mnE T lim k (lE T lim) j).2 : Int)), (0, lwS T k j + (1 + wT T ((k + j : Nat) : Int))), (0, ((k + j : Nat) : Int)), (0, islT T (k + j)), (0, (cstT T lim k j) + (lE T lim (k + j + 1)))]) (st' := []) rfl ?_
        refine Z_push gX4_chooseLineFrom_78 (v := (1, ((1 : Nat) : Int))) rfl ?_
        refine Z_push gX4_chooseLineFrom_79 (v := (0, ((k + j : Nat) : Int))) rfl ?_
        refine Z_callP (kd := 0) (na := 2) (M' := mX6_canBreakBehind) gX4_chooseLineFrom_81 rfl rfl rfl rfl rfl rfl (fun _ => rfl) rfl rfl (fun _ _ => zrecv_obj rfl _ _ _) (d' := 2) (by omega) (vX6_canBreakBehind (T := T) (by assumption) (by assumption) (by assumption) (by omega)) ?_
        refine Z_if_eq gX4_chooseLineFrom_84 (tgt := 104) (by decide) (fun h84 => ?_) (fun h84 => ?_)
        · rw [if_neg (fun h => h.1 (by omega))] at em
          rw [em] at hn
          refine Z_iinc gX4_chooseLineFrom_104 rfl ⟨by omega, by omega⟩ (ls' := [(1, ((c : Nat) : Int)), (1, ((1 : Nat) : Int)), (0, lim), (0, (k : Int)), (0, (mnE T lim k (lE T lim) j).1), (0, ((mnE T lim k (lE T lim) j).2 : Int)), (0, lwS T k j + (1 + wT T ((k + j : Nat) : Int))), (0, ((k + j : Nat) : Int) + 1), (0, islT T (k + j)), (0, (cstT T lim k j) + (lE T lim (k + j + 1)))]) rfl ?_
          refine Z_goto gX4_chooseLineFrom_107 (tgt := 16) (by decide) ?_
          exact hn _ _
        · refine Z_push gX4_chooseLineFrom_87 (v := (0, (cstT T lim k j) + (lE T lim (k + j + 1)))) rfl ?_
          refine Z_push gX4_chooseLineFrom_89 (v := (0, (mnE T lim k (lE T lim) j).1)) rfl ?_
          refine Z_icmp_gt gX4_chooseLineFrom_91 (tgt := 104) (by decide) (fun h91 => ?_) (fun h91 => ?_)
          · rw [if_neg (fun h => by omega)] at em
            rw [em] at hn
            refine Z_iinc gX4_chooseLineFrom_104 rfl ⟨by omega, by omega⟩ (ls' := [(1, ((c : Nat) : Int)), (1, ((1 : Nat) : Int)), (0, lim), (0, (k : Int)), (0, (mnE T lim k (lE T lim) j).1), (0, ((mnE T lim k (lE T lim) j).2 : Int)), (0, lwS T k j + (1 + wT T ((k + j : Nat) : Int))), (0, ((k + j : Nat) : Int) + 1), (0, islT T (k + j)), (0, (cstT T lim k j) + (lE T lim (k + j + 1)))]) rfl ?_
            refine Z_goto gX4_chooseLineFrom_107 (tgt := 16) (by decide) ?_
            exact hn _ _
          · rw [if_pos ⟨by omega, by omega⟩] at em
            rw [em] at hn
            refine Z_push gX4_chooseLineFrom_94 (v := (0, (cstT T lim k j) + (lE T lim (k + j + 1)))) rfl ?_
            refine Z_sto gX4_chooseLineFrom_96 rfl (ls' := [(1, ((c : Nat) : Int)), (1, ((1 : Nat) : Int)), (0, lim), (0, (k : Int)), (0, (cstT T lim k j) + (lE T lim (k + j + 1))), (0, ((mnE T lim k (lE T lim) j).2 : Int)), (0, lwS T k j + (1 + wT T ((k + j : Nat) : Int))), (0, ((k + j : Nat) : Int)), (0, islT T (k + j)), (0, (cstT T lim k j) + (lE T lim (k + j + 1)))]) (st' := []) rfl ?_
            refine Z_push gX4_chooseLineFrom_98 (v := (0, ((k + j : Nat) : Int))) rfl ?_
            refine Z_push gX4_chooseLineFrom_100 (v := (0, 1)) rfl ?_
            refine Z_iadd gX4_chooseLineFrom_101 ⟨by omega, by omega⟩ ?_
            refine Z_sto gX4_chooseLineFrom_102 rfl (ls' := [(1, ((c : Nat) : Int)), (1, ((1 : Nat) : Int)), (0, lim), (0, (k : Int)), (0, (cstT T lim k j) + (lE T lim (k + j + 1))), (0, ((k + j : Nat) : Int) + 1), (0, lwS T k j + (1 + wT T ((k + j : Nat) : Int))), (0, ((k + j : Nat) : Int)), (0, islT T (k + j)), (0, (cstT T lim k j) + (lE T lim (k + j + 1)))]) (st' := []) rfl ?_
            refine Z_iinc gX4_chooseLineFrom_104 rfl ⟨by omega, by omega⟩ (ls' := [(1, ((c : Nat) : Int)), (1, ((1 : Nat) : Int)), (0, lim), (0, (k : Int)), (0, (cstT T lim k j) + (lE T lim (k + j + 1))), (0, ((k + j : Nat) : Int) + 1), (0, lwS T k j + (1 + wT T ((k + j : Nat) : Int))), (0, ((k + j : Nat) : Int) + 1), (0, islT T (k + j)), (0, (cstT T lim k j) + (lE T lim (k + j + 1)))]) rfl ?_
            refine Z_goto gX4_chooseLineFrom_107 (tgt := 16) (by decide) ?_
            exact hn _ _
      refine Z_push gX4_chooseLineFrom_16 (v := (0, ((k + j : Nat) : Int))) rfl ?_
      refine Z_push gX4_chooseLineFrom_18 (v := (1, ((1 : Nat) : Int))) rfl ?_
      refine Z_callP (kd := 0) (na := 1) (M' := mX6_size) gX4_chooseLineFrom_19 rfl rfl rfl rfl rfl rfl (fun _ => rfl) rfl rfl (fun _ _ => zrecv_obj rfl _ _ _) (d' := 0) (by omega) (vX6_size (by assumption) (by assumption)) ?_
      refine Z_icmp_ge gX4_chooseLineFrom_22 (tgt := 110) (by decide) (fun h22 => absurd h22 (by omega)) (fun _ => ?_)
      refine Z_push gX4_chooseLineFrom_25 (v := (0, lwS T k j)) rfl ?_
      refine Z_push gX4_chooseLineFrom_27 (v := (0, 1)) rfl ?_
      refine Z_push gX4_chooseLineFrom_28 (v := (1, ((1 : Nat) : Int))) rfl ?_
      refine Z_push gX4_chooseLineFrom_29 (v := (0, ((k + j : Nat) : Int))) rfl ?_
      refine Z_callP (kd := 0) (na := 2) (M' := mX6_widthAt) gX4_chooseLineFrom_31 rfl rfl rfl rfl rfl rfl (fun _ => rfl) rfl rfl (fun _ _ => zrecv_obj rfl _ _ _) (d' := 2) (by omega) (vX6_widthAt (T := T) (by assumption) (by assumption) (by assumption) _) ?_
      refine Z_iadd gX4_chooseLineFrom_34 ⟨by omega, by omega⟩ ?_
      refine Z_iadd gX4_chooseLineFrom_35 ⟨by omega, by omega⟩ ?_
      refine Z_sto gX4_chooseLineFrom_36 rfl (ls' := [(1, ((c : Nat) : Int)), (1, ((1 : Nat) : Int)), (0, lim), (0, (k : Int)), (0, (mnE T lim k (lE T lim) j).1), (0, ((mnE T lim k (lE T lim) j).2 : Int)), (0, (lwS T k j) + (1 + (wT T ((k + j : Nat) : Int)))), (0, ((k + j : Nat) : Int)), (x1, x2), (y1, y2)]) (st' := []) rfl ?_
      refine Z_push gX4_chooseLineFrom_38 (v := (0, ((k + j : Nat) : Int))) rfl ?_
      refine Z_push gX4_chooseLineFrom_40 (v := (1, ((1 : Nat) : Int))) rfl ?_
      refine Z_callP (kd := 0) (na := 1) (M' := mX6_size) gX4_chooseLineFrom_41 rfl rfl rfl rfl rfl rfl (fun _ => rfl) rfl rfl (fun _ _ => zrecv_obj rfl _ _ _) (d' := 0) (by omega) (vX6_size (by assumption) (by assumption)) ?_
      refine Z_push gX4_chooseLineFrom_44 (v := (0, 1)) rfl ?_
      refine Z_isub gX4_chooseLineFrom_45 ⟨by omega, by omega⟩ ?_
      refine Z_icmp_ne gX4_chooseLineFrom_46 (tgt := 53) (by decide) (fun h46 => ?_) (fun h46 => ?_)
      · refine Z_push gX4_chooseLineFrom_53 (v := (0, 0)) rfl ?_
        refine Z_sto gX4_chooseLineFrom_54 rfl (ls' := [(1, ((c : Nat) : Int)), (1, ((1 : Nat) : Int)), (0, lim), (0, (k : Int)), (0, (mnE T lim k (lE T lim) j).1), (0, ((mnE T lim k (lE T lim) j).2 : Int)), (0, (lwS T k j) + (1 + (wT T ((k + j : Nat) : Int)))), (0, ((k + j : Nat) : Int)), (0, 0), (y1, y2)]) (st' := []) rfl ?_
        exact cont 0 _ (by unfold islT; rw [if_neg (by omega)])
      · refine Z_push gX4_chooseLineFrom_49 (v := (0, 1)) rfl ?_
        refine Z_goto gX4_chooseLineFrom_50 (tgt := 54) (by decide) ?_
        refine Z_sto gX4_chooseLineFrom_54 rfl (ls' := [(1, ((c : Nat) : Int)), (1, ((1 : Nat) : Int)), (0, lim), (0, (k : Int)), (0, (mnE T lim k (lE T lim) j).1), (0, ((mnE T lim k (lE T lim) j).2 : Int)), (0, (lwS T k j) + (1 + (wT T ((k + j : Nat) : Int)))), (0, ((k + j : Nat) : Int)), (0, 1), (y1, y2)]) (st' := []) rfl ?_
        exact cont 1 _ (by unfold islT; rw [if_pos (by omega)])
  show Z ro 3 mX4_chooseLineFrom 0 [(1, (c : Int)), (1, ((1 : Nat) : Int)), (0, lim), (0, (k : Int)), (9, 0), (9, 0), (9, 0), (9, 0), (9, 0), (9, 0)] [] w _
  refine Z_push gX4_chooseLineFrom_0 (v := (0, 1000000000)) rfl ?_
  refine Z_sto gX4_chooseLineFrom_2 rfl (ls' := [(1, ((c : Nat) : Int)), (1, ((1 : Nat) : Int)), (0, lim), (0, (k : Int)), (0, 1000000000), (9, 0), (9, 0), (9, 0), (9, 0), (9, 0)]) (st' := []) rfl ?_
  refine Z_push gX4_chooseLineFrom_4 (v := (1, ((1 : Nat) : Int))) rfl ?_
  refine Z_callP (kd := 0) (na := 1) (M' := mX6_size) gX4_chooseLineFrom_5 rfl rfl rfl rfl rfl rfl (fun _ => rfl) rfl rfl (fun _ _ => zrecv_obj rfl _ _ _) (d' := 0) (by omega) (vX6_size (by assumption) (by assumption)) ?_
  refine Z_sto gX4_chooseLineFrom_8 rfl (ls' := [(1, ((c : Nat) : Int)), (1, ((1 : Nat) : Int)), (0, lim), (0, (k : Int)), (0, 1000000000), (0, (T.1 : Int)), (9, 0), (9, 0), (9, 0), (9, 0)]) (st' := []) rfl ?_
  refine Z_push gX4_chooseLineFrom_10 (v := (0, -1)) rfl ?_
  refine Z_sto gX4_chooseLineFrom_11 rfl (ls' := [(1, ((c : Nat) : Int)), (1, ((1 : Nat) : Int)), (0, lim), (0, (k : Int)), (0, 1000000000), (0, (T.1 : Int)), (0, -1), (9, 0), (9, 0), (9, 0)]) (st' := []) rfl ?_
  refine Z_push gX4_chooseLineFrom_13 (v := (0, (k : Int))) rfl ?_
  refine Z_sto gX4_chooseLineFrom_14 rfl (ls' := [(1, ((c : Nat) : Int)), (1, ((1 : Nat) : Int)), (0, lim), (0, (k : Int)), (0, 1000000000), (0, (T.1 : Int)), (0, -1), (0, (k : Int)), (9, 0), (9, 0)]) (st' := []) rfl ?_
  exact loop (T.1 - k) 0 (by omega) _ _
theorem vX4_divide (hc : LX c) (hR : TR w 1 T) (hV : TV T) (h2 : 13 ≤ lim ∧ lim ≤ 60) : Ev ro 4 mX4_divide [(1, (c : Int)), (1, ((1 : Nat) : Int)), (0, lim)] w (fun o w' => o = none ∧ LR w' c T lim ∧ w' (c + 1) 0 = lE T lim 0 ∧ frL c w w') := by
  obtain ⟨hL0, hL1, hL2, hL3, hp0, hp1, hp2, hp3, hc81⟩ := id hc
  have hT := TX_1
  have hV1 := hV.1
  have hlc := lc_le T lim
  have lines : ∀ m i : Nat, i + m = lcE T lim → ∀ W : zW, (∀ q, q < T.1 → W (c + 2) q = (nxE T lim q : Int)) → W (c + 1) 0 = lE T lim 0 → (∀ q, q < i → W (c + 3) q = (stE T lim q : Int)) → W c 3 = (i : Int) → frL c w W → Z ro 4 mX4_divide 46 [(1, (c : Int)), (1, ((1 : Nat) : Int)), (0, lim), (0, (stE T lim i : Int)), (0, (i : Int))] [] W (fun r9 w' k9 => k9 = 0 ∧ ∃ o, r9 = .inl o ∧ (o = none ∧ LR w' c T lim ∧ w' (c + 1) 0 = lE T lim 0 ∧ frL c w w')) := by
    intro m
    induction m with
    | zero =>
      intro i hi W h3 h4 h5 h6 hf
      obtain rfl : i = lcE T lim := by omega
      have hst := st_lc hV h2
      have hRW := TR_frL hR hc hf
      have fin : Z ro 4 mX4_divide 98 [(1, (c : Int)), (1, ((1 : Nat) : Int)), (0, lim), (0, (stE T lim (lcE T lim) : Int)), (0, (lcE T lim : Int))] [] W (fun r9 w' k9 => k9 = 0 ∧ ∃ o, r9 = .inl o ∧ (o = none ∧ LR w' c T lim ∧ w' (c + 1) 0 = lE T lim 0 ∧ frL c w w')) := by
        refine Z_push gX4_divide_98 (v := (1, ((c : Nat) : Int))) rfl ?_
        refine Z_getR (b := c + 3) gX4_divide_99 rfl (by assumption) (by decide) (by assumption) (by omega) ?_
        refine Z_push gX4_divide_102 (v := (1, ((c : Nat) : Int))) rfl ?_
        refine Z_getV (v := (lcE T lim : Int)) gX4_divide_103 rfl (by assumption) (by decide) h6 ?_
        refine Z_push gX4_divide_106 (v := (1, ((1 : Nat) : Int))) rfl ?_
        refine Z_callP (kd := 0) (na := 1) (M' := mX6_size) gX4_divide_107 rfl rfl rfl rfl rfl rfl (fun _ => rfl) rfl rfl (fun _ _ => zrecv_obj rfl _ _ _) (d' := 0) (by omega) (vX6_size (by assumption) (by assumption)) ?_
        refine Z_callW (kd := 2) (na := 3) (M' := mX7_write) gX4_divide_110 rfl rfl rfl rfl rfl rfl (fun _ => rfl) rfl rfl (fun _ _ => rfl) (d' := 0) (by omega) (vX7_writeN (len := 31) (by assumption) (by omega) _) ?_
        refine Z_end gX4_divide_113 rfl rfl rfl rfl (v := none) rfl ⟨rfl, none, rfl, ?_⟩
        refine ⟨rfl, ⟨(zup_ne (by omega)).trans h6, fun q hq => ?_⟩, (zup_ne (by omega)).trans h4, hf.trans (fun a k a1 a2 => zup_ne (by omega))⟩
        by_cases e : q = lcE T lim
        · subst e; rw [zup_eq, hst]
        · rw [zup_ne (fun h => e h.2)]; exact h5 q (by omega)
      refine Z_push gX4_divide_46 (v := (0, (lcE T lim : Int))) rfl ?_
      refine Z_push gX4_divide_48 (v := (0, 30)) rfl ?_
      refine Z_icmp_ge gX4_divide_50 (tgt := 98) (by decide) (fun h50 => ?_) (fun h50 => ?_)
      · exact fin
      · refine Z_push gX4_divide_53 (v := (0, (stE T lim (lcE T lim) : Int))) rfl ?_
        refine Z_push gX4_divide_54 (v := (1, ((1 : Nat) : Int))) rfl ?_
        refine Z_callP (kd := 0) (na := 1) (M' := mX6_size) gX4_divide_55 rfl rfl rfl rfl rfl rfl (fun _ => rfl) rfl rfl (fun _ _ => zrecv_obj rfl _ _ _) (d' := 0) (by omega) (vX6_size (by assumption) (by assumption)) ?_
        refine Z_icmp_ge gX4_divide_58 (tgt := 98) (by decide) (fun _ => ?_) (fun h58 => absurd h58 (by omega))
        exact fin
    | succ m ih =>
      intro i hi W h3 h4 h5 h6 hf
      have hRW := TR_frL hR hc hf
      have hst := (lc_iff hV h2 i).mpr (by omega)
      have f1 : ∀ v, zup W (c + 3) i v c 3 = (i : Int) := fun v => (zup_ne (by omega)).trans h6
      refine Z_push gX4_divide_46 (v := (0, (i : Int))) rfl ?_
      refine Z_push gX4_divide_48 (v := (0, 30)) rfl ?_
      refine Z_icmp_ge gX4_divide_50 (tgt := 98) (by decide) (fun h50 => absurd h50 (by omega)) (fun _ => ?_)
      refine Z_push gX4_divide_53 (v := (0, (stE T lim i : Int))) rfl ?_
      refine Z_push gX4_divide_54 (v := (1, ((1 : Nat) : Int))) rfl ?_
      refine Z_callP (kd := 0) (na := 1) (M' := mX6_size) gX4_divide_55 rfl rfl rfl rfl rfl rfl (fun _ => rfl) rfl rfl (fun _ _ => zrecv_obj rfl _ _ _) (d' := 0) (by omega) (vX6_size (by assumption) (by assumption)) ?_
      refine Z_icmp_ge gX4_divide_58 (tgt := 98) (by decide) (fun h58 => absurd h58 (by omega)) (fun _ => ?_)
      refine Z_push gX4_divide_61 (v := (1, ((c : Nat) : Int))) rfl ?_
      refine Z_getR (b := c + 3) gX4_divide_62 rfl (by assumption) (by decide) (by assumption) (by omega) ?_
      refine Z_push gX4_divide_65 (v := (1, ((c : Nat) : Int))) rfl ?_
      refine Z_getV (v := (i : Int)) gX4_divide_66 rfl (by assumption) (by decide) h6 ?_
      refine Z_push gX4_divide_69 (v := (0, (stE T lim i : Int))) rfl ?_
      refine Z_callW (kd := 2) (na := 3) (M' := mX7_write) gX4_divide_70 rfl rfl rfl rfl rfl rfl (fun _ => rfl) rfl rfl (fun _ _ => rfl) (d' := 0) (by omega) (vX7_writeN (len := 31) (by assumption) (by omega) _) ?_
      refine Z_push gX4_divide_73 (v := (1, ((c : Nat) : Int))) rfl ?_
      refine Z_arith gX4_divide_74 rfl rfl (v := [(1, ((c : Nat) : Int)), (1, ((c : Nat) : Int))]) rfl ?_
      refine Z_getV (v := (i : Int)) gX4_divide_75 rfl (by assumption) (by decide) (f1 _) ?_
      refine Z_push gX4_divide_78 (v := (0, 1)) rfl ?_
      refine Z_iadd gX4_divide_79 ⟨by omega, by omega⟩ ?_
      refine Z_put gX4_divide_80 rfl (by assumption) (by decide) (by assumption) (fun h => by cases h) ?_
      refine Z_push gX4_divide_83 (v := (1, ((c : Nat) : Int))) rfl ?_
      refine Z_getR (b := c + 2) gX4_divide_84 rfl (by assumption) (by decide) (by assumption) (by omega) ?_
      refine Z_push gX4_divide_87 (v := (0, (stE T lim i : Int))) rfl ?_
      refine Z_callP (kd := 2) (na := 2) (M' := mX7_read) gX4_divide_88 rfl rfl rfl rfl rfl rfl (fun _ => rfl) rfl rfl (fun _ _ => rfl) (d' := 0) (by omega) (vX7_readN (len := 31) (by assumption) (by omega) ((zup_ne (by omega)).trans ((zup_ne (by omega)).trans (h3 _ hst)))) ?_
      refine Z_sto gX4_divide_91 rfl (ls' := [(1, ((c : Nat) : Int)), (1, ((1 : Nat) : Int)), (0, lim), (0, (nxE T lim (stE T lim i) : Int)), (0, (i : Int))]) (st' := []) rfl ?_
      refine Z_iinc gX4_divide_92 rfl ⟨by omega, by omega⟩ (ls' := [(1, ((c : Nat) : Int)), (1, ((1 : Nat) : Int)), (0, lim), (0, (nxE T lim (stE T lim i) : Int)), (0, (i : Int) + 1)]) rfl ?_
      refine Z_goto gX4_divide_95 (tgt := 46) (by decide) ?_
      rw [← st_s hst]
      refine ih (i + 1) (by omega) _ (fun q hq => (zup_ne (by omega)).trans ((zup_ne (by omega)).trans (h3 q hq))) ((zup_ne (by omega)).trans ((zup_ne (by omega)).trans h4)) (fun q hq => ?_) (zup_eq _ _ _ _) (hf.trans (fun a k a1 a2 => (zup_ne a2).trans (zup_ne (by omega))))
      rw [zup_ne (by omega)]
      by_cases e : q = i
      · subst e; rw [zup_eq]
      · rw [zup_ne (fun h => e h.2)]; exact h5 q (by omega)
  have back : ∀ i : Nat, i ≤ T.1 → ∀ W : zW, (∀ q, i ≤ q → q ≤ T.1 → W (c + 1) q = lE T lim q) → (∀ q, i ≤ q → q < T.1 → W (c + 2) q = (nxE T lim q : Int)) → frL c w W → Z ro 4 mX4_divide 19 [(1, (c : Int)), (1, ((1 : Nat) : Int)), (0, lim), (0, (i : Int) - 1), (9, 0)] [] W (fun r9 w' k9 => k9 = 0 ∧ ∃ o, r9 = .inl o ∧ (o = none ∧ LR w' c T lim ∧ w' (c + 1) 0 = lE T lim 0 ∧ frL c w w')) := by
    intro i
    induction i with
    | zero =>
      intro hi W h3 h4 hf
      refine Z_push gX4_divide_19 (v := (0, ((0 : Nat) : Int) - 1)) rfl ?_
      refine Z_if_lt gX4_divide_20 (tgt := 36) (by decide) (fun _ => ?_) (fun h20 => absurd h20 (by omega))
      refine Z_push gX4_divide_36 (v := (1, ((c : Nat) : Int))) rfl ?_
      refine Z_push gX4_divide_37 (v := (0, 0)) rfl ?_
      refine Z_put gX4_divide_38 rfl (by assumption) (by decide) (by assumption) (fun h => by cases h) ?_
      refine Z_push gX4_divide_41 (v := (0, 0)) rfl ?_
      refine Z_sto gX4_divide_42 rfl (ls' := [(1, ((c : Nat) : Int)), (1, ((1 : Nat) : Int)), (0, lim), (0, 0), (9, 0)]) (st' := []) rfl ?_
      refine Z_push gX4_divide_43 (v := (0, 0)) rfl ?_
      refine Z_sto gX4_divide_44 rfl (ls' := [(1, ((c : Nat) : Int)), (1, ((1 : Nat) : Int)), (0, lim), (0, 0), (0, 0)]) (st' := []) rfl ?_
      exact lines (lcE T lim) 0 (by omega) _ (fun q hq => (zup_ne (by omega)).trans (h4 q (by omega) hq)) ((zup_ne (by omega)).trans (h3 0 (by omega) (by omega))) (fun q h => absurd h (by omega)) (zup_eq _ _ _ _) (hf.trans (fun a k a1 a2 => zup_ne a2))
    | succ i ih =>
      intro hi W h3 h4 hf
      have hRW := TR_frL hR hc hf
      rw [show ((i + 1 : Nat) : Int) - 1 = (i : Int) by omega]
      refine Z_push gX4_divide_19 (v := (0, (i : Int))) rfl ?_
      refine Z_if_lt gX4_divide_20 (tgt := 36) (by decide) (fun h20 => absurd h20 (by omega)) (fun _ => ?_)
      refine Z_push gX4_divide_23 (v := (1, ((c : Nat) : Int))) rfl ?_
      refine Z_push gX4_divide_24 (v := (1, ((1 : Nat) : Int))) rfl ?_
      refine Z_push gX4_divide_25 (v := (0, lim)) rfl ?_
      refine Z_push gX4_divide_26 (v := (0, (i : Int))) rfl ?_
      refine Z_callW (kd := 0) (na := 4) (M' := mX4_chooseLineFrom) gX4_divide_27 rfl rfl rfl rfl rfl rfl (fun _ => rfl) rfl rfl (fun _ _ => zrecv_obj (by assumption) _ _ _) (d' := 3) (by omega) (vX4_chooseLineFrom hc hRW hV h2 (k := i) (by omega) (fun q q1 q2 => h3 q (by omega) q2)) ?_
      refine Z_iinc gX4_divide_30 rfl ⟨by omega, by omega⟩ (ls' := [(1, ((c : Nat) : Int)), (1, ((1 : Nat) : Int)), (0, lim), (0, (i : Int) + (-1)), (9, 0)]) rfl ?_
      refine Z_goto gX4_divide_33 (tgt := 19) (by decide) ?_
      rw [show (i : Int) + (-1) = (i : Int) - 1 by omega]
      refine ih (by omega) _ (fun q q1 q2 => ?_) (fun q q1 q2 => ?_) (hf.trans (fun a k a1 a2 => (zup_ne (by omega)).trans (zup_ne (by omega))))
      · rw [zup_ne (by omega)]
        by_cases e : q = i
        · subst e; rw [zup_eq]
        · rw [zup_ne (fun h => e h.2)]; exact h3 q (by omega) q2
      · by_cases e : q = i
        · subst e; rw [zup_eq]
        · rw [zup_ne (fun h => e h.2), zup_ne (by omega)]; exact h4 q (by omega) q2
  show Z ro 4 mX4_divide 0 [(1, (c : Int)), (1, ((1 : Nat) : Int)), (0, lim), (9, 0), (9, 0)] [] w _
  have f0 : frL c w (zup w (c + 1) T.1 0) := fun a k a1 a2 => zup_ne (by omega)
  have hR0 := TR_frL hR hc f0
  refine Z_push gX4_divide_0 (v := (1, ((c : Nat) : Int))) rfl ?_
  refine Z_getR (b := c + 1) gX4_divide_1 rfl (by assumption) (by decide) (by assumption) (by omega) ?_
  refine Z_push gX4_divide_4 (v := (1, ((1 : Nat) : Int))) rfl ?_
  refine Z_callP (kd := 0) (na := 1) (M' := mX6_size) gX4_divide_5 rfl rfl rfl rfl rfl rfl (fun _ => rfl) rfl rfl (fun _ _ => zrecv_obj rfl _ _ _) (d' := 0) (by omega) (vX6_size (by assumption) (by assumption)) ?_
  refine Z_push gX4_divide_8 (v := (0, 0)) rfl ?_
  refine Z_callW (kd := 2) (na := 3) (M' := mX7_write) gX4_divide_9 rfl rfl rfl rfl rfl rfl (fun _ => rfl) rfl rfl (fun _ _ => rfl) (d' := 0) (by omega) (vX7_writeN (len := 31) (by assumption) (by omega) _) ?_
  refine Z_push gX4_divide_12 (v := (1, ((1 : Nat) : Int))) rfl ?_
  refine Z_callP (kd := 0) (na := 1) (M' := mX6_size) gX4_divide_13 rfl rfl rfl rfl rfl rfl (fun _ => rfl) rfl rfl (fun _ _ => zrecv_obj rfl _ _ _) (d' := 0) (by omega) (vX6_size (by assumption) (by assumption)) ?_
  refine Z_push gX4_divide_16 (v := (0, 1)) rfl ?_
  refine Z_isub gX4_divide_17 ⟨by omega, by omega⟩ ?_
  refine Z_sto gX4_divide_18 rfl (ls' := [(1, ((c : Nat) : Int)), (1, ((1 : Nat) : Int)), (0, lim), (0, (T.1 : Int) - 1), (9, 0)]) (st' := []) rfl ?_
  refine back T.1 (Nat.le_refl _) _ (fun q q1 q2 => ?_) (fun q q1 q2 => absurd q1 (by omega)) f0
  rw [show q = T.1 by omega, zup_eq, lE_end (Nat.le_refl _)]
theorem vX4_lineHolding (hc : LX c) (hLR : LR w c T lim) (hV : TV T) (h2 : 13 ≤ lim ∧ lim ≤ 60) {k : Nat} (hk : k < T.1) : Pv ro 1 mX4_lineHolding [(1, (c : Int)), (0, (k : Int))] w (0, (lnE T lim k : Int)) := by
  obtain ⟨hL0, hL1, hL2, hL3, hp0, hp1, hp2, hp3, hc81⟩ := id hc
  obtain ⟨s1, s2, s3⟩ := ln_spec hV h2 hk
  have hlc := lc_le T lim
  have hV1 := hV.1
  have loop : ∀ m i : Nat, i + m = lnE T lim k → Z ro 1 mX4_lineHolding 2 [(1, (c : Int)), (0, (k : Int)), (0, (i : Int))] [] w (fun r9 w' k9 => k9 = 0 ∧ ∃ o, r9 = .inl o ∧ (o = some (0, (lnE T lim k : Int)) ∧ w' = w)) := by
    intro m
    induction m with
    | zero =>
      intro i hi
      obtain rfl : i = lnE T lim k := by omega
      refine Z_push gX4_lineHolding_2 (v := (0, (lnE T lim k : Int))) rfl ?_
      refine Z_push gX4_lineHolding_3 (v := (0, 1)) rfl ?_
      refine Z_iadd gX4_lineHolding_4 ⟨by omega, by omega⟩ ?_
      refine Z_push gX4_lineHolding_5 (v := (1, ((c : Nat) : Int))) rfl ?_
      refine Z_getV (v := (lcE T lim : Int)) gX4_lineHolding_6 rfl (by assumption) (by decide) hLR.1 ?_
      refine Z_icmp_ge gX4_lineHolding_9 (tgt := 32) (by decide) (fun h9 => ?_) (fun h9 => ?_)
      · refine Z_push gX4_lineHolding_32 (v := (0, (lnE T lim k : Int))) rfl ?_
        refine Z_ret (v := (0, (lnE T lim k : Int))) gX4_lineHolding_33 rfl rfl rfl rfl rfl _ ?_
        exact ⟨rfl, rfl⟩
      · refine Z_push gX4_lineHolding_12 (v := (1, ((c : Nat) : Int))) rfl ?_
        refine Z_getR (b := c + 3) gX4_lineHolding_13 rfl (by assumption) (by decide) (by assumption) (by omega) ?_
        refine Z_push gX4_lineHolding_16 (v := (0, (lnE T lim k : Int))) rfl ?_
        refine Z_push gX4_lineHolding_17 (v := (0, 1)) rfl ?_
        refine Z_iadd gX4_lineHolding_18 ⟨by omega, by omega⟩ ?_
        refine Z_callP (kd := 2) (na := 2) (M' := mX7_read) gX4_lineHolding_19 rfl rfl rfl rfl rfl rfl (fun _ => rfl) rfl rfl (fun _ _ => rfl) (d' := 0) (by omega) (vX7_readN (len := 31) (i := lnE T lim k + 1) (by assumption) (by omega) (hLR.2 _ (by omega))) ?_
        refine Z_push gX4_lineHolding_22 (v := (0, (k : Int))) rfl ?_
        refine Z_icmp_gt gX4_lineHolding_23 (tgt := 32) (by decide) (fun _ => ?_) (fun h23 => absurd h23 (by omega))
        refine Z_push gX4_lineHolding_32 (v := (0, (lnE T lim k : Int))) rfl ?_
        refine Z_ret (v := (0, (lnE T lim k : Int))) gX4_lineHolding_33 rfl rfl rfl rfl rfl _ ?_
        exact ⟨rfl, rfl⟩
    | succ m ih =>
      intro i hi
      have a := (ln_iff hV h2 hk i).mpr (by omega)
      refine Z_push gX4_lineHolding_2 (v := (0, (i : Int))) rfl ?_
      refine Z_push gX4_lineHolding_3 (v := (0, 1)) rfl ?_
      refine Z_iadd gX4_lineHolding_4 ⟨by omega, by omega⟩ ?_
      refine Z_push gX4_lineHolding_5 (v := (1, ((c : Nat) : Int))) rfl ?_
      refine Z_getV (v := (lcE T lim : Int)) gX4_lineHolding_6 rfl (by assumption) (by decide) hLR.1 ?_
      refine Z_icmp_ge gX4_lineHolding_9 (tgt := 32) (by decide) (fun h9 => absurd h9 (by omega)) (fun _ => ?_)
      refine Z_push gX4_lineHolding_12 (v := (1, ((c : Nat) : Int))) rfl ?_
      refine Z_getR (b := c + 3) gX4_lineHolding_13 rfl (by assumption) (by decide) (by assumption) (by omega) ?_
      refine Z_push gX4_lineHolding_16 (v := (0, (i : Int))) rfl ?_
      refine Z_push gX4_lineHolding_17 (v := (0, 1)) rfl ?_
      refine Z_iadd gX4_lineHolding_18 ⟨by omega, by omega⟩ ?_
      refine Z_callP (kd := 2) (na := 2) (M' := mX7_read) gX4_lineHolding_19 rfl rfl rfl rfl rfl rfl (fun _ => rfl) rfl rfl (fun _ _ => rfl) (d' := 0) (by omega) (vX7_readN (len := 31) (i := i + 1) (by assumption) (by omega) (hLR.2 _ (by omega))) ?_
      refine Z_push gX4_lineHolding_22 (v := (0, (k : Int))) rfl ?_
      refine Z_icmp_gt gX4_lineHolding_23 (tgt := 32) (by decide) (fun h23 => absurd h23 (by omega)) (fun _ => ?_)
      refine Z_iinc gX4_lineHolding_26 rfl ⟨by omega, by omega⟩ (ls' := [(1, ((c : Nat) : Int)), (0, (k : Int)), (0, (i : Int) + 1)]) rfl ?_
      refine Z_goto gX4_lineHolding_29 (tgt := 2) (by decide) ?_
      exact ih (i + 1) (by omega)
  show Z ro 1 mX4_lineHolding 0 [(1, (c : Int)), (0, (k : Int)), (9, 0)] [] w _
  refine Z_push gX4_lineHolding_0 (v := (0, 0)) rfl ?_
  refine Z_sto gX4_lineHolding_1 rfl (ls' := [(1, ((c : Nat) : Int)), (0, (k : Int)), (0, 0)]) (st' := []) rfl ?_
  exact loop (lnE T lim k) 0 (by omega)
theorem vX4_widthOfLine (hc : LX c) (hLR : LR w c T lim) (hR : TR w 1 T) (hV : TV T) (h2 : 13 ≤ lim ∧ lim ≤ 60) {i : Nat} (hi : i < lcE T lim) : Pv ro 3 mX4_widthOfLine [(1, (c : Int)), (1, ((1 : Nat) : Int)), (0, (i : Int))] w (0, lwS T (stE T lim i) (stE T lim (i + 1) - stE T lim i)) := by
  obtain ⟨hL0, hL1, hL2, hL3, hp0, hp1, hp2, hp3, hc81⟩ := id hc
  have hT := TX_1
  have hlc := lc_le T lim
  have hV1 := hV.1
  have h3 := (lc_iff hV h2 i).mpr hi
  have h4 := st_lt hV h2 h3
  have h5 := st_le hV h2 (i + 1)
  have loop : ∀ m j : Nat, stE T lim i + j + m = stE T lim (i + 1) → Z ro 3 mX4_widthOfLine 12 [(1, (c : Int)), (1, ((1 : Nat) : Int)), (0, (i : Int)), (0, lwS T (stE T lim i) j), (0, ((stE T lim i + j : Nat) : Int))] [] w (fun r9 w' k9 => k9 = 0 ∧ ∃ o, r9 = .inl o ∧ (o = some (0, lwS T (stE T lim i) (stE T lim (i + 1) - stE T lim i)) ∧ w' = w)) := by
    intro m
    induction m with
    | zero =>
      intro j hj
      refine Z_push gX4_widthOfLine_12 (v := (0, ((stE T lim i + j : Nat) : Int))) rfl ?_
      refine Z_push gX4_widthOfLine_14 (v := (1, ((c : Nat) : Int))) rfl ?_
      refine Z_getR (b := c + 3) gX4_widthOfLine_15 rfl (by assumption) (by decide) (by assumption) (by omega) ?_
      refine Z_push gX4_widthOfLine_18 (v := (0, (i : Int))) rfl ?_
      refine Z_push gX4_widthOfLine_19 (v := (0, 1)) rfl ?_
      refine Z_iadd gX4_widthOfLine_20 ⟨by omega, by omega⟩ ?_
      refine Z_callP (kd := 2) (na := 2) (M' := mX7_read) gX4_widthOfLine_21 rfl rfl rfl rfl rfl rfl (fun _ => rfl) rfl rfl (fun _ _ => rfl) (d' := 0) (by omega) (vX7_readN (len := 31) (i := i + 1) (by assumption) (by omega) (hLR.2 _ (by omega))) ?_
      refine Z_icmp_ge gX4_widthOfLine_24 (tgt := 44) (by decide) (fun _ => ?_) (fun h24 => absurd h24 (by omega))
      refine Z_push gX4_widthOfLine_44 (v := (0, lwS T (stE T lim i) j)) rfl ?_
      refine Z_ret (v := (0, lwS T (stE T lim i) j)) gX4_widthOfLine_45 rfl rfl rfl rfl rfl _ ?_
      exact ⟨by rw [show j = stE T lim (i + 1) - stE T lim i by omega], rfl⟩
    | succ m ih =>
      intro j hj
      have hn := ih (j + 1) (by omega)
      rw [show ((stE T lim i + (j + 1) : Nat) : Int) = ((stE T lim i + j : Nat) : Int) + 1 from rfl, show lwS T (stE T lim i) (j + 1) = lwS T (stE T lim i) j + (1 + wT T ((stE T lim i + j : Nat) : Int)) from rfl] at hn
      have b1 := lwS_bd hV (stE T lim i) j
      have b2 := wT_bd hV ((stE T lim i + j : Nat) : Int)
      refine Z_push gX4_widthOfLine_12 (v := (0, ((stE T lim i + j : Nat) : Int))) rfl ?_
      refine Z_push gX4_widthOfLine_14 (v := (1, ((c : Nat) : Int))) rfl ?_
      refine Z_getR (b := c + 3) gX4_widthOfLine_15 rfl (by assumption) (by decide) (by assumption) (by omega) ?_
      refine Z_push gX4_widthOfLine_18 (v := (0, (i : Int))) rfl ?_
      refine Z_push gX4_widthOfLine_19 (v := (0, 1)) rfl ?_
      refine Z_iadd gX4_widthOfLine_20 ⟨by omega, by omega⟩ ?_
      refine Z_callP (kd := 2) (na := 2) (M' := mX7_read) gX4_widthOfLine_21 rfl rfl rfl rfl rfl rfl (fun _ => rfl) rfl rfl (fun _ _ => rfl) (d' := 0) (by omega) (vX7_readN (len := 31) (i := i + 1) (by assumption) (by omega) (hLR.2 _ (by omega))) ?_
      refine Z_icmp_ge gX4_widthOfLine_24 (tgt := 44) (by decide) (fun h24 => absurd h24 (by omega)) (fun _ => ?_)
      refine Z_push gX4_widthOfLine_27 (v := (0, lwS T (stE T lim i) j)) rfl ?_
      refine Z_push gX4_widthOfLine_28 (v := (0, 1)) rfl ?_
      refine Z_push gX4_widthOfLine_29 (v := (1, ((1 : Nat) : Int))) rfl ?_
      refine Z_push gX4_widthOfLine_30 (v := (0, ((stE T lim i + j : Nat) : Int))) rfl ?_
      refine Z_callP (kd := 0) (na := 2) (M' := mX6_widthAt) gX4_widthOfLine_32 rfl rfl rfl rfl rfl rfl (fun _ => rfl) rfl rfl (fun _ _ => zrecv_obj rfl _ _ _) (d' := 2) (by omega) (vX6_widthAt (T := T) (by assumption) (by assumption) (by assumption) _) ?_
      refine Z_iadd gX4_widthOfLine_35 ⟨by omega, by omega⟩ ?_
      refine Z_iadd gX4_widthOfLine_36 ⟨by omega, by omega⟩ ?_
      refine Z_sto gX4_widthOfLine_37 rfl (ls' := [(1, ((c : Nat) : Int)), (1, ((1 : Nat) : Int)), (0, (i : Int)), (0, (lwS T (stE T lim i) j) + (1 + (wT T ((stE T lim i + j : Nat) : Int)))), (0, ((stE T lim i + j : Nat) : Int))]) (st' := []) rfl ?_
      refine Z_iinc gX4_widthOfLine_38 rfl ⟨by omega, by omega⟩ (ls' := [(1, ((c : Nat) : Int)), (1, ((1 : Nat) : Int)), (0, (i : Int)), (0, (lwS T (stE T lim i) j) + (1 + (wT T ((stE T lim i + j : Nat) : Int)))), (0, ((stE T lim i + j : Nat) : Int) + 1)]) rfl ?_
      refine Z_goto gX4_widthOfLine_41 (tgt := 12) (by decide) ?_
      exact hn
  show Z ro 3 mX4_widthOfLine 0 [(1, (c : Int)), (1, ((1 : Nat) : Int)), (0, (i : Int)), (9, 0), (9, 0)] [] w _
  refine Z_push gX4_widthOfLine_0 (v := (0, -1)) rfl ?_
  refine Z_sto gX4_widthOfLine_1 rfl (ls' := [(1, ((c : Nat) : Int)), (1, ((1 : Nat) : Int)), (0, (i : Int)), (0, -1), (9, 0)]) (st' := []) rfl ?_
  refine Z_push gX4_widthOfLine_2 (v := (1, ((c : Nat) : Int))) rfl ?_
  refine Z_getR (b := c + 3) gX4_widthOfLine_3 rfl (by assumption) (by decide) (by assumption) (by omega) ?_
  refine Z_push gX4_widthOfLine_6 (v := (0, (i : Int))) rfl ?_
  refine Z_callP (kd := 2) (na := 2) (M' := mX7_read) gX4_widthOfLine_7 rfl rfl rfl rfl rfl rfl (fun _ => rfl) rfl rfl (fun _ _ => rfl) (d' := 0) (by omega) (vX7_readN (len := 31) (i := i) (by assumption) (by omega) (hLR.2 _ (by omega))) ?_
  refine Z_sto gX4_widthOfLine_10 rfl (ls' := [(1, ((c : Nat) : Int)), (1, ((1 : Nat) : Int)), (0, (i : Int)), (0, -1), (0, (stE T lim i : Int))]) (st' := []) rfl ?_
  exact loop (stE T lim (i + 1) - stE T lim i) 0 (by omega)
theorem vX4_sumOfCosts (hc : LX c) (hLR : LR w c T lim) (hR : TR w 1 T) (hV : TV T) (h2 : 13 ≤ lim ∧ lim ≤ 60) : Pv ro 4 mX4_sumOfCosts [(1, (c : Int)), (1, ((1 : Nat) : Int)), (0, lim)] w (0, lE T lim 0) := by
  obtain ⟨hL0, hL1, hL2, hL3, hp0, hp1, hp2, hp3, hc81⟩ := id hc
  have hT := TX_1
  have hlc := lc_le T lim
  have hV1 := hV.1
  have hb := lE_bd' hV h2
  have loop : ∀ m i : Nat, i + m = lcE T lim → Z ro 4 mX4_sumOfCosts 5 [(1, (c : Int)), (1, ((1 : Nat) : Int)), (0, lim), (0, lE T lim 0 - lE T lim (stE T lim i)), (0, (i : Int))] [] w (fun r9 w' k9 => k9 = 0 ∧ ∃ o, r9 = .inl o ∧ (o = some (0, lE T lim 0) ∧ w' = w)) := by
    intro m
    induction m with
    | zero =>
      intro i hi
      obtain rfl : i = lcE T lim := by omega
      refine Z_push gX4_sumOfCosts_5 (v := (0, (lcE T lim : Int))) rfl ?_
      refine Z_push gX4_sumOfCosts_7 (v := (1, ((c : Nat) : Int))) rfl ?_
      refine Z_getV (v := (lcE T lim : Int)) gX4_sumOfCosts_8 rfl (by assumption) (by decide) hLR.1 ?_
      refine Z_icmp_ge gX4_sumOfCosts_11 (tgt := 50) (by decide) (fun _ => ?_) (fun h11 => absurd h11 (by omega))
      refine Z_push gX4_sumOfCosts_50 (v := (0, lE T lim 0 - lE T lim (stE T lim (lcE T lim)))) rfl ?_
      refine Z_ret (v := (0, lE T lim 0 - lE T lim (stE T lim (lcE T lim)))) gX4_sumOfCosts_51 rfl rfl rfl rfl rfl _ ?_
      exact ⟨by rw [st_lc hV h2, lE_end (Nat.le_refl _), Int.sub_zero], rfl⟩
    | succ m ih =>
      intro i hi
      have hn := ih (i + 1) (by omega)
      have e := lE_line hV h2 (i := i) (by omega)
      have h3 := (lc_iff hV h2 i).mpr (by omega)
      have h4 := st_lt hV h2 h3
      have h5 := st_le hV h2 (i + 1)
      have b0 := hb 0
      have b1 := hb (stE T lim i)
      have b2 := hb (stE T lim (i + 1))
      have b3 := lwS_bd hV (stE T lim i) (stE T lim (i + 1) - stE T lim i)
      rw [show ((i + 1 : Nat) : Int) = (i : Int) + 1 from rfl] at hn
      refine Z_push gX4_sumOfCosts_5 (v := (0, (i : Int))) rfl ?_
      refine Z_push gX4_sumOfCosts_7 (v := (1, ((c : Nat) : Int))) rfl ?_
      refine Z_getV (v := (lcE T lim : Int)) gX4_sumOfCosts_8 rfl (by assumption) (by decide) hLR.1 ?_
      refine Z_icmp_ge gX4_sumOfCosts_11 (tgt := 50) (by decide) (fun h11 => absurd h11 (by omega)) (fun _ => ?_)
      refine Z_push gX4_sumOfCosts_14 (v := (0, lE T lim 0 - lE T lim (stE T lim i))) rfl ?_
      refine Z_push gX4_sumOfCosts_15 (v := (1, ((c : Nat) : Int))) rfl ?_
      refine Z_push gX4_sumOfCosts_16 (v := (1, ((1 : Nat) : Int))) rfl ?_
      refine Z_push gX4_sumOfCosts_17 (v := (0, (i : Int))) rfl ?_
      refine Z_callP (kd := 0) (na := 3) (M' := mX4_widthOfLine) gX4_sumOfCosts_19 rfl rfl rfl rfl rfl rfl (fun _ => rfl) rfl rfl (fun _ _ => zrecv_obj (by assumption) _ _ _) (d' := 3) (by omega) (vX4_widthOfLine hc hLR hR hV h2 (i := i) (by omega)) ?_
      refine Z_push gX4_sumOfCosts_22 (v := (0, lim)) rfl ?_
      refine Z_push gX4_sumOfCosts_23 (v := (0, (i : Int))) rfl ?_
      refine Z_push gX4_sumOfCosts_25 (v := (1, ((c : Nat) : Int))) rfl ?_
      refine Z_getV (v := (lcE T lim : Int)) gX4_sumOfCosts_26 rfl (by assumption) (by decide) hLR.1 ?_
      refine Z_push gX4_sumOfCosts_29 (v := (0, 1)) rfl ?_
      refine Z_isub gX4_sumOfCosts_30 ⟨by omega, by omega⟩ ?_
      refine Z_icmp_ne gX4_sumOfCosts_31 (tgt := 38) (by decide) (fun h31 => ?_) (fun h31 => ?_)
      · rw [if_neg (by omega)] at e
        have h6 : Pv ro 0 mX7_costOfLine [(0, lwS T (stE T lim i) (stE T lim (i + 1) - stE T lim i)), (0, lim), (0, 0)] w (0, lE T lim (stE T lim i) - lE T lim (stE T lim (i + 1))) := by
          rw [e, Int.add_sub_cancel]
          exact vX7_costOfLine _ _ _ (by omega) (by omega) (by omega)
        refine Z_push gX4_sumOfCosts_38 (v := (0, 0)) rfl ?_
        refine Z_callP (kd := 2) (na := 3) (M' := mX7_costOfLine) gX4_sumOfCosts_39 rfl rfl rfl rfl rfl rfl (fun _ => rfl) rfl rfl (fun _ _ => rfl) (d' := 0) (by omega) (h6) ?_
        refine Z_iadd gX4_sumOfCosts_42 ⟨by omega, by omega⟩ ?_
        refine Z_sto gX4_sumOfCosts_43 rfl (ls' := [(1, ((c : Nat) : Int)), (1, ((1 : Nat) : Int)), (0, lim), (0, (lE T lim 0 - lE T lim (stE T lim i)) + (lE T lim (stE T lim i) - lE T lim (stE T lim (i + 1)))), (0, (i : Int))]) (st' := []) rfl ?_
        refine Z_iinc gX4_sumOfCosts_44 rfl ⟨by omega, by omega⟩ (ls' := [(1, ((c : Nat) : Int)), (1, ((1 : Nat) : Int)), (0, lim), (0, (lE T lim 0 - lE T lim (stE T lim i)) + (lE T lim (stE T lim i) - lE T lim (stE T lim (i + 1)))), (0, (i : Int) + 1)]) rfl ?_
        refine Z_goto gX4_sumOfCosts_47 (tgt := 5) (by decide) ?_
        rw [show lE T lim 0 - lE T lim (stE T lim i) + (lE T lim (stE T lim i) - lE T lim (stE T lim (i + 1))) = lE T lim 0 - lE T lim (stE T lim (i + 1)) by omega]
        exact hn
      · rw [if_pos (by omega)] at e
        have h6 : Pv ro 0 mX7_costOfLine [(0, lwS T (stE T lim i) (stE T lim (i + 1) - stE T lim i)), (0, lim), (0, 1)] w (0, lE T lim (stE T lim i) - lE T lim (stE T lim (i + 1))) := by
          rw [e, Int.add_sub_cancel]
          exact vX7_costOfLine _ _ _ (by omega) (by omega) (by omega)
        refine Z_push gX4_sumOfCosts_34 (v := (0, 1)) rfl ?_
        refine Z_goto gX4_sumOfCosts_35 (tgt := 39) (by decide) ?_
        refine Z_callP (kd := 2) (na := 3) (M' := mX7_costOfLine) gX4_sumOfCosts_39 rfl rfl rfl rfl rfl rfl (fun _ => rfl) rfl rfl (fun _ _ => rfl) (d' := 0) (by omega) (h6) ?_
        refine Z_iadd gX4_sumOfCosts_42 ⟨by omega, by omega⟩ ?_
        refine Z_sto gX4_sumOfCosts_43 rfl (ls' := [(1, ((c : Nat) : Int)), (1, ((1 : Nat) : Int)), (0, lim), (0, (lE T lim 0 - lE T lim (stE T lim i)) + (lE T lim (stE T lim i) - lE T lim (stE T lim (i + 1)))), (0, (i : Int))]) (st' := []) rfl ?_
        refine Z_iinc gX4_sumOfCosts_44 rfl ⟨by omega, by omega⟩ (ls' := [(1, ((c : Nat) : Int)), (1, ((1 : Nat) : Int)), (0, lim), (0, (lE T lim 0 - lE T lim (stE T lim i)) + (lE T lim (stE T lim i) - lE T lim (stE T lim (i + 1)))), (0, (i : Int) + 1)]) rfl ?_
        refine Z_goto gX4_sumOfCosts_47 (tgt := 5) (by decide) ?_
        rw [show lE T lim 0 - lE T lim (stE T lim i) + (lE T lim (stE T lim i) - lE T lim (stE T lim (i + 1))) = lE T lim 0 - lE T lim (stE T lim (i + 1)) by omega]
        exact hn
  show Z ro 4 mX4_sumOfCosts 0 [(1, (c : Int)), (1, ((1 : Nat) : Int)), (0, lim), (9, 0), (9, 0)] [] w _
  refine Z_push gX4_sumOfCosts_0 (v := (0, 0)) rfl ?_
  refine Z_sto gX4_sumOfCosts_1 rfl (ls' := [(1, ((c : Nat) : Int)), (1, ((1 : Nat) : Int)), (0, lim), (0, 0), (9, 0)]) (st' := []) rfl ?_
  refine Z_push gX4_sumOfCosts_2 (v := (0, 0)) rfl ?_
  refine Z_sto gX4_sumOfCosts_3 rfl (ls' := [(1, ((c : Nat) : Int)), (1, ((1 : Nat) : Int)), (0, lim), (0, 0), (0, 0)]) (st' := []) rfl ?_
  have := loop (lcE T lim) 0 (by omega)
  rw [show lE T lim 0 - lE T lim (stE T lim 0) = 0 from Int.sub_self _] at this
  exact this
theorem vX4_isSameAs {c2 : Nat} (hc : LX c) (hc2 : LX c2) (hLR : LR w c T lim) (hLR2 : LR w c2 T lim) (hV : TV T) (h2 : 13 ≤ lim ∧ lim ≤ 60) : Pv ro 2 mX4_isSameAs [(1, (c : Int)), (1, (c2 : Int)), (0, (T.1 : Int))] w (0, 1) := by
  obtain ⟨hL0, hL1, hL2, hL3, hp0, hp1, hp2, hp3, hc81⟩ := id hc
  have hM0 := hc2.1
  have hV1 := hV.1
  have loop : ∀ m i : Nat, i + m = T.1 → Z ro 2 mX4_isSameAs 15 [(1, (c : Int)), (1, (c2 : Int)), (0, (T.1 : Int)), (0, (i : Int))] [] w (fun r9 w' k9 => k9 = 0 ∧ ∃ o, r9 = .inl o ∧ (o = some (0, 1) ∧ w' = w)) := by
    intro m
    induction m with
    | zero =>
      intro i hi
      refine Z_push gX4_isSameAs_15 (v := (0, (i : Int))) rfl ?_
      refine Z_push gX4_isSameAs_16 (v := (0, (T.1 : Int))) rfl ?_
      refine Z_icmp_ge gX4_isSameAs_17 (tgt := 41) (by decide) (fun _ => ?_) (fun h17 => absurd h17 (by omega))
      refine Z_push gX4_isSameAs_41 (v := (0, 1)) rfl ?_
      refine Z_retB gX4_isSameAs_42 rfl (by first | exact Or.inl rfl | exact Or.inr rfl | assumption | omega) _ ?_
      exact ⟨rfl, rfl⟩
    | succ m ih =>
      intro i hi
      refine Z_push gX4_isSameAs_15 (v := (0, (i : Int))) rfl ?_
      refine Z_push gX4_isSameAs_16 (v := (0, (T.1 : Int))) rfl ?_
      refine Z_icmp_ge gX4_isSameAs_17 (tgt := 41) (by decide) (fun h17 => absurd h17 (by omega)) (fun _ => ?_)
      refine Z_push gX4_isSameAs_20 (v := (1, ((c : Nat) : Int))) rfl ?_
      refine Z_push gX4_isSameAs_21 (v := (0, (i : Int))) rfl ?_
      refine Z_callP (kd := 0) (na := 2) (M' := mX4_lineHolding) gX4_isSameAs_22 rfl rfl rfl rfl rfl rfl (fun _ => rfl) rfl rfl (fun _ _ => zrecv_obj (by assumption) _ _ _) (d' := 1) (by omega) (vX4_lineHolding hc hLR hV h2 (by omega)) ?_
      refine Z_push gX4_isSameAs_25 (v := (1, ((c2 : Nat) : Int))) rfl ?_
      refine Z_push gX4_isSameAs_26 (v := (0, (i : Int))) rfl ?_
      refine Z_callP (kd := 0) (na := 2) (M' := mX4_lineHolding) gX4_isSameAs_27 rfl rfl rfl rfl rfl rfl (fun _ => rfl) rfl rfl (fun _ _ => zrecv_obj (by assumption) _ _ _) (d' := 1) (by omega) (vX4_lineHolding hc2 hLR2 hV h2 (by omega)) ?_
      refine Z_icmp_eq gX4_isSameAs_30 (tgt := 35) (by decide) (fun _ => ?_) (fun h30 => absurd h30 (by omega))
      refine Z_iinc gX4_isSameAs_35 rfl ⟨by omega, by omega⟩ (ls' := [(1, ((c : Nat) : Int)), (1, ((c2 : Nat) : Int)), (0, (T.1 : Int)), (0, (i : Int) + 1)]) rfl ?_
      refine Z_goto gX4_isSameAs_38 (tgt := 15) (by decide) ?_
      exact ih (i + 1) (by omega)
  show Z ro 2 mX4_isSameAs 0 [(1, (c : Int)), (1, (c2 : Int)), (0, (T.1 : Int)), (9, 0)] [] w _
  refine Z_push gX4_isSameAs_0 (v := (1, ((c : Nat) : Int))) rfl ?_
  refine Z_getV (v := (lcE T lim : Int)) gX4_isSameAs_1 rfl (by assumption) (by decide) hLR.1 ?_
  refine Z_push gX4_isSameAs_4 (v := (1, ((c2 : Nat) : Int))) rfl ?_
  refine Z_getV (v := (lcE T lim : Int)) gX4_isSameAs_5 rfl (by assumption) (by decide) hLR2.1 ?_
  refine Z_icmp_eq gX4_isSameAs_8 (tgt := 13) (by decide) (fun _ => ?_) (fun h8 => absurd h8 (by omega))
  refine Z_push gX4_isSameAs_13 (v := (0, 0)) rfl ?_
  refine Z_sto gX4_isSameAs_14 rfl (ls' := [(1, ((c : Nat) : Int)), (1, ((c2 : Nat) : Int)), (0, (T.1 : Int)), (0, 0)]) (st' := []) rfl ?_
  exact loop T.1 0 (by omega)
theorem vX7_leastByTrying (hR : TR w 1 T) (hV : TV T) (h2 : 13 ≤ lim ∧ lim ≤ 60) (h12 : T.1 ≤ 12) : ∀ m k : Nat, T.1 ≤ k + m → k ≤ 12 → Pv ro (m + 3) mX7_leastByTrying [(1, ((1 : Nat) : Int)), (0, lim), (0, (k : Int))] w (0, lE T lim k) := by
  have hT := TX_1
  have hV1 := hV.1
  intro m
  induction m with
  | zero =>
    intro k hk hk2
    show Z ro _ mX7_leastByTrying 0 [(1, ((1 : Nat) : Int)), (0, lim), (0, (k : Int)), (9, 0), (9, 0), (9, 0), (9, 0), (9, 0)] [] w _
    refine Z_push gX7_leastByTrying_0 (v := (0, (k : Int))) rfl ?_
    refine Z_push gX7_leastByTrying_1 (v := (1, ((1 : Nat) : Int))) rfl ?_
    refine Z_callP (kd := 0) (na := 1) (M' := mX6_size) gX7_leastByTrying_2 rfl rfl rfl rfl rfl rfl (fun _ => rfl) rfl rfl (fun _ _ => zrecv_obj rfl _ _ _) (d' := 0) (by omega) (vX6_size (by assumption) (by assumption)) ?_
    refine Z_icmp_ge gX7_leastByTrying_5 (tgt := 14) (by decide) (fun _ => ?_) (fun h5 => absurd h5 (by omega))
    refine Z_push gX7_leastByTrying_14 (v := (0, 0)) rfl ?_
    refine Z_ret (v := (0, 0)) gX7_leastByTrying_15 rfl rfl rfl rfl rfl _ ?_
    exact ⟨by rw [lE_end (by omega)], rfl⟩
  | succ m ih =>
    intro k hk hk2
    by_cases hkn : k < T.1
    · have loop : ∀ p j : Nat, k + j + p = T.1 → ∀ v1 v2 : zV, Z ro (m + 1 + 3) mX7_leastByTrying 26 [(1, ((1 : Nat) : Int)), (0, lim), (0, (k : Int)), (0, (mnE T lim k (lE T lim) j).1), (0, lwS T k j), (0, ((k + j : Nat) : Int)), v1, v2] [] w (fun r9 w' k9 => k9 = 0 ∧ ∃ o, r9 = .inl o ∧ (o = some (0, lE T lim k) ∧ w' = w)) := by
        intro p
        induction p with
        | zero =>
          intro j hj v1 v2
          obtain ⟨x1, x2⟩ := v1
          obtain ⟨y1, y2⟩ := v2
          refine Z_push gX7_leastByTrying_26 (v := (0, ((k + j : Nat) : Int))) rfl ?_
          refine Z_push gX7_leastByTrying_28 (v := (1, ((1 : Nat) : Int))) rfl ?_
          refine Z_callP (kd := 0) (na := 1) (M' := mX6_size) gX7_leastByTrying_29 rfl rfl rfl rfl rfl rfl (fun _ => rfl) rfl rfl (fun _ _ => zrecv_obj rfl _ _ _) (d' := 0) (by omega) (vX6_size (by assumption) (by assumption)) ?_
          refine Z_icmp_ge gX7_leastByTrying_32 (tgt := 108) (by decide) (fun _ => ?_) (fun h32 => absurd h32 (by omega))
          refine Z_push gX7_leastByTrying_108 (v := (0, (mnE T lim k (lE T lim) j).1)) rfl ?_
          refine Z_ret (v := (0, (mnE T lim k (lE T lim) j).1)) gX7_leastByTrying_109 rfl rfl rfl rfl rfl _ ?_
          exact ⟨by rw [lE_s hkn, show T.1 - k = j by omega], rfl⟩
        | succ p ihp =>
          intro j hj v1 v2
          obtain ⟨x1, x2⟩ := v1
          obtain ⟨y1, y2⟩ := v2
          have hn := ihp (j + 1) (by omega)
          rw [show ((k + (j + 1) : Nat) : Int) = ((k + j : Nat) : Int) + 1 from rfl, show lwS T k (j + 1) = lwS T k j + (1 + wT T ((k + j : Nat) : Int)) from rfl] at hn
          have b1 := lwS_bd hV k j
          have b2 := wT_bd hV ((k + j : Nat) : Int)
          have b3 := cst_bd hV h2 (k := k) (m := j) (by omega)
          have b4 := lE_bd' hV h2 (k + j + 1)
          have b5 := cbT_01 T ((k + j : Nat) : Int)
          have em : mnE T lim k (lE T lim) (j + 1) = if cbT T ((k + j : Nat) : Int) ≠ 0 ∧ cstT T lim k j + lE T lim (k + j + 1) ≤ (mnE T lim k (lE T lim) j).1 then (cstT T lim k j + lE T lim (k + j + 1), k + j + 1) else mnE T lim k (lE T lim) j := rfl
          have hrec := ih (k + j + 1) (by omega) (by omega)
          have cont : cbT T ((k + j : Nat) : Int) ≠ 0 → ∀ (x : Int) (v2 : zV), x = islT T (k + j) → Z ro (m + 1 + 3) mX7_leastByTrying 75 [(1, ((1 : Nat) : Int)), (0, lim), (0, (k : Int)), (0, (mnE T lim k (lE T lim) j).1), (0, lwS T k j + (1 + wT T ((k + j : Nat) : Int))), (0, ((k + j : Nat) : Int)), (0, x), v2] [] w (fun r9 w' k9 => k9 = 0 ∧ ∃ o, r9 = .inl o ∧ (o = some (0, lE T lim k) ∧ w' = w)) := by
            intro hcb x v2 hx
            obtain ⟨y1, y2⟩ := v2
            subst hx
            have h3 : Pv ro 0 mX7_costOfLine [(0, lwS T k j + (1 + wT T ((k + j : Nat) : Int))), (0, lim), (0, islT T (k + j))] w (0, cstT T lim k j) := vX7_costOfLine _ _ _ (by omega) (by omega) (by omega)
            refine Z_push gX7_leastByTrying_75 (v := (0, lwS T k j + (1 + wT T ((k + j : Nat) : Int)))) rfl ?_
            refine Z_push gX7_leastByTrying_77 (v := (0, lim)) rfl ?_
            refine Z_push gX7_leastByTrying_78 (v := (0, islT T (k + j))) rfl ?_
            refine Z_callP (kd := 1) (na := 3) (M' := mX7_costOfLine) gX7_leastByTrying_80 rfl rfl rfl rfl rfl rfl (fun _ => rfl) rfl rfl (fun _ _ => rfl) (d' := 0) (by omega) (h3) ?_
            refine Z_push gX7_leastByTrying_83 (v := (1, ((1 : Nat) : Int))) rfl ?_
            refine Z_push gX7_leastByTrying_84 (v := (0, lim)) rfl ?_
            refine Z_push gX7_leastByTrying_85 (v := (0, ((k + j : Nat) : Int))) rfl ?_
            refine Z_push gX7_leastByTrying_87 (v := (0, 1)) rfl ?_
            refine Z_iadd gX7_leastByTrying_88 ⟨by omega, by omega⟩ ?_
            refine Z_callP (kd := 1) (na := 3) (M' := mX7_leastByTrying) gX7_leastByTrying_89 rfl rfl rfl rfl rfl rfl (fun _ => rfl) rfl rfl (fun _ _ => rfl) (d' := m + 3) (by omega) (hrec) ?_
            refine Z_iadd gX7_leastByTrying_92 ⟨by omega, by omega⟩ ?_
            refine Z_sto gX7_leastByTrying_93 rfl (ls' := [(1, ((1 : Nat) : Int)), (0, lim), (0, (k : Int)), (0, (mnE T lim k (lE T lim) j).1), (0, lwS T k j + (1 + wT T ((k + j : Nat) : Int))), (0, ((k + j : Nat) : Int)), (0, islT T (k + j)), (0, (cstT T lim k j) + (lE T lim (k + j + 1)))]) (st' := []) rfl ?_
            refine Z_push gX7_leastByTrying_95 (v := (0, (mnE T lim k (lE T lim) j).1)) rfl ?_
            refine Z_push gX7_leastByTrying_96 (v := (0, (cstT T lim k j) + (lE T lim (k + j + 1)))) rfl ?_
            refine Z_arith gX7_leastByTrying_98 rfl rfl (v := [(0, (if (mnE T lim k (lE T lim) j).1 < (cstT T lim k j) + (lE T lim (k + j + 1)) then (mnE T lim k (lE T lim) j).1 else (cstT T lim k j) + (lE T lim (k + j + 1))))]) rfl ?_
            refine Z_sto gX7_leastByTrying_101 rfl (ls' := [(1, ((1 : Nat) : Int)), (0, lim), (0, (k : Int)), (0, (if (mnE T lim k (lE T lim) j).1 < (cstT T lim k j) + (lE T lim (k + j + 1)) then (mnE T lim k (lE T lim) j).1 else (cstT T lim k j) + (lE T lim (k + j + 1)))), (0, lwS T k j + (1 + wT T ((k + j : Nat) : Int))), (0, ((k + j : Nat) : Int)), (0, islT T (k + j)), (0, (cstT T lim k j) + (lE T lim (k + j + 1)))]) (st' := []) rfl ?_
            refine Z_iinc gX7_leastByTrying_102 rfl ⟨by omega, by omega⟩ (ls' := [(1, ((1 : Nat) : Int)), (0, lim), (0, (k : Int)), (0, (if (mnE T lim k (lE T lim) j).1 < (cstT T lim k j) + (lE T lim (k + j + 1)) then (mnE T lim k (lE T lim) j).1 else (cstT T lim k j) + (lE T lim (k + j + 1)))), (0, lwS T k j + (1 + wT T ((k + j : Nat) : Int))), (0, ((k + j : Nat) : Int) + 1), (0, islT T (k + j)), (0, (cstT T lim k j) + (lE T lim (k + j + 1)))]) rfl ?_
            refine Z_goto gX7_leastByTrying_105 (tgt := 26) (by decide) ?_
            have e : (mnE T lim k (lE T lim) (j + 1)).1 = if (mnE T lim k (lE T lim) j).1 < cstT T lim k j + lE T lim (k + j + 1) then (mnE T lim k (lE T lim) j).1 else cstT T lim k j + lE T lim (k + j + 1) := by
              rw [em]
              by_cases h : (mnE T lim k (lE T lim) j).1 < cstT T lim k j + lE T lim (k + j + 1)
              · rw [if_pos h, if_neg (fun h2 => by omega)]
              · rw [if_neg h, if_pos ⟨hcb, by omega⟩]
            rw [e] at hn
            exact hn _ _
          refine Z_push gX7_leastByTrying_26 (v := (0, ((k + j : Nat) : Int))) rfl ?_
          refine Z_push gX7_leastByTrying_28 (v := (1, ((1 : Nat) : Int))) rfl ?_
          refine Z_callP (kd := 0) (na := 1) (M' := mX6_size) gX7_leastByTrying_29 rfl rfl rfl rfl rfl rfl (fun _ => rfl) rfl rfl (fun _ _ => zrecv_obj rfl _ _ _) (d' := 0) (by omega) (vX6_size (by assumption) (by assumption)) ?_
          refine Z_icmp_ge gX7_leastByTrying_32 (tgt := 108) (by decide) (fun h32 => absurd h32 (by omega)) (fun _ => ?_)
          refine Z_push gX7_leastByTrying_35 (v := (0, lwS T k j)) rfl ?_
          refine Z_push gX7_leastByTrying_37 (v := (0, 1)) rfl ?_
          refine Z_push gX7_leastByTrying_38 (v := (1, ((1 : Nat) : Int))) rfl ?_
          refine Z_push gX7_leastByTrying_39 (v := (0, ((k + j : Nat) : Int))) rfl ?_
          refine Z_callP (kd := 0) (na := 2) (M' := mX6_widthAt) gX7_leastByTrying_41 rfl rfl rfl rfl rfl rfl (fun _ => rfl) rfl rfl (fun _ _ => zrecv_obj rfl _ _ _) (d' := 2) (by omega) (vX6_widthAt (T := T) (by assumption) (by assumption) (by assumption) _) ?_
          refine Z_iadd gX7_leastByTrying_44 ⟨by omega, by omega⟩ ?_
          refine Z_iadd gX7_leastByTrying_45 ⟨by omega, by omega⟩ ?_
          refine Z_sto gX7_leastByTrying_46 rfl (ls' := [(1, ((1 : Nat) : Int)), (0, lim), (0, (k : Int)), (0, (mnE T lim k (lE T lim) j).1), (0, (lwS T k j) + (1 + (wT T ((k + j : Nat) : Int)))), (0, ((k + j : Nat) : Int)), (x1, x2), (y1, y2)]) (st' := []) rfl ?_
          refine Z_push gX7_leastByTrying_48 (v := (1, ((1 : Nat) : Int))) rfl ?_
          refine Z_push gX7_leastByTrying_49 (v := (0, ((k + j : Nat) : Int))) rfl ?_
          refine Z_callP (kd := 0) (na := 2) (M' := mX6_canBreakBehind) gX7_leastByTrying_51 rfl rfl rfl rfl rfl rfl (fun _ => rfl) rfl rfl (fun _ _ => zrecv_obj rfl _ _ _) (d' := 2) (by omega) (vX6_canBreakBehind (T := T) (by assumption) (by assumption) (by assumption) (by omega)) ?_
          refine Z_if_eq gX7_leastByTrying_54 (tgt := 102) (by decide) (fun h54 => ?_) (fun h54 => ?_)
          · rw [if_neg (fun h => h.1 (by omega))] at em
            rw [em] at hn
            refine Z_iinc gX7_leastByTrying_102 rfl ⟨by omega, by omega⟩ (ls' := [(1, ((1 : Nat) : Int)), (0, lim), (0, (k : Int)), (0, (mnE T lim k (lE T lim) j).1), (0, (lwS T k j) + (1 + (wT T ((k + j : Nat) : Int)))), (0, ((k + j : Nat) : Int) + 1), (x1, x2), (y1, y2)]) rfl ?_
            refine Z_goto gX7_leastByTrying_105 (tgt := 26) (by decide) ?_
            exact hn _ _
          · refine Z_push gX7_leastByTrying_57 (v := (0, ((k + j : Nat) : Int))) rfl ?_
            refine Z_push gX7_leastByTrying_59 (v := (1, ((1 : Nat) : Int))) rfl ?_
            refine Z_callP (kd := 0) (na := 1) (M' := mX6_size) gX7_leastByTrying_60 rfl rfl rfl rfl rfl rfl (fun _ => rfl) rfl rfl (fun _ _ => zrecv_obj rfl _ _ _) (d' := 0) (by omega) (vX6_size (by assumption) (by assumption)) ?_
            refine Z_push gX7_leastByTrying_63 (v := (0, 1)) rfl ?_
            refine Z_isub gX7_leastByTrying_64 ⟨by omega, by omega⟩ ?_
            refine Z_icmp_ne gX7_leastByTrying_65 (tgt := 72) (by decide) (fun h65 => ?_) (fun h65 => ?_)
            · refine Z_push gX7_leastByTrying_72 (v := (0, 0)) rfl ?_
              refine Z_sto gX7_leastByTrying_73 rfl (ls' := [(1, ((1 : Nat) : Int)), (0, lim), (0, (k : Int)), (0, (mnE T lim k (lE T lim) j).1), (0, (lwS T k j) + (1 + (wT T ((k + j : Nat) : Int)))), (0, ((k + j : Nat) : Int)), (0, 0), (y1, y2)]) (st' := []) rfl ?_
              exact cont h54 0 _ (by unfold islT; rw [if_neg (by omega)])
            · refine Z_push gX7_leastByTrying_68 (v := (0, 1)) rfl ?_
              refine Z_goto gX7_leastByTrying_69 (tgt := 73) (by decide) ?_
              refine Z_sto gX7_leastByTrying_73 rfl (ls' := [(1, ((1 : Nat) : Int)), (0, lim), (0, (k : Int)), (0, (mnE T lim k (lE T lim) j).1), (0, (lwS T k j) + (1 + (wT T ((k + j : Nat) : Int)))), (0, ((k + j : Nat) : Int)), (0, 1), (y1, y2)]) (st' := []) rfl ?_
              exact cont h54 1 _ (by unfold islT; rw [if_pos (by omega)])
      show Z ro _ mX7_leastByTrying 0 [(1, ((1 : Nat) : Int)), (0, lim), (0, (k : Int)), (9, 0), (9, 0), (9, 0), (9, 0), (9, 0)] [] w _
      refine Z_push gX7_leastByTrying_0 (v := (0, (k : Int))) rfl ?_
      refine Z_push gX7_leastByTrying_1 (v := (1, ((1 : Nat) : Int))) rfl ?_
      refine Z_callP (kd := 0) (na := 1) (M' := mX6_size) gX7_leastByTrying_2 rfl rfl rfl rfl rfl rfl (fun _ => rfl) rfl rfl (fun _ _ => zrecv_obj rfl _ _ _) (d' := 0) (by omega) (vX6_size (by assumption) (by assumption)) ?_
      refine Z_icmp_ge gX7_leastByTrying_5 (tgt := 14) (by decide) (fun h5 => absurd h5 (by omega)) (fun _ => ?_)
      refine Z_push gX7_leastByTrying_8 (v := (0, (k : Int))) rfl ?_
      refine Z_push gX7_leastByTrying_9 (v := (0, 12)) rfl ?_
      refine Z_icmp_lt gX7_leastByTrying_11 (tgt := 16) (by decide) (fun _ => ?_) (fun h11 => absurd h11 (by omega))
      refine Z_push gX7_leastByTrying_16 (v := (0, 1000000000)) rfl ?_
      refine Z_sto gX7_leastByTrying_19 rfl (ls' := [(1, ((1 : Nat) : Int)), (0, lim), (0, (k : Int)), (0, 1000000000), (9, 0), (9, 0), (9, 0), (9, 0)]) (st' := []) rfl ?_
      refine Z_push gX7_leastByTrying_20 (v := (0, -1)) rfl ?_
      refine Z_sto gX7_leastByTrying_21 rfl (ls' := [(1, ((1 : Nat) : Int)), (0, lim), (0, (k : Int)), (0, 1000000000), (0, -1), (9, 0), (9, 0), (9, 0)]) (st' := []) rfl ?_
      refine Z_push gX7_leastByTrying_23 (v := (0, (k : Int))) rfl ?_
      refine Z_sto gX7_leastByTrying_24 rfl (ls' := [(1, ((1 : Nat) : Int)), (0, lim), (0, (k : Int)), (0, 1000000000), (0, -1), (0, (k : Int)), (9, 0), (9, 0)]) (st' := []) rfl ?_
      exact loop (T.1 - k) 0 (by omega) _ _
    · show Z ro _ mX7_leastByTrying 0 [(1, ((1 : Nat) : Int)), (0, lim), (0, (k : Int)), (9, 0), (9, 0), (9, 0), (9, 0), (9, 0)] [] w _
      refine Z_push gX7_leastByTrying_0 (v := (0, (k : Int))) rfl ?_
      refine Z_push gX7_leastByTrying_1 (v := (1, ((1 : Nat) : Int))) rfl ?_
      refine Z_callP (kd := 0) (na := 1) (M' := mX6_size) gX7_leastByTrying_2 rfl rfl rfl rfl rfl rfl (fun _ => rfl) rfl rfl (fun _ _ => zrecv_obj rfl _ _ _) (d' := 0) (by omega) (vX6_size (by assumption) (by assumption)) ?_
      refine Z_icmp_ge gX7_leastByTrying_5 (tgt := 14) (by decide) (fun _ => ?_) (fun h5 => absurd h5 (by omega))
      refine Z_push gX7_leastByTrying_14 (v := (0, 0)) rfl ?_
      refine Z_ret (v := (0, 0)) gX7_leastByTrying_15 rfl rfl rfl rfl rfl _ ?_
      exact ⟨by rw [lE_end (by omega)], rfl⟩
end
