/-! the law's loop -/
section
variable {ro : zRo} {w : zW} {T : zTx} {R : zRu} {D : zDs} {lim la B : Int} {L : Nat} {f : Nat → Int} {n q : Nat}
theorem lstep (hro : ro (-3) = some (L, f)) (hq : 4 * q + 4 ≤ L) (hL : L ≤ 2048) (hI : LI w B) (hB : B ≤ 80000) (v6 v7 v8 : zV) (K : ∀ (v6 v7 v8 : zV) (W : zW), LI W (B + 150) → Z ro 100 mL_law 2130 [(1, -3), (1, ((0 : Nat) : Int)), (1, ((97 : Nat) : Int)), (1, ((117 : Nat) : Int)), (1, ((118 : Nat) : Int)), (0, ((4 * q : Nat) : Int)), v6, v7, v8] [] W (Qn n)) : Z ro 100 mL_law 37 [(1, -3), (1, ((0 : Nat) : Int)), (1, ((97 : Nat) : Int)), (1, ((117 : Nat) : Int)), (1, ((118 : Nat) : Int)), (0, ((4 * q : Nat) : Int)), v6, v7, v8] [] w (Qn (n + 1)) := by
  obtain ⟨T, R, D, lim, la, hC, hM, hV⟩ := hI
  obtain ⟨x6, y6⟩ := v6
  obtain ⟨x7, y7⟩ := v7
  obtain ⟨x8, y8⟩ := v8
  refine Z_push gL_law_37 (v := (1, -3)) rfl ?_
  refine Z_push gL_law_38 (v := (0, ((4 * q : Nat) : Int))) rfl ?_
  refine Z_ialoadS gL_law_40 hro (by omega) (by omega) ?_
  refine Z_push gL_law_41 (v := (0, 63)) rfl ?_
  refine Z_arith gL_law_43 rfl rfl (v := [(0, (Int32.ofInt (f (((4 * q : Nat) : Int)).toNat) &&& Int32.ofInt 63).toInt)]) rfl ?_
  generalize (Int32.ofInt (f (((4 * q : Nat) : Int)).toNat) &&& Int32.ofInt 63).toInt = s
  by_cases hd : s < 0 ∨ 38 < s
  · refine Z_jump gL_law_44 rfl rfl rfl (v := (2130, [])) (by
      show (if s < 0 ∨ 38 < s then (if 0 ≤ ((44 : Nat) : Int) + 2086 then some ((((44 : Nat) : Int) + 2086).toNat, ([] : List zV)) else none) else _) = _
      rw [if_pos hd]
      rfl) ?_
    exact Z_mono (K _ _ _ w ⟨T, R, D, lim, la, hC, hM, SV_same hV⟩) (fun r w' k h => ⟨by have := h.1; omega, h.2⟩)
  · rcases (by omega : s = 0 ∨ s = 1 ∨ s = 2 ∨ s = 3 ∨ s = 4 ∨ s = 5 ∨ s = 6 ∨ s = 7 ∨ s = 8 ∨ s = 9 ∨ s = 10 ∨ s = 11 ∨ s = 12 ∨ s = 13 ∨ s = 14 ∨ s = 15 ∨ s = 16 ∨ s = 17 ∨ s = 18 ∨ s = 19 ∨ s = 20 ∨ s = 21 ∨ s = 22 ∨ s = 23 ∨ s = 24 ∨ s = 25 ∨ s = 26 ∨ s = 27 ∨ s = 28 ∨ s = 29 ∨ s = 30 ∨ s = 31 ∨ s = 32 ∨ s = 33 ∨ s = 34 ∨ s = 35 ∨ s = 36 ∨ s = 37 ∨ s = 38) with rfl | rfl | rfl | rfl | rfl | rfl | rfl | rfl | rfl | rfl | rfl | rfl | rfl | rfl | rfl | rfl | rfl | rfl | rfl | rfl | rfl | rfl | rfl | rfl | rfl | rfl | rfl | rfl | rfl | rfl | rfl | rfl | rfl | rfl | rfl | rfl | rfl | rfl | rfl
    · exact Z_jump gL_law_44 rfl rfl rfl (v := (216, [])) rfl (lc_addName hro hq hL hC hM hV hB _ _ _ K)
    · exact Z_jump gL_law_44 rfl rfl rfl (v := (284, [])) rfl (lc_addComment hro hq hL hC hM hV hB _ _ _ K)
    · exact Z_jump gL_law_44 rfl rfl rfl (v := (340, [])) rfl (lc_begin hro hq hL hC hM hV hB _ _ _ K)
    · exact Z_jump gL_law_44 rfl rfl rfl (v := (384, [])) rfl (lc_end hro hq hL hC hM hV hB _ _ _ K)
    · exact Z_jump gL_law_44 rfl rfl rfl (v := (428, [])) rfl (lc_entries hro hq hL hC hM hV hB _ _ _ K)
    · exact Z_jump gL_law_44 rfl rfl rfl (v := (441, [])) rfl (lc_kindOf hro hq hL hC hM hV hB _ _ _ K)
    · exact Z_jump gL_law_44 rfl rfl rfl (v := (497, [])) rfl (lc_nameOf hro hq hL hC hM hV hB _ _ _ K)
    · exact Z_jump gL_law_44 rfl rfl rfl (v := (553, [])) rfl (lc_widthOf hro hq hL hC hM hV hB _ _ _ K)
    · exact Z_jump gL_law_44 rfl rfl rfl (v := (609, [])) rfl (lc_depthOf hro hq hL hC hM hV hB _ _ _ K)
    · exact Z_jump gL_law_44 rfl rfl rfl (v := (665, [])) rfl (lc_occurrences hro hq hL hC hM hV hB _ _ _ K)
    · exact Z_jump gL_law_44 rfl rfl rfl (v := (721, [])) rfl (lc_commonest hro hq hL hC hM hV hB _ _ _ K)
    · exact Z_jump gL_law_44 rfl rfl rfl (v := (765, [])) rfl (lc_pin hro hq hL hC hM hV hB _ _ _ K)
    · exact Z_jump gL_law_44 rfl rfl rfl (v := (861, [])) rfl (lc_isPinned hro hq hL hC hM hV hB _ _ _ K)
    · exact Z_jump gL_law_44 rfl rfl rfl (v := (924, [])) rfl (lc_findings hro hq hL hC hM hV hB _ _ _ K)
    · exact Z_jump gL_law_44 rfl rfl rfl (v := (937, [])) rfl (lc_ruleOf hro hq hL hC hM hV hB _ _ _ K)
    · exact Z_jump gL_law_44 rfl rfl rfl (v := (993, [])) rfl (lc_firstOf hro hq hL hC hM hV hB _ _ _ K)
    · exact Z_jump gL_law_44 rfl rfl rfl (v := (1049, [])) rfl (lc_lastOf hro hq hL hC hM hV hB _ _ _ K)
    · exact Z_jump gL_law_44 rfl rfl rfl (v := (1105, [])) rfl (lc_canFix hro hq hL hC hM hV hB _ _ _ K)
    · exact Z_jump gL_law_44 rfl rfl rfl (v := (1168, [])) rfl (lc_best hro hq hL hC hM hV hB _ _ _ K)
    · exact Z_jump gL_law_44 rfl rfl rfl (v := (1181, [])) rfl (lc_bestByTrying hro hq hL hC hM hV hB _ _ _ K)
    · exact Z_jump gL_law_44 rfl rfl rfl (v := (1225, [])) rfl (lc_isInBest hro hq hL hC hM hV hB _ _ _ K)
    · exact Z_jump gL_law_44 rfl rfl rfl (v := (1288, [])) rfl (lc_fix hro hq hL hC hM hV hB _ _ _ K)
    · exact Z_jump gL_law_44 rfl rfl rfl (v := (1344, [])) rfl (lc_fixBest hro hq hL hC hM hV hB _ _ _ K)
    · exact Z_jump gL_law_44 rfl rfl rfl (v := (1388, [])) rfl (lc_rename hro hq hL hC hM hV hB _ _ _ K)
    · exact Z_jump gL_law_44 rfl rfl rfl (v := (1456, [])) rfl (lc_move hro hq hL hC hM hV hB _ _ _ K)
    · exact Z_jump gL_law_44 rfl rfl rfl (v := (1524, [])) rfl (lc_undo hro hq hL hC hM hV hB _ _ _ K)
    · exact Z_jump gL_law_44 rfl rfl rfl (v := (1568, [])) rfl (lc_weight hro hq hL hC hM hV hB _ _ _ K)
    · exact Z_jump gL_law_44 rfl rfl rfl (v := (1624, [])) rfl (lc_ruleAt hro hq hL hC hM hV hB _ _ _ K)
    · exact Z_jump gL_law_44 rfl rfl rfl (v := (1680, [])) rfl (lc_undone hro hq hL hC hM hV hB _ _ _ K)
    · exact Z_jump gL_law_44 rfl rfl rfl (v := (1735, [])) rfl (lc_undoneShare hro hq hL hC hM hV hB _ _ _ K)
    · exact Z_jump gL_law_44 rfl rfl rfl (v := (1801, [])) rfl (lc_setWidth hro hq hL hC hM hV hB _ _ _ K)
    · exact Z_jump gL_law_44 rfl rfl rfl (v := (1857, [])) rfl (lc_layOut hro hq hL hC hM hV hB _ _ _ K)
    · exact Z_jump gL_law_44 rfl rfl rfl (v := (1870, [])) rfl (lc_isLaidOut hro hq hL hC hM hV hB _ _ _ K)
    · exact Z_jump gL_law_44 rfl rfl rfl (v := (1883, [])) rfl (lc_cost hro hq hL hC hM hV hB _ _ _ K)
    · exact Z_jump gL_law_44 rfl rfl rfl (v := (1896, [])) rfl (lc_costByTrying hro hq hL hC hM hV hB _ _ _ K)
    · exact Z_jump gL_law_44 rfl rfl rfl (v := (1940, [])) rfl (lc_lineOf hro hq hL hC hM hV hB _ _ _ K)
    · exact Z_jump gL_law_44 rfl rfl rfl (v := (1996, [])) rfl (lc_lineWidth hro hq hL hC hM hV hB _ _ _ K)
    · exact Z_jump gL_law_44 rfl rfl rfl (v := (2052, [])) rfl (lc_meanWidth hro hq hL hC hM hV hB _ _ _ K)
    · exact Z_jump gL_law_44 rfl rfl rfl (v := (2117, [])) rfl (lc_isTidy hro hq hL hC hM hV hB _ _ _ K)
theorem lloop (hro : ro (-3) = some (L, f)) (hL : L ≤ 2048) : ∀ m q : Nat, L < 4 * (q + m) + 4 → ∀ (v6 v7 v8 : zV) (w : zW), LI w (150 * q) → Z ro 100 mL_law 28 [(1, -3), (1, ((0 : Nat) : Int)), (1, ((97 : Nat) : Int)), (1, ((117 : Nat) : Int)), (1, ((118 : Nat) : Int)), (0, ((4 * q : Nat) : Int)), v6, v7, v8] [] w (Qn m) := by
  intro m
  induction m with
  | zero =>
    intro q hm v6 v7 v8 w hI
    obtain ⟨x6, y6⟩ := v6
    obtain ⟨x7, y7⟩ := v7
    obtain ⟨x8, y8⟩ := v8
    refine Z_push gL_law_28 (v := (0, ((4 * q : Nat) : Int))) rfl ?_
    refine Z_push gL_law_30 (v := (1, -3)) rfl ?_
    refine Z_lenS gL_law_31 hro ?_
    refine Z_push gL_law_32 (v := (0, 4)) rfl ?_
    refine Z_isub gL_law_33 ⟨by omega, by omega⟩ ?_
    refine Z_icmp_gt gL_law_34 (tgt := 2136) (by decide) (fun _ => ?_) (fun h34 => absurd h34 (by omega))
    refine Z_push gL_law_2136 (v := (0, 1)) rfl ?_
    refine Z_retXB gL_law_2137 rfl (by first | exact Or.inl rfl | exact Or.inr rfl | assumption | omega) ?_
    exact ⟨Nat.le_refl 0, rfl⟩
  | succ m ih =>
    intro q hm v6 v7 v8 w hI
    obtain ⟨x6, y6⟩ := v6
    obtain ⟨x7, y7⟩ := v7
    obtain ⟨x8, y8⟩ := v8
    refine Z_push gL_law_28 (v := (0, ((4 * q : Nat) : Int))) rfl ?_
    refine Z_push gL_law_30 (v := (1, -3)) rfl ?_
    refine Z_lenS gL_law_31 hro ?_
    refine Z_push gL_law_32 (v := (0, 4)) rfl ?_
    refine Z_isub gL_law_33 ⟨by omega, by omega⟩ ?_
    refine Z_icmp_gt gL_law_34 (tgt := 2136) (by decide) (fun h34 => ?_) (fun h34 => ?_)
    · refine Z_push gL_law_2136 (v := (0, 1)) rfl ?_
      refine Z_retXB gL_law_2137 rfl (by first | exact Or.inl rfl | exact Or.inr rfl | assumption | omega) ?_
      exact ⟨Nat.zero_le _, rfl⟩
    · refine lstep hro (by omega) hL hI (by omega) _ _ _ (fun v6 v7 v8 W hW => ?_)
      obtain ⟨x6, y6⟩ := v6
      obtain ⟨x7, y7⟩ := v7
      obtain ⟨x8, y8⟩ := v8
      have hn := ih (q + 1) (by omega) (x6, y6) (x7, y7) (x8, y8) W (by rw [show (150 : Int) * ((q + 1 : Nat) : Int) = 150 * (q : Int) + 150 by omega]; exact hW)
      rw [show ((4 * (q + 1) : Nat) : Int) = ((4 * q : Nat) : Int) + 4 from rfl] at hn
      refine Z_iinc gL_law_2130 rfl ⟨by omega, by omega⟩ (ls' := [(1, -3), (1, ((0 : Nat) : Int)), (1, ((97 : Nat) : Int)), (1, ((117 : Nat) : Int)), (1, ((118 : Nat) : Int)), (0, ((4 * q : Nat) : Int) + 4), (x6, y6), (x7, y7), (x8, y8)]) rfl ?_
      refine Z_goto gL_law_2133 (tgt := 28) (by decide) ?_
      exact hn
end
