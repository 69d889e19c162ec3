/-! the law's areLines -/
theorem zq_sq {x : Int} (h : 0 ≤ x ∧ x ≤ 1000) : zi32 (x * x) := by
  have := sq_small h.1 h.2
  exact ⟨by omega, by omega⟩
section
variable {T : zTx} {lim : Int}
theorem lc_last (hV : TV T) (h2 : 13 ≤ lim ∧ lim ≤ 60) (hn : 0 < T.1) : lnE T lim (T.1 - 1) + 1 = lcE T lim := by
  obtain ⟨a, b, c⟩ := ln_spec hV h2 (k := T.1 - 1) (by omega)
  have d := lc_iff hV h2 (lnE T lim (T.1 - 1) + 1)
  omega
theorem ln_zero (hV : TV T) (h2 : 13 ≤ lim ∧ lim ≤ 60) (hn : 0 < T.1) : lnE T lim 0 = 0 := ln_uniq hV h2 hn (Nat.zero_le _) (st_lt hV h2 (i := 0) hn)
theorem ln_step (hV : TV T) (h2 : 13 ≤ lim ∧ lim ≤ 60) {k : Nat} (hk : k + 1 < T.1) : lnE T lim (k + 1) = lnE T lim k ∨ (lnE T lim (k + 1) = lnE T lim k + 1 ∧ (pT T (k : Int) = 0 ∨ pT T ((k : Int) + 1) = 0)) := by
  obtain ⟨a, b, c⟩ := ln_spec hV h2 (k := k) (by omega)
  by_cases h : k + 1 < stE T lim (lnE T lim k + 1)
  · exact Or.inl (ln_uniq hV h2 hk (by omega) h)
  · have e : stE T lim (lnE T lim k + 1) = k + 1 := by omega
    have h1 : stE T lim (lnE T lim k) < T.1 := by omega
    obtain ⟨q, q1, q2, q3, -⟩ := nx_spec hV h2 h1
    rw [st_s h1, q2] at e
    have e2 : stE T lim (lnE T lim k) + q = k := by omega
    rw [e2] at q3
    refine Or.inr ⟨ln_uniq hV h2 hk (by rw [st_s h1, q2]; omega) ?_, ?_⟩
    · have e3 : stE T lim (lnE T lim k + 1) < T.1 := by rw [st_s h1, q2]; omega
      have := st_lt hV h2 e3
      rw [st_s h1, q2] at this
      omega
    · unfold cbT at q3
      split at q3
      · rename_i h5; omega
      · exact absurd rfl q3
/-- the width of line l so far -/
def swE (T : zTx) (lim : Int) (l : Nat) : Nat → Int
  | 0 => -1
  | k + 1 => swE T lim l k + (if lnE T lim k = l then wT T (k : Int) + 1 else 0)
theorem sw_val (hV : TV T) (h2 : 13 ≤ lim ∧ lim ≤ 60) {l : Nat} (hl : l < lcE T lim) : ∀ k, k ≤ T.1 → swE T lim l k = if k ≤ stE T lim l then -1 else if k ≤ stE T lim (l + 1) then lwS T (stE T lim l) (k - stE T lim l) else lwS T (stE T lim l) (stE T lim (l + 1) - stE T lim l)
  | 0, _ => by rw [if_pos (Nat.zero_le _)]; rfl
  | k + 1, hk => by
    have ih := sw_val hV h2 hl k (by omega)
    have hs := st_lt hV h2 ((lc_iff hV h2 l).mpr hl)
    have e : swE T lim l (k + 1) = swE T lim l k + (if lnE T lim k = l then wT T (k : Int) + 1 else 0) := rfl
    rw [e, ih]
    by_cases c1 : stE T lim l ≤ k ∧ k < stE T lim (l + 1)
    · rw [if_pos (ln_uniq hV h2 (by omega) c1.1 c1.2), if_neg (show ¬ k + 1 ≤ stE T lim l by omega), if_pos (show k + 1 ≤ stE T lim (l + 1) by omega)]
      have e2 : k + 1 - stE T lim l = (k - stE T lim l) + 1 := by omega
      have e3 : lwS T (stE T lim l) ((k - stE T lim l) + 1) = lwS T (stE T lim l) (k - stE T lim l) + (1 + wT T ((stE T lim l + (k - stE T lim l) : Nat) : Int)) := rfl
      rw [e2, e3, show stE T lim l + (k - stE T lim l) = k by omega]
      by_cases c2 : k = stE T lim l
      · rw [if_pos (by omega), show k - stE T lim l = 0 by omega]
        show (-1 : Int) + _ = -1 + _
        omega
      · rw [if_neg (by omega), if_pos (by omega)]
        omega
    · have hne : lnE T lim k ≠ l := fun e9 => by
        obtain ⟨a, b, -⟩ := ln_spec hV h2 (k := k) (by omega)
        rw [e9] at a b
        exact c1 ⟨a, b⟩
      rw [if_neg hne, Int.add_zero]
      by_cases c2 : k < stE T lim l
      · rw [if_pos (by omega), if_pos (by omega)]
      · rw [if_neg (show ¬ k + 1 ≤ stE T lim l by omega), if_neg (show ¬ k + 1 ≤ stE T lim (l + 1) by omega), if_neg (by omega)]
        by_cases c3 : k ≤ stE T lim (l + 1)
        · rw [if_pos c3, show k = stE T lim (l + 1) by omega]
        · rw [if_neg c3]
theorem sw_end (hV : TV T) (h2 : 13 ≤ lim ∧ lim ≤ 60) {l : Nat} (hl : l < lcE T lim) : swE T lim l T.1 = lwS T (stE T lim l) (stE T lim (l + 1) - stE T lim l) := by
  have hs := st_lt hV h2 ((lc_iff hV h2 l).mpr hl)
  have hs2 := st_le hV h2 (l + 1)
  rw [sw_val hV h2 hl T.1 (Nat.le_refl _), if_neg (by omega)]
  split
  · rw [show T.1 = stE T lim (l + 1) by omega]
  · rfl
theorem sw_bd (hV : TV T) (l : Nat) : ∀ k : Nat, -1 ≤ swE T lim l k ∧ swE T lim l k ≤ 14 * k - 1
  | 0 => ⟨by show (-1 : Int) ≤ -1; omega, by show (-1 : Int) ≤ 14 * 0 - 1; omega⟩
  | k + 1 => by
    have := sw_bd hV l k
    have := wT_bd hV (k : Int)
    unfold swE
    split <;> omega
/-- the cost of line l as the law sums it -/
theorem lE_next (hV : TV T) (h2 : 13 ≤ lim ∧ lim ≤ 60) {l : Nat} (hl : l < lcE T lim) {c : Int} (hc : c = costl (swE T lim l T.1) lim (if l + 1 = lcE T lim then 1 else 0)) : lE T lim 0 - lE T lim (stE T lim l) + c = lE T lim 0 - lE T lim (stE T lim (l + 1)) := by
  rw [hc, sw_end hV h2 hl, lE_line hV h2 hl]
  omega
end
section
variable {ro : zRo} {X : List zLE} {w : zW} {T : zTx} {R : zRu} {D : zDs} {lim la B : Int}
theorem cdLO_0 {i : Int} (h : 0 ≤ i ∧ i < T.1) : cdLO T 1 i = 0 := by unfold cdLO; rw [if_pos h, if_neg (by decide)]
theorem cdLW_0 {i : Int} (h : 0 ≤ i ∧ i < (lcE T lim : Int)) : cdLW T lim 1 i = 0 := by unfold cdLW; rw [if_neg (by decide), if_pos h]
theorem cdLW_2 {i : Int} (h : ¬ (0 ≤ i ∧ i < (lcE T lim : Int))) : cdLW T lim 1 i = 2 := by unfold cdLW; rw [if_neg (by decide), if_neg h]
theorem tY_linesOut (hC : CR w T R D lim 0) (hV : SV B T R D lim 0) (u5 u6 u7 u8 u9 : zV) : Y ro 37 mL_areLines 51 [(1, ((0 : Nat) : Int)), (0, lim), (0, (T.1 : Int)), (0, lE T lim 0), (0, 1), u5, u6, u7, u8, u9] [] X w 2 (QT T R D lim 0) := by
  have hG := frC.refl w
  have e17 : rV (ans (some (0, lwS T (stE T lim ((0 : Int)).toNat) (stE T lim (((0 : Int)).toNat + 1) - stE T lim ((0 : Int)).toNat))) ["java/lang/IllegalStateException", "java/util/NoSuchElementException"] (cdLW T lim 0 0)) = -2003 := q_1 (if_pos rfl) exC_IS
  by_cases h : T.1 = 0
  · refine Y_push gL_areLines_51 (v := (0, 1)) rfl ?_
    refine Y_if_eq gL_areLines_53 (tgt := 96) (by decide) (fun h53 => absurd h53 (by decide)) (fun _ => ?_)
    refine Y_push gL_areLines_56 (v := (1, ((0 : Nat) : Int))) rfl ?_
    refine Y_push gL_areLines_57 (v := (0, 16)) rfl ?_
    refine Y_push gL_areLines_59 (v := (0, 0)) rfl ?_
    refine Y_ask (v := -2001) gL_areLines_60 rfl rfl rfl rfl rfl rfl (fun _ => rfl) rfl rfl (by omega) (wA16 hC hV 0) (q_1 (if_neg (by omega)) exC_IX) (by omega) (fun w1 hC1 hF1 => ?_)
    have hG1 := hG.trans hF1
    refine Y_push gL_areLines_63 (v := (0, (T.1 : Int))) rfl ?_
    refine Y_if_ne gL_areLines_64 (tgt := 73) (by decide) (fun h64 => absurd h64 (by omega)) (fun _ => ?_)
    refine Y_push gL_areLines_67 (v := (0, -2001)) rfl ?_
    refine Y_goto gL_areLines_70 (tgt := 76) (by decide) ?_
    refine Y_icmp_ne gL_areLines_76 (tgt := 96) (by decide) (fun h76 => absurd h76 (by decide)) (fun _ => ?_)
    refine Y_push gL_areLines_79 (v := (1, ((0 : Nat) : Int))) rfl ?_
    refine Y_push gL_areLines_80 (v := (0, 17)) rfl ?_
    refine Y_push gL_areLines_82 (v := (0, 0)) rfl ?_
    refine Y_ask (v := -2003) gL_areLines_83 rfl rfl rfl rfl rfl rfl (fun _ => rfl) rfl rfl (by omega) (wA17 hC1 hV 0) e17 (by omega) (fun w2 hC2 hF2 => ?_)
    have hG2 := hG1.trans hF2
    refine Y_push gL_areLines_86 (v := (0, -2003)) rfl ?_
    refine Y_icmp_ne gL_areLines_89 (tgt := 96) (by decide) (fun h89 => absurd h89 (by decide)) (fun _ => ?_)
    refine Y_push gL_areLines_92 (v := (0, 1)) rfl ?_
    refine Y_goto gL_areLines_93 (tgt := 97) (by decide) ?_
    refine Y_retXB gL_areLines_97 rfl (by first | exact Or.inl rfl | exact Or.inr rfl | assumption | omega) ?_
    exact ⟨_, rfl, rfl, by assumption⟩
  · refine Y_push gL_areLines_51 (v := (0, 1)) rfl ?_
    refine Y_if_eq gL_areLines_53 (tgt := 96) (by decide) (fun h53 => absurd h53 (by decide)) (fun _ => ?_)
    refine Y_push gL_areLines_56 (v := (1, ((0 : Nat) : Int))) rfl ?_
    refine Y_push gL_areLines_57 (v := (0, 16)) rfl ?_
    refine Y_push gL_areLines_59 (v := (0, 0)) rfl ?_
    refine Y_ask (v := -2003) gL_areLines_60 rfl rfl rfl rfl rfl rfl (fun _ => rfl) rfl rfl (by omega) (wA16 hC hV 0) (q_2 ((if_pos (show (0 : Int) ≤ 0 ∧ (0 : Int) < T.1 by omega)).trans (if_pos rfl)) exC_IS) (by omega) (fun w3 hC3 hF3 => ?_)
    have hG3 := hG.trans hF3
    refine Y_push gL_areLines_63 (v := (0, (T.1 : Int))) rfl ?_
    refine Y_if_ne gL_areLines_64 (tgt := 73) (by decide) (fun _ => ?_) (fun h64 => absurd h64 (by omega))
    refine Y_push gL_areLines_73 (v := (0, -2003)) rfl ?_
    refine Y_icmp_ne gL_areLines_76 (tgt := 96) (by decide) (fun h76 => absurd h76 (by decide)) (fun _ => ?_)
    refine Y_push gL_areLines_79 (v := (1, ((0 : Nat) : Int))) rfl ?_
    refine Y_push gL_areLines_80 (v := (0, 17)) rfl ?_
    refine Y_push gL_areLines_82 (v := (0, 0)) rfl ?_
    refine Y_ask (v := -2003) gL_areLines_83 rfl rfl rfl rfl rfl rfl (fun _ => rfl) rfl rfl (by omega) (wA17 hC3 hV 0) e17 (by omega) (fun w4 hC4 hF4 => ?_)
    have hG4 := hG3.trans hF4
    refine Y_push gL_areLines_86 (v := (0, -2003)) rfl ?_
    refine Y_icmp_ne gL_areLines_89 (tgt := 96) (by decide) (fun h89 => absurd h89 (by decide)) (fun _ => ?_)
    refine Y_push gL_areLines_92 (v := (0, 1)) rfl ?_
    refine Y_goto gL_areLines_93 (tgt := 97) (by decide) ?_
    refine Y_retXB gL_areLines_97 rfl (by first | exact Or.inl rfl | exact Or.inr rfl | assumption | omega) ?_
    exact ⟨_, rfl, rfl, by assumption⟩
theorem tY_linesIn (hC : CR w T R D lim 1) (hV : SV B T R D lim 1) (u5 u6 u7 u8 u9 : zV) : Y ro 37 mL_areLines 98 [(1, ((0 : Nat) : Int)), (0, lim), (0, (T.1 : Int)), (0, lE T lim 0), (0, 1), u5, u6, u7, u8, u9] [] X w 1990 (QT T R D lim 1) := by
  have hTV := hV.1
  have hT30 := hV.1.1
  have h2 := hV.2.2.2.1
  have hlc := lc_le T lim
  -- what the lines cost
  have loopB : ∀ m l : Nat, l + m = lcE T lim → ∀ (u8 u9 : zV) (w : zW), CR w T R D lim 1 → Y ro 37 mL_areLines 243 [(1, ((0 : Nat) : Int)), (0, lim), (0, (T.1 : Int)), (0, lE T lim 0), (0, 1), (0, lE T lim 0 - lE T lim (stE T lim l)), (0, (lcE T lim : Int)), (0, (l : Int)), u8, u9] [] X w (61 * m + 4) (QT T R D lim 1) := by
    intro m
    induction m with
    | zero =>
      intro l hl u8 u9 w hC
      obtain rfl : l = lcE T lim := by omega
      have hG := frC.refl w
      rw [st_lc hTV h2, lE_end (Nat.le_refl _), Int.sub_zero]
      refine Y_push gL_areLines_243 (v := (0, (lcE T lim : Int))) rfl ?_
      refine Y_push gL_areLines_245 (v := (0, (lcE T lim : Int))) rfl ?_
      refine Y_icmp_ge gL_areLines_247 (tgt := 373) (by decide) (fun _ => ?_) (fun h247 => absurd h247 (by omega))
      refine Y_push gL_areLines_373 (v := (0, 1)) rfl ?_
      refine Y_if_eq gL_areLines_375 (tgt := 435) (by decide) (fun h375 => absurd h375 (by decide)) (fun _ => ?_)
      refine Y_push gL_areLines_378 (v := (0, lE T lim 0)) rfl ?_
      refine Y_push gL_areLines_380 (v := (0, lE T lim 0)) rfl ?_
      refine Y_icmp_ne gL_areLines_381 (tgt := 435) (by decide) (fun h381 => absurd h381 (by omega)) (fun _ => ?_)
      refine Y_push gL_areLines_384 (v := (1, ((0 : Nat) : Int))) rfl ?_
      refine Y_push gL_areLines_385 (v := (0, 17)) rfl ?_
      refine Y_push gL_areLines_387 (v := (0, (lcE T lim : Int))) rfl ?_
      refine Y_ask (v := -2005) gL_areLines_389 rfl rfl rfl rfl rfl rfl (fun _ => rfl) rfl rfl (by omega) (wA17 hC hV (lcE T lim : Int)) (q_2 (cdLW_2 (by omega)) exC_NS) (by omega) (fun w5 hC5 hF5 => ?_)
      have hG5 := hG.trans hF5
      refine Y_push gL_areLines_392 (v := (0, -2005)) rfl ?_
      refine Y_icmp_ne gL_areLines_395 (tgt := 435) (by decide) (fun h395 => absurd h395 (by decide)) (fun _ => ?_)
      refine Y_push gL_areLines_398 (v := (1, ((0 : Nat) : Int))) rfl ?_
      refine Y_push gL_areLines_399 (v := (0, 17)) rfl ?_
      refine Y_push gL_areLines_401 (v := (0, -1)) rfl ?_
      refine Y_ask (v := -2005) gL_areLines_402 rfl rfl rfl rfl rfl rfl (fun _ => rfl) rfl rfl (by omega) (wA17 hC5 hV (-1)) (q_2 (cdLW_2 (by omega)) exC_NS) (by omega) (fun w6 hC6 hF6 => ?_)
      have hG6 := hG5.trans hF6
      refine Y_push gL_areLines_405 (v := (0, -2005)) rfl ?_
      refine Y_icmp_ne gL_areLines_408 (tgt := 435) (by decide) (fun h408 => absurd h408 (by decide)) (fun _ => ?_)
      refine Y_push gL_areLines_411 (v := (1, ((0 : Nat) : Int))) rfl ?_
      refine Y_push gL_areLines_412 (v := (0, 12)) rfl ?_
      refine Y_push gL_areLines_414 (v := (0, 0)) rfl ?_
      refine Y_push gL_areLines_415 (v := (0, 0)) rfl ?_
      refine Y_deed (v := (lcE T lim : Int)) gL_areLines_416 rfl rfl rfl rfl rfl rfl (fun _ => rfl) rfl rfl (by omega) (wD12 hC6 hV 0 0) rfl (by omega) (fun w900 hD900 hZ900 hF900 => ?_)
      have hG900 := hG6.trans hF900
      have hC900 := hD900 rfl
      refine Y_push gL_areLines_419 (v := (0, (lcE T lim : Int))) rfl ?_
      refine Y_icmp_ne gL_areLines_421 (tgt := 435) (by decide) (fun h421 => absurd h421 (by omega)) (fun _ => ?_)
      refine Y_push gL_areLines_424 (v := (1, ((0 : Nat) : Int))) rfl ?_
      refine Y_callR (kd := 0) (na := 1) (M' := mX7_isTidy) (v := (0, 1)) gL_areLines_425 rfl rfl rfl rfl rfl rfl (fun _ => rfl) rfl rfl (fun _ _ => zrecv_obj rfl _ _ _) (d' := 34) (by omega) (uX7_isTidy hC900 hV) rfl (fun w7 hC7 hF7 => ?_)
      have hG7 := hG900.trans hF7
      refine Y_if_eq gL_areLines_428 (tgt := 435) (by decide) (fun h428 => absurd h428 (by decide)) (fun _ => ?_)
      refine Y_push gL_areLines_431 (v := (0, 1)) rfl ?_
      refine Y_goto gL_areLines_432 (tgt := 436) (by decide) ?_
      refine Y_retXB gL_areLines_436 rfl (by first | exact Or.inl rfl | exact Or.inr rfl | assumption | omega) ?_
      exact ⟨_, rfl, rfl, by assumption⟩
    | succ m ih =>
      intro l hl u8 u9 w hC
      have hll : l < lcE T lim := by omega
      have hn := ih (l + 1) (by omega)
      have hb1 := lE_bd' hTV h2 0
      have hb2 := lE_bd' hTV h2 (stE T lim l)
      have hb3 := lE_bd' hTV h2 (stE T lim (l + 1))
      have hsw := sw_bd hTV (lim := lim) l T.1
      have nx : ∀ (c : Int) (w : zW), CR w T R D lim 1 → c = costl (swE T lim l T.1) lim (if l + 1 = lcE T lim then 1 else 0) → Y ro 37 mL_areLines 364 [(1, ((0 : Nat) : Int)), (0, lim), (0, (T.1 : Int)), (0, lE T lim 0), (0, 1), (0, lE T lim 0 - lE T lim (stE T lim l)), (0, (lcE T lim : Int)), (0, (l : Int)), (0, swE T lim l T.1), (0, (T.1 : Int))] [(0, c), (0, lE T lim 0 - lE T lim (stE T lim l))] X w (61 * m + 4) (QT T R D lim 1) := by
        intro c w hC hc
        have e9 := lE_next hTV h2 hll hc
        have h9 := hn (0, swE T lim l T.1) (0, (T.1 : Int)) w hC
        rw [← e9] at h9
        refine Y_iadd gL_areLines_364 ⟨by omega, by omega⟩ ?_
        refine Y_sto gL_areLines_365 rfl (ls' := [(1, ((0 : Nat) : Int)), (0, lim), (0, (T.1 : Int)), (0, lE T lim 0), (0, 1), (0, (lE T lim 0 - lE T lim (stE T lim l)) + c), (0, (lcE T lim : Int)), (0, (l : Int)), (0, swE T lim l T.1), (0, (T.1 : Int))]) (st' := []) rfl ?_
        refine Y_iinc gL_areLines_367 rfl ⟨by omega, by omega⟩ (ls' := [(1, ((0 : Nat) : Int)), (0, lim), (0, (T.1 : Int)), (0, lE T lim 0), (0, 1), (0, (lE T lim 0 - lE T lim (stE T lim l)) + c), (0, (lcE T lim : Int)), (0, (l : Int) + 1), (0, swE T lim l T.1), (0, (T.1 : Int))]) rfl ?_
        refine Y_goto gL_areLines_370 (tgt := 243) (by decide) ?_
        exact h9
      have after : ∀ (w : zW), CR w T R D lim 1 → Y ro 37 mL_areLines 304 [(1, ((0 : Nat) : Int)), (0, lim), (0, (T.1 : Int)), (0, lE T lim 0), (0, 1), (0, lE T lim 0 - lE T lim (stE T lim l)), (0, (lcE T lim : Int)), (0, (l : Int)), (0, swE T lim l T.1), (0, (T.1 : Int))] [] X w (61 * m + 5) (QT T R D lim 1) := by
        intro w hC
        have hG := frC.refl w
        have hT14 : swE T lim l T.1 ≤ 419 := by omega
        refine Y_push gL_areLines_304 (v := (1, ((0 : Nat) : Int))) rfl ?_
        refine Y_push gL_areLines_305 (v := (0, 17)) rfl ?_
        refine Y_push gL_areLines_307 (v := (0, (l : Int))) rfl ?_
        refine Y_ask (v := swE T lim l T.1) gL_areLines_309 rfl rfl rfl rfl rfl rfl (fun _ => rfl) rfl rfl (by omega) (wA17 hC hV (l : Int)) ((q_0 (cdLW_0 ⟨by omega, by omega⟩)).trans (sw_end hTV h2 hll).symm) (by omega) (fun w8 hC8 hF8 => ?_)
        have hG8 := hG.trans hF8
        refine Y_push gL_areLines_312 (v := (0, swE T lim l T.1)) rfl ?_
        refine Y_icmp_ne gL_areLines_314 (tgt := 321) (by decide) (fun h314 => absurd h314 (by omega)) (fun _ => ?_)
        refine Y_push gL_areLines_317 (v := (0, 1)) rfl ?_
        refine Y_goto gL_areLines_318 (tgt := 322) (by decide) ?_
        refine Y_sto gL_areLines_322 rfl (ls' := [(1, ((0 : Nat) : Int)), (0, lim), (0, (T.1 : Int)), (0, lE T lim 0), (0, 1), (0, lE T lim 0 - lE T lim (stE T lim l)), (0, (lcE T lim : Int)), (0, (l : Int)), (0, swE T lim l T.1), (0, (T.1 : Int))]) (st' := []) rfl ?_
        refine Y_push gL_areLines_324 (v := (0, lE T lim 0 - lE T lim (stE T lim l))) rfl ?_
        refine Y_push gL_areLines_326 (v := (0, swE T lim l T.1)) rfl ?_
        refine Y_push gL_areLines_328 (v := (0, lim)) rfl ?_
        refine Y_icmp_le gL_areLines_329 (tgt := 342) (by decide) (fun h329 => ?_) (fun h329 => ?_)
        · refine Y_push gL_areLines_342 (v := (0, (l : Int))) rfl ?_
          refine Y_push gL_areLines_344 (v := (0, (lcE T lim : Int))) rfl ?_
          refine Y_push gL_areLines_346 (v := (0, 1)) rfl ?_
          refine Y_isub gL_areLines_347 ⟨by omega, by omega⟩ ?_
          refine Y_icmp_ne gL_areLines_348 (tgt := 355) (by decide) (fun h348 => ?_) (fun h348 => ?_)
          · refine Y_push gL_areLines_355 (v := (0, lim)) rfl ?_
            refine Y_push gL_areLines_356 (v := (0, swE T lim l T.1)) rfl ?_
            refine Y_isub gL_areLines_358 ⟨by omega, by omega⟩ ?_
            refine Y_push gL_areLines_359 (v := (0, lim)) rfl ?_
            refine Y_push gL_areLines_360 (v := (0, swE T lim l T.1)) rfl ?_
            refine Y_isub gL_areLines_362 ⟨by omega, by omega⟩ ?_
            refine Y_imul gL_areLines_363 (zq_sq ⟨by omega, by omega⟩) ?_
            refine Y_K (by omega) (nx _ _ (by assumption) ?_)
            unfold costl
            rw [if_neg (by omega), if_neg (show ¬ l + 1 = lcE T lim by omega), if_neg (by decide)]
          · refine Y_push gL_areLines_351 (v := (0, 0)) rfl ?_
            refine Y_goto gL_areLines_352 (tgt := 364) (by decide) ?_
            refine Y_K (by omega) (nx _ _ (by assumption) ?_)
            unfold costl
            rw [if_neg (by omega), if_pos (show l + 1 = lcE T lim by omega), if_pos (by decide)]
        · refine Y_push gL_areLines_332 (v := (0, 100)) rfl ?_
          refine Y_push gL_areLines_334 (v := (0, swE T lim l T.1)) rfl ?_
          refine Y_push gL_areLines_336 (v := (0, lim)) rfl ?_
          refine Y_isub gL_areLines_337 ⟨by omega, by omega⟩ ?_
          refine Y_imul gL_areLines_338 ⟨by omega, by omega⟩ ?_
          refine Y_goto gL_areLines_339 (tgt := 364) (by decide) ?_
          refine Y_K (by omega) (nx _ _ (by assumption) ?_)
          unfold costl
          rw [if_pos (by omega)]
          omega
      have loopC : ∀ q k : Nat, k + q = T.1 → ∀ (w : zW), CR w T R D lim 1 → Y ro 37 mL_areLines 261 [(1, ((0 : Nat) : Int)), (0, lim), (0, (T.1 : Int)), (0, lE T lim 0), (0, 1), (0, lE T lim 0 - lE T lim (stE T lim l)), (0, (lcE T lim : Int)), (0, (l : Int)), (0, swE T lim l k), (0, (k : Int))] [] X w (61 * m + 5 + 2 * q) (QT T R D lim 1) := by
        intro q
        induction q with
        | zero =>
          intro k hk w hC
          obtain rfl : k = T.1 := by omega
          refine Y_push gL_areLines_261 (v := (0, (T.1 : Int))) rfl ?_
          refine Y_push gL_areLines_263 (v := (0, (T.1 : Int))) rfl ?_
          refine Y_icmp_ge gL_areLines_264 (tgt := 304) (by decide) (fun _ => ?_) (fun h264 => absurd h264 (by omega))
          exact Y_K (by omega) (after _ hC)
        | succ q ihq =>
          intro k hk w hC
          have hG := frC.refl w
          have h9 := ihq (k + 1) (by omega)
          have hb := sw_bd hTV (lim := lim) l k
          have hwb := wT_bd hTV (k : Int)
          have e1 : swE T lim l (k + 1) = swE T lim l k + (if lnE T lim k = l then wT T (k : Int) + 1 else 0) := rfl
          rw [e1, show ((k + 1 : Nat) : Int) = (k : Int) + 1 from rfl] at h9
          by_cases c : lnE T lim k = l
          · rw [if_pos c] at h9
            refine Y_push gL_areLines_261 (v := (0, (k : Int))) rfl ?_
            refine Y_push gL_areLines_263 (v := (0, (T.1 : Int))) rfl ?_
            refine Y_icmp_ge gL_areLines_264 (tgt := 304) (by decide) (fun h264 => absurd h264 (by omega)) (fun _ => ?_)
            refine Y_push gL_areLines_267 (v := (0, swE T lim l k)) rfl ?_
            refine Y_push gL_areLines_269 (v := (1, ((0 : Nat) : Int))) rfl ?_
            refine Y_push gL_areLines_270 (v := (0, 16)) rfl ?_
            refine Y_push gL_areLines_272 (v := (0, (k : Int))) rfl ?_
            refine Y_ask (v := (lnE T lim k : Int)) gL_areLines_274 rfl rfl rfl rfl rfl rfl (fun _ => rfl) rfl rfl (by omega) (wA16 hC hV (k : Int)) (q_0 (cdLO_0 ⟨by omega, by omega⟩)) (by omega) (fun w9 hC9 hF9 => ?_)
            have hG9 := hG.trans hF9
            refine Y_push gL_areLines_277 (v := (0, (l : Int))) rfl ?_
            refine Y_icmp_ne gL_areLines_279 (tgt := 294) (by decide) (fun h279 => absurd h279 (by omega)) (fun _ => ?_)
            refine Y_push gL_areLines_282 (v := (1, ((0 : Nat) : Int))) rfl ?_
            refine Y_push gL_areLines_283 (v := (0, 2)) rfl ?_
            refine Y_push gL_areLines_284 (v := (0, (k : Int))) rfl ?_
            refine Y_ask (v := wT T (k : Int)) gL_areLines_286 rfl rfl rfl rfl rfl rfl (fun _ => rfl) rfl rfl (by omega) (wA2 hC9 hV (k : Int)) (q_0 (cdEnt_0 ⟨by omega, by omega⟩)) (by omega) (fun w10 hC10 hF10 => ?_)
            have hG10 := hG9.trans hF10
            refine Y_push gL_areLines_289 (v := (0, 1)) rfl ?_
            refine Y_iadd gL_areLines_290 ⟨by omega, by omega⟩ ?_
            refine Y_goto gL_areLines_291 (tgt := 295) (by decide) ?_
            refine Y_iadd gL_areLines_295 ⟨by omega, by omega⟩ ?_
            refine Y_sto gL_areLines_296 rfl (ls' := [(1, ((0 : Nat) : Int)), (0, lim), (0, (T.1 : Int)), (0, lE T lim 0), (0, 1), (0, lE T lim 0 - lE T lim (stE T lim l)), (0, (lcE T lim : Int)), (0, (l : Int)), (0, (swE T lim l k) + ((wT T (k : Int)) + 1)), (0, (k : Int))]) (st' := []) rfl ?_
            refine Y_iinc gL_areLines_298 rfl ⟨by omega, by omega⟩ (ls' := [(1, ((0 : Nat) : Int)), (0, lim), (0, (T.1 : Int)), (0, lE T lim 0), (0, 1), (0, lE T lim 0 - lE T lim (stE T lim l)), (0, (lcE T lim : Int)), (0, (l : Int)), (0, (swE T lim l k) + ((wT T (k : Int)) + 1)), (0, (k : Int) + 1)]) rfl ?_
            refine Y_goto gL_areLines_301 (tgt := 261) (by decide) ?_
            exact Y_K (by omega) (h9 _ (by assumption))
          · rw [if_neg c] at h9
            refine Y_push gL_areLines_261 (v := (0, (k : Int))) rfl ?_
            refine Y_push gL_areLines_263 (v := (0, (T.1 : Int))) rfl ?_
            refine Y_icmp_ge gL_areLines_264 (tgt := 304) (by decide) (fun h264 => absurd h264 (by omega)) (fun _ => ?_)
            refine Y_push gL_areLines_267 (v := (0, swE T lim l k)) rfl ?_
            refine Y_push gL_areLines_269 (v := (1, ((0 : Nat) : Int))) rfl ?_
            refine Y_push gL_areLines_270 (v := (0, 16)) rfl ?_
            refine Y_push gL_areLines_272 (v := (0, (k : Int))) rfl ?_
            refine Y_ask (v := (lnE T lim k : Int)) gL_areLines_274 rfl rfl rfl rfl rfl rfl (fun _ => rfl) rfl rfl (by omega) (wA16 hC hV (k : Int)) (q_0 (cdLO_0 ⟨by omega, by omega⟩)) (by omega) (fun w11 hC11 hF11 => ?_)
            have hG11 := hG.trans hF11
            refine Y_push gL_areLines_277 (v := (0, (l : Int))) rfl ?_
            refine Y_icmp_ne gL_areLines_279 (tgt := 294) (by decide) (fun _ => ?_) (fun h279 => absurd h279 (by omega))
            refine Y_push gL_areLines_294 (v := (0, 0)) rfl ?_
            refine Y_iadd gL_areLines_295 ⟨by omega, by omega⟩ ?_
            refine Y_sto gL_areLines_296 rfl (ls' := [(1, ((0 : Nat) : Int)), (0, lim), (0, (T.1 : Int)), (0, lE T lim 0), (0, 1), (0, lE T lim 0 - lE T lim (stE T lim l)), (0, (lcE T lim : Int)), (0, (l : Int)), (0, (swE T lim l k) + 0), (0, (k : Int))]) (st' := []) rfl ?_
            refine Y_iinc gL_areLines_298 rfl ⟨by omega, by omega⟩ (ls' := [(1, ((0 : Nat) : Int)), (0, lim), (0, (T.1 : Int)), (0, lE T lim 0), (0, 1), (0, lE T lim 0 - lE T lim (stE T lim l)), (0, (lcE T lim : Int)), (0, (l : Int)), (0, (swE T lim l k) + 0), (0, (k : Int) + 1)]) rfl ?_
            refine Y_goto gL_areLines_301 (tgt := 261) (by decide) ?_
            exact Y_K (by omega) (h9 _ (by assumption))
      have h9 := loopC T.1 0 (by omega) w hC
      refine Y_push gL_areLines_243 (v := (0, (l : Int))) rfl ?_
      refine Y_push gL_areLines_245 (v := (0, (lcE T lim : Int))) rfl ?_
      refine Y_icmp_ge gL_areLines_247 (tgt := 373) (by decide) (fun h247 => absurd h247 (by omega)) (fun _ => ?_)
      refine Y_push gL_areLines_250 (v := (0, 1)) rfl ?_
      refine Y_if_eq gL_areLines_252 (tgt := 373) (by decide) (fun h252 => absurd h252 (by decide)) (fun _ => ?_)
      refine Y_push gL_areLines_255 (v := (0, -1)) rfl ?_
      refine Y_sto gL_areLines_256 rfl (ls' := [(1, ((0 : Nat) : Int)), (0, lim), (0, (T.1 : Int)), (0, lE T lim 0), (0, 1), (0, lE T lim 0 - lE T lim (stE T lim l)), (0, (lcE T lim : Int)), (0, (l : Int)), (0, -1), u9]) (st' := []) rfl ?_
      refine Y_push gL_areLines_258 (v := (0, 0)) rfl ?_
      refine Y_sto gL_areLines_259 rfl (ls' := [(1, ((0 : Nat) : Int)), (0, lim), (0, (T.1 : Int)), (0, lE T lim 0), (0, 1), (0, lE T lim 0 - lE T lim (stE T lim l)), (0, (lcE T lim : Int)), (0, (l : Int)), (0, -1), (0, 0)]) (st' := []) rfl ?_
      exact Y_K (by omega) h9
  have loopA : ∀ m k : Nat, k + m = T.1 → ∀ (u8 u9 : zV) (w : zW), CR w T R D lim 1 → Y ro 37 mL_areLines 125 [(1, ((0 : Nat) : Int)), (0, lim), (0, (T.1 : Int)), (0, lE T lim 0), (0, 1), (0, 0), (0, (lcE T lim : Int)), (0, (k : Int)), u8, u9] [] X w (4 * m + 1834) (QT T R D lim 1) := by
    intro m
    induction m with
    | zero =>
      intro k hk u8 u9 w hC
      obtain rfl : k = T.1 := by omega
      have h9 := loopB (lcE T lim) 0 (by omega) u8 u9 w hC
      rw [show lE T lim 0 - lE T lim (stE T lim 0) = 0 from Int.sub_self _] at h9
      refine Y_push gL_areLines_125 (v := (0, (T.1 : Int))) rfl ?_
      refine Y_push gL_areLines_127 (v := (0, (T.1 : Int))) rfl ?_
      refine Y_icmp_ge gL_areLines_128 (tgt := 240) (by decide) (fun _ => ?_) (fun h128 => absurd h128 (by omega))
      refine Y_push gL_areLines_240 (v := (0, 0)) rfl ?_
      refine Y_sto gL_areLines_241 rfl (ls' := [(1, ((0 : Nat) : Int)), (0, lim), (0, (T.1 : Int)), (0, lE T lim 0), (0, 1), (0, 0), (0, (lcE T lim : Int)), (0, 0), u8, u9]) (st' := []) rfl ?_
      exact Y_K (by omega) h9
    | succ m ih =>
      intro k hk u8 u9 w hC
      have hG := frC.refl w
      have h9 := ih (k + 1) (by omega)
      rw [show ((k + 1 : Nat) : Int) = (k : Int) + 1 from rfl] at h9
      have hpt := pT_01 hTV (k : Int)
      have back : ∀ (v8 : Int) (w : zW), CR w T R D lim 1 → Y ro 37 mL_areLines 232 [(1, ((0 : Nat) : Int)), (0, lim), (0, (T.1 : Int)), (0, lE T lim 0), (0, 1), (0, 0), (0, (lcE T lim : Int)), (0, (k : Int)), (0, v8), u9] [(0, 1)] X w (4 * m + 1834) (QT T R D lim 1) := by
        intro v8 w hC
        refine Y_sto gL_areLines_232 rfl (ls' := [(1, ((0 : Nat) : Int)), (0, lim), (0, (T.1 : Int)), (0, lE T lim 0), (0, 1), (0, 0), (0, (lcE T lim : Int)), (0, (k : Int)), (0, v8), u9]) (st' := []) rfl ?_
        refine Y_iinc gL_areLines_234 rfl ⟨by omega, by omega⟩ (ls' := [(1, ((0 : Nat) : Int)), (0, lim), (0, (T.1 : Int)), (0, lE T lim 0), (0, 1), (0, 0), (0, (lcE T lim : Int)), (0, (k : Int) + 1), (0, v8), u9]) rfl ?_
        refine Y_goto gL_areLines_237 (tgt := 125) (by decide) ?_
        exact h9 _ _ _ hC
      refine Y_push gL_areLines_125 (v := (0, (k : Int))) rfl ?_
      refine Y_push gL_areLines_127 (v := (0, (T.1 : Int))) rfl ?_
      refine Y_icmp_ge gL_areLines_128 (tgt := 240) (by decide) (fun h128 => absurd h128 (by omega)) (fun _ => ?_)
      refine Y_push gL_areLines_131 (v := (0, 1)) rfl ?_
      refine Y_if_eq gL_areLines_133 (tgt := 240) (by decide) (fun h133 => absurd h133 (by decide)) (fun _ => ?_)
      refine Y_push gL_areLines_136 (v := (0, (k : Int))) rfl ?_
      refine Y_if_ne gL_areLines_138 (tgt := 151) (by decide) (fun h138 => ?_) (fun h138 => ?_)
      · obtain ⟨k, rfl⟩ : ∃ j, k = j + 1 := ⟨k - 1, by omega⟩
        have ek : ((k + 1 : Nat) : Int) - 1 = (k : Int) := by omega
        have hl : k + 1 < T.1 := by omega
        have hst := ln_step hTV h2 hl
        have hlb := (ln_spec hTV h2 (k := k) (by omega)).2.2
        have hlb2 := (ln_spec hTV h2 (k := k + 1) (by omega)).2.2
        have hp1 : pT T ((k : Int) + 1) = pT T ((k + 1 : Nat) : Int) := rfl
        refine Y_push gL_areLines_151 (v := (1, ((0 : Nat) : Int))) rfl ?_
        refine Y_push gL_areLines_152 (v := (0, 16)) rfl ?_
        refine Y_push gL_areLines_154 (v := (0, ((k + 1 : Nat) : Int))) rfl ?_
        refine Y_ask (v := (lnE T lim (k + 1) : Int)) gL_areLines_156 rfl rfl rfl rfl rfl rfl (fun _ => rfl) rfl rfl (by omega) (wA16 hC hV ((k + 1 : Nat) : Int)) (q_0 (cdLO_0 ⟨by omega, by omega⟩)) (by omega) (fun w12 hC12 hF12 => ?_)
        have hG12 := hG.trans hF12
        refine Y_push gL_areLines_159 (v := (1, ((0 : Nat) : Int))) rfl ?_
        refine Y_push gL_areLines_160 (v := (0, 16)) rfl ?_
        refine Y_push gL_areLines_162 (v := (0, ((k + 1 : Nat) : Int))) rfl ?_
        refine Y_push gL_areLines_164 (v := (0, 1)) rfl ?_
        refine Y_isub gL_areLines_165 ⟨by omega, by omega⟩ ?_
        refine Y_ask (v := (lnE T lim k : Int)) gL_areLines_166 rfl rfl rfl rfl rfl rfl (fun _ => rfl) rfl rfl (by omega) (wA16 hC12 hV (((k + 1 : Nat) : Int) - 1)) (by rw [ek]; exact q_0 (cdLO_0 ⟨by omega, by omega⟩)) (by omega) (fun w13 hC13 hF13 => ?_)
        have hG13 := hG12.trans hF13
        refine Y_isub gL_areLines_169 ⟨by omega, by omega⟩ ?_
        refine Y_sto gL_areLines_170 rfl (ls' := [(1, ((0 : Nat) : Int)), (0, lim), (0, (T.1 : Int)), (0, lE T lim 0), (0, 1), (0, 0), (0, (lcE T lim : Int)), (0, ((k + 1 : Nat) : Int)), (0, (lnE T lim (k + 1) : Int) - (lnE T lim k : Int)), u9]) (st' := []) rfl ?_
        refine Y_push gL_areLines_172 (v := (0, ((k + 1 : Nat) : Int))) rfl ?_
        refine Y_if_ne gL_areLines_174 (tgt := 190) (by decide) (fun _ => ?_) (fun h174 => absurd h174 (by omega))
        refine Y_push gL_areLines_190 (v := (0, (lnE T lim (k + 1) : Int) - (lnE T lim k : Int))) rfl ?_
        refine Y_if_eq gL_areLines_192 (tgt := 227) (by decide) (fun h192 => ?_) (fun h192 => ?_)
        · refine Y_push gL_areLines_227 (v := (0, 1)) rfl ?_
          refine Y_goto gL_areLines_228 (tgt := 232) (by decide) ?_
          exact Y_K (by omega) (back _ _ (by assumption))
        · refine Y_push gL_areLines_195 (v := (0, (lnE T lim (k + 1) : Int) - (lnE T lim k : Int))) rfl ?_
          refine Y_push gL_areLines_197 (v := (0, 1)) rfl ?_
          refine Y_icmp_ne gL_areLines_198 (tgt := 231) (by decide) (fun h198 => absurd h198 (by omega)) (fun _ => ?_)
          refine Y_push gL_areLines_201 (v := (1, ((0 : Nat) : Int))) rfl ?_
          refine Y_push gL_areLines_202 (v := (0, 6)) rfl ?_
          refine Y_push gL_areLines_204 (v := (0, ((k + 1 : Nat) : Int))) rfl ?_
          refine Y_ask (v := pT T ((k + 1 : Nat) : Int)) gL_areLines_206 rfl rfl rfl rfl rfl rfl (fun _ => rfl) rfl rfl (by omega) (wA6 hC13 hV ((k + 1 : Nat) : Int)) (q_0 (cdEnt_0 ⟨by omega, by omega⟩)) (by omega) (fun w14 hC14 hF14 => ?_)
          have hG14 := hG13.trans hF14
          refine Y_push gL_areLines_209 (v := (0, 1)) rfl ?_
          refine Y_icmp_ne gL_areLines_210 (tgt := 227) (by decide) (fun h210 => ?_) (fun h210 => ?_)
          · refine Y_push gL_areLines_227 (v := (0, 1)) rfl ?_
            refine Y_goto gL_areLines_228 (tgt := 232) (by decide) ?_
            exact Y_K (by omega) (back _ _ (by assumption))
          · refine Y_push gL_areLines_213 (v := (1, ((0 : Nat) : Int))) rfl ?_
            refine Y_push gL_areLines_214 (v := (0, 6)) rfl ?_
            refine Y_push gL_areLines_216 (v := (0, ((k + 1 : Nat) : Int))) rfl ?_
            refine Y_push gL_areLines_218 (v := (0, 1)) rfl ?_
            refine Y_isub gL_areLines_219 ⟨by omega, by omega⟩ ?_
            refine Y_ask (v := pT T (k : Int)) gL_areLines_220 rfl rfl rfl rfl rfl rfl (fun _ => rfl) rfl rfl (by omega) (wA6 hC14 hV (((k + 1 : Nat) : Int) - 1)) (by rw [ek]; exact q_0 (cdEnt_0 ⟨by omega, by omega⟩)) (by omega) (fun w15 hC15 hF15 => ?_)
            have hG15 := hG14.trans hF15
            refine Y_push gL_areLines_223 (v := (0, 1)) rfl ?_
            refine Y_icmp_eq gL_areLines_224 (tgt := 231) (by decide) (fun h224 => absurd h224 (by omega)) (fun _ => ?_)
            refine Y_push gL_areLines_227 (v := (0, 1)) rfl ?_
            refine Y_goto gL_areLines_228 (tgt := 232) (by decide) ?_
            exact Y_K (by omega) (back _ _ (by assumption))
      · obtain rfl : k = 0 := by omega
        have el0 := ln_zero hTV h2 (by omega)
        refine Y_push gL_areLines_141 (v := (1, ((0 : Nat) : Int))) rfl ?_
        refine Y_push gL_areLines_142 (v := (0, 16)) rfl ?_
        refine Y_push gL_areLines_144 (v := (0, 0)) rfl ?_
        refine Y_ask (v := 0) gL_areLines_145 rfl rfl rfl rfl rfl rfl (fun _ => rfl) rfl rfl (by omega) (wA16 hC hV 0) ((q_0 (cdLO_0 ⟨by omega, by omega⟩)).trans (by show ((lnE T lim 0 : Nat) : Int) = 0; rw [el0]; rfl)) (by omega) (fun w16 hC16 hF16 => ?_)
        have hG16 := hG.trans hF16
        refine Y_goto gL_areLines_148 (tgt := 170) (by decide) ?_
        refine Y_sto gL_areLines_170 rfl (ls' := [(1, ((0 : Nat) : Int)), (0, lim), (0, (T.1 : Int)), (0, lE T lim 0), (0, 1), (0, 0), (0, (lcE T lim : Int)), (0, ((0 : Nat) : Int)), (0, 0), u9]) (st' := []) rfl ?_
        refine Y_push gL_areLines_172 (v := (0, ((0 : Nat) : Int))) rfl ?_
        refine Y_if_ne gL_areLines_174 (tgt := 190) (by decide) (fun h174 => absurd h174 (fun h => h rfl)) (fun _ => ?_)
        refine Y_push gL_areLines_177 (v := (0, 0)) rfl ?_
        refine Y_if_ne gL_areLines_179 (tgt := 186) (by decide) (fun h179 => absurd h179 (by decide)) (fun _ => ?_)
        refine Y_push gL_areLines_182 (v := (0, 1)) rfl ?_
        refine Y_goto gL_areLines_183 (tgt := 232) (by decide) ?_
        exact Y_K (by omega) (back _ _ (by assumption))
  have start : ∀ (w : zW), CR w T R D lim 1 → Y ro 37 mL_areLines 120 [(1, ((0 : Nat) : Int)), (0, lim), (0, (T.1 : Int)), (0, lE T lim 0), (0, 1), (0, 0), u6, u7, u8, u9] [(0, (lcE T lim : Int))] X w 1980 (QT T R D lim 1) := by
    intro w hC
    have h9 := loopA T.1 0 (by omega) u8 u9 w hC
    refine Y_sto gL_areLines_120 rfl (ls' := [(1, ((0 : Nat) : Int)), (0, lim), (0, (T.1 : Int)), (0, lE T lim 0), (0, 1), (0, 0), (0, (lcE T lim : Int)), u7, u8, u9]) (st' := []) rfl ?_
    refine Y_push gL_areLines_122 (v := (0, 0)) rfl ?_
    refine Y_sto gL_areLines_123 rfl (ls' := [(1, ((0 : Nat) : Int)), (0, lim), (0, (T.1 : Int)), (0, lE T lim 0), (0, 1), (0, 0), (0, (lcE T lim : Int)), (0, 0), u8, u9]) (st' := []) rfl ?_
    exact Y_K (by omega) h9
  have hG := frC.refl w
  refine Y_push gL_areLines_98 (v := (0, 0)) rfl ?_
  refine Y_sto gL_areLines_99 rfl (ls' := [(1, ((0 : Nat) : Int)), (0, lim), (0, (T.1 : Int)), (0, lE T lim 0), (0, 1), (0, 0), u6, u7, u8, u9]) (st' := []) rfl ?_
  refine Y_push gL_areLines_101 (v := (0, (T.1 : Int))) rfl ?_
  refine Y_if_ne gL_areLines_102 (tgt := 109) (by decide) (fun h102 => ?_) (fun h102 => ?_)
  · have e8 := lc_last hTV h2 (by omega)
    have e9 : (lnE T lim (T.1 - 1) : Int) + 1 = (lcE T lim : Int) := by omega
    have e7 : (((T.1 : Int)) - 1).toNat = T.1 - 1 := by omega
    rw [← e9] at start
    refine Y_push gL_areLines_109 (v := (1, ((0 : Nat) : Int))) rfl ?_
    refine Y_push gL_areLines_110 (v := (0, 16)) rfl ?_
    refine Y_push gL_areLines_112 (v := (0, (T.1 : Int))) rfl ?_
    refine Y_push gL_areLines_113 (v := (0, 1)) rfl ?_
    refine Y_isub gL_areLines_114 ⟨by omega, by omega⟩ ?_
    refine Y_ask (v := (lnE T lim (T.1 - 1) : Int)) gL_areLines_115 rfl rfl rfl rfl rfl rfl (fun _ => rfl) rfl rfl (by omega) (wA16 hC hV ((T.1 : Int) - 1)) ((q_0 (cdLO_0 ⟨by omega, by omega⟩)).trans (by rw [e7])) (by omega) (fun w17 hC17 hF17 => ?_)
    have hG17 := hG.trans hF17
    refine Y_push gL_areLines_118 (v := (0, 1)) rfl ?_
    refine Y_iadd gL_areLines_119 ⟨by omega, by omega⟩ ?_
    exact Y_K (by omega) (start _ (by assumption))
  · have e8 : lcE T lim = 0 := by omega
    rw [e8] at start
    refine Y_push gL_areLines_105 (v := (0, 0)) rfl ?_
    refine Y_goto gL_areLines_106 (tgt := 120) (by decide) ?_
    exact Y_K (by omega) (start _ (by assumption))
theorem tY_areLines (hC : CR w T R D lim la) (hV : SV B T R D lim la) : Y ro 37 mL_areLines 0 (zargs (zMl mL_areLines) [(1, ((0 : Nat) : Int)), (0, lim)]) [] X w 2000 (QT T R D lim la) := by
  have hG := frC.refl w
  have hb1 := lE_bd' hV.1 hV.2.2.2.1 0
  have st : ∀ (w : zW), CR w T R D lim la → Y ro 37 mL_areLines 44 [(1, ((0 : Nat) : Int)), (0, lim), (0, (T.1 : Int)), (0, lE T lim 0), (0, 1), (9, 0), (9, 0), (9, 0), (9, 0), (9, 0)] [] X w 1995 (QT T R D lim la) := by
    intro w hC
    have hG := frC.refl w
    refine Y_push gL_areLines_44 (v := (1, ((0 : Nat) : Int))) rfl ?_
    refine Y_callR (kd := 0) (na := 1) (M' := mX7_isLaidOut) (v := (0, la)) gL_areLines_45 rfl rfl rfl rfl rfl rfl (fun _ => rfl) rfl rfl (fun _ _ => zrecv_obj rfl _ _ _) (d' := 0) (by omega) (uX7_isLaidOut hC hV) rfl (fun w18 hC18 hF18 => ?_)
    have hG18 := hG.trans hF18
    refine Y_if_ne gL_areLines_48 (tgt := 98) (by decide) (fun h48 => ?_) (fun h48 => ?_)
    · obtain rfl : la = 1 := by rcases hV.2.2.2.2.1 with h | h <;> omega
      exact Y_K (by omega) (tY_linesIn (by assumption) hV _ _ _ _ _)
    · obtain rfl : la = 0 := by omega
      exact Y_K (by omega) (tY_linesOut (by assumption) hV _ _ _ _ _)
  show Y ro 37 mL_areLines 0 [(1, ((0 : Nat) : Int)), (0, lim), (9, 0), (9, 0), (9, 0), (9, 0), (9, 0), (9, 0), (9, 0), (9, 0)] [] X w 2000 _
  by_cases c : 12 < T.1
  · refine Y_push gL_areLines_0 (v := (1, ((0 : Nat) : Int))) rfl ?_
    refine Y_callR (kd := 0) (na := 1) (M' := mX7_entries) (v := (0, (T.1 : Int))) gL_areLines_1 rfl rfl rfl rfl rfl rfl (fun _ => rfl) rfl rfl (fun _ _ => zrecv_obj rfl _ _ _) (d' := 1) (by omega) (uX7_entries hC hV) rfl (fun w19 hC19 hF19 => ?_)
    have hG19 := hG.trans hF19
    refine Y_sto gL_areLines_4 rfl (ls' := [(1, ((0 : Nat) : Int)), (0, lim), (0, (T.1 : Int)), (9, 0), (9, 0), (9, 0), (9, 0), (9, 0), (9, 0), (9, 0)]) (st' := []) rfl ?_
    refine Y_push gL_areLines_5 (v := (1, ((0 : Nat) : Int))) rfl ?_
    refine Y_callR (kd := 0) (na := 1) (M' := mX7_cost) (v := (0, lE T lim 0)) gL_areLines_6 rfl rfl rfl rfl rfl rfl (fun _ => rfl) rfl rfl (fun _ _ => zrecv_obj rfl _ _ _) (d' := 5) (by omega) (uX7_cost hC19 hV) rfl (fun w20 hC20 hF20 => ?_)
    have hG20 := hG19.trans hF20
    refine Y_sto gL_areLines_9 rfl (ls' := [(1, ((0 : Nat) : Int)), (0, lim), (0, (T.1 : Int)), (0, lE T lim 0), (9, 0), (9, 0), (9, 0), (9, 0), (9, 0), (9, 0)]) (st' := []) rfl ?_
    refine Y_push gL_areLines_10 (v := (1, ((0 : Nat) : Int))) rfl ?_
    refine Y_push gL_areLines_11 (v := (0, 15)) rfl ?_
    refine Y_push gL_areLines_13 (v := (0, 0)) rfl ?_
    refine Y_ask (v := -2004) gL_areLines_14 rfl rfl rfl rfl rfl rfl (fun _ => rfl) rfl rfl (by omega) (wA15 hC20 hV 0) (q_1 (if_pos c) exC_UO) (by omega) (fun w21 hC21 hF21 => ?_)
    have hG21 := hG20.trans hF21
    refine Y_push gL_areLines_17 (v := (0, (T.1 : Int))) rfl ?_
    refine Y_push gL_areLines_18 (v := (0, 12)) rfl ?_
    refine Y_icmp_le gL_areLines_20 (tgt := 29) (by decide) (fun h20 => absurd h20 (by omega)) (fun _ => ?_)
    refine Y_push gL_areLines_23 (v := (0, -2004)) rfl ?_
    refine Y_goto gL_areLines_26 (tgt := 30) (by decide) ?_
    refine Y_icmp_ne gL_areLines_30 (tgt := 41) (by decide) (fun h30 => absurd h30 (by decide)) (fun _ => ?_)
    refine Y_push gL_areLines_33 (v := (0, lE T lim 0)) rfl ?_
    refine Y_if_lt gL_areLines_34 (tgt := 41) (by decide) (fun h34 => absurd h34 (by omega)) (fun _ => ?_)
    refine Y_push gL_areLines_37 (v := (0, 1)) rfl ?_
    refine Y_goto gL_areLines_38 (tgt := 42) (by decide) ?_
    refine Y_sto gL_areLines_42 rfl (ls' := [(1, ((0 : Nat) : Int)), (0, lim), (0, (T.1 : Int)), (0, lE T lim 0), (0, 1), (9, 0), (9, 0), (9, 0), (9, 0), (9, 0)]) (st' := []) rfl ?_
    exact Y_K (by omega) (st _ (by assumption))
  · refine Y_push gL_areLines_0 (v := (1, ((0 : Nat) : Int))) rfl ?_
    refine Y_callR (kd := 0) (na := 1) (M' := mX7_entries) (v := (0, (T.1 : Int))) gL_areLines_1 rfl rfl rfl rfl rfl rfl (fun _ => rfl) rfl rfl (fun _ _ => zrecv_obj rfl _ _ _) (d' := 1) (by omega) (uX7_entries hC hV) rfl (fun w22 hC22 hF22 => ?_)
    have hG22 := hG.trans hF22
    refine Y_sto gL_areLines_4 rfl (ls' := [(1, ((0 : Nat) : Int)), (0, lim), (0, (T.1 : Int)), (9, 0), (9, 0), (9, 0), (9, 0), (9, 0), (9, 0), (9, 0)]) (st' := []) rfl ?_
    refine Y_push gL_areLines_5 (v := (1, ((0 : Nat) : Int))) rfl ?_
    refine Y_callR (kd := 0) (na := 1) (M' := mX7_cost) (v := (0, lE T lim 0)) gL_areLines_6 rfl rfl rfl rfl rfl rfl (fun _ => rfl) rfl rfl (fun _ _ => zrecv_obj rfl _ _ _) (d' := 5) (by omega) (uX7_cost hC22 hV) rfl (fun w23 hC23 hF23 => ?_)
    have hG23 := hG22.trans hF23
    refine Y_sto gL_areLines_9 rfl (ls' := [(1, ((0 : Nat) : Int)), (0, lim), (0, (T.1 : Int)), (0, lE T lim 0), (9, 0), (9, 0), (9, 0), (9, 0), (9, 0), (9, 0)]) (st' := []) rfl ?_
    refine Y_push gL_areLines_10 (v := (1, ((0 : Nat) : Int))) rfl ?_
    refine Y_push gL_areLines_11 (v := (0, 15)) rfl ?_
    refine Y_push gL_areLines_13 (v := (0, 0)) rfl ?_
    refine Y_ask (v := lE T lim 0) gL_areLines_14 rfl rfl rfl rfl rfl rfl (fun _ => rfl) rfl rfl (by omega) (wA15 hC23 hV 0) (q_0 (if_neg c)) (by omega) (fun w24 hC24 hF24 => ?_)
    have hG24 := hG23.trans hF24
    refine Y_push gL_areLines_17 (v := (0, (T.1 : Int))) rfl ?_
    refine Y_push gL_areLines_18 (v := (0, 12)) rfl ?_
    refine Y_icmp_le gL_areLines_20 (tgt := 29) (by decide) (fun _ => ?_) (fun h20 => absurd h20 (by omega))
    refine Y_push gL_areLines_29 (v := (0, lE T lim 0)) rfl ?_
    refine Y_icmp_ne gL_areLines_30 (tgt := 41) (by decide) (fun h30 => absurd h30 (by omega)) (fun _ => ?_)
    refine Y_push gL_areLines_33 (v := (0, lE T lim 0)) rfl ?_
    refine Y_if_lt gL_areLines_34 (tgt := 41) (by decide) (fun h34 => absurd h34 (by omega)) (fun _ => ?_)
    refine Y_push gL_areLines_37 (v := (0, 1)) rfl ?_
    refine Y_goto gL_areLines_38 (tgt := 42) (by decide) ?_
    refine Y_sto gL_areLines_42 rfl (ls' := [(1, ((0 : Nat) : Int)), (0, lim), (0, (T.1 : Int)), (0, lE T lim 0), (0, 1), (9, 0), (9, 0), (9, 0), (9, 0), (9, 0)]) (st' := []) rfl ?_
    exact Y_K (by omega) (st _ (by assumption))
end
