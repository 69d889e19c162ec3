/-! the law's row of entries, and two rows compared -/
section
variable {ro : zRo} {d : Nat} {M : zM} {pc : Nat} {ls rest : List zV} {X : List zLE} {w : zW} {Kb : Nat} {Q : (Option zV ⊕ String) → List zLE → zW → Prop}
theorem Y_pick {i : Instr} {a m : Int} (g : zget (zMt M) pc = some (i, 3)) (h1 : zpush (zcon (zMk M)) i 3 ls = none) (h2 : zstore i 3 ls ((0, m) :: (0, a) :: (1, -3) :: rest) = none) (h3 : zarith (zmth (zMk M)) i 3 ((0, m) :: (0, a) :: (1, -3) :: rest) = none) (h4 : zjump i 3 pc ((0, m) :: (0, a) :: (1, -3) :: rest) = none) (h5 : zend (zMr M) i 3 ((0, m) :: (0, a) :: (1, -3) :: rest) = none) (h6 : zthr (zexn (zMk M)) (zMt M) pc i 3 = none)
    (h7 : ∀ S, zheap (zfld (zMk M)) (zcls (zMk M)) zfty (zref (zMk M)) (zstc (zMk M)) (M.1.name == "<init>") ro i 3 ((0, m) :: (0, a) :: (1, -3) :: rest) S = none)
    (hi : zinv (zMk M) i 3 = some (1, 3, mL_pick)) (hb : (rest.all zplain && decide (rest.length ≤ 8)) = true) (hd : 2 ≤ d) (C : Ev ro 1 mL_pick [(1, -3), (0, a), (0, m)] w (fun o w' => ∃ v, o = some (0, v) ∧ (0 ≤ v ∧ v < m) ∧ w' = w))
    (K : ∀ v, 0 ≤ v → v < m → Y ro d M (pc + 3) ls ((0, v) :: rest) X w Kb Q) : Y ro d M pc ls ((0, m) :: (0, a) :: (1, -3) :: rest) X w Kb Q := by
  refine Y_callE (kd := 1) (na := 3) (M' := mL_pick) (d' := 1) g h1 h2 h3 h4 h5 h6 h7 hi ?_ (fun _ _ => rfl) hd C (fun o w' h => ?_)
  · rw [Bool.and_eq_true, decide_eq_true_eq] at hb
    show (decide (3 ≤ rest.length + 1 + 1 + 1) && true && decide (3 ≤ zMl mL_pick) && rest.all zplain && decide (rest.length ≤ 8)) = true
    rw [hb.1, decide_eq_true hb.2, decide_eq_true (show 3 ≤ rest.length + 1 + 1 + 1 by omega)]
    rfl
  · obtain ⟨v, rfl, hv, rfl⟩ := h
    exact K v hv.1 hv.2
end
/-- an entry as the law's row has it -/
def codE (T : zTx) (k : Nat) : Int := 100000 * pT T (k : Int) + 1000 * wT T (k : Int) + (if kT T (k : Int) = 110 then 200 + (T.2 k).2.1 else kT T (k : Int))
def EQ (X : List zLE) (w : zW) (T : zTx) (R : zRu) (D : zDs) (lim la : Int) : (Option zV ⊕ String) → List zLE → zW → Prop := fun r X' w' => ∃ o, r = .inl o ∧ o = some (1, ((97 + X.length : Nat) : Int)) ∧ X' = X ++ [(1, 0, T.1)] ∧ CR w' T R D lim la ∧ (∀ k, k < T.1 → w' (97 + X.length) k = codE T k) ∧ ∀ a k, 97 ≤ a → a < 97 + X.length → w' a k = w a k
section
variable {ro : zRo} {X : List zLE} {w : zW} {T : zTx} {R : zRu} {D : zDs} {lim la B : Int}
theorem tY_entries (hC : CR w T R D lim la) (hV : SV B T R D lim la) : Y ro 37 mL_entries 0 (zargs (zMl mL_entries) [(1, ((0 : Nat) : Int))]) [] X w 130 (EQ X w T R D lim la) := by
  have hT30 := hV.1.1
  have loop : ∀ m k : Nat, k + m = T.1 → ∀ w' : zW, CR w' T R D lim la → (∀ q, q < k → w' (97 + X.length) q = codE T q) → (∀ a k, 97 ≤ a → a < 97 + X.length → w' a k = w a k) → Y ro 37 mL_entries 9 [(1, ((0 : Nat) : Int)), (1, ((97 + X.length : Nat) : Int)), (0, (k : Int))] [] (X ++ [(1, 0, T.1)]) w' (4 * m) (EQ X w T R D lim la) := by
    intro m
    induction m with
    | zero =>
      intro k hk w' hC hE hF
      obtain rfl : k = T.1 := by omega
      have hX : (zLY ++ (X ++ [(1, 0, T.1)]))[97 + X.length]? = some (1, 0, T.1) := get_new X (1, 0, T.1)
      refine Y_push gL_entries_9 (v := (0, (T.1 : Int))) rfl ?_
      refine Y_push gL_entries_10 (v := (1, ((97 + X.length : Nat) : Int))) rfl ?_
      refine Y_len (len := T.1) gL_entries_11 (by assumption) (by decide) ?_
      refine Y_icmp_ge gL_entries_12 (tgt := 76) (by decide) (fun _ => ?_) (fun h12 => absurd h12 (by omega))
      refine Y_push gL_entries_76 (v := (1, ((97 + X.length : Nat) : Int))) rfl ?_
      refine Y_retX (v := (1, ((97 + X.length : Nat) : Int))) gL_entries_77 rfl rfl rfl rfl rfl ?_
      exact ⟨_, rfl, rfl, rfl, hC, hE, hF⟩
    | succ m ih =>
      intro k hk w1 hC1 hE hF1
      have hG1 := frC.refl w1
      have hX : (zLY ++ (X ++ [(1, 0, T.1)]))[97 + X.length]? = some (1, 0, T.1) := get_new X (1, 0, T.1)
      have hin : 0 ≤ (k : Int) ∧ (k : Int) < T.1 := by omega
      have hcd := cdEnt_0 hin
      have hp := pT_01 hV.1 (k : Int)
      have hwt := wT_bd hV.1 (k : Int)
      have hev := hV.1.2 k (by omega)
      have ekt := kT_nat (T := T) (j := k) (by omega)
      have hkv := kT_v hV.1 hin
      have step : ∀ (v : Int) (w2 : zW), CR w2 T R D lim la → frC w1 w2 → v = (if kT T (k : Int) = 110 then 200 + (T.2 k).2.1 else kT T (k : Int)) → 0 ≤ v ∧ v ≤ 1000 → Y ro 37 mL_entries 68 [(1, ((0 : Nat) : Int)), (1, ((97 + X.length : Nat) : Int)), (0, (k : Int))] [(0, v), (0, 100000 * (pT T (k : Int)) + 1000 * (wT T (k : Int))), (0, (k : Int)), (1, ((97 + X.length : Nat) : Int))] (X ++ [(1, 0, T.1)]) w2 (4 * m) (EQ X w T R D lim la) := by
        intro v w2 hC2 hf hv hvb
        have ec : (100000 * (pT T (k : Int)) + 1000 * (wT T (k : Int))) + v = codE T k := by rw [hv]; rfl
        refine Y_iadd gL_entries_68 ⟨by omega, by omega⟩ ?_
        refine Y_iastore gL_entries_69 (by assumption) (by omega) (by omega) (by omega) ?_
        refine Y_iinc gL_entries_70 rfl ⟨by omega, by omega⟩ (ls' := [(1, ((0 : Nat) : Int)), (1, ((97 + X.length : Nat) : Int)), (0, (k : Int) + 1)]) rfl ?_
        refine Y_goto gL_entries_73 (tgt := 9) (by decide) ?_
        refine ih (k + 1) (by omega) _ (CR_97 hC2 (fun a9 k9 h => zup_ne (by omega))) (fun q hq => ?_) (fun a9 k9 h1 h2 => (zup_ne (by omega)).trans ((hf a9 k9 h1).trans (hF1 a9 k9 h1 h2)))
        by_cases e : q = k
        · subst e
          exact (zup_eq _ _ _ _).trans ec
        · exact (zup_ne (fun h => e h.2)).trans ((hf _ _ (by omega)).trans (hE q (by omega)))
      refine Y_push gL_entries_9 (v := (0, (k : Int))) rfl ?_
      refine Y_push gL_entries_10 (v := (1, ((97 + X.length : Nat) : Int))) rfl ?_
      refine Y_len (len := T.1) gL_entries_11 (by assumption) (by decide) ?_
      refine Y_icmp_ge gL_entries_12 (tgt := 76) (by decide) (fun h12 => absurd h12 (by omega)) (fun _ => ?_)
      refine Y_push gL_entries_15 (v := (1, ((97 + X.length : Nat) : Int))) rfl ?_
      refine Y_push gL_entries_16 (v := (0, (k : Int))) rfl ?_
      refine Y_push gL_entries_17 (v := (0, 100000)) rfl ?_
      refine Y_push gL_entries_19 (v := (1, ((0 : Nat) : Int))) rfl ?_
      refine Y_push gL_entries_20 (v := (0, 6)) rfl ?_
      refine Y_push gL_entries_22 (v := (0, (k : Int))) rfl ?_
      refine Y_ask (v := pT T (k : Int)) gL_entries_23 rfl rfl rfl rfl rfl rfl (fun _ => rfl) rfl rfl (by omega) (wA6 hC1 hV (k : Int)) (q_0 hcd) (by omega) (fun w1 hC1 hF1 => ?_)
      have hG1 := hG1.trans hF1
      refine Y_imul gL_entries_26 ⟨by omega, by omega⟩ ?_
      refine Y_push gL_entries_27 (v := (0, 1000)) rfl ?_
      refine Y_push gL_entries_30 (v := (1, ((0 : Nat) : Int))) rfl ?_
      refine Y_push gL_entries_31 (v := (0, 2)) rfl ?_
      refine Y_push gL_entries_32 (v := (0, (k : Int))) rfl ?_
      refine Y_ask (v := wT T (k : Int)) gL_entries_33 rfl rfl rfl rfl rfl rfl (fun _ => rfl) rfl rfl (by omega) (wA2 hC1 hV (k : Int)) (q_0 hcd) (by omega) (fun w2 hC2 hF2 => ?_)
      have hG2 := hG1.trans hF2
      refine Y_imul gL_entries_36 ⟨by omega, by omega⟩ ?_
      refine Y_iadd gL_entries_37 ⟨by omega, by omega⟩ ?_
      refine Y_push gL_entries_38 (v := (1, ((0 : Nat) : Int))) rfl ?_
      refine Y_push gL_entries_39 (v := (0, 0)) rfl ?_
      refine Y_push gL_entries_40 (v := (0, (k : Int))) rfl ?_
      refine Y_ask (v := kT T (k : Int)) gL_entries_41 rfl rfl rfl rfl rfl rfl (fun _ => rfl) rfl rfl (by omega) (wA0 hC2 hV (k : Int)) (q_0 hcd) (by omega) (fun w3 hC3 hF3 => ?_)
      have hG3 := hG2.trans hF3
      refine Y_push gL_entries_44 (v := (0, 110)) rfl ?_
      refine Y_icmp_ne gL_entries_46 (tgt := 62) (by decide) (fun h46 => ?_) (fun h46 => ?_)
      · refine Y_push gL_entries_62 (v := (1, ((0 : Nat) : Int))) rfl ?_
        refine Y_push gL_entries_63 (v := (0, 0)) rfl ?_
        refine Y_push gL_entries_64 (v := (0, (k : Int))) rfl ?_
        refine Y_ask (v := kT T (k : Int)) gL_entries_65 rfl rfl rfl rfl rfl rfl (fun _ => rfl) rfl rfl (by omega) (wA0 hC3 hV (k : Int)) (q_0 hcd) (by omega) (fun w4 hC4 hF4 => ?_)
        have hG4 := hG3.trans hF4
        exact Y_K (by omega) (step _ _ (by assumption) (by assumption) (by rw [if_neg (by omega)]) (by omega))
      · have hnm := hev.2.1 (by omega)
        have ecn : cdNameOf T (k : Int) = 0 := by unfold cdNameOf; rw [if_pos hin, if_pos (by omega)]
        refine Y_push gL_entries_49 (v := (0, 200)) rfl ?_
        refine Y_push gL_entries_52 (v := (1, ((0 : Nat) : Int))) rfl ?_
        refine Y_push gL_entries_53 (v := (0, 1)) rfl ?_
        refine Y_push gL_entries_54 (v := (0, (k : Int))) rfl ?_
        refine Y_ask (v := (T.2 k).2.1) gL_entries_55 rfl rfl rfl rfl rfl rfl (fun _ => rfl) rfl rfl (by omega) (wA1 hC3 hV (k : Int)) (q_0 ecn) (by omega) (fun w5 hC5 hF5 => ?_)
        have hG5 := hG3.trans hF5
        refine Y_iadd gL_entries_58 ⟨by omega, by omega⟩ ?_
        refine Y_goto gL_entries_59 (tgt := 68) (by decide) ?_
        exact Y_K (by omega) (step _ _ (by assumption) (by assumption) (by rw [if_pos (by omega)]) (by omega))
  have hG := frC.refl w
  show Y ro 37 mL_entries 0 [(1, ((0 : Nat) : Int)), (9, 0), (9, 0)] [] X w 130 _
  refine Y_push gL_entries_0 (v := (1, ((0 : Nat) : Int))) rfl ?_
  refine Y_callR (kd := 0) (na := 1) (M' := mX7_entries) (v := (0, (T.1 : Int))) gL_entries_1 rfl rfl rfl rfl rfl rfl (fun _ => rfl) rfl rfl (fun _ _ => zrecv_obj rfl _ _ _) (d' := 1) (by omega) (uX7_entries hC hV) rfl (fun w6 hC6 hF6 => ?_)
  have hG6 := hG.trans hF6
  refine Y_newa (n := T.1) (k := 5) gL_entries_4 (by omega) ⟨by omega, by omega, by omega⟩ ?_
  have h9 := loop T.1 0 (by omega) (wnew w6 (97 + X.length)) (CR_97 (by assumption) (fun a9 k9 h => wnew_ne (by omega) k9)) (fun q h => absurd h (Nat.not_lt_zero _)) (fun a9 k9 h1 h2 => (wnew_ne (by omega) k9).trans ((by assumption : frC w w6) a9 k9 h1))
  refine Y_sto gL_entries_6 rfl (ls' := [(1, ((0 : Nat) : Int)), (1, ((97 + X.length : Nat) : Int)), (9, 0)]) (st' := []) rfl ?_
  refine Y_push gL_entries_7 (v := (0, 0)) rfl ?_
  refine Y_sto gL_entries_8 rfl (ls' := [(1, ((0 : Nat) : Int)), (1, ((97 + X.length : Nat) : Int)), (0, 0)]) (st' := []) rfl ?_
  exact Y_K (by omega) h9
theorem tY_areAlike {a b n : Nat} (hA : (zLY ++ X)[a]? = some (1, 0, n)) (hB : (zLY ++ X)[b]? = some (1, 0, n)) (hn : n ≤ 1000) (hE : ∀ k, k < n → w a k = w b k) : Y ro 0 mL_areAlike 0 (zargs (zMl mL_areAlike) [(1, (a : Int)), (1, (b : Int))]) [] X w 0 (fun r X' w' => ∃ o, r = .inl o ∧ o = some (0, 1) ∧ X' = X ∧ w' = w) := by
  have loop : ∀ m k : Nat, k + m = n → Y ro 0 mL_areAlike 15 [(1, (a : Int)), (1, (b : Int)), (0, 1), (0, (k : Int))] [] X w 0 (fun r X' w' => ∃ o, r = .inl o ∧ o = some (0, 1) ∧ X' = X ∧ w' = w) := by
    intro m
    induction m with
    | zero =>
      intro k hk
      obtain rfl : k = n := by omega
      refine Y_push gL_areAlike_15 (v := (0, (k : Int))) rfl ?_
      refine Y_push gL_areAlike_16 (v := (1, ((a : Nat) : Int))) rfl ?_
      refine Y_len (len := k) gL_areAlike_17 (by assumption) (by decide) ?_
      refine Y_icmp_ge gL_areAlike_18 (tgt := 46) (by decide) (fun _ => ?_) (fun h18 => absurd h18 (by omega))
      refine Y_push gL_areAlike_46 (v := (0, 1)) rfl ?_
      refine Y_retXB gL_areAlike_47 rfl (by first | exact Or.inl rfl | exact Or.inr rfl | assumption | omega) ?_
      exact ⟨_, rfl, rfl, rfl, rfl⟩
    | succ m ih =>
      intro k hk
      have h9 := ih (k + 1) (by omega)
      rw [show ((k + 1 : Nat) : Int) = (k : Int) + 1 from rfl] at h9
      refine Y_push gL_areAlike_15 (v := (0, (k : Int))) rfl ?_
      refine Y_push gL_areAlike_16 (v := (1, ((a : Nat) : Int))) rfl ?_
      refine Y_len (len := n) gL_areAlike_17 (by assumption) (by decide) ?_
      refine Y_icmp_ge gL_areAlike_18 (tgt := 46) (by decide) (fun h18 => absurd h18 (by omega)) (fun _ => ?_)
      refine Y_push gL_areAlike_21 (v := (0, 1)) rfl ?_
      refine Y_if_eq gL_areAlike_22 (tgt := 46) (by decide) (fun h22 => absurd h22 (by decide)) (fun _ => ?_)
      refine Y_push gL_areAlike_25 (v := (1, ((a : Nat) : Int))) rfl ?_
      refine Y_push gL_areAlike_26 (v := (0, (k : Int))) rfl ?_
      refine Y_ialoadV (v := w a k) gL_areAlike_27 (by assumption) (by omega) (by omega) rfl ?_
      refine Y_push gL_areAlike_28 (v := (1, ((b : Nat) : Int))) rfl ?_
      refine Y_push gL_areAlike_29 (v := (0, (k : Int))) rfl ?_
      refine Y_ialoadV (v := w a k) gL_areAlike_30 (by assumption) (by omega) (by omega) (hE k (by omega)).symm ?_
      refine Y_icmp_ne gL_areAlike_31 (tgt := 38) (by decide) (fun h31 => absurd h31 (fun h => h rfl)) (fun _ => ?_)
      refine Y_push gL_areAlike_34 (v := (0, 1)) rfl ?_
      refine Y_goto gL_areAlike_35 (tgt := 39) (by decide) ?_
      refine Y_sto gL_areAlike_39 rfl (ls' := [(1, ((a : Nat) : Int)), (1, ((b : Nat) : Int)), (0, 1), (0, (k : Int))]) (st' := []) rfl ?_
      refine Y_iinc gL_areAlike_40 rfl ⟨by omega, by omega⟩ (ls' := [(1, ((a : Nat) : Int)), (1, ((b : Nat) : Int)), (0, 1), (0, (k : Int) + 1)]) rfl ?_
      refine Y_goto gL_areAlike_43 (tgt := 15) (by decide) ?_
      exact h9
  show Y ro 0 mL_areAlike 0 [(1, (a : Int)), (1, (b : Int)), (9, 0), (9, 0)] [] X w 0 _
  refine Y_push gL_areAlike_0 (v := (1, ((a : Nat) : Int))) rfl ?_
  refine Y_len (len := n) gL_areAlike_1 (by assumption) (by decide) ?_
  refine Y_push gL_areAlike_2 (v := (1, ((b : Nat) : Int))) rfl ?_
  refine Y_len (len := n) gL_areAlike_3 (by assumption) (by decide) ?_
  refine Y_icmp_ne gL_areAlike_4 (tgt := 11) (by decide) (fun h4 => absurd h4 (fun h => h rfl)) (fun _ => ?_)
  refine Y_push gL_areAlike_7 (v := (0, 1)) rfl ?_
  refine Y_goto gL_areAlike_8 (tgt := 12) (by decide) ?_
  refine Y_sto gL_areAlike_12 rfl (ls' := [(1, ((a : Nat) : Int)), (1, ((b : Nat) : Int)), (0, 1), (9, 0)]) (st' := []) rfl ?_
  refine Y_push gL_areAlike_13 (v := (0, 0)) rfl ?_
  refine Y_sto gL_areAlike_14 rfl (ls' := [(1, ((a : Nat) : Int)), (1, ((b : Nat) : Int)), (0, 1), (0, 0)]) (st' := []) rfl ?_
  exact loop n 0 (by omega)
end
