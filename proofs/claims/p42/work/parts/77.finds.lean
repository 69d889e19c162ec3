/-! the law's areFindings -/
/-- what those of the best set ahead of entry k are worth -/
def smE (T : zTx) (R : zRu) : Nat → Int
  | 0 => 0
  | k + 1 => smE T R k + (if bsT T R k = true then gnT T R k else 0)
section
variable {T : zTx} {R : zRu} {B : Int}
theorem sm_n {k : Nat} (h : rlT T k = -1) : smE T R (k + 1) = smE T R k := by
  show smE T R k + (if bsT T R k = true then gnT T R k else 0) = _
  rw [bs_n h, if_neg (by decide)]
  omega
theorem sm_inv : ∀ k, smE T R k + sE T R (if frE T R k ≤ k then k else frE T R k) = sE T R 0
  | 0 => by
    show (0 : Int) + sE T R (if (0 : Nat) ≤ 0 then 0 else 0) = _
    rw [if_pos (Nat.le_refl _)]; omega
  | k + 1 => by
    have ih := sm_inv k
    have e : smE T R (k + 1) = smE T R k + (if bsT T R k = true then gnT T R k else 0) := rfl
    cases hb : bsT T R k with
    | true =>
      obtain ⟨h1, h2, h3, h4⟩ := bs_t hb
      have hg := en_gt T k
      rw [if_pos h2] at ih
      rw [e, hb, if_pos rfl, fr_t hb, if_neg (by omega)]
      omega
    | false =>
      rw [e, hb, if_neg (by decide), fr_f hb]
      have hn := of_decide_eq_false hb
      by_cases h2 : frE T R k ≤ k
      · rw [if_pos h2] at ih
        rw [if_pos (by omega)]
        have key : sE T R k = sE T R (k + 1) := by
          by_cases hr : rlT T k = -1
          · exact sE_n hr
          · by_cases hg : gnT T R k = 0
            · exact sE_0 hg
            · rw [sE_f hr]
              split
              · rename_i h5
                exfalso
                by_cases h6 : 0 < gnT T R k
                · exact hn ⟨hr, h2, h6, by rw [sE_f hr, if_pos h5]⟩
                · have h7 := en_gt T k
                  have h8 := sE_dec' (T := T) (R := R) (j := k + 1) (k := enT T k + 1) (by omega)
                  omega
              · rfl
        omega
      · rw [if_neg h2] at ih
        by_cases h3 : frE T R k ≤ k + 1
        · rw [if_pos h3, show k + 1 = frE T R k by omega]; omega
        · rw [if_neg h3]; omega
theorem sm_end : smE T R T.1 = sE T R 0 := by
  have h := sm_inv (T := T) (R := R) T.1
  split at h
  · rw [sE_end (Nat.le_refl _)] at h; omega
  · rw [sE_end (by omega)] at h; omega
theorem sm_bd (hV : RV B R) (hT : T.1 ≤ 30) (k : Nat) : -3000 ≤ smE T R k ∧ smE T R k ≤ 3000 := by
  have h := sm_inv (T := T) (R := R) k
  have h1 := sE_bd' (T := T) hV hT 0
  have h2 := sE_bd' (T := T) hV hT (if frE T R k ≤ k then k else frE T R k)
  omega
theorem cdFnd_at {j : Nat} (h : rlT T j ≠ -1) : cdFnd T (fdN T j : Int) = 0 := by
  have h1 := rl_lt h
  have h2 := (fdN_lt (k := T.1) h).mpr h1
  exact if_pos ⟨by omega, by omega⟩
theorem cdFnd_no {f : Int} (h : ¬ (0 ≤ f ∧ f < (fdN T T.1 : Int))) : cdFnd T f = 1 := if_neg h
theorem cdEnt_0 {i : Int} (h : 0 ≤ i ∧ i < T.1) : cdEnt T i = 0 := if_pos h
theorem cdEnt_1 {i : Int} (h : ¬ (0 ≤ i ∧ i < T.1)) : cdEnt T i = 1 := if_neg h
theorem rl_nat {j : Nat} (h : rlT T j ≠ -1) : ∃ r : Nat, r < 5 ∧ rlT T j = (r : Int) := ⟨(rlT T j).toNat, rl_5 h, by have := rl_cases T j; omega⟩
end
section
variable {ro : zRo} {X : List zLE} {w : zW} {T : zTx} {R : zRu} {D : zDs} {lim la B : Int}
theorem tY_areFindings (hC : CR w T R D lim la) (hV : SV B T R D lim la) : Y ro 37 mL_areFindings 0 (zargs (zMl mL_areFindings) [(1, ((0 : Nat) : Int))]) [] X w 400 (QT T R D lim la) := by
  have hRV := hV.2.1
  have hT30 := hV.1.1
  have hN := fdN_le T T.1
  have loop : ∀ m f : Nat, f + m = fdN T T.1 → ∀ p : Nat, fdN T p = f → ∀ (u7 u8 u9 u10 u11 u12 u13 : zV) (w : zW), CR w T R D lim la → Y ro 37 mL_areFindings 48 [(1, ((0 : Nat) : Int)), (0, (fdN T T.1 : Int)), (0, smE T R p), (0, (frE T R p : Int)), (0, (fxN T R p : Int)), (0, 1), (0, (f : Int)), u7, u8, u9, u10, u11, u12, u13] [] X w (13 * m + 2) (QT T R D lim la) := by
    intro m
    induction m with
    | zero =>
      intro f hf p hp u7 u8 u9 u10 u11 u12 u13 w hC
      have hG := frC.refl w
      have e0 : fdN T p = fdN T T.1 := by omega
      rw [plat (f := smE T R) (fun j h => sm_n h) e0, plat (f := frE T R) (fun j h => fr_f (bs_n h)) e0, plat (f := fxN T R) (fun j h => fx_n h) e0, sm_end]
      by_cases c : 12 < fxN T R T.1
      · refine Y_push gL_areFindings_48 (v := (0, (f : Int))) rfl ?_
        refine Y_push gL_areFindings_50 (v := (0, (fdN T T.1 : Int))) rfl ?_
        refine Y_icmp_ge gL_areFindings_51 (tgt := 351) (by decide) (fun _ => ?_) (fun h51 => absurd h51 (by omega))
        refine Y_push gL_areFindings_351 (v := (0, 1)) rfl ?_
        refine Y_if_eq gL_areFindings_353 (tgt := 392) (by decide) (fun h353 => absurd h353 (by decide)) (fun _ => ?_)
        refine Y_push gL_areFindings_356 (v := (0, sE T R 0)) rfl ?_
        refine Y_push gL_areFindings_357 (v := (1, ((0 : Nat) : Int))) rfl ?_
        refine Y_callR (kd := 0) (na := 1) (M' := mX7_best) (v := (0, sE T R 0)) gL_areFindings_358 rfl rfl rfl rfl rfl rfl (fun _ => rfl) rfl rfl (fun _ _ => zrecv_obj rfl _ _ _) (d' := 6) (by omega) (uX7_best hC hV) rfl (fun w1 hC1 hF1 => ?_)
        have hG1 := hG.trans hF1
        refine Y_icmp_ne gL_areFindings_361 (tgt := 392) (by decide) (fun h361 => absurd h361 (by omega)) (fun _ => ?_)
        refine Y_push gL_areFindings_364 (v := (1, ((0 : Nat) : Int))) rfl ?_
        refine Y_push gL_areFindings_365 (v := (0, 11)) rfl ?_
        refine Y_push gL_areFindings_367 (v := (0, 0)) rfl ?_
        refine Y_ask (v := -2004) gL_areFindings_368 rfl rfl rfl rfl rfl rfl (fun _ => rfl) rfl rfl (by omega) (wA11 hC1 hV 0) (q_1 (if_pos c) exC_UO) (by omega) (fun w2 hC2 hF2 => ?_)
        have hG2 := hG1.trans hF2
        refine Y_push gL_areFindings_371 (v := (0, (fxN T R T.1 : Int))) rfl ?_
        refine Y_push gL_areFindings_373 (v := (0, 12)) rfl ?_
        refine Y_icmp_le gL_areFindings_375 (tgt := 384) (by decide) (fun h375 => absurd h375 (by omega)) (fun _ => ?_)
        refine Y_push gL_areFindings_378 (v := (0, -2004)) rfl ?_
        refine Y_goto gL_areFindings_381 (tgt := 385) (by decide) ?_
        refine Y_icmp_ne gL_areFindings_385 (tgt := 392) (by decide) (fun h385 => absurd h385 (by decide)) (fun _ => ?_)
        refine Y_push gL_areFindings_388 (v := (0, 1)) rfl ?_
        refine Y_goto gL_areFindings_389 (tgt := 393) (by decide) ?_
        refine Y_retXB gL_areFindings_393 rfl (by first | exact Or.inl rfl | exact Or.inr rfl | assumption | omega) ?_
        exact ⟨_, rfl, rfl, by assumption⟩
      · refine Y_push gL_areFindings_48 (v := (0, (f : Int))) rfl ?_
        refine Y_push gL_areFindings_50 (v := (0, (fdN T T.1 : Int))) rfl ?_
        refine Y_icmp_ge gL_areFindings_51 (tgt := 351) (by decide) (fun _ => ?_) (fun h51 => absurd h51 (by omega))
        refine Y_push gL_areFindings_351 (v := (0, 1)) rfl ?_
        refine Y_if_eq gL_areFindings_353 (tgt := 392) (by decide) (fun h353 => absurd h353 (by decide)) (fun _ => ?_)
        refine Y_push gL_areFindings_356 (v := (0, sE T R 0)) rfl ?_
        refine Y_push gL_areFindings_357 (v := (1, ((0 : Nat) : Int))) rfl ?_
        refine Y_callR (kd := 0) (na := 1) (M' := mX7_best) (v := (0, sE T R 0)) gL_areFindings_358 rfl rfl rfl rfl rfl rfl (fun _ => rfl) rfl rfl (fun _ _ => zrecv_obj rfl _ _ _) (d' := 6) (by omega) (uX7_best hC hV) rfl (fun w3 hC3 hF3 => ?_)
        have hG3 := hG.trans hF3
        refine Y_icmp_ne gL_areFindings_361 (tgt := 392) (by decide) (fun h361 => absurd h361 (by omega)) (fun _ => ?_)
        refine Y_push gL_areFindings_364 (v := (1, ((0 : Nat) : Int))) rfl ?_
        refine Y_push gL_areFindings_365 (v := (0, 11)) rfl ?_
        refine Y_push gL_areFindings_367 (v := (0, 0)) rfl ?_
        refine Y_ask (v := sE T R 0) gL_areFindings_368 rfl rfl rfl rfl rfl rfl (fun _ => rfl) rfl rfl (by omega) (wA11 hC3 hV 0) (q_0 (if_neg c)) (by omega) (fun w4 hC4 hF4 => ?_)
        have hG4 := hG3.trans hF4
        refine Y_push gL_areFindings_371 (v := (0, (fxN T R T.1 : Int))) rfl ?_
        refine Y_push gL_areFindings_373 (v := (0, 12)) rfl ?_
        refine Y_icmp_le gL_areFindings_375 (tgt := 384) (by decide) (fun _ => ?_) (fun h375 => absurd h375 (by omega))
        refine Y_push gL_areFindings_384 (v := (0, sE T R 0)) rfl ?_
        refine Y_icmp_ne gL_areFindings_385 (tgt := 392) (by decide) (fun h385 => absurd h385 (by omega)) (fun _ => ?_)
        refine Y_push gL_areFindings_388 (v := (0, 1)) rfl ?_
        refine Y_goto gL_areFindings_389 (tgt := 393) (by decide) ?_
        refine Y_retXB gL_areFindings_393 rfl (by first | exact Or.inl rfl | exact Or.inr rfl | assumption | omega) ?_
        exact ⟨_, rfl, rfl, by assumption⟩
    | succ m ih =>
      intro f hf p hp u7 u8 u9 u10 u11 u12 u13 w hC
      have hG := frC.refl w
      obtain ⟨j, hj, hr, rfl⟩ := fdN_ex (T := T) (i := f) (n := T.1) (by omega)
      obtain ⟨r, hr5, er⟩ := rl_nat hr
      have hcd := cdFnd_at hr
      have hen := en_gt T j
      have hel := en_lt hr
      have hRr := hRV.1 r hr5
      rw [plat (f := smE T R) (fun j h => sm_n h) hp, plat (f := frE T R) (fun j h => fr_f (bs_n h)) hp, plat (f := fxN T R) (fun j h => fx_n h) hp]
      have hsm := sm_bd (T := T) hRV hT30 j
      have hfr := fr_bd (T := T) (R := R) hT30 j
      have hfx := fx_le (T := T) (R := R) j
      have egn : gnT T R j = if pnF T j (enT T j + 1 - j) = 1 then R.1 r else 0 := by
        unfold gnT
        rw [if_neg hr, er]
        rfl
      have p1 : ∀ (v10 v11 v12 : Int) (w : zW), CR w T R D lim la → Y ro 37 mL_areFindings 293 [(1, ((0 : Nat) : Int)), (0, (fdN T T.1 : Int)), (0, smE T R j), (0, (frE T R j : Int)), (0, (fxN T R (j + 1) : Int)), (0, 1), (0, (fdN T j : Int)), (0, (r : Int)), (0, (j : Int)), (0, (enT T j : Int)), (0, v10), (0, v11), (0, v12), (0, (if 0 < gnT T R j then 1 else 0))] [] X w (13 * m + 4) (QT T R D lim la) := by
        intro v10 v11 v12 w hC
        have hG := frC.refl w
        have h9 := ih (fdN T j + 1) (by omega) (j + 1) (fdN_s hr)
        have e1 : smE T R (j + 1) = smE T R j + (if bsT T R j = true then gnT T R j else 0) := rfl
        cases hb : bsT T R j with
        | false =>
          rw [e1, fr_f hb, hb, if_neg (by decide)] at h9
          rw [Int.add_zero] at h9
          refine Y_push gL_areFindings_293 (v := (1, ((0 : Nat) : Int))) rfl ?_
          refine Y_push gL_areFindings_294 (v := (0, 12)) rfl ?_
          refine Y_push gL_areFindings_296 (v := (0, (fdN T j : Int))) rfl ?_
          refine Y_ask (v := 0) gL_areFindings_298 rfl rfl rfl rfl rfl rfl (fun _ => rfl) rfl rfl (by omega) (wA12 hC hV (fdN T j : Int)) ((q_0 hcd).trans (by show b2i (bsT T R (feT T (fdN T j))) = 0; rw [fe_at hr, hb]; rfl)) (by omega) (fun w5 hC5 hF5 => ?_)
          have hG5 := hG.trans hF5
          refine Y_push gL_areFindings_301 (v := (0, 1)) rfl ?_
          refine Y_icmp_ne gL_areFindings_302 (tgt := 345) (by decide) (fun _ => ?_) (fun h302 => absurd h302 (by decide))
          refine Y_iinc gL_areFindings_345 rfl ⟨by omega, by omega⟩ (ls' := [(1, ((0 : Nat) : Int)), (0, (fdN T T.1 : Int)), (0, smE T R j), (0, (frE T R j : Int)), (0, (fxN T R (j + 1) : Int)), (0, 1), (0, (fdN T j : Int) + 1), (0, (r : Int)), (0, (j : Int)), (0, (enT T j : Int)), (0, v10), (0, v11), (0, v12), (0, (if 0 < gnT T R j then 1 else 0))]) rfl ?_
          refine Y_goto gL_areFindings_348 (tgt := 48) (by decide) ?_
          exact Y_K (by omega) (h9 _ _ _ _ _ _ _ _ (by assumption))
        | true =>
          obtain ⟨b1, b2, b3, b4⟩ := bs_t hb
          have e2 : gnT T R j = R.1 r := by
            rw [egn] at b3 ⊢
            split at b3
            · rename_i h; rw [if_pos h]
            · omega
          rw [e1, fr_t hb, hb, if_pos rfl, e2] at h9
          rw [if_pos b3]
          refine Y_push gL_areFindings_293 (v := (1, ((0 : Nat) : Int))) rfl ?_
          refine Y_push gL_areFindings_294 (v := (0, 12)) rfl ?_
          refine Y_push gL_areFindings_296 (v := (0, (fdN T j : Int))) rfl ?_
          refine Y_ask (v := 1) gL_areFindings_298 rfl rfl rfl rfl rfl rfl (fun _ => rfl) rfl rfl (by omega) (wA12 hC hV (fdN T j : Int)) ((q_0 hcd).trans (by show b2i (bsT T R (feT T (fdN T j))) = 1; rw [fe_at hr, hb]; rfl)) (by omega) (fun w6 hC6 hF6 => ?_)
          have hG6 := hG.trans hF6
          refine Y_push gL_areFindings_301 (v := (0, 1)) rfl ?_
          refine Y_icmp_ne gL_areFindings_302 (tgt := 345) (by decide) (fun h302 => absurd h302 (by decide)) (fun _ => ?_)
          refine Y_push gL_areFindings_305 (v := (0, 1)) rfl ?_
          refine Y_if_eq gL_areFindings_307 (tgt := 326) (by decide) (fun h307 => absurd h307 (by decide)) (fun _ => ?_)
          refine Y_push gL_areFindings_310 (v := (0, 1)) rfl ?_
          refine Y_push gL_areFindings_312 (v := (0, 1)) rfl ?_
          refine Y_icmp_ne gL_areFindings_313 (tgt := 326) (by decide) (fun h313 => absurd h313 (by decide)) (fun _ => ?_)
          refine Y_push gL_areFindings_316 (v := (0, (j : Int))) rfl ?_
          refine Y_push gL_areFindings_318 (v := (0, (frE T R j : Int))) rfl ?_
          refine Y_icmp_lt gL_areFindings_319 (tgt := 326) (by decide) (fun h319 => absurd h319 (by omega)) (fun _ => ?_)
          refine Y_push gL_areFindings_322 (v := (0, 1)) rfl ?_
          refine Y_goto gL_areFindings_323 (tgt := 327) (by decide) ?_
          refine Y_sto gL_areFindings_327 rfl (ls' := [(1, ((0 : Nat) : Int)), (0, (fdN T T.1 : Int)), (0, smE T R j), (0, (frE T R j : Int)), (0, (fxN T R (j + 1) : Int)), (0, 1), (0, (fdN T j : Int)), (0, (r : Int)), (0, (j : Int)), (0, (enT T j : Int)), (0, v10), (0, v11), (0, v12), (0, 1)]) (st' := []) rfl ?_
          refine Y_push gL_areFindings_329 (v := (0, smE T R j)) rfl ?_
          refine Y_push gL_areFindings_330 (v := (1, ((0 : Nat) : Int))) rfl ?_
          refine Y_push gL_areFindings_331 (v := (0, 13)) rfl ?_
          refine Y_push gL_areFindings_333 (v := (0, (r : Int))) rfl ?_
          refine Y_ask (v := R.1 r) gL_areFindings_335 rfl rfl rfl rfl rfl rfl (fun _ => rfl) rfl rfl (by omega) (wA13 hC6 hV (r : Int)) (q_0 (cdRule_0 hr5)) (by omega) (fun w7 hC7 hF7 => ?_)
          have hG7 := hG6.trans hF7
          refine Y_iadd gL_areFindings_338 ⟨by omega, by omega⟩ ?_
          refine Y_sto gL_areFindings_339 rfl (ls' := [(1, ((0 : Nat) : Int)), (0, (fdN T T.1 : Int)), (0, (smE T R j) + (R.1 r)), (0, (frE T R j : Int)), (0, (fxN T R (j + 1) : Int)), (0, 1), (0, (fdN T j : Int)), (0, (r : Int)), (0, (j : Int)), (0, (enT T j : Int)), (0, v10), (0, v11), (0, v12), (0, 1)]) (st' := []) rfl ?_
          refine Y_push gL_areFindings_340 (v := (0, (enT T j : Int))) rfl ?_
          refine Y_push gL_areFindings_342 (v := (0, 1)) rfl ?_
          refine Y_iadd gL_areFindings_343 ⟨by omega, by omega⟩ ?_
          refine Y_sto gL_areFindings_344 rfl (ls' := [(1, ((0 : Nat) : Int)), (0, (fdN T T.1 : Int)), (0, (smE T R j) + (R.1 r)), (0, (enT T j : Int) + 1), (0, (fxN T R (j + 1) : Int)), (0, 1), (0, (fdN T j : Int)), (0, (r : Int)), (0, (j : Int)), (0, (enT T j : Int)), (0, v10), (0, v11), (0, v12), (0, 1)]) (st' := []) rfl ?_
          refine Y_iinc gL_areFindings_345 rfl ⟨by omega, by omega⟩ (ls' := [(1, ((0 : Nat) : Int)), (0, (fdN T T.1 : Int)), (0, (smE T R j) + (R.1 r)), (0, (enT T j : Int) + 1), (0, (fxN T R (j + 1) : Int)), (0, 1), (0, (fdN T j : Int) + 1), (0, (r : Int)), (0, (j : Int)), (0, (enT T j : Int)), (0, v10), (0, v11), (0, v12), (0, 1)]) rfl ?_
          refine Y_goto gL_areFindings_348 (tgt := 48) (by decide) ?_
          exact Y_K (by omega) (h9 _ _ _ _ _ _ _ _ (by assumption))
      have p2 : ∀ (v10 v11 : Int) (u13 : zV) (w : zW), CR w T R D lim la → v11 < v10 → Y ro 37 mL_areFindings 200 [(1, ((0 : Nat) : Int)), (0, (fdN T T.1 : Int)), (0, smE T R j), (0, (frE T R j : Int)), (0, (fxN T R j : Int)), (0, 1), (0, (fdN T j : Int)), (0, (r : Int)), (0, (j : Int)), (0, (enT T j : Int)), (0, v10), (0, v11), (0, (if pnF T j (enT T j + 1 - j) = 1 then 0 else 1)), u13] [] X w (13 * m + 6) (QT T R D lim la) := by
        intro v10 v11 u13 w hC hk
        have hG := frC.refl w
        have efx : (fxN T R (j + 1) : Int) = (fxN T R j : Int) + (if 0 < gnT T R j then 1 else 0) := by
          show ((fxN T R j + (if 0 < gnT T R j then 1 else 0) : Nat) : Int) = _
          split <;> rfl
        have ecan : rV (ans (some (0, (if 0 < gnT T R (feT T ((fdN T j : Int)).toNat) then 1 else 0))) ["java/util/NoSuchElementException"] (cdFnd T (fdN T j : Int))) = (if 0 < gnT T R j then 1 else 0) := by
          rw [q_0 hcd]
          show (if 0 < gnT T R (feT T (fdN T j)) then (1 : Int) else 0) = _
          rw [fe_at hr]
        have een : ∀ z : Int, z = (if (r : Int) = 4 then 2 else 1) → (enT T j : Int) = (j : Int) + z := by
          intro z hz
          unfold enT
          rw [er, hz]
          split <;> omega
        have h01 : (if 0 < gnT T R j then (1 : Int) else 0) = 0 ∨ (if 0 < gnT T R j then (1 : Int) else 0) = 1 := by split <;> simp
        -- the rule says how long
        have p3 : ∀ (z : Int) (w : zW), CR w T R D lim la → z = (if (r : Int) = 4 then 2 else 1) → Y ro 37 mL_areFindings 253 [(1, ((0 : Nat) : Int)), (0, (fdN T T.1 : Int)), (0, smE T R j), (0, (frE T R j : Int)), (0, (fxN T R (j + 1) : Int)), (0, 1), (0, (fdN T j : Int)), (0, (r : Int)), (0, (j : Int)), (0, (enT T j : Int)), (0, v10), (0, v11), (0, (if pnF T j (enT T j + 1 - j) = 1 then 0 else 1)), (0, (if 0 < gnT T R j then 1 else 0))] [(0, z), (0, (j : Int)), (0, (enT T j : Int))] X w (13 * m + 5) (QT T R D lim la) := by
          intro z w hC hz
          have hG := frC.refl w
          have hz2 := een z hz
          have hz3 : z = 1 ∨ z = 2 := by rw [hz]; split <;> simp
          by_cases hp1 : pnF T j (enT T j + 1 - j) = 1
          · rw [if_pos hp1] at egn ⊢
            by_cases hw0 : 0 < R.1 r
            · have e9 : (if 0 < gnT T R j then (1 : Int) else 0) = 1 := if_pos (by omega)
              rw [e9] at p1 ⊢
              refine Y_iadd gL_areFindings_253 ⟨by omega, by omega⟩ ?_
              refine Y_icmp_ne gL_areFindings_254 (tgt := 290) (by decide) (fun h254 => absurd h254 (by omega)) (fun _ => ?_)
              refine Y_push gL_areFindings_257 (v := (0, 1)) rfl ?_
              refine Y_push gL_areFindings_259 (v := (0, 0)) rfl ?_
              refine Y_if_ne gL_areFindings_261 (tgt := 279) (by decide) (fun h261 => absurd h261 (by decide)) (fun _ => ?_)
              refine Y_push gL_areFindings_264 (v := (1, ((0 : Nat) : Int))) rfl ?_
              refine Y_push gL_areFindings_265 (v := (0, 13)) rfl ?_
              refine Y_push gL_areFindings_267 (v := (0, (r : Int))) rfl ?_
              refine Y_ask (v := R.1 r) gL_areFindings_269 rfl rfl rfl rfl rfl rfl (fun _ => rfl) rfl rfl (by omega) (wA13 hC hV (r : Int)) (q_0 (cdRule_0 hr5)) (by omega) (fun w8 hC8 hF8 => ?_)
              have hG8 := hG.trans hF8
              refine Y_if_le gL_areFindings_272 (tgt := 279) (by decide) (fun h272 => absurd h272 (by omega)) (fun _ => ?_)
              refine Y_push gL_areFindings_275 (v := (0, 1)) rfl ?_
              refine Y_goto gL_areFindings_276 (tgt := 280) (by decide) ?_
              refine Y_callP (kd := 1) (na := 1) (M' := mL_told) gL_areFindings_280 rfl rfl rfl rfl rfl rfl (fun _ => rfl) rfl rfl (fun _ _ => rfl) (d' := 0) (by omega) (vL_told (Or.inr rfl)) ?_
              refine Y_icmp_ne gL_areFindings_283 (tgt := 290) (by decide) (fun h283 => absurd h283 (by decide)) (fun _ => ?_)
              refine Y_push gL_areFindings_286 (v := (0, 1)) rfl ?_
              refine Y_goto gL_areFindings_287 (tgt := 291) (by decide) ?_
              refine Y_sto gL_areFindings_291 rfl (ls' := [(1, ((0 : Nat) : Int)), (0, (fdN T T.1 : Int)), (0, smE T R j), (0, (frE T R j : Int)), (0, (fxN T R (j + 1) : Int)), (0, 1), (0, (fdN T j : Int)), (0, (r : Int)), (0, (j : Int)), (0, (enT T j : Int)), (0, v10), (0, v11), (0, 0), (0, 1)]) (st' := []) rfl ?_
              exact Y_K (by omega) (p1 _ _ _ _ (by assumption))
            · have e9 : (if 0 < gnT T R j then (1 : Int) else 0) = 0 := if_neg (by omega)
              rw [e9] at p1 ⊢
              refine Y_iadd gL_areFindings_253 ⟨by omega, by omega⟩ ?_
              refine Y_icmp_ne gL_areFindings_254 (tgt := 290) (by decide) (fun h254 => absurd h254 (by omega)) (fun _ => ?_)
              refine Y_push gL_areFindings_257 (v := (0, 0)) rfl ?_
              refine Y_push gL_areFindings_259 (v := (0, 0)) rfl ?_
              refine Y_if_ne gL_areFindings_261 (tgt := 279) (by decide) (fun h261 => absurd h261 (by decide)) (fun _ => ?_)
              refine Y_push gL_areFindings_264 (v := (1, ((0 : Nat) : Int))) rfl ?_
              refine Y_push gL_areFindings_265 (v := (0, 13)) rfl ?_
              refine Y_push gL_areFindings_267 (v := (0, (r : Int))) rfl ?_
              refine Y_ask (v := R.1 r) gL_areFindings_269 rfl rfl rfl rfl rfl rfl (fun _ => rfl) rfl rfl (by omega) (wA13 hC hV (r : Int)) (q_0 (cdRule_0 hr5)) (by omega) (fun w9 hC9 hF9 => ?_)
              have hG9 := hG.trans hF9
              refine Y_if_le gL_areFindings_272 (tgt := 279) (by decide) (fun _ => ?_) (fun h272 => absurd h272 (by omega))
              refine Y_push gL_areFindings_279 (v := (0, 0)) rfl ?_
              refine Y_callP (kd := 1) (na := 1) (M' := mL_told) gL_areFindings_280 rfl rfl rfl rfl rfl rfl (fun _ => rfl) rfl rfl (fun _ _ => rfl) (d' := 0) (by omega) (vL_told (Or.inl rfl)) ?_
              refine Y_icmp_ne gL_areFindings_283 (tgt := 290) (by decide) (fun h283 => absurd h283 (by decide)) (fun _ => ?_)
              refine Y_push gL_areFindings_286 (v := (0, 1)) rfl ?_
              refine Y_goto gL_areFindings_287 (tgt := 291) (by decide) ?_
              refine Y_sto gL_areFindings_291 rfl (ls' := [(1, ((0 : Nat) : Int)), (0, (fdN T T.1 : Int)), (0, smE T R j), (0, (frE T R j : Int)), (0, (fxN T R (j + 1) : Int)), (0, 1), (0, (fdN T j : Int)), (0, (r : Int)), (0, (j : Int)), (0, (enT T j : Int)), (0, v10), (0, v11), (0, 0), (0, 0)]) (st' := []) rfl ?_
              exact Y_K (by omega) (p1 _ _ _ _ (by assumption))
          · rw [if_neg hp1] at egn ⊢
            have e9 : (if 0 < gnT T R j then (1 : Int) else 0) = 0 := if_neg (by omega)
            rw [e9] at p1 ⊢
            refine Y_iadd gL_areFindings_253 ⟨by omega, by omega⟩ ?_
            refine Y_icmp_ne gL_areFindings_254 (tgt := 290) (by decide) (fun h254 => absurd h254 (by omega)) (fun _ => ?_)
            refine Y_push gL_areFindings_257 (v := (0, 0)) rfl ?_
            refine Y_push gL_areFindings_259 (v := (0, 1)) rfl ?_
            refine Y_if_ne gL_areFindings_261 (tgt := 279) (by decide) (fun _ => ?_) (fun h261 => absurd h261 (by decide))
            refine Y_push gL_areFindings_279 (v := (0, 0)) rfl ?_
            refine Y_callP (kd := 1) (na := 1) (M' := mL_told) gL_areFindings_280 rfl rfl rfl rfl rfl rfl (fun _ => rfl) rfl rfl (fun _ _ => rfl) (d' := 0) (by omega) (vL_told (Or.inl rfl)) ?_
            refine Y_icmp_ne gL_areFindings_283 (tgt := 290) (by decide) (fun h283 => absurd h283 (by decide)) (fun _ => ?_)
            refine Y_push gL_areFindings_286 (v := (0, 1)) rfl ?_
            refine Y_goto gL_areFindings_287 (tgt := 291) (by decide) ?_
            refine Y_sto gL_areFindings_291 rfl (ls' := [(1, ((0 : Nat) : Int)), (0, (fdN T T.1 : Int)), (0, smE T R j), (0, (frE T R j : Int)), (0, (fxN T R (j + 1) : Int)), (0, 1), (0, (fdN T j : Int)), (0, (r : Int)), (0, (j : Int)), (0, (enT T j : Int)), (0, v10), (0, v11), (0, 1), (0, 0)]) (st' := []) rfl ?_
            exact Y_K (by omega) (p1 _ _ _ _ (by assumption))
        rw [efx] at p3
        refine Y_push gL_areFindings_200 (v := (1, ((0 : Nat) : Int))) rfl ?_
        refine Y_push gL_areFindings_201 (v := (0, 10)) rfl ?_
        refine Y_push gL_areFindings_203 (v := (0, (fdN T j : Int))) rfl ?_
        refine Y_ask (v := (if 0 < gnT T R j then 1 else 0)) gL_areFindings_205 rfl rfl rfl rfl rfl rfl (fun _ => rfl) rfl rfl (by omega) (wA10 hC hV (fdN T j : Int)) ecan (by omega) (fun w10 hC10 hF10 => ?_)
        have hG10 := hG.trans hF10
        refine Y_sto gL_areFindings_208 rfl (ls' := [(1, ((0 : Nat) : Int)), (0, (fdN T T.1 : Int)), (0, smE T R j), (0, (frE T R j : Int)), (0, (fxN T R j : Int)), (0, 1), (0, (fdN T j : Int)), (0, (r : Int)), (0, (j : Int)), (0, (enT T j : Int)), (0, v10), (0, v11), (0, (if pnF T j (enT T j + 1 - j) = 1 then 0 else 1)), (0, (if 0 < gnT T R j then 1 else 0))]) (st' := []) rfl ?_
        refine Y_push gL_areFindings_210 (v := (0, (fxN T R j : Int))) rfl ?_
        refine Y_push gL_areFindings_212 (v := (0, (if 0 < gnT T R j then 1 else 0))) rfl ?_
        refine Y_iadd gL_areFindings_214 ⟨by omega, by omega⟩ ?_
        refine Y_sto gL_areFindings_215 rfl (ls' := [(1, ((0 : Nat) : Int)), (0, (fdN T T.1 : Int)), (0, smE T R j), (0, (frE T R j : Int)), (0, (fxN T R j : Int) + (if 0 < gnT T R j then 1 else 0)), (0, 1), (0, (fdN T j : Int)), (0, (r : Int)), (0, (j : Int)), (0, (enT T j : Int)), (0, v10), (0, v11), (0, (if pnF T j (enT T j + 1 - j) = 1 then 0 else 1)), (0, (if 0 < gnT T R j then 1 else 0))]) (st' := []) rfl ?_
        refine Y_push gL_areFindings_217 (v := (0, v10)) rfl ?_
        refine Y_push gL_areFindings_219 (v := (0, v11)) rfl ?_
        refine Y_icmp_le gL_areFindings_221 (tgt := 290) (by decide) (fun h221 => absurd h221 (by omega)) (fun _ => ?_)
        refine Y_push gL_areFindings_224 (v := (0, (j : Int))) rfl ?_
        refine Y_if_lt gL_areFindings_226 (tgt := 290) (by decide) (fun h226 => absurd h226 (by omega)) (fun _ => ?_)
        refine Y_push gL_areFindings_229 (v := (0, (enT T j : Int))) rfl ?_
        refine Y_push gL_areFindings_231 (v := (1, ((0 : Nat) : Int))) rfl ?_
        refine Y_callR (kd := 0) (na := 1) (M' := mX7_entries) (v := (0, (T.1 : Int))) gL_areFindings_232 rfl rfl rfl rfl rfl rfl (fun _ => rfl) rfl rfl (fun _ _ => zrecv_obj rfl _ _ _) (d' := 1) (by omega) (uX7_entries hC10 hV) rfl (fun w11 hC11 hF11 => ?_)
        have hG11 := hG10.trans hF11
        refine Y_icmp_ge gL_areFindings_235 (tgt := 290) (by decide) (fun h235 => absurd h235 (by omega)) (fun _ => ?_)
        refine Y_push gL_areFindings_238 (v := (0, (enT T j : Int))) rfl ?_
        refine Y_push gL_areFindings_240 (v := (0, (j : Int))) rfl ?_
        refine Y_push gL_areFindings_242 (v := (0, (r : Int))) rfl ?_
        refine Y_push gL_areFindings_244 (v := (0, 4)) rfl ?_
        refine Y_icmp_ne gL_areFindings_245 (tgt := 252) (by decide) (fun h245 => ?_) (fun h245 => ?_)
        · refine Y_push gL_areFindings_252 (v := (0, 1)) rfl ?_
          exact Y_K (by omega) (p3 1 _ (by assumption) (by rw [if_neg (by assumption)]))
        · refine Y_push gL_areFindings_248 (v := (0, 2)) rfl ?_
          refine Y_goto gL_areFindings_249 (tgt := 253) (by decide) ?_
          exact Y_K (by omega) (p3 2 _ (by assumption) (by rw [if_pos (by assumption)]))
      have p4 : ∀ (q k : Nat), k + q = enT T j + 1 - j → ∀ (v10 v11 : Int) (w : zW), CR w T R D lim la → v11 < v10 → Y ro 37 mL_areFindings 163 [(1, ((0 : Nat) : Int)), (0, (fdN T T.1 : Int)), (0, smE T R j), (0, (frE T R j : Int)), (0, (fxN T R j : Int)), (0, 1), (0, (fdN T j : Int)), (0, (r : Int)), (0, (j : Int)), (0, (enT T j : Int)), (0, v10), (0, v11), (0, (if pnF T j k = 1 then 0 else 1)), (0, (j : Int) + (k : Int))] [] X w (13 * m + 6 + q) (QT T R D lim la) := by
        intro q
        induction q with
        | zero =>
          intro k hk v10 v11 w hC h10
          obtain rfl : k = enT T j + 1 - j := by omega
          refine Y_push gL_areFindings_163 (v := (0, (j : Int) + ((enT T j + 1 - j : Nat) : Int))) rfl ?_
          refine Y_push gL_areFindings_165 (v := (0, (enT T j : Int))) rfl ?_
          refine Y_icmp_gt gL_areFindings_167 (tgt := 200) (by decide) (fun _ => ?_) (fun h167 => absurd h167 (by omega))
          exact Y_K (by omega) (p2 _ _ _ _ hC h10)
        | succ q ihq =>
          intro k hk v10 v11 w hC h10
          have hG := frC.refl w
          have h9 := ihq (k + 1) (by omega)
          have e3 : pnF T j (k + 1) = if pnF T j k = 1 ∧ pT T ((j + k : Nat) : Int) = 0 then 1 else 0 := rfl
          have hpt := pT_01 hV.1 ((j + k : Nat) : Int)
          have e4 : (j : Int) + ((k + 1 : Nat) : Int) = (j : Int) + (k : Int) + 1 := by omega
          rw [e4] at h9
          have e5 : rV (ans (some (0, pT T ((j : Int) + (k : Int)))) ["java/lang/IndexOutOfBoundsException"] (cdEnt T ((j : Int) + (k : Int)))) = pT T ((j + k : Nat) : Int) := q_0 (cdEnt_0 ⟨by omega, by omega⟩)
          by_cases c1 : pnF T j k = 1
          · rw [if_pos c1]
            by_cases c2 : pT T ((j + k : Nat) : Int) = 0
            · rw [if_pos (show pnF T j (k + 1) = 1 by rw [e3, if_pos ⟨c1, c2⟩])] at h9
              refine Y_push gL_areFindings_163 (v := (0, (j : Int) + (k : Int))) rfl ?_
              refine Y_push gL_areFindings_165 (v := (0, (enT T j : Int))) rfl ?_
              refine Y_icmp_gt gL_areFindings_167 (tgt := 200) (by decide) (fun h167 => absurd h167 (by omega)) (fun _ => ?_)
              refine Y_push gL_areFindings_170 (v := (0, 0)) rfl ?_
              refine Y_if_ne gL_areFindings_172 (tgt := 187) (by decide) (fun h172 => absurd h172 (by decide)) (fun _ => ?_)
              refine Y_push gL_areFindings_175 (v := (1, ((0 : Nat) : Int))) rfl ?_
              refine Y_push gL_areFindings_176 (v := (0, 6)) rfl ?_
              refine Y_push gL_areFindings_178 (v := (0, (j : Int) + (k : Int))) rfl ?_
              refine Y_ask (v := 0) gL_areFindings_180 rfl rfl rfl rfl rfl rfl (fun _ => rfl) rfl rfl (by omega) (wA6 hC hV ((j : Int) + (k : Int))) (e5.trans c2) (by omega) (fun w12 hC12 hF12 => ?_)
              have hG12 := hG.trans hF12
              refine Y_push gL_areFindings_183 (v := (0, 1)) rfl ?_
              refine Y_icmp_ne gL_areFindings_184 (tgt := 191) (by decide) (fun _ => ?_) (fun h184 => absurd h184 (by decide))
              refine Y_push gL_areFindings_191 (v := (0, 0)) rfl ?_
              refine Y_sto gL_areFindings_192 rfl (ls' := [(1, ((0 : Nat) : Int)), (0, (fdN T T.1 : Int)), (0, smE T R j), (0, (frE T R j : Int)), (0, (fxN T R j : Int)), (0, 1), (0, (fdN T j : Int)), (0, (r : Int)), (0, (j : Int)), (0, (enT T j : Int)), (0, v10), (0, v11), (0, 0), (0, (j : Int) + (k : Int))]) (st' := []) rfl ?_
              refine Y_iinc gL_areFindings_194 rfl ⟨by omega, by omega⟩ (ls' := [(1, ((0 : Nat) : Int)), (0, (fdN T T.1 : Int)), (0, smE T R j), (0, (frE T R j : Int)), (0, (fxN T R j : Int)), (0, 1), (0, (fdN T j : Int)), (0, (r : Int)), (0, (j : Int)), (0, (enT T j : Int)), (0, v10), (0, v11), (0, 0), (0, (j : Int) + (k : Int) + 1)]) rfl ?_
              refine Y_goto gL_areFindings_197 (tgt := 163) (by decide) ?_
              exact Y_K (by omega) (h9 _ _ _ (by assumption) h10)
            · rw [if_neg (show ¬ pnF T j (k + 1) = 1 by rw [e3, if_neg (fun h => c2 h.2)]; decide)] at h9
              refine Y_push gL_areFindings_163 (v := (0, (j : Int) + (k : Int))) rfl ?_
              refine Y_push gL_areFindings_165 (v := (0, (enT T j : Int))) rfl ?_
              refine Y_icmp_gt gL_areFindings_167 (tgt := 200) (by decide) (fun h167 => absurd h167 (by omega)) (fun _ => ?_)
              refine Y_push gL_areFindings_170 (v := (0, 0)) rfl ?_
              refine Y_if_ne gL_areFindings_172 (tgt := 187) (by decide) (fun h172 => absurd h172 (by decide)) (fun _ => ?_)
              refine Y_push gL_areFindings_175 (v := (1, ((0 : Nat) : Int))) rfl ?_
              refine Y_push gL_areFindings_176 (v := (0, 6)) rfl ?_
              refine Y_push gL_areFindings_178 (v := (0, (j : Int) + (k : Int))) rfl ?_
              refine Y_ask (v := 1) gL_areFindings_180 rfl rfl rfl rfl rfl rfl (fun _ => rfl) rfl rfl (by omega) (wA6 hC hV ((j : Int) + (k : Int))) (e5.trans (by omega)) (by omega) (fun w13 hC13 hF13 => ?_)
              have hG13 := hG.trans hF13
              refine Y_push gL_areFindings_183 (v := (0, 1)) rfl ?_
              refine Y_icmp_ne gL_areFindings_184 (tgt := 191) (by decide) (fun h184 => absurd h184 (by decide)) (fun _ => ?_)
              refine Y_push gL_areFindings_187 (v := (0, 1)) rfl ?_
              refine Y_goto gL_areFindings_188 (tgt := 192) (by decide) ?_
              refine Y_sto gL_areFindings_192 rfl (ls' := [(1, ((0 : Nat) : Int)), (0, (fdN T T.1 : Int)), (0, smE T R j), (0, (frE T R j : Int)), (0, (fxN T R j : Int)), (0, 1), (0, (fdN T j : Int)), (0, (r : Int)), (0, (j : Int)), (0, (enT T j : Int)), (0, v10), (0, v11), (0, 1), (0, (j : Int) + (k : Int))]) (st' := []) rfl ?_
              refine Y_iinc gL_areFindings_194 rfl ⟨by omega, by omega⟩ (ls' := [(1, ((0 : Nat) : Int)), (0, (fdN T T.1 : Int)), (0, smE T R j), (0, (frE T R j : Int)), (0, (fxN T R j : Int)), (0, 1), (0, (fdN T j : Int)), (0, (r : Int)), (0, (j : Int)), (0, (enT T j : Int)), (0, v10), (0, v11), (0, 1), (0, (j : Int) + (k : Int) + 1)]) rfl ?_
              refine Y_goto gL_areFindings_197 (tgt := 163) (by decide) ?_
              exact Y_K (by omega) (h9 _ _ _ (by assumption) h10)
          · rw [if_neg c1]
            rw [if_neg (show ¬ pnF T j (k + 1) = 1 by rw [e3, if_neg (fun h => c1 h.1)]; decide)] at h9
            refine Y_push gL_areFindings_163 (v := (0, (j : Int) + (k : Int))) rfl ?_
            refine Y_push gL_areFindings_165 (v := (0, (enT T j : Int))) rfl ?_
            refine Y_icmp_gt gL_areFindings_167 (tgt := 200) (by decide) (fun h167 => absurd h167 (by omega)) (fun _ => ?_)
            refine Y_push gL_areFindings_170 (v := (0, 1)) rfl ?_
            refine Y_if_ne gL_areFindings_172 (tgt := 187) (by decide) (fun _ => ?_) (fun h172 => absurd h172 (by decide))
            refine Y_push gL_areFindings_187 (v := (0, 1)) rfl ?_
            refine Y_goto gL_areFindings_188 (tgt := 192) (by decide) ?_
            refine Y_sto gL_areFindings_192 rfl (ls' := [(1, ((0 : Nat) : Int)), (0, (fdN T T.1 : Int)), (0, smE T R j), (0, (frE T R j : Int)), (0, (fxN T R j : Int)), (0, 1), (0, (fdN T j : Int)), (0, (r : Int)), (0, (j : Int)), (0, (enT T j : Int)), (0, v10), (0, v11), (0, 1), (0, (j : Int) + (k : Int))]) (st' := []) rfl ?_
            refine Y_iinc gL_areFindings_194 rfl ⟨by omega, by omega⟩ (ls' := [(1, ((0 : Nat) : Int)), (0, (fdN T T.1 : Int)), (0, smE T R j), (0, (frE T R j : Int)), (0, (fxN T R j : Int)), (0, 1), (0, (fdN T j : Int)), (0, (r : Int)), (0, (j : Int)), (0, (enT T j : Int)), (0, v10), (0, v11), (0, 1), (0, (j : Int) + (k : Int) + 1)]) rfl ?_
            refine Y_goto gL_areFindings_197 (tgt := 163) (by decide) ?_
            exact Y_K (by omega) (h9 _ _ _ (by assumption) h10)
      have p5 : ∀ (v10 v11 : Int) (u11 : zV) (w : zW), CR w T R D lim la → v11 < v10 → Y ro 37 mL_areFindings 154 [(1, ((0 : Nat) : Int)), (0, (fdN T T.1 : Int)), (0, smE T R j), (0, (frE T R j : Int)), (0, (fxN T R j : Int)), (0, 1), (0, (fdN T j : Int)), (0, (r : Int)), (0, (j : Int)), (0, (enT T j : Int)), (0, v10), u11, u12, u13] [(0, v11)] X w (13 * m + 9) (QT T R D lim la) := by
        intro v10 v11 u11 w hC h10
        have h9 := p4 (enT T j + 1 - j) 0 (by omega) v10 v11 w hC h10
        have e0 : (if pnF T j 0 = 1 then (0 : Int) else 1) = 0 := if_pos rfl
        rw [e0, show (j : Int) + ((0 : Nat) : Int) = (j : Int) by omega] at h9
        refine Y_sto gL_areFindings_154 rfl (ls' := [(1, ((0 : Nat) : Int)), (0, (fdN T T.1 : Int)), (0, smE T R j), (0, (frE T R j : Int)), (0, (fxN T R j : Int)), (0, 1), (0, (fdN T j : Int)), (0, (r : Int)), (0, (j : Int)), (0, (enT T j : Int)), (0, v10), (0, v11), u12, u13]) (st' := []) rfl ?_
        refine Y_push gL_areFindings_156 (v := (0, 0)) rfl ?_
        refine Y_sto gL_areFindings_157 rfl (ls' := [(1, ((0 : Nat) : Int)), (0, (fdN T T.1 : Int)), (0, smE T R j), (0, (frE T R j : Int)), (0, (fxN T R j : Int)), (0, 1), (0, (fdN T j : Int)), (0, (r : Int)), (0, (j : Int)), (0, (enT T j : Int)), (0, v10), (0, v11), (0, 0), u13]) (st' := []) rfl ?_
        refine Y_push gL_areFindings_159 (v := (0, (j : Int))) rfl ?_
        refine Y_sto gL_areFindings_161 rfl (ls' := [(1, ((0 : Nat) : Int)), (0, (fdN T T.1 : Int)), (0, smE T R j), (0, (frE T R j : Int)), (0, (fxN T R j : Int)), (0, 1), (0, (fdN T j : Int)), (0, (r : Int)), (0, (j : Int)), (0, (enT T j : Int)), (0, v10), (0, v11), (0, 0), (0, (j : Int))]) (st' := []) rfl ?_
        exact Y_K (by omega) h9
      have efe : feT T (fdN T j) = j := fe_at hr
      refine Y_push gL_areFindings_48 (v := (0, (fdN T j : Int))) rfl ?_
      refine Y_push gL_areFindings_50 (v := (0, (fdN T T.1 : Int))) rfl ?_
      refine Y_icmp_ge gL_areFindings_51 (tgt := 351) (by decide) (fun h51 => absurd h51 (by omega)) (fun _ => ?_)
      refine Y_push gL_areFindings_54 (v := (0, 1)) rfl ?_
      refine Y_if_eq gL_areFindings_56 (tgt := 351) (by decide) (fun h56 => absurd h56 (by decide)) (fun _ => ?_)
      refine Y_push gL_areFindings_59 (v := (1, ((0 : Nat) : Int))) rfl ?_
      refine Y_push gL_areFindings_60 (v := (0, 7)) rfl ?_
      refine Y_push gL_areFindings_62 (v := (0, (fdN T j : Int))) rfl ?_
      refine Y_ask (v := (r : Int)) gL_areFindings_64 rfl rfl rfl rfl rfl rfl (fun _ => rfl) rfl rfl (by omega) (wA7 hC hV (fdN T j : Int)) ((q_0 hcd).trans (by show rlT T (feT T (fdN T j)) = _; rw [efe]; exact er)) (by omega) (fun w14 hC14 hF14 => ?_)
      have hG14 := hG.trans hF14
      refine Y_sto gL_areFindings_67 rfl (ls' := [(1, ((0 : Nat) : Int)), (0, (fdN T T.1 : Int)), (0, smE T R j), (0, (frE T R j : Int)), (0, (fxN T R j : Int)), (0, 1), (0, (fdN T j : Int)), (0, (r : Int)), u8, u9, u10, u11, u12, u13]) (st' := []) rfl ?_
      refine Y_push gL_areFindings_69 (v := (1, ((0 : Nat) : Int))) rfl ?_
      refine Y_push gL_areFindings_70 (v := (0, 8)) rfl ?_
      refine Y_push gL_areFindings_72 (v := (0, (fdN T j : Int))) rfl ?_
      refine Y_ask (v := (j : Int)) gL_areFindings_74 rfl rfl rfl rfl rfl rfl (fun _ => rfl) rfl rfl (by omega) (wA8 hC14 hV (fdN T j : Int)) ((q_0 hcd).trans (by show ((feT T (fdN T j) : Nat) : Int) = _; rw [efe])) (by omega) (fun w15 hC15 hF15 => ?_)
      have hG15 := hG14.trans hF15
      refine Y_sto gL_areFindings_77 rfl (ls' := [(1, ((0 : Nat) : Int)), (0, (fdN T T.1 : Int)), (0, smE T R j), (0, (frE T R j : Int)), (0, (fxN T R j : Int)), (0, 1), (0, (fdN T j : Int)), (0, (r : Int)), (0, (j : Int)), u9, u10, u11, u12, u13]) (st' := []) rfl ?_
      refine Y_push gL_areFindings_79 (v := (1, ((0 : Nat) : Int))) rfl ?_
      refine Y_push gL_areFindings_80 (v := (0, 9)) rfl ?_
      refine Y_push gL_areFindings_82 (v := (0, (fdN T j : Int))) rfl ?_
      refine Y_ask (v := (enT T j : Int)) gL_areFindings_84 rfl rfl rfl rfl rfl rfl (fun _ => rfl) rfl rfl (by omega) (wA9 hC15 hV (fdN T j : Int)) ((q_0 hcd).trans (by show ((enT T (feT T (fdN T j)) : Nat) : Int) = _; rw [efe])) (by omega) (fun w16 hC16 hF16 => ?_)
      have hG16 := hG15.trans hF16
      refine Y_sto gL_areFindings_87 rfl (ls' := [(1, ((0 : Nat) : Int)), (0, (fdN T T.1 : Int)), (0, smE T R j), (0, (frE T R j : Int)), (0, (fxN T R j : Int)), (0, 1), (0, (fdN T j : Int)), (0, (r : Int)), (0, (j : Int)), (0, (enT T j : Int)), u10, u11, u12, u13]) (st' := []) rfl ?_
      refine Y_push gL_areFindings_89 (v := (0, 1000)) rfl ?_
      refine Y_push gL_areFindings_92 (v := (0, (j : Int))) rfl ?_
      refine Y_imul gL_areFindings_94 ⟨by omega, by omega⟩ ?_
      refine Y_push gL_areFindings_95 (v := (0, 10)) rfl ?_
      refine Y_push gL_areFindings_97 (v := (0, (enT T j : Int))) rfl ?_
      refine Y_imul gL_areFindings_99 ⟨by omega, by omega⟩ ?_
      refine Y_iadd gL_areFindings_100 ⟨by omega, by omega⟩ ?_
      refine Y_push gL_areFindings_101 (v := (0, (r : Int))) rfl ?_
      refine Y_iadd gL_areFindings_103 ⟨by omega, by omega⟩ ?_
      refine Y_sto gL_areFindings_104 rfl (ls' := [(1, ((0 : Nat) : Int)), (0, (fdN T T.1 : Int)), (0, smE T R j), (0, (frE T R j : Int)), (0, (fxN T R j : Int)), (0, 1), (0, (fdN T j : Int)), (0, (r : Int)), (0, (j : Int)), (0, (enT T j : Int)), (0, ((1000 * (j : Int)) + (10 * (enT T j : Int))) + (r : Int)), u11, u12, u13]) (st' := []) rfl ?_
      refine Y_push gL_areFindings_106 (v := (0, (fdN T j : Int))) rfl ?_
      refine Y_if_ne gL_areFindings_108 (tgt := 115) (by decide) (fun h108 => ?_) (fun h108 => ?_)
      · obtain ⟨i, hi, hri, ei⟩ := fdN_ex (T := T) (i := fdN T j - 1) (n := T.1) (by omega)
        have hij : i < j := (fdN_lt hri).mp (by omega)
        obtain ⟨r', hr5', er'⟩ := rl_nat hri
        have hen' := en_gt T i
        have ea : (((fdN T j : Int)) - 1) = (fdN T i : Int) := by omega
        have hcd' := cdFnd_at hri
        have ef' : feT T (fdN T i) = i := fe_at hri
        refine Y_push gL_areFindings_115 (v := (0, 1000)) rfl ?_
        refine Y_push gL_areFindings_118 (v := (1, ((0 : Nat) : Int))) rfl ?_
        refine Y_push gL_areFindings_119 (v := (0, 8)) rfl ?_
        refine Y_push gL_areFindings_121 (v := (0, (fdN T j : Int))) rfl ?_
        refine Y_push gL_areFindings_123 (v := (0, 1)) rfl ?_
        refine Y_isub gL_areFindings_124 ⟨by omega, by omega⟩ ?_
        refine Y_ask (v := (i : Int)) gL_areFindings_125 rfl rfl rfl rfl rfl rfl (fun _ => rfl) rfl rfl (by omega) (wA8 hC16 hV ((fdN T j : Int) - 1)) (by rw [ea, q_0 hcd']; show ((feT T (fdN T i) : Nat) : Int) = _; rw [ef']) (by omega) (fun w17 hC17 hF17 => ?_)
        have hG17 := hG16.trans hF17
        refine Y_imul gL_areFindings_128 ⟨by omega, by omega⟩ ?_
        refine Y_push gL_areFindings_129 (v := (0, 10)) rfl ?_
        refine Y_push gL_areFindings_131 (v := (1, ((0 : Nat) : Int))) rfl ?_
        refine Y_push gL_areFindings_132 (v := (0, 9)) rfl ?_
        refine Y_push gL_areFindings_134 (v := (0, (fdN T j : Int))) rfl ?_
        refine Y_push gL_areFindings_136 (v := (0, 1)) rfl ?_
        refine Y_isub gL_areFindings_137 ⟨by omega, by omega⟩ ?_
        refine Y_ask (v := (enT T i : Int)) gL_areFindings_138 rfl rfl rfl rfl rfl rfl (fun _ => rfl) rfl rfl (by omega) (wA9 hC17 hV ((fdN T j : Int) - 1)) (by rw [ea, q_0 hcd']; show ((enT T (feT T (fdN T i)) : Nat) : Int) = _; rw [ef']) (by omega) (fun w18 hC18 hF18 => ?_)
        have hG18 := hG17.trans hF18
        refine Y_imul gL_areFindings_141 ⟨by omega, by omega⟩ ?_
        refine Y_iadd gL_areFindings_142 ⟨by omega, by omega⟩ ?_
        refine Y_push gL_areFindings_143 (v := (1, ((0 : Nat) : Int))) rfl ?_
        refine Y_push gL_areFindings_144 (v := (0, 7)) rfl ?_
        refine Y_push gL_areFindings_146 (v := (0, (fdN T j : Int))) rfl ?_
        refine Y_push gL_areFindings_148 (v := (0, 1)) rfl ?_
        refine Y_isub gL_areFindings_149 ⟨by omega, by omega⟩ ?_
        refine Y_ask (v := (r' : Int)) gL_areFindings_150 rfl rfl rfl rfl rfl rfl (fun _ => rfl) rfl rfl (by omega) (wA7 hC18 hV ((fdN T j : Int) - 1)) (by rw [ea, q_0 hcd']; show rlT T (feT T (fdN T i)) = _; rw [ef']; exact er') (by omega) (fun w19 hC19 hF19 => ?_)
        have hG19 := hG18.trans hF19
        refine Y_iadd gL_areFindings_153 ⟨by omega, by omega⟩ ?_
        exact Y_K (by omega) (p5 _ _ _ _ (by assumption) (by omega))
      · refine Y_push gL_areFindings_111 (v := (0, -1)) rfl ?_
        refine Y_goto gL_areFindings_112 (tgt := 154) (by decide) ?_
        exact Y_K (by omega) (p5 _ _ _ _ (by assumption) (by omega))
  have hG := frC.refl w
  show Y ro 37 mL_areFindings 0 [(1, ((0 : Nat) : Int)), (9, 0), (9, 0), (9, 0), (9, 0), (9, 0), (9, 0), (9, 0), (9, 0), (9, 0), (9, 0), (9, 0), (9, 0), (9, 0)] [] X w 400 _
  refine Y_push gL_areFindings_0 (v := (1, ((0 : Nat) : Int))) rfl ?_
  refine Y_callR (kd := 0) (na := 1) (M' := mX7_findings) (v := (0, (fdN T T.1 : Int))) gL_areFindings_1 rfl rfl rfl rfl rfl rfl (fun _ => rfl) rfl rfl (fun _ _ => zrecv_obj rfl _ _ _) (d' := 5) (by omega) (uX7_findings hC hV) rfl (fun w20 hC20 hF20 => ?_)
  have hG20 := hG.trans hF20
  refine Y_sto gL_areFindings_4 rfl (ls' := [(1, ((0 : Nat) : Int)), (0, (fdN T T.1 : Int)), (9, 0), (9, 0), (9, 0), (9, 0), (9, 0), (9, 0), (9, 0), (9, 0), (9, 0), (9, 0), (9, 0), (9, 0)]) (st' := []) rfl ?_
  refine Y_push gL_areFindings_5 (v := (0, 0)) rfl ?_
  refine Y_sto gL_areFindings_6 rfl (ls' := [(1, ((0 : Nat) : Int)), (0, (fdN T T.1 : Int)), (0, 0), (9, 0), (9, 0), (9, 0), (9, 0), (9, 0), (9, 0), (9, 0), (9, 0), (9, 0), (9, 0), (9, 0)]) (st' := []) rfl ?_
  refine Y_push gL_areFindings_7 (v := (0, 0)) rfl ?_
  refine Y_sto gL_areFindings_8 rfl (ls' := [(1, ((0 : Nat) : Int)), (0, (fdN T T.1 : Int)), (0, 0), (0, 0), (9, 0), (9, 0), (9, 0), (9, 0), (9, 0), (9, 0), (9, 0), (9, 0), (9, 0), (9, 0)]) (st' := []) rfl ?_
  refine Y_push gL_areFindings_9 (v := (0, 0)) rfl ?_
  refine Y_sto gL_areFindings_10 rfl (ls' := [(1, ((0 : Nat) : Int)), (0, (fdN T T.1 : Int)), (0, 0), (0, 0), (0, 0), (9, 0), (9, 0), (9, 0), (9, 0), (9, 0), (9, 0), (9, 0), (9, 0), (9, 0)]) (st' := []) rfl ?_
  refine Y_push gL_areFindings_12 (v := (1, ((0 : Nat) : Int))) rfl ?_
  refine Y_push gL_areFindings_13 (v := (0, 7)) rfl ?_
  refine Y_push gL_areFindings_15 (v := (0, (fdN T T.1 : Int))) rfl ?_
  refine Y_ask (v := -2005) gL_areFindings_16 rfl rfl rfl rfl rfl rfl (fun _ => rfl) rfl rfl (by omega) (wA7 hC20 hV (fdN T T.1 : Int)) (q_1 (cdFnd_no (by omega)) exC_NS) (by omega) (fun w21 hC21 hF21 => ?_)
  have hG21 := hG20.trans hF21
  refine Y_push gL_areFindings_19 (v := (0, -2005)) rfl ?_
  refine Y_icmp_ne gL_areFindings_22 (tgt := 42) (by decide) (fun h22 => absurd h22 (by decide)) (fun _ => ?_)
  refine Y_push gL_areFindings_25 (v := (1, ((0 : Nat) : Int))) rfl ?_
  refine Y_push gL_areFindings_26 (v := (0, 12)) rfl ?_
  refine Y_push gL_areFindings_28 (v := (0, -1)) rfl ?_
  refine Y_ask (v := -2005) gL_areFindings_29 rfl rfl rfl rfl rfl rfl (fun _ => rfl) rfl rfl (by omega) (wA12 hC21 hV (-1)) (q_1 (cdFnd_no (by omega)) exC_NS) (by omega) (fun w22 hC22 hF22 => ?_)
  have hG22 := hG21.trans hF22
  refine Y_push gL_areFindings_32 (v := (0, -2005)) rfl ?_
  refine Y_icmp_ne gL_areFindings_35 (tgt := 42) (by decide) (fun h35 => absurd h35 (by decide)) (fun _ => ?_)
  refine Y_push gL_areFindings_38 (v := (0, 1)) rfl ?_
  refine Y_goto gL_areFindings_39 (tgt := 43) (by decide) ?_
  refine Y_sto gL_areFindings_43 rfl (ls' := [(1, ((0 : Nat) : Int)), (0, (fdN T T.1 : Int)), (0, 0), (0, 0), (0, 0), (0, 1), (9, 0), (9, 0), (9, 0), (9, 0), (9, 0), (9, 0), (9, 0), (9, 0)]) (st' := []) rfl ?_
  refine Y_push gL_areFindings_45 (v := (0, 0)) rfl ?_
  refine Y_sto gL_areFindings_46 rfl (ls' := [(1, ((0 : Nat) : Int)), (0, (fdN T T.1 : Int)), (0, 0), (0, 0), (0, 0), (0, 1), (0, 0), (9, 0), (9, 0), (9, 0), (9, 0), (9, 0), (9, 0), (9, 0)]) (st' := []) rfl ?_
  exact Y_K (by omega) (loop (fdN T T.1) 0 (by omega) 0 rfl _ _ _ _ _ _ _ _ (by assumption))
end
