/-! the model's look -/
section
variable {ro : zRo} {w : zW} {T : zTx} {R : zRu} {B : Int}
theorem MF_115 {W W' : zW} {n : Nat} (h : MF W T n) (f : ∀ a k, ¬ (114 ≤ a ∧ a ≤ 115) → W' a k = W a k) : MF W' T n := ⟨(f _ _ (by omega)).trans h.1, fun j hj hr => by
  obtain ⟨a, b, c⟩ := h.2 j hj hr
  exact ⟨(f _ _ (by omega)).trans a, (f _ _ (by omega)).trans b, (f _ _ (by omega)).trans c⟩⟩
/-- the last loop: which findings are in the best set -/
theorem lookD (hM : MT w T) (hU : MU w R) (hV : TV T) (hRV : RV B R) : ∀ m i : Nat, i + m = fdN T T.1 → ∀ (tk : Int) (fr : Nat) (W : zW), (∀ k, fdN T k = i → tkE T R k = tk) → (∀ k, fdN T k = i → frE T R k = fr) → MF W T T.1 → MSm W T R → (∀ j, rlT T j ≠ -1 → fdN T j < i → W 114 (fdN T j) = b2i (bsT T R j)) → frZ w W → Z ro 1 mX8_look 305 [(1, ((97 : Nat) : Int)), (0, tk), (0, (fr : Int)), (0, (i : Int))] [] W (fun r9 w' k9 => k9 = 0 ∧ ∃ o, r9 = .inl o ∧ (o = none ∧ MF w' T T.1 ∧ MSm w' T R ∧ MB w' T R ∧ frZ w w')) := by
  have hV1 := hV.1
  have h30 := fdN_30 hV T.1
  intro m
  induction m with
  | zero =>
    intro i hi tk fr W htk hfr hF hS hB hf
    refine Z_push gX8_look_305 (v := (0, (i : Int))) rfl ?_
    refine Z_push gX8_look_306 (v := (1, ((97 : Nat) : Int))) rfl ?_
    refine Z_getV (v := (fdN T T.1 : Int)) gX8_look_307 rfl rfl (by decide) hF.1 ?_
    refine Z_icmp_ge gX8_look_310 (tgt := 416) (by decide) (fun _ => ?_) (fun h310 => absurd h310 (by omega))
    refine Z_end gX8_look_416 rfl rfl rfl rfl (v := none) rfl ⟨rfl, none, rfl, ?_⟩
    exact ⟨rfl, hF, hS, fun j hj => hB j hj (by have := (fdN_lt (k := T.1) hj).mpr (rl_lt hj); omega), hf⟩
  | succ m ih =>
    intro i hi tk fr W htk hfr hF hS hB hf
    obtain ⟨j, b1, b2, rfl⟩ := fdN_ex (T := T) (i := i) (n := T.1) (by omega)
    have e1 := htk j rfl
    have e2 := hfr j rfl
    subst e1
    subst e2
    obtain ⟨f1, f2, f3⟩ := hF.2 j b1 b2
    have hl := en_lt b2
    have hg := en_gt T j
    have hr5 := rl_5 b2
    have hrc := rl_cases T j
    have htb := tk_bd (T := T) hRV hV1 j
    have hgb := gn_bd hRV T j
    have hs1 := sE_bd' (T := T) hRV hV1 (enT T j + 1)
    have hsum := tk_sum (T := T) (R := R) j
    obtain ⟨r, hr⟩ : ∃ r : Nat, rlT T j = (r : Int) := ⟨(rlT T j).toNat, by omega⟩
    have hgn : gnT T R j = if pnF T j (enT T j + 1 - j) = 1 then R.1 r else 0 := by
      unfold gnT
      rw [if_neg b2, hr]
      rfl
    rw [hr] at f1 hr5
    have hr5 : r < 5 := hr5
    have hMW := MT_Z hM hf
    have hUW := MU_Z hU hf
    have hw := hUW.1 r hr5
    have hwb := hRV.1 r hr5
    have nxt : ∀ (tk' : Int) (fr' : Nat) (x : Int), x = b2i (bsT T R j) → tkE T R (j + 1) = tk' → frE T R (j + 1) = fr' → Z ro 1 mX8_look 305 [(1, ((97 : Nat) : Int)), (0, tk'), (0, (fr' : Int)), (0, (fdN T j : Int) + 1)] [] (zup W 114 (fdN T j) x) (fun r9 w' k9 => k9 = 0 ∧ ∃ o, r9 = .inl o ∧ (o = none ∧ MF w' T T.1 ∧ MSm w' T R ∧ MB w' T R ∧ frZ w w')) := by
      intro tk' fr' x hx ht' hf'
      refine ih (fdN T j + 1) (by omega) tk' fr' _ (fun k hk => (plat (f := tkE T R) (fun q hq => tk_n (bs_n hq)) (by rw [hk, fdN_s b2])).trans ht') (fun k hk => (plat (f := frE T R) (fun q hq => fr_f (bs_n hq)) (by rw [hk, fdN_s b2])).trans hf') (MF_115 hF (fun a k h => zup_ne (by omega))) (fun k hk => (zup_ne (by omega)).trans (hS k hk)) (fun q hq hlt => ?_) (hf.trans (fun a k a1 a2 => zup_ne (by omega)))
      by_cases e : fdN T q = fdN T j
      · rw [e, zup_eq, hx, fdN_inj hq b2 e]
      · exact (zup_ne (fun h => e h.2)).trans (hB q hq (by omega))
    have no : bsT T R j = false → Z ro 1 mX8_look 376 [(1, ((97 : Nat) : Int)), (0, tkE T R j), (0, (frE T R j : Int)), (0, (fdN T j : Int))] [(0, (fdN T j : Int)), (1, ((114 : Nat) : Int))] W (fun r9 w' k9 => k9 = 0 ∧ ∃ o, r9 = .inl o ∧ (o = none ∧ MF w' T T.1 ∧ MSm w' T R ∧ MB w' T R ∧ frZ w w')) := by
      intro hb
      refine Z_push gX8_look_376 (v := (0, 0)) rfl ?_
      refine Z_bastore gX8_look_377 rfl (by omega) (by omega) (by omega) ?_
      refine Z_push gX8_look_378 (v := (1, ((97 : Nat) : Int))) rfl ?_
      refine Z_getR (b := 114) gX8_look_379 rfl rfl (by decide) rfl (by omega) ?_
      refine Z_push gX8_look_382 (v := (0, (fdN T j : Int))) rfl ?_
      refine Z_baloadV (v := 0) gX8_look_383 rfl (by omega) (by omega) (zup_eq _ _ _ _) ?_
      refine Z_if_eq gX8_look_384 (tgt := 410) (by decide) (fun _ => ?_) (fun h384 => absurd h384 (by omega))
      refine Z_iinc gX8_look_410 rfl ⟨by omega, by omega⟩ (ls' := [(1, ((97 : Nat) : Int)), (0, tkE T R j), (0, (frE T R j : Int)), (0, (fdN T j : Int) + 1)]) rfl ?_
      refine Z_goto gX8_look_413 (tgt := 305) (by decide) ?_
      exact nxt _ _ 0 (by rw [hb]; rfl) (tk_n hb) (fr_f hb)
    refine Z_push gX8_look_305 (v := (0, (fdN T j : Int))) rfl ?_
    refine Z_push gX8_look_306 (v := (1, ((97 : Nat) : Int))) rfl ?_
    refine Z_getV (v := (fdN T T.1 : Int)) gX8_look_307 rfl rfl (by decide) hF.1 ?_
    refine Z_icmp_ge gX8_look_310 (tgt := 416) (by decide) (fun h310 => absurd h310 (by omega)) (fun _ => ?_)
    refine Z_push gX8_look_313 (v := (1, ((97 : Nat) : Int))) rfl ?_
    refine Z_getR (b := 114) gX8_look_314 rfl rfl (by decide) rfl (by omega) ?_
    refine Z_push gX8_look_317 (v := (0, (fdN T j : Int))) rfl ?_
    refine Z_push gX8_look_318 (v := (1, ((97 : Nat) : Int))) rfl ?_
    refine Z_push gX8_look_319 (v := (0, (fdN T j : Int))) rfl ?_
    refine Z_callP (kd := 0) (na := 2) (M' := mX8_fixable) gX8_look_320 rfl rfl rfl rfl rfl rfl (fun _ => rfl) rfl rfl (fun _ _ => zrecv_obj rfl _ _ _) (d' := 0) (by omega) (vX8_fixable hF hMW hUW hV hRV b2) ?_
    refine Z_if_eq gX8_look_323 (tgt := 376) (by decide) (fun h323 => ?_) (fun h323 => ?_)
    · have hg0 : ¬ 0 < gnT T R j := fun h => by rw [if_pos h] at h323; exact absurd h323 (by decide)
      exact no (decide_eq_false (fun h => hg0 h.2.2.1))
    · have hg1 : 0 < gnT T R j := Classical.byContradiction fun h => h323 (if_neg h)
      have hgr : gnT T R j = R.1 r := by
        rw [hgn]
        split
        · rfl
        · rename_i h9; rw [hgn, if_neg h9] at hg1; omega
      refine Z_push gX8_look_326 (v := (1, ((97 : Nat) : Int))) rfl ?_
      refine Z_getR (b := 112) gX8_look_327 rfl rfl (by decide) rfl (by omega) ?_
      refine Z_push gX8_look_330 (v := (0, (fdN T j : Int))) rfl ?_
      refine Z_ialoadV (v := (j : Int)) gX8_look_331 rfl (by omega) (by omega) f2 ?_
      refine Z_push gX8_look_332 (v := (0, (frE T R j : Int))) rfl ?_
      refine Z_icmp_lt gX8_look_333 (tgt := 376) (by decide) (fun h333 => ?_) (fun h333 => ?_)
      · exact no (decide_eq_false (fun h => by omega))
      · rw [if_neg (by omega)] at hsum
        refine Z_push gX8_look_336 (v := (0, tkE T R j)) rfl ?_
        refine Z_push gX8_look_337 (v := (1, ((97 : Nat) : Int))) rfl ?_
        refine Z_getR (b := 102) gX8_look_338 rfl rfl (by decide) rfl (by omega) ?_
        refine Z_push gX8_look_341 (v := (1, ((97 : Nat) : Int))) rfl ?_
        refine Z_getR (b := 111) gX8_look_342 rfl rfl (by decide) rfl (by omega) ?_
        refine Z_push gX8_look_345 (v := (0, (fdN T j : Int))) rfl ?_
        refine Z_ialoadV (v := (r : Int)) gX8_look_346 rfl (by omega) (by omega) f1 ?_
        refine Z_ialoadV (v := R.1 r) gX8_look_347 rfl (by omega) (by omega) hw ?_
        refine Z_iadd gX8_look_348 ⟨by omega, by omega⟩ ?_
        refine Z_push gX8_look_349 (v := (1, ((97 : Nat) : Int))) rfl ?_
        refine Z_getR (b := 115) gX8_look_350 rfl rfl (by decide) rfl (by omega) ?_
        refine Z_push gX8_look_353 (v := (1, ((97 : Nat) : Int))) rfl ?_
        refine Z_getR (b := 113) gX8_look_354 rfl rfl (by decide) rfl (by omega) ?_
        refine Z_push gX8_look_357 (v := (0, (fdN T j : Int))) rfl ?_
        refine Z_ialoadV (v := (enT T j : Int)) gX8_look_358 rfl (by omega) (by omega) f3 ?_
        refine Z_push gX8_look_359 (v := (0, 1)) rfl ?_
        refine Z_iadd gX8_look_360 ⟨by omega, by omega⟩ ?_
        refine Z_ialoadV (v := sE T R (enT T j + 1)) gX8_look_361 rfl (by omega) (by omega) (hS (enT T j + 1) (by omega)) ?_
        refine Z_iadd gX8_look_362 ⟨by omega, by omega⟩ ?_
        refine Z_push gX8_look_363 (v := (1, ((97 : Nat) : Int))) rfl ?_
        refine Z_getR (b := 115) gX8_look_364 rfl rfl (by decide) rfl (by omega) ?_
        refine Z_push gX8_look_367 (v := (0, 0)) rfl ?_
        refine Z_ialoadV (v := sE T R 0) gX8_look_368 rfl (by omega) (by omega) (hS 0 (by omega)) ?_
        refine Z_icmp_ne gX8_look_369 (tgt := 376) (by decide) (fun h369 => ?_) (fun h369 => ?_)
        · exact no (decide_eq_false (fun h => h369 (by have := h.2.2.2; omega)))
        · have hb : bsT T R j = true := decide_eq_true ⟨b2, by omega, hg1, by omega⟩
          have w1 : ∀ a q, a ≠ 114 → zup W 114 (fdN T j) 1 a q = W a q := fun a q h => zup_ne (fun h2 => h h2.1)
          refine Z_push gX8_look_372 (v := (0, 1)) rfl ?_
          refine Z_goto gX8_look_373 (tgt := 377) (by decide) ?_
          refine Z_bastore gX8_look_377 rfl (by omega) (by omega) (by omega) ?_
          refine Z_push gX8_look_378 (v := (1, ((97 : Nat) : Int))) rfl ?_
          refine Z_getR (b := 114) gX8_look_379 rfl rfl (by decide) rfl (by omega) ?_
          refine Z_push gX8_look_382 (v := (0, (fdN T j : Int))) rfl ?_
          refine Z_baloadV (v := 1) gX8_look_383 rfl (by omega) (by omega) (zup_eq _ _ _ _) ?_
          refine Z_if_eq gX8_look_384 (tgt := 410) (by decide) (fun h384 => absurd h384 (by omega)) (fun _ => ?_)
          refine Z_push gX8_look_387 (v := (0, tkE T R j)) rfl ?_
          refine Z_push gX8_look_388 (v := (1, ((97 : Nat) : Int))) rfl ?_
          refine Z_getR (b := 102) gX8_look_389 rfl rfl (by decide) rfl (by omega) ?_
          refine Z_push gX8_look_392 (v := (1, ((97 : Nat) : Int))) rfl ?_
          refine Z_getR (b := 111) gX8_look_393 rfl rfl (by decide) rfl (by omega) ?_
          refine Z_push gX8_look_396 (v := (0, (fdN T j : Int))) rfl ?_
          refine Z_ialoadV (v := (r : Int)) gX8_look_397 rfl (by omega) (by omega) ((w1 _ _ (by omega)).trans f1) ?_
          refine Z_ialoadV (v := R.1 r) gX8_look_398 rfl (by omega) (by omega) ((w1 _ _ (by omega)).trans hw) ?_
          refine Z_iadd gX8_look_399 ⟨by omega, by omega⟩ ?_
          refine Z_sto gX8_look_400 rfl (ls' := [(1, ((97 : Nat) : Int)), (0, (tkE T R j) + (R.1 r)), (0, (frE T R j : Int)), (0, (fdN T j : Int))]) (st' := []) rfl ?_
          refine Z_push gX8_look_401 (v := (1, ((97 : Nat) : Int))) rfl ?_
          refine Z_getR (b := 113) gX8_look_402 rfl rfl (by decide) rfl (by omega) ?_
          refine Z_push gX8_look_405 (v := (0, (fdN T j : Int))) rfl ?_
          refine Z_ialoadV (v := (enT T j : Int)) gX8_look_406 rfl (by omega) (by omega) ((w1 _ _ (by omega)).trans f3) ?_
          refine Z_push gX8_look_407 (v := (0, 1)) rfl ?_
          refine Z_iadd gX8_look_408 ⟨by omega, by omega⟩ ?_
          refine Z_sto gX8_look_409 rfl (ls' := [(1, ((97 : Nat) : Int)), (0, (tkE T R j) + (R.1 r)), (0, (enT T j : Int) + 1), (0, (fdN T j : Int))]) (st' := []) rfl ?_
          refine Z_iinc gX8_look_410 rfl ⟨by omega, by omega⟩ (ls' := [(1, ((97 : Nat) : Int)), (0, (tkE T R j) + (R.1 r)), (0, (enT T j : Int) + 1), (0, (fdN T j : Int) + 1)]) rfl ?_
          refine Z_goto gX8_look_413 (tgt := 305) (by decide) ?_
          exact nxt _ (enT T j + 1) 1 (by rw [hb]; rfl) (by rw [tk_t hb, hgr]) (fr_t hb)
/-- the third loop: the sums -/
theorem lookC (hM : MT w T) (hU : MU w R) (hV : TV T) (hRV : RV B R) : ∀ k : Nat, k ≤ T.1 → ∀ (v2 v3 : zV) (W : zW), MF W T T.1 → (∀ q, k ≤ q → q ≤ T.1 + 3 → W 115 q = sE T R q) → frZ w W → Z ro 1 mX8_look 185 [(1, ((97 : Nat) : Int)), (0, (k : Int) - 1), v2, v3] [] W (fun r9 w' k9 => k9 = 0 ∧ ∃ o, r9 = .inl o ∧ (o = none ∧ MF w' T T.1 ∧ MSm w' T R ∧ MB w' T R ∧ frZ w w')) := by
  have hV1 := hV.1
  have h30 := fdN_30 hV T.1
  intro k
  induction k with
  | zero =>
    intro hk v2 v3 W hF hS hf
    obtain ⟨x1, x2⟩ := v2
    obtain ⟨y1, y2⟩ := v3
    refine Z_push gX8_look_185 (v := (0, ((0 : Nat) : Int) - 1)) rfl ?_
    refine Z_if_lt gX8_look_186 (tgt := 299) (by decide) (fun _ => ?_) (fun h186 => absurd h186 (by omega))
    refine Z_push gX8_look_299 (v := (0, 0)) rfl ?_
    refine Z_sto gX8_look_300 rfl (ls' := [(1, ((97 : Nat) : Int)), (0, 0), (x1, x2), (y1, y2)]) (st' := []) rfl ?_
    refine Z_push gX8_look_301 (v := (0, 0)) rfl ?_
    refine Z_sto gX8_look_302 rfl (ls' := [(1, ((97 : Nat) : Int)), (0, 0), (0, 0), (y1, y2)]) (st' := []) rfl ?_
    refine Z_push gX8_look_303 (v := (0, 0)) rfl ?_
    refine Z_sto gX8_look_304 rfl (ls' := [(1, ((97 : Nat) : Int)), (0, 0), (0, 0), (0, 0)]) (st' := []) rfl ?_
    exact lookD hM hU hV hRV (fdN T T.1) 0 (by omega) 0 0 W (fun q hq => (plat (f := tkE T R) (k := 0) (fun q hq => tk_n (bs_n hq)) hq)) (fun q hq => (plat (f := frE T R) (k := 0) (fun q hq => fr_f (bs_n hq)) hq)) hF (fun q hq => hS q (by omega) hq) (fun j hj h => absurd h (by omega)) hf
  | succ k ih =>
    intro hk v2 v3 W hF hS hf
    obtain ⟨x1, x2⟩ := v2
    obtain ⟨y1, y2⟩ := v3
    rw [show ((k + 1 : Nat) : Int) - 1 = (k : Int) by omega]
    have s1 := sE_bd' (T := T) hRV hV1 (k + 1)
    have s0 := sE_bd' (T := T) hRV hV1 k
    have inner : ∀ m i : Nat, i + m = fdN T T.1 → ∀ (v3 : zV) (W : zW), MF W T T.1 → (∀ q, k < q → q ≤ T.1 + 3 → W 115 q = sE T R q) → W 115 k = (if rlT T k ≠ -1 ∧ fdN T k < i then sE T R k else sE T R (k + 1)) → frZ w W → Z ro 1 mX8_look 205 [(1, ((97 : Nat) : Int)), (0, (k : Int)), (0, (i : Int)), v3] [] W (fun r9 w' k9 => k9 = 0 ∧ ∃ o, r9 = .inl o ∧ (o = none ∧ MF w' T T.1 ∧ MSm w' T R ∧ MB w' T R ∧ frZ w w')) := by
      intro m
      induction m with
      | zero =>
        intro i hi v3 W hF hS hk0 hf
        obtain ⟨y1, y2⟩ := v3
        have hk1 : W 115 k = sE T R k := by
          rw [hk0]
          by_cases h : rlT T k = -1
          · rw [if_neg (fun h2 => h2.1 h), sE_n h]
          · have := (fdN_lt (k := T.1) h).mpr (by omega)
            rw [if_pos ⟨h, by omega⟩]
        refine Z_push gX8_look_205 (v := (0, (i : Int))) rfl ?_
        refine Z_push gX8_look_206 (v := (1, ((97 : Nat) : Int))) rfl ?_
        refine Z_getV (v := (fdN T T.1 : Int)) gX8_look_207 rfl rfl (by decide) hF.1 ?_
        refine Z_icmp_ge gX8_look_210 (tgt := 293) (by decide) (fun _ => ?_) (fun h210 => absurd h210 (by omega))
        refine Z_iinc gX8_look_293 rfl ⟨by omega, by omega⟩ (ls' := [(1, ((97 : Nat) : Int)), (0, (k : Int) + (-1)), (0, (i : Int)), (y1, y2)]) rfl ?_
        refine Z_goto gX8_look_296 (tgt := 185) (by decide) ?_
        rw [show (k : Int) + (-1) = (k : Int) - 1 by omega]
        exact ih (by omega) _ _ W hF (fun q h1 h2 => if e : q = k then by subst e; exact hk1 else hS q (by omega) h2) hf
      | succ m ih2 =>
        intro i hi v3 W hF hS hk0 hf
        obtain ⟨y1, y2⟩ := v3
        obtain ⟨j, b1, b2, rfl⟩ := fdN_ex (T := T) (i := i) (n := T.1) (by omega)
        obtain ⟨f1, f2, f3⟩ := hF.2 j b1 b2
        have hMW := MT_Z hM hf
        have hUW := MU_Z hU hf
        have hcur : 0 ≤ W 115 k := by rw [hk0]; split <;> omega
        have nxt : ∀ (v3 : zV) (x : Int), x = (if rlT T k ≠ -1 ∧ fdN T k < fdN T j + 1 then sE T R k else sE T R (k + 1)) → Z ro 1 mX8_look 205 [(1, ((97 : Nat) : Int)), (0, (k : Int)), (0, (fdN T j : Int) + 1), v3] [] (zup W 115 k x) (fun r9 w' k9 => k9 = 0 ∧ ∃ o, r9 = .inl o ∧ (o = none ∧ MF w' T T.1 ∧ MSm w' T R ∧ MB w' T R ∧ frZ w w')) := by
          intro v3 x hx
          exact ih2 (fdN T j + 1) (by omega) v3 _ (MF_115 hF (fun a q h => zup_ne (by omega))) (fun q h1 h2 => (zup_ne (by omega)).trans (hS q h1 h2)) ((zup_eq _ _ _ _).trans hx) (hf.trans (fun a q a1 a2 => zup_ne (by omega)))
        have zero : ∀ v3 : zV, (if rlT T k ≠ -1 ∧ fdN T k < fdN T j + 1 then sE T R k else sE T R (k + 1)) = W 115 k → Z ro 1 mX8_look 259 [(1, ((97 : Nat) : Int)), (0, (k : Int)), (0, (fdN T j : Int)), v3] [] W (fun r9 w' k9 => k9 = 0 ∧ ∃ o, r9 = .inl o ∧ (o = none ∧ MF w' T T.1 ∧ MSm w' T R ∧ MB w' T R ∧ frZ w w')) := by
          intro v3 hz
          obtain ⟨y1, y2⟩ := v3
          refine Z_push gX8_look_259 (v := (0, 0)) rfl ?_
          refine Z_sto gX8_look_260 rfl (ls' := [(1, ((97 : Nat) : Int)), (0, (k : Int)), (0, (fdN T j : Int)), (0, 0)]) (st' := []) rfl ?_
          refine Z_push gX8_look_261 (v := (1, ((97 : Nat) : Int))) rfl ?_
          refine Z_getR (b := 115) gX8_look_262 rfl rfl (by decide) rfl (by omega) ?_
          refine Z_push gX8_look_265 (v := (0, (k : Int))) rfl ?_
          refine Z_push gX8_look_266 (v := (0, 0)) rfl ?_
          refine Z_push gX8_look_267 (v := (1, ((97 : Nat) : Int))) rfl ?_
          refine Z_getR (b := 115) gX8_look_268 rfl rfl (by decide) rfl (by omega) ?_
          refine Z_push gX8_look_271 (v := (0, (k : Int))) rfl ?_
          refine Z_ialoadV (v := W 115 k) gX8_look_272 rfl (by omega) (by omega) rfl ?_
          refine Z_icmp_le gX8_look_273 (tgt := 280) (by decide) (fun _ => ?_) (fun h273 => absurd h273 (by omega))
          refine Z_push gX8_look_280 (v := (1, ((97 : Nat) : Int))) rfl ?_
          refine Z_getR (b := 115) gX8_look_281 rfl rfl (by decide) rfl (by omega) ?_
          refine Z_push gX8_look_284 (v := (0, (k : Int))) rfl ?_
          refine Z_ialoadV (v := W 115 k) gX8_look_285 rfl (by omega) (by omega) rfl ?_
          refine Z_iastore gX8_look_286 rfl (by omega) (by omega) ?_
          refine Z_iinc gX8_look_287 rfl ⟨by omega, by omega⟩ (ls' := [(1, ((97 : Nat) : Int)), (0, (k : Int)), (0, (fdN T j : Int) + 1), (0, 0)]) rfl ?_
          refine Z_goto gX8_look_290 (tgt := 205) (by decide) ?_
          exact nxt _ _ hz.symm
        refine Z_push gX8_look_205 (v := (0, (fdN T j : Int))) rfl ?_
        refine Z_push gX8_look_206 (v := (1, ((97 : Nat) : Int))) rfl ?_
        refine Z_getV (v := (fdN T T.1 : Int)) gX8_look_207 rfl rfl (by decide) hF.1 ?_
        refine Z_icmp_ge gX8_look_210 (tgt := 293) (by decide) (fun h210 => absurd h210 (by omega)) (fun _ => ?_)
        refine Z_push gX8_look_213 (v := (1, ((97 : Nat) : Int))) rfl ?_
        refine Z_getR (b := 112) gX8_look_214 rfl rfl (by decide) rfl (by omega) ?_
        refine Z_push gX8_look_217 (v := (0, (fdN T j : Int))) rfl ?_
        refine Z_ialoadV (v := (j : Int)) gX8_look_218 rfl (by omega) (by omega) f2 ?_
        refine Z_push gX8_look_219 (v := (0, (k : Int))) rfl ?_
        refine Z_icmp_ne gX8_look_220 (tgt := 259) (by decide) (fun h220 => ?_) (fun h220 => ?_)
        · refine zero _ ?_
          rw [hk0]
          by_cases h : rlT T k = -1
          · rw [if_neg (fun h2 => h2.1 h), if_neg (fun h2 => h2.1 h)]
          · by_cases h2 : fdN T k < fdN T j
            · rw [if_pos ⟨h, by omega⟩, if_pos ⟨h, h2⟩]
            · rw [if_neg (fun h3 => ?_), if_neg (fun h3 => h2 h3.2)]
              have := fdN_inj h b2 (by omega)
              omega
        · obtain rfl : j = k := by omega
          rw [if_neg (fun h2 => absurd h2.2 (Nat.lt_irrefl _))] at hk0
          refine Z_push gX8_look_223 (v := (1, ((97 : Nat) : Int))) rfl ?_
          refine Z_push gX8_look_224 (v := (0, (fdN T j : Int))) rfl ?_
          refine Z_callP (kd := 0) (na := 2) (M' := mX8_fixable) gX8_look_225 rfl rfl rfl rfl rfl rfl (fun _ => rfl) rfl rfl (fun _ _ => zrecv_obj rfl _ _ _) (d' := 0) (by omega) (vX8_fixable hF hMW hUW hV hRV b2) ?_
          refine Z_if_eq gX8_look_228 (tgt := 259) (by decide) (fun h228 => ?_) (fun h228 => ?_)
          · have hg0 : ¬ 0 < gnT T R j := fun h => by rw [if_pos h] at h228; exact absurd h228 (by decide)
            have hgb := gn_bd hRV T j
            refine zero _ ?_
            rw [hk0, if_pos ⟨b2, by omega⟩]
            exact sE_0 (by omega)
          · have hg1 : 0 < gnT T R j := Classical.byContradiction fun h => h228 (if_neg h)
            have hl := en_lt b2
            have hg := en_gt T j
            have hr5 := rl_5 b2
            have hrc := rl_cases T j
            have hgb := gn_bd hRV T j
            have hs1 := sE_bd' (T := T) hRV hV1 (enT T j + 1)
            obtain ⟨r, hr⟩ : ∃ r : Nat, rlT T j = (r : Int) := ⟨(rlT T j).toNat, by omega⟩
            have hgn : gnT T R j = if pnF T j (enT T j + 1 - j) = 1 then R.1 r else 0 := by
              unfold gnT
              rw [if_neg b2, hr]
              rfl
            rw [hr] at f1 hr5
            have hr5 : r < 5 := hr5
            have hw := hUW.1 r hr5
            have hgr : R.1 r = gnT T R j := by
              rw [hgn]
              split
              · rfl
              · rename_i h9; rw [hgn, if_neg h9] at hg1; omega
            rw [hgr] at hw
            have hf3 := sE_f (T := T) (R := R) b2
            have ht : (if rlT T j ≠ -1 ∧ fdN T j < fdN T j + 1 then sE T R j else sE T R (j + 1)) = sE T R j := if_pos ⟨b2, by omega⟩
            refine Z_push gX8_look_231 (v := (1, ((97 : Nat) : Int))) rfl ?_
            refine Z_getR (b := 102) gX8_look_232 rfl rfl (by decide) rfl (by omega) ?_
            refine Z_push gX8_look_235 (v := (1, ((97 : Nat) : Int))) rfl ?_
            refine Z_getR (b := 111) gX8_look_236 rfl rfl (by decide) rfl (by omega) ?_
            refine Z_push gX8_look_239 (v := (0, (fdN T j : Int))) rfl ?_
            refine Z_ialoadV (v := (r : Int)) gX8_look_240 rfl (by omega) (by omega) f1 ?_
            refine Z_ialoadV (v := gnT T R j) gX8_look_241 rfl (by omega) (by omega) hw ?_
            refine Z_push gX8_look_242 (v := (1, ((97 : Nat) : Int))) rfl ?_
            refine Z_getR (b := 115) gX8_look_243 rfl rfl (by decide) rfl (by omega) ?_
            refine Z_push gX8_look_246 (v := (1, ((97 : Nat) : Int))) rfl ?_
            refine Z_getR (b := 113) gX8_look_247 rfl rfl (by decide) rfl (by omega) ?_
            refine Z_push gX8_look_250 (v := (0, (fdN T j : Int))) rfl ?_
            refine Z_ialoadV (v := (enT T j : Int)) gX8_look_251 rfl (by omega) (by omega) f3 ?_
            refine Z_push gX8_look_252 (v := (0, 1)) rfl ?_
            refine Z_iadd gX8_look_253 ⟨by omega, by omega⟩ ?_
            refine Z_ialoadV (v := sE T R (enT T j + 1)) gX8_look_254 rfl (by omega) (by omega) (hS (enT T j + 1) (by omega) (by omega)) ?_
            refine Z_iadd gX8_look_255 ⟨by omega, by omega⟩ ?_
            refine Z_goto gX8_look_256 (tgt := 260) (by decide) ?_
            refine Z_sto gX8_look_260 rfl (ls' := [(1, ((97 : Nat) : Int)), (0, (j : Int)), (0, (fdN T j : Int)), (0, (gnT T R j) + (sE T R (enT T j + 1)))]) (st' := []) rfl ?_
            refine Z_push gX8_look_261 (v := (1, ((97 : Nat) : Int))) rfl ?_
            refine Z_getR (b := 115) gX8_look_262 rfl rfl (by decide) rfl (by omega) ?_
            refine Z_push gX8_look_265 (v := (0, (j : Int))) rfl ?_
            refine Z_push gX8_look_266 (v := (0, (gnT T R j) + (sE T R (enT T j + 1)))) rfl ?_
            refine Z_push gX8_look_267 (v := (1, ((97 : Nat) : Int))) rfl ?_
            refine Z_getR (b := 115) gX8_look_268 rfl rfl (by decide) rfl (by omega) ?_
            refine Z_push gX8_look_271 (v := (0, (j : Int))) rfl ?_
            refine Z_ialoadV (v := sE T R (j + 1)) gX8_look_272 rfl (by omega) (by omega) hk0 ?_
            refine Z_icmp_le gX8_look_273 (tgt := 280) (by decide) (fun h273 => ?_) (fun h273 => ?_)
            · rw [if_neg (by omega)] at hf3
              refine Z_push gX8_look_280 (v := (1, ((97 : Nat) : Int))) rfl ?_
              refine Z_getR (b := 115) gX8_look_281 rfl rfl (by decide) rfl (by omega) ?_
              refine Z_push gX8_look_284 (v := (0, (j : Int))) rfl ?_
              refine Z_ialoadV (v := sE T R (j + 1)) gX8_look_285 rfl (by omega) (by omega) hk0 ?_
              refine Z_iastore gX8_look_286 rfl (by omega) (by omega) ?_
              refine Z_iinc gX8_look_287 rfl ⟨by omega, by omega⟩ (ls' := [(1, ((97 : Nat) : Int)), (0, (j : Int)), (0, (fdN T j : Int) + 1), (0, (gnT T R j) + (sE T R (enT T j + 1)))]) rfl ?_
              refine Z_goto gX8_look_290 (tgt := 205) (by decide) ?_
              exact nxt _ _ (by rw [ht, hf3])
            · rw [if_pos (by omega)] at hf3
              refine Z_push gX8_look_276 (v := (0, (gnT T R j) + (sE T R (enT T j + 1)))) rfl ?_
              refine Z_goto gX8_look_277 (tgt := 286) (by decide) ?_
              refine Z_iastore gX8_look_286 rfl (by omega) (by omega) ?_
              refine Z_iinc gX8_look_287 rfl ⟨by omega, by omega⟩ (ls' := [(1, ((97 : Nat) : Int)), (0, (j : Int)), (0, (fdN T j : Int) + 1), (0, (gnT T R j) + (sE T R (enT T j + 1)))]) rfl ?_
              refine Z_goto gX8_look_290 (tgt := 205) (by decide) ?_
              exact nxt _ _ (by rw [ht, hf3])
    refine Z_push gX8_look_185 (v := (0, (k : Int))) rfl ?_
    refine Z_if_lt gX8_look_186 (tgt := 299) (by decide) (fun h186 => absurd h186 (by omega)) (fun _ => ?_)
    refine Z_push gX8_look_189 (v := (1, ((97 : Nat) : Int))) rfl ?_
    refine Z_getR (b := 115) gX8_look_190 rfl rfl (by decide) rfl (by omega) ?_
    refine Z_push gX8_look_193 (v := (0, (k : Int))) rfl ?_
    refine Z_push gX8_look_194 (v := (1, ((97 : Nat) : Int))) rfl ?_
    refine Z_getR (b := 115) gX8_look_195 rfl rfl (by decide) rfl (by omega) ?_
    refine Z_push gX8_look_198 (v := (0, (k : Int))) rfl ?_
    refine Z_push gX8_look_199 (v := (0, 1)) rfl ?_
    refine Z_iadd gX8_look_200 ⟨by omega, by omega⟩ ?_
    refine Z_ialoadV (v := sE T R (k + 1)) gX8_look_201 rfl (by omega) (by omega) (hS (k + 1) (by omega) (by omega)) ?_
    refine Z_iastore gX8_look_202 rfl (by omega) (by omega) ?_
    refine Z_push gX8_look_203 (v := (0, 0)) rfl ?_
    refine Z_sto gX8_look_204 rfl (ls' := [(1, ((97 : Nat) : Int)), (0, (k : Int)), (0, 0), (y1, y2)]) (st' := []) rfl ?_
    exact inner (fdN T T.1) 0 (by omega) _ _ (MF_115 hF (fun a q h => zup_ne (by omega))) (fun q h1 h2 => (zup_ne (by omega)).trans (hS q (by omega) h2)) ((zup_eq _ _ _ _).trans (by rw [if_neg (fun h => absurd h.2 (by omega))])) (hf.trans (fun a q a1 a2 => zup_ne (by omega)))
theorem lookB (hM : MT w T) (hU : MU w R) (hV : TV T) (hRV : RV B R) : ∀ m i : Nat, i + m = 4 → ∀ (v2 v3 : zV) (W : zW), MF W T T.1 → (∀ q, q < i → W 115 (T.1 + q) = 0) → frZ w W → Z ro 1 mX8_look 155 [(1, ((97 : Nat) : Int)), (0, (i : Int)), v2, v3] [] W (fun r9 w' k9 => k9 = 0 ∧ ∃ o, r9 = .inl o ∧ (o = none ∧ MF w' T T.1 ∧ MSm w' T R ∧ MB w' T R ∧ frZ w w')) := by
  have hV1 := hV.1
  intro m
  induction m with
  | zero =>
    intro i hi v2 v3 W hF hS hf
    obtain ⟨x1, x2⟩ := v2
    obtain ⟨y1, y2⟩ := v3
    have hMW := MT_Z hM hf
    refine Z_push gX8_look_155 (v := (0, (i : Int))) rfl ?_
    refine Z_push gX8_look_156 (v := (0, 4)) rfl ?_
    refine Z_icmp_ge gX8_look_157 (tgt := 178) (by decide) (fun _ => ?_) (fun h157 => absurd h157 (by omega))
    refine Z_push gX8_look_178 (v := (1, ((97 : Nat) : Int))) rfl ?_
    refine Z_getV (v := (T.1 : Int)) gX8_look_179 rfl rfl (by decide) hMW.1 ?_
    refine Z_push gX8_look_182 (v := (0, 1)) rfl ?_
    refine Z_isub gX8_look_183 ⟨by omega, by omega⟩ ?_
    refine Z_sto gX8_look_184 rfl (ls' := [(1, ((97 : Nat) : Int)), (0, (T.1 : Int) - 1), (x1, x2), (y1, y2)]) (st' := []) rfl ?_
    refine lookC hM hU hV hRV T.1 (Nat.le_refl _) _ _ W hF (fun q h1 h2 => ?_) hf
    have := hS (q - T.1) (by omega)
    rw [show T.1 + (q - T.1) = q by omega] at this
    rw [this, sE_end h1]
  | succ m ih =>
    intro i hi v2 v3 W hF hS hf
    obtain ⟨x1, x2⟩ := v2
    obtain ⟨y1, y2⟩ := v3
    have hMW := MT_Z hM hf
    refine Z_push gX8_look_155 (v := (0, (i : Int))) rfl ?_
    refine Z_push gX8_look_156 (v := (0, 4)) rfl ?_
    refine Z_icmp_ge gX8_look_157 (tgt := 178) (by decide) (fun h157 => absurd h157 (by omega)) (fun _ => ?_)
    refine Z_push gX8_look_160 (v := (1, ((97 : Nat) : Int))) rfl ?_
    refine Z_getR (b := 115) gX8_look_161 rfl rfl (by decide) rfl (by omega) ?_
    refine Z_push gX8_look_164 (v := (1, ((97 : Nat) : Int))) rfl ?_
    refine Z_getV (v := (T.1 : Int)) gX8_look_165 rfl rfl (by decide) hMW.1 ?_
    refine Z_push gX8_look_168 (v := (0, (i : Int))) rfl ?_
    refine Z_iadd gX8_look_169 ⟨by omega, by omega⟩ ?_
    refine Z_push gX8_look_170 (v := (0, 0)) rfl ?_
    refine Z_iastore gX8_look_171 rfl (by omega) (by omega) ?_
    refine Z_iinc gX8_look_172 rfl ⟨by omega, by omega⟩ (ls' := [(1, ((97 : Nat) : Int)), (0, (i : Int) + 1), (x1, x2), (y1, y2)]) rfl ?_
    refine Z_goto gX8_look_175 (tgt := 155) (by decide) ?_
    refine ih (i + 1) (by omega) _ _ _ (MF_115 hF (fun a q h => zup_ne (by omega))) (fun q hq => ?_) (hf.trans (fun a q a1 a2 => zup_ne (by omega)))
    rw [show ((T.1 : Int) + (i : Int)).toNat = T.1 + i by omega]
    by_cases e : q = i
    · subst e; exact zup_eq _ _ _ _
    · exact (zup_ne (by omega)).trans (hS q (by omega))
theorem vX8_look (hM : MT w T) (hU : MU w R) (hV : TV T) (hRV : RV B R) : Ev ro 1 mX8_look [(1, ((97 : Nat) : Int))] w (fun o w' => o = none ∧ MF w' T T.1 ∧ MSm w' T R ∧ MB w' T R ∧ frZ w w') := by
  have hV1 := hV.1
  have loop : ∀ m k : Nat, k + m = T.1 → ∀ (v2 v3 : zV) (W : zW), MF W T k → frZ w W → Z ro 1 mX8_look 7 [(1, ((97 : Nat) : Int)), (0, (k : Int)), v2, v3] [] W (fun r9 w' k9 => k9 = 0 ∧ ∃ o, r9 = .inl o ∧ (o = none ∧ MF w' T T.1 ∧ MSm w' T R ∧ MB w' T R ∧ frZ w w')) := by
    intro m
    induction m with
    | zero =>
      intro k hk v2 v3 W hF hf
      obtain ⟨x1, x2⟩ := v2
      obtain ⟨y1, y2⟩ := v3
      have hMW := MT_Z hM hf
      obtain rfl : k = T.1 := by omega
      refine Z_push gX8_look_7 (v := (0, (T.1 : Int))) rfl ?_
      refine Z_push gX8_look_8 (v := (1, ((97 : Nat) : Int))) rfl ?_
      refine Z_getV (v := (T.1 : Int)) gX8_look_9 rfl rfl (by decide) hMW.1 ?_
      refine Z_icmp_ge gX8_look_12 (tgt := 153) (by decide) (fun _ => ?_) (fun h12 => absurd h12 (by omega))
      refine Z_push gX8_look_153 (v := (0, 0)) rfl ?_
      refine Z_sto gX8_look_154 rfl (ls' := [(1, ((97 : Nat) : Int)), (0, 0), (x1, x2), (y1, y2)]) (st' := []) rfl ?_
      exact lookB hM hU hV hRV 4 0 (by omega) _ _ W hF (fun q h => absurd h (by omega)) hf
    | succ m ih =>
      intro k hk v2 v3 W hF hf
      obtain ⟨x1, x2⟩ := v2
      obtain ⟨y1, y2⟩ := v3
      have hMW := MT_Z hM hf
      have hkT : k < T.1 := by omega
      have hfl := fdN_le T k
      have erl : rlT T k = (if rpT T k = -1 then (if blT T k = 1 then 4 else -1) else rpT T k) := if_pos hkT
      have hrp := rp_cases T k
      have hbl := bl_01 T k
      -- behind the pair
      have tail : ∀ (v2 v3 : zV) (W : zW), MT W T → frZ w W → (blT T k = 1 → MF W T k ∧ rlT T k = 4) → (blT T k = 0 → MF W T (k + 1)) → Z ro 1 mX8_look 112 [(1, ((97 : Nat) : Int)), (0, (k : Int)), v2, v3] [] W (fun r9 w' k9 => k9 = 0 ∧ ∃ o, r9 = .inl o ∧ (o = none ∧ MF w' T T.1 ∧ MSm w' T R ∧ MB w' T R ∧ frZ w w')) := by
        intro v2 v3 W hMW hf h1 h0
        obtain ⟨x1, x2⟩ := v2
        obtain ⟨y1, y2⟩ := v3
        have hA := vX8_are (ro := ro) hMW hV1 hkT 123 (b := 110) (by omega)
        refine Z_push gX8_look_112 (v := (1, ((97 : Nat) : Int))) rfl ?_
        refine Z_push gX8_look_113 (v := (0, (k : Int))) rfl ?_
        refine Z_push gX8_look_114 (v := (0, 123)) rfl ?_
        refine Z_push gX8_look_116 (v := (0, 110)) rfl ?_
        refine Z_callP (kd := 0) (na := 4) (M' := mX8_are) gX8_look_118 rfl rfl rfl rfl rfl rfl (fun _ => rfl) rfl rfl (fun _ _ => zrecv_obj rfl _ _ _) (d' := 0) (by omega) (hA) ?_
        refine Z_if_eq gX8_look_121 (tgt := 147) (by decide) (fun h121 => ?_) (fun h121 => ?_)
        · have hb : blT T k = 0 := by
            unfold blT
            rw [if_neg (fun h => ?_)]
            rw [if_pos ⟨h.1, h.2.1⟩] at h121
            exact absurd h121 (by decide)
          refine Z_iinc gX8_look_147 rfl ⟨by omega, by omega⟩ (ls' := [(1, ((97 : Nat) : Int)), (0, (k : Int) + 1), (x1, x2), (y1, y2)]) rfl ?_
          refine Z_goto gX8_look_150 (tgt := 7) (by decide) ?_
          exact ih (k + 1) (by omega) _ _ W (h0 hb) hf
        · have hc : kT T k = 123 ∧ kT T ((k : Int) + 1) = 110 := Classical.byContradiction fun h => h121 (if_neg h)
          have hk1 := kT_in (T := T) (i := (k : Int) + 1) (by omega)
          have hA2 : Pv ro 0 mX8_are [(1, ((97 : Nat) : Int)), (0, (k : Int) + 1), (0, 110), (0, 125)] W (0, if kT T ((k : Int) + 1) = 110 ∧ kT T ((k : Int) + 1 + 1) = 125 then 1 else 0) := vX8_are (ro := ro) hMW hV1 (k := k + 1) (by omega) 110 (b := 125) (by omega)
          rw [show (k : Int) + 1 + 1 = (k : Int) + 2 by omega] at hA2
          refine Z_push gX8_look_124 (v := (1, ((97 : Nat) : Int))) rfl ?_
          refine Z_push gX8_look_125 (v := (0, (k : Int))) rfl ?_
          refine Z_push gX8_look_126 (v := (0, 1)) rfl ?_
          refine Z_iadd gX8_look_127 ⟨by omega, by omega⟩ ?_
          refine Z_push gX8_look_128 (v := (0, 110)) rfl ?_
          refine Z_push gX8_look_130 (v := (0, 125)) rfl ?_
          refine Z_callP (kd := 0) (na := 4) (M' := mX8_are) gX8_look_132 rfl rfl rfl rfl rfl rfl (fun _ => rfl) rfl rfl (fun _ _ => zrecv_obj rfl _ _ _) (d' := 0) (by omega) (hA2) ?_
          refine Z_if_eq gX8_look_135 (tgt := 147) (by decide) (fun h135 => ?_) (fun h135 => ?_)
          · have hb : blT T k = 0 := by
              unfold blT
              rw [if_neg (fun h => ?_)]
              rw [if_pos ⟨h.2.1, h.2.2⟩] at h135
              exact absurd h135 (by decide)
            refine Z_iinc gX8_look_147 rfl ⟨by omega, by omega⟩ (ls' := [(1, ((97 : Nat) : Int)), (0, (k : Int) + 1), (x1, x2), (y1, y2)]) rfl ?_
            refine Z_goto gX8_look_150 (tgt := 7) (by decide) ?_
            exact ih (k + 1) (by omega) _ _ W (h0 hb) hf
          · have hc2 : kT T ((k : Int) + 1) = 110 ∧ kT T ((k : Int) + 2) = 125 := Classical.byContradiction fun h => h135 (if_neg h)
            have hb : blT T k = 1 := if_pos ⟨hc.1, hc2⟩
            obtain ⟨hF, h4⟩ := h1 hb
            have hr : rlT T k ≠ -1 := by omega
            have he : enT T k = k + 2 := if_pos h4
            refine Z_push gX8_look_138 (v := (1, ((97 : Nat) : Int))) rfl ?_
            refine Z_push gX8_look_139 (v := (0, 4)) rfl ?_
            refine Z_push gX8_look_140 (v := (0, (k : Int))) rfl ?_
            refine Z_push gX8_look_141 (v := (0, (k : Int))) rfl ?_
            refine Z_push gX8_look_142 (v := (0, 2)) rfl ?_
            refine Z_iadd gX8_look_143 ⟨by omega, by omega⟩ ?_
            refine Z_callW (kd := 0) (na := 4) (M' := mX8_find) gX8_look_144 rfl rfl rfl rfl rfl rfl (fun _ => rfl) rfl rfl (fun _ _ => zrecv_obj rfl _ _ _) (d' := 0) (by omega) (vX8_find hF.1 (by omega) 4 (k : Int) ((k : Int) + 2)) ?_
            refine Z_iinc gX8_look_147 rfl ⟨by omega, by omega⟩ (ls' := [(1, ((97 : Nat) : Int)), (0, (k : Int) + 1), (x1, x2), (y1, y2)]) rfl ?_
            refine Z_goto gX8_look_150 (tgt := 7) (by decide) ?_
            exact ih (k + 1) (by omega) _ _ _ (MF_note hF hr h4 (by rw [he]; rfl)) (hf.trans nw4_fr)
      -- the rule of the pair on the stack
      have pair : ∀ (x : Int) (v2 v3 : zV), x = rpT T k → Z ro 1 mX8_look 98 [(1, ((97 : Nat) : Int)), (0, (k : Int)), (0, x), v3] [] W (fun r9 w' k9 => k9 = 0 ∧ ∃ o, r9 = .inl o ∧ (o = none ∧ MF w' T T.1 ∧ MSm w' T R ∧ MB w' T R ∧ frZ w w')) := by
        intro x v2 v3 hx
        obtain ⟨y1, y2⟩ := v3
        subst hx
        refine Z_push gX8_look_98 (v := (0, rpT T k)) rfl ?_
        refine Z_push gX8_look_99 (v := (0, -1)) rfl ?_
        refine Z_icmp_eq gX8_look_100 (tgt := 112) (by decide) (fun h100 => ?_) (fun h100 => ?_)
        · rw [if_pos h100] at erl
          exact tail _ _ W hMW hf (fun hb => ⟨hF, by rw [if_pos hb] at erl; exact erl⟩) (fun hb => MF_skip hF (by rw [if_neg (by omega)] at erl; exact erl))
        · rw [if_neg h100] at erl
          have hb := rp_bl h100
          have hr : rlT T k ≠ -1 := by omega
          have he : enT T k = k + 1 := if_neg (by omega)
          refine Z_push gX8_look_103 (v := (1, ((97 : Nat) : Int))) rfl ?_
          refine Z_push gX8_look_104 (v := (0, rpT T k)) rfl ?_
          refine Z_push gX8_look_105 (v := (0, (k : Int))) rfl ?_
          refine Z_push gX8_look_106 (v := (0, (k : Int))) rfl ?_
          refine Z_push gX8_look_107 (v := (0, 1)) rfl ?_
          refine Z_iadd gX8_look_108 ⟨by omega, by omega⟩ ?_
          refine Z_callW (kd := 0) (na := 4) (M' := mX8_find) gX8_look_109 rfl rfl rfl rfl rfl rfl (fun _ => rfl) rfl rfl (fun _ _ => zrecv_obj rfl _ _ _) (d' := 0) (by omega) (vX8_find hF.1 (by omega) (rpT T k) (k : Int) ((k : Int) + 1)) ?_
          exact tail _ _ _ (MT_Z hMW nw4_fr) (hf.trans nw4_fr) (fun h => absurd h (by omega)) (fun _ => MF_note hF hr erl (by rw [he]; rfl))
      have p3 : ¬ (kT T k = 110 ∧ isT T ((k : Int) + 1) (T.2 k).2.1 = 1) → Z ro 1 mX8_look 48 [(1, ((97 : Nat) : Int)), (0, (k : Int)), (x1, x2), (y1, y2)] [] W (fun r9 w' k9 => k9 = 0 ∧ ∃ o, r9 = .inl o ∧ (o = none ∧ MF w' T T.1 ∧ MSm w' T R ∧ MB w' T R ∧ frZ w w')) := by
        intro n0
        have hA := vX8_are (ro := ro) hMW hV1 hkT 123 (b := 125) (by omega)
        have hB := vX8_are (ro := ro) hMW hV1 hkT 99 (b := 125) (by omega)
        have hC := vX8_are (ro := ro) hMW hV1 hkT 99 (b := 99) (by omega)
        have e0 : rpT T k = if kT T k = 123 ∧ kT T ((k : Int) + 1) = 125 then 1 else if kT T k = 99 ∧ kT T ((k : Int) + 1) = 125 then 2 else if kT T k = 99 ∧ kT T ((k : Int) + 1) = 99 then 3 else -1 := by
          unfold rpT
          rw [show ((k : Int)).toNat = k from rfl, if_neg n0]
        refine Z_push gX8_look_48 (v := (1, ((97 : Nat) : Int))) rfl ?_
        refine Z_push gX8_look_49 (v := (0, (k : Int))) rfl ?_
        refine Z_push gX8_look_50 (v := (0, 123)) rfl ?_
        refine Z_push gX8_look_52 (v := (0, 125)) rfl ?_
        refine Z_callP (kd := 0) (na := 4) (M' := mX8_are) gX8_look_54 rfl rfl rfl rfl rfl rfl (fun _ => rfl) rfl rfl (fun _ _ => zrecv_obj rfl _ _ _) (d' := 0) (by omega) (hA) ?_
        refine Z_if_eq gX8_look_57 (tgt := 64) (by decide) (fun h57 => ?_) (fun h57 => ?_)
        · have c1 : ¬ (kT T k = 123 ∧ kT T ((k : Int) + 1) = 125) := fun h => by rw [if_pos h] at h57; exact absurd h57 (by decide)
          rw [if_neg c1] at e0
          refine Z_push gX8_look_64 (v := (1, ((97 : Nat) : Int))) rfl ?_
          refine Z_push gX8_look_65 (v := (0, (k : Int))) rfl ?_
          refine Z_push gX8_look_66 (v := (0, 99)) rfl ?_
          refine Z_push gX8_look_68 (v := (0, 125)) rfl ?_
          refine Z_callP (kd := 0) (na := 4) (M' := mX8_are) gX8_look_70 rfl rfl rfl rfl rfl rfl (fun _ => rfl) rfl rfl (fun _ _ => zrecv_obj rfl _ _ _) (d' := 0) (by omega) (hB) ?_
          refine Z_if_eq gX8_look_73 (tgt := 80) (by decide) (fun h73 => ?_) (fun h73 => ?_)
          · have c2 : ¬ (kT T k = 99 ∧ kT T ((k : Int) + 1) = 125) := fun h => by rw [if_pos h] at h73; exact absurd h73 (by decide)
            rw [if_neg c2] at e0
            refine Z_push gX8_look_80 (v := (1, ((97 : Nat) : Int))) rfl ?_
            refine Z_push gX8_look_81 (v := (0, (k : Int))) rfl ?_
            refine Z_push gX8_look_82 (v := (0, 99)) rfl ?_
            refine Z_push gX8_look_84 (v := (0, 99)) rfl ?_
            refine Z_callP (kd := 0) (na := 4) (M' := mX8_are) gX8_look_86 rfl rfl rfl rfl rfl rfl (fun _ => rfl) rfl rfl (fun _ _ => zrecv_obj rfl _ _ _) (d' := 0) (by omega) (hC) ?_
            refine Z_if_eq gX8_look_89 (tgt := 96) (by decide) (fun h89 => ?_) (fun h89 => ?_)
            · have c3 : ¬ (kT T k = 99 ∧ kT T ((k : Int) + 1) = 99) := fun h => by rw [if_pos h] at h89; exact absurd h89 (by decide)
              rw [if_neg c3] at e0
              refine Z_push gX8_look_96 (v := (0, -1)) rfl ?_
              refine Z_sto gX8_look_97 rfl (ls' := [(1, ((97 : Nat) : Int)), (0, (k : Int)), (0, -1), (y1, y2)]) (st' := []) rfl ?_
              exact pair (-1) (9, 0) _ e0.symm
            · have c3 : kT T k = 99 ∧ kT T ((k : Int) + 1) = 99 := Classical.byContradiction fun h => h89 (if_neg h)
              rw [if_pos c3] at e0
              refine Z_push gX8_look_92 (v := (0, 3)) rfl ?_
              refine Z_goto gX8_look_93 (tgt := 97) (by decide) ?_
              refine Z_sto gX8_look_97 rfl (ls' := [(1, ((97 : Nat) : Int)), (0, (k : Int)), (0, 3), (y1, y2)]) (st' := []) rfl ?_
              exact pair 3 (9, 0) _ e0.symm
          · have c2 : kT T k = 99 ∧ kT T ((k : Int) + 1) = 125 := Classical.byContradiction fun h => h73 (if_neg h)
            rw [if_pos c2] at e0
            refine Z_push gX8_look_76 (v := (0, 2)) rfl ?_
            refine Z_goto gX8_look_77 (tgt := 97) (by decide) ?_
            refine Z_sto gX8_look_97 rfl (ls' := [(1, ((97 : Nat) : Int)), (0, (k : Int)), (0, 2), (y1, y2)]) (st' := []) rfl ?_
            exact pair 2 (9, 0) _ e0.symm
        · have c1 : kT T k = 123 ∧ kT T ((k : Int) + 1) = 125 := Classical.byContradiction fun h => h57 (if_neg h)
          rw [if_pos c1] at e0
          refine Z_push gX8_look_60 (v := (0, 1)) rfl ?_
          refine Z_goto gX8_look_61 (tgt := 97) (by decide) ?_
          refine Z_sto gX8_look_97 rfl (ls' := [(1, ((97 : Nat) : Int)), (0, (k : Int)), (0, 1), (y1, y2)]) (st' := []) rfl ?_
          exact pair 1 (9, 0) _ e0.symm
      have hA := vX8_are (ro := ro) hMW hV1 hkT 110 (b := 110) (by omega)
      refine Z_push gX8_look_7 (v := (0, (k : Int))) rfl ?_
      refine Z_push gX8_look_8 (v := (1, ((97 : Nat) : Int))) rfl ?_
      refine Z_getV (v := (T.1 : Int)) gX8_look_9 rfl rfl (by decide) hMW.1 ?_
      refine Z_icmp_ge gX8_look_12 (tgt := 153) (by decide) (fun h12 => absurd h12 (by omega)) (fun _ => ?_)
      refine Z_push gX8_look_15 (v := (1, ((97 : Nat) : Int))) rfl ?_
      refine Z_push gX8_look_16 (v := (0, (k : Int))) rfl ?_
      refine Z_push gX8_look_17 (v := (0, 110)) rfl ?_
      refine Z_push gX8_look_19 (v := (0, 110)) rfl ?_
      refine Z_callP (kd := 0) (na := 4) (M' := mX8_are) gX8_look_21 rfl rfl rfl rfl rfl rfl (fun _ => rfl) rfl rfl (fun _ _ => zrecv_obj rfl _ _ _) (d' := 0) (by omega) (hA) ?_
      refine Z_if_eq gX8_look_24 (tgt := 48) (by decide) (fun h24 => ?_) (fun h24 => ?_)
      · refine p3 (fun h => ?_)
        have h2 := h.2
        unfold isT at h2
        split at h2
        · rename_i h3
          rw [if_pos ⟨h.1, h3.1⟩] at h24
          exact absurd h24 (by decide)
        · exact absurd h2 (by decide)
      · have c : kT T k = 110 ∧ kT T ((k : Int) + 1) = 110 := Classical.byContradiction fun h => h24 (if_neg h)
        have hk1 := kT_in (T := T) (i := (k : Int) + 1) (by omega)
        refine Z_push gX8_look_27 (v := (1, ((97 : Nat) : Int))) rfl ?_
        refine Z_getR (b := 99) gX8_look_28 rfl rfl (by decide) rfl (by omega) ?_
        refine Z_push gX8_look_31 (v := (0, (k : Int))) rfl ?_
        refine Z_ialoadV (v := (T.2 k).2.1) gX8_look_32 rfl (by omega) (by omega) (hMW.n hkT c.1) ?_
        refine Z_push gX8_look_33 (v := (1, ((97 : Nat) : Int))) rfl ?_
        refine Z_getR (b := 99) gX8_look_34 rfl rfl (by decide) rfl (by omega) ?_
        refine Z_push gX8_look_37 (v := (0, (k : Int))) rfl ?_
        refine Z_push gX8_look_38 (v := (0, 1)) rfl ?_
        refine Z_iadd gX8_look_39 ⟨by omega, by omega⟩ ?_
        refine Z_ialoadV (v := (T.2 (k + 1)).2.1) gX8_look_40 rfl (by omega) (by omega) (hMW.n (k := k + 1) (by omega) c.2) ?_
        refine Z_icmp_ne gX8_look_41 (tgt := 48) (by decide) (fun h41 => ?_) (fun h41 => ?_)
        · refine p3 (fun h => ?_)
          have h2 := h.2
          unfold isT at h2
          split at h2
          · rename_i h3
            exact h41 h3.2.symm
          · exact absurd h2 (by decide)
        · refine Z_push gX8_look_44 (v := (0, 0)) rfl ?_
          refine Z_goto gX8_look_45 (tgt := 97) (by decide) ?_
          refine Z_sto gX8_look_97 rfl (ls' := [(1, ((97 : Nat) : Int)), (0, (k : Int)), (0, 0), (y1, y2)]) (st' := []) rfl ?_
          refine pair 0 (9, 0) _ ?_
          unfold rpT
          rw [if_pos ⟨c.1, if_pos ⟨c.2, h41.symm⟩⟩]
  show Z ro 1 mX8_look 0 [(1, ((97 : Nat) : Int)), (9, 0), (9, 0), (9, 0)] [] w _
  refine Z_push gX8_look_0 (v := (1, ((97 : Nat) : Int))) rfl ?_
  refine Z_push gX8_look_1 (v := (0, 0)) rfl ?_
  refine Z_put gX8_look_2 rfl rfl (by decide) rfl (fun h => by cases h) ?_
  refine Z_push gX8_look_5 (v := (0, 0)) rfl ?_
  refine Z_sto gX8_look_6 rfl (ls' := [(1, ((97 : Nat) : Int)), (0, 0), (9, 0), (9, 0)]) (st' := []) rfl ?_
  exact loop T.1 0 (by omega) _ _ _ ⟨zup_eq _ _ _ _, fun q h => absurd h (by omega)⟩ (fun a k h1 h2 => zup_ne h2)
end
