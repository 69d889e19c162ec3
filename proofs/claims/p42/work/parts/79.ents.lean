/-! the law's areEntries -/
theorem get_new (X : List zLE) (e : zLE) : (zLY ++ (X ++ [e]))[97 + X.length]? = some e := by
  rw [← List.append_assoc, List.getElem?_append_right (by rw [List.length_append, zLY_len]; exact Nat.le_refl _), List.length_append, zLY_len, Nat.sub_self]
  rfl
theorem get_old {X : List zLE} {e x : zLE} {a : Nat} (h : (zLY ++ X)[a]? = some x) : (zLY ++ (X ++ [e]))[a]? = some x := by
  rw [← List.append_assoc]
  exact get_xt h
section
variable {T : zTx}
theorem cm_max : ∀ m : Nat, ∀ j : Nat, j < m → tmT T (j : Int) T.1 ≤ tmT T (cmT T m : Int) T.1
  | 0, j, h => absurd h (Nat.not_lt_zero _)
  | m + 1, j, h => by
    have ih := cm_max m j
    unfold cmT
    split
    · by_cases e : j = m
      · subst e; exact Int.le_refl _
      · have := ih (by omega); omega
    · by_cases e : j = m
      · subst e; omega
      · exact ih (by omega)
theorem cm_first : ∀ m : Nat, ∀ j : Nat, j < cmT T m → tmT T (j : Int) T.1 < tmT T (cmT T m : Int) T.1
  | 0, j, h => absurd h (Nat.not_lt_zero _)
  | m + 1, j, h => by
    have ih := cm_first m j
    have hm := cm_max (T := T) m j
    unfold cmT at h ⊢
    split at h
    · rename_i c; rw [if_pos c]; have := hm h; omega
    · rename_i c; rw [if_neg c]; exact ih h
/-- the commonest of the names from 100 - m on, -1 where none occurs -/
def moT (T : zTx) : Nat → Int
  | 0 => -1
  | m + 1 => if 0 < tmT T (99 - (m : Int)) T.1 ∧ (moT T m < 0 ∨ tmT T (moT T m) T.1 ≤ tmT T (99 - (m : Int)) T.1) then 99 - (m : Int) else moT T m
theorem mo_spec : ∀ m : Nat, m ≤ 100 → (moT T m = -1 ∧ ∀ j : Nat, 100 - m ≤ j → j < 100 → tmT T (j : Int) T.1 ≤ 0) ∨ (∃ p : Nat, moT T m = (p : Int) ∧ 100 - m ≤ p ∧ p < 100 ∧ 0 < tmT T (p : Int) T.1 ∧ (∀ j : Nat, 100 - m ≤ j → j < 100 → tmT T (j : Int) T.1 ≤ tmT T (p : Int) T.1) ∧ (∀ j : Nat, 100 - m ≤ j → j < p → tmT T (j : Int) T.1 < tmT T (p : Int) T.1))
  | 0, _ => Or.inl ⟨rfl, fun j h1 h2 => absurd h2 (by omega)⟩
  | m + 1, hm => by
    have e : (99 : Int) - (m : Int) = ((99 - m : Nat) : Int) := by omega
    unfold moT
    rw [e]
    rcases mo_spec m (by omega) with ⟨a, b⟩ | ⟨p, a, b, c, d, f, g⟩
    · rw [a]
      by_cases h : 0 < tmT T ((99 - m : Nat) : Int) T.1
      · rw [if_pos ⟨h, Or.inl (by decide)⟩]
        refine Or.inr ⟨99 - m, rfl, by omega, by omega, h, fun j h1 h2 => ?_, fun j h1 h2 => absurd h1 (by omega)⟩
        by_cases hj : j = 99 - m
        · rw [hj]; exact Int.le_refl _
        · have := b j (by omega) h2; omega
      · rw [if_neg (fun h9 => h h9.1)]
        refine Or.inl ⟨rfl, fun j h1 h2 => ?_⟩
        by_cases hj : j = 99 - m
        · rw [hj]; omega
        · exact b j (by omega) h2
    · rw [a]
      by_cases h : 0 < tmT T ((99 - m : Nat) : Int) T.1 ∧ ((p : Int) < 0 ∨ tmT T (p : Int) T.1 ≤ tmT T ((99 - m : Nat) : Int) T.1)
      · rw [if_pos h]
        refine Or.inr ⟨99 - m, rfl, by omega, by omega, h.1, fun j h1 h2 => ?_, fun j h1 h2 => absurd h1 (by omega)⟩
        by_cases hj : j = 99 - m
        · rw [hj]; exact Int.le_refl _
        · have := f j (by omega) h2; omega
      · rw [if_neg h]
        refine Or.inr ⟨p, rfl, by omega, c, d, fun j h1 h2 => ?_, fun j h1 h2 => ?_⟩
        · by_cases hj : j = 99 - m
          · rw [hj]; omega
          · exact f j (by omega) h2
        · by_cases hj : j = 99 - m
          · rw [hj]; omega
          · exact g j (by omega) h2
theorem mo_bd {m : Nat} (h : m ≤ 100) : -1 ≤ moT T m ∧ moT T m < 100 := by
  rcases mo_spec (T := T) m h with ⟨a, b⟩ | ⟨p, a, b, c, d⟩ <;> omega
theorem mo_fin : (cdCom T = 1 ∧ moT T 100 < 0) ∨ (cdCom T = 0 ∧ 0 ≤ moT T 100 ∧ moT T 100 = (cmT T 100 : Int)) := by
  have hc : cmT T 100 < 100 := by
    have h := cmT_lt T 99
    show (if tmT T (cmT T 99 : Int) T.1 < tmT T ((99 : Nat) : Int) T.1 then 99 else cmT T 99) < 100
    split <;> omega
  rcases mo_spec (T := T) 100 (Nat.le_refl _) with ⟨a, b⟩ | ⟨p, a, b, c, d, f, g⟩
  · refine Or.inl ⟨?_, by omega⟩
    have h1 := b (cmT T 100) (by omega) hc
    have h2 := (tmT_bd T (cmT T 100 : Int) T.1).1
    unfold cdCom
    rw [if_pos (by omega)]
  · have h1 := cm_max (T := T) 100 p c
    refine Or.inr ⟨?_, by omega, ?_⟩
    · unfold cdCom
      rw [if_neg (by omega)]
    · rw [a]
      by_cases h3 : p < cmT T 100
      · have := cm_first (T := T) 100 p h3
        have := f (cmT T 100) (by omega) hc
        omega
      · by_cases h4 : cmT T 100 < p
        · have := g (cmT T 100) (by omega) h4
          omega
        · omega
end
/-- the law's row of counts: the names that occur among the first k entries -/
def occR (w : zW) (a : Nat) (T : zTx) (k : Nat) : Prop := ∀ x : Int, 0 ≤ x → x < 100 → w a x.toNat = tmT T x k
theorem occ_fr {w w' : zW} {a k : Nat} {T : zTx} (h : occR w a T k) (f : frC w w') (ha : 97 ≤ a) : occR w' a T k := fun x h1 h2 => (f a _ ha).trans (h x h1 h2)
section
variable {ro : zRo} {X : List zLE} {w : zW} {T : zTx} {R : zRu} {D : zDs} {lim la B : Int} {a : Nat}
theorem cdName_0 {i : Int} (h : 0 ≤ i ∧ i < 100) : cdName i = 0 := if_pos h
theorem tY_entsEnd (hC : CR w T R D lim la) (hV : SV B T R D lim la) (v2 : Int) (u7 u8 u9 : zV) : Y ro 37 mL_areEntries 361 [(1, ((0 : Nat) : Int)), (0, (T.1 : Int)), (0, v2), (0, wsT T T.1), (0, 1), (1, (a : Int)), (0, moT T 100), u7, u8, u9] [] X w 1 (QT T R D lim la) := by
  have hG := frC.refl w
  have hT30 := hV.1.1
  have last : ∀ w : zW, CR w T R D lim la → Y ro 37 mL_areEntries 388 [(1, ((0 : Nat) : Int)), (0, (T.1 : Int)), (0, v2), (0, wsT T T.1), (0, 1), (1, (a : Int)), (0, moT T 100), u7, u8, u9] [] X w 0 (QT T R D lim la) := by
    intro w hC
    have hG := frC.refl w
    by_cases h : T.1 = 0
    · refine Y_push gL_areEntries_388 (v := (0, (T.1 : Int))) rfl ?_
      refine Y_if_eq gL_areEntries_389 (tgt := 405) (by decide) (fun _ => ?_) (fun h389 => absurd h389 (by omega))
      refine Y_push gL_areEntries_405 (v := (0, 1)) rfl ?_
      refine Y_goto gL_areEntries_406 (tgt := 410) (by decide) ?_
      refine Y_retXB gL_areEntries_410 rfl (by first | exact Or.inl rfl | exact Or.inr rfl | assumption | omega) ?_
      exact ⟨_, rfl, rfl, by assumption⟩
    · have hsb := wsT_bd hV.1 T.1
      have hz := dl_div (a := wsT T T.1) (b := (T.1 : Int)) ⟨hsb.1, by omega⟩ ⟨by omega, by omega⟩
      have e : zarith (zmth 9) .ddiv 1 [(4, ((dI (T.1 : Int)).toNat : Int)), (4, ((dI (wsT T T.1)).toNat : Int)), (4, mwV T)] = some [(4, mwV T), (4, mwV T)] := by
        show (if zn64 (FP.ddiv (UInt64.ofNat (((dI (wsT T T.1)).toNat : Int)).toNat) (UInt64.ofNat (((dI (T.1 : Int)).toNat : Int)).toNat)) = true then _ else none) = _
        rw [u64_id, u64_id, if_pos hz]
        rfl
      have e2 : zarith (zmth 9) (.dcmp .l) 1 [(4, mwV T), (4, mwV T)] = some [(0, 0)] := by
        show some [((0 : Nat), (Op.cmpValue (FP.dcmp (UInt64.ofNat (((FP.ddiv (dI (wsT T T.1)) (dI (T.1 : Int))).toNat : Int)).toNat) (UInt64.ofNat (((FP.ddiv (dI (wsT T T.1)) (dI (T.1 : Int))).toNat : Int)).toNat)) .l).toInt)] = _
        rw [u64_id, fl_deq hz]
        rfl
      refine Y_push gL_areEntries_388 (v := (0, (T.1 : Int))) rfl ?_
      refine Y_if_eq gL_areEntries_389 (tgt := 405) (by decide) (fun h389 => absurd h389 (by omega)) (fun _ => ?_)
      refine Y_push gL_areEntries_392 (v := (1, ((0 : Nat) : Int))) rfl ?_
      refine Y_callR (kd := 0) (na := 1) (M' := mX7_meanWidth) (v := (4, mwV T)) gL_areEntries_393 rfl rfl rfl rfl rfl rfl (fun _ => rfl) rfl rfl (fun _ _ => zrecv_obj rfl _ _ _) (d' := 3) (by omega) (uX7_meanWidth hC hV) (ans_0 (show cdMean T = 0 from if_neg h)) (fun w1 hC1 hF1 => ?_)
      have hG1 := hG.trans hF1
      refine Y_push gL_areEntries_396 (v := (0, wsT T T.1)) rfl ?_
      refine Y_arith gL_areEntries_397 rfl rfl (v := [(4, ((dI (wsT T T.1)).toNat : Int)), (4, mwV T)]) rfl ?_
      refine Y_push gL_areEntries_398 (v := (0, (T.1 : Int))) rfl ?_
      refine Y_arith gL_areEntries_399 rfl rfl (v := [(4, ((dI (T.1 : Int)).toNat : Int)), (4, ((dI (wsT T T.1)).toNat : Int)), (4, mwV T)]) rfl ?_
      refine Y_arith gL_areEntries_400 rfl rfl (v := [(4, mwV T), (4, mwV T)]) e ?_
      refine Y_arith gL_areEntries_401 rfl rfl (v := [(0, 0)]) e2 ?_
      refine Y_if_ne gL_areEntries_402 (tgt := 409) (by decide) (fun h402 => absurd h402 (by decide)) (fun _ => ?_)
      refine Y_push gL_areEntries_405 (v := (0, 1)) rfl ?_
      refine Y_goto gL_areEntries_406 (tgt := 410) (by decide) ?_
      refine Y_retXB gL_areEntries_410 rfl (by first | exact Or.inl rfl | exact Or.inr rfl | assumption | omega) ?_
      exact ⟨_, rfl, rfl, by assumption⟩
  rcases mo_fin (T := T) with ⟨c1, c2⟩ | ⟨c1, c2, c3⟩
  · refine Y_push gL_areEntries_361 (v := (0, 1)) rfl ?_
    refine Y_if_eq gL_areEntries_363 (tgt := 409) (by decide) (fun h363 => absurd h363 (by decide)) (fun _ => ?_)
    refine Y_push gL_areEntries_366 (v := (1, ((0 : Nat) : Int))) rfl ?_
    refine Y_push gL_areEntries_367 (v := (0, 5)) rfl ?_
    refine Y_push gL_areEntries_368 (v := (0, 0)) rfl ?_
    refine Y_ask (v := -2005) gL_areEntries_369 rfl rfl rfl rfl rfl rfl (fun _ => rfl) rfl rfl (by omega) (wA5 hC hV 0) (q_1 c1 exC_NS) (by omega) (fun w2 hC2 hF2 => ?_)
    have hG2 := hG.trans hF2
    refine Y_push gL_areEntries_372 (v := (0, moT T 100)) rfl ?_
    refine Y_if_ge gL_areEntries_374 (tgt := 383) (by decide) (fun h374 => absurd h374 (by omega)) (fun _ => ?_)
    refine Y_push gL_areEntries_377 (v := (0, -2005)) rfl ?_
    refine Y_goto gL_areEntries_380 (tgt := 385) (by decide) ?_
    refine Y_icmp_ne gL_areEntries_385 (tgt := 409) (by decide) (fun h385 => absurd h385 (by decide)) (fun _ => ?_)
    exact last _ (by assumption)
  · refine Y_push gL_areEntries_361 (v := (0, 1)) rfl ?_
    refine Y_if_eq gL_areEntries_363 (tgt := 409) (by decide) (fun h363 => absurd h363 (by decide)) (fun _ => ?_)
    refine Y_push gL_areEntries_366 (v := (1, ((0 : Nat) : Int))) rfl ?_
    refine Y_push gL_areEntries_367 (v := (0, 5)) rfl ?_
    refine Y_push gL_areEntries_368 (v := (0, 0)) rfl ?_
    refine Y_ask (v := moT T 100) gL_areEntries_369 rfl rfl rfl rfl rfl rfl (fun _ => rfl) rfl rfl (by omega) (wA5 hC hV 0) ((q_0 c1).trans c3.symm) (by omega) (fun w3 hC3 hF3 => ?_)
    have hG3 := hG.trans hF3
    refine Y_push gL_areEntries_372 (v := (0, moT T 100)) rfl ?_
    refine Y_if_ge gL_areEntries_374 (tgt := 383) (by decide) (fun _ => ?_) (fun h374 => absurd h374 (by omega))
    refine Y_push gL_areEntries_383 (v := (0, moT T 100)) rfl ?_
    refine Y_icmp_ne gL_areEntries_385 (tgt := 409) (by decide) (fun h385 => absurd h385 (by omega)) (fun _ => ?_)
    exact last _ (by assumption)
theorem tY_ents2 (hV : SV B T R D lim la) (ha : 97 ≤ a) (hX : (zLY ++ X)[a]? = some (1, 0, 100)) (v2 : Int) : ∀ q m : Nat, m + q = 100 → ∀ (u8 u9 : zV) (w : zW), CR w T R D lim la → occR w a T T.1 → Y ro 37 mL_areEntries 288 [(1, ((0 : Nat) : Int)), (0, (T.1 : Int)), (0, v2), (0, wsT T T.1), (0, 1), (1, (a : Int)), (0, moT T m), (0, 99 - (m : Int)), u8, u9] [] X w (q + 1) (QT T R D lim la) := by
  intro q
  induction q with
  | zero =>
    intro m hm u8 u9 w hC hO
    obtain rfl : m = 100 := by omega
    refine Y_push gL_areEntries_288 (v := (0, 99 - ((100 : Nat) : Int))) rfl ?_
    refine Y_if_lt gL_areEntries_290 (tgt := 361) (by decide) (fun _ => ?_) (fun h290 => absurd h290 (by decide))
    exact Y_K (by omega) (tY_entsEnd hC hV _ _ _ _)
  | succ q ih =>
    intro m hm u8 u9 w hC hO
    have hG := frC.refl w
    have h9 := ih (m + 1) (by omega)
    have hb := mo_bd (T := T) (m := m) (by omega)
    rw [show (99 : Int) - ((m + 1 : Nat) : Int) = 99 - (m : Int) + (-1) by omega] at h9
    have emo : moT T (m + 1) = if 0 < tmT T (99 - (m : Int)) T.1 ∧ (moT T m < 0 ∨ tmT T (moT T m) T.1 ≤ tmT T (99 - (m : Int)) T.1) then 99 - (m : Int) else moT T m := rfl
    refine Y_push gL_areEntries_288 (v := (0, 99 - (m : Int))) rfl ?_
    refine Y_if_lt gL_areEntries_290 (tgt := 361) (by decide) (fun h290 => absurd h290 (by omega)) (fun _ => ?_)
    refine Y_push gL_areEntries_293 (v := (0, 1)) rfl ?_
    refine Y_if_eq gL_areEntries_295 (tgt := 361) (by decide) (fun h295 => absurd h295 (by decide)) (fun _ => ?_)
    refine Y_push gL_areEntries_298 (v := (1, ((0 : Nat) : Int))) rfl ?_
    refine Y_push gL_areEntries_299 (v := (0, 4)) rfl ?_
    refine Y_push gL_areEntries_300 (v := (0, 99 - (m : Int))) rfl ?_
    refine Y_ask (v := tmT T (99 - (m : Int)) T.1) gL_areEntries_302 rfl rfl rfl rfl rfl rfl (fun _ => rfl) rfl rfl (by omega) (wA4 hC hV (99 - (m : Int))) (q_0 (cdName_0 ⟨by omega, by omega⟩)) (by omega) (fun w4 hC4 hF4 => ?_)
    have hG4 := hG.trans hF4
    have hO2 := occ_fr hO (by assumption) ha
    have r1 := hO2 (99 - (m : Int)) (by omega) (by omega)
    refine Y_push gL_areEntries_305 (v := (1, ((a : Nat) : Int))) rfl ?_
    refine Y_push gL_areEntries_307 (v := (0, 99 - (m : Int))) rfl ?_
    refine Y_ialoadV (v := tmT T (99 - (m : Int)) T.1) gL_areEntries_309 (by assumption) (by omega) (by omega) r1 ?_
    refine Y_icmp_ne gL_areEntries_310 (tgt := 317) (by decide) (fun h310 => absurd h310 (by omega)) (fun _ => ?_)
    refine Y_push gL_areEntries_313 (v := (0, 1)) rfl ?_
    refine Y_goto gL_areEntries_314 (tgt := 318) (by decide) ?_
    refine Y_sto gL_areEntries_318 rfl (ls' := [(1, ((0 : Nat) : Int)), (0, (T.1 : Int)), (0, v2), (0, wsT T T.1), (0, 1), (1, ((a : Nat) : Int)), (0, moT T m), (0, 99 - (m : Int)), u8, u9]) (st' := []) rfl ?_
    refine Y_push gL_areEntries_320 (v := (1, ((a : Nat) : Int))) rfl ?_
    refine Y_push gL_areEntries_322 (v := (0, 99 - (m : Int))) rfl ?_
    refine Y_ialoadV (v := tmT T (99 - (m : Int)) T.1) gL_areEntries_324 (by assumption) (by omega) (by omega) r1 ?_
    refine Y_if_le gL_areEntries_325 (tgt := 351) (by decide) (fun h325 => ?_) (fun h325 => ?_)
    · refine Y_push gL_areEntries_351 (v := (0, moT T m)) rfl ?_
      refine Y_sto gL_areEntries_353 rfl (ls' := [(1, ((0 : Nat) : Int)), (0, (T.1 : Int)), (0, v2), (0, wsT T T.1), (0, 1), (1, ((a : Nat) : Int)), (0, moT T m), (0, 99 - (m : Int)), u8, u9]) (st' := []) rfl ?_
      refine Y_iinc gL_areEntries_355 rfl ⟨by omega, by omega⟩ (ls' := [(1, ((0 : Nat) : Int)), (0, (T.1 : Int)), (0, v2), (0, wsT T T.1), (0, 1), (1, ((a : Nat) : Int)), (0, moT T m), (0, (99 - (m : Int)) + (-1)), u8, u9]) rfl ?_
      refine Y_goto gL_areEntries_358 (tgt := 288) (by decide) ?_
      rw [if_neg (fun h => absurd h.1 (by omega))] at emo
      rw [emo] at h9
      exact Y_K (by omega) (h9 _ _ _ (by assumption) hO2)
    · refine Y_push gL_areEntries_328 (v := (0, moT T m)) rfl ?_
      refine Y_if_lt gL_areEntries_330 (tgt := 346) (by decide) (fun h330 => ?_) (fun h330 => ?_)
      · refine Y_push gL_areEntries_346 (v := (0, 99 - (m : Int))) rfl ?_
        refine Y_goto gL_areEntries_348 (tgt := 353) (by decide) ?_
        refine Y_sto gL_areEntries_353 rfl (ls' := [(1, ((0 : Nat) : Int)), (0, (T.1 : Int)), (0, v2), (0, wsT T T.1), (0, 1), (1, ((a : Nat) : Int)), (0, 99 - (m : Int)), (0, 99 - (m : Int)), u8, u9]) (st' := []) rfl ?_
        refine Y_iinc gL_areEntries_355 rfl ⟨by omega, by omega⟩ (ls' := [(1, ((0 : Nat) : Int)), (0, (T.1 : Int)), (0, v2), (0, wsT T T.1), (0, 1), (1, ((a : Nat) : Int)), (0, 99 - (m : Int)), (0, (99 - (m : Int)) + (-1)), u8, u9]) rfl ?_
        refine Y_goto gL_areEntries_358 (tgt := 288) (by decide) ?_
        rw [if_pos ⟨by omega, Or.inl (by omega)⟩] at emo
        rw [emo] at h9
        exact Y_K (by omega) (h9 _ _ _ (by assumption) hO2)
      · have r2 := hO2 (moT T m) (by omega) (by omega)
        refine Y_push gL_areEntries_333 (v := (1, ((a : Nat) : Int))) rfl ?_
        refine Y_push gL_areEntries_335 (v := (0, 99 - (m : Int))) rfl ?_
        refine Y_ialoadV (v := tmT T (99 - (m : Int)) T.1) gL_areEntries_337 (by assumption) (by omega) (by omega) r1 ?_
        refine Y_push gL_areEntries_338 (v := (1, ((a : Nat) : Int))) rfl ?_
        refine Y_push gL_areEntries_340 (v := (0, moT T m)) rfl ?_
        refine Y_ialoadV (v := tmT T (moT T m) T.1) gL_areEntries_342 (by assumption) (by omega) (by omega) r2 ?_
        refine Y_icmp_lt gL_areEntries_343 (tgt := 351) (by decide) (fun h343 => ?_) (fun h343 => ?_)
        · refine Y_push gL_areEntries_351 (v := (0, moT T m)) rfl ?_
          refine Y_sto gL_areEntries_353 rfl (ls' := [(1, ((0 : Nat) : Int)), (0, (T.1 : Int)), (0, v2), (0, wsT T T.1), (0, 1), (1, ((a : Nat) : Int)), (0, moT T m), (0, 99 - (m : Int)), u8, u9]) (st' := []) rfl ?_
          refine Y_iinc gL_areEntries_355 rfl ⟨by omega, by omega⟩ (ls' := [(1, ((0 : Nat) : Int)), (0, (T.1 : Int)), (0, v2), (0, wsT T T.1), (0, 1), (1, ((a : Nat) : Int)), (0, moT T m), (0, (99 - (m : Int)) + (-1)), u8, u9]) rfl ?_
          refine Y_goto gL_areEntries_358 (tgt := 288) (by decide) ?_
          rw [if_neg (fun h => by have := h.2; omega)] at emo
          rw [emo] at h9
          exact Y_K (by omega) (h9 _ _ _ (by assumption) hO2)
        · refine Y_push gL_areEntries_346 (v := (0, 99 - (m : Int))) rfl ?_
          refine Y_goto gL_areEntries_348 (tgt := 353) (by decide) ?_
          refine Y_sto gL_areEntries_353 rfl (ls' := [(1, ((0 : Nat) : Int)), (0, (T.1 : Int)), (0, v2), (0, wsT T T.1), (0, 1), (1, ((a : Nat) : Int)), (0, 99 - (m : Int)), (0, 99 - (m : Int)), u8, u9]) (st' := []) rfl ?_
          refine Y_iinc gL_areEntries_355 rfl ⟨by omega, by omega⟩ (ls' := [(1, ((0 : Nat) : Int)), (0, (T.1 : Int)), (0, v2), (0, wsT T T.1), (0, 1), (1, ((a : Nat) : Int)), (0, 99 - (m : Int)), (0, (99 - (m : Int)) + (-1)), u8, u9]) rfl ?_
          refine Y_goto gL_areEntries_358 (tgt := 288) (by decide) ?_
          rw [if_pos ⟨by omega, Or.inr (by omega)⟩] at emo
          rw [emo] at h9
          exact Y_K (by omega) (h9 _ _ _ (by assumption) hO2)
theorem opT_s {k : Nat} (T : zTx) : opT T (k + 1) = opT T k + (if kT T k = 123 then 1 else if kT T k = 125 then -1 else 0) := rfl
theorem tmT_s {k : Nat} (T : zTx) (x : Int) : tmT T x (k + 1) = tmT T x k + isT T (k : Int) x := rfl
theorem tY_ents1 (hV : SV B T R D lim la) (hW : WB T) (ha : 97 ≤ a) (hX : (zLY ++ X)[a]? = some (1, 0, 100)) : ∀ m k : Nat, k + m = T.1 → ∀ (u7 u8 u9 : zV) (w : zW), CR w T R D lim la → occR w a T k → Y ro 37 mL_areEntries 72 [(1, ((0 : Nat) : Int)), (0, (T.1 : Int)), (0, opT T k), (0, wsT T k), (0, 1), (1, (a : Int)), (0, (k : Int)), u7, u8, u9] [] X w (4 * m + 101) (QT T R D lim la) := by
  intro m
  induction m with
  | zero =>
    intro k hk u7 u8 u9 w hC hO
    obtain rfl : k = T.1 := by omega
    have h9 := tY_ents2 (ro := ro) hV ha hX (opT T T.1) 100 0 (by omega) u8 u9 w hC hO
    rw [show (99 : Int) - ((0 : Nat) : Int) = 99 by omega] at h9
    refine Y_push gL_areEntries_72 (v := (0, (T.1 : Int))) rfl ?_
    refine Y_push gL_areEntries_74 (v := (0, (T.1 : Int))) rfl ?_
    refine Y_icmp_ge gL_areEntries_75 (tgt := 281) (by decide) (fun _ => ?_) (fun h75 => absurd h75 (by omega))
    refine Y_push gL_areEntries_281 (v := (0, -1)) rfl ?_
    refine Y_sto gL_areEntries_282 rfl (ls' := [(1, ((0 : Nat) : Int)), (0, (T.1 : Int)), (0, opT T T.1), (0, wsT T T.1), (0, 1), (1, ((a : Nat) : Int)), (0, -1), u7, u8, u9]) (st' := []) rfl ?_
    refine Y_push gL_areEntries_284 (v := (0, 99)) rfl ?_
    refine Y_sto gL_areEntries_286 rfl (ls' := [(1, ((0 : Nat) : Int)), (0, (T.1 : Int)), (0, opT T T.1), (0, wsT T T.1), (0, 1), (1, ((a : Nat) : Int)), (0, -1), (0, 99), u8, u9]) (st' := []) rfl ?_
    exact Y_K (by omega) h9
  | succ m ih =>
    intro k hk u7 u8 u9 w hC hO
    have hG := frC.refl w
    have hTV := hV.1
    have hT30 := hV.1.1
    have hin : 0 ≤ (k : Int) ∧ (k : Int) < T.1 := by omega
    have hcd := cdEnt_0 hin
    have h9 := ih (k + 1) (by omega)
    have hob := opT_bd T k
    have hwb := wsT_bd hTV k
    have hwt := wT_bd hTV (k : Int)
    have hdp := WB_dp hW (j := k) (by omega)
    have hdp9 : dpT T (k : Int) = if kT T (k : Int) = 125 then opT T k - 1 else opT T k := rfl
    have hev := hTV.2 k (by omega)
    have ekt := kT_nat (T := T) (j := k) (by omega)
    have ewt : wT T (k : Int) = if kT T (k : Int) = 110 then (T.2 k).2.2.1 else if kT T (k : Int) = 99 then (T.2 k).2.2.1 + 4 else 1 := rfl
    rw [opT_s, show wsT T (k + 1) = wsT T k + wT T (k : Int) from rfl, show ((k + 1 : Nat) : Int) = (k : Int) + 1 from rfl] at h9
    rcases kT_v hTV hin with hk1 | hk1 | hk1 | hk1
    · -- 110
      have hnm := hev.2.1 (by omega)
      have ecn : cdNameOf T (k : Int) = 0 := by unfold cdNameOf; rw [if_pos hin, if_pos hk1]
      have hln := hev.2.2.1 (Or.inl (by omega))
      rw [if_pos hk1] at ewt
      have edp : dpT T (k : Int) = opT T k := by rw [hdp9, if_neg (by omega)]
      rw [edp] at hdp
      rw [show opT T k + (if kT T k = 123 then (1 : Int) else if kT T k = 125 then -1 else 0) = ((opT T k) - 0) + 0 from (by rw [if_neg (by omega), if_neg (by omega)]; omega)] at h9
      refine Y_push gL_areEntries_72 (v := (0, (k : Int))) rfl ?_
      refine Y_push gL_areEntries_74 (v := (0, (T.1 : Int))) rfl ?_
      refine Y_icmp_ge gL_areEntries_75 (tgt := 281) (by decide) (fun h75 => absurd h75 (by omega)) (fun _ => ?_)
      refine Y_push gL_areEntries_78 (v := (0, 1)) rfl ?_
      refine Y_if_eq gL_areEntries_80 (tgt := 281) (by decide) (fun h80 => absurd h80 (by decide)) (fun _ => ?_)
      refine Y_push gL_areEntries_83 (v := (1, ((0 : Nat) : Int))) rfl ?_
      refine Y_push gL_areEntries_84 (v := (0, 0)) rfl ?_
      refine Y_push gL_areEntries_85 (v := (0, (k : Int))) rfl ?_
      refine Y_ask (v := 110) gL_areEntries_87 rfl rfl rfl rfl rfl rfl (fun _ => rfl) rfl rfl (by omega) (wA0 hC hV (k : Int)) ((q_0 hcd).trans hk1) (by omega) (fun w5 hC5 hF5 => ?_)
      have hG5 := hG.trans hF5
      refine Y_sto gL_areEntries_90 rfl (ls' := [(1, ((0 : Nat) : Int)), (0, (T.1 : Int)), (0, opT T k), (0, wsT T k), (0, 1), (1, ((a : Nat) : Int)), (0, (k : Int)), (0, 110), u8, u9]) (st' := []) rfl ?_
      refine Y_push gL_areEntries_92 (v := (1, ((0 : Nat) : Int))) rfl ?_
      refine Y_push gL_areEntries_93 (v := (0, 1)) rfl ?_
      refine Y_push gL_areEntries_94 (v := (0, (k : Int))) rfl ?_
      refine Y_ask (v := (T.2 k).2.1) gL_areEntries_96 rfl rfl rfl rfl rfl rfl (fun _ => rfl) rfl rfl (by omega) (wA1 hC5 hV (k : Int)) (q_0 ecn) (by omega) (fun w6 hC6 hF6 => ?_)
      have hG6 := hG5.trans hF6
      refine Y_sto gL_areEntries_99 rfl (ls' := [(1, ((0 : Nat) : Int)), (0, (T.1 : Int)), (0, opT T k), (0, wsT T k), (0, 1), (1, ((a : Nat) : Int)), (0, (k : Int)), (0, 110), (0, (T.2 k).2.1), u9]) (st' := []) rfl ?_
      refine Y_push gL_areEntries_101 (v := (1, ((0 : Nat) : Int))) rfl ?_
      refine Y_push gL_areEntries_102 (v := (0, 2)) rfl ?_
      refine Y_push gL_areEntries_103 (v := (0, (k : Int))) rfl ?_
      refine Y_ask (v := wT T (k : Int)) gL_areEntries_105 rfl rfl rfl rfl rfl rfl (fun _ => rfl) rfl rfl (by omega) (wA2 hC6 hV (k : Int)) (q_0 hcd) (by omega) (fun w7 hC7 hF7 => ?_)
      have hG7 := hG6.trans hF7
      refine Y_sto gL_areEntries_108 rfl (ls' := [(1, ((0 : Nat) : Int)), (0, (T.1 : Int)), (0, opT T k), (0, wsT T k), (0, 1), (1, ((a : Nat) : Int)), (0, (k : Int)), (0, 110), (0, (T.2 k).2.1), (0, wT T (k : Int))]) (st' := []) rfl ?_
      refine Y_push gL_areEntries_110 (v := (0, opT T k)) rfl ?_
      refine Y_push gL_areEntries_111 (v := (0, 110)) rfl ?_
      refine Y_push gL_areEntries_113 (v := (0, 125)) rfl ?_
      refine Y_icmp_ne gL_areEntries_115 (tgt := 122) (by decide) (fun _ => ?_) (fun h115 => absurd h115 (by decide))
      refine Y_push gL_areEntries_122 (v := (0, 0)) rfl ?_
      refine Y_isub gL_areEntries_123 ⟨by omega, by omega⟩ ?_
      refine Y_sto gL_areEntries_124 rfl (ls' := [(1, ((0 : Nat) : Int)), (0, (T.1 : Int)), (0, (opT T k) - 0), (0, wsT T k), (0, 1), (1, ((a : Nat) : Int)), (0, (k : Int)), (0, 110), (0, (T.2 k).2.1), (0, wT T (k : Int))]) (st' := []) rfl ?_
      refine Y_push gL_areEntries_125 (v := (0, (opT T k) - 0)) rfl ?_
      refine Y_if_lt gL_areEntries_126 (tgt := 236) (by decide) (fun h126 => absurd h126 (by omega)) (fun _ => ?_)
      refine Y_push gL_areEntries_129 (v := (1, ((0 : Nat) : Int))) rfl ?_
      refine Y_push gL_areEntries_130 (v := (0, 3)) rfl ?_
      refine Y_push gL_areEntries_131 (v := (0, (k : Int))) rfl ?_
      refine Y_ask (v := opT T k) gL_areEntries_133 rfl rfl rfl rfl rfl rfl (fun _ => rfl) rfl rfl (by omega) (wA3 hC7 hV (k : Int)) ((q_0 hcd).trans edp) (by omega) (fun w8 hC8 hF8 => ?_)
      have hG8 := hG7.trans hF8
      refine Y_push gL_areEntries_136 (v := (0, (opT T k) - 0)) rfl ?_
      refine Y_icmp_ne gL_areEntries_137 (tgt := 236) (by decide) (fun h137 => absurd h137 (by omega)) (fun _ => ?_)
      refine Y_push gL_areEntries_140 (v := (0, 110)) rfl ?_
      refine Y_push gL_areEntries_142 (v := (0, 110)) rfl ?_
      refine Y_icmp_ne gL_areEntries_144 (tgt := 151) (by decide) (fun h144 => absurd h144 (by decide)) (fun _ => ?_)
      refine Y_push gL_areEntries_147 (v := (0, 1)) rfl ?_
      refine Y_goto gL_areEntries_148 (tgt := 152) (by decide) ?_
      refine Y_push gL_areEntries_152 (v := (0, (T.2 k).2.1)) rfl ?_
      refine Y_if_lt gL_areEntries_154 (tgt := 161) (by decide) (fun h154 => absurd h154 (by omega)) (fun _ => ?_)
      refine Y_push gL_areEntries_157 (v := (0, 1)) rfl ?_
      refine Y_goto gL_areEntries_158 (tgt := 162) (by decide) ?_
      refine Y_icmp_ne gL_areEntries_162 (tgt := 236) (by decide) (fun h162 => absurd h162 (by decide)) (fun _ => ?_)
      refine Y_push gL_areEntries_165 (v := (0, 110)) rfl ?_
      refine Y_push gL_areEntries_167 (v := (0, 110)) rfl ?_
      refine Y_icmp_eq gL_areEntries_169 (tgt := 180) (by decide) (fun _ => ?_) (fun h169 => absurd h169 (by decide))
      refine Y_push gL_areEntries_180 (v := (0, 110)) rfl ?_
      refine Y_push gL_areEntries_182 (v := (0, 110)) rfl ?_
      refine Y_icmp_ne gL_areEntries_184 (tgt := 203) (by decide) (fun h184 => absurd h184 (by decide)) (fun _ => ?_)
      refine Y_push gL_areEntries_187 (v := (0, wT T (k : Int))) rfl ?_
      refine Y_push gL_areEntries_189 (v := (0, 1)) rfl ?_
      refine Y_icmp_lt gL_areEntries_190 (tgt := 236) (by decide) (fun h190 => absurd h190 (by omega)) (fun _ => ?_)
      refine Y_push gL_areEntries_193 (v := (0, wT T (k : Int))) rfl ?_
      refine Y_push gL_areEntries_195 (v := (0, 9)) rfl ?_
      refine Y_icmp_gt gL_areEntries_197 (tgt := 236) (by decide) (fun h197 => absurd h197 (by omega)) (fun _ => ?_)
      refine Y_goto gL_areEntries_200 (tgt := 232) (by decide) ?_
      refine Y_push gL_areEntries_232 (v := (0, 1)) rfl ?_
      refine Y_goto gL_areEntries_233 (tgt := 237) (by decide) ?_
      refine Y_sto gL_areEntries_237 rfl (ls' := [(1, ((0 : Nat) : Int)), (0, (T.1 : Int)), (0, (opT T k) - 0), (0, wsT T k), (0, 1), (1, ((a : Nat) : Int)), (0, (k : Int)), (0, 110), (0, (T.2 k).2.1), (0, wT T (k : Int))]) (st' := []) rfl ?_
      refine Y_push gL_areEntries_239 (v := (0, (opT T k) - 0)) rfl ?_
      refine Y_push gL_areEntries_240 (v := (0, 110)) rfl ?_
      refine Y_push gL_areEntries_242 (v := (0, 123)) rfl ?_
      refine Y_icmp_ne gL_areEntries_244 (tgt := 251) (by decide) (fun _ => ?_) (fun h244 => absurd h244 (by decide))
      refine Y_push gL_areEntries_251 (v := (0, 0)) rfl ?_
      refine Y_iadd gL_areEntries_252 ⟨by omega, by omega⟩ ?_
      refine Y_sto gL_areEntries_253 rfl (ls' := [(1, ((0 : Nat) : Int)), (0, (T.1 : Int)), (0, ((opT T k) - 0) + 0), (0, wsT T k), (0, 1), (1, ((a : Nat) : Int)), (0, (k : Int)), (0, 110), (0, (T.2 k).2.1), (0, wT T (k : Int))]) (st' := []) rfl ?_
      refine Y_push gL_areEntries_254 (v := (0, wsT T k)) rfl ?_
      refine Y_push gL_areEntries_255 (v := (0, wT T (k : Int))) rfl ?_
      refine Y_iadd gL_areEntries_257 ⟨by omega, by omega⟩ ?_
      refine Y_sto gL_areEntries_258 rfl (ls' := [(1, ((0 : Nat) : Int)), (0, (T.1 : Int)), (0, ((opT T k) - 0) + 0), (0, (wsT T k) + (wT T (k : Int))), (0, 1), (1, ((a : Nat) : Int)), (0, (k : Int)), (0, 110), (0, (T.2 k).2.1), (0, wT T (k : Int))]) (st' := []) rfl ?_
      refine Y_push gL_areEntries_259 (v := (0, 110)) rfl ?_
      refine Y_push gL_areEntries_261 (v := (0, 110)) rfl ?_
      refine Y_icmp_ne gL_areEntries_263 (tgt := 275) (by decide) (fun h263 => absurd h263 (by decide)) (fun _ => ?_)
      have hO2 := occ_fr hO (by assumption) ha
      have r1 := hO2 (T.2 k).2.1 hnm.1 hnm.2
      have htm := tmT_bd T (T.2 k).2.1 k
      refine Y_push gL_areEntries_266 (v := (1, ((a : Nat) : Int))) rfl ?_
      refine Y_push gL_areEntries_268 (v := (0, (T.2 k).2.1)) rfl ?_
      refine Y_arith gL_areEntries_270 rfl rfl (v := [(0, (T.2 k).2.1), (1, ((a : Nat) : Int)), (0, (T.2 k).2.1), (1, ((a : Nat) : Int))]) rfl ?_
      refine Y_ialoadV (v := tmT T (T.2 k).2.1 k) gL_areEntries_271 (by assumption) (by omega) (by omega) r1 ?_
      refine Y_push gL_areEntries_272 (v := (0, 1)) rfl ?_
      refine Y_iadd gL_areEntries_273 ⟨by omega, by omega⟩ ?_
      refine Y_iastore gL_areEntries_274 (by assumption) (by omega) (by omega) (by omega) ?_
      refine Y_iinc gL_areEntries_275 rfl ⟨by omega, by omega⟩ (ls' := [(1, ((0 : Nat) : Int)), (0, (T.1 : Int)), (0, ((opT T k) - 0) + 0), (0, wsT T k + wT T (k : Int)), (0, 1), (1, ((a : Nat) : Int)), (0, (k : Int) + 1), (0, 110), (0, (T.2 k).2.1), (0, wT T (k : Int))]) rfl ?_
      refine Y_goto gL_areEntries_278 (tgt := 72) (by decide) ?_
      refine Y_K (by omega) (h9 _ _ _ _ (CR_97 (by assumption) (fun a9 k9 h => zup_ne (by omega))) (fun x x0 x1 => ?_))
      show (if a = a ∧ x.toNat = ((T.2 k).2.1).toNat then tmT T (T.2 k).2.1 k + 1 else _) = _
      rw [tmT_s]
      unfold isT
      rw [show ((k : Int)).toNat = k from rfl]
      by_cases hx : (T.2 k).2.1 = x
      · rw [if_pos ⟨rfl, by rw [hx]⟩, if_pos ⟨hk1, hx⟩, hx]
      · rw [if_neg (fun h => hx (by omega)), if_neg (fun h => hx h.2), Int.add_zero]
        exact hO2 x x0 x1
    · -- 99
      have ecn : cdNameOf T (k : Int) = 2 := by unfold cdNameOf; rw [if_pos hin, if_neg (by omega)]
      have hln := hev.2.2.1 (Or.inr (by omega))
      rw [if_neg (by omega), if_pos hk1] at ewt
      have edp : dpT T (k : Int) = opT T k := by rw [hdp9, if_neg (by omega)]
      rw [edp] at hdp
      rw [show opT T k + (if kT T k = 123 then (1 : Int) else if kT T k = 125 then -1 else 0) = ((opT T k) - 0) + 0 from (by rw [if_neg (by omega), if_neg (by omega)]; omega)] at h9
      refine Y_push gL_areEntries_72 (v := (0, (k : Int))) rfl ?_
      refine Y_push gL_areEntries_74 (v := (0, (T.1 : Int))) rfl ?_
      refine Y_icmp_ge gL_areEntries_75 (tgt := 281) (by decide) (fun h75 => absurd h75 (by omega)) (fun _ => ?_)
      refine Y_push gL_areEntries_78 (v := (0, 1)) rfl ?_
      refine Y_if_eq gL_areEntries_80 (tgt := 281) (by decide) (fun h80 => absurd h80 (by decide)) (fun _ => ?_)
      refine Y_push gL_areEntries_83 (v := (1, ((0 : Nat) : Int))) rfl ?_
      refine Y_push gL_areEntries_84 (v := (0, 0)) rfl ?_
      refine Y_push gL_areEntries_85 (v := (0, (k : Int))) rfl ?_
      refine Y_ask (v := 99) gL_areEntries_87 rfl rfl rfl rfl rfl rfl (fun _ => rfl) rfl rfl (by omega) (wA0 hC hV (k : Int)) ((q_0 hcd).trans hk1) (by omega) (fun w9 hC9 hF9 => ?_)
      have hG9 := hG.trans hF9
      refine Y_sto gL_areEntries_90 rfl (ls' := [(1, ((0 : Nat) : Int)), (0, (T.1 : Int)), (0, opT T k), (0, wsT T k), (0, 1), (1, ((a : Nat) : Int)), (0, (k : Int)), (0, 99), u8, u9]) (st' := []) rfl ?_
      refine Y_push gL_areEntries_92 (v := (1, ((0 : Nat) : Int))) rfl ?_
      refine Y_push gL_areEntries_93 (v := (0, 1)) rfl ?_
      refine Y_push gL_areEntries_94 (v := (0, (k : Int))) rfl ?_
      refine Y_ask (v := -2003) gL_areEntries_96 rfl rfl rfl rfl rfl rfl (fun _ => rfl) rfl rfl (by omega) (wA1 hC9 hV (k : Int)) (q_2 ecn exC_IS) (by omega) (fun w10 hC10 hF10 => ?_)
      have hG10 := hG9.trans hF10
      refine Y_sto gL_areEntries_99 rfl (ls' := [(1, ((0 : Nat) : Int)), (0, (T.1 : Int)), (0, opT T k), (0, wsT T k), (0, 1), (1, ((a : Nat) : Int)), (0, (k : Int)), (0, 99), (0, -2003), u9]) (st' := []) rfl ?_
      refine Y_push gL_areEntries_101 (v := (1, ((0 : Nat) : Int))) rfl ?_
      refine Y_push gL_areEntries_102 (v := (0, 2)) rfl ?_
      refine Y_push gL_areEntries_103 (v := (0, (k : Int))) rfl ?_
      refine Y_ask (v := wT T (k : Int)) gL_areEntries_105 rfl rfl rfl rfl rfl rfl (fun _ => rfl) rfl rfl (by omega) (wA2 hC10 hV (k : Int)) (q_0 hcd) (by omega) (fun w11 hC11 hF11 => ?_)
      have hG11 := hG10.trans hF11
      refine Y_sto gL_areEntries_108 rfl (ls' := [(1, ((0 : Nat) : Int)), (0, (T.1 : Int)), (0, opT T k), (0, wsT T k), (0, 1), (1, ((a : Nat) : Int)), (0, (k : Int)), (0, 99), (0, -2003), (0, wT T (k : Int))]) (st' := []) rfl ?_
      refine Y_push gL_areEntries_110 (v := (0, opT T k)) rfl ?_
      refine Y_push gL_areEntries_111 (v := (0, 99)) rfl ?_
      refine Y_push gL_areEntries_113 (v := (0, 125)) rfl ?_
      refine Y_icmp_ne gL_areEntries_115 (tgt := 122) (by decide) (fun _ => ?_) (fun h115 => absurd h115 (by decide))
      refine Y_push gL_areEntries_122 (v := (0, 0)) rfl ?_
      refine Y_isub gL_areEntries_123 ⟨by omega, by omega⟩ ?_
      refine Y_sto gL_areEntries_124 rfl (ls' := [(1, ((0 : Nat) : Int)), (0, (T.1 : Int)), (0, (opT T k) - 0), (0, wsT T k), (0, 1), (1, ((a : Nat) : Int)), (0, (k : Int)), (0, 99), (0, -2003), (0, wT T (k : Int))]) (st' := []) rfl ?_
      refine Y_push gL_areEntries_125 (v := (0, (opT T k) - 0)) rfl ?_
      refine Y_if_lt gL_areEntries_126 (tgt := 236) (by decide) (fun h126 => absurd h126 (by omega)) (fun _ => ?_)
      refine Y_push gL_areEntries_129 (v := (1, ((0 : Nat) : Int))) rfl ?_
      refine Y_push gL_areEntries_130 (v := (0, 3)) rfl ?_
      refine Y_push gL_areEntries_131 (v := (0, (k : Int))) rfl ?_
      refine Y_ask (v := opT T k) gL_areEntries_133 rfl rfl rfl rfl rfl rfl (fun _ => rfl) rfl rfl (by omega) (wA3 hC11 hV (k : Int)) ((q_0 hcd).trans edp) (by omega) (fun w12 hC12 hF12 => ?_)
      have hG12 := hG11.trans hF12
      refine Y_push gL_areEntries_136 (v := (0, (opT T k) - 0)) rfl ?_
      refine Y_icmp_ne gL_areEntries_137 (tgt := 236) (by decide) (fun h137 => absurd h137 (by omega)) (fun _ => ?_)
      refine Y_push gL_areEntries_140 (v := (0, 99)) rfl ?_
      refine Y_push gL_areEntries_142 (v := (0, 110)) rfl ?_
      refine Y_icmp_ne gL_areEntries_144 (tgt := 151) (by decide) (fun _ => ?_) (fun h144 => absurd h144 (by decide))
      refine Y_push gL_areEntries_151 (v := (0, 0)) rfl ?_
      refine Y_push gL_areEntries_152 (v := (0, -2003)) rfl ?_
      refine Y_if_lt gL_areEntries_154 (tgt := 161) (by decide) (fun _ => ?_) (fun h154 => absurd h154 (by decide))
      refine Y_push gL_areEntries_161 (v := (0, 0)) rfl ?_
      refine Y_icmp_ne gL_areEntries_162 (tgt := 236) (by decide) (fun h162 => absurd h162 (by decide)) (fun _ => ?_)
      refine Y_push gL_areEntries_165 (v := (0, 99)) rfl ?_
      refine Y_push gL_areEntries_167 (v := (0, 110)) rfl ?_
      refine Y_icmp_eq gL_areEntries_169 (tgt := 180) (by decide) (fun h169 => absurd h169 (by decide)) (fun _ => ?_)
      refine Y_push gL_areEntries_172 (v := (0, -2003)) rfl ?_
      refine Y_push gL_areEntries_174 (v := (0, -2003)) rfl ?_
      refine Y_icmp_ne gL_areEntries_177 (tgt := 236) (by decide) (fun h177 => absurd h177 (by decide)) (fun _ => ?_)
      refine Y_push gL_areEntries_180 (v := (0, 99)) rfl ?_
      refine Y_push gL_areEntries_182 (v := (0, 110)) rfl ?_
      refine Y_icmp_ne gL_areEntries_184 (tgt := 203) (by decide) (fun _ => ?_) (fun h184 => absurd h184 (by decide))
      refine Y_push gL_areEntries_203 (v := (0, 99)) rfl ?_
      refine Y_push gL_areEntries_205 (v := (0, 99)) rfl ?_
      refine Y_icmp_ne gL_areEntries_207 (tgt := 226) (by decide) (fun h207 => absurd h207 (by decide)) (fun _ => ?_)
      refine Y_push gL_areEntries_210 (v := (0, wT T (k : Int))) rfl ?_
      refine Y_push gL_areEntries_212 (v := (0, 5)) rfl ?_
      refine Y_icmp_lt gL_areEntries_213 (tgt := 236) (by decide) (fun h213 => absurd h213 (by omega)) (fun _ => ?_)
      refine Y_push gL_areEntries_216 (v := (0, wT T (k : Int))) rfl ?_
      refine Y_push gL_areEntries_218 (v := (0, 13)) rfl ?_
      refine Y_icmp_gt gL_areEntries_220 (tgt := 236) (by decide) (fun h220 => absurd h220 (by omega)) (fun _ => ?_)
      refine Y_goto gL_areEntries_223 (tgt := 232) (by decide) ?_
      refine Y_push gL_areEntries_232 (v := (0, 1)) rfl ?_
      refine Y_goto gL_areEntries_233 (tgt := 237) (by decide) ?_
      refine Y_sto gL_areEntries_237 rfl (ls' := [(1, ((0 : Nat) : Int)), (0, (T.1 : Int)), (0, (opT T k) - 0), (0, wsT T k), (0, 1), (1, ((a : Nat) : Int)), (0, (k : Int)), (0, 99), (0, -2003), (0, wT T (k : Int))]) (st' := []) rfl ?_
      refine Y_push gL_areEntries_239 (v := (0, (opT T k) - 0)) rfl ?_
      refine Y_push gL_areEntries_240 (v := (0, 99)) rfl ?_
      refine Y_push gL_areEntries_242 (v := (0, 123)) rfl ?_
      refine Y_icmp_ne gL_areEntries_244 (tgt := 251) (by decide) (fun _ => ?_) (fun h244 => absurd h244 (by decide))
      refine Y_push gL_areEntries_251 (v := (0, 0)) rfl ?_
      refine Y_iadd gL_areEntries_252 ⟨by omega, by omega⟩ ?_
      refine Y_sto gL_areEntries_253 rfl (ls' := [(1, ((0 : Nat) : Int)), (0, (T.1 : Int)), (0, ((opT T k) - 0) + 0), (0, wsT T k), (0, 1), (1, ((a : Nat) : Int)), (0, (k : Int)), (0, 99), (0, -2003), (0, wT T (k : Int))]) (st' := []) rfl ?_
      refine Y_push gL_areEntries_254 (v := (0, wsT T k)) rfl ?_
      refine Y_push gL_areEntries_255 (v := (0, wT T (k : Int))) rfl ?_
      refine Y_iadd gL_areEntries_257 ⟨by omega, by omega⟩ ?_
      refine Y_sto gL_areEntries_258 rfl (ls' := [(1, ((0 : Nat) : Int)), (0, (T.1 : Int)), (0, ((opT T k) - 0) + 0), (0, (wsT T k) + (wT T (k : Int))), (0, 1), (1, ((a : Nat) : Int)), (0, (k : Int)), (0, 99), (0, -2003), (0, wT T (k : Int))]) (st' := []) rfl ?_
      refine Y_push gL_areEntries_259 (v := (0, 99)) rfl ?_
      refine Y_push gL_areEntries_261 (v := (0, 110)) rfl ?_
      refine Y_icmp_ne gL_areEntries_263 (tgt := 275) (by decide) (fun _ => ?_) (fun h263 => absurd h263 (by decide))
      refine Y_iinc gL_areEntries_275 rfl ⟨by omega, by omega⟩ (ls' := [(1, ((0 : Nat) : Int)), (0, (T.1 : Int)), (0, ((opT T k) - 0) + 0), (0, (wsT T k) + (wT T (k : Int))), (0, 1), (1, ((a : Nat) : Int)), (0, (k : Int) + 1), (0, 99), (0, -2003), (0, wT T (k : Int))]) rfl ?_
      refine Y_goto gL_areEntries_278 (tgt := 72) (by decide) ?_
      have hO2 := occ_fr hO (by assumption) ha
      refine Y_K (by omega) (h9 _ _ _ _ (by assumption) (fun x x0 x1 => ?_))
      rw [tmT_s]
      unfold isT
      rw [if_neg (fun h => by omega), Int.add_zero]
      exact hO2 x x0 x1
    · -- 123
      have ecn : cdNameOf T (k : Int) = 2 := by unfold cdNameOf; rw [if_pos hin, if_neg (by omega)]
      rw [if_neg (by omega), if_neg (by omega)] at ewt
      have edp : dpT T (k : Int) = opT T k := by rw [hdp9, if_neg (by omega)]
      rw [edp] at hdp
      rw [show opT T k + (if kT T k = 123 then (1 : Int) else if kT T k = 125 then -1 else 0) = ((opT T k) - 0) + 1 from (by rw [if_pos hk1]; omega)] at h9
      refine Y_push gL_areEntries_72 (v := (0, (k : Int))) rfl ?_
      refine Y_push gL_areEntries_74 (v := (0, (T.1 : Int))) rfl ?_
      refine Y_icmp_ge gL_areEntries_75 (tgt := 281) (by decide) (fun h75 => absurd h75 (by omega)) (fun _ => ?_)
      refine Y_push gL_areEntries_78 (v := (0, 1)) rfl ?_
      refine Y_if_eq gL_areEntries_80 (tgt := 281) (by decide) (fun h80 => absurd h80 (by decide)) (fun _ => ?_)
      refine Y_push gL_areEntries_83 (v := (1, ((0 : Nat) : Int))) rfl ?_
      refine Y_push gL_areEntries_84 (v := (0, 0)) rfl ?_
      refine Y_push gL_areEntries_85 (v := (0, (k : Int))) rfl ?_
      refine Y_ask (v := 123) gL_areEntries_87 rfl rfl rfl rfl rfl rfl (fun _ => rfl) rfl rfl (by omega) (wA0 hC hV (k : Int)) ((q_0 hcd).trans hk1) (by omega) (fun w13 hC13 hF13 => ?_)
      have hG13 := hG.trans hF13
      refine Y_sto gL_areEntries_90 rfl (ls' := [(1, ((0 : Nat) : Int)), (0, (T.1 : Int)), (0, opT T k), (0, wsT T k), (0, 1), (1, ((a : Nat) : Int)), (0, (k : Int)), (0, 123), u8, u9]) (st' := []) rfl ?_
      refine Y_push gL_areEntries_92 (v := (1, ((0 : Nat) : Int))) rfl ?_
      refine Y_push gL_areEntries_93 (v := (0, 1)) rfl ?_
      refine Y_push gL_areEntries_94 (v := (0, (k : Int))) rfl ?_
      refine Y_ask (v := -2003) gL_areEntries_96 rfl rfl rfl rfl rfl rfl (fun _ => rfl) rfl rfl (by omega) (wA1 hC13 hV (k : Int)) (q_2 ecn exC_IS) (by omega) (fun w14 hC14 hF14 => ?_)
      have hG14 := hG13.trans hF14
      refine Y_sto gL_areEntries_99 rfl (ls' := [(1, ((0 : Nat) : Int)), (0, (T.1 : Int)), (0, opT T k), (0, wsT T k), (0, 1), (1, ((a : Nat) : Int)), (0, (k : Int)), (0, 123), (0, -2003), u9]) (st' := []) rfl ?_
      refine Y_push gL_areEntries_101 (v := (1, ((0 : Nat) : Int))) rfl ?_
      refine Y_push gL_areEntries_102 (v := (0, 2)) rfl ?_
      refine Y_push gL_areEntries_103 (v := (0, (k : Int))) rfl ?_
      refine Y_ask (v := wT T (k : Int)) gL_areEntries_105 rfl rfl rfl rfl rfl rfl (fun _ => rfl) rfl rfl (by omega) (wA2 hC14 hV (k : Int)) (q_0 hcd) (by omega) (fun w15 hC15 hF15 => ?_)
      have hG15 := hG14.trans hF15
      refine Y_sto gL_areEntries_108 rfl (ls' := [(1, ((0 : Nat) : Int)), (0, (T.1 : Int)), (0, opT T k), (0, wsT T k), (0, 1), (1, ((a : Nat) : Int)), (0, (k : Int)), (0, 123), (0, -2003), (0, wT T (k : Int))]) (st' := []) rfl ?_
      refine Y_push gL_areEntries_110 (v := (0, opT T k)) rfl ?_
      refine Y_push gL_areEntries_111 (v := (0, 123)) rfl ?_
      refine Y_push gL_areEntries_113 (v := (0, 125)) rfl ?_
      refine Y_icmp_ne gL_areEntries_115 (tgt := 122) (by decide) (fun _ => ?_) (fun h115 => absurd h115 (by decide))
      refine Y_push gL_areEntries_122 (v := (0, 0)) rfl ?_
      refine Y_isub gL_areEntries_123 ⟨by omega, by omega⟩ ?_
      refine Y_sto gL_areEntries_124 rfl (ls' := [(1, ((0 : Nat) : Int)), (0, (T.1 : Int)), (0, (opT T k) - 0), (0, wsT T k), (0, 1), (1, ((a : Nat) : Int)), (0, (k : Int)), (0, 123), (0, -2003), (0, wT T (k : Int))]) (st' := []) rfl ?_
      refine Y_push gL_areEntries_125 (v := (0, (opT T k) - 0)) rfl ?_
      refine Y_if_lt gL_areEntries_126 (tgt := 236) (by decide) (fun h126 => absurd h126 (by omega)) (fun _ => ?_)
      refine Y_push gL_areEntries_129 (v := (1, ((0 : Nat) : Int))) rfl ?_
      refine Y_push gL_areEntries_130 (v := (0, 3)) rfl ?_
      refine Y_push gL_areEntries_131 (v := (0, (k : Int))) rfl ?_
      refine Y_ask (v := opT T k) gL_areEntries_133 rfl rfl rfl rfl rfl rfl (fun _ => rfl) rfl rfl (by omega) (wA3 hC15 hV (k : Int)) ((q_0 hcd).trans edp) (by omega) (fun w16 hC16 hF16 => ?_)
      have hG16 := hG15.trans hF16
      refine Y_push gL_areEntries_136 (v := (0, (opT T k) - 0)) rfl ?_
      refine Y_icmp_ne gL_areEntries_137 (tgt := 236) (by decide) (fun h137 => absurd h137 (by omega)) (fun _ => ?_)
      refine Y_push gL_areEntries_140 (v := (0, 123)) rfl ?_
      refine Y_push gL_areEntries_142 (v := (0, 110)) rfl ?_
      refine Y_icmp_ne gL_areEntries_144 (tgt := 151) (by decide) (fun _ => ?_) (fun h144 => absurd h144 (by decide))
      refine Y_push gL_areEntries_151 (v := (0, 0)) rfl ?_
      refine Y_push gL_areEntries_152 (v := (0, -2003)) rfl ?_
      refine Y_if_lt gL_areEntries_154 (tgt := 161) (by decide) (fun _ => ?_) (fun h154 => absurd h154 (by decide))
      refine Y_push gL_areEntries_161 (v := (0, 0)) rfl ?_
      refine Y_icmp_ne gL_areEntries_162 (tgt := 236) (by decide) (fun h162 => absurd h162 (by decide)) (fun _ => ?_)
      refine Y_push gL_areEntries_165 (v := (0, 123)) rfl ?_
      refine Y_push gL_areEntries_167 (v := (0, 110)) rfl ?_
      refine Y_icmp_eq gL_areEntries_169 (tgt := 180) (by decide) (fun h169 => absurd h169 (by decide)) (fun _ => ?_)
      refine Y_push gL_areEntries_172 (v := (0, -2003)) rfl ?_
      refine Y_push gL_areEntries_174 (v := (0, -2003)) rfl ?_
      refine Y_icmp_ne gL_areEntries_177 (tgt := 236) (by decide) (fun h177 => absurd h177 (by decide)) (fun _ => ?_)
      refine Y_push gL_areEntries_180 (v := (0, 123)) rfl ?_
      refine Y_push gL_areEntries_182 (v := (0, 110)) rfl ?_
      refine Y_icmp_ne gL_areEntries_184 (tgt := 203) (by decide) (fun _ => ?_) (fun h184 => absurd h184 (by decide))
      refine Y_push gL_areEntries_203 (v := (0, 123)) rfl ?_
      refine Y_push gL_areEntries_205 (v := (0, 99)) rfl ?_
      refine Y_icmp_ne gL_areEntries_207 (tgt := 226) (by decide) (fun _ => ?_) (fun h207 => absurd h207 (by decide))
      refine Y_push gL_areEntries_226 (v := (0, wT T (k : Int))) rfl ?_
      refine Y_push gL_areEntries_228 (v := (0, 1)) rfl ?_
      refine Y_icmp_ne gL_areEntries_229 (tgt := 236) (by decide) (fun h229 => absurd h229 (by omega)) (fun _ => ?_)
      refine Y_push gL_areEntries_232 (v := (0, 1)) rfl ?_
      refine Y_goto gL_areEntries_233 (tgt := 237) (by decide) ?_
      refine Y_sto gL_areEntries_237 rfl (ls' := [(1, ((0 : Nat) : Int)), (0, (T.1 : Int)), (0, (opT T k) - 0), (0, wsT T k), (0, 1), (1, ((a : Nat) : Int)), (0, (k : Int)), (0, 123), (0, -2003), (0, wT T (k : Int))]) (st' := []) rfl ?_
      refine Y_push gL_areEntries_239 (v := (0, (opT T k) - 0)) rfl ?_
      refine Y_push gL_areEntries_240 (v := (0, 123)) rfl ?_
      refine Y_push gL_areEntries_242 (v := (0, 123)) rfl ?_
      refine Y_icmp_ne gL_areEntries_244 (tgt := 251) (by decide) (fun h244 => absurd h244 (by decide)) (fun _ => ?_)
      refine Y_push gL_areEntries_247 (v := (0, 1)) rfl ?_
      refine Y_goto gL_areEntries_248 (tgt := 252) (by decide) ?_
      refine Y_iadd gL_areEntries_252 ⟨by omega, by omega⟩ ?_
      refine Y_sto gL_areEntries_253 rfl (ls' := [(1, ((0 : Nat) : Int)), (0, (T.1 : Int)), (0, ((opT T k) - 0) + 1), (0, wsT T k), (0, 1), (1, ((a : Nat) : Int)), (0, (k : Int)), (0, 123), (0, -2003), (0, wT T (k : Int))]) (st' := []) rfl ?_
      refine Y_push gL_areEntries_254 (v := (0, wsT T k)) rfl ?_
      refine Y_push gL_areEntries_255 (v := (0, wT T (k : Int))) rfl ?_
      refine Y_iadd gL_areEntries_257 ⟨by omega, by omega⟩ ?_
      refine Y_sto gL_areEntries_258 rfl (ls' := [(1, ((0 : Nat) : Int)), (0, (T.1 : Int)), (0, ((opT T k) - 0) + 1), (0, (wsT T k) + (wT T (k : Int))), (0, 1), (1, ((a : Nat) : Int)), (0, (k : Int)), (0, 123), (0, -2003), (0, wT T (k : Int))]) (st' := []) rfl ?_
      refine Y_push gL_areEntries_259 (v := (0, 123)) rfl ?_
      refine Y_push gL_areEntries_261 (v := (0, 110)) rfl ?_
      refine Y_icmp_ne gL_areEntries_263 (tgt := 275) (by decide) (fun _ => ?_) (fun h263 => absurd h263 (by decide))
      refine Y_iinc gL_areEntries_275 rfl ⟨by omega, by omega⟩ (ls' := [(1, ((0 : Nat) : Int)), (0, (T.1 : Int)), (0, ((opT T k) - 0) + 1), (0, (wsT T k) + (wT T (k : Int))), (0, 1), (1, ((a : Nat) : Int)), (0, (k : Int) + 1), (0, 123), (0, -2003), (0, wT T (k : Int))]) rfl ?_
      refine Y_goto gL_areEntries_278 (tgt := 72) (by decide) ?_
      have hO2 := occ_fr hO (by assumption) ha
      refine Y_K (by omega) (h9 _ _ _ _ (by assumption) (fun x x0 x1 => ?_))
      rw [tmT_s]
      unfold isT
      rw [if_neg (fun h => by omega), Int.add_zero]
      exact hO2 x x0 x1
    · -- 125
      have ecn : cdNameOf T (k : Int) = 2 := by unfold cdNameOf; rw [if_pos hin, if_neg (by omega)]
      rw [if_neg (by omega), if_neg (by omega)] at ewt
      have edp : dpT T (k : Int) = opT T k - 1 := by rw [hdp9, if_pos hk1]
      rw [edp] at hdp
      rw [show opT T k + (if kT T k = 123 then (1 : Int) else if kT T k = 125 then -1 else 0) = ((opT T k) - 1) + 0 from (by rw [if_neg (by omega), if_pos hk1]; omega)] at h9
      refine Y_push gL_areEntries_72 (v := (0, (k : Int))) rfl ?_
      refine Y_push gL_areEntries_74 (v := (0, (T.1 : Int))) rfl ?_
      refine Y_icmp_ge gL_areEntries_75 (tgt := 281) (by decide) (fun h75 => absurd h75 (by omega)) (fun _ => ?_)
      refine Y_push gL_areEntries_78 (v := (0, 1)) rfl ?_
      refine Y_if_eq gL_areEntries_80 (tgt := 281) (by decide) (fun h80 => absurd h80 (by decide)) (fun _ => ?_)
      refine Y_push gL_areEntries_83 (v := (1, ((0 : Nat) : Int))) rfl ?_
      refine Y_push gL_areEntries_84 (v := (0, 0)) rfl ?_
      refine Y_push gL_areEntries_85 (v := (0, (k : Int))) rfl ?_
      refine Y_ask (v := 125) gL_areEntries_87 rfl rfl rfl rfl rfl rfl (fun _ => rfl) rfl rfl (by omega) (wA0 hC hV (k : Int)) ((q_0 hcd).trans hk1) (by omega) (fun w17 hC17 hF17 => ?_)
      have hG17 := hG.trans hF17
      refine Y_sto gL_areEntries_90 rfl (ls' := [(1, ((0 : Nat) : Int)), (0, (T.1 : Int)), (0, opT T k), (0, wsT T k), (0, 1), (1, ((a : Nat) : Int)), (0, (k : Int)), (0, 125), u8, u9]) (st' := []) rfl ?_
      refine Y_push gL_areEntries_92 (v := (1, ((0 : Nat) : Int))) rfl ?_
      refine Y_push gL_areEntries_93 (v := (0, 1)) rfl ?_
      refine Y_push gL_areEntries_94 (v := (0, (k : Int))) rfl ?_
      refine Y_ask (v := -2003) gL_areEntries_96 rfl rfl rfl rfl rfl rfl (fun _ => rfl) rfl rfl (by omega) (wA1 hC17 hV (k : Int)) (q_2 ecn exC_IS) (by omega) (fun w18 hC18 hF18 => ?_)
      have hG18 := hG17.trans hF18
      refine Y_sto gL_areEntries_99 rfl (ls' := [(1, ((0 : Nat) : Int)), (0, (T.1 : Int)), (0, opT T k), (0, wsT T k), (0, 1), (1, ((a : Nat) : Int)), (0, (k : Int)), (0, 125), (0, -2003), u9]) (st' := []) rfl ?_
      refine Y_push gL_areEntries_101 (v := (1, ((0 : Nat) : Int))) rfl ?_
      refine Y_push gL_areEntries_102 (v := (0, 2)) rfl ?_
      refine Y_push gL_areEntries_103 (v := (0, (k : Int))) rfl ?_
      refine Y_ask (v := wT T (k : Int)) gL_areEntries_105 rfl rfl rfl rfl rfl rfl (fun _ => rfl) rfl rfl (by omega) (wA2 hC18 hV (k : Int)) (q_0 hcd) (by omega) (fun w19 hC19 hF19 => ?_)
      have hG19 := hG18.trans hF19
      refine Y_sto gL_areEntries_108 rfl (ls' := [(1, ((0 : Nat) : Int)), (0, (T.1 : Int)), (0, opT T k), (0, wsT T k), (0, 1), (1, ((a : Nat) : Int)), (0, (k : Int)), (0, 125), (0, -2003), (0, wT T (k : Int))]) (st' := []) rfl ?_
      refine Y_push gL_areEntries_110 (v := (0, opT T k)) rfl ?_
      refine Y_push gL_areEntries_111 (v := (0, 125)) rfl ?_
      refine Y_push gL_areEntries_113 (v := (0, 125)) rfl ?_
      refine Y_icmp_ne gL_areEntries_115 (tgt := 122) (by decide) (fun h115 => absurd h115 (by decide)) (fun _ => ?_)
      refine Y_push gL_areEntries_118 (v := (0, 1)) rfl ?_
      refine Y_goto gL_areEntries_119 (tgt := 123) (by decide) ?_
      refine Y_isub gL_areEntries_123 ⟨by omega, by omega⟩ ?_
      refine Y_sto gL_areEntries_124 rfl (ls' := [(1, ((0 : Nat) : Int)), (0, (T.1 : Int)), (0, (opT T k) - 1), (0, wsT T k), (0, 1), (1, ((a : Nat) : Int)), (0, (k : Int)), (0, 125), (0, -2003), (0, wT T (k : Int))]) (st' := []) rfl ?_
      refine Y_push gL_areEntries_125 (v := (0, (opT T k) - 1)) rfl ?_
      refine Y_if_lt gL_areEntries_126 (tgt := 236) (by decide) (fun h126 => absurd h126 (by omega)) (fun _ => ?_)
      refine Y_push gL_areEntries_129 (v := (1, ((0 : Nat) : Int))) rfl ?_
      refine Y_push gL_areEntries_130 (v := (0, 3)) rfl ?_
      refine Y_push gL_areEntries_131 (v := (0, (k : Int))) rfl ?_
      refine Y_ask (v := opT T k - 1) gL_areEntries_133 rfl rfl rfl rfl rfl rfl (fun _ => rfl) rfl rfl (by omega) (wA3 hC19 hV (k : Int)) ((q_0 hcd).trans edp) (by omega) (fun w20 hC20 hF20 => ?_)
      have hG20 := hG19.trans hF20
      refine Y_push gL_areEntries_136 (v := (0, (opT T k) - 1)) rfl ?_
      refine Y_icmp_ne gL_areEntries_137 (tgt := 236) (by decide) (fun h137 => absurd h137 (by omega)) (fun _ => ?_)
      refine Y_push gL_areEntries_140 (v := (0, 125)) rfl ?_
      refine Y_push gL_areEntries_142 (v := (0, 110)) rfl ?_
      refine Y_icmp_ne gL_areEntries_144 (tgt := 151) (by decide) (fun _ => ?_) (fun h144 => absurd h144 (by decide))
      refine Y_push gL_areEntries_151 (v := (0, 0)) rfl ?_
      refine Y_push gL_areEntries_152 (v := (0, -2003)) rfl ?_
      refine Y_if_lt gL_areEntries_154 (tgt := 161) (by decide) (fun _ => ?_) (fun h154 => absurd h154 (by decide))
      refine Y_push gL_areEntries_161 (v := (0, 0)) rfl ?_
      refine Y_icmp_ne gL_areEntries_162 (tgt := 236) (by decide) (fun h162 => absurd h162 (by decide)) (fun _ => ?_)
      refine Y_push gL_areEntries_165 (v := (0, 125)) rfl ?_
      refine Y_push gL_areEntries_167 (v := (0, 110)) rfl ?_
      refine Y_icmp_eq gL_areEntries_169 (tgt := 180) (by decide) (fun h169 => absurd h169 (by decide)) (fun _ => ?_)
      refine Y_push gL_areEntries_172 (v := (0, -2003)) rfl ?_
      refine Y_push gL_areEntries_174 (v := (0, -2003)) rfl ?_
      refine Y_icmp_ne gL_areEntries_177 (tgt := 236) (by decide) (fun h177 => absurd h177 (by decide)) (fun _ => ?_)
      refine Y_push gL_areEntries_180 (v := (0, 125)) rfl ?_
      refine Y_push gL_areEntries_182 (v := (0, 110)) rfl ?_
      refine Y_icmp_ne gL_areEntries_184 (tgt := 203) (by decide) (fun _ => ?_) (fun h184 => absurd h184 (by decide))
      refine Y_push gL_areEntries_203 (v := (0, 125)) rfl ?_
      refine Y_push gL_areEntries_205 (v := (0, 99)) rfl ?_
      refine Y_icmp_ne gL_areEntries_207 (tgt := 226) (by decide) (fun _ => ?_) (fun h207 => absurd h207 (by decide))
      refine Y_push gL_areEntries_226 (v := (0, wT T (k : Int))) rfl ?_
      refine Y_push gL_areEntries_228 (v := (0, 1)) rfl ?_
      refine Y_icmp_ne gL_areEntries_229 (tgt := 236) (by decide) (fun h229 => absurd h229 (by omega)) (fun _ => ?_)
      refine Y_push gL_areEntries_232 (v := (0, 1)) rfl ?_
      refine Y_goto gL_areEntries_233 (tgt := 237) (by decide) ?_
      refine Y_sto gL_areEntries_237 rfl (ls' := [(1, ((0 : Nat) : Int)), (0, (T.1 : Int)), (0, (opT T k) - 1), (0, wsT T k), (0, 1), (1, ((a : Nat) : Int)), (0, (k : Int)), (0, 125), (0, -2003), (0, wT T (k : Int))]) (st' := []) rfl ?_
      refine Y_push gL_areEntries_239 (v := (0, (opT T k) - 1)) rfl ?_
      refine Y_push gL_areEntries_240 (v := (0, 125)) rfl ?_
      refine Y_push gL_areEntries_242 (v := (0, 123)) rfl ?_
      refine Y_icmp_ne gL_areEntries_244 (tgt := 251) (by decide) (fun _ => ?_) (fun h244 => absurd h244 (by decide))
      refine Y_push gL_areEntries_251 (v := (0, 0)) rfl ?_
      refine Y_iadd gL_areEntries_252 ⟨by omega, by omega⟩ ?_
      refine Y_sto gL_areEntries_253 rfl (ls' := [(1, ((0 : Nat) : Int)), (0, (T.1 : Int)), (0, ((opT T k) - 1) + 0), (0, wsT T k), (0, 1), (1, ((a : Nat) : Int)), (0, (k : Int)), (0, 125), (0, -2003), (0, wT T (k : Int))]) (st' := []) rfl ?_
      refine Y_push gL_areEntries_254 (v := (0, wsT T k)) rfl ?_
      refine Y_push gL_areEntries_255 (v := (0, wT T (k : Int))) rfl ?_
      refine Y_iadd gL_areEntries_257 ⟨by omega, by omega⟩ ?_
      refine Y_sto gL_areEntries_258 rfl (ls' := [(1, ((0 : Nat) : Int)), (0, (T.1 : Int)), (0, ((opT T k) - 1) + 0), (0, (wsT T k) + (wT T (k : Int))), (0, 1), (1, ((a : Nat) : Int)), (0, (k : Int)), (0, 125), (0, -2003), (0, wT T (k : Int))]) (st' := []) rfl ?_
      refine Y_push gL_areEntries_259 (v := (0, 125)) rfl ?_
      refine Y_push gL_areEntries_261 (v := (0, 110)) rfl ?_
      refine Y_icmp_ne gL_areEntries_263 (tgt := 275) (by decide) (fun _ => ?_) (fun h263 => absurd h263 (by decide))
      refine Y_iinc gL_areEntries_275 rfl ⟨by omega, by omega⟩ (ls' := [(1, ((0 : Nat) : Int)), (0, (T.1 : Int)), (0, ((opT T k) - 1) + 0), (0, (wsT T k) + (wT T (k : Int))), (0, 1), (1, ((a : Nat) : Int)), (0, (k : Int) + 1), (0, 125), (0, -2003), (0, wT T (k : Int))]) rfl ?_
      refine Y_goto gL_areEntries_278 (tgt := 72) (by decide) ?_
      have hO2 := occ_fr hO (by assumption) ha
      refine Y_K (by omega) (h9 _ _ _ _ (by assumption) (fun x x0 x1 => ?_))
      rw [tmT_s]
      unfold isT
      rw [if_neg (fun h => by omega), Int.add_zero]
      exact hO2 x x0 x1
theorem tY_areEntries (hC : CR w T R D lim la) (hV : SV B T R D lim la) (hW : WB T) : Y ro 37 mL_areEntries 0 (zargs (zMl mL_areEntries) [(1, ((0 : Nat) : Int))]) [] X w 300 (QT T R D lim la) := by
  have hG := frC.refl w
  have hT30 := hV.1.1
  show Y ro 37 mL_areEntries 0 [(1, ((0 : Nat) : Int)), (9, 0), (9, 0), (9, 0), (9, 0), (9, 0), (9, 0), (9, 0), (9, 0), (9, 0)] [] X w 300 _
  refine Y_push gL_areEntries_0 (v := (1, ((0 : Nat) : Int))) rfl ?_
  refine Y_callR (kd := 0) (na := 1) (M' := mX7_entries) (v := (0, (T.1 : Int))) gL_areEntries_1 rfl rfl rfl rfl rfl rfl (fun _ => rfl) rfl rfl (fun _ _ => zrecv_obj rfl _ _ _) (d' := 1) (by omega) (uX7_entries hC hV) rfl (fun w21 hC21 hF21 => ?_)
  have hG21 := hG.trans hF21
  refine Y_sto gL_areEntries_4 rfl (ls' := [(1, ((0 : Nat) : Int)), (0, (T.1 : Int)), (9, 0), (9, 0), (9, 0), (9, 0), (9, 0), (9, 0), (9, 0), (9, 0)]) (st' := []) rfl ?_
  refine Y_push gL_areEntries_5 (v := (0, 0)) rfl ?_
  refine Y_sto gL_areEntries_6 rfl (ls' := [(1, ((0 : Nat) : Int)), (0, (T.1 : Int)), (0, 0), (9, 0), (9, 0), (9, 0), (9, 0), (9, 0), (9, 0), (9, 0)]) (st' := []) rfl ?_
  refine Y_push gL_areEntries_7 (v := (0, 0)) rfl ?_
  refine Y_sto gL_areEntries_8 rfl (ls' := [(1, ((0 : Nat) : Int)), (0, (T.1 : Int)), (0, 0), (0, 0), (9, 0), (9, 0), (9, 0), (9, 0), (9, 0), (9, 0)]) (st' := []) rfl ?_
  refine Y_push gL_areEntries_9 (v := (0, (T.1 : Int))) rfl ?_
  refine Y_if_lt gL_areEntries_10 (tgt := 60) (by decide) (fun h10 => absurd h10 (by omega)) (fun _ => ?_)
  refine Y_push gL_areEntries_13 (v := (0, (T.1 : Int))) rfl ?_
  refine Y_push gL_areEntries_14 (v := (0, 30)) rfl ?_
  refine Y_icmp_gt gL_areEntries_16 (tgt := 60) (by decide) (fun h16 => absurd h16 (by omega)) (fun _ => ?_)
  refine Y_push gL_areEntries_19 (v := (1, ((0 : Nat) : Int))) rfl ?_
  refine Y_push gL_areEntries_20 (v := (0, 0)) rfl ?_
  refine Y_push gL_areEntries_21 (v := (0, (T.1 : Int))) rfl ?_
  refine Y_ask (v := -2001) gL_areEntries_22 rfl rfl rfl rfl rfl rfl (fun _ => rfl) rfl rfl (by omega) (wA0 hC21 hV (T.1 : Int)) (q_1 (cdEnt_1 (by omega)) exC_IX) (by omega) (fun w22 hC22 hF22 => ?_)
  have hG22 := hG21.trans hF22
  refine Y_push gL_areEntries_25 (v := (0, -2001)) rfl ?_
  refine Y_icmp_ne gL_areEntries_28 (tgt := 60) (by decide) (fun h28 => absurd h28 (by decide)) (fun _ => ?_)
  refine Y_push gL_areEntries_31 (v := (1, ((0 : Nat) : Int))) rfl ?_
  refine Y_push gL_areEntries_32 (v := (0, 0)) rfl ?_
  refine Y_push gL_areEntries_33 (v := (0, -1)) rfl ?_
  refine Y_ask (v := -2001) gL_areEntries_34 rfl rfl rfl rfl rfl rfl (fun _ => rfl) rfl rfl (by omega) (wA0 hC22 hV (-1)) (q_1 (cdEnt_1 (by omega)) exC_IX) (by omega) (fun w23 hC23 hF23 => ?_)
  have hG23 := hG22.trans hF23
  refine Y_push gL_areEntries_37 (v := (0, -2001)) rfl ?_
  refine Y_icmp_ne gL_areEntries_40 (tgt := 60) (by decide) (fun h40 => absurd h40 (by decide)) (fun _ => ?_)
  refine Y_push gL_areEntries_43 (v := (1, ((0 : Nat) : Int))) rfl ?_
  refine Y_push gL_areEntries_44 (v := (0, 6)) rfl ?_
  refine Y_push gL_areEntries_46 (v := (0, (T.1 : Int))) rfl ?_
  refine Y_ask (v := -2001) gL_areEntries_47 rfl rfl rfl rfl rfl rfl (fun _ => rfl) rfl rfl (by omega) (wA6 hC23 hV (T.1 : Int)) (q_1 (cdEnt_1 (by omega)) exC_IX) (by omega) (fun w24 hC24 hF24 => ?_)
  have hG24 := hG23.trans hF24
  refine Y_push gL_areEntries_50 (v := (0, -2001)) rfl ?_
  refine Y_icmp_ne gL_areEntries_53 (tgt := 60) (by decide) (fun h53 => absurd h53 (by decide)) (fun _ => ?_)
  refine Y_push gL_areEntries_56 (v := (0, 1)) rfl ?_
  refine Y_goto gL_areEntries_57 (tgt := 61) (by decide) ?_
  refine Y_sto gL_areEntries_61 rfl (ls' := [(1, ((0 : Nat) : Int)), (0, (T.1 : Int)), (0, 0), (0, 0), (0, 1), (9, 0), (9, 0), (9, 0), (9, 0), (9, 0)]) (st' := []) rfl ?_
  refine Y_push gL_areEntries_63 (v := (0, 100)) rfl ?_
  refine Y_newa (n := 100) (k := 17) gL_areEntries_65 (by omega) ⟨by omega, by omega, by omega⟩ ?_
  have hC9 := CR_97 (w' := wnew w24 (97 + X.length)) (by assumption) (fun a9 k9 h => wnew_ne (by omega) k9)
  have h9 := tY_ents1 (ro := ro) hV hW (show 97 ≤ 97 + X.length by omega) (get_new X (1, 0, 100)) T.1 0 (by omega) (9, 0) (9, 0) (9, 0) _ hC9 (fun x x0 x1 => wnew_eq _ _ _)
  refine Y_sto gL_areEntries_67 rfl (ls' := [(1, ((0 : Nat) : Int)), (0, (T.1 : Int)), (0, 0), (0, 0), (0, 1), (1, ((97 + X.length : Nat) : Int)), (9, 0), (9, 0), (9, 0), (9, 0)]) (st' := []) rfl ?_
  refine Y_push gL_areEntries_69 (v := (0, 0)) rfl ?_
  refine Y_sto gL_areEntries_70 rfl (ls' := [(1, ((0 : Nat) : Int)), (0, (T.1 : Int)), (0, 0), (0, 0), (0, 1), (1, ((97 + X.length : Nat) : Int)), (0, 0), (9, 0), (9, 0), (9, 0)]) (st' := []) rfl ?_
  exact Y_K (by omega) h9
end
