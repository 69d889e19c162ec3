/-! the law's cases 0 to 9 -/
section
variable {ro : zRo} {w : zW} {T : zTx} {R : zRu} {D : zDs} {lim la B : Int} {L : Nat} {f : Nat → Int} {n q : Nat}
theorem lc_addName (hro : ro (-3) = some (L, f)) (hq : 4 * q + 4 ≤ L) (hL : L ≤ 2048) (hC : CR w T R D lim la) (hM : MR w T R D lim la) (hV : SV B T R D lim la) (hB : B ≤ 80000) (v6 v7 v8 : zV) (K : ∀ (v6 v7 v8 : zV) (W : zW), LI W (B + 150) → Z ro 100 mL_law 2130 [(1, -3), (1, ((0 : Nat) : Int)), (1, ((97 : Nat) : Int)), (1, ((117 : Nat) : Int)), (1, ((118 : Nat) : Int)), (0, ((4 * q : Nat) : Int)), v6, v7, v8] [] W (Qn n)) : Z ro 100 mL_law 216 [(1, -3), (1, ((0 : Nat) : Int)), (1, ((97 : Nat) : Int)), (1, ((117 : Nat) : Int)), (1, ((118 : Nat) : Int)), (0, ((4 * q : Nat) : Int)), v6, v7, v8] [] w (Qn (n + 1)) := by
  obtain ⟨x6, y6⟩ := v6
  obtain ⟨x7, y7⟩ := v7
  obtain ⟨x8, y8⟩ := v8
  have hV1 := hV.1.1
  refine Z_push gL_law_216 (v := (1, ((0 : Nat) : Int))) rfl ?_
  refine Z_push gL_law_217 (v := (1, -3)) rfl ?_
  refine Z_push gL_law_218 (v := (0, ((4 * q : Nat) : Int))) rfl ?_
  refine Z_push gL_law_220 (v := (0, 1)) rfl ?_
  refine Z_iadd gL_law_221 ⟨by omega, by omega⟩ ?_
  refine Z_ialoadS gL_law_222 hro (by omega) (by omega) ?_
  refine Z_push gL_law_223 (v := (1, -3)) rfl ?_
  refine Z_push gL_law_224 (v := (0, ((4 * q : Nat) : Int))) rfl ?_
  refine Z_push gL_law_226 (v := (0, 2)) rfl ?_
  refine Z_iadd gL_law_227 ⟨by omega, by omega⟩ ?_
  refine Z_ialoadS gL_law_228 hro (by omega) (by omega) ?_
  refine Z_push gL_law_229 (v := (1, ((117 : Nat) : Int))) rfl ?_
  refine Z_callL (kd := 5) (na := 4) (M' := mL_addName) gL_law_230 rfl rfl rfl rfl rfl rfl (fun _ => rfl) rfl rfl (fun _ _ => rfl) (d' := 5) (by omega) (wL_addName (f (((4 * q : Nat) : Int) + 1).toNat) (f (((4 * q : Nat) : Int) + 2).toNat)  (uX7_addName hC hV (f (((4 * q : Nat) : Int) + 1).toNat) (f (((4 * q : Nat) : Int) + 2).toNat)) (by unfold cdAddName; (repeat' split) <;> omega) (stab_CR 117 (by omega))) ?_
  rintro c9 w2 ⟨rfl, c1, c0, cf⟩
  refine Z_mono (Q' := Qn n) ?_ (fun r w' k h e he => ⟨by have := h.1; omega, h.2⟩)
  have hM2 : MR w2 T R D lim la := MR_out hM (fun a k h1 h2 => cf a k h1 h2)
  refine Z_sto gL_law_233 rfl (ls' := [(1, -3), (1, ((0 : Nat) : Int)), (1, ((97 : Nat) : Int)), (1, ((117 : Nat) : Int)), (1, ((118 : Nat) : Int)), (0, ((4 * q : Nat) : Int)), (0, ((cdAddName T (f (((4 * q : Nat) : Int) + 1).toNat) (f (((4 * q : Nat) : Int) + 2).toNat) : Nat) : Int)), (x7, y7), (x8, y8)]) (st' := []) rfl ?_
  refine Z_push gL_law_235 (v := (1, ((97 : Nat) : Int))) rfl ?_
  refine Z_push gL_law_236 (v := (1, -3)) rfl ?_
  refine Z_push gL_law_237 (v := (0, ((4 * q : Nat) : Int))) rfl ?_
  refine Z_push gL_law_239 (v := (0, 1)) rfl ?_
  refine Z_iadd gL_law_240 ⟨by omega, by omega⟩ ?_
  refine Z_ialoadS gL_law_241 hro (by omega) (by omega) ?_
  refine Z_push gL_law_242 (v := (1, -3)) rfl ?_
  refine Z_push gL_law_243 (v := (0, ((4 * q : Nat) : Int))) rfl ?_
  refine Z_push gL_law_245 (v := (0, 2)) rfl ?_
  refine Z_iadd gL_law_246 ⟨by omega, by omega⟩ ?_
  refine Z_ialoadS gL_law_247 hro (by omega) (by omega) ?_
  refine Z_callE (kd := 0) (na := 3) (M' := mX8_addName) gL_law_248 rfl rfl rfl rfl rfl rfl (fun _ => rfl) rfl rfl (fun _ _ => zrecv_obj rfl _ _ _) (d' := 2) (by omega) ((mX8w_addName hM2 hV (f (((4 * q : Nat) : Int) + 1).toNat) (f (((4 * q : Nat) : Int) + 2).toNat))) ?_
  rintro o w3 ⟨⟨b, rfl, hb⟩, ht, m1, m0, mf⟩
  refine Z_sto gL_law_251 rfl (ls' := [(1, -3), (1, ((0 : Nat) : Int)), (1, ((97 : Nat) : Int)), (1, ((117 : Nat) : Int)), (1, ((118 : Nat) : Int)), (0, ((4 * q : Nat) : Int)), (0, ((cdAddName T (f (((4 * q : Nat) : Int) + 1).toNat) (f (((4 * q : Nat) : Int) + 2).toNat) : Nat) : Int)), (0, b), (x8, y8)]) (st' := []) rfl ?_
  refine Z_push gL_law_253 (v := (1, ((97 : Nat) : Int))) rfl ?_
  refine Z_callP (kd := 0) (na := 1) (M' := mX8_thrown) gL_law_254 rfl rfl rfl rfl rfl rfl (fun _ => rfl) rfl rfl (fun _ _ => zrecv_obj rfl _ _ _) (d' := 0) (by omega) (vX8_thrown _ ht) ?_
  refine Z_push gL_law_257 (v := (0, ((cdAddName T (f (((4 * q : Nat) : Int) + 1).toNat) (f (((4 * q : Nat) : Int) + 2).toNat) : Nat) : Int))) rfl ?_
  refine Z_icmp_eq gL_law_259 (tgt := 264) (by decide) (fun _ => ?_) (fun h259 => absurd h259 (by omega))
  refine Z_push gL_law_264 (v := (0, ((cdAddName T (f (((4 * q : Nat) : Int) + 1).toNat) (f (((4 * q : Nat) : Int) + 2).toNat) : Nat) : Int))) rfl ?_
  refine Z_if_ne gL_law_266 (tgt := 281) (by decide) (fun h266 => ?_) (fun h266 => ?_)
  · refine Z_goto gL_law_281 (tgt := 2130) (by decide) ?_
    exact K _ _ _ w3 ⟨_, _, _, _, _, CR_97 (c0 (by omega)) (fun a k ha => mf a k (by omega)), m0 (by omega), SV_same hV⟩
  · have hc : cdAddName T (f (((4 * q : Nat) : Int) + 1).toNat) (f (((4 * q : Nat) : Int) + 2).toNat) = 0 := by omega
    have hb := hb hc
    have hout : w3 117 0 = (T.1 : Int) := (mf _ _ (by omega)).trans (c1 hc).2
    rw [← hb] at hout
    refine Z_push gL_law_269 (v := (1, ((117 : Nat) : Int))) rfl ?_
    refine Z_push gL_law_270 (v := (0, 0)) rfl ?_
    refine Z_laloadV (v := b) gL_law_271 rfl (by omega) (by omega) hout ?_
    refine Z_push gL_law_272 (v := (0, b)) rfl ?_
    refine Z_arith gL_law_274 rfl rfl (v := [(2, b), (2, b)]) rfl ?_
    refine Z_arith gL_law_275 rfl rfl (v := [(0, 0)]) (lcmp_self _ b) ?_
    refine Z_if_eq gL_law_276 (tgt := 281) (by decide) (fun _ => ?_) (fun h276 => absurd h276 (by omega))
    refine Z_goto gL_law_281 (tgt := 2130) (by decide) ?_
    exact K _ _ _ w3 ⟨_, _, _, _, _, CR_97 (c1 hc).1 (fun a k ha => mf a k (by omega)), m1 hc, SVx_addName hV hc⟩
theorem lc_addComment (hro : ro (-3) = some (L, f)) (hq : 4 * q + 4 ≤ L) (hL : L ≤ 2048) (hC : CR w T R D lim la) (hM : MR w T R D lim la) (hV : SV B T R D lim la) (hB : B ≤ 80000) (v6 v7 v8 : zV) (K : ∀ (v6 v7 v8 : zV) (W : zW), LI W (B + 150) → Z ro 100 mL_law 2130 [(1, -3), (1, ((0 : Nat) : Int)), (1, ((97 : Nat) : Int)), (1, ((117 : Nat) : Int)), (1, ((118 : Nat) : Int)), (0, ((4 * q : Nat) : Int)), v6, v7, v8] [] W (Qn n)) : Z ro 100 mL_law 284 [(1, -3), (1, ((0 : Nat) : Int)), (1, ((97 : Nat) : Int)), (1, ((117 : Nat) : Int)), (1, ((118 : Nat) : Int)), (0, ((4 * q : Nat) : Int)), v6, v7, v8] [] w (Qn (n + 1)) := by
  obtain ⟨x6, y6⟩ := v6
  obtain ⟨x7, y7⟩ := v7
  obtain ⟨x8, y8⟩ := v8
  have hV1 := hV.1.1
  refine Z_push gL_law_284 (v := (1, ((0 : Nat) : Int))) rfl ?_
  refine Z_push gL_law_285 (v := (1, -3)) rfl ?_
  refine Z_push gL_law_286 (v := (0, ((4 * q : Nat) : Int))) rfl ?_
  refine Z_push gL_law_288 (v := (0, 1)) rfl ?_
  refine Z_iadd gL_law_289 ⟨by omega, by omega⟩ ?_
  refine Z_ialoadS gL_law_290 hro (by omega) (by omega) ?_
  refine Z_push gL_law_291 (v := (1, ((117 : Nat) : Int))) rfl ?_
  refine Z_callL (kd := 5) (na := 3) (M' := mL_addComment) gL_law_292 rfl rfl rfl rfl rfl rfl (fun _ => rfl) rfl rfl (fun _ _ => rfl) (d' := 5) (by omega) (wL_addComment (f (((4 * q : Nat) : Int) + 1).toNat)  (uX7_addComment hC hV (f (((4 * q : Nat) : Int) + 1).toNat)) (by unfold cdAddC; (repeat' split) <;> omega) (stab_CR 117 (by omega))) ?_
  rintro c9 w2 ⟨rfl, c1, c0, cf⟩
  refine Z_mono (Q' := Qn n) ?_ (fun r w' k h e he => ⟨by have := h.1; omega, h.2⟩)
  have hM2 : MR w2 T R D lim la := MR_out hM (fun a k h1 h2 => cf a k h1 h2)
  refine Z_sto gL_law_295 rfl (ls' := [(1, -3), (1, ((0 : Nat) : Int)), (1, ((97 : Nat) : Int)), (1, ((117 : Nat) : Int)), (1, ((118 : Nat) : Int)), (0, ((4 * q : Nat) : Int)), (0, ((cdAddC T (f (((4 * q : Nat) : Int) + 1).toNat) : Nat) : Int)), (x7, y7), (x8, y8)]) (st' := []) rfl ?_
  refine Z_push gL_law_297 (v := (1, ((97 : Nat) : Int))) rfl ?_
  refine Z_push gL_law_298 (v := (1, -3)) rfl ?_
  refine Z_push gL_law_299 (v := (0, ((4 * q : Nat) : Int))) rfl ?_
  refine Z_push gL_law_301 (v := (0, 1)) rfl ?_
  refine Z_iadd gL_law_302 ⟨by omega, by omega⟩ ?_
  refine Z_ialoadS gL_law_303 hro (by omega) (by omega) ?_
  refine Z_callE (kd := 0) (na := 2) (M' := mX8_addComment) gL_law_304 rfl rfl rfl rfl rfl rfl (fun _ => rfl) rfl rfl (fun _ _ => zrecv_obj rfl _ _ _) (d' := 1) (by omega) ((mX8w_addComment hM2 hV (f (((4 * q : Nat) : Int) + 1).toNat))) ?_
  rintro o w3 ⟨⟨b, rfl, hb⟩, ht, m1, m0, mf⟩
  refine Z_sto gL_law_307 rfl (ls' := [(1, -3), (1, ((0 : Nat) : Int)), (1, ((97 : Nat) : Int)), (1, ((117 : Nat) : Int)), (1, ((118 : Nat) : Int)), (0, ((4 * q : Nat) : Int)), (0, ((cdAddC T (f (((4 * q : Nat) : Int) + 1).toNat) : Nat) : Int)), (0, b), (x8, y8)]) (st' := []) rfl ?_
  refine Z_push gL_law_309 (v := (1, ((97 : Nat) : Int))) rfl ?_
  refine Z_callP (kd := 0) (na := 1) (M' := mX8_thrown) gL_law_310 rfl rfl rfl rfl rfl rfl (fun _ => rfl) rfl rfl (fun _ _ => zrecv_obj rfl _ _ _) (d' := 0) (by omega) (vX8_thrown _ ht) ?_
  refine Z_push gL_law_313 (v := (0, ((cdAddC T (f (((4 * q : Nat) : Int) + 1).toNat) : Nat) : Int))) rfl ?_
  refine Z_icmp_eq gL_law_315 (tgt := 320) (by decide) (fun _ => ?_) (fun h315 => absurd h315 (by omega))
  refine Z_push gL_law_320 (v := (0, ((cdAddC T (f (((4 * q : Nat) : Int) + 1).toNat) : Nat) : Int))) rfl ?_
  refine Z_if_ne gL_law_322 (tgt := 337) (by decide) (fun h322 => ?_) (fun h322 => ?_)
  · refine Z_goto gL_law_337 (tgt := 2130) (by decide) ?_
    exact K _ _ _ w3 ⟨_, _, _, _, _, CR_97 (c0 (by omega)) (fun a k ha => mf a k (by omega)), m0 (by omega), SV_same hV⟩
  · have hc : cdAddC T (f (((4 * q : Nat) : Int) + 1).toNat) = 0 := by omega
    have hb := hb hc
    have hout : w3 117 0 = (T.1 : Int) := (mf _ _ (by omega)).trans (c1 hc).2
    rw [← hb] at hout
    refine Z_push gL_law_325 (v := (1, ((117 : Nat) : Int))) rfl ?_
    refine Z_push gL_law_326 (v := (0, 0)) rfl ?_
    refine Z_laloadV (v := b) gL_law_327 rfl (by omega) (by omega) hout ?_
    refine Z_push gL_law_328 (v := (0, b)) rfl ?_
    refine Z_arith gL_law_330 rfl rfl (v := [(2, b), (2, b)]) rfl ?_
    refine Z_arith gL_law_331 rfl rfl (v := [(0, 0)]) (lcmp_self _ b) ?_
    refine Z_if_eq gL_law_332 (tgt := 337) (by decide) (fun _ => ?_) (fun h332 => absurd h332 (by omega))
    refine Z_goto gL_law_337 (tgt := 2130) (by decide) ?_
    exact K _ _ _ w3 ⟨_, _, _, _, _, CR_97 (c1 hc).1 (fun a k ha => mf a k (by omega)), m1 hc, SVx_addC hV hc⟩
theorem lc_begin (hro : ro (-3) = some (L, f)) (hq : 4 * q + 4 ≤ L) (hL : L ≤ 2048) (hC : CR w T R D lim la) (hM : MR w T R D lim la) (hV : SV B T R D lim la) (hB : B ≤ 80000) (v6 v7 v8 : zV) (K : ∀ (v6 v7 v8 : zV) (W : zW), LI W (B + 150) → Z ro 100 mL_law 2130 [(1, -3), (1, ((0 : Nat) : Int)), (1, ((97 : Nat) : Int)), (1, ((117 : Nat) : Int)), (1, ((118 : Nat) : Int)), (0, ((4 * q : Nat) : Int)), v6, v7, v8] [] W (Qn n)) : Z ro 100 mL_law 340 [(1, -3), (1, ((0 : Nat) : Int)), (1, ((97 : Nat) : Int)), (1, ((117 : Nat) : Int)), (1, ((118 : Nat) : Int)), (0, ((4 * q : Nat) : Int)), v6, v7, v8] [] w (Qn (n + 1)) := by
  obtain ⟨x6, y6⟩ := v6
  obtain ⟨x7, y7⟩ := v7
  obtain ⟨x8, y8⟩ := v8
  have hV1 := hV.1.1
  refine Z_push gL_law_340 (v := (1, ((0 : Nat) : Int))) rfl ?_
  refine Z_push gL_law_341 (v := (1, ((117 : Nat) : Int))) rfl ?_
  refine Z_callL (kd := 5) (na := 2) (M' := mL_begin) gL_law_342 rfl rfl rfl rfl rfl rfl (fun _ => rfl) rfl rfl (fun _ _ => rfl) (d' := 5) (by omega) (wL_begin  (uX7_begin hC hV) (by unfold cdBeg; (repeat' split) <;> omega) (stab_CR 117 (by omega))) ?_
  rintro c9 w2 ⟨rfl, c1, c0, cf⟩
  refine Z_mono (Q' := Qn n) ?_ (fun r w' k h e he => ⟨by have := h.1; omega, h.2⟩)
  have hM2 : MR w2 T R D lim la := MR_out hM (fun a k h1 h2 => cf a k h1 h2)
  refine Z_sto gL_law_345 rfl (ls' := [(1, -3), (1, ((0 : Nat) : Int)), (1, ((97 : Nat) : Int)), (1, ((117 : Nat) : Int)), (1, ((118 : Nat) : Int)), (0, ((4 * q : Nat) : Int)), (0, ((cdBeg T : Nat) : Int)), (x7, y7), (x8, y8)]) (st' := []) rfl ?_
  refine Z_push gL_law_347 (v := (1, ((97 : Nat) : Int))) rfl ?_
  refine Z_callE (kd := 0) (na := 1) (M' := mX8_begin) gL_law_348 rfl rfl rfl rfl rfl rfl (fun _ => rfl) rfl rfl (fun _ _ => zrecv_obj rfl _ _ _) (d' := 1) (by omega) ((mX8w_begin hM2 hV)) ?_
  rintro o w3 ⟨⟨b, rfl, hb⟩, ht, m1, m0, mf⟩
  refine Z_sto gL_law_351 rfl (ls' := [(1, -3), (1, ((0 : Nat) : Int)), (1, ((97 : Nat) : Int)), (1, ((117 : Nat) : Int)), (1, ((118 : Nat) : Int)), (0, ((4 * q : Nat) : Int)), (0, ((cdBeg T : Nat) : Int)), (0, b), (x8, y8)]) (st' := []) rfl ?_
  refine Z_push gL_law_353 (v := (1, ((97 : Nat) : Int))) rfl ?_
  refine Z_callP (kd := 0) (na := 1) (M' := mX8_thrown) gL_law_354 rfl rfl rfl rfl rfl rfl (fun _ => rfl) rfl rfl (fun _ _ => zrecv_obj rfl _ _ _) (d' := 0) (by omega) (vX8_thrown _ ht) ?_
  refine Z_push gL_law_357 (v := (0, ((cdBeg T : Nat) : Int))) rfl ?_
  refine Z_icmp_eq gL_law_359 (tgt := 364) (by decide) (fun _ => ?_) (fun h359 => absurd h359 (by omega))
  refine Z_push gL_law_364 (v := (0, ((cdBeg T : Nat) : Int))) rfl ?_
  refine Z_if_ne gL_law_366 (tgt := 381) (by decide) (fun h366 => ?_) (fun h366 => ?_)
  · refine Z_goto gL_law_381 (tgt := 2130) (by decide) ?_
    exact K _ _ _ w3 ⟨_, _, _, _, _, CR_97 (c0 (by omega)) (fun a k ha => mf a k (by omega)), m0 (by omega), SV_same hV⟩
  · have hc : cdBeg T = 0 := by omega
    have hb := hb hc
    have hout : w3 117 0 = dpT (adT T (123, 0, 1, 0)) (T.1 : Int) := (mf _ _ (by omega)).trans (c1 hc).2
    rw [← hb] at hout
    refine Z_push gL_law_369 (v := (1, ((117 : Nat) : Int))) rfl ?_
    refine Z_push gL_law_370 (v := (0, 0)) rfl ?_
    refine Z_laloadV (v := b) gL_law_371 rfl (by omega) (by omega) hout ?_
    refine Z_push gL_law_372 (v := (0, b)) rfl ?_
    refine Z_arith gL_law_374 rfl rfl (v := [(2, b), (2, b)]) rfl ?_
    refine Z_arith gL_law_375 rfl rfl (v := [(0, 0)]) (lcmp_self _ b) ?_
    refine Z_if_eq gL_law_376 (tgt := 381) (by decide) (fun _ => ?_) (fun h376 => absurd h376 (by omega))
    refine Z_goto gL_law_381 (tgt := 2130) (by decide) ?_
    exact K _ _ _ w3 ⟨_, _, _, _, _, CR_97 (c1 hc).1 (fun a k ha => mf a k (by omega)), m1 hc, SVx_beg hV hc⟩
theorem lc_end (hro : ro (-3) = some (L, f)) (hq : 4 * q + 4 ≤ L) (hL : L ≤ 2048) (hC : CR w T R D lim la) (hM : MR w T R D lim la) (hV : SV B T R D lim la) (hB : B ≤ 80000) (v6 v7 v8 : zV) (K : ∀ (v6 v7 v8 : zV) (W : zW), LI W (B + 150) → Z ro 100 mL_law 2130 [(1, -3), (1, ((0 : Nat) : Int)), (1, ((97 : Nat) : Int)), (1, ((117 : Nat) : Int)), (1, ((118 : Nat) : Int)), (0, ((4 * q : Nat) : Int)), v6, v7, v8] [] W (Qn n)) : Z ro 100 mL_law 384 [(1, -3), (1, ((0 : Nat) : Int)), (1, ((97 : Nat) : Int)), (1, ((117 : Nat) : Int)), (1, ((118 : Nat) : Int)), (0, ((4 * q : Nat) : Int)), v6, v7, v8] [] w (Qn (n + 1)) := by
  obtain ⟨x6, y6⟩ := v6
  obtain ⟨x7, y7⟩ := v7
  obtain ⟨x8, y8⟩ := v8
  have hV1 := hV.1.1
  refine Z_push gL_law_384 (v := (1, ((0 : Nat) : Int))) rfl ?_
  refine Z_push gL_law_385 (v := (1, ((117 : Nat) : Int))) rfl ?_
  refine Z_callL (kd := 5) (na := 2) (M' := mL_end) gL_law_386 rfl rfl rfl rfl rfl rfl (fun _ => rfl) rfl rfl (fun _ _ => rfl) (d' := 5) (by omega) (wL_end  (uX7_end hC hV) (by unfold cdEnd; (repeat' split) <;> omega) (stab_CR 117 (by omega))) ?_
  rintro c9 w2 ⟨rfl, c1, c0, cf⟩
  refine Z_mono (Q' := Qn n) ?_ (fun r w' k h e he => ⟨by have := h.1; omega, h.2⟩)
  have hM2 : MR w2 T R D lim la := MR_out hM (fun a k h1 h2 => cf a k h1 h2)
  refine Z_sto gL_law_389 rfl (ls' := [(1, -3), (1, ((0 : Nat) : Int)), (1, ((97 : Nat) : Int)), (1, ((117 : Nat) : Int)), (1, ((118 : Nat) : Int)), (0, ((4 * q : Nat) : Int)), (0, ((cdEnd T : Nat) : Int)), (x7, y7), (x8, y8)]) (st' := []) rfl ?_
  refine Z_push gL_law_391 (v := (1, ((97 : Nat) : Int))) rfl ?_
  refine Z_callE (kd := 0) (na := 1) (M' := mX8_end) gL_law_392 rfl rfl rfl rfl rfl rfl (fun _ => rfl) rfl rfl (fun _ _ => zrecv_obj rfl _ _ _) (d' := 1) (by omega) ((mX8w_end hM2 hV)) ?_
  rintro o w3 ⟨⟨b, rfl, hb⟩, ht, m1, m0, mf⟩
  refine Z_sto gL_law_395 rfl (ls' := [(1, -3), (1, ((0 : Nat) : Int)), (1, ((97 : Nat) : Int)), (1, ((117 : Nat) : Int)), (1, ((118 : Nat) : Int)), (0, ((4 * q : Nat) : Int)), (0, ((cdEnd T : Nat) : Int)), (0, b), (x8, y8)]) (st' := []) rfl ?_
  refine Z_push gL_law_397 (v := (1, ((97 : Nat) : Int))) rfl ?_
  refine Z_callP (kd := 0) (na := 1) (M' := mX8_thrown) gL_law_398 rfl rfl rfl rfl rfl rfl (fun _ => rfl) rfl rfl (fun _ _ => zrecv_obj rfl _ _ _) (d' := 0) (by omega) (vX8_thrown _ ht) ?_
  refine Z_push gL_law_401 (v := (0, ((cdEnd T : Nat) : Int))) rfl ?_
  refine Z_icmp_eq gL_law_403 (tgt := 408) (by decide) (fun _ => ?_) (fun h403 => absurd h403 (by omega))
  refine Z_push gL_law_408 (v := (0, ((cdEnd T : Nat) : Int))) rfl ?_
  refine Z_if_ne gL_law_410 (tgt := 425) (by decide) (fun h410 => ?_) (fun h410 => ?_)
  · refine Z_goto gL_law_425 (tgt := 2130) (by decide) ?_
    exact K _ _ _ w3 ⟨_, _, _, _, _, CR_97 (c0 (by omega)) (fun a k ha => mf a k (by omega)), m0 (by omega), SV_same hV⟩
  · have hc : cdEnd T = 0 := by omega
    have hb := hb hc
    have hout : w3 117 0 = dpT (adT T (125, 0, 1, 0)) (T.1 : Int) := (mf _ _ (by omega)).trans (c1 hc).2
    rw [← hb] at hout
    refine Z_push gL_law_413 (v := (1, ((117 : Nat) : Int))) rfl ?_
    refine Z_push gL_law_414 (v := (0, 0)) rfl ?_
    refine Z_laloadV (v := b) gL_law_415 rfl (by omega) (by omega) hout ?_
    refine Z_push gL_law_416 (v := (0, b)) rfl ?_
    refine Z_arith gL_law_418 rfl rfl (v := [(2, b), (2, b)]) rfl ?_
    refine Z_arith gL_law_419 rfl rfl (v := [(0, 0)]) (lcmp_self _ b) ?_
    refine Z_if_eq gL_law_420 (tgt := 425) (by decide) (fun _ => ?_) (fun h420 => absurd h420 (by omega))
    refine Z_goto gL_law_425 (tgt := 2130) (by decide) ?_
    exact K _ _ _ w3 ⟨_, _, _, _, _, CR_97 (c1 hc).1 (fun a k ha => mf a k (by omega)), m1 hc, SVx_end hV hc⟩
theorem lc_entries (hro : ro (-3) = some (L, f)) (hq : 4 * q + 4 ≤ L) (hL : L ≤ 2048) (hC : CR w T R D lim la) (hM : MR w T R D lim la) (hV : SV B T R D lim la) (hB : B ≤ 80000) (v6 v7 v8 : zV) (K : ∀ (v6 v7 v8 : zV) (W : zW), LI W (B + 150) → Z ro 100 mL_law 2130 [(1, -3), (1, ((0 : Nat) : Int)), (1, ((97 : Nat) : Int)), (1, ((117 : Nat) : Int)), (1, ((118 : Nat) : Int)), (0, ((4 * q : Nat) : Int)), v6, v7, v8] [] W (Qn n)) : Z ro 100 mL_law 428 [(1, -3), (1, ((0 : Nat) : Int)), (1, ((97 : Nat) : Int)), (1, ((117 : Nat) : Int)), (1, ((118 : Nat) : Int)), (0, ((4 * q : Nat) : Int)), v6, v7, v8] [] w (Qn (n + 1)) := by
  obtain ⟨x6, y6⟩ := v6
  obtain ⟨x7, y7⟩ := v7
  obtain ⟨x8, y8⟩ := v8
  have hV1 := hV.1.1
  refine Z_push gL_law_428 (v := (1, ((0 : Nat) : Int))) rfl ?_
  refine Z_callS (kd := 0) (na := 1) (M' := mX7_entries) gL_law_429 rfl rfl rfl rfl rfl rfl (fun _ => rfl) rfl rfl (fun _ _ => zrecv_obj rfl _ _ _) (d' := 1) (by omega) (Xv_mono (uX7_entries hC hV) (fun r w' h => ⟨h.1, h.2⟩)) (Or.inl rfl) rfl ?_
  rintro w2 ⟨c1, cf⟩
  have hM2 : MR w2 T R D lim la := MR_out hM (fun a k h1 h2 => cf a k h1)
  refine Z_push gL_law_432 (v := (1, ((97 : Nat) : Int))) rfl ?_
  refine Z_callE (kd := 0) (na := 1) (M' := mX8_entries) gL_law_433 rfl rfl rfl rfl rfl rfl (fun _ => rfl) rfl rfl (fun _ _ => zrecv_obj rfl _ _ _) (d' := 0) (by omega) (mX8w_entries hM2 hV) ?_
  rintro o w3 ⟨⟨b, rfl, hb⟩, ht, m1, mf⟩
  have hb := hb rfl
  rw [hb]
  refine Z_icmp_eq gL_law_436 (tgt := 2130) (by decide) (fun _ => ?_) (fun h436 => absurd h436 (by omega))
  exact Z_mono (K _ _ _ w3 ⟨T, R, D, lim, la, CR_97 c1 (fun a k ha => mf a k (by omega)), m1, SV_same hV⟩) (fun r w' k h => ⟨by have := h.1; omega, h.2⟩)
theorem lc_kindOf (hro : ro (-3) = some (L, f)) (hq : 4 * q + 4 ≤ L) (hL : L ≤ 2048) (hC : CR w T R D lim la) (hM : MR w T R D lim la) (hV : SV B T R D lim la) (hB : B ≤ 80000) (v6 v7 v8 : zV) (K : ∀ (v6 v7 v8 : zV) (W : zW), LI W (B + 150) → Z ro 100 mL_law 2130 [(1, -3), (1, ((0 : Nat) : Int)), (1, ((97 : Nat) : Int)), (1, ((117 : Nat) : Int)), (1, ((118 : Nat) : Int)), (0, ((4 * q : Nat) : Int)), v6, v7, v8] [] W (Qn n)) : Z ro 100 mL_law 441 [(1, -3), (1, ((0 : Nat) : Int)), (1, ((97 : Nat) : Int)), (1, ((117 : Nat) : Int)), (1, ((118 : Nat) : Int)), (0, ((4 * q : Nat) : Int)), v6, v7, v8] [] w (Qn (n + 1)) := by
  obtain ⟨x6, y6⟩ := v6
  obtain ⟨x7, y7⟩ := v7
  obtain ⟨x8, y8⟩ := v8
  have hV1 := hV.1.1
  refine Z_push gL_law_441 (v := (1, ((0 : Nat) : Int))) rfl ?_
  refine Z_push gL_law_442 (v := (1, -3)) rfl ?_
  refine Z_push gL_law_443 (v := (0, ((4 * q : Nat) : Int))) rfl ?_
  refine Z_push gL_law_445 (v := (0, 1)) rfl ?_
  refine Z_iadd gL_law_446 ⟨by omega, by omega⟩ ?_
  refine Z_ialoadS gL_law_447 hro (by omega) (by omega) ?_
  refine Z_push gL_law_448 (v := (1, ((117 : Nat) : Int))) rfl ?_
  refine Z_callL (kd := 5) (na := 3) (M' := mL_kindOf) gL_law_449 rfl rfl rfl rfl rfl rfl (fun _ => rfl) rfl rfl (fun _ _ => rfl) (d' := 3) (by omega) (wL_kindOf (f (((4 * q : Nat) : Int) + 1).toNat)  (rP_m (uX7_kindOf hC hV (f (((4 * q : Nat) : Int) + 1).toNat))) (by unfold cdEnt; (repeat' split) <;> omega) (stab_CR 117 (by omega))) ?_
  rintro c9 w2 ⟨rfl, c1, c0, cf⟩
  refine Z_mono (Q' := Qn n) ?_ (fun r w' k h e he => ⟨by have := h.1; omega, h.2⟩)
  have hM2 : MR w2 T R D lim la := MR_out hM (fun a k h1 h2 => cf a k h1 h2)
  refine Z_sto gL_law_452 rfl (ls' := [(1, -3), (1, ((0 : Nat) : Int)), (1, ((97 : Nat) : Int)), (1, ((117 : Nat) : Int)), (1, ((118 : Nat) : Int)), (0, ((4 * q : Nat) : Int)), (0, ((cdEnt T (f (((4 * q : Nat) : Int) + 1).toNat) : Nat) : Int)), (x7, y7), (x8, y8)]) (st' := []) rfl ?_
  refine Z_push gL_law_454 (v := (1, ((97 : Nat) : Int))) rfl ?_
  refine Z_push gL_law_455 (v := (1, -3)) rfl ?_
  refine Z_push gL_law_456 (v := (0, ((4 * q : Nat) : Int))) rfl ?_
  refine Z_push gL_law_458 (v := (0, 1)) rfl ?_
  refine Z_iadd gL_law_459 ⟨by omega, by omega⟩ ?_
  refine Z_ialoadS gL_law_460 hro (by omega) (by omega) ?_
  refine Z_callE (kd := 0) (na := 2) (M' := mX8_kindOf) gL_law_461 rfl rfl rfl rfl rfl rfl (fun _ => rfl) rfl rfl (fun _ _ => zrecv_obj rfl _ _ _) (d' := 2) (by omega) ((rM_m (mX8w_kindOf hM2 hV (f (((4 * q : Nat) : Int) + 1).toNat)))) ?_
  rintro o w3 ⟨⟨b, rfl, hb⟩, ht, m1, m0, mf⟩
  refine Z_sto gL_law_464 rfl (ls' := [(1, -3), (1, ((0 : Nat) : Int)), (1, ((97 : Nat) : Int)), (1, ((117 : Nat) : Int)), (1, ((118 : Nat) : Int)), (0, ((4 * q : Nat) : Int)), (0, ((cdEnt T (f (((4 * q : Nat) : Int) + 1).toNat) : Nat) : Int)), (0, b), (x8, y8)]) (st' := []) rfl ?_
  refine Z_push gL_law_466 (v := (1, ((97 : Nat) : Int))) rfl ?_
  refine Z_callP (kd := 0) (na := 1) (M' := mX8_thrown) gL_law_467 rfl rfl rfl rfl rfl rfl (fun _ => rfl) rfl rfl (fun _ _ => zrecv_obj rfl _ _ _) (d' := 0) (by omega) (vX8_thrown _ ht) ?_
  refine Z_push gL_law_470 (v := (0, ((cdEnt T (f (((4 * q : Nat) : Int) + 1).toNat) : Nat) : Int))) rfl ?_
  refine Z_icmp_eq gL_law_472 (tgt := 477) (by decide) (fun _ => ?_) (fun h472 => absurd h472 (by omega))
  refine Z_push gL_law_477 (v := (0, ((cdEnt T (f (((4 * q : Nat) : Int) + 1).toNat) : Nat) : Int))) rfl ?_
  refine Z_if_ne gL_law_479 (tgt := 494) (by decide) (fun h479 => ?_) (fun h479 => ?_)
  · refine Z_goto gL_law_494 (tgt := 2130) (by decide) ?_
    exact K _ _ _ w3 ⟨_, _, _, _, _, CR_97 (c0 (by omega)) (fun a k ha => mf a k (by omega)), m0 (by omega), SV_same hV⟩
  · have hc : cdEnt T (f (((4 * q : Nat) : Int) + 1).toNat) = 0 := by omega
    have hb := hb hc
    have hout : w3 117 0 = kT T (f (((4 * q : Nat) : Int) + 1).toNat) := (mf _ _ (by omega)).trans (c1 hc).2
    rw [← hb] at hout
    refine Z_push gL_law_482 (v := (1, ((117 : Nat) : Int))) rfl ?_
    refine Z_push gL_law_483 (v := (0, 0)) rfl ?_
    refine Z_laloadV (v := b) gL_law_484 rfl (by omega) (by omega) hout ?_
    refine Z_push gL_law_485 (v := (0, b)) rfl ?_
    refine Z_arith gL_law_487 rfl rfl (v := [(2, b), (2, b)]) rfl ?_
    refine Z_arith gL_law_488 rfl rfl (v := [(0, 0)]) (lcmp_self _ b) ?_
    refine Z_if_eq gL_law_489 (tgt := 494) (by decide) (fun _ => ?_) (fun h489 => absurd h489 (by omega))
    refine Z_goto gL_law_494 (tgt := 2130) (by decide) ?_
    exact K _ _ _ w3 ⟨_, _, _, _, _, CR_97 (c1 hc).1 (fun a k ha => mf a k (by omega)), m1 hc, SV_same hV⟩
theorem lc_nameOf (hro : ro (-3) = some (L, f)) (hq : 4 * q + 4 ≤ L) (hL : L ≤ 2048) (hC : CR w T R D lim la) (hM : MR w T R D lim la) (hV : SV B T R D lim la) (hB : B ≤ 80000) (v6 v7 v8 : zV) (K : ∀ (v6 v7 v8 : zV) (W : zW), LI W (B + 150) → Z ro 100 mL_law 2130 [(1, -3), (1, ((0 : Nat) : Int)), (1, ((97 : Nat) : Int)), (1, ((117 : Nat) : Int)), (1, ((118 : Nat) : Int)), (0, ((4 * q : Nat) : Int)), v6, v7, v8] [] W (Qn n)) : Z ro 100 mL_law 497 [(1, -3), (1, ((0 : Nat) : Int)), (1, ((97 : Nat) : Int)), (1, ((117 : Nat) : Int)), (1, ((118 : Nat) : Int)), (0, ((4 * q : Nat) : Int)), v6, v7, v8] [] w (Qn (n + 1)) := by
  obtain ⟨x6, y6⟩ := v6
  obtain ⟨x7, y7⟩ := v7
  obtain ⟨x8, y8⟩ := v8
  have hV1 := hV.1.1
  refine Z_push gL_law_497 (v := (1, ((0 : Nat) : Int))) rfl ?_
  refine Z_push gL_law_498 (v := (1, -3)) rfl ?_
  refine Z_push gL_law_499 (v := (0, ((4 * q : Nat) : Int))) rfl ?_
  refine Z_push gL_law_501 (v := (0, 1)) rfl ?_
  refine Z_iadd gL_law_502 ⟨by omega, by omega⟩ ?_
  refine Z_ialoadS gL_law_503 hro (by omega) (by omega) ?_
  refine Z_push gL_law_504 (v := (1, ((117 : Nat) : Int))) rfl ?_
  refine Z_callL (kd := 5) (na := 3) (M' := mL_nameOf) gL_law_505 rfl rfl rfl rfl rfl rfl (fun _ => rfl) rfl rfl (fun _ _ => rfl) (d' := 3) (by omega) (wL_nameOf (f (((4 * q : Nat) : Int) + 1).toNat)  (rP_m (uX7_nameOf hC hV (f (((4 * q : Nat) : Int) + 1).toNat))) (by unfold cdNameOf; (repeat' split) <;> omega) (stab_CR 117 (by omega))) ?_
  rintro c9 w2 ⟨rfl, c1, c0, cf⟩
  refine Z_mono (Q' := Qn n) ?_ (fun r w' k h e he => ⟨by have := h.1; omega, h.2⟩)
  have hM2 : MR w2 T R D lim la := MR_out hM (fun a k h1 h2 => cf a k h1 h2)
  refine Z_sto gL_law_508 rfl (ls' := [(1, -3), (1, ((0 : Nat) : Int)), (1, ((97 : Nat) : Int)), (1, ((117 : Nat) : Int)), (1, ((118 : Nat) : Int)), (0, ((4 * q : Nat) : Int)), (0, ((cdNameOf T (f (((4 * q : Nat) : Int) + 1).toNat) : Nat) : Int)), (x7, y7), (x8, y8)]) (st' := []) rfl ?_
  refine Z_push gL_law_510 (v := (1, ((97 : Nat) : Int))) rfl ?_
  refine Z_push gL_law_511 (v := (1, -3)) rfl ?_
  refine Z_push gL_law_512 (v := (0, ((4 * q : Nat) : Int))) rfl ?_
  refine Z_push gL_law_514 (v := (0, 1)) rfl ?_
  refine Z_iadd gL_law_515 ⟨by omega, by omega⟩ ?_
  refine Z_ialoadS gL_law_516 hro (by omega) (by omega) ?_
  refine Z_callE (kd := 0) (na := 2) (M' := mX8_nameOf) gL_law_517 rfl rfl rfl rfl rfl rfl (fun _ => rfl) rfl rfl (fun _ _ => zrecv_obj rfl _ _ _) (d' := 2) (by omega) ((rM_m (mX8w_nameOf hM2 hV (f (((4 * q : Nat) : Int) + 1).toNat)))) ?_
  rintro o w3 ⟨⟨b, rfl, hb⟩, ht, m1, m0, mf⟩
  refine Z_sto gL_law_520 rfl (ls' := [(1, -3), (1, ((0 : Nat) : Int)), (1, ((97 : Nat) : Int)), (1, ((117 : Nat) : Int)), (1, ((118 : Nat) : Int)), (0, ((4 * q : Nat) : Int)), (0, ((cdNameOf T (f (((4 * q : Nat) : Int) + 1).toNat) : Nat) : Int)), (0, b), (x8, y8)]) (st' := []) rfl ?_
  refine Z_push gL_law_522 (v := (1, ((97 : Nat) : Int))) rfl ?_
  refine Z_callP (kd := 0) (na := 1) (M' := mX8_thrown) gL_law_523 rfl rfl rfl rfl rfl rfl (fun _ => rfl) rfl rfl (fun _ _ => zrecv_obj rfl _ _ _) (d' := 0) (by omega) (vX8_thrown _ ht) ?_
  refine Z_push gL_law_526 (v := (0, ((cdNameOf T (f (((4 * q : Nat) : Int) + 1).toNat) : Nat) : Int))) rfl ?_
  refine Z_icmp_eq gL_law_528 (tgt := 533) (by decide) (fun _ => ?_) (fun h528 => absurd h528 (by omega))
  refine Z_push gL_law_533 (v := (0, ((cdNameOf T (f (((4 * q : Nat) : Int) + 1).toNat) : Nat) : Int))) rfl ?_
  refine Z_if_ne gL_law_535 (tgt := 550) (by decide) (fun h535 => ?_) (fun h535 => ?_)
  · refine Z_goto gL_law_550 (tgt := 2130) (by decide) ?_
    exact K _ _ _ w3 ⟨_, _, _, _, _, CR_97 (c0 (by omega)) (fun a k ha => mf a k (by omega)), m0 (by omega), SV_same hV⟩
  · have hc : cdNameOf T (f (((4 * q : Nat) : Int) + 1).toNat) = 0 := by omega
    have hb := hb hc
    have hout : w3 117 0 = (T.2 (f (((4 * q : Nat) : Int) + 1).toNat).toNat).2.1 := (mf _ _ (by omega)).trans (c1 hc).2
    rw [← hb] at hout
    refine Z_push gL_law_538 (v := (1, ((117 : Nat) : Int))) rfl ?_
    refine Z_push gL_law_539 (v := (0, 0)) rfl ?_
    refine Z_laloadV (v := b) gL_law_540 rfl (by omega) (by omega) hout ?_
    refine Z_push gL_law_541 (v := (0, b)) rfl ?_
    refine Z_arith gL_law_543 rfl rfl (v := [(2, b), (2, b)]) rfl ?_
    refine Z_arith gL_law_544 rfl rfl (v := [(0, 0)]) (lcmp_self _ b) ?_
    refine Z_if_eq gL_law_545 (tgt := 550) (by decide) (fun _ => ?_) (fun h545 => absurd h545 (by omega))
    refine Z_goto gL_law_550 (tgt := 2130) (by decide) ?_
    exact K _ _ _ w3 ⟨_, _, _, _, _, CR_97 (c1 hc).1 (fun a k ha => mf a k (by omega)), m1 hc, SV_same hV⟩
theorem lc_widthOf (hro : ro (-3) = some (L, f)) (hq : 4 * q + 4 ≤ L) (hL : L ≤ 2048) (hC : CR w T R D lim la) (hM : MR w T R D lim la) (hV : SV B T R D lim la) (hB : B ≤ 80000) (v6 v7 v8 : zV) (K : ∀ (v6 v7 v8 : zV) (W : zW), LI W (B + 150) → Z ro 100 mL_law 2130 [(1, -3), (1, ((0 : Nat) : Int)), (1, ((97 : Nat) : Int)), (1, ((117 : Nat) : Int)), (1, ((118 : Nat) : Int)), (0, ((4 * q : Nat) : Int)), v6, v7, v8] [] W (Qn n)) : Z ro 100 mL_law 553 [(1, -3), (1, ((0 : Nat) : Int)), (1, ((97 : Nat) : Int)), (1, ((117 : Nat) : Int)), (1, ((118 : Nat) : Int)), (0, ((4 * q : Nat) : Int)), v6, v7, v8] [] w (Qn (n + 1)) := by
  obtain ⟨x6, y6⟩ := v6
  obtain ⟨x7, y7⟩ := v7
  obtain ⟨x8, y8⟩ := v8
  have hV1 := hV.1.1
  refine Z_push gL_law_553 (v := (1, ((0 : Nat) : Int))) rfl ?_
  refine Z_push gL_law_554 (v := (1, -3)) rfl ?_
  refine Z_push gL_law_555 (v := (0, ((4 * q : Nat) : Int))) rfl ?_
  refine Z_push gL_law_557 (v := (0, 1)) rfl ?_
  refine Z_iadd gL_law_558 ⟨by omega, by omega⟩ ?_
  refine Z_ialoadS gL_law_559 hro (by omega) (by omega) ?_
  refine Z_push gL_law_560 (v := (1, ((117 : Nat) : Int))) rfl ?_
  refine Z_callL (kd := 5) (na := 3) (M' := mL_widthOf) gL_law_561 rfl rfl rfl rfl rfl rfl (fun _ => rfl) rfl rfl (fun _ _ => rfl) (d' := 4) (by omega) (wL_widthOf (f (((4 * q : Nat) : Int) + 1).toNat)  (rP_m (uX7_widthOf hC hV (f (((4 * q : Nat) : Int) + 1).toNat))) (by unfold cdEnt; (repeat' split) <;> omega) (stab_CR 117 (by omega))) ?_
  rintro c9 w2 ⟨rfl, c1, c0, cf⟩
  refine Z_mono (Q' := Qn n) ?_ (fun r w' k h e he => ⟨by have := h.1; omega, h.2⟩)
  have hM2 : MR w2 T R D lim la := MR_out hM (fun a k h1 h2 => cf a k h1 h2)
  refine Z_sto gL_law_564 rfl (ls' := [(1, -3), (1, ((0 : Nat) : Int)), (1, ((97 : Nat) : Int)), (1, ((117 : Nat) : Int)), (1, ((118 : Nat) : Int)), (0, ((4 * q : Nat) : Int)), (0, ((cdEnt T (f (((4 * q : Nat) : Int) + 1).toNat) : Nat) : Int)), (x7, y7), (x8, y8)]) (st' := []) rfl ?_
  refine Z_push gL_law_566 (v := (1, ((97 : Nat) : Int))) rfl ?_
  refine Z_push gL_law_567 (v := (1, -3)) rfl ?_
  refine Z_push gL_law_568 (v := (0, ((4 * q : Nat) : Int))) rfl ?_
  refine Z_push gL_law_570 (v := (0, 1)) rfl ?_
  refine Z_iadd gL_law_571 ⟨by omega, by omega⟩ ?_
  refine Z_ialoadS gL_law_572 hro (by omega) (by omega) ?_
  refine Z_callE (kd := 0) (na := 2) (M' := mX8_widthOf) gL_law_573 rfl rfl rfl rfl rfl rfl (fun _ => rfl) rfl rfl (fun _ _ => zrecv_obj rfl _ _ _) (d' := 2) (by omega) ((rM_m (mX8w_widthOf hM2 hV (f (((4 * q : Nat) : Int) + 1).toNat)))) ?_
  rintro o w3 ⟨⟨b, rfl, hb⟩, ht, m1, m0, mf⟩
  refine Z_sto gL_law_576 rfl (ls' := [(1, -3), (1, ((0 : Nat) : Int)), (1, ((97 : Nat) : Int)), (1, ((117 : Nat) : Int)), (1, ((118 : Nat) : Int)), (0, ((4 * q : Nat) : Int)), (0, ((cdEnt T (f (((4 * q : Nat) : Int) + 1).toNat) : Nat) : Int)), (0, b), (x8, y8)]) (st' := []) rfl ?_
  refine Z_push gL_law_578 (v := (1, ((97 : Nat) : Int))) rfl ?_
  refine Z_callP (kd := 0) (na := 1) (M' := mX8_thrown) gL_law_579 rfl rfl rfl rfl rfl rfl (fun _ => rfl) rfl rfl (fun _ _ => zrecv_obj rfl _ _ _) (d' := 0) (by omega) (vX8_thrown _ ht) ?_
  refine Z_push gL_law_582 (v := (0, ((cdEnt T (f (((4 * q : Nat) : Int) + 1).toNat) : Nat) : Int))) rfl ?_
  refine Z_icmp_eq gL_law_584 (tgt := 589) (by decide) (fun _ => ?_) (fun h584 => absurd h584 (by omega))
  refine Z_push gL_law_589 (v := (0, ((cdEnt T (f (((4 * q : Nat) : Int) + 1).toNat) : Nat) : Int))) rfl ?_
  refine Z_if_ne gL_law_591 (tgt := 606) (by decide) (fun h591 => ?_) (fun h591 => ?_)
  · refine Z_goto gL_law_606 (tgt := 2130) (by decide) ?_
    exact K _ _ _ w3 ⟨_, _, _, _, _, CR_97 (c0 (by omega)) (fun a k ha => mf a k (by omega)), m0 (by omega), SV_same hV⟩
  · have hc : cdEnt T (f (((4 * q : Nat) : Int) + 1).toNat) = 0 := by omega
    have hb := hb hc
    have hout : w3 117 0 = wT T (f (((4 * q : Nat) : Int) + 1).toNat) := (mf _ _ (by omega)).trans (c1 hc).2
    rw [← hb] at hout
    refine Z_push gL_law_594 (v := (1, ((117 : Nat) : Int))) rfl ?_
    refine Z_push gL_law_595 (v := (0, 0)) rfl ?_
    refine Z_laloadV (v := b) gL_law_596 rfl (by omega) (by omega) hout ?_
    refine Z_push gL_law_597 (v := (0, b)) rfl ?_
    refine Z_arith gL_law_599 rfl rfl (v := [(2, b), (2, b)]) rfl ?_
    refine Z_arith gL_law_600 rfl rfl (v := [(0, 0)]) (lcmp_self _ b) ?_
    refine Z_if_eq gL_law_601 (tgt := 606) (by decide) (fun _ => ?_) (fun h601 => absurd h601 (by omega))
    refine Z_goto gL_law_606 (tgt := 2130) (by decide) ?_
    exact K _ _ _ w3 ⟨_, _, _, _, _, CR_97 (c1 hc).1 (fun a k ha => mf a k (by omega)), m1 hc, SV_same hV⟩
theorem lc_depthOf (hro : ro (-3) = some (L, f)) (hq : 4 * q + 4 ≤ L) (hL : L ≤ 2048) (hC : CR w T R D lim la) (hM : MR w T R D lim la) (hV : SV B T R D lim la) (hB : B ≤ 80000) (v6 v7 v8 : zV) (K : ∀ (v6 v7 v8 : zV) (W : zW), LI W (B + 150) → Z ro 100 mL_law 2130 [(1, -3), (1, ((0 : Nat) : Int)), (1, ((97 : Nat) : Int)), (1, ((117 : Nat) : Int)), (1, ((118 : Nat) : Int)), (0, ((4 * q : Nat) : Int)), v6, v7, v8] [] W (Qn n)) : Z ro 100 mL_law 609 [(1, -3), (1, ((0 : Nat) : Int)), (1, ((97 : Nat) : Int)), (1, ((117 : Nat) : Int)), (1, ((118 : Nat) : Int)), (0, ((4 * q : Nat) : Int)), v6, v7, v8] [] w (Qn (n + 1)) := by
  obtain ⟨x6, y6⟩ := v6
  obtain ⟨x7, y7⟩ := v7
  obtain ⟨x8, y8⟩ := v8
  have hV1 := hV.1.1
  refine Z_push gL_law_609 (v := (1, ((0 : Nat) : Int))) rfl ?_
  refine Z_push gL_law_610 (v := (1, -3)) rfl ?_
  refine Z_push gL_law_611 (v := (0, ((4 * q : Nat) : Int))) rfl ?_
  refine Z_push gL_law_613 (v := (0, 1)) rfl ?_
  refine Z_iadd gL_law_614 ⟨by omega, by omega⟩ ?_
  refine Z_ialoadS gL_law_615 hro (by omega) (by omega) ?_
  refine Z_push gL_law_616 (v := (1, ((117 : Nat) : Int))) rfl ?_
  refine Z_callL (kd := 5) (na := 3) (M' := mL_depthOf) gL_law_617 rfl rfl rfl rfl rfl rfl (fun _ => rfl) rfl rfl (fun _ _ => rfl) (d' := 4) (by omega) (wL_depthOf (f (((4 * q : Nat) : Int) + 1).toNat)  (rP_m (uX7_depthOf hC hV (f (((4 * q : Nat) : Int) + 1).toNat))) (by unfold cdEnt; (repeat' split) <;> omega) (stab_CR 117 (by omega))) ?_
  rintro c9 w2 ⟨rfl, c1, c0, cf⟩
  refine Z_mono (Q' := Qn n) ?_ (fun r w' k h e he => ⟨by have := h.1; omega, h.2⟩)
  have hM2 : MR w2 T R D lim la := MR_out hM (fun a k h1 h2 => cf a k h1 h2)
  refine Z_sto gL_law_620 rfl (ls' := [(1, -3), (1, ((0 : Nat) : Int)), (1, ((97 : Nat) : Int)), (1, ((117 : Nat) : Int)), (1, ((118 : Nat) : Int)), (0, ((4 * q : Nat) : Int)), (0, ((cdEnt T (f (((4 * q : Nat) : Int) + 1).toNat) : Nat) : Int)), (x7, y7), (x8, y8)]) (st' := []) rfl ?_
  refine Z_push gL_law_622 (v := (1, ((97 : Nat) : Int))) rfl ?_
  refine Z_push gL_law_623 (v := (1, -3)) rfl ?_
  refine Z_push gL_law_624 (v := (0, ((4 * q : Nat) : Int))) rfl ?_
  refine Z_push gL_law_626 (v := (0, 1)) rfl ?_
  refine Z_iadd gL_law_627 ⟨by omega, by omega⟩ ?_
  refine Z_ialoadS gL_law_628 hro (by omega) (by omega) ?_
  refine Z_callE (kd := 0) (na := 2) (M' := mX8_depthOf) gL_law_629 rfl rfl rfl rfl rfl rfl (fun _ => rfl) rfl rfl (fun _ _ => zrecv_obj rfl _ _ _) (d' := 2) (by omega) ((rM_m (mX8w_depthOf hM2 hV (f (((4 * q : Nat) : Int) + 1).toNat)))) ?_
  rintro o w3 ⟨⟨b, rfl, hb⟩, ht, m1, m0, mf⟩
  refine Z_sto gL_law_632 rfl (ls' := [(1, -3), (1, ((0 : Nat) : Int)), (1, ((97 : Nat) : Int)), (1, ((117 : Nat) : Int)), (1, ((118 : Nat) : Int)), (0, ((4 * q : Nat) : Int)), (0, ((cdEnt T (f (((4 * q : Nat) : Int) + 1).toNat) : Nat) : Int)), (0, b), (x8, y8)]) (st' := []) rfl ?_
  refine Z_push gL_law_634 (v := (1, ((97 : Nat) : Int))) rfl ?_
  refine Z_callP (kd := 0) (na := 1) (M' := mX8_thrown) gL_law_635 rfl rfl rfl rfl rfl rfl (fun _ => rfl) rfl rfl (fun _ _ => zrecv_obj rfl _ _ _) (d' := 0) (by omega) (vX8_thrown _ ht) ?_
  refine Z_push gL_law_638 (v := (0, ((cdEnt T (f (((4 * q : Nat) : Int) + 1).toNat) : Nat) : Int))) rfl ?_
  refine Z_icmp_eq gL_law_640 (tgt := 645) (by decide) (fun _ => ?_) (fun h640 => absurd h640 (by omega))
  refine Z_push gL_law_645 (v := (0, ((cdEnt T (f (((4 * q : Nat) : Int) + 1).toNat) : Nat) : Int))) rfl ?_
  refine Z_if_ne gL_law_647 (tgt := 662) (by decide) (fun h647 => ?_) (fun h647 => ?_)
  · refine Z_goto gL_law_662 (tgt := 2130) (by decide) ?_
    exact K _ _ _ w3 ⟨_, _, _, _, _, CR_97 (c0 (by omega)) (fun a k ha => mf a k (by omega)), m0 (by omega), SV_same hV⟩
  · have hc : cdEnt T (f (((4 * q : Nat) : Int) + 1).toNat) = 0 := by omega
    have hb := hb hc
    have hout : w3 117 0 = dpT T (f (((4 * q : Nat) : Int) + 1).toNat) := (mf _ _ (by omega)).trans (c1 hc).2
    rw [← hb] at hout
    refine Z_push gL_law_650 (v := (1, ((117 : Nat) : Int))) rfl ?_
    refine Z_push gL_law_651 (v := (0, 0)) rfl ?_
    refine Z_laloadV (v := b) gL_law_652 rfl (by omega) (by omega) hout ?_
    refine Z_push gL_law_653 (v := (0, b)) rfl ?_
    refine Z_arith gL_law_655 rfl rfl (v := [(2, b), (2, b)]) rfl ?_
    refine Z_arith gL_law_656 rfl rfl (v := [(0, 0)]) (lcmp_self _ b) ?_
    refine Z_if_eq gL_law_657 (tgt := 662) (by decide) (fun _ => ?_) (fun h657 => absurd h657 (by omega))
    refine Z_goto gL_law_662 (tgt := 2130) (by decide) ?_
    exact K _ _ _ w3 ⟨_, _, _, _, _, CR_97 (c1 hc).1 (fun a k ha => mf a k (by omega)), m1 hc, SV_same hV⟩
theorem lc_occurrences (hro : ro (-3) = some (L, f)) (hq : 4 * q + 4 ≤ L) (hL : L ≤ 2048) (hC : CR w T R D lim la) (hM : MR w T R D lim la) (hV : SV B T R D lim la) (hB : B ≤ 80000) (v6 v7 v8 : zV) (K : ∀ (v6 v7 v8 : zV) (W : zW), LI W (B + 150) → Z ro 100 mL_law 2130 [(1, -3), (1, ((0 : Nat) : Int)), (1, ((97 : Nat) : Int)), (1, ((117 : Nat) : Int)), (1, ((118 : Nat) : Int)), (0, ((4 * q : Nat) : Int)), v6, v7, v8] [] W (Qn n)) : Z ro 100 mL_law 665 [(1, -3), (1, ((0 : Nat) : Int)), (1, ((97 : Nat) : Int)), (1, ((117 : Nat) : Int)), (1, ((118 : Nat) : Int)), (0, ((4 * q : Nat) : Int)), v6, v7, v8] [] w (Qn (n + 1)) := by
  obtain ⟨x6, y6⟩ := v6
  obtain ⟨x7, y7⟩ := v7
  obtain ⟨x8, y8⟩ := v8
  have hV1 := hV.1.1
  refine Z_push gL_law_665 (v := (1, ((0 : Nat) : Int))) rfl ?_
  refine Z_push gL_law_666 (v := (1, -3)) rfl ?_
  refine Z_push gL_law_667 (v := (0, ((4 * q : Nat) : Int))) rfl ?_
  refine Z_push gL_law_669 (v := (0, 1)) rfl ?_
  refine Z_iadd gL_law_670 ⟨by omega, by omega⟩ ?_
  refine Z_ialoadS gL_law_671 hro (by omega) (by omega) ?_
  refine Z_push gL_law_672 (v := (1, ((117 : Nat) : Int))) rfl ?_
  refine Z_callL (kd := 5) (na := 3) (M' := mL_occurrences) gL_law_673 rfl rfl rfl rfl rfl rfl (fun _ => rfl) rfl rfl (fun _ _ => rfl) (d' := 5) (by omega) (wL_occurrences (f (((4 * q : Nat) : Int) + 1).toNat)  (rP_m (uX7_occurrences hC hV (f (((4 * q : Nat) : Int) + 1).toNat))) (by unfold cdName; (repeat' split) <;> omega) (stab_CR 117 (by omega))) ?_
  rintro c9 w2 ⟨rfl, c1, c0, cf⟩
  refine Z_mono (Q' := Qn n) ?_ (fun r w' k h e he => ⟨by have := h.1; omega, h.2⟩)
  have hM2 : MR w2 T R D lim la := MR_out hM (fun a k h1 h2 => cf a k h1 h2)
  refine Z_sto gL_law_676 rfl (ls' := [(1, -3), (1, ((0 : Nat) : Int)), (1, ((97 : Nat) : Int)), (1, ((117 : Nat) : Int)), (1, ((118 : Nat) : Int)), (0, ((4 * q : Nat) : Int)), (0, ((cdName (f (((4 * q : Nat) : Int) + 1).toNat) : Nat) : Int)), (x7, y7), (x8, y8)]) (st' := []) rfl ?_
  refine Z_push gL_law_678 (v := (1, ((97 : Nat) : Int))) rfl ?_
  refine Z_push gL_law_679 (v := (1, -3)) rfl ?_
  refine Z_push gL_law_680 (v := (0, ((4 * q : Nat) : Int))) rfl ?_
  refine Z_push gL_law_682 (v := (0, 1)) rfl ?_
  refine Z_iadd gL_law_683 ⟨by omega, by omega⟩ ?_
  refine Z_ialoadS gL_law_684 hro (by omega) (by omega) ?_
  refine Z_callE (kd := 0) (na := 2) (M' := mX8_occurrences) gL_law_685 rfl rfl rfl rfl rfl rfl (fun _ => rfl) rfl rfl (fun _ _ => zrecv_obj rfl _ _ _) (d' := 2) (by omega) ((rM_m (mX8w_occurrences hM2 hV (f (((4 * q : Nat) : Int) + 1).toNat)))) ?_
  rintro o w3 ⟨⟨b, rfl, hb⟩, ht, m1, m0, mf⟩
  refine Z_sto gL_law_688 rfl (ls' := [(1, -3), (1, ((0 : Nat) : Int)), (1, ((97 : Nat) : Int)), (1, ((117 : Nat) : Int)), (1, ((118 : Nat) : Int)), (0, ((4 * q : Nat) : Int)), (0, ((cdName (f (((4 * q : Nat) : Int) + 1).toNat) : Nat) : Int)), (0, b), (x8, y8)]) (st' := []) rfl ?_
  refine Z_push gL_law_690 (v := (1, ((97 : Nat) : Int))) rfl ?_
  refine Z_callP (kd := 0) (na := 1) (M' := mX8_thrown) gL_law_691 rfl rfl rfl rfl rfl rfl (fun _ => rfl) rfl rfl (fun _ _ => zrecv_obj rfl _ _ _) (d' := 0) (by omega) (vX8_thrown _ ht) ?_
  refine Z_push gL_law_694 (v := (0, ((cdName (f (((4 * q : Nat) : Int) + 1).toNat) : Nat) : Int))) rfl ?_
  refine Z_icmp_eq gL_law_696 (tgt := 701) (by decide) (fun _ => ?_) (fun h696 => absurd h696 (by omega))
  refine Z_push gL_law_701 (v := (0, ((cdName (f (((4 * q : Nat) : Int) + 1).toNat) : Nat) : Int))) rfl ?_
  refine Z_if_ne gL_law_703 (tgt := 718) (by decide) (fun h703 => ?_) (fun h703 => ?_)
  · refine Z_goto gL_law_718 (tgt := 2130) (by decide) ?_
    exact K _ _ _ w3 ⟨_, _, _, _, _, CR_97 (c0 (by omega)) (fun a k ha => mf a k (by omega)), m0 (by omega), SV_same hV⟩
  · have hc : cdName (f (((4 * q : Nat) : Int) + 1).toNat) = 0 := by omega
    have hb := hb hc
    have hout : w3 117 0 = tmT T (f (((4 * q : Nat) : Int) + 1).toNat) T.1 := (mf _ _ (by omega)).trans (c1 hc).2
    rw [← hb] at hout
    refine Z_push gL_law_706 (v := (1, ((117 : Nat) : Int))) rfl ?_
    refine Z_push gL_law_707 (v := (0, 0)) rfl ?_
    refine Z_laloadV (v := b) gL_law_708 rfl (by omega) (by omega) hout ?_
    refine Z_push gL_law_709 (v := (0, b)) rfl ?_
    refine Z_arith gL_law_711 rfl rfl (v := [(2, b), (2, b)]) rfl ?_
    refine Z_arith gL_law_712 rfl rfl (v := [(0, 0)]) (lcmp_self _ b) ?_
    refine Z_if_eq gL_law_713 (tgt := 718) (by decide) (fun _ => ?_) (fun h713 => absurd h713 (by omega))
    refine Z_goto gL_law_718 (tgt := 2130) (by decide) ?_
    exact K _ _ _ w3 ⟨_, _, _, _, _, CR_97 (c1 hc).1 (fun a k ha => mf a k (by omega)), m1 hc, SV_same hV⟩
end
