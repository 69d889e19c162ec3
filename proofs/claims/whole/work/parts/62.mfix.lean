/-! the model's deeds: kept, fixes -/
section
variable {ro : zRo} {w w' : zW} {T : zTx} {R : zRu} {D : zDs} {lim la B : Int}
def frK (w w' : zW) : Prop := ∀ a k, ¬ (105 ≤ a ∧ a ≤ 110) → ¬ (a = 97 ∧ (k = 12 ∨ k = 10)) → w' a k = w a k
theorem frK.refl (w : zW) : frK w w := fun _ _ _ _ => rfl
theorem frK.trans {a b c : zW} (h : frK a b) (k : frK b c) : frK a c := fun x y h1 h2 => (k x y h1 h2).trans (h x y h1 h2)
/-- the second half: the text is kept in slot s -/
theorem keepB {s : Nat} (hs : s < 10) (hM : MT w T) (hV : TV T) (hD : w 97 12 = (s : Int)) : ∀ v1 v2 : zV, Z ro 0 mX8_keep 196 [(1, ((97 : Nat) : Int)), v1, v2] [] w (fun r9 w' k9 => k9 = 0 ∧ ∃ o, r9 = .inl o ∧ (o = none ∧ KR w' s (T, fun _ => 0) ∧ w' 97 12 = (s : Int) + 1 ∧ w' 97 10 = 0 ∧ frK w w' ∧ (∀ a k, 106 ≤ a → a ≤ 109 → ¬ (30 * s ≤ k ∧ k < 30 * s + T.1) → w' a k = w a k) ∧ (∀ k, ¬ (5 * s ≤ k ∧ k < 5 * s + 5) → w' 110 k = w 110 k) ∧ (∀ k, k ≠ s → w' 105 k = w 105 k))) := by
  intro v1 v2
  obtain ⟨x1, x2⟩ := v1
  obtain ⟨y1, y2⟩ := v2
  have hV1 := hV.1
  have loopB : ∀ m r : Nat, r + m = 5 → ∀ (v2 : zV) (W : zW), W 97 12 = (s : Int) → W 105 s = (T.1 : Int) → (∀ j, j < T.1 → eR W 106 107 108 109 (30 * s + j) (T.2 j)) → (∀ q, q < r → W 110 (5 * s + q) = 0) → frK w W → (∀ a k, 106 ≤ a → a ≤ 109 → ¬ (30 * s ≤ k ∧ k < 30 * s + T.1) → W a k = w a k) → (∀ k, ¬ (5 * s ≤ k ∧ k < 5 * s + 5) → W 110 k = w 110 k) → (∀ k, k ≠ s → W 105 k = w 105 k) → Z ro 0 mX8_keep 307 [(1, ((97 : Nat) : Int)), (0, (r : Int)), v2] [] W (fun r9 w' k9 => k9 = 0 ∧ ∃ o, r9 = .inl o ∧ (o = none ∧ KR w' s (T, fun _ => 0) ∧ w' 97 12 = (s : Int) + 1 ∧ w' 97 10 = 0 ∧ frK w w' ∧ (∀ a k, 106 ≤ a → a ≤ 109 → ¬ (30 * s ≤ k ∧ k < 30 * s + T.1) → w' a k = w a k) ∧ (∀ k, ¬ (5 * s ≤ k ∧ k < 5 * s + 5) → w' 110 k = w 110 k) ∧ (∀ k, k ≠ s → w' 105 k = w 105 k))) := by
    intro m
    induction m with
    | zero =>
      intro r hr v2 W h12 h105 hE h110 hf g1 g2 g3
      obtain ⟨y1, y2⟩ := v2
      refine Z_push gX8_keep_307 (v := (0, (r : Int))) rfl ?_
      refine Z_push gX8_keep_308 (v := (0, 5)) rfl ?_
      refine Z_icmp_ge gX8_keep_309 (tgt := 332) (by decide) (fun _ => ?_) (fun h309 => absurd h309 (by omega))
      refine Z_push gX8_keep_332 (v := (1, ((97 : Nat) : Int))) rfl ?_
      refine Z_arith gX8_keep_333 rfl rfl (v := [(1, ((97 : Nat) : Int)), (1, ((97 : Nat) : Int))]) rfl ?_
      refine Z_getV (v := (s : Int)) gX8_keep_334 rfl rfl (by decide) h12 ?_
      refine Z_push gX8_keep_337 (v := (0, 1)) rfl ?_
      refine Z_iadd gX8_keep_338 ⟨by omega, by omega⟩ ?_
      refine Z_put gX8_keep_339 rfl rfl (by decide) rfl (fun h => by cases h) ?_
      refine Z_push gX8_keep_342 (v := (1, ((97 : Nat) : Int))) rfl ?_
      refine Z_push gX8_keep_343 (v := (0, 0)) rfl ?_
      refine Z_put gX8_keep_344 rfl rfl (by decide) rfl (fun _ => (by first | exact Or.inl rfl | exact Or.inr rfl | assumption)) ?_
      refine Z_end gX8_keep_347 rfl rfl rfl rfl (v := none) rfl ⟨rfl, none, rfl, ?_⟩
      have z : ∀ a k, a ≠ 97 → zup (zup W 97 12 ((s : Int) + 1)) 97 10 0 a k = W a k := fun a k h => (zup_ne (by omega)).trans (zup_ne (by omega))
      exact ⟨rfl, ⟨(z _ _ (by omega)).trans h105, fun j hj => eR_frame (hE j hj) (z _ _ (by omega)) (z _ _ (by omega)) (z _ _ (by omega)) (z _ _ (by omega)), fun q hq => (z _ _ (by omega)).trans (h110 q (by omega))⟩, (zup_ne (by omega)).trans (zup_eq _ _ _ _), zup_eq _ _ _ _, fun a k h1 h2 => (zup_ne (by omega)).trans ((zup_ne (by omega)).trans (hf a k h1 h2)), fun a k h1 h2 h3 => (z _ _ (by omega)).trans (g1 a k h1 h2 h3), fun k h => (z _ _ (by omega)).trans (g2 k h), fun k h => (z _ _ (by omega)).trans (g3 k h)⟩
    | succ m ih =>
      intro r hr v2 W h12 h105 hE h110 hf g1 g2 g3
      obtain ⟨y1, y2⟩ := v2
      refine Z_push gX8_keep_307 (v := (0, (r : Int))) rfl ?_
      refine Z_push gX8_keep_308 (v := (0, 5)) rfl ?_
      refine Z_icmp_ge gX8_keep_309 (tgt := 332) (by decide) (fun h309 => absurd h309 (by omega)) (fun _ => ?_)
      refine Z_push gX8_keep_312 (v := (1, ((97 : Nat) : Int))) rfl ?_
      refine Z_getR (b := 110) gX8_keep_313 rfl rfl (by decide) rfl (by omega) ?_
      refine Z_push gX8_keep_316 (v := (0, 5)) rfl ?_
      refine Z_push gX8_keep_317 (v := (1, ((97 : Nat) : Int))) rfl ?_
      refine Z_getV (v := (s : Int)) gX8_keep_318 rfl rfl (by decide) h12 ?_
      refine Z_imul gX8_keep_321 ⟨by omega, by omega⟩ ?_
      refine Z_push gX8_keep_322 (v := (0, (r : Int))) rfl ?_
      refine Z_iadd gX8_keep_323 ⟨by omega, by omega⟩ ?_
      refine Z_push gX8_keep_324 (v := (0, 0)) rfl ?_
      refine Z_iastore gX8_keep_325 rfl (by omega) (by omega) ?_
      refine Z_iinc gX8_keep_326 rfl ⟨by omega, by omega⟩ (ls' := [(1, ((97 : Nat) : Int)), (0, (r : Int) + 1), (y1, y2)]) rfl ?_
      refine Z_goto gX8_keep_329 (tgt := 307) (by decide) ?_
      rw [show (5 * (s : Int) + (r : Int)).toNat = 5 * s + r by omega]
      have z : ∀ a k, ¬ (a = 110 ∧ k = 5 * s + r) → zup W 110 (5 * s + r) 0 a k = W a k := fun a k h => zup_ne h
      refine ih (r + 1) (by omega) _ _ ((z _ _ (by omega)).trans h12) ((z _ _ (by omega)).trans h105) (fun j hj => eR_frame (hE j hj) (z _ _ (by omega)) (z _ _ (by omega)) (z _ _ (by omega)) (z _ _ (by omega))) (fun q hq => ?_) (hf.trans (fun a k h1 h2 => z _ _ (by omega))) (fun a k h1 h2 h3 => (z _ _ (by omega)).trans (g1 a k h1 h2 h3)) (fun k h => (z _ _ (by omega)).trans (g2 k h)) (fun k h => (z _ _ (by omega)).trans (g3 k h))
      by_cases e : q = r
      · subst e; exact zup_eq _ _ _ _
      · exact (z _ _ (by omega)).trans (h110 q (by omega))
  have loopA : ∀ m j : Nat, j + m = T.1 → ∀ (v2 : zV) (W : zW), W 97 12 = (s : Int) → W 105 s = (T.1 : Int) → (∀ q, q < j → eR W 106 107 108 109 (30 * s + q) (T.2 q)) → frK w W → (∀ a k, 106 ≤ a → a ≤ 109 → ¬ (30 * s ≤ k ∧ k < 30 * s + T.1) → W a k = w a k) → (∀ k, W 110 k = w 110 k) → (∀ k, k ≠ s → W 105 k = w 105 k) → Z ro 0 mX8_keep 211 [(1, ((97 : Nat) : Int)), (0, (j : Int)), v2] [] W (fun r9 w' k9 => k9 = 0 ∧ ∃ o, r9 = .inl o ∧ (o = none ∧ KR w' s (T, fun _ => 0) ∧ w' 97 12 = (s : Int) + 1 ∧ w' 97 10 = 0 ∧ frK w w' ∧ (∀ a k, 106 ≤ a → a ≤ 109 → ¬ (30 * s ≤ k ∧ k < 30 * s + T.1) → w' a k = w a k) ∧ (∀ k, ¬ (5 * s ≤ k ∧ k < 5 * s + 5) → w' 110 k = w 110 k) ∧ (∀ k, k ≠ s → w' 105 k = w 105 k))) := by
    intro m
    induction m with
    | zero =>
      intro j hj v2 W h12 h105 hE hf g1 g2 g3
      obtain ⟨y1, y2⟩ := v2
      have hMW : MT W T := MT_frame hM (fun a k h => hf a k (by omega) (by omega))
      refine Z_push gX8_keep_211 (v := (0, (j : Int))) rfl ?_
      refine Z_push gX8_keep_212 (v := (1, ((97 : Nat) : Int))) rfl ?_
      refine Z_getV (v := (T.1 : Int)) gX8_keep_213 rfl rfl (by decide) hMW.1 ?_
      refine Z_icmp_ge gX8_keep_216 (tgt := 305) (by decide) (fun _ => ?_) (fun h216 => absurd h216 (by omega))
      refine Z_push gX8_keep_305 (v := (0, 0)) rfl ?_
      refine Z_sto gX8_keep_306 rfl (ls' := [(1, ((97 : Nat) : Int)), (0, 0), (y1, y2)]) (st' := []) rfl ?_
      exact loopB 5 0 rfl _ W h12 h105 (fun q hq => hE q (by omega)) (fun q h => absurd h (Nat.not_lt_zero _)) hf g1 (fun k _ => g2 k) g3
    | succ m ih =>
      intro j hj v2 W h12 h105 hE hf g1 g2 g3
      obtain ⟨y1, y2⟩ := v2
      have hMW : MT W T := MT_frame hM (fun a k h => hf a k (by omega) (by omega))
      have hjT : j < T.1 := by omega
      have hkv := kT_v hV (i := (j : Int)) (by omega)
      have hp01 := pT_01 hV (j : Int)
      have hej := hMW.2 j hjT
      unfold eR at hej
      have hk := hMW.k hjT
      have hp := hMW.p hjT
      generalize e1 : W 98 j = k1 at hk hej
      generalize e2 : W 99 j = k2 at hej
      generalize e3 : W 100 j = k3 at hej
      generalize e4 : W 101 j = k4 at hp hej
      have tn : (30 * (s : Int) + (j : Int)).toNat = 30 * s + j := by omega
      refine Z_push gX8_keep_211 (v := (0, (j : Int))) rfl ?_
      refine Z_push gX8_keep_212 (v := (1, ((97 : Nat) : Int))) rfl ?_
      refine Z_getV (v := (T.1 : Int)) gX8_keep_213 rfl rfl (by decide) hMW.1 ?_
      refine Z_icmp_ge gX8_keep_216 (tgt := 305) (by decide) (fun h216 => absurd h216 (by omega)) (fun _ => ?_)
      refine Z_push gX8_keep_219 (v := (1, ((97 : Nat) : Int))) rfl ?_
      refine Z_getR (b := 106) gX8_keep_220 rfl rfl (by decide) rfl (by omega) ?_
      refine Z_push gX8_keep_223 (v := (0, 30)) rfl ?_
      refine Z_push gX8_keep_225 (v := (1, ((97 : Nat) : Int))) rfl ?_
      refine Z_getV (v := (s : Int)) gX8_keep_226 rfl rfl (by decide) h12 ?_
      refine Z_imul gX8_keep_229 ⟨by omega, by omega⟩ ?_
      refine Z_push gX8_keep_230 (v := (0, (j : Int))) rfl ?_
      refine Z_iadd gX8_keep_231 ⟨by omega, by omega⟩ ?_
      refine Z_push gX8_keep_232 (v := (1, ((97 : Nat) : Int))) rfl ?_
      refine Z_getR (b := 98) gX8_keep_233 rfl rfl (by decide) rfl (by omega) ?_
      refine Z_push gX8_keep_236 (v := (0, (j : Int))) rfl ?_
      refine Z_caloadV (v := k1) gX8_keep_237 rfl (by omega) (by omega) e1 ?_
      refine Z_castore gX8_keep_238 rfl (by omega) (by omega) (by omega) ?_
      refine Z_push gX8_keep_239 (v := (1, ((97 : Nat) : Int))) rfl ?_
      refine Z_getR (b := 107) gX8_keep_240 rfl rfl (by decide) rfl (by omega) ?_
      refine Z_push gX8_keep_243 (v := (0, 30)) rfl ?_
      refine Z_push gX8_keep_245 (v := (1, ((97 : Nat) : Int))) rfl ?_
      refine Z_getV (v := (s : Int)) gX8_keep_246 rfl rfl (by decide) (by simp [zup, h12]) ?_
      refine Z_imul gX8_keep_249 ⟨by omega, by omega⟩ ?_
      refine Z_push gX8_keep_250 (v := (0, (j : Int))) rfl ?_
      refine Z_iadd gX8_keep_251 ⟨by omega, by omega⟩ ?_
      refine Z_push gX8_keep_252 (v := (1, ((97 : Nat) : Int))) rfl ?_
      refine Z_getR (b := 99) gX8_keep_253 rfl rfl (by decide) rfl (by omega) ?_
      refine Z_push gX8_keep_256 (v := (0, (j : Int))) rfl ?_
      refine Z_ialoadV (v := k2) gX8_keep_257 rfl (by omega) (by omega) (by simp [zup, e2]) ?_
      refine Z_iastore gX8_keep_258 rfl (by omega) (by omega) ?_
      refine Z_push gX8_keep_259 (v := (1, ((97 : Nat) : Int))) rfl ?_
      refine Z_getR (b := 108) gX8_keep_260 rfl rfl (by decide) rfl (by omega) ?_
      refine Z_push gX8_keep_263 (v := (0, 30)) rfl ?_
      refine Z_push gX8_keep_265 (v := (1, ((97 : Nat) : Int))) rfl ?_
      refine Z_getV (v := (s : Int)) gX8_keep_266 rfl rfl (by decide) (by simp [zup, h12]) ?_
      refine Z_imul gX8_keep_269 ⟨by omega, by omega⟩ ?_
      refine Z_push gX8_keep_270 (v := (0, (j : Int))) rfl ?_
      refine Z_iadd gX8_keep_271 ⟨by omega, by omega⟩ ?_
      refine Z_push gX8_keep_272 (v := (1, ((97 : Nat) : Int))) rfl ?_
      refine Z_getR (b := 100) gX8_keep_273 rfl rfl (by decide) rfl (by omega) ?_
      refine Z_push gX8_keep_276 (v := (0, (j : Int))) rfl ?_
      refine Z_ialoadV (v := k3) gX8_keep_277 rfl (by omega) (by omega) (by simp [zup, e3]) ?_
      refine Z_iastore gX8_keep_278 rfl (by omega) (by omega) ?_
      refine Z_push gX8_keep_279 (v := (1, ((97 : Nat) : Int))) rfl ?_
      refine Z_getR (b := 109) gX8_keep_280 rfl rfl (by decide) rfl (by omega) ?_
      refine Z_push gX8_keep_283 (v := (0, 30)) rfl ?_
      refine Z_push gX8_keep_285 (v := (1, ((97 : Nat) : Int))) rfl ?_
      refine Z_getV (v := (s : Int)) gX8_keep_286 rfl rfl (by decide) (by simp [zup, h12]) ?_
      refine Z_imul gX8_keep_289 ⟨by omega, by omega⟩ ?_
      refine Z_push gX8_keep_290 (v := (0, (j : Int))) rfl ?_
      refine Z_iadd gX8_keep_291 ⟨by omega, by omega⟩ ?_
      refine Z_push gX8_keep_292 (v := (1, ((97 : Nat) : Int))) rfl ?_
      refine Z_getR (b := 101) gX8_keep_293 rfl rfl (by decide) rfl (by omega) ?_
      refine Z_push gX8_keep_296 (v := (0, (j : Int))) rfl ?_
      refine Z_baloadV (v := k4) gX8_keep_297 rfl (by omega) (by omega) (by simp [zup, e4]) ?_
      refine Z_bastore gX8_keep_298 rfl (by omega) (by omega) (by omega) ?_
      refine Z_iinc gX8_keep_299 rfl ⟨by omega, by omega⟩ (ls' := [(1, ((97 : Nat) : Int)), (0, (j : Int) + 1), (y1, y2)]) rfl ?_
      refine Z_goto gX8_keep_302 (tgt := 211) (by decide) ?_
      rw [tn]
      have z : ∀ a k, ¬ (106 ≤ a ∧ a ≤ 109 ∧ k = 30 * s + j) → zup (zup (zup (zup W 106 (30 * s + j) k1) 107 (30 * s + j) k2) 108 (30 * s + j) k3) 109 (30 * s + j) k4 a k = W a k := fun a k h => (zup_ne (by omega)).trans ((zup_ne (by omega)).trans ((zup_ne (by omega)).trans (zup_ne (by omega))))
      refine ih (j + 1) (by omega) _ _ ((z _ _ (by omega)).trans h12) ((z _ _ (by omega)).trans h105) (fun q hq => ?_) (hf.trans (fun a k h1 h2 => z _ _ (by omega))) (fun a k h1 h2 h3 => (z _ _ (by omega)).trans (g1 a k h1 h2 h3)) (fun k => (z _ _ (by omega)).trans (g2 k)) (fun k h => (z _ _ (by omega)).trans (g3 k h))
      by_cases e : q = j
      · subst e
        have q1 : ∀ v, zup (zup (zup (zup W 106 (30 * s + q) k1) 107 (30 * s + q) k2) 108 (30 * s + q) k3) 109 (30 * s + q) v 109 (30 * s + q) = v := fun v => zup_eq _ _ _ _
        have q2 : zup (zup (zup (zup W 106 (30 * s + q) k1) 107 (30 * s + q) k2) 108 (30 * s + q) k3) 109 (30 * s + q) k4 108 (30 * s + q) = k3 := (zup_ne (by omega)).trans (zup_eq _ _ _ _)
        have q3 : zup (zup (zup (zup W 106 (30 * s + q) k1) 107 (30 * s + q) k2) 108 (30 * s + q) k3) 109 (30 * s + q) k4 107 (30 * s + q) = k2 := (zup_ne (by omega)).trans ((zup_ne (by omega)).trans (zup_eq _ _ _ _))
        have q4 : zup (zup (zup (zup W 106 (30 * s + q) k1) 107 (30 * s + q) k2) 108 (30 * s + q) k3) 109 (30 * s + q) k4 106 (30 * s + q) = k1 := (zup_ne (by omega)).trans ((zup_ne (by omega)).trans ((zup_ne (by omega)).trans (zup_eq _ _ _ _)))
        unfold eR
        rw [q1, q2, q3, q4]
        exact hej
      · exact eR_frame (hE q (by omega)) (z _ _ (by omega)) (z _ _ (by omega)) (z _ _ (by omega)) (z _ _ (by omega))
  refine Z_push gX8_keep_196 (v := (1, ((97 : Nat) : Int))) rfl ?_
  refine Z_getR (b := 105) gX8_keep_197 rfl rfl (by decide) rfl (by omega) ?_
  refine Z_push gX8_keep_200 (v := (1, ((97 : Nat) : Int))) rfl ?_
  refine Z_getV (v := (s : Int)) gX8_keep_201 rfl rfl (by decide) hD ?_
  refine Z_push gX8_keep_204 (v := (1, ((97 : Nat) : Int))) rfl ?_
  refine Z_getV (v := (T.1 : Int)) gX8_keep_205 rfl rfl (by decide) hM.1 ?_
  refine Z_iastore gX8_keep_208 rfl (by omega) (by omega) ?_
  refine Z_push gX8_keep_209 (v := (0, 0)) rfl ?_
  refine Z_sto gX8_keep_210 rfl (ls' := [(1, ((97 : Nat) : Int)), (0, 0), (y1, y2)]) (st' := []) rfl ?_
  have z : ∀ a k, ¬ (a = 105 ∧ k = s) → zup w 105 s (T.1 : Int) a k = w a k := fun a k h => zup_ne h
  exact loopA T.1 0 (by omega) _ _ ((z _ _ (by omega)).trans hD) (zup_eq _ _ _ _) (fun q h => absurd h (Nat.not_lt_zero _)) (fun a k h1 h2 => z _ _ (by omega)) (fun a k h1 h2 h3 => z _ _ (by omega)) (fun k => z _ _ (by omega)) (fun k h => z _ _ (by omega))
theorem KR_frame {s : Nat} {d : zTx × (Nat → Int)} (h : KR w s d) (h1 : w' 105 s = w 105 s) (h2 : ∀ a k, 106 ≤ a → a ≤ 109 → 30 * s ≤ k → k < 30 * s + d.1.1 → w' a k = w a k) (h3 : ∀ k, 5 * s ≤ k → k < 5 * s + 5 → w' 110 k = w 110 k) : KR w' s d :=
  ⟨h1.trans h.1, fun j hj => eR_frame (h.2.1 j hj) (h2 _ _ (by omega) (by omega) (by omega) (by omega)) (h2 _ _ (by omega) (by omega) (by omega) (by omega)) (h2 _ _ (by omega) (by omega) (by omega) (by omega)) (h2 _ _ (by omega) (by omega) (by omega) (by omega)), fun r hr => (h3 _ (by omega) (by omega)).trans (h.2.2 r hr)⟩
/-- moved down by s places, up to n -/
def shf (s n : Nat) (f : Nat → Int) : Nat → Int := fun i => if i < n then f (i + s) else f i
theorem shf_s {s n : Nat} {f g : Nat → Int} (h : ∀ i, g i = shf s n f i) (i : Nat) : (if i = n then f (n + s) else g i) = shf s (n + 1) f i := by
  unfold shf at h ⊢
  by_cases e : i = n
  · rw [if_pos e, if_pos (by omega), e]
  · rw [if_neg e, h i]
    by_cases e2 : i < n
    · rw [if_pos e2, if_pos (by omega)]
    · rw [if_neg e2, if_neg (by omega)]
/-- the kept rows are shifted up to n30 places, n5 places, n1 places -/
def KS (w W : zW) (n30 n5 n1 : Nat) : Prop := (∀ a, 106 ≤ a → a ≤ 109 → ∀ i, W a i = shf 30 n30 (w a) i) ∧ (∀ i, W 110 i = shf 5 n5 (w 110) i) ∧ (∀ i, W 105 i = shf 1 n1 (w 105) i) ∧ ∀ a k, ¬ (105 ≤ a ∧ a ≤ 110) → W a k = w a k
theorem keepA (hC : MC w) : ∀ m d : Nat, d + m = 9 → ∀ (v2 : zV) (W : zW), KS w W (30 * d) (5 * d) d → ∀ (P : Option zV → zW → Prop), (∀ (v1 v2 : zV) (W : zW), KS w W 270 45 9 → Z ro 0 mX8_keep 186 [(1, ((97 : Nat) : Int)), v1, v2] [] W (fun r9 w' k9 => k9 = 0 ∧ ∃ o, r9 = .inl o ∧ P o w')) → Z ro 0 mX8_keep 11 [(1, ((97 : Nat) : Int)), (0, ((d + 1 : Nat) : Int)), v2] [] W (fun r9 w' k9 => k9 = 0 ∧ ∃ o, r9 = .inl o ∧ P o w') := by
  intro m
  induction m with
  | zero =>
    intro d hd v2 W hK P hP
    obtain ⟨y1, y2⟩ := v2
    obtain rfl : d = 9 := by omega
    refine Z_push gX8_keep_11 (v := (0, ((9 + 1 : Nat) : Int))) rfl ?_
    refine Z_push gX8_keep_12 (v := (0, 10)) rfl ?_
    refine Z_icmp_ge gX8_keep_14 (tgt := 186) (by decide) (fun _ => ?_) (fun h14 => absurd h14 (by decide))
    exact hP _ _ W hK
  | succ m ih =>
    intro d hd v2 W hK P hP
    obtain ⟨y1, y2⟩ := v2
    have loop5 : ∀ p r : Nat, r + p = 5 → ∀ W : zW, KS w W (30 * d + 30) (5 * d + r) (d + 1) → Z ro 0 mX8_keep 147 [(1, ((97 : Nat) : Int)), (0, ((d + 1 : Nat) : Int)), (0, (r : Int))] [] W (fun r9 w' k9 => k9 = 0 ∧ ∃ o, r9 = .inl o ∧ P o w') := by
      intro p
      induction p with
      | zero =>
        intro r hr W hK
        refine Z_push gX8_keep_147 (v := (0, (r : Int))) rfl ?_
        refine Z_push gX8_keep_148 (v := (0, 5)) rfl ?_
        refine Z_icmp_ge gX8_keep_149 (tgt := 180) (by decide) (fun _ => ?_) (fun h149 => absurd h149 (by omega))
        refine Z_iinc gX8_keep_180 rfl ⟨by omega, by omega⟩ (ls' := [(1, ((97 : Nat) : Int)), (0, ((d + 1 : Nat) : Int) + 1), (0, (r : Int))]) rfl ?_
        refine Z_goto gX8_keep_183 (tgt := 11) (by decide) ?_
        have hn := ih (d + 1) (by omega) (0, (r : Int)) W (by rw [show 30 * (d + 1) = 30 * d + 30 by omega, show 5 * (d + 1) = 5 * d + r by omega]; exact hK) P hP
        exact hn
      | succ p ihp =>
        intro r hr W hK
        have e1 : W 110 (5 * (d + 1) + r) = w 110 (5 * d + r + 5) := by
          rw [hK.2.1]; unfold shf; rw [if_neg (by omega)]; congr 1; omega
        have t1 : (5 * ((d + 1 : Nat) : Int) + (r : Int)).toNat = 5 * (d + 1) + r := by omega
        have t2 : (5 * ((d + 1 : Nat) : Int) - 5 + (r : Int)).toNat = 5 * d + r := by omega
        refine Z_push gX8_keep_147 (v := (0, (r : Int))) rfl ?_
        refine Z_push gX8_keep_148 (v := (0, 5)) rfl ?_
        refine Z_icmp_ge gX8_keep_149 (tgt := 180) (by decide) (fun h149 => absurd h149 (by omega)) (fun _ => ?_)
        refine Z_push gX8_keep_152 (v := (1, ((97 : Nat) : Int))) rfl ?_
        refine Z_getR (b := 110) gX8_keep_153 rfl rfl (by decide) rfl (by omega) ?_
        refine Z_push gX8_keep_156 (v := (0, 5)) rfl ?_
        refine Z_push gX8_keep_157 (v := (0, ((d + 1 : Nat) : Int))) rfl ?_
        refine Z_imul gX8_keep_158 ⟨by omega, by omega⟩ ?_
        refine Z_push gX8_keep_159 (v := (0, 5)) rfl ?_
        refine Z_isub gX8_keep_160 ⟨by omega, by omega⟩ ?_
        refine Z_push gX8_keep_161 (v := (0, (r : Int))) rfl ?_
        refine Z_iadd gX8_keep_162 ⟨by omega, by omega⟩ ?_
        refine Z_push gX8_keep_163 (v := (1, ((97 : Nat) : Int))) rfl ?_
        refine Z_getR (b := 110) gX8_keep_164 rfl rfl (by decide) rfl (by omega) ?_
        refine Z_push gX8_keep_167 (v := (0, 5)) rfl ?_
        refine Z_push gX8_keep_168 (v := (0, ((d + 1 : Nat) : Int))) rfl ?_
        refine Z_imul gX8_keep_169 ⟨by omega, by omega⟩ ?_
        refine Z_push gX8_keep_170 (v := (0, (r : Int))) rfl ?_
        refine Z_iadd gX8_keep_171 ⟨by omega, by omega⟩ ?_
        refine Z_ialoadV (v := w 110 (5 * d + r + 5)) gX8_keep_172 rfl (by omega) (by omega) (by rw [t1]; exact e1) ?_
        refine Z_iastore gX8_keep_173 rfl (by omega) (by omega) ?_
        refine Z_iinc gX8_keep_174 rfl ⟨by omega, by omega⟩ (ls' := [(1, ((97 : Nat) : Int)), (0, ((d + 1 : Nat) : Int)), (0, (r : Int) + 1)]) rfl ?_
        refine Z_goto gX8_keep_177 (tgt := 147) (by decide) ?_
        rw [t2]
        refine ihp (r + 1) (by omega) _ ⟨fun a h1 h2 i => (zup_ne (by omega)).trans (hK.1 a h1 h2 i), fun i => ?_, fun i => (zup_ne (by omega)).trans (hK.2.2.1 i), fun a k h => (zup_ne (by omega)).trans (hK.2.2.2 a k h)⟩
        rw [show 5 * d + (r + 1) = 5 * d + r + 1 by omega, ← shf_s hK.2.1 i]
        by_cases e : i = 5 * d + r
        · rw [if_pos e, e]; exact zup_eq _ _ _ _
        · rw [if_neg e]; exact zup_ne (fun h => e h.2)
    have loop30 : ∀ p k : Nat, k + p = 30 → ∀ W : zW, KS w W (30 * d + k) (5 * d) (d + 1) → Z ro 0 mX8_keep 33 [(1, ((97 : Nat) : Int)), (0, ((d + 1 : Nat) : Int)), (0, (k : Int))] [] W (fun r9 w' k9 => k9 = 0 ∧ ∃ o, r9 = .inl o ∧ P o w') := by
      intro p
      induction p with
      | zero =>
        intro k hk W hK
        refine Z_push gX8_keep_33 (v := (0, (k : Int))) rfl ?_
        refine Z_push gX8_keep_34 (v := (0, 30)) rfl ?_
        refine Z_icmp_ge gX8_keep_36 (tgt := 145) (by decide) (fun _ => ?_) (fun h36 => absurd h36 (by omega))
        refine Z_push gX8_keep_145 (v := (0, 0)) rfl ?_
        refine Z_sto gX8_keep_146 rfl (ls' := [(1, ((97 : Nat) : Int)), (0, ((d + 1 : Nat) : Int)), (0, 0)]) (st' := []) rfl ?_
        exact loop5 5 0 rfl W (by rw [show 30 * d + 30 = 30 * d + k by omega]; exact hK)
      | succ p ihp =>
        intro k hk W hK
        have e1 : ∀ a, 106 ≤ a → a ≤ 109 → W a (30 * (d + 1) + k) = w a (30 * d + k + 30) := fun a h1 h2 => by
          rw [hK.1 a h1 h2]; unfold shf; rw [if_neg (by omega)]; congr 1; omega
        have t1 : (30 * ((d + 1 : Nat) : Int) + (k : Int)).toNat = 30 * (d + 1) + k := by omega
        have t2 : (30 * ((d + 1 : Nat) : Int) - 30 + (k : Int)).toNat = 30 * d + k := by omega
        have c1 := hC (30 * d + k + 30) (by omega)
        have a1 := e1 106 (by omega) (by omega)
        have a2 := e1 107 (by omega) (by omega)
        have a3 := e1 108 (by omega) (by omega)
        have a4 := e1 109 (by omega) (by omega)
        have hn := ihp (k + 1) (by omega) (zup (zup (zup (zup W 106 (30 * d + k) (w 106 (30 * d + k + 30))) 107 (30 * d + k) (w 107 (30 * d + k + 30))) 108 (30 * d + k) (w 108 (30 * d + k + 30))) 109 (30 * d + k) (w 109 (30 * d + k + 30))) ⟨fun a h1 h2 i => by
          rw [show 30 * d + (k + 1) = 30 * d + k + 1 by omega, ← shf_s (hK.1 a h1 h2) i]
          by_cases e : i = 30 * d + k
          · rw [if_pos e, e]
            rcases (by omega : a = 106 ∨ a = 107 ∨ a = 108 ∨ a = 109) with rfl | rfl | rfl | rfl <;> simp [zup]
          · rw [if_neg e]
            exact (zup_ne (fun h => e h.2)).trans ((zup_ne (fun h => e h.2)).trans ((zup_ne (fun h => e h.2)).trans (zup_ne (fun h => e h.2)))), fun i => (zup_ne (by omega)).trans ((zup_ne (by omega)).trans ((zup_ne (by omega)).trans ((zup_ne (by omega)).trans (hK.2.1 i)))), fun i => (zup_ne (by omega)).trans ((zup_ne (by omega)).trans ((zup_ne (by omega)).trans ((zup_ne (by omega)).trans (hK.2.2.1 i)))), fun a k h => (zup_ne (by omega)).trans ((zup_ne (by omega)).trans ((zup_ne (by omega)).trans ((zup_ne (by omega)).trans (hK.2.2.2 a k h))))⟩
        generalize w 106 (30 * d + k + 30) = k1 at c1 a1 hn
        generalize w 107 (30 * d + k + 30) = k2 at a2 hn
        generalize w 108 (30 * d + k + 30) = k3 at a3 hn
        generalize w 109 (30 * d + k + 30) = k4 at c1 a4 hn
        refine Z_push gX8_keep_33 (v := (0, (k : Int))) rfl ?_
        refine Z_push gX8_keep_34 (v := (0, 30)) rfl ?_
        refine Z_icmp_ge gX8_keep_36 (tgt := 145) (by decide) (fun h36 => absurd h36 (by omega)) (fun _ => ?_)
        refine Z_push gX8_keep_39 (v := (1, ((97 : Nat) : Int))) rfl ?_
        refine Z_getR (b := 106) gX8_keep_40 rfl rfl (by decide) rfl (by omega) ?_
        refine Z_push gX8_keep_43 (v := (0, 30)) rfl ?_
        refine Z_push gX8_keep_45 (v := (0, ((d + 1 : Nat) : Int))) rfl ?_
        refine Z_imul gX8_keep_46 ⟨by omega, by omega⟩ ?_
        refine Z_push gX8_keep_47 (v := (0, 30)) rfl ?_
        refine Z_isub gX8_keep_49 ⟨by omega, by omega⟩ ?_
        refine Z_push gX8_keep_50 (v := (0, (k : Int))) rfl ?_
        refine Z_iadd gX8_keep_51 ⟨by omega, by omega⟩ ?_
        refine Z_push gX8_keep_52 (v := (1, ((97 : Nat) : Int))) rfl ?_
        refine Z_getR (b := 106) gX8_keep_53 rfl rfl (by decide) rfl (by omega) ?_
        refine Z_push gX8_keep_56 (v := (0, 30)) rfl ?_
        refine Z_push gX8_keep_58 (v := (0, ((d + 1 : Nat) : Int))) rfl ?_
        refine Z_imul gX8_keep_59 ⟨by omega, by omega⟩ ?_
        refine Z_push gX8_keep_60 (v := (0, (k : Int))) rfl ?_
        refine Z_iadd gX8_keep_61 ⟨by omega, by omega⟩ ?_
        refine Z_caloadV (v := k1) gX8_keep_62 rfl (by omega) (by omega) (by rw [t1]; exact a1) ?_
        refine Z_castore gX8_keep_63 rfl (by omega) (by omega) c1.1 ?_
        refine Z_push gX8_keep_64 (v := (1, ((97 : Nat) : Int))) rfl ?_
        refine Z_getR (b := 107) gX8_keep_65 rfl rfl (by decide) rfl (by omega) ?_
        refine Z_push gX8_keep_68 (v := (0, 30)) rfl ?_
        refine Z_push gX8_keep_70 (v := (0, ((d + 1 : Nat) : Int))) rfl ?_
        refine Z_imul gX8_keep_71 ⟨by omega, by omega⟩ ?_
        refine Z_push gX8_keep_72 (v := (0, 30)) rfl ?_
        refine Z_isub gX8_keep_74 ⟨by omega, by omega⟩ ?_
        refine Z_push gX8_keep_75 (v := (0, (k : Int))) rfl ?_
        refine Z_iadd gX8_keep_76 ⟨by omega, by omega⟩ ?_
        refine Z_push gX8_keep_77 (v := (1, ((97 : Nat) : Int))) rfl ?_
        refine Z_getR (b := 107) gX8_keep_78 rfl rfl (by decide) rfl (by omega) ?_
        refine Z_push gX8_keep_81 (v := (0, 30)) rfl ?_
        refine Z_push gX8_keep_83 (v := (0, ((d + 1 : Nat) : Int))) rfl ?_
        refine Z_imul gX8_keep_84 ⟨by omega, by omega⟩ ?_
        refine Z_push gX8_keep_85 (v := (0, (k : Int))) rfl ?_
        refine Z_iadd gX8_keep_86 ⟨by omega, by omega⟩ ?_
        refine Z_ialoadV (v := k2) gX8_keep_87 rfl (by omega) (by omega) (by rw [t1]; exact (zup_ne (by omega)).trans a2) ?_
        refine Z_iastore gX8_keep_88 rfl (by omega) (by omega) ?_
        refine Z_push gX8_keep_89 (v := (1, ((97 : Nat) : Int))) rfl ?_
        refine Z_getR (b := 108) gX8_keep_90 rfl rfl (by decide) rfl (by omega) ?_
        refine Z_push gX8_keep_93 (v := (0, 30)) rfl ?_
        refine Z_push gX8_keep_95 (v := (0, ((d + 1 : Nat) : Int))) rfl ?_
        refine Z_imul gX8_keep_96 ⟨by omega, by omega⟩ ?_
        refine Z_push gX8_keep_97 (v := (0, 30)) rfl ?_
        refine Z_isub gX8_keep_99 ⟨by omega, by omega⟩ ?_
        refine Z_push gX8_keep_100 (v := (0, (k : Int))) rfl ?_
        refine Z_iadd gX8_keep_101 ⟨by omega, by omega⟩ ?_
        refine Z_push gX8_keep_102 (v := (1, ((97 : Nat) : Int))) rfl ?_
        refine Z_getR (b := 108) gX8_keep_103 rfl rfl (by decide) rfl (by omega) ?_
        refine Z_push gX8_keep_106 (v := (0, 30)) rfl ?_
        refine Z_push gX8_keep_108 (v := (0, ((d + 1 : Nat) : Int))) rfl ?_
        refine Z_imul gX8_keep_109 ⟨by omega, by omega⟩ ?_
        refine Z_push gX8_keep_110 (v := (0, (k : Int))) rfl ?_
        refine Z_iadd gX8_keep_111 ⟨by omega, by omega⟩ ?_
        refine Z_ialoadV (v := k3) gX8_keep_112 rfl (by omega) (by omega) (by rw [t1]; exact (zup_ne (by omega)).trans ((zup_ne (by omega)).trans a3)) ?_
        refine Z_iastore gX8_keep_113 rfl (by omega) (by omega) ?_
        refine Z_push gX8_keep_114 (v := (1, ((97 : Nat) : Int))) rfl ?_
        refine Z_getR (b := 109) gX8_keep_115 rfl rfl (by decide) rfl (by omega) ?_
        refine Z_push gX8_keep_118 (v := (0, 30)) rfl ?_
        refine Z_push gX8_keep_120 (v := (0, ((d + 1 : Nat) : Int))) rfl ?_
        refine Z_imul gX8_keep_121 ⟨by omega, by omega⟩ ?_
        refine Z_push gX8_keep_122 (v := (0, 30)) rfl ?_
        refine Z_isub gX8_keep_124 ⟨by omega, by omega⟩ ?_
        refine Z_push gX8_keep_125 (v := (0, (k : Int))) rfl ?_
        refine Z_iadd gX8_keep_126 ⟨by omega, by omega⟩ ?_
        refine Z_push gX8_keep_127 (v := (1, ((97 : Nat) : Int))) rfl ?_
        refine Z_getR (b := 109) gX8_keep_128 rfl rfl (by decide) rfl (by omega) ?_
        refine Z_push gX8_keep_131 (v := (0, 30)) rfl ?_
        refine Z_push gX8_keep_133 (v := (0, ((d + 1 : Nat) : Int))) rfl ?_
        refine Z_imul gX8_keep_134 ⟨by omega, by omega⟩ ?_
        refine Z_push gX8_keep_135 (v := (0, (k : Int))) rfl ?_
        refine Z_iadd gX8_keep_136 ⟨by omega, by omega⟩ ?_
        refine Z_baloadV (v := k4) gX8_keep_137 rfl (by omega) (by omega) (by rw [t1]; exact (zup_ne (by omega)).trans ((zup_ne (by omega)).trans ((zup_ne (by omega)).trans a4))) ?_
        refine Z_bastore gX8_keep_138 rfl (by omega) (by omega) c1.2 ?_
        refine Z_iinc gX8_keep_139 rfl ⟨by omega, by omega⟩ (ls' := [(1, ((97 : Nat) : Int)), (0, ((d + 1 : Nat) : Int)), (0, (k : Int) + 1)]) rfl ?_
        refine Z_goto gX8_keep_142 (tgt := 33) (by decide) ?_
        rw [t2]
        exact hn
    have e0 : W 105 (d + 1) = w 105 (d + 1) := by
      rw [hK.2.2.1]; unfold shf; rw [if_neg (by omega)]
    have t0 : (((d + 1 : Nat) : Int) - 1).toNat = d := by omega
    refine Z_push gX8_keep_11 (v := (0, ((d + 1 : Nat) : Int))) rfl ?_
    refine Z_push gX8_keep_12 (v := (0, 10)) rfl ?_
    refine Z_icmp_ge gX8_keep_14 (tgt := 186) (by decide) (fun h14 => absurd h14 (by omega)) (fun _ => ?_)
    refine Z_push gX8_keep_17 (v := (1, ((97 : Nat) : Int))) rfl ?_
    refine Z_getR (b := 105) gX8_keep_18 rfl rfl (by decide) rfl (by omega) ?_
    refine Z_push gX8_keep_21 (v := (0, ((d + 1 : Nat) : Int))) rfl ?_
    refine Z_push gX8_keep_22 (v := (0, 1)) rfl ?_
    refine Z_isub gX8_keep_23 ⟨by omega, by omega⟩ ?_
    refine Z_push gX8_keep_24 (v := (1, ((97 : Nat) : Int))) rfl ?_
    refine Z_getR (b := 105) gX8_keep_25 rfl rfl (by decide) rfl (by omega) ?_
    refine Z_push gX8_keep_28 (v := (0, ((d + 1 : Nat) : Int))) rfl ?_
    refine Z_ialoadV (v := w 105 (d + 1)) gX8_keep_29 rfl (by omega) (by omega) e0 ?_
    refine Z_iastore gX8_keep_30 rfl (by omega) (by omega) ?_
    refine Z_push gX8_keep_31 (v := (0, 0)) rfl ?_
    refine Z_sto gX8_keep_32 rfl (ls' := [(1, ((97 : Nat) : Int)), (0, ((d + 1 : Nat) : Int)), (0, 0)]) (st' := []) rfl ?_
    rw [t0]
    refine loop30 30 0 rfl _ ⟨fun a h1 h2 i => (zup_ne (by omega)).trans (hK.1 a h1 h2 i), fun i => (zup_ne (by omega)).trans (hK.2.1 i), fun i => ?_, fun a k h => (zup_ne (by omega)).trans (hK.2.2.2 a k h)⟩
    rw [← shf_s hK.2.2.1 i]
    by_cases e : i = d
    · rw [if_pos e, e]; exact zup_eq _ _ _ _
    · rw [if_neg e]; exact zup_ne (fun h => e h.2)
theorem KR_shift {W : zW} {s : Nat} {d : zTx × (Nat → Int)} (h : KR w (s + 1) d) (hK : KS w W 270 45 9) (hs : s < 9) (hd : d.1.1 ≤ 30) : KR W s d := by
  obtain ⟨a1, a2, a3⟩ := h
  refine ⟨?_, fun j hj => ?_, fun r hr => ?_⟩
  · rw [hK.2.2.1]; unfold shf; rw [if_pos hs]; exact a1
  · have b := a2 j hj
    have e : ∀ a, 106 ≤ a → a ≤ 109 → W a (30 * s + j) = w a (30 * (s + 1) + j) := fun a h1 h2 => by
      rw [hK.1 a h1 h2]; unfold shf; rw [if_pos (by omega)]; congr 1; omega
    unfold eR at b ⊢
    rw [e 106 (by omega) (by omega), e 107 (by omega) (by omega), e 108 (by omega) (by omega), e 109 (by omega) (by omega)]
    exact b
  · rw [hK.2.1]; unfold shf; rw [if_pos (by omega)]
    have := a3 r hr
    rw [show 5 * s + r + 5 = 5 * (s + 1) + r by omega]
    exact this
theorem vX8_keep (hM : MR w T R D lim la) (hV : TV T) (hDV : DV D) : Ev ro 0 mX8_keep [(1, ((97 : Nat) : Int))] w (fun o w' => o = none ∧ MR w' T R (kpD D T) lim 0 ∧ frK w w') := by
  obtain ⟨h1, h2, ⟨d1, d2, d3, d4⟩, h4, h5, h6⟩ := id hM
  have hV1 := hV.1
  have fin : ∀ (s : Nat) (W W2 : zW), s < 10 → frK w W → MC W → (KR W2 s (T, fun _ => 0) ∧ W2 97 12 = (s : Int) + 1 ∧ W2 97 10 = 0 ∧ frK W W2 ∧ (∀ a k, 106 ≤ a → a ≤ 109 → ¬ (30 * s ≤ k ∧ k < 30 * s + T.1) → W2 a k = W a k) ∧ (∀ k, ¬ (5 * s ≤ k ∧ k < 5 * s + 5) → W2 110 k = W 110 k) ∧ (∀ k, k ≠ s → W2 105 k = W 105 k)) → (kpD D T).1 = s + 1 → (∀ q, 0 < q → q < s + 1 → KR W (s - q) (D.2 (q - 1)) ∧ TV (D.2 (q - 1)).1) → (none : Option zV) = none ∧ MR W2 T R (kpD D T) lim 0 ∧ frK w W2 := by
    intro s W W2 hs hf hCW ⟨g1, g2, g3, g4, g5, g6, g7⟩ hk hq
    have hf2 := hf.trans g4
    refine ⟨rfl, ⟨MT_frame h1 (fun a k h => hf2 a k (by omega) (by omega)), MU_frame h2 (fun a k h => hf2 a k (by omega) (by omega)), ⟨by rw [hk]; exact g2, by omega, fun q hq2 => ?_, fun k hk3 => ?_⟩, (hf2 _ _ (by omega) (by omega)).trans h4, g3, fun h => absurd h (by decide)⟩, hf2⟩
    · rw [hk] at hq2 ⊢
      by_cases h0 : q = 0
      · subst h0
        show KR W2 (s + 1 - 1 - 0) (T, fun _ => 0)
        rw [show s + 1 - 1 - 0 = s by omega]
        exact g1
      · show KR W2 (s + 1 - 1 - q) (if q = 0 then (T, fun _ => 0) else D.2 (q - 1))
        rw [if_neg h0, show s + 1 - 1 - q = s - q by omega]
        obtain ⟨k1, k2⟩ := hq q (by omega) hq2
        have k3 := k2.1
        exact KR_frame k1 (g7 _ (by omega)) (fun a k a1 a2 a3 a4 => g5 a k a1 a2 (by omega)) (fun k a1 a2 => g6 k (by omega))
    · by_cases hin : 30 * s ≤ k ∧ k < 30 * s + T.1
      · have he := g1.2.1 (k - 30 * s) (show k - 30 * s < T.1 by omega)
        rw [show 30 * s + (k - 30 * s) = k by omega] at he
        obtain ⟨v1, v2, v3, v4⟩ := hV.2 (k - 30 * s) (by omega)
        obtain ⟨e1, e2, e3, e4⟩ := he
        rw [e1, e4]
        exact ⟨by show 0 ≤ (T.2 (k - 30 * s)).1 ∧ (T.2 (k - 30 * s)).1 < 65536; omega, v4⟩
      · rw [g5 106 k (by omega) (by omega) hin, g5 109 k (by omega) (by omega) hin]
        exact hCW k hk3
  show Z ro 0 mX8_keep 0 [(1, ((97 : Nat) : Int)), (9, 0), (9, 0)] [] w _
  refine Z_push gX8_keep_0 (v := (1, ((97 : Nat) : Int))) rfl ?_
  refine Z_getV (v := (D.1 : Int)) gX8_keep_1 rfl rfl (by decide) d1 ?_
  refine Z_push gX8_keep_4 (v := (0, 10)) rfl ?_
  refine Z_icmp_ne gX8_keep_6 (tgt := 196) (by decide) (fun h6 => ?_) (fun h6 => ?_)
  · have hk : (kpD D T).1 = D.1 + 1 := if_pos (by omega)
    refine Z_mono (keepB (s := D.1) (by omega) h1 hV d1 (9, 0) (9, 0)) (fun r w' k h => ?_)
    obtain ⟨h0, o, ho, rfl, g⟩ := h
    refine ⟨h0, none, ho, fin D.1 w w' (by omega) (frK.refl w) d4 g hk (fun q q1 q2 => ⟨?_, (hDV (q - 1) (by omega)).1⟩)⟩
    have := d3 (q - 1) (by omega)
    rw [show D.1 - 1 - (q - 1) = D.1 - q by omega] at this
    exact this
  · have h10 : D.1 = 10 := by omega
    have hk : (kpD D T).1 = 9 + 1 := if_neg (by omega)
    have hK0 : KS w w 0 0 0 := ⟨fun a _ _ i => by unfold shf; rw [if_neg (by omega)], fun i => by unfold shf; rw [if_neg (by omega)], fun i => by unfold shf; rw [if_neg (by omega)], fun _ _ _ => rfl⟩
    refine Z_push gX8_keep_9 (v := (0, 1)) rfl ?_
    refine Z_sto gX8_keep_10 rfl (ls' := [(1, ((97 : Nat) : Int)), (0, 1), (9, 0)]) (st' := []) rfl ?_
    refine keepA d4 9 0 rfl (9, 0) w hK0 _ (fun v1 v2 W hK => ?_)
    obtain ⟨x1, x2⟩ := v1
    obtain ⟨y1, y2⟩ := v2
    have w12 : W 97 12 = 10 := (hK.2.2.2 _ _ (by omega)).trans (d1.trans (by rw [h10]; rfl))
    have hf : frK w (zup W 97 12 9) := fun a k h1 h2 => (zup_ne (by omega)).trans (hK.2.2.2 a k h1)
    have hC : MC (zup W 97 12 9) := fun k hk => by
      rw [zup_ne (by omega), zup_ne (by omega), hK.1 106 (by omega) (by omega), hK.1 109 (by omega) (by omega)]
      unfold shf
      by_cases e : k < 270
      · rw [if_pos e, if_pos e]; exact d4 (k + 30) (by omega)
      · rw [if_neg e, if_neg e]; exact d4 k hk
    refine Z_push gX8_keep_186 (v := (1, ((97 : Nat) : Int))) rfl ?_
    refine Z_arith gX8_keep_187 rfl rfl (v := [(1, ((97 : Nat) : Int)), (1, ((97 : Nat) : Int))]) rfl ?_
    refine Z_getV (v := 10) gX8_keep_188 rfl rfl (by decide) w12 ?_
    refine Z_push gX8_keep_191 (v := (0, 1)) rfl ?_
    refine Z_isub gX8_keep_192 ⟨by omega, by omega⟩ ?_
    refine Z_put gX8_keep_193 rfl rfl (by decide) rfl (fun h => by cases h) ?_
    refine Z_mono (keepB (s := 9) (by omega) (MT_frame h1 (fun a k h => hf a k (by omega) (by omega))) hV (zup_eq _ _ _ _) (x1, x2) (y1, y2)) (fun r w' k h => ?_)
    obtain ⟨h0, o, ho, rfl, g⟩ := h
    refine ⟨h0, none, ho, fin 9 _ w' (by omega) hf hC g hk (fun q q1 q2 => ?_)⟩
    have hq := hDV (q - 1) (by omega)
    have k1 := d3 (q - 1) (by omega)
    rw [h10, show 10 - 1 - (q - 1) = (9 - q) + 1 by omega] at k1
    have k2 := KR_shift k1 hK (by omega) hq.1.1
    exact ⟨KR_frame k2 (zup_ne (by omega)) (fun a k a1 a2 a3 a4 => zup_ne (by omega)) (fun k a1 a2 => zup_ne (by omega)), hq.1⟩
theorem zup_self (w : zW) (a j : Nat) : zup w a j (w a j) = w := by
  funext i k
  unfold zup
  split
  · rename_i h; obtain ⟨rfl, rfl⟩ := h; rfl
  · rfl
def frG (w w' : zW) : Prop := ∀ a k, ¬ (98 ≤ a ∧ a ≤ 102) → a ≠ 110 → ¬ (a = 97 ∧ (k = 1 ∨ k = 9)) → w' a k = w a k
theorem frG.refl (w : zW) : frG w w := fun _ _ _ _ _ => rfl
theorem frG.trans {a b c : zW} (h : frG a b) (k : frG b c) : frG a c := fun x y h1 h2 h3 => (k x y h1 h2 h3).trans (h x y h1 h2 h3)
theorem frP.G {w w' : zW} (h : frP w w') : frG w w' := fun a k h1 h2 h3 => h a k (by omega) (by omega)
theorem MF_fr {T0 : zTx} {n : Nat} (h : MF w T0 n) (f : ∀ a k, (111 ≤ a ∧ a ≤ 113) ∨ (a = 97 ∧ k = 19) → w' a k = w a k) : MF w' T0 n := ⟨(f _ _ (by omega)).trans h.1, fun j hj hr => by
  obtain ⟨a, b, c⟩ := h.2 j hj hr
  exact ⟨(f _ _ (by omega)).trans a, (f _ _ (by omega)).trans b, (f _ _ (by omega)).trans c⟩⟩
theorem Z_ladd {d : Nat} {M : zM} {pc : Nat} {ls st : List zV} {Q : (Option zV ⊕ String) → zW → Nat → Prop} {a b : Int} (g : zget (zMt M) pc = some (.ladd, 1)) (h : zi64 (a + b)) (K : Z ro d M (pc + 1) ls ((2, a + b) :: st) w Q) : Z ro d M pc ls ((2, b) :: (2, a) :: st) w Q :=
  Z_arith g rfl rfl (v := (2, a + b) :: st) (by
    show some ((2, zw64 (a + b)) :: st) = _
    rw [show zw64 (a + b) = a + b from by
      obtain ⟨h1, h2⟩ := h
      unfold zw64
      rw [Int.bmod_def]
      split <;> omega]) K
theorem vX8_fixes {T0 S : zTx} {Rs : zRu} {Ds : zDs} {j : Nat} (hF : MF w T0 T0.1) (hT0 : TV T0) (hj : rlT T0 j ≠ -1) (hM : MT w S) (hS : TV S) (hK : KP S (rlT T0 j).toNat j) (hU : MU w Rs) (hRV : RV B Rs) (hB : B ≤ 1000000) (hD : MD w Ds) (hDV : DV Ds) (hc : 0 < Ds.1) : Ev ro 2 mX8_fixes [(1, ((97 : Nat) : Int)), (0, (fdN T0 j : Int))] w (fun o w' => o = none ∧ MT w' (fxT S (rlT T0 j).toNat j) ∧ MU w' (rwR Rs (rlT T0 j).toNat) ∧ MD w' (nfD Ds (rlT T0 j).toNat) ∧ frG w w') := by
  have hr5 := rl_5 hj
  have hS1 := hS.1
  have hjl := rl_lt hj
  have hT01 := hT0.1
  have hfl := fdN_le T0 j
  have hrl := rl_cases T0 j
  obtain ⟨f1, f2, f3⟩ := hF.2 j hjl hj
  have hen : enT T0 j = if rlT T0 j = 4 then j + 2 else j + 1 := rfl
  obtain ⟨r, hr⟩ : ∃ r : Nat, rlT T0 j = (r : Int) := ⟨(rlT T0 j).toNat, by omega⟩
  rw [hr] at hK hr5 f1 hen ⊢
  rw [show ((r : Int)).toNat = r from rfl] at hK hr5 ⊢
  have tail : ∀ (v : zV) (W : zW), MT W (fxT S r j) → frP w W → Z ro 2 mX8_fixes 106 [(1, ((97 : Nat) : Int)), (0, (fdN T0 j : Int)), (0, (r : Int)), (0, (j : Int)), v] [] W (fun r9 w' k => k = 0 ∧ ∃ o, r9 = .inl o ∧ (o = none ∧ MT w' (fxT S r j) ∧ MU w' (rwR Rs r) ∧ MD w' (nfD Ds r) ∧ frG w w')) := by
    intro v W hW hf
    obtain ⟨v1, v2⟩ := v
    obtain ⟨d1, d2, d3, d4⟩ := id hD
    have hwr : W 102 r = Rs.1 r := (hf _ _ (by omega) (by omega)).trans (hU.1 r hr5)
    have hwb := hRV.1 r hr5
    have hW12 : W 97 12 = (Ds.1 : Int) := (hf _ _ (by omega) (by omega)).trans d1
    have hW9 : W 97 9 = Rs.2.2 := (hf _ _ (by omega) (by omega)).trans hU.2.2
    have h9b := hRV.2.2
    have k0 := d3 0 hc
    have hkf := (hDV 0 hc).2 r hr5
    have e110 : W 110 (5 * (Ds.1 - 1) + r) = (Ds.2 0).2 r := (hf _ _ (by omega) (by omega)).trans (by
      have := k0.2.2 r hr5
      rw [show Ds.1 - 1 - 0 = Ds.1 - 1 by omega] at this
      exact this)
    have t1 : (5 * ((Ds.1 : Int) - 1) + (r : Int)).toNat = 5 * (Ds.1 - 1) + r := by omega
    have fin : ∀ x : Int, x = (rwR Rs r).1 r → Z ro 2 mX8_fixes 130 [(1, ((97 : Nat) : Int)), (0, (fdN T0 j : Int)), (0, (r : Int)), (0, (j : Int)), (v1, v2)] [(0, x), (0, (r : Int)), (1, ((102 : Nat) : Int))] W (fun r9 w' k => k = 0 ∧ ∃ o, r9 = .inl o ∧ (o = none ∧ MT w' (fxT S r j) ∧ MU w' (rwR Rs r) ∧ MD w' (nfD Ds r) ∧ frG w w')) := by
      intro x hx
      refine Z_iastore gX8_fixes_130 rfl (by omega) (by omega) ?_
      refine Z_push gX8_fixes_131 (v := (1, ((97 : Nat) : Int))) rfl ?_
      refine Z_getR (b := 110) gX8_fixes_132 rfl rfl (by decide) rfl (by omega) ?_
      refine Z_push gX8_fixes_135 (v := (0, 5)) rfl ?_
      refine Z_push gX8_fixes_136 (v := (1, ((97 : Nat) : Int))) rfl ?_
      refine Z_getV (v := (Ds.1 : Int)) gX8_fixes_137 rfl rfl (by decide) ((zup_ne (by omega)).trans hW12) ?_
      refine Z_push gX8_fixes_140 (v := (0, 1)) rfl ?_
      refine Z_isub gX8_fixes_141 ⟨by omega, by omega⟩ ?_
      refine Z_imul gX8_fixes_142 ⟨by omega, by omega⟩ ?_
      refine Z_push gX8_fixes_143 (v := (0, (r : Int))) rfl ?_
      refine Z_iadd gX8_fixes_144 ⟨by omega, by omega⟩ ?_
      refine Z_arith gX8_fixes_145 rfl rfl (v := [(0, (5 * ((Ds.1 : Int) - 1)) + (r : Int)), (1, ((110 : Nat) : Int)), (0, (5 * ((Ds.1 : Int) - 1)) + (r : Int)), (1, ((110 : Nat) : Int))]) rfl ?_
      refine Z_ialoadV (v := (Ds.2 0).2 r) gX8_fixes_146 rfl (by omega) (by omega) (by rw [t1]; exact (zup_ne (by omega)).trans e110) ?_
      refine Z_push gX8_fixes_147 (v := (0, 1)) rfl ?_
      refine Z_iadd gX8_fixes_148 ⟨by omega, by omega⟩ ?_
      refine Z_iastore gX8_fixes_149 rfl (by omega) (by omega) ?_
      refine Z_push gX8_fixes_150 (v := (1, ((97 : Nat) : Int))) rfl ?_
      refine Z_arith gX8_fixes_151 rfl rfl (v := [(1, ((97 : Nat) : Int)), (1, ((97 : Nat) : Int))]) rfl ?_
      refine Z_getV (v := Rs.2.2) gX8_fixes_152 rfl rfl (by decide) ((zup_ne (by omega)).trans ((zup_ne (by omega)).trans hW9)) ?_
      refine Z_push gX8_fixes_155 (v := (2, 1)) rfl ?_
      refine Z_ladd gX8_fixes_156 ⟨by omega, by omega⟩ ?_
      refine Z_put gX8_fixes_157 rfl rfl (by decide) rfl (fun h => by cases h) ?_
      refine Z_end gX8_fixes_160 rfl rfl rfl rfl (v := none) rfl ⟨rfl, none, rfl, ?_⟩
      rw [t1, show ((r : Int)).toNat = r from rfl]
      have z : ∀ a k, ¬ (a = 102 ∧ k = r) → ¬ (a = 110 ∧ k = 5 * (Ds.1 - 1) + r) → ¬ (a = 97 ∧ k = 9) → zup (zup (zup W 102 r x) 110 (5 * (Ds.1 - 1) + r) ((Ds.2 0).2 r + 1)) 97 9 (Rs.2.2 + 1) a k = W a k := fun a k h1 h2 h3 => (zup_ne h3).trans ((zup_ne h2).trans (zup_ne h1))
      have y1 : zup (zup (zup W 102 r x) 110 (5 * (Ds.1 - 1) + r) ((Ds.2 0).2 r + 1)) 97 9 (Rs.2.2 + 1) 97 9 = Rs.2.2 + 1 := zup_eq _ _ _ _
      have y2 : zup (zup (zup W 102 r x) 110 (5 * (Ds.1 - 1) + r) ((Ds.2 0).2 r + 1)) 97 9 (Rs.2.2 + 1) 110 (5 * (Ds.1 - 1) + r) = (Ds.2 0).2 r + 1 := (zup_ne (by omega)).trans (zup_eq _ _ _ _)
      have y3 : zup (zup (zup W 102 r x) 110 (5 * (Ds.1 - 1) + r) ((Ds.2 0).2 r + 1)) 97 9 (Rs.2.2 + 1) 102 r = x := (zup_ne (by omega)).trans ((zup_ne (by omega)).trans (zup_eq _ _ _ _))
      generalize zup (zup (zup W 102 r x) 110 (5 * (Ds.1 - 1) + r) ((Ds.2 0).2 r + 1)) 97 9 (Rs.2.2 + 1) = V at z y1 y2 y3 ⊢
      have zw : ∀ a k, ¬ (98 ≤ a ∧ a ≤ 101) → ¬ (a = 97 ∧ k = 1) → ¬ (a = 102 ∧ k = r) → ¬ (a = 110 ∧ k = 5 * (Ds.1 - 1) + r) → ¬ (a = 97 ∧ k = 9) → V a k = w a k := fun a k h1 h2 h3 h4 h5 => (z a k h3 h4 h5).trans (hf a k h1 h2)
      refine ⟨rfl, MT_frame hW (fun a k h => z a k (by omega) (by omega) (by omega)), ⟨fun q hq => ?_, fun q hq => (zw _ _ (by omega) (by omega) (by omega) (by omega) (by omega)).trans (hU.2.1 q hq), y1⟩, ⟨(zw _ _ (by omega) (by omega) (by omega) (by omega) (by omega)).trans d1, d2, fun q hq => ?_, MC_frame d4 (fun a k h => zw _ _ (by omega) (by omega) (by omega) (by omega) (by omega))⟩, fun a k h1 h2 h3 => zw a k (by omega) (by omega) (by omega) (by omega) (by omega)⟩
      · by_cases e : q = r
        · subst e; exact y3.trans hx
        · show V 102 q = (if q = r then _ else Rs.1 q)
          rw [if_neg e]
          exact (zw _ _ (by omega) (by omega) (by omega) (by omega) (by omega)).trans (hU.1 q hq)
      · have hq : q < Ds.1 := hq
        show KR V (Ds.1 - 1 - q) (if q = 0 then ((Ds.2 0).1, updN (Ds.2 0).2 r ((Ds.2 0).2 r + 1)) else Ds.2 q)
        by_cases h0 : q = 0
        · subst h0
          rw [if_pos rfl]
          obtain ⟨a1, a2, a3⟩ := k0
          refine ⟨(zw _ _ (by omega) (by omega) (by omega) (by omega) (by omega)).trans a1, fun q2 hq2 => eR_frame (a2 q2 hq2) (zw _ _ (by omega) (by omega) (by omega) (by omega) (by omega)) (zw _ _ (by omega) (by omega) (by omega) (by omega) (by omega)) (zw _ _ (by omega) (by omega) (by omega) (by omega) (by omega)) (zw _ _ (by omega) (by omega) (by omega) (by omega) (by omega)), fun q2 hq2 => ?_⟩
          show _ = (if q2 = r then (Ds.2 0).2 r + 1 else (Ds.2 0).2 q2)
          by_cases e : q2 = r
          · subst e
            rw [if_pos rfl, show Ds.1 - 1 - 0 = Ds.1 - 1 by omega]
            exact y2
          · rw [if_neg e]
            exact (zw _ _ (by omega) (by omega) (by omega) (by omega) (by omega)).trans (a3 q2 hq2)
        · rw [if_neg h0]
          exact KR_frame (d3 q hq) (zw _ _ (by omega) (by omega) (by omega) (by omega) (by omega)) (fun a k h1 h2 h3 h4 => zw _ _ (by omega) (by omega) (by omega) (by omega) (by omega)) (fun k h1 h2 => zw _ _ (by omega) (by omega) (by omega) (by omega) (by omega))
    have ex : (rwR Rs r).1 r = if Rs.1 r + 1 < 99 then Rs.1 r + 1 else 99 := by
      show (if r = r then _ else _) = _
      rw [if_pos rfl]
    refine Z_push gX8_fixes_106 (v := (1, ((97 : Nat) : Int))) rfl ?_
    refine Z_getR (b := 102) gX8_fixes_107 rfl rfl (by decide) rfl (by omega) ?_
    refine Z_push gX8_fixes_110 (v := (0, (r : Int))) rfl ?_
    refine Z_arith gX8_fixes_111 rfl rfl (v := [(0, (r : Int)), (1, ((102 : Nat) : Int)), (0, (r : Int)), (1, ((102 : Nat) : Int))]) rfl ?_
    refine Z_ialoadV (v := Rs.1 r) gX8_fixes_112 rfl (by omega) (by omega) hwr ?_
    refine Z_push gX8_fixes_113 (v := (1, ((97 : Nat) : Int))) rfl ?_
    refine Z_getR (b := 102) gX8_fixes_114 rfl rfl (by decide) rfl (by omega) ?_
    refine Z_push gX8_fixes_117 (v := (0, (r : Int))) rfl ?_
    refine Z_ialoadV (v := Rs.1 r) gX8_fixes_118 rfl (by omega) (by omega) hwr ?_
    refine Z_push gX8_fixes_119 (v := (0, 99)) rfl ?_
    refine Z_icmp_ge gX8_fixes_121 (tgt := 128) (by decide) (fun h121 => ?_) (fun h121 => ?_)
    · refine Z_push gX8_fixes_128 (v := (0, 0)) rfl ?_
      refine Z_iadd gX8_fixes_129 ⟨by omega, by omega⟩ ?_
      exact fin _ (by rw [ex]; split <;> omega)
    · refine Z_push gX8_fixes_124 (v := (0, 1)) rfl ?_
      refine Z_goto gX8_fixes_125 (tgt := 129) (by decide) ?_
      refine Z_iadd gX8_fixes_129 ⟨by omega, by omega⟩ ?_
      exact fin _ (by rw [ex]; split <;> omega)
  -- away with the last one
  have away : r ≠ 2 → ∀ (x : Int) (W : zW) (S2 : zTx), MT W S2 → TV S2 → frP w W → enT T0 j < S2.1 → j < enT T0 j → fxT S r j = (if r = 1 ∨ r = 4 then rmT (rmT S2 (enT T0 j)) j else rmT S2 (enT T0 j)) → Z ro 2 mX8_fixes 81 [(1, ((97 : Nat) : Int)), (0, (fdN T0 j : Int)), (0, (r : Int)), (0, (j : Int)), (0, x)] [] W (fun r9 w' k => k = 0 ∧ ∃ o, r9 = .inl o ∧ (o = none ∧ MT w' (fxT S r j) ∧ MU w' (rwR Rs r) ∧ MD w' (nfD Ds r) ∧ frG w w')) := by
    intro hr2 x W S2 hW hV2 hf h1 h2 h3
    refine Z_push gX8_fixes_81 (v := (1, ((97 : Nat) : Int))) rfl ?_
    refine Z_push gX8_fixes_82 (v := (1, ((97 : Nat) : Int))) rfl ?_
    refine Z_getR (b := 113) gX8_fixes_83 rfl rfl (by decide) rfl (by omega) ?_
    refine Z_push gX8_fixes_86 (v := (0, (fdN T0 j : Int))) rfl ?_
    refine Z_ialoadV (v := (enT T0 j : Int)) gX8_fixes_87 rfl (by omega) (by omega) ((hf _ _ (by omega) (by omega)).trans f3) ?_
    refine Z_callE (kd := 0) (na := 2) (M' := mX8_remove) gX8_fixes_88 rfl rfl rfl rfl rfl rfl (fun _ => rfl) rfl rfl (fun _ _ => zrecv_obj rfl _ _ _) (d' := 1) (by omega) (vX8_remove hW hV2 h1) ?_
    rintro o w2 ⟨rfl, g2, g3⟩
    have again : r = 1 ∨ r = 4 → Z ro 2 mX8_fixes 101 [(1, ((97 : Nat) : Int)), (0, (fdN T0 j : Int)), (0, (r : Int)), (0, (j : Int)), (0, x)] [] w2 (fun r9 w' k => k = 0 ∧ ∃ o, r9 = .inl o ∧ (o = none ∧ MT w' (fxT S r j) ∧ MU w' (rwR Rs r) ∧ MD w' (nfD Ds r) ∧ frG w w')) := by
      intro hc14
      rw [if_pos hc14] at h3
      refine Z_push gX8_fixes_101 (v := (1, ((97 : Nat) : Int))) rfl ?_
      refine Z_push gX8_fixes_102 (v := (0, (j : Int))) rfl ?_
      refine Z_callE (kd := 0) (na := 2) (M' := mX8_remove) gX8_fixes_103 rfl rfl rfl rfl rfl rfl (fun _ => rfl) rfl rfl (fun _ _ => zrecv_obj rfl _ _ _) (d' := 1) (by omega) (vX8_remove g2 (TV_rm hV2 _) (i := j) (show j < S2.1 - 1 by omega)) ?_
      rintro o w3 ⟨rfl, k2, k3⟩
      rw [← h3] at k2
      exact tail _ w3 k2 (hf.trans (g3.trans k3))
    refine Z_push gX8_fixes_91 (v := (0, (r : Int))) rfl ?_
    refine Z_push gX8_fixes_92 (v := (0, 1)) rfl ?_
    refine Z_icmp_eq gX8_fixes_93 (tgt := 101) (by decide) (fun h93 => ?_) (fun h93 => ?_)
    · exact again (Or.inl (by omega))
    · refine Z_push gX8_fixes_96 (v := (0, (r : Int))) rfl ?_
      refine Z_push gX8_fixes_97 (v := (0, 4)) rfl ?_
      refine Z_icmp_ne gX8_fixes_98 (tgt := 106) (by decide) (fun h98 => ?_) (fun h98 => ?_)
      · rw [if_neg (by omega)] at h3
        rw [← h3] at g2
        exact tail _ w2 g2 (hf.trans g3)
      · exact again (Or.inr (by omega))
  show Z ro 2 mX8_fixes 0 [(1, ((97 : Nat) : Int)), (0, (fdN T0 j : Int)), (9, 0), (9, 0), (9, 0)] [] w _
  refine Z_push gX8_fixes_0 (v := (1, ((97 : Nat) : Int))) rfl ?_
  refine Z_getR (b := 111) gX8_fixes_1 rfl rfl (by decide) rfl (by omega) ?_
  refine Z_push gX8_fixes_4 (v := (0, (fdN T0 j : Int))) rfl ?_
  refine Z_ialoadV (v := (r : Int)) gX8_fixes_5 rfl (by omega) (by omega) f1 ?_
  refine Z_sto gX8_fixes_6 rfl (ls' := [(1, ((97 : Nat) : Int)), (0, (fdN T0 j : Int)), (0, (r : Int)), (9, 0), (9, 0)]) (st' := []) rfl ?_
  refine Z_push gX8_fixes_7 (v := (1, ((97 : Nat) : Int))) rfl ?_
  refine Z_getR (b := 112) gX8_fixes_8 rfl rfl (by decide) rfl (by omega) ?_
  refine Z_push gX8_fixes_11 (v := (0, (fdN T0 j : Int))) rfl ?_
  refine Z_ialoadV (v := (j : Int)) gX8_fixes_12 rfl (by omega) (by omega) f2 ?_
  refine Z_sto gX8_fixes_13 rfl (ls' := [(1, ((97 : Nat) : Int)), (0, (fdN T0 j : Int)), (0, (r : Int)), (0, (j : Int)), (9, 0)]) (st' := []) rfl ?_
  refine Z_push gX8_fixes_14 (v := (0, (r : Int))) rfl ?_
  refine Z_push gX8_fixes_15 (v := (0, 2)) rfl ?_
  refine Z_icmp_ne gX8_fixes_16 (tgt := 30) (by decide) (fun h16 => ?_) (fun h16 => ?_)
  · have hr2 : r ≠ 2 := by omega
    rcases hK with ⟨hr0, h1, -⟩ | ⟨hr0, h1, -⟩ | ⟨hr0, h1⟩ | ⟨hr0, h1, h2, h3⟩ | ⟨hr0, h1, -⟩
    · rw [if_neg (by omega)] at hen
      refine Z_push gX8_fixes_30 (v := (1, ((97 : Nat) : Int))) rfl ?_
      refine Z_getR (b := 100) gX8_fixes_31 rfl rfl (by decide) rfl (by omega) ?_
      refine Z_push gX8_fixes_34 (v := (0, (j : Int))) rfl ?_
      refine Z_iaload gX8_fixes_35 rfl (by omega) (by omega) ?_
      refine Z_push gX8_fixes_36 (v := (1, ((97 : Nat) : Int))) rfl ?_
      refine Z_getR (b := 100) gX8_fixes_37 rfl rfl (by decide) rfl (by omega) ?_
      refine Z_push gX8_fixes_40 (v := (0, (j : Int))) rfl ?_
      refine Z_push gX8_fixes_41 (v := (0, 1)) rfl ?_
      refine Z_iadd gX8_fixes_42 ⟨by omega, by omega⟩ ?_
      refine Z_iaload gX8_fixes_43 rfl (by omega) (by omega) ?_
      refine Z_arith gX8_fixes_44 rfl rfl (v := [(0, zw32 ((w 100 ((j : Int)).toNat) + (w 100 ((j : Int) + 1).toNat)))]) rfl ?_
      refine Z_sto gX8_fixes_45 rfl (ls' := [(1, ((97 : Nat) : Int)), (0, (fdN T0 j : Int)), (0, (r : Int)), (0, (j : Int)), (0, zw32 ((w 100 ((j : Int)).toNat) + (w 100 ((j : Int) + 1).toNat)))]) (st' := []) rfl ?_
      refine Z_push gX8_fixes_47 (v := (1, ((97 : Nat) : Int))) rfl ?_
      refine Z_getR (b := 100) gX8_fixes_48 rfl rfl (by decide) rfl (by omega) ?_
      refine Z_push gX8_fixes_51 (v := (0, (j : Int))) rfl ?_
      refine Z_push gX8_fixes_52 (v := (0, (r : Int))) rfl ?_
      refine Z_push gX8_fixes_53 (v := (0, 3)) rfl ?_
      refine Z_icmp_ne gX8_fixes_54 (tgt := 74) (by decide) (fun _ => ?_) (fun h54 => absurd h54 (by omega))
      refine Z_push gX8_fixes_74 (v := (1, ((97 : Nat) : Int))) rfl ?_
      refine Z_getR (b := 100) gX8_fixes_75 rfl rfl (by decide) rfl (by omega) ?_
      refine Z_push gX8_fixes_78 (v := (0, (j : Int))) rfl ?_
      refine Z_ialoadV (v := w 100 j) gX8_fixes_79 rfl (by omega) (by omega) rfl ?_
      refine Z_iastore gX8_fixes_80 rfl (by omega) (by omega) ?_
      rw [show zup w 100 ((j : Int)).toNat (w 100 j) = w from zup_self w 100 j]
      exact away hr2 _ w S hM hS (frP.refl w) (by omega) (by omega) (by rw [if_neg (by omega), hr0, hen]; rfl)
    · rw [if_neg (by omega)] at hen
      refine Z_push gX8_fixes_30 (v := (1, ((97 : Nat) : Int))) rfl ?_
      refine Z_getR (b := 100) gX8_fixes_31 rfl rfl (by decide) rfl (by omega) ?_
      refine Z_push gX8_fixes_34 (v := (0, (j : Int))) rfl ?_
      refine Z_iaload gX8_fixes_35 rfl (by omega) (by omega) ?_
      refine Z_push gX8_fixes_36 (v := (1, ((97 : Nat) : Int))) rfl ?_
      refine Z_getR (b := 100) gX8_fixes_37 rfl rfl (by decide) rfl (by omega) ?_
      refine Z_push gX8_fixes_40 (v := (0, (j : Int))) rfl ?_
      refine Z_push gX8_fixes_41 (v := (0, 1)) rfl ?_
      refine Z_iadd gX8_fixes_42 ⟨by omega, by omega⟩ ?_
      refine Z_iaload gX8_fixes_43 rfl (by omega) (by omega) ?_
      refine Z_arith gX8_fixes_44 rfl rfl (v := [(0, zw32 ((w 100 ((j : Int)).toNat) + (w 100 ((j : Int) + 1).toNat)))]) rfl ?_
      refine Z_sto gX8_fixes_45 rfl (ls' := [(1, ((97 : Nat) : Int)), (0, (fdN T0 j : Int)), (0, (r : Int)), (0, (j : Int)), (0, zw32 ((w 100 ((j : Int)).toNat) + (w 100 ((j : Int) + 1).toNat)))]) (st' := []) rfl ?_
      refine Z_push gX8_fixes_47 (v := (1, ((97 : Nat) : Int))) rfl ?_
      refine Z_getR (b := 100) gX8_fixes_48 rfl rfl (by decide) rfl (by omega) ?_
      refine Z_push gX8_fixes_51 (v := (0, (j : Int))) rfl ?_
      refine Z_push gX8_fixes_52 (v := (0, (r : Int))) rfl ?_
      refine Z_push gX8_fixes_53 (v := (0, 3)) rfl ?_
      refine Z_icmp_ne gX8_fixes_54 (tgt := 74) (by decide) (fun _ => ?_) (fun h54 => absurd h54 (by omega))
      refine Z_push gX8_fixes_74 (v := (1, ((97 : Nat) : Int))) rfl ?_
      refine Z_getR (b := 100) gX8_fixes_75 rfl rfl (by decide) rfl (by omega) ?_
      refine Z_push gX8_fixes_78 (v := (0, (j : Int))) rfl ?_
      refine Z_ialoadV (v := w 100 j) gX8_fixes_79 rfl (by omega) (by omega) rfl ?_
      refine Z_iastore gX8_fixes_80 rfl (by omega) (by omega) ?_
      rw [show zup w 100 ((j : Int)).toNat (w 100 j) = w from zup_self w 100 j]
      exact away hr2 _ w S hM hS (frP.refl w) (by omega) (by omega) (by rw [if_pos (by omega), hr0, hen]; rfl)
    · exact absurd hr0 hr2
    · rw [if_neg (by omega)] at hen
      have k1 : kT S (j : Int) = 99 := (kT_nat (by omega)).trans h2
      have k2 : kT S ((j + 1 : Nat) : Int) = 99 := (kT_nat h1).trans h3
      have l1 := hM.l (k := j) (by omega) (Or.inr k1)
      have l2 := hM.l (k := j + 1) h1 (Or.inr k2)
      have b1 := len_bd hS (Or.inr k1)
      have b2 := len_bd hS (Or.inr k2)
      rw [show ((j : Int)).toNat = j from rfl] at b1
      rw [show ((j + 1 : Nat) : Int).toNat = j + 1 from rfl] at b2
      have last : ∀ v : Int, v = (if (S.2 j).2.2.1 + (S.2 (j + 1)).2.2.1 < 9 then (S.2 j).2.2.1 + (S.2 (j + 1)).2.2.1 else 9) → ∀ x : Int, Z ro 2 mX8_fixes 81 [(1, ((97 : Nat) : Int)), (0, (fdN T0 j : Int)), (0, (r : Int)), (0, (j : Int)), (0, x)] [] (zup w 100 j v) (fun r9 w' k => k = 0 ∧ ∃ o, r9 = .inl o ∧ (o = none ∧ MT w' (fxT S r j) ∧ MU w' (rwR Rs r) ∧ MD w' (nfD Ds r) ∧ frG w w')) := by
        intro v hv x
        have hM2 : MT (zup w 100 j v) (S.1, updE S.2 j ((S.2 j).1, (S.2 j).2.1, v, (S.2 j).2.2.2)) := by
          refine ⟨(zup_ne (by omega)).trans hM.1, fun q hq => ?_⟩
          have hq : q < S.1 := hq
          have b := hM.2 q hq
          show eR (zup w 100 j v) 98 99 100 101 q (if q = j then _ else S.2 q)
          by_cases e : q = j
          · subst e
            rw [if_pos rfl]
            obtain ⟨c1, c2, c3, c4⟩ := b
            exact ⟨(zup_ne (by omega)).trans c1, fun h => (zup_ne (by omega)).trans (c2 h), fun _ => zup_eq _ _ _ _, (zup_ne (by omega)).trans c4⟩
          · rw [if_neg e]
            exact eR_frame b (zup_ne (by omega)) (zup_ne (by omega)) (zup_ne (by omega)) (zup_ne (by omega))
        have hV2 : TV (S.1, updE S.2 j ((S.2 j).1, (S.2 j).2.1, v, (S.2 j).2.2.2)) := ⟨hS.1, fun q hq => by
          have hq : q < S.1 := hq
          show eV (if q = j then _ else S.2 q)
          split
          · obtain ⟨c1, c2, c3, c4⟩ := hS.2 j (by omega)
            refine ⟨c1, c2, fun _ => ?_, c4⟩
            dsimp only
            rw [hv]
            split <;> omega
          · exact hS.2 q hq⟩
        exact away hr2 x _ _ hM2 hV2 (fun a k a1 a2 => zup_ne (by omega)) (show enT T0 j < S.1 by omega) (by omega) (by rw [if_neg (by omega), hr0, hen, hv]; rfl)
      have hsum : zw32 ((S.2 j).2.2.1 + (S.2 (j + 1)).2.2.1) = (S.2 j).2.2.1 + (S.2 (j + 1)).2.2.1 := zw32_id ⟨by omega, by omega⟩
      refine Z_push gX8_fixes_30 (v := (1, ((97 : Nat) : Int))) rfl ?_
      refine Z_getR (b := 100) gX8_fixes_31 rfl rfl (by decide) rfl (by omega) ?_
      refine Z_push gX8_fixes_34 (v := (0, (j : Int))) rfl ?_
      refine Z_ialoadV (v := (S.2 j).2.2.1) gX8_fixes_35 rfl (by omega) (by omega) l1 ?_
      refine Z_push gX8_fixes_36 (v := (1, ((97 : Nat) : Int))) rfl ?_
      refine Z_getR (b := 100) gX8_fixes_37 rfl rfl (by decide) rfl (by omega) ?_
      refine Z_push gX8_fixes_40 (v := (0, (j : Int))) rfl ?_
      refine Z_push gX8_fixes_41 (v := (0, 1)) rfl ?_
      refine Z_iadd gX8_fixes_42 ⟨by omega, by omega⟩ ?_
      refine Z_ialoadV (v := (S.2 (j + 1)).2.2.1) gX8_fixes_43 rfl (by omega) (by omega) l2 ?_
      refine Z_arith gX8_fixes_44 rfl rfl (v := [(0, zw32 (((S.2 j).2.2.1) + ((S.2 (j + 1)).2.2.1)))]) rfl ?_
      refine Z_sto gX8_fixes_45 rfl (ls' := [(1, ((97 : Nat) : Int)), (0, (fdN T0 j : Int)), (0, (r : Int)), (0, (j : Int)), (0, zw32 (((S.2 j).2.2.1) + ((S.2 (j + 1)).2.2.1)))]) (st' := []) rfl ?_
      refine Z_push gX8_fixes_47 (v := (1, ((97 : Nat) : Int))) rfl ?_
      refine Z_getR (b := 100) gX8_fixes_48 rfl rfl (by decide) rfl (by omega) ?_
      refine Z_push gX8_fixes_51 (v := (0, (j : Int))) rfl ?_
      refine Z_push gX8_fixes_52 (v := (0, (r : Int))) rfl ?_
      refine Z_push gX8_fixes_53 (v := (0, 3)) rfl ?_
      refine Z_icmp_ne gX8_fixes_54 (tgt := 74) (by decide) (fun h54 => absurd h54 (by omega)) (fun _ => ?_)
      refine Z_push gX8_fixes_57 (v := (0, zw32 (((S.2 j).2.2.1) + ((S.2 (j + 1)).2.2.1)))) rfl ?_
      rw [hsum]
      refine Z_push gX8_fixes_59 (v := (0, 9)) rfl ?_
      refine Z_icmp_le gX8_fixes_61 (tgt := 69) (by decide) (fun h61 => ?_) (fun h61 => ?_)
      · refine Z_push gX8_fixes_69 (v := (0, (S.2 j).2.2.1 + (S.2 (j + 1)).2.2.1)) rfl ?_
        refine Z_goto gX8_fixes_71 (tgt := 80) (by decide) ?_
        refine Z_iastore gX8_fixes_80 rfl (by omega) (by omega) ?_
        exact last _ (by split <;> omega) _
      · refine Z_push gX8_fixes_64 (v := (0, 9)) rfl ?_
        refine Z_goto gX8_fixes_66 (tgt := 80) (by decide) ?_
        refine Z_iastore gX8_fixes_80 rfl (by omega) (by omega) ?_
        exact last _ (by split <;> omega) _
    · rw [if_pos (by omega)] at hen
      refine Z_push gX8_fixes_30 (v := (1, ((97 : Nat) : Int))) rfl ?_
      refine Z_getR (b := 100) gX8_fixes_31 rfl rfl (by decide) rfl (by omega) ?_
      refine Z_push gX8_fixes_34 (v := (0, (j : Int))) rfl ?_
      refine Z_iaload gX8_fixes_35 rfl (by omega) (by omega) ?_
      refine Z_push gX8_fixes_36 (v := (1, ((97 : Nat) : Int))) rfl ?_
      refine Z_getR (b := 100) gX8_fixes_37 rfl rfl (by decide) rfl (by omega) ?_
      refine Z_push gX8_fixes_40 (v := (0, (j : Int))) rfl ?_
      refine Z_push gX8_fixes_41 (v := (0, 1)) rfl ?_
      refine Z_iadd gX8_fixes_42 ⟨by omega, by omega⟩ ?_
      refine Z_iaload gX8_fixes_43 rfl (by omega) (by omega) ?_
      refine Z_arith gX8_fixes_44 rfl rfl (v := [(0, zw32 ((w 100 ((j : Int)).toNat) + (w 100 ((j : Int) + 1).toNat)))]) rfl ?_
      refine Z_sto gX8_fixes_45 rfl (ls' := [(1, ((97 : Nat) : Int)), (0, (fdN T0 j : Int)), (0, (r : Int)), (0, (j : Int)), (0, zw32 ((w 100 ((j : Int)).toNat) + (w 100 ((j : Int) + 1).toNat)))]) (st' := []) rfl ?_
      refine Z_push gX8_fixes_47 (v := (1, ((97 : Nat) : Int))) rfl ?_
      refine Z_getR (b := 100) gX8_fixes_48 rfl rfl (by decide) rfl (by omega) ?_
      refine Z_push gX8_fixes_51 (v := (0, (j : Int))) rfl ?_
      refine Z_push gX8_fixes_52 (v := (0, (r : Int))) rfl ?_
      refine Z_push gX8_fixes_53 (v := (0, 3)) rfl ?_
      refine Z_icmp_ne gX8_fixes_54 (tgt := 74) (by decide) (fun _ => ?_) (fun h54 => absurd h54 (by omega))
      refine Z_push gX8_fixes_74 (v := (1, ((97 : Nat) : Int))) rfl ?_
      refine Z_getR (b := 100) gX8_fixes_75 rfl rfl (by decide) rfl (by omega) ?_
      refine Z_push gX8_fixes_78 (v := (0, (j : Int))) rfl ?_
      refine Z_ialoadV (v := w 100 j) gX8_fixes_79 rfl (by omega) (by omega) rfl ?_
      refine Z_iastore gX8_fixes_80 rfl (by omega) (by omega) ?_
      rw [show zup w 100 ((j : Int)).toNat (w 100 j) = w from zup_self w 100 j]
      exact away hr2 _ w S hM hS (frP.refl w) (by omega) (by omega) (by rw [if_pos (by omega), hr0, hen]; rfl)
  · have hr2 : r = 2 := by omega
    have hj1 : j + 1 < S.1 := by rcases hK with ⟨h, -⟩ | ⟨h, -⟩ | ⟨-, h⟩ | ⟨h, -⟩ | ⟨h, -⟩ <;> omega
    refine Z_push gX8_fixes_19 (v := (1, ((97 : Nat) : Int))) rfl ?_
    refine Z_push gX8_fixes_20 (v := (0, (j : Int))) rfl ?_
    refine Z_push gX8_fixes_21 (v := (0, (j : Int))) rfl ?_
    refine Z_push gX8_fixes_22 (v := (0, 1)) rfl ?_
    refine Z_iadd gX8_fixes_23 ⟨by omega, by omega⟩ ?_
    refine Z_callE (kd := 0) (na := 3) (M' := mX8_change) gX8_fixes_24 rfl rfl rfl rfl rfl rfl (fun _ => rfl) rfl rfl (fun _ _ => zrecv_obj rfl _ _ _) (d' := 1) (by omega) (vX8_change hM hS (a := j) (b := j + 1) (by omega) hj1) ?_
    rintro o w2 ⟨rfl, g2, g3⟩
    refine Z_goto gX8_fixes_27 (tgt := 106) (by decide) ?_
    refine tail _ w2 (MT_congr g2 (by rw [hr2]; rfl) (fun q hq => ?_)) g3
    rw [hr2]
    show (if q = j + 1 then S.2 j else if q = j then S.2 (j + 1) else S.2 q) = (if q = j + 1 then S.2 j else if j ≤ q ∧ q < j + 1 then S.2 (q + 1) else if j + 1 < q ∧ q ≤ j then S.2 (q - 1) else S.2 q)
    by_cases e : q = j + 1
    · rw [if_pos e, if_pos e]
    · rw [if_neg e, if_neg e]
      by_cases e2 : q = j
      · rw [if_pos e2, if_pos (by omega), e2]
      · rw [if_neg e2, if_neg (by omega), if_neg (by omega)]
end
