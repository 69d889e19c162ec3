/-! the law's cases 20 to 29 -/
section
variable {ro : zRo} {w : zW} {T : zTx} {R : zRu} {D : zDs} {lim la B : Int} {L : Nat} {f : Nat → Int} {n q : Nat}
theorem lc_isInBest (hro : ro (-3) = some (L, f)) (hq : 4 * q + 4 ≤ L) (hL : L ≤ 2048) (hC : CR w T R D lim la) (hM : MR w T R D lim la) (hV : SV B T R D lim la) (hB : B ≤ 80000) (v6 v7 v8 : zV) (K : ∀ (v6 v7 v8 : zV) (W : zW), LI W (B + 150) → Z ro 100 mL_law 2130 [(1, -3), (1, ((0 : Nat) : Int)), (1, ((97 : Nat) : Int)), (1, ((117 : Nat) : Int)), (1, ((118 : Nat) : Int)), (0, ((4 * q : Nat) : Int)), v6, v7, v8] [] W (Qn n)) : Z ro 100 mL_law 1225 [(1, -3), (1, ((0 : Nat) : Int)), (1, ((97 : Nat) : Int)), (1, ((117 : Nat) : Int)), (1, ((118 : Nat) : Int)), (0, ((4 * q : Nat) : Int)), v6, v7, v8] [] w (Qn (n + 1)) := by
  obtain ⟨x6, y6⟩ := v6
  obtain ⟨x7, y7⟩ := v7
  obtain ⟨x8, y8⟩ := v8
  have hV1 := hV.1.1
  refine Z_push gL_law_1225 (v := (1, ((0 : Nat) : Int))) rfl ?_
  refine Z_push gL_law_1226 (v := (1, -3)) rfl ?_
  refine Z_push gL_law_1227 (v := (0, ((4 * q : Nat) : Int))) rfl ?_
  refine Z_push gL_law_1229 (v := (0, 1)) rfl ?_
  refine Z_iadd gL_law_1230 ⟨by omega, by omega⟩ ?_
  refine Z_ialoadS gL_law_1231 hro (by omega) (by omega) ?_
  refine Z_push gL_law_1232 (v := (1, ((117 : Nat) : Int))) rfl ?_
  refine Z_callL (kd := 5) (na := 3) (M' := mL_isInBest) gL_law_1233 rfl rfl rfl rfl rfl rfl (fun _ => rfl) rfl rfl (fun _ _ => rfl) (d' := 7) (by omega) (wL_isInBest (f (((4 * q : Nat) : Int) + 1).toNat) (b2i_01 _) (rP_m (uX7_isInBest hC hV (f (((4 * q : Nat) : Int) + 1).toNat))) (by unfold cdFnd; (repeat' split) <;> omega) (stab_CR 117 (by omega))) ?_
  rintro c9 w2 ⟨rfl, c1, c0, cf⟩
  refine Z_mono (Q' := Qn n) ?_ (fun r w' k h e he => ⟨by have := h.1; omega, h.2⟩)
  have hM2 : MR w2 T R D lim la := MR_out hM (fun a k h1 h2 => cf a k h1 h2)
  refine Z_sto gL_law_1236 rfl (ls' := [(1, -3), (1, ((0 : Nat) : Int)), (1, ((97 : Nat) : Int)), (1, ((117 : Nat) : Int)), (1, ((118 : Nat) : Int)), (0, ((4 * q : Nat) : Int)), (0, ((cdFnd T (f (((4 * q : Nat) : Int) + 1).toNat) : Nat) : Int)), (x7, y7), (x8, y8)]) (st' := []) rfl ?_
  refine Z_push gL_law_1238 (v := (1, ((97 : Nat) : Int))) rfl ?_
  refine Z_push gL_law_1239 (v := (1, -3)) rfl ?_
  refine Z_push gL_law_1240 (v := (0, ((4 * q : Nat) : Int))) rfl ?_
  refine Z_push gL_law_1242 (v := (0, 1)) rfl ?_
  refine Z_iadd gL_law_1243 ⟨by omega, by omega⟩ ?_
  refine Z_ialoadS gL_law_1244 hro (by omega) (by omega) ?_
  refine Z_callE (kd := 0) (na := 2) (M' := mX8_isInBest) gL_law_1245 rfl rfl rfl rfl rfl rfl (fun _ => rfl) rfl rfl (fun _ _ => zrecv_obj rfl _ _ _) (d' := 3) (by omega) ((rM_m (mX8w_isInBest hM2 hV (f (((4 * q : Nat) : Int) + 1).toNat)))) ?_
  rintro o w3 ⟨⟨b, rfl, hb⟩, ht, m1, m0, mf⟩
  refine Z_sto gL_law_1248 rfl (ls' := [(1, -3), (1, ((0 : Nat) : Int)), (1, ((97 : Nat) : Int)), (1, ((117 : Nat) : Int)), (1, ((118 : Nat) : Int)), (0, ((4 * q : Nat) : Int)), (0, ((cdFnd T (f (((4 * q : Nat) : Int) + 1).toNat) : Nat) : Int)), (0, b), (x8, y8)]) (st' := []) rfl ?_
  refine Z_push gL_law_1250 (v := (1, ((97 : Nat) : Int))) rfl ?_
  refine Z_callP (kd := 0) (na := 1) (M' := mX8_thrown) gL_law_1251 rfl rfl rfl rfl rfl rfl (fun _ => rfl) rfl rfl (fun _ _ => zrecv_obj rfl _ _ _) (d' := 0) (by omega) (vX8_thrown _ ht) ?_
  refine Z_push gL_law_1254 (v := (0, ((cdFnd T (f (((4 * q : Nat) : Int) + 1).toNat) : Nat) : Int))) rfl ?_
  refine Z_icmp_eq gL_law_1256 (tgt := 1261) (by decide) (fun _ => ?_) (fun h1256 => absurd h1256 (by omega))
  refine Z_push gL_law_1261 (v := (0, ((cdFnd T (f (((4 * q : Nat) : Int) + 1).toNat) : Nat) : Int))) rfl ?_
  refine Z_if_ne gL_law_1263 (tgt := 1285) (by decide) (fun h1263 => ?_) (fun h1263 => ?_)
  · refine Z_goto gL_law_1285 (tgt := 2130) (by decide) ?_
    exact K _ _ _ w3 ⟨_, _, _, _, _, CR_97 (c0 (by omega)) (fun a k ha => mf a k (by omega)), m0 (by omega), SV_same hV⟩
  · have hc : cdFnd T (f (((4 * q : Nat) : Int) + 1).toNat) = 0 := by omega
    have hb := hb hc
    have hv01 : b2i (bsT T R (feT T (f (((4 * q : Nat) : Int) + 1).toNat).toNat)) = 0 ∨ b2i (bsT T R (feT T (f (((4 * q : Nat) : Int) + 1).toNat).toNat)) = 1 := (b2i_01 _)
    have hout : w3 117 0 = b2i (bsT T R (feT T (f (((4 * q : Nat) : Int) + 1).toNat).toNat)) := (mf _ _ (by omega)).trans (c1 hc).2
    rw [← hb] at hout hv01
    refine Z_push gL_law_1266 (v := (1, ((117 : Nat) : Int))) rfl ?_
    refine Z_push gL_law_1267 (v := (0, 0)) rfl ?_
    refine Z_laloadV (v := b) gL_law_1268 rfl (by omega) (by omega) hout ?_
    refine Z_push gL_law_1269 (v := (0, b)) rfl ?_
    refine Z_if_eq gL_law_1271 (tgt := 1278) (by decide) (fun h1271 => ?_) (fun h1271 => ?_)
    · rw [h1271]
      refine Z_push gL_law_1278 (v := (2, 0)) rfl ?_
      refine Z_arith gL_law_1279 rfl rfl (v := [(0, 0)]) (lcmp_self _ 0) ?_
      refine Z_if_eq gL_law_1280 (tgt := 1285) (by decide) (fun _ => ?_) (fun h1280 => absurd h1280 (by omega))
      refine Z_goto gL_law_1285 (tgt := 2130) (by decide) ?_
      exact K _ _ _ w3 ⟨_, _, _, _, _, CR_97 (c1 hc).1 (fun a k ha => mf a k (by omega)), m1 hc, SV_same hV⟩
    · rw [show b = 1 by omega]
      refine Z_push gL_law_1274 (v := (2, 1)) rfl ?_
      refine Z_goto gL_law_1275 (tgt := 1279) (by decide) ?_
      refine Z_arith gL_law_1279 rfl rfl (v := [(0, 0)]) (lcmp_self _ 1) ?_
      refine Z_if_eq gL_law_1280 (tgt := 1285) (by decide) (fun _ => ?_) (fun h1280 => absurd h1280 (by omega))
      refine Z_goto gL_law_1285 (tgt := 2130) (by decide) ?_
      exact K _ _ _ w3 ⟨_, _, _, _, _, CR_97 (c1 hc).1 (fun a k ha => mf a k (by omega)), m1 hc, SV_same hV⟩
theorem lc_fix (hro : ro (-3) = some (L, f)) (hq : 4 * q + 4 ≤ L) (hL : L ≤ 2048) (hC : CR w T R D lim la) (hM : MR w T R D lim la) (hV : SV B T R D lim la) (hB : B ≤ 80000) (v6 v7 v8 : zV) (K : ∀ (v6 v7 v8 : zV) (W : zW), LI W (B + 150) → Z ro 100 mL_law 2130 [(1, -3), (1, ((0 : Nat) : Int)), (1, ((97 : Nat) : Int)), (1, ((117 : Nat) : Int)), (1, ((118 : Nat) : Int)), (0, ((4 * q : Nat) : Int)), v6, v7, v8] [] W (Qn n)) : Z ro 100 mL_law 1288 [(1, -3), (1, ((0 : Nat) : Int)), (1, ((97 : Nat) : Int)), (1, ((117 : Nat) : Int)), (1, ((118 : Nat) : Int)), (0, ((4 * q : Nat) : Int)), v6, v7, v8] [] w (Qn (n + 1)) := by
  obtain ⟨x6, y6⟩ := v6
  obtain ⟨x7, y7⟩ := v7
  obtain ⟨x8, y8⟩ := v8
  have hV1 := hV.1.1
  refine Z_push gL_law_1288 (v := (1, ((0 : Nat) : Int))) rfl ?_
  refine Z_push gL_law_1289 (v := (1, -3)) rfl ?_
  refine Z_push gL_law_1290 (v := (0, ((4 * q : Nat) : Int))) rfl ?_
  refine Z_push gL_law_1292 (v := (0, 1)) rfl ?_
  refine Z_iadd gL_law_1293 ⟨by omega, by omega⟩ ?_
  refine Z_ialoadS gL_law_1294 hro (by omega) (by omega) ?_
  refine Z_push gL_law_1295 (v := (1, ((117 : Nat) : Int))) rfl ?_
  refine Z_callL (kd := 5) (na := 3) (M' := mL_fix) gL_law_1296 rfl rfl rfl rfl rfl rfl (fun _ => rfl) rfl rfl (fun _ _ => rfl) (d' := 8) (by omega) (wL_fix (f (((4 * q : Nat) : Int) + 1).toNat)  (uX7_fix hC hV (f (((4 * q : Nat) : Int) + 1).toNat) (by omega)) (by unfold cdFix; (repeat' split) <;> omega) (stab_CR 117 (by omega))) ?_
  rintro c9 w2 ⟨rfl, c1, c0, cf⟩
  refine Z_mono (Q' := Qn n) ?_ (fun r w' k h e he => ⟨by have := h.1; omega, h.2⟩)
  have hM2 : MR w2 T R D lim la := MR_out hM (fun a k h1 h2 => cf a k h1 h2)
  refine Z_sto gL_law_1299 rfl (ls' := [(1, -3), (1, ((0 : Nat) : Int)), (1, ((97 : Nat) : Int)), (1, ((117 : Nat) : Int)), (1, ((118 : Nat) : Int)), (0, ((4 * q : Nat) : Int)), (0, ((cdFix T R (f (((4 * q : Nat) : Int) + 1).toNat) : Nat) : Int)), (x7, y7), (x8, y8)]) (st' := []) rfl ?_
  refine Z_push gL_law_1301 (v := (1, ((97 : Nat) : Int))) rfl ?_
  refine Z_push gL_law_1302 (v := (1, -3)) rfl ?_
  refine Z_push gL_law_1303 (v := (0, ((4 * q : Nat) : Int))) rfl ?_
  refine Z_push gL_law_1305 (v := (0, 1)) rfl ?_
  refine Z_iadd gL_law_1306 ⟨by omega, by omega⟩ ?_
  refine Z_ialoadS gL_law_1307 hro (by omega) (by omega) ?_
  refine Z_callE (kd := 0) (na := 2) (M' := mX8_fix) gL_law_1308 rfl rfl rfl rfl rfl rfl (fun _ => rfl) rfl rfl (fun _ _ => zrecv_obj rfl _ _ _) (d' := 3) (by omega) ((mX8w_fix hM2 hV (f (((4 * q : Nat) : Int) + 1).toNat) (by omega))) ?_
  rintro o w3 ⟨⟨b, rfl, hb⟩, ht, m1, m0, mf⟩
  refine Z_sto gL_law_1311 rfl (ls' := [(1, -3), (1, ((0 : Nat) : Int)), (1, ((97 : Nat) : Int)), (1, ((117 : Nat) : Int)), (1, ((118 : Nat) : Int)), (0, ((4 * q : Nat) : Int)), (0, ((cdFix T R (f (((4 * q : Nat) : Int) + 1).toNat) : Nat) : Int)), (0, b), (x8, y8)]) (st' := []) rfl ?_
  refine Z_push gL_law_1313 (v := (1, ((97 : Nat) : Int))) rfl ?_
  refine Z_callP (kd := 0) (na := 1) (M' := mX8_thrown) gL_law_1314 rfl rfl rfl rfl rfl rfl (fun _ => rfl) rfl rfl (fun _ _ => zrecv_obj rfl _ _ _) (d' := 0) (by omega) (vX8_thrown _ ht) ?_
  refine Z_push gL_law_1317 (v := (0, ((cdFix T R (f (((4 * q : Nat) : Int) + 1).toNat) : Nat) : Int))) rfl ?_
  refine Z_icmp_eq gL_law_1319 (tgt := 1324) (by decide) (fun _ => ?_) (fun h1319 => absurd h1319 (by omega))
  refine Z_push gL_law_1324 (v := (0, ((cdFix T R (f (((4 * q : Nat) : Int) + 1).toNat) : Nat) : Int))) rfl ?_
  refine Z_if_ne gL_law_1326 (tgt := 1341) (by decide) (fun h1326 => ?_) (fun h1326 => ?_)
  · refine Z_goto gL_law_1341 (tgt := 2130) (by decide) ?_
    exact K _ _ _ w3 ⟨_, _, _, _, _, CR_97 (c0 (by omega)) (fun a k ha => mf a k (by omega)), m0 (by omega), SV_same hV⟩
  · have hc : cdFix T R (f (((4 * q : Nat) : Int) + 1).toNat) = 0 := by omega
    have hb := hb hc
    have hout : w3 117 0 = ((fxT T (rlT T (feT T (f (((4 * q : Nat) : Int) + 1).toNat).toNat)).toNat (feT T (f (((4 * q : Nat) : Int) + 1).toNat).toNat)).1 : Int) := (mf _ _ (by omega)).trans (c1 hc).2
    rw [← hb] at hout
    refine Z_push gL_law_1329 (v := (1, ((117 : Nat) : Int))) rfl ?_
    refine Z_push gL_law_1330 (v := (0, 0)) rfl ?_
    refine Z_laloadV (v := b) gL_law_1331 rfl (by omega) (by omega) hout ?_
    refine Z_push gL_law_1332 (v := (0, b)) rfl ?_
    refine Z_arith gL_law_1334 rfl rfl (v := [(2, b), (2, b)]) rfl ?_
    refine Z_arith gL_law_1335 rfl rfl (v := [(0, 0)]) (lcmp_self _ b) ?_
    refine Z_if_eq gL_law_1336 (tgt := 1341) (by decide) (fun _ => ?_) (fun h1336 => absurd h1336 (by omega))
    refine Z_goto gL_law_1341 (tgt := 2130) (by decide) ?_
    exact K _ _ _ w3 ⟨_, _, _, _, _, CR_97 (c1 hc).1 (fun a k ha => mf a k (by omega)), m1 hc, SVx_fix hV hc⟩
theorem lc_fixBest (hro : ro (-3) = some (L, f)) (hq : 4 * q + 4 ≤ L) (hL : L ≤ 2048) (hC : CR w T R D lim la) (hM : MR w T R D lim la) (hV : SV B T R D lim la) (hB : B ≤ 80000) (v6 v7 v8 : zV) (K : ∀ (v6 v7 v8 : zV) (W : zW), LI W (B + 150) → Z ro 100 mL_law 2130 [(1, -3), (1, ((0 : Nat) : Int)), (1, ((97 : Nat) : Int)), (1, ((117 : Nat) : Int)), (1, ((118 : Nat) : Int)), (0, ((4 * q : Nat) : Int)), v6, v7, v8] [] W (Qn n)) : Z ro 100 mL_law 1344 [(1, -3), (1, ((0 : Nat) : Int)), (1, ((97 : Nat) : Int)), (1, ((117 : Nat) : Int)), (1, ((118 : Nat) : Int)), (0, ((4 * q : Nat) : Int)), v6, v7, v8] [] w (Qn (n + 1)) := by
  obtain ⟨x6, y6⟩ := v6
  obtain ⟨x7, y7⟩ := v7
  obtain ⟨x8, y8⟩ := v8
  have hV1 := hV.1.1
  refine Z_push gL_law_1344 (v := (1, ((0 : Nat) : Int))) rfl ?_
  refine Z_push gL_law_1345 (v := (1, ((117 : Nat) : Int))) rfl ?_
  refine Z_callL (kd := 5) (na := 2) (M' := mL_fixBest) gL_law_1346 rfl rfl rfl rfl rfl rfl (fun _ => rfl) rfl rfl (fun _ _ => rfl) (d' := 8) (by omega) (wL_fixBest  (uX7_fixBest hC hV (by omega)) (by unfold cdFB; (repeat' split) <;> omega) (stab_CR 117 (by omega))) ?_
  rintro c9 w2 ⟨rfl, c1, c0, cf⟩
  refine Z_mono (Q' := Qn n) ?_ (fun r w' k h e he => ⟨by have := h.1; omega, h.2⟩)
  have hM2 : MR w2 T R D lim la := MR_out hM (fun a k h1 h2 => cf a k h1 h2)
  refine Z_sto gL_law_1349 rfl (ls' := [(1, -3), (1, ((0 : Nat) : Int)), (1, ((97 : Nat) : Int)), (1, ((117 : Nat) : Int)), (1, ((118 : Nat) : Int)), (0, ((4 * q : Nat) : Int)), (0, ((cdFB T R : Nat) : Int)), (x7, y7), (x8, y8)]) (st' := []) rfl ?_
  refine Z_push gL_law_1351 (v := (1, ((97 : Nat) : Int))) rfl ?_
  refine Z_callE (kd := 0) (na := 1) (M' := mX8_fixBest) gL_law_1352 rfl rfl rfl rfl rfl rfl (fun _ => rfl) rfl rfl (fun _ _ => zrecv_obj rfl _ _ _) (d' := 3) (by omega) ((mX8w_fixBest hM2 hV (by omega))) ?_
  rintro o w3 ⟨⟨b, rfl, hb⟩, ht, m1, m0, mf⟩
  refine Z_sto gL_law_1355 rfl (ls' := [(1, -3), (1, ((0 : Nat) : Int)), (1, ((97 : Nat) : Int)), (1, ((117 : Nat) : Int)), (1, ((118 : Nat) : Int)), (0, ((4 * q : Nat) : Int)), (0, ((cdFB T R : Nat) : Int)), (0, b), (x8, y8)]) (st' := []) rfl ?_
  refine Z_push gL_law_1357 (v := (1, ((97 : Nat) : Int))) rfl ?_
  refine Z_callP (kd := 0) (na := 1) (M' := mX8_thrown) gL_law_1358 rfl rfl rfl rfl rfl rfl (fun _ => rfl) rfl rfl (fun _ _ => zrecv_obj rfl _ _ _) (d' := 0) (by omega) (vX8_thrown _ ht) ?_
  refine Z_push gL_law_1361 (v := (0, ((cdFB T R : Nat) : Int))) rfl ?_
  refine Z_icmp_eq gL_law_1363 (tgt := 1368) (by decide) (fun _ => ?_) (fun h1363 => absurd h1363 (by omega))
  refine Z_push gL_law_1368 (v := (0, ((cdFB T R : Nat) : Int))) rfl ?_
  refine Z_if_ne gL_law_1370 (tgt := 1385) (by decide) (fun h1370 => ?_) (fun h1370 => ?_)
  · refine Z_goto gL_law_1385 (tgt := 2130) (by decide) ?_
    exact K _ _ _ w3 ⟨_, _, _, _, _, CR_97 (c0 (by omega)) (fun a k ha => mf a k (by omega)), m0 (by omega), SV_same hV⟩
  · have hc : cdFB T R = 0 := by omega
    have hb := hb hc
    have hout : w3 117 0 = (bcK T R 0 : Int) := (mf _ _ (by omega)).trans (c1 hc).2
    rw [← hb] at hout
    refine Z_push gL_law_1373 (v := (1, ((117 : Nat) : Int))) rfl ?_
    refine Z_push gL_law_1374 (v := (0, 0)) rfl ?_
    refine Z_laloadV (v := b) gL_law_1375 rfl (by omega) (by omega) hout ?_
    refine Z_push gL_law_1376 (v := (0, b)) rfl ?_
    refine Z_arith gL_law_1378 rfl rfl (v := [(2, b), (2, b)]) rfl ?_
    refine Z_arith gL_law_1379 rfl rfl (v := [(0, 0)]) (lcmp_self _ b) ?_
    refine Z_if_eq gL_law_1380 (tgt := 1385) (by decide) (fun _ => ?_) (fun h1380 => absurd h1380 (by omega))
    refine Z_goto gL_law_1385 (tgt := 2130) (by decide) ?_
    exact K _ _ _ w3 ⟨_, _, _, _, _, CR_97 (c1 hc).1 (fun a k ha => mf a k (by omega)), m1 hc, SV_fixes hV⟩
theorem lc_rename (hro : ro (-3) = some (L, f)) (hq : 4 * q + 4 ≤ L) (hL : L ≤ 2048) (hC : CR w T R D lim la) (hM : MR w T R D lim la) (hV : SV B T R D lim la) (hB : B ≤ 80000) (v6 v7 v8 : zV) (K : ∀ (v6 v7 v8 : zV) (W : zW), LI W (B + 150) → Z ro 100 mL_law 2130 [(1, -3), (1, ((0 : Nat) : Int)), (1, ((97 : Nat) : Int)), (1, ((117 : Nat) : Int)), (1, ((118 : Nat) : Int)), (0, ((4 * q : Nat) : Int)), v6, v7, v8] [] W (Qn n)) : Z ro 100 mL_law 1388 [(1, -3), (1, ((0 : Nat) : Int)), (1, ((97 : Nat) : Int)), (1, ((117 : Nat) : Int)), (1, ((118 : Nat) : Int)), (0, ((4 * q : Nat) : Int)), v6, v7, v8] [] w (Qn (n + 1)) := by
  obtain ⟨x6, y6⟩ := v6
  obtain ⟨x7, y7⟩ := v7
  obtain ⟨x8, y8⟩ := v8
  have hV1 := hV.1.1
  refine Z_push gL_law_1388 (v := (1, ((0 : Nat) : Int))) rfl ?_
  refine Z_push gL_law_1389 (v := (1, -3)) rfl ?_
  refine Z_push gL_law_1390 (v := (0, ((4 * q : Nat) : Int))) rfl ?_
  refine Z_push gL_law_1392 (v := (0, 1)) rfl ?_
  refine Z_iadd gL_law_1393 ⟨by omega, by omega⟩ ?_
  refine Z_ialoadS gL_law_1394 hro (by omega) (by omega) ?_
  refine Z_push gL_law_1395 (v := (1, -3)) rfl ?_
  refine Z_push gL_law_1396 (v := (0, ((4 * q : Nat) : Int))) rfl ?_
  refine Z_push gL_law_1398 (v := (0, 2)) rfl ?_
  refine Z_iadd gL_law_1399 ⟨by omega, by omega⟩ ?_
  refine Z_ialoadS gL_law_1400 hro (by omega) (by omega) ?_
  refine Z_push gL_law_1401 (v := (1, ((117 : Nat) : Int))) rfl ?_
  refine Z_callL (kd := 5) (na := 4) (M' := mL_rename) gL_law_1402 rfl rfl rfl rfl rfl rfl (fun _ => rfl) rfl rfl (fun _ _ => rfl) (d' := 8) (by omega) (wL_rename (f (((4 * q : Nat) : Int) + 1).toNat) (f (((4 * q : Nat) : Int) + 2).toNat)  (uX7_rename hC hV (f (((4 * q : Nat) : Int) + 1).toNat) (f (((4 * q : Nat) : Int) + 2).toNat)) (by unfold cdRen; (repeat' split) <;> omega) (stab_CR 117 (by omega))) ?_
  rintro c9 w2 ⟨rfl, c1, c0, cf⟩
  refine Z_mono (Q' := Qn n) ?_ (fun r w' k h e he => ⟨by have := h.1; omega, h.2⟩)
  have hM2 : MR w2 T R D lim la := MR_out hM (fun a k h1 h2 => cf a k h1 h2)
  refine Z_sto gL_law_1405 rfl (ls' := [(1, -3), (1, ((0 : Nat) : Int)), (1, ((97 : Nat) : Int)), (1, ((117 : Nat) : Int)), (1, ((118 : Nat) : Int)), (0, ((4 * q : Nat) : Int)), (0, ((cdRen T (f (((4 * q : Nat) : Int) + 1).toNat) (f (((4 * q : Nat) : Int) + 2).toNat) : Nat) : Int)), (x7, y7), (x8, y8)]) (st' := []) rfl ?_
  refine Z_push gL_law_1407 (v := (1, ((97 : Nat) : Int))) rfl ?_
  refine Z_push gL_law_1408 (v := (1, -3)) rfl ?_
  refine Z_push gL_law_1409 (v := (0, ((4 * q : Nat) : Int))) rfl ?_
  refine Z_push gL_law_1411 (v := (0, 1)) rfl ?_
  refine Z_iadd gL_law_1412 ⟨by omega, by omega⟩ ?_
  refine Z_ialoadS gL_law_1413 hro (by omega) (by omega) ?_
  refine Z_push gL_law_1414 (v := (1, -3)) rfl ?_
  refine Z_push gL_law_1415 (v := (0, ((4 * q : Nat) : Int))) rfl ?_
  refine Z_push gL_law_1417 (v := (0, 2)) rfl ?_
  refine Z_iadd gL_law_1418 ⟨by omega, by omega⟩ ?_
  refine Z_ialoadS gL_law_1419 hro (by omega) (by omega) ?_
  refine Z_callE (kd := 0) (na := 3) (M' := mX8_rename) gL_law_1420 rfl rfl rfl rfl rfl rfl (fun _ => rfl) rfl rfl (fun _ _ => zrecv_obj rfl _ _ _) (d' := 2) (by omega) ((mX8w_rename hM2 hV (f (((4 * q : Nat) : Int) + 1).toNat) (f (((4 * q : Nat) : Int) + 2).toNat))) ?_
  rintro o w3 ⟨⟨b, rfl, hb⟩, ht, m1, m0, mf⟩
  refine Z_sto gL_law_1423 rfl (ls' := [(1, -3), (1, ((0 : Nat) : Int)), (1, ((97 : Nat) : Int)), (1, ((117 : Nat) : Int)), (1, ((118 : Nat) : Int)), (0, ((4 * q : Nat) : Int)), (0, ((cdRen T (f (((4 * q : Nat) : Int) + 1).toNat) (f (((4 * q : Nat) : Int) + 2).toNat) : Nat) : Int)), (0, b), (x8, y8)]) (st' := []) rfl ?_
  refine Z_push gL_law_1425 (v := (1, ((97 : Nat) : Int))) rfl ?_
  refine Z_callP (kd := 0) (na := 1) (M' := mX8_thrown) gL_law_1426 rfl rfl rfl rfl rfl rfl (fun _ => rfl) rfl rfl (fun _ _ => zrecv_obj rfl _ _ _) (d' := 0) (by omega) (vX8_thrown _ ht) ?_
  refine Z_push gL_law_1429 (v := (0, ((cdRen T (f (((4 * q : Nat) : Int) + 1).toNat) (f (((4 * q : Nat) : Int) + 2).toNat) : Nat) : Int))) rfl ?_
  refine Z_icmp_eq gL_law_1431 (tgt := 1436) (by decide) (fun _ => ?_) (fun h1431 => absurd h1431 (by omega))
  refine Z_push gL_law_1436 (v := (0, ((cdRen T (f (((4 * q : Nat) : Int) + 1).toNat) (f (((4 * q : Nat) : Int) + 2).toNat) : Nat) : Int))) rfl ?_
  refine Z_if_ne gL_law_1438 (tgt := 1453) (by decide) (fun h1438 => ?_) (fun h1438 => ?_)
  · refine Z_goto gL_law_1453 (tgt := 2130) (by decide) ?_
    exact K _ _ _ w3 ⟨_, _, _, _, _, CR_97 (c0 (by omega)) (fun a k ha => mf a k (by omega)), m0 (by omega), SV_same hV⟩
  · have hc : cdRen T (f (((4 * q : Nat) : Int) + 1).toNat) (f (((4 * q : Nat) : Int) + 2).toNat) = 0 := by omega
    have hb := hb hc
    have hout : w3 117 0 = tmT T (f (((4 * q : Nat) : Int) + 1).toNat) T.1 := (mf _ _ (by omega)).trans (c1 hc).2
    rw [← hb] at hout
    refine Z_push gL_law_1441 (v := (1, ((117 : Nat) : Int))) rfl ?_
    refine Z_push gL_law_1442 (v := (0, 0)) rfl ?_
    refine Z_laloadV (v := b) gL_law_1443 rfl (by omega) (by omega) hout ?_
    refine Z_push gL_law_1444 (v := (0, b)) rfl ?_
    refine Z_arith gL_law_1446 rfl rfl (v := [(2, b), (2, b)]) rfl ?_
    refine Z_arith gL_law_1447 rfl rfl (v := [(0, 0)]) (lcmp_self _ b) ?_
    refine Z_if_eq gL_law_1448 (tgt := 1453) (by decide) (fun _ => ?_) (fun h1448 => absurd h1448 (by omega))
    refine Z_goto gL_law_1453 (tgt := 2130) (by decide) ?_
    exact K _ _ _ w3 ⟨_, _, _, _, _, CR_97 (c1 hc).1 (fun a k ha => mf a k (by omega)), m1 hc, SVx_ren hV hc⟩
theorem lc_move (hro : ro (-3) = some (L, f)) (hq : 4 * q + 4 ≤ L) (hL : L ≤ 2048) (hC : CR w T R D lim la) (hM : MR w T R D lim la) (hV : SV B T R D lim la) (hB : B ≤ 80000) (v6 v7 v8 : zV) (K : ∀ (v6 v7 v8 : zV) (W : zW), LI W (B + 150) → Z ro 100 mL_law 2130 [(1, -3), (1, ((0 : Nat) : Int)), (1, ((97 : Nat) : Int)), (1, ((117 : Nat) : Int)), (1, ((118 : Nat) : Int)), (0, ((4 * q : Nat) : Int)), v6, v7, v8] [] W (Qn n)) : Z ro 100 mL_law 1456 [(1, -3), (1, ((0 : Nat) : Int)), (1, ((97 : Nat) : Int)), (1, ((117 : Nat) : Int)), (1, ((118 : Nat) : Int)), (0, ((4 * q : Nat) : Int)), v6, v7, v8] [] w (Qn (n + 1)) := by
  obtain ⟨x6, y6⟩ := v6
  obtain ⟨x7, y7⟩ := v7
  obtain ⟨x8, y8⟩ := v8
  have hV1 := hV.1.1
  refine Z_push gL_law_1456 (v := (1, ((0 : Nat) : Int))) rfl ?_
  refine Z_push gL_law_1457 (v := (1, -3)) rfl ?_
  refine Z_push gL_law_1458 (v := (0, ((4 * q : Nat) : Int))) rfl ?_
  refine Z_push gL_law_1460 (v := (0, 1)) rfl ?_
  refine Z_iadd gL_law_1461 ⟨by omega, by omega⟩ ?_
  refine Z_ialoadS gL_law_1462 hro (by omega) (by omega) ?_
  refine Z_push gL_law_1463 (v := (1, -3)) rfl ?_
  refine Z_push gL_law_1464 (v := (0, ((4 * q : Nat) : Int))) rfl ?_
  refine Z_push gL_law_1466 (v := (0, 2)) rfl ?_
  refine Z_iadd gL_law_1467 ⟨by omega, by omega⟩ ?_
  refine Z_ialoadS gL_law_1468 hro (by omega) (by omega) ?_
  refine Z_push gL_law_1469 (v := (1, ((117 : Nat) : Int))) rfl ?_
  refine Z_callL (kd := 5) (na := 4) (M' := mL_move) gL_law_1470 rfl rfl rfl rfl rfl rfl (fun _ => rfl) rfl rfl (fun _ _ => rfl) (d' := 8) (by omega) (wL_move (f (((4 * q : Nat) : Int) + 1).toNat) (f (((4 * q : Nat) : Int) + 2).toNat)  (uX7_move hC hV (f (((4 * q : Nat) : Int) + 1).toNat) (f (((4 * q : Nat) : Int) + 2).toNat)) (by unfold cdMv; (repeat' split) <;> omega) (stab_CR 117 (by omega))) ?_
  rintro c9 w2 ⟨rfl, c1, c0, cf⟩
  refine Z_mono (Q' := Qn n) ?_ (fun r w' k h e he => ⟨by have := h.1; omega, h.2⟩)
  have hM2 : MR w2 T R D lim la := MR_out hM (fun a k h1 h2 => cf a k h1 h2)
  refine Z_sto gL_law_1473 rfl (ls' := [(1, -3), (1, ((0 : Nat) : Int)), (1, ((97 : Nat) : Int)), (1, ((117 : Nat) : Int)), (1, ((118 : Nat) : Int)), (0, ((4 * q : Nat) : Int)), (0, ((cdMv T (f (((4 * q : Nat) : Int) + 1).toNat) (f (((4 * q : Nat) : Int) + 2).toNat) : Nat) : Int)), (x7, y7), (x8, y8)]) (st' := []) rfl ?_
  refine Z_push gL_law_1475 (v := (1, ((97 : Nat) : Int))) rfl ?_
  refine Z_push gL_law_1476 (v := (1, -3)) rfl ?_
  refine Z_push gL_law_1477 (v := (0, ((4 * q : Nat) : Int))) rfl ?_
  refine Z_push gL_law_1479 (v := (0, 1)) rfl ?_
  refine Z_iadd gL_law_1480 ⟨by omega, by omega⟩ ?_
  refine Z_ialoadS gL_law_1481 hro (by omega) (by omega) ?_
  refine Z_push gL_law_1482 (v := (1, -3)) rfl ?_
  refine Z_push gL_law_1483 (v := (0, ((4 * q : Nat) : Int))) rfl ?_
  refine Z_push gL_law_1485 (v := (0, 2)) rfl ?_
  refine Z_iadd gL_law_1486 ⟨by omega, by omega⟩ ?_
  refine Z_ialoadS gL_law_1487 hro (by omega) (by omega) ?_
  refine Z_callE (kd := 0) (na := 3) (M' := mX8_move) gL_law_1488 rfl rfl rfl rfl rfl rfl (fun _ => rfl) rfl rfl (fun _ _ => zrecv_obj rfl _ _ _) (d' := 2) (by omega) ((mX8w_move hM2 hV (f (((4 * q : Nat) : Int) + 1).toNat) (f (((4 * q : Nat) : Int) + 2).toNat))) ?_
  rintro o w3 ⟨⟨b, rfl, hb⟩, ht, m1, m0, mf⟩
  refine Z_sto gL_law_1491 rfl (ls' := [(1, -3), (1, ((0 : Nat) : Int)), (1, ((97 : Nat) : Int)), (1, ((117 : Nat) : Int)), (1, ((118 : Nat) : Int)), (0, ((4 * q : Nat) : Int)), (0, ((cdMv T (f (((4 * q : Nat) : Int) + 1).toNat) (f (((4 * q : Nat) : Int) + 2).toNat) : Nat) : Int)), (0, b), (x8, y8)]) (st' := []) rfl ?_
  refine Z_push gL_law_1493 (v := (1, ((97 : Nat) : Int))) rfl ?_
  refine Z_callP (kd := 0) (na := 1) (M' := mX8_thrown) gL_law_1494 rfl rfl rfl rfl rfl rfl (fun _ => rfl) rfl rfl (fun _ _ => zrecv_obj rfl _ _ _) (d' := 0) (by omega) (vX8_thrown _ ht) ?_
  refine Z_push gL_law_1497 (v := (0, ((cdMv T (f (((4 * q : Nat) : Int) + 1).toNat) (f (((4 * q : Nat) : Int) + 2).toNat) : Nat) : Int))) rfl ?_
  refine Z_icmp_eq gL_law_1499 (tgt := 1504) (by decide) (fun _ => ?_) (fun h1499 => absurd h1499 (by omega))
  refine Z_push gL_law_1504 (v := (0, ((cdMv T (f (((4 * q : Nat) : Int) + 1).toNat) (f (((4 * q : Nat) : Int) + 2).toNat) : Nat) : Int))) rfl ?_
  refine Z_if_ne gL_law_1506 (tgt := 1521) (by decide) (fun h1506 => ?_) (fun h1506 => ?_)
  · refine Z_goto gL_law_1521 (tgt := 2130) (by decide) ?_
    exact K _ _ _ w3 ⟨_, _, _, _, _, CR_97 (c0 (by omega)) (fun a k ha => mf a k (by omega)), m0 (by omega), SV_same hV⟩
  · have hc : cdMv T (f (((4 * q : Nat) : Int) + 1).toNat) (f (((4 * q : Nat) : Int) + 2).toNat) = 0 := by omega
    have hb := hb hc
    have hout : w3 117 0 = mvHi (f (((4 * q : Nat) : Int) + 1).toNat) (f (((4 * q : Nat) : Int) + 2).toNat) - mvLo (f (((4 * q : Nat) : Int) + 1).toNat) (f (((4 * q : Nat) : Int) + 2).toNat) := (mf _ _ (by omega)).trans (c1 hc).2
    rw [← hb] at hout
    refine Z_push gL_law_1509 (v := (1, ((117 : Nat) : Int))) rfl ?_
    refine Z_push gL_law_1510 (v := (0, 0)) rfl ?_
    refine Z_laloadV (v := b) gL_law_1511 rfl (by omega) (by omega) hout ?_
    refine Z_push gL_law_1512 (v := (0, b)) rfl ?_
    refine Z_arith gL_law_1514 rfl rfl (v := [(2, b), (2, b)]) rfl ?_
    refine Z_arith gL_law_1515 rfl rfl (v := [(0, 0)]) (lcmp_self _ b) ?_
    refine Z_if_eq gL_law_1516 (tgt := 1521) (by decide) (fun _ => ?_) (fun h1516 => absurd h1516 (by omega))
    refine Z_goto gL_law_1521 (tgt := 2130) (by decide) ?_
    exact K _ _ _ w3 ⟨_, _, _, _, _, CR_97 (c1 hc).1 (fun a k ha => mf a k (by omega)), m1 hc, SVx_mv hV hc⟩
theorem lc_undo (hro : ro (-3) = some (L, f)) (hq : 4 * q + 4 ≤ L) (hL : L ≤ 2048) (hC : CR w T R D lim la) (hM : MR w T R D lim la) (hV : SV B T R D lim la) (hB : B ≤ 80000) (v6 v7 v8 : zV) (K : ∀ (v6 v7 v8 : zV) (W : zW), LI W (B + 150) → Z ro 100 mL_law 2130 [(1, -3), (1, ((0 : Nat) : Int)), (1, ((97 : Nat) : Int)), (1, ((117 : Nat) : Int)), (1, ((118 : Nat) : Int)), (0, ((4 * q : Nat) : Int)), v6, v7, v8] [] W (Qn n)) : Z ro 100 mL_law 1524 [(1, -3), (1, ((0 : Nat) : Int)), (1, ((97 : Nat) : Int)), (1, ((117 : Nat) : Int)), (1, ((118 : Nat) : Int)), (0, ((4 * q : Nat) : Int)), v6, v7, v8] [] w (Qn (n + 1)) := by
  obtain ⟨x6, y6⟩ := v6
  obtain ⟨x7, y7⟩ := v7
  obtain ⟨x8, y8⟩ := v8
  have hV1 := hV.1.1
  refine Z_push gL_law_1524 (v := (1, ((0 : Nat) : Int))) rfl ?_
  refine Z_push gL_law_1525 (v := (1, ((117 : Nat) : Int))) rfl ?_
  refine Z_callL (kd := 5) (na := 2) (M' := mL_undo) gL_law_1526 rfl rfl rfl rfl rfl rfl (fun _ => rfl) rfl rfl (fun _ _ => rfl) (d' := 7) (by omega) (wL_undo  (uX7_undo hC hV (by omega)) (by unfold cdUn; (repeat' split) <;> omega) (stab_CR 117 (by omega))) ?_
  rintro c9 w2 ⟨rfl, c1, c0, cf⟩
  refine Z_mono (Q' := Qn n) ?_ (fun r w' k h e he => ⟨by have := h.1; omega, h.2⟩)
  have hM2 : MR w2 T R D lim la := MR_out hM (fun a k h1 h2 => cf a k h1 h2)
  refine Z_sto gL_law_1529 rfl (ls' := [(1, -3), (1, ((0 : Nat) : Int)), (1, ((97 : Nat) : Int)), (1, ((117 : Nat) : Int)), (1, ((118 : Nat) : Int)), (0, ((4 * q : Nat) : Int)), (0, ((cdUn D : Nat) : Int)), (x7, y7), (x8, y8)]) (st' := []) rfl ?_
  refine Z_push gL_law_1531 (v := (1, ((97 : Nat) : Int))) rfl ?_
  refine Z_callE (kd := 0) (na := 1) (M' := mX8_undo) gL_law_1532 rfl rfl rfl rfl rfl rfl (fun _ => rfl) rfl rfl (fun _ _ => zrecv_obj rfl _ _ _) (d' := 1) (by omega) ((mX8w_undo hM2 hV (by omega))) ?_
  rintro o w3 ⟨⟨b, rfl, hb⟩, ht, m1, m0, mf⟩
  refine Z_sto gL_law_1535 rfl (ls' := [(1, -3), (1, ((0 : Nat) : Int)), (1, ((97 : Nat) : Int)), (1, ((117 : Nat) : Int)), (1, ((118 : Nat) : Int)), (0, ((4 * q : Nat) : Int)), (0, ((cdUn D : Nat) : Int)), (0, b), (x8, y8)]) (st' := []) rfl ?_
  refine Z_push gL_law_1537 (v := (1, ((97 : Nat) : Int))) rfl ?_
  refine Z_callP (kd := 0) (na := 1) (M' := mX8_thrown) gL_law_1538 rfl rfl rfl rfl rfl rfl (fun _ => rfl) rfl rfl (fun _ _ => zrecv_obj rfl _ _ _) (d' := 0) (by omega) (vX8_thrown _ ht) ?_
  refine Z_push gL_law_1541 (v := (0, ((cdUn D : Nat) : Int))) rfl ?_
  refine Z_icmp_eq gL_law_1543 (tgt := 1548) (by decide) (fun _ => ?_) (fun h1543 => absurd h1543 (by omega))
  refine Z_push gL_law_1548 (v := (0, ((cdUn D : Nat) : Int))) rfl ?_
  refine Z_if_ne gL_law_1550 (tgt := 1565) (by decide) (fun h1550 => ?_) (fun h1550 => ?_)
  · refine Z_goto gL_law_1565 (tgt := 2130) (by decide) ?_
    exact K _ _ _ w3 ⟨_, _, _, _, _, CR_97 (c0 (by omega)) (fun a k ha => mf a k (by omega)), m0 (by omega), SV_same hV⟩
  · have hc : cdUn D = 0 := by omega
    have hb := hb hc
    have hout : w3 117 0 = (D.1 : Int) - 1 := (mf _ _ (by omega)).trans (c1 hc).2
    rw [← hb] at hout
    refine Z_push gL_law_1553 (v := (1, ((117 : Nat) : Int))) rfl ?_
    refine Z_push gL_law_1554 (v := (0, 0)) rfl ?_
    refine Z_laloadV (v := b) gL_law_1555 rfl (by omega) (by omega) hout ?_
    refine Z_push gL_law_1556 (v := (0, b)) rfl ?_
    refine Z_arith gL_law_1558 rfl rfl (v := [(2, b), (2, b)]) rfl ?_
    refine Z_arith gL_law_1559 rfl rfl (v := [(0, 0)]) (lcmp_self _ b) ?_
    refine Z_if_eq gL_law_1560 (tgt := 1565) (by decide) (fun _ => ?_) (fun h1560 => absurd h1560 (by omega))
    refine Z_goto gL_law_1565 (tgt := 2130) (by decide) ?_
    exact K _ _ _ w3 ⟨_, _, _, _, _, CR_97 (c1 hc).1 (fun a k ha => mf a k (by omega)), m1 hc, SVx_un hV hc⟩
theorem lc_weight (hro : ro (-3) = some (L, f)) (hq : 4 * q + 4 ≤ L) (hL : L ≤ 2048) (hC : CR w T R D lim la) (hM : MR w T R D lim la) (hV : SV B T R D lim la) (hB : B ≤ 80000) (v6 v7 v8 : zV) (K : ∀ (v6 v7 v8 : zV) (W : zW), LI W (B + 150) → Z ro 100 mL_law 2130 [(1, -3), (1, ((0 : Nat) : Int)), (1, ((97 : Nat) : Int)), (1, ((117 : Nat) : Int)), (1, ((118 : Nat) : Int)), (0, ((4 * q : Nat) : Int)), v6, v7, v8] [] W (Qn n)) : Z ro 100 mL_law 1568 [(1, -3), (1, ((0 : Nat) : Int)), (1, ((97 : Nat) : Int)), (1, ((117 : Nat) : Int)), (1, ((118 : Nat) : Int)), (0, ((4 * q : Nat) : Int)), v6, v7, v8] [] w (Qn (n + 1)) := by
  obtain ⟨x6, y6⟩ := v6
  obtain ⟨x7, y7⟩ := v7
  obtain ⟨x8, y8⟩ := v8
  have hV1 := hV.1.1
  refine Z_push gL_law_1568 (v := (1, ((0 : Nat) : Int))) rfl ?_
  refine Z_push gL_law_1569 (v := (1, -3)) rfl ?_
  refine Z_push gL_law_1570 (v := (0, ((4 * q : Nat) : Int))) rfl ?_
  refine Z_push gL_law_1572 (v := (0, 1)) rfl ?_
  refine Z_iadd gL_law_1573 ⟨by omega, by omega⟩ ?_
  refine Z_ialoadS gL_law_1574 hro (by omega) (by omega) ?_
  refine Z_push gL_law_1575 (v := (1, ((117 : Nat) : Int))) rfl ?_
  refine Z_callL (kd := 5) (na := 3) (M' := mL_weight) gL_law_1576 rfl rfl rfl rfl rfl rfl (fun _ => rfl) rfl rfl (fun _ _ => rfl) (d' := 3) (by omega) (wL_weight (f (((4 * q : Nat) : Int) + 1).toNat)  (rP_m (uX7_weight hC hV (f (((4 * q : Nat) : Int) + 1).toNat))) (by unfold cdRule; (repeat' split) <;> omega) (stab_CR 117 (by omega))) ?_
  rintro c9 w2 ⟨rfl, c1, c0, cf⟩
  refine Z_mono (Q' := Qn n) ?_ (fun r w' k h e he => ⟨by have := h.1; omega, h.2⟩)
  have hM2 : MR w2 T R D lim la := MR_out hM (fun a k h1 h2 => cf a k h1 h2)
  refine Z_sto gL_law_1579 rfl (ls' := [(1, -3), (1, ((0 : Nat) : Int)), (1, ((97 : Nat) : Int)), (1, ((117 : Nat) : Int)), (1, ((118 : Nat) : Int)), (0, ((4 * q : Nat) : Int)), (0, ((cdRule (f (((4 * q : Nat) : Int) + 1).toNat) : Nat) : Int)), (x7, y7), (x8, y8)]) (st' := []) rfl ?_
  refine Z_push gL_law_1581 (v := (1, ((97 : Nat) : Int))) rfl ?_
  refine Z_push gL_law_1582 (v := (1, -3)) rfl ?_
  refine Z_push gL_law_1583 (v := (0, ((4 * q : Nat) : Int))) rfl ?_
  refine Z_push gL_law_1585 (v := (0, 1)) rfl ?_
  refine Z_iadd gL_law_1586 ⟨by omega, by omega⟩ ?_
  refine Z_ialoadS gL_law_1587 hro (by omega) (by omega) ?_
  refine Z_callE (kd := 0) (na := 2) (M' := mX8_weight) gL_law_1588 rfl rfl rfl rfl rfl rfl (fun _ => rfl) rfl rfl (fun _ _ => zrecv_obj rfl _ _ _) (d' := 2) (by omega) ((rM_m (mX8w_weight hM2 hV (f (((4 * q : Nat) : Int) + 1).toNat)))) ?_
  rintro o w3 ⟨⟨b, rfl, hb⟩, ht, m1, m0, mf⟩
  refine Z_sto gL_law_1591 rfl (ls' := [(1, -3), (1, ((0 : Nat) : Int)), (1, ((97 : Nat) : Int)), (1, ((117 : Nat) : Int)), (1, ((118 : Nat) : Int)), (0, ((4 * q : Nat) : Int)), (0, ((cdRule (f (((4 * q : Nat) : Int) + 1).toNat) : Nat) : Int)), (0, b), (x8, y8)]) (st' := []) rfl ?_
  refine Z_push gL_law_1593 (v := (1, ((97 : Nat) : Int))) rfl ?_
  refine Z_callP (kd := 0) (na := 1) (M' := mX8_thrown) gL_law_1594 rfl rfl rfl rfl rfl rfl (fun _ => rfl) rfl rfl (fun _ _ => zrecv_obj rfl _ _ _) (d' := 0) (by omega) (vX8_thrown _ ht) ?_
  refine Z_push gL_law_1597 (v := (0, ((cdRule (f (((4 * q : Nat) : Int) + 1).toNat) : Nat) : Int))) rfl ?_
  refine Z_icmp_eq gL_law_1599 (tgt := 1604) (by decide) (fun _ => ?_) (fun h1599 => absurd h1599 (by omega))
  refine Z_push gL_law_1604 (v := (0, ((cdRule (f (((4 * q : Nat) : Int) + 1).toNat) : Nat) : Int))) rfl ?_
  refine Z_if_ne gL_law_1606 (tgt := 1621) (by decide) (fun h1606 => ?_) (fun h1606 => ?_)
  · refine Z_goto gL_law_1621 (tgt := 2130) (by decide) ?_
    exact K _ _ _ w3 ⟨_, _, _, _, _, CR_97 (c0 (by omega)) (fun a k ha => mf a k (by omega)), m0 (by omega), SV_same hV⟩
  · have hc : cdRule (f (((4 * q : Nat) : Int) + 1).toNat) = 0 := by omega
    have hb := hb hc
    have hout : w3 117 0 = R.1 (f (((4 * q : Nat) : Int) + 1).toNat).toNat := (mf _ _ (by omega)).trans (c1 hc).2
    rw [← hb] at hout
    refine Z_push gL_law_1609 (v := (1, ((117 : Nat) : Int))) rfl ?_
    refine Z_push gL_law_1610 (v := (0, 0)) rfl ?_
    refine Z_laloadV (v := b) gL_law_1611 rfl (by omega) (by omega) hout ?_
    refine Z_push gL_law_1612 (v := (0, b)) rfl ?_
    refine Z_arith gL_law_1614 rfl rfl (v := [(2, b), (2, b)]) rfl ?_
    refine Z_arith gL_law_1615 rfl rfl (v := [(0, 0)]) (lcmp_self _ b) ?_
    refine Z_if_eq gL_law_1616 (tgt := 1621) (by decide) (fun _ => ?_) (fun h1616 => absurd h1616 (by omega))
    refine Z_goto gL_law_1621 (tgt := 2130) (by decide) ?_
    exact K _ _ _ w3 ⟨_, _, _, _, _, CR_97 (c1 hc).1 (fun a k ha => mf a k (by omega)), m1 hc, SV_same hV⟩
theorem lc_ruleAt (hro : ro (-3) = some (L, f)) (hq : 4 * q + 4 ≤ L) (hL : L ≤ 2048) (hC : CR w T R D lim la) (hM : MR w T R D lim la) (hV : SV B T R D lim la) (hB : B ≤ 80000) (v6 v7 v8 : zV) (K : ∀ (v6 v7 v8 : zV) (W : zW), LI W (B + 150) → Z ro 100 mL_law 2130 [(1, -3), (1, ((0 : Nat) : Int)), (1, ((97 : Nat) : Int)), (1, ((117 : Nat) : Int)), (1, ((118 : Nat) : Int)), (0, ((4 * q : Nat) : Int)), v6, v7, v8] [] W (Qn n)) : Z ro 100 mL_law 1624 [(1, -3), (1, ((0 : Nat) : Int)), (1, ((97 : Nat) : Int)), (1, ((117 : Nat) : Int)), (1, ((118 : Nat) : Int)), (0, ((4 * q : Nat) : Int)), v6, v7, v8] [] w (Qn (n + 1)) := by
  obtain ⟨x6, y6⟩ := v6
  obtain ⟨x7, y7⟩ := v7
  obtain ⟨x8, y8⟩ := v8
  have hV1 := hV.1.1
  refine Z_push gL_law_1624 (v := (1, ((0 : Nat) : Int))) rfl ?_
  refine Z_push gL_law_1625 (v := (1, -3)) rfl ?_
  refine Z_push gL_law_1626 (v := (0, ((4 * q : Nat) : Int))) rfl ?_
  refine Z_push gL_law_1628 (v := (0, 1)) rfl ?_
  refine Z_iadd gL_law_1629 ⟨by omega, by omega⟩ ?_
  refine Z_ialoadS gL_law_1630 hro (by omega) (by omega) ?_
  refine Z_push gL_law_1631 (v := (1, ((117 : Nat) : Int))) rfl ?_
  refine Z_callL (kd := 5) (na := 3) (M' := mL_ruleAt) gL_law_1632 rfl rfl rfl rfl rfl rfl (fun _ => rfl) rfl rfl (fun _ _ => rfl) (d' := 4) (by omega) (wL_ruleAt (f (((4 * q : Nat) : Int) + 1).toNat)  (rP_m (uX7_ruleAt hC hV (f (((4 * q : Nat) : Int) + 1).toNat))) (by unfold cdRank; (repeat' split) <;> omega) (stab_CR 117 (by omega))) ?_
  rintro c9 w2 ⟨rfl, c1, c0, cf⟩
  refine Z_mono (Q' := Qn n) ?_ (fun r w' k h e he => ⟨by have := h.1; omega, h.2⟩)
  have hM2 : MR w2 T R D lim la := MR_out hM (fun a k h1 h2 => cf a k h1 h2)
  refine Z_sto gL_law_1635 rfl (ls' := [(1, -3), (1, ((0 : Nat) : Int)), (1, ((97 : Nat) : Int)), (1, ((117 : Nat) : Int)), (1, ((118 : Nat) : Int)), (0, ((4 * q : Nat) : Int)), (0, ((cdRank R (f (((4 * q : Nat) : Int) + 1).toNat) : Nat) : Int)), (x7, y7), (x8, y8)]) (st' := []) rfl ?_
  refine Z_push gL_law_1637 (v := (1, ((97 : Nat) : Int))) rfl ?_
  refine Z_push gL_law_1638 (v := (1, -3)) rfl ?_
  refine Z_push gL_law_1639 (v := (0, ((4 * q : Nat) : Int))) rfl ?_
  refine Z_push gL_law_1641 (v := (0, 1)) rfl ?_
  refine Z_iadd gL_law_1642 ⟨by omega, by omega⟩ ?_
  refine Z_ialoadS gL_law_1643 hro (by omega) (by omega) ?_
  refine Z_callE (kd := 0) (na := 2) (M' := mX8_ruleAt) gL_law_1644 rfl rfl rfl rfl rfl rfl (fun _ => rfl) rfl rfl (fun _ _ => zrecv_obj rfl _ _ _) (d' := 1) (by omega) ((rM_m (mX8w_ruleAt hM2 hV (f (((4 * q : Nat) : Int) + 1).toNat)))) ?_
  rintro o w3 ⟨⟨b, rfl, hb⟩, ht, m1, m0, mf⟩
  refine Z_sto gL_law_1647 rfl (ls' := [(1, -3), (1, ((0 : Nat) : Int)), (1, ((97 : Nat) : Int)), (1, ((117 : Nat) : Int)), (1, ((118 : Nat) : Int)), (0, ((4 * q : Nat) : Int)), (0, ((cdRank R (f (((4 * q : Nat) : Int) + 1).toNat) : Nat) : Int)), (0, b), (x8, y8)]) (st' := []) rfl ?_
  refine Z_push gL_law_1649 (v := (1, ((97 : Nat) : Int))) rfl ?_
  refine Z_callP (kd := 0) (na := 1) (M' := mX8_thrown) gL_law_1650 rfl rfl rfl rfl rfl rfl (fun _ => rfl) rfl rfl (fun _ _ => zrecv_obj rfl _ _ _) (d' := 0) (by omega) (vX8_thrown _ ht) ?_
  refine Z_push gL_law_1653 (v := (0, ((cdRank R (f (((4 * q : Nat) : Int) + 1).toNat) : Nat) : Int))) rfl ?_
  refine Z_icmp_eq gL_law_1655 (tgt := 1660) (by decide) (fun _ => ?_) (fun h1655 => absurd h1655 (by omega))
  refine Z_push gL_law_1660 (v := (0, ((cdRank R (f (((4 * q : Nat) : Int) + 1).toNat) : Nat) : Int))) rfl ?_
  refine Z_if_ne gL_law_1662 (tgt := 1677) (by decide) (fun h1662 => ?_) (fun h1662 => ?_)
  · refine Z_goto gL_law_1677 (tgt := 2130) (by decide) ?_
    exact K _ _ _ w3 ⟨_, _, _, _, _, CR_97 (c0 (by omega)) (fun a k ha => mf a k (by omega)), m0 (by omega), SV_same hV⟩
  · have hc : cdRank R (f (((4 * q : Nat) : Int) + 1).toNat) = 0 := by omega
    have hb := hb hc
    have hout : w3 117 0 = raS R (f (((4 * q : Nat) : Int) + 1).toNat) 5 := (mf _ _ (by omega)).trans (c1 hc).2
    rw [← hb] at hout
    refine Z_push gL_law_1665 (v := (1, ((117 : Nat) : Int))) rfl ?_
    refine Z_push gL_law_1666 (v := (0, 0)) rfl ?_
    refine Z_laloadV (v := b) gL_law_1667 rfl (by omega) (by omega) hout ?_
    refine Z_push gL_law_1668 (v := (0, b)) rfl ?_
    refine Z_arith gL_law_1670 rfl rfl (v := [(2, b), (2, b)]) rfl ?_
    refine Z_arith gL_law_1671 rfl rfl (v := [(0, 0)]) (lcmp_self _ b) ?_
    refine Z_if_eq gL_law_1672 (tgt := 1677) (by decide) (fun _ => ?_) (fun h1672 => absurd h1672 (by omega))
    refine Z_goto gL_law_1677 (tgt := 2130) (by decide) ?_
    exact K _ _ _ w3 ⟨_, _, _, _, _, CR_97 (c1 hc).1 (fun a k ha => mf a k (by omega)), m1 hc, SV_same hV⟩
theorem lc_undone (hro : ro (-3) = some (L, f)) (hq : 4 * q + 4 ≤ L) (hL : L ≤ 2048) (hC : CR w T R D lim la) (hM : MR w T R D lim la) (hV : SV B T R D lim la) (hB : B ≤ 80000) (v6 v7 v8 : zV) (K : ∀ (v6 v7 v8 : zV) (W : zW), LI W (B + 150) → Z ro 100 mL_law 2130 [(1, -3), (1, ((0 : Nat) : Int)), (1, ((97 : Nat) : Int)), (1, ((117 : Nat) : Int)), (1, ((118 : Nat) : Int)), (0, ((4 * q : Nat) : Int)), v6, v7, v8] [] W (Qn n)) : Z ro 100 mL_law 1680 [(1, -3), (1, ((0 : Nat) : Int)), (1, ((97 : Nat) : Int)), (1, ((117 : Nat) : Int)), (1, ((118 : Nat) : Int)), (0, ((4 * q : Nat) : Int)), v6, v7, v8] [] w (Qn (n + 1)) := by
  obtain ⟨x6, y6⟩ := v6
  obtain ⟨x7, y7⟩ := v7
  obtain ⟨x8, y8⟩ := v8
  have hV1 := hV.1.1
  refine Z_push gL_law_1680 (v := (1, ((0 : Nat) : Int))) rfl ?_
  refine Z_push gL_law_1681 (v := (1, -3)) rfl ?_
  refine Z_push gL_law_1682 (v := (0, ((4 * q : Nat) : Int))) rfl ?_
  refine Z_push gL_law_1684 (v := (0, 1)) rfl ?_
  refine Z_iadd gL_law_1685 ⟨by omega, by omega⟩ ?_
  refine Z_ialoadS gL_law_1686 hro (by omega) (by omega) ?_
  refine Z_push gL_law_1687 (v := (1, ((117 : Nat) : Int))) rfl ?_
  refine Z_callL (kd := 5) (na := 3) (M' := mL_undone) gL_law_1688 rfl rfl rfl rfl rfl rfl (fun _ => rfl) rfl rfl (fun _ _ => rfl) (d' := 3) (by omega) (wL_undone (f (((4 * q : Nat) : Int) + 1).toNat)  (rP_m (uX7_undone hC hV (f (((4 * q : Nat) : Int) + 1).toNat))) (by unfold cdRule; (repeat' split) <;> omega) (stab_CR 117 (by omega))) ?_
  rintro c9 w2 ⟨rfl, c1, c0, cf⟩
  refine Z_mono (Q' := Qn n) ?_ (fun r w' k h e he => ⟨by have := h.1; omega, h.2⟩)
  have hM2 : MR w2 T R D lim la := MR_out hM (fun a k h1 h2 => cf a k h1 h2)
  refine Z_sto gL_law_1691 rfl (ls' := [(1, -3), (1, ((0 : Nat) : Int)), (1, ((97 : Nat) : Int)), (1, ((117 : Nat) : Int)), (1, ((118 : Nat) : Int)), (0, ((4 * q : Nat) : Int)), (0, ((cdRule (f (((4 * q : Nat) : Int) + 1).toNat) : Nat) : Int)), (x7, y7), (x8, y8)]) (st' := []) rfl ?_
  refine Z_push gL_law_1693 (v := (1, ((97 : Nat) : Int))) rfl ?_
  refine Z_push gL_law_1694 (v := (1, -3)) rfl ?_
  refine Z_push gL_law_1695 (v := (0, ((4 * q : Nat) : Int))) rfl ?_
  refine Z_push gL_law_1697 (v := (0, 1)) rfl ?_
  refine Z_iadd gL_law_1698 ⟨by omega, by omega⟩ ?_
  refine Z_ialoadS gL_law_1699 hro (by omega) (by omega) ?_
  refine Z_callE (kd := 0) (na := 2) (M' := mX8_undone) gL_law_1700 rfl rfl rfl rfl rfl rfl (fun _ => rfl) rfl rfl (fun _ _ => zrecv_obj rfl _ _ _) (d' := 2) (by omega) ((rM_m (mX8w_undone hM2 hV (f (((4 * q : Nat) : Int) + 1).toNat)))) ?_
  rintro o w3 ⟨⟨b, rfl, hb⟩, ht, m1, m0, mf⟩
  refine Z_sto gL_law_1703 rfl (ls' := [(1, -3), (1, ((0 : Nat) : Int)), (1, ((97 : Nat) : Int)), (1, ((117 : Nat) : Int)), (1, ((118 : Nat) : Int)), (0, ((4 * q : Nat) : Int)), (0, ((cdRule (f (((4 * q : Nat) : Int) + 1).toNat) : Nat) : Int)), (2, b), (9, 0)]) (st' := []) rfl ?_
  refine Z_push gL_law_1705 (v := (1, ((97 : Nat) : Int))) rfl ?_
  refine Z_callP (kd := 0) (na := 1) (M' := mX8_thrown) gL_law_1706 rfl rfl rfl rfl rfl rfl (fun _ => rfl) rfl rfl (fun _ _ => zrecv_obj rfl _ _ _) (d' := 0) (by omega) (vX8_thrown _ ht) ?_
  refine Z_push gL_law_1709 (v := (0, ((cdRule (f (((4 * q : Nat) : Int) + 1).toNat) : Nat) : Int))) rfl ?_
  refine Z_icmp_eq gL_law_1711 (tgt := 1716) (by decide) (fun _ => ?_) (fun h1711 => absurd h1711 (by omega))
  refine Z_push gL_law_1716 (v := (0, ((cdRule (f (((4 * q : Nat) : Int) + 1).toNat) : Nat) : Int))) rfl ?_
  refine Z_if_ne gL_law_1718 (tgt := 1732) (by decide) (fun h1718 => ?_) (fun h1718 => ?_)
  · refine Z_goto gL_law_1732 (tgt := 2130) (by decide) ?_
    exact K _ _ _ w3 ⟨_, _, _, _, _, CR_97 (c0 (by omega)) (fun a k ha => mf a k (by omega)), m0 (by omega), SV_same hV⟩
  · have hc : cdRule (f (((4 * q : Nat) : Int) + 1).toNat) = 0 := by omega
    have hb := hb hc
    have hout : w3 117 0 = R.2.1 (f (((4 * q : Nat) : Int) + 1).toNat).toNat := (mf _ _ (by omega)).trans (c1 hc).2
    rw [← hb] at hout
    refine Z_push gL_law_1721 (v := (1, ((117 : Nat) : Int))) rfl ?_
    refine Z_push gL_law_1722 (v := (0, 0)) rfl ?_
    refine Z_laloadV (v := b) gL_law_1723 rfl (by omega) (by omega) hout ?_
    refine Z_push gL_law_1724 (v := (2, b)) rfl ?_
    refine Z_arith gL_law_1726 rfl rfl (v := [(0, 0)]) (lcmp_self _ b) ?_
    refine Z_if_eq gL_law_1727 (tgt := 1732) (by decide) (fun _ => ?_) (fun h1727 => absurd h1727 (by omega))
    refine Z_goto gL_law_1732 (tgt := 2130) (by decide) ?_
    exact K _ _ _ w3 ⟨_, _, _, _, _, CR_97 (c1 hc).1 (fun a k ha => mf a k (by omega)), m1 hc, SV_same hV⟩
theorem lc_undoneShare (hro : ro (-3) = some (L, f)) (hq : 4 * q + 4 ≤ L) (hL : L ≤ 2048) (hC : CR w T R D lim la) (hM : MR w T R D lim la) (hV : SV B T R D lim la) (hB : B ≤ 80000) (v6 v7 v8 : zV) (K : ∀ (v6 v7 v8 : zV) (W : zW), LI W (B + 150) → Z ro 100 mL_law 2130 [(1, -3), (1, ((0 : Nat) : Int)), (1, ((97 : Nat) : Int)), (1, ((117 : Nat) : Int)), (1, ((118 : Nat) : Int)), (0, ((4 * q : Nat) : Int)), v6, v7, v8] [] W (Qn n)) : Z ro 100 mL_law 1735 [(1, -3), (1, ((0 : Nat) : Int)), (1, ((97 : Nat) : Int)), (1, ((117 : Nat) : Int)), (1, ((118 : Nat) : Int)), (0, ((4 * q : Nat) : Int)), v6, v7, v8] [] w (Qn (n + 1)) := by
  obtain ⟨x6, y6⟩ := v6
  obtain ⟨x7, y7⟩ := v7
  obtain ⟨x8, y8⟩ := v8
  have hV1 := hV.1.1
  by_cases h0 : R.2.2 = 0
  · have hcd : cdSh R = 1 := by unfold cdSh; rw [if_pos h0]
    have H : Xv ro 3 mX7_undoneShare [(1, ((0 : Nat) : Int))] w (mP w 1 (fun w' => CR w' T R D lim la) (fun w' => CR w' T R D lim la) (ans (some (3, (((0 : UInt32)).toNat : Int))) ["java/lang/ArithmeticException"] 1)) := Xv_mono (uX7_undoneShare hC hV (by omega)) (fun r w' h => ⟨h.1.trans (by rw [hcd]; rfl), fun h2 => absurd h2 (by omega), fun _ => h.2.1, h.2.2⟩)
    refine Z_push gL_law_1735 (v := (1, ((0 : Nat) : Int))) rfl ?_
    refine Z_push gL_law_1736 (v := (1, ((118 : Nat) : Int))) rfl ?_
    refine Z_callL (kd := 5) (na := 2) (M' := mL_undoneShare) gL_law_1738 rfl rfl rfl rfl rfl rfl (fun _ => rfl) rfl rfl (fun _ _ => rfl) (d' := 4) (by omega) (wL_undoneShare (x := 0) (by decide +kernel) H (by omega) (stab_CR 118 (by omega))) ?_
    rintro c9 w2 ⟨rfl, c1, c0, cf⟩
    refine Z_mono (Q' := Qn n) ?_ (fun r w' k h e he => ⟨by have := h.1; omega, h.2⟩)
    have hM2 : MR w2 T R D lim la := MR_out hM (fun a k h1 h2 => cf a k h1 h2)
    refine Z_sto gL_law_1741 rfl (ls' := [(1, -3), (1, ((0 : Nat) : Int)), (1, ((97 : Nat) : Int)), (1, ((117 : Nat) : Int)), (1, ((118 : Nat) : Int)), (0, ((4 * q : Nat) : Int)), (0, ((1 : Nat) : Int)), (x7, y7), (x8, y8)]) (st' := []) rfl ?_
    refine Z_push gL_law_1743 (v := (1, ((97 : Nat) : Int))) rfl ?_
    refine Z_callE (kd := 0) (na := 1) (M' := mX8_undoneShare) gL_law_1744 rfl rfl rfl rfl rfl rfl (fun _ => rfl) rfl rfl (fun _ _ => zrecv_obj rfl _ _ _) (d' := 1) (by omega) (rM_m (mX8w_undoneShare hM2 hV (by omega))) ?_
    rintro o w3 ⟨⟨b, rfl, hb⟩, ht, m1, m0, mf⟩
    rw [hcd] at ht
    refine Z_sto gL_law_1747 rfl (ls' := [(1, -3), (1, ((0 : Nat) : Int)), (1, ((97 : Nat) : Int)), (1, ((117 : Nat) : Int)), (1, ((118 : Nat) : Int)), (0, ((4 * q : Nat) : Int)), (0, ((1 : Nat) : Int)), (3, b), (x8, y8)]) (st' := []) rfl ?_
    refine Z_push gL_law_1749 (v := (1, ((97 : Nat) : Int))) rfl ?_
    refine Z_callP (kd := 0) (na := 1) (M' := mX8_thrown) gL_law_1750 rfl rfl rfl rfl rfl rfl (fun _ => rfl) rfl rfl (fun _ _ => zrecv_obj rfl _ _ _) (d' := 0) (by omega) (vX8_thrown _ ht) ?_
    refine Z_push gL_law_1753 (v := (0, ((1 : Nat) : Int))) rfl ?_
    refine Z_icmp_eq gL_law_1755 (tgt := 1760) (by decide) (fun _ => ?_) (fun h1755 => absurd h1755 (by omega))
    refine Z_push gL_law_1760 (v := (0, ((1 : Nat) : Int))) rfl ?_
    refine Z_if_ne gL_law_1762 (tgt := 1798) (by decide) (fun _ => ?_) (fun h1762 => absurd h1762 (by omega))
    refine Z_goto gL_law_1798 (tgt := 2130) (by decide) ?_
    exact K _ _ _ w3 ⟨_, _, _, _, _, CR_97 (c0 (by omega)) (fun a k ha => mf a k (by omega)), m0 (by omega), SV_same hV⟩
  · have hcd : cdSh R = 0 := by unfold cdSh; rw [if_neg h0]
    have hfb := hV.2.1.2.2
    have hub := unS_bd hV.2.1 5 (by omega)
    have hz := fl_f2d (fl_div (a := unS R 5) (b := R.2.2) ⟨hub.1, by omega⟩ ⟨by omega, by omega⟩)
    have H := rP_m (cd := 0) (uX7_undoneShare (ro := ro) hC hV (by omega))
    rw [hcd] at H
    refine Z_push gL_law_1735 (v := (1, ((0 : Nat) : Int))) rfl ?_
    refine Z_push gL_law_1736 (v := (1, ((118 : Nat) : Int))) rfl ?_
    refine Z_callL (kd := 5) (na := 2) (M' := mL_undoneShare) gL_law_1738 rfl rfl rfl rfl rfl rfl (fun _ => rfl) rfl rfl (fun _ _ => rfl) (d' := 4) (by omega) (wL_undoneShare hz H (by omega) (stab_CR 118 (by omega))) ?_
    rintro c9 w2 ⟨rfl, c1, c0, cf⟩
    refine Z_mono (Q' := Qn n) ?_ (fun r w' k h e he => ⟨by have := h.1; omega, h.2⟩)
    have hM2 : MR w2 T R D lim la := MR_out hM (fun a k h1 h2 => cf a k h1 h2)
    refine Z_sto gL_law_1741 rfl (ls' := [(1, -3), (1, ((0 : Nat) : Int)), (1, ((97 : Nat) : Int)), (1, ((117 : Nat) : Int)), (1, ((118 : Nat) : Int)), (0, ((4 * q : Nat) : Int)), (0, ((0 : Nat) : Int)), (x7, y7), (x8, y8)]) (st' := []) rfl ?_
    refine Z_push gL_law_1743 (v := (1, ((97 : Nat) : Int))) rfl ?_
    refine Z_callE (kd := 0) (na := 1) (M' := mX8_undoneShare) gL_law_1744 rfl rfl rfl rfl rfl rfl (fun _ => rfl) rfl rfl (fun _ _ => zrecv_obj rfl _ _ _) (d' := 1) (by omega) (rM_m (mX8w_undoneShare hM2 hV (by omega))) ?_
    rintro o w3 ⟨⟨b, rfl, hb⟩, ht, m1, m0, mf⟩
    have hb := hb hcd
    subst hb
    rw [hcd] at ht
    have hout := (mf 118 0 (by omega)).trans (c1 rfl).2
    refine Z_sto gL_law_1747 rfl (ls' := [(1, -3), (1, ((0 : Nat) : Int)), (1, ((97 : Nat) : Int)), (1, ((117 : Nat) : Int)), (1, ((118 : Nat) : Int)), (0, ((4 * q : Nat) : Int)), (0, ((0 : Nat) : Int)), (3, shV R), (x8, y8)]) (st' := []) rfl ?_
    refine Z_push gL_law_1749 (v := (1, ((97 : Nat) : Int))) rfl ?_
    refine Z_callP (kd := 0) (na := 1) (M' := mX8_thrown) gL_law_1750 rfl rfl rfl rfl rfl rfl (fun _ => rfl) rfl rfl (fun _ _ => zrecv_obj rfl _ _ _) (d' := 0) (by omega) (vX8_thrown _ ht) ?_
    refine Z_push gL_law_1753 (v := (0, ((0 : Nat) : Int))) rfl ?_
    refine Z_icmp_eq gL_law_1755 (tgt := 1760) (by decide) (fun _ => ?_) (fun h1755 => absurd h1755 (by omega))
    refine Z_push gL_law_1760 (v := (0, ((0 : Nat) : Int))) rfl ?_
    refine Z_if_ne gL_law_1762 (tgt := 1798) (by decide) (fun h1762 => absurd h1762 (by omega)) (fun _ => ?_)
    refine Z_push gL_law_1765 (v := (1, ((118 : Nat) : Int))) rfl ?_
    refine Z_push gL_law_1767 (v := (0, 0)) rfl ?_
    refine Z_daloadV (v := ((FP.f2d (FP.fdiv (fI (unS R 5)) (fI R.2.2))).toNat : Int)) gL_law_1768 rfl (by omega) (by omega) hout ?_
    refine Z_push gL_law_1769 (v := (3, shV R)) rfl ?_
    refine Z_arith gL_law_1771 rfl rfl (v := [(4, ((FP.f2d (FP.fdiv (fI (unS R 5)) (fI R.2.2))).toNat : Int)), (4, ((FP.f2d (FP.fdiv (fI (unS R 5)) (fI R.2.2))).toNat : Int))]) (f2d_ok hz) ?_
    refine Z_arith gL_law_1772 rfl rfl (v := [(0, 0)]) (dcmp_self hz) ?_
    refine Z_if_eq gL_law_1773 (tgt := 1798) (by decide) (fun _ => ?_) (fun h1773 => absurd h1773 (by omega))
    refine Z_goto gL_law_1798 (tgt := 2130) (by decide) ?_
    exact K _ _ _ w3 ⟨_, _, _, _, _, CR_97 (c1 rfl).1 (fun a k ha => mf a k (by omega)), m1 hcd, SV_same hV⟩
end
