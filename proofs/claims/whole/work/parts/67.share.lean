/-! undoneShare, meanWidth: the class, the model -/
def cdSh (R : zRu) : Nat := if R.2.2 = 0 then 1 else 0
def shV (R : zRu) : Int := ((FP.fdiv (fI (unS R 5)) (fI R.2.2)).toNat : Int)
def wsT (T : zTx) : Nat → Int
  | 0 => 0
  | k + 1 => wsT T k + wT T (k : Int)
def cdMean (T : zTx) : Nat := if T.1 = 0 then 1 else 0
def mwV (T : zTx) : Int := ((FP.ddiv (dI (wsT T T.1)) (dI (T.1 : Int))).toNat : Int)
theorem wsT_bd {T : zTx} (hV : TV T) : ∀ k : Nat, 0 ≤ wsT T k ∧ wsT T k ≤ 13 * k
  | 0 => ⟨Int.le_refl _, Int.le_refl _⟩
  | k + 1 => by
    have := wsT_bd hV k
    have := wT_bd hV (k : Int)
    unfold wsT
    omega
theorem u32_id (x : UInt32) : UInt32.ofNat ((x.toNat : Int)).toNat = x := by
  rw [show ((x.toNat : Int)).toNat = x.toNat from rfl]
  exact UInt32.ofNat_toNat
theorem u64_id (x : UInt64) : UInt64.ofNat ((x.toNat : Int)).toNat = x := by
  rw [show ((x.toNat : Int)).toNat = x.toNat from rfl]
  exact UInt64.ofNat_toNat
section
variable {ro : zRo} {w w' : zW} {T : zTx} {R : zRu} {D : zDs} {lim la B : Int}
theorem uX7_undoneShare (hC : CR w T R D lim la) (hV : SV B T R D lim la) (hB : B ≤ 190000) : Xv ro 3 mX7_undoneShare [(1, ((0 : Nat) : Int))] w (rP w T R D lim la (ans (some (3, shV R)) ["java/lang/ArithmeticException"] (cdSh R))) := by
  obtain ⟨hR, hRR, hD, h7, h8, hL⟩ := id hC
  obtain ⟨hTV, hRV, hDV, hlim, hla, hop, hopD⟩ := id hV
  have hfb := hRV.2.2
  have hub := unS_bd hRV 5 (by omega)
  have c1 : Op.cmpValue (FP.fcmp (UInt32.ofNat (((fI R.2.2).toNat : Int)).toNat) (UInt32.ofNat (0 : Int).toNat)) .g = Op.cmpValue (FP.fcmp (fI R.2.2) (UInt32.ofNat 0)) .g := by rw [u32_id]; rfl
  have c2 := fl_pos (n := R.2.2) (by omega) (by omega)
  show Z ro 3 mX7_undoneShare 0 [(1, ((0 : Nat) : Int)), (9, 0)] [] w _
  refine Z_push gX7_undoneShare_0 (v := (1, ((0 : Nat) : Int))) rfl ?_
  refine Z_getR (b := 6) gX7_undoneShare_1 rfl rfl (by decide) rfl (by omega) ?_
  refine Z_callP (kd := 0) (na := 1) (M' := mX5_allFixed) gX7_undoneShare_4 rfl rfl rfl rfl rfl rfl (fun _ => rfl) rfl rfl (fun _ _ => zrecv_obj rfl _ _ _) (d' := 0) (by omega) (vX5_allFixed hRR) ?_
  refine Z_arith gX7_undoneShare_7 rfl rfl (v := [(3, ((fI R.2.2).toNat : Int))]) rfl ?_
  refine Z_sto gX7_undoneShare_8 rfl (ls' := [(1, ((0 : Nat) : Int)), (3, ((fI R.2.2).toNat : Int))]) (st' := []) rfl ?_
  refine Z_push gX7_undoneShare_9 (v := (3, ((fI R.2.2).toNat : Int))) rfl ?_
  refine Z_push gX7_undoneShare_10 (v := (3, 0)) rfl ?_
  refine Z_arith gX7_undoneShare_11 rfl rfl (v := [(0, (if 0 < R.2.2 then 1 else 0))]) (by rw [← c2, ← c1]; rfl) ?_
  refine Z_if_gt gX7_undoneShare_12 (tgt := 25) (by decide) (fun h12 => ?_) (fun h12 => ?_)
  · have hp : 0 < R.2.2 := by
      apply Classical.byContradiction
      intro h
      rw [if_neg h] at h12
      exact absurd h12 (by decide)
    have hz := fl_div (a := unS R 5) (b := R.2.2) ⟨hub.1, by omega⟩ ⟨hp, by omega⟩
    have hcd : cdSh R = 0 := by unfold cdSh; rw [if_neg (by omega)]
    have e : zarith (zmth 7) .fdiv 1 [(3, ((fI R.2.2).toNat : Int)), (3, ((fI (unS R 5)).toNat : Int))] = some [(3, shV R)] := by
      show (if zn32 (FP.fdiv (UInt32.ofNat (((fI (unS R 5)).toNat : Int)).toNat) (UInt32.ofNat (((fI R.2.2).toNat : Int)).toNat)) = true then _ else none) = _
      rw [u32_id, u32_id, if_pos hz]
      rfl
    refine Z_push gX7_undoneShare_25 (v := (1, ((0 : Nat) : Int))) rfl ?_
    refine Z_getR (b := 6) gX7_undoneShare_26 rfl rfl (by decide) rfl (by omega) ?_
    refine Z_callP (kd := 0) (na := 1) (M' := mX5_allUndone) gX7_undoneShare_29 rfl rfl rfl rfl rfl rfl (fun _ => rfl) rfl rfl (fun _ _ => zrecv_obj rfl _ _ _) (d' := 2) (by omega) (vX5_allUndone hRR hRV (by omega)) ?_
    refine Z_arith gX7_undoneShare_32 rfl rfl (v := [(3, ((fI (unS R 5)).toNat : Int))]) rfl ?_
    refine Z_push gX7_undoneShare_33 (v := (3, ((fI R.2.2).toNat : Int))) rfl ?_
    refine Z_arith gX7_undoneShare_34 rfl rfl (v := [(3, shV R)]) e ?_
    refine Z_retX (v := (3, shV R)) gX7_undoneShare_35 rfl rfl rfl rfl rfl ?_
    exact ⟨rfl, (ans_0 hcd).symm, hC, frC.refl _⟩
  · have hp : ¬ 0 < R.2.2 := fun h => by rw [if_pos h] at h12; exact absurd h12 (by decide)
    have hcd : cdSh R = 1 := by unfold cdSh; rw [if_pos (by omega)]
    refine Z_thrX (v := ("java/lang/ArithmeticException", 240, 242, 244, false)) gX7_undoneShare_15 rfl rfl rfl rfl rfl (by decide +kernel) (by decide +kernel) (by decide +kernel) rfl rfl ?_
    exact ⟨rfl, (ans_1 hcd).symm, hC, frC.refl _⟩
theorem uX7_meanWidth (hC : CR w T R D lim la) (hV : SV B T R D lim la) : Xv ro 3 mX7_meanWidth [(1, ((0 : Nat) : Int))] w (rP w T R D lim la (ans (some (4, mwV T)) ["java/lang/ArithmeticException"] (cdMean T))) := by
  obtain ⟨hR, hRR, hD, h7, h8, hL⟩ := id hC
  obtain ⟨hTV, hRV, hDV, hlim, hla, hop, hopD⟩ := id hV
  have hT := TX_1
  have hV1 := hTV.1
  have c1 : Op.cmpValue (FP.dcmp (UInt64.ofNat (((dI (T.1 : Int)).toNat : Int)).toNat) (UInt64.ofNat (0 : Int).toNat)) .g = Op.cmpValue (FP.dcmp (dI (T.1 : Int)) (UInt64.ofNat 0)) .g := by rw [u64_id]; rfl
  have c2 := dl_pos (n := (T.1 : Int)) (by omega) (by omega)
  show Z ro 3 mX7_meanWidth 0 [(1, ((0 : Nat) : Int)), (9, 0), (9, 0), (9, 0), (9, 0)] [] w _
  refine Z_push gX7_meanWidth_0 (v := (1, ((0 : Nat) : Int))) rfl ?_
  refine Z_getR (b := 1) gX7_meanWidth_1 rfl rfl (by decide) rfl (by omega) ?_
  refine Z_callP (kd := 0) (na := 1) (M' := mX6_size) gX7_meanWidth_4 rfl rfl rfl rfl rfl rfl (fun _ => rfl) rfl rfl (fun _ _ => zrecv_obj rfl _ _ _) (d' := 0) (by omega) (vX6_size (by assumption) (by assumption)) ?_
  refine Z_arith gX7_meanWidth_7 rfl rfl (v := [(4, ((dI (T.1 : Int)).toNat : Int))]) rfl ?_
  refine Z_sto gX7_meanWidth_8 rfl (ls' := [(1, ((0 : Nat) : Int)), (4, ((dI (T.1 : Int)).toNat : Int)), (9, 0), (9, 0), (9, 0)]) (st' := []) rfl ?_
  refine Z_push gX7_meanWidth_9 (v := (4, ((dI (T.1 : Int)).toNat : Int))) rfl ?_
  refine Z_push gX7_meanWidth_10 (v := (4, 0)) rfl ?_
  refine Z_arith gX7_meanWidth_11 rfl rfl (v := [(0, (if 0 < (T.1 : Int) then 1 else 0))]) (by rw [← c2, ← c1]; rfl) ?_
  refine Z_if_gt gX7_meanWidth_12 (tgt := 26) (by decide) (fun h12 => ?_) (fun h12 => ?_)
  · have hp : 0 < (T.1 : Int) := by
      apply Classical.byContradiction
      intro h
      rw [if_neg h] at h12
      exact absurd h12 (by decide)
    have hcd : cdMean T = 0 := by unfold cdMean; rw [if_neg (by omega)]
    have hsb := wsT_bd hTV T.1
    have hz := dl_div (a := wsT T T.1) (b := (T.1 : Int)) ⟨hsb.1, by omega⟩ ⟨hp, by omega⟩
    have e : zarith (zmth 7) .ddiv 1 [(4, ((dI (T.1 : Int)).toNat : Int)), (4, ((dI (wsT T T.1)).toNat : Int))] = some [(4, mwV T)] := by
      show (if zn64 (FP.ddiv (UInt64.ofNat (((dI (wsT T T.1)).toNat : Int)).toNat) (UInt64.ofNat (((dI (T.1 : Int)).toNat : Int)).toNat)) = true then _ else none) = _
      rw [u64_id, u64_id, if_pos hz]
      rfl
    have loop : ∀ m k : Nat, k + m = T.1 → Z ro 3 mX7_meanWidth 31 [(1, ((0 : Nat) : Int)), (4, ((dI (T.1 : Int)).toNat : Int)), (9, 0), (0, wsT T k), (0, (k : Int))] [] w (fun r9 w9 k9 => k9 = kx r9 ∧ rP w T R D lim la (ans (some (4, mwV T)) ["java/lang/ArithmeticException"] (cdMean T)) r9 w9) := by
      intro m
      induction m with
      | zero =>
        intro k hk
        obtain rfl : k = T.1 := by omega
        refine Z_push gX7_meanWidth_31 (v := (0, (T.1 : Int))) rfl ?_
        refine Z_push gX7_meanWidth_33 (v := (1, ((0 : Nat) : Int))) rfl ?_
        refine Z_getR (b := 1) gX7_meanWidth_34 rfl rfl (by decide) rfl (by omega) ?_
        refine Z_callP (kd := 0) (na := 1) (M' := mX6_size) gX7_meanWidth_37 rfl rfl rfl rfl rfl rfl (fun _ => rfl) rfl rfl (fun _ _ => zrecv_obj rfl _ _ _) (d' := 0) (by omega) (vX6_size hT hR) ?_
        refine Z_icmp_ge gX7_meanWidth_40 (tgt := 61) (by decide) (fun _ => ?_) (fun h40 => absurd h40 (by omega))
        refine Z_push gX7_meanWidth_61 (v := (0, wsT T T.1)) rfl ?_
        refine Z_arith gX7_meanWidth_62 rfl rfl (v := [(4, ((dI (wsT T T.1)).toNat : Int))]) rfl ?_
        refine Z_push gX7_meanWidth_63 (v := (4, ((dI (T.1 : Int)).toNat : Int))) rfl ?_
        refine Z_arith gX7_meanWidth_64 rfl rfl (v := [(4, mwV T)]) e ?_
        refine Z_retX (v := (4, mwV T)) gX7_meanWidth_65 rfl rfl rfl rfl rfl ?_
        exact ⟨rfl, (ans_0 hcd).symm, hC, frC.refl _⟩
      | succ m ih =>
        intro k hk
        have hn := ih (k + 1) (by omega)
        have hb := wsT_bd hTV k
        have hw := wT_bd hTV (k : Int)
        rw [show ((k + 1 : Nat) : Int) = (k : Int) + 1 from rfl, show wsT T (k + 1) = wsT T k + wT T (k : Int) from rfl] at hn
        refine Z_push gX7_meanWidth_31 (v := (0, (k : Int))) rfl ?_
        refine Z_push gX7_meanWidth_33 (v := (1, ((0 : Nat) : Int))) rfl ?_
        refine Z_getR (b := 1) gX7_meanWidth_34 rfl rfl (by decide) rfl (by omega) ?_
        refine Z_callP (kd := 0) (na := 1) (M' := mX6_size) gX7_meanWidth_37 rfl rfl rfl rfl rfl rfl (fun _ => rfl) rfl rfl (fun _ _ => zrecv_obj rfl _ _ _) (d' := 0) (by omega) (vX6_size hT hR) ?_
        refine Z_icmp_ge gX7_meanWidth_40 (tgt := 61) (by decide) (fun h40 => absurd h40 (by omega)) (fun _ => ?_)
        refine Z_push gX7_meanWidth_43 (v := (0, wsT T k)) rfl ?_
        refine Z_push gX7_meanWidth_44 (v := (1, ((0 : Nat) : Int))) rfl ?_
        refine Z_getR (b := 1) gX7_meanWidth_45 rfl rfl (by decide) rfl (by omega) ?_
        refine Z_push gX7_meanWidth_48 (v := (0, (k : Int))) rfl ?_
        refine Z_callP (kd := 0) (na := 2) (M' := mX6_widthAt) gX7_meanWidth_50 rfl rfl rfl rfl rfl rfl (fun _ => rfl) rfl rfl (fun _ _ => zrecv_obj rfl _ _ _) (d' := 2) (by omega) (vX6_widthAt hT hR hTV _) ?_
        refine Z_iadd gX7_meanWidth_53 ⟨by omega, by omega⟩ ?_
        refine Z_sto gX7_meanWidth_54 rfl (ls' := [(1, ((0 : Nat) : Int)), (4, ((dI (T.1 : Int)).toNat : Int)), (9, 0), (0, (wsT T k) + (wT T (k : Int))), (0, (k : Int))]) (st' := []) rfl ?_
        refine Z_iinc gX7_meanWidth_55 rfl ⟨by omega, by omega⟩ (ls' := [(1, ((0 : Nat) : Int)), (4, ((dI (T.1 : Int)).toNat : Int)), (9, 0), (0, (wsT T k) + (wT T (k : Int))), (0, (k : Int) + 1)]) rfl ?_
        refine Z_goto gX7_meanWidth_58 (tgt := 31) (by decide) ?_
        exact hn
    refine Z_push gX7_meanWidth_26 (v := (0, 0)) rfl ?_
    refine Z_sto gX7_meanWidth_27 rfl (ls' := [(1, ((0 : Nat) : Int)), (4, ((dI (T.1 : Int)).toNat : Int)), (9, 0), (0, 0), (9, 0)]) (st' := []) rfl ?_
    refine Z_push gX7_meanWidth_28 (v := (0, 0)) rfl ?_
    refine Z_sto gX7_meanWidth_29 rfl (ls' := [(1, ((0 : Nat) : Int)), (4, ((dI (T.1 : Int)).toNat : Int)), (9, 0), (0, 0), (0, 0)]) (st' := []) rfl ?_
    exact loop T.1 0 (by omega)
  · have hp : ¬ 0 < (T.1 : Int) := fun h => by rw [if_pos h] at h12; exact absurd h12 (by decide)
    have hcd : cdMean T = 1 := by unfold cdMean; rw [if_pos (by omega)]
    refine Z_thrX (v := ("java/lang/ArithmeticException", 240, 278, 244, true)) gX7_meanWidth_15 rfl rfl rfl rfl rfl (by decide +kernel) (by decide +kernel) (by decide +kernel) rfl rfl ?_
    exact ⟨rfl, (ans_1 hcd).symm, hC, frC.refl _⟩
theorem mX8w_undoneShare (hM : MR w T R D lim la) (hV : SV B T R D lim la) (hB : B ≤ 190000) : Ev ro 1 mX8_undoneShare [(1, ((97 : Nat) : Int))] w (rM w 3 (cdSh R) (shV R) (fun w' => MR w' T R D lim la)) := by
  obtain ⟨hTV, hRV, hDV, hlim, hla, hop, hopD⟩ := id hV
  have hfb := hRV.2.2
  have hub := unS_bd hRV 5 (by omega)
  have hM1 := MR_Y hM (frY.th w 0)
  have h0 : zup w 97 0 0 97 0 = 0 := zup_eq _ _ _ _
  have f0 : frM w (zup w 97 0 0) := (frY.th w 0).M
  have b0 := hRV.2.1 0 (by omega)
  have b1 := hRV.2.1 1 (by omega)
  have b2 := hRV.2.1 2 (by omega)
  have b3 := hRV.2.1 3 (by omega)
  have b4 := hRV.2.1 4 (by omega)
  show Z ro 1 mX8_undoneShare 0 [(1, ((97 : Nat) : Int)), (9, 0), (9, 0)] [] w _
  refine Z_push gX8_undoneShare_0 (v := (1, ((97 : Nat) : Int))) rfl ?_
  refine Z_push gX8_undoneShare_1 (v := (0, 0)) rfl ?_
  refine Z_put gX8_undoneShare_2 rfl rfl (by decide) rfl (fun h => by cases h) ?_
  generalize zup w 97 0 0 = w1 at hM1 h0 f0 ⊢
  obtain ⟨hT1, hU1, hD1, hl1, hla1, hln1⟩ := id hM1
  have es : R.2.1 0 + R.2.1 1 + R.2.1 2 + R.2.1 3 + R.2.1 4 = unS R 5 := by
    show _ = 0 + R.2.1 0 + R.2.1 1 + R.2.1 2 + R.2.1 3 + R.2.1 4
    omega
  refine Z_push gX8_undoneShare_5 (v := (1, ((97 : Nat) : Int))) rfl ?_
  refine Z_getR (b := 103) gX8_undoneShare_6 rfl rfl (by decide) rfl (by omega) ?_
  refine Z_push gX8_undoneShare_9 (v := (0, 0)) rfl ?_
  refine Z_laloadV (v := R.2.1 0) gX8_undoneShare_10 rfl (by omega) (by omega) (hU1.2.1 0 (by omega)) ?_
  refine Z_push gX8_undoneShare_11 (v := (1, ((97 : Nat) : Int))) rfl ?_
  refine Z_getR (b := 103) gX8_undoneShare_12 rfl rfl (by decide) rfl (by omega) ?_
  refine Z_push gX8_undoneShare_15 (v := (0, 1)) rfl ?_
  refine Z_laloadV (v := R.2.1 1) gX8_undoneShare_16 rfl (by omega) (by omega) (hU1.2.1 1 (by omega)) ?_
  refine Z_ladd gX8_undoneShare_17 ⟨by omega, by omega⟩ ?_
  refine Z_push gX8_undoneShare_18 (v := (1, ((97 : Nat) : Int))) rfl ?_
  refine Z_getR (b := 103) gX8_undoneShare_19 rfl rfl (by decide) rfl (by omega) ?_
  refine Z_push gX8_undoneShare_22 (v := (0, 2)) rfl ?_
  refine Z_laloadV (v := R.2.1 2) gX8_undoneShare_23 rfl (by omega) (by omega) (hU1.2.1 2 (by omega)) ?_
  refine Z_ladd gX8_undoneShare_24 ⟨by omega, by omega⟩ ?_
  refine Z_push gX8_undoneShare_25 (v := (1, ((97 : Nat) : Int))) rfl ?_
  refine Z_getR (b := 103) gX8_undoneShare_26 rfl rfl (by decide) rfl (by omega) ?_
  refine Z_push gX8_undoneShare_29 (v := (0, 3)) rfl ?_
  refine Z_laloadV (v := R.2.1 3) gX8_undoneShare_30 rfl (by omega) (by omega) (hU1.2.1 3 (by omega)) ?_
  refine Z_ladd gX8_undoneShare_31 ⟨by omega, by omega⟩ ?_
  refine Z_push gX8_undoneShare_32 (v := (1, ((97 : Nat) : Int))) rfl ?_
  refine Z_getR (b := 103) gX8_undoneShare_33 rfl rfl (by decide) rfl (by omega) ?_
  refine Z_push gX8_undoneShare_36 (v := (0, 4)) rfl ?_
  refine Z_laloadV (v := R.2.1 4) gX8_undoneShare_37 rfl (by omega) (by omega) (hU1.2.1 4 (by omega)) ?_
  refine Z_ladd gX8_undoneShare_38 ⟨by omega, by omega⟩ ?_
  refine Z_sto gX8_undoneShare_39 rfl (ls' := [(1, ((97 : Nat) : Int)), (2, ((((R.2.1 0) + (R.2.1 1)) + (R.2.1 2)) + (R.2.1 3)) + (R.2.1 4)), (9, 0)]) (st' := []) rfl ?_
  refine Z_push gX8_undoneShare_40 (v := (1, ((97 : Nat) : Int))) rfl ?_
  refine Z_push gX8_undoneShare_41 (v := (1, ((97 : Nat) : Int))) rfl ?_
  refine Z_getV (v := R.2.2) gX8_undoneShare_42 rfl rfl (by decide) hU1.2.2 ?_
  refine Z_push gX8_undoneShare_45 (v := (2, 0)) rfl ?_
  refine Z_arith gX8_undoneShare_46 rfl rfl (v := [(0, (if R.2.2 < 0 then -1 else if R.2.2 = 0 then 0 else 1)), (1, ((97 : Nat) : Int))]) rfl ?_
  refine Z_if_ne gX8_undoneShare_47 (tgt := 54) (by decide) (fun h47 => ?_) (fun h47 => ?_)
  · have hp : R.2.2 ≠ 0 := fun h => by rw [h] at h47; exact absurd rfl h47
    have hcd : cdSh R = 0 := by unfold cdSh; rw [if_neg hp]
    have hz := fl_div (a := unS R 5) (b := R.2.2) ⟨hub.1, by omega⟩ ⟨by omega, by omega⟩
    have l1 := fl_l2f (n := unS R 5) hub.1 (by omega)
    have l2 := fl_l2f (n := R.2.2) hfb.1 (by omega)
    have e : zarith (zmth 8) .fdiv 1 [(3, ((fI R.2.2).toNat : Int)), (3, ((fI (unS R 5)).toNat : Int))] = some [(3, shV R)] := by
      show (if zn32 (FP.fdiv (UInt32.ofNat (((fI (unS R 5)).toNat : Int)).toNat) (UInt32.ofNat (((fI R.2.2).toNat : Int)).toNat)) = true then _ else none) = _
      rw [u32_id, u32_id, if_pos hz]
      rfl
    rw [es]
    refine Z_push gX8_undoneShare_54 (v := (0, 0)) rfl ?_
    refine Z_push gX8_undoneShare_55 (v := (0, 1)) rfl ?_
    refine Z_callP (kd := 0) (na := 3) (M' := mX8_fails) gX8_undoneShare_56 rfl rfl rfl rfl rfl rfl (fun _ => rfl) rfl rfl (fun _ _ => zrecv_obj rfl _ _ _) (d' := 0) (by omega) (fail0 h0 1) ?_
    refine Z_if_eq gX8_undoneShare_59 (tgt := 66) (by decide) (fun _ => ?_) (fun h59 => absurd h59 (by omega))
    refine Z_push gX8_undoneShare_66 (v := (2, unS R 5)) rfl ?_
    refine Z_arith gX8_undoneShare_67 rfl rfl (v := [(3, ((fI (unS R 5)).toNat : Int))]) (by rw [← l1]; rfl) ?_
    refine Z_push gX8_undoneShare_68 (v := (1, ((97 : Nat) : Int))) rfl ?_
    refine Z_getV (v := R.2.2) gX8_undoneShare_69 rfl rfl (by decide) hU1.2.2 ?_
    refine Z_arith gX8_undoneShare_72 rfl rfl (v := [(3, ((fI R.2.2).toNat : Int)), (3, ((fI (unS R 5)).toNat : Int))]) (by rw [← l2]; rfl) ?_
    refine Z_arith gX8_undoneShare_73 rfl rfl (v := [(3, shV R)]) e ?_
    refine Z_ret (v := (3, shV R)) gX8_undoneShare_74 rfl rfl rfl rfl rfl _ ?_
    exact ⟨⟨_, rfl, fun _ => rfl⟩, h0.trans (by rw [hcd]; rfl), hM1, f0⟩
  · have hp : R.2.2 = 0 := by
      by_cases h1 : R.2.2 < 0
      · rw [if_pos h1] at h47; omega
      · rw [if_neg h1] at h47
        by_cases h2 : R.2.2 = 0
        · exact h2
        · rw [if_neg h2] at h47; omega
    have hcd : cdSh R = 1 := by unfold cdSh; rw [if_pos hp]
    refine Z_push gX8_undoneShare_50 (v := (0, 1)) rfl ?_
    refine Z_goto gX8_undoneShare_51 (tgt := 55) (by decide) ?_
    refine Z_push gX8_undoneShare_55 (v := (0, 1)) rfl ?_
    refine Z_callQ (kd := 0) (na := 3) (M' := mX8_fails) gX8_undoneShare_56 rfl rfl rfl rfl rfl rfl (fun _ => rfl) rfl rfl (fun _ _ => zrecv_obj rfl _ _ _) (d' := 0) (by omega) (fail1 h0 (by omega)) ?_
    refine Z_if_eq gX8_undoneShare_59 (tgt := 66) (by decide) (fun h59 => absurd h59 (by omega)) (fun _ => ?_)
    refine Z_push gX8_undoneShare_62 (v := (3, 0)) rfl ?_
    refine Z_goto gX8_undoneShare_63 (tgt := 74) (by decide) ?_
    refine Z_ret (v := (3, 0)) gX8_undoneShare_74 rfl rfl rfl rfl rfl _ ?_
    exact ⟨⟨_, rfl, fun h => absurd h (by omega)⟩, (zup_eq _ _ _ _).trans (by rw [hcd]; rfl), MR_Y hM1 (frY.th w1 1), f0.trans (frY.th w1 1).M⟩
theorem mX8w_meanWidth (hM : MR w T R D lim la) (hV : SV B T R D lim la) : Ev ro 1 mX8_meanWidth [(1, ((97 : Nat) : Int))] w (rM w 4 (cdMean T) (mwV T) (fun w' => MR w' T R D lim la)) := by
  obtain ⟨hTV, hRV, hDV, hlim, hla, hop, hopD⟩ := id hV
  have hV1 := hTV.1
  have hM1 := MR_Y hM (frY.th w 0)
  have h0 : zup w 97 0 0 97 0 = 0 := zup_eq _ _ _ _
  have f0 : frM w (zup w 97 0 0) := (frY.th w 0).M
  show Z ro 1 mX8_meanWidth 0 [(1, ((97 : Nat) : Int)), (9, 0), (9, 0)] [] w _
  refine Z_push gX8_meanWidth_0 (v := (1, ((97 : Nat) : Int))) rfl ?_
  refine Z_push gX8_meanWidth_1 (v := (0, 0)) rfl ?_
  refine Z_put gX8_meanWidth_2 rfl rfl (by decide) rfl (fun h => by cases h) ?_
  generalize zup w 97 0 0 = w1 at hM1 h0 f0 ⊢
  obtain ⟨hT1, hU1, hD1, hl1, hla1, hln1⟩ := id hM1
  have hsb := wsT_bd hTV T.1
  have loop : ∀ m k : Nat, k + m = T.1 → Z ro 1 mX8_meanWidth 9 [(1, ((97 : Nat) : Int)), (0, wsT T k), (0, (k : Int))] [] w1 (fun r9 w9 k9 => k9 = 0 ∧ ∃ o, r9 = .inl o ∧ (rM w 4 (cdMean T) (mwV T) (fun w' => MR w' T R D lim la)) o w9) := by
    intro m
    induction m with
    | zero =>
      intro k hk
      obtain rfl : k = T.1 := by omega
      refine Z_push gX8_meanWidth_9 (v := (0, (T.1 : Int))) rfl ?_
      refine Z_push gX8_meanWidth_10 (v := (1, ((97 : Nat) : Int))) rfl ?_
      refine Z_getV (v := (T.1 : Int)) gX8_meanWidth_11 rfl rfl (by decide) hT1.1 ?_
      refine Z_icmp_ge gX8_meanWidth_14 (tgt := 31) (by decide) (fun _ => ?_) (fun h14 => absurd h14 (by omega))
      refine Z_push gX8_meanWidth_31 (v := (1, ((97 : Nat) : Int))) rfl ?_
      refine Z_push gX8_meanWidth_32 (v := (1, ((97 : Nat) : Int))) rfl ?_
      refine Z_getV (v := (T.1 : Int)) gX8_meanWidth_33 rfl rfl (by decide) hT1.1 ?_
      refine Z_if_ne gX8_meanWidth_36 (tgt := 43) (by decide) (fun h36 => ?_) (fun h36 => ?_)
      · have hcd : cdMean T = 0 := by unfold cdMean; rw [if_neg (by omega)]
        have hz := dl_div (a := wsT T T.1) (b := (T.1 : Int)) ⟨hsb.1, by omega⟩ ⟨by omega, by omega⟩
        have e : zarith (zmth 8) .ddiv 1 [(4, ((dI (T.1 : Int)).toNat : Int)), (4, ((dI (wsT T T.1)).toNat : Int))] = some [(4, mwV T)] := by
          show (if zn64 (FP.ddiv (UInt64.ofNat (((dI (wsT T T.1)).toNat : Int)).toNat) (UInt64.ofNat (((dI (T.1 : Int)).toNat : Int)).toNat)) = true then _ else none) = _
          rw [u64_id, u64_id, if_pos hz]
          rfl
        refine Z_push gX8_meanWidth_43 (v := (0, 0)) rfl ?_
        refine Z_push gX8_meanWidth_44 (v := (0, 1)) rfl ?_
        refine Z_callP (kd := 0) (na := 3) (M' := mX8_fails) gX8_meanWidth_45 rfl rfl rfl rfl rfl rfl (fun _ => rfl) rfl rfl (fun _ _ => zrecv_obj rfl _ _ _) (d' := 0) (by omega) (fail0 h0 1) ?_
        refine Z_if_eq gX8_meanWidth_48 (tgt := 55) (by decide) (fun _ => ?_) (fun h48 => absurd h48 (by omega))
        refine Z_push gX8_meanWidth_55 (v := (0, wsT T T.1)) rfl ?_
        refine Z_arith gX8_meanWidth_56 rfl rfl (v := [(4, ((dI (wsT T T.1)).toNat : Int))]) rfl ?_
        refine Z_push gX8_meanWidth_57 (v := (1, ((97 : Nat) : Int))) rfl ?_
        refine Z_getV (v := (T.1 : Int)) gX8_meanWidth_58 rfl rfl (by decide) hT1.1 ?_
        refine Z_arith gX8_meanWidth_61 rfl rfl (v := [(4, ((dI (T.1 : Int)).toNat : Int)), (4, ((dI (wsT T T.1)).toNat : Int))]) rfl ?_
        refine Z_arith gX8_meanWidth_62 rfl rfl (v := [(4, mwV T)]) e ?_
        refine Z_ret (v := (4, mwV T)) gX8_meanWidth_63 rfl rfl rfl rfl rfl _ ?_
        exact ⟨⟨_, rfl, fun _ => rfl⟩, h0.trans (by rw [hcd]; rfl), hM1, f0⟩
      · have hcd : cdMean T = 1 := by unfold cdMean; rw [if_pos (by omega)]
        refine Z_push gX8_meanWidth_39 (v := (0, 1)) rfl ?_
        refine Z_goto gX8_meanWidth_40 (tgt := 44) (by decide) ?_
        refine Z_push gX8_meanWidth_44 (v := (0, 1)) rfl ?_
        refine Z_callQ (kd := 0) (na := 3) (M' := mX8_fails) gX8_meanWidth_45 rfl rfl rfl rfl rfl rfl (fun _ => rfl) rfl rfl (fun _ _ => zrecv_obj rfl _ _ _) (d' := 0) (by omega) (fail1 h0 (by omega)) ?_
        refine Z_if_eq gX8_meanWidth_48 (tgt := 55) (by decide) (fun h48 => absurd h48 (by omega)) (fun _ => ?_)
        refine Z_push gX8_meanWidth_51 (v := (4, 0)) rfl ?_
        refine Z_goto gX8_meanWidth_52 (tgt := 63) (by decide) ?_
        refine Z_ret (v := (4, 0)) gX8_meanWidth_63 rfl rfl rfl rfl rfl _ ?_
        exact ⟨⟨_, rfl, fun h => absurd h (by omega)⟩, (zup_eq _ _ _ _).trans (by rw [hcd]; rfl), MR_Y hM1 (frY.th w1 1), f0.trans (frY.th w1 1).M⟩
    | succ m ih =>
      intro k hk
      have hn := ih (k + 1) (by omega)
      have hb := wsT_bd hTV k
      have hw := wT_bd hTV (k : Int)
      rw [show ((k + 1 : Nat) : Int) = (k : Int) + 1 from rfl, show wsT T (k + 1) = wsT T k + wT T (k : Int) from rfl] at hn
      refine Z_push gX8_meanWidth_9 (v := (0, (k : Int))) rfl ?_
      refine Z_push gX8_meanWidth_10 (v := (1, ((97 : Nat) : Int))) rfl ?_
      refine Z_getV (v := (T.1 : Int)) gX8_meanWidth_11 rfl rfl (by decide) hT1.1 ?_
      refine Z_icmp_ge gX8_meanWidth_14 (tgt := 31) (by decide) (fun h14 => absurd h14 (by omega)) (fun _ => ?_)
      refine Z_push gX8_meanWidth_17 (v := (0, wsT T k)) rfl ?_
      refine Z_push gX8_meanWidth_18 (v := (1, ((97 : Nat) : Int))) rfl ?_
      refine Z_push gX8_meanWidth_19 (v := (0, (k : Int))) rfl ?_
      refine Z_callP (kd := 0) (na := 2) (M' := mX8_wide) gX8_meanWidth_20 rfl rfl rfl rfl rfl rfl (fun _ => rfl) rfl rfl (fun _ _ => zrecv_obj rfl _ _ _) (d' := 0) (by omega) (vX8_wide hT1 hTV (show k < T.1 by omega)) ?_
      refine Z_iadd gX8_meanWidth_23 ⟨by omega, by omega⟩ ?_
      refine Z_sto gX8_meanWidth_24 rfl (ls' := [(1, ((97 : Nat) : Int)), (0, (wsT T k) + (wT T (k : Int))), (0, (k : Int))]) (st' := []) rfl ?_
      refine Z_iinc gX8_meanWidth_25 rfl ⟨by omega, by omega⟩ (ls' := [(1, ((97 : Nat) : Int)), (0, (wsT T k) + (wT T (k : Int))), (0, (k : Int) + 1)]) rfl ?_
      refine Z_goto gX8_meanWidth_28 (tgt := 9) (by decide) ?_
      exact hn
  refine Z_push gX8_meanWidth_5 (v := (0, 0)) rfl ?_
  refine Z_sto gX8_meanWidth_6 rfl (ls' := [(1, ((97 : Nat) : Int)), (0, 0), (9, 0)]) (st' := []) rfl ?_
  refine Z_push gX8_meanWidth_7 (v := (0, 0)) rfl ?_
  refine Z_sto gX8_meanWidth_8 rfl (ls' := [(1, ((97 : Nat) : Int)), (0, 0), (0, 0)]) (st' := []) rfl ?_
  exact loop T.1 0 (by omega)
end
