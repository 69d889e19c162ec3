/-! undoneShare, meanWidth: the class, the model -/
def wsT (T : zTx) : Nat → Int
  | 0 => 0
  | k + 1 => wsT T k + wT T (k : Int)
def cdMean (T : zTx) : Nat := if T.1 = 0 then 1 else 0
def mwV (T : zTx) : Int := ((FP.ddiv (dI (wsT T T.1)) (dI (T.1 : Int))).toNat : Int)
theorem wsT_bd {T : zTx} (hV : TV T) : ∀ k : Nat, 0 ≤ wsT T k ∧ wsT T k ≤ 13 * k
  | 0 => ⟨Int.le_refl _, Int.le_refl _⟩
  | k + 1 => by
    have := wsT_bd hV k
    have := wT_bd hV (k : Int)
    unfold wsT
    omega
theorem u32_id (x : UInt32) : UInt32.ofNat ((x.toNat : Int)).toNat = x := by
  rw [show ((x.toNat : Int)).toNat = x.toNat from rfl]
  exact UInt32.ofNat_toNat
theorem u64_id (x : UInt64) : UInt64.ofNat ((x.toNat : Int)).toNat = x := by
  rw [show ((x.toNat : Int)).toNat = x.toNat from rfl]
  exact UInt64.ofNat_toNat
section
variable {ro : zRo} {w w' : zW} {T : zTx} {R : zRu} {D : zDs} {lim la B : Int}
theorem uX7_meanWidth (hC : CR w T R D lim la) (hV : SV B T R D lim la) : Xv ro 3 mX7_meanWidth [(1, ((0 : Nat) : Int))] w (rP w T R D lim la (ans (some (4, mwV T)) ["java/lang/ArithmeticException"] (cdMean T))) := by
  obtain ⟨hR, hRR, hD, h7, h8, hL⟩ := id hC
  obtain ⟨hTV, hRV, hDV, hlim, hla, hop, hopD⟩ := id hV
  have hT := TX_1
  have hV1 := hTV.1
  have c1 : Op.cmpValue (FP.dcmp (UInt64.ofNat (((dI (T.1 : Int)).toNat : Int)).toNat) (UInt64.ofNat (0 : Int).toNat)) .g = Op.cmpValue (FP.dcmp (dI (T.1 : Int)) (UInt64.ofNat 0)) .g := by rw [u64_id]; rfl
  have c2 := dl_pos (n := (T.1 : Int)) (by omega) (by omega)
  show Z ro 3 mX7_meanWidth 0 [(1, ((0 : Nat) : Int)), (9, 0), (9, 0), (9, 0), (9, 0)] [] w _
  refine Z_push gX7_meanWidth_0 (v := (1, ((0 : Nat) : Int))) rfl ?_
  refine Z_getR (b := 1) gX7_meanWidth_1 rfl rfl (by decide) rfl (by omega) ?_
  refine Z_callP (kd := 0) (na := 1) (M' := mX6_size) gX7_meanWidth_4 rfl rfl rfl rfl rfl rfl (fun _ => rfl) rfl rfl (fun _ _ => zrecv_obj rfl _ _ _) (d' := 0) (by omega) (vX6_size (by assumption) (by assumption)) ?_
  refine Z_arith gX7_meanWidth_7 rfl rfl (v := [(4, ((dI (T.1 : Int)).toNat : Int))]) rfl ?_
  refine Z_sto gX7_meanWidth_8 rfl (ls' := [(1, ((0 : Nat) : Int)), (4, ((dI (T.1 : Int)).toNat : Int)), (9, 0), (9, 0), (9, 0)]) (st' := []) rfl ?_
  refine Z_push gX7_meanWidth_9 (v := (4, ((dI (T.1 : Int)).toNat : Int))) rfl ?_
  refine Z_push gX7_meanWidth_10 (v := (4, 0)) rfl ?_
  refine Z_arith gX7_meanWidth_11 rfl rfl (v := [(0, (if 0 < (T.1 : Int) then 1 else 0))]) (by rw [← c2, ← c1]; rfl) ?_
  refine Z_if_gt gX7_meanWidth_12 (tgt := 26) (by decide) (fun h12 => ?_) (fun h12 => ?_)
  · have hp : 0 < (T.1 : Int) := by
      apply Classical.byContradiction
      intro h
      rw [if_neg h] at h12
      exact absurd h12 (by decide)
    have hcd : cdMean T = 0 := by unfold cdMean; rw [if_neg (by omega)]
    have hsb := wsT_bd hTV T.1
    have hz := dl_div (a := wsT T T.1) (b := (T.1 : Int)) ⟨hsb.1, by omega⟩ ⟨hp, by omega⟩
    have e : zarith (zmth 7) .ddiv 1 [(4, ((dI (T.1 : Int)).toNat : Int)), (4, ((dI (wsT T T.1)).toNat : Int))] = some [(4, mwV T)] := by
      show (if zn64 (FP.ddiv (UInt64.ofNat (((dI (wsT T T.1)).toNat : Int)).toNat) (UInt64.ofNat (((dI (T.1 : Int)).toNat : Int)).toNat)) = true then _ else none) = _
      rw [u64_id, u64_id, if_pos hz]
      rfl
    have loop : ∀ m k : Nat, k + m = T.1 → Z ro 3 mX7_meanWidth 31 [(1, ((0 : Nat) : Int)), (4, ((dI (T.1 : Int)).toNat : Int)), (9, 0), (0, wsT T k), (0, (k : Int))] [] w (fun r9 w9 k9 => k9 = kx r9 ∧ rP w T R D lim la (ans (some (4, mwV T)) ["java/lang/ArithmeticException"] (cdMean T)) r9 w9) := by
      intro m
      induction m with
      | zero =>
        intro k hk
        obtain rfl : k = T.1 := by omega
        refine Z_push gX7_meanWidth_31 (v := (0, (T.1 : Int))) rfl ?_
        refine Z_push gX7_meanWidth_33 (v := (1, ((0 : Nat) : Int))) rfl ?_
        refine Z_getR (b := 1) gX7_meanWidth_34 rfl rfl (by decide) rfl (by omega) ?_
        refine Z_callP (kd := 0) (na := 1) (M' := mX6_size) gX7_meanWidth_37 rfl rfl rfl rfl rfl rfl (fun _ => rfl) rfl rfl (fun _ _ => zrecv_obj rfl _ _ _) (d' := 0) (by omega) (vX6_size hT hR) ?_
        refine Z_icmp_ge gX7_meanWidth_40 (tgt := 61) (by decide) (fun _ => ?_) (fun h40 => absurd h40 (by omega))
        refine Z_push gX7_meanWidth_61 (v := (0, wsT T T.1)) rfl ?_
        refine Z_arith gX7_meanWidth_62 rfl rfl (v := [(4, ((dI (wsT T T.1)).toNat : Int))]) rfl ?_
        refine Z_push gX7_meanWidth_63 (v := (4, ((dI (T.1 : Int)).toNat : Int))) rfl ?_
        refine Z_arith gX7_meanWidth_64 rfl rfl (v := [(4, mwV T)]) e ?_
        refine Z_retX (v := (4, mwV T)) gX7_meanWidth_65 rfl rfl rfl rfl rfl ?_
        exact ⟨rfl, (ans_0 hcd).symm, hC, frC.refl _⟩
      | succ m ih =>
        intro k hk
        have hn := ih (k + 1) (by omega)
        have hb := wsT_bd hTV k
        have hw := wT_bd hTV (k : Int)
        rw [show ((k + 1 : Nat) : Int) = (k : Int) + 1 from rfl, show wsT T (k + 1) = wsT T k + wT T (k : Int) from rfl] at hn
        refine Z_push gX7_meanWidth_31 (v := (0, (k : Int))) rfl ?_
        refine Z_push gX7_meanWidth_33 (v := (1, ((0 : Nat) : Int))) rfl ?_
        refine Z_getR (b := 1) gX7_meanWidth_34 rfl rfl (by decide) rfl (by omega) ?_
        refine Z_callP (kd := 0) (na := 1) (M' := mX6_size) gX7_meanWidth_37 rfl rfl rfl rfl rfl rfl (fun _ => rfl) rfl rfl (fun _ _ => zrecv_obj rfl _ _ _) (d' := 0) (by omega) (vX6_size hT hR) ?_
        refine Z_icmp_ge gX7_meanWidth_40 (tgt := 61) (by decide) (fun h40 => absurd h40 (by omega)) (fun _ => ?_)
        refine Z_push gX7_meanWidth_43 (v := (0, wsT T k)) rfl ?_
        refine Z_push gX7_meanWidth_44 (v := (1, ((0 : Nat) : Int))) rfl ?_
        refine Z_getR (b := 1) gX7_meanWidth_45 rfl rfl (by decide) rfl (by omega) ?_
        refine Z_push gX7_meanWidth_48 (v := (0, (k : Int))) rfl ?_
        refine Z_callP (kd := 0) (na := 2) (M' := mX6_widthAt) gX7_meanWidth_50 rfl rfl rfl rfl rfl rfl (fun _ => rfl) rfl rfl (fun _ _ => zrecv_obj rfl _ _ _) (d' := 2) (by omega) (vX6_widthAt hT hR hTV _) ?_
        refine Z_iadd gX7_meanWidth_53 ⟨by omega, by omega⟩ ?_
        refine Z_sto gX7_meanWidth_54 rfl (ls' := [(1, ((0 : Nat) : Int)), (4, ((dI (T.1 : Int)).toNat : Int)), (9, 0), (0, (wsT T k) + (wT T (k : Int))), (0, (k : Int))]) (st' := []) rfl ?_
        refine Z_iinc gX7_meanWidth_55 rfl ⟨by omega, by omega⟩ (ls' := [(1, ((0 : Nat) : Int)), (4, ((dI (T.1 : Int)).toNat : Int)), (9, 0), (0, (wsT T k) + (wT T (k : Int))), (0, (k : Int) + 1)]) rfl ?_
        refine Z_goto gX7_meanWidth_58 (tgt := 31) (by decide) ?_
        exact hn
    refine Z_push gX7_meanWidth_26 (v := (0, 0)) rfl ?_
    refine Z_sto gX7_meanWidth_27 rfl (ls' := [(1, ((0 : Nat) : Int)), (4, ((dI (T.1 : Int)).toNat : Int)), (9, 0), (0, 0), (9, 0)]) (st' := []) rfl ?_
    refine Z_push gX7_meanWidth_28 (v := (0, 0)) rfl ?_
    refine Z_sto gX7_meanWidth_29 rfl (ls' := [(1, ((0 : Nat) : Int)), (4, ((dI (T.1 : Int)).toNat : Int)), (9, 0), (0, 0), (0, 0)]) (st' := []) rfl ?_
    exact loop T.1 0 (by omega)
  · have hp : ¬ 0 < (T.1 : Int) := fun h => by rw [if_pos h] at h12; exact absurd h12 (by decide)
    have hcd : cdMean T = 1 := by unfold cdMean; rw [if_pos (by omega)]
    refine Z_thrX (v := ("java/lang/ArithmeticException", 240, 278, 244, true)) gX7_meanWidth_15 rfl rfl rfl rfl rfl (by decide +kernel) (by decide +kernel) (by decide +kernel) rfl rfl ?_
    exact ⟨rfl, (ans_1 hcd).symm, hC, frC.refl _⟩
end
