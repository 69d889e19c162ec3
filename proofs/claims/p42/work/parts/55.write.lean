/-! the class's writers -/
def cdAddName (T : zTx) (i l : Int) : Nat := if (0 ≤ i ∧ i < 100) ∧ 1 ≤ l ∧ l ≤ 9 then (if T.1 = 30 then 2 else 0) else 1
def cdAddC (T : zTx) (l : Int) : Nat := if 1 ≤ l ∧ l ≤ 9 then (if T.1 = 30 then 2 else 0) else 1
def cdBeg (T : zTx) : Nat := if T.1 = 30 then 1 else 0
def cdEnd (T : zTx) : Nat := if 0 < opT T T.1 ∧ T.1 ≠ 30 then 0 else 1
def cdPin (T : zTx) (i j : Int) : Nat := if (0 ≤ i ∧ i < T.1) ∧ 0 ≤ j ∧ j < T.1 then (if j < i then 2 else 0) else 1
def cdFix (T : zTx) (R : zRu) (f : Int) : Nat := if 0 ≤ f ∧ f < (fdN T T.1 : Int) then (if 0 < gnT T R (feT T f.toNat) then 0 else 2) else 1
def cdFB (T : zTx) (R : zRu) : Nat := if fxN T R T.1 = 0 then 1 else 0
def cdRen (T : zTx) (x y : Int) : Nat := if (0 ≤ x ∧ x < 100) ∧ (0 ≤ y ∧ y < 100) ∧ x ≠ y then (if tmT T x T.1 = 0 then 2 else if b2i (hpT T x) = 1 ∨ 0 < tmT T y T.1 then 3 else 0) else 1
def mvLo (i j : Int) : Int := if i < j then i else j
def mvHi (i j : Int) : Int := if i < j then j else i
def cdMv (T : zTx) (i j : Int) : Nat := if (0 ≤ i ∧ i < T.1) ∧ 0 ≤ j ∧ j < T.1 then (if i = j then 2 else if b2i (mvT T (mvLo i j) (mvHi i j)) = 1 then 0 else 3) else 1
def cdUn (D : zDs) : Nat := if D.1 = 0 then 1 else 0
def cdWd (l : Int) : Nat := if 13 ≤ l ∧ l ≤ 60 then 0 else 1
section
variable {ro : zRo} {w w' : zW} {T : zTx} {R : zRu} {D : zDs} {lim la B : Int}
theorem pnC_le (T : zTx) (a : Nat) (v : Int) : ∀ m, pnC T a v m ≤ m
  | 0 => Nat.le_refl _
  | m + 1 => by have := pnC_le T a v m; unfold pnC; split <;> omega
theorem CR_ad (hC : CR w T R D lim la) {x : zE} (g1 : TR w' 1 (adT T x)) (g2 : w' 9 2 = 0) (g3 : w' 0 8 = 0) (g4 : ∀ a k, ¬ (1 ≤ a ∧ a ≤ 5) → ¬ (a = 9 ∧ k = 2) → ¬ (a = 0 ∧ k = 8) → w' a k = w a k) : CR w' (adT T x) R (fgD D) lim 0 := by
  obtain ⟨hR, hRR, ⟨nw, hD⟩, h7, h8, hL⟩ := hC
  exact ⟨g1, RR_frame hRR (fun a k h1 h2 => g4 a k (by omega) (by omega) (by omega)), ⟨nw, hD.1, (g4 _ _ (by omega) (by omega) (by omega)).trans hD.2.1, g2, Nat.zero_le _, fun q hq => absurd hq (Nat.not_lt_zero _)⟩, (g4 _ _ (by omega) (by omega) (by omega)).trans h7, g3, fun h => absurd h (by decide)⟩
/-- a text changed in its place -/
theorem CR_tx (hC : CR w T R D lim la) {T' : zTx} (g1 : TR w' 1 T') (g3 : w' 0 8 = 0) (g4 : ∀ a k, ¬ (1 ≤ a ∧ a ≤ 5) → ¬ (a = 0 ∧ k = 8) → w' a k = w a k) : CR w' T' R D lim 0 := by
  obtain ⟨hR, hRR, ⟨nw, hD⟩, h7, h8, hL⟩ := hC
  exact ⟨g1, RR_frame hRR (fun a k h1 h2 => g4 a k (by omega) (by omega)), ⟨nw, DR_frame hD (fun a k h1 h2 => g4 a k (by omega) (by omega))⟩, (g4 _ _ (by omega) (by omega)).trans h7, g3, fun h => absurd h (by decide)⟩
theorem uX7_addName (hC : CR w T R D lim la) (hV : SV B T R D lim la) (i : Int) (l : Int) : Xv ro 4 mX7_addName [(1, ((0 : Nat) : Int)), (0, i), (0, l)] w (mP w (cdAddName T i l) (fun w' => CR w' (adT T (110, i, l, 0)) R (fgD D) lim 0) (fun w' => CR w' T R D lim la) (ans (some (0, (T.1 : Int))) ["java/lang/IllegalArgumentException", "java/lang/IllegalStateException"] (cdAddName T i l))) := by
  obtain ⟨hR, hRR, ⟨nw, hD⟩, h7, h8, hL⟩ := id hC
  obtain ⟨hTV, hRV, hDV, hlim, hla, hop, hopD⟩ := id hV
  have hT := TX_1
  have hV1 := hTV.1
  show Z ro 4 mX7_addName 0 [(1, ((0 : Nat) : Int)), (0, i), (0, l)] [] w _
  by_cases h : 0 ≤ i ∧ i < 100
  · by_cases h2 : 1 ≤ l ∧ l ≤ 9
    · by_cases h3 : T.1 < 30
      · refine Z_push gX7_addName_0 (v := (0, i)) rfl ?_
        refine Z_callW (kd := 1) (na := 1) (M' := mX7_needName) gX7_addName_1 rfl rfl rfl rfl rfl rfl (fun _ => rfl) rfl rfl (fun _ _ => rfl) (d' := 0) (by omega) (nName_ok h) ?_
        refine Z_push gX7_addName_4 (v := (0, l)) rfl ?_
        refine Z_callW (kd := 1) (na := 1) (M' := mX7_needLength) gX7_addName_5 rfl rfl rfl rfl rfl rfl (fun _ => rfl) rfl rfl (fun _ _ => rfl) (d' := 0) (by omega) (nLen_ok h2) ?_
        refine Z_push gX7_addName_8 (v := (1, ((0 : Nat) : Int))) rfl ?_
        refine Z_push gX7_addName_9 (v := (0, 110)) rfl ?_
        refine Z_push gX7_addName_11 (v := (0, i)) rfl ?_
        refine Z_push gX7_addName_12 (v := (0, l)) rfl ?_
        refine Z_callE (kd := 0) (na := 4) (M' := mX7_append) gX7_addName_13 rfl rfl rfl rfl rfl rfl (fun _ => rfl) rfl rfl (fun _ _ => zrecv_obj rfl _ _ _) (d' := 3) (by omega) (vX7_append hR h3 (x := (110, i, l, 0)) (by omega) ⟨rfl, fun _ => rfl, fun _ => rfl, rfl⟩) ?_
        rintro o w2 ⟨rfl, g2, g3, g4, g5⟩
        refine Z_retX (v := (0, (T.1 : Int))) gX7_addName_16 rfl rfl rfl rfl rfl ?_
        have hcd : cdAddName T i l = 0 := by unfold cdAddName; (repeat' split) <;> omega
        exact ⟨rfl, (ans_0 hcd).symm, fun _ => CR_ad hC g2 g3 g4 g5, fun h => absurd hcd h, (fun a k ha => g5 a k (by omega) (by omega) (by omega))⟩
      · refine Z_push gX7_addName_0 (v := (0, i)) rfl ?_
        refine Z_callW (kd := 1) (na := 1) (M' := mX7_needName) gX7_addName_1 rfl rfl rfl rfl rfl rfl (fun _ => rfl) rfl rfl (fun _ _ => rfl) (d' := 0) (by omega) (nName_ok h) ?_
        refine Z_push gX7_addName_4 (v := (0, l)) rfl ?_
        refine Z_callW (kd := 1) (na := 1) (M' := mX7_needLength) gX7_addName_5 rfl rfl rfl rfl rfl rfl (fun _ => rfl) rfl rfl (fun _ _ => rfl) (d' := 0) (by omega) (nLen_ok h2) ?_
        refine Z_push gX7_addName_8 (v := (1, ((0 : Nat) : Int))) rfl ?_
        refine Z_push gX7_addName_9 (v := (0, 110)) rfl ?_
        refine Z_push gX7_addName_11 (v := (0, i)) rfl ?_
        refine Z_push gX7_addName_12 (v := (0, l)) rfl ?_
        refine Z_callT (kd := 0) (na := 4) (M' := mX7_append) gX7_addName_13 rfl rfl rfl rfl rfl rfl (fun _ => rfl) rfl rfl (fun _ _ => zrecv_obj rfl _ _ _) (d' := 3) (by omega) (vX7_append_no hR h3 _ _ _) (Or.inl rfl) rfl (fun w9 hE => ?_)
        subst hE
        have hcd : cdAddName T i l = 2 := by unfold cdAddName; (repeat' split) <;> omega
        exact ⟨rfl, (ans_2 hcd).symm, fun h => absurd h (by omega), fun _ => hC, frC.refl _⟩
    · refine Z_push gX7_addName_0 (v := (0, i)) rfl ?_
      refine Z_callW (kd := 1) (na := 1) (M' := mX7_needName) gX7_addName_1 rfl rfl rfl rfl rfl rfl (fun _ => rfl) rfl rfl (fun _ _ => rfl) (d' := 0) (by omega) (nName_ok h) ?_
      refine Z_push gX7_addName_4 (v := (0, l)) rfl ?_
      refine Z_callT (kd := 1) (na := 1) (M' := mX7_needLength) gX7_addName_5 rfl rfl rfl rfl rfl rfl (fun _ => rfl) rfl rfl (fun _ _ => rfl) (d' := 0) (by omega) (nLen_no h2) (Or.inr rfl) rfl (fun w9 hE => ?_)
      subst hE
      have hcd : cdAddName T i l = 1 := by unfold cdAddName; (repeat' split) <;> omega
      exact ⟨rfl, (ans_1 hcd).symm, fun h => absurd h (by omega), fun _ => hC, frC.refl _⟩
  · refine Z_push gX7_addName_0 (v := (0, i)) rfl ?_
    refine Z_callT (kd := 1) (na := 1) (M' := mX7_needName) gX7_addName_1 rfl rfl rfl rfl rfl rfl (fun _ => rfl) rfl rfl (fun _ _ => rfl) (d' := 0) (by omega) (nName_no h) (Or.inr rfl) rfl (fun w9 hE => ?_)
    subst hE
    have hcd : cdAddName T i l = 1 := by unfold cdAddName; (repeat' split) <;> omega
    exact ⟨rfl, (ans_1 hcd).symm, fun h => absurd h (by omega), fun _ => hC, frC.refl _⟩
theorem uX7_addComment (hC : CR w T R D lim la) (hV : SV B T R D lim la) (l : Int) : Xv ro 4 mX7_addComment [(1, ((0 : Nat) : Int)), (0, l)] w (mP w (cdAddC T l) (fun w' => CR w' (adT T (99, 0, l, 0)) R (fgD D) lim 0) (fun w' => CR w' T R D lim la) (ans (some (0, (T.1 : Int))) ["java/lang/IllegalArgumentException", "java/lang/IllegalStateException"] (cdAddC T l))) := by
  obtain ⟨hR, hRR, ⟨nw, hD⟩, h7, h8, hL⟩ := id hC
  obtain ⟨hTV, hRV, hDV, hlim, hla, hop, hopD⟩ := id hV
  have hT := TX_1
  have hV1 := hTV.1
  show Z ro 4 mX7_addComment 0 [(1, ((0 : Nat) : Int)), (0, l)] [] w _
  by_cases h2 : 1 ≤ l ∧ l ≤ 9
  · by_cases h3 : T.1 < 30
    · refine Z_push gX7_addComment_0 (v := (0, l)) rfl ?_
      refine Z_callW (kd := 1) (na := 1) (M' := mX7_needLength) gX7_addComment_1 rfl rfl rfl rfl rfl rfl (fun _ => rfl) rfl rfl (fun _ _ => rfl) (d' := 0) (by omega) (nLen_ok h2) ?_
      refine Z_push gX7_addComment_4 (v := (1, ((0 : Nat) : Int))) rfl ?_
      refine Z_push gX7_addComment_5 (v := (0, 99)) rfl ?_
      refine Z_push gX7_addComment_7 (v := (0, 0)) rfl ?_
      refine Z_push gX7_addComment_8 (v := (0, l)) rfl ?_
      refine Z_callE (kd := 0) (na := 4) (M' := mX7_append) gX7_addComment_9 rfl rfl rfl rfl rfl rfl (fun _ => rfl) rfl rfl (fun _ _ => zrecv_obj rfl _ _ _) (d' := 3) (by omega) (vX7_append hR h3 (x := (99, 0, l, 0)) (by omega) ⟨rfl, fun _ => rfl, fun _ => rfl, rfl⟩) ?_
      rintro o w2 ⟨rfl, g2, g3, g4, g5⟩
      refine Z_retX (v := (0, (T.1 : Int))) gX7_addComment_12 rfl rfl rfl rfl rfl ?_
      have hcd : cdAddC T l = 0 := by unfold cdAddC; (repeat' split) <;> omega
      exact ⟨rfl, (ans_0 hcd).symm, fun _ => CR_ad hC g2 g3 g4 g5, fun h => absurd hcd h, (fun a k ha => g5 a k (by omega) (by omega) (by omega))⟩
    · refine Z_push gX7_addComment_0 (v := (0, l)) rfl ?_
      refine Z_callW (kd := 1) (na := 1) (M' := mX7_needLength) gX7_addComment_1 rfl rfl rfl rfl rfl rfl (fun _ => rfl) rfl rfl (fun _ _ => rfl) (d' := 0) (by omega) (nLen_ok h2) ?_
      refine Z_push gX7_addComment_4 (v := (1, ((0 : Nat) : Int))) rfl ?_
      refine Z_push gX7_addComment_5 (v := (0, 99)) rfl ?_
      refine Z_push gX7_addComment_7 (v := (0, 0)) rfl ?_
      refine Z_push gX7_addComment_8 (v := (0, l)) rfl ?_
      refine Z_callT (kd := 0) (na := 4) (M' := mX7_append) gX7_addComment_9 rfl rfl rfl rfl rfl rfl (fun _ => rfl) rfl rfl (fun _ _ => zrecv_obj rfl _ _ _) (d' := 3) (by omega) (vX7_append_no hR h3 _ _ _) (Or.inl rfl) rfl (fun w9 hE => ?_)
      subst hE
      have hcd : cdAddC T l = 2 := by unfold cdAddC; (repeat' split) <;> omega
      exact ⟨rfl, (ans_2 hcd).symm, fun h => absurd h (by omega), fun _ => hC, frC.refl _⟩
  · refine Z_push gX7_addComment_0 (v := (0, l)) rfl ?_
    refine Z_callT (kd := 1) (na := 1) (M' := mX7_needLength) gX7_addComment_1 rfl rfl rfl rfl rfl rfl (fun _ => rfl) rfl rfl (fun _ _ => rfl) (d' := 0) (by omega) (nLen_no h2) (Or.inr rfl) rfl (fun w9 hE => ?_)
    subst hE
    have hcd : cdAddC T l = 1 := by unfold cdAddC; (repeat' split) <;> omega
    exact ⟨rfl, (ans_1 hcd).symm, fun h => absurd h (by omega), fun _ => hC, frC.refl _⟩
theorem uX7_begin (hC : CR w T R D lim la) (hV : SV B T R D lim la) : Xv ro 4 mX7_begin [(1, ((0 : Nat) : Int))] w (mP w (cdBeg T) (fun w' => CR w' (adT T (123, 0, 1, 0)) R (fgD D) lim 0) (fun w' => CR w' T R D lim la) (ans (some (0, dpT (adT T (123, 0, 1, 0)) (T.1 : Int))) ["java/lang/IllegalStateException"] (cdBeg T))) := by
  obtain ⟨hR, hRR, ⟨nw, hD⟩, h7, h8, hL⟩ := id hC
  obtain ⟨hTV, hRV, hDV, hlim, hla, hop, hopD⟩ := id hV
  have hT := TX_1
  have hV1 := hTV.1
  show Z ro 4 mX7_begin 0 [(1, ((0 : Nat) : Int))] [] w _
  by_cases h3 : T.1 < 30
  · refine Z_push gX7_begin_0 (v := (1, ((0 : Nat) : Int))) rfl ?_
    refine Z_getR (b := 1) gX7_begin_1 rfl rfl (by decide) rfl (by omega) ?_
    refine Z_push gX7_begin_4 (v := (1, ((0 : Nat) : Int))) rfl ?_
    refine Z_push gX7_begin_5 (v := (0, 123)) rfl ?_
    refine Z_push gX7_begin_7 (v := (0, 0)) rfl ?_
    refine Z_push gX7_begin_8 (v := (0, 1)) rfl ?_
    refine Z_callE (kd := 0) (na := 4) (M' := mX7_append) gX7_begin_9 rfl rfl rfl rfl rfl rfl (fun _ => rfl) rfl rfl (fun _ _ => zrecv_obj rfl _ _ _) (d' := 3) (by omega) (vX7_append hR h3 (x := (123, 0, 1, 0)) (by omega) ⟨rfl, fun _ => rfl, fun _ => rfl, rfl⟩) ?_
    rintro o w2 ⟨rfl, g2, g3, g4, g5⟩
    have e : ((adT T (123, 0, 1, 0)).1 : Int) = (T.1 : Int) + 1 := rfl
    have hV2 : TV (adT T (123, 0, 1, 0)) := TV_ad hTV h3 ⟨by simp, by simp, by simp, by simp⟩
    refine Z_callP (kd := 0) (na := 2) (M' := mX6_depthAt) gX7_begin_12 rfl rfl rfl rfl rfl rfl (fun _ => rfl) rfl rfl (fun _ _ => zrecv_obj rfl _ _ _) (d' := 2) (by omega) (vX6_depthAt hT g2 hV2 (i := (T.1 : Int)) (by omega)) ?_
    refine Z_retX (v := (0, dpT (adT T (123, 0, 1, 0)) (T.1 : Int))) gX7_begin_15 rfl rfl rfl rfl rfl ?_
    have hcd : cdBeg T = 0 := by unfold cdBeg; (repeat' split) <;> omega
    exact ⟨rfl, (ans_0 hcd).symm, fun _ => CR_ad hC g2 g3 g4 g5, fun h => absurd hcd h, (fun a k ha => g5 a k (by omega) (by omega) (by omega))⟩
  · refine Z_push gX7_begin_0 (v := (1, ((0 : Nat) : Int))) rfl ?_
    refine Z_getR (b := 1) gX7_begin_1 rfl rfl (by decide) rfl (by omega) ?_
    refine Z_push gX7_begin_4 (v := (1, ((0 : Nat) : Int))) rfl ?_
    refine Z_push gX7_begin_5 (v := (0, 123)) rfl ?_
    refine Z_push gX7_begin_7 (v := (0, 0)) rfl ?_
    refine Z_push gX7_begin_8 (v := (0, 1)) rfl ?_
    refine Z_callT (kd := 0) (na := 4) (M' := mX7_append) gX7_begin_9 rfl rfl rfl rfl rfl rfl (fun _ => rfl) rfl rfl (fun _ _ => zrecv_obj rfl _ _ _) (d' := 3) (by omega) (vX7_append_no hR h3 _ _ _) (Or.inl rfl) rfl (fun w9 hE => ?_)
    subst hE
    have hcd : cdBeg T = 1 := by unfold cdBeg; (repeat' split) <;> omega
    exact ⟨rfl, (ans_1 hcd).symm, fun h => absurd h (by omega), fun _ => hC, frC.refl _⟩
theorem uX7_end (hC : CR w T R D lim la) (hV : SV B T R D lim la) : Xv ro 4 mX7_end [(1, ((0 : Nat) : Int))] w (mP w (cdEnd T) (fun w' => CR w' (adT T (125, 0, 1, 0)) R (fgD D) lim 0) (fun w' => CR w' T R D lim la) (ans (some (0, dpT (adT T (125, 0, 1, 0)) (T.1 : Int))) ["java/lang/IllegalStateException"] (cdEnd T))) := by
  obtain ⟨hR, hRR, ⟨nw, hD⟩, h7, h8, hL⟩ := id hC
  obtain ⟨hTV, hRV, hDV, hlim, hla, hop, hopD⟩ := id hV
  have hT := TX_1
  have hV1 := hTV.1
  show Z ro 4 mX7_end 0 [(1, ((0 : Nat) : Int))] [] w _
  have hopb := opT_bd T T.1
  refine Z_push gX7_end_0 (v := (1, ((0 : Nat) : Int))) rfl ?_
  refine Z_getR (b := 1) gX7_end_1 rfl rfl (by decide) rfl (by omega) ?_
  refine Z_push gX7_end_4 (v := (1, ((0 : Nat) : Int))) rfl ?_
  refine Z_getR (b := 1) gX7_end_5 rfl rfl (by decide) rfl (by omega) ?_
  refine Z_callP (kd := 0) (na := 1) (M' := mX6_size) gX7_end_8 rfl rfl rfl rfl rfl rfl (fun _ => rfl) rfl rfl (fun _ _ => zrecv_obj rfl _ _ _) (d' := 0) (by omega) (vX6_size (by assumption) (by assumption)) ?_
  refine Z_callP (kd := 0) (na := 2) (M' := mX6_openAhead) gX7_end_11 rfl rfl rfl rfl rfl rfl (fun _ => rfl) rfl rfl (fun _ _ => zrecv_obj rfl _ _ _) (d' := 1) (by omega) (show Pv ro 1 mX6_openAhead _ _ (0, opT T T.1) from vX6_openAhead hT hR hTV (i := (T.1 : Int)) (by omega)) ?_
  refine Z_if_gt gX7_end_14 (tgt := 27) (by decide) (fun h14 => ?_) (fun h14 => ?_)
  · by_cases h3 : T.1 < 30
    · refine Z_push gX7_end_27 (v := (1, ((0 : Nat) : Int))) rfl ?_
      refine Z_getR (b := 1) gX7_end_28 rfl rfl (by decide) rfl (by omega) ?_
      refine Z_push gX7_end_31 (v := (1, ((0 : Nat) : Int))) rfl ?_
      refine Z_push gX7_end_32 (v := (0, 125)) rfl ?_
      refine Z_push gX7_end_34 (v := (0, 0)) rfl ?_
      refine Z_push gX7_end_35 (v := (0, 1)) rfl ?_
      refine Z_callE (kd := 0) (na := 4) (M' := mX7_append) gX7_end_36 rfl rfl rfl rfl rfl rfl (fun _ => rfl) rfl rfl (fun _ _ => zrecv_obj rfl _ _ _) (d' := 3) (by omega) (vX7_append hR h3 (x := (125, 0, 1, 0)) (by omega) ⟨rfl, fun _ => rfl, fun _ => rfl, rfl⟩) ?_
      rintro o w2 ⟨rfl, g2, g3, g4, g5⟩
      have e : ((adT T (125, 0, 1, 0)).1 : Int) = (T.1 : Int) + 1 := rfl
      have hV2 : TV (adT T (125, 0, 1, 0)) := TV_ad hTV h3 ⟨by simp, by simp, by simp, by simp⟩
      refine Z_callP (kd := 0) (na := 2) (M' := mX6_depthAt) gX7_end_39 rfl rfl rfl rfl rfl rfl (fun _ => rfl) rfl rfl (fun _ _ => zrecv_obj rfl _ _ _) (d' := 2) (by omega) (vX6_depthAt hT g2 hV2 (i := (T.1 : Int)) (by omega)) ?_
      refine Z_retX (v := (0, dpT (adT T (125, 0, 1, 0)) (T.1 : Int))) gX7_end_42 rfl rfl rfl rfl rfl ?_
      have hcd : cdEnd T = 0 := by unfold cdEnd; (repeat' split) <;> omega
      exact ⟨rfl, (ans_0 hcd).symm, fun _ => CR_ad hC g2 g3 g4 g5, fun h => absurd hcd h, (fun a k ha => g5 a k (by omega) (by omega) (by omega))⟩
    · refine Z_push gX7_end_27 (v := (1, ((0 : Nat) : Int))) rfl ?_
      refine Z_getR (b := 1) gX7_end_28 rfl rfl (by decide) rfl (by omega) ?_
      refine Z_push gX7_end_31 (v := (1, ((0 : Nat) : Int))) rfl ?_
      refine Z_push gX7_end_32 (v := (0, 125)) rfl ?_
      refine Z_push gX7_end_34 (v := (0, 0)) rfl ?_
      refine Z_push gX7_end_35 (v := (0, 1)) rfl ?_
      refine Z_callT (kd := 0) (na := 4) (M' := mX7_append) gX7_end_36 rfl rfl rfl rfl rfl rfl (fun _ => rfl) rfl rfl (fun _ _ => zrecv_obj rfl _ _ _) (d' := 3) (by omega) (vX7_append_no hR h3 _ _ _) (Or.inl rfl) rfl (fun w9 hE => ?_)
      subst hE
      have hcd : cdEnd T = 1 := by unfold cdEnd; (repeat' split) <;> omega
      exact ⟨rfl, (ans_1 hcd).symm, fun h => absurd h (by omega), fun _ => hC, frC.refl _⟩
  · refine Z_thrX (v := ("java/lang/IllegalStateException", 84, 86, 88, false)) gX7_end_17 rfl rfl rfl rfl rfl (by decide +kernel) (by decide +kernel) (by decide +kernel) rfl rfl ?_
    have hcd : cdEnd T = 1 := by unfold cdEnd; (repeat' split) <;> omega
    exact ⟨rfl, (ans_1 hcd).symm, fun h => absurd h (by omega), fun _ => hC, frC.refl _⟩
theorem uX7_pin (hC : CR w T R D lim la) (hV : SV B T R D lim la) (i : Int) (j : Int) (v : Int) (hv : v = 0 ∨ v = 1) : Xv ro 2 mX7_pin [(1, ((0 : Nat) : Int)), (0, i), (0, j), (0, v)] w (mP w (cdPin T i j) (fun w' => CR w' (piR T i.toNat (j.toNat + 1) v) R D lim 0) (fun w' => CR w' T R D lim la) (ans (some (0, (pnC T i.toNat v (j.toNat + 1 - i.toNat) : Int))) ["java/lang/IndexOutOfBoundsException", "java/lang/IllegalArgumentException"] (cdPin T i j))) := by
  obtain ⟨hR, hRR, ⟨nw, hD⟩, h7, h8, hL⟩ := id hC
  obtain ⟨hTV, hRV, hDV, hlim, hla, hop, hopD⟩ := id hV
  have hT := TX_1
  have hV1 := hTV.1
  show Z ro 2 mX7_pin 0 [(1, ((0 : Nat) : Int)), (0, i), (0, j), (0, v), (9, 0), (9, 0)] [] w _
  by_cases h : 0 ≤ i ∧ i < T.1
  · by_cases h2 : 0 ≤ j ∧ j < T.1
    · by_cases h3 : j < i
      · refine Z_push gX7_pin_0 (v := (1, ((0 : Nat) : Int))) rfl ?_
        refine Z_push gX7_pin_1 (v := (0, i)) rfl ?_
        refine Z_callW (kd := 0) (na := 2) (M' := mX7_needEntry) gX7_pin_2 rfl rfl rfl rfl rfl rfl (fun _ => rfl) rfl rfl (fun _ _ => zrecv_obj rfl _ _ _) (d' := 1) (by omega) (nEntry_ok hR h) ?_
        refine Z_push gX7_pin_5 (v := (1, ((0 : Nat) : Int))) rfl ?_
        refine Z_push gX7_pin_6 (v := (0, j)) rfl ?_
        refine Z_callW (kd := 0) (na := 2) (M' := mX7_needEntry) gX7_pin_7 rfl rfl rfl rfl rfl rfl (fun _ => rfl) rfl rfl (fun _ _ => zrecv_obj rfl _ _ _) (d' := 1) (by omega) (nEntry_ok hR h2) ?_
        refine Z_push gX7_pin_10 (v := (0, j)) rfl ?_
        refine Z_push gX7_pin_11 (v := (0, i)) rfl ?_
        refine Z_icmp_ge gX7_pin_12 (tgt := 25) (by decide) (fun h12 => absurd h12 (by omega)) (fun _ => ?_)
        refine Z_thrX (v := ("java/lang/IllegalArgumentException", 114, 116, 118, false)) gX7_pin_15 rfl rfl rfl rfl rfl (by decide +kernel) (by decide +kernel) (by decide +kernel) rfl rfl ?_
        have hcd : cdPin T i j = 2 := by unfold cdPin; (repeat' split) <;> omega
        exact ⟨rfl, (ans_2 hcd).symm, fun h => absurd h (by omega), fun _ => hC, frC.refl _⟩
      · obtain ⟨a, rfl⟩ : ∃ a : Nat, i = (a : Int) := ⟨i.toNat, by omega⟩
        obtain ⟨b, rfl⟩ : ∃ b : Nat, j = (b : Int) := ⟨j.toNat, by omega⟩
        have hcd : cdPin T (a : Int) (b : Int) = 0 := by unfold cdPin; (repeat' split) <;> omega
        have loop : ∀ k m : Nat, a + m + k = b + 1 → ∀ W : zW, TR W 1 (piR T a (a + m) v) → frT 1 w W → Z ro 2 mX7_pin 31 [(1, ((0 : Nat) : Int)), (0, (a : Int)), (0, (b : Int)), (0, v), (0, (pnC T a v m : Int)), (0, ((a + m : Nat) : Int))] [] W (fun r9 w9 k9 => k9 = kx r9 ∧ mP w (cdPin T (a : Int) (b : Int)) (fun w' => CR w' (piR T a (b + 1) v) R D lim 0) (fun w' => CR w' T R D lim la) (ans (some (0, (pnC T a v (b + 1 - a) : Int))) ["java/lang/IndexOutOfBoundsException", "java/lang/IllegalArgumentException"] (cdPin T (a : Int) (b : Int))) r9 w9) := by
          intro k
          induction k with
          | zero =>
            intro m hm W hW hf
            refine Z_push gX7_pin_31 (v := (0, ((a + m : Nat) : Int))) rfl ?_
            refine Z_push gX7_pin_33 (v := (0, (b : Int))) rfl ?_
            refine Z_icmp_gt gX7_pin_34 (tgt := 69) (by decide) (fun _ => ?_) (fun h34 => absurd h34 (by omega))
            refine Z_push gX7_pin_69 (v := (1, ((0 : Nat) : Int))) rfl ?_
            refine Z_push gX7_pin_70 (v := (0, 0)) rfl ?_
            refine Z_put gX7_pin_71 rfl rfl (by decide) rfl (fun _ => (by first | exact Or.inl rfl | exact Or.inr rfl | assumption)) ?_
            refine Z_push gX7_pin_74 (v := (0, (pnC T a v m : Int))) rfl ?_
            refine Z_retX (v := (0, (pnC T a v m : Int))) gX7_pin_76 rfl rfl rfl rfl rfl ?_
            rw [show m = b + 1 - a by omega]
            rw [show a + m = b + 1 by omega] at hW
            exact ⟨rfl, (ans_0 hcd).symm, fun _ => CR_tx hC (TR_frame hW (fun q k hq => zup_ne (by omega))) (zup_eq _ _ _ _) (fun q k h1 h2 => (zup_ne h2).trans (hf q k (by omega) (by omega))), fun h => absurd hcd h, fun q k hq => (zup_ne (by omega)).trans (hf q k (by omega) (by omega))⟩
          | succ k ih =>
            intro m hm W hW hf
            have hVW : TV (piR T a (a + m) v) := TV_pi hTV a _ hv
            have hpb : ((a + m : Nat) : Int) < (T.1 : Int) := by omega
            have e1 : pT (piR T a (a + m) v) ((a + m : Nat) : Int) = pT T ((a + m : Nat) : Int) := by
              unfold pT
              show (if 0 ≤ ((a + m : Nat) : Int) ∧ ((a + m : Nat) : Int) < (T.1 : Int) then (if a ≤ a + m ∧ a + m < a + m then ((T.2 (a + m)).1, (T.2 (a + m)).2.1, (T.2 (a + m)).2.2.1, v) else T.2 (a + m)).2.2.2 else 0) = _
              rw [if_neg (by omega : ¬ (a ≤ a + m ∧ a + m < a + m))]
              rfl
            have e2 : pnC T a v (m + 1) = pnC T a v m + (if pT T ((a + m : Nat) : Int) = v then 0 else 1) := rfl
            have e4 : (T.2 (a + m)).2.2.2 = pT T ((a + m : Nat) : Int) := by unfold pT; rw [if_pos ⟨by omega, hpb⟩]; rfl
            have hpc : pnC T a v m ≤ m := pnC_le T a v m
            have hp : Pv ro 1 mX6_pinnedAt [(1, ((1 : Nat) : Int)), (0, ((a + m : Nat) : Int))] W (0, pT T ((a + m : Nat) : Int)) := by
              rw [← e1]
              exact TR_pT hW hVW (show 0 ≤ ((a + m : Nat) : Int) ∧ ((a + m : Nat) : Int) < (T.1 : Int) from ⟨by omega, hpb⟩) ▸ vX6_pinnedAt hT _
            have hn := ih (m + 1) (by omega)
            rw [show ((a + (m + 1) : Nat) : Int) = ((a + m : Nat) : Int) + 1 from rfl] at hn
            refine Z_push gX7_pin_31 (v := (0, ((a + m : Nat) : Int))) rfl ?_
            refine Z_push gX7_pin_33 (v := (0, (b : Int))) rfl ?_
            refine Z_icmp_gt gX7_pin_34 (tgt := 69) (by decide) (fun h34 => absurd h34 (by omega)) (fun _ => ?_)
            refine Z_push gX7_pin_37 (v := (1, ((0 : Nat) : Int))) rfl ?_
            refine Z_getR (b := 1) gX7_pin_38 rfl rfl (by decide) rfl (by omega) ?_
            refine Z_push gX7_pin_41 (v := (0, ((a + m : Nat) : Int))) rfl ?_
            refine Z_callP (kd := 0) (na := 2) (M' := mX6_pinnedAt) gX7_pin_43 rfl rfl rfl rfl rfl rfl (fun _ => rfl) rfl rfl (fun _ _ => zrecv_obj rfl _ _ _) (d' := 1) (by omega) (hp) ?_
            refine Z_push gX7_pin_46 (v := (0, v)) rfl ?_
            refine Z_icmp_eq gX7_pin_47 (tgt := 63) (by decide) (fun h47 => ?_) (fun h47 => ?_)
            · rw [if_pos h47] at e2
              rw [e2] at hn
              refine Z_iinc gX7_pin_63 rfl ⟨by omega, by omega⟩ (ls' := [(1, ((0 : Nat) : Int)), (0, (a : Int)), (0, (b : Int)), (0, v), (0, (pnC T a v m : Int)), (0, ((a + m : Nat) : Int) + 1)]) rfl ?_
              refine Z_goto gX7_pin_66 (tgt := 31) (by decide) ?_
              refine hn W (TR_congr hW rfl (fun q hq => ?_)) hf
              show (if a ≤ q ∧ q < a + m then _ else T.2 q) = (if a ≤ q ∧ q < a + (m + 1) then _ else T.2 q)
              by_cases eq : q = a + m
              · subst eq
                rw [if_neg (by omega), if_pos (by omega), ← h47, ← e4]
              · by_cases e3 : a ≤ q ∧ q < a + m
                · rw [if_pos e3, if_pos (by omega)]
                · rw [if_neg e3, if_neg (by omega)]
            · rw [if_neg h47] at e2
              rw [e2] at hn
              refine Z_push gX7_pin_50 (v := (1, ((0 : Nat) : Int))) rfl ?_
              refine Z_getR (b := 1) gX7_pin_51 rfl rfl (by decide) rfl (by omega) ?_
              refine Z_push gX7_pin_54 (v := (0, ((a + m : Nat) : Int))) rfl ?_
              refine Z_push gX7_pin_56 (v := (0, v)) rfl ?_
              refine Z_callE (kd := 0) (na := 3) (M' := mX6_setPinned) gX7_pin_57 rfl rfl rfl rfl rfl rfl (fun _ => rfl) rfl rfl (fun _ _ => zrecv_obj rfl _ _ _) (d' := 1) (by omega) (vX6_setPinned hT hW hVW (i := a + m) (show a + m < T.1 by omega) hv) ?_
              rintro o w2 ⟨rfl, g2, g3⟩
              refine Z_iinc gX7_pin_60 rfl ⟨by omega, by omega⟩ (ls' := [(1, ((0 : Nat) : Int)), (0, (a : Int)), (0, (b : Int)), (0, v), (0, (pnC T a v m : Int) + 1), (0, ((a + m : Nat) : Int))]) rfl ?_
              refine Z_iinc gX7_pin_63 rfl ⟨by omega, by omega⟩ (ls' := [(1, ((0 : Nat) : Int)), (0, (a : Int)), (0, (b : Int)), (0, v), (0, (pnC T a v m : Int) + 1), (0, ((a + m : Nat) : Int) + 1)]) rfl ?_
              refine Z_goto gX7_pin_66 (tgt := 31) (by decide) ?_
              refine hn w2 (TR_congr g2 rfl (fun q hq => ?_)) (hf.trans g3)
              show (if q = a + m then _ else (if a ≤ q ∧ q < a + m then _ else T.2 q)) = (if a ≤ q ∧ q < a + (m + 1) then _ else T.2 q)
              by_cases eq : q = a + m
              · subst eq
                rw [if_pos rfl, if_pos (by omega)]
                show ((if a ≤ a + m ∧ a + m < a + m then _ else T.2 (a + m)).1, (if a ≤ a + m ∧ a + m < a + m then _ else T.2 (a + m)).2.1, (if a ≤ a + m ∧ a + m < a + m then _ else T.2 (a + m)).2.2.1, v) = _
                rw [if_neg (by omega)]
              · rw [if_neg eq]
                by_cases e3 : a ≤ q ∧ q < a + m
                · rw [if_pos e3, if_pos (by omega)]
                · rw [if_neg e3, if_neg (by omega)]
        refine Z_push gX7_pin_0 (v := (1, ((0 : Nat) : Int))) rfl ?_
        refine Z_push gX7_pin_1 (v := (0, (a : Int))) rfl ?_
        refine Z_callW (kd := 0) (na := 2) (M' := mX7_needEntry) gX7_pin_2 rfl rfl rfl rfl rfl rfl (fun _ => rfl) rfl rfl (fun _ _ => zrecv_obj rfl _ _ _) (d' := 1) (by omega) (nEntry_ok hR h) ?_
        refine Z_push gX7_pin_5 (v := (1, ((0 : Nat) : Int))) rfl ?_
        refine Z_push gX7_pin_6 (v := (0, (b : Int))) rfl ?_
        refine Z_callW (kd := 0) (na := 2) (M' := mX7_needEntry) gX7_pin_7 rfl rfl rfl rfl rfl rfl (fun _ => rfl) rfl rfl (fun _ _ => zrecv_obj rfl _ _ _) (d' := 1) (by omega) (nEntry_ok hR h2) ?_
        refine Z_push gX7_pin_10 (v := (0, (b : Int))) rfl ?_
        refine Z_push gX7_pin_11 (v := (0, (a : Int))) rfl ?_
        refine Z_icmp_ge gX7_pin_12 (tgt := 25) (by decide) (fun _ => ?_) (fun h12 => absurd h12 (by omega))
        refine Z_push gX7_pin_25 (v := (0, 0)) rfl ?_
        refine Z_sto gX7_pin_26 rfl (ls' := [(1, ((0 : Nat) : Int)), (0, (a : Int)), (0, (b : Int)), (0, v), (0, 0), (9, 0)]) (st' := []) rfl ?_
        refine Z_push gX7_pin_28 (v := (0, (a : Int))) rfl ?_
        refine Z_sto gX7_pin_29 rfl (ls' := [(1, ((0 : Nat) : Int)), (0, (a : Int)), (0, (b : Int)), (0, v), (0, 0), (0, (a : Int))]) (st' := []) rfl ?_
        exact loop (b + 1 - a) 0 (by omega) w (TR_congr hR rfl (fun q hq => by show T.2 q = (if a ≤ q ∧ q < a + 0 then _ else T.2 q); rw [if_neg (by omega)])) (frT.refl 1 w)
    · refine Z_push gX7_pin_0 (v := (1, ((0 : Nat) : Int))) rfl ?_
      refine Z_push gX7_pin_1 (v := (0, i)) rfl ?_
      refine Z_callW (kd := 0) (na := 2) (M' := mX7_needEntry) gX7_pin_2 rfl rfl rfl rfl rfl rfl (fun _ => rfl) rfl rfl (fun _ _ => zrecv_obj rfl _ _ _) (d' := 1) (by omega) (nEntry_ok hR h) ?_
      refine Z_push gX7_pin_5 (v := (1, ((0 : Nat) : Int))) rfl ?_
      refine Z_push gX7_pin_6 (v := (0, j)) rfl ?_
      refine Z_callT (kd := 0) (na := 2) (M' := mX7_needEntry) gX7_pin_7 rfl rfl rfl rfl rfl rfl (fun _ => rfl) rfl rfl (fun _ _ => zrecv_obj rfl _ _ _) (d' := 1) (by omega) (nEntry_no hR h2) (Or.inl rfl) rfl (fun w9 hE => ?_)
      subst hE
      have hcd : cdPin T i j = 1 := by unfold cdPin; (repeat' split) <;> omega
      exact ⟨rfl, (ans_1 hcd).symm, fun h => absurd h (by omega), fun _ => hC, frC.refl _⟩
  · refine Z_push gX7_pin_0 (v := (1, ((0 : Nat) : Int))) rfl ?_
    refine Z_push gX7_pin_1 (v := (0, i)) rfl ?_
    refine Z_callT (kd := 0) (na := 2) (M' := mX7_needEntry) gX7_pin_2 rfl rfl rfl rfl rfl rfl (fun _ => rfl) rfl rfl (fun _ _ => zrecv_obj rfl _ _ _) (d' := 1) (by omega) (nEntry_no hR h) (Or.inl rfl) rfl (fun w9 hE => ?_)
    subst hE
    have hcd : cdPin T i j = 1 := by unfold cdPin; (repeat' split) <;> omega
    exact ⟨rfl, (ans_1 hcd).symm, fun h => absurd h (by omega), fun _ => hC, frC.refl _⟩
/-- what a deed changes of the rest -/
def frA (w w' : zW) : Prop := ∀ a k, ¬ (1 ≤ a ∧ a ≤ 80) → w' a k = w a k
theorem frA.trans {a b c : zW} (h : frA a b) (k : frA b c) : frA a c := fun x y h1 => (k x y h1).trans (h x y h1)
theorem FR_frA {T0 : zTx} {R0 : zRu} {n : Nat} {W : zW} (h : FR w T0 R0 n) (f : frA w W) : FR W T0 R0 n := ⟨(f _ _ (by omega)).trans h.1, fun j hj hr => by
  obtain ⟨a, b, c, e⟩ := h.2 j hj hr
  exact ⟨(f _ _ (by omega)).trans a, (f _ _ (by omega)).trans b, (f _ _ (by omega)).trans c, (f _ _ (by omega)).trans e⟩⟩
theorem FR_hi {T0 : zTx} {R0 : zRu} {n : Nat} {W : zW} (h : FR w T0 R0 n) (f : ∀ a k, 81 ≤ a → W a k = w a k) : FR W T0 R0 n := ⟨(f _ _ (by omega)).trans h.1, fun j hj hr => by
  obtain ⟨a, b, c, e⟩ := h.2 j hj hr
  exact ⟨(f _ _ (by omega)).trans a, (f _ _ (by omega)).trans b, (f _ _ (by omega)).trans c, (f _ _ (by omega)).trans e⟩⟩
theorem vX7_applyFix {T0 S : zTx} {R0 Rs : zRu} {Ds : zDs} {nw j : Nat} (hF : FR w T0 R0 T0.1) (hT0 : TV T0) (hj : rlT T0 j ≠ -1) (hR : TR w 1 S) (hS : TV S) (hK : KP S (rlT T0 j).toNat j) (hRR : RR w Rs) (hRV : RV B Rs) (hB : B ≤ 1000000) (hD : DR w nw Ds) (hDV : DV Ds) (hc : 0 < Ds.1) : Ev ro 5 mX7_applyFix [(1, ((0 : Nat) : Int)), (0, (fdN T0 j : Int))] w (fun o w' => o = none ∧ TR w' 1 (fxT S (rlT T0 j).toNat j) ∧ RR w' (rwR Rs (rlT T0 j).toNat) ∧ DR w' nw (nfD Ds (rlT T0 j).toNat) ∧ frA w w') := by
  have hT := TX_1
  have hr5 := rl_5 hj
  have hS1 := hS.1
  have hrl := rl_cases T0 j
  obtain ⟨r, hr⟩ : ∃ r : Nat, rlT T0 j = (r : Int) := ⟨(rlT T0 j).toNat, by omega⟩
  have hru := vX3_rule (ro := ro) hF hT0 hj
  rw [hr] at hK hr5 hru ⊢
  rw [show ((r : Int)).toNat = r from rfl] at hK hr5 ⊢
  have tail : ∀ W : zW, TR W 1 (fxT S r j) → frT 1 w W → Z ro 5 mX7_applyFix 125 [(1, ((0 : Nat) : Int)), (0, (fdN T0 j : Int)), (0, (r : Int)), (0, (j : Int))] [] W (fun r9 w' k => k = 0 ∧ ∃ o, r9 = .inl o ∧ (o = none ∧ TR w' 1 (fxT S r j) ∧ RR w' (rwR Rs r) ∧ DR w' nw (nfD Ds r) ∧ frA w w')) := by
    intro W hW hf
    have hRW : RR W Rs := RR_frame hRR (fun a k h1 h2 => hf a k (by omega) (by omega))
    refine Z_push gX7_applyFix_125 (v := (1, ((0 : Nat) : Int))) rfl ?_
    refine Z_getR (b := 6) gX7_applyFix_126 rfl rfl (by decide) rfl (by omega) ?_
    refine Z_push gX7_applyFix_129 (v := (0, (r : Int))) rfl ?_
    refine Z_callE (kd := 0) (na := 2) (M' := mX5_reward) gX7_applyFix_130 rfl rfl rfl rfl rfl rfl (fun _ => rfl) rfl rfl (fun _ _ => zrecv_obj rfl _ _ _) (d' := 2) (by omega) (vX5_reward hRW hRV hB hr5) ?_
    rintro o w2 ⟨rfl, g2, g3⟩
    have hD2 : DR w2 nw Ds := DR_frame hD (fun a k h1 h2 => (g3 a k (by omega) (by omega) (by omega)).trans (hf a k (by omega) (by omega)))
    refine Z_push gX7_applyFix_133 (v := (1, ((0 : Nat) : Int))) rfl ?_
    refine Z_getR (b := 9) gX7_applyFix_134 rfl rfl (by decide) rfl (by omega) ?_
    refine Z_push gX7_applyFix_137 (v := (0, (r : Int))) rfl ?_
    refine Z_callE (kd := 0) (na := 2) (M' := mX2_noteFix) gX7_applyFix_138 rfl rfl rfl rfl rfl rfl (fun _ => rfl) rfl rfl (fun _ _ => zrecv_obj rfl _ _ _) (d' := 2) (by omega) (vX2_noteFix hD2 hDV hc hr5) ?_
    rintro o w3 ⟨rfl, k2, k3⟩
    refine Z_end gX7_applyFix_141 rfl rfl rfl rfl (v := none) rfl ⟨rfl, none, rfl, ?_⟩
    exact ⟨rfl, TR_frame hW (fun a k ha => (k3 a k (by omega) (by omega)).trans (g3 a k (by omega) (by omega) (by omega))), RR_frame g2 (fun a k h1 h2 => k3 a k (by omega) (by omega)), k2, fun a k h1 => (k3 a k (by omega) (by omega)).trans ((g3 a k (by omega) (by omega) (by omega)).trans (hf a k (by omega) (by omega)))⟩
  show Z ro 5 mX7_applyFix 0 [(1, ((0 : Nat) : Int)), (0, (fdN T0 j : Int)), (9, 0), (9, 0)] [] w _
  refine Z_push gX7_applyFix_0 (v := (1, ((0 : Nat) : Int))) rfl ?_
  refine Z_getR (b := 81) gX7_applyFix_1 rfl rfl (by decide) rfl (by omega) ?_
  refine Z_push gX7_applyFix_4 (v := (0, (fdN T0 j : Int))) rfl ?_
  refine Z_callP (kd := 0) (na := 2) (M' := mX3_rule) gX7_applyFix_5 rfl rfl rfl rfl rfl rfl (fun _ => rfl) rfl rfl (fun _ _ => zrecv_obj rfl _ _ _) (d' := 1) (by omega) (hru) ?_
  refine Z_sto gX7_applyFix_8 rfl (ls' := [(1, ((0 : Nat) : Int)), (0, (fdN T0 j : Int)), (0, (r : Int)), (9, 0)]) (st' := []) rfl ?_
  refine Z_push gX7_applyFix_9 (v := (1, ((0 : Nat) : Int))) rfl ?_
  refine Z_getR (b := 81) gX7_applyFix_10 rfl rfl (by decide) rfl (by omega) ?_
  refine Z_push gX7_applyFix_13 (v := (0, (fdN T0 j : Int))) rfl ?_
  refine Z_callP (kd := 0) (na := 2) (M' := mX3_first) gX7_applyFix_14 rfl rfl rfl rfl rfl rfl (fun _ => rfl) rfl rfl (fun _ _ => zrecv_obj rfl _ _ _) (d' := 1) (by omega) (vX3_first hF hT0 hj) ?_
  refine Z_sto gX7_applyFix_17 rfl (ls' := [(1, ((0 : Nat) : Int)), (0, (fdN T0 j : Int)), (0, (r : Int)), (0, (j : Int))]) (st' := []) rfl ?_
  have ej1 : ((j : Int) + 1).toNat = j + 1 := by omega
  have ej2 : ((j : Int) + 2).toNat = j + 2 := by omega
  rcases hK with ⟨rfl, h1, -⟩ | ⟨rfl, h1, -⟩ | ⟨rfl, h1⟩ | ⟨rfl, h1, h2, h3⟩ | ⟨rfl, h1, -⟩
  · refine Z_push gX7_applyFix_18 (v := (0, ((0 : Nat) : Int))) rfl ?_
    refine Z_jump gX7_applyFix_19 rfl rfl rfl (v := (48, [])) rfl ?_
    refine Z_push gX7_applyFix_48 (v := (1, ((0 : Nat) : Int))) rfl ?_
    refine Z_getR (b := 1) gX7_applyFix_49 rfl rfl (by decide) rfl (by omega) ?_
    refine Z_push gX7_applyFix_52 (v := (0, (j : Int))) rfl ?_
    refine Z_push gX7_applyFix_53 (v := (0, 1)) rfl ?_
    refine Z_iadd gX7_applyFix_54 ⟨by omega, by omega⟩ ?_
    refine Z_callE (kd := 0) (na := 2) (M' := mX6_takeAway) gX7_applyFix_55 rfl rfl rfl rfl rfl rfl (fun _ => rfl) rfl rfl (fun _ _ => zrecv_obj rfl _ _ _) (d' := 3) (by omega) (vX6_takeAway hT hR hS (i := (j : Int) + 1) (by omega)) ?_
    rintro o w2 ⟨rfl, g2, g3⟩
    rw [ej1] at g2
    refine Z_goto gX7_applyFix_58 (tgt := 125) (by decide) ?_
    exact tail w2 g2 g3
  · refine Z_push gX7_applyFix_18 (v := (0, ((1 : Nat) : Int))) rfl ?_
    refine Z_jump gX7_applyFix_19 rfl rfl rfl (v := (61, [])) rfl ?_
    refine Z_push gX7_applyFix_61 (v := (1, ((0 : Nat) : Int))) rfl ?_
    refine Z_getR (b := 1) gX7_applyFix_62 rfl rfl (by decide) rfl (by omega) ?_
    refine Z_push gX7_applyFix_65 (v := (0, (j : Int))) rfl ?_
    refine Z_push gX7_applyFix_66 (v := (0, 1)) rfl ?_
    refine Z_iadd gX7_applyFix_67 ⟨by omega, by omega⟩ ?_
    refine Z_callE (kd := 0) (na := 2) (M' := mX6_takeAway) gX7_applyFix_68 rfl rfl rfl rfl rfl rfl (fun _ => rfl) rfl rfl (fun _ _ => zrecv_obj rfl _ _ _) (d' := 3) (by omega) (vX6_takeAway hT hR hS (i := (j : Int) + 1) (by omega)) ?_
    rintro o w2 ⟨rfl, g2, g3⟩
    rw [ej1] at g2
    refine Z_push gX7_applyFix_71 (v := (1, ((0 : Nat) : Int))) rfl ?_
    refine Z_getR (b := 1) gX7_applyFix_72 rfl rfl (by decide) rfl (by omega) ?_
    refine Z_push gX7_applyFix_75 (v := (0, (j : Int))) rfl ?_
    refine Z_callE (kd := 0) (na := 2) (M' := mX6_takeAway) gX7_applyFix_76 rfl rfl rfl rfl rfl rfl (fun _ => rfl) rfl rfl (fun _ _ => zrecv_obj rfl _ _ _) (d' := 3) (by omega) (vX6_takeAway hT g2 (TV_rm hS _) (i := (j : Int)) (show 0 ≤ (j : Int) ∧ (j : Int) < ((S.1 - 1 : Nat) : Int) by omega)) ?_
    rintro o w3 ⟨rfl, k2, k3⟩
    refine Z_goto gX7_applyFix_79 (tgt := 125) (by decide) ?_
    exact tail w3 k2 (g3.trans k3)
  · refine Z_push gX7_applyFix_18 (v := (0, ((2 : Nat) : Int))) rfl ?_
    refine Z_jump gX7_applyFix_19 rfl rfl rfl (v := (82, [])) rfl ?_
    refine Z_push gX7_applyFix_82 (v := (1, ((0 : Nat) : Int))) rfl ?_
    refine Z_getR (b := 1) gX7_applyFix_83 rfl rfl (by decide) rfl (by omega) ?_
    refine Z_push gX7_applyFix_86 (v := (0, (j : Int))) rfl ?_
    refine Z_push gX7_applyFix_87 (v := (0, (j : Int))) rfl ?_
    refine Z_push gX7_applyFix_88 (v := (0, 1)) rfl ?_
    refine Z_iadd gX7_applyFix_89 ⟨by omega, by omega⟩ ?_
    refine Z_callE (kd := 0) (na := 3) (M' := mX6_carry) gX7_applyFix_90 rfl rfl rfl rfl rfl rfl (fun _ => rfl) rfl rfl (fun _ _ => zrecv_obj rfl _ _ _) (d' := 3) (by omega) (vX6_carry hT hR hS (a := j) (b := j + 1) (by omega) (by omega) (by omega)) ?_
    rintro o w2 ⟨rfl, g2, g3⟩
    refine Z_goto gX7_applyFix_93 (tgt := 125) (by decide) ?_
    exact tail w2 g2 g3
  · refine Z_push gX7_applyFix_18 (v := (0, ((3 : Nat) : Int))) rfl ?_
    refine Z_jump gX7_applyFix_19 rfl rfl rfl (v := (96, [])) rfl ?_
    refine Z_push gX7_applyFix_96 (v := (1, ((0 : Nat) : Int))) rfl ?_
    refine Z_getR (b := 1) gX7_applyFix_97 rfl rfl (by decide) rfl (by omega) ?_
    refine Z_push gX7_applyFix_100 (v := (0, (j : Int))) rfl ?_
    refine Z_callE (kd := 0) (na := 2) (M' := mX6_joinWithNext) gX7_applyFix_101 rfl rfl rfl rfl rfl rfl (fun _ => rfl) rfl rfl (fun _ _ => zrecv_obj rfl _ _ _) (d' := 4) (by omega) (vX6_joinWithNext hT hR hS (i := j) h1 h2 h3) ?_
    rintro o w2 ⟨rfl, g2, g3⟩
    refine Z_goto gX7_applyFix_104 (tgt := 125) (by decide) ?_
    exact tail w2 g2 g3
  · refine Z_push gX7_applyFix_18 (v := (0, ((4 : Nat) : Int))) rfl ?_
    refine Z_jump gX7_applyFix_19 rfl rfl rfl (v := (107, [])) rfl ?_
    refine Z_push gX7_applyFix_107 (v := (1, ((0 : Nat) : Int))) rfl ?_
    refine Z_getR (b := 1) gX7_applyFix_108 rfl rfl (by decide) rfl (by omega) ?_
    refine Z_push gX7_applyFix_111 (v := (0, (j : Int))) rfl ?_
    refine Z_push gX7_applyFix_112 (v := (0, 2)) rfl ?_
    refine Z_iadd gX7_applyFix_113 ⟨by omega, by omega⟩ ?_
    refine Z_callE (kd := 0) (na := 2) (M' := mX6_takeAway) gX7_applyFix_114 rfl rfl rfl rfl rfl rfl (fun _ => rfl) rfl rfl (fun _ _ => zrecv_obj rfl _ _ _) (d' := 3) (by omega) (vX6_takeAway hT hR hS (i := (j : Int) + 2) (by omega)) ?_
    rintro o w2 ⟨rfl, g2, g3⟩
    rw [ej2] at g2
    refine Z_push gX7_applyFix_117 (v := (1, ((0 : Nat) : Int))) rfl ?_
    refine Z_getR (b := 1) gX7_applyFix_118 rfl rfl (by decide) rfl (by omega) ?_
    refine Z_push gX7_applyFix_121 (v := (0, (j : Int))) rfl ?_
    refine Z_callE (kd := 0) (na := 2) (M' := mX6_takeAway) gX7_applyFix_122 rfl rfl rfl rfl rfl rfl (fun _ => rfl) rfl rfl (fun _ _ => zrecv_obj rfl _ _ _) (d' := 3) (by omega) (vX6_takeAway hT g2 (TV_rm hS _) (i := (j : Int)) (show 0 ≤ (j : Int) ∧ (j : Int) < ((S.1 - 1 : Nat) : Int) by omega)) ?_
    rintro o w3 ⟨rfl, k2, k3⟩
    exact tail w3 k2 (g3.trans k3)
/-- after a deed: from the parts -/
theorem CR_deed (hC : CR w T R D lim la) {T' : zTx} {R' : zRu} {D' : zDs} {n2 : Nat} (g1 : TR w' 1 T') (g2 : RR w' R') (g3 : DR w' n2 D') (g4 : w' 0 8 = 0) (g5 : w' 0 7 = w 0 7) : CR w' T' R' D' lim 0 := ⟨g1, g2, ⟨n2, g3⟩, g5.trans hC.2.2.2.1, g4, fun h => absurd h (by decide)⟩
theorem uX7_fix (hC : CR w T R D lim la) (hV : SV B T R D lim la) (f : Int) (hB : B ≤ 900000) : Xv ro 7 mX7_fix [(1, ((0 : Nat) : Int)), (0, f)] w (mP w (cdFix T R f) (fun w' => CR w' (fxT T (rlT T (feT T f.toNat)).toNat (feT T f.toNat)) (rwR R (rlT T (feT T f.toNat)).toNat) (nfD (kpD D T) (rlT T (feT T f.toNat)).toNat) lim 0) (fun w' => CR w' T R D lim la) (ans (some (0, ((fxT T (rlT T (feT T f.toNat)).toNat (feT T f.toNat)).1 : Int))) ["java/util/NoSuchElementException", "java/lang/UnsupportedOperationException"] (cdFix T R f))) := by
  obtain ⟨hR, hRR, ⟨nw, hD⟩, h7, h8, hL⟩ := id hC
  obtain ⟨hTV, hRV, hDV, hlim, hla, hop, hopD⟩ := id hV
  have hT := TX_1
  have hV1 := hTV.1
  show Z ro 7 mX7_fix 0 [(1, ((0 : Nat) : Int)), (0, f)] [] w _
  by_cases h : 0 ≤ f ∧ f < (fdN T T.1 : Int)
  · obtain ⟨j, hj, hr, he⟩ := fdN_ex (T := T) (i := f.toNat) (n := T.1) (by omega)
    have hfe : feT T f.toNat = j := by rw [← he]; exact fe_at hr
    have hcx : cdFix T R f = if 0 < gnT T R j then 0 else 2 := by unfold cdFix; rw [if_pos h, hfe]
    rw [hfe]
    obtain rfl : f = (fdN T j : Int) := by omega
    generalize cdFix T R (fdN T j : Int) = c at hcx ⊢
    refine Z_push gX7_fix_0 (v := (1, ((0 : Nat) : Int))) rfl ?_
    refine Z_push gX7_fix_1 (v := (0, (fdN T j : Int))) rfl ?_
    refine Z_callE (kd := 0) (na := 2) (M' := mX7_needFinding) gX7_fix_2 rfl rfl rfl rfl rfl rfl (fun _ => rfl) rfl rfl (fun _ _ => zrecv_obj rfl _ _ _) (d' := 5) (by omega) (nFind_ok hR hTV hRR h) ?_
    rintro o w2 ⟨rfl, g2, g3⟩
    have hC2 := CR_X hC g3.X
    obtain ⟨hR2, hRR2, -, h72, h82, -⟩ := id hC2
    have hD2 : DR w2 nw D := DR_frame hD (fun a k h1 h2 => g3.X a k (by omega) (by omega))
    refine Z_push gX7_fix_5 (v := (1, ((0 : Nat) : Int))) rfl ?_
    refine Z_getR (b := 81) gX7_fix_6 rfl rfl (by decide) rfl (by omega) ?_
    refine Z_push gX7_fix_9 (v := (0, (fdN T j : Int))) rfl ?_
    refine Z_callP (kd := 0) (na := 2) (M' := mX3_gain) gX7_fix_10 rfl rfl rfl rfl rfl rfl (fun _ => rfl) rfl rfl (fun _ _ => zrecv_obj rfl _ _ _) (d' := 1) (by omega) (vX3_gain g2 hTV hr) ?_
    refine Z_if_gt gX7_fix_13 (tgt := 26) (by decide) (fun h13 => ?_) (fun h13 => ?_)
    · rw [if_pos (by omega)] at hcx
      refine Z_push gX7_fix_26 (v := (1, ((0 : Nat) : Int))) rfl ?_
      refine Z_callE (kd := 0) (na := 1) (M' := mX7_startDeed) gX7_fix_27 rfl rfl rfl rfl rfl rfl (fun _ => rfl) rfl rfl (fun _ _ => zrecv_obj rfl _ _ _) (d' := 6) (by omega) (vX7_startDeed hR2 hTV hD2) ?_
      rintro o w3 ⟨rfl, k2, k3, k4⟩
      refine Z_push gX7_fix_30 (v := (1, ((0 : Nat) : Int))) rfl ?_
      refine Z_push gX7_fix_31 (v := (0, (fdN T j : Int))) rfl ?_
      refine Z_callE (kd := 0) (na := 2) (M' := mX7_applyFix) gX7_fix_32 rfl rfl rfl rfl rfl rfl (fun _ => rfl) rfl rfl (fun _ _ => zrecv_obj rfl _ _ _) (d' := 5) (by omega) (vX7_applyFix (FR_hi g2 (fun a k h1 => k4 a k (by omega) (by omega))) hTV hr (TR_frame hR2 (fun a k ha => k4 a k (by omega) (by omega))) hTV (KP_self hr) (RR_frame hRR2 (fun a k h1 h2 => k4 a k (by omega) (by omega))) hRV (by omega) k2 (DV_kp hDV hTV) (by show 0 < (if D.1 < 10 then D.1 + 1 else 10); split <;> omega)) ?_
      rintro o w4 ⟨rfl, m1, m2, m3, m4⟩
      refine Z_push gX7_fix_35 (v := (1, ((0 : Nat) : Int))) rfl ?_
      refine Z_getR (b := 1) gX7_fix_36 rfl rfl (by decide) rfl (by omega) ?_
      refine Z_callP (kd := 0) (na := 1) (M' := mX6_size) gX7_fix_39 rfl rfl rfl rfl rfl rfl (fun _ => rfl) rfl rfl (fun _ _ => zrecv_obj rfl _ _ _) (d' := 0) (by omega) (vX6_size hT m1) ?_
      refine Z_retX (v := (0, ((fxT T (rlT T j).toNat j).1 : Int))) gX7_fix_42 rfl rfl rfl rfl rfl ?_
      exact ⟨rfl, (ans_0 hcx).symm, fun _ => CR_deed hC m1 m2 m3 ((m4 _ _ (by omega)).trans k3) ((m4 _ _ (by omega)).trans ((k4 _ _ (by omega) (by omega)).trans (h72.trans h7.symm))), fun h => absurd hcx h, fun a k ha => (m4 a k (by omega)).trans ((k4 a k (by omega) (by omega)).trans (g3 a k (by omega) (by omega)))⟩
    · rw [if_neg (by omega)] at hcx
      refine Z_thrX (v := ("java/lang/UnsupportedOperationException", 158, 174, 162, false)) gX7_fix_16 rfl rfl rfl rfl rfl (by decide +kernel) (by decide +kernel) (by decide +kernel) rfl rfl ?_
      exact ⟨rfl, (ans_2 hcx).symm, fun h => absurd h (by omega), fun _ => hC2, g3.X.C⟩
  · refine Z_push gX7_fix_0 (v := (1, ((0 : Nat) : Int))) rfl ?_
    refine Z_push gX7_fix_1 (v := (0, f)) rfl ?_
    refine Z_callT (kd := 0) (na := 2) (M' := mX7_needFinding) gX7_fix_2 rfl rfl rfl rfl rfl rfl (fun _ => rfl) rfl rfl (fun _ _ => zrecv_obj rfl _ _ _) (d' := 5) (by omega) (nFind_no hR hTV hRR h) (Or.inl rfl) rfl (fun w9 hE => ?_)
    obtain ⟨g2, g3⟩ := hE
    have hcd : cdFix T R f = 1 := by unfold cdFix; (repeat' split) <;> omega
    exact ⟨rfl, (ans_1 hcd).symm, fun h => absurd h (by omega), fun _ => CR_X hC g3.X, g3.X.C⟩
theorem uX7_fixBest (hC : CR w T R D lim la) (hV : SV B T R D lim la) (hB : B ≤ 900000) : Xv ro 7 mX7_fixBest [(1, ((0 : Nat) : Int))] w (mP w (cdFB T R) (fun w' => CR w' (fbK T R D 0).1 (fbK T R D 0).2.1 (fbK T R D 0).2.2 lim 0) (fun w' => CR w' T R D lim la) (ans (some (0, (bcK T R 0 : Int))) ["java/lang/IllegalStateException"] (cdFB T R))) := by
  obtain ⟨hR, hRR, ⟨nw, hD⟩, h7, h8, hL⟩ := id hC
  obtain ⟨hTV, hRV, hDV, hlim, hla, hop, hopD⟩ := id hV
  have hT := TX_1
  have hV1 := hTV.1
  show Z ro 7 mX7_fixBest 0 [(1, ((0 : Nat) : Int)), (9, 0), (9, 0)] [] w _
  have hfx := fx_le (T := T) (R := R) T.1
  have h30 := fdN_30 hTV T.1
  refine Z_push gX7_fixBest_0 (v := (1, ((0 : Nat) : Int))) rfl ?_
  refine Z_callE (kd := 0) (na := 1) (M' := mX7_chooseBest) gX7_fixBest_1 rfl rfl rfl rfl rfl rfl (fun _ => rfl) rfl rfl (fun _ _ => zrecv_obj rfl _ _ _) (d' := 5) (by omega) (vX7_chooseBest hR hTV hRR hRV) ?_
  rintro o w2 ⟨rfl, g2, g3, g4, g5⟩
  have hC2 := CR_X hC g5
  obtain ⟨hR2, hRR2, -, h72, h82, -⟩ := id hC2
  have hD2 : DR w2 nw D := DR_frame hD (fun a k h1 h2 => g5 a k (by omega) (by omega))
  refine Z_push gX7_fixBest_4 (v := (1, ((0 : Nat) : Int))) rfl ?_
  refine Z_getR (b := 81) gX7_fixBest_5 rfl rfl (by decide) rfl (by omega) ?_
  refine Z_callP (kd := 0) (na := 1) (M' := mX3_fixable) gX7_fixBest_8 rfl rfl rfl rfl rfl rfl (fun _ => rfl) rfl rfl (fun _ _ => zrecv_obj rfl _ _ _) (d' := 2) (by omega) (vX3_fixable g2 hTV) ?_
  refine Z_if_ne gX7_fixBest_11 (tgt := 24) (by decide) (fun h11 => ?_) (fun h11 => ?_)
  · have hcd : cdFB T R = 0 := by unfold cdFB; rw [if_neg (by omega)]
    refine Z_push gX7_fixBest_24 (v := (1, ((0 : Nat) : Int))) rfl ?_
    refine Z_callE (kd := 0) (na := 1) (M' := mX7_startDeed) gX7_fixBest_25 rfl rfl rfl rfl rfl rfl (fun _ => rfl) rfl rfl (fun _ _ => zrecv_obj rfl _ _ _) (d' := 6) (by omega) (vX7_startDeed hR2 hTV hD2) ?_
    rintro o w3 ⟨rfl, k2, k3, k4⟩
    generalize hn2 : (if nw + 1 < 10 then nw + 1 else 0) = n2 at k2
    have hF3 := FR_hi g2 (fun a k h1 => k4 a k (by omega) (by omega))
    have hCH3 : CHR w3 T R := fun j hj => (k4 _ _ (by omega) (by omega)).trans (g4 j hj)
    have loop : ∀ i : Nat, i ≤ fdN T T.1 → ∀ (c : Nat) (S : zTx × zRu × zDs), (∀ k, fdN T k = i → fbK T R D k = S) → (∀ k, fdN T k = i → bcK T R k = c) → ∀ W : zW, TR W 1 S.1 → RR W S.2.1 → DR W n2 S.2.2 → frA w3 W → Z ro 7 mX7_fixBest 40 [(1, ((0 : Nat) : Int)), (0, (c : Int)), (0, (i : Int) - 1)] [] W (fun r9 w9 k9 => k9 = kx r9 ∧ mP w (cdFB T R) (fun w' => CR w' (fbK T R D 0).1 (fbK T R D 0).2.1 (fbK T R D 0).2.2 lim 0) (fun w' => CR w' T R D lim la) (ans (some (0, (bcK T R 0 : Int))) ["java/lang/IllegalStateException"] (cdFB T R)) r9 w9) := by
      intro i
      induction i with
      | zero =>
        intro hi c S hS hc W q1 q2 q3 q4
        have e1 := hS 0 rfl
        have e2 := hc 0 rfl
        subst e1
        subst e2
        refine Z_push gX7_fixBest_40 (v := (0, ((0 : Nat) : Int) - 1)) rfl ?_
        refine Z_if_lt gX7_fixBest_41 (tgt := 69) (by decide) (fun _ => ?_) (fun h41 => absurd h41 (by omega))
        refine Z_push gX7_fixBest_69 (v := (0, (bcK T R 0 : Int))) rfl ?_
        refine Z_retX (v := (0, (bcK T R 0 : Int))) gX7_fixBest_70 rfl rfl rfl rfl rfl ?_
        exact ⟨rfl, (ans_0 hcd).symm, fun _ => CR_deed hC q1 q2 q3 ((q4 _ _ (by omega)).trans k3) ((q4 _ _ (by omega)).trans ((k4 _ _ (by omega) (by omega)).trans (h72.trans h7.symm))), fun h => absurd hcd h, fun a k ha => (q4 a k (by omega)).trans ((k4 a k (by omega) (by omega)).trans (g5 a k (by omega) (by omega)))⟩
      | succ i ih =>
        intro hi c S hS hc W q1 q2 q3 q4
        rw [show ((i + 1 : Nat) : Int) - 1 = (i : Int) by omega]
        obtain ⟨j, b1, b2, rfl⟩ := fdN_ex (T := T) (i := i) (n := T.1) (by omega)
        have e1 := hS (j + 1) (fdN_s b2)
        have e2 := hc (j + 1) (fdN_s b2)
        subst e1
        subst e2
        have hbc := bcK_le (T := T) (R := R) hV1 (j + 1)
        obtain ⟨i1, i2, i3, i4, i5, i6, i7, i8⟩ := fb_inv hV (T.1 - (j + 1)) (j + 1) (by omega)
        have p1 : ∀ S', fbK T R D j = S' → ∀ k, fdN T k = fdN T j → fbK T R D k = S' := fun S' h k hk => (plat (f := fbK T R D) (fun q hq => (fbK_f (bs_n hq)).symm) hk).trans h
        have p2 : ∀ c', bcK T R j = c' → ∀ k, fdN T k = fdN T j → bcK T R k = c' := fun c' h k hk => (plat (f := bcK T R) (fun q hq => (bcK_f (bs_n hq)).symm) hk).trans h
        refine Z_push gX7_fixBest_40 (v := (0, (fdN T j : Int))) rfl ?_
        refine Z_if_lt gX7_fixBest_41 (tgt := 69) (by decide) (fun h41 => absurd h41 (by omega)) (fun _ => ?_)
        refine Z_push gX7_fixBest_44 (v := (1, ((0 : Nat) : Int))) rfl ?_
        refine Z_getR (b := 86) gX7_fixBest_45 rfl rfl (by decide) rfl (by omega) ?_
        refine Z_push gX7_fixBest_48 (v := (0, (fdN T j : Int))) rfl ?_
        refine Z_callP (kd := 0) (na := 2) (M' := mX0_holds) gX7_fixBest_49 rfl rfl rfl rfl rfl rfl (fun _ => rfl) rfl rfl (fun _ _ => zrecv_obj rfl _ _ _) (d' := 1) (by omega) (vX0_holds (fun q hq => (q4 _ _ (by omega)).trans (hCH3 q hq)) hTV b2) ?_
        refine Z_if_eq gX7_fixBest_52 (tgt := 63) (by decide) (fun h52 => ?_) (fun h52 => ?_)
        · have hb := b2i_f h52
          refine Z_iinc gX7_fixBest_63 rfl ⟨by omega, by omega⟩ (ls' := [(1, ((0 : Nat) : Int)), (0, (bcK T R (j + 1) : Int)), (0, (fdN T j : Int) + (-1))]) rfl ?_
          refine Z_goto gX7_fixBest_66 (tgt := 40) (by decide) ?_
          rw [show (fdN T j : Int) + (-1) = (fdN T j : Int) - 1 by omega]
          exact ih (by omega) _ _ (p1 _ (fbK_f hb)) (p2 _ (bcK_f hb)) W q1 q2 q3 q4
        · have hb := b2i_t h52
          have hl := en_lt b2
          have hK : KP (fbK T R D (j + 1)).1 (rlT T j).toNat j := KP_of b2 (fun q hq => i1 q (by omega) (fun j2 hj hj2 => by have := bs_sep hb (by omega : j < j2) hj2; omega))
          have hkp : 0 < (kpD D T).1 := by show 0 < (if D.1 < 10 then D.1 + 1 else 10); split <;> omega
          have hDVS : DV (fbK T R D (j + 1)).2.2 := fun q hq => by
            have hk := DV_kp hDV hTV
            rw [i5] at hq
            by_cases hq0 : q = 0
            · subst hq0
              exact ⟨by rw [i6]; exact hTV, fun r hr => by have := i7 r; omega⟩
            · rw [i8 q hq0]; exact hk q hq
          refine Z_push gX7_fixBest_55 (v := (1, ((0 : Nat) : Int))) rfl ?_
          refine Z_push gX7_fixBest_56 (v := (0, (fdN T j : Int))) rfl ?_
          refine Z_callE (kd := 0) (na := 2) (M' := mX7_applyFix) gX7_fixBest_57 rfl rfl rfl rfl rfl rfl (fun _ => rfl) rfl rfl (fun _ _ => zrecv_obj rfl _ _ _) (d' := 5) (by omega) (vX7_applyFix (FR_frA hF3 q4) hTV b2 q1 i2 hK q2 i3 (by omega) q3 hDVS (by rw [i5]; exact hkp)) ?_
          rintro o w4 ⟨rfl, m1, m2, m3, m4⟩
          refine Z_iinc gX7_fixBest_60 rfl ⟨by omega, by omega⟩ (ls' := [(1, ((0 : Nat) : Int)), (0, (bcK T R (j + 1) : Int) + 1), (0, (fdN T j : Int))]) rfl ?_
          refine Z_iinc gX7_fixBest_63 rfl ⟨by omega, by omega⟩ (ls' := [(1, ((0 : Nat) : Int)), (0, (bcK T R (j + 1) : Int) + 1), (0, (fdN T j : Int) + (-1))]) rfl ?_
          refine Z_goto gX7_fixBest_66 (tgt := 40) (by decide) ?_
          rw [show (fdN T j : Int) + (-1) = (fdN T j : Int) - 1 by omega]
          exact ih (by omega) (bcK T R (j + 1) + 1) _ (p1 _ (fbK_t hb)) (p2 _ (bcK_t hb)) w4 m1 m2 m3 (q4.trans m4)
    refine Z_push gX7_fixBest_28 (v := (0, 0)) rfl ?_
    refine Z_sto gX7_fixBest_29 rfl (ls' := [(1, ((0 : Nat) : Int)), (0, 0), (9, 0)]) (st' := []) rfl ?_
    refine Z_push gX7_fixBest_30 (v := (1, ((0 : Nat) : Int))) rfl ?_
    refine Z_getR (b := 81) gX7_fixBest_31 rfl rfl (by decide) rfl (by omega) ?_
    refine Z_callP (kd := 0) (na := 1) (M' := mX3_count) gX7_fixBest_34 rfl rfl rfl rfl rfl rfl (fun _ => rfl) rfl rfl (fun _ _ => zrecv_obj rfl _ _ _) (d' := 0) (by omega) (vX3_count hF3.1) ?_
    refine Z_push gX7_fixBest_37 (v := (0, 1)) rfl ?_
    refine Z_isub gX7_fixBest_38 ⟨by omega, by omega⟩ ?_
    refine Z_sto gX7_fixBest_39 rfl (ls' := [(1, ((0 : Nat) : Int)), (0, 0), (0, (fdN T T.1 : Int) - 1)]) (st' := []) rfl ?_
    have f0 : fbK T R D T.1 = (T, R, kpD D T) := by unfold fbK; rw [show T.1 - T.1 = 0 by omega]; rfl
    have c0 : bcK T R T.1 = 0 := by unfold bcK; rw [show T.1 - T.1 = 0 by omega]; rfl
    exact loop (fdN T T.1) (Nat.le_refl _) 0 (T, R, kpD D T) (fun k hk => (plat (f := fbK T R D) (fun q hq => (fbK_f (bs_n hq)).symm) hk).trans f0) (fun k hk => (plat (f := bcK T R) (fun q hq => (bcK_f (bs_n hq)).symm) hk).trans c0) w3 (TR_frame hR2 (fun a k ha => k4 a k (by omega) (by omega))) (RR_frame hRR2 (fun a k h1 h2 => k4 a k (by omega) (by omega))) k2 (fun _ _ _ => rfl)
  · have hcd : cdFB T R = 1 := by unfold cdFB; rw [if_pos (by omega)]
    refine Z_thrX (v := ("java/lang/IllegalStateException", 84, 182, 88, false)) gX7_fixBest_14 rfl rfl rfl rfl rfl (by decide +kernel) (by decide +kernel) (by decide +kernel) rfl rfl ?_
    exact ⟨rfl, (ans_1 hcd).symm, fun h => absurd h (by omega), fun _ => hC2, g5.C⟩
theorem uX7_rename (hC : CR w T R D lim la) (hV : SV B T R D lim la) (x : Int) (y : Int) : Xv ro 7 mX7_rename [(1, ((0 : Nat) : Int)), (0, x), (0, y)] w (mP w (cdRen T x y) (fun w' => CR w' (rnT T x y) R (kpD D T) lim 0) (fun w' => CR w' T R D lim la) (ans (some (0, tmT T x T.1)) ["java/lang/IllegalArgumentException", "java/util/NoSuchElementException", "java/lang/UnsupportedOperationException"] (cdRen T x y))) := by
  obtain ⟨hR, hRR, ⟨nw, hD⟩, h7, h8, hL⟩ := id hC
  obtain ⟨hTV, hRV, hDV, hlim, hla, hop, hopD⟩ := id hV
  have hT := TX_1
  have hV1 := hTV.1
  show Z ro 7 mX7_rename 0 [(1, ((0 : Nat) : Int)), (0, x), (0, y), (9, 0)] [] w _
  have ht1 := tmT_bd T x T.1
  have ht2 := tmT_bd T y T.1
  have hp01 := b2i_01 (hpT T x)
  by_cases h1 : 0 ≤ x ∧ x < 100
  · by_cases h2 : 0 ≤ y ∧ y < 100
    · refine Z_push gX7_rename_0 (v := (0, x)) rfl ?_
      refine Z_callW (kd := 1) (na := 1) (M' := mX7_needName) gX7_rename_1 rfl rfl rfl rfl rfl rfl (fun _ => rfl) rfl rfl (fun _ _ => rfl) (d' := 0) (by omega) (nName_ok h1) ?_
      refine Z_push gX7_rename_4 (v := (0, y)) rfl ?_
      refine Z_callW (kd := 1) (na := 1) (M' := mX7_needName) gX7_rename_5 rfl rfl rfl rfl rfl rfl (fun _ => rfl) rfl rfl (fun _ _ => rfl) (d' := 0) (by omega) (nName_ok h2) ?_
      refine Z_push gX7_rename_8 (v := (0, x)) rfl ?_
      refine Z_push gX7_rename_9 (v := (0, y)) rfl ?_
      refine Z_icmp_ne gX7_rename_10 (tgt := 23) (by decide) (fun h10 => ?_) (fun h10 => ?_)
      · refine Z_push gX7_rename_23 (v := (1, ((0 : Nat) : Int))) rfl ?_
        refine Z_getR (b := 1) gX7_rename_24 rfl rfl (by decide) rfl (by omega) ?_
        refine Z_push gX7_rename_27 (v := (0, x)) rfl ?_
        refine Z_callP (kd := 0) (na := 2) (M' := mX6_timesOf) gX7_rename_28 rfl rfl rfl rfl rfl rfl (fun _ => rfl) rfl rfl (fun _ _ => zrecv_obj rfl _ _ _) (d' := 3) (by omega) (vX6_timesOf hT hR hTV x) ?_
        refine Z_sto gX7_rename_31 rfl (ls' := [(1, ((0 : Nat) : Int)), (0, x), (0, y), (0, tmT T x T.1)]) (st' := []) rfl ?_
        refine Z_push gX7_rename_32 (v := (0, tmT T x T.1)) rfl ?_
        refine Z_if_ne gX7_rename_33 (tgt := 46) (by decide) (fun h33 => ?_) (fun h33 => ?_)
        · have good : cdRen T x y = 0 → Z ro 7 mX7_rename 78 [(1, ((0 : Nat) : Int)), (0, x), (0, y), (0, tmT T x T.1)] [] w (fun r9 w9 k9 => k9 = kx r9 ∧ mP w (cdRen T x y) (fun w' => CR w' (rnT T x y) R (kpD D T) lim 0) (fun w' => CR w' T R D lim la) (ans (some (0, tmT T x T.1)) ["java/lang/IllegalArgumentException", "java/util/NoSuchElementException", "java/lang/UnsupportedOperationException"] (cdRen T x y)) r9 w9) := by
            intro hcd
            refine Z_push gX7_rename_78 (v := (1, ((0 : Nat) : Int))) rfl ?_
            refine Z_callE (kd := 0) (na := 1) (M' := mX7_startDeed) gX7_rename_79 rfl rfl rfl rfl rfl rfl (fun _ => rfl) rfl rfl (fun _ _ => zrecv_obj rfl _ _ _) (d' := 6) (by omega) (vX7_startDeed hR hTV hD) ?_
            rintro o w2 ⟨rfl, k2, k3, k4⟩
            refine Z_push gX7_rename_82 (v := (1, ((0 : Nat) : Int))) rfl ?_
            refine Z_getR (b := 1) gX7_rename_83 rfl rfl (by decide) rfl (by omega) ?_
            refine Z_push gX7_rename_86 (v := (0, x)) rfl ?_
            refine Z_push gX7_rename_87 (v := (0, y)) rfl ?_
            refine Z_callE (kd := 0) (na := 3) (M' := mX6_replaceName) gX7_rename_88 rfl rfl rfl rfl rfl rfl (fun _ => rfl) rfl rfl (fun _ _ => zrecv_obj rfl _ _ _) (d' := 3) (by omega) (vX6_replaceName hT (TR_frame hR (fun a k ha => k4 a k (by omega) (by omega))) hTV x h2) ?_
            rintro o w3 ⟨rfl, m2, m3⟩
            refine Z_push gX7_rename_91 (v := (0, tmT T x T.1)) rfl ?_
            refine Z_retX (v := (0, tmT T x T.1)) gX7_rename_92 rfl rfl rfl rfl rfl ?_
            exact ⟨rfl, (ans_0 hcd).symm, fun _ => CR_deed hC m2 (RR_frame hRR (fun a k h1 h2 => (m3 a k (by omega) (by omega)).trans (k4 a k (by omega) (by omega)))) (DR_frame k2 (fun a k h1 h2 => m3 a k (by omega) (by omega))) ((m3 _ _ (by omega) (by omega)).trans k3) ((m3 _ _ (by omega) (by omega)).trans (k4 _ _ (by omega) (by omega))), fun h => absurd hcd h, fun a k ha => (m3 a k (by omega) (by omega)).trans (k4 a k (by omega) (by omega))⟩
          refine Z_push gX7_rename_46 (v := (1, ((0 : Nat) : Int))) rfl ?_
          refine Z_getR (b := 1) gX7_rename_47 rfl rfl (by decide) rfl (by omega) ?_
          refine Z_push gX7_rename_50 (v := (0, x)) rfl ?_
          refine Z_callP (kd := 0) (na := 2) (M' := mX6_hasPinned) gX7_rename_51 rfl rfl rfl rfl rfl rfl (fun _ => rfl) rfl rfl (fun _ _ => zrecv_obj rfl _ _ _) (d' := 3) (by omega) (vX6_hasPinned hT hR hTV x) ?_
          refine Z_if_ne gX7_rename_54 (tgt := 68) (by decide) (fun h54 => ?_) (fun h54 => ?_)
          · refine Z_thrX (v := ("java/lang/UnsupportedOperationException", 158, 191, 162, false)) gX7_rename_68 rfl rfl rfl rfl rfl (by decide +kernel) (by decide +kernel) (by decide +kernel) rfl rfl ?_
            have hcd : cdRen T x y = 3 := by unfold cdRen; (repeat' split) <;> omega
            exact ⟨rfl, (ans_3 hcd).symm, fun h => absurd h (by omega), fun _ => hC, frC.refl _⟩
          · refine Z_push gX7_rename_57 (v := (1, ((0 : Nat) : Int))) rfl ?_
            refine Z_getR (b := 1) gX7_rename_58 rfl rfl (by decide) rfl (by omega) ?_
            refine Z_push gX7_rename_61 (v := (0, y)) rfl ?_
            refine Z_callP (kd := 0) (na := 2) (M' := mX6_timesOf) gX7_rename_62 rfl rfl rfl rfl rfl rfl (fun _ => rfl) rfl rfl (fun _ _ => zrecv_obj rfl _ _ _) (d' := 3) (by omega) (vX6_timesOf hT hR hTV y) ?_
            refine Z_if_le gX7_rename_65 (tgt := 78) (by decide) (fun h65 => ?_) (fun h65 => ?_)
            · exact good (by unfold cdRen; (repeat' split) <;> omega)
            · refine Z_thrX (v := ("java/lang/UnsupportedOperationException", 158, 191, 162, false)) gX7_rename_68 rfl rfl rfl rfl rfl (by decide +kernel) (by decide +kernel) (by decide +kernel) rfl rfl ?_
              have hcd : cdRen T x y = 3 := by unfold cdRen; (repeat' split) <;> omega
              exact ⟨rfl, (ans_3 hcd).symm, fun h => absurd h (by omega), fun _ => hC, frC.refl _⟩
        · refine Z_thrX (v := ("java/util/NoSuchElementException", 109, 186, 113, false)) gX7_rename_36 rfl rfl rfl rfl rfl (by decide +kernel) (by decide +kernel) (by decide +kernel) rfl rfl ?_
          have hcd : cdRen T x y = 2 := by unfold cdRen; (repeat' split) <;> omega
          exact ⟨rfl, (ans_2 hcd).symm, fun h => absurd h (by omega), fun _ => hC, frC.refl _⟩
      · refine Z_thrX (v := ("java/lang/IllegalArgumentException", 114, 184, 118, false)) gX7_rename_13 rfl rfl rfl rfl rfl (by decide +kernel) (by decide +kernel) (by decide +kernel) rfl rfl ?_
        have hcd : cdRen T x y = 1 := by unfold cdRen; (repeat' split) <;> omega
        exact ⟨rfl, (ans_1 hcd).symm, fun h => absurd h (by omega), fun _ => hC, frC.refl _⟩
    · refine Z_push gX7_rename_0 (v := (0, x)) rfl ?_
      refine Z_callW (kd := 1) (na := 1) (M' := mX7_needName) gX7_rename_1 rfl rfl rfl rfl rfl rfl (fun _ => rfl) rfl rfl (fun _ _ => rfl) (d' := 0) (by omega) (nName_ok h1) ?_
      refine Z_push gX7_rename_4 (v := (0, y)) rfl ?_
      refine Z_callT (kd := 1) (na := 1) (M' := mX7_needName) gX7_rename_5 rfl rfl rfl rfl rfl rfl (fun _ => rfl) rfl rfl (fun _ _ => rfl) (d' := 0) (by omega) (nName_no h2) (Or.inr rfl) rfl (fun w9 hE => ?_)
      subst hE
      have hcd : cdRen T x y = 1 := by unfold cdRen; (repeat' split) <;> omega
      exact ⟨rfl, (ans_1 hcd).symm, fun h => absurd h (by omega), fun _ => hC, frC.refl _⟩
  · refine Z_push gX7_rename_0 (v := (0, x)) rfl ?_
    refine Z_callT (kd := 1) (na := 1) (M' := mX7_needName) gX7_rename_1 rfl rfl rfl rfl rfl rfl (fun _ => rfl) rfl rfl (fun _ _ => rfl) (d' := 0) (by omega) (nName_no h1) (Or.inr rfl) rfl (fun w9 hE => ?_)
    subst hE
    have hcd : cdRen T x y = 1 := by unfold cdRen; (repeat' split) <;> omega
    exact ⟨rfl, (ans_1 hcd).symm, fun h => absurd h (by omega), fun _ => hC, frC.refl _⟩
theorem uX7_move (hC : CR w T R D lim la) (hV : SV B T R D lim la) (i : Int) (j : Int) : Xv ro 7 mX7_move [(1, ((0 : Nat) : Int)), (0, i), (0, j)] w (mP w (cdMv T i j) (fun w' => CR w' (cyT T i.toNat j.toNat) R (kpD D T) lim 0) (fun w' => CR w' T R D lim la) (ans (some (0, mvHi i j - mvLo i j)) ["java/lang/IndexOutOfBoundsException", "java/lang/IllegalArgumentException", "java/lang/UnsupportedOperationException"] (cdMv T i j))) := by
  obtain ⟨hR, hRR, ⟨nw, hD⟩, h7, h8, hL⟩ := id hC
  obtain ⟨hTV, hRV, hDV, hlim, hla, hop, hopD⟩ := id hV
  have hT := TX_1
  have hV1 := hTV.1
  show Z ro 7 mX7_move 0 [(1, ((0 : Nat) : Int)), (0, i), (0, j)] [] w _
  have h01 := b2i_01 (mvT T (mvLo i j) (mvHi i j))
  by_cases h : 0 ≤ i ∧ i < T.1
  · by_cases h2 : 0 ≤ j ∧ j < T.1
    · have hlo : (0 ≤ mvLo i j ∧ mvLo i j ≤ 30) ∧ mvHi i j < T.1 ∧ 0 ≤ mvHi i j := by unfold mvLo mvHi; split <;> omega
      refine Z_push gX7_move_0 (v := (1, ((0 : Nat) : Int))) rfl ?_
      refine Z_push gX7_move_1 (v := (0, i)) rfl ?_
      refine Z_callW (kd := 0) (na := 2) (M' := mX7_needEntry) gX7_move_2 rfl rfl rfl rfl rfl rfl (fun _ => rfl) rfl rfl (fun _ _ => zrecv_obj rfl _ _ _) (d' := 1) (by omega) (nEntry_ok hR h) ?_
      refine Z_push gX7_move_5 (v := (1, ((0 : Nat) : Int))) rfl ?_
      refine Z_push gX7_move_6 (v := (0, j)) rfl ?_
      refine Z_callW (kd := 0) (na := 2) (M' := mX7_needEntry) gX7_move_7 rfl rfl rfl rfl rfl rfl (fun _ => rfl) rfl rfl (fun _ _ => zrecv_obj rfl _ _ _) (d' := 1) (by omega) (nEntry_ok hR h2) ?_
      refine Z_push gX7_move_10 (v := (0, i)) rfl ?_
      refine Z_push gX7_move_11 (v := (0, j)) rfl ?_
      refine Z_icmp_ne gX7_move_12 (tgt := 25) (by decide) (fun h12 => ?_) (fun h12 => ?_)
      · refine Z_push gX7_move_25 (v := (1, ((0 : Nat) : Int))) rfl ?_
        refine Z_getR (b := 1) gX7_move_26 rfl rfl (by decide) rfl (by omega) ?_
        refine Z_push gX7_move_29 (v := (0, i)) rfl ?_
        refine Z_push gX7_move_30 (v := (0, j)) rfl ?_
        refine Z_arith gX7_move_31 rfl rfl (v := [(0, (if i < j then i else j)), (1, ((1 : Nat) : Int))]) rfl ?_
        refine Z_push gX7_move_34 (v := (0, i)) rfl ?_
        refine Z_push gX7_move_35 (v := (0, j)) rfl ?_
        refine Z_arith gX7_move_36 rfl rfl (v := [(0, (if i < j then j else i)), (0, (if i < j then i else j)), (1, ((1 : Nat) : Int))]) rfl ?_
        refine Z_callP (kd := 0) (na := 3) (M' := mX6_allMovable) gX7_move_39 rfl rfl rfl rfl rfl rfl (fun _ => rfl) rfl rfl (fun _ _ => zrecv_obj rfl _ _ _) (d' := 2) (by omega) (show Pv ro 2 mX6_allMovable _ _ (0, b2i (mvT T (mvLo i j) (mvHi i j))) from vX6_allMovable hT hR hTV hlo.1 hlo.2.1) ?_
        refine Z_if_ne gX7_move_42 (tgt := 55) (by decide) (fun h42 => ?_) (fun h42 => ?_)
        · have hcd : cdMv T i j = 0 := by unfold cdMv; (repeat' split) <;> omega
          refine Z_push gX7_move_55 (v := (1, ((0 : Nat) : Int))) rfl ?_
          refine Z_callE (kd := 0) (na := 1) (M' := mX7_startDeed) gX7_move_56 rfl rfl rfl rfl rfl rfl (fun _ => rfl) rfl rfl (fun _ _ => zrecv_obj rfl _ _ _) (d' := 6) (by omega) (vX7_startDeed hR hTV hD) ?_
          rintro o w2 ⟨rfl, k2, k3, k4⟩
          obtain ⟨a, rfl⟩ : ∃ a : Nat, i = (a : Int) := ⟨i.toNat, by omega⟩
          obtain ⟨b, rfl⟩ : ∃ b : Nat, j = (b : Int) := ⟨j.toNat, by omega⟩
          refine Z_push gX7_move_59 (v := (1, ((0 : Nat) : Int))) rfl ?_
          refine Z_getR (b := 1) gX7_move_60 rfl rfl (by decide) rfl (by omega) ?_
          refine Z_push gX7_move_63 (v := (0, (a : Int))) rfl ?_
          refine Z_push gX7_move_64 (v := (0, (b : Int))) rfl ?_
          refine Z_callE (kd := 0) (na := 3) (M' := mX6_carry) gX7_move_65 rfl rfl rfl rfl rfl rfl (fun _ => rfl) rfl rfl (fun _ _ => zrecv_obj rfl _ _ _) (d' := 3) (by omega) (vX6_carry hT (TR_frame hR (fun a k ha => k4 a k (by omega) (by omega))) hTV (a := a) (b := b) (by omega) (by omega) (by omega)) ?_
          rintro o w3 ⟨rfl, m2, m3⟩
          have hb1 : -1000 ≤ mvHi (a : Int) (b : Int) - mvLo (a : Int) (b : Int) ∧ mvHi (a : Int) (b : Int) - mvLo (a : Int) (b : Int) ≤ 1000 := by omega
          unfold mvHi mvLo at hb1
          refine Z_push gX7_move_68 (v := (0, (a : Int))) rfl ?_
          refine Z_push gX7_move_69 (v := (0, (b : Int))) rfl ?_
          refine Z_arith gX7_move_70 rfl rfl (v := [(0, (if (a : Int) < (b : Int) then (b : Int) else (a : Int)))]) rfl ?_
          refine Z_push gX7_move_73 (v := (0, (a : Int))) rfl ?_
          refine Z_push gX7_move_74 (v := (0, (b : Int))) rfl ?_
          refine Z_arith gX7_move_75 rfl rfl (v := [(0, (if (a : Int) < (b : Int) then (a : Int) else (b : Int))), (0, (if (a : Int) < (b : Int) then (b : Int) else (a : Int)))]) rfl ?_
          refine Z_isub gX7_move_78 ⟨by omega, by omega⟩ ?_
          refine Z_retX (v := (0, (if (a : Int) < (b : Int) then (b : Int) else (a : Int)) - (if (a : Int) < (b : Int) then (a : Int) else (b : Int)))) gX7_move_79 rfl rfl rfl rfl rfl ?_
          exact ⟨rfl, (ans_0 hcd).symm, fun _ => CR_deed hC m2 (RR_frame hRR (fun a k h1 h2 => (m3 a k (by omega) (by omega)).trans (k4 a k (by omega) (by omega)))) (DR_frame k2 (fun a k h1 h2 => m3 a k (by omega) (by omega))) ((m3 _ _ (by omega) (by omega)).trans k3) ((m3 _ _ (by omega) (by omega)).trans (k4 _ _ (by omega) (by omega))), fun h => absurd hcd h, fun a k ha => (m3 a k (by omega) (by omega)).trans (k4 a k (by omega) (by omega))⟩
        · refine Z_thrX (v := ("java/lang/UnsupportedOperationException", 158, 212, 162, false)) gX7_move_45 rfl rfl rfl rfl rfl (by decide +kernel) (by decide +kernel) (by decide +kernel) rfl rfl ?_
          have hcd : cdMv T i j = 3 := by unfold cdMv; (repeat' split) <;> omega
          exact ⟨rfl, (ans_3 hcd).symm, fun h => absurd h (by omega), fun _ => hC, frC.refl _⟩
      · refine Z_thrX (v := ("java/lang/IllegalArgumentException", 114, 197, 118, false)) gX7_move_15 rfl rfl rfl rfl rfl (by decide +kernel) (by decide +kernel) (by decide +kernel) rfl rfl ?_
        have hcd : cdMv T i j = 2 := by unfold cdMv; (repeat' split) <;> omega
        exact ⟨rfl, (ans_2 hcd).symm, fun h => absurd h (by omega), fun _ => hC, frC.refl _⟩
    · refine Z_push gX7_move_0 (v := (1, ((0 : Nat) : Int))) rfl ?_
      refine Z_push gX7_move_1 (v := (0, i)) rfl ?_
      refine Z_callW (kd := 0) (na := 2) (M' := mX7_needEntry) gX7_move_2 rfl rfl rfl rfl rfl rfl (fun _ => rfl) rfl rfl (fun _ _ => zrecv_obj rfl _ _ _) (d' := 1) (by omega) (nEntry_ok hR h) ?_
      refine Z_push gX7_move_5 (v := (1, ((0 : Nat) : Int))) rfl ?_
      refine Z_push gX7_move_6 (v := (0, j)) rfl ?_
      refine Z_callT (kd := 0) (na := 2) (M' := mX7_needEntry) gX7_move_7 rfl rfl rfl rfl rfl rfl (fun _ => rfl) rfl rfl (fun _ _ => zrecv_obj rfl _ _ _) (d' := 1) (by omega) (nEntry_no hR h2) (Or.inl rfl) rfl (fun w9 hE => ?_)
      subst hE
      have hcd : cdMv T i j = 1 := by unfold cdMv; (repeat' split) <;> omega
      exact ⟨rfl, (ans_1 hcd).symm, fun h => absurd h (by omega), fun _ => hC, frC.refl _⟩
  · refine Z_push gX7_move_0 (v := (1, ((0 : Nat) : Int))) rfl ?_
    refine Z_push gX7_move_1 (v := (0, i)) rfl ?_
    refine Z_callT (kd := 0) (na := 2) (M' := mX7_needEntry) gX7_move_2 rfl rfl rfl rfl rfl rfl (fun _ => rfl) rfl rfl (fun _ _ => zrecv_obj rfl _ _ _) (d' := 1) (by omega) (nEntry_no hR h) (Or.inl rfl) rfl (fun w9 hE => ?_)
    subst hE
    have hcd : cdMv T i j = 1 := by unfold cdMv; (repeat' split) <;> omega
    exact ⟨rfl, (ans_1 hcd).symm, fun h => absurd h (by omega), fun _ => hC, frC.refl _⟩
theorem uX7_undo (hC : CR w T R D lim la) (hV : SV B T R D lim la) (hB : B ≤ 900000) : Xv ro 6 mX7_undo [(1, ((0 : Nat) : Int))] w (mP w (cdUn D) (fun w' => CR w' (D.2 0).1 (puA R (D.2 0).2 0 5) (unD D) lim 0) (fun w' => CR w' T R D lim la) (ans (some (0, (D.1 : Int) - 1)) ["java/lang/IllegalStateException"] (cdUn D))) := by
  obtain ⟨hR, hRR, ⟨nw, hD⟩, h7, h8, hL⟩ := id hC
  obtain ⟨hTV, hRV, hDV, hlim, hla, hop, hopD⟩ := id hV
  have hT := TX_1
  have hV1 := hTV.1
  show Z ro 6 mX7_undo 0 [(1, ((0 : Nat) : Int))] [] w _
  refine Z_push gX7_undo_0 (v := (1, ((0 : Nat) : Int))) rfl ?_
  refine Z_getR (b := 9) gX7_undo_1 rfl rfl (by decide) rfl (by omega) ?_
  refine Z_callP (kd := 0) (na := 1) (M' := mX2_count) gX7_undo_4 rfl rfl rfl rfl rfl rfl (fun _ => rfl) rfl rfl (fun _ _ => zrecv_obj rfl _ _ _) (d' := 0) (by omega) (show Pv ro 0 mX2_count _ _ (0, (D.1 : Int)) from hD.2.2.1 ▸ vX2_count) ?_
  refine Z_if_ne gX7_undo_7 (tgt := 20) (by decide) (fun h7 => ?_) (fun h7 => ?_)
  · refine Z_push gX7_undo_20 (v := (1, ((0 : Nat) : Int))) rfl ?_
    refine Z_getR (b := 9) gX7_undo_21 rfl rfl (by decide) rfl (by omega) ?_
    refine Z_push gX7_undo_24 (v := (1, ((0 : Nat) : Int))) rfl ?_
    refine Z_getR (b := 1) gX7_undo_25 rfl rfl (by decide) rfl (by omega) ?_
    refine Z_push gX7_undo_28 (v := (1, ((0 : Nat) : Int))) rfl ?_
    refine Z_getR (b := 6) gX7_undo_29 rfl rfl (by decide) rfl (by omega) ?_
    refine Z_callE (kd := 0) (na := 3) (M' := mX2_takeBack) gX7_undo_32 rfl rfl rfl rfl rfl rfl (fun _ => rfl) rfl rfl (fun _ _ => zrecv_obj rfl _ _ _) (d' := 5) (by omega) (vX2_takeBack hD hDV (by omega) hRR hRV (by omega)) ?_
    rintro o w2 ⟨rfl, g1, g2, g3, g4⟩
    have e : ((unD D).1 : Int) = (D.1 : Int) - 1 := by show ((D.1 - 1 : Nat) : Int) = _; omega
    have g5 : zup w2 0 8 0 9 2 = (D.1 : Int) - 1 := (zup_ne (by omega)).trans (g3.2.2.1.trans e)
    refine Z_push gX7_undo_35 (v := (1, ((0 : Nat) : Int))) rfl ?_
    refine Z_push gX7_undo_36 (v := (0, 0)) rfl ?_
    refine Z_put gX7_undo_37 rfl rfl (by decide) rfl (fun _ => (by first | exact Or.inl rfl | exact Or.inr rfl | assumption)) ?_
    refine Z_push gX7_undo_40 (v := (1, ((0 : Nat) : Int))) rfl ?_
    refine Z_getR (b := 9) gX7_undo_41 rfl rfl (by decide) rfl (by omega) ?_
    refine Z_callP (kd := 0) (na := 1) (M' := mX2_count) gX7_undo_44 rfl rfl rfl rfl rfl rfl (fun _ => rfl) rfl rfl (fun _ _ => zrecv_obj rfl _ _ _) (d' := 0) (by omega) (show Pv ro 0 mX2_count _ _ (0, (D.1 : Int) - 1) from g5 ▸ vX2_count) ?_
    refine Z_retX (v := (0, (D.1 : Int) - 1)) gX7_undo_47 rfl rfl rfl rfl rfl ?_
    have hcd : cdUn D = 0 := by unfold cdUn; rw [if_neg (by omega)]
    exact ⟨rfl, (ans_0 hcd).symm, fun _ => CR_deed hC (TR_frame g1 (fun a k ha => zup_ne (by omega))) (RR_frame g2 (fun a k h1 h2 => zup_ne (by omega))) (DR_frame g3 (fun a k h1 h2 => zup_ne (by omega))) (zup_eq _ _ _ _) ((zup_ne (by omega)).trans (g4 _ _ (by omega))), fun h => absurd hcd h, fun a k ha => (zup_ne (by omega)).trans (g4 a k (by omega))⟩
  · refine Z_thrX (v := ("java/lang/IllegalStateException", 84, 218, 88, false)) gX7_undo_10 rfl rfl rfl rfl rfl (by decide +kernel) (by decide +kernel) (by decide +kernel) rfl rfl ?_
    have hcd : cdUn D = 1 := by unfold cdUn; rw [if_pos (by omega)]
    exact ⟨rfl, (ans_1 hcd).symm, fun h => absurd h (by omega), fun _ => hC, frC.refl _⟩
theorem uX7_setWidth (hC : CR w T R D lim la) (hV : SV B T R D lim la) (l : Int) : Xv ro 0 mX7_setWidth [(1, ((0 : Nat) : Int)), (0, l)] w (mP w (cdWd l) (fun w' => CR w' T R D l 0) (fun w' => CR w' T R D lim la) (ans (some (0, lim)) ["java/lang/IllegalArgumentException"] (cdWd l))) := by
  obtain ⟨hR, hRR, ⟨nw, hD⟩, h7, h8, hL⟩ := id hC
  obtain ⟨hTV, hRV, hDV, hlim, hla, hop, hopD⟩ := id hV
  have hT := TX_1
  have hV1 := hTV.1
  show Z ro 0 mX7_setWidth 0 [(1, ((0 : Nat) : Int)), (0, l), (9, 0)] [] w _
  by_cases h : 13 ≤ l ∧ l ≤ 60
  · refine Z_push gX7_setWidth_0 (v := (0, l)) rfl ?_
    refine Z_push gX7_setWidth_1 (v := (0, 13)) rfl ?_
    refine Z_icmp_lt gX7_setWidth_3 (tgt := 12) (by decide) (fun h3 => absurd h3 (by omega)) (fun _ => ?_)
    refine Z_push gX7_setWidth_6 (v := (0, l)) rfl ?_
    refine Z_push gX7_setWidth_7 (v := (0, 60)) rfl ?_
    refine Z_icmp_le gX7_setWidth_9 (tgt := 22) (by decide) (fun _ => ?_) (fun h9 => absurd h9 (by omega))
    refine Z_push gX7_setWidth_22 (v := (1, ((0 : Nat) : Int))) rfl ?_
    refine Z_getV (v := lim) gX7_setWidth_23 rfl rfl (by decide) h7 ?_
    refine Z_sto gX7_setWidth_26 rfl (ls' := [(1, ((0 : Nat) : Int)), (0, l), (0, lim)]) (st' := []) rfl ?_
    refine Z_push gX7_setWidth_27 (v := (1, ((0 : Nat) : Int))) rfl ?_
    refine Z_push gX7_setWidth_28 (v := (0, l)) rfl ?_
    refine Z_put gX7_setWidth_29 rfl rfl (by decide) rfl (fun h => by cases h) ?_
    refine Z_push gX7_setWidth_32 (v := (1, ((0 : Nat) : Int))) rfl ?_
    refine Z_push gX7_setWidth_33 (v := (0, 0)) rfl ?_
    refine Z_put gX7_setWidth_34 rfl rfl (by decide) rfl (fun _ => (by first | exact Or.inl rfl | exact Or.inr rfl | assumption)) ?_
    refine Z_push gX7_setWidth_37 (v := (0, lim)) rfl ?_
    refine Z_retX (v := (0, lim)) gX7_setWidth_38 rfl rfl rfl rfl rfl ?_
    have f : ∀ a k, a ≠ 0 → zup (zup w 0 7 l) 0 8 0 a k = w a k := fun a k ha => (zup_ne (by omega)).trans (zup_ne (by omega))
    have hcd : cdWd l = 0 := by unfold cdWd; (repeat' split) <;> omega
    exact ⟨rfl, (ans_0 hcd).symm, fun _ => ⟨TR_frame hR (fun a k ha => f a k (by omega)), RR_frame hRR (fun a k h1 h2 => f a k (by omega)), ⟨nw, DR_frame hD (fun a k h1 h2 => f a k (by omega))⟩, (zup_ne (by omega)).trans (zup_eq _ _ _ _), zup_eq _ _ _ _, fun h => absurd h (by decide)⟩, fun h => absurd hcd h, fun a k ha => f a k (by omega)⟩
  · refine Z_push gX7_setWidth_0 (v := (0, l)) rfl ?_
    refine Z_push gX7_setWidth_1 (v := (0, 13)) rfl ?_
    refine Z_icmp_lt gX7_setWidth_3 (tgt := 12) (by decide) (fun h3 => ?_) (fun h3 => ?_)
    · refine Z_thrX (v := ("java/lang/IllegalArgumentException", 114, 248, 118, false)) gX7_setWidth_12 rfl rfl rfl rfl rfl (by decide +kernel) (by decide +kernel) (by decide +kernel) rfl rfl ?_
      have hcd : cdWd l = 1 := by unfold cdWd; (repeat' split) <;> omega
      exact ⟨rfl, (ans_1 hcd).symm, fun h => absurd h (by omega), fun _ => hC, frC.refl _⟩
    · refine Z_push gX7_setWidth_6 (v := (0, l)) rfl ?_
      refine Z_push gX7_setWidth_7 (v := (0, 60)) rfl ?_
      refine Z_icmp_le gX7_setWidth_9 (tgt := 22) (by decide) (fun h9 => absurd h9 (by omega)) (fun _ => ?_)
      refine Z_thrX (v := ("java/lang/IllegalArgumentException", 114, 248, 118, false)) gX7_setWidth_12 rfl rfl rfl rfl rfl (by decide +kernel) (by decide +kernel) (by decide +kernel) rfl rfl ?_
      have hcd : cdWd l = 1 := by unfold cdWd; (repeat' split) <;> omega
      exact ⟨rfl, (ans_1 hcd).symm, fun h => absurd h (by omega), fun _ => hC, frC.refl _⟩
theorem uX7_layOut (hC : CR w T R D lim la) (hV : SV B T R D lim la) : Xv ro 5 mX7_layOut [(1, ((0 : Nat) : Int))] w (mP w 0 (fun w' => CR w' T R D lim 1) (fun w' => CR w' T R D lim la) (ans (some (0, (lcE T lim : Int))) [] 0)) := by
  obtain ⟨hR, hRR, ⟨nw, hD⟩, h7, h8, hL⟩ := id hC
  obtain ⟨hTV, hRV, hDV, hlim, hla, hop, hopD⟩ := id hV
  have hT := TX_1
  have hV1 := hTV.1
  show Z ro 5 mX7_layOut 0 [(1, ((0 : Nat) : Int))] [] w _
  refine Z_push gX7_layOut_0 (v := (1, ((0 : Nat) : Int))) rfl ?_
  refine Z_getR (b := 89) gX7_layOut_1 rfl rfl (by decide) rfl (by omega) ?_
  refine Z_push gX7_layOut_4 (v := (1, ((0 : Nat) : Int))) rfl ?_
  refine Z_getR (b := 1) gX7_layOut_5 rfl rfl (by decide) rfl (by omega) ?_
  refine Z_push gX7_layOut_8 (v := (1, ((0 : Nat) : Int))) rfl ?_
  refine Z_getV (v := lim) gX7_layOut_9 rfl rfl (by decide) h7 ?_
  refine Z_callE (kd := 0) (na := 3) (M' := mX4_divide) gX7_layOut_12 rfl rfl rfl rfl rfl rfl (fun _ => rfl) rfl rfl (fun _ _ => zrecv_obj rfl _ _ _) (d' := 4) (by omega) (vX4_divide LX_89 hR hTV hlim) ?_
  rintro o w2 ⟨rfl, g2, g3, g4⟩
  have f : ∀ a k, ¬ (89 ≤ a ∧ a ≤ 92) → ¬ (a = 0 ∧ k = 8) → zup w2 0 8 1 a k = w a k := fun a k h1 h2 => (zup_ne h2).trans (g4 a k (by omega) (by omega))
  refine Z_push gX7_layOut_15 (v := (1, ((0 : Nat) : Int))) rfl ?_
  refine Z_push gX7_layOut_16 (v := (0, 1)) rfl ?_
  refine Z_put gX7_layOut_17 rfl rfl (by decide) rfl (fun _ => (by first | exact Or.inl rfl | exact Or.inr rfl | assumption)) ?_
  refine Z_push gX7_layOut_20 (v := (1, ((0 : Nat) : Int))) rfl ?_
  refine Z_getR (b := 89) gX7_layOut_21 rfl rfl (by decide) rfl (by omega) ?_
  refine Z_callP (kd := 0) (na := 1) (M' := mX4_lines) gX7_layOut_24 rfl rfl rfl rfl rfl rfl (fun _ => rfl) rfl rfl (fun _ _ => zrecv_obj rfl _ _ _) (d' := 0) (by omega) (vX4_lines LX_89 ((zup_ne (by omega)).trans g2.1)) ?_
  refine Z_retX (v := (0, (lcE T lim : Int))) gX7_layOut_27 rfl rfl rfl rfl rfl ?_
  exact ⟨rfl, rfl, fun _ => ⟨TR_frame hR (fun a k ha => f a k (by omega) (by omega)), RR_frame hRR (fun a k h1 h2 => f a k (by omega) (by omega)), ⟨nw, DR_frame hD (fun a k h1 h2 => f a k (by omega) (by omega))⟩, (f _ _ (by omega) (by omega)).trans h7, zup_eq _ _ _ _, fun _ => LR_frame g2 (fun a k h1 h2 => zup_ne (by omega))⟩, fun h => absurd rfl h, fun a k ha => f a k (by omega) (by omega)⟩
end
