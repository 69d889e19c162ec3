/-! the class's text: join, pin, copy, rename, add -/
def joT (T : zTx) (i : Nat) : zTx := rmT (T.1, updE T.2 i ((T.2 i).1, (T.2 i).2.1, (if (T.2 i).2.2.1 + (T.2 (i + 1)).2.2.1 < 9 then (T.2 i).2.2.1 + (T.2 (i + 1)).2.2.1 else 9), (T.2 i).2.2.2)) (i + 1)
def rnT (T : zTx) (x y : Int) : zTx := (T.1, fun q => if isT T q x = 1 then ((T.2 q).1, y, (T.2 q).2.2.1, (T.2 q).2.2.2) else T.2 q)
def piT (T : zTx) (i : Nat) (v : Int) : zTx := (T.1, updE T.2 i ((T.2 i).1, (T.2 i).2.1, (T.2 i).2.2.1, v))
def rawE (w : zW) (t : Nat) : Nat → zE := fun q => (w (t + 1) q, w (t + 2) q, w (t + 3) q, w (t + 4) q)
theorem TR_raw {w : zW} {t n : Nat} (h : w t 4 = (n : Int)) : TR w t (n, rawE w t) := ⟨h, fun _ _ => ⟨rfl, fun _ => rfl, fun _ => rfl, rfl⟩⟩
theorem TR_frame {w w' : zW} {s : Nat} {T : zTx} (h : TR w s T) (hs : ∀ a k, s ≤ a ∧ a ≤ s + 4 → w' a k = w a k) : TR w' s T := by
  refine ⟨by rw [hs _ _ (by omega)]; exact h.1, fun j hj => ?_⟩
  unfold eR
  rw [hs _ _ (by omega), hs _ _ (by omega), hs _ _ (by omega), hs _ _ (by omega)]
  exact h.2 j hj
section
variable {ro : zRo} {w : zW} {t : Nat} {T : zTx}
/-- one value of one entry written -/
theorem TR_zwr (hR : TR w t T) {i : Nat} (hi : i < 30) {c : Nat} (hc : c = t + 1 ∨ c = t + 2 ∨ c = t + 3 ∨ c = t + 4) {v : Int} {x : zE}
    (h1 : i < T.1 → (if c = t + 1 then v else (T.2 i).1) = x.1) (h2 : i < T.1 → x.1 = 110 → (if c = t + 2 then v = x.2.1 else (T.2 i).1 = 110 ∧ (T.2 i).2.1 = x.2.1)) (h3 : i < T.1 → x.1 = 110 ∨ x.1 = 99 → (if c = t + 3 then v = x.2.2.1 else ((T.2 i).1 = 110 ∨ (T.2 i).1 = 99) ∧ (T.2 i).2.2.1 = x.2.2.1)) (h4 : i < T.1 → (if c = t + 4 then v else (T.2 i).2.2.2) = x.2.2.2) : TR (zwr w c 30 (i : Int) v) t (T.1, updE T.2 i x) ∧ frT t w (zwr w c 30 (i : Int) v) := by
  have e : zwr w c 30 (i : Int) v = zup w c i v := by unfold zwr; rw [if_pos (by omega)]; rfl
  rw [e]
  refine ⟨⟨?_, fun j hj => ?_⟩, fun a k ha hk => if_neg (by omega)⟩
  · show (if t = c ∧ 4 = i then v else w t 4) = _
    rw [if_neg (by omega)]
    exact hR.1
  · have hj : j < T.1 := hj
    obtain ⟨a1, a2, a3, a4⟩ := hR.2 j hj
    by_cases hji : j = i
    · subst hji
      have b1 := h1 hj
      have b2 := h2 hj
      have b3 := h3 hj
      have b4 := h4 hj
      unfold eR updE zup
      simp only [if_true, and_true]
      refine ⟨?_, fun h => ?_, fun h => ?_, ?_⟩
      · rw [← b1, a1]
        by_cases hq : c = t + 1
        · rw [if_pos hq.symm, if_pos hq]
        · rw [if_neg (fun h => hq h.symm), if_neg hq]
      · have := b2 h
        by_cases hq : c = t + 2
        · rw [if_pos hq.symm]; rw [if_pos hq] at this; exact this
        · rw [if_neg (fun h => hq h.symm)]; rw [if_neg hq] at this; exact (a2 this.1).trans this.2
      · have := b3 h
        by_cases hq : c = t + 3
        · rw [if_pos hq.symm]; rw [if_pos hq] at this; exact this
        · rw [if_neg (fun h => hq h.symm)]; rw [if_neg hq] at this; exact (a3 this.1).trans this.2
      · rw [← b4, a4]
        by_cases hq : c = t + 4
        · rw [if_pos hq.symm, if_pos hq]
        · rw [if_neg (fun h => hq h.symm), if_neg hq]
    · unfold eR updE zup
      simp only [hji, and_false, if_false]
      exact ⟨a1, a2, a3, a4⟩
theorem vX6_setPinned (hT : TX t) (hR : TR w t T) (hV : TV T) {i : Nat} (hi : i < T.1) {v : Int} (hv : v = 0 ∨ v = 1) : Ev ro 1 mX6_setPinned [(1, (t : Int)), (0, (i : Int)), (0, v)] w (fun o w' => o = none ∧ TR w' t (piT T i v) ∧ frT t w w') := by
  obtain ⟨hL0, hL1, hL2, hL3, hL4, hp0, hp1, hp2, hp3, hp4⟩ := hT
  have hV1 := hV.1
  show Z ro 1 mX6_setPinned 0 [(1, (t : Int)), (0, (i : Int)), (0, v)] [] w _
  refine Z_push gX6_setPinned_0 (v := (1, ((t : Nat) : Int))) rfl ?_
  refine Z_getR (b := t + 4) gX6_setPinned_1 rfl (by assumption) (by decide) (by assumption) (by omega) ?_
  refine Z_push gX6_setPinned_4 (v := (0, (i : Int))) rfl ?_
  refine Z_push gX6_setPinned_5 (v := (0, v)) rfl ?_
  refine Z_callW (kd := 2) (na := 3) (M' := mX7_writeFlag) gX6_setPinned_6 rfl rfl rfl rfl rfl rfl (fun _ => rfl) rfl rfl (fun _ _ => rfl) (d' := 0) (by decide) (vX7_writeFlag (len := 30) (by first | assumption | rfl) _ _ (by first | assumption | omega)) ?_
  refine Z_end gX6_setPinned_9 rfl rfl rfl rfl (v := none) rfl ⟨rfl, none, rfl, ?_⟩
  have h := TR_zwr hR (i := i) (by omega) (c := t + 4) (by omega) (v := v) (x := ((T.2 i).1, (T.2 i).2.1, (T.2 i).2.2.1, v)) (fun _ => if_neg (by omega)) (fun _ h => by rw [if_neg (by omega)]; exact ⟨h, rfl⟩) (fun _ h => by rw [if_neg (by omega)]; exact ⟨h, rfl⟩) (fun _ => if_pos rfl)
  exact ⟨rfl, h.1, h.2⟩
theorem vX6_joinWithNext (hT : TX t) (hR : TR w t T) (hV : TV T) {i : Nat} (hi : i + 1 < T.1) (h1 : (T.2 i).1 = 99) (h2 : (T.2 (i + 1)).1 = 99) : Ev ro 4 mX6_joinWithNext [(1, (t : Int)), (0, (i : Int))] w (fun o w' => o = none ∧ TR w' t (joT T i) ∧ frT t w w') := by
  obtain ⟨hL0, hL1, hL2, hL3, hL4, hp0, hp1, hp2, hp3, hp4⟩ := id hT
  have hV1 := hV.1
  have k1 : kT T (i : Int) = 99 := (kT_nat (by omega)).trans h1
  have k2 : kT T ((i : Int) + 1) = 99 := (kT_nat (T := T) (j := i + 1) hi).trans h2
  have l1 := TR_len hR hV (Or.inr k1)
  have l2 := TR_len hR hV (Or.inr k2)
  have d1 := len_bd hV (Or.inr k1)
  have d2 := len_bd hV (Or.inr k2)
  rw [show ((i : Int)).toNat = i from rfl] at l1 d1
  rw [show ((i : Int) + 1).toNat = i + 1 from rfl] at l2 d2
  show Z ro 4 mX6_joinWithNext 0 [(1, (t : Int)), (0, (i : Int)), (9, 0)] [] w _
  refine Z_push gX6_joinWithNext_0 (v := (1, ((t : Nat) : Int))) rfl ?_
  refine Z_push gX6_joinWithNext_1 (v := (0, (i : Int))) rfl ?_
  refine Z_callP (kd := 0) (na := 2) (M' := mX6_lengthAt) gX6_joinWithNext_2 rfl rfl rfl rfl rfl rfl (fun _ => rfl) rfl rfl (fun _ _ => zrecv_obj (by assumption) _ _ _) (d' := 1) (by decide) (vX6_lengthAt (by assumption) _) ?_
  refine Z_push gX6_joinWithNext_5 (v := (1, ((t : Nat) : Int))) rfl ?_
  refine Z_push gX6_joinWithNext_6 (v := (0, (i : Int))) rfl ?_
  refine Z_push gX6_joinWithNext_7 (v := (0, 1)) rfl ?_
  refine Z_iadd gX6_joinWithNext_8 ⟨by omega, by omega⟩ ?_
  refine Z_callP (kd := 0) (na := 2) (M' := mX6_lengthAt) gX6_joinWithNext_9 rfl rfl rfl rfl rfl rfl (fun _ => rfl) rfl rfl (fun _ _ => zrecv_obj (by assumption) _ _ _) (d' := 1) (by decide) (vX6_lengthAt (by assumption) _) ?_
  refine Z_iadd gX6_joinWithNext_12 ⟨by omega, by omega⟩ ?_
  refine Z_sto gX6_joinWithNext_13 rfl (ls' := [(1, ((t : Nat) : Int)), (0, (i : Int)), (0, (rd w (t + 3) 30 (i : Int)) + (rd w (t + 3) 30 ((i : Int) + 1)))]) (st' := []) rfl ?_
  refine Z_push gX6_joinWithNext_14 (v := (1, ((t : Nat) : Int))) rfl ?_
  refine Z_getR (b := t + 3) gX6_joinWithNext_15 rfl (by assumption) (by decide) (by assumption) (by omega) ?_
  refine Z_push gX6_joinWithNext_18 (v := (0, (i : Int))) rfl ?_
  refine Z_push gX6_joinWithNext_19 (v := (0, (rd w (t + 3) 30 (i : Int)) + (rd w (t + 3) 30 ((i : Int) + 1)))) rfl ?_
  refine Z_push gX6_joinWithNext_20 (v := (0, 9)) rfl ?_
  refine Z_arith gX6_joinWithNext_22 rfl rfl (v := [(0, (if (rd w (t + 3) 30 (i : Int)) + (rd w (t + 3) 30 ((i : Int) + 1)) < 9 then (rd w (t + 3) 30 (i : Int)) + (rd w (t + 3) 30 ((i : Int) + 1)) else 9)), (0, (i : Int)), (1, ((t + 3 : Nat) : Int))]) rfl ?_
  refine Z_callW (kd := 2) (na := 3) (M' := mX7_write) gX6_joinWithNext_25 rfl rfl rfl rfl rfl rfl (fun _ => rfl) rfl rfl (fun _ _ => rfl) (d' := 0) (by decide) (vX7_write (len := 30) (by first | assumption | rfl) _ _) ?_
  rw [l1, l2]
  have h := TR_zwr hR (i := i) (by omega) (c := t + 3) (by omega) (v := if (T.2 i).2.2.1 + (T.2 (i + 1)).2.2.1 < 9 then (T.2 i).2.2.1 + (T.2 (i + 1)).2.2.1 else 9) (x := ((T.2 i).1, (T.2 i).2.1, (if (T.2 i).2.2.1 + (T.2 (i + 1)).2.2.1 < 9 then (T.2 i).2.2.1 + (T.2 (i + 1)).2.2.1 else 9), (T.2 i).2.2.2)) (fun _ => if_neg (by omega)) (fun _ h => by rw [if_neg (by omega)]; exact ⟨h, rfl⟩) (fun _ _ => by rw [if_pos rfl]) (fun _ => if_neg (by omega))
  generalize hw : zwr w (t + 3) 30 (i : Int) (if (T.2 i).2.2.1 + (T.2 (i + 1)).2.2.1 < 9 then (T.2 i).2.2.1 + (T.2 (i + 1)).2.2.1 else 9) = w1 at h ⊢
  obtain ⟨hR1, hF1⟩ := h
  generalize hx : updE T.2 i ((T.2 i).1, (T.2 i).2.1, (if (T.2 i).2.2.1 + (T.2 (i + 1)).2.2.1 < 9 then (T.2 i).2.2.1 + (T.2 (i + 1)).2.2.1 else 9), (T.2 i).2.2.2) = f1 at hR1
  have hV2 : TV (T.1, f1) := ⟨hV1, fun q hq => by
    have hq : q < T.1 := hq
    subst hx
    show eV (if q = i then _ else T.2 q)
    split
    · obtain ⟨e1, e2, e3, e4⟩ := hV.2 i (by omega)
      refine ⟨e1, e2, fun _ => ?_, e4⟩
      dsimp only
      split <;> omega
    · exact hV.2 q hq⟩
  refine Z_push gX6_joinWithNext_28 (v := (1, ((t : Nat) : Int))) rfl ?_
  refine Z_push gX6_joinWithNext_29 (v := (0, (i : Int))) rfl ?_
  refine Z_push gX6_joinWithNext_30 (v := (0, 1)) rfl ?_
  refine Z_iadd gX6_joinWithNext_31 ⟨by omega, by omega⟩ ?_
  refine Z_callE (kd := 0) (na := 2) (M' := mX6_takeAway) gX6_joinWithNext_32 rfl rfl rfl rfl rfl rfl (fun _ => rfl) rfl rfl (fun _ _ => zrecv_obj (by assumption) _ _ _) (d' := 3) (by decide) (vX6_takeAway hT hR1 hV2 (show 0 ≤ (i : Int) + 1 ∧ (i : Int) + 1 < (T.1 : Int) by omega)) ?_
  rintro o w2 ⟨rfl, g2, g3⟩
  refine Z_end gX6_joinWithNext_35 rfl rfl rfl rfl (v := none) rfl ⟨rfl, none, rfl, ?_⟩
  refine ⟨rfl, ?_, hF1.trans g3⟩
  unfold joT
  rw [hx]
  exact g2
end
