/-! the model's deeds: entries moved, deeds kept -/
section
variable {ro : zRo} {w w' : zW} {T : zTx} {R : zRu} {D : zDs} {lim la B : Int}
/-- an entry of the model written over another -/
def px (w : zW) (t s : Nat) : zW := zup (zup (zup (zup w 98 t (w 98 s)) 99 t (w 99 s)) 100 t (w 100 s)) 101 t (w 101 s)
theorem px_at (w : zW) (t s a j : Nat) : px w t s a j = if j = t ∧ 98 ≤ a ∧ a ≤ 101 then w a s else w a j := by
  unfold px zup
  repeat' split
  all_goals first | rfl | omega | (rename_i h; obtain ⟨rfl, rfl⟩ := h; rfl) | skip
  all_goals simp_all
theorem MT_raw {n : Nat} (h : w 97 1 = (n : Int)) : MT w (n, fun q => (w 98 q, w 99 q, w 100 q, w 101 q)) := ⟨h, fun _ _ => ⟨rfl, fun _ => rfl, fun _ => rfl, rfl⟩⟩
theorem MT_congr {T' : zTx} (h : MT w T) (h1 : T.1 = T'.1) (h2 : ∀ j, j < T.1 → T.2 j = T'.2 j) : MT w T' :=
  ⟨by rw [← h1]; exact h.1, fun j hj => by rw [← h2 j (by omega)]; exact h.2 j (by omega)⟩
theorem vX8_put (hM : MT w T) (hV : TV T) {t s : Nat} (ht : t < 30) (hs : s < T.1) : Pw ro 0 mX8_put [(1, ((97 : Nat) : Int)), (0, (t : Int)), (0, (s : Int))] w (px w t s) := by
  have hV1 := hV.1
  have hk : w 98 s = kT T (s : Int) := hM.k hs
  have hkv := kT_v hV (i := (s : Int)) (by omega)
  have hp : w 101 s = pT T (s : Int) := hM.p hs
  have hp01 := pT_01 hV (s : Int)
  show Z ro 0 mX8_put 0 [(1, ((97 : Nat) : Int)), (0, (t : Int)), (0, (s : Int))] [] w _
  refine Z_push gX8_put_0 (v := (1, ((97 : Nat) : Int))) rfl ?_
  refine Z_getR (b := 98) gX8_put_1 rfl rfl (by decide) rfl (by omega) ?_
  refine Z_push gX8_put_4 (v := (0, (t : Int))) rfl ?_
  refine Z_push gX8_put_5 (v := (1, ((97 : Nat) : Int))) rfl ?_
  refine Z_getR (b := 98) gX8_put_6 rfl rfl (by decide) rfl (by omega) ?_
  refine Z_push gX8_put_9 (v := (0, (s : Int))) rfl ?_
  refine Z_caloadV (v := w 98 s) gX8_put_10 rfl (by omega) (by omega) rfl ?_
  refine Z_castore gX8_put_11 rfl (by omega) (by omega) (by omega) ?_
  refine Z_push gX8_put_12 (v := (1, ((97 : Nat) : Int))) rfl ?_
  refine Z_getR (b := 99) gX8_put_13 rfl rfl (by decide) rfl (by omega) ?_
  refine Z_push gX8_put_16 (v := (0, (t : Int))) rfl ?_
  refine Z_push gX8_put_17 (v := (1, ((97 : Nat) : Int))) rfl ?_
  refine Z_getR (b := 99) gX8_put_18 rfl rfl (by decide) rfl (by omega) ?_
  refine Z_push gX8_put_21 (v := (0, (s : Int))) rfl ?_
  refine Z_ialoadV (v := w 99 s) gX8_put_22 rfl (by omega) (by omega) (by simp [zup]) ?_
  refine Z_iastore gX8_put_23 rfl (by omega) (by omega) ?_
  refine Z_push gX8_put_24 (v := (1, ((97 : Nat) : Int))) rfl ?_
  refine Z_getR (b := 100) gX8_put_25 rfl rfl (by decide) rfl (by omega) ?_
  refine Z_push gX8_put_28 (v := (0, (t : Int))) rfl ?_
  refine Z_push gX8_put_29 (v := (1, ((97 : Nat) : Int))) rfl ?_
  refine Z_getR (b := 100) gX8_put_30 rfl rfl (by decide) rfl (by omega) ?_
  refine Z_push gX8_put_33 (v := (0, (s : Int))) rfl ?_
  refine Z_ialoadV (v := w 100 s) gX8_put_34 rfl (by omega) (by omega) (by simp [zup]) ?_
  refine Z_iastore gX8_put_35 rfl (by omega) (by omega) ?_
  refine Z_push gX8_put_36 (v := (1, ((97 : Nat) : Int))) rfl ?_
  refine Z_getR (b := 101) gX8_put_37 rfl rfl (by decide) rfl (by omega) ?_
  refine Z_push gX8_put_40 (v := (0, (t : Int))) rfl ?_
  refine Z_push gX8_put_41 (v := (1, ((97 : Nat) : Int))) rfl ?_
  refine Z_getR (b := 101) gX8_put_42 rfl rfl (by decide) rfl (by omega) ?_
  refine Z_push gX8_put_45 (v := (0, (s : Int))) rfl ?_
  refine Z_baloadV (v := w 101 s) gX8_put_46 rfl (by omega) (by omega) (by simp [zup]) ?_
  refine Z_bastore gX8_put_47 rfl (by omega) (by omega) (by omega) ?_
  refine Z_end gX8_put_48 rfl rfl rfl rfl (v := none) rfl ⟨rfl, none, rfl, ?_⟩
  exact ⟨rfl, rfl⟩
def frP (w w' : zW) : Prop := ∀ a k, ¬ (98 ≤ a ∧ a ≤ 101) → ¬ (a = 97 ∧ k = 1) → w' a k = w a k
theorem frP.refl (w : zW) : frP w w := fun _ _ _ _ => rfl
theorem frP.trans {a b c : zW} (h : frP a b) (k : frP b c) : frP a c := fun x y h1 h2 => (k x y h1 h2).trans (h x y h1 h2)
theorem MT_px {t s : Nat} {n : Nat} {f : Nat → zE} (h : MT w (n, f)) (hs : s < n) : MT (px w t s) (n, updE f t (f s)) := by
  refine ⟨by rw [px_at, if_neg (by omega)]; exact h.1, fun j hj => ?_⟩
  have hj : j < n := hj
  have a := h.2 j hj
  have b := h.2 s hs
  show eR (px w t s) 98 99 100 101 j (if j = t then f s else f j)
  have p : ∀ a, 98 ≤ a → a ≤ 101 → px w t s a j = if j = t then w a s else w a j := fun a h1 h2 => by
    rw [px_at]
    by_cases e : j = t
    · rw [if_pos (show j = t ∧ 98 ≤ a ∧ a ≤ 101 from ⟨e, h1, h2⟩), if_pos e]
    · rw [if_neg (show ¬ (j = t ∧ 98 ≤ a ∧ a ≤ 101) from fun h => e h.1), if_neg e]
  unfold eR at a b ⊢
  rw [p 98 (by omega) (by omega), p 99 (by omega) (by omega), p 100 (by omega) (by omega), p 101 (by omega) (by omega)]
  by_cases e : j = t
  · simp only [if_pos e]
    exact b
  · simp only [if_neg e]
    exact a
theorem frP_px {t s : Nat} : frP w (px w t s) := fun a k h1 h2 => by rw [px_at, if_neg (by omega)]
theorem vX8_remove (hM : MT w T) (hV : TV T) {i : Nat} (hi : i < T.1) : Ev ro 1 mX8_remove [(1, ((97 : Nat) : Int)), (0, (i : Int))] w (fun o w' => o = none ∧ MT w' (rmT T i) ∧ frP w w') := by
  obtain ⟨n, f⟩ := T
  have hV1 : n ≤ 30 := hV.1
  have hi : i < n := hi
  have loop : ∀ k j : Nat, j + k + 1 = n → i ≤ j → ∀ W : zW, MT W (n, fun q => if i ≤ q ∧ q < j then f (q + 1) else f q) → frP w W → Z ro 1 mX8_remove 2 [(1, ((97 : Nat) : Int)), (0, (i : Int)), (0, (j : Int))] [] W (fun r w' k => k = 0 ∧ ∃ o, r = .inl o ∧ (o = none ∧ MT w' (rmT (n, f) i) ∧ frP w w')) := by
    intro k
    induction k with
    | zero =>
      intro j hj hij W hW hF
      have hW1 : W 97 1 = (n : Int) := hW.1
      refine Z_push gX8_remove_2 (v := (0, (j : Int))) rfl ?_
      refine Z_push gX8_remove_3 (v := (1, ((97 : Nat) : Int))) rfl ?_
      refine Z_getV (v := (n : Int)) gX8_remove_4 rfl rfl (by decide) hW1 ?_
      refine Z_push gX8_remove_7 (v := (0, 1)) rfl ?_
      refine Z_isub gX8_remove_8 ⟨by omega, by omega⟩ ?_
      refine Z_icmp_ge gX8_remove_9 (tgt := 26) (by decide) (fun _ => ?_) (fun h9 => absurd h9 (by omega))
      refine Z_push gX8_remove_26 (v := (1, ((97 : Nat) : Int))) rfl ?_
      refine Z_arith gX8_remove_27 rfl rfl (v := [(1, ((97 : Nat) : Int)), (1, ((97 : Nat) : Int))]) rfl ?_
      refine Z_getV (v := (n : Int)) gX8_remove_28 rfl rfl (by decide) hW1 ?_
      refine Z_push gX8_remove_31 (v := (0, 1)) rfl ?_
      refine Z_isub gX8_remove_32 ⟨by omega, by omega⟩ ?_
      refine Z_put gX8_remove_33 rfl rfl (by decide) rfl (fun h => by cases h) ?_
      refine Z_end gX8_remove_36 rfl rfl rfl rfl (v := none) rfl ⟨rfl, none, rfl, ?_⟩
      refine ⟨rfl, ⟨?_, fun q hq => ?_⟩, fun a c h1 h2 => (zup_ne h2).trans (hF a c h1 h2)⟩
      · rw [zup_eq]
        show _ = ((n - 1 : Nat) : Int)
        omega
      · have hq' : q < n - 1 := hq
        have hb := hW.2 q (show q < n by omega)
        have e : (rmT (n, f) i).2 q = (if i ≤ q ∧ q < j then f (q + 1) else f q) := by
          show (if q < i then f q else f (q + 1)) = _
          by_cases h : q < i
          · rw [if_pos h, if_neg (by omega)]
          · rw [if_neg h, if_pos (by omega)]
        rw [e]
        exact eR_frame hb (zup_ne (by omega)) (zup_ne (by omega)) (zup_ne (by omega)) (zup_ne (by omega))
    | succ k ih =>
      intro j hj hij W hW hF
      have hW1 : W 97 1 = (n : Int) := hW.1
      have hVW : TV (n, fun q => if i ≤ q ∧ q < j then f (q + 1) else f q) := ⟨hV1, fun q hq => by
        show eV (if _ then _ else _)
        have hq' : q < n := hq
        split
        · exact hV.2 _ (show q + 1 < n by omega)
        · exact hV.2 _ hq'⟩
      refine Z_push gX8_remove_2 (v := (0, (j : Int))) rfl ?_
      refine Z_push gX8_remove_3 (v := (1, ((97 : Nat) : Int))) rfl ?_
      refine Z_getV (v := (n : Int)) gX8_remove_4 rfl rfl (by decide) hW1 ?_
      refine Z_push gX8_remove_7 (v := (0, 1)) rfl ?_
      refine Z_isub gX8_remove_8 ⟨by omega, by omega⟩ ?_
      refine Z_icmp_ge gX8_remove_9 (tgt := 26) (by decide) (fun h9 => absurd h9 (by omega)) (fun _ => ?_)
      refine Z_push gX8_remove_12 (v := (1, ((97 : Nat) : Int))) rfl ?_
      refine Z_push gX8_remove_13 (v := (0, (j : Int))) rfl ?_
      refine Z_push gX8_remove_14 (v := (0, (j : Int))) rfl ?_
      refine Z_push gX8_remove_15 (v := (0, 1)) rfl ?_
      refine Z_iadd gX8_remove_16 ⟨by omega, by omega⟩ ?_
      refine Z_callW (kd := 0) (na := 3) (M' := mX8_put) gX8_remove_17 rfl rfl rfl rfl rfl rfl (fun _ => rfl) rfl rfl (fun _ _ => zrecv_obj rfl _ _ _) (d' := 0) (by omega) (vX8_put hW hVW (t := j) (s := j + 1) (by omega) (show j + 1 < n by omega)) ?_
      refine Z_iinc gX8_remove_20 rfl ⟨by omega, by omega⟩ (ls' := [(1, ((97 : Nat) : Int)), (0, (i : Int)), (0, (j : Int) + 1)]) rfl ?_
      refine Z_goto gX8_remove_23 (tgt := 2) (by decide) ?_
      refine ih (j + 1) (by omega) (by omega) _ (MT_congr (MT_px hW (show j + 1 < n by omega)) rfl (fun q hq => ?_)) (hF.trans frP_px)
      have hq' : q < n := hq
      show (if q = j then (if i ≤ j + 1 ∧ j + 1 < j then f (j + 1 + 1) else f (j + 1)) else (if i ≤ q ∧ q < j then f (q + 1) else f q)) = (if i ≤ q ∧ q < j + 1 then f (q + 1) else f q)
      by_cases e : q = j
      · subst e
        rw [if_pos rfl, if_neg (by omega), if_pos (by omega)]
      · rw [if_neg e]
        by_cases e2 : i ≤ q ∧ q < j
        · rw [if_pos e2, if_pos (by omega)]
        · rw [if_neg e2, if_neg (by omega)]
  show Z ro 1 mX8_remove 0 [(1, ((97 : Nat) : Int)), (0, (i : Int)), (9, 0)] [] w _
  refine Z_push gX8_remove_0 (v := (0, (i : Int))) rfl ?_
  refine Z_sto gX8_remove_1 rfl (ls' := [(1, ((97 : Nat) : Int)), (0, (i : Int)), (0, (i : Int))]) (st' := []) rfl ?_
  exact loop (n - 1 - i) i (by omega) (Nat.le_refl _) w (MT_congr hM rfl (fun q hq => by show f q = if _ then _ else _; rw [if_neg (by omega)])) (frP.refl w)
/-- two entries changed -/
def swT (T : zTx) (a b : Nat) : zTx := (T.1, fun q => if q = b then T.2 a else if q = a then T.2 b else T.2 q)
theorem vX8_change (hM : MT w T) (hV : TV T) {a b : Nat} (ha : a < T.1) (hb : b < T.1) : Ev ro 1 mX8_change [(1, ((97 : Nat) : Int)), (0, (a : Int)), (0, (b : Int))] w (fun o w' => o = none ∧ MT w' (swT T a b) ∧ frP w w') := by
  obtain ⟨n, f⟩ := T
  have hV1 : n ≤ 30 := hV.1
  have ha : a < n := ha
  have hb : b < n := hb
  have hk := hM.k (k := a) ha
  have hkv := kT_v hV (i := (a : Int)) (show 0 ≤ (a : Int) ∧ (a : Int) < (n : Int) by omega)
  have hp := hM.p (k := a) ha
  have hp01 := pT_01 hV (a : Int)
  have hea := hM.2 a ha
  unfold eR at hea
  generalize e1 : w 98 a = k1 at hk hea
  generalize e2 : w 99 a = k2 at hea
  generalize e3 : w 100 a = k3 at hea
  generalize e4 : w 101 a = k4 at hp hea
  show Z ro 1 mX8_change 0 [(1, ((97 : Nat) : Int)), (0, (a : Int)), (0, (b : Int)), (9, 0), (9, 0), (9, 0), (9, 0)] [] w _
  refine Z_push gX8_change_0 (v := (1, ((97 : Nat) : Int))) rfl ?_
  refine Z_getR (b := 98) gX8_change_1 rfl rfl (by decide) rfl (by omega) ?_
  refine Z_push gX8_change_4 (v := (0, (a : Int))) rfl ?_
  refine Z_caloadV (v := k1) gX8_change_5 rfl (by omega) (by omega) e1 ?_
  refine Z_sto gX8_change_6 rfl (ls' := [(1, ((97 : Nat) : Int)), (0, (a : Int)), (0, (b : Int)), (0, k1), (9, 0), (9, 0), (9, 0)]) (st' := []) rfl ?_
  refine Z_push gX8_change_7 (v := (1, ((97 : Nat) : Int))) rfl ?_
  refine Z_getR (b := 99) gX8_change_8 rfl rfl (by decide) rfl (by omega) ?_
  refine Z_push gX8_change_11 (v := (0, (a : Int))) rfl ?_
  refine Z_ialoadV (v := k2) gX8_change_12 rfl (by omega) (by omega) e2 ?_
  refine Z_sto gX8_change_13 rfl (ls' := [(1, ((97 : Nat) : Int)), (0, (a : Int)), (0, (b : Int)), (0, k1), (0, k2), (9, 0), (9, 0)]) (st' := []) rfl ?_
  refine Z_push gX8_change_15 (v := (1, ((97 : Nat) : Int))) rfl ?_
  refine Z_getR (b := 100) gX8_change_16 rfl rfl (by decide) rfl (by omega) ?_
  refine Z_push gX8_change_19 (v := (0, (a : Int))) rfl ?_
  refine Z_ialoadV (v := k3) gX8_change_20 rfl (by omega) (by omega) e3 ?_
  refine Z_sto gX8_change_21 rfl (ls' := [(1, ((97 : Nat) : Int)), (0, (a : Int)), (0, (b : Int)), (0, k1), (0, k2), (0, k3), (9, 0)]) (st' := []) rfl ?_
  refine Z_push gX8_change_23 (v := (1, ((97 : Nat) : Int))) rfl ?_
  refine Z_getR (b := 101) gX8_change_24 rfl rfl (by decide) rfl (by omega) ?_
  refine Z_push gX8_change_27 (v := (0, (a : Int))) rfl ?_
  refine Z_baloadV (v := k4) gX8_change_28 rfl (by omega) (by omega) e4 ?_
  refine Z_sto gX8_change_29 rfl (ls' := [(1, ((97 : Nat) : Int)), (0, (a : Int)), (0, (b : Int)), (0, k1), (0, k2), (0, k3), (0, k4)]) (st' := []) rfl ?_
  refine Z_push gX8_change_31 (v := (1, ((97 : Nat) : Int))) rfl ?_
  refine Z_push gX8_change_32 (v := (0, (a : Int))) rfl ?_
  refine Z_push gX8_change_33 (v := (0, (b : Int))) rfl ?_
  refine Z_callW (kd := 0) (na := 3) (M' := mX8_put) gX8_change_34 rfl rfl rfl rfl rfl rfl (fun _ => rfl) rfl rfl (fun _ _ => zrecv_obj rfl _ _ _) (d' := 0) (by omega) (vX8_put hM hV (t := a) (s := b) (show a < 30 by omega) hb) ?_
  have hM2 := MT_px (t := a) hM hb
  have hf2 : frP w (px w a b) := frP_px
  generalize px w a b = W at hM2 hf2 ⊢
  refine Z_push gX8_change_37 (v := (1, ((97 : Nat) : Int))) rfl ?_
  refine Z_getR (b := 98) gX8_change_38 rfl rfl (by decide) rfl (by omega) ?_
  refine Z_push gX8_change_41 (v := (0, (b : Int))) rfl ?_
  refine Z_push gX8_change_42 (v := (0, k1)) rfl ?_
  refine Z_castore gX8_change_43 rfl (by omega) (by omega) (by omega) ?_
  refine Z_push gX8_change_44 (v := (1, ((97 : Nat) : Int))) rfl ?_
  refine Z_getR (b := 99) gX8_change_45 rfl rfl (by decide) rfl (by omega) ?_
  refine Z_push gX8_change_48 (v := (0, (b : Int))) rfl ?_
  refine Z_push gX8_change_49 (v := (0, k2)) rfl ?_
  refine Z_iastore gX8_change_51 rfl (by omega) (by omega) ?_
  refine Z_push gX8_change_52 (v := (1, ((97 : Nat) : Int))) rfl ?_
  refine Z_getR (b := 100) gX8_change_53 rfl rfl (by decide) rfl (by omega) ?_
  refine Z_push gX8_change_56 (v := (0, (b : Int))) rfl ?_
  refine Z_push gX8_change_57 (v := (0, k3)) rfl ?_
  refine Z_iastore gX8_change_59 rfl (by omega) (by omega) ?_
  refine Z_push gX8_change_60 (v := (1, ((97 : Nat) : Int))) rfl ?_
  refine Z_getR (b := 101) gX8_change_61 rfl rfl (by decide) rfl (by omega) ?_
  refine Z_push gX8_change_64 (v := (0, (b : Int))) rfl ?_
  refine Z_push gX8_change_65 (v := (0, k4)) rfl ?_
  refine Z_bastore gX8_change_67 rfl (by omega) (by omega) (by omega) ?_
  refine Z_end gX8_change_68 rfl rfl rfl rfl (v := none) rfl ⟨rfl, none, rfl, ?_⟩
  have hz : ∀ c q, (98 ≤ c ∧ c ≤ 101) → zup (zup (zup (zup W 98 b k1) 99 b k2) 100 b k3) 101 b k4 c q = if q = b then (if c = 98 then k1 else if c = 99 then k2 else if c = 100 then k3 else k4) else W c q := by
    intro c q hc
    rcases (by omega : c = 98 ∨ c = 99 ∨ c = 100 ∨ c = 101) with rfl | rfl | rfl | rfl <;> simp [zup]
  refine ⟨rfl, ⟨?_, fun q hq => ?_⟩, fun c q h1 h2 => (zup_ne (by omega)).trans ((zup_ne (by omega)).trans ((zup_ne (by omega)).trans ((zup_ne (by omega)).trans (hf2 c q h1 h2))))⟩
  · exact (zup_ne (by omega)).trans ((zup_ne (by omega)).trans ((zup_ne (by omega)).trans ((zup_ne (by omega)).trans hM2.1)))
  · have hq : q < n := hq
    have hb2 := hM2.2 q hq
    show eR (zup (zup (zup (zup W 98 b k1) 99 b k2) 100 b k3) 101 b k4) 98 99 100 101 q (if q = b then f a else if q = a then f b else f q)
    unfold eR at hb2 ⊢
    rw [hz 98 q (by omega), hz 99 q (by omega), hz 100 q (by omega), hz 101 q (by omega)]
    by_cases e : q = b
    · rw [if_pos e, if_pos e, if_pos e, if_pos e, if_pos e, if_pos rfl, if_neg (by omega), if_pos rfl, if_neg (by omega), if_neg (by omega), if_pos rfl, if_neg (by omega), if_neg (by omega), if_neg (by omega)]
      exact hea
    · rw [if_neg e, if_neg e, if_neg e, if_neg e, if_neg e]
      exact hb2
end
