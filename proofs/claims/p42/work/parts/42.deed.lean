/-! a deed is taken back -/
/-- rule r punished k times -/
def puN (R : zRu) (r : Nat) : Nat → zRu
  | 0 => R
  | k + 1 => puN (puR R r) r k
def puA (R : zRu) (g : Nat → Int) : Nat → Nat → zRu
  | _, 0 => R
  | j, k + 1 => puA (puN R j (g j).toNat) g (j + 1) k
theorem RV_pu {B : Int} {R : zRu} (h : RV B R) {r : Nat} (hr : r < 5) : RV (B + 1) (puR R r) := by
  obtain ⟨a1, a2, a3⟩ := h
  have := a1 r hr
  have hd : 0 ≤ (R.1 r + 3).tdiv 4 ∧ (R.1 r + 3).tdiv 4 ≤ R.1 r := by
    rw [Int.tdiv_eq_ediv_of_nonneg (by omega)]
    omega
  refine ⟨fun j hj => ?_, fun j hj => ?_, by have : 0 ≤ R.2.2 ∧ R.2.2 ≤ B := a3; exact ⟨this.1, by show R.2.2 ≤ B + 1; omega⟩⟩
  · have := a1 j hj
    show 0 ≤ (if j = r then _ else R.1 j) ∧ (if j = r then _ else R.1 j) ≤ 99
    split <;> omega
  · have := a2 j hj
    have := a2 r hr
    show 0 ≤ (if j = r then _ else R.2.1 j) ∧ (if j = r then _ else R.2.1 j) ≤ B + 1
    split <;> omega
section
variable {ro : zRo} {w : zW} {T : zTx}
theorem vX1_takeBack {e t : Nat} {B : Int} {R : zRu} {g : Nat → Int} (hE : DX e) (hT : TX t) (hR : TR w (e + 1) T) (hV : TV T) (hd : e + 6 < t ∨ t + 4 < e + 1) (ht : t = 1) (he : 11 ≤ e) (hg : ∀ r, r < 5 → w (e + 6) r = g r) (hg2 : ∀ r, r < 5 → 0 ≤ g r ∧ g r ≤ 30) (hRR : RR w R) (hRV : RV B R) (hB : B + 150 ≤ 1000000) :
    Ev ro 4 mX1_takeBack [(1, (e : Int)), (1, (t : Int)), (1, ((6 : Nat) : Int))] w (fun o w' => o = none ∧ TR w' t T ∧ RR w' (puA R g 0 5) ∧ (∀ a k, ¬ (t + 1 ≤ a ∧ a ≤ t + 4) → ¬ (a = t ∧ k = 4) → a ≠ 7 → a ≠ 8 → ¬ (a = 6 ∧ k = 2) → w' a k = w a k)) := by
  obtain ⟨hL, hp0, hp1, hL6, hT1⟩ := id hE
  have hL1 := hT1.1
  have hL2 := hT.1
  have inner : ∀ k : Nat, ∀ (j : Nat) (B' : Int) (R' : zRu) (W : zW) (Q : (Option zV ⊕ String) → zW → Nat → Prop), j < 5 → RR W R' → RV B' R' → B' + k ≤ 1000000 → (∀ W2, RR W2 (puN R' j k) → RV (B' + k) (puN R' j k) → frR W W2 → Z ro 4 mX1_takeBack 41 [(1, (e : Int)), (1, (t : Int)), (1, ((6 : Nat) : Int)), (0, (j : Int)), (0, 0)] [] W2 Q) → Z ro 4 mX1_takeBack 25 [(1, (e : Int)), (1, (t : Int)), (1, ((6 : Nat) : Int)), (0, (j : Int)), (0, (k : Int))] [] W Q := by
    intro k
    induction k with
    | zero =>
      intro j B' R' W Q hj h1 h2 h3 K
      refine Z_push gX1_takeBack_25 (v := (0, ((0 : Nat) : Int))) rfl ?_
      refine Z_if_le gX1_takeBack_27 (tgt := 41) (by decide) (fun _ => ?_) (fun h27 => absurd h27 (by omega))
      exact K W h1 (by rw [show B' + ((0 : Nat) : Int) = B' by omega]; exact h2) (frR.refl W)
    | succ k ih =>
      intro j B' R' W Q hj h1 h2 h3 K
      have hB0 : 0 ≤ B' := Int.le_trans h2.2.2.1 h2.2.2.2
      refine Z_push gX1_takeBack_25 (v := (0, ((k + 1 : Nat) : Int))) rfl ?_
      refine Z_if_le gX1_takeBack_27 (tgt := 41) (by decide) (fun h27 => absurd h27 (by omega)) (fun _ => ?_)
      refine Z_push gX1_takeBack_30 (v := (1, ((6 : Nat) : Int))) rfl ?_
      refine Z_push gX1_takeBack_31 (v := (0, (j : Int))) rfl ?_
      refine Z_callE (kd := 0) (na := 2) (M' := mX5_punish) gX1_takeBack_32 rfl rfl rfl rfl rfl rfl (fun _ => rfl) rfl rfl (fun _ _ => zrecv_obj rfl _ _ _) (d' := 2) (by decide) (vX5_punish h1 h2 (by omega) hj) ?_
      rintro o w2 ⟨rfl, g2, g3⟩
      refine Z_iinc gX1_takeBack_35 rfl ⟨by omega, by omega⟩ (ls' := [(1, ((e : Nat) : Int)), (1, ((t : Nat) : Int)), (1, ((6 : Nat) : Int)), (0, (j : Int)), (0, ((k + 1 : Nat) : Int) + (-1))]) rfl ?_
      refine Z_goto gX1_takeBack_38 (tgt := 25) (by decide) ?_
      rw [show ((k + 1 : Nat) : Int) + (-1) = (k : Int) by omega]
      refine ih j (B' + 1) (puR R' j) w2 Q hj g2 (RV_pu h2 hj) (by omega) (fun W2 k1 k2 k3 => K W2 k1 ?_ (g3.trans k3))
      rw [show B' + ((k + 1 : Nat) : Int) = B' + 1 + (k : Int) by omega]
      exact k2
  have loop : ∀ k j : Nat, j + k = 5 → ∀ (v : zV) (B' : Int) (R' : zRu) (W : zW), RR W R' → RV B' R' → B' + 30 * k ≤ 1000000 → TR W t T → puA R' g j k = puA R g 0 5 → (∀ a k, ¬ (t + 1 ≤ a ∧ a ≤ t + 4) → ¬ (a = t ∧ k = 4) → a ≠ 7 → a ≠ 8 → ¬ (a = 6 ∧ k = 2) → W a k = w a k) → Z ro 4 mX1_takeBack 10 [(1, (e : Int)), (1, (t : Int)), (1, ((6 : Nat) : Int)), (0, (j : Int)), v] [] W (fun r w' k => k = 0 ∧ ∃ o, r = .inl o ∧ (o = none ∧ TR w' t T ∧ RR w' (puA R g 0 5) ∧ (∀ a k, ¬ (t + 1 ≤ a ∧ a ≤ t + 4) → ¬ (a = t ∧ k = 4) → a ≠ 7 → a ≠ 8 → ¬ (a = 6 ∧ k = 2) → w' a k = w a k))) := by
    intro k
    induction k with
    | zero =>
      intro j hj v B' R' W h1 h2 h3 h4 h5 h6
      obtain ⟨y1, y2⟩ := v
      refine Z_push gX1_takeBack_10 (v := (0, (j : Int))) rfl ?_
      refine Z_push gX1_takeBack_11 (v := (0, 5)) rfl ?_
      refine Z_icmp_ge gX1_takeBack_12 (tgt := 47) (by decide) (fun _ => ?_) (fun h12 => absurd h12 (by omega))
      refine Z_end gX1_takeBack_47 rfl rfl rfl rfl (v := none) rfl ⟨rfl, none, rfl, ?_⟩
      exact ⟨rfl, h4, by rw [← h5]; exact h1, h6⟩
    | succ k ih =>
      intro j hj v B' R' W h1 h2 h3 h4 h5 h6
      obtain ⟨y1, y2⟩ := v
      have hgj := hg2 j (by omega)
      have e1 : rd W (e + 6) 5 (j : Int) = g j := by
        unfold rd
        rw [if_pos (by omega)]
        exact (h6 (e + 6) j (by omega) (by omega) (by omega) (by omega) (by omega)).trans (hg j (by omega))
      refine Z_push gX1_takeBack_10 (v := (0, (j : Int))) rfl ?_
      refine Z_push gX1_takeBack_11 (v := (0, 5)) rfl ?_
      refine Z_icmp_ge gX1_takeBack_12 (tgt := 47) (by decide) (fun h12 => absurd h12 (by omega)) (fun _ => ?_)
      refine Z_push gX1_takeBack_15 (v := (1, ((e : Nat) : Int))) rfl ?_
      refine Z_getR (b := e + 6) gX1_takeBack_16 rfl (by assumption) (by decide) (by assumption) (by omega) ?_
      refine Z_push gX1_takeBack_19 (v := (0, (j : Int))) rfl ?_
      refine Z_callP (kd := 2) (na := 2) (M' := mX7_read) gX1_takeBack_20 rfl rfl rfl rfl rfl rfl (fun _ => rfl) rfl rfl (fun _ _ => rfl) (d' := 0) (by decide) (vX7_read (len := 5) (by first | assumption | rfl) _) ?_
      refine Z_sto gX1_takeBack_23 rfl (ls' := [(1, ((e : Nat) : Int)), (1, ((t : Nat) : Int)), (1, ((6 : Nat) : Int)), (0, (j : Int)), (0, rd W (e + 6) 5 (j : Int))]) (st' := []) rfl ?_
      rw [e1, show g j = ((g j).toNat : Int) by omega]
      refine inner (g j).toNat j B' R' W _ (by omega) h1 h2 (by omega) (fun W2 k1 k2 k3 => ?_)
      refine Z_iinc gX1_takeBack_41 rfl ⟨by omega, by omega⟩ (ls' := [(1, ((e : Nat) : Int)), (1, ((t : Nat) : Int)), (1, ((6 : Nat) : Int)), (0, (j : Int) + 1), (0, 0)]) rfl ?_
      refine Z_goto gX1_takeBack_44 (tgt := 10) (by decide) ?_
      exact ih (j + 1) (by omega) _ _ _ W2 k1 k2 (by omega) (TR_frame h4 (fun a k ha => k3 a k (by omega) (by omega) (by omega))) h5 (fun a k a1 a2 a3 a4 a5 => (k3 a k a3 a4 a5).trans (h6 a k a1 a2 a3 a4 a5))
  show Z ro 4 mX1_takeBack 0 [(1, (e : Int)), (1, (t : Int)), (1, ((6 : Nat) : Int)), (9, 0), (9, 0)] [] w _
  refine Z_push gX1_takeBack_0 (v := (1, ((t : Nat) : Int))) rfl ?_
  refine Z_push gX1_takeBack_1 (v := (1, ((e : Nat) : Int))) rfl ?_
  refine Z_getR (b := e + 1) gX1_takeBack_2 rfl (by assumption) (by decide) (by assumption) (by omega) ?_
  refine Z_callE (kd := 0) (na := 2) (M' := mX6_copyFrom) gX1_takeBack_5 rfl rfl rfl rfl rfl rfl (fun _ => rfl) rfl rfl (fun _ _ => zrecv_obj (by assumption) _ _ _) (d' := 3) (by decide) (vX6_copyFrom hT hT1 hR hV (by omega)) ?_
  rintro o w2 ⟨rfl, g2, g3⟩
  refine Z_push gX1_takeBack_8 (v := (0, 0)) rfl ?_
  refine Z_sto gX1_takeBack_9 rfl (ls' := [(1, ((e : Nat) : Int)), (1, ((t : Nat) : Int)), (1, ((6 : Nat) : Int)), (0, 0), (9, 0)]) (st' := []) rfl ?_
  refine loop 5 0 rfl _ B R w2 ⟨fun j hj => (g3 7 j (by omega) (by omega)).trans (hRR.1 j hj), fun j hj => (g3 8 j (by omega) (by omega)).trans (hRR.2.1 j hj), (g3 6 2 (by omega) (by omega)).trans hRR.2.2⟩ hRV (by omega) g2 rfl (fun a k a1 a2 _ _ _ => g3 a k a1 a2)
end
