/-! the ring of deeds -/
abbrev zDs : Type := Nat × (Nat → zTx × (Nat → Int))
def sl (nw q : Nat) : Nat := (nw + 10 - q) % 10
/-- the ring holds the deeds D, the newest first; its newest place is nw -/
def DR (w : zW) (nw : Nat) (D : zDs) : Prop := nw < 10 ∧ w 9 1 = (nw : Int) ∧ w 9 2 = (D.1 : Int) ∧ D.1 ≤ 10 ∧ ∀ q, q < D.1 → TR w (11 + 7 * sl nw q + 1) (D.2 q).1 ∧ ∀ r, r < 5 → w (11 + 7 * sl nw q + 6) r = (D.2 q).2 r
def DV (D : zDs) : Prop := ∀ q, q < D.1 → TV (D.2 q).1 ∧ ∀ r, r < 5 → 0 ≤ (D.2 q).2 r ∧ (D.2 q).2 r ≤ 30
def kpD (D : zDs) (T : zTx) : zDs := (if D.1 < 10 then D.1 + 1 else 10, fun q => if q = 0 then (T, fun _ => 0) else D.2 (q - 1))
def nfD (D : zDs) (r : Nat) : zDs := (D.1, fun q => if q = 0 then ((D.2 0).1, updN (D.2 0).2 r ((D.2 0).2 r + 1)) else D.2 q)
def unD (D : zDs) : zDs := (D.1 - 1, fun q => D.2 (q + 1))
/-- nothing but deeds is touched -/
def frD9 (w w' : zW) : Prop := ∀ a k, ¬ (11 ≤ a ∧ a ≤ 80) → ¬ (a = 9 ∧ (k = 1 ∨ k = 2)) → w' a k = w a k
theorem sl_lt (nw q : Nat) : sl nw q < 10 := by unfold sl; omega
section
variable {ro : zRo} {w : zW} {T : zTx} {D : zDs}
theorem vX2_keep {nw : Nat} (hD : DR w nw D) (hR : TR w 1 T) (hV : TV T) : Ev ro 5 mX2_keep [(1, ((9 : Nat) : Int)), (1, ((1 : Nat) : Int))] w (fun o w' => o = none ∧ DR w' (if nw + 1 < 10 then nw + 1 else 0) (kpD D T) ∧ frD9 w w') := by
  obtain ⟨d1, d2, d3, d4, d5⟩ := hD
  have step : ∀ (n2 : Nat) (W : zW), n2 < 10 → n2 = (if nw + 1 < 10 then nw + 1 else 0) → W = zup (zup w 9 1 (n2 : Int)) 9 2 (if w 9 2 + 1 < 10 then w 9 2 + 1 else 10) → Z ro 5 mX2_keep 40 [(1, ((9 : Nat) : Int)), (1, ((1 : Nat) : Int)), (9, 0)] [] W (fun r w' k => k = 0 ∧ ∃ o, r = .inl o ∧ (o = none ∧ DR w' (if nw + 1 < 10 then nw + 1 else 0) (kpD D T) ∧ frD9 w w')) := by
    intro n2 W hn he hW
    have w1 : W 9 1 = (n2 : Int) := by
      rw [hW]; exact (if_neg (by omega)).trans (if_pos ⟨rfl, rfl⟩)
    have w2 : W 9 2 = (if w 9 2 + 1 < 10 then w 9 2 + 1 else 10) := by
      rw [hW]; exact if_pos ⟨rfl, rfl⟩
    have w3 : ∀ a k, ¬ (a = 9 ∧ (k = 1 ∨ k = 2)) → W a k = w a k := fun a k h => by
      rw [hW]; exact (if_neg (fun h2 => h ⟨h2.1, Or.inr h2.2⟩)).trans (if_neg (fun h2 => h ⟨h2.1, Or.inl h2.2⟩))
    have hE := DX_d n2 hn
    have hL := hE.1
    have hT := hE.2.2.2.2
    refine Z_push gX2_keep_40 (v := (1, ((9 : Nat) : Int))) rfl ?_
    refine Z_callP (kd := 0) (na := 1) (M' := mX2_newestDeed) gX2_keep_41 rfl rfl rfl rfl rfl rfl (fun _ => rfl) rfl rfl (fun _ _ => zrecv_obj rfl _ _ _) (d' := 0) (by decide) (vX2_newestDeed w1 hn) ?_
    refine Z_sto gX2_keep_44 rfl (ls' := [(1, ((9 : Nat) : Int)), (1, ((1 : Nat) : Int)), (1, ((11 + 7 * n2 : Nat) : Int))]) (st' := []) rfl ?_
    refine Z_push gX2_keep_45 (v := (1, ((11 + 7 * n2 : Nat) : Int))) rfl ?_
    refine Z_nul gX2_keep_46 (tgt := 54) (by decide) (fun h => absurd h (by omega)) (fun _ => ?_)
    refine Z_push gX2_keep_49 (v := (1, ((11 + 7 * n2 : Nat) : Int))) rfl ?_
    refine Z_push gX2_keep_50 (v := (1, ((1 : Nat) : Int))) rfl ?_
    refine Z_callE (kd := 0) (na := 2) (M' := mX1_start) gX2_keep_51 rfl rfl rfl rfl rfl rfl (fun _ => rfl) rfl rfl (fun _ _ => zrecv_obj (by assumption) _ _ _) (d' := 4) (by decide) (vX1_start hE TX_1 (TR_frame hR (fun a k ha => w3 a k (by omega))) hV (by omega)) ?_
    rintro o w4 ⟨rfl, g1, g2, g3⟩
    refine Z_end gX2_keep_54 rfl rfl rfl rfl (v := none) rfl ⟨rfl, none, rfl, ?_⟩
    have w5 : ∀ a k, ¬ (11 + 7 * n2 + 1 ≤ a ∧ a ≤ 11 + 7 * n2 + 6) → ¬ (a = 9 ∧ (k = 1 ∨ k = 2)) → w4 a k = w a k := fun a k h1 h2 => (g3 a k h1).trans (w3 a k h2)
    refine ⟨rfl, ⟨by rw [← he]; exact hn, ?_, ?_, ?_, fun q hq => ?_⟩, fun a k h1 h2 => w5 a k (by omega) h2⟩
    · rw [← he, g3 9 1 (by omega)]; exact w1
    · rw [g3 9 2 (by omega), w2, d3]
      show _ = ((if D.1 < 10 then D.1 + 1 else 10 : Nat) : Int)
      split <;> split <;> omega
    · show (if D.1 < 10 then D.1 + 1 else 10 : Nat) ≤ 10
      split <;> omega
    · rw [← he]
      have hq : q < (if D.1 < 10 then D.1 + 1 else 10 : Nat) := hq
      by_cases h0 : q = 0
      · subst h0
        have e0 : sl n2 0 = n2 := by unfold sl; omega
        rw [e0]
        exact ⟨g1, g2⟩
      · have hs : sl n2 q = sl nw (q - 1) := by unfold sl; split at hq <;> split at he <;> omega
        have hs2 : sl nw (q - 1) ≠ n2 := by rw [← hs]; unfold sl; split at hq <;> omega
        obtain ⟨a1, a2⟩ := d5 (q - 1) (by split at hq <;> omega)
        rw [hs]
        show TR w4 _ (if q = 0 then _ else D.2 (q - 1)).1 ∧ ∀ r, r < 5 → _ = (if q = 0 then _ else D.2 (q - 1)).2 r
        rw [if_neg h0]
        exact ⟨TR_frame a1 (fun a k ha => w5 a k (by omega) (by omega)), fun r hr => (w5 _ r (by omega) (by omega)).trans (a2 r hr)⟩
  show Z ro 5 mX2_keep 0 [(1, ((9 : Nat) : Int)), (1, ((1 : Nat) : Int)), (9, 0)] [] w _
  have x2 : ∀ v : Int, zup w 9 1 v 9 2 = w 9 2 := fun v => if_neg (by omega)
  refine Z_push gX2_keep_0 (v := (1, ((9 : Nat) : Int))) rfl ?_
  refine Z_push gX2_keep_1 (v := (1, ((9 : Nat) : Int))) rfl ?_
  refine Z_get gX2_keep_2 rfl rfl (by decide) ?_
  refine Z_push gX2_keep_5 (v := (0, 1)) rfl ?_
  refine Z_iadd gX2_keep_6 ⟨by omega, by omega⟩ ?_
  refine Z_push gX2_keep_7 (v := (0, 10)) rfl ?_
  refine Z_icmp_ge gX2_keep_9 (tgt := 21) (by decide) (fun h9 => ?_) (fun h9 => ?_)
  · have := x2 0
    refine Z_push gX2_keep_21 (v := (0, 0)) rfl ?_
    refine Z_put gX2_keep_22 rfl rfl (by decide) rfl (fun h => by cases h) ?_
    refine Z_push gX2_keep_25 (v := (1, ((9 : Nat) : Int))) rfl ?_
    refine Z_push gX2_keep_26 (v := (1, ((9 : Nat) : Int))) rfl ?_
    refine Z_get gX2_keep_27 rfl rfl (by decide) ?_
    refine Z_push gX2_keep_30 (v := (0, 1)) rfl ?_
    refine Z_iadd gX2_keep_31 ⟨by omega, by omega⟩ ?_
    refine Z_push gX2_keep_32 (v := (0, 10)) rfl ?_
    refine Z_arith gX2_keep_34 rfl rfl (v := [(0, (if ((zup w 9 1 0) 9 2) + 1 < 10 then ((zup w 9 1 0) 9 2) + 1 else 10)), (1, ((9 : Nat) : Int))]) rfl ?_
    refine Z_put gX2_keep_37 rfl rfl (by decide) rfl (fun h => by cases h) ?_
    rw [this]
    exact step 0 _ (by omega) (by rw [if_neg (by omega)]) rfl
  · have := x2 (w 9 1 + 1)
    refine Z_push gX2_keep_12 (v := (1, ((9 : Nat) : Int))) rfl ?_
    refine Z_get gX2_keep_13 rfl rfl (by decide) ?_
    refine Z_push gX2_keep_16 (v := (0, 1)) rfl ?_
    refine Z_iadd gX2_keep_17 ⟨by omega, by omega⟩ ?_
    refine Z_goto gX2_keep_18 (tgt := 22) (by decide) ?_
    refine Z_put gX2_keep_22 rfl rfl (by decide) rfl (fun h => by cases h) ?_
    refine Z_push gX2_keep_25 (v := (1, ((9 : Nat) : Int))) rfl ?_
    refine Z_push gX2_keep_26 (v := (1, ((9 : Nat) : Int))) rfl ?_
    refine Z_get gX2_keep_27 rfl rfl (by decide) ?_
    refine Z_push gX2_keep_30 (v := (0, 1)) rfl ?_
    refine Z_iadd gX2_keep_31 ⟨by omega, by omega⟩ ?_
    refine Z_push gX2_keep_32 (v := (0, 10)) rfl ?_
    refine Z_arith gX2_keep_34 rfl rfl (v := [(0, (if ((zup w 9 1 ((w 9 1) + 1)) 9 2) + 1 < 10 then ((zup w 9 1 ((w 9 1) + 1)) 9 2) + 1 else 10)), (1, ((9 : Nat) : Int))]) rfl ?_
    refine Z_put gX2_keep_37 rfl rfl (by decide) rfl (fun h => by cases h) ?_
    rw [this]
    exact step (nw + 1) _ (by omega) (by rw [if_pos (by omega)]) (by rw [d2]; rfl)
end
