/-! what the claim's words say of the tables -/
theorem zwm {w : Cond} (i : Nat) (h : (match lw_tbl[i]? with | some w' => decide (w' = w) && goodWord w' | none => false) = true) : w ∈ zWS := by
  split at h
  · rename_i w' hw
    simp only [Bool.and_eq_true, decide_eq_true_eq] at h
    rw [← h.1]
    exact List.mem_filter.mpr ⟨List.mem_of_getElem? hw, h.2⟩
  · cases h
theorem zlook_mem {α : Type} : ∀ {r : List (Nat × α)} {k : Nat} {v : α}, zlook r k = some v → (k, v) ∈ r
  | [], _, _, h => by simp [zlook] at h
  | x :: r, k, v, h => by
    unfold zlook at h
    cases hb : Nat.beq x.1 k with
    | true =>
      rw [hb, cond_true] at h
      have e1 := Nat.eq_of_beq_eq_true hb
      cases h
      rw [← e1]
      exact List.mem_cons_self
    | false => rw [hb, cond_false] at h; exact List.mem_cons_of_mem _ (zlook_mem h)
theorem ztab_all {α : Type} {l : List (List (Nat × α))} {P : Nat → Nat → α → Prop} (h : ∀ c r, l[c]? = some r → ∀ q ∈ r, P c q.1 q.2) {c k : Nat} {v : α} (hv : ztab l c k = some v) : P c k v := by
  unfold ztab at hv
  split at hv
  · rename_i r hr
    exact h c r hr (k, v) (zlook_mem hv)
  · cases hv
theorem zu_0 : ∀ w ∈ u_ws RX0 TX0 2, w ∈ zWS := by
  intro w hw
  obtain ⟨k, hk, rfl⟩ := List.mem_map.mp hw
  have hk := List.mem_range.mp hk
  match k, hk with
  | 0, _ => exact zwm 157 (by decide +kernel)
  | 1, _ => exact zwm 159 (by decide +kernel)
  | k + 2, hk => exact absurd hk (by omega)
theorem zfi_0 : ∀ k, k < 2 → (TX0 k).1 = RX0 ∧ ∃ b, zfit (zfty 0 k) b (tyX0 k) := by
  intro k hk
  match k, hk with
  | 0, _ => exact ⟨rfl, false, Or.inr (Or.inr (Or.inr ⟨rfl, rfl, Or.inr ⟨_, rfl⟩⟩))⟩
  | 1, _ => exact ⟨rfl, false, Or.inr (Or.inr (Or.inr ⟨rfl, rfl, Or.inr ⟨_, rfl⟩⟩))⟩
  | k + 2, hk => exact absurd hk (by omega)
theorem zfo_0 : ∀ k, 2 ≤ k → zfty 0 k = 0 := by
  intro k hk
  show (match ([1, 1] : List Nat)[k]? with | some t => t | none => 0) = 0
  rw [List.getElem?_eq_none hk]
theorem zcp_0 : zclP 0 RX0 TX0 2 tyX0 := ⟨rfl, zu_0, tyX0_ok, nmX0, zfi_0, zfo_0⟩
theorem zu_1 : ∀ w ∈ u_ws RX1 TX1 2, w ∈ zWS := by
  intro w hw
  obtain ⟨k, hk, rfl⟩ := List.mem_map.mp hw
  have hk := List.mem_range.mp hk
  match k, hk with
  | 0, _ => exact zwm 112 (by decide +kernel)
  | 1, _ => exact zwm 114 (by decide +kernel)
  | k + 2, hk => exact absurd hk (by omega)
theorem zfi_1 : ∀ k, k < 2 → (TX1 k).1 = RX1 ∧ ∃ b, zfit (zfty 1 k) b (tyX1 k) := by
  intro k hk
  match k, hk with
  | 0, _ => exact ⟨rfl, false, Or.inr (Or.inr (Or.inr ⟨rfl, rfl, Or.inl ⟨_, rfl⟩⟩))⟩
  | 1, _ => exact ⟨rfl, false, Or.inr (Or.inr (Or.inr ⟨rfl, rfl, Or.inr ⟨_, rfl⟩⟩))⟩
  | k + 2, hk => exact absurd hk (by omega)
theorem zfo_1 : ∀ k, 2 ≤ k → zfty 1 k = 0 := by
  intro k hk
  show (match ([1, 1] : List Nat)[k]? with | some t => t | none => 0) = 0
  rw [List.getElem?_eq_none hk]
theorem zcp_1 : zclP 1 RX1 TX1 2 tyX1 := ⟨rfl, zu_1, tyX1_ok, nmX1, zfi_1, zfo_1⟩
theorem zu_2 : ∀ w ∈ u_ws RX2 TX2 3, w ∈ zWS := by
  intro w hw
  obtain ⟨k, hk, rfl⟩ := List.mem_map.mp hw
  have hk := List.mem_range.mp hk
  match k, hk with
  | 0, _ => exact zwm 120 (by decide +kernel)
  | 1, _ => exact zwm 122 (by decide +kernel)
  | 2, _ => exact zwm 124 (by decide +kernel)
  | k + 3, hk => exact absurd hk (by omega)
theorem zfi_2 : ∀ k, k < 3 → (TX2 k).1 = RX2 ∧ ∃ b, zfit (zfty 2 k) b (tyX2 k) := by
  intro k hk
  match k, hk with
  | 0, _ => exact ⟨rfl, false, Or.inr (Or.inr (Or.inr ⟨rfl, rfl, Or.inr ⟨_, rfl⟩⟩))⟩
  | 1, _ => exact ⟨rfl, false, Or.inl ⟨rfl, rfl, rfl⟩⟩
  | 2, _ => exact ⟨rfl, false, Or.inl ⟨rfl, rfl, rfl⟩⟩
  | k + 3, hk => exact absurd hk (by omega)
theorem zfo_2 : ∀ k, 3 ≤ k → zfty 2 k = 0 := by
  intro k hk
  show (match ([1, 0, 0] : List Nat)[k]? with | some t => t | none => 0) = 0
  rw [List.getElem?_eq_none hk]
theorem zcp_2 : zclP 2 RX2 TX2 3 tyX2 := ⟨rfl, zu_2, tyX2_ok, nmX2, zfi_2, zfo_2⟩
theorem zu_3 : ∀ w ∈ u_ws RX3 TX3 5, w ∈ zWS := by
  intro w hw
  obtain ⟨k, hk, rfl⟩ := List.mem_map.mp hw
  have hk := List.mem_range.mp hk
  match k, hk with
  | 0, _ => exact zwm 138 (by decide +kernel)
  | 1, _ => exact zwm 140 (by decide +kernel)
  | 2, _ => exact zwm 142 (by decide +kernel)
  | 3, _ => exact zwm 144 (by decide +kernel)
  | 4, _ => exact zwm 146 (by decide +kernel)
  | k + 5, hk => exact absurd hk (by omega)
theorem zfi_3 : ∀ k, k < 5 → (TX3 k).1 = RX3 ∧ ∃ b, zfit (zfty 3 k) b (tyX3 k) := by
  intro k hk
  match k, hk with
  | 0, _ => exact ⟨rfl, false, Or.inr (Or.inr (Or.inr ⟨rfl, rfl, Or.inr ⟨_, rfl⟩⟩))⟩
  | 1, _ => exact ⟨rfl, false, Or.inr (Or.inr (Or.inr ⟨rfl, rfl, Or.inr ⟨_, rfl⟩⟩))⟩
  | 2, _ => exact ⟨rfl, false, Or.inr (Or.inr (Or.inr ⟨rfl, rfl, Or.inr ⟨_, rfl⟩⟩))⟩
  | 3, _ => exact ⟨rfl, false, Or.inr (Or.inr (Or.inr ⟨rfl, rfl, Or.inr ⟨_, rfl⟩⟩))⟩
  | 4, _ => exact ⟨rfl, false, Or.inl ⟨rfl, rfl, rfl⟩⟩
  | k + 5, hk => exact absurd hk (by omega)
theorem zfo_3 : ∀ k, 5 ≤ k → zfty 3 k = 0 := by
  intro k hk
  show (match ([1, 1, 1, 1, 0] : List Nat)[k]? with | some t => t | none => 0) = 0
  rw [List.getElem?_eq_none hk]
theorem zcp_3 : zclP 3 RX3 TX3 5 tyX3 := ⟨rfl, zu_3, tyX3_ok, nmX3, zfi_3, zfo_3⟩
theorem zu_4 : ∀ w ∈ u_ws RX4 TX4 4, w ∈ zWS := by
  intro w hw
  obtain ⟨k, hk, rfl⟩ := List.mem_map.mp hw
  have hk := List.mem_range.mp hk
  match k, hk with
  | 0, _ => exact zwm 172 (by decide +kernel)
  | 1, _ => exact zwm 174 (by decide +kernel)
  | 2, _ => exact zwm 176 (by decide +kernel)
  | 3, _ => exact zwm 178 (by decide +kernel)
  | k + 4, hk => exact absurd hk (by omega)
theorem zfi_4 : ∀ k, k < 4 → (TX4 k).1 = RX4 ∧ ∃ b, zfit (zfty 4 k) b (tyX4 k) := by
  intro k hk
  match k, hk with
  | 0, _ => exact ⟨rfl, false, Or.inr (Or.inr (Or.inr ⟨rfl, rfl, Or.inr ⟨_, rfl⟩⟩))⟩
  | 1, _ => exact ⟨rfl, false, Or.inr (Or.inr (Or.inr ⟨rfl, rfl, Or.inr ⟨_, rfl⟩⟩))⟩
  | 2, _ => exact ⟨rfl, false, Or.inr (Or.inr (Or.inr ⟨rfl, rfl, Or.inr ⟨_, rfl⟩⟩))⟩
  | 3, _ => exact ⟨rfl, false, Or.inl ⟨rfl, rfl, rfl⟩⟩
  | k + 4, hk => exact absurd hk (by omega)
theorem zfo_4 : ∀ k, 4 ≤ k → zfty 4 k = 0 := by
  intro k hk
  show (match ([1, 1, 1, 0] : List Nat)[k]? with | some t => t | none => 0) = 0
  rw [List.getElem?_eq_none hk]
theorem zcp_4 : zclP 4 RX4 TX4 4 tyX4 := ⟨rfl, zu_4, tyX4_ok, nmX4, zfi_4, zfo_4⟩
theorem zu_5 : ∀ w ∈ u_ws RX5 TX5 3, w ∈ zWS := by
  intro w hw
  obtain ⟨k, hk, rfl⟩ := List.mem_map.mp hw
  have hk := List.mem_range.mp hk
  match k, hk with
  | 0, _ => exact zwm 88 (by decide +kernel)
  | 1, _ => exact zwm 90 (by decide +kernel)
  | 2, _ => exact zwm 92 (by decide +kernel)
  | k + 3, hk => exact absurd hk (by omega)
theorem zfi_5 : ∀ k, k < 3 → (TX5 k).1 = RX5 ∧ ∃ b, zfit (zfty 5 k) b (tyX5 k) := by
  intro k hk
  match k, hk with
  | 0, _ => exact ⟨rfl, false, Or.inr (Or.inr (Or.inr ⟨rfl, rfl, Or.inr ⟨_, rfl⟩⟩))⟩
  | 1, _ => exact ⟨rfl, false, Or.inr (Or.inr (Or.inr ⟨rfl, rfl, Or.inr ⟨_, rfl⟩⟩))⟩
  | 2, _ => exact ⟨rfl, false, Or.inl ⟨rfl, rfl, rfl⟩⟩
  | k + 3, hk => exact absurd hk (by omega)
theorem zfo_5 : ∀ k, 3 ≤ k → zfty 5 k = 0 := by
  intro k hk
  show (match ([1, 1, 0] : List Nat)[k]? with | some t => t | none => 0) = 0
  rw [List.getElem?_eq_none hk]
theorem zcp_5 : zclP 5 RX5 TX5 3 tyX5 := ⟨rfl, zu_5, tyX5_ok, nmX5, zfi_5, zfo_5⟩
theorem zu_6 : ∀ w ∈ u_ws RX6 TX6 5, w ∈ zWS := by
  intro w hw
  obtain ⟨k, hk, rfl⟩ := List.mem_map.mp hw
  have hk := List.mem_range.mp hk
  match k, hk with
  | 0, _ => exact zwm 57 (by decide +kernel)
  | 1, _ => exact zwm 59 (by decide +kernel)
  | 2, _ => exact zwm 61 (by decide +kernel)
  | 3, _ => exact zwm 63 (by decide +kernel)
  | 4, _ => exact zwm 65 (by decide +kernel)
  | k + 5, hk => exact absurd hk (by omega)
theorem zfi_6 : ∀ k, k < 5 → (TX6 k).1 = RX6 ∧ ∃ b, zfit (zfty 6 k) b (tyX6 k) := by
  intro k hk
  match k, hk with
  | 0, _ => exact ⟨rfl, false, Or.inr (Or.inr (Or.inr ⟨rfl, rfl, Or.inr ⟨_, rfl⟩⟩))⟩
  | 1, _ => exact ⟨rfl, false, Or.inr (Or.inr (Or.inr ⟨rfl, rfl, Or.inr ⟨_, rfl⟩⟩))⟩
  | 2, _ => exact ⟨rfl, false, Or.inr (Or.inr (Or.inr ⟨rfl, rfl, Or.inr ⟨_, rfl⟩⟩))⟩
  | 3, _ => exact ⟨rfl, false, Or.inr (Or.inr (Or.inr ⟨rfl, rfl, Or.inr ⟨_, rfl⟩⟩))⟩
  | 4, _ => exact ⟨rfl, false, Or.inl ⟨rfl, rfl, rfl⟩⟩
  | k + 5, hk => exact absurd hk (by omega)
theorem zfo_6 : ∀ k, 5 ≤ k → zfty 6 k = 0 := by
  intro k hk
  show (match ([1, 1, 1, 1, 0] : List Nat)[k]? with | some t => t | none => 0) = 0
  rw [List.getElem?_eq_none hk]
theorem zcp_6 : zclP 6 RX6 TX6 5 tyX6 := ⟨rfl, zu_6, tyX6_ok, nmX6, zfi_6, zfo_6⟩
theorem zu_7 : ∀ w ∈ u_ws RX7 TX7 9, w ∈ zWS := by
  intro w hw
  obtain ⟨k, hk, rfl⟩ := List.mem_map.mp hw
  have hk := List.mem_range.mp hk
  match k, hk with
  | 0, _ => exact zwm 190 (by decide +kernel)
  | 1, _ => exact zwm 192 (by decide +kernel)
  | 2, _ => exact zwm 194 (by decide +kernel)
  | 3, _ => exact zwm 196 (by decide +kernel)
  | 4, _ => exact zwm 198 (by decide +kernel)
  | 5, _ => exact zwm 200 (by decide +kernel)
  | 6, _ => exact zwm 202 (by decide +kernel)
  | 7, _ => exact zwm 204 (by decide +kernel)
  | 8, _ => exact zwm 206 (by decide +kernel)
  | k + 9, hk => exact absurd hk (by omega)
theorem zfi_7 : ∀ k, k < 9 → (TX7 k).1 = RX7 ∧ ∃ b, zfit (zfty 7 k) b (tyX7 k) := by
  intro k hk
  match k, hk with
  | 0, _ => exact ⟨rfl, false, Or.inr (Or.inr (Or.inr ⟨rfl, rfl, Or.inl ⟨_, rfl⟩⟩))⟩
  | 1, _ => exact ⟨rfl, false, Or.inr (Or.inr (Or.inr ⟨rfl, rfl, Or.inl ⟨_, rfl⟩⟩))⟩
  | 2, _ => exact ⟨rfl, false, Or.inr (Or.inr (Or.inr ⟨rfl, rfl, Or.inl ⟨_, rfl⟩⟩))⟩
  | 3, _ => exact ⟨rfl, false, Or.inr (Or.inr (Or.inr ⟨rfl, rfl, Or.inl ⟨_, rfl⟩⟩))⟩
  | 4, _ => exact ⟨rfl, false, Or.inr (Or.inr (Or.inr ⟨rfl, rfl, Or.inl ⟨_, rfl⟩⟩))⟩
  | 5, _ => exact ⟨rfl, false, Or.inr (Or.inr (Or.inr ⟨rfl, rfl, Or.inl ⟨_, rfl⟩⟩))⟩
  | 6, _ => exact ⟨rfl, false, Or.inr (Or.inr (Or.inr ⟨rfl, rfl, Or.inl ⟨_, rfl⟩⟩))⟩
  | 7, _ => exact ⟨rfl, false, Or.inl ⟨rfl, rfl, rfl⟩⟩
  | 8, _ => exact ⟨rfl, true, Or.inr (Or.inl ⟨rfl, rfl, rfl⟩)⟩
  | k + 9, hk => exact absurd hk (by omega)
theorem zfo_7 : ∀ k, 9 ≤ k → zfty 7 k = 0 := by
  intro k hk
  show (match ([1, 1, 1, 1, 1, 1, 1, 0, 0] : List Nat)[k]? with | some t => t | none => 0) = 0
  rw [List.getElem?_eq_none hk]
theorem zcp_7 : zclP 7 RX7 TX7 9 tyX7 := ⟨rfl, zu_7, tyX7_ok, nmX7, zfi_7, zfo_7⟩
theorem zmp_X0_init : zMP mX0_init := ⟨rfl, by decide, by decide +kernel, kX0_init, zwm 153 (by decide +kernel), (zwm 24 (by decide +kernel)), ⟨by decide +kernel, by decide +kernel⟩, by decide⟩
theorem zmp_X0_sum : zMP mX0_sum := ⟨rfl, by decide, by decide +kernel, kX0_sum, zwm 905 (by decide +kernel), (zwm 24 (by decide +kernel)), ⟨by decide +kernel, by decide +kernel⟩, by decide⟩
theorem zmp_X0_holds : zMP mX0_holds := ⟨rfl, by decide, by decide +kernel, kX0_holds, zwm 674 (by decide +kernel), (zwm 24 (by decide +kernel)), ⟨by decide +kernel, by decide +kernel⟩, by decide⟩
theorem zmp_X0_choose : zMP mX0_choose := ⟨rfl, by decide, by decide +kernel, kX0_choose, zwm 639 (by decide +kernel), (zwm 24 (by decide +kernel)), ⟨by decide +kernel, by decide +kernel⟩, by decide⟩
theorem zmp_X0_hasClash : zMP mX0_hasClash := ⟨rfl, by decide, by decide +kernel, kX0_hasClash, zwm 930 (by decide +kernel), (zwm 24 (by decide +kernel)), ⟨by decide +kernel, by decide +kernel⟩, by decide⟩
theorem zmp_X0_sumUp : zMP mX0_sumUp := ⟨rfl, by decide, by decide +kernel, kX0_sumUp, zwm 643 (by decide +kernel), (zwm 24 (by decide +kernel)), ⟨by decide +kernel, by decide +kernel⟩, by decide⟩
theorem zmp_X0_sumWith : zMP mX0_sumWith := ⟨rfl, by decide, by decide +kernel, kX0_sumWith, zwm 650 (by decide +kernel), (zwm 24 (by decide +kernel)), ⟨by decide +kernel, by decide +kernel⟩, by decide⟩
theorem zmp_X0_isWorthTaking : zMP mX0_isWorthTaking := ⟨rfl, by decide, by decide +kernel, kX0_isWorthTaking, zwm 663 (by decide +kernel), (zwm 24 (by decide +kernel)), ⟨by decide +kernel, by decide +kernel⟩, by decide⟩
theorem zmp_X1_init : zMP mX1_init := ⟨rfl, by decide, by decide +kernel, kX1_init, zwm 106 (by decide +kernel), (zwm 22 (by decide +kernel)), ⟨by decide +kernel, by decide +kernel⟩, by decide⟩
theorem zmp_X1_start : zMP mX1_start := ⟨rfl, by decide, by decide +kernel, kX1_start, zwm 577 (by decide +kernel), (zwm 22 (by decide +kernel)), ⟨by decide +kernel, by decide +kernel⟩, by decide⟩
theorem zmp_X1_noteFix : zMP mX1_noteFix := ⟨rfl, by decide, by decide +kernel, kX1_noteFix, zwm 626 (by decide +kernel), (zwm 22 (by decide +kernel)), ⟨by decide +kernel, by decide +kernel⟩, by decide⟩
theorem zmp_X1_takeBack : zMP mX1_takeBack := ⟨rfl, by decide, by decide +kernel, kX1_takeBack, zwm 724 (by decide +kernel), (zwm 22 (by decide +kernel)), ⟨by decide +kernel, by decide +kernel⟩, by decide⟩
theorem zmp_X2_init : zMP mX2_init := ⟨rfl, by decide, by decide +kernel, kX2_init, zwm 99 (by decide +kernel), (zwm 21 (by decide +kernel)), ⟨by decide +kernel, by decide +kernel⟩, by decide⟩
theorem zmp_X2_count : zMP mX2_count := ⟨rfl, by decide, by decide +kernel, kX2_count, zwm 715 (by decide +kernel), (zwm 21 (by decide +kernel)), ⟨by decide +kernel, by decide +kernel⟩, by decide⟩
theorem zmp_X2_forget : zMP mX2_forget := ⟨rfl, by decide, by decide +kernel, kX2_forget, zwm 428 (by decide +kernel), (zwm 21 (by decide +kernel)), ⟨by decide +kernel, by decide +kernel⟩, by decide⟩
theorem zmp_X2_keep : zMP mX2_keep := ⟨rfl, by decide, by decide +kernel, kX2_keep, zwm 568 (by decide +kernel), (zwm 21 (by decide +kernel)), ⟨by decide +kernel, by decide +kernel⟩, by decide⟩
theorem zmp_X2_noteFix : zMP mX2_noteFix := ⟨rfl, by decide, by decide +kernel, kX2_noteFix, zwm 622 (by decide +kernel), (zwm 21 (by decide +kernel)), ⟨by decide +kernel, by decide +kernel⟩, by decide⟩
theorem zmp_X2_takeBack : zMP mX2_takeBack := ⟨rfl, by decide, by decide +kernel, kX2_takeBack, zwm 720 (by decide +kernel), (zwm 21 (by decide +kernel)), ⟨by decide +kernel, by decide +kernel⟩, by decide⟩
theorem zmp_X2_newestDeed : zMP mX2_newestDeed := ⟨rfl, by decide, by decide +kernel, kX2_newestDeed, zwm 573 (by decide +kernel), (zwm 21 (by decide +kernel)), ⟨by decide +kernel, by decide +kernel⟩, by decide⟩
theorem zmp_X3_init : zMP mX3_init := ⟨rfl, by decide, by decide +kernel, kX3_init, zwm 131 (by decide +kernel), (zwm 23 (by decide +kernel)), ⟨by decide +kernel, by decide +kernel⟩, by decide⟩
theorem zmp_X3_count : zMP mX3_count := ⟨rfl, by decide, by decide +kernel, kX3_count, zwm 523 (by decide +kernel), (zwm 23 (by decide +kernel)), ⟨by decide +kernel, by decide +kernel⟩, by decide⟩
theorem zmp_X3_rule : zMP mX3_rule := ⟨rfl, by decide, by decide +kernel, kX3_rule, zwm 594 (by decide +kernel), (zwm 23 (by decide +kernel)), ⟨by decide +kernel, by decide +kernel⟩, by decide⟩
theorem zmp_X3_first : zMP mX3_first := ⟨rfl, by decide, by decide +kernel, kX3_first, zwm 598 (by decide +kernel), (zwm 23 (by decide +kernel)), ⟨by decide +kernel, by decide +kernel⟩, by decide⟩
theorem zmp_X3_last : zMP mX3_last := ⟨rfl, by decide, by decide +kernel, kX3_last, zwm 655 (by decide +kernel), (zwm 23 (by decide +kernel)), ⟨by decide +kernel, by decide +kernel⟩, by decide⟩
theorem zmp_X3_gain : zMP mX3_gain := ⟨rfl, by decide, by decide +kernel, kX3_gain, zwm 543 (by decide +kernel), (zwm 23 (by decide +kernel)), ⟨by decide +kernel, by decide +kernel⟩, by decide⟩
theorem zmp_X3_fixable : zMP mX3_fixable := ⟨rfl, by decide, by decide +kernel, kX3_fixable, zwm 668 (by decide +kernel), (zwm 23 (by decide +kernel)), ⟨by decide +kernel, by decide +kernel⟩, by decide⟩
theorem zmp_X3_search : zMP mX3_search := ⟨rfl, by decide, by decide +kernel, kX3_search, zwm 489 (by decide +kernel), (zwm 23 (by decide +kernel)), ⟨by decide +kernel, by decide +kernel⟩, by decide⟩
theorem zmp_X3_ruleOfPair : zMP mX3_ruleOfPair := ⟨rfl, by decide, by decide +kernel, kX3_ruleOfPair, zwm 493 (by decide +kernel), (zwm 23 (by decide +kernel)), ⟨by decide +kernel, by decide +kernel⟩, by decide⟩
theorem zmp_X3_isNameInBlock : zMP mX3_isNameInBlock := ⟨rfl, by decide, by decide +kernel, kX3_isNameInBlock, zwm 519 (by decide +kernel), (zwm 23 (by decide +kernel)), ⟨by decide +kernel, by decide +kernel⟩, by decide⟩
theorem zmp_X3_note : zMP mX3_note := ⟨rfl, by decide, by decide +kernel, kX3_note, zwm 507 (by decide +kernel), (zwm 23 (by decide +kernel)), ⟨by decide +kernel, by decide +kernel⟩, by decide⟩
theorem zmp_X4_init : zMP mX4_init := ⟨rfl, by decide, by decide +kernel, kX4_init, zwm 166 (by decide +kernel), (zwm 25 (by decide +kernel)), ⟨by decide +kernel, by decide +kernel⟩, by decide⟩
theorem zmp_X4_lines : zMP mX4_lines := ⟨rfl, by decide, by decide +kernel, kX4_lines, zwm 745 (by decide +kernel), (zwm 25 (by decide +kernel)), ⟨by decide +kernel, by decide +kernel⟩, by decide⟩
theorem zmp_X4_least : zMP mX4_least := ⟨rfl, by decide, by decide +kernel, kX4_least, zwm 267 (by decide +kernel), (zwm 25 (by decide +kernel)), ⟨by decide +kernel, by decide +kernel⟩, by decide⟩
theorem zmp_X4_divide : zMP mX4_divide := ⟨rfl, by decide, by decide +kernel, kX4_divide, zwm 228 (by decide +kernel), (zwm 25 (by decide +kernel)), ⟨by decide +kernel, by decide +kernel⟩, by decide⟩
theorem zmp_X4_lineHolding : zMP mX4_lineHolding := ⟨rfl, by decide, by decide +kernel, kX4_lineHolding, zwm 858 (by decide +kernel), (zwm 25 (by decide +kernel)), ⟨by decide +kernel, by decide +kernel⟩, by decide⟩
theorem zmp_X4_widthOfLine : zMP mX4_widthOfLine := ⟨rfl, by decide, by decide +kernel, kX4_widthOfLine, zwm 867 (by decide +kernel), (zwm 25 (by decide +kernel)), ⟨by decide +kernel, by decide +kernel⟩, by decide⟩
theorem zmp_X4_sumOfCosts : zMP mX4_sumOfCosts := ⟨rfl, by decide, by decide +kernel, kX4_sumOfCosts, zwm 920 (by decide +kernel), (zwm 25 (by decide +kernel)), ⟨by decide +kernel, by decide +kernel⟩, by decide⟩
theorem zmp_X4_isSameAs : zMP mX4_isSameAs := ⟨rfl, by decide, by decide +kernel, kX4_isSameAs, zwm 925 (by decide +kernel), (zwm 25 (by decide +kernel)), ⟨by decide +kernel, by decide +kernel⟩, by decide⟩
theorem zmp_X4_chooseLineFrom : zMP mX4_chooseLineFrom := ⟨rfl, by decide, by decide +kernel, kX4_chooseLineFrom, zwm 234 (by decide +kernel), (zwm 25 (by decide +kernel)), ⟨by decide +kernel, by decide +kernel⟩, by decide⟩
theorem zmp_X5_init : zMP mX5_init := ⟨rfl, by decide, by decide +kernel, kX5_init, zwm 75 (by decide +kernel), (zwm 20 (by decide +kernel)), ⟨by decide +kernel, by decide +kernel⟩, by decide⟩
theorem zmp_X5_weightFor : zMP mX5_weightFor := ⟨rfl, by decide, by decide +kernel, kX5_weightFor, zwm 513 (by decide +kernel), (zwm 20 (by decide +kernel)), ⟨by decide +kernel, by decide +kernel⟩, by decide⟩
theorem zmp_X5_undoneFor : zMP mX5_undoneFor := ⟨rfl, by decide, by decide +kernel, kX5_undoneFor, zwm 732 (by decide +kernel), (zwm 20 (by decide +kernel)), ⟨by decide +kernel, by decide +kernel⟩, by decide⟩
theorem zmp_X5_rankFor : zMP mX5_rankFor := ⟨rfl, by decide, by decide +kernel, kX5_rankFor, zwm 833 (by decide +kernel), (zwm 20 (by decide +kernel)), ⟨by decide +kernel, by decide +kernel⟩, by decide⟩
theorem zmp_X5_reward : zMP mX5_reward := ⟨rfl, by decide, by decide +kernel, kX5_reward, zwm 616 (by decide +kernel), (zwm 20 (by decide +kernel)), ⟨by decide +kernel, by decide +kernel⟩, by decide⟩
theorem zmp_X5_punish : zMP mX5_punish := ⟨rfl, by decide, by decide +kernel, kX5_punish, zwm 728 (by decide +kernel), (zwm 20 (by decide +kernel)), ⟨by decide +kernel, by decide +kernel⟩, by decide⟩
theorem zmp_X6_init : zMP mX6_init := ⟨rfl, by decide, by decide +kernel, kX6_init, zwm 50 (by decide +kernel), (zwm 19 (by decide +kernel)), ⟨by decide +kernel, by decide +kernel⟩, by decide⟩
theorem zmp_X6_size : zMP mX6_size := ⟨rfl, by decide, by decide +kernel, kX6_size, zwm 216 (by decide +kernel), (zwm 19 (by decide +kernel)), ⟨by decide +kernel, by decide +kernel⟩, by decide⟩
theorem zmp_X6_kindAt : zMP mX6_kindAt := ⟨rfl, by decide, by decide +kernel, kX6_kindAt, zwm 243 (by decide +kernel), (zwm 19 (by decide +kernel)), ⟨by decide +kernel, by decide +kernel⟩, by decide⟩
theorem zmp_X6_nameAt : zMP mX6_nameAt := ⟨rfl, by decide, by decide +kernel, kX6_nameAt, zwm 498 (by decide +kernel), (zwm 19 (by decide +kernel)), ⟨by decide +kernel, by decide +kernel⟩, by decide⟩
theorem zmp_X6_lengthAt : zMP mX6_lengthAt := ⟨rfl, by decide, by decide +kernel, kX6_lengthAt, zwm 247 (by decide +kernel), (zwm 19 (by decide +kernel)), ⟨by decide +kernel, by decide +kernel⟩, by decide⟩
theorem zmp_X6_pinnedAt : zMP mX6_pinnedAt := ⟨rfl, by decide, by decide +kernel, kX6_pinnedAt, zwm 260 (by decide +kernel), (zwm 19 (by decide +kernel)), ⟨by decide +kernel, by decide +kernel⟩, by decide⟩
theorem zmp_X6_setPinned : zMP mX6_setPinned := ⟨rfl, by decide, by decide +kernel, kX6_setPinned, zwm 477 (by decide +kernel), (zwm 19 (by decide +kernel)), ⟨by decide +kernel, by decide +kernel⟩, by decide⟩
theorem zmp_X6_widthAt : zMP mX6_widthAt := ⟨rfl, by decide, by decide +kernel, kX6_widthAt, zwm 239 (by decide +kernel), (zwm 19 (by decide +kernel)), ⟨by decide +kernel, by decide +kernel⟩, by decide⟩
theorem zmp_X6_openAhead : zMP mX6_openAhead := ⟨rfl, by decide, by decide +kernel, kX6_openAhead, zwm 444 (by decide +kernel), (zwm 19 (by decide +kernel)), ⟨by decide +kernel, by decide +kernel⟩, by decide⟩
theorem zmp_X6_depthAt : zMP mX6_depthAt := ⟨rfl, by decide, by decide +kernel, kX6_depthAt, zwm 440 (by decide +kernel), (zwm 19 (by decide +kernel)), ⟨by decide +kernel, by decide +kernel⟩, by decide⟩
theorem zmp_X6_isNamed : zMP mX6_isNamed := ⟨rfl, by decide, by decide +kernel, kX6_isNamed, zwm 502 (by decide +kernel), (zwm 19 (by decide +kernel)), ⟨by decide +kernel, by decide +kernel⟩, by decide⟩
theorem zmp_X6_timesOf : zMP mX6_timesOf := ⟨rfl, by decide, by decide +kernel, kX6_timesOf, zwm 684 (by decide +kernel), (zwm 19 (by decide +kernel)), ⟨by decide +kernel, by decide +kernel⟩, by decide⟩
theorem zmp_X6_hasPinned : zMP mX6_hasPinned := ⟨rfl, by decide, by decide +kernel, kX6_hasPinned, zwm 690 (by decide +kernel), (zwm 19 (by decide +kernel)), ⟨by decide +kernel, by decide +kernel⟩, by decide⟩
theorem zmp_X6_allMovable : zMP mX6_allMovable := ⟨rfl, by decide, by decide +kernel, kX6_allMovable, zwm 706 (by decide +kernel), (zwm 19 (by decide +kernel)), ⟨by decide +kernel, by decide +kernel⟩, by decide⟩
theorem zmp_X6_canBreakBehind : zMP mX6_canBreakBehind := ⟨rfl, by decide, by decide +kernel, kX6_canBreakBehind, zwm 256 (by decide +kernel), (zwm 19 (by decide +kernel)), ⟨by decide +kernel, by decide +kernel⟩, by decide⟩
theorem zmp_X6_add : zMP mX6_add := ⟨rfl, by decide, by decide +kernel, kX6_add, zwm 416 (by decide +kernel), (zwm 19 (by decide +kernel)), ⟨by decide +kernel, by decide +kernel⟩, by decide⟩
theorem zmp_X6_replaceName : zMP mX6_replaceName := ⟨rfl, by decide, by decide +kernel, kX6_replaceName, zwm 695 (by decide +kernel), (zwm 19 (by decide +kernel)), ⟨by decide +kernel, by decide +kernel⟩, by decide⟩
theorem zmp_X6_takeAway : zMP mX6_takeAway := ⟨rfl, by decide, by decide +kernel, kX6_takeAway, zwm 602 (by decide +kernel), (zwm 19 (by decide +kernel)), ⟨by decide +kernel, by decide +kernel⟩, by decide⟩
theorem zmp_X6_carry : zMP mX6_carry := ⟨rfl, by decide, by decide +kernel, kX6_carry, zwm 606 (by decide +kernel), (zwm 19 (by decide +kernel)), ⟨by decide +kernel, by decide +kernel⟩, by decide⟩
theorem zmp_X6_joinWithNext : zMP mX6_joinWithNext := ⟨rfl, by decide, by decide +kernel, kX6_joinWithNext, zwm 610 (by decide +kernel), (zwm 19 (by decide +kernel)), ⟨by decide +kernel, by decide +kernel⟩, by decide⟩
theorem zmp_X6_copyFrom : zMP mX6_copyFrom := ⟨rfl, by decide, by decide +kernel, kX6_copyFrom, zwm 581 (by decide +kernel), (zwm 19 (by decide +kernel)), ⟨by decide +kernel, by decide +kernel⟩, by decide⟩
theorem zmp_X6_copyEntry : zMP mX6_copyEntry := ⟨rfl, by decide, by decide +kernel, kX6_copyEntry, zwm 585 (by decide +kernel), (zwm 19 (by decide +kernel)), ⟨by decide +kernel, by decide +kernel⟩, by decide⟩
theorem zmp_X6_put : zMP mX6_put := ⟨rfl, by decide, by decide +kernel, kX6_put, zwm 420 (by decide +kernel), (zwm 19 (by decide +kernel)), ⟨by decide +kernel, by decide +kernel⟩, by decide⟩
theorem zmp_X7_init : zMP mX7_init := ⟨rfl, by decide, by decide +kernel, kX7_init, zwm 42 (by decide +kernel), (zwm 18 (by decide +kernel)), ⟨by decide +kernel, by decide +kernel⟩, by decide⟩
theorem zmp_X7_addName : zMP mX7_addName := ⟨rfl, by decide, by decide +kernel, kX7_addName, zwm 369 (by decide +kernel), (zwm 18 (by decide +kernel)), ⟨by decide +kernel, by decide +kernel⟩, by decide⟩
theorem zmp_X7_addComment : zMP mX7_addComment := ⟨rfl, by decide, by decide +kernel, kX7_addComment, zwm 432 (by decide +kernel), (zwm 18 (by decide +kernel)), ⟨by decide +kernel, by decide +kernel⟩, by decide⟩
theorem zmp_X7_begin : zMP mX7_begin := ⟨rfl, by decide, by decide +kernel, kX7_begin, zwm 436 (by decide +kernel), (zwm 18 (by decide +kernel)), ⟨by decide +kernel, by decide +kernel⟩, by decide⟩
theorem zmp_X7_end : zMP mX7_end := ⟨rfl, by decide, by decide +kernel, kX7_end, zwm 448 (by decide +kernel), (zwm 18 (by decide +kernel)), ⟨by decide +kernel, by decide +kernel⟩, by decide⟩
theorem zmp_X7_entries : zMP mX7_entries := ⟨rfl, by decide, by decide +kernel, kX7_entries, zwm 212 (by decide +kernel), (zwm 18 (by decide +kernel)), ⟨by decide +kernel, by decide +kernel⟩, by decide⟩
theorem zmp_X7_kindOf : zMP mX7_kindOf := ⟨rfl, by decide, by decide +kernel, kX7_kindOf, zwm 755 (by decide +kernel), (zwm 18 (by decide +kernel)), ⟨by decide +kernel, by decide +kernel⟩, by decide⟩
theorem zmp_X7_nameOf : zMP mX7_nameOf := ⟨rfl, by decide, by decide +kernel, kX7_nameOf, zwm 760 (by decide +kernel), (zwm 18 (by decide +kernel)), ⟨by decide +kernel, by decide +kernel⟩, by decide⟩
theorem zmp_X7_widthOf : zMP mX7_widthOf := ⟨rfl, by decide, by decide +kernel, kX7_widthOf, zwm 766 (by decide +kernel), (zwm 18 (by decide +kernel)), ⟨by decide +kernel, by decide +kernel⟩, by decide⟩
theorem zmp_X7_depthOf : zMP mX7_depthOf := ⟨rfl, by decide, by decide +kernel, kX7_depthOf, zwm 771 (by decide +kernel), (zwm 18 (by decide +kernel)), ⟨by decide +kernel, by decide +kernel⟩, by decide⟩
theorem zmp_X7_occurrences : zMP mX7_occurrences := ⟨rfl, by decide, by decide +kernel, kX7_occurrences, zwm 775 (by decide +kernel), (zwm 18 (by decide +kernel)), ⟨by decide +kernel, by decide +kernel⟩, by decide⟩
theorem zmp_X7_commonest : zMP mX7_commonest := ⟨rfl, by decide, by decide +kernel, kX7_commonest, zwm 779 (by decide +kernel), (zwm 18 (by decide +kernel)), ⟨by decide +kernel, by decide +kernel⟩, by decide⟩
theorem zmp_X7_pin : zMP mX7_pin := ⟨rfl, by decide, by decide +kernel, kX7_pin, zwm 454 (by decide +kernel), (zwm 18 (by decide +kernel)), ⟨by decide +kernel, by decide +kernel⟩, by decide⟩
theorem zmp_X7_isPinned : zMP mX7_isPinned := ⟨rfl, by decide, by decide +kernel, kX7_isPinned, zwm 784 (by decide +kernel), (zwm 18 (by decide +kernel)), ⟨by decide +kernel, by decide +kernel⟩, by decide⟩
theorem zmp_X7_findings : zMP mX7_findings := ⟨rfl, by decide, by decide +kernel, kX7_findings, zwm 897 (by decide +kernel), (zwm 18 (by decide +kernel)), ⟨by decide +kernel, by decide +kernel⟩, by decide⟩
theorem zmp_X7_ruleOf : zMP mX7_ruleOf := ⟨rfl, by decide, by decide +kernel, kX7_ruleOf, zwm 791 (by decide +kernel), (zwm 18 (by decide +kernel)), ⟨by decide +kernel, by decide +kernel⟩, by decide⟩
theorem zmp_X7_firstOf : zMP mX7_firstOf := ⟨rfl, by decide, by decide +kernel, kX7_firstOf, zwm 795 (by decide +kernel), (zwm 18 (by decide +kernel)), ⟨by decide +kernel, by decide +kernel⟩, by decide⟩
theorem zmp_X7_lastOf : zMP mX7_lastOf := ⟨rfl, by decide, by decide +kernel, kX7_lastOf, zwm 799 (by decide +kernel), (zwm 18 (by decide +kernel)), ⟨by decide +kernel, by decide +kernel⟩, by decide⟩
theorem zmp_X7_canFix : zMP mX7_canFix := ⟨rfl, by decide, by decide +kernel, kX7_canFix, zwm 804 (by decide +kernel), (zwm 18 (by decide +kernel)), ⟨by decide +kernel, by decide +kernel⟩, by decide⟩
theorem zmp_X7_best : zMP mX7_best := ⟨rfl, by decide, by decide +kernel, kX7_best, zwm 901 (by decide +kernel), (zwm 18 (by decide +kernel)), ⟨by decide +kernel, by decide +kernel⟩, by decide⟩
theorem zmp_X7_bestByTrying : zMP mX7_bestByTrying := ⟨rfl, by decide, by decide +kernel, kX7_bestByTrying, zwm 808 (by decide +kernel), (zwm 18 (by decide +kernel)), ⟨by decide +kernel, by decide +kernel⟩, by decide⟩
theorem zmp_X7_isInBest : zMP mX7_isInBest := ⟨rfl, by decide, by decide +kernel, kX7_isInBest, zwm 816 (by decide +kernel), (zwm 18 (by decide +kernel)), ⟨by decide +kernel, by decide +kernel⟩, by decide⟩
theorem zmp_X7_fix : zMP mX7_fix := ⟨rfl, by decide, by decide +kernel, kX7_fix, zwm 481 (by decide +kernel), (zwm 18 (by decide +kernel)), ⟨by decide +kernel, by decide +kernel⟩, by decide⟩
theorem zmp_X7_fixBest : zMP mX7_fixBest := ⟨rfl, by decide, by decide +kernel, kX7_fixBest, zwm 631 (by decide +kernel), (zwm 18 (by decide +kernel)), ⟨by decide +kernel, by decide +kernel⟩, by decide⟩
theorem zmp_X7_rename : zMP mX7_rename := ⟨rfl, by decide, by decide +kernel, kX7_rename, zwm 679 (by decide +kernel), (zwm 18 (by decide +kernel)), ⟨by decide +kernel, by decide +kernel⟩, by decide⟩
theorem zmp_X7_move : zMP mX7_move := ⟨rfl, by decide, by decide +kernel, kX7_move, zwm 699 (by decide +kernel), (zwm 18 (by decide +kernel)), ⟨by decide +kernel, by decide +kernel⟩, by decide⟩
theorem zmp_X7_undo : zMP mX7_undo := ⟨rfl, by decide, by decide +kernel, kX7_undo, zwm 711 (by decide +kernel), (zwm 18 (by decide +kernel)), ⟨by decide +kernel, by decide +kernel⟩, by decide⟩
theorem zmp_X7_weight : zMP mX7_weight := ⟨rfl, by decide, by decide +kernel, kX7_weight, zwm 820 (by decide +kernel), (zwm 18 (by decide +kernel)), ⟨by decide +kernel, by decide +kernel⟩, by decide⟩
theorem zmp_X7_ruleAt : zMP mX7_ruleAt := ⟨rfl, by decide, by decide +kernel, kX7_ruleAt, zwm 829 (by decide +kernel), (zwm 18 (by decide +kernel)), ⟨by decide +kernel, by decide +kernel⟩, by decide⟩
theorem zmp_X7_undone : zMP mX7_undone := ⟨rfl, by decide, by decide +kernel, kX7_undone, zwm 938 (by decide +kernel), (zwm 18 (by decide +kernel)), ⟨by decide +kernel, by decide +kernel⟩, by decide⟩
theorem zmp_X7_setWidth : zMP mX7_setWidth := ⟨rfl, by decide, by decide +kernel, kX7_setWidth, zwm 736 (by decide +kernel), (zwm 18 (by decide +kernel)), ⟨by decide +kernel, by decide +kernel⟩, by decide⟩
theorem zmp_X7_layOut : zMP mX7_layOut := ⟨rfl, by decide, by decide +kernel, kX7_layOut, zwm 741 (by decide +kernel), (zwm 18 (by decide +kernel)), ⟨by decide +kernel, by decide +kernel⟩, by decide⟩
theorem zmp_X7_isLaidOut : zMP mX7_isLaidOut := ⟨rfl, by decide, by decide +kernel, kX7_isLaidOut, zwm 220 (by decide +kernel), (zwm 18 (by decide +kernel)), ⟨by decide +kernel, by decide +kernel⟩, by decide⟩
theorem zmp_X7_cost : zMP mX7_cost := ⟨rfl, by decide, by decide +kernel, kX7_cost, zwm 224 (by decide +kernel), (zwm 18 (by decide +kernel)), ⟨by decide +kernel, by decide +kernel⟩, by decide⟩
theorem zmp_X7_costByTrying : zMP mX7_costByTrying := ⟨rfl, by decide, by decide +kernel, kX7_costByTrying, zwm 838 (by decide +kernel), (zwm 18 (by decide +kernel)), ⟨by decide +kernel, by decide +kernel⟩, by decide⟩
theorem zmp_X7_lineOf : zMP mX7_lineOf := ⟨rfl, by decide, by decide +kernel, kX7_lineOf, zwm 849 (by decide +kernel), (zwm 18 (by decide +kernel)), ⟨by decide +kernel, by decide +kernel⟩, by decide⟩
theorem zmp_X7_lineWidth : zMP mX7_lineWidth := ⟨rfl, by decide, by decide +kernel, kX7_lineWidth, zwm 862 (by decide +kernel), (zwm 18 (by decide +kernel)), ⟨by decide +kernel, by decide +kernel⟩, by decide⟩
theorem zmp_X7_meanWidth : zMP mX7_meanWidth := ⟨rfl, by decide, by decide +kernel, kX7_meanWidth, zwm 874 (by decide +kernel), (zwm 18 (by decide +kernel)), ⟨by decide +kernel, by decide +kernel⟩, by decide⟩
theorem zmp_X7_isTidy : zMP mX7_isTidy := ⟨rfl, by decide, by decide +kernel, kX7_isTidy, zwm 912 (by decide +kernel), (zwm 18 (by decide +kernel)), ⟨by decide +kernel, by decide +kernel⟩, by decide⟩
theorem zmp_X7_needName : zMP mX7_needName := ⟨rfl, by decide, by decide +kernel, kX7_needName, zwm 372 (by decide +kernel), (zwm 18 (by decide +kernel)), ⟨by decide +kernel, by decide +kernel⟩, by decide⟩
theorem zmp_X7_needLength : zMP mX7_needLength := ⟨rfl, by decide, by decide +kernel, kX7_needLength, zwm 391 (by decide +kernel), (zwm 18 (by decide +kernel)), ⟨by decide +kernel, by decide +kernel⟩, by decide⟩
theorem zmp_X7_needRule : zMP mX7_needRule := ⟨rfl, by decide, by decide +kernel, kX7_needRule, zwm 823 (by decide +kernel), (zwm 18 (by decide +kernel)), ⟨by decide +kernel, by decide +kernel⟩, by decide⟩
theorem zmp_X7_needEntry : zMP mX7_needEntry := ⟨rfl, by decide, by decide +kernel, kX7_needEntry, zwm 458 (by decide +kernel), (zwm 18 (by decide +kernel)), ⟨by decide +kernel, by decide +kernel⟩, by decide⟩
theorem zmp_X7_needFinding : zMP mX7_needFinding := ⟨rfl, by decide, by decide +kernel, kX7_needFinding, zwm 485 (by decide +kernel), (zwm 18 (by decide +kernel)), ⟨by decide +kernel, by decide +kernel⟩, by decide⟩
theorem zmp_X7_needLayout : zMP mX7_needLayout := ⟨rfl, by decide, by decide +kernel, kX7_needLayout, zwm 853 (by decide +kernel), (zwm 18 (by decide +kernel)), ⟨by decide +kernel, by decide +kernel⟩, by decide⟩
theorem zmp_X7_append : zMP mX7_append := ⟨rfl, by decide, by decide +kernel, kX7_append, zwm 396 (by decide +kernel), (zwm 18 (by decide +kernel)), ⟨by decide +kernel, by decide +kernel⟩, by decide⟩
theorem zmp_X7_startDeed : zMP mX7_startDeed := ⟨rfl, by decide, by decide +kernel, kX7_startDeed, zwm 564 (by decide +kernel), (zwm 18 (by decide +kernel)), ⟨by decide +kernel, by decide +kernel⟩, by decide⟩
theorem zmp_X7_chooseBest : zMP mX7_chooseBest := ⟨rfl, by decide, by decide +kernel, kX7_chooseBest, zwm 635 (by decide +kernel), (zwm 18 (by decide +kernel)), ⟨by decide +kernel, by decide +kernel⟩, by decide⟩
theorem zmp_X7_applyFix : zMP mX7_applyFix := ⟨rfl, by decide, by decide +kernel, kX7_applyFix, zwm 590 (by decide +kernel), (zwm 18 (by decide +kernel)), ⟨by decide +kernel, by decide +kernel⟩, by decide⟩
theorem zmp_X7_shownIsLikeTried : zMP mX7_shownIsLikeTried := ⟨rfl, by decide, by decide +kernel, kX7_shownIsLikeTried, zwm 916 (by decide +kernel), (zwm 18 (by decide +kernel)), ⟨by decide +kernel, by decide +kernel⟩, by decide⟩
theorem zmp_X7_costOfLine : zMP mX7_costOfLine := ⟨rfl, by decide, by decide +kernel, kX7_costOfLine, zwm 251 (by decide +kernel), (zwm 18 (by decide +kernel)), ⟨by decide +kernel, by decide +kernel⟩, by decide⟩
theorem zmp_X7_leastByTrying : zMP mX7_leastByTrying := ⟨rfl, by decide, by decide +kernel, kX7_leastByTrying, zwm 842 (by decide +kernel), (zwm 18 (by decide +kernel)), ⟨by decide +kernel, by decide +kernel⟩, by decide⟩
theorem zmp_X7_mostByTrying : zMP mX7_mostByTrying := ⟨rfl, by decide, by decide +kernel, kX7_mostByTrying, zwm 812 (by decide +kernel), (zwm 18 (by decide +kernel)), ⟨by decide +kernel, by decide +kernel⟩, by decide⟩
theorem zmp_X7_read : zMP mX7_read := ⟨rfl, by decide, by decide +kernel, kX7_read, zwm 81 (by decide +kernel), (zwm 18 (by decide +kernel)), ⟨by decide +kernel, by decide +kernel⟩, by decide⟩
theorem zmp_X7_write : zMP mX7_write := ⟨rfl, by decide, by decide +kernel, kX7_write, zwm 84 (by decide +kernel), (zwm 18 (by decide +kernel)), ⟨by decide +kernel, by decide +kernel⟩, by decide⟩
theorem zmp_X7_readFlag : zMP mX7_readFlag := ⟨rfl, by decide, by decide +kernel, kX7_readFlag, zwm 263 (by decide +kernel), (zwm 18 (by decide +kernel)), ⟨by decide +kernel, by decide +kernel⟩, by decide⟩
theorem zmp_X7_writeFlag : zMP mX7_writeFlag := ⟨rfl, by decide, by decide +kernel, kX7_writeFlag, zwm 424 (by decide +kernel), (zwm 18 (by decide +kernel)), ⟨by decide +kernel, by decide +kernel⟩, by decide⟩
theorem zmp_L_cell : zMP mL_cell := ⟨rfl, by decide, by decide +kernel, kL_cell, zwm 273 (by decide +kernel), (zwm 17 (by decide +kernel)), ⟨by decide +kernel, by decide +kernel⟩, by decide⟩
theorem zmp_L_pick : zMP mL_pick := ⟨rfl, by decide, by decide +kernel, kL_pick, zwm 270 (by decide +kernel), (zwm 17 (by decide +kernel)), ⟨by decide +kernel, by decide +kernel⟩, by decide⟩
theorem zmp_L_told : zMP mL_told := ⟨rfl, by decide, by decide +kernel, kL_told, zwm 787 (by decide +kernel), (zwm 17 (by decide +kernel)), ⟨by decide +kernel, by decide +kernel⟩, by decide⟩
theorem zmp_L_plain : zMP mL_plain := ⟨rfl, by decide, by decide +kernel, kL_plain, zwm 365 (by decide +kernel), (zwm 17 (by decide +kernel)), ⟨by decide +kernel, by decide +kernel⟩, by decide⟩
theorem zmp_L_deed : zMP mL_deed := ⟨rfl, by decide, by decide +kernel, kL_deed, zwm 278 (by decide +kernel), (zwm 17 (by decide +kernel)), ⟨by decide +kernel, by decide +kernel⟩, by decide⟩
theorem zmp_L_asked : zMP mL_asked := ⟨rfl, by decide, by decide +kernel, kL_asked, zwm 751 (by decide +kernel), (zwm 17 (by decide +kernel)), ⟨by decide +kernel, by decide +kernel⟩, by decide⟩
theorem zmp_L_ask : zMP mL_ask := ⟨rfl, by decide, by decide +kernel, kL_ask, zwm 748 (by decide +kernel), (zwm 17 (by decide +kernel)), ⟨by decide +kernel, by decide +kernel⟩, by decide⟩
theorem zmp_L_areEntries : zMP mL_areEntries := ⟨rfl, by decide, by decide +kernel, kL_areEntries, zwm 870 (by decide +kernel), (zwm 17 (by decide +kernel)), ⟨by decide +kernel, by decide +kernel⟩, by decide⟩
theorem zmp_L_areFindings : zMP mL_areFindings := ⟨rfl, by decide, by decide +kernel, kL_areFindings, zwm 893 (by decide +kernel), (zwm 17 (by decide +kernel)), ⟨by decide +kernel, by decide +kernel⟩, by decide⟩
theorem zmp_L_areLines : zMP mL_areLines := ⟨rfl, by decide, by decide +kernel, kL_areLines, zwm 908 (by decide +kernel), (zwm 17 (by decide +kernel)), ⟨by decide +kernel, by decide +kernel⟩, by decide⟩
theorem zmp_L_areRules : zMP mL_areRules := ⟨rfl, by decide, by decide +kernel, kL_areRules, zwm 934 (by decide +kernel), (zwm 17 (by decide +kernel)), ⟨by decide +kernel, by decide +kernel⟩, by decide⟩
theorem zmp_L_entries : zMP mL_entries := ⟨rfl, by decide, by decide +kernel, kL_entries, zwm 945 (by decide +kernel), (zwm 17 (by decide +kernel)), ⟨by decide +kernel, by decide +kernel⟩, by decide⟩
theorem zmp_L_areAlike : zMP mL_areAlike := ⟨rfl, by decide, by decide +kernel, kL_areAlike, zwm 949 (by decide +kernel), (zwm 17 (by decide +kernel)), ⟨by decide +kernel, by decide +kernel⟩, by decide⟩
theorem zmp_L_acts : zMP mL_acts := ⟨rfl, by decide, by decide +kernel, kL_acts, zwm 942 (by decide +kernel), (zwm 17 (by decide +kernel)), ⟨by decide +kernel, by decide +kernel⟩, by decide⟩
theorem zcon_r0 : ∀ q ∈ zconL0, (fun c k v => Cond.constant (zown c) k (Int32.ofInt v) ∈ zWS ∧ zi32 v) 0 q.1 q.2 := fun _ h => absurd h List.not_mem_nil
theorem zcon_r1 : ∀ q ∈ zconL1, (fun c k v => Cond.constant (zown c) k (Int32.ofInt v) ∈ zWS ∧ zi32 v) 1 q.1 q.2 := fun _ h => absurd h List.not_mem_nil
theorem zcon_r2 : ∀ q ∈ zconL2, (fun c k v => Cond.constant (zown c) k (Int32.ofInt v) ∈ zWS ∧ zi32 v) 2 q.1 q.2 := fun _ h => absurd h List.not_mem_nil
theorem zcon_r3 : ∀ q ∈ zconL3, (fun c k v => Cond.constant (zown c) k (Int32.ofInt v) ∈ zWS ∧ zi32 v) 3 q.1 q.2 := fun _ h => absurd h List.not_mem_nil
theorem zcon_4_58 : (fun c k v => Cond.constant (zown c) k (Int32.ofInt v) ∈ zWS ∧ zi32 v) 4 58 (1000000000) := ⟨(zwm 235 (by decide +kernel)), by decide, by decide⟩
theorem zcon_r4 : ∀ q ∈ zconL4, (fun c k v => Cond.constant (zown c) k (Int32.ofInt v) ∈ zWS ∧ zi32 v) 4 q.1 q.2 := List.forall_mem_cons.mpr ⟨zcon_4_58, fun _ h => absurd h List.not_mem_nil⟩
theorem zcon_r5 : ∀ q ∈ zconL5, (fun c k v => Cond.constant (zown c) k (Int32.ofInt v) ∈ zWS ∧ zi32 v) 5 q.1 q.2 := fun _ h => absurd h List.not_mem_nil
theorem zcon_r6 : ∀ q ∈ zconL6, (fun c k v => Cond.constant (zown c) k (Int32.ofInt v) ∈ zWS ∧ zi32 v) 6 q.1 q.2 := fun _ h => absurd h List.not_mem_nil
theorem zcon_7_335 : (fun c k v => Cond.constant (zown c) k (Int32.ofInt v) ∈ zWS ∧ zi32 v) 7 335 (1000000000) := ⟨(zwm 843 (by decide +kernel)), by decide, by decide⟩
theorem zcon_r7 : ∀ q ∈ zconL7, (fun c k v => Cond.constant (zown c) k (Int32.ofInt v) ∈ zWS ∧ zi32 v) 7 q.1 q.2 := List.forall_mem_cons.mpr ⟨zcon_7_335, fun _ h => absurd h List.not_mem_nil⟩
theorem zcon_r8 : ∀ q ∈ zconL8, (fun c k v => Cond.constant (zown c) k (Int32.ofInt v) ∈ zWS ∧ zi32 v) 8 q.1 q.2 := fun _ h => absurd h List.not_mem_nil
theorem zcon_9_7 : (fun c k v => Cond.constant (zown c) k (Int32.ofInt v) ∈ zWS ∧ zi32 v) 9 7 (69069) := ⟨(zwm 274 (by decide +kernel)), by decide, by decide⟩
theorem zcon_9_8 : (fun c k v => Cond.constant (zown c) k (Int32.ofInt v) ∈ zWS ∧ zi32 v) 9 8 (1103515245) := ⟨(zwm 275 (by decide +kernel)), by decide, by decide⟩
theorem zcon_9_168 : (fun c k v => Cond.constant (zown c) k (Int32.ofInt v) ∈ zWS ∧ zi32 v) 9 168 (100000) := ⟨(zwm 946 (by decide +kernel)), by decide, by decide⟩
theorem zcon_r9 : ∀ q ∈ zconL9, (fun c k v => Cond.constant (zown c) k (Int32.ofInt v) ∈ zWS ∧ zi32 v) 9 q.1 q.2 := List.forall_mem_cons.mpr ⟨zcon_9_7, List.forall_mem_cons.mpr ⟨zcon_9_8, List.forall_mem_cons.mpr ⟨zcon_9_168, fun _ h => absurd h List.not_mem_nil⟩⟩⟩
theorem zcon_ok : ∀ c k v, zcon c k = some v → Cond.constant (zown c) k (Int32.ofInt v) ∈ zWS ∧ zi32 v := by
  intro c k v h
  refine ztab_all (P := (fun c k v => Cond.constant (zown c) k (Int32.ofInt v) ∈ zWS ∧ zi32 v)) (fun c r hr => ?_) h
  match c, hr with
  | 0, hr => cases hr; exact zcon_r0
  | 1, hr => cases hr; exact zcon_r1
  | 2, hr => cases hr; exact zcon_r2
  | 3, hr => cases hr; exact zcon_r3
  | 4, hr => cases hr; exact zcon_r4
  | 5, hr => cases hr; exact zcon_r5
  | 6, hr => cases hr; exact zcon_r6
  | 7, hr => cases hr; exact zcon_r7
  | 8, hr => cases hr; exact zcon_r8
  | 9, hr => cases hr; exact zcon_r9
  | n + 10, hr => simp [zconL] at hr
def zmthP (c k n : Nat) : Prop := (n = 1 → Cond.methodLink (zown c) k Lib.Math.max.name ∈ zWS ∧ Cond.static Lib.Math.max.name ∈ zWS ∧ Cond.initialized "java/lang/Math" ∈ zWS ∧ Cond.code Lib.Math.max.name Lib.Math.max.code 2 (some .int) ∈ zWS) ∧
    (n = 2 → Cond.methodLink (zown c) k Lib.Math.min.name ∈ zWS ∧ Cond.static Lib.Math.min.name ∈ zWS ∧ Cond.initialized "java/lang/Math" ∈ zWS ∧ Cond.code Lib.Math.min.name Lib.Math.min.code 2 (some .int) ∈ zWS) ∧
    (n = 3 → Cond.methodLink (zown c) k Lib.objectInit ∈ zWS ∧ Cond.instanceMethod Lib.objectInit ∈ zWS ∧ Cond.code Lib.objectInit ⟨#[0xb1]⟩ 1 none ∈ zWS)
theorem zm_max : Cond.static Lib.Math.max.name ∈ zWS ∧ Cond.initialized "java/lang/Math" ∈ zWS ∧ Cond.code Lib.Math.max.name Lib.Math.max.code 2 (some .int) ∈ zWS := ⟨(zwm 658 (by decide +kernel)), (zwm 34 (by decide +kernel)), zwm 659 (by decide +kernel)⟩
theorem zm_min : Cond.static Lib.Math.min.name ∈ zWS ∧ Cond.initialized "java/lang/Math" ∈ zWS ∧ Cond.code Lib.Math.min.name Lib.Math.min.code 2 (some .int) ∈ zWS := ⟨(zwm 515 (by decide +kernel)), (zwm 34 (by decide +kernel)), zwm 516 (by decide +kernel)⟩
theorem zm_oin : Cond.instanceMethod Lib.objectInit ∈ zWS ∧ Cond.code Lib.objectInit ⟨#[0xb1]⟩ 1 none ∈ zWS := ⟨(zwm 44 (by decide +kernel)), zwm 45 (by decide +kernel)⟩
theorem zmth_0_3 : zmthP 0 3 3 := ⟨fun h => absurd h (by decide), fun h => absurd h (by decide), fun _ => ⟨(zwm 154 (by decide +kernel)), zm_oin⟩⟩
theorem zmth_0_64 : zmthP 0 64 1 := ⟨fun _ => ⟨(zwm 657 (by decide +kernel)), zm_max⟩, fun h => absurd h (by decide), fun h => absurd h (by decide)⟩
theorem zmth_r0 : ∀ q ∈ zmthL0, zmthP 0 q.1 q.2 := List.forall_mem_cons.mpr ⟨zmth_0_3, List.forall_mem_cons.mpr ⟨zmth_0_64, fun _ h => absurd h List.not_mem_nil⟩⟩
theorem zmth_1_3 : zmthP 1 3 3 := ⟨fun h => absurd h (by decide), fun h => absurd h (by decide), fun _ => ⟨(zwm 107 (by decide +kernel)), zm_oin⟩⟩
theorem zmth_r1 : ∀ q ∈ zmthL1, zmthP 1 q.1 q.2 := List.forall_mem_cons.mpr ⟨zmth_1_3, fun _ h => absurd h List.not_mem_nil⟩
theorem zmth_2_3 : zmthP 2 3 3 := ⟨fun h => absurd h (by decide), fun h => absurd h (by decide), fun _ => ⟨(zwm 100 (by decide +kernel)), zm_oin⟩⟩
theorem zmth_2_25 : zmthP 2 25 2 := ⟨fun h => absurd h (by decide), fun _ => ⟨(zwm 569 (by decide +kernel)), zm_min⟩, fun h => absurd h (by decide)⟩
theorem zmth_r2 : ∀ q ∈ zmthL2, zmthP 2 q.1 q.2 := List.forall_mem_cons.mpr ⟨zmth_2_3, List.forall_mem_cons.mpr ⟨zmth_2_25, fun _ h => absurd h List.not_mem_nil⟩⟩
theorem zmth_3_3 : zmthP 3 3 3 := ⟨fun h => absurd h (by decide), fun h => absurd h (by decide), fun _ => ⟨(zwm 132 (by decide +kernel)), zm_oin⟩⟩
theorem zmth_3_78 : zmthP 3 78 2 := ⟨fun h => absurd h (by decide), fun _ => ⟨(zwm 514 (by decide +kernel)), zm_min⟩, fun h => absurd h (by decide)⟩
theorem zmth_r3 : ∀ q ∈ zmthL3, zmthP 3 q.1 q.2 := List.forall_mem_cons.mpr ⟨zmth_3_3, List.forall_mem_cons.mpr ⟨zmth_3_78, fun _ h => absurd h List.not_mem_nil⟩⟩
theorem zmth_4_3 : zmthP 4 3 3 := ⟨fun h => absurd h (by decide), fun h => absurd h (by decide), fun _ => ⟨(zwm 167 (by decide +kernel)), zm_oin⟩⟩
theorem zmth_r4 : ∀ q ∈ zmthL4, zmthP 4 q.1 q.2 := List.forall_mem_cons.mpr ⟨zmth_4_3, fun _ h => absurd h List.not_mem_nil⟩
theorem zmth_5_3 : zmthP 5 3 3 := ⟨fun h => absurd h (by decide), fun h => absurd h (by decide), fun _ => ⟨(zwm 76 (by decide +kernel)), zm_oin⟩⟩
theorem zmth_5_40 : zmthP 5 40 2 := ⟨fun h => absurd h (by decide), fun _ => ⟨(zwm 618 (by decide +kernel)), zm_min⟩, fun h => absurd h (by decide)⟩
theorem zmth_r5 : ∀ q ∈ zmthL5, zmthP 5 q.1 q.2 := List.forall_mem_cons.mpr ⟨zmth_5_3, List.forall_mem_cons.mpr ⟨zmth_5_40, fun _ h => absurd h List.not_mem_nil⟩⟩
theorem zmth_6_3 : zmthP 6 3 3 := ⟨fun h => absurd h (by decide), fun h => absurd h (by decide), fun _ => ⟨(zwm 51 (by decide +kernel)), zm_oin⟩⟩
theorem zmth_6_76 : zmthP 6 76 2 := ⟨fun h => absurd h (by decide), fun _ => ⟨(zwm 611 (by decide +kernel)), zm_min⟩, fun h => absurd h (by decide)⟩
theorem zmth_r6 : ∀ q ∈ zmthL6, zmthP 6 q.1 q.2 := List.forall_mem_cons.mpr ⟨zmth_6_3, List.forall_mem_cons.mpr ⟨zmth_6_76, fun _ h => absurd h List.not_mem_nil⟩⟩
theorem zmth_7_1 : zmthP 7 1 3 := ⟨fun h => absurd h (by decide), fun h => absurd h (by decide), fun _ => ⟨(zwm 43 (by decide +kernel)), zm_oin⟩⟩
theorem zmth_7_199 : zmthP 7 199 2 := ⟨fun h => absurd h (by decide), fun _ => ⟨(zwm 701 (by decide +kernel)), zm_min⟩, fun h => absurd h (by decide)⟩
theorem zmth_7_205 : zmthP 7 205 1 := ⟨fun _ => ⟨(zwm 702 (by decide +kernel)), zm_max⟩, fun h => absurd h (by decide), fun h => absurd h (by decide)⟩
theorem zmth_r7 : ∀ q ∈ zmthL7, zmthP 7 q.1 q.2 := List.forall_mem_cons.mpr ⟨zmth_7_1, List.forall_mem_cons.mpr ⟨zmth_7_199, List.forall_mem_cons.mpr ⟨zmth_7_205, fun _ h => absurd h List.not_mem_nil⟩⟩⟩
theorem zmth_r8 : ∀ q ∈ zmthL8, zmthP 8 q.1 q.2 := fun _ h => absurd h List.not_mem_nil
theorem zmth_9_181 : zmthP 9 181 2 := ⟨fun h => absurd h (by decide), fun _ => ⟨(zwm 950 (by decide +kernel)), zm_min⟩, fun h => absurd h (by decide)⟩
theorem zmth_r9 : ∀ q ∈ zmthL9, zmthP 9 q.1 q.2 := List.forall_mem_cons.mpr ⟨zmth_9_181, fun _ h => absurd h List.not_mem_nil⟩
theorem zmth_ok0 : ∀ c k v, ztab zmthL c k = some v → zmthP c k v := by
  intro c k v h
  refine ztab_all (P := zmthP) (fun c r hr => ?_) h
  match c, hr with
  | 0, hr => cases hr; exact zmth_r0
  | 1, hr => cases hr; exact zmth_r1
  | 2, hr => cases hr; exact zmth_r2
  | 3, hr => cases hr; exact zmth_r3
  | 4, hr => cases hr; exact zmth_r4
  | 5, hr => cases hr; exact zmth_r5
  | 6, hr => cases hr; exact zmth_r6
  | 7, hr => cases hr; exact zmth_r7
  | 8, hr => cases hr; exact zmth_r8
  | 9, hr => cases hr; exact zmth_r9
  | n + 10, hr => simp [zmthL] at hr
theorem zmth_ok : ∀ c k, zmthP c k (zmth c k) := by
  intro c k
  unfold zmth
  split
  · rename_i n hn; exact zmth_ok0 _ _ _ hn
  · exact ⟨fun h => absurd h (by decide), fun h => absurd h (by decide), fun h => absurd h (by decide)⟩
theorem zfld_0_9 : zfldP 0 9 (0, 0, 1, false, true) := ⟨_, _, _, _, zcp_0, by decide, zwm 155 (by decide +kernel), rfl, Or.inr (Or.inr (Or.inr ⟨rfl, rfl, Or.inr ⟨_, rfl⟩⟩)), rfl, fun _ => rfl⟩
theorem zfld_0_15 : zfldP 0 15 (0, 1, 1, false, true) := ⟨_, _, _, _, zcp_0, by decide, zwm 156 (by decide +kernel), rfl, Or.inr (Or.inr (Or.inr ⟨rfl, rfl, Or.inr ⟨_, rfl⟩⟩)), rfl, fun _ => rfl⟩
theorem zfld_r0 : ∀ q ∈ zfldL0, zfldP 0 q.1 q.2 := List.forall_mem_cons.mpr ⟨zfld_0_9, List.forall_mem_cons.mpr ⟨zfld_0_15, fun _ h => absurd h List.not_mem_nil⟩⟩
theorem zfld_1_12 : zfldP 1 12 (1, 0, 1, false, true) := ⟨_, _, _, _, zcp_1, by decide, zwm 110 (by decide +kernel), rfl, Or.inr (Or.inr (Or.inr ⟨rfl, rfl, Or.inl ⟨_, rfl⟩⟩)), rfl, fun _ => rfl⟩
theorem zfld_1_18 : zfldP 1 18 (1, 1, 1, false, true) := ⟨_, _, _, _, zcp_1, by decide, zwm 111 (by decide +kernel), rfl, Or.inr (Or.inr (Or.inr ⟨rfl, rfl, Or.inr ⟨_, rfl⟩⟩)), rfl, fun _ => rfl⟩
theorem zfld_r1 : ∀ q ∈ zfldL1, zfldP 1 q.1 q.2 := List.forall_mem_cons.mpr ⟨zfld_1_12, List.forall_mem_cons.mpr ⟨zfld_1_18, fun _ h => absurd h List.not_mem_nil⟩⟩
theorem zfld_2_11 : zfldP 2 11 (2, 0, 1, false, true) := ⟨_, _, _, _, zcp_2, by decide, zwm 117 (by decide +kernel), rfl, Or.inr (Or.inr (Or.inr ⟨rfl, rfl, Or.inr ⟨_, rfl⟩⟩)), rfl, fun _ => rfl⟩
theorem zfld_2_17 : zfldP 2 17 (2, 1, 0, false, false) := ⟨_, _, _, _, zcp_2, by decide, zwm 118 (by decide +kernel), rfl, Or.inl ⟨rfl, rfl, rfl⟩, rfl, fun h => absurd h (by decide)⟩
theorem zfld_2_21 : zfldP 2 21 (2, 2, 0, false, false) := ⟨_, _, _, _, zcp_2, by decide, zwm 119 (by decide +kernel), rfl, Or.inl ⟨rfl, rfl, rfl⟩, rfl, fun h => absurd h (by decide)⟩
theorem zfld_r2 : ∀ q ∈ zfldL2, zfldP 2 q.1 q.2 := List.forall_mem_cons.mpr ⟨zfld_2_11, List.forall_mem_cons.mpr ⟨zfld_2_17, List.forall_mem_cons.mpr ⟨zfld_2_21, fun _ h => absurd h List.not_mem_nil⟩⟩⟩
theorem zfld_3_9 : zfldP 3 9 (3, 0, 1, false, true) := ⟨_, _, _, _, zcp_3, by decide, zwm 133 (by decide +kernel), rfl, Or.inr (Or.inr (Or.inr ⟨rfl, rfl, Or.inr ⟨_, rfl⟩⟩)), rfl, fun _ => rfl⟩
theorem zfld_3_15 : zfldP 3 15 (3, 1, 1, false, true) := ⟨_, _, _, _, zcp_3, by decide, zwm 134 (by decide +kernel), rfl, Or.inr (Or.inr (Or.inr ⟨rfl, rfl, Or.inr ⟨_, rfl⟩⟩)), rfl, fun _ => rfl⟩
theorem zfld_3_18 : zfldP 3 18 (3, 2, 1, false, true) := ⟨_, _, _, _, zcp_3, by decide, zwm 135 (by decide +kernel), rfl, Or.inr (Or.inr (Or.inr ⟨rfl, rfl, Or.inr ⟨_, rfl⟩⟩)), rfl, fun _ => rfl⟩
theorem zfld_3_21 : zfldP 3 21 (3, 3, 1, false, true) := ⟨_, _, _, _, zcp_3, by decide, zwm 136 (by decide +kernel), rfl, Or.inr (Or.inr (Or.inr ⟨rfl, rfl, Or.inr ⟨_, rfl⟩⟩)), rfl, fun _ => rfl⟩
theorem zfld_3_24 : zfldP 3 24 (3, 4, 0, false, false) := ⟨_, _, _, _, zcp_3, by decide, zwm 137 (by decide +kernel), rfl, Or.inl ⟨rfl, rfl, rfl⟩, rfl, fun h => absurd h (by decide)⟩
theorem zfld_r3 : ∀ q ∈ zfldL3, zfldP 3 q.1 q.2 := List.forall_mem_cons.mpr ⟨zfld_3_9, List.forall_mem_cons.mpr ⟨zfld_3_15, List.forall_mem_cons.mpr ⟨zfld_3_18, List.forall_mem_cons.mpr ⟨zfld_3_21, List.forall_mem_cons.mpr ⟨zfld_3_24, fun _ h => absurd h List.not_mem_nil⟩⟩⟩⟩⟩
theorem zfld_4_9 : zfldP 4 9 (4, 0, 1, false, true) := ⟨_, _, _, _, zcp_4, by decide, zwm 168 (by decide +kernel), rfl, Or.inr (Or.inr (Or.inr ⟨rfl, rfl, Or.inr ⟨_, rfl⟩⟩)), rfl, fun _ => rfl⟩
theorem zfld_4_15 : zfldP 4 15 (4, 1, 1, false, true) := ⟨_, _, _, _, zcp_4, by decide, zwm 169 (by decide +kernel), rfl, Or.inr (Or.inr (Or.inr ⟨rfl, rfl, Or.inr ⟨_, rfl⟩⟩)), rfl, fun _ => rfl⟩
theorem zfld_4_18 : zfldP 4 18 (4, 2, 1, false, true) := ⟨_, _, _, _, zcp_4, by decide, zwm 170 (by decide +kernel), rfl, Or.inr (Or.inr (Or.inr ⟨rfl, rfl, Or.inr ⟨_, rfl⟩⟩)), rfl, fun _ => rfl⟩
theorem zfld_4_21 : zfldP 4 21 (4, 3, 0, false, false) := ⟨_, _, _, _, zcp_4, by decide, zwm 171 (by decide +kernel), rfl, Or.inl ⟨rfl, rfl, rfl⟩, rfl, fun h => absurd h (by decide)⟩
theorem zfld_r4 : ∀ q ∈ zfldL4, zfldP 4 q.1 q.2 := List.forall_mem_cons.mpr ⟨zfld_4_9, List.forall_mem_cons.mpr ⟨zfld_4_15, List.forall_mem_cons.mpr ⟨zfld_4_18, List.forall_mem_cons.mpr ⟨zfld_4_21, fun _ h => absurd h List.not_mem_nil⟩⟩⟩⟩
theorem zfld_5_9 : zfldP 5 9 (5, 0, 1, false, true) := ⟨_, _, _, _, zcp_5, by decide, zwm 85 (by decide +kernel), rfl, Or.inr (Or.inr (Or.inr ⟨rfl, rfl, Or.inr ⟨_, rfl⟩⟩)), rfl, fun _ => rfl⟩
theorem zfld_5_15 : zfldP 5 15 (5, 1, 1, false, true) := ⟨_, _, _, _, zcp_5, by decide, zwm 86 (by decide +kernel), rfl, Or.inr (Or.inr (Or.inr ⟨rfl, rfl, Or.inr ⟨_, rfl⟩⟩)), rfl, fun _ => rfl⟩
theorem zfld_5_18 : zfldP 5 18 (5, 2, 0, false, false) := ⟨_, _, _, _, zcp_5, by decide, zwm 87 (by decide +kernel), rfl, Or.inl ⟨rfl, rfl, rfl⟩, rfl, fun h => absurd h (by decide)⟩
theorem zfld_r5 : ∀ q ∈ zfldL5, zfldP 5 q.1 q.2 := List.forall_mem_cons.mpr ⟨zfld_5_9, List.forall_mem_cons.mpr ⟨zfld_5_15, List.forall_mem_cons.mpr ⟨zfld_5_18, fun _ h => absurd h List.not_mem_nil⟩⟩⟩
theorem zfld_6_9 : zfldP 6 9 (6, 0, 1, false, true) := ⟨_, _, _, _, zcp_6, by decide, zwm 52 (by decide +kernel), rfl, Or.inr (Or.inr (Or.inr ⟨rfl, rfl, Or.inr ⟨_, rfl⟩⟩)), rfl, fun _ => rfl⟩
theorem zfld_6_15 : zfldP 6 15 (6, 1, 1, false, true) := ⟨_, _, _, _, zcp_6, by decide, zwm 53 (by decide +kernel), rfl, Or.inr (Or.inr (Or.inr ⟨rfl, rfl, Or.inr ⟨_, rfl⟩⟩)), rfl, fun _ => rfl⟩
theorem zfld_6_19 : zfldP 6 19 (6, 2, 1, false, true) := ⟨_, _, _, _, zcp_6, by decide, zwm 54 (by decide +kernel), rfl, Or.inr (Or.inr (Or.inr ⟨rfl, rfl, Or.inr ⟨_, rfl⟩⟩)), rfl, fun _ => rfl⟩
theorem zfld_6_22 : zfldP 6 22 (6, 3, 1, false, true) := ⟨_, _, _, _, zcp_6, by decide, zwm 55 (by decide +kernel), rfl, Or.inr (Or.inr (Or.inr ⟨rfl, rfl, Or.inr ⟨_, rfl⟩⟩)), rfl, fun _ => rfl⟩
theorem zfld_6_26 : zfldP 6 26 (6, 4, 0, false, false) := ⟨_, _, _, _, zcp_6, by decide, zwm 56 (by decide +kernel), rfl, Or.inl ⟨rfl, rfl, rfl⟩, rfl, fun h => absurd h (by decide)⟩
theorem zfld_r6 : ∀ q ∈ zfldL6, zfldP 6 q.1 q.2 := List.forall_mem_cons.mpr ⟨zfld_6_9, List.forall_mem_cons.mpr ⟨zfld_6_15, List.forall_mem_cons.mpr ⟨zfld_6_19, List.forall_mem_cons.mpr ⟨zfld_6_22, List.forall_mem_cons.mpr ⟨zfld_6_26, fun _ h => absurd h List.not_mem_nil⟩⟩⟩⟩⟩
theorem zfld_7_10 : zfldP 7 10 (7, 0, 1, false, true) := ⟨_, _, _, _, zcp_7, by decide, zwm 181 (by decide +kernel), rfl, Or.inr (Or.inr (Or.inr ⟨rfl, rfl, Or.inl ⟨_, rfl⟩⟩)), rfl, fun _ => rfl⟩
theorem zfld_7_19 : zfldP 7 19 (7, 1, 1, false, true) := ⟨_, _, _, _, zcp_7, by decide, zwm 182 (by decide +kernel), rfl, Or.inr (Or.inr (Or.inr ⟨rfl, rfl, Or.inl ⟨_, rfl⟩⟩)), rfl, fun _ => rfl⟩
theorem zfld_7_26 : zfldP 7 26 (7, 2, 1, false, true) := ⟨_, _, _, _, zcp_7, by decide, zwm 183 (by decide +kernel), rfl, Or.inr (Or.inr (Or.inr ⟨rfl, rfl, Or.inl ⟨_, rfl⟩⟩)), rfl, fun _ => rfl⟩
theorem zfld_7_33 : zfldP 7 33 (7, 3, 1, false, true) := ⟨_, _, _, _, zcp_7, by decide, zwm 184 (by decide +kernel), rfl, Or.inr (Or.inr (Or.inr ⟨rfl, rfl, Or.inl ⟨_, rfl⟩⟩)), rfl, fun _ => rfl⟩
theorem zfld_7_40 : zfldP 7 40 (7, 4, 1, false, true) := ⟨_, _, _, _, zcp_7, by decide, zwm 185 (by decide +kernel), rfl, Or.inr (Or.inr (Or.inr ⟨rfl, rfl, Or.inl ⟨_, rfl⟩⟩)), rfl, fun _ => rfl⟩
theorem zfld_7_47 : zfldP 7 47 (7, 5, 1, false, true) := ⟨_, _, _, _, zcp_7, by decide, zwm 186 (by decide +kernel), rfl, Or.inr (Or.inr (Or.inr ⟨rfl, rfl, Or.inl ⟨_, rfl⟩⟩)), rfl, fun _ => rfl⟩
theorem zfld_7_51 : zfldP 7 51 (7, 6, 1, false, true) := ⟨_, _, _, _, zcp_7, by decide, zwm 187 (by decide +kernel), rfl, Or.inr (Or.inr (Or.inr ⟨rfl, rfl, Or.inl ⟨_, rfl⟩⟩)), rfl, fun _ => rfl⟩
theorem zfld_7_54 : zfldP 7 54 (7, 7, 0, false, false) := ⟨_, _, _, _, zcp_7, by decide, zwm 188 (by decide +kernel), rfl, Or.inl ⟨rfl, rfl, rfl⟩, rfl, fun h => absurd h (by decide)⟩
theorem zfld_7_58 : zfldP 7 58 (7, 8, 0, true, false) := ⟨_, _, _, _, zcp_7, by decide, zwm 189 (by decide +kernel), rfl, Or.inr (Or.inl ⟨rfl, rfl, rfl⟩), rfl, fun h => absurd h (by decide)⟩
theorem zfld_r7 : ∀ q ∈ zfldL7, zfldP 7 q.1 q.2 := List.forall_mem_cons.mpr ⟨zfld_7_10, List.forall_mem_cons.mpr ⟨zfld_7_19, List.forall_mem_cons.mpr ⟨zfld_7_26, List.forall_mem_cons.mpr ⟨zfld_7_33, List.forall_mem_cons.mpr ⟨zfld_7_40, List.forall_mem_cons.mpr ⟨zfld_7_47, List.forall_mem_cons.mpr ⟨zfld_7_51, List.forall_mem_cons.mpr ⟨zfld_7_54, List.forall_mem_cons.mpr ⟨zfld_7_58, fun _ h => absurd h List.not_mem_nil⟩⟩⟩⟩⟩⟩⟩⟩⟩
theorem zfld_r8 : ∀ q ∈ zfldL8, zfldP 8 q.1 q.2 := fun _ h => absurd h List.not_mem_nil
theorem zfld_r9 : ∀ q ∈ zfldL9, zfldP 9 q.1 q.2 := fun _ h => absurd h List.not_mem_nil
theorem zfld_ok : ∀ c k f, zfld c k = some f → zfldP c k f := by
  intro c k v h
  refine ztab_all (P := zfldP) (fun c r hr => ?_) h
  match c, hr with
  | 0, hr => cases hr; exact zfld_r0
  | 1, hr => cases hr; exact zfld_r1
  | 2, hr => cases hr; exact zfld_r2
  | 3, hr => cases hr; exact zfld_r3
  | 4, hr => cases hr; exact zfld_r4
  | 5, hr => cases hr; exact zfld_r5
  | 6, hr => cases hr; exact zfld_r6
  | 7, hr => cases hr; exact zfld_r7
  | 8, hr => cases hr; exact zfld_r8
  | 9, hr => cases hr; exact zfld_r9
  | n + 10, hr => simp [zfldL] at hr
theorem zcls_r0 : ∀ q ∈ zclsL0, zclsP 0 q.1 q.2 := fun _ h => absurd h List.not_mem_nil
theorem zcls_1_9 : zclsP 1 9 (6, 5) := ⟨_, _, _, _, zcp_6, rfl, by decide, zwm 108 (by decide +kernel), (zwm 47 (by decide +kernel)), (zwm 19 (by decide +kernel))⟩
theorem zcls_r1 : ∀ q ∈ zclsL1, zclsP 1 q.1 q.2 := List.forall_mem_cons.mpr ⟨zcls_1_9, fun _ h => absurd h List.not_mem_nil⟩
theorem zcls_2_9 : zclsP 2 9 (1, 2) := ⟨_, _, _, _, zcp_1, rfl, by decide, zwm 101 (by decide +kernel), (zwm 103 (by decide +kernel)), (zwm 22 (by decide +kernel))⟩
theorem zcls_r2 : ∀ q ∈ zclsL2, zclsP 2 q.1 q.2 := List.forall_mem_cons.mpr ⟨zcls_2_9, fun _ h => absurd h List.not_mem_nil⟩
theorem zcls_r3 : ∀ q ∈ zclsL3, zclsP 3 q.1 q.2 := fun _ h => absurd h List.not_mem_nil
theorem zcls_r4 : ∀ q ∈ zclsL4, zclsP 4 q.1 q.2 := fun _ h => absurd h List.not_mem_nil
theorem zcls_r5 : ∀ q ∈ zclsL5, zclsP 5 q.1 q.2 := fun _ h => absurd h List.not_mem_nil
theorem zcls_r6 : ∀ q ∈ zclsL6, zclsP 6 q.1 q.2 := fun _ h => absurd h List.not_mem_nil
theorem zcls_7_7 : zclsP 7 7 (6, 5) := ⟨_, _, _, _, zcp_6, rfl, by decide, zwm 46 (by decide +kernel), (zwm 47 (by decide +kernel)), (zwm 19 (by decide +kernel))⟩
theorem zcls_7_16 : zclsP 7 16 (5, 3) := ⟨_, _, _, _, zcp_5, rfl, by decide, zwm 71 (by decide +kernel), (zwm 72 (by decide +kernel)), (zwm 20 (by decide +kernel))⟩
theorem zcls_7_23 : zclsP 7 23 (2, 3) := ⟨_, _, _, _, zcp_2, rfl, by decide, zwm 95 (by decide +kernel), (zwm 96 (by decide +kernel)), (zwm 21 (by decide +kernel))⟩
theorem zcls_7_30 : zclsP 7 30 (3, 5) := ⟨_, _, _, _, zcp_3, rfl, by decide, zwm 127 (by decide +kernel), (zwm 128 (by decide +kernel)), (zwm 23 (by decide +kernel))⟩
theorem zcls_7_37 : zclsP 7 37 (0, 2) := ⟨_, _, _, _, zcp_0, rfl, by decide, zwm 149 (by decide +kernel), (zwm 150 (by decide +kernel)), (zwm 24 (by decide +kernel))⟩
theorem zcls_7_44 : zclsP 7 44 (4, 4) := ⟨_, _, _, _, zcp_4, rfl, by decide, zwm 162 (by decide +kernel), (zwm 163 (by decide +kernel)), (zwm 25 (by decide +kernel))⟩
theorem zcls_r7 : ∀ q ∈ zclsL7, zclsP 7 q.1 q.2 := List.forall_mem_cons.mpr ⟨zcls_7_7, List.forall_mem_cons.mpr ⟨zcls_7_16, List.forall_mem_cons.mpr ⟨zcls_7_23, List.forall_mem_cons.mpr ⟨zcls_7_30, List.forall_mem_cons.mpr ⟨zcls_7_37, List.forall_mem_cons.mpr ⟨zcls_7_44, fun _ h => absurd h List.not_mem_nil⟩⟩⟩⟩⟩⟩
theorem zcls_r8 : ∀ q ∈ zclsL8, zclsP 8 q.1 q.2 := fun _ h => absurd h List.not_mem_nil
theorem zcls_9_16 : zclsP 9 16 (7, 9) := ⟨_, _, _, _, zcp_7, rfl, by decide, zwm 38 (by decide +kernel), (zwm 39 (by decide +kernel)), (zwm 18 (by decide +kernel))⟩
theorem zcls_r9 : ∀ q ∈ zclsL9, zclsP 9 q.1 q.2 := List.forall_mem_cons.mpr ⟨zcls_9_16, fun _ h => absurd h List.not_mem_nil⟩
theorem zcls_ok : ∀ c k q, zcls c k = some q → zclsP c k q := by
  intro c k v h
  refine ztab_all (P := zclsP) (fun c r hr => ?_) h
  match c, hr with
  | 0, hr => cases hr; exact zcls_r0
  | 1, hr => cases hr; exact zcls_r1
  | 2, hr => cases hr; exact zcls_r2
  | 3, hr => cases hr; exact zcls_r3
  | 4, hr => cases hr; exact zcls_r4
  | 5, hr => cases hr; exact zcls_r5
  | 6, hr => cases hr; exact zcls_r6
  | 7, hr => cases hr; exact zcls_r7
  | 8, hr => cases hr; exact zcls_r8
  | 9, hr => cases hr; exact zcls_r9
  | n + 10, hr => simp [zclsL] at hr
theorem zstc_r0 : ∀ q ∈ zstcL0, (fun c k r => r = -2 ∧ ∃ host, Cond.fieldLinkNest (zown c) k RX7 "FIRST_WEIGHTS" "[I" host ∈ zNW) 0 q.1 q.2 := fun _ h => absurd h List.not_mem_nil
theorem zstc_r1 : ∀ q ∈ zstcL1, (fun c k r => r = -2 ∧ ∃ host, Cond.fieldLinkNest (zown c) k RX7 "FIRST_WEIGHTS" "[I" host ∈ zNW) 1 q.1 q.2 := fun _ h => absurd h List.not_mem_nil
theorem zstc_r2 : ∀ q ∈ zstcL2, (fun c k r => r = -2 ∧ ∃ host, Cond.fieldLinkNest (zown c) k RX7 "FIRST_WEIGHTS" "[I" host ∈ zNW) 2 q.1 q.2 := fun _ h => absurd h List.not_mem_nil
theorem zstc_r3 : ∀ q ∈ zstcL3, (fun c k r => r = -2 ∧ ∃ host, Cond.fieldLinkNest (zown c) k RX7 "FIRST_WEIGHTS" "[I" host ∈ zNW) 3 q.1 q.2 := fun _ h => absurd h List.not_mem_nil
theorem zstc_r4 : ∀ q ∈ zstcL4, (fun c k r => r = -2 ∧ ∃ host, Cond.fieldLinkNest (zown c) k RX7 "FIRST_WEIGHTS" "[I" host ∈ zNW) 4 q.1 q.2 := fun _ h => absurd h List.not_mem_nil
theorem zstc_5_22 : (fun c k r => r = -2 ∧ ∃ host, Cond.fieldLinkNest (zown c) k RX7 "FIRST_WEIGHTS" "[I" host ∈ zNW) 5 22 (-2 : Int) := ⟨rfl, "LintPress", by decide +kernel⟩
theorem zstc_r5 : ∀ q ∈ zstcL5, (fun c k r => r = -2 ∧ ∃ host, Cond.fieldLinkNest (zown c) k RX7 "FIRST_WEIGHTS" "[I" host ∈ zNW) 5 q.1 q.2 := List.forall_mem_cons.mpr ⟨zstc_5_22, fun _ h => absurd h List.not_mem_nil⟩
theorem zstc_r6 : ∀ q ∈ zstcL6, (fun c k r => r = -2 ∧ ∃ host, Cond.fieldLinkNest (zown c) k RX7 "FIRST_WEIGHTS" "[I" host ∈ zNW) 6 q.1 q.2 := fun _ h => absurd h List.not_mem_nil
theorem zstc_r7 : ∀ q ∈ zstcL7, (fun c k r => r = -2 ∧ ∃ host, Cond.fieldLinkNest (zown c) k RX7 "FIRST_WEIGHTS" "[I" host ∈ zNW) 7 q.1 q.2 := fun _ h => absurd h List.not_mem_nil
theorem zstc_r8 : ∀ q ∈ zstcL8, (fun c k r => r = -2 ∧ ∃ host, Cond.fieldLinkNest (zown c) k RX7 "FIRST_WEIGHTS" "[I" host ∈ zNW) 8 q.1 q.2 := fun _ h => absurd h List.not_mem_nil
theorem zstc_r9 : ∀ q ∈ zstcL9, (fun c k r => r = -2 ∧ ∃ host, Cond.fieldLinkNest (zown c) k RX7 "FIRST_WEIGHTS" "[I" host ∈ zNW) 9 q.1 q.2 := fun _ h => absurd h List.not_mem_nil
theorem zstc_ok : ∀ c k r, zstc c k = some r → r = -2 ∧ ∃ host, Cond.fieldLinkNest (zown c) k RX7 "FIRST_WEIGHTS" "[I" host ∈ zNW := by
  intro c k v h
  refine ztab_all (P := (fun c k r => r = -2 ∧ ∃ host, Cond.fieldLinkNest (zown c) k RX7 "FIRST_WEIGHTS" "[I" host ∈ zNW)) (fun c r hr => ?_) h
  match c, hr with
  | 0, hr => cases hr; exact zstc_r0
  | 1, hr => cases hr; exact zstc_r1
  | 2, hr => cases hr; exact zstc_r2
  | 3, hr => cases hr; exact zstc_r3
  | 4, hr => cases hr; exact zstc_r4
  | 5, hr => cases hr; exact zstc_r5
  | 6, hr => cases hr; exact zstc_r6
  | 7, hr => cases hr; exact zstc_r7
  | 8, hr => cases hr; exact zstc_r8
  | 9, hr => cases hr; exact zstc_r9
  | n + 10, hr => simp [zstcL] at hr
theorem zexn_r0 : ∀ q ∈ zexnL0, zexnP 0 q.1 q.2 := fun _ h => absurd h List.not_mem_nil
theorem zexn_r1 : ∀ q ∈ zexnL1, zexnP 1 q.1 q.2 := fun _ h => absurd h List.not_mem_nil
theorem zexn_r2 : ∀ q ∈ zexnL2, zexnP 2 q.1 q.2 := fun _ h => absurd h List.not_mem_nil
theorem zexn_r3 : ∀ q ∈ zexnL3, zexnP 3 q.1 q.2 := fun _ h => absurd h List.not_mem_nil
theorem zexn_r4 : ∀ q ∈ zexnL4, zexnP 4 q.1 q.2 := fun _ h => absurd h List.not_mem_nil
theorem zexn_r5 : ∀ q ∈ zexnL5, zexnP 5 q.1 q.2 := fun _ h => absurd h List.not_mem_nil
theorem zexn_r6 : ∀ q ∈ zexnL6, zexnP 6 q.1 q.2 := fun _ h => absurd h List.not_mem_nil
theorem zexn_7_84 : zexnP 7 84 "java/lang/IllegalStateException" := (zwm 397 (by decide +kernel) : Cond.classLink (zown 7) 84 "java/lang/IllegalStateException" ∈ zWS)
theorem zexn_7_109 : zexnP 7 109 "java/util/NoSuchElementException" := (zwm 524 (by decide +kernel) : Cond.classLink (zown 7) 109 "java/util/NoSuchElementException" ∈ zWS)
theorem zexn_7_114 : zexnP 7 114 "java/lang/IllegalArgumentException" := (zwm 373 (by decide +kernel) : Cond.classLink (zown 7) 114 "java/lang/IllegalArgumentException" ∈ zWS)
theorem zexn_7_158 : zexnP 7 158 "java/lang/UnsupportedOperationException" := (zwm 545 (by decide +kernel) : Cond.classLink (zown 7) 158 "java/lang/UnsupportedOperationException" ∈ zWS)
theorem zexn_7_240 : zexnP 7 240 "java/lang/ArithmeticException" := (zwm 875 (by decide +kernel) : Cond.classLink (zown 7) 240 "java/lang/ArithmeticException" ∈ zWS)
theorem zexn_7_294 : zexnP 7 294 "java/lang/IndexOutOfBoundsException" := (zwm 459 (by decide +kernel) : Cond.classLink (zown 7) 294 "java/lang/IndexOutOfBoundsException" ∈ zWS)
theorem zexn_r7 : ∀ q ∈ zexnL7, zexnP 7 q.1 q.2 := List.forall_mem_cons.mpr ⟨zexn_7_84, List.forall_mem_cons.mpr ⟨zexn_7_109, List.forall_mem_cons.mpr ⟨zexn_7_114, List.forall_mem_cons.mpr ⟨zexn_7_158, List.forall_mem_cons.mpr ⟨zexn_7_240, List.forall_mem_cons.mpr ⟨zexn_7_294, fun _ h => absurd h List.not_mem_nil⟩⟩⟩⟩⟩⟩
theorem zexn_r8 : ∀ q ∈ zexnL8, zexnP 8 q.1 q.2 := fun _ h => absurd h List.not_mem_nil
theorem zexn_9_61 : zexnP 9 61 "java/lang/IndexOutOfBoundsException" := (zwm 279 (by decide +kernel) : Cond.classLink (zown 9) 61 "java/lang/IndexOutOfBoundsException" ∈ zWS)
theorem zexn_9_63 : zexnP 9 63 "java/lang/IllegalArgumentException" := (zwm 359 (by decide +kernel) : Cond.classLink (zown 9) 63 "java/lang/IllegalArgumentException" ∈ zWS)
theorem zexn_9_65 : zexnP 9 65 "java/lang/IllegalStateException" := (zwm 360 (by decide +kernel) : Cond.classLink (zown 9) 65 "java/lang/IllegalStateException" ∈ zWS)
theorem zexn_9_67 : zexnP 9 67 "java/lang/UnsupportedOperationException" := (zwm 361 (by decide +kernel) : Cond.classLink (zown 9) 67 "java/lang/UnsupportedOperationException" ∈ zWS)
theorem zexn_9_69 : zexnP 9 69 "java/util/NoSuchElementException" := (zwm 362 (by decide +kernel) : Cond.classLink (zown 9) 69 "java/util/NoSuchElementException" ∈ zWS)
theorem zexn_r9 : ∀ q ∈ zexnL9, zexnP 9 q.1 q.2 := List.forall_mem_cons.mpr ⟨zexn_9_61, List.forall_mem_cons.mpr ⟨zexn_9_63, List.forall_mem_cons.mpr ⟨zexn_9_65, List.forall_mem_cons.mpr ⟨zexn_9_67, List.forall_mem_cons.mpr ⟨zexn_9_69, fun _ h => absurd h List.not_mem_nil⟩⟩⟩⟩⟩
theorem zexn_ok : ∀ c k E, zexn c k = some E → zexnP c k E := by
  intro c k v h
  refine ztab_all (P := zexnP) (fun c r hr => ?_) h
  match c, hr with
  | 0, hr => cases hr; exact zexn_r0
  | 1, hr => cases hr; exact zexn_r1
  | 2, hr => cases hr; exact zexn_r2
  | 3, hr => cases hr; exact zexn_r3
  | 4, hr => cases hr; exact zexn_r4
  | 5, hr => cases hr; exact zexn_r5
  | 6, hr => cases hr; exact zexn_r6
  | 7, hr => cases hr; exact zexn_r7
  | 8, hr => cases hr; exact zexn_r8
  | 9, hr => cases hr; exact zexn_r9
  | n + 10, hr => simp [zexnL] at hr
theorem zxic_r0 : ∀ q ∈ zxicL0, zxicP zNW 0 q.1 q.2 := fun _ h => absurd h List.not_mem_nil
theorem zxic_r1 : ∀ q ∈ zxicL1, zxicP zNW 1 q.1 q.2 := fun _ h => absurd h List.not_mem_nil
theorem zxic_r2 : ∀ q ∈ zxicL2, zxicP zNW 2 q.1 q.2 := fun _ h => absurd h List.not_mem_nil
theorem zxic_r3 : ∀ q ∈ zxicL3, zxicP zNW 3 q.1 q.2 := fun _ h => absurd h List.not_mem_nil
theorem zxic_r4 : ∀ q ∈ zxicL4, zxicP zNW 4 q.1 q.2 := fun _ h => absurd h List.not_mem_nil
theorem zxic_r5 : ∀ q ∈ zxicL5, zxicP zNW 5 q.1 q.2 := fun _ h => absurd h List.not_mem_nil
theorem zxic_r6 : ∀ q ∈ zxicL6, zxicP zNW 6 q.1 q.2 := fun _ h => absurd h List.not_mem_nil
theorem zxic_7_88 : zxicP zNW 7 88 "java/lang/IllegalStateException" := ⟨"java/lang/RuntimeException", ["java/lang/Exception"], 7, prog_16_method_2_code, by decide +kernel, by decide +kernel, by decide +kernel, by decide, ⟨by decide +kernel, by decide +kernel, by decide +kernel, by decide +kernel⟩, (zwm 33 (by decide +kernel)), by
  have h : (zx_at (zown 7) 88 "java/lang/IllegalStateException" "java/lang/RuntimeException" ["java/lang/Exception"] 7 prog_16_method_2_code).all (fun w => vx_ot w && (decide (w ∈ zWS) || decide (w ∈ zNW))) = true := by decide +kernel
  intro w hw
  have h := List.all_eq_true.mp h w hw
  simp only [Bool.and_eq_true, Bool.or_eq_true, decide_eq_true_eq] at h
  exact h⟩
theorem zxic_7_113 : zxicP zNW 7 113 "java/util/NoSuchElementException" := ⟨"java/lang/RuntimeException", ["java/lang/Exception"], 13, prog_23_method_4_code, by decide +kernel, by decide +kernel, by decide +kernel, by decide, ⟨by decide +kernel, by decide +kernel, by decide +kernel, by decide +kernel⟩, (zwm 35 (by decide +kernel)), by
  have h : (zx_at (zown 7) 113 "java/util/NoSuchElementException" "java/lang/RuntimeException" ["java/lang/Exception"] 13 prog_23_method_4_code).all (fun w => vx_ot w && (decide (w ∈ zWS) || decide (w ∈ zNW))) = true := by decide +kernel
  intro w hw
  have h := List.all_eq_true.mp h w hw
  simp only [Bool.and_eq_true, Bool.or_eq_true, decide_eq_true_eq] at h
  exact h⟩
theorem zxic_7_118 : zxicP zNW 7 118 "java/lang/IllegalArgumentException" := ⟨"java/lang/RuntimeException", ["java/lang/Exception"], 7, prog_15_method_2_code, by decide +kernel, by decide +kernel, by decide +kernel, by decide, ⟨by decide +kernel, by decide +kernel, by decide +kernel, by decide +kernel⟩, (zwm 32 (by decide +kernel)), by
  have h : (zx_at (zown 7) 118 "java/lang/IllegalArgumentException" "java/lang/RuntimeException" ["java/lang/Exception"] 7 prog_15_method_2_code).all (fun w => vx_ot w && (decide (w ∈ zWS) || decide (w ∈ zNW))) = true := by decide +kernel
  intro w hw
  have h := List.all_eq_true.mp h w hw
  simp only [Bool.and_eq_true, Bool.or_eq_true, decide_eq_true_eq] at h
  exact h⟩
theorem zxic_7_162 : zxicP zNW 7 162 "java/lang/UnsupportedOperationException" := ⟨"java/lang/RuntimeException", ["java/lang/Exception"], 7, prog_22_method_2_code, by decide +kernel, by decide +kernel, by decide +kernel, by decide, ⟨by decide +kernel, by decide +kernel, by decide +kernel, by decide +kernel⟩, (zwm 36 (by decide +kernel)), by
  have h : (zx_at (zown 7) 162 "java/lang/UnsupportedOperationException" "java/lang/RuntimeException" ["java/lang/Exception"] 7 prog_22_method_2_code).all (fun w => vx_ot w && (decide (w ∈ zWS) || decide (w ∈ zNW))) = true := by decide +kernel
  intro w hw
  have h := List.all_eq_true.mp h w hw
  simp only [Bool.and_eq_true, Bool.or_eq_true, decide_eq_true_eq] at h
  exact h⟩
theorem zxic_7_244 : zxicP zNW 7 244 "java/lang/ArithmeticException" := ⟨"java/lang/RuntimeException", ["java/lang/Exception"], 7, prog_12_method_2_code, by decide +kernel, by decide +kernel, by decide +kernel, by decide, ⟨by decide +kernel, by decide +kernel, by decide +kernel, by decide +kernel⟩, (zwm 37 (by decide +kernel)), by
  have h : (zx_at (zown 7) 244 "java/lang/ArithmeticException" "java/lang/RuntimeException" ["java/lang/Exception"] 7 prog_12_method_2_code).all (fun w => vx_ot w && (decide (w ∈ zWS) || decide (w ∈ zNW))) = true := by decide +kernel
  intro w hw
  have h := List.all_eq_true.mp h w hw
  simp only [Bool.and_eq_true, Bool.or_eq_true, decide_eq_true_eq] at h
  exact h⟩
theorem zxic_7_298 : zxicP zNW 7 298 "java/lang/IndexOutOfBoundsException" := ⟨"java/lang/RuntimeException", ["java/lang/Exception"], 7, prog_17_method_2_code, by decide +kernel, by decide +kernel, by decide +kernel, by decide, ⟨by decide +kernel, by decide +kernel, by decide +kernel, by decide +kernel⟩, (zwm 29 (by decide +kernel)), by
  have h : (zx_at (zown 7) 298 "java/lang/IndexOutOfBoundsException" "java/lang/RuntimeException" ["java/lang/Exception"] 7 prog_17_method_2_code).all (fun w => vx_ot w && (decide (w ∈ zWS) || decide (w ∈ zNW))) = true := by decide +kernel
  intro w hw
  have h := List.all_eq_true.mp h w hw
  simp only [Bool.and_eq_true, Bool.or_eq_true, decide_eq_true_eq] at h
  exact h⟩
theorem zxic_r7 : ∀ q ∈ zxicL7, zxicP zNW 7 q.1 q.2 := List.forall_mem_cons.mpr ⟨zxic_7_88, List.forall_mem_cons.mpr ⟨zxic_7_113, List.forall_mem_cons.mpr ⟨zxic_7_118, List.forall_mem_cons.mpr ⟨zxic_7_162, List.forall_mem_cons.mpr ⟨zxic_7_244, List.forall_mem_cons.mpr ⟨zxic_7_298, fun _ h => absurd h List.not_mem_nil⟩⟩⟩⟩⟩⟩
theorem zxic_r8 : ∀ q ∈ zxicL8, zxicP zNW 8 q.1 q.2 := fun _ h => absurd h List.not_mem_nil
theorem zxic_r9 : ∀ q ∈ zxicL9, zxicP zNW 9 q.1 q.2 := fun _ h => absurd h List.not_mem_nil
theorem zxic_ok : ∀ c k E, zxic c k = some E → zxicP zNW c k E := by
  intro c k v h
  refine ztab_all (P := (zxicP zNW)) (fun c r hr => ?_) h
  match c, hr with
  | 0, hr => cases hr; exact zxic_r0
  | 1, hr => cases hr; exact zxic_r1
  | 2, hr => cases hr; exact zxic_r2
  | 3, hr => cases hr; exact zxic_r3
  | 4, hr => cases hr; exact zxic_r4
  | 5, hr => cases hr; exact zxic_r5
  | 6, hr => cases hr; exact zxic_r6
  | 7, hr => cases hr; exact zxic_r7
  | 8, hr => cases hr; exact zxic_r8
  | 9, hr => cases hr; exact zxic_r9
  | n + 10, hr => simp [zxicL] at hr
theorem zstr_r0 : ∀ q ∈ zstrL0, (fun c k tx => (zown c, k, tx) ∈ zTX) 0 q.1 q.2 := fun _ h => absurd h List.not_mem_nil
theorem zstr_r1 : ∀ q ∈ zstrL1, (fun c k tx => (zown c, k, tx) ∈ zTX) 1 q.1 q.2 := fun _ h => absurd h List.not_mem_nil
theorem zstr_r2 : ∀ q ∈ zstrL2, (fun c k tx => (zown c, k, tx) ∈ zTX) 2 q.1 q.2 := fun _ h => absurd h List.not_mem_nil
theorem zstr_r3 : ∀ q ∈ zstrL3, (fun c k tx => (zown c, k, tx) ∈ zTX) 3 q.1 q.2 := fun _ h => absurd h List.not_mem_nil
theorem zstr_r4 : ∀ q ∈ zstrL4, (fun c k tx => (zown c, k, tx) ∈ zTX) 4 q.1 q.2 := fun _ h => absurd h List.not_mem_nil
theorem zstr_r5 : ∀ q ∈ zstrL5, (fun c k tx => (zown c, k, tx) ∈ zTX) 5 q.1 q.2 := fun _ h => absurd h List.not_mem_nil
theorem zstr_r6 : ∀ q ∈ zstrL6, (fun c k tx => (zown c, k, tx) ∈ zTX) 6 q.1 q.2 := fun _ h => absurd h List.not_mem_nil
theorem zstr_7_86 : (fun c k tx => (zown c, k, tx) ∈ zTX) 7 86 "no block is open" := by decide +kernel
theorem zstr_7_98 : (fun c k tx => (zown c, k, tx) ∈ zTX) 7 98 "the entry is no name" := by decide +kernel
theorem zstr_7_111 : (fun c k tx => (zown c, k, tx) ∈ zTX) 7 111 "there is no name" := by decide +kernel
theorem zstr_7_116 : (fun c k tx => (zown c, k, tx) ∈ zTX) 7 116 "the last entry is ahead of the first one" := by decide +kernel
theorem zstr_7_160 : (fun c k tx => (zown c, k, tx) ∈ zTX) 7 160 "too many findings can be fixed" := by decide +kernel
theorem zstr_7_174 : (fun c k tx => (zown c, k, tx) ∈ zTX) 7 174 "the finding cannot be fixed" := by decide +kernel
theorem zstr_7_182 : (fun c k tx => (zown c, k, tx) ∈ zTX) 7 182 "no finding can be fixed" := by decide +kernel
theorem zstr_7_184 : (fun c k tx => (zown c, k, tx) ∈ zTX) 7 184 "both names are the same" := by decide +kernel
theorem zstr_7_186 : (fun c k tx => (zown c, k, tx) ∈ zTX) 7 186 "the name does not occur" := by decide +kernel
theorem zstr_7_191 : (fun c k tx => (zown c, k, tx) ∈ zTX) 7 191 "the name is pinned, or the new one occurs" := by decide +kernel
theorem zstr_7_197 : (fun c k tx => (zown c, k, tx) ∈ zTX) 7 197 "both places are the same" := by decide +kernel
theorem zstr_7_212 : (fun c k tx => (zown c, k, tx) ∈ zTX) 7 212 "an entry there is pinned, a beginning or an end" := by decide +kernel
theorem zstr_7_218 : (fun c k tx => (zown c, k, tx) ∈ zTX) 7 218 "no deed can be undone" := by decide +kernel
theorem zstr_7_232 : (fun c k tx => (zown c, k, tx) ∈ zTX) 7 232 "there is no such rank" := by decide +kernel
theorem zstr_7_248 : (fun c k tx => (zown c, k, tx) ∈ zTX) 7 248 "the width is out of range" := by decide +kernel
theorem zstr_7_260 : (fun c k tx => (zown c, k, tx) ∈ zTX) 7 260 "there are too many entries" := by decide +kernel
theorem zstr_7_272 : (fun c k tx => (zown c, k, tx) ∈ zTX) 7 272 "there is no such line" := by decide +kernel
theorem zstr_7_278 : (fun c k tx => (zown c, k, tx) ∈ zTX) 7 278 "there are no entries" := by decide +kernel
theorem zstr_7_288 : (fun c k tx => (zown c, k, tx) ∈ zTX) 7 288 "the name is out of range" := by decide +kernel
theorem zstr_7_290 : (fun c k tx => (zown c, k, tx) ∈ zTX) 7 290 "the length is out of range" := by decide +kernel
theorem zstr_7_292 : (fun c k tx => (zown c, k, tx) ∈ zTX) 7 292 "there is no such rule" := by decide +kernel
theorem zstr_7_296 : (fun c k tx => (zown c, k, tx) ∈ zTX) 7 296 "there is no such entry" := by decide +kernel
theorem zstr_7_299 : (fun c k tx => (zown c, k, tx) ∈ zTX) 7 299 "there is no such finding" := by decide +kernel
theorem zstr_7_301 : (fun c k tx => (zown c, k, tx) ∈ zTX) 7 301 "the text is not laid out" := by decide +kernel
theorem zstr_7_303 : (fun c k tx => (zown c, k, tx) ∈ zTX) 7 303 "there are as many entries as there can be" := by decide +kernel
theorem zstr_r7 : ∀ q ∈ zstrL7, (fun c k tx => (zown c, k, tx) ∈ zTX) 7 q.1 q.2 := List.forall_mem_cons.mpr ⟨zstr_7_86, List.forall_mem_cons.mpr ⟨zstr_7_98, List.forall_mem_cons.mpr ⟨zstr_7_111, List.forall_mem_cons.mpr ⟨zstr_7_116, List.forall_mem_cons.mpr ⟨zstr_7_160, List.forall_mem_cons.mpr ⟨zstr_7_174, List.forall_mem_cons.mpr ⟨zstr_7_182, List.forall_mem_cons.mpr ⟨zstr_7_184, List.forall_mem_cons.mpr ⟨zstr_7_186, List.forall_mem_cons.mpr ⟨zstr_7_191, List.forall_mem_cons.mpr ⟨zstr_7_197, List.forall_mem_cons.mpr ⟨zstr_7_212, List.forall_mem_cons.mpr ⟨zstr_7_218, List.forall_mem_cons.mpr ⟨zstr_7_232, List.forall_mem_cons.mpr ⟨zstr_7_248, List.forall_mem_cons.mpr ⟨zstr_7_260, List.forall_mem_cons.mpr ⟨zstr_7_272, List.forall_mem_cons.mpr ⟨zstr_7_278, List.forall_mem_cons.mpr ⟨zstr_7_288, List.forall_mem_cons.mpr ⟨zstr_7_290, List.forall_mem_cons.mpr ⟨zstr_7_292, List.forall_mem_cons.mpr ⟨zstr_7_296, List.forall_mem_cons.mpr ⟨zstr_7_299, List.forall_mem_cons.mpr ⟨zstr_7_301, List.forall_mem_cons.mpr ⟨zstr_7_303, fun _ h => absurd h List.not_mem_nil⟩⟩⟩⟩⟩⟩⟩⟩⟩⟩⟩⟩⟩⟩⟩⟩⟩⟩⟩⟩⟩⟩⟩⟩⟩
theorem zstr_r8 : ∀ q ∈ zstrL8, (fun c k tx => (zown c, k, tx) ∈ zTX) 8 q.1 q.2 := fun _ h => absurd h List.not_mem_nil
theorem zstr_r9 : ∀ q ∈ zstrL9, (fun c k tx => (zown c, k, tx) ∈ zTX) 9 q.1 q.2 := fun _ h => absurd h List.not_mem_nil
theorem zstr_ok : ∀ c k tx, zstr c k = some tx → (zown c, k, tx) ∈ zTX := by
  intro c k v h
  refine ztab_all (P := (fun c k tx => (zown c, k, tx) ∈ zTX)) (fun c r hr => ?_) h
  match c, hr with
  | 0, hr => cases hr; exact zstr_r0
  | 1, hr => cases hr; exact zstr_r1
  | 2, hr => cases hr; exact zstr_r2
  | 3, hr => cases hr; exact zstr_r3
  | 4, hr => cases hr; exact zstr_r4
  | 5, hr => cases hr; exact zstr_r5
  | 6, hr => cases hr; exact zstr_r6
  | 7, hr => cases hr; exact zstr_r7
  | 8, hr => cases hr; exact zstr_r8
  | 9, hr => cases hr; exact zstr_r9
  | n + 10, hr => simp [zstrL] at hr
