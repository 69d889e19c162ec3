/-! what the claim's words say of the tables -/
theorem zwm {w : Cond} (i : Nat) (h : (match lw_tbl[i]? with | some w' => decide (w' = w) && goodWord w' | none => false) = true) : w ∈ zWS := by
  split at h
  · rename_i w' hw
    simp only [Bool.and_eq_true, decide_eq_true_eq] at h
    rw [← h.1]
    exact List.mem_filter.mpr ⟨List.mem_of_getElem? hw, h.2⟩
  · cases h
theorem zlook_mem {α : Type} : ∀ {r : List (Nat × α)} {k : Nat} {v : α}, zlook r k = some v → (k, v) ∈ r
  | [], _, _, h => by simp [zlook] at h
  | x :: r, k, v, h => by
    unfold zlook at h
    cases hb : Nat.beq x.1 k with
    | true =>
      rw [hb, cond_true] at h
      have e1 := Nat.eq_of_beq_eq_true hb
      cases h
      rw [← e1]
      exact List.mem_cons_self
    | false => rw [hb, cond_false] at h; exact List.mem_cons_of_mem _ (zlook_mem h)
theorem ztab_all {α : Type} {l : List (List (Nat × α))} {P : Nat → Nat → α → Prop} (h : ∀ c r, l[c]? = some r → ∀ q ∈ r, P c q.1 q.2) {c k : Nat} {v : α} (hv : ztab l c k = some v) : P c k v := by
  unfold ztab at hv
  split at hv
  · rename_i r hr
    exact h c r hr (k, v) (zlook_mem hv)
  · cases hv
theorem zu_0 : ∀ w ∈ u_ws RX0 TX0 2, w ∈ zWS := by
  intro w hw
  obtain ⟨k, hk, rfl⟩ := List.mem_map.mp hw
  have hk := List.mem_range.mp hk
  match k, hk with
  | 0, _ => exact zwm 179 (by decide +kernel)
  | 1, _ => exact zwm 181 (by decide +kernel)
  | k + 2, hk => exact absurd hk (by omega)
theorem zfi_0 : ∀ k, k < 2 → (TX0 k).1 = RX0 ∧ ∃ b, zfit (zfty 0 k) b (tyX0 k) := by
  intro k hk
  match k, hk with
  | 0, _ => exact ⟨rfl, false, Or.inr (Or.inr (Or.inr ⟨rfl, rfl, Or.inr ⟨_, rfl⟩⟩))⟩
  | 1, _ => exact ⟨rfl, false, Or.inr (Or.inr (Or.inr ⟨rfl, rfl, Or.inr ⟨_, rfl⟩⟩))⟩
  | k + 2, hk => exact absurd hk (by omega)
theorem zfo_0 : ∀ k, 2 ≤ k → zfty 0 k = 0 := by
  intro k hk
  show (match ([1, 1] : List Nat)[k]? with | some t => t | none => 0) = 0
  rw [List.getElem?_eq_none hk]
theorem zcp_0 : zclP 0 RX0 TX0 2 tyX0 := ⟨rfl, zu_0, tyX0_ok, nmX0, zfi_0, zfo_0⟩
theorem zu_1 : ∀ w ∈ u_ws RX1 TX1 2, w ∈ zWS := by
  intro w hw
  obtain ⟨k, hk, rfl⟩ := List.mem_map.mp hw
  have hk := List.mem_range.mp hk
  match k, hk with
  | 0, _ => exact zwm 134 (by decide +kernel)
  | 1, _ => exact zwm 136 (by decide +kernel)
  | k + 2, hk => exact absurd hk (by omega)
theorem zfi_1 : ∀ k, k < 2 → (TX1 k).1 = RX1 ∧ ∃ b, zfit (zfty 1 k) b (tyX1 k) := by
  intro k hk
  match k, hk with
  | 0, _ => exact ⟨rfl, false, Or.inr (Or.inr (Or.inr ⟨rfl, rfl, Or.inl ⟨_, rfl⟩⟩))⟩
  | 1, _ => exact ⟨rfl, false, Or.inr (Or.inr (Or.inr ⟨rfl, rfl, Or.inr ⟨_, rfl⟩⟩))⟩
  | k + 2, hk => exact absurd hk (by omega)
theorem zfo_1 : ∀ k, 2 ≤ k → zfty 1 k = 0 := by
  intro k hk
  show (match ([1, 1] : List Nat)[k]? with | some t => t | none => 0) = 0
  rw [List.getElem?_eq_none hk]
theorem zcp_1 : zclP 1 RX1 TX1 2 tyX1 := ⟨rfl, zu_1, tyX1_ok, nmX1, zfi_1, zfo_1⟩
theorem zu_2 : ∀ w ∈ u_ws RX2 TX2 3, w ∈ zWS := by
  intro w hw
  obtain ⟨k, hk, rfl⟩ := List.mem_map.mp hw
  have hk := List.mem_range.mp hk
  match k, hk with
  | 0, _ => exact zwm 142 (by decide +kernel)
  | 1, _ => exact zwm 144 (by decide +kernel)
  | 2, _ => exact zwm 146 (by decide +kernel)
  | k + 3, hk => exact absurd hk (by omega)
theorem zfi_2 : ∀ k, k < 3 → (TX2 k).1 = RX2 ∧ ∃ b, zfit (zfty 2 k) b (tyX2 k) := by
  intro k hk
  match k, hk with
  | 0, _ => exact ⟨rfl, false, Or.inr (Or.inr (Or.inr ⟨rfl, rfl, Or.inr ⟨_, rfl⟩⟩))⟩
  | 1, _ => exact ⟨rfl, false, Or.inl ⟨rfl, rfl, rfl⟩⟩
  | 2, _ => exact ⟨rfl, false, Or.inl ⟨rfl, rfl, rfl⟩⟩
  | k + 3, hk => exact absurd hk (by omega)
theorem zfo_2 : ∀ k, 3 ≤ k → zfty 2 k = 0 := by
  intro k hk
  show (match ([1, 0, 0] : List Nat)[k]? with | some t => t | none => 0) = 0
  rw [List.getElem?_eq_none hk]
theorem zcp_2 : zclP 2 RX2 TX2 3 tyX2 := ⟨rfl, zu_2, tyX2_ok, nmX2, zfi_2, zfo_2⟩
theorem zu_3 : ∀ w ∈ u_ws RX3 TX3 5, w ∈ zWS := by
  intro w hw
  obtain ⟨k, hk, rfl⟩ := List.mem_map.mp hw
  have hk := List.mem_range.mp hk
  match k, hk with
  | 0, _ => exact zwm 160 (by decide +kernel)
  | 1, _ => exact zwm 162 (by decide +kernel)
  | 2, _ => exact zwm 164 (by decide +kernel)
  | 3, _ => exact zwm 166 (by decide +kernel)
  | 4, _ => exact zwm 168 (by decide +kernel)
  | k + 5, hk => exact absurd hk (by omega)
theorem zfi_3 : ∀ k, k < 5 → (TX3 k).1 = RX3 ∧ ∃ b, zfit (zfty 3 k) b (tyX3 k) := by
  intro k hk
  match k, hk with
  | 0, _ => exact ⟨rfl, false, Or.inr (Or.inr (Or.inr ⟨rfl, rfl, Or.inr ⟨_, rfl⟩⟩))⟩
  | 1, _ => exact ⟨rfl, false, Or.inr (Or.inr (Or.inr ⟨rfl, rfl, Or.inr ⟨_, rfl⟩⟩))⟩
  | 2, _ => exact ⟨rfl, false, Or.inr (Or.inr (Or.inr ⟨rfl, rfl, Or.inr ⟨_, rfl⟩⟩))⟩
  | 3, _ => exact ⟨rfl, false, Or.inr (Or.inr (Or.inr ⟨rfl, rfl, Or.inr ⟨_, rfl⟩⟩))⟩
  | 4, _ => exact ⟨rfl, false, Or.inl ⟨rfl, rfl, rfl⟩⟩
  | k + 5, hk => exact absurd hk (by omega)
theorem zfo_3 : ∀ k, 5 ≤ k → zfty 3 k = 0 := by
  intro k hk
  show (match ([1, 1, 1, 1, 0] : List Nat)[k]? with | some t => t | none => 0) = 0
  rw [List.getElem?_eq_none hk]
theorem zcp_3 : zclP 3 RX3 TX3 5 tyX3 := ⟨rfl, zu_3, tyX3_ok, nmX3, zfi_3, zfo_3⟩
theorem zu_4 : ∀ w ∈ u_ws RX4 TX4 4, w ∈ zWS := by
  intro w hw
  obtain ⟨k, hk, rfl⟩ := List.mem_map.mp hw
  have hk := List.mem_range.mp hk
  match k, hk with
  | 0, _ => exact zwm 194 (by decide +kernel)
  | 1, _ => exact zwm 196 (by decide +kernel)
  | 2, _ => exact zwm 198 (by decide +kernel)
  | 3, _ => exact zwm 200 (by decide +kernel)
  | k + 4, hk => exact absurd hk (by omega)
theorem zfi_4 : ∀ k, k < 4 → (TX4 k).1 = RX4 ∧ ∃ b, zfit (zfty 4 k) b (tyX4 k) := by
  intro k hk
  match k, hk with
  | 0, _ => exact ⟨rfl, false, Or.inr (Or.inr (Or.inr ⟨rfl, rfl, Or.inr ⟨_, rfl⟩⟩))⟩
  | 1, _ => exact ⟨rfl, false, Or.inr (Or.inr (Or.inr ⟨rfl, rfl, Or.inr ⟨_, rfl⟩⟩))⟩
  | 2, _ => exact ⟨rfl, false, Or.inr (Or.inr (Or.inr ⟨rfl, rfl, Or.inr ⟨_, rfl⟩⟩))⟩
  | 3, _ => exact ⟨rfl, false, Or.inl ⟨rfl, rfl, rfl⟩⟩
  | k + 4, hk => exact absurd hk (by omega)
theorem zfo_4 : ∀ k, 4 ≤ k → zfty 4 k = 0 := by
  intro k hk
  show (match ([1, 1, 1, 0] : List Nat)[k]? with | some t => t | none => 0) = 0
  rw [List.getElem?_eq_none hk]
theorem zcp_4 : zclP 4 RX4 TX4 4 tyX4 := ⟨rfl, zu_4, tyX4_ok, nmX4, zfi_4, zfo_4⟩
theorem zu_5 : ∀ w ∈ u_ws RX5 TX5 3, w ∈ zWS := by
  intro w hw
  obtain ⟨k, hk, rfl⟩ := List.mem_map.mp hw
  have hk := List.mem_range.mp hk
  match k, hk with
  | 0, _ => exact zwm 110 (by decide +kernel)
  | 1, _ => exact zwm 112 (by decide +kernel)
  | 2, _ => exact zwm 114 (by decide +kernel)
  | k + 3, hk => exact absurd hk (by omega)
theorem zfi_5 : ∀ k, k < 3 → (TX5 k).1 = RX5 ∧ ∃ b, zfit (zfty 5 k) b (tyX5 k) := by
  intro k hk
  match k, hk with
  | 0, _ => exact ⟨rfl, false, Or.inr (Or.inr (Or.inr ⟨rfl, rfl, Or.inr ⟨_, rfl⟩⟩))⟩
  | 1, _ => exact ⟨rfl, false, Or.inr (Or.inr (Or.inr ⟨rfl, rfl, Or.inr ⟨_, rfl⟩⟩))⟩
  | 2, _ => exact ⟨rfl, false, Or.inl ⟨rfl, rfl, rfl⟩⟩
  | k + 3, hk => exact absurd hk (by omega)
theorem zfo_5 : ∀ k, 3 ≤ k → zfty 5 k = 0 := by
  intro k hk
  show (match ([1, 1, 0] : List Nat)[k]? with | some t => t | none => 0) = 0
  rw [List.getElem?_eq_none hk]
theorem zcp_5 : zclP 5 RX5 TX5 3 tyX5 := ⟨rfl, zu_5, tyX5_ok, nmX5, zfi_5, zfo_5⟩
theorem zu_6 : ∀ w ∈ u_ws RX6 TX6 5, w ∈ zWS := by
  intro w hw
  obtain ⟨k, hk, rfl⟩ := List.mem_map.mp hw
  have hk := List.mem_range.mp hk
  match k, hk with
  | 0, _ => exact zwm 79 (by decide +kernel)
  | 1, _ => exact zwm 81 (by decide +kernel)
  | 2, _ => exact zwm 83 (by decide +kernel)
  | 3, _ => exact zwm 85 (by decide +kernel)
  | 4, _ => exact zwm 87 (by decide +kernel)
  | k + 5, hk => exact absurd hk (by omega)
theorem zfi_6 : ∀ k, k < 5 → (TX6 k).1 = RX6 ∧ ∃ b, zfit (zfty 6 k) b (tyX6 k) := by
  intro k hk
  match k, hk with
  | 0, _ => exact ⟨rfl, false, Or.inr (Or.inr (Or.inr ⟨rfl, rfl, Or.inr ⟨_, rfl⟩⟩))⟩
  | 1, _ => exact ⟨rfl, false, Or.inr (Or.inr (Or.inr ⟨rfl, rfl, Or.inr ⟨_, rfl⟩⟩))⟩
  | 2, _ => exact ⟨rfl, false, Or.inr (Or.inr (Or.inr ⟨rfl, rfl, Or.inr ⟨_, rfl⟩⟩))⟩
  | 3, _ => exact ⟨rfl, false, Or.inr (Or.inr (Or.inr ⟨rfl, rfl, Or.inr ⟨_, rfl⟩⟩))⟩
  | 4, _ => exact ⟨rfl, false, Or.inl ⟨rfl, rfl, rfl⟩⟩
  | k + 5, hk => exact absurd hk (by omega)
theorem zfo_6 : ∀ k, 5 ≤ k → zfty 6 k = 0 := by
  intro k hk
  show (match ([1, 1, 1, 1, 0] : List Nat)[k]? with | some t => t | none => 0) = 0
  rw [List.getElem?_eq_none hk]
theorem zcp_6 : zclP 6 RX6 TX6 5 tyX6 := ⟨rfl, zu_6, tyX6_ok, nmX6, zfi_6, zfo_6⟩
theorem zu_7 : ∀ w ∈ u_ws RX7 TX7 9, w ∈ zWS := by
  intro w hw
  obtain ⟨k, hk, rfl⟩ := List.mem_map.mp hw
  have hk := List.mem_range.mp hk
  match k, hk with
  | 0, _ => exact zwm 212 (by decide +kernel)
  | 1, _ => exact zwm 214 (by decide +kernel)
  | 2, _ => exact zwm 216 (by decide +kernel)
  | 3, _ => exact zwm 218 (by decide +kernel)
  | 4, _ => exact zwm 220 (by decide +kernel)
  | 5, _ => exact zwm 222 (by decide +kernel)
  | 6, _ => exact zwm 224 (by decide +kernel)
  | 7, _ => exact zwm 226 (by decide +kernel)
  | 8, _ => exact zwm 228 (by decide +kernel)
  | k + 9, hk => exact absurd hk (by omega)
theorem zfi_7 : ∀ k, k < 9 → (TX7 k).1 = RX7 ∧ ∃ b, zfit (zfty 7 k) b (tyX7 k) := by
  intro k hk
  match k, hk with
  | 0, _ => exact ⟨rfl, false, Or.inr (Or.inr (Or.inr ⟨rfl, rfl, Or.inl ⟨_, rfl⟩⟩))⟩
  | 1, _ => exact ⟨rfl, false, Or.inr (Or.inr (Or.inr ⟨rfl, rfl, Or.inl ⟨_, rfl⟩⟩))⟩
  | 2, _ => exact ⟨rfl, false, Or.inr (Or.inr (Or.inr ⟨rfl, rfl, Or.inl ⟨_, rfl⟩⟩))⟩
  | 3, _ => exact ⟨rfl, false, Or.inr (Or.inr (Or.inr ⟨rfl, rfl, Or.inl ⟨_, rfl⟩⟩))⟩
  | 4, _ => exact ⟨rfl, false, Or.inr (Or.inr (Or.inr ⟨rfl, rfl, Or.inl ⟨_, rfl⟩⟩))⟩
  | 5, _ => exact ⟨rfl, false, Or.inr (Or.inr (Or.inr ⟨rfl, rfl, Or.inl ⟨_, rfl⟩⟩))⟩
  | 6, _ => exact ⟨rfl, false, Or.inr (Or.inr (Or.inr ⟨rfl, rfl, Or.inl ⟨_, rfl⟩⟩))⟩
  | 7, _ => exact ⟨rfl, false, Or.inl ⟨rfl, rfl, rfl⟩⟩
  | 8, _ => exact ⟨rfl, true, Or.inr (Or.inl ⟨rfl, rfl, rfl⟩)⟩
  | k + 9, hk => exact absurd hk (by omega)
theorem zfo_7 : ∀ k, 9 ≤ k → zfty 7 k = 0 := by
  intro k hk
  show (match ([1, 1, 1, 1, 1, 1, 1, 0, 0] : List Nat)[k]? with | some t => t | none => 0) = 0
  rw [List.getElem?_eq_none hk]
theorem zcp_7 : zclP 7 RX7 TX7 9 tyX7 := ⟨rfl, zu_7, tyX7_ok, nmX7, zfi_7, zfo_7⟩
theorem zu_8 : ∀ w ∈ u_ws RX8 TX8 26, w ∈ zWS := by
  intro w hw
  obtain ⟨k, hk, rfl⟩ := List.mem_map.mp hw
  have hk := List.mem_range.mp hk
  match k, hk with
  | 0, _ => exact zwm 1069 (by decide +kernel)
  | 1, _ => exact zwm 1071 (by decide +kernel)
  | 2, _ => exact zwm 1073 (by decide +kernel)
  | 3, _ => exact zwm 1075 (by decide +kernel)
  | 4, _ => exact zwm 1077 (by decide +kernel)
  | 5, _ => exact zwm 1079 (by decide +kernel)
  | 6, _ => exact zwm 1081 (by decide +kernel)
  | 7, _ => exact zwm 1083 (by decide +kernel)
  | 8, _ => exact zwm 1085 (by decide +kernel)
  | 9, _ => exact zwm 1087 (by decide +kernel)
  | 10, _ => exact zwm 1089 (by decide +kernel)
  | 11, _ => exact zwm 1091 (by decide +kernel)
  | 12, _ => exact zwm 1093 (by decide +kernel)
  | 13, _ => exact zwm 1095 (by decide +kernel)
  | 14, _ => exact zwm 1097 (by decide +kernel)
  | 15, _ => exact zwm 1099 (by decide +kernel)
  | 16, _ => exact zwm 1101 (by decide +kernel)
  | 17, _ => exact zwm 1103 (by decide +kernel)
  | 18, _ => exact zwm 1105 (by decide +kernel)
  | 19, _ => exact zwm 1107 (by decide +kernel)
  | 20, _ => exact zwm 1109 (by decide +kernel)
  | 21, _ => exact zwm 1111 (by decide +kernel)
  | 22, _ => exact zwm 1113 (by decide +kernel)
  | 23, _ => exact zwm 1115 (by decide +kernel)
  | 24, _ => exact zwm 1117 (by decide +kernel)
  | 25, _ => exact zwm 1119 (by decide +kernel)
  | k + 26, hk => exact absurd hk (by omega)
theorem zfi_8 : ∀ k, k < 26 → (TX8 k).1 = RX8 ∧ ∃ b, zfit (zfty 8 k) b (tyX8 k) := by
  intro k hk
  match k, hk with
  | 0, _ => exact ⟨rfl, false, Or.inl ⟨rfl, rfl, rfl⟩⟩
  | 1, _ => exact ⟨rfl, false, Or.inl ⟨rfl, rfl, rfl⟩⟩
  | 2, _ => exact ⟨rfl, false, Or.inr (Or.inr (Or.inr ⟨rfl, rfl, Or.inr ⟨_, rfl⟩⟩))⟩
  | 3, _ => exact ⟨rfl, false, Or.inr (Or.inr (Or.inr ⟨rfl, rfl, Or.inr ⟨_, rfl⟩⟩))⟩
  | 4, _ => exact ⟨rfl, false, Or.inr (Or.inr (Or.inr ⟨rfl, rfl, Or.inr ⟨_, rfl⟩⟩))⟩
  | 5, _ => exact ⟨rfl, false, Or.inr (Or.inr (Or.inr ⟨rfl, rfl, Or.inr ⟨_, rfl⟩⟩))⟩
  | 6, _ => exact ⟨rfl, false, Or.inl ⟨rfl, rfl, rfl⟩⟩
  | 7, _ => exact ⟨rfl, false, Or.inr (Or.inr (Or.inr ⟨rfl, rfl, Or.inr ⟨_, rfl⟩⟩))⟩
  | 8, _ => exact ⟨rfl, false, Or.inr (Or.inr (Or.inr ⟨rfl, rfl, Or.inr ⟨_, rfl⟩⟩))⟩
  | 9, _ => exact ⟨rfl, false, Or.inr (Or.inr (Or.inl ⟨rfl, rfl, rfl⟩))⟩
  | 10, _ => exact ⟨rfl, true, Or.inr (Or.inl ⟨rfl, rfl, rfl⟩)⟩
  | 11, _ => exact ⟨rfl, false, Or.inr (Or.inr (Or.inr ⟨rfl, rfl, Or.inr ⟨_, rfl⟩⟩))⟩
  | 12, _ => exact ⟨rfl, false, Or.inl ⟨rfl, rfl, rfl⟩⟩
  | 13, _ => exact ⟨rfl, false, Or.inr (Or.inr (Or.inr ⟨rfl, rfl, Or.inr ⟨_, rfl⟩⟩))⟩
  | 14, _ => exact ⟨rfl, false, Or.inr (Or.inr (Or.inr ⟨rfl, rfl, Or.inr ⟨_, rfl⟩⟩))⟩
  | 15, _ => exact ⟨rfl, false, Or.inr (Or.inr (Or.inr ⟨rfl, rfl, Or.inr ⟨_, rfl⟩⟩))⟩
  | 16, _ => exact ⟨rfl, false, Or.inr (Or.inr (Or.inr ⟨rfl, rfl, Or.inr ⟨_, rfl⟩⟩))⟩
  | 17, _ => exact ⟨rfl, false, Or.inr (Or.inr (Or.inr ⟨rfl, rfl, Or.inr ⟨_, rfl⟩⟩))⟩
  | 18, _ => exact ⟨rfl, false, Or.inr (Or.inr (Or.inr ⟨rfl, rfl, Or.inr ⟨_, rfl⟩⟩))⟩
  | 19, _ => exact ⟨rfl, false, Or.inl ⟨rfl, rfl, rfl⟩⟩
  | 20, _ => exact ⟨rfl, false, Or.inr (Or.inr (Or.inr ⟨rfl, rfl, Or.inr ⟨_, rfl⟩⟩))⟩
  | 21, _ => exact ⟨rfl, false, Or.inr (Or.inr (Or.inr ⟨rfl, rfl, Or.inr ⟨_, rfl⟩⟩))⟩
  | 22, _ => exact ⟨rfl, false, Or.inr (Or.inr (Or.inr ⟨rfl, rfl, Or.inr ⟨_, rfl⟩⟩))⟩
  | 23, _ => exact ⟨rfl, false, Or.inr (Or.inr (Or.inr ⟨rfl, rfl, Or.inr ⟨_, rfl⟩⟩))⟩
  | 24, _ => exact ⟨rfl, false, Or.inr (Or.inr (Or.inr ⟨rfl, rfl, Or.inr ⟨_, rfl⟩⟩))⟩
  | 25, _ => exact ⟨rfl, false, Or.inr (Or.inr (Or.inr ⟨rfl, rfl, Or.inr ⟨_, rfl⟩⟩))⟩
  | k + 26, hk => exact absurd hk (by omega)
theorem zfo_8 : ∀ k, 26 ≤ k → zfty 8 k = 0 := by
  intro k hk
  show (match ([0, 0, 1, 1, 1, 1, 0, 1, 1, 2, 0, 1, 0, 1, 1, 1, 1, 1, 1, 0, 1, 1, 1, 1, 1, 1] : List Nat)[k]? with | some t => t | none => 0) = 0
  rw [List.getElem?_eq_none hk]
theorem zcp_8 : zclP 8 RX8 TX8 26 tyX8 := ⟨rfl, zu_8, tyX8_ok, nmX8, zfi_8, zfo_8⟩
theorem zmp_X0_init : zMP mX0_init := ⟨rfl, by decide, by decide +kernel, kX0_init, zwm 175 (by decide +kernel), (zwm 45 (by decide +kernel)), ⟨by decide +kernel, by decide +kernel⟩, by decide⟩
theorem zmp_X0_sum : zMP mX0_sum := ⟨rfl, by decide, by decide +kernel, kX0_sum, zwm 341 (by decide +kernel), (zwm 45 (by decide +kernel)), ⟨by decide +kernel, by decide +kernel⟩, by decide⟩
theorem zmp_X0_holds : zMP mX0_holds := ⟨rfl, by decide, by decide +kernel, kX0_holds, zwm 429 (by decide +kernel), (zwm 45 (by decide +kernel)), ⟨by decide +kernel, by decide +kernel⟩, by decide⟩
theorem zmp_X0_choose : zMP mX0_choose := ⟨rfl, by decide, by decide +kernel, kX0_choose, zwm 303 (by decide +kernel), (zwm 45 (by decide +kernel)), ⟨by decide +kernel, by decide +kernel⟩, by decide⟩
theorem zmp_X0_hasClash : zMP mX0_hasClash := ⟨rfl, by decide, by decide +kernel, kX0_hasClash, zwm 425 (by decide +kernel), (zwm 45 (by decide +kernel)), ⟨by decide +kernel, by decide +kernel⟩, by decide⟩
theorem zmp_X0_sumUp : zMP mX0_sumUp := ⟨rfl, by decide, by decide +kernel, kX0_sumUp, zwm 307 (by decide +kernel), (zwm 45 (by decide +kernel)), ⟨by decide +kernel, by decide +kernel⟩, by decide⟩
theorem zmp_X0_sumWith : zMP mX0_sumWith := ⟨rfl, by decide, by decide +kernel, kX0_sumWith, zwm 314 (by decide +kernel), (zwm 45 (by decide +kernel)), ⟨by decide +kernel, by decide +kernel⟩, by decide⟩
theorem zmp_X0_isWorthTaking : zMP mX0_isWorthTaking := ⟨rfl, by decide, by decide +kernel, kX0_isWorthTaking, zwm 334 (by decide +kernel), (zwm 45 (by decide +kernel)), ⟨by decide +kernel, by decide +kernel⟩, by decide⟩
theorem zmp_X1_init : zMP mX1_init := ⟨rfl, by decide, by decide +kernel, kX1_init, zwm 128 (by decide +kernel), (zwm 43 (by decide +kernel)), ⟨by decide +kernel, by decide +kernel⟩, by decide⟩
theorem zmp_X1_start : zMP mX1_start := ⟨rfl, by decide, by decide +kernel, kX1_start, zwm 817 (by decide +kernel), (zwm 43 (by decide +kernel)), ⟨by decide +kernel, by decide +kernel⟩, by decide⟩
theorem zmp_X1_noteFix : zMP mX1_noteFix := ⟨rfl, by decide, by decide +kernel, kX1_noteFix, zwm 858 (by decide +kernel), (zwm 43 (by decide +kernel)), ⟨by decide +kernel, by decide +kernel⟩, by decide⟩
theorem zmp_X1_takeBack : zMP mX1_takeBack := ⟨rfl, by decide, by decide +kernel, kX1_takeBack, zwm 918 (by decide +kernel), (zwm 43 (by decide +kernel)), ⟨by decide +kernel, by decide +kernel⟩, by decide⟩
theorem zmp_X2_init : zMP mX2_init := ⟨rfl, by decide, by decide +kernel, kX2_init, zwm 121 (by decide +kernel), (zwm 42 (by decide +kernel)), ⟨by decide +kernel, by decide +kernel⟩, by decide⟩
theorem zmp_X2_count : zMP mX2_count := ⟨rfl, by decide, by decide +kernel, kX2_count, zwm 909 (by decide +kernel), (zwm 42 (by decide +kernel)), ⟨by decide +kernel, by decide +kernel⟩, by decide⟩
theorem zmp_X2_forget : zMP mX2_forget := ⟨rfl, by decide, by decide +kernel, kX2_forget, zwm 564 (by decide +kernel), (zwm 42 (by decide +kernel)), ⟨by decide +kernel, by decide +kernel⟩, by decide⟩
theorem zmp_X2_keep : zMP mX2_keep := ⟨rfl, by decide, by decide +kernel, kX2_keep, zwm 808 (by decide +kernel), (zwm 42 (by decide +kernel)), ⟨by decide +kernel, by decide +kernel⟩, by decide⟩
theorem zmp_X2_noteFix : zMP mX2_noteFix := ⟨rfl, by decide, by decide +kernel, kX2_noteFix, zwm 854 (by decide +kernel), (zwm 42 (by decide +kernel)), ⟨by decide +kernel, by decide +kernel⟩, by decide⟩
theorem zmp_X2_takeBack : zMP mX2_takeBack := ⟨rfl, by decide, by decide +kernel, kX2_takeBack, zwm 914 (by decide +kernel), (zwm 42 (by decide +kernel)), ⟨by decide +kernel, by decide +kernel⟩, by decide⟩
theorem zmp_X2_newestDeed : zMP mX2_newestDeed := ⟨rfl, by decide, by decide +kernel, kX2_newestDeed, zwm 813 (by decide +kernel), (zwm 42 (by decide +kernel)), ⟨by decide +kernel, by decide +kernel⟩, by decide⟩
theorem zmp_X3_init : zMP mX3_init := ⟨rfl, by decide, by decide +kernel, kX3_init, zwm 153 (by decide +kernel), (zwm 44 (by decide +kernel)), ⟨by decide +kernel, by decide +kernel⟩, by decide⟩
theorem zmp_X3_count : zMP mX3_count := ⟨rfl, by decide, by decide +kernel, kX3_count, zwm 291 (by decide +kernel), (zwm 44 (by decide +kernel)), ⟨by decide +kernel, by decide +kernel⟩, by decide⟩
theorem zmp_X3_rule : zMP mX3_rule := ⟨rfl, by decide, by decide +kernel, kX3_rule, zwm 739 (by decide +kernel), (zwm 44 (by decide +kernel)), ⟨by decide +kernel, by decide +kernel⟩, by decide⟩
theorem zmp_X3_first : zMP mX3_first := ⟨rfl, by decide, by decide +kernel, kX3_first, zwm 318 (by decide +kernel), (zwm 44 (by decide +kernel)), ⟨by decide +kernel, by decide +kernel⟩, by decide⟩
theorem zmp_X3_last : zMP mX3_last := ⟨rfl, by decide, by decide +kernel, kX3_last, zwm 323 (by decide +kernel), (zwm 44 (by decide +kernel)), ⟨by decide +kernel, by decide +kernel⟩, by decide⟩
theorem zmp_X3_gain : zMP mX3_gain := ⟨rfl, by decide, by decide +kernel, kX3_gain, zwm 327 (by decide +kernel), (zwm 44 (by decide +kernel)), ⟨by decide +kernel, by decide +kernel⟩, by decide⟩
theorem zmp_X3_fixable : zMP mX3_fixable := ⟨rfl, by decide, by decide +kernel, kX3_fixable, zwm 434 (by decide +kernel), (zwm 44 (by decide +kernel)), ⟨by decide +kernel, by decide +kernel⟩, by decide⟩
theorem zmp_X3_search : zMP mX3_search := ⟨rfl, by decide, by decide +kernel, kX3_search, zwm 246 (by decide +kernel), (zwm 44 (by decide +kernel)), ⟨by decide +kernel, by decide +kernel⟩, by decide⟩
theorem zmp_X3_ruleOfPair : zMP mX3_ruleOfPair := ⟨rfl, by decide, by decide +kernel, kX3_ruleOfPair, zwm 250 (by decide +kernel), (zwm 44 (by decide +kernel)), ⟨by decide +kernel, by decide +kernel⟩, by decide⟩
theorem zmp_X3_isNameInBlock : zMP mX3_isNameInBlock := ⟨rfl, by decide, by decide +kernel, kX3_isNameInBlock, zwm 287 (by decide +kernel), (zwm 44 (by decide +kernel)), ⟨by decide +kernel, by decide +kernel⟩, by decide⟩
theorem zmp_X3_note : zMP mX3_note := ⟨rfl, by decide, by decide +kernel, kX3_note, zwm 269 (by decide +kernel), (zwm 44 (by decide +kernel)), ⟨by decide +kernel, by decide +kernel⟩, by decide⟩
theorem zmp_X4_init : zMP mX4_init := ⟨rfl, by decide, by decide +kernel, kX4_init, zwm 188 (by decide +kernel), (zwm 46 (by decide +kernel)), ⟨by decide +kernel, by decide +kernel⟩, by decide⟩
theorem zmp_X4_lines : zMP mX4_lines := ⟨rfl, by decide, by decide +kernel, kX4_lines, zwm 377 (by decide +kernel), (zwm 46 (by decide +kernel)), ⟨by decide +kernel, by decide +kernel⟩, by decide⟩
theorem zmp_X4_least : zMP mX4_least := ⟨rfl, by decide, by decide +kernel, kX4_least, zwm 389 (by decide +kernel), (zwm 46 (by decide +kernel)), ⟨by decide +kernel, by decide +kernel⟩, by decide⟩
theorem zmp_X4_divide : zMP mX4_divide := ⟨rfl, by decide, by decide +kernel, kX4_divide, zwm 349 (by decide +kernel), (zwm 46 (by decide +kernel)), ⟨by decide +kernel, by decide +kernel⟩, by decide⟩
theorem zmp_X4_lineHolding : zMP mX4_lineHolding := ⟨rfl, by decide, by decide +kernel, kX4_lineHolding, zwm 413 (by decide +kernel), (zwm 46 (by decide +kernel)), ⟨by decide +kernel, by decide +kernel⟩, by decide⟩
theorem zmp_X4_widthOfLine : zMP mX4_widthOfLine := ⟨rfl, by decide, by decide +kernel, kX4_widthOfLine, zwm 405 (by decide +kernel), (zwm 46 (by decide +kernel)), ⟨by decide +kernel, by decide +kernel⟩, by decide⟩
theorem zmp_X4_sumOfCosts : zMP mX4_sumOfCosts := ⟨rfl, by decide, by decide +kernel, kX4_sumOfCosts, zwm 401 (by decide +kernel), (zwm 46 (by decide +kernel)), ⟨by decide +kernel, by decide +kernel⟩, by decide⟩
theorem zmp_X4_isSameAs : zMP mX4_isSameAs := ⟨rfl, by decide, by decide +kernel, kX4_isSameAs, zwm 409 (by decide +kernel), (zwm 46 (by decide +kernel)), ⟨by decide +kernel, by decide +kernel⟩, by decide⟩
theorem zmp_X4_chooseLineFrom : zMP mX4_chooseLineFrom := ⟨rfl, by decide, by decide +kernel, kX4_chooseLineFrom, zwm 355 (by decide +kernel), (zwm 46 (by decide +kernel)), ⟨by decide +kernel, by decide +kernel⟩, by decide⟩
theorem zmp_X5_init : zMP mX5_init := ⟨rfl, by decide, by decide +kernel, kX5_init, zwm 97 (by decide +kernel), (zwm 41 (by decide +kernel)), ⟨by decide +kernel, by decide +kernel⟩, by decide⟩
theorem zmp_X5_weightFor : zMP mX5_weightFor := ⟨rfl, by decide, by decide +kernel, kX5_weightFor, zwm 281 (by decide +kernel), (zwm 41 (by decide +kernel)), ⟨by decide +kernel, by decide +kernel⟩, by decide⟩
theorem zmp_X5_undoneFor : zMP mX5_undoneFor := ⟨rfl, by decide, by decide +kernel, kX5_undoneFor, zwm 926 (by decide +kernel), (zwm 41 (by decide +kernel)), ⟨by decide +kernel, by decide +kernel⟩, by decide⟩
theorem zmp_X5_allFixed : zMP mX5_allFixed := ⟨rfl, by decide, by decide +kernel, kX5_allFixed, zwm 983 (by decide +kernel), (zwm 41 (by decide +kernel)), ⟨by decide +kernel, by decide +kernel⟩, by decide⟩
theorem zmp_X5_allUndone : zMP mX5_allUndone := ⟨rfl, by decide, by decide +kernel, kX5_allUndone, zwm 990 (by decide +kernel), (zwm 41 (by decide +kernel)), ⟨by decide +kernel, by decide +kernel⟩, by decide⟩
theorem zmp_X5_rankFor : zMP mX5_rankFor := ⟨rfl, by decide, by decide +kernel, kX5_rankFor, zwm 949 (by decide +kernel), (zwm 41 (by decide +kernel)), ⟨by decide +kernel, by decide +kernel⟩, by decide⟩
theorem zmp_X5_reward : zMP mX5_reward := ⟨rfl, by decide, by decide +kernel, kX5_reward, zwm 848 (by decide +kernel), (zwm 41 (by decide +kernel)), ⟨by decide +kernel, by decide +kernel⟩, by decide⟩
theorem zmp_X5_punish : zMP mX5_punish := ⟨rfl, by decide, by decide +kernel, kX5_punish, zwm 922 (by decide +kernel), (zwm 41 (by decide +kernel)), ⟨by decide +kernel, by decide +kernel⟩, by decide⟩
theorem zmp_X6_init : zMP mX6_init := ⟨rfl, by decide, by decide +kernel, kX6_init, zwm 72 (by decide +kernel), (zwm 40 (by decide +kernel)), ⟨by decide +kernel, by decide +kernel⟩, by decide⟩
theorem zmp_X6_size : zMP mX6_size := ⟨rfl, by decide, by decide +kernel, kX6_size, zwm 238 (by decide +kernel), (zwm 40 (by decide +kernel)), ⟨by decide +kernel, by decide +kernel⟩, by decide⟩
theorem zmp_X6_kindAt : zMP mX6_kindAt := ⟨rfl, by decide, by decide +kernel, kX6_kindAt, zwm 254 (by decide +kernel), (zwm 40 (by decide +kernel)), ⟨by decide +kernel, by decide +kernel⟩, by decide⟩
theorem zmp_X6_nameAt : zMP mX6_nameAt := ⟨rfl, by decide, by decide +kernel, kX6_nameAt, zwm 258 (by decide +kernel), (zwm 40 (by decide +kernel)), ⟨by decide +kernel, by decide +kernel⟩, by decide⟩
theorem zmp_X6_lengthAt : zMP mX6_lengthAt := ⟨rfl, by decide, by decide +kernel, kX6_lengthAt, zwm 364 (by decide +kernel), (zwm 40 (by decide +kernel)), ⟨by decide +kernel, by decide +kernel⟩, by decide⟩
theorem zmp_X6_pinnedAt : zMP mX6_pinnedAt := ⟨rfl, by decide, by decide +kernel, kX6_pinnedAt, zwm 273 (by decide +kernel), (zwm 40 (by decide +kernel)), ⟨by decide +kernel, by decide +kernel⟩, by decide⟩
theorem zmp_X6_setPinned : zMP mX6_setPinned := ⟨rfl, by decide, by decide +kernel, kX6_setPinned, zwm 716 (by decide +kernel), (zwm 40 (by decide +kernel)), ⟨by decide +kernel, by decide +kernel⟩, by decide⟩
theorem zmp_X6_widthAt : zMP mX6_widthAt := ⟨rfl, by decide, by decide +kernel, kX6_widthAt, zwm 360 (by decide +kernel), (zwm 40 (by decide +kernel)), ⟨by decide +kernel, by decide +kernel⟩, by decide⟩
theorem zmp_X6_openAhead : zMP mX6_openAhead := ⟨rfl, by decide, by decide +kernel, kX6_openAhead, zwm 586 (by decide +kernel), (zwm 40 (by decide +kernel)), ⟨by decide +kernel, by decide +kernel⟩, by decide⟩
theorem zmp_X6_depthAt : zMP mX6_depthAt := ⟨rfl, by decide, by decide +kernel, kX6_depthAt, zwm 582 (by decide +kernel), (zwm 40 (by decide +kernel)), ⟨by decide +kernel, by decide +kernel⟩, by decide⟩
theorem zmp_X6_isNamed : zMP mX6_isNamed := ⟨rfl, by decide, by decide +kernel, kX6_isNamed, zwm 263 (by decide +kernel), (zwm 40 (by decide +kernel)), ⟨by decide +kernel, by decide +kernel⟩, by decide⟩
theorem zmp_X6_timesOf : zMP mX6_timesOf := ⟨rfl, by decide, by decide +kernel, kX6_timesOf, zwm 678 (by decide +kernel), (zwm 40 (by decide +kernel)), ⟨by decide +kernel, by decide +kernel⟩, by decide⟩
theorem zmp_X6_hasPinned : zMP mX6_hasPinned := ⟨rfl, by decide, by decide +kernel, kX6_hasPinned, zwm 880 (by decide +kernel), (zwm 40 (by decide +kernel)), ⟨by decide +kernel, by decide +kernel⟩, by decide⟩
theorem zmp_X6_allMovable : zMP mX6_allMovable := ⟨rfl, by decide, by decide +kernel, kX6_allMovable, zwm 897 (by decide +kernel), (zwm 40 (by decide +kernel)), ⟨by decide +kernel, by decide +kernel⟩, by decide⟩
theorem zmp_X6_canBreakBehind : zMP mX6_canBreakBehind := ⟨rfl, by decide, by decide +kernel, kX6_canBreakBehind, zwm 372 (by decide +kernel), (zwm 40 (by decide +kernel)), ⟨by decide +kernel, by decide +kernel⟩, by decide⟩
theorem zmp_X6_add : zMP mX6_add := ⟨rfl, by decide, by decide +kernel, kX6_add, zwm 554 (by decide +kernel), (zwm 40 (by decide +kernel)), ⟨by decide +kernel, by decide +kernel⟩, by decide⟩
theorem zmp_X6_replaceName : zMP mX6_replaceName := ⟨rfl, by decide, by decide +kernel, kX6_replaceName, zwm 885 (by decide +kernel), (zwm 40 (by decide +kernel)), ⟨by decide +kernel, by decide +kernel⟩, by decide⟩
theorem zmp_X6_takeAway : zMP mX6_takeAway := ⟨rfl, by decide, by decide +kernel, kX6_takeAway, zwm 834 (by decide +kernel), (zwm 40 (by decide +kernel)), ⟨by decide +kernel, by decide +kernel⟩, by decide⟩
theorem zmp_X6_carry : zMP mX6_carry := ⟨rfl, by decide, by decide +kernel, kX6_carry, zwm 838 (by decide +kernel), (zwm 40 (by decide +kernel)), ⟨by decide +kernel, by decide +kernel⟩, by decide⟩
theorem zmp_X6_joinWithNext : zMP mX6_joinWithNext := ⟨rfl, by decide, by decide +kernel, kX6_joinWithNext, zwm 842 (by decide +kernel), (zwm 40 (by decide +kernel)), ⟨by decide +kernel, by decide +kernel⟩, by decide⟩
theorem zmp_X6_copyFrom : zMP mX6_copyFrom := ⟨rfl, by decide, by decide +kernel, kX6_copyFrom, zwm 821 (by decide +kernel), (zwm 40 (by decide +kernel)), ⟨by decide +kernel, by decide +kernel⟩, by decide⟩
theorem zmp_X6_copyEntry : zMP mX6_copyEntry := ⟨rfl, by decide, by decide +kernel, kX6_copyEntry, zwm 825 (by decide +kernel), (zwm 40 (by decide +kernel)), ⟨by decide +kernel, by decide +kernel⟩, by decide⟩
theorem zmp_X6_put : zMP mX6_put := ⟨rfl, by decide, by decide +kernel, kX6_put, zwm 558 (by decide +kernel), (zwm 40 (by decide +kernel)), ⟨by decide +kernel, by decide +kernel⟩, by decide⟩
theorem zmp_X7_init : zMP mX7_init := ⟨rfl, by decide, by decide +kernel, kX7_init, zwm 64 (by decide +kernel), (zwm 39 (by decide +kernel)), ⟨by decide +kernel, by decide +kernel⟩, by decide⟩
theorem zmp_X7_addName : zMP mX7_addName := ⟨rfl, by decide, by decide +kernel, kX7_addName, zwm 451 (by decide +kernel), (zwm 39 (by decide +kernel)), ⟨by decide +kernel, by decide +kernel⟩, by decide⟩
theorem zmp_X7_addComment : zMP mX7_addComment := ⟨rfl, by decide, by decide +kernel, kX7_addComment, zwm 571 (by decide +kernel), (zwm 39 (by decide +kernel)), ⟨by decide +kernel, by decide +kernel⟩, by decide⟩
theorem zmp_X7_begin : zMP mX7_begin := ⟨rfl, by decide, by decide +kernel, kX7_begin, zwm 578 (by decide +kernel), (zwm 39 (by decide +kernel)), ⟨by decide +kernel, by decide +kernel⟩, by decide⟩
theorem zmp_X7_end : zMP mX7_end := ⟨rfl, by decide, by decide +kernel, kX7_end, zwm 593 (by decide +kernel), (zwm 39 (by decide +kernel)), ⟨by decide +kernel, by decide +kernel⟩, by decide⟩
theorem zmp_X7_entries : zMP mX7_entries := ⟨rfl, by decide, by decide +kernel, kX7_entries, zwm 234 (by decide +kernel), (zwm 39 (by decide +kernel)), ⟨by decide +kernel, by decide +kernel⟩, by decide⟩
theorem zmp_X7_kindOf : zMP mX7_kindOf := ⟨rfl, by decide, by decide +kernel, kX7_kindOf, zwm 626 (by decide +kernel), (zwm 39 (by decide +kernel)), ⟨by decide +kernel, by decide +kernel⟩, by decide⟩
theorem zmp_X7_nameOf : zMP mX7_nameOf := ⟨rfl, by decide, by decide +kernel, kX7_nameOf, zwm 651 (by decide +kernel), (zwm 39 (by decide +kernel)), ⟨by decide +kernel, by decide +kernel⟩, by decide⟩
theorem zmp_X7_widthOf : zMP mX7_widthOf := ⟨rfl, by decide, by decide +kernel, kX7_widthOf, zwm 660 (by decide +kernel), (zwm 39 (by decide +kernel)), ⟨by decide +kernel, by decide +kernel⟩, by decide⟩
theorem zmp_X7_depthOf : zMP mX7_depthOf := ⟨rfl, by decide, by decide +kernel, kX7_depthOf, zwm 667 (by decide +kernel), (zwm 39 (by decide +kernel)), ⟨by decide +kernel, by decide +kernel⟩, by decide⟩
theorem zmp_X7_occurrences : zMP mX7_occurrences := ⟨rfl, by decide, by decide +kernel, kX7_occurrences, zwm 674 (by decide +kernel), (zwm 39 (by decide +kernel)), ⟨by decide +kernel, by decide +kernel⟩, by decide⟩
theorem zmp_X7_commonest : zMP mX7_commonest := ⟨rfl, by decide, by decide +kernel, kX7_commonest, zwm 687 (by decide +kernel), (zwm 39 (by decide +kernel)), ⟨by decide +kernel, by decide +kernel⟩, by decide⟩
theorem zmp_X7_pin : zMP mX7_pin := ⟨rfl, by decide, by decide +kernel, kX7_pin, zwm 710 (by decide +kernel), (zwm 39 (by decide +kernel)), ⟨by decide +kernel, by decide +kernel⟩, by decide⟩
theorem zmp_X7_isPinned : zMP mX7_isPinned := ⟨rfl, by decide, by decide +kernel, kX7_isPinned, zwm 723 (by decide +kernel), (zwm 39 (by decide +kernel)), ⟨by decide +kernel, by decide +kernel⟩, by decide⟩
theorem zmp_X7_findings : zMP mX7_findings := ⟨rfl, by decide, by decide +kernel, kX7_findings, zwm 242 (by decide +kernel), (zwm 39 (by decide +kernel)), ⟨by decide +kernel, by decide +kernel⟩, by decide⟩
theorem zmp_X7_ruleOf : zMP mX7_ruleOf := ⟨rfl, by decide, by decide +kernel, kX7_ruleOf, zwm 730 (by decide +kernel), (zwm 39 (by decide +kernel)), ⟨by decide +kernel, by decide +kernel⟩, by decide⟩
theorem zmp_X7_firstOf : zMP mX7_firstOf := ⟨rfl, by decide, by decide +kernel, kX7_firstOf, zwm 746 (by decide +kernel), (zwm 39 (by decide +kernel)), ⟨by decide +kernel, by decide +kernel⟩, by decide⟩
theorem zmp_X7_lastOf : zMP mX7_lastOf := ⟨rfl, by decide, by decide +kernel, kX7_lastOf, zwm 753 (by decide +kernel), (zwm 39 (by decide +kernel)), ⟨by decide +kernel, by decide +kernel⟩, by decide⟩
theorem zmp_X7_canFix : zMP mX7_canFix := ⟨rfl, by decide, by decide +kernel, kX7_canFix, zwm 760 (by decide +kernel), (zwm 39 (by decide +kernel)), ⟨by decide +kernel, by decide +kernel⟩, by decide⟩
theorem zmp_X7_best : zMP mX7_best := ⟨rfl, by decide, by decide +kernel, kX7_best, zwm 295 (by decide +kernel), (zwm 39 (by decide +kernel)), ⟨by decide +kernel, by decide +kernel⟩, by decide⟩
theorem zmp_X7_bestByTrying : zMP mX7_bestByTrying := ⟨rfl, by decide, by decide +kernel, kX7_bestByTrying, zwm 768 (by decide +kernel), (zwm 39 (by decide +kernel)), ⟨by decide +kernel, by decide +kernel⟩, by decide⟩
theorem zmp_X7_isInBest : zMP mX7_isInBest := ⟨rfl, by decide, by decide +kernel, kX7_isInBest, zwm 791 (by decide +kernel), (zwm 39 (by decide +kernel)), ⟨by decide +kernel, by decide +kernel⟩, by decide⟩
theorem zmp_X7_fix : zMP mX7_fix := ⟨rfl, by decide, by decide +kernel, kX7_fix, zwm 799 (by decide +kernel), (zwm 39 (by decide +kernel)), ⟨by decide +kernel, by decide +kernel⟩, by decide⟩
theorem zmp_X7_fixBest : zMP mX7_fixBest := ⟨rfl, by decide, by decide +kernel, kX7_fixBest, zwm 866 (by decide +kernel), (zwm 39 (by decide +kernel)), ⟨by decide +kernel, by decide +kernel⟩, by decide⟩
theorem zmp_X7_rename : zMP mX7_rename := ⟨rfl, by decide, by decide +kernel, kX7_rename, zwm 874 (by decide +kernel), (zwm 39 (by decide +kernel)), ⟨by decide +kernel, by decide +kernel⟩, by decide⟩
theorem zmp_X7_move : zMP mX7_move := ⟨rfl, by decide, by decide +kernel, kX7_move, zwm 892 (by decide +kernel), (zwm 39 (by decide +kernel)), ⟨by decide +kernel, by decide +kernel⟩, by decide⟩
theorem zmp_X7_undo : zMP mX7_undo := ⟨rfl, by decide, by decide +kernel, kX7_undo, zwm 905 (by decide +kernel), (zwm 39 (by decide +kernel)), ⟨by decide +kernel, by decide +kernel⟩, by decide⟩
theorem zmp_X7_weight : zMP mX7_weight := ⟨rfl, by decide, by decide +kernel, kX7_weight, zwm 933 (by decide +kernel), (zwm 39 (by decide +kernel)), ⟨by decide +kernel, by decide +kernel⟩, by decide⟩
theorem zmp_X7_ruleAt : zMP mX7_ruleAt := ⟨rfl, by decide, by decide +kernel, kX7_ruleAt, zwm 945 (by decide +kernel), (zwm 39 (by decide +kernel)), ⟨by decide +kernel, by decide +kernel⟩, by decide⟩
theorem zmp_X7_undone : zMP mX7_undone := ⟨rfl, by decide, by decide +kernel, kX7_undone, zwm 957 (by decide +kernel), (zwm 39 (by decide +kernel)), ⟨by decide +kernel, by decide +kernel⟩, by decide⟩
theorem zmp_X7_undoneShare : zMP mX7_undoneShare := ⟨rfl, by decide, by decide +kernel, kX7_undoneShare, zwm 979 (by decide +kernel), (zwm 39 (by decide +kernel)), ⟨by decide +kernel, by decide +kernel⟩, by decide⟩
theorem zmp_X7_setWidth : zMP mX7_setWidth := ⟨rfl, by decide, by decide +kernel, kX7_setWidth, zwm 997 (by decide +kernel), (zwm 39 (by decide +kernel)), ⟨by decide +kernel, by decide +kernel⟩, by decide⟩
theorem zmp_X7_layOut : zMP mX7_layOut := ⟨rfl, by decide, by decide +kernel, kX7_layOut, zwm 345 (by decide +kernel), (zwm 39 (by decide +kernel)), ⟨by decide +kernel, by decide +kernel⟩, by decide⟩
theorem zmp_X7_isLaidOut : zMP mX7_isLaidOut := ⟨rfl, by decide, by decide +kernel, kX7_isLaidOut, zwm 381 (by decide +kernel), (zwm 39 (by decide +kernel)), ⟨by decide +kernel, by decide +kernel⟩, by decide⟩
theorem zmp_X7_cost : zMP mX7_cost := ⟨rfl, by decide, by decide +kernel, kX7_cost, zwm 385 (by decide +kernel), (zwm 39 (by decide +kernel)), ⟨by decide +kernel, by decide +kernel⟩, by decide⟩
theorem zmp_X7_costByTrying : zMP mX7_costByTrying := ⟨rfl, by decide, by decide +kernel, kX7_costByTrying, zwm 1005 (by decide +kernel), (zwm 39 (by decide +kernel)), ⟨by decide +kernel, by decide +kernel⟩, by decide⟩
theorem zmp_X7_lineOf : zMP mX7_lineOf := ⟨rfl, by decide, by decide +kernel, kX7_lineOf, zwm 1013 (by decide +kernel), (zwm 39 (by decide +kernel)), ⟨by decide +kernel, by decide +kernel⟩, by decide⟩
theorem zmp_X7_lineWidth : zMP mX7_lineWidth := ⟨rfl, by decide, by decide +kernel, kX7_lineWidth, zwm 1026 (by decide +kernel), (zwm 39 (by decide +kernel)), ⟨by decide +kernel, by decide +kernel⟩, by decide⟩
theorem zmp_X7_meanWidth : zMP mX7_meanWidth := ⟨rfl, by decide, by decide +kernel, kX7_meanWidth, zwm 1035 (by decide +kernel), (zwm 39 (by decide +kernel)), ⟨by decide +kernel, by decide +kernel⟩, by decide⟩
theorem zmp_X7_isTidy : zMP mX7_isTidy := ⟨rfl, by decide, by decide +kernel, kX7_isTidy, zwm 393 (by decide +kernel), (zwm 39 (by decide +kernel)), ⟨by decide +kernel, by decide +kernel⟩, by decide⟩
theorem zmp_X7_needName : zMP mX7_needName := ⟨rfl, by decide, by decide +kernel, kX7_needName, zwm 454 (by decide +kernel), (zwm 39 (by decide +kernel)), ⟨by decide +kernel, by decide +kernel⟩, by decide⟩
theorem zmp_X7_needLength : zMP mX7_needLength := ⟨rfl, by decide, by decide +kernel, kX7_needLength, zwm 529 (by decide +kernel), (zwm 39 (by decide +kernel)), ⟨by decide +kernel, by decide +kernel⟩, by decide⟩
theorem zmp_X7_needRule : zMP mX7_needRule := ⟨rfl, by decide, by decide +kernel, kX7_needRule, zwm 936 (by decide +kernel), (zwm 39 (by decide +kernel)), ⟨by decide +kernel, by decide +kernel⟩, by decide⟩
theorem zmp_X7_needEntry : zMP mX7_needEntry := ⟨rfl, by decide, by decide +kernel, kX7_needEntry, zwm 630 (by decide +kernel), (zwm 39 (by decide +kernel)), ⟨by decide +kernel, by decide +kernel⟩, by decide⟩
theorem zmp_X7_needFinding : zMP mX7_needFinding := ⟨rfl, by decide, by decide +kernel, kX7_needFinding, zwm 734 (by decide +kernel), (zwm 39 (by decide +kernel)), ⟨by decide +kernel, by decide +kernel⟩, by decide⟩
theorem zmp_X7_needLayout : zMP mX7_needLayout := ⟨rfl, by decide, by decide +kernel, kX7_needLayout, zwm 1017 (by decide +kernel), (zwm 39 (by decide +kernel)), ⟨by decide +kernel, by decide +kernel⟩, by decide⟩
theorem zmp_X7_append : zMP mX7_append := ⟨rfl, by decide, by decide +kernel, kX7_append, zwm 534 (by decide +kernel), (zwm 39 (by decide +kernel)), ⟨by decide +kernel, by decide +kernel⟩, by decide⟩
theorem zmp_X7_startDeed : zMP mX7_startDeed := ⟨rfl, by decide, by decide +kernel, kX7_startDeed, zwm 804 (by decide +kernel), (zwm 39 (by decide +kernel)), ⟨by decide +kernel, by decide +kernel⟩, by decide⟩
theorem zmp_X7_chooseBest : zMP mX7_chooseBest := ⟨rfl, by decide, by decide +kernel, kX7_chooseBest, zwm 299 (by decide +kernel), (zwm 39 (by decide +kernel)), ⟨by decide +kernel, by decide +kernel⟩, by decide⟩
theorem zmp_X7_applyFix : zMP mX7_applyFix := ⟨rfl, by decide, by decide +kernel, kX7_applyFix, zwm 830 (by decide +kernel), (zwm 39 (by decide +kernel)), ⟨by decide +kernel, by decide +kernel⟩, by decide⟩
theorem zmp_X7_shownIsLikeTried : zMP mX7_shownIsLikeTried := ⟨rfl, by decide, by decide +kernel, kX7_shownIsLikeTried, zwm 397 (by decide +kernel), (zwm 39 (by decide +kernel)), ⟨by decide +kernel, by decide +kernel⟩, by decide⟩
theorem zmp_X7_costOfLine : zMP mX7_costOfLine := ⟨rfl, by decide, by decide +kernel, kX7_costOfLine, zwm 367 (by decide +kernel), (zwm 39 (by decide +kernel)), ⟨by decide +kernel, by decide +kernel⟩, by decide⟩
theorem zmp_X7_leastByTrying : zMP mX7_leastByTrying := ⟨rfl, by decide, by decide +kernel, kX7_leastByTrying, zwm 416 (by decide +kernel), (zwm 39 (by decide +kernel)), ⟨by decide +kernel, by decide +kernel⟩, by decide⟩
theorem zmp_X7_mostByTrying : zMP mX7_mostByTrying := ⟨rfl, by decide, by decide +kernel, kX7_mostByTrying, zwm 438 (by decide +kernel), (zwm 39 (by decide +kernel)), ⟨by decide +kernel, by decide +kernel⟩, by decide⟩
theorem zmp_X7_read : zMP mX7_read := ⟨rfl, by decide, by decide +kernel, kX7_read, zwm 103 (by decide +kernel), (zwm 39 (by decide +kernel)), ⟨by decide +kernel, by decide +kernel⟩, by decide⟩
theorem zmp_X7_write : zMP mX7_write := ⟨rfl, by decide, by decide +kernel, kX7_write, zwm 106 (by decide +kernel), (zwm 39 (by decide +kernel)), ⟨by decide +kernel, by decide +kernel⟩, by decide⟩
theorem zmp_X7_readFlag : zMP mX7_readFlag := ⟨rfl, by decide, by decide +kernel, kX7_readFlag, zwm 276 (by decide +kernel), (zwm 39 (by decide +kernel)), ⟨by decide +kernel, by decide +kernel⟩, by decide⟩
theorem zmp_X7_writeFlag : zMP mX7_writeFlag := ⟨rfl, by decide, by decide +kernel, kX7_writeFlag, zwm 337 (by decide +kernel), (zwm 39 (by decide +kernel)), ⟨by decide +kernel, by decide +kernel⟩, by decide⟩
theorem zmp_X8_init : zMP mX8_init := ⟨rfl, by decide, by decide +kernel, kX8_init, zwm 1041 (by decide +kernel), (zwm 47 (by decide +kernel)), ⟨by decide +kernel, by decide +kernel⟩, by decide⟩
theorem zmp_X8_thrown : zMP mX8_thrown := ⟨rfl, by decide, by decide +kernel, kX8_thrown, zwm 1126 (by decide +kernel), (zwm 47 (by decide +kernel)), ⟨by decide +kernel, by decide +kernel⟩, by decide⟩
theorem zmp_X8_in : zMP mX8_in := ⟨rfl, by decide, by decide +kernel, kX8_in, zwm 1136 (by decide +kernel), (zwm 47 (by decide +kernel)), ⟨by decide +kernel, by decide +kernel⟩, by decide⟩
theorem zmp_X8_fails : zMP mX8_fails := ⟨rfl, by decide, by decide +kernel, kX8_fails, zwm 1140 (by decide +kernel), (zwm 47 (by decide +kernel)), ⟨by decide +kernel, by decide +kernel⟩, by decide⟩
theorem zmp_X8_noEntry : zMP mX8_noEntry := ⟨rfl, by decide, by decide +kernel, kX8_noEntry, zwm 1176 (by decide +kernel), (zwm 47 (by decide +kernel)), ⟨by decide +kernel, by decide +kernel⟩, by decide⟩
theorem zmp_X8_isName : zMP mX8_isName := ⟨rfl, by decide, by decide +kernel, kX8_isName, zwm 1133 (by decide +kernel), (zwm 47 (by decide +kernel)), ⟨by decide +kernel, by decide +kernel⟩, by decide⟩
theorem zmp_X8_add : zMP mX8_add := ⟨rfl, by decide, by decide +kernel, kX8_add, zwm 1144 (by decide +kernel), (zwm 47 (by decide +kernel)), ⟨by decide +kernel, by decide +kernel⟩, by decide⟩
theorem zmp_X8_depth : zMP mX8_depth := ⟨rfl, by decide, by decide +kernel, kX8_depth, zwm 1156 (by decide +kernel), (zwm 47 (by decide +kernel)), ⟨by decide +kernel, by decide +kernel⟩, by decide⟩
theorem zmp_X8_open : zMP mX8_open := ⟨rfl, by decide, by decide +kernel, kX8_open, zwm 1164 (by decide +kernel), (zwm 47 (by decide +kernel)), ⟨by decide +kernel, by decide +kernel⟩, by decide⟩
theorem zmp_X8_addName : zMP mX8_addName := ⟨rfl, by decide, by decide +kernel, kX8_addName, zwm 1130 (by decide +kernel), (zwm 47 (by decide +kernel)), ⟨by decide +kernel, by decide +kernel⟩, by decide⟩
theorem zmp_X8_addComment : zMP mX8_addComment := ⟨rfl, by decide, by decide +kernel, kX8_addComment, zwm 1148 (by decide +kernel), (zwm 47 (by decide +kernel)), ⟨by decide +kernel, by decide +kernel⟩, by decide⟩
theorem zmp_X8_begin : zMP mX8_begin := ⟨rfl, by decide, by decide +kernel, kX8_begin, zwm 1152 (by decide +kernel), (zwm 47 (by decide +kernel)), ⟨by decide +kernel, by decide +kernel⟩, by decide⟩
theorem zmp_X8_end : zMP mX8_end := ⟨rfl, by decide, by decide +kernel, kX8_end, zwm 1160 (by decide +kernel), (zwm 47 (by decide +kernel)), ⟨by decide +kernel, by decide +kernel⟩, by decide⟩
theorem zmp_X8_entries : zMP mX8_entries := ⟨rfl, by decide, by decide +kernel, kX8_entries, zwm 1168 (by decide +kernel), (zwm 47 (by decide +kernel)), ⟨by decide +kernel, by decide +kernel⟩, by decide⟩
theorem zmp_X8_kindOf : zMP mX8_kindOf := ⟨rfl, by decide, by decide +kernel, kX8_kindOf, zwm 1172 (by decide +kernel), (zwm 47 (by decide +kernel)), ⟨by decide +kernel, by decide +kernel⟩, by decide⟩
theorem zmp_X8_nameOf : zMP mX8_nameOf := ⟨rfl, by decide, by decide +kernel, kX8_nameOf, zwm 1180 (by decide +kernel), (zwm 47 (by decide +kernel)), ⟨by decide +kernel, by decide +kernel⟩, by decide⟩
theorem zmp_X8_wide : zMP mX8_wide := ⟨rfl, by decide, by decide +kernel, kX8_wide, zwm 1188 (by decide +kernel), (zwm 47 (by decide +kernel)), ⟨by decide +kernel, by decide +kernel⟩, by decide⟩
theorem zmp_X8_widthOf : zMP mX8_widthOf := ⟨rfl, by decide, by decide +kernel, kX8_widthOf, zwm 1184 (by decide +kernel), (zwm 47 (by decide +kernel)), ⟨by decide +kernel, by decide +kernel⟩, by decide⟩
theorem zmp_X8_depthOf : zMP mX8_depthOf := ⟨rfl, by decide, by decide +kernel, kX8_depthOf, zwm 1192 (by decide +kernel), (zwm 47 (by decide +kernel)), ⟨by decide +kernel, by decide +kernel⟩, by decide⟩
theorem zmp_X8_occurs : zMP mX8_occurs := ⟨rfl, by decide, by decide +kernel, kX8_occurs, zwm 1200 (by decide +kernel), (zwm 47 (by decide +kernel)), ⟨by decide +kernel, by decide +kernel⟩, by decide⟩
theorem zmp_X8_occurrences : zMP mX8_occurrences := ⟨rfl, by decide, by decide +kernel, kX8_occurrences, zwm 1196 (by decide +kernel), (zwm 47 (by decide +kernel)), ⟨by decide +kernel, by decide +kernel⟩, by decide⟩
theorem zmp_X8_commonest : zMP mX8_commonest := ⟨rfl, by decide, by decide +kernel, kX8_commonest, zwm 1204 (by decide +kernel), (zwm 47 (by decide +kernel)), ⟨by decide +kernel, by decide +kernel⟩, by decide⟩
theorem zmp_X8_pin : zMP mX8_pin := ⟨rfl, by decide, by decide +kernel, kX8_pin, zwm 1208 (by decide +kernel), (zwm 47 (by decide +kernel)), ⟨by decide +kernel, by decide +kernel⟩, by decide⟩
theorem zmp_X8_isPinned : zMP mX8_isPinned := ⟨rfl, by decide, by decide +kernel, kX8_isPinned, zwm 1212 (by decide +kernel), (zwm 47 (by decide +kernel)), ⟨by decide +kernel, by decide +kernel⟩, by decide⟩
theorem zmp_X8_are : zMP mX8_are := ⟨rfl, by decide, by decide +kernel, kX8_are, zwm 1224 (by decide +kernel), (zwm 47 (by decide +kernel)), ⟨by decide +kernel, by decide +kernel⟩, by decide⟩
theorem zmp_X8_find : zMP mX8_find := ⟨rfl, by decide, by decide +kernel, kX8_find, zwm 1228 (by decide +kernel), (zwm 47 (by decide +kernel)), ⟨by decide +kernel, by decide +kernel⟩, by decide⟩
theorem zmp_X8_fixable : zMP mX8_fixable := ⟨rfl, by decide, by decide +kernel, kX8_fixable, zwm 1232 (by decide +kernel), (zwm 47 (by decide +kernel)), ⟨by decide +kernel, by decide +kernel⟩, by decide⟩
theorem zmp_X8_look : zMP mX8_look := ⟨rfl, by decide, by decide +kernel, kX8_look, zwm 1220 (by decide +kernel), (zwm 47 (by decide +kernel)), ⟨by decide +kernel, by decide +kernel⟩, by decide⟩
theorem zmp_X8_findings : zMP mX8_findings := ⟨rfl, by decide, by decide +kernel, kX8_findings, zwm 1216 (by decide +kernel), (zwm 47 (by decide +kernel)), ⟨by decide +kernel, by decide +kernel⟩, by decide⟩
theorem zmp_X8_noFinding : zMP mX8_noFinding := ⟨rfl, by decide, by decide +kernel, kX8_noFinding, zwm 1240 (by decide +kernel), (zwm 47 (by decide +kernel)), ⟨by decide +kernel, by decide +kernel⟩, by decide⟩
theorem zmp_X8_ruleOf : zMP mX8_ruleOf := ⟨rfl, by decide, by decide +kernel, kX8_ruleOf, zwm 1236 (by decide +kernel), (zwm 47 (by decide +kernel)), ⟨by decide +kernel, by decide +kernel⟩, by decide⟩
theorem zmp_X8_firstOf : zMP mX8_firstOf := ⟨rfl, by decide, by decide +kernel, kX8_firstOf, zwm 1244 (by decide +kernel), (zwm 47 (by decide +kernel)), ⟨by decide +kernel, by decide +kernel⟩, by decide⟩
theorem zmp_X8_lastOf : zMP mX8_lastOf := ⟨rfl, by decide, by decide +kernel, kX8_lastOf, zwm 1248 (by decide +kernel), (zwm 47 (by decide +kernel)), ⟨by decide +kernel, by decide +kernel⟩, by decide⟩
theorem zmp_X8_canFix : zMP mX8_canFix := ⟨rfl, by decide, by decide +kernel, kX8_canFix, zwm 1252 (by decide +kernel), (zwm 47 (by decide +kernel)), ⟨by decide +kernel, by decide +kernel⟩, by decide⟩
theorem zmp_X8_fixables : zMP mX8_fixables := ⟨rfl, by decide, by decide +kernel, kX8_fixables, zwm 1264 (by decide +kernel), (zwm 47 (by decide +kernel)), ⟨by decide +kernel, by decide +kernel⟩, by decide⟩
theorem zmp_X8_best : zMP mX8_best := ⟨rfl, by decide, by decide +kernel, kX8_best, zwm 1256 (by decide +kernel), (zwm 47 (by decide +kernel)), ⟨by decide +kernel, by decide +kernel⟩, by decide⟩
theorem zmp_X8_bestByTrying : zMP mX8_bestByTrying := ⟨rfl, by decide, by decide +kernel, kX8_bestByTrying, zwm 1260 (by decide +kernel), (zwm 47 (by decide +kernel)), ⟨by decide +kernel, by decide +kernel⟩, by decide⟩
theorem zmp_X8_isInBest : zMP mX8_isInBest := ⟨rfl, by decide, by decide +kernel, kX8_isInBest, zwm 1268 (by decide +kernel), (zwm 47 (by decide +kernel)), ⟨by decide +kernel, by decide +kernel⟩, by decide⟩
theorem zmp_X8_keep : zMP mX8_keep := ⟨rfl, by decide, by decide +kernel, kX8_keep, zwm 1276 (by decide +kernel), (zwm 47 (by decide +kernel)), ⟨by decide +kernel, by decide +kernel⟩, by decide⟩
theorem zmp_X8_put : zMP mX8_put := ⟨rfl, by decide, by decide +kernel, kX8_put, zwm 1288 (by decide +kernel), (zwm 47 (by decide +kernel)), ⟨by decide +kernel, by decide +kernel⟩, by decide⟩
theorem zmp_X8_remove : zMP mX8_remove := ⟨rfl, by decide, by decide +kernel, kX8_remove, zwm 1292 (by decide +kernel), (zwm 47 (by decide +kernel)), ⟨by decide +kernel, by decide +kernel⟩, by decide⟩
theorem zmp_X8_change : zMP mX8_change := ⟨rfl, by decide, by decide +kernel, kX8_change, zwm 1284 (by decide +kernel), (zwm 47 (by decide +kernel)), ⟨by decide +kernel, by decide +kernel⟩, by decide⟩
theorem zmp_X8_fixes : zMP mX8_fixes := ⟨rfl, by decide, by decide +kernel, kX8_fixes, zwm 1280 (by decide +kernel), (zwm 47 (by decide +kernel)), ⟨by decide +kernel, by decide +kernel⟩, by decide⟩
theorem zmp_X8_fix : zMP mX8_fix := ⟨rfl, by decide, by decide +kernel, kX8_fix, zwm 1272 (by decide +kernel), (zwm 47 (by decide +kernel)), ⟨by decide +kernel, by decide +kernel⟩, by decide⟩
theorem zmp_X8_fixBest : zMP mX8_fixBest := ⟨rfl, by decide, by decide +kernel, kX8_fixBest, zwm 1296 (by decide +kernel), (zwm 47 (by decide +kernel)), ⟨by decide +kernel, by decide +kernel⟩, by decide⟩
theorem zmp_X8_rename : zMP mX8_rename := ⟨rfl, by decide, by decide +kernel, kX8_rename, zwm 1300 (by decide +kernel), (zwm 47 (by decide +kernel)), ⟨by decide +kernel, by decide +kernel⟩, by decide⟩
theorem zmp_X8_move : zMP mX8_move := ⟨rfl, by decide, by decide +kernel, kX8_move, zwm 1304 (by decide +kernel), (zwm 47 (by decide +kernel)), ⟨by decide +kernel, by decide +kernel⟩, by decide⟩
theorem zmp_X8_undo : zMP mX8_undo := ⟨rfl, by decide, by decide +kernel, kX8_undo, zwm 1308 (by decide +kernel), (zwm 47 (by decide +kernel)), ⟨by decide +kernel, by decide +kernel⟩, by decide⟩
theorem zmp_X8_isRule : zMP mX8_isRule := ⟨rfl, by decide, by decide +kernel, kX8_isRule, zwm 1315 (by decide +kernel), (zwm 47 (by decide +kernel)), ⟨by decide +kernel, by decide +kernel⟩, by decide⟩
theorem zmp_X8_weight : zMP mX8_weight := ⟨rfl, by decide, by decide +kernel, kX8_weight, zwm 1312 (by decide +kernel), (zwm 47 (by decide +kernel)), ⟨by decide +kernel, by decide +kernel⟩, by decide⟩
theorem zmp_X8_ruleAt : zMP mX8_ruleAt := ⟨rfl, by decide, by decide +kernel, kX8_ruleAt, zwm 1319 (by decide +kernel), (zwm 47 (by decide +kernel)), ⟨by decide +kernel, by decide +kernel⟩, by decide⟩
theorem zmp_X8_undone : zMP mX8_undone := ⟨rfl, by decide, by decide +kernel, kX8_undone, zwm 1323 (by decide +kernel), (zwm 47 (by decide +kernel)), ⟨by decide +kernel, by decide +kernel⟩, by decide⟩
theorem zmp_X8_undoneShare : zMP mX8_undoneShare := ⟨rfl, by decide, by decide +kernel, kX8_undoneShare, zwm 1327 (by decide +kernel), (zwm 47 (by decide +kernel)), ⟨by decide +kernel, by decide +kernel⟩, by decide⟩
theorem zmp_X8_setWidth : zMP mX8_setWidth := ⟨rfl, by decide, by decide +kernel, kX8_setWidth, zwm 1331 (by decide +kernel), (zwm 47 (by decide +kernel)), ⟨by decide +kernel, by decide +kernel⟩, by decide⟩
theorem zmp_X8_span : zMP mX8_span := ⟨rfl, by decide, by decide +kernel, kX8_span, zwm 1348 (by decide +kernel), (zwm 47 (by decide +kernel)), ⟨by decide +kernel, by decide +kernel⟩, by decide⟩
theorem zmp_X8_costs : zMP mX8_costs := ⟨rfl, by decide, by decide +kernel, kX8_costs, zwm 1344 (by decide +kernel), (zwm 47 (by decide +kernel)), ⟨by decide +kernel, by decide +kernel⟩, by decide⟩
theorem zmp_X8_measure : zMP mX8_measure := ⟨rfl, by decide, by decide +kernel, kX8_measure, zwm 1339 (by decide +kernel), (zwm 47 (by decide +kernel)), ⟨by decide +kernel, by decide +kernel⟩, by decide⟩
theorem zmp_X8_layOut : zMP mX8_layOut := ⟨rfl, by decide, by decide +kernel, kX8_layOut, zwm 1335 (by decide +kernel), (zwm 47 (by decide +kernel)), ⟨by decide +kernel, by decide +kernel⟩, by decide⟩
theorem zmp_X8_isLaidOut : zMP mX8_isLaidOut := ⟨rfl, by decide, by decide +kernel, kX8_isLaidOut, zwm 1352 (by decide +kernel), (zwm 47 (by decide +kernel)), ⟨by decide +kernel, by decide +kernel⟩, by decide⟩
theorem zmp_X8_cost : zMP mX8_cost := ⟨rfl, by decide, by decide +kernel, kX8_cost, zwm 1356 (by decide +kernel), (zwm 47 (by decide +kernel)), ⟨by decide +kernel, by decide +kernel⟩, by decide⟩
theorem zmp_X8_costByTrying : zMP mX8_costByTrying := ⟨rfl, by decide, by decide +kernel, kX8_costByTrying, zwm 1360 (by decide +kernel), (zwm 47 (by decide +kernel)), ⟨by decide +kernel, by decide +kernel⟩, by decide⟩
theorem zmp_X8_lineOf : zMP mX8_lineOf := ⟨rfl, by decide, by decide +kernel, kX8_lineOf, zwm 1364 (by decide +kernel), (zwm 47 (by decide +kernel)), ⟨by decide +kernel, by decide +kernel⟩, by decide⟩
theorem zmp_X8_lineWidth : zMP mX8_lineWidth := ⟨rfl, by decide, by decide +kernel, kX8_lineWidth, zwm 1368 (by decide +kernel), (zwm 47 (by decide +kernel)), ⟨by decide +kernel, by decide +kernel⟩, by decide⟩
theorem zmp_X8_meanWidth : zMP mX8_meanWidth := ⟨rfl, by decide, by decide +kernel, kX8_meanWidth, zwm 1372 (by decide +kernel), (zwm 47 (by decide +kernel)), ⟨by decide +kernel, by decide +kernel⟩, by decide⟩
theorem zmp_X8_isTidy : zMP mX8_isTidy := ⟨rfl, by decide, by decide +kernel, kX8_isTidy, zwm 1376 (by decide +kernel), (zwm 47 (by decide +kernel)), ⟨by decide +kernel, by decide +kernel⟩, by decide⟩
theorem zmp_L_addName : zMP mL_addName := ⟨rfl, by decide, by decide +kernel, kL_addName, zwm 445 (by decide +kernel), (zwm 38 (by decide +kernel)), ⟨by decide +kernel, by decide +kernel⟩, by decide⟩
theorem zmp_L_addComment : zMP mL_addComment := ⟨rfl, by decide, by decide +kernel, kL_addComment, zwm 567 (by decide +kernel), (zwm 38 (by decide +kernel)), ⟨by decide +kernel, by decide +kernel⟩, by decide⟩
theorem zmp_L_begin : zMP mL_begin := ⟨rfl, by decide, by decide +kernel, kL_begin, zwm 574 (by decide +kernel), (zwm 38 (by decide +kernel)), ⟨by decide +kernel, by decide +kernel⟩, by decide⟩
theorem zmp_L_end : zMP mL_end := ⟨rfl, by decide, by decide +kernel, kL_end, zwm 589 (by decide +kernel), (zwm 38 (by decide +kernel)), ⟨by decide +kernel, by decide +kernel⟩, by decide⟩
theorem zmp_L_kindOf : zMP mL_kindOf := ⟨rfl, by decide, by decide +kernel, kL_kindOf, zwm 598 (by decide +kernel), (zwm 38 (by decide +kernel)), ⟨by decide +kernel, by decide +kernel⟩, by decide⟩
theorem zmp_L_nameOf : zMP mL_nameOf := ⟨rfl, by decide, by decide +kernel, kL_nameOf, zwm 647 (by decide +kernel), (zwm 38 (by decide +kernel)), ⟨by decide +kernel, by decide +kernel⟩, by decide⟩
theorem zmp_L_widthOf : zMP mL_widthOf := ⟨rfl, by decide, by decide +kernel, kL_widthOf, zwm 656 (by decide +kernel), (zwm 38 (by decide +kernel)), ⟨by decide +kernel, by decide +kernel⟩, by decide⟩
theorem zmp_L_depthOf : zMP mL_depthOf := ⟨rfl, by decide, by decide +kernel, kL_depthOf, zwm 663 (by decide +kernel), (zwm 38 (by decide +kernel)), ⟨by decide +kernel, by decide +kernel⟩, by decide⟩
theorem zmp_L_occurrences : zMP mL_occurrences := ⟨rfl, by decide, by decide +kernel, kL_occurrences, zwm 670 (by decide +kernel), (zwm 38 (by decide +kernel)), ⟨by decide +kernel, by decide +kernel⟩, by decide⟩
theorem zmp_L_commonest : zMP mL_commonest := ⟨rfl, by decide, by decide +kernel, kL_commonest, zwm 682 (by decide +kernel), (zwm 38 (by decide +kernel)), ⟨by decide +kernel, by decide +kernel⟩, by decide⟩
theorem zmp_L_pin : zMP mL_pin := ⟨rfl, by decide, by decide +kernel, kL_pin, zwm 706 (by decide +kernel), (zwm 38 (by decide +kernel)), ⟨by decide +kernel, by decide +kernel⟩, by decide⟩
theorem zmp_L_isPinned : zMP mL_isPinned := ⟨rfl, by decide, by decide +kernel, kL_isPinned, zwm 719 (by decide +kernel), (zwm 38 (by decide +kernel)), ⟨by decide +kernel, by decide +kernel⟩, by decide⟩
theorem zmp_L_ruleOf : zMP mL_ruleOf := ⟨rfl, by decide, by decide +kernel, kL_ruleOf, zwm 726 (by decide +kernel), (zwm 38 (by decide +kernel)), ⟨by decide +kernel, by decide +kernel⟩, by decide⟩
theorem zmp_L_firstOf : zMP mL_firstOf := ⟨rfl, by decide, by decide +kernel, kL_firstOf, zwm 742 (by decide +kernel), (zwm 38 (by decide +kernel)), ⟨by decide +kernel, by decide +kernel⟩, by decide⟩
theorem zmp_L_lastOf : zMP mL_lastOf := ⟨rfl, by decide, by decide +kernel, kL_lastOf, zwm 749 (by decide +kernel), (zwm 38 (by decide +kernel)), ⟨by decide +kernel, by decide +kernel⟩, by decide⟩
theorem zmp_L_canFix : zMP mL_canFix := ⟨rfl, by decide, by decide +kernel, kL_canFix, zwm 756 (by decide +kernel), (zwm 38 (by decide +kernel)), ⟨by decide +kernel, by decide +kernel⟩, by decide⟩
theorem zmp_L_bestByTrying : zMP mL_bestByTrying := ⟨rfl, by decide, by decide +kernel, kL_bestByTrying, zwm 763 (by decide +kernel), (zwm 38 (by decide +kernel)), ⟨by decide +kernel, by decide +kernel⟩, by decide⟩
theorem zmp_L_isInBest : zMP mL_isInBest := ⟨rfl, by decide, by decide +kernel, kL_isInBest, zwm 787 (by decide +kernel), (zwm 38 (by decide +kernel)), ⟨by decide +kernel, by decide +kernel⟩, by decide⟩
theorem zmp_L_fix : zMP mL_fix := ⟨rfl, by decide, by decide +kernel, kL_fix, zwm 795 (by decide +kernel), (zwm 38 (by decide +kernel)), ⟨by decide +kernel, by decide +kernel⟩, by decide⟩
theorem zmp_L_fixBest : zMP mL_fixBest := ⟨rfl, by decide, by decide +kernel, kL_fixBest, zwm 862 (by decide +kernel), (zwm 38 (by decide +kernel)), ⟨by decide +kernel, by decide +kernel⟩, by decide⟩
theorem zmp_L_rename : zMP mL_rename := ⟨rfl, by decide, by decide +kernel, kL_rename, zwm 870 (by decide +kernel), (zwm 38 (by decide +kernel)), ⟨by decide +kernel, by decide +kernel⟩, by decide⟩
theorem zmp_L_move : zMP mL_move := ⟨rfl, by decide, by decide +kernel, kL_move, zwm 888 (by decide +kernel), (zwm 38 (by decide +kernel)), ⟨by decide +kernel, by decide +kernel⟩, by decide⟩
theorem zmp_L_undo : zMP mL_undo := ⟨rfl, by decide, by decide +kernel, kL_undo, zwm 901 (by decide +kernel), (zwm 38 (by decide +kernel)), ⟨by decide +kernel, by decide +kernel⟩, by decide⟩
theorem zmp_L_weight : zMP mL_weight := ⟨rfl, by decide, by decide +kernel, kL_weight, zwm 929 (by decide +kernel), (zwm 38 (by decide +kernel)), ⟨by decide +kernel, by decide +kernel⟩, by decide⟩
theorem zmp_L_ruleAt : zMP mL_ruleAt := ⟨rfl, by decide, by decide +kernel, kL_ruleAt, zwm 941 (by decide +kernel), (zwm 38 (by decide +kernel)), ⟨by decide +kernel, by decide +kernel⟩, by decide⟩
theorem zmp_L_undone : zMP mL_undone := ⟨rfl, by decide, by decide +kernel, kL_undone, zwm 953 (by decide +kernel), (zwm 38 (by decide +kernel)), ⟨by decide +kernel, by decide +kernel⟩, by decide⟩
theorem zmp_L_undoneShare : zMP mL_undoneShare := ⟨rfl, by decide, by decide +kernel, kL_undoneShare, zwm 961 (by decide +kernel), (zwm 38 (by decide +kernel)), ⟨by decide +kernel, by decide +kernel⟩, by decide⟩
theorem zmp_L_setWidth : zMP mL_setWidth := ⟨rfl, by decide, by decide +kernel, kL_setWidth, zwm 993 (by decide +kernel), (zwm 38 (by decide +kernel)), ⟨by decide +kernel, by decide +kernel⟩, by decide⟩
theorem zmp_L_costByTrying : zMP mL_costByTrying := ⟨rfl, by decide, by decide +kernel, kL_costByTrying, zwm 1001 (by decide +kernel), (zwm 38 (by decide +kernel)), ⟨by decide +kernel, by decide +kernel⟩, by decide⟩
theorem zmp_L_lineOf : zMP mL_lineOf := ⟨rfl, by decide, by decide +kernel, kL_lineOf, zwm 1009 (by decide +kernel), (zwm 38 (by decide +kernel)), ⟨by decide +kernel, by decide +kernel⟩, by decide⟩
theorem zmp_L_lineWidth : zMP mL_lineWidth := ⟨rfl, by decide, by decide +kernel, kL_lineWidth, zwm 1022 (by decide +kernel), (zwm 38 (by decide +kernel)), ⟨by decide +kernel, by decide +kernel⟩, by decide⟩
theorem zmp_L_meanWidth : zMP mL_meanWidth := ⟨rfl, by decide, by decide +kernel, kL_meanWidth, zwm 1031 (by decide +kernel), (zwm 38 (by decide +kernel)), ⟨by decide +kernel, by decide +kernel⟩, by decide⟩
theorem zcon_r0 : ∀ q ∈ zconL0, (fun c k v => Cond.constant (zown c) k (Int32.ofInt v) ∈ zWS ∧ zi32 v) 0 q.1 q.2 := fun _ h => absurd h List.not_mem_nil
theorem zcon_r1 : ∀ q ∈ zconL1, (fun c k v => Cond.constant (zown c) k (Int32.ofInt v) ∈ zWS ∧ zi32 v) 1 q.1 q.2 := fun _ h => absurd h List.not_mem_nil
theorem zcon_r2 : ∀ q ∈ zconL2, (fun c k v => Cond.constant (zown c) k (Int32.ofInt v) ∈ zWS ∧ zi32 v) 2 q.1 q.2 := fun _ h => absurd h List.not_mem_nil
theorem zcon_r3 : ∀ q ∈ zconL3, (fun c k v => Cond.constant (zown c) k (Int32.ofInt v) ∈ zWS ∧ zi32 v) 3 q.1 q.2 := fun _ h => absurd h List.not_mem_nil
theorem zcon_4_58 : (fun c k v => Cond.constant (zown c) k (Int32.ofInt v) ∈ zWS ∧ zi32 v) 4 58 (1000000000) := ⟨(zwm 356 (by decide +kernel)), by decide, by decide⟩
theorem zcon_r4 : ∀ q ∈ zconL4, (fun c k v => Cond.constant (zown c) k (Int32.ofInt v) ∈ zWS ∧ zi32 v) 4 q.1 q.2 := List.forall_mem_cons.mpr ⟨zcon_4_58, fun _ h => absurd h List.not_mem_nil⟩
theorem zcon_r5 : ∀ q ∈ zconL5, (fun c k v => Cond.constant (zown c) k (Int32.ofInt v) ∈ zWS ∧ zi32 v) 5 q.1 q.2 := fun _ h => absurd h List.not_mem_nil
theorem zcon_r6 : ∀ q ∈ zconL6, (fun c k v => Cond.constant (zown c) k (Int32.ofInt v) ∈ zWS ∧ zi32 v) 6 q.1 q.2 := fun _ h => absurd h List.not_mem_nil
theorem zcon_7_335 : (fun c k v => Cond.constant (zown c) k (Int32.ofInt v) ∈ zWS ∧ zi32 v) 7 335 (1000000000) := ⟨(zwm 417 (by decide +kernel)), by decide, by decide⟩
theorem zcon_r7 : ∀ q ∈ zconL7, (fun c k v => Cond.constant (zown c) k (Int32.ofInt v) ∈ zWS ∧ zi32 v) 7 q.1 q.2 := List.forall_mem_cons.mpr ⟨zcon_7_335, fun _ h => absurd h List.not_mem_nil⟩
theorem zcon_8_166 : (fun c k v => Cond.constant (zown c) k (Int32.ofInt v) ∈ zWS ∧ zi32 v) 8 166 (1000000000) := ⟨(zwm 1340 (by decide +kernel)), by decide, by decide⟩
theorem zcon_r8 : ∀ q ∈ zconL8, (fun c k v => Cond.constant (zown c) k (Int32.ofInt v) ∈ zWS ∧ zi32 v) 8 q.1 q.2 := List.forall_mem_cons.mpr ⟨zcon_8_166, fun _ h => absurd h List.not_mem_nil⟩
theorem zcon_r9 : ∀ q ∈ zconL9, (fun c k v => Cond.constant (zown c) k (Int32.ofInt v) ∈ zWS ∧ zi32 v) 9 q.1 q.2 := fun _ h => absurd h List.not_mem_nil
theorem zcon_ok : ∀ c k v, zcon c k = some v → Cond.constant (zown c) k (Int32.ofInt v) ∈ zWS ∧ zi32 v := by
  intro c k v h
  refine ztab_all (P := (fun c k v => Cond.constant (zown c) k (Int32.ofInt v) ∈ zWS ∧ zi32 v)) (fun c r hr => ?_) h
  match c, hr with
  | 0, hr => cases hr; exact zcon_r0
  | 1, hr => cases hr; exact zcon_r1
  | 2, hr => cases hr; exact zcon_r2
  | 3, hr => cases hr; exact zcon_r3
  | 4, hr => cases hr; exact zcon_r4
  | 5, hr => cases hr; exact zcon_r5
  | 6, hr => cases hr; exact zcon_r6
  | 7, hr => cases hr; exact zcon_r7
  | 8, hr => cases hr; exact zcon_r8
  | 9, hr => cases hr; exact zcon_r9
  | n + 10, hr => simp [zconL] at hr
def zmthP (c k n : Nat) : Prop := (n = 1 → Cond.methodLink (zown c) k Lib.Math.max.name ∈ zWS ∧ Cond.static Lib.Math.max.name ∈ zWS ∧ Cond.initialized "java/lang/Math" ∈ zWS ∧ Cond.code Lib.Math.max.name Lib.Math.max.code 2 (some .int) ∈ zWS) ∧
    (n = 2 → Cond.methodLink (zown c) k Lib.Math.min.name ∈ zWS ∧ Cond.static Lib.Math.min.name ∈ zWS ∧ Cond.initialized "java/lang/Math" ∈ zWS ∧ Cond.code Lib.Math.min.name Lib.Math.min.code 2 (some .int) ∈ zWS) ∧
    (n = 3 → Cond.methodLink (zown c) k Lib.objectInit ∈ zWS ∧ Cond.instanceMethod Lib.objectInit ∈ zWS ∧ Cond.code Lib.objectInit ⟨#[0xb1]⟩ 1 none ∈ zWS)
theorem zm_max : Cond.static Lib.Math.max.name ∈ zWS ∧ Cond.initialized "java/lang/Math" ∈ zWS ∧ Cond.code Lib.Math.max.name Lib.Math.max.code 2 (some .int) ∈ zWS := ⟨(zwm 329 (by decide +kernel)), (zwm 57 (by decide +kernel)), zwm 330 (by decide +kernel)⟩
theorem zm_min : Cond.static Lib.Math.min.name ∈ zWS ∧ Cond.initialized "java/lang/Math" ∈ zWS ∧ Cond.code Lib.Math.min.name Lib.Math.min.code 2 (some .int) ∈ zWS := ⟨(zwm 283 (by decide +kernel)), (zwm 57 (by decide +kernel)), zwm 284 (by decide +kernel)⟩
theorem zm_oin : Cond.instanceMethod Lib.objectInit ∈ zWS ∧ Cond.code Lib.objectInit ⟨#[0xb1]⟩ 1 none ∈ zWS := ⟨(zwm 66 (by decide +kernel)), zwm 67 (by decide +kernel)⟩
theorem zmth_0_3 : zmthP 0 3 3 := ⟨fun h => absurd h (by decide), fun h => absurd h (by decide), fun _ => ⟨(zwm 176 (by decide +kernel)), zm_oin⟩⟩
theorem zmth_0_64 : zmthP 0 64 1 := ⟨fun _ => ⟨(zwm 328 (by decide +kernel)), zm_max⟩, fun h => absurd h (by decide), fun h => absurd h (by decide)⟩
theorem zmth_r0 : ∀ q ∈ zmthL0, zmthP 0 q.1 q.2 := List.forall_mem_cons.mpr ⟨zmth_0_3, List.forall_mem_cons.mpr ⟨zmth_0_64, fun _ h => absurd h List.not_mem_nil⟩⟩
theorem zmth_1_3 : zmthP 1 3 3 := ⟨fun h => absurd h (by decide), fun h => absurd h (by decide), fun _ => ⟨(zwm 129 (by decide +kernel)), zm_oin⟩⟩
theorem zmth_r1 : ∀ q ∈ zmthL1, zmthP 1 q.1 q.2 := List.forall_mem_cons.mpr ⟨zmth_1_3, fun _ h => absurd h List.not_mem_nil⟩
theorem zmth_2_3 : zmthP 2 3 3 := ⟨fun h => absurd h (by decide), fun h => absurd h (by decide), fun _ => ⟨(zwm 122 (by decide +kernel)), zm_oin⟩⟩
theorem zmth_2_25 : zmthP 2 25 2 := ⟨fun h => absurd h (by decide), fun _ => ⟨(zwm 809 (by decide +kernel)), zm_min⟩, fun h => absurd h (by decide)⟩
theorem zmth_r2 : ∀ q ∈ zmthL2, zmthP 2 q.1 q.2 := List.forall_mem_cons.mpr ⟨zmth_2_3, List.forall_mem_cons.mpr ⟨zmth_2_25, fun _ h => absurd h List.not_mem_nil⟩⟩
theorem zmth_3_3 : zmthP 3 3 3 := ⟨fun h => absurd h (by decide), fun h => absurd h (by decide), fun _ => ⟨(zwm 154 (by decide +kernel)), zm_oin⟩⟩
theorem zmth_3_78 : zmthP 3 78 2 := ⟨fun h => absurd h (by decide), fun _ => ⟨(zwm 282 (by decide +kernel)), zm_min⟩, fun h => absurd h (by decide)⟩
theorem zmth_r3 : ∀ q ∈ zmthL3, zmthP 3 q.1 q.2 := List.forall_mem_cons.mpr ⟨zmth_3_3, List.forall_mem_cons.mpr ⟨zmth_3_78, fun _ h => absurd h List.not_mem_nil⟩⟩
theorem zmth_4_3 : zmthP 4 3 3 := ⟨fun h => absurd h (by decide), fun h => absurd h (by decide), fun _ => ⟨(zwm 189 (by decide +kernel)), zm_oin⟩⟩
theorem zmth_r4 : ∀ q ∈ zmthL4, zmthP 4 q.1 q.2 := List.forall_mem_cons.mpr ⟨zmth_4_3, fun _ h => absurd h List.not_mem_nil⟩
theorem zmth_5_3 : zmthP 5 3 3 := ⟨fun h => absurd h (by decide), fun h => absurd h (by decide), fun _ => ⟨(zwm 98 (by decide +kernel)), zm_oin⟩⟩
theorem zmth_5_40 : zmthP 5 40 2 := ⟨fun h => absurd h (by decide), fun _ => ⟨(zwm 850 (by decide +kernel)), zm_min⟩, fun h => absurd h (by decide)⟩
theorem zmth_r5 : ∀ q ∈ zmthL5, zmthP 5 q.1 q.2 := List.forall_mem_cons.mpr ⟨zmth_5_3, List.forall_mem_cons.mpr ⟨zmth_5_40, fun _ h => absurd h List.not_mem_nil⟩⟩
theorem zmth_6_3 : zmthP 6 3 3 := ⟨fun h => absurd h (by decide), fun h => absurd h (by decide), fun _ => ⟨(zwm 73 (by decide +kernel)), zm_oin⟩⟩
theorem zmth_6_76 : zmthP 6 76 2 := ⟨fun h => absurd h (by decide), fun _ => ⟨(zwm 843 (by decide +kernel)), zm_min⟩, fun h => absurd h (by decide)⟩
theorem zmth_r6 : ∀ q ∈ zmthL6, zmthP 6 q.1 q.2 := List.forall_mem_cons.mpr ⟨zmth_6_3, List.forall_mem_cons.mpr ⟨zmth_6_76, fun _ h => absurd h List.not_mem_nil⟩⟩
theorem zmth_7_1 : zmthP 7 1 3 := ⟨fun h => absurd h (by decide), fun h => absurd h (by decide), fun _ => ⟨(zwm 65 (by decide +kernel)), zm_oin⟩⟩
theorem zmth_7_199 : zmthP 7 199 2 := ⟨fun h => absurd h (by decide), fun _ => ⟨(zwm 421 (by decide +kernel)), zm_min⟩, fun h => absurd h (by decide)⟩
theorem zmth_7_205 : zmthP 7 205 1 := ⟨fun _ => ⟨(zwm 442 (by decide +kernel)), zm_max⟩, fun h => absurd h (by decide), fun h => absurd h (by decide)⟩
theorem zmth_r7 : ∀ q ∈ zmthL7, zmthP 7 q.1 q.2 := List.forall_mem_cons.mpr ⟨zmth_7_1, List.forall_mem_cons.mpr ⟨zmth_7_199, List.forall_mem_cons.mpr ⟨zmth_7_205, fun _ h => absurd h List.not_mem_nil⟩⟩⟩
theorem zmth_8_1 : zmthP 8 1 3 := ⟨fun h => absurd h (by decide), fun h => absurd h (by decide), fun _ => ⟨(zwm 1042 (by decide +kernel)), zm_oin⟩⟩
theorem zmth_r8 : ∀ q ∈ zmthL8, zmthP 8 q.1 q.2 := List.forall_mem_cons.mpr ⟨zmth_8_1, fun _ h => absurd h List.not_mem_nil⟩
theorem zmth_r9 : ∀ q ∈ zmthL9, zmthP 9 q.1 q.2 := fun _ h => absurd h List.not_mem_nil
theorem zmth_ok0 : ∀ c k v, ztab zmthL c k = some v → zmthP c k v := by
  intro c k v h
  refine ztab_all (P := zmthP) (fun c r hr => ?_) h
  match c, hr with
  | 0, hr => cases hr; exact zmth_r0
  | 1, hr => cases hr; exact zmth_r1
  | 2, hr => cases hr; exact zmth_r2
  | 3, hr => cases hr; exact zmth_r3
  | 4, hr => cases hr; exact zmth_r4
  | 5, hr => cases hr; exact zmth_r5
  | 6, hr => cases hr; exact zmth_r6
  | 7, hr => cases hr; exact zmth_r7
  | 8, hr => cases hr; exact zmth_r8
  | 9, hr => cases hr; exact zmth_r9
  | n + 10, hr => simp [zmthL] at hr
theorem zmth_ok : ∀ c k, zmthP c k (zmth c k) := by
  intro c k
  unfold zmth
  split
  · rename_i n hn; exact zmth_ok0 _ _ _ hn
  · exact ⟨fun h => absurd h (by decide), fun h => absurd h (by decide), fun h => absurd h (by decide)⟩
theorem zfld_0_9 : zfldP 0 9 (0, 0, 1, false, true) := ⟨_, _, _, _, zcp_0, by decide, zwm 177 (by decide +kernel), rfl, Or.inr (Or.inr (Or.inr ⟨rfl, rfl, Or.inr ⟨_, rfl⟩⟩)), rfl, fun _ => rfl⟩
theorem zfld_0_15 : zfldP 0 15 (0, 1, 1, false, true) := ⟨_, _, _, _, zcp_0, by decide, zwm 178 (by decide +kernel), rfl, Or.inr (Or.inr (Or.inr ⟨rfl, rfl, Or.inr ⟨_, rfl⟩⟩)), rfl, fun _ => rfl⟩
theorem zfld_r0 : ∀ q ∈ zfldL0, zfldP 0 q.1 q.2 := List.forall_mem_cons.mpr ⟨zfld_0_9, List.forall_mem_cons.mpr ⟨zfld_0_15, fun _ h => absurd h List.not_mem_nil⟩⟩
theorem zfld_1_12 : zfldP 1 12 (1, 0, 1, false, true) := ⟨_, _, _, _, zcp_1, by decide, zwm 132 (by decide +kernel), rfl, Or.inr (Or.inr (Or.inr ⟨rfl, rfl, Or.inl ⟨_, rfl⟩⟩)), rfl, fun _ => rfl⟩
theorem zfld_1_18 : zfldP 1 18 (1, 1, 1, false, true) := ⟨_, _, _, _, zcp_1, by decide, zwm 133 (by decide +kernel), rfl, Or.inr (Or.inr (Or.inr ⟨rfl, rfl, Or.inr ⟨_, rfl⟩⟩)), rfl, fun _ => rfl⟩
theorem zfld_r1 : ∀ q ∈ zfldL1, zfldP 1 q.1 q.2 := List.forall_mem_cons.mpr ⟨zfld_1_12, List.forall_mem_cons.mpr ⟨zfld_1_18, fun _ h => absurd h List.not_mem_nil⟩⟩
theorem zfld_2_11 : zfldP 2 11 (2, 0, 1, false, true) := ⟨_, _, _, _, zcp_2, by decide, zwm 139 (by decide +kernel), rfl, Or.inr (Or.inr (Or.inr ⟨rfl, rfl, Or.inr ⟨_, rfl⟩⟩)), rfl, fun _ => rfl⟩
theorem zfld_2_17 : zfldP 2 17 (2, 1, 0, false, false) := ⟨_, _, _, _, zcp_2, by decide, zwm 140 (by decide +kernel), rfl, Or.inl ⟨rfl, rfl, rfl⟩, rfl, fun h => absurd h (by decide)⟩
theorem zfld_2_21 : zfldP 2 21 (2, 2, 0, false, false) := ⟨_, _, _, _, zcp_2, by decide, zwm 141 (by decide +kernel), rfl, Or.inl ⟨rfl, rfl, rfl⟩, rfl, fun h => absurd h (by decide)⟩
theorem zfld_r2 : ∀ q ∈ zfldL2, zfldP 2 q.1 q.2 := List.forall_mem_cons.mpr ⟨zfld_2_11, List.forall_mem_cons.mpr ⟨zfld_2_17, List.forall_mem_cons.mpr ⟨zfld_2_21, fun _ h => absurd h List.not_mem_nil⟩⟩⟩
theorem zfld_3_9 : zfldP 3 9 (3, 0, 1, false, true) := ⟨_, _, _, _, zcp_3, by decide, zwm 155 (by decide +kernel), rfl, Or.inr (Or.inr (Or.inr ⟨rfl, rfl, Or.inr ⟨_, rfl⟩⟩)), rfl, fun _ => rfl⟩
theorem zfld_3_15 : zfldP 3 15 (3, 1, 1, false, true) := ⟨_, _, _, _, zcp_3, by decide, zwm 156 (by decide +kernel), rfl, Or.inr (Or.inr (Or.inr ⟨rfl, rfl, Or.inr ⟨_, rfl⟩⟩)), rfl, fun _ => rfl⟩
theorem zfld_3_18 : zfldP 3 18 (3, 2, 1, false, true) := ⟨_, _, _, _, zcp_3, by decide, zwm 157 (by decide +kernel), rfl, Or.inr (Or.inr (Or.inr ⟨rfl, rfl, Or.inr ⟨_, rfl⟩⟩)), rfl, fun _ => rfl⟩
theorem zfld_3_21 : zfldP 3 21 (3, 3, 1, false, true) := ⟨_, _, _, _, zcp_3, by decide, zwm 158 (by decide +kernel), rfl, Or.inr (Or.inr (Or.inr ⟨rfl, rfl, Or.inr ⟨_, rfl⟩⟩)), rfl, fun _ => rfl⟩
theorem zfld_3_24 : zfldP 3 24 (3, 4, 0, false, false) := ⟨_, _, _, _, zcp_3, by decide, zwm 159 (by decide +kernel), rfl, Or.inl ⟨rfl, rfl, rfl⟩, rfl, fun h => absurd h (by decide)⟩
theorem zfld_r3 : ∀ q ∈ zfldL3, zfldP 3 q.1 q.2 := List.forall_mem_cons.mpr ⟨zfld_3_9, List.forall_mem_cons.mpr ⟨zfld_3_15, List.forall_mem_cons.mpr ⟨zfld_3_18, List.forall_mem_cons.mpr ⟨zfld_3_21, List.forall_mem_cons.mpr ⟨zfld_3_24, fun _ h => absurd h List.not_mem_nil⟩⟩⟩⟩⟩
theorem zfld_4_9 : zfldP 4 9 (4, 0, 1, false, true) := ⟨_, _, _, _, zcp_4, by decide, zwm 190 (by decide +kernel), rfl, Or.inr (Or.inr (Or.inr ⟨rfl, rfl, Or.inr ⟨_, rfl⟩⟩)), rfl, fun _ => rfl⟩
theorem zfld_4_15 : zfldP 4 15 (4, 1, 1, false, true) := ⟨_, _, _, _, zcp_4, by decide, zwm 191 (by decide +kernel), rfl, Or.inr (Or.inr (Or.inr ⟨rfl, rfl, Or.inr ⟨_, rfl⟩⟩)), rfl, fun _ => rfl⟩
theorem zfld_4_18 : zfldP 4 18 (4, 2, 1, false, true) := ⟨_, _, _, _, zcp_4, by decide, zwm 192 (by decide +kernel), rfl, Or.inr (Or.inr (Or.inr ⟨rfl, rfl, Or.inr ⟨_, rfl⟩⟩)), rfl, fun _ => rfl⟩
theorem zfld_4_21 : zfldP 4 21 (4, 3, 0, false, false) := ⟨_, _, _, _, zcp_4, by decide, zwm 193 (by decide +kernel), rfl, Or.inl ⟨rfl, rfl, rfl⟩, rfl, fun h => absurd h (by decide)⟩
theorem zfld_r4 : ∀ q ∈ zfldL4, zfldP 4 q.1 q.2 := List.forall_mem_cons.mpr ⟨zfld_4_9, List.forall_mem_cons.mpr ⟨zfld_4_15, List.forall_mem_cons.mpr ⟨zfld_4_18, List.forall_mem_cons.mpr ⟨zfld_4_21, fun _ h => absurd h List.not_mem_nil⟩⟩⟩⟩
theorem zfld_5_9 : zfldP 5 9 (5, 0, 1, false, true) := ⟨_, _, _, _, zcp_5, by decide, zwm 107 (by decide +kernel), rfl, Or.inr (Or.inr (Or.inr ⟨rfl, rfl, Or.inr ⟨_, rfl⟩⟩)), rfl, fun _ => rfl⟩
theorem zfld_5_15 : zfldP 5 15 (5, 1, 1, false, true) := ⟨_, _, _, _, zcp_5, by decide, zwm 108 (by decide +kernel), rfl, Or.inr (Or.inr (Or.inr ⟨rfl, rfl, Or.inr ⟨_, rfl⟩⟩)), rfl, fun _ => rfl⟩
theorem zfld_5_18 : zfldP 5 18 (5, 2, 0, false, false) := ⟨_, _, _, _, zcp_5, by decide, zwm 109 (by decide +kernel), rfl, Or.inl ⟨rfl, rfl, rfl⟩, rfl, fun h => absurd h (by decide)⟩
theorem zfld_r5 : ∀ q ∈ zfldL5, zfldP 5 q.1 q.2 := List.forall_mem_cons.mpr ⟨zfld_5_9, List.forall_mem_cons.mpr ⟨zfld_5_15, List.forall_mem_cons.mpr ⟨zfld_5_18, fun _ h => absurd h List.not_mem_nil⟩⟩⟩
theorem zfld_6_9 : zfldP 6 9 (6, 0, 1, false, true) := ⟨_, _, _, _, zcp_6, by decide, zwm 74 (by decide +kernel), rfl, Or.inr (Or.inr (Or.inr ⟨rfl, rfl, Or.inr ⟨_, rfl⟩⟩)), rfl, fun _ => rfl⟩
theorem zfld_6_15 : zfldP 6 15 (6, 1, 1, false, true) := ⟨_, _, _, _, zcp_6, by decide, zwm 75 (by decide +kernel), rfl, Or.inr (Or.inr (Or.inr ⟨rfl, rfl, Or.inr ⟨_, rfl⟩⟩)), rfl, fun _ => rfl⟩
theorem zfld_6_19 : zfldP 6 19 (6, 2, 1, false, true) := ⟨_, _, _, _, zcp_6, by decide, zwm 76 (by decide +kernel), rfl, Or.inr (Or.inr (Or.inr ⟨rfl, rfl, Or.inr ⟨_, rfl⟩⟩)), rfl, fun _ => rfl⟩
theorem zfld_6_22 : zfldP 6 22 (6, 3, 1, false, true) := ⟨_, _, _, _, zcp_6, by decide, zwm 77 (by decide +kernel), rfl, Or.inr (Or.inr (Or.inr ⟨rfl, rfl, Or.inr ⟨_, rfl⟩⟩)), rfl, fun _ => rfl⟩
theorem zfld_6_26 : zfldP 6 26 (6, 4, 0, false, false) := ⟨_, _, _, _, zcp_6, by decide, zwm 78 (by decide +kernel), rfl, Or.inl ⟨rfl, rfl, rfl⟩, rfl, fun h => absurd h (by decide)⟩
theorem zfld_r6 : ∀ q ∈ zfldL6, zfldP 6 q.1 q.2 := List.forall_mem_cons.mpr ⟨zfld_6_9, List.forall_mem_cons.mpr ⟨zfld_6_15, List.forall_mem_cons.mpr ⟨zfld_6_19, List.forall_mem_cons.mpr ⟨zfld_6_22, List.forall_mem_cons.mpr ⟨zfld_6_26, fun _ h => absurd h List.not_mem_nil⟩⟩⟩⟩⟩
theorem zfld_7_10 : zfldP 7 10 (7, 0, 1, false, true) := ⟨_, _, _, _, zcp_7, by decide, zwm 203 (by decide +kernel), rfl, Or.inr (Or.inr (Or.inr ⟨rfl, rfl, Or.inl ⟨_, rfl⟩⟩)), rfl, fun _ => rfl⟩
theorem zfld_7_19 : zfldP 7 19 (7, 1, 1, false, true) := ⟨_, _, _, _, zcp_7, by decide, zwm 204 (by decide +kernel), rfl, Or.inr (Or.inr (Or.inr ⟨rfl, rfl, Or.inl ⟨_, rfl⟩⟩)), rfl, fun _ => rfl⟩
theorem zfld_7_26 : zfldP 7 26 (7, 2, 1, false, true) := ⟨_, _, _, _, zcp_7, by decide, zwm 205 (by decide +kernel), rfl, Or.inr (Or.inr (Or.inr ⟨rfl, rfl, Or.inl ⟨_, rfl⟩⟩)), rfl, fun _ => rfl⟩
theorem zfld_7_33 : zfldP 7 33 (7, 3, 1, false, true) := ⟨_, _, _, _, zcp_7, by decide, zwm 206 (by decide +kernel), rfl, Or.inr (Or.inr (Or.inr ⟨rfl, rfl, Or.inl ⟨_, rfl⟩⟩)), rfl, fun _ => rfl⟩
theorem zfld_7_40 : zfldP 7 40 (7, 4, 1, false, true) := ⟨_, _, _, _, zcp_7, by decide, zwm 207 (by decide +kernel), rfl, Or.inr (Or.inr (Or.inr ⟨rfl, rfl, Or.inl ⟨_, rfl⟩⟩)), rfl, fun _ => rfl⟩
theorem zfld_7_47 : zfldP 7 47 (7, 5, 1, false, true) := ⟨_, _, _, _, zcp_7, by decide, zwm 208 (by decide +kernel), rfl, Or.inr (Or.inr (Or.inr ⟨rfl, rfl, Or.inl ⟨_, rfl⟩⟩)), rfl, fun _ => rfl⟩
theorem zfld_7_51 : zfldP 7 51 (7, 6, 1, false, true) := ⟨_, _, _, _, zcp_7, by decide, zwm 209 (by decide +kernel), rfl, Or.inr (Or.inr (Or.inr ⟨rfl, rfl, Or.inl ⟨_, rfl⟩⟩)), rfl, fun _ => rfl⟩
theorem zfld_7_54 : zfldP 7 54 (7, 7, 0, false, false) := ⟨_, _, _, _, zcp_7, by decide, zwm 210 (by decide +kernel), rfl, Or.inl ⟨rfl, rfl, rfl⟩, rfl, fun h => absurd h (by decide)⟩
theorem zfld_7_58 : zfldP 7 58 (7, 8, 0, true, false) := ⟨_, _, _, _, zcp_7, by decide, zwm 211 (by decide +kernel), rfl, Or.inr (Or.inl ⟨rfl, rfl, rfl⟩), rfl, fun h => absurd h (by decide)⟩
theorem zfld_r7 : ∀ q ∈ zfldL7, zfldP 7 q.1 q.2 := List.forall_mem_cons.mpr ⟨zfld_7_10, List.forall_mem_cons.mpr ⟨zfld_7_19, List.forall_mem_cons.mpr ⟨zfld_7_26, List.forall_mem_cons.mpr ⟨zfld_7_33, List.forall_mem_cons.mpr ⟨zfld_7_40, List.forall_mem_cons.mpr ⟨zfld_7_47, List.forall_mem_cons.mpr ⟨zfld_7_51, List.forall_mem_cons.mpr ⟨zfld_7_54, List.forall_mem_cons.mpr ⟨zfld_7_58, fun _ h => absurd h List.not_mem_nil⟩⟩⟩⟩⟩⟩⟩⟩⟩
theorem zfld_8_7 : zfldP 8 7 (8, 2, 1, false, true) := ⟨_, _, _, _, zcp_8, by decide, zwm 1045 (by decide +kernel), rfl, Or.inr (Or.inr (Or.inr ⟨rfl, rfl, Or.inr ⟨_, rfl⟩⟩)), rfl, fun _ => rfl⟩
theorem zfld_8_13 : zfldP 8 13 (8, 3, 1, false, true) := ⟨_, _, _, _, zcp_8, by decide, zwm 1046 (by decide +kernel), rfl, Or.inr (Or.inr (Or.inr ⟨rfl, rfl, Or.inr ⟨_, rfl⟩⟩)), rfl, fun _ => rfl⟩
theorem zfld_8_17 : zfldP 8 17 (8, 4, 1, false, true) := ⟨_, _, _, _, zcp_8, by decide, zwm 1047 (by decide +kernel), rfl, Or.inr (Or.inr (Or.inr ⟨rfl, rfl, Or.inr ⟨_, rfl⟩⟩)), rfl, fun _ => rfl⟩
theorem zfld_8_20 : zfldP 8 20 (8, 5, 1, false, true) := ⟨_, _, _, _, zcp_8, by decide, zwm 1048 (by decide +kernel), rfl, Or.inr (Or.inr (Or.inr ⟨rfl, rfl, Or.inr ⟨_, rfl⟩⟩)), rfl, fun _ => rfl⟩
theorem zfld_8_24 : zfldP 8 24 (8, 6, 0, false, false) := ⟨_, _, _, _, zcp_8, by decide, zwm 1049 (by decide +kernel), rfl, Or.inl ⟨rfl, rfl, rfl⟩, rfl, fun h => absurd h (by decide)⟩
theorem zfld_8_28 : zfldP 8 28 (8, 7, 1, false, true) := ⟨_, _, _, _, zcp_8, by decide, zwm 1050 (by decide +kernel), rfl, Or.inr (Or.inr (Or.inr ⟨rfl, rfl, Or.inr ⟨_, rfl⟩⟩)), rfl, fun _ => rfl⟩
theorem zfld_8_31 : zfldP 8 31 (8, 8, 1, false, true) := ⟨_, _, _, _, zcp_8, by decide, zwm 1051 (by decide +kernel), rfl, Or.inr (Or.inr (Or.inr ⟨rfl, rfl, Or.inr ⟨_, rfl⟩⟩)), rfl, fun _ => rfl⟩
theorem zfld_8_35 : zfldP 8 35 (8, 11, 1, false, true) := ⟨_, _, _, _, zcp_8, by decide, zwm 1054 (by decide +kernel), rfl, Or.inr (Or.inr (Or.inr ⟨rfl, rfl, Or.inr ⟨_, rfl⟩⟩)), rfl, fun _ => rfl⟩
theorem zfld_8_38 : zfldP 8 38 (8, 13, 1, false, true) := ⟨_, _, _, _, zcp_8, by decide, zwm 1056 (by decide +kernel), rfl, Or.inr (Or.inr (Or.inr ⟨rfl, rfl, Or.inr ⟨_, rfl⟩⟩)), rfl, fun _ => rfl⟩
theorem zfld_8_41 : zfldP 8 41 (8, 14, 1, false, true) := ⟨_, _, _, _, zcp_8, by decide, zwm 1057 (by decide +kernel), rfl, Or.inr (Or.inr (Or.inr ⟨rfl, rfl, Or.inr ⟨_, rfl⟩⟩)), rfl, fun _ => rfl⟩
theorem zfld_8_44 : zfldP 8 44 (8, 15, 1, false, true) := ⟨_, _, _, _, zcp_8, by decide, zwm 1058 (by decide +kernel), rfl, Or.inr (Or.inr (Or.inr ⟨rfl, rfl, Or.inr ⟨_, rfl⟩⟩)), rfl, fun _ => rfl⟩
theorem zfld_8_47 : zfldP 8 47 (8, 16, 1, false, true) := ⟨_, _, _, _, zcp_8, by decide, zwm 1059 (by decide +kernel), rfl, Or.inr (Or.inr (Or.inr ⟨rfl, rfl, Or.inr ⟨_, rfl⟩⟩)), rfl, fun _ => rfl⟩
theorem zfld_8_50 : zfldP 8 50 (8, 17, 1, false, true) := ⟨_, _, _, _, zcp_8, by decide, zwm 1060 (by decide +kernel), rfl, Or.inr (Or.inr (Or.inr ⟨rfl, rfl, Or.inr ⟨_, rfl⟩⟩)), rfl, fun _ => rfl⟩
theorem zfld_8_53 : zfldP 8 53 (8, 18, 1, false, true) := ⟨_, _, _, _, zcp_8, by decide, zwm 1061 (by decide +kernel), rfl, Or.inr (Or.inr (Or.inr ⟨rfl, rfl, Or.inr ⟨_, rfl⟩⟩)), rfl, fun _ => rfl⟩
theorem zfld_8_56 : zfldP 8 56 (8, 20, 1, false, true) := ⟨_, _, _, _, zcp_8, by decide, zwm 1063 (by decide +kernel), rfl, Or.inr (Or.inr (Or.inr ⟨rfl, rfl, Or.inr ⟨_, rfl⟩⟩)), rfl, fun _ => rfl⟩
theorem zfld_8_59 : zfldP 8 59 (8, 21, 1, false, true) := ⟨_, _, _, _, zcp_8, by decide, zwm 1064 (by decide +kernel), rfl, Or.inr (Or.inr (Or.inr ⟨rfl, rfl, Or.inr ⟨_, rfl⟩⟩)), rfl, fun _ => rfl⟩
theorem zfld_8_62 : zfldP 8 62 (8, 22, 1, false, true) := ⟨_, _, _, _, zcp_8, by decide, zwm 1065 (by decide +kernel), rfl, Or.inr (Or.inr (Or.inr ⟨rfl, rfl, Or.inr ⟨_, rfl⟩⟩)), rfl, fun _ => rfl⟩
theorem zfld_8_65 : zfldP 8 65 (8, 23, 1, false, true) := ⟨_, _, _, _, zcp_8, by decide, zwm 1066 (by decide +kernel), rfl, Or.inr (Or.inr (Or.inr ⟨rfl, rfl, Or.inr ⟨_, rfl⟩⟩)), rfl, fun _ => rfl⟩
theorem zfld_8_68 : zfldP 8 68 (8, 24, 1, false, true) := ⟨_, _, _, _, zcp_8, by decide, zwm 1067 (by decide +kernel), rfl, Or.inr (Or.inr (Or.inr ⟨rfl, rfl, Or.inr ⟨_, rfl⟩⟩)), rfl, fun _ => rfl⟩
theorem zfld_8_71 : zfldP 8 71 (8, 25, 1, false, true) := ⟨_, _, _, _, zcp_8, by decide, zwm 1068 (by decide +kernel), rfl, Or.inr (Or.inr (Or.inr ⟨rfl, rfl, Or.inr ⟨_, rfl⟩⟩)), rfl, fun _ => rfl⟩
theorem zfld_8_74 : zfldP 8 74 (8, 0, 0, false, false) := ⟨_, _, _, _, zcp_8, by decide, zwm 1043 (by decide +kernel), rfl, Or.inl ⟨rfl, rfl, rfl⟩, rfl, fun h => absurd h (by decide)⟩
theorem zfld_8_77 : zfldP 8 77 (8, 1, 0, false, false) := ⟨_, _, _, _, zcp_8, by decide, zwm 1044 (by decide +kernel), rfl, Or.inl ⟨rfl, rfl, rfl⟩, rfl, fun h => absurd h (by decide)⟩
theorem zfld_8_84 : zfldP 8 84 (8, 12, 0, false, false) := ⟨_, _, _, _, zcp_8, by decide, zwm 1055 (by decide +kernel), rfl, Or.inl ⟨rfl, rfl, rfl⟩, rfl, fun h => absurd h (by decide)⟩
theorem zfld_8_87 : zfldP 8 87 (8, 10, 0, true, false) := ⟨_, _, _, _, zcp_8, by decide, zwm 1053 (by decide +kernel), rfl, Or.inr (Or.inl ⟨rfl, rfl, rfl⟩), rfl, fun h => absurd h (by decide)⟩
theorem zfld_8_120 : zfldP 8 120 (8, 19, 0, false, false) := ⟨_, _, _, _, zcp_8, by decide, zwm 1062 (by decide +kernel), rfl, Or.inl ⟨rfl, rfl, rfl⟩, rfl, fun h => absurd h (by decide)⟩
theorem zfld_8_154 : zfldP 8 154 (8, 9, 2, false, false) := ⟨_, _, _, _, zcp_8, by decide, zwm 1052 (by decide +kernel), rfl, Or.inr (Or.inr (Or.inl ⟨rfl, rfl, rfl⟩)), rfl, fun h => absurd h (by decide)⟩
theorem zfld_r8 : ∀ q ∈ zfldL8, zfldP 8 q.1 q.2 := List.forall_mem_cons.mpr ⟨zfld_8_7, List.forall_mem_cons.mpr ⟨zfld_8_13, List.forall_mem_cons.mpr ⟨zfld_8_17, List.forall_mem_cons.mpr ⟨zfld_8_20, List.forall_mem_cons.mpr ⟨zfld_8_24, List.forall_mem_cons.mpr ⟨zfld_8_28, List.forall_mem_cons.mpr ⟨zfld_8_31, List.forall_mem_cons.mpr ⟨zfld_8_35, List.forall_mem_cons.mpr ⟨zfld_8_38, List.forall_mem_cons.mpr ⟨zfld_8_41, List.forall_mem_cons.mpr ⟨zfld_8_44, List.forall_mem_cons.mpr ⟨zfld_8_47, List.forall_mem_cons.mpr ⟨zfld_8_50, List.forall_mem_cons.mpr ⟨zfld_8_53, List.forall_mem_cons.mpr ⟨zfld_8_56, List.forall_mem_cons.mpr ⟨zfld_8_59, List.forall_mem_cons.mpr ⟨zfld_8_62, List.forall_mem_cons.mpr ⟨zfld_8_65, List.forall_mem_cons.mpr ⟨zfld_8_68, List.forall_mem_cons.mpr ⟨zfld_8_71, List.forall_mem_cons.mpr ⟨zfld_8_74, List.forall_mem_cons.mpr ⟨zfld_8_77, List.forall_mem_cons.mpr ⟨zfld_8_84, List.forall_mem_cons.mpr ⟨zfld_8_87, List.forall_mem_cons.mpr ⟨zfld_8_120, List.forall_mem_cons.mpr ⟨zfld_8_154, fun _ h => absurd h List.not_mem_nil⟩⟩⟩⟩⟩⟩⟩⟩⟩⟩⟩⟩⟩⟩⟩⟩⟩⟩⟩⟩⟩⟩⟩⟩⟩⟩
theorem zfld_r9 : ∀ q ∈ zfldL9, zfldP 9 q.1 q.2 := fun _ h => absurd h List.not_mem_nil
theorem zfld_ok : ∀ c k f, zfld c k = some f → zfldP c k f := by
  intro c k v h
  refine ztab_all (P := zfldP) (fun c r hr => ?_) h
  match c, hr with
  | 0, hr => cases hr; exact zfld_r0
  | 1, hr => cases hr; exact zfld_r1
  | 2, hr => cases hr; exact zfld_r2
  | 3, hr => cases hr; exact zfld_r3
  | 4, hr => cases hr; exact zfld_r4
  | 5, hr => cases hr; exact zfld_r5
  | 6, hr => cases hr; exact zfld_r6
  | 7, hr => cases hr; exact zfld_r7
  | 8, hr => cases hr; exact zfld_r8
  | 9, hr => cases hr; exact zfld_r9
  | n + 10, hr => simp [zfldL] at hr
theorem zcls_r0 : ∀ q ∈ zclsL0, zclsP 0 q.1 q.2 := fun _ h => absurd h List.not_mem_nil
theorem zcls_1_9 : zclsP 1 9 (6, 5) := ⟨_, _, _, _, zcp_6, rfl, by decide, zwm 130 (by decide +kernel), (zwm 69 (by decide +kernel)), (zwm 40 (by decide +kernel))⟩
theorem zcls_r1 : ∀ q ∈ zclsL1, zclsP 1 q.1 q.2 := List.forall_mem_cons.mpr ⟨zcls_1_9, fun _ h => absurd h List.not_mem_nil⟩
theorem zcls_2_9 : zclsP 2 9 (1, 2) := ⟨_, _, _, _, zcp_1, rfl, by decide, zwm 123 (by decide +kernel), (zwm 125 (by decide +kernel)), (zwm 43 (by decide +kernel))⟩
theorem zcls_r2 : ∀ q ∈ zclsL2, zclsP 2 q.1 q.2 := List.forall_mem_cons.mpr ⟨zcls_2_9, fun _ h => absurd h List.not_mem_nil⟩
theorem zcls_r3 : ∀ q ∈ zclsL3, zclsP 3 q.1 q.2 := fun _ h => absurd h List.not_mem_nil
theorem zcls_r4 : ∀ q ∈ zclsL4, zclsP 4 q.1 q.2 := fun _ h => absurd h List.not_mem_nil
theorem zcls_r5 : ∀ q ∈ zclsL5, zclsP 5 q.1 q.2 := fun _ h => absurd h List.not_mem_nil
theorem zcls_r6 : ∀ q ∈ zclsL6, zclsP 6 q.1 q.2 := fun _ h => absurd h List.not_mem_nil
theorem zcls_7_7 : zclsP 7 7 (6, 5) := ⟨_, _, _, _, zcp_6, rfl, by decide, zwm 68 (by decide +kernel), (zwm 69 (by decide +kernel)), (zwm 40 (by decide +kernel))⟩
theorem zcls_7_16 : zclsP 7 16 (5, 3) := ⟨_, _, _, _, zcp_5, rfl, by decide, zwm 93 (by decide +kernel), (zwm 94 (by decide +kernel)), (zwm 41 (by decide +kernel))⟩
theorem zcls_7_23 : zclsP 7 23 (2, 3) := ⟨_, _, _, _, zcp_2, rfl, by decide, zwm 117 (by decide +kernel), (zwm 118 (by decide +kernel)), (zwm 42 (by decide +kernel))⟩
theorem zcls_7_30 : zclsP 7 30 (3, 5) := ⟨_, _, _, _, zcp_3, rfl, by decide, zwm 149 (by decide +kernel), (zwm 150 (by decide +kernel)), (zwm 44 (by decide +kernel))⟩
theorem zcls_7_37 : zclsP 7 37 (0, 2) := ⟨_, _, _, _, zcp_0, rfl, by decide, zwm 171 (by decide +kernel), (zwm 172 (by decide +kernel)), (zwm 45 (by decide +kernel))⟩
theorem zcls_7_44 : zclsP 7 44 (4, 4) := ⟨_, _, _, _, zcp_4, rfl, by decide, zwm 184 (by decide +kernel), (zwm 185 (by decide +kernel)), (zwm 46 (by decide +kernel))⟩
theorem zcls_r7 : ∀ q ∈ zclsL7, zclsP 7 q.1 q.2 := List.forall_mem_cons.mpr ⟨zcls_7_7, List.forall_mem_cons.mpr ⟨zcls_7_16, List.forall_mem_cons.mpr ⟨zcls_7_23, List.forall_mem_cons.mpr ⟨zcls_7_30, List.forall_mem_cons.mpr ⟨zcls_7_37, List.forall_mem_cons.mpr ⟨zcls_7_44, fun _ h => absurd h List.not_mem_nil⟩⟩⟩⟩⟩⟩
theorem zcls_r8 : ∀ q ∈ zclsL8, zclsP 8 q.1 q.2 := fun _ h => absurd h List.not_mem_nil
theorem zcls_9_8 : zclsP 9 8 (7, 9) := ⟨_, _, _, _, zcp_7, rfl, by decide, zwm 60 (by decide +kernel), (zwm 61 (by decide +kernel)), (zwm 39 (by decide +kernel))⟩
theorem zcls_9_127 : zclsP 9 127 (8, 26) := ⟨_, _, _, _, zcp_8, rfl, by decide, zwm 1037 (by decide +kernel), (zwm 1038 (by decide +kernel)), (zwm 47 (by decide +kernel))⟩
theorem zcls_r9 : ∀ q ∈ zclsL9, zclsP 9 q.1 q.2 := List.forall_mem_cons.mpr ⟨zcls_9_8, List.forall_mem_cons.mpr ⟨zcls_9_127, fun _ h => absurd h List.not_mem_nil⟩⟩
theorem zcls_ok : ∀ c k q, zcls c k = some q → zclsP c k q := by
  intro c k v h
  refine ztab_all (P := zclsP) (fun c r hr => ?_) h
  match c, hr with
  | 0, hr => cases hr; exact zcls_r0
  | 1, hr => cases hr; exact zcls_r1
  | 2, hr => cases hr; exact zcls_r2
  | 3, hr => cases hr; exact zcls_r3
  | 4, hr => cases hr; exact zcls_r4
  | 5, hr => cases hr; exact zcls_r5
  | 6, hr => cases hr; exact zcls_r6
  | 7, hr => cases hr; exact zcls_r7
  | 8, hr => cases hr; exact zcls_r8
  | 9, hr => cases hr; exact zcls_r9
  | n + 10, hr => simp [zclsL] at hr
theorem zstc_r0 : ∀ q ∈ zstcL0, (fun c k r => r = -2 ∧ ∃ host, Cond.fieldLinkNest (zown c) k RX7 "FIRST_WEIGHTS" "[I" host ∈ zNW) 0 q.1 q.2 := fun _ h => absurd h List.not_mem_nil
theorem zstc_r1 : ∀ q ∈ zstcL1, (fun c k r => r = -2 ∧ ∃ host, Cond.fieldLinkNest (zown c) k RX7 "FIRST_WEIGHTS" "[I" host ∈ zNW) 1 q.1 q.2 := fun _ h => absurd h List.not_mem_nil
theorem zstc_r2 : ∀ q ∈ zstcL2, (fun c k r => r = -2 ∧ ∃ host, Cond.fieldLinkNest (zown c) k RX7 "FIRST_WEIGHTS" "[I" host ∈ zNW) 2 q.1 q.2 := fun _ h => absurd h List.not_mem_nil
theorem zstc_r3 : ∀ q ∈ zstcL3, (fun c k r => r = -2 ∧ ∃ host, Cond.fieldLinkNest (zown c) k RX7 "FIRST_WEIGHTS" "[I" host ∈ zNW) 3 q.1 q.2 := fun _ h => absurd h List.not_mem_nil
theorem zstc_r4 : ∀ q ∈ zstcL4, (fun c k r => r = -2 ∧ ∃ host, Cond.fieldLinkNest (zown c) k RX7 "FIRST_WEIGHTS" "[I" host ∈ zNW) 4 q.1 q.2 := fun _ h => absurd h List.not_mem_nil
theorem zstc_5_22 : (fun c k r => r = -2 ∧ ∃ host, Cond.fieldLinkNest (zown c) k RX7 "FIRST_WEIGHTS" "[I" host ∈ zNW) 5 22 (-2 : Int) := ⟨rfl, "LintPress", by decide +kernel⟩
theorem zstc_r5 : ∀ q ∈ zstcL5, (fun c k r => r = -2 ∧ ∃ host, Cond.fieldLinkNest (zown c) k RX7 "FIRST_WEIGHTS" "[I" host ∈ zNW) 5 q.1 q.2 := List.forall_mem_cons.mpr ⟨zstc_5_22, fun _ h => absurd h List.not_mem_nil⟩
theorem zstc_r6 : ∀ q ∈ zstcL6, (fun c k r => r = -2 ∧ ∃ host, Cond.fieldLinkNest (zown c) k RX7 "FIRST_WEIGHTS" "[I" host ∈ zNW) 6 q.1 q.2 := fun _ h => absurd h List.not_mem_nil
theorem zstc_r7 : ∀ q ∈ zstcL7, (fun c k r => r = -2 ∧ ∃ host, Cond.fieldLinkNest (zown c) k RX7 "FIRST_WEIGHTS" "[I" host ∈ zNW) 7 q.1 q.2 := fun _ h => absurd h List.not_mem_nil
theorem zstc_r8 : ∀ q ∈ zstcL8, (fun c k r => r = -2 ∧ ∃ host, Cond.fieldLinkNest (zown c) k RX7 "FIRST_WEIGHTS" "[I" host ∈ zNW) 8 q.1 q.2 := fun _ h => absurd h List.not_mem_nil
theorem zstc_r9 : ∀ q ∈ zstcL9, (fun c k r => r = -2 ∧ ∃ host, Cond.fieldLinkNest (zown c) k RX7 "FIRST_WEIGHTS" "[I" host ∈ zNW) 9 q.1 q.2 := fun _ h => absurd h List.not_mem_nil
theorem zstc_ok : ∀ c k r, zstc c k = some r → r = -2 ∧ ∃ host, Cond.fieldLinkNest (zown c) k RX7 "FIRST_WEIGHTS" "[I" host ∈ zNW := by
  intro c k v h
  refine ztab_all (P := (fun c k r => r = -2 ∧ ∃ host, Cond.fieldLinkNest (zown c) k RX7 "FIRST_WEIGHTS" "[I" host ∈ zNW)) (fun c r hr => ?_) h
  match c, hr with
  | 0, hr => cases hr; exact zstc_r0
  | 1, hr => cases hr; exact zstc_r1
  | 2, hr => cases hr; exact zstc_r2
  | 3, hr => cases hr; exact zstc_r3
  | 4, hr => cases hr; exact zstc_r4
  | 5, hr => cases hr; exact zstc_r5
  | 6, hr => cases hr; exact zstc_r6
  | 7, hr => cases hr; exact zstc_r7
  | 8, hr => cases hr; exact zstc_r8
  | 9, hr => cases hr; exact zstc_r9
  | n + 10, hr => simp [zstcL] at hr
theorem zexn_r0 : ∀ q ∈ zexnL0, zexnP 0 q.1 q.2 := fun _ h => absurd h List.not_mem_nil
theorem zexn_r1 : ∀ q ∈ zexnL1, zexnP 1 q.1 q.2 := fun _ h => absurd h List.not_mem_nil
theorem zexn_r2 : ∀ q ∈ zexnL2, zexnP 2 q.1 q.2 := fun _ h => absurd h List.not_mem_nil
theorem zexn_r3 : ∀ q ∈ zexnL3, zexnP 3 q.1 q.2 := fun _ h => absurd h List.not_mem_nil
theorem zexn_r4 : ∀ q ∈ zexnL4, zexnP 4 q.1 q.2 := fun _ h => absurd h List.not_mem_nil
theorem zexn_r5 : ∀ q ∈ zexnL5, zexnP 5 q.1 q.2 := fun _ h => absurd h List.not_mem_nil
theorem zexn_r6 : ∀ q ∈ zexnL6, zexnP 6 q.1 q.2 := fun _ h => absurd h List.not_mem_nil
theorem zexn_7_84 : zexnP 7 84 "java/lang/IllegalStateException" := (zwm 535 (by decide +kernel) : Cond.classLink (zown 7) 84 "java/lang/IllegalStateException" ∈ zWS)
theorem zexn_7_109 : zexnP 7 109 "java/util/NoSuchElementException" := (zwm 688 (by decide +kernel) : Cond.classLink (zown 7) 109 "java/util/NoSuchElementException" ∈ zWS)
theorem zexn_7_114 : zexnP 7 114 "java/lang/IllegalArgumentException" := (zwm 455 (by decide +kernel) : Cond.classLink (zown 7) 114 "java/lang/IllegalArgumentException" ∈ zWS)
theorem zexn_7_158 : zexnP 7 158 "java/lang/UnsupportedOperationException" := (zwm 769 (by decide +kernel) : Cond.classLink (zown 7) 158 "java/lang/UnsupportedOperationException" ∈ zWS)
theorem zexn_7_240 : zexnP 7 240 "java/lang/ArithmeticException" := (zwm 984 (by decide +kernel) : Cond.classLink (zown 7) 240 "java/lang/ArithmeticException" ∈ zWS)
theorem zexn_7_294 : zexnP 7 294 "java/lang/IndexOutOfBoundsException" := (zwm 631 (by decide +kernel) : Cond.classLink (zown 7) 294 "java/lang/IndexOutOfBoundsException" ∈ zWS)
theorem zexn_r7 : ∀ q ∈ zexnL7, zexnP 7 q.1 q.2 := List.forall_mem_cons.mpr ⟨zexn_7_84, List.forall_mem_cons.mpr ⟨zexn_7_109, List.forall_mem_cons.mpr ⟨zexn_7_114, List.forall_mem_cons.mpr ⟨zexn_7_158, List.forall_mem_cons.mpr ⟨zexn_7_240, List.forall_mem_cons.mpr ⟨zexn_7_294, fun _ h => absurd h List.not_mem_nil⟩⟩⟩⟩⟩⟩
theorem zexn_r8 : ∀ q ∈ zexnL8, zexnP 8 q.1 q.2 := fun _ h => absurd h List.not_mem_nil
theorem zexn_9_13 : zexnP 9 13 "java/lang/IllegalArgumentException" := (zwm 446 (by decide +kernel) : Cond.classLink (zown 9) 13 "java/lang/IllegalArgumentException" ∈ zWS)
theorem zexn_9_15 : zexnP 9 15 "java/lang/IllegalStateException" := (zwm 447 (by decide +kernel) : Cond.classLink (zown 9) 15 "java/lang/IllegalStateException" ∈ zWS)
theorem zexn_9_32 : zexnP 9 32 "java/lang/IndexOutOfBoundsException" := (zwm 599 (by decide +kernel) : Cond.classLink (zown 9) 32 "java/lang/IndexOutOfBoundsException" ∈ zWS)
theorem zexn_9_49 : zexnP 9 49 "java/util/NoSuchElementException" := (zwm 683 (by decide +kernel) : Cond.classLink (zown 9) 49 "java/util/NoSuchElementException" ∈ zWS)
theorem zexn_9_74 : zexnP 9 74 "java/lang/UnsupportedOperationException" := (zwm 764 (by decide +kernel) : Cond.classLink (zown 9) 74 "java/lang/UnsupportedOperationException" ∈ zWS)
theorem zexn_9_108 : zexnP 9 108 "java/lang/ArithmeticException" := (zwm 962 (by decide +kernel) : Cond.classLink (zown 9) 108 "java/lang/ArithmeticException" ∈ zWS)
theorem zexn_r9 : ∀ q ∈ zexnL9, zexnP 9 q.1 q.2 := List.forall_mem_cons.mpr ⟨zexn_9_13, List.forall_mem_cons.mpr ⟨zexn_9_15, List.forall_mem_cons.mpr ⟨zexn_9_32, List.forall_mem_cons.mpr ⟨zexn_9_49, List.forall_mem_cons.mpr ⟨zexn_9_74, List.forall_mem_cons.mpr ⟨zexn_9_108, fun _ h => absurd h List.not_mem_nil⟩⟩⟩⟩⟩⟩
theorem zexn_ok : ∀ c k E, zexn c k = some E → zexnP c k E := by
  intro c k v h
  refine ztab_all (P := zexnP) (fun c r hr => ?_) h
  match c, hr with
  | 0, hr => cases hr; exact zexn_r0
  | 1, hr => cases hr; exact zexn_r1
  | 2, hr => cases hr; exact zexn_r2
  | 3, hr => cases hr; exact zexn_r3
  | 4, hr => cases hr; exact zexn_r4
  | 5, hr => cases hr; exact zexn_r5
  | 6, hr => cases hr; exact zexn_r6
  | 7, hr => cases hr; exact zexn_r7
  | 8, hr => cases hr; exact zexn_r8
  | 9, hr => cases hr; exact zexn_r9
  | n + 10, hr => simp [zexnL] at hr
theorem zxic_r0 : ∀ q ∈ zxicL0, zxicP zNW 0 q.1 q.2 := fun _ h => absurd h List.not_mem_nil
theorem zxic_r1 : ∀ q ∈ zxicL1, zxicP zNW 1 q.1 q.2 := fun _ h => absurd h List.not_mem_nil
theorem zxic_r2 : ∀ q ∈ zxicL2, zxicP zNW 2 q.1 q.2 := fun _ h => absurd h List.not_mem_nil
theorem zxic_r3 : ∀ q ∈ zxicL3, zxicP zNW 3 q.1 q.2 := fun _ h => absurd h List.not_mem_nil
theorem zxic_r4 : ∀ q ∈ zxicL4, zxicP zNW 4 q.1 q.2 := fun _ h => absurd h List.not_mem_nil
theorem zxic_r5 : ∀ q ∈ zxicL5, zxicP zNW 5 q.1 q.2 := fun _ h => absurd h List.not_mem_nil
theorem zxic_r6 : ∀ q ∈ zxicL6, zxicP zNW 6 q.1 q.2 := fun _ h => absurd h List.not_mem_nil
theorem zxic_7_88 : zxicP zNW 7 88 "java/lang/IllegalStateException" := ⟨"java/lang/RuntimeException", ["java/lang/Exception"], 7, prog_16_method_2_code, by decide +kernel, by decide +kernel, by decide +kernel, by decide, ⟨by decide +kernel, by decide +kernel, by decide +kernel, by decide +kernel⟩, (zwm 52 (by decide +kernel)), by
  have h : (zx_at (zown 7) 88 "java/lang/IllegalStateException" "java/lang/RuntimeException" ["java/lang/Exception"] 7 prog_16_method_2_code).all (fun w => vx_ot w && (decide (w ∈ zWS) || decide (w ∈ zNW))) = true := by decide +kernel
  intro w hw
  have h := List.all_eq_true.mp h w hw
  simp only [Bool.and_eq_true, Bool.or_eq_true, decide_eq_true_eq] at h
  exact h⟩
theorem zxic_7_113 : zxicP zNW 7 113 "java/util/NoSuchElementException" := ⟨"java/lang/RuntimeException", ["java/lang/Exception"], 13, prog_23_method_4_code, by decide +kernel, by decide +kernel, by decide +kernel, by decide, ⟨by decide +kernel, by decide +kernel, by decide +kernel, by decide +kernel⟩, (zwm 56 (by decide +kernel)), by
  have h : (zx_at (zown 7) 113 "java/util/NoSuchElementException" "java/lang/RuntimeException" ["java/lang/Exception"] 13 prog_23_method_4_code).all (fun w => vx_ot w && (decide (w ∈ zWS) || decide (w ∈ zNW))) = true := by decide +kernel
  intro w hw
  have h := List.all_eq_true.mp h w hw
  simp only [Bool.and_eq_true, Bool.or_eq_true, decide_eq_true_eq] at h
  exact h⟩
theorem zxic_7_118 : zxicP zNW 7 118 "java/lang/IllegalArgumentException" := ⟨"java/lang/RuntimeException", ["java/lang/Exception"], 7, prog_15_method_2_code, by decide +kernel, by decide +kernel, by decide +kernel, by decide, ⟨by decide +kernel, by decide +kernel, by decide +kernel, by decide +kernel⟩, (zwm 51 (by decide +kernel)), by
  have h : (zx_at (zown 7) 118 "java/lang/IllegalArgumentException" "java/lang/RuntimeException" ["java/lang/Exception"] 7 prog_15_method_2_code).all (fun w => vx_ot w && (decide (w ∈ zWS) || decide (w ∈ zNW))) = true := by decide +kernel
  intro w hw
  have h := List.all_eq_true.mp h w hw
  simp only [Bool.and_eq_true, Bool.or_eq_true, decide_eq_true_eq] at h
  exact h⟩
theorem zxic_7_162 : zxicP zNW 7 162 "java/lang/UnsupportedOperationException" := ⟨"java/lang/RuntimeException", ["java/lang/Exception"], 7, prog_22_method_2_code, by decide +kernel, by decide +kernel, by decide +kernel, by decide, ⟨by decide +kernel, by decide +kernel, by decide +kernel, by decide +kernel⟩, (zwm 58 (by decide +kernel)), by
  have h : (zx_at (zown 7) 162 "java/lang/UnsupportedOperationException" "java/lang/RuntimeException" ["java/lang/Exception"] 7 prog_22_method_2_code).all (fun w => vx_ot w && (decide (w ∈ zWS) || decide (w ∈ zNW))) = true := by decide +kernel
  intro w hw
  have h := List.all_eq_true.mp h w hw
  simp only [Bool.and_eq_true, Bool.or_eq_true, decide_eq_true_eq] at h
  exact h⟩
theorem zxic_7_244 : zxicP zNW 7 244 "java/lang/ArithmeticException" := ⟨"java/lang/RuntimeException", ["java/lang/Exception"], 7, prog_12_method_2_code, by decide +kernel, by decide +kernel, by decide +kernel, by decide, ⟨by decide +kernel, by decide +kernel, by decide +kernel, by decide +kernel⟩, (zwm 59 (by decide +kernel)), by
  have h : (zx_at (zown 7) 244 "java/lang/ArithmeticException" "java/lang/RuntimeException" ["java/lang/Exception"] 7 prog_12_method_2_code).all (fun w => vx_ot w && (decide (w ∈ zWS) || decide (w ∈ zNW))) = true := by decide +kernel
  intro w hw
  have h := List.all_eq_true.mp h w hw
  simp only [Bool.and_eq_true, Bool.or_eq_true, decide_eq_true_eq] at h
  exact h⟩
theorem zxic_7_298 : zxicP zNW 7 298 "java/lang/IndexOutOfBoundsException" := ⟨"java/lang/RuntimeException", ["java/lang/Exception"], 7, prog_17_method_2_code, by decide +kernel, by decide +kernel, by decide +kernel, by decide, ⟨by decide +kernel, by decide +kernel, by decide +kernel, by decide +kernel⟩, (zwm 53 (by decide +kernel)), by
  have h : (zx_at (zown 7) 298 "java/lang/IndexOutOfBoundsException" "java/lang/RuntimeException" ["java/lang/Exception"] 7 prog_17_method_2_code).all (fun w => vx_ot w && (decide (w ∈ zWS) || decide (w ∈ zNW))) = true := by decide +kernel
  intro w hw
  have h := List.all_eq_true.mp h w hw
  simp only [Bool.and_eq_true, Bool.or_eq_true, decide_eq_true_eq] at h
  exact h⟩
theorem zxic_r7 : ∀ q ∈ zxicL7, zxicP zNW 7 q.1 q.2 := List.forall_mem_cons.mpr ⟨zxic_7_88, List.forall_mem_cons.mpr ⟨zxic_7_113, List.forall_mem_cons.mpr ⟨zxic_7_118, List.forall_mem_cons.mpr ⟨zxic_7_162, List.forall_mem_cons.mpr ⟨zxic_7_244, List.forall_mem_cons.mpr ⟨zxic_7_298, fun _ h => absurd h List.not_mem_nil⟩⟩⟩⟩⟩⟩
theorem zxic_r8 : ∀ q ∈ zxicL8, zxicP zNW 8 q.1 q.2 := fun _ h => absurd h List.not_mem_nil
theorem zxic_r9 : ∀ q ∈ zxicL9, zxicP zNW 9 q.1 q.2 := fun _ h => absurd h List.not_mem_nil
theorem zxic_ok : ∀ c k E, zxic c k = some E → zxicP zNW c k E := by
  intro c k v h
  refine ztab_all (P := (zxicP zNW)) (fun c r hr => ?_) h
  match c, hr with
  | 0, hr => cases hr; exact zxic_r0
  | 1, hr => cases hr; exact zxic_r1
  | 2, hr => cases hr; exact zxic_r2
  | 3, hr => cases hr; exact zxic_r3
  | 4, hr => cases hr; exact zxic_r4
  | 5, hr => cases hr; exact zxic_r5
  | 6, hr => cases hr; exact zxic_r6
  | 7, hr => cases hr; exact zxic_r7
  | 8, hr => cases hr; exact zxic_r8
  | 9, hr => cases hr; exact zxic_r9
  | n + 10, hr => simp [zxicL] at hr
theorem zstr_r0 : ∀ q ∈ zstrL0, (fun c k tx => (zown c, k, tx) ∈ zTX) 0 q.1 q.2 := fun _ h => absurd h List.not_mem_nil
theorem zstr_r1 : ∀ q ∈ zstrL1, (fun c k tx => (zown c, k, tx) ∈ zTX) 1 q.1 q.2 := fun _ h => absurd h List.not_mem_nil
theorem zstr_r2 : ∀ q ∈ zstrL2, (fun c k tx => (zown c, k, tx) ∈ zTX) 2 q.1 q.2 := fun _ h => absurd h List.not_mem_nil
theorem zstr_r3 : ∀ q ∈ zstrL3, (fun c k tx => (zown c, k, tx) ∈ zTX) 3 q.1 q.2 := fun _ h => absurd h List.not_mem_nil
theorem zstr_r4 : ∀ q ∈ zstrL4, (fun c k tx => (zown c, k, tx) ∈ zTX) 4 q.1 q.2 := fun _ h => absurd h List.not_mem_nil
theorem zstr_r5 : ∀ q ∈ zstrL5, (fun c k tx => (zown c, k, tx) ∈ zTX) 5 q.1 q.2 := fun _ h => absurd h List.not_mem_nil
theorem zstr_r6 : ∀ q ∈ zstrL6, (fun c k tx => (zown c, k, tx) ∈ zTX) 6 q.1 q.2 := fun _ h => absurd h List.not_mem_nil
theorem zstr_7_86 : (fun c k tx => (zown c, k, tx) ∈ zTX) 7 86 "no block is open" := by decide +kernel
theorem zstr_7_98 : (fun c k tx => (zown c, k, tx) ∈ zTX) 7 98 "the entry is no name" := by decide +kernel
theorem zstr_7_111 : (fun c k tx => (zown c, k, tx) ∈ zTX) 7 111 "there is no name" := by decide +kernel
theorem zstr_7_116 : (fun c k tx => (zown c, k, tx) ∈ zTX) 7 116 "the last entry is ahead of the first one" := by decide +kernel
theorem zstr_7_160 : (fun c k tx => (zown c, k, tx) ∈ zTX) 7 160 "too many findings can be fixed" := by decide +kernel
theorem zstr_7_174 : (fun c k tx => (zown c, k, tx) ∈ zTX) 7 174 "the finding cannot be fixed" := by decide +kernel
theorem zstr_7_182 : (fun c k tx => (zown c, k, tx) ∈ zTX) 7 182 "no finding can be fixed" := by decide +kernel
theorem zstr_7_184 : (fun c k tx => (zown c, k, tx) ∈ zTX) 7 184 "both names are the same" := by decide +kernel
theorem zstr_7_186 : (fun c k tx => (zown c, k, tx) ∈ zTX) 7 186 "the name does not occur" := by decide +kernel
theorem zstr_7_191 : (fun c k tx => (zown c, k, tx) ∈ zTX) 7 191 "the name is pinned, or the new one occurs" := by decide +kernel
theorem zstr_7_197 : (fun c k tx => (zown c, k, tx) ∈ zTX) 7 197 "both places are the same" := by decide +kernel
theorem zstr_7_212 : (fun c k tx => (zown c, k, tx) ∈ zTX) 7 212 "an entry there is pinned, a beginning or an end" := by decide +kernel
theorem zstr_7_218 : (fun c k tx => (zown c, k, tx) ∈ zTX) 7 218 "no deed can be undone" := by decide +kernel
theorem zstr_7_232 : (fun c k tx => (zown c, k, tx) ∈ zTX) 7 232 "there is no such rank" := by decide +kernel
theorem zstr_7_242 : (fun c k tx => (zown c, k, tx) ∈ zTX) 7 242 "nothing was fixed" := by decide +kernel
theorem zstr_7_248 : (fun c k tx => (zown c, k, tx) ∈ zTX) 7 248 "the width is out of range" := by decide +kernel
theorem zstr_7_260 : (fun c k tx => (zown c, k, tx) ∈ zTX) 7 260 "there are too many entries" := by decide +kernel
theorem zstr_7_272 : (fun c k tx => (zown c, k, tx) ∈ zTX) 7 272 "there is no such line" := by decide +kernel
theorem zstr_7_278 : (fun c k tx => (zown c, k, tx) ∈ zTX) 7 278 "there are no entries" := by decide +kernel
theorem zstr_7_288 : (fun c k tx => (zown c, k, tx) ∈ zTX) 7 288 "the name is out of range" := by decide +kernel
theorem zstr_7_290 : (fun c k tx => (zown c, k, tx) ∈ zTX) 7 290 "the length is out of range" := by decide +kernel
theorem zstr_7_292 : (fun c k tx => (zown c, k, tx) ∈ zTX) 7 292 "there is no such rule" := by decide +kernel
theorem zstr_7_296 : (fun c k tx => (zown c, k, tx) ∈ zTX) 7 296 "there is no such entry" := by decide +kernel
theorem zstr_7_299 : (fun c k tx => (zown c, k, tx) ∈ zTX) 7 299 "there is no such finding" := by decide +kernel
theorem zstr_7_301 : (fun c k tx => (zown c, k, tx) ∈ zTX) 7 301 "the text is not laid out" := by decide +kernel
theorem zstr_7_303 : (fun c k tx => (zown c, k, tx) ∈ zTX) 7 303 "there are as many entries as there can be" := by decide +kernel
theorem zstr_r7 : ∀ q ∈ zstrL7, (fun c k tx => (zown c, k, tx) ∈ zTX) 7 q.1 q.2 := List.forall_mem_cons.mpr ⟨zstr_7_86, List.forall_mem_cons.mpr ⟨zstr_7_98, List.forall_mem_cons.mpr ⟨zstr_7_111, List.forall_mem_cons.mpr ⟨zstr_7_116, List.forall_mem_cons.mpr ⟨zstr_7_160, List.forall_mem_cons.mpr ⟨zstr_7_174, List.forall_mem_cons.mpr ⟨zstr_7_182, List.forall_mem_cons.mpr ⟨zstr_7_184, List.forall_mem_cons.mpr ⟨zstr_7_186, List.forall_mem_cons.mpr ⟨zstr_7_191, List.forall_mem_cons.mpr ⟨zstr_7_197, List.forall_mem_cons.mpr ⟨zstr_7_212, List.forall_mem_cons.mpr ⟨zstr_7_218, List.forall_mem_cons.mpr ⟨zstr_7_232, List.forall_mem_cons.mpr ⟨zstr_7_242, List.forall_mem_cons.mpr ⟨zstr_7_248, List.forall_mem_cons.mpr ⟨zstr_7_260, List.forall_mem_cons.mpr ⟨zstr_7_272, List.forall_mem_cons.mpr ⟨zstr_7_278, List.forall_mem_cons.mpr ⟨zstr_7_288, List.forall_mem_cons.mpr ⟨zstr_7_290, List.forall_mem_cons.mpr ⟨zstr_7_292, List.forall_mem_cons.mpr ⟨zstr_7_296, List.forall_mem_cons.mpr ⟨zstr_7_299, List.forall_mem_cons.mpr ⟨zstr_7_301, List.forall_mem_cons.mpr ⟨zstr_7_303, fun _ h => absurd h List.not_mem_nil⟩⟩⟩⟩⟩⟩⟩⟩⟩⟩⟩⟩⟩⟩⟩⟩⟩⟩⟩⟩⟩⟩⟩⟩⟩⟩
theorem zstr_r8 : ∀ q ∈ zstrL8, (fun c k tx => (zown c, k, tx) ∈ zTX) 8 q.1 q.2 := fun _ h => absurd h List.not_mem_nil
theorem zstr_r9 : ∀ q ∈ zstrL9, (fun c k tx => (zown c, k, tx) ∈ zTX) 9 q.1 q.2 := fun _ h => absurd h List.not_mem_nil
theorem zstr_ok : ∀ c k tx, zstr c k = some tx → (zown c, k, tx) ∈ zTX := by
  intro c k v h
  refine ztab_all (P := (fun c k tx => (zown c, k, tx) ∈ zTX)) (fun c r hr => ?_) h
  match c, hr with
  | 0, hr => cases hr; exact zstr_r0
  | 1, hr => cases hr; exact zstr_r1
  | 2, hr => cases hr; exact zstr_r2
  | 3, hr => cases hr; exact zstr_r3
  | 4, hr => cases hr; exact zstr_r4
  | 5, hr => cases hr; exact zstr_r5
  | 6, hr => cases hr; exact zstr_r6
  | 7, hr => cases hr; exact zstr_r7
  | 8, hr => cases hr; exact zstr_r8
  | 9, hr => cases hr; exact zstr_r9
  | n + 10, hr => simp [zstrL] at hr
