/-! findings: noted, searched for, read -/
def FR (w : zW) (T : zTx) (R : zRu) (n : Nat) : Prop := w 81 4 = (fdN T n : Int) ∧ ∀ j, j < n → rlT T j ≠ -1 → w 82 (fdN T j) = rlT T j ∧ w 83 (fdN T j) = (j : Int) ∧ w 84 (fdN T j) = (enT T j : Int) ∧ w 85 (fdN T j) = gnT T R j
def frF (w w' : zW) : Prop := ∀ a k, ¬ (82 ≤ a ∧ a ≤ 85) → ¬ (a = 81 ∧ k = 4) → w' a k = w a k
theorem frF.refl (w : zW) : frF w w := fun _ _ _ _ => rfl
theorem frF.trans {a b c : zW} (h : frF a b) (k : frF b c) : frF a c := fun x y h1 h2 => (k x y h1 h2).trans (h x y h1 h2)
def nw5 (w : zW) (c : Nat) (r j e g : Int) : zW := zup (zup (zup (zup (zup w 82 c r) 83 c j) 84 c e) 85 c g) 81 4 ((c : Int) + 1)
section
variable {ro : zRo} {w : zW} {T : zTx} {R : zRu} {B : Int}
theorem nw5_81 {c : Nat} {r j e g : Int} : nw5 w c r j e g 81 4 = (c : Int) + 1 := zup_eq _ _ _ _
theorem nw5_82 {c k : Nat} {r j e g : Int} : nw5 w c r j e g 82 k = if k = c then r else w 82 k := by simp [nw5, zup]
theorem nw5_83 {c k : Nat} {r j e g : Int} : nw5 w c r j e g 83 k = if k = c then j else w 83 k := by simp [nw5, zup]
theorem nw5_84 {c k : Nat} {r j e g : Int} : nw5 w c r j e g 84 k = if k = c then e else w 84 k := by simp [nw5, zup]
theorem nw5_85 {c k : Nat} {r j e g : Int} : nw5 w c r j e g 85 k = if k = c then g else w 85 k := by simp [nw5, zup]
theorem nw5_fr {c : Nat} {r j e g : Int} : frF w (nw5 w c r j e g) := fun a k h1 h2 => (zup_ne (by omega)).trans ((zup_ne (by omega)).trans ((zup_ne (by omega)).trans ((zup_ne (by omega)).trans (zup_ne (by omega)))))
theorem FR_note {W : zW} {j : Nat} {r e g : Int} (h : FR W T R j) (hr : rlT T j ≠ -1) (e1 : rlT T j = r) (e2 : (enT T j : Int) = e) (e3 : gnT T R j = g) : FR (nw5 W (fdN T j) r j e g) T R (j + 1) := by
  refine ⟨by rw [fdN_s hr]; exact nw5_81, fun q hq hrq => ?_⟩
  rw [nw5_82, nw5_83, nw5_84, nw5_85]
  by_cases hqj : q = j
  · subst hqj
    rw [if_pos rfl, if_pos rfl, if_pos rfl, if_pos rfl]
    exact ⟨e1.symm, rfl, e2.symm, e3.symm⟩
  · have := (fdN_lt (k := j) hrq).mpr (by omega)
    rw [if_neg (by omega), if_neg (by omega), if_neg (by omega), if_neg (by omega)]
    exact h.2 q (by omega) hrq
theorem FR_skip {W : zW} {j : Nat} (h : FR W T R j) (hr : rlT T j = -1) : FR W T R (j + 1) := by
  refine ⟨by rw [fdN_n hr]; exact h.1, fun q hq hrq => ?_⟩
  by_cases hqj : q = j
  · subst hqj; exact absurd hr hrq
  · exact h.2 q (by omega) hrq
theorem TR_frF {W : zW} (h : TR w 1 T) (f : frF w W) : TR W 1 T := TR_frame h (fun a k ha => f a k (by omega) (by omega))
theorem RR_frF {W : zW} (h : RR w R) (f : frF w W) : RR W R := ⟨fun j hj => (f 7 j (by omega) (by omega)).trans (h.1 j hj), fun j hj => (f 8 j (by omega) (by omega)).trans (h.2.1 j hj), (f 6 2 (by omega) (by omega)).trans h.2.2⟩
theorem vX3_note (hR : TR w 1 T) (hV : TV T) (hRR : RR w R) {r j e c : Nat} (hr : r < 5) (hje : j < e) (heT : e < T.1) (hc : w 81 4 = (c : Int)) (hc2 : c < 30) : Pw ro 2 mX3_note [(1, ((81 : Nat) : Int)), (1, ((1 : Nat) : Int)), (1, ((6 : Nat) : Int)), (0, (r : Int)), (0, (j : Int)), (0, (e : Int))] w (nw5 w c r j e (if pnF T j (e + 1 - j) = 1 then R.1 r else 0)) := by
  have hV1 := hV.1
  have hT := TX_1
  generalize hg : (if pnF T j (e + 1 - j) = 1 then R.1 r else 0) = g
  have f3 : frF w (zup (zup (zup w 82 c (r : Int)) 83 c (j : Int)) 84 c (e : Int)) := fun a k h1 h2 => (zup_ne (by omega)).trans ((zup_ne (by omega)).trans (zup_ne (by omega)))
  have fin : ∀ (x : Int) (y : zV), x = pnF T j (e + 1 - j) → Z ro 2 mX3_note 50 [(1, ((81 : Nat) : Int)), (1, ((1 : Nat) : Int)), (1, ((6 : Nat) : Int)), (0, (r : Int)), (0, (j : Int)), (0, (e : Int)), (0, x), y] [] w (fun r9 w' k => k = 0 ∧ ∃ o, r9 = .inl o ∧ (o = none ∧ w' = nw5 w c r j e g)) := by
    intro x y hx
    obtain ⟨y1, y2⟩ := y
    have hm : (if (c : Int) + 1 < 30 then (c : Int) + 1 else 30) = (c : Int) + 1 := by split <;> omega
    refine Z_push gX3_note_50 (v := (1, ((81 : Nat) : Int))) rfl ?_
    refine Z_getR (b := 82) gX3_note_51 rfl rfl (by decide) rfl (by omega) ?_
    refine Z_push gX3_note_54 (v := (1, ((81 : Nat) : Int))) rfl ?_
    refine Z_getV (v := (c : Int)) gX3_note_55 rfl rfl (by decide) hc ?_
    refine Z_push gX3_note_58 (v := (0, (r : Int))) rfl ?_
    refine Z_callW (kd := 2) (na := 3) (M' := mX7_write) gX3_note_59 rfl rfl rfl rfl rfl rfl (fun _ => rfl) rfl rfl (fun _ _ => rfl) (d' := 0) (by omega) (vX7_writeN (len := 30) rfl hc2 _) ?_
    refine Z_push gX3_note_62 (v := (1, ((81 : Nat) : Int))) rfl ?_
    refine Z_getR (b := 83) gX3_note_63 rfl rfl (by decide) rfl (by omega) ?_
    refine Z_push gX3_note_66 (v := (1, ((81 : Nat) : Int))) rfl ?_
    refine Z_getV (v := (c : Int)) gX3_note_67 rfl rfl (by decide) (by simp [zup, hc]) ?_
    refine Z_push gX3_note_70 (v := (0, (j : Int))) rfl ?_
    refine Z_callW (kd := 2) (na := 3) (M' := mX7_write) gX3_note_72 rfl rfl rfl rfl rfl rfl (fun _ => rfl) rfl rfl (fun _ _ => rfl) (d' := 0) (by omega) (vX7_writeN (len := 30) rfl hc2 _) ?_
    refine Z_push gX3_note_75 (v := (1, ((81 : Nat) : Int))) rfl ?_
    refine Z_getR (b := 84) gX3_note_76 rfl rfl (by decide) rfl (by omega) ?_
    refine Z_push gX3_note_79 (v := (1, ((81 : Nat) : Int))) rfl ?_
    refine Z_getV (v := (c : Int)) gX3_note_80 rfl rfl (by decide) (by simp [zup, hc]) ?_
    refine Z_push gX3_note_83 (v := (0, (e : Int))) rfl ?_
    refine Z_callW (kd := 2) (na := 3) (M' := mX7_write) gX3_note_85 rfl rfl rfl rfl rfl rfl (fun _ => rfl) rfl rfl (fun _ _ => rfl) (d' := 0) (by omega) (vX7_writeN (len := 30) rfl hc2 _) ?_
    refine Z_push gX3_note_88 (v := (1, ((81 : Nat) : Int))) rfl ?_
    refine Z_getR (b := 85) gX3_note_89 rfl rfl (by decide) rfl (by omega) ?_
    refine Z_push gX3_note_92 (v := (1, ((81 : Nat) : Int))) rfl ?_
    refine Z_getV (v := (c : Int)) gX3_note_93 rfl rfl (by decide) (by simp [zup, hc]) ?_
    refine Z_push gX3_note_96 (v := (0, x)) rfl ?_
    refine Z_if_eq gX3_note_98 (tgt := 109) (by decide) (fun h98 => ?_) (fun h98 => ?_)
    · refine Z_push gX3_note_109 (v := (0, 0)) rfl ?_
      refine Z_callW (kd := 2) (na := 3) (M' := mX7_write) gX3_note_110 rfl rfl rfl rfl rfl rfl (fun _ => rfl) rfl rfl (fun _ _ => rfl) (d' := 0) (by omega) (vX7_writeN (len := 30) rfl hc2 _) ?_
      refine Z_push gX3_note_113 (v := (1, ((81 : Nat) : Int))) rfl ?_
      refine Z_push gX3_note_114 (v := (1, ((81 : Nat) : Int))) rfl ?_
      refine Z_getV (v := (c : Int)) gX3_note_115 rfl rfl (by decide) (by simp [zup, hc]) ?_
      refine Z_push gX3_note_118 (v := (0, 1)) rfl ?_
      refine Z_iadd gX3_note_119 ⟨by omega, by omega⟩ ?_
      refine Z_push gX3_note_120 (v := (0, 30)) rfl ?_
      refine Z_arith gX3_note_122 rfl rfl (v := [(0, (if (c : Int) + 1 < 30 then (c : Int) + 1 else 30)), (1, ((81 : Nat) : Int))]) rfl ?_
      refine Z_put gX3_note_125 rfl rfl (by decide) rfl (fun h => by cases h) ?_
      refine Z_end gX3_note_128 rfl rfl rfl rfl (v := none) rfl ⟨rfl, none, rfl, ?_⟩
      refine ⟨rfl, ?_⟩
      rw [hm, ← hg, if_neg (by omega)]
      rfl
    · have h1 : x = 1 := by have := pnF_01 T j (e + 1 - j); omega
      refine Z_push gX3_note_101 (v := (1, ((6 : Nat) : Int))) rfl ?_
      refine Z_push gX3_note_102 (v := (0, (r : Int))) rfl ?_
      refine Z_callP (kd := 0) (na := 2) (M' := mX5_weightFor) gX3_note_103 rfl rfl rfl rfl rfl rfl (fun _ => rfl) rfl rfl (fun _ _ => zrecv_obj rfl _ _ _) (d' := 1) (by omega) (show Pv ro 1 mX5_weightFor _ _ (0, R.1 r) from vX5_weightFor (RR_frF hRR f3) hr) ?_
      refine Z_goto gX3_note_106 (tgt := 110) (by decide) ?_
      refine Z_callW (kd := 2) (na := 3) (M' := mX7_write) gX3_note_110 rfl rfl rfl rfl rfl rfl (fun _ => rfl) rfl rfl (fun _ _ => rfl) (d' := 0) (by omega) (vX7_writeN (len := 30) rfl hc2 _) ?_
      refine Z_push gX3_note_113 (v := (1, ((81 : Nat) : Int))) rfl ?_
      refine Z_push gX3_note_114 (v := (1, ((81 : Nat) : Int))) rfl ?_
      refine Z_getV (v := (c : Int)) gX3_note_115 rfl rfl (by decide) (by simp [zup, hc]) ?_
      refine Z_push gX3_note_118 (v := (0, 1)) rfl ?_
      refine Z_iadd gX3_note_119 ⟨by omega, by omega⟩ ?_
      refine Z_push gX3_note_120 (v := (0, 30)) rfl ?_
      refine Z_arith gX3_note_122 rfl rfl (v := [(0, (if (c : Int) + 1 < 30 then (c : Int) + 1 else 30)), (1, ((81 : Nat) : Int))]) rfl ?_
      refine Z_put gX3_note_125 rfl rfl (by decide) rfl (fun h => by cases h) ?_
      refine Z_end gX3_note_128 rfl rfl rfl rfl (v := none) rfl ⟨rfl, none, rfl, ?_⟩
      refine ⟨rfl, ?_⟩
      rw [hm, ← hg, if_pos (by omega)]
      rfl
  have loop : ∀ k m : Nat, j + m + k = e + 1 → Z ro 2 mX3_note 7 [(1, ((81 : Nat) : Int)), (1, ((1 : Nat) : Int)), (1, ((6 : Nat) : Int)), (0, (r : Int)), (0, (j : Int)), (0, (e : Int)), (0, pnF T j m), (0, ((j + m : Nat) : Int))] [] w (fun r9 w' k => k = 0 ∧ ∃ o, r9 = .inl o ∧ (o = none ∧ w' = nw5 w c r j e g)) := by
    intro k
    induction k with
    | zero =>
      intro m hm
      refine Z_push gX3_note_7 (v := (0, ((j + m : Nat) : Int))) rfl ?_
      refine Z_push gX3_note_9 (v := (0, (e : Int))) rfl ?_
      refine Z_icmp_gt gX3_note_11 (tgt := 50) (by decide) (fun _ => ?_) (fun h11 => absurd h11 (by omega))
      exact fin _ _ (by rw [show m = e + 1 - j by omega])
    | succ k ih =>
      intro m hm
      have hn := ih (m + 1) (by omega)
      rw [show ((j + (m + 1) : Nat) : Int) = ((j + m : Nat) : Int) + 1 from rfl] at hn
      have hp := TR_pT hR hV (i := ((j + m : Nat) : Int)) (by omega)
      have h01 := pT_01 hV ((j + m : Nat) : Int)
      have h02 := pnF_01 T j m
      refine Z_push gX3_note_7 (v := (0, ((j + m : Nat) : Int))) rfl ?_
      refine Z_push gX3_note_9 (v := (0, (e : Int))) rfl ?_
      refine Z_icmp_gt gX3_note_11 (tgt := 50) (by decide) (fun h11 => absurd h11 (by omega)) (fun _ => ?_)
      refine Z_push gX3_note_14 (v := (0, ((j + m : Nat) : Int))) rfl ?_
      refine Z_push gX3_note_16 (v := (1, ((1 : Nat) : Int))) rfl ?_
      refine Z_callP (kd := 0) (na := 1) (M' := mX6_size) gX3_note_17 rfl rfl rfl rfl rfl rfl (fun _ => rfl) rfl rfl (fun _ _ => zrecv_obj rfl _ _ _) (d' := 0) (by omega) (vX6_size (by assumption) (by assumption)) ?_
      refine Z_icmp_ge gX3_note_20 (tgt := 50) (by decide) (fun h20 => absurd h20 (by omega)) (fun _ => ?_)
      refine Z_push gX3_note_23 (v := (0, pnF T j m)) rfl ?_
      refine Z_if_eq gX3_note_25 (tgt := 41) (by decide) (fun h25 => ?_) (fun h25 => ?_)
      · refine Z_push gX3_note_41 (v := (0, 0)) rfl ?_
        refine Z_sto gX3_note_42 rfl (ls' := [(1, ((81 : Nat) : Int)), (1, ((1 : Nat) : Int)), (1, ((6 : Nat) : Int)), (0, (r : Int)), (0, (j : Int)), (0, (e : Int)), (0, 0), (0, ((j + m : Nat) : Int))]) (st' := []) rfl ?_
        refine Z_iinc gX3_note_44 rfl ⟨by omega, by omega⟩ (ls' := [(1, ((81 : Nat) : Int)), (1, ((1 : Nat) : Int)), (1, ((6 : Nat) : Int)), (0, (r : Int)), (0, (j : Int)), (0, (e : Int)), (0, 0), (0, ((j + m : Nat) : Int) + 1)]) rfl ?_
        refine Z_goto gX3_note_47 (tgt := 7) (by decide) ?_
        rw [show pnF T j (m + 1) = 0 from if_neg (fun h => by omega)] at hn
        exact hn
      · refine Z_push gX3_note_28 (v := (1, ((1 : Nat) : Int))) rfl ?_
        refine Z_push gX3_note_29 (v := (0, ((j + m : Nat) : Int))) rfl ?_
        refine Z_callP (kd := 0) (na := 2) (M' := mX6_pinnedAt) gX3_note_31 rfl rfl rfl rfl rfl rfl (fun _ => rfl) rfl rfl (fun _ _ => zrecv_obj rfl _ _ _) (d' := 1) (by omega) (show Pv ro 1 mX6_pinnedAt _ _ (0, pT T ((j + m : Nat) : Int)) from hp ▸ vX6_pinnedAt hT _) ?_
        refine Z_if_ne gX3_note_34 (tgt := 41) (by decide) (fun h34 => ?_) (fun h34 => ?_)
        · refine Z_push gX3_note_41 (v := (0, 0)) rfl ?_
          refine Z_sto gX3_note_42 rfl (ls' := [(1, ((81 : Nat) : Int)), (1, ((1 : Nat) : Int)), (1, ((6 : Nat) : Int)), (0, (r : Int)), (0, (j : Int)), (0, (e : Int)), (0, 0), (0, ((j + m : Nat) : Int))]) (st' := []) rfl ?_
          refine Z_iinc gX3_note_44 rfl ⟨by omega, by omega⟩ (ls' := [(1, ((81 : Nat) : Int)), (1, ((1 : Nat) : Int)), (1, ((6 : Nat) : Int)), (0, (r : Int)), (0, (j : Int)), (0, (e : Int)), (0, 0), (0, ((j + m : Nat) : Int) + 1)]) rfl ?_
          refine Z_goto gX3_note_47 (tgt := 7) (by decide) ?_
          rw [show pnF T j (m + 1) = 0 from if_neg (fun h => h34 h.2)] at hn
          exact hn
        · refine Z_push gX3_note_37 (v := (0, 1)) rfl ?_
          refine Z_goto gX3_note_38 (tgt := 42) (by decide) ?_
          refine Z_sto gX3_note_42 rfl (ls' := [(1, ((81 : Nat) : Int)), (1, ((1 : Nat) : Int)), (1, ((6 : Nat) : Int)), (0, (r : Int)), (0, (j : Int)), (0, (e : Int)), (0, 1), (0, ((j + m : Nat) : Int))]) (st' := []) rfl ?_
          refine Z_iinc gX3_note_44 rfl ⟨by omega, by omega⟩ (ls' := [(1, ((81 : Nat) : Int)), (1, ((1 : Nat) : Int)), (1, ((6 : Nat) : Int)), (0, (r : Int)), (0, (j : Int)), (0, (e : Int)), (0, 1), (0, ((j + m : Nat) : Int) + 1)]) rfl ?_
          refine Z_goto gX3_note_47 (tgt := 7) (by decide) ?_
          rw [show pnF T j (m + 1) = 1 from if_pos ⟨by omega, h34⟩] at hn
          exact hn
  show Z ro 2 mX3_note 0 [(1, ((81 : Nat) : Int)), (1, ((1 : Nat) : Int)), (1, ((6 : Nat) : Int)), (0, (r : Int)), (0, (j : Int)), (0, (e : Int)), (9, 0), (9, 0)] [] w _
  refine Z_push gX3_note_0 (v := (0, 1)) rfl ?_
  refine Z_sto gX3_note_1 rfl (ls' := [(1, ((81 : Nat) : Int)), (1, ((1 : Nat) : Int)), (1, ((6 : Nat) : Int)), (0, (r : Int)), (0, (j : Int)), (0, (e : Int)), (0, 1), (9, 0)]) (st' := []) rfl ?_
  refine Z_push gX3_note_3 (v := (0, (j : Int))) rfl ?_
  refine Z_sto gX3_note_5 rfl (ls' := [(1, ((81 : Nat) : Int)), (1, ((1 : Nat) : Int)), (1, ((6 : Nat) : Int)), (0, (r : Int)), (0, (j : Int)), (0, (e : Int)), (0, 1), (0, (j : Int))]) (st' := []) rfl ?_
  exact loop (e + 1 - j) 0 (by omega)
theorem vX3_search (hR : TR w 1 T) (hV : TV T) (hRR : RR w R) : Ev ro 4 mX3_search [(1, ((81 : Nat) : Int)), (1, ((1 : Nat) : Int)), (1, ((6 : Nat) : Int))] w (fun o w' => o = none ∧ FR w' T R T.1 ∧ frF w w') := by
  have hV1 := hV.1
  have hT := TX_1
  have loop : ∀ k j : Nat, j + k = T.1 → ∀ (v : zV) (W : zW), FR W T R j → frF w W → Z ro 4 mX3_search 7 [(1, ((81 : Nat) : Int)), (1, ((1 : Nat) : Int)), (1, ((6 : Nat) : Int)), (0, (j : Int)), v] [] W (fun r9 w' k => k = 0 ∧ ∃ o, r9 = .inl o ∧ (o = none ∧ FR w' T R T.1 ∧ frF w w')) := by
    intro k
    induction k with
    | zero =>
      intro j hj v W hF hf
      obtain ⟨v1, v2⟩ := v
      have hRW := TR_frF hR hf
      refine Z_push gX3_search_7 (v := (0, (j : Int))) rfl ?_
      refine Z_push gX3_search_8 (v := (1, ((1 : Nat) : Int))) rfl ?_
      refine Z_callP (kd := 0) (na := 1) (M' := mX6_size) gX3_search_9 rfl rfl rfl rfl rfl rfl (fun _ => rfl) rfl rfl (fun _ _ => zrecv_obj rfl _ _ _) (d' := 0) (by omega) (vX6_size (by assumption) (by assumption)) ?_
      refine Z_icmp_ge gX3_search_12 (tgt := 65) (by decide) (fun _ => ?_) (fun h12 => absurd h12 (by omega))
      refine Z_end gX3_search_65 rfl rfl rfl rfl (v := none) rfl ⟨rfl, none, rfl, ?_⟩
      exact ⟨rfl, by rw [show T.1 = j by omega]; exact hF, hf⟩
    | succ k ih =>
      intro j hj v W hF hf
      obtain ⟨v1, v2⟩ := v
      have hRW := TR_frF hR hf
      have hRRW := RR_frF hRR hf
      have hc := hF.1
      have hc1 := fdN_le T j
      have hrp := rp_cases T j
      have hbl := bl_01 T j
      have erl : rlT T j = (if rpT T j = -1 then (if blT T j = 1 then 4 else -1) else rpT T j) := if_pos (by omega)
      refine Z_push gX3_search_7 (v := (0, (j : Int))) rfl ?_
      refine Z_push gX3_search_8 (v := (1, ((1 : Nat) : Int))) rfl ?_
      refine Z_callP (kd := 0) (na := 1) (M' := mX6_size) gX3_search_9 rfl rfl rfl rfl rfl rfl (fun _ => rfl) rfl rfl (fun _ _ => zrecv_obj rfl _ _ _) (d' := 0) (by omega) (vX6_size (by assumption) (by assumption)) ?_
      refine Z_icmp_ge gX3_search_12 (tgt := 65) (by decide) (fun h12 => absurd h12 (by omega)) (fun _ => ?_)
      refine Z_push gX3_search_15 (v := (1, ((1 : Nat) : Int))) rfl ?_
      refine Z_push gX3_search_16 (v := (0, (j : Int))) rfl ?_
      refine Z_callP (kd := 1) (na := 2) (M' := mX3_ruleOfPair) gX3_search_17 rfl rfl rfl rfl rfl rfl (fun _ => rfl) rfl rfl (fun _ _ => rfl) (d' := 3) (by omega) (vX3_ruleOfPair hT hRW hV (by omega)) ?_
      refine Z_sto gX3_search_20 rfl (ls' := [(1, ((81 : Nat) : Int)), (1, ((1 : Nat) : Int)), (1, ((6 : Nat) : Int)), (0, (j : Int)), (0, rpT T (j : Int))]) (st' := []) rfl ?_
      refine Z_push gX3_search_22 (v := (0, rpT T (j : Int))) rfl ?_
      refine Z_push gX3_search_24 (v := (0, -1)) rfl ?_
      refine Z_icmp_eq gX3_search_25 (tgt := 40) (by decide) (fun h25 => ?_) (fun h25 => ?_)
      · rw [if_pos h25] at erl
        refine Z_push gX3_search_40 (v := (1, ((1 : Nat) : Int))) rfl ?_
        refine Z_push gX3_search_41 (v := (0, (j : Int))) rfl ?_
        refine Z_callP (kd := 1) (na := 2) (M' := mX3_isNameInBlock) gX3_search_42 rfl rfl rfl rfl rfl rfl (fun _ => rfl) rfl rfl (fun _ _ => rfl) (d' := 1) (by omega) (vX3_isNameInBlock hT hRW hV (by omega)) ?_
        refine Z_if_eq gX3_search_45 (tgt := 59) (by decide) (fun h45 => ?_) (fun h45 => ?_)
        · rw [if_neg (by omega)] at erl
          refine Z_iinc gX3_search_59 rfl ⟨by omega, by omega⟩ (ls' := [(1, ((81 : Nat) : Int)), (1, ((1 : Nat) : Int)), (1, ((6 : Nat) : Int)), (0, (j : Int) + 1), (0, rpT T (j : Int))]) rfl ?_
          refine Z_goto gX3_search_62 (tgt := 7) (by decide) ?_
          exact ih (j + 1) (by omega) _ W (FR_skip hF erl) hf
        · rw [if_pos (by omega)] at erl
          have hr : rlT T j ≠ -1 := by omega
          have he : enT T j = j + 2 := if_pos erl
          have hl := en_lt hr
          have hg : gnT T R j = if pnF T j (j + 2 + 1 - j) = 1 then R.1 4 else 0 := by
            unfold gnT
            rw [if_neg hr, he, erl]
            rfl
          refine Z_push gX3_search_48 (v := (1, ((81 : Nat) : Int))) rfl ?_
          refine Z_push gX3_search_49 (v := (1, ((1 : Nat) : Int))) rfl ?_
          refine Z_push gX3_search_50 (v := (1, ((6 : Nat) : Int))) rfl ?_
          refine Z_push gX3_search_51 (v := (0, 4)) rfl ?_
          refine Z_push gX3_search_52 (v := (0, (j : Int))) rfl ?_
          refine Z_push gX3_search_53 (v := (0, (j : Int))) rfl ?_
          refine Z_push gX3_search_54 (v := (0, 2)) rfl ?_
          refine Z_iadd gX3_search_55 ⟨by omega, by omega⟩ ?_
          refine Z_callW (kd := 0) (na := 6) (M' := mX3_note) gX3_search_56 rfl rfl rfl rfl rfl rfl (fun _ => rfl) rfl rfl (fun _ _ => zrecv_obj rfl _ _ _) (d' := 2) (by omega) (vX3_note hRW hV hRRW (r := 4) (j := j) (e := j + 2) (c := fdN T j) (by omega) (by omega) (by omega) hc (by omega)) ?_
          refine Z_iinc gX3_search_59 rfl ⟨by omega, by omega⟩ (ls' := [(1, ((81 : Nat) : Int)), (1, ((1 : Nat) : Int)), (1, ((6 : Nat) : Int)), (0, (j : Int) + 1), (0, rpT T (j : Int))]) rfl ?_
          refine Z_goto gX3_search_62 (tgt := 7) (by decide) ?_
          exact ih (j + 1) (by omega) _ _ (FR_note hF hr erl (by rw [he]) hg) (hf.trans nw5_fr)
      · rw [if_neg h25] at erl
        have hb := rp_bl h25
        have hr : rlT T j ≠ -1 := by omega
        have he : enT T j = j + 1 := if_neg (by omega)
        have hl := en_lt hr
        obtain ⟨r, hr5⟩ : ∃ r : Nat, rpT T j = (r : Int) := ⟨(rpT T j).toNat, by omega⟩
        have hg : gnT T R j = if pnF T j (j + 1 + 1 - j) = 1 then R.1 r else 0 := by
          unfold gnT
          rw [if_neg hr, he, erl, hr5]
          rfl
        rw [hr5]
        refine Z_push gX3_search_28 (v := (1, ((81 : Nat) : Int))) rfl ?_
        refine Z_push gX3_search_29 (v := (1, ((1 : Nat) : Int))) rfl ?_
        refine Z_push gX3_search_30 (v := (1, ((6 : Nat) : Int))) rfl ?_
        refine Z_push gX3_search_31 (v := (0, (r : Int))) rfl ?_
        refine Z_push gX3_search_33 (v := (0, (j : Int))) rfl ?_
        refine Z_push gX3_search_34 (v := (0, (j : Int))) rfl ?_
        refine Z_push gX3_search_35 (v := (0, 1)) rfl ?_
        refine Z_iadd gX3_search_36 ⟨by omega, by omega⟩ ?_
        refine Z_callW (kd := 0) (na := 6) (M' := mX3_note) gX3_search_37 rfl rfl rfl rfl rfl rfl (fun _ => rfl) rfl rfl (fun _ _ => zrecv_obj rfl _ _ _) (d' := 2) (by omega) (vX3_note hRW hV hRRW (r := r) (j := j) (e := j + 1) (c := fdN T j) (by omega) (by omega) (by omega) hc (by omega)) ?_
        refine Z_push gX3_search_40 (v := (1, ((1 : Nat) : Int))) rfl ?_
        refine Z_push gX3_search_41 (v := (0, (j : Int))) rfl ?_
        refine Z_callP (kd := 1) (na := 2) (M' := mX3_isNameInBlock) gX3_search_42 rfl rfl rfl rfl rfl rfl (fun _ => rfl) rfl rfl (fun _ _ => rfl) (d' := 1) (by omega) (vX3_isNameInBlock hT (TR_frF hRW nw5_fr) hV (by omega)) ?_
        refine Z_if_eq gX3_search_45 (tgt := 59) (by decide) (fun _ => ?_) (fun h45 => absurd h45 (by omega))
        refine Z_iinc gX3_search_59 rfl ⟨by omega, by omega⟩ (ls' := [(1, ((81 : Nat) : Int)), (1, ((1 : Nat) : Int)), (1, ((6 : Nat) : Int)), (0, (j : Int) + 1), (0, (r : Int))]) rfl ?_
        refine Z_goto gX3_search_62 (tgt := 7) (by decide) ?_
        exact ih (j + 1) (by omega) _ _ (FR_note hF hr (by omega) (by rw [he]) hg) (hf.trans nw5_fr)
  show Z ro 4 mX3_search 0 [(1, ((81 : Nat) : Int)), (1, ((1 : Nat) : Int)), (1, ((6 : Nat) : Int)), (9, 0), (9, 0)] [] w _
  refine Z_push gX3_search_0 (v := (1, ((81 : Nat) : Int))) rfl ?_
  refine Z_push gX3_search_1 (v := (0, 0)) rfl ?_
  refine Z_put gX3_search_2 rfl rfl (by decide) rfl (fun h => by cases h) ?_
  refine Z_push gX3_search_5 (v := (0, 0)) rfl ?_
  refine Z_sto gX3_search_6 rfl (ls' := [(1, ((81 : Nat) : Int)), (1, ((1 : Nat) : Int)), (1, ((6 : Nat) : Int)), (0, 0), (9, 0)]) (st' := []) rfl ?_
  exact loop T.1 0 (by omega) _ _ ⟨zup_eq _ _ _ _, fun q h => absurd h (by omega)⟩ (fun a k h1 h2 => zup_ne h2)
theorem vX3_count {c : Int} (h : w 81 4 = c) : Pv ro 0 mX3_count [(1, ((81 : Nat) : Int))] w (0, c) := by
  show Z ro 0 mX3_count 0 [(1, ((81 : Nat) : Int))] [] w _
  refine Z_push gX3_count_0 (v := (1, ((81 : Nat) : Int))) rfl ?_
  refine Z_getV (v := c) gX3_count_1 rfl rfl (by decide) h ?_
  refine Z_ret (v := (0, c)) gX3_count_4 rfl rfl rfl rfl rfl _ ?_
  exact ⟨rfl, rfl⟩
theorem vX3_rule (hF : FR w T R T.1) (hV : TV T) {j : Nat} (hj : rlT T j ≠ -1) : Pv ro 1 mX3_rule [(1, ((81 : Nat) : Int)), (0, (fdN T j : Int))] w (0, rlT T j) := by
  have h1 := rl_lt hj
  have h2 := hV.1
  have h3 := fdN_le T j
  show Z ro 1 mX3_rule 0 [(1, ((81 : Nat) : Int)), (0, (fdN T j : Int))] [] w _
  refine Z_push gX3_rule_0 (v := (1, ((81 : Nat) : Int))) rfl ?_
  refine Z_getR (b := 82) gX3_rule_1 rfl rfl (by decide) rfl (by omega) ?_
  refine Z_push gX3_rule_4 (v := (0, (fdN T j : Int))) rfl ?_
  refine Z_callP (kd := 2) (na := 2) (M' := mX7_read) gX3_rule_5 rfl rfl rfl rfl rfl rfl (fun _ => rfl) rfl rfl (fun _ _ => rfl) (d' := 0) (by omega) (vX7_readN (len := 30) rfl (by omega) (hF.2 j h1 hj).1) ?_
  refine Z_ret (v := (0, rlT T j)) gX3_rule_8 rfl rfl rfl rfl rfl _ ?_
  exact ⟨rfl, rfl⟩
theorem vX3_first (hF : FR w T R T.1) (hV : TV T) {j : Nat} (hj : rlT T j ≠ -1) : Pv ro 1 mX3_first [(1, ((81 : Nat) : Int)), (0, (fdN T j : Int))] w (0, (j : Int)) := by
  have h1 := rl_lt hj
  have h2 := hV.1
  have h3 := fdN_le T j
  show Z ro 1 mX3_first 0 [(1, ((81 : Nat) : Int)), (0, (fdN T j : Int))] [] w _
  refine Z_push gX3_first_0 (v := (1, ((81 : Nat) : Int))) rfl ?_
  refine Z_getR (b := 83) gX3_first_1 rfl rfl (by decide) rfl (by omega) ?_
  refine Z_push gX3_first_4 (v := (0, (fdN T j : Int))) rfl ?_
  refine Z_callP (kd := 2) (na := 2) (M' := mX7_read) gX3_first_5 rfl rfl rfl rfl rfl rfl (fun _ => rfl) rfl rfl (fun _ _ => rfl) (d' := 0) (by omega) (vX7_readN (len := 30) rfl (by omega) (hF.2 j h1 hj).2.1) ?_
  refine Z_ret (v := (0, (j : Int))) gX3_first_8 rfl rfl rfl rfl rfl _ ?_
  exact ⟨rfl, rfl⟩
theorem vX3_last (hF : FR w T R T.1) (hV : TV T) {j : Nat} (hj : rlT T j ≠ -1) : Pv ro 1 mX3_last [(1, ((81 : Nat) : Int)), (0, (fdN T j : Int))] w (0, (enT T j : Int)) := by
  have h1 := rl_lt hj
  have h2 := hV.1
  have h3 := fdN_le T j
  show Z ro 1 mX3_last 0 [(1, ((81 : Nat) : Int)), (0, (fdN T j : Int))] [] w _
  refine Z_push gX3_last_0 (v := (1, ((81 : Nat) : Int))) rfl ?_
  refine Z_getR (b := 84) gX3_last_1 rfl rfl (by decide) rfl (by omega) ?_
  refine Z_push gX3_last_4 (v := (0, (fdN T j : Int))) rfl ?_
  refine Z_callP (kd := 2) (na := 2) (M' := mX7_read) gX3_last_5 rfl rfl rfl rfl rfl rfl (fun _ => rfl) rfl rfl (fun _ _ => rfl) (d' := 0) (by omega) (vX7_readN (len := 30) rfl (by omega) (hF.2 j h1 hj).2.2.1) ?_
  refine Z_ret (v := (0, (enT T j : Int))) gX3_last_8 rfl rfl rfl rfl rfl _ ?_
  exact ⟨rfl, rfl⟩
theorem vX3_gain (hF : FR w T R T.1) (hV : TV T) {j : Nat} (hj : rlT T j ≠ -1) : Pv ro 1 mX3_gain [(1, ((81 : Nat) : Int)), (0, (fdN T j : Int))] w (0, gnT T R j) := by
  have h1 := rl_lt hj
  have h2 := hV.1
  have h3 := fdN_le T j
  show Z ro 1 mX3_gain 0 [(1, ((81 : Nat) : Int)), (0, (fdN T j : Int))] [] w _
  refine Z_push gX3_gain_0 (v := (1, ((81 : Nat) : Int))) rfl ?_
  refine Z_getR (b := 85) gX3_gain_1 rfl rfl (by decide) rfl (by omega) ?_
  refine Z_push gX3_gain_4 (v := (0, (fdN T j : Int))) rfl ?_
  refine Z_callP (kd := 2) (na := 2) (M' := mX7_read) gX3_gain_5 rfl rfl rfl rfl rfl rfl (fun _ => rfl) rfl rfl (fun _ _ => rfl) (d' := 0) (by omega) (vX7_readN (len := 30) rfl (by omega) (hF.2 j h1 hj).2.2.2) ?_
  refine Z_ret (v := (0, gnT T R j)) gX3_gain_8 rfl rfl rfl rfl rfl _ ?_
  exact ⟨rfl, rfl⟩
theorem vX3_fixable (hF : FR w T R T.1) (hV : TV T) : Pv ro 2 mX3_fixable [(1, ((81 : Nat) : Int))] w (0, (fxN T R T.1 : Int)) := by
  have hV1 := hV.1
  have hn := fdN_le T T.1
  have loop : ∀ m i : Nat, i + m = fdN T T.1 → ∀ s : Nat, s ≤ i → (∀ k, fdN T k = i → fxN T R k = s) → Z ro 2 mX3_fixable 4 [(1, ((81 : Nat) : Int)), (0, (s : Int)), (0, (i : Int))] [] w (fun r9 w' k => k = 0 ∧ ∃ o, r9 = .inl o ∧ (o = some (0, (fxN T R T.1 : Int)) ∧ w' = w)) := by
    intro m
    induction m with
    | zero =>
      intro i hi s hsi hs
      refine Z_push gX3_fixable_4 (v := (0, (i : Int))) rfl ?_
      refine Z_push gX3_fixable_5 (v := (1, ((81 : Nat) : Int))) rfl ?_
      refine Z_getV (v := (fdN T T.1 : Int)) gX3_fixable_6 rfl rfl (by decide) hF.1 ?_
      refine Z_icmp_ge gX3_fixable_9 (tgt := 29) (by decide) (fun _ => ?_) (fun h9 => absurd h9 (by omega))
      refine Z_push gX3_fixable_29 (v := (0, (s : Int))) rfl ?_
      refine Z_ret (v := (0, (s : Int))) gX3_fixable_30 rfl rfl rfl rfl rfl _ ?_
      exact ⟨by rw [hs T.1 (by omega)], rfl⟩
    | succ m ih =>
      intro i hi s hsi hs
      obtain ⟨j, hj, hr, rfl⟩ := fdN_ex (T := T) (i := i) (n := T.1) (by omega)
      have hs1 := hs j rfl
      have hn2 : ∀ s' : Nat, fxN T R (j + 1) = s' → ∀ k, fdN T k = fdN T j + 1 → fxN T R k = s' := fun s' h k hk => (plat (f := fxN T R) (fun q hq => fx_n hq) (by rw [hk, fdN_s hr])).trans h
      have hs2 : fxN T R (j + 1) = fxN T R j + (if 0 < gnT T R j then 1 else 0) := rfl
      refine Z_push gX3_fixable_4 (v := (0, (fdN T j : Int))) rfl ?_
      refine Z_push gX3_fixable_5 (v := (1, ((81 : Nat) : Int))) rfl ?_
      refine Z_getV (v := (fdN T T.1 : Int)) gX3_fixable_6 rfl rfl (by decide) hF.1 ?_
      refine Z_icmp_ge gX3_fixable_9 (tgt := 29) (by decide) (fun h9 => absurd h9 (by omega)) (fun _ => ?_)
      refine Z_push gX3_fixable_12 (v := (1, ((81 : Nat) : Int))) rfl ?_
      refine Z_push gX3_fixable_13 (v := (0, (fdN T j : Int))) rfl ?_
      refine Z_callP (kd := 0) (na := 2) (M' := mX3_gain) gX3_fixable_14 rfl rfl rfl rfl rfl rfl (fun _ => rfl) rfl rfl (fun _ _ => zrecv_obj rfl _ _ _) (d' := 1) (by omega) (vX3_gain hF hV hr) ?_
      refine Z_if_le gX3_fixable_17 (tgt := 23) (by decide) (fun h17 => ?_) (fun h17 => ?_)
      · refine Z_iinc gX3_fixable_23 rfl ⟨by omega, by omega⟩ (ls' := [(1, ((81 : Nat) : Int)), (0, (s : Int)), (0, (fdN T j : Int) + 1)]) rfl ?_
        refine Z_goto gX3_fixable_26 (tgt := 4) (by decide) ?_
        rw [if_neg (by omega)] at hs2
        exact ih (fdN T j + 1) (by omega) s (by omega) (hn2 s (by omega))
      · refine Z_iinc gX3_fixable_20 rfl ⟨by omega, by omega⟩ (ls' := [(1, ((81 : Nat) : Int)), (0, (s : Int) + 1), (0, (fdN T j : Int))]) rfl ?_
        refine Z_iinc gX3_fixable_23 rfl ⟨by omega, by omega⟩ (ls' := [(1, ((81 : Nat) : Int)), (0, (s : Int) + 1), (0, (fdN T j : Int) + 1)]) rfl ?_
        refine Z_goto gX3_fixable_26 (tgt := 4) (by decide) ?_
        rw [if_pos (by omega)] at hs2
        exact ih (fdN T j + 1) (by omega) (s + 1) (by omega) (hn2 (s + 1) (by omega))
  show Z ro 2 mX3_fixable 0 [(1, ((81 : Nat) : Int)), (9, 0), (9, 0)] [] w _
  refine Z_push gX3_fixable_0 (v := (0, 0)) rfl ?_
  refine Z_sto gX3_fixable_1 rfl (ls' := [(1, ((81 : Nat) : Int)), (0, 0), (9, 0)]) (st' := []) rfl ?_
  refine Z_push gX3_fixable_2 (v := (0, 0)) rfl ?_
  refine Z_sto gX3_fixable_3 rfl (ls' := [(1, ((81 : Nat) : Int)), (0, 0), (0, 0)]) (st' := []) rfl ?_
  exact loop (fdN T T.1) 0 (by omega) 0 (by omega) (fun k hk => (plat (f := fxN T R) (k := 0) (fun q hq => fx_n hq) hk))
end
