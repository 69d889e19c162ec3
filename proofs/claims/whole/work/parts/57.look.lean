/-! the model's findings and best set -/
def MF (w : zW) (T : zTx) (n : Nat) : Prop := w 97 19 = (fdN T n : Int) ∧ ∀ j, j < n → rlT T j ≠ -1 → w 111 (fdN T j) = rlT T j ∧ w 112 (fdN T j) = (j : Int) ∧ w 113 (fdN T j) = (enT T j : Int)
def MSm (w : zW) (T : zTx) (R : zRu) : Prop := ∀ k, k ≤ T.1 + 3 → w 115 k = sE T R k
def MB (w : zW) (T : zTx) (R : zRu) : Prop := ∀ j, rlT T j ≠ -1 → w 114 (fdN T j) = b2i (bsT T R j)
def frZ (w w' : zW) : Prop := ∀ a k, ¬ (111 ≤ a ∧ a ≤ 115) → ¬ (a = 97 ∧ k = 19) → w' a k = w a k
theorem frZ.refl (w : zW) : frZ w w := fun _ _ _ _ => rfl
theorem frZ.trans {a b c : zW} (h : frZ a b) (k : frZ b c) : frZ a c := fun x y h1 h2 => (k x y h1 h2).trans (h x y h1 h2)
theorem frZ.Y {w w' : zW} (h : frZ w w') : frY w w' := fun a k h1 h2 => h a k (by omega) (by omega)
def nw4 (w : zW) (c : Nat) (r j e : Int) : zW := zup (zup (zup (zup w 111 c r) 112 c j) 113 c e) 97 19 ((c : Int) + 1)
/-- what the model has taken ahead of entry k -/
def tkE (T : zTx) (R : zRu) : Nat → Int
  | 0 => 0
  | k + 1 => if bsT T R k = true then tkE T R k + gnT T R k else tkE T R k
section
variable {ro : zRo} {w : zW} {T : zTx} {R : zRu} {B : Int}
theorem tk_n {k : Nat} (h : bsT T R k = false) : tkE T R (k + 1) = tkE T R k := if_neg (by rw [h]; decide)
theorem tk_t {k : Nat} (h : bsT T R k = true) : tkE T R (k + 1) = tkE T R k + gnT T R k := if_pos h
theorem tk_sum : ∀ k, tkE T R k + sE T R (if k < frE T R k then frE T R k else k) = sE T R 0
  | 0 => by rw [if_neg (by show ¬ 0 < 0; omega)]; exact Int.zero_add _
  | k + 1 => by
    have ih := tk_sum k
    cases hb : bsT T R k with
    | true =>
      obtain ⟨b1, b2, b3, b4⟩ := bs_t hb
      have hg := en_gt T k
      rw [tk_t hb, fr_t hb, if_pos (by omega)]
      rw [if_neg (by omega)] at ih
      omega
    | false =>
      rw [tk_n hb, fr_f hb]
      by_cases h : k < frE T R k
      · rw [if_pos h] at ih
        by_cases h2 : k + 1 < frE T R k
        · rw [if_pos h2]; exact ih
        · rw [if_neg h2, show k + 1 = frE T R k by omega]; exact ih
      · rw [if_neg h] at ih
        rw [if_neg (by omega)]
        have e : sE T R k = sE T R (k + 1) := by
          by_cases hr : rlT T k = -1
          · exact sE_n hr
          · by_cases hg : 0 < gnT T R k
            · have hf := sE_f (T := T) (R := R) hr
              have hne : ¬ gnT T R k + sE T R (enT T k + 1) = sE T R k := fun h2 => (of_decide_eq_false hb) ⟨hr, by omega, hg, h2⟩
              by_cases hc : sE T R (k + 1) < gnT T R k + sE T R (enT T k + 1)
              · rw [if_pos hc] at hf; omega
              · rw [if_neg hc] at hf; exact hf
            · by_cases h0 : gnT T R k = 0
              · exact sE_0 h0
              · have hf := sE_f (T := T) (R := R) hr
                have hen := en_gt T k
                have := sE_dec' (T := T) (R := R) (j := k + 1) (k := enT T k + 1) (by omega)
                rw [if_neg (by omega)] at hf
                exact hf
        rw [← e]
        exact ih
theorem tk_0 (hV : RV B R) : ∀ k, 0 ≤ tkE T R k
  | 0 => Int.le_refl _
  | k + 1 => by
    have := tk_0 hV k
    have := gn_bd hV T k
    unfold tkE
    split <;> omega
theorem tk_bd (hV : RV B R) (hT : T.1 ≤ 30) (k : Nat) : 0 ≤ tkE T R k ∧ tkE T R k ≤ 2970 := by
  have h1 := tk_sum (T := T) (R := R) k
  have h2 := sE_bd' (T := T) hV hT 0
  have h3 := sE_bd' (T := T) hV hT (if k < frE T R k then frE T R k else k)
  have := tk_0 (T := T) hV k
  omega
theorem nw4_19 {c : Nat} {r j e : Int} : nw4 w c r j e 97 19 = (c : Int) + 1 := zup_eq _ _ _ _
theorem nw4_111 {c k : Nat} {r j e : Int} : nw4 w c r j e 111 k = if k = c then r else w 111 k := by simp [nw4, zup]
theorem nw4_112 {c k : Nat} {r j e : Int} : nw4 w c r j e 112 k = if k = c then j else w 112 k := by simp [nw4, zup]
theorem nw4_113 {c k : Nat} {r j e : Int} : nw4 w c r j e 113 k = if k = c then e else w 113 k := by simp [nw4, zup]
theorem nw4_fr {c : Nat} {r j e : Int} : frZ w (nw4 w c r j e) := fun a k h1 h2 => (zup_ne (by omega)).trans ((zup_ne (by omega)).trans ((zup_ne (by omega)).trans (zup_ne (by omega))))
theorem MF_note {W : zW} {j : Nat} {r e : Int} (h : MF W T j) (hr : rlT T j ≠ -1) (e1 : rlT T j = r) (e2 : (enT T j : Int) = e) : MF (nw4 W (fdN T j) r j e) T (j + 1) := by
  refine ⟨by rw [fdN_s hr]; exact nw4_19, fun q hq hrq => ?_⟩
  rw [nw4_111, nw4_112, nw4_113]
  by_cases hqj : q = j
  · subst hqj
    rw [if_pos rfl, if_pos rfl, if_pos rfl]
    exact ⟨e1.symm, rfl, e2.symm⟩
  · have := (fdN_lt (k := j) hrq).mpr (by omega)
    rw [if_neg (by omega), if_neg (by omega), if_neg (by omega)]
    exact h.2 q (by omega) hrq
theorem MF_skip {W : zW} {j : Nat} (h : MF W T j) (hr : rlT T j = -1) : MF W T (j + 1) := by
  refine ⟨by rw [fdN_n hr]; exact h.1, fun q hq hrq => ?_⟩
  by_cases hqj : q = j
  · subst hqj; exact absurd hr hrq
  · exact h.2 q (by omega) hrq
theorem MT_Z {W : zW} (h : MT w T) (f : frZ w W) : MT W T := MT_frame h (fun a k h => f a k (by omega) (by omega))
theorem MU_Z {W : zW} (h : MU w R) (f : frZ w W) : MU W R := MU_frame h (fun a k h => f a k (by omega) (by omega))
theorem vX8_are (hM : MT w T) (hT : T.1 ≤ 30) {k : Nat} (hk : k < T.1) (a : Int) {b : Int} (hb : b ≠ 32) : Pv ro 0 mX8_are [(1, ((97 : Nat) : Int)), (0, (k : Int)), (0, a), (0, b)] w (0, if kT T k = a ∧ kT T ((k : Int) + 1) = b then 1 else 0) := by
  show Z ro 0 mX8_are 0 [(1, ((97 : Nat) : Int)), (0, (k : Int)), (0, a), (0, b)] [] w _
  refine Z_push gX8_are_0 (v := (0, (k : Int))) rfl ?_
  refine Z_push gX8_are_1 (v := (0, 1)) rfl ?_
  refine Z_iadd gX8_are_2 ⟨by omega, by omega⟩ ?_
  refine Z_push gX8_are_3 (v := (1, ((97 : Nat) : Int))) rfl ?_
  refine Z_getV (v := (T.1 : Int)) gX8_are_4 rfl rfl (by decide) hM.1 ?_
  refine Z_icmp_ge gX8_are_7 (tgt := 36) (by decide) (fun h7 => ?_) (fun h7 => ?_)
  · have h32 : kT T ((k : Int) + 1) = 32 := kT_32 (by omega)
    refine Z_push gX8_are_36 (v := (0, 0)) rfl ?_
    refine Z_retB gX8_are_37 rfl (by first | exact Or.inl rfl | exact Or.inr rfl | assumption | omega) _ ?_
    exact ⟨by rw [if_neg (fun h => hb (by omega))], rfl⟩
  · refine Z_push gX8_are_10 (v := (1, ((97 : Nat) : Int))) rfl ?_
    refine Z_getR (b := 98) gX8_are_11 rfl rfl (by decide) rfl (by omega) ?_
    refine Z_push gX8_are_14 (v := (0, (k : Int))) rfl ?_
    refine Z_caloadV (v := kT T (k : Int)) gX8_are_15 rfl (by omega) (by omega) (hM.k hk) ?_
    refine Z_push gX8_are_16 (v := (0, a)) rfl ?_
    refine Z_icmp_ne gX8_are_17 (tgt := 36) (by decide) (fun h17 => ?_) (fun h17 => ?_)
    · refine Z_push gX8_are_36 (v := (0, 0)) rfl ?_
      refine Z_retB gX8_are_37 rfl (by first | exact Or.inl rfl | exact Or.inr rfl | assumption | omega) _ ?_
      exact ⟨by rw [if_neg (fun h => h17 h.1)], rfl⟩
    · refine Z_push gX8_are_20 (v := (1, ((97 : Nat) : Int))) rfl ?_
      refine Z_getR (b := 98) gX8_are_21 rfl rfl (by decide) rfl (by omega) ?_
      refine Z_push gX8_are_24 (v := (0, (k : Int))) rfl ?_
      refine Z_push gX8_are_25 (v := (0, 1)) rfl ?_
      refine Z_iadd gX8_are_26 ⟨by omega, by omega⟩ ?_
      refine Z_caloadV (v := kT T ((k : Int) + 1)) gX8_are_27 rfl (by omega) (by omega) (hM.k (k := k + 1) (by omega)) ?_
      refine Z_push gX8_are_28 (v := (0, b)) rfl ?_
      refine Z_icmp_ne gX8_are_29 (tgt := 36) (by decide) (fun h29 => ?_) (fun h29 => ?_)
      · refine Z_push gX8_are_36 (v := (0, 0)) rfl ?_
        refine Z_retB gX8_are_37 rfl (by first | exact Or.inl rfl | exact Or.inr rfl | assumption | omega) _ ?_
        exact ⟨by rw [if_neg (fun h => h29 h.2)], rfl⟩
      · refine Z_push gX8_are_32 (v := (0, 1)) rfl ?_
        refine Z_goto gX8_are_33 (tgt := 37) (by decide) ?_
        refine Z_retB gX8_are_37 rfl (by first | exact Or.inl rfl | exact Or.inr rfl | assumption | omega) _ ?_
        exact ⟨by rw [if_pos ⟨h17, h29⟩], rfl⟩
theorem vX8_find {c : Nat} (hc : w 97 19 = (c : Int)) (h60 : c < 60) (r j e : Int) : Pw ro 0 mX8_find [(1, ((97 : Nat) : Int)), (0, r), (0, j), (0, e)] w (nw4 w c r j e) := by
  show Z ro 0 mX8_find 0 [(1, ((97 : Nat) : Int)), (0, r), (0, j), (0, e)] [] w _
  refine Z_push gX8_find_0 (v := (1, ((97 : Nat) : Int))) rfl ?_
  refine Z_getR (b := 111) gX8_find_1 rfl rfl (by decide) rfl (by omega) ?_
  refine Z_push gX8_find_4 (v := (1, ((97 : Nat) : Int))) rfl ?_
  refine Z_getV (v := (c : Int)) gX8_find_5 rfl rfl (by decide) hc ?_
  refine Z_push gX8_find_8 (v := (0, r)) rfl ?_
  refine Z_iastore gX8_find_9 rfl (by omega) (by omega) ?_
  refine Z_push gX8_find_10 (v := (1, ((97 : Nat) : Int))) rfl ?_
  refine Z_getR (b := 112) gX8_find_11 rfl rfl (by decide) rfl (by omega) ?_
  refine Z_push gX8_find_14 (v := (1, ((97 : Nat) : Int))) rfl ?_
  refine Z_getV (v := (c : Int)) gX8_find_15 rfl rfl (by decide) (by simp [zup, hc]) ?_
  refine Z_push gX8_find_18 (v := (0, j)) rfl ?_
  refine Z_iastore gX8_find_19 rfl (by omega) (by omega) ?_
  refine Z_push gX8_find_20 (v := (1, ((97 : Nat) : Int))) rfl ?_
  refine Z_getR (b := 113) gX8_find_21 rfl rfl (by decide) rfl (by omega) ?_
  refine Z_push gX8_find_24 (v := (1, ((97 : Nat) : Int))) rfl ?_
  refine Z_getV (v := (c : Int)) gX8_find_25 rfl rfl (by decide) (by simp [zup, hc]) ?_
  refine Z_push gX8_find_28 (v := (0, e)) rfl ?_
  refine Z_iastore gX8_find_29 rfl (by omega) (by omega) ?_
  refine Z_push gX8_find_30 (v := (1, ((97 : Nat) : Int))) rfl ?_
  refine Z_arith gX8_find_31 rfl rfl (v := [(1, ((97 : Nat) : Int)), (1, ((97 : Nat) : Int))]) rfl ?_
  refine Z_getV (v := (c : Int)) gX8_find_32 rfl rfl (by decide) (by simp [zup, hc]) ?_
  refine Z_push gX8_find_35 (v := (0, 1)) rfl ?_
  refine Z_iadd gX8_find_36 ⟨by omega, by omega⟩ ?_
  refine Z_put gX8_find_37 rfl rfl (by decide) rfl (fun h => by cases h) ?_
  refine Z_end gX8_find_40 rfl rfl rfl rfl (v := none) rfl ⟨rfl, none, rfl, ?_⟩
  exact ⟨rfl, rfl⟩
theorem vX8_fixable (hF : MF w T T.1) (hM : MT w T) (hU : MU w R) (hV : TV T) (hRV : RV B R) {j : Nat} (hj : rlT T j ≠ -1) : Pv ro 0 mX8_fixable [(1, ((97 : Nat) : Int)), (0, (fdN T j : Int))] w (0, if 0 < gnT T R j then 1 else 0) := by
  have hV1 := hV.1
  have hjl := rl_lt hj
  have hl := en_lt hj
  have hg := en_gt T j
  have hfl := fdN_le T j
  have hr5 := rl_5 hj
  have hrc := rl_cases T j
  obtain ⟨f1, f2, f3⟩ := hF.2 j hjl hj
  obtain ⟨r, hr⟩ : ∃ r : Nat, rlT T j = (r : Int) := ⟨(rlT T j).toNat, by omega⟩
  have hgn : gnT T R j = if pnF T j (enT T j + 1 - j) = 1 then R.1 r else 0 := by
    unfold gnT
    rw [if_neg hj, hr]
    rfl
  rw [hr] at f1
  rw [hr] at hr5
  have hr5 : r < 5 := hr5
  have hw := hU.1 r hr5
  have loop : ∀ q m : Nat, j + m + q = enT T j + 1 → Z ro 0 mX8_fixable 27 [(1, ((97 : Nat) : Int)), (0, (fdN T j : Int)), (0, if 0 < R.1 r ∧ pnF T j m = 1 then 1 else 0), (0, ((j + m : Nat) : Int))] [] w (fun r9 w' k9 => k9 = 0 ∧ ∃ o, r9 = .inl o ∧ (o = some (0, if 0 < gnT T R j then 1 else 0) ∧ w' = w)) := by
    intro q
    induction q with
    | zero =>
      intro m hm
      have e : (if 0 < gnT T R j then (1 : Int) else 0) = if 0 < R.1 r ∧ pnF T j m = 1 then 1 else 0 := by
        rw [hgn, show m = enT T j + 1 - j by omega]
        (repeat' split) <;> omega
      rw [e]
      have h01 : (if 0 < R.1 r ∧ pnF T j m = 1 then (1 : Int) else 0) = 0 ∨ (if 0 < R.1 r ∧ pnF T j m = 1 then (1 : Int) else 0) = 1 := by split <;> simp
      refine Z_push gX8_fixable_27 (v := (0, ((j + m : Nat) : Int))) rfl ?_
      refine Z_push gX8_fixable_28 (v := (1, ((97 : Nat) : Int))) rfl ?_
      refine Z_getR (b := 113) gX8_fixable_29 rfl rfl (by decide) rfl (by omega) ?_
      refine Z_push gX8_fixable_32 (v := (0, (fdN T j : Int))) rfl ?_
      refine Z_ialoadV (v := (enT T j : Int)) gX8_fixable_33 rfl (by omega) (by omega) f3 ?_
      refine Z_icmp_gt gX8_fixable_34 (tgt := 62) (by decide) (fun _ => ?_) (fun h34 => absurd h34 (by omega))
      refine Z_push gX8_fixable_62 (v := (0, if 0 < R.1 r ∧ pnF T j m = 1 then 1 else 0)) rfl ?_
      refine Z_retB gX8_fixable_63 rfl (by first | exact Or.inl rfl | exact Or.inr rfl | assumption | omega) _ ?_
      exact ⟨rfl, rfl⟩
    | succ q ih =>
      intro m hm
      have hn := ih (m + 1) (by omega)
      have h01 := pnF_01 T j m
      have hp01 := pT_01 hV ((j + m : Nat) : Int)
      rw [show ((j + (m + 1) : Nat) : Int) = ((j + m : Nat) : Int) + 1 from rfl] at hn
      refine Z_push gX8_fixable_27 (v := (0, ((j + m : Nat) : Int))) rfl ?_
      refine Z_push gX8_fixable_28 (v := (1, ((97 : Nat) : Int))) rfl ?_
      refine Z_getR (b := 113) gX8_fixable_29 rfl rfl (by decide) rfl (by omega) ?_
      refine Z_push gX8_fixable_32 (v := (0, (fdN T j : Int))) rfl ?_
      refine Z_ialoadV (v := (enT T j : Int)) gX8_fixable_33 rfl (by omega) (by omega) f3 ?_
      refine Z_icmp_gt gX8_fixable_34 (tgt := 62) (by decide) (fun h34 => absurd h34 (by omega)) (fun _ => ?_)
      refine Z_push gX8_fixable_37 (v := (0, if 0 < R.1 r ∧ pnF T j m = 1 then 1 else 0)) rfl ?_
      refine Z_if_eq gX8_fixable_38 (tgt := 54) (by decide) (fun h38 => ?_) (fun h38 => ?_)
      · have h1 : ¬ (0 < R.1 r ∧ pnF T j m = 1) := fun h => by rw [if_pos h] at h38; exact absurd h38 (by decide)
        have h2 : ¬ (0 < R.1 r ∧ pnF T j (m + 1) = 1) := fun h => h1 ⟨h.1, by
          have h9 := h.2
          unfold pnF at h9
          split at h9
          · rename_i h8; exact h8.1
          · omega⟩
        rw [if_neg h2] at hn
        refine Z_push gX8_fixable_54 (v := (0, 0)) rfl ?_
        refine Z_sto gX8_fixable_55 rfl (ls' := [(1, ((97 : Nat) : Int)), (0, (fdN T j : Int)), (0, 0), (0, ((j + m : Nat) : Int))]) (st' := []) rfl ?_
        refine Z_iinc gX8_fixable_56 rfl ⟨by omega, by omega⟩ (ls' := [(1, ((97 : Nat) : Int)), (0, (fdN T j : Int)), (0, 0), (0, ((j + m : Nat) : Int) + 1)]) rfl ?_
        refine Z_goto gX8_fixable_59 (tgt := 27) (by decide) ?_
        exact hn
      · have h1 : 0 < R.1 r ∧ pnF T j m = 1 := Classical.byContradiction fun h => h38 (if_neg h)
        refine Z_push gX8_fixable_41 (v := (1, ((97 : Nat) : Int))) rfl ?_
        refine Z_getR (b := 101) gX8_fixable_42 rfl rfl (by decide) rfl (by omega) ?_
        refine Z_push gX8_fixable_45 (v := (0, ((j + m : Nat) : Int))) rfl ?_
        refine Z_baloadV (v := pT T ((j + m : Nat) : Int)) gX8_fixable_46 rfl (by omega) (by omega) (hM.p (k := j + m) (by omega)) ?_
        refine Z_if_ne gX8_fixable_47 (tgt := 54) (by decide) (fun h47 => ?_) (fun h47 => ?_)
        · have h2 : ¬ (0 < R.1 r ∧ pnF T j (m + 1) = 1) := fun h => by
            have h9 := h.2
            unfold pnF at h9
            split at h9
            · rename_i h8; omega
            · omega
          rw [if_neg h2] at hn
          refine Z_push gX8_fixable_54 (v := (0, 0)) rfl ?_
          refine Z_sto gX8_fixable_55 rfl (ls' := [(1, ((97 : Nat) : Int)), (0, (fdN T j : Int)), (0, 0), (0, ((j + m : Nat) : Int))]) (st' := []) rfl ?_
          refine Z_iinc gX8_fixable_56 rfl ⟨by omega, by omega⟩ (ls' := [(1, ((97 : Nat) : Int)), (0, (fdN T j : Int)), (0, 0), (0, ((j + m : Nat) : Int) + 1)]) rfl ?_
          refine Z_goto gX8_fixable_59 (tgt := 27) (by decide) ?_
          exact hn
        · have h2 : pnF T j (m + 1) = 1 := if_pos ⟨h1.2, h47⟩
          rw [if_pos ⟨h1.1, h2⟩] at hn
          refine Z_push gX8_fixable_50 (v := (0, 1)) rfl ?_
          refine Z_goto gX8_fixable_51 (tgt := 55) (by decide) ?_
          refine Z_sto gX8_fixable_55 rfl (ls' := [(1, ((97 : Nat) : Int)), (0, (fdN T j : Int)), (0, 1), (0, ((j + m : Nat) : Int))]) (st' := []) rfl ?_
          refine Z_iinc gX8_fixable_56 rfl ⟨by omega, by omega⟩ (ls' := [(1, ((97 : Nat) : Int)), (0, (fdN T j : Int)), (0, 1), (0, ((j + m : Nat) : Int) + 1)]) rfl ?_
          refine Z_goto gX8_fixable_59 (tgt := 27) (by decide) ?_
          exact hn
  have h0 := loop (enT T j + 1 - j) 0 (by omega)
  have e0 : pnF T j 0 = 1 := rfl
  show Z ro 0 mX8_fixable 0 [(1, ((97 : Nat) : Int)), (0, (fdN T j : Int)), (9, 0), (9, 0)] [] w _
  refine Z_push gX8_fixable_0 (v := (1, ((97 : Nat) : Int))) rfl ?_
  refine Z_getR (b := 102) gX8_fixable_1 rfl rfl (by decide) rfl (by omega) ?_
  refine Z_push gX8_fixable_4 (v := (1, ((97 : Nat) : Int))) rfl ?_
  refine Z_getR (b := 111) gX8_fixable_5 rfl rfl (by decide) rfl (by omega) ?_
  refine Z_push gX8_fixable_8 (v := (0, (fdN T j : Int))) rfl ?_
  refine Z_ialoadV (v := (r : Int)) gX8_fixable_9 rfl (by omega) (by omega) f1 ?_
  refine Z_ialoadV (v := R.1 r) gX8_fixable_10 rfl (by omega) (by omega) hw ?_
  refine Z_if_le gX8_fixable_11 (tgt := 18) (by decide) (fun h11 => ?_) (fun h11 => ?_)
  · rw [if_neg (fun h => by omega)] at h0
    refine Z_push gX8_fixable_18 (v := (0, 0)) rfl ?_
    refine Z_sto gX8_fixable_19 rfl (ls' := [(1, ((97 : Nat) : Int)), (0, (fdN T j : Int)), (0, 0), (9, 0)]) (st' := []) rfl ?_
    refine Z_push gX8_fixable_20 (v := (1, ((97 : Nat) : Int))) rfl ?_
    refine Z_getR (b := 112) gX8_fixable_21 rfl rfl (by decide) rfl (by omega) ?_
    refine Z_push gX8_fixable_24 (v := (0, (fdN T j : Int))) rfl ?_
    refine Z_ialoadV (v := (j : Int)) gX8_fixable_25 rfl (by omega) (by omega) f2 ?_
    refine Z_sto gX8_fixable_26 rfl (ls' := [(1, ((97 : Nat) : Int)), (0, (fdN T j : Int)), (0, 0), (0, (j : Int))]) (st' := []) rfl ?_
    exact h0
  · rw [if_pos ⟨by omega, e0⟩] at h0
    refine Z_push gX8_fixable_14 (v := (0, 1)) rfl ?_
    refine Z_goto gX8_fixable_15 (tgt := 19) (by decide) ?_
    refine Z_sto gX8_fixable_19 rfl (ls' := [(1, ((97 : Nat) : Int)), (0, (fdN T j : Int)), (0, 1), (9, 0)]) (st' := []) rfl ?_
    refine Z_push gX8_fixable_20 (v := (1, ((97 : Nat) : Int))) rfl ?_
    refine Z_getR (b := 112) gX8_fixable_21 rfl rfl (by decide) rfl (by omega) ?_
    refine Z_push gX8_fixable_24 (v := (0, (fdN T j : Int))) rfl ?_
    refine Z_ialoadV (v := (j : Int)) gX8_fixable_25 rfl (by omega) (by omega) f2 ?_
    refine Z_sto gX8_fixable_26 rfl (ls' := [(1, ((97 : Nat) : Int)), (0, (fdN T j : Int)), (0, 1), (0, (j : Int))]) (st' := []) rfl ?_
    exact h0
end
