/-! the law's start -/
section
variable {ro : zRo} {X : List zLE} {w : zW} {T : zTx} {R : zRu} {D : zDs} {L : Nat} {f : Nat → Int}
theorem tY_start (hro : ro (-3) = some (L, f)) (hC : CR w T R D 40 0) (hS : SW 600 T R D 40 0) (hT : T.1 = 0) (hD : D.1 = 0) : Y ro 40 mL_law 8 [(1, -3), (1, ((0 : Nat) : Int)), (9, 0), (9, 0), (9, 0), (9, 0), (9, 0), (9, 0), (9, 0), (9, 0), (9, 0)] [] X w 350010 LQ := by
  have hV := hS.1
  have hG := frC.refl w
  have hcu : cdUn D = 1 := if_pos hD
  have hlc : (lcE T 40 : Int) = 0 := by have := lc_le T 40; omega
  have hle : lE T 40 0 = 0 := lE_end (by omega)
  have hfb : cdFB T R = 1 := if_pos (by rw [hT]; rfl)
  have hS2 : SW 600 T R D 40 1 := ⟨⟨hV.1, hV.2.1, hV.2.2.1, hV.2.2.2.1, Or.inr rfl, hV.2.2.2.2.2⟩, hS.2⟩
  have hV2 := hS2.1
  refine Y_push gL_law_8 (v := (0, 40)) rfl ?_
  refine Y_sto gL_law_10 rfl (ls' := [(1, -3), (1, ((0 : Nat) : Int)), (0, 40), (9, 0), (9, 0), (9, 0), (9, 0), (9, 0), (9, 0), (9, 0), (9, 0)]) (st' := []) rfl ?_
  refine Y_push gL_law_11 (v := (1, ((0 : Nat) : Int))) rfl ?_
  refine Y_push gL_law_12 (v := (0, 10)) rfl ?_
  refine Y_push gL_law_14 (v := (0, 0)) rfl ?_
  refine Y_push gL_law_15 (v := (0, 0)) rfl ?_
  refine Y_deed (v := -2003) gL_law_16 rfl rfl rfl rfl rfl rfl (fun _ => rfl) rfl rfl (by omega) (wD10 hC hV (by omega) 0 0) (q_1 hcu exC_IS) (by omega) (fun w900 hD900 hZ900 hF900 => ?_)
  have hG900 := hG.trans hF900
  refine Y_push gL_law_19 (v := (0, -2003)) rfl ?_
  refine Y_icmp_ne gL_law_22 (tgt := 68) (by decide) (fun h22 => absurd h22 (by decide)) (fun _ => ?_)
  have hC900 := hZ900 (by omega)
  refine Y_push gL_law_25 (v := (1, ((0 : Nat) : Int))) rfl ?_
  refine Y_push gL_law_26 (v := (0, 12)) rfl ?_
  refine Y_push gL_law_28 (v := (0, 0)) rfl ?_
  refine Y_push gL_law_29 (v := (0, 0)) rfl ?_
  refine Y_deed (v := 0) gL_law_30 rfl rfl rfl rfl rfl rfl (fun _ => rfl) rfl rfl (by omega) (wD12 hC900 hV 0 0) hlc (by omega) (fun w901 hD901 hZ901 hF901 => ?_)
  have hG901 := hG900.trans hF901
  refine Y_if_ne gL_law_33 (tgt := 68) (by decide) (fun h33 => absurd h33 (by decide)) (fun _ => ?_)
  have hC901 := hD901 rfl
  refine Y_push gL_law_36 (v := (1, ((0 : Nat) : Int))) rfl ?_
  refine Y_callR (kd := 0) (na := 1) (M' := mX7_isLaidOut) (v := (0, 1)) gL_law_37 rfl rfl rfl rfl rfl rfl (fun _ => rfl) rfl rfl (fun _ _ => zrecv_obj rfl _ _ _) (d' := 0) (by omega) (uX7_isLaidOut hC901 hV2) rfl (fun w1 hC1 hF1 => ?_)
  have hG1 := hG901.trans hF1
  refine Y_if_eq gL_law_40 (tgt := 68) (by decide) (fun h40 => absurd h40 (by decide)) (fun _ => ?_)
  refine Y_push gL_law_43 (v := (1, ((0 : Nat) : Int))) rfl ?_
  refine Y_callR (kd := 0) (na := 1) (M' := mX7_cost) (v := (0, 0)) gL_law_44 rfl rfl rfl rfl rfl rfl (fun _ => rfl) rfl rfl (fun _ _ => zrecv_obj rfl _ _ _) (d' := 5) (by omega) (uX7_cost hC1 hV2) (congrArg (fun z => (Sum.inl (some (0, z)) : Option zV ⊕ String)) hle) (fun w2 hC2 hF2 => ?_)
  have hG2 := hG1.trans hF2
  refine Y_if_ne gL_law_47 (tgt := 68) (by decide) (fun h47 => absurd h47 (by decide)) (fun _ => ?_)
  refine Y_push gL_law_50 (v := (1, ((0 : Nat) : Int))) rfl ?_
  refine Y_push gL_law_51 (v := (0, 7)) rfl ?_
  refine Y_push gL_law_53 (v := (0, 0)) rfl ?_
  refine Y_push gL_law_54 (v := (0, 0)) rfl ?_
  refine Y_deed (v := -2003) gL_law_55 rfl rfl rfl rfl rfl rfl (fun _ => rfl) rfl rfl (by omega) (wD7 hC2 hV2 (by omega) 0 0) (q_1 hfb exC_IS) (by omega) (fun w902 hD902 hZ902 hF902 => ?_)
  have hG902 := hG2.trans hF902
  refine Y_push gL_law_58 (v := (0, -2003)) rfl ?_
  refine Y_icmp_ne gL_law_61 (tgt := 68) (by decide) (fun h61 => absurd h61 (by decide)) (fun _ => ?_)
  refine Y_push gL_law_64 (v := (0, 1)) rfl ?_
  refine Y_goto gL_law_65 (tgt := 69) (by decide) ?_
  refine Y_sto gL_law_69 rfl (ls' := [(1, -3), (1, ((0 : Nat) : Int)), (0, 40), (0, 1), (9, 0), (9, 0), (9, 0), (9, 0), (9, 0), (9, 0), (9, 0)]) (st' := []) rfl ?_
  refine Y_push gL_law_70 (v := (0, 0)) rfl ?_
  refine Y_sto gL_law_71 rfl (ls' := [(1, -3), (1, ((0 : Nat) : Int)), (0, 40), (0, 1), (0, 0), (9, 0), (9, 0), (9, 0), (9, 0), (9, 0), (9, 0)]) (st' := []) rfl ?_
  exact Y_K (by omega) (tY_loop hro 70 0 rfl 40 _ _ _ _ _ _ _ _ ⟨T, R, D, 1, hZ902 (by omega), hS2⟩)
end
def ro0 : zRo := fun z => if z = -2 then some (5, fun j => zfw.getD j 0) else none
def zget9 (o : Option zR) : zS := match o with | some r => r.2 | none => zS0
def zSa : zS := znew zS0 (0, 7, 9) (fun j => zdef (zfty 7 j))
def zXi : Option zR := zrun ro0 1000 99 mX7_init 0 (zargs (zMl mX7_init) [(1, 0)]) [] zSa
def zSb : zS := zget9 zXi
def isVoid (o : Option zR) : Bool := match o with | some (.inl none, _) => true | _ => false
set_option maxRecDepth 100000 in
theorem zXi_ok : isVoid zXi = true := by decide +kernel
theorem void_eq {o : Option zR} (h : isVoid o = true) : o = some (.inl none, zget9 o) := by
  match o, h with
  | some (.inl none, _), _ => rfl
  | some (.inl (some _), _), h => cases h
  | some (.inr _, _), h => cases h
  | none, h => cases h
set_option maxRecDepth 100000 in
theorem zSb_ly : zSb.1 = zLY := by decide +kernel
set_option maxRecDepth 100000 in
theorem zSb_c : zSb.2.2.1 ≤ 1000 ∧ zSb.2.2.2 ≤ 10000 := by decide +kernel
set_option maxRecDepth 100000 in
theorem zSb_ptr : (List.range 97).all (fun a => (List.range 26).all (fun j => zptr a j == 0 || zSb.2.1 a j == (zptr a j : Int))) = true := by decide +kernel
theorem zptrL_len : zptrL.length = 97 ∧ zptrL.all (fun r => decide (r.length ≤ 26)) = true := by decide +kernel
theorem zSb_pt : PT zSb.2.1 := by
  intro a j h
  have ha : a < 97 := by
    apply Classical.byContradiction
    intro hc
    exact h (zptr_97 (by omega) j)
  have hj : j < 26 := by
    apply Classical.byContradiction
    intro hc
    apply h
    unfold zptr
    have hr : (zptrL.getD a []).length ≤ 26 := by
      rw [List.getD_eq_getElem?_getD]
      cases e : zptrL[a]? with
      | none => exact Nat.zero_le _
      | some r => exact of_decide_eq_true (List.all_eq_true.mp zptrL_len.2 r (List.mem_of_getElem? e))
    rw [List.getD_eq_getElem?_getD (l := zptrL.getD a []), List.getElem?_eq_none (by omega)]
    rfl
  have h1 := List.all_eq_true.mp (List.all_eq_true.mp zSb_ptr a (List.mem_range.mpr ha)) j (List.mem_range.mpr hj)
  simp only [Bool.or_eq_true, beq_iff_eq] at h1
  rcases h1 with h1 | h1
  · exact absurd h1 h
  · exact h1
set_option maxRecDepth 100000 in
theorem zSb_v : zSb.2.1 1 4 = 0 ∧ zSb.2.1 9 1 = 0 ∧ zSb.2.1 9 2 = 0 ∧ zSb.2.1 0 7 = 40 ∧ zSb.2.1 0 8 = 0 ∧ zSb.2.1 6 2 = 0 := by decide +kernel
set_option maxRecDepth 100000 in
theorem zSb_r : (List.range 5).all (fun j => zSb.2.1 7 j == zfw.getD j 0 && zSb.2.1 8 j == 0 && decide (0 ≤ zfw.getD j 0 ∧ zfw.getD j 0 ≤ 99)) = true := by decide +kernel
def T0 : zTx := (0, fun _ => (0, 0, 0, 0))
def R0 : zRu := (fun j => zfw.getD j 0, fun _ => 0, 0)
def D0 : zDs := (0, fun _ => (T0, fun _ => 0))
theorem zSb_CR : CR zSb.2.1 T0 R0 D0 40 0 ∧ SW 600 T0 R0 D0 40 0 := by
  obtain ⟨a1, a2, a3, a4, a5, a6⟩ := zSb_v
  have hr : ∀ j, j < 5 → zSb.2.1 7 j = zfw.getD j 0 ∧ zSb.2.1 8 j = 0 ∧ (0 ≤ zfw.getD j 0 ∧ zfw.getD j 0 ≤ 99) := fun j hj => by
    have h := List.all_eq_true.mp zSb_r j (List.mem_range.mpr hj)
    simp only [Bool.and_eq_true, beq_iff_eq, decide_eq_true_eq] at h
    exact ⟨h.1.1, h.1.2, h.2⟩
  refine ⟨⟨⟨a1, fun j hj => absurd hj (Nat.not_lt_zero _)⟩, ⟨fun j hj => (hr j hj).1, fun j hj => (hr j hj).2.1, a6⟩, ⟨0, by omega, a2, a3, Nat.zero_le _, fun q hq => absurd hq (Nat.not_lt_zero _)⟩, a4, a5, fun h => absurd h (by decide)⟩, ⟨⟨Nat.zero_le _, fun j hj => absurd hj (Nat.not_lt_zero _)⟩, ⟨fun j hj => (hr j hj).2.2, fun j _ => ⟨Int.le_refl _, by show (0 : Int) ≤ 600; omega⟩, Int.le_refl _, by show (0 : Int) ≤ 600; omega⟩, fun q hq => absurd hq (Nat.not_lt_zero _), ⟨by omega, by omega⟩, Or.inl rfl, Int.le_refl _, fun q hq => absurd hq (Nat.not_lt_zero _)⟩, fun m hm => ?_, fun q hq => absurd hq (Nat.not_lt_zero _)⟩
  obtain rfl : m = 0 := Nat.le_zero.mp hm
  exact Int.le_refl _
