/-! the law's loop -/
def LQ : (Option zV ⊕ String) → List zLE → zW → Prop := fun r _ _ => r = .inl (some (0, 1))
/-- what holds ahead of the law's turn k -/
def LI (w : zW) (lim : Int) (k : Nat) : Prop := ∃ (T : zTx) (R : zRu) (D : zDs) (la : Int), CR w T R D lim la ∧ SW (600 * (k : Int) + 600) T R D lim la
section
variable {ro : zRo} {X : List zLE} {w : zW} {T : zTx} {R : zRu} {D : zDs} {lim la B : Int} {L : Nat} {f : Nat → Int}
theorem cr_la {w : zW} (h : CR w T R D lim la) : w 0 8 = la := h.2.2.2.2.1
/-- a turn's end -/
theorem tY_turn {k : Nat} {lmK : Nat} {v5 v6 v7 : Int} {u8 u9 u10 : zV} (hk : k < 70) (hV : SW (600 * ((k + 1 : Nat) : Int) + 600) T R D lim la) (K : ∀ (X : List zLE) (w : zW), LI w lim (k + 1) → Y ro 40 mL_law 73 [(1, -3), (1, ((0 : Nat) : Int)), (0, lim), (0, 1), (0, ((k + 1 : Nat) : Int)), (0, v5), (0, v6), (0, v7), u8, u9, u10] [] X w lmK LQ) (hC : CR w T R D lim la) : Y ro 40 mL_law 587 [(1, -3), (1, ((0 : Nat) : Int)), (0, lim), (0, 1), (0, (k : Int)), (0, v5), (0, v6), (0, v7), u8, u9, u10] [] X w (lmK + 2760) LQ := by
  have hG := frC.refl w
  have fin : ∀ (X : List zLE) (w : zW), CR w T R D lim la → Y ro 40 mL_law 629 [(1, -3), (1, ((0 : Nat) : Int)), (0, lim), (0, 1), (0, (k : Int)), (0, v5), (0, v6), (0, v7), u8, u9, u10] [] X w lmK LQ := by
    intro X w hC
    refine Y_push gL_law_629 (v := (0, 1)) rfl ?_
    refine Y_goto gL_law_630 (tgt := 634) (by decide) ?_
    refine Y_sto gL_law_634 rfl (ls' := [(1, -3), (1, ((0 : Nat) : Int)), (0, lim), (0, 1), (0, (k : Int)), (0, v5), (0, v6), (0, v7), u8, u9, u10]) (st' := []) rfl ?_
    refine Y_iinc gL_law_635 rfl ⟨by omega, by omega⟩ (ls' := [(1, -3), (1, ((0 : Nat) : Int)), (0, lim), (0, 1), (0, (k : Int) + 1), (0, v5), (0, v6), (0, v7), u8, u9, u10]) rfl ?_
    refine Y_goto gL_law_638 (tgt := 73) (by decide) ?_
    exact K X w ⟨T, R, D, la, hC, hV⟩
  refine Y_push gL_law_587 (v := (0, 1)) rfl ?_
  refine Y_if_eq gL_law_588 (tgt := 633) (by decide) (fun h588 => absurd h588 (by decide)) (fun _ => ?_)
  refine Y_push gL_law_591 (v := (0, (k : Int))) rfl ?_
  refine Y_push gL_law_593 (v := (0, 6)) rfl ?_
  refine Y_arith gL_law_595 rfl rfl (v := [(0, zw32 ((k : Int) - (k : Int).tdiv 6 * 6))]) (by show (if (0 : Int) < 6 then some [((0 : Nat), zw32 ((k : Int) - (k : Int).tdiv 6 * 6))] else none) = _; rw [if_pos (by decide)]) ?_
  refine Y_push gL_law_596 (v := (0, 5)) rfl ?_
  refine Y_icmp_ne gL_law_597 (tgt := 629) (by decide) (fun h597 => ?_) (fun h597 => ?_)
  · exact Y_K (by omega) (fin X w hC)
  · refine Y_push gL_law_600 (v := (1, ((0 : Nat) : Int))) rfl ?_
    refine Y_callY (kd := 1) (na := 1) (M' := mL_areEntries) (k1 := 300) gL_law_601 rfl rfl rfl rfl rfl rfl (fun _ => rfl) rfl rfl (fun _ _ => rfl) (d' := 37) (by omega) (tY_areEntries hC hV.1 hV.2.1) (by omega) (fun o X1 w1 h => ?_)
    obtain ⟨rfl, hC1⟩ := h
    refine Y_if_eq gL_law_604 (tgt := 633) (by decide) (fun h => absurd h (by decide)) (fun _ => ?_)
    refine Y_push gL_law_607 (v := (1, ((0 : Nat) : Int))) rfl ?_
    refine Y_callY (kd := 1) (na := 1) (M' := mL_areFindings) (k1 := 400) gL_law_608 rfl rfl rfl rfl rfl rfl (fun _ => rfl) rfl rfl (fun _ _ => rfl) (d' := 37) (by omega) (tY_areFindings hC1 hV.1) (by omega) (fun o X2 w2 h => ?_)
    obtain ⟨rfl, hC2⟩ := h
    refine Y_if_eq gL_law_611 (tgt := 633) (by decide) (fun h => absurd h (by decide)) (fun _ => ?_)
    refine Y_push gL_law_614 (v := (1, ((0 : Nat) : Int))) rfl ?_
    refine Y_push gL_law_615 (v := (0, lim)) rfl ?_
    refine Y_callY (kd := 1) (na := 2) (M' := mL_areLines) (k1 := 2000) gL_law_616 rfl rfl rfl rfl rfl rfl (fun _ => rfl) rfl rfl (fun _ _ => rfl) (d' := 37) (by omega) (tY_areLines hC2 hV.1) (by omega) (fun o X3 w3 h => ?_)
    obtain ⟨rfl, hC3⟩ := h
    refine Y_if_eq gL_law_619 (tgt := 633) (by decide) (fun h => absurd h (by decide)) (fun _ => ?_)
    refine Y_push gL_law_622 (v := (1, ((0 : Nat) : Int))) rfl ?_
    refine Y_callY (kd := 1) (na := 1) (M' := mL_areRules) (k1 := 60) gL_law_623 rfl rfl rfl rfl rfl rfl (fun _ => rfl) rfl rfl (fun _ _ => rfl) (d' := 37) (by omega) (tY_areRules hC3 hV.1) (by omega) (fun o X4 w4 h => ?_)
    obtain ⟨rfl, hC4⟩ := h
    refine Y_if_eq gL_law_626 (tgt := 633) (by decide) (fun h => absurd h (by decide)) (fun _ => ?_)
    exact Y_K (by omega) (fin X4 w4 hC4)
/-- from the end of a turn on, whatever it left -/
def TK (ro : zRo) (k lmK : Nat) : Prop := ∀ (lim v6 v7 : Int) (u8 u9 u10 : zV) (X : List zLE) (w : zW) (T : zTx) (R : zRu) (D : zDs) (la : Int), SW (600 * ((k + 1 : Nat) : Int) + 600) T R D lim la → CR w T R D lim la → Y ro 40 mL_law 587 [(1, -3), (1, ((0 : Nat) : Int)), (0, lim), (0, 1), (0, (k : Int)), (0, 8 * (k : Int)), (0, v6), (0, v7), u8, u9, u10] [] X w lmK LQ
theorem eV_n {a b : Int} (h1 : 0 ≤ a ∧ a < 100) (h2 : 1 ≤ b ∧ b ≤ 9) : eV (110, a, b, 0) := ⟨Or.inl rfl, fun _ => h1, fun _ => h2, Or.inl rfl⟩
theorem eV_c {b : Int} (h2 : 1 ≤ b ∧ b ≤ 9) : eV (99, 0, b, 0) := ⟨Or.inr (Or.inl rfl), fun h => absurd (show (99 : Int) = 110 from h) (by decide), fun _ => h2, Or.inl rfl⟩
theorem eV_b : eV (123, 0, 1, 0) := ⟨Or.inr (Or.inr (Or.inl rfl)), fun h => absurd h (by decide), fun h => absurd h (by decide), Or.inl rfl⟩
theorem eV_e : eV (125, 0, 1, 0) := ⟨Or.inr (Or.inr (Or.inr rfl)), fun h => absurd h (by decide), fun h => absurd h (by decide), Or.inl rfl⟩
theorem SW_ad (hS : SW B T R D lim la) (hn : T.1 < 30) {x : zE} (hx : eV x) (ho : 0 ≤ opT T T.1 + fK x.1) : SW (B + 150) (adT T x) R (fgD D) lim 0 := ⟨SV_ad hS.1 hn hx ho, WB_ad hS.2.1 ho, WD_fg⟩
theorem ad_at (T : zTx) (x : zE) : (adT T x).2 T.1 = x := if_pos rfl
theorem kT_ad (T : zTx) (x : zE) : kT (adT T x) (T.1 : Int) = x.1 := by
  rw [kT_nat (T := adT T x) (j := T.1) (Nat.lt_succ_self _), ad_at]
theorem op_adl (T : zTx) (x : zE) : opT (adT T x) T.1 = opT T T.1 := by
  rw [opT_os _ (Nat.le_succ T.1), opT_os _ (Nat.le_refl _)]
  exact osF_congr (fun q hq => by
    show (if q = T.1 then x else T.2 q).1 = _
    rw [if_neg (by omega)])
theorem tc_addName (hro : ro (-3) = some (L, f)) {k lmK : Nat} (hk : k < 70) (hS : SW (600 * (k : Int) + 600) T R D lim la) (hC : CR w T R D lim la) (K : TK ro k lmK) (u8 u9 u10 : zV) : Y ro 40 mL_law 124 [(1, -3), (1, ((0 : Nat) : Int)), (0, lim), (0, 1), (0, (k : Int)), (0, 8 * (k : Int)), (0, (T.1 : Int)), (0, 0), u8, u9, u10] [] X w (lmK + 2010) LQ := by
  have hG := frC.refl w
  have hV := hS.1
  have hT30 := hV.1.1
  by_cases h30 : T.1 = 30
  · refine Y_push gL_law_124 (v := (0, 0)) rfl ?_
    refine Y_if_ne gL_law_126 (tgt := 183) (by decide) (fun h126 => absurd h126 (by decide)) (fun _ => ?_)
    refine Y_push gL_law_129 (v := (1, ((0 : Nat) : Int))) rfl ?_
    refine Y_push gL_law_130 (v := (0, 0)) rfl ?_
    refine Y_push gL_law_131 (v := (1, -3)) rfl ?_
    refine Y_push gL_law_132 (v := (0, 8 * (k : Int))) rfl ?_
    refine Y_push gL_law_134 (v := (0, 1)) rfl ?_
    refine Y_iadd gL_law_135 ⟨by omega, by omega⟩ ?_
    refine Y_push gL_law_136 (v := (0, 6)) rfl ?_
    refine Y_pick gL_law_138 rfl rfl rfl rfl rfl rfl (fun _ => rfl) rfl rfl (by omega) (vL_pick hro ⟨by omega, by omega⟩ ⟨by omega, by omega⟩) (fun v1 h1a h1b => ?_)
    refine Y_push gL_law_141 (v := (0, 1)) rfl ?_
    refine Y_push gL_law_142 (v := (1, -3)) rfl ?_
    refine Y_push gL_law_143 (v := (0, 8 * (k : Int))) rfl ?_
    refine Y_push gL_law_145 (v := (0, 2)) rfl ?_
    refine Y_iadd gL_law_146 ⟨by omega, by omega⟩ ?_
    refine Y_push gL_law_147 (v := (0, 9)) rfl ?_
    refine Y_pick gL_law_149 rfl rfl rfl rfl rfl rfl (fun _ => rfl) rfl rfl (by omega) (vL_pick hro ⟨by omega, by omega⟩ ⟨by omega, by omega⟩) (fun v2 h2a h2b => ?_)
    refine Y_iadd gL_law_152 ⟨by omega, by omega⟩ ?_
    have hcd : cdAddName T v1 (1 + v2) = 2 := by unfold cdAddName; rw [if_pos ⟨⟨by omega, by omega⟩, by omega, by omega⟩, if_pos h30]
    refine Y_deed (v := -2003) gL_law_153 rfl rfl rfl rfl rfl rfl (fun _ => rfl) rfl rfl (by omega) (wD0 hC hV v1 (1 + v2)) (q_2 hcd exC_IS) (by omega) (fun w900 hD900 hZ900 hF900 => ?_)
    have hG900 := hG.trans hF900
    refine Y_push gL_law_156 (v := (0, (T.1 : Int))) rfl ?_
    refine Y_push gL_law_158 (v := (0, 30)) rfl ?_
    refine Y_icmp_ne gL_law_160 (tgt := 169) (by decide) (fun h160 => absurd h160 (by omega)) (fun _ => ?_)
    refine Y_push gL_law_163 (v := (0, -2003)) rfl ?_
    refine Y_goto gL_law_166 (tgt := 171) (by decide) ?_
    refine Y_icmp_ne gL_law_171 (tgt := 178) (by decide) (fun h171 => absurd h171 (by decide)) (fun _ => ?_)
    refine Y_push gL_law_174 (v := (0, 1)) rfl ?_
    refine Y_goto gL_law_175 (tgt := 179) (by decide) ?_
    refine Y_sto gL_law_179 rfl (ls' := [(1, -3), (1, ((0 : Nat) : Int)), (0, lim), (0, 1), (0, (k : Int)), (0, 8 * (k : Int)), (0, (T.1 : Int)), (0, 0), u8, u9, u10]) (st' := []) rfl ?_
    refine Y_goto gL_law_180 (tgt := 587) (by decide) ?_
    exact Y_K (by omega) (K _ _ _ _ _ _ _ _ _ _ _ _ (SW_B hS (by omega)) (hZ900 (by omega)))
  · refine Y_push gL_law_124 (v := (0, 0)) rfl ?_
    refine Y_if_ne gL_law_126 (tgt := 183) (by decide) (fun h126 => absurd h126 (by decide)) (fun _ => ?_)
    refine Y_push gL_law_129 (v := (1, ((0 : Nat) : Int))) rfl ?_
    refine Y_push gL_law_130 (v := (0, 0)) rfl ?_
    refine Y_push gL_law_131 (v := (1, -3)) rfl ?_
    refine Y_push gL_law_132 (v := (0, 8 * (k : Int))) rfl ?_
    refine Y_push gL_law_134 (v := (0, 1)) rfl ?_
    refine Y_iadd gL_law_135 ⟨by omega, by omega⟩ ?_
    refine Y_push gL_law_136 (v := (0, 6)) rfl ?_
    refine Y_pick gL_law_138 rfl rfl rfl rfl rfl rfl (fun _ => rfl) rfl rfl (by omega) (vL_pick hro ⟨by omega, by omega⟩ ⟨by omega, by omega⟩) (fun v1 h1a h1b => ?_)
    refine Y_push gL_law_141 (v := (0, 1)) rfl ?_
    refine Y_push gL_law_142 (v := (1, -3)) rfl ?_
    refine Y_push gL_law_143 (v := (0, 8 * (k : Int))) rfl ?_
    refine Y_push gL_law_145 (v := (0, 2)) rfl ?_
    refine Y_iadd gL_law_146 ⟨by omega, by omega⟩ ?_
    refine Y_push gL_law_147 (v := (0, 9)) rfl ?_
    refine Y_pick gL_law_149 rfl rfl rfl rfl rfl rfl (fun _ => rfl) rfl rfl (by omega) (vL_pick hro ⟨by omega, by omega⟩ ⟨by omega, by omega⟩) (fun v2 h2a h2b => ?_)
    refine Y_iadd gL_law_152 ⟨by omega, by omega⟩ ?_
    have hcd : cdAddName T v1 (1 + v2) = 0 := by unfold cdAddName; rw [if_pos ⟨⟨by omega, by omega⟩, by omega, by omega⟩, if_neg h30]
    have ho := WB_op hS.2.1 (Nat.le_refl T.1)
    refine Y_deed (v := (T.1 : Int)) gL_law_153 rfl rfl rfl rfl rfl rfl (fun _ => rfl) rfl rfl (by omega) (wD0 hC hV v1 (1 + v2)) (q_0 hcd) (by omega) (fun w900 hD900 hZ900 hF900 => ?_)
    have hG900 := hG.trans hF900
    refine Y_push gL_law_156 (v := (0, (T.1 : Int))) rfl ?_
    refine Y_push gL_law_158 (v := (0, 30)) rfl ?_
    refine Y_icmp_ne gL_law_160 (tgt := 169) (by decide) (fun _ => ?_) (fun h160 => absurd h160 (by omega))
    refine Y_push gL_law_169 (v := (0, (T.1 : Int))) rfl ?_
    refine Y_icmp_ne gL_law_171 (tgt := 178) (by decide) (fun h171 => absurd h171 (by omega)) (fun _ => ?_)
    refine Y_push gL_law_174 (v := (0, 1)) rfl ?_
    refine Y_goto gL_law_175 (tgt := 179) (by decide) ?_
    refine Y_sto gL_law_179 rfl (ls' := [(1, -3), (1, ((0 : Nat) : Int)), (0, lim), (0, 1), (0, (k : Int)), (0, 8 * (k : Int)), (0, (T.1 : Int)), (0, 0), u8, u9, u10]) (st' := []) rfl ?_
    refine Y_goto gL_law_180 (tgt := 587) (by decide) ?_
    exact Y_K (by omega) (K _ _ _ _ _ _ _ _ _ _ _ _ (SW_B (SW_ad hS (by omega) (eV_n ⟨by omega, by omega⟩ ⟨by omega, by omega⟩) (show 0 ≤ opT T T.1 + (0 : Int) by omega)) (by omega)) (hD900 hcd))
theorem tc_addComment (hro : ro (-3) = some (L, f)) {k lmK : Nat} (hk : k < 70) (hS : SW (600 * (k : Int) + 600) T R D lim la) (hC : CR w T R D lim la) (K : TK ro k lmK) (u8 u9 u10 : zV) : Y ro 40 mL_law 124 [(1, -3), (1, ((0 : Nat) : Int)), (0, lim), (0, 1), (0, (k : Int)), (0, 8 * (k : Int)), (0, (T.1 : Int)), (0, 1), u8, u9, u10] [] X w (lmK + 2010) LQ := by
  have hG := frC.refl w
  have hV := hS.1
  have hT30 := hV.1.1
  by_cases h30 : T.1 = 30
  · refine Y_push gL_law_124 (v := (0, 1)) rfl ?_
    refine Y_if_ne gL_law_126 (tgt := 183) (by decide) (fun _ => ?_) (fun h126 => absurd h126 (by decide))
    refine Y_push gL_law_183 (v := (0, 1)) rfl ?_
    refine Y_push gL_law_185 (v := (0, 1)) rfl ?_
    refine Y_icmp_ne gL_law_186 (tgt := 234) (by decide) (fun h186 => absurd h186 (by decide)) (fun _ => ?_)
    refine Y_push gL_law_189 (v := (1, ((0 : Nat) : Int))) rfl ?_
    refine Y_push gL_law_190 (v := (0, 1)) rfl ?_
    refine Y_push gL_law_191 (v := (0, 1)) rfl ?_
    refine Y_push gL_law_192 (v := (1, -3)) rfl ?_
    refine Y_push gL_law_193 (v := (0, 8 * (k : Int))) rfl ?_
    refine Y_push gL_law_195 (v := (0, 1)) rfl ?_
    refine Y_iadd gL_law_196 ⟨by omega, by omega⟩ ?_
    refine Y_push gL_law_197 (v := (0, 9)) rfl ?_
    refine Y_pick gL_law_199 rfl rfl rfl rfl rfl rfl (fun _ => rfl) rfl rfl (by omega) (vL_pick hro ⟨by omega, by omega⟩ ⟨by omega, by omega⟩) (fun v1 h1a h1b => ?_)
    refine Y_iadd gL_law_202 ⟨by omega, by omega⟩ ?_
    refine Y_push gL_law_203 (v := (0, 0)) rfl ?_
    have hcd : cdAddC T (1 + v1) = 2 := by unfold cdAddC; rw [if_pos ⟨by omega, by omega⟩, if_pos h30]
    refine Y_deed (v := -2003) gL_law_204 rfl rfl rfl rfl rfl rfl (fun _ => rfl) rfl rfl (by omega) (wD1 hC hV (1 + v1) 0) (q_2 hcd exC_IS) (by omega) (fun w900 hD900 hZ900 hF900 => ?_)
    have hG900 := hG.trans hF900
    refine Y_push gL_law_207 (v := (0, (T.1 : Int))) rfl ?_
    refine Y_push gL_law_209 (v := (0, 30)) rfl ?_
    refine Y_icmp_ne gL_law_211 (tgt := 220) (by decide) (fun h211 => absurd h211 (by omega)) (fun _ => ?_)
    refine Y_push gL_law_214 (v := (0, -2003)) rfl ?_
    refine Y_goto gL_law_217 (tgt := 222) (by decide) ?_
    refine Y_icmp_ne gL_law_222 (tgt := 229) (by decide) (fun h222 => absurd h222 (by decide)) (fun _ => ?_)
    refine Y_push gL_law_225 (v := (0, 1)) rfl ?_
    refine Y_goto gL_law_226 (tgt := 230) (by decide) ?_
    refine Y_sto gL_law_230 rfl (ls' := [(1, -3), (1, ((0 : Nat) : Int)), (0, lim), (0, 1), (0, (k : Int)), (0, 8 * (k : Int)), (0, (T.1 : Int)), (0, 1), u8, u9, u10]) (st' := []) rfl ?_
    refine Y_goto gL_law_231 (tgt := 587) (by decide) ?_
    exact Y_K (by omega) (K _ _ _ _ _ _ _ _ _ _ _ _ (SW_B hS (by omega)) (hZ900 (by omega)))
  · refine Y_push gL_law_124 (v := (0, 1)) rfl ?_
    refine Y_if_ne gL_law_126 (tgt := 183) (by decide) (fun _ => ?_) (fun h126 => absurd h126 (by decide))
    refine Y_push gL_law_183 (v := (0, 1)) rfl ?_
    refine Y_push gL_law_185 (v := (0, 1)) rfl ?_
    refine Y_icmp_ne gL_law_186 (tgt := 234) (by decide) (fun h186 => absurd h186 (by decide)) (fun _ => ?_)
    refine Y_push gL_law_189 (v := (1, ((0 : Nat) : Int))) rfl ?_
    refine Y_push gL_law_190 (v := (0, 1)) rfl ?_
    refine Y_push gL_law_191 (v := (0, 1)) rfl ?_
    refine Y_push gL_law_192 (v := (1, -3)) rfl ?_
    refine Y_push gL_law_193 (v := (0, 8 * (k : Int))) rfl ?_
    refine Y_push gL_law_195 (v := (0, 1)) rfl ?_
    refine Y_iadd gL_law_196 ⟨by omega, by omega⟩ ?_
    refine Y_push gL_law_197 (v := (0, 9)) rfl ?_
    refine Y_pick gL_law_199 rfl rfl rfl rfl rfl rfl (fun _ => rfl) rfl rfl (by omega) (vL_pick hro ⟨by omega, by omega⟩ ⟨by omega, by omega⟩) (fun v1 h1a h1b => ?_)
    refine Y_iadd gL_law_202 ⟨by omega, by omega⟩ ?_
    refine Y_push gL_law_203 (v := (0, 0)) rfl ?_
    have hcd : cdAddC T (1 + v1) = 0 := by unfold cdAddC; rw [if_pos ⟨by omega, by omega⟩, if_neg h30]
    have ho := WB_op hS.2.1 (Nat.le_refl T.1)
    refine Y_deed (v := (T.1 : Int)) gL_law_204 rfl rfl rfl rfl rfl rfl (fun _ => rfl) rfl rfl (by omega) (wD1 hC hV (1 + v1) 0) (q_0 hcd) (by omega) (fun w900 hD900 hZ900 hF900 => ?_)
    have hG900 := hG.trans hF900
    refine Y_push gL_law_207 (v := (0, (T.1 : Int))) rfl ?_
    refine Y_push gL_law_209 (v := (0, 30)) rfl ?_
    refine Y_icmp_ne gL_law_211 (tgt := 220) (by decide) (fun _ => ?_) (fun h211 => absurd h211 (by omega))
    refine Y_push gL_law_220 (v := (0, (T.1 : Int))) rfl ?_
    refine Y_icmp_ne gL_law_222 (tgt := 229) (by decide) (fun h222 => absurd h222 (by omega)) (fun _ => ?_)
    refine Y_push gL_law_225 (v := (0, 1)) rfl ?_
    refine Y_goto gL_law_226 (tgt := 230) (by decide) ?_
    refine Y_sto gL_law_230 rfl (ls' := [(1, -3), (1, ((0 : Nat) : Int)), (0, lim), (0, 1), (0, (k : Int)), (0, 8 * (k : Int)), (0, (T.1 : Int)), (0, 1), u8, u9, u10]) (st' := []) rfl ?_
    refine Y_goto gL_law_231 (tgt := 587) (by decide) ?_
    exact Y_K (by omega) (K _ _ _ _ _ _ _ _ _ _ _ _ (SW_B (SW_ad hS (by omega) (eV_c ⟨by omega, by omega⟩) (show 0 ≤ opT T T.1 + (0 : Int) by omega)) (by omega)) (hD900 hcd))
theorem tc_begin (hro : ro (-3) = some (L, f)) {k lmK : Nat} (hk : k < 70) (hS : SW (600 * (k : Int) + 600) T R D lim la) (hC : CR w T R D lim la) (K : TK ro k lmK) (u8 u9 u10 : zV) : Y ro 40 mL_law 124 [(1, -3), (1, ((0 : Nat) : Int)), (0, lim), (0, 1), (0, (k : Int)), (0, 8 * (k : Int)), (0, (T.1 : Int)), (0, 2), u8, u9, u10] [] X w (lmK + 2010) LQ := by
  have hG := frC.refl w
  have hV := hS.1
  have hT30 := hV.1.1
  by_cases h30 : T.1 = 30
  · have hcd : cdBeg T = 1 := if_pos h30
    refine Y_push gL_law_124 (v := (0, 2)) rfl ?_
    refine Y_if_ne gL_law_126 (tgt := 183) (by decide) (fun _ => ?_) (fun h126 => absurd h126 (by decide))
    refine Y_push gL_law_183 (v := (0, 2)) rfl ?_
    refine Y_push gL_law_185 (v := (0, 1)) rfl ?_
    refine Y_icmp_ne gL_law_186 (tgt := 234) (by decide) (fun _ => ?_) (fun h186 => absurd h186 (by decide))
    refine Y_push gL_law_234 (v := (0, 2)) rfl ?_
    refine Y_push gL_law_236 (v := (0, 2)) rfl ?_
    refine Y_icmp_ne gL_law_237 (tgt := 310) (by decide) (fun h237 => absurd h237 (by decide)) (fun _ => ?_)
    refine Y_push gL_law_240 (v := (1, ((0 : Nat) : Int))) rfl ?_
    refine Y_push gL_law_241 (v := (0, 2)) rfl ?_
    refine Y_push gL_law_242 (v := (0, 0)) rfl ?_
    refine Y_push gL_law_243 (v := (0, 0)) rfl ?_
    refine Y_deed (v := -2003) gL_law_244 rfl rfl rfl rfl rfl rfl (fun _ => rfl) rfl rfl (by omega) (wD2 hC hV 0 0) (q_1 hcd exC_IS) (by omega) (fun w900 hD900 hZ900 hF900 => ?_)
    have hG900 := hG.trans hF900
    refine Y_sto gL_law_247 rfl (ls' := [(1, -3), (1, ((0 : Nat) : Int)), (0, lim), (0, 1), (0, (k : Int)), (0, 8 * (k : Int)), (0, (T.1 : Int)), (0, 2), (0, -2003), u9, u10]) (st' := []) rfl ?_
    refine Y_push gL_law_249 (v := (0, (T.1 : Int))) rfl ?_
    refine Y_push gL_law_251 (v := (0, 30)) rfl ?_
    refine Y_icmp_ne gL_law_253 (tgt := 272) (by decide) (fun h253 => absurd h253 (by omega)) (fun _ => ?_)
    refine Y_push gL_law_256 (v := (0, -2003)) rfl ?_
    refine Y_push gL_law_258 (v := (0, -2003)) rfl ?_
    refine Y_icmp_ne gL_law_261 (tgt := 268) (by decide) (fun h261 => absurd h261 (by decide)) (fun _ => ?_)
    refine Y_push gL_law_264 (v := (0, 1)) rfl ?_
    refine Y_goto gL_law_265 (tgt := 306) (by decide) ?_
    refine Y_sto gL_law_306 rfl (ls' := [(1, -3), (1, ((0 : Nat) : Int)), (0, lim), (0, 1), (0, (k : Int)), (0, 8 * (k : Int)), (0, (T.1 : Int)), (0, 2), (0, -2003), u9, u10]) (st' := []) rfl ?_
    refine Y_goto gL_law_307 (tgt := 587) (by decide) ?_
    exact Y_K (by omega) (K _ _ _ _ _ _ _ _ _ _ _ _ (SW_B hS (by omega)) (hZ900 (by omega)))
  · have hcd : cdBeg T = 0 := if_neg h30
    have ho := WB_op hS.2.1 (Nat.le_refl T.1)
    have hS2 := SW_ad hS (by omega) eV_b (show 0 ≤ opT T T.1 + (1 : Int) by omega)
    have hV2 := hS2.1
    have hdp : dpT (adT T (123, 0, 1, 0)) (T.1 : Int) = opT T T.1 := by
      unfold dpT
      rw [kT_ad, if_neg (by decide)]
      exact op_adl T _
    have hcd2 : cdEnt (adT T (123, 0, 1, 0)) (T.1 : Int) = 0 := if_pos ⟨by omega, by show (T.1 : Int) < ((T.1 + 1 : Nat) : Int); omega⟩
    refine Y_push gL_law_124 (v := (0, 2)) rfl ?_
    refine Y_if_ne gL_law_126 (tgt := 183) (by decide) (fun _ => ?_) (fun h126 => absurd h126 (by decide))
    refine Y_push gL_law_183 (v := (0, 2)) rfl ?_
    refine Y_push gL_law_185 (v := (0, 1)) rfl ?_
    refine Y_icmp_ne gL_law_186 (tgt := 234) (by decide) (fun _ => ?_) (fun h186 => absurd h186 (by decide))
    refine Y_push gL_law_234 (v := (0, 2)) rfl ?_
    refine Y_push gL_law_236 (v := (0, 2)) rfl ?_
    refine Y_icmp_ne gL_law_237 (tgt := 310) (by decide) (fun h237 => absurd h237 (by decide)) (fun _ => ?_)
    refine Y_push gL_law_240 (v := (1, ((0 : Nat) : Int))) rfl ?_
    refine Y_push gL_law_241 (v := (0, 2)) rfl ?_
    refine Y_push gL_law_242 (v := (0, 0)) rfl ?_
    refine Y_push gL_law_243 (v := (0, 0)) rfl ?_
    refine Y_deed (v := opT T T.1) gL_law_244 rfl rfl rfl rfl rfl rfl (fun _ => rfl) rfl rfl (by omega) (wD2 hC hV 0 0) ((q_0 hcd).trans hdp) (by omega) (fun w900 hD900 hZ900 hF900 => ?_)
    have hG900 := hG.trans hF900
    refine Y_sto gL_law_247 rfl (ls' := [(1, -3), (1, ((0 : Nat) : Int)), (0, lim), (0, 1), (0, (k : Int)), (0, 8 * (k : Int)), (0, (T.1 : Int)), (0, 2), (0, opT T T.1), u9, u10]) (st' := []) rfl ?_
    refine Y_push gL_law_249 (v := (0, (T.1 : Int))) rfl ?_
    refine Y_push gL_law_251 (v := (0, 30)) rfl ?_
    refine Y_icmp_ne gL_law_253 (tgt := 272) (by decide) (fun _ => ?_) (fun h253 => absurd h253 (by omega))
    refine Y_push gL_law_272 (v := (0, opT T T.1)) rfl ?_
    refine Y_if_lt gL_law_274 (tgt := 305) (by decide) (fun h274 => absurd h274 (by omega)) (fun _ => ?_)
    have hC900 := hD900 hcd
    refine Y_push gL_law_277 (v := (1, ((0 : Nat) : Int))) rfl ?_
    refine Y_push gL_law_278 (v := (0, 3)) rfl ?_
    refine Y_push gL_law_279 (v := (0, (T.1 : Int))) rfl ?_
    refine Y_ask (v := opT T T.1) gL_law_281 rfl rfl rfl rfl rfl rfl (fun _ => rfl) rfl rfl (by omega) (wA3 hC900 hV2 (T.1 : Int)) ((q_0 hcd2).trans hdp) (by omega) (fun w1 hC1 hF1 => ?_)
    have hG1 := hG900.trans hF1
    refine Y_push gL_law_284 (v := (0, opT T T.1)) rfl ?_
    refine Y_icmp_ne gL_law_286 (tgt := 305) (by decide) (fun h286 => absurd h286 (by omega)) (fun _ => ?_)
    refine Y_push gL_law_289 (v := (1, ((0 : Nat) : Int))) rfl ?_
    refine Y_push gL_law_290 (v := (0, 0)) rfl ?_
    refine Y_push gL_law_291 (v := (0, (T.1 : Int))) rfl ?_
    refine Y_ask (v := 123) gL_law_293 rfl rfl rfl rfl rfl rfl (fun _ => rfl) rfl rfl (by omega) (wA0 hC1 hV2 (T.1 : Int)) ((q_0 hcd2).trans (kT_ad T _)) (by omega) (fun w2 hC2 hF2 => ?_)
    have hG2 := hG1.trans hF2
    refine Y_push gL_law_296 (v := (0, 123)) rfl ?_
    refine Y_icmp_ne gL_law_298 (tgt := 305) (by decide) (fun h298 => absurd h298 (by decide)) (fun _ => ?_)
    refine Y_push gL_law_301 (v := (0, 1)) rfl ?_
    refine Y_goto gL_law_302 (tgt := 306) (by decide) ?_
    refine Y_sto gL_law_306 rfl (ls' := [(1, -3), (1, ((0 : Nat) : Int)), (0, lim), (0, 1), (0, (k : Int)), (0, 8 * (k : Int)), (0, (T.1 : Int)), (0, 2), (0, opT T T.1), u9, u10]) (st' := []) rfl ?_
    refine Y_goto gL_law_307 (tgt := 587) (by decide) ?_
    exact Y_K (by omega) (K _ _ _ _ _ _ _ _ _ _ _ _ (SW_B hS2 (by omega)) (by assumption))
theorem tc_end (hro : ro (-3) = some (L, f)) {k lmK : Nat} (hk : k < 70) (hS : SW (600 * (k : Int) + 600) T R D lim la) (hC : CR w T R D lim la) (K : TK ro k lmK) (u8 u9 u10 : zV) : Y ro 40 mL_law 124 [(1, -3), (1, ((0 : Nat) : Int)), (0, lim), (0, 1), (0, (k : Int)), (0, 8 * (k : Int)), (0, (T.1 : Int)), (0, 3), u8, u9, u10] [] X w (lmK + 2010) LQ := by
  have hG := frC.refl w
  have hV := hS.1
  have hT30 := hV.1.1
  by_cases h30 : 0 < opT T T.1 ∧ T.1 ≠ 30
  · have hcd : cdEnd T = 0 := if_pos h30
    have hS2 := SW_ad hS (by omega) eV_e (show 0 ≤ opT T T.1 + (-1 : Int) by omega)
    have hV2 := hS2.1
    have hdp : dpT (adT T (125, 0, 1, 0)) (T.1 : Int) = opT T T.1 - 1 := by
      unfold dpT
      rw [kT_ad, if_pos rfl]
      show opT (adT T (125, 0, 1, 0)) T.1 - 1 = _
      rw [op_adl]
    have hcd2 : cdEnt (adT T (125, 0, 1, 0)) (T.1 : Int) = 0 := if_pos ⟨by omega, by show (T.1 : Int) < ((T.1 + 1 : Nat) : Int); omega⟩
    refine Y_push gL_law_124 (v := (0, 3)) rfl ?_
    refine Y_if_ne gL_law_126 (tgt := 183) (by decide) (fun _ => ?_) (fun h126 => absurd h126 (by decide))
    refine Y_push gL_law_183 (v := (0, 3)) rfl ?_
    refine Y_push gL_law_185 (v := (0, 1)) rfl ?_
    refine Y_icmp_ne gL_law_186 (tgt := 234) (by decide) (fun _ => ?_) (fun h186 => absurd h186 (by decide))
    refine Y_push gL_law_234 (v := (0, 3)) rfl ?_
    refine Y_push gL_law_236 (v := (0, 2)) rfl ?_
    refine Y_icmp_ne gL_law_237 (tgt := 310) (by decide) (fun _ => ?_) (fun h237 => absurd h237 (by decide))
    refine Y_push gL_law_310 (v := (0, 3)) rfl ?_
    refine Y_push gL_law_312 (v := (0, 3)) rfl ?_
    refine Y_icmp_ne gL_law_313 (tgt := 385) (by decide) (fun h313 => absurd h313 (by decide)) (fun _ => ?_)
    refine Y_push gL_law_316 (v := (1, ((0 : Nat) : Int))) rfl ?_
    refine Y_push gL_law_317 (v := (0, 3)) rfl ?_
    refine Y_push gL_law_318 (v := (0, 0)) rfl ?_
    refine Y_push gL_law_319 (v := (0, 0)) rfl ?_
    refine Y_deed (v := opT T T.1 - 1) gL_law_320 rfl rfl rfl rfl rfl rfl (fun _ => rfl) rfl rfl (by omega) (wD3 hC hV 0 0) ((q_0 hcd).trans hdp) (by omega) (fun w900 hD900 hZ900 hF900 => ?_)
    have hG900 := hG.trans hF900
    refine Y_sto gL_law_323 rfl (ls' := [(1, -3), (1, ((0 : Nat) : Int)), (0, lim), (0, 1), (0, (k : Int)), (0, 8 * (k : Int)), (0, (T.1 : Int)), (0, 3), (0, opT T T.1 - 1), u9, u10]) (st' := []) rfl ?_
    refine Y_push gL_law_325 (v := (0, opT T T.1 - 1)) rfl ?_
    refine Y_push gL_law_327 (v := (0, -2003)) rfl ?_
    refine Y_icmp_eq gL_law_330 (tgt := 376) (by decide) (fun h330 => absurd h330 (by omega)) (fun _ => ?_)
    refine Y_push gL_law_333 (v := (0, opT T T.1 - 1)) rfl ?_
    refine Y_if_lt gL_law_335 (tgt := 380) (by decide) (fun h335 => absurd h335 (by omega)) (fun _ => ?_)
    have hC900 := hD900 hcd
    refine Y_push gL_law_338 (v := (1, ((0 : Nat) : Int))) rfl ?_
    refine Y_push gL_law_339 (v := (0, 3)) rfl ?_
    refine Y_push gL_law_340 (v := (0, (T.1 : Int))) rfl ?_
    refine Y_ask (v := opT T T.1 - 1) gL_law_342 rfl rfl rfl rfl rfl rfl (fun _ => rfl) rfl rfl (by omega) (wA3 hC900 hV2 (T.1 : Int)) ((q_0 hcd2).trans hdp) (by omega) (fun w3 hC3 hF3 => ?_)
    have hG3 := hG900.trans hF3
    refine Y_push gL_law_345 (v := (0, opT T T.1 - 1)) rfl ?_
    refine Y_icmp_ne gL_law_347 (tgt := 380) (by decide) (fun h347 => absurd h347 (by omega)) (fun _ => ?_)
    refine Y_push gL_law_350 (v := (1, ((0 : Nat) : Int))) rfl ?_
    refine Y_push gL_law_351 (v := (0, 0)) rfl ?_
    refine Y_push gL_law_352 (v := (0, (T.1 : Int))) rfl ?_
    refine Y_ask (v := 125) gL_law_354 rfl rfl rfl rfl rfl rfl (fun _ => rfl) rfl rfl (by omega) (wA0 hC3 hV2 (T.1 : Int)) ((q_0 hcd2).trans (kT_ad T _)) (by omega) (fun w4 hC4 hF4 => ?_)
    have hG4 := hG3.trans hF4
    refine Y_push gL_law_357 (v := (0, 125)) rfl ?_
    refine Y_icmp_ne gL_law_359 (tgt := 380) (by decide) (fun h359 => absurd h359 (by decide)) (fun _ => ?_)
    refine Y_push gL_law_362 (v := (1, ((0 : Nat) : Int))) rfl ?_
    refine Y_push gL_law_363 (v := (0, 10)) rfl ?_
    refine Y_push gL_law_365 (v := (0, 0)) rfl ?_
    refine Y_push gL_law_366 (v := (0, 0)) rfl ?_
    refine Y_deed (v := -2003) gL_law_367 rfl rfl rfl rfl rfl rfl (fun _ => rfl) rfl rfl (by omega) (wD10 hC4 hV2 (by omega) 0 0) (q_1 (show cdUn (fgD D) = 1 from if_pos rfl) exC_IS) (by omega) (fun w901 hD901 hZ901 hF901 => ?_)
    have hG901 := hG4.trans hF901
    refine Y_push gL_law_370 (v := (0, -2003)) rfl ?_
    refine Y_icmp_ne gL_law_373 (tgt := 380) (by decide) (fun h373 => absurd h373 (by decide)) (fun _ => ?_)
    refine Y_push gL_law_376 (v := (0, 1)) rfl ?_
    refine Y_goto gL_law_377 (tgt := 381) (by decide) ?_
    refine Y_sto gL_law_381 rfl (ls' := [(1, -3), (1, ((0 : Nat) : Int)), (0, lim), (0, 1), (0, (k : Int)), (0, 8 * (k : Int)), (0, (T.1 : Int)), (0, 3), (0, opT T T.1 - 1), u9, u10]) (st' := []) rfl ?_
    refine Y_goto gL_law_382 (tgt := 587) (by decide) ?_
    exact Y_K (by omega) (K _ _ _ _ _ _ _ _ _ _ _ _ (SW_B hS2 (by omega)) (hZ901 (show (1 : Nat) ≠ 0 by decide)))
  · have hcd : cdEnd T = 1 := if_neg h30
    refine Y_push gL_law_124 (v := (0, 3)) rfl ?_
    refine Y_if_ne gL_law_126 (tgt := 183) (by decide) (fun _ => ?_) (fun h126 => absurd h126 (by decide))
    refine Y_push gL_law_183 (v := (0, 3)) rfl ?_
    refine Y_push gL_law_185 (v := (0, 1)) rfl ?_
    refine Y_icmp_ne gL_law_186 (tgt := 234) (by decide) (fun _ => ?_) (fun h186 => absurd h186 (by decide))
    refine Y_push gL_law_234 (v := (0, 3)) rfl ?_
    refine Y_push gL_law_236 (v := (0, 2)) rfl ?_
    refine Y_icmp_ne gL_law_237 (tgt := 310) (by decide) (fun _ => ?_) (fun h237 => absurd h237 (by decide))
    refine Y_push gL_law_310 (v := (0, 3)) rfl ?_
    refine Y_push gL_law_312 (v := (0, 3)) rfl ?_
    refine Y_icmp_ne gL_law_313 (tgt := 385) (by decide) (fun h313 => absurd h313 (by decide)) (fun _ => ?_)
    refine Y_push gL_law_316 (v := (1, ((0 : Nat) : Int))) rfl ?_
    refine Y_push gL_law_317 (v := (0, 3)) rfl ?_
    refine Y_push gL_law_318 (v := (0, 0)) rfl ?_
    refine Y_push gL_law_319 (v := (0, 0)) rfl ?_
    refine Y_deed (v := -2003) gL_law_320 rfl rfl rfl rfl rfl rfl (fun _ => rfl) rfl rfl (by omega) (wD3 hC hV 0 0) (q_1 hcd exC_IS) (by omega) (fun w900 hD900 hZ900 hF900 => ?_)
    have hG900 := hG.trans hF900
    refine Y_sto gL_law_323 rfl (ls' := [(1, -3), (1, ((0 : Nat) : Int)), (0, lim), (0, 1), (0, (k : Int)), (0, 8 * (k : Int)), (0, (T.1 : Int)), (0, 3), (0, -2003), u9, u10]) (st' := []) rfl ?_
    refine Y_push gL_law_325 (v := (0, -2003)) rfl ?_
    refine Y_push gL_law_327 (v := (0, -2003)) rfl ?_
    refine Y_icmp_eq gL_law_330 (tgt := 376) (by decide) (fun _ => ?_) (fun h330 => absurd h330 (by decide))
    refine Y_push gL_law_376 (v := (0, 1)) rfl ?_
    refine Y_goto gL_law_377 (tgt := 381) (by decide) ?_
    refine Y_sto gL_law_381 rfl (ls' := [(1, -3), (1, ((0 : Nat) : Int)), (0, lim), (0, 1), (0, (k : Int)), (0, 8 * (k : Int)), (0, (T.1 : Int)), (0, 3), (0, -2003), u9, u10]) (st' := []) rfl ?_
    refine Y_goto gL_law_382 (tgt := 587) (by decide) ?_
    exact Y_K (by omega) (K _ _ _ _ _ _ _ _ _ _ _ _ (SW_B hS (by omega)) (hZ900 (by omega)))
theorem tc_pin (hro : ro (-3) = some (L, f)) {k lmK : Nat} (hk : k < 70) (hS : SW (600 * (k : Int) + 600) T R D lim la) (hC : CR w T R D lim la) (K : TK ro k lmK) (hn : 0 < T.1) (u8 u9 u10 : zV) : Y ro 40 mL_law 124 [(1, -3), (1, ((0 : Nat) : Int)), (0, lim), (0, 1), (0, (k : Int)), (0, 8 * (k : Int)), (0, (T.1 : Int)), (0, 4), u8, u9, u10] [] X w (lmK + 2010) LQ := by
  have hG := frC.refl w
  have hV := hS.1
  have hT30 := hV.1.1
  refine Y_push gL_law_124 (v := (0, 4)) rfl ?_
  refine Y_if_ne gL_law_126 (tgt := 183) (by decide) (fun _ => ?_) (fun h126 => absurd h126 (by decide))
  refine Y_push gL_law_183 (v := (0, 4)) rfl ?_
  refine Y_push gL_law_185 (v := (0, 1)) rfl ?_
  refine Y_icmp_ne gL_law_186 (tgt := 234) (by decide) (fun _ => ?_) (fun h186 => absurd h186 (by decide))
  refine Y_push gL_law_234 (v := (0, 4)) rfl ?_
  refine Y_push gL_law_236 (v := (0, 2)) rfl ?_
  refine Y_icmp_ne gL_law_237 (tgt := 310) (by decide) (fun _ => ?_) (fun h237 => absurd h237 (by decide))
  refine Y_push gL_law_310 (v := (0, 4)) rfl ?_
  refine Y_push gL_law_312 (v := (0, 3)) rfl ?_
  refine Y_icmp_ne gL_law_313 (tgt := 385) (by decide) (fun _ => ?_) (fun h313 => absurd h313 (by decide))
  refine Y_push gL_law_385 (v := (0, 4)) rfl ?_
  refine Y_push gL_law_387 (v := (0, 4)) rfl ?_
  refine Y_icmp_ne gL_law_388 (tgt := 483) (by decide) (fun h388 => absurd h388 (by decide)) (fun _ => ?_)
  refine Y_push gL_law_391 (v := (0, (T.1 : Int))) rfl ?_
  refine Y_if_le gL_law_393 (tgt := 483) (by decide) (fun h393 => absurd h393 (by omega)) (fun _ => ?_)
  refine Y_push gL_law_396 (v := (1, -3)) rfl ?_
  refine Y_push gL_law_397 (v := (0, 8 * (k : Int))) rfl ?_
  refine Y_push gL_law_399 (v := (0, 1)) rfl ?_
  refine Y_iadd gL_law_400 ⟨by omega, by omega⟩ ?_
  refine Y_push gL_law_401 (v := (0, (T.1 : Int))) rfl ?_
  refine Y_pick gL_law_403 rfl rfl rfl rfl rfl rfl (fun _ => rfl) rfl rfl (by omega) (vL_pick hro ⟨by omega, by omega⟩ ⟨by omega, by omega⟩) (fun v1 h1a h1b => ?_)
  refine Y_sto gL_law_406 rfl (ls' := [(1, -3), (1, ((0 : Nat) : Int)), (0, lim), (0, 1), (0, (k : Int)), (0, 8 * (k : Int)), (0, (T.1 : Int)), (0, 4), (0, v1), u9, u10]) (st' := []) rfl ?_
  refine Y_push gL_law_408 (v := (0, (T.1 : Int))) rfl ?_
  refine Y_push gL_law_410 (v := (0, 1)) rfl ?_
  refine Y_isub gL_law_411 ⟨by omega, by omega⟩ ?_
  refine Y_push gL_law_412 (v := (0, v1)) rfl ?_
  refine Y_push gL_law_414 (v := (1, -3)) rfl ?_
  refine Y_push gL_law_415 (v := (0, 8 * (k : Int))) rfl ?_
  refine Y_push gL_law_417 (v := (0, 2)) rfl ?_
  refine Y_iadd gL_law_418 ⟨by omega, by omega⟩ ?_
  refine Y_push gL_law_419 (v := (0, 4)) rfl ?_
  refine Y_pick gL_law_420 rfl rfl rfl rfl rfl rfl (fun _ => rfl) rfl rfl (by omega) (vL_pick hro ⟨by omega, by omega⟩ ⟨by omega, by omega⟩) (fun v2 h2a h2b => ?_)
  refine Y_iadd gL_law_423 ⟨by omega, by omega⟩ ?_
  refine Y_arith gL_law_424 rfl rfl (v := [(0, (if (T.1 : Int) - 1 < v1 + v2 then (T.1 : Int) - 1 else v1 + v2))]) rfl ?_
  refine Y_sto gL_law_427 rfl (ls' := [(1, -3), (1, ((0 : Nat) : Int)), (0, lim), (0, 1), (0, (k : Int)), (0, 8 * (k : Int)), (0, (T.1 : Int)), (0, 4), (0, v1), (0, (if (T.1 : Int) - 1 < v1 + v2 then (T.1 : Int) - 1 else v1 + v2)), u10]) (st' := []) rfl ?_
  obtain ⟨to, hto⟩ : ∃ to : Int, to = (if ((T.1 : Int)) - 1 < v1 + v2 then ((T.1 : Int)) - 1 else v1 + v2) := ⟨_, rfl⟩
  have hto2 : v1 ≤ to ∧ to < T.1 := by rw [hto]; split <;> omega
  rw [← hto]
  refine Y_push gL_law_429 (v := (1, ((0 : Nat) : Int))) rfl ?_
  refine Y_push gL_law_430 (v := (0, 4)) rfl ?_
  refine Y_push gL_law_431 (v := (1, -3)) rfl ?_
  refine Y_push gL_law_432 (v := (0, 8 * (k : Int))) rfl ?_
  refine Y_push gL_law_434 (v := (0, 3)) rfl ?_
  refine Y_iadd gL_law_435 ⟨by omega, by omega⟩ ?_
  refine Y_push gL_law_436 (v := (0, 2)) rfl ?_
  refine Y_pick gL_law_437 rfl rfl rfl rfl rfl rfl (fun _ => rfl) rfl rfl (by omega) (vL_pick hro ⟨by omega, by omega⟩ ⟨by omega, by omega⟩) (fun v3 h3a h3b => ?_)
  refine Y_iadd gL_law_440 ⟨by omega, by omega⟩ ?_
  have hcd : cdPin T v1 to = 0 := by unfold cdPin; rw [if_pos ⟨⟨by omega, by omega⟩, by omega, by omega⟩, if_neg (by omega)]
  rcases (by omega : v3 = 0 ∨ v3 = 1) with e3 | e3
  · rw [show 4 + v3 = 4 by omega]
    have hpn := pnC_le T v1.toNat 1 (to.toNat + 1 - v1.toNat)
    have hS2 : SW (600 * (k : Int) + 600 + 150) (piR T v1.toNat (to.toNat + 1) 1) R D lim 0 := ⟨SV_pin hS.1 _ _ (Or.inr rfl), WB_pi hS.2.1 _ _ _, hS.2.2⟩
    have hV2 := hS2.1
    refine Y_push gL_law_441 (v := (0, v1)) rfl ?_
    refine Y_push gL_law_443 (v := (0, to)) rfl ?_
    refine Y_deed (v := (pnC T v1.toNat 1 (to.toNat + 1 - v1.toNat) : Int)) gL_law_445 rfl rfl rfl rfl rfl rfl (fun _ => rfl) rfl rfl (by omega) (wD4 hC hV v1 to) (q_0 hcd) (by omega) (fun w900 hD900 hZ900 hF900 => ?_)
    have hG900 := hG.trans hF900
    refine Y_sto gL_law_448 rfl (ls' := [(1, -3), (1, ((0 : Nat) : Int)), (0, lim), (0, 1), (0, (k : Int)), (0, 8 * (k : Int)), (0, (T.1 : Int)), (0, 4), (0, v1), (0, to), (0, (pnC T v1.toNat 1 (to.toNat + 1 - v1.toNat) : Int))]) (st' := []) rfl ?_
    refine Y_push gL_law_450 (v := (0, (pnC T v1.toNat 1 (to.toNat + 1 - v1.toNat) : Int))) rfl ?_
    refine Y_if_lt gL_law_452 (tgt := 478) (by decide) (fun h452 => absurd h452 (by omega)) (fun _ => ?_)
    refine Y_push gL_law_455 (v := (0, (pnC T v1.toNat 1 (to.toNat + 1 - v1.toNat) : Int))) rfl ?_
    refine Y_push gL_law_457 (v := (0, to)) rfl ?_
    refine Y_push gL_law_459 (v := (0, v1)) rfl ?_
    refine Y_isub gL_law_461 ⟨by omega, by omega⟩ ?_
    refine Y_push gL_law_462 (v := (0, 1)) rfl ?_
    refine Y_iadd gL_law_463 ⟨by omega, by omega⟩ ?_
    refine Y_icmp_gt gL_law_464 (tgt := 478) (by decide) (fun h464 => absurd h464 (by omega)) (fun _ => ?_)
    have hC900 := hD900 hcd
    refine Y_push gL_law_467 (v := (1, ((0 : Nat) : Int))) rfl ?_
    refine Y_callR (kd := 0) (na := 1) (M' := mX7_isLaidOut) (v := (0, 0)) gL_law_468 rfl rfl rfl rfl rfl rfl (fun _ => rfl) rfl rfl (fun _ _ => zrecv_obj rfl _ _ _) (d' := 0) (by omega) (uX7_isLaidOut hC900 hV2) rfl (fun w5 hC5 hF5 => ?_)
    have hG5 := hG900.trans hF5
    refine Y_if_ne gL_law_471 (tgt := 478) (by decide) (fun h471 => absurd h471 (by decide)) (fun _ => ?_)
    refine Y_push gL_law_474 (v := (0, 1)) rfl ?_
    refine Y_goto gL_law_475 (tgt := 479) (by decide) ?_
    refine Y_sto gL_law_479 rfl (ls' := [(1, -3), (1, ((0 : Nat) : Int)), (0, lim), (0, 1), (0, (k : Int)), (0, 8 * (k : Int)), (0, (T.1 : Int)), (0, 4), (0, v1), (0, to), (0, (pnC T v1.toNat 1 (to.toNat + 1 - v1.toNat) : Int))]) (st' := []) rfl ?_
    refine Y_goto gL_law_480 (tgt := 587) (by decide) ?_
    exact Y_K (by omega) (K _ _ _ _ _ _ _ _ _ _ _ _ (SW_B hS2 (by omega)) (by assumption))
  · rw [show 4 + v3 = 5 by omega]
    have hpn := pnC_le T v1.toNat 0 (to.toNat + 1 - v1.toNat)
    have hS2 : SW (600 * (k : Int) + 600 + 150) (piR T v1.toNat (to.toNat + 1) 0) R D lim 0 := ⟨SV_pin hS.1 _ _ (Or.inl rfl), WB_pi hS.2.1 _ _ _, hS.2.2⟩
    have hV2 := hS2.1
    refine Y_push gL_law_441 (v := (0, v1)) rfl ?_
    refine Y_push gL_law_443 (v := (0, to)) rfl ?_
    refine Y_deed (v := (pnC T v1.toNat 0 (to.toNat + 1 - v1.toNat) : Int)) gL_law_445 rfl rfl rfl rfl rfl rfl (fun _ => rfl) rfl rfl (by omega) (wD5 hC hV v1 to) (q_0 hcd) (by omega) (fun w900 hD900 hZ900 hF900 => ?_)
    have hG900 := hG.trans hF900
    refine Y_sto gL_law_448 rfl (ls' := [(1, -3), (1, ((0 : Nat) : Int)), (0, lim), (0, 1), (0, (k : Int)), (0, 8 * (k : Int)), (0, (T.1 : Int)), (0, 4), (0, v1), (0, to), (0, (pnC T v1.toNat 0 (to.toNat + 1 - v1.toNat) : Int))]) (st' := []) rfl ?_
    refine Y_push gL_law_450 (v := (0, (pnC T v1.toNat 0 (to.toNat + 1 - v1.toNat) : Int))) rfl ?_
    refine Y_if_lt gL_law_452 (tgt := 478) (by decide) (fun h452 => absurd h452 (by omega)) (fun _ => ?_)
    refine Y_push gL_law_455 (v := (0, (pnC T v1.toNat 0 (to.toNat + 1 - v1.toNat) : Int))) rfl ?_
    refine Y_push gL_law_457 (v := (0, to)) rfl ?_
    refine Y_push gL_law_459 (v := (0, v1)) rfl ?_
    refine Y_isub gL_law_461 ⟨by omega, by omega⟩ ?_
    refine Y_push gL_law_462 (v := (0, 1)) rfl ?_
    refine Y_iadd gL_law_463 ⟨by omega, by omega⟩ ?_
    refine Y_icmp_gt gL_law_464 (tgt := 478) (by decide) (fun h464 => absurd h464 (by omega)) (fun _ => ?_)
    have hC900 := hD900 hcd
    refine Y_push gL_law_467 (v := (1, ((0 : Nat) : Int))) rfl ?_
    refine Y_callR (kd := 0) (na := 1) (M' := mX7_isLaidOut) (v := (0, 0)) gL_law_468 rfl rfl rfl rfl rfl rfl (fun _ => rfl) rfl rfl (fun _ _ => zrecv_obj rfl _ _ _) (d' := 0) (by omega) (uX7_isLaidOut hC900 hV2) rfl (fun w6 hC6 hF6 => ?_)
    have hG6 := hG900.trans hF6
    refine Y_if_ne gL_law_471 (tgt := 478) (by decide) (fun h471 => absurd h471 (by decide)) (fun _ => ?_)
    refine Y_push gL_law_474 (v := (0, 1)) rfl ?_
    refine Y_goto gL_law_475 (tgt := 479) (by decide) ?_
    refine Y_sto gL_law_479 rfl (ls' := [(1, -3), (1, ((0 : Nat) : Int)), (0, lim), (0, 1), (0, (k : Int)), (0, 8 * (k : Int)), (0, (T.1 : Int)), (0, 4), (0, v1), (0, to), (0, (pnC T v1.toNat 0 (to.toNat + 1 - v1.toNat) : Int))]) (st' := []) rfl ?_
    refine Y_goto gL_law_480 (tgt := 587) (by decide) ?_
    exact Y_K (by omega) (K _ _ _ _ _ _ _ _ _ _ _ _ (SW_B hS2 (by omega)) (by assumption))
theorem tc_width (hro : ro (-3) = some (L, f)) {k lmK : Nat} (hk : k < 70) (hS : SW (600 * (k : Int) + 600) T R D lim la) (hC : CR w T R D lim la) (K : TK ro k lmK) (u8 u9 u10 : zV) : Y ro 40 mL_law 124 [(1, -3), (1, ((0 : Nat) : Int)), (0, lim), (0, 1), (0, (k : Int)), (0, 8 * (k : Int)), (0, (T.1 : Int)), (0, 5), u8, u9, u10] [] X w (lmK + 2010) LQ := by
  have hG := frC.refl w
  have hV := hS.1
  have hT30 := hV.1.1
  refine Y_push gL_law_124 (v := (0, 5)) rfl ?_
  refine Y_if_ne gL_law_126 (tgt := 183) (by decide) (fun _ => ?_) (fun h126 => absurd h126 (by decide))
  refine Y_push gL_law_183 (v := (0, 5)) rfl ?_
  refine Y_push gL_law_185 (v := (0, 1)) rfl ?_
  refine Y_icmp_ne gL_law_186 (tgt := 234) (by decide) (fun _ => ?_) (fun h186 => absurd h186 (by decide))
  refine Y_push gL_law_234 (v := (0, 5)) rfl ?_
  refine Y_push gL_law_236 (v := (0, 2)) rfl ?_
  refine Y_icmp_ne gL_law_237 (tgt := 310) (by decide) (fun _ => ?_) (fun h237 => absurd h237 (by decide))
  refine Y_push gL_law_310 (v := (0, 5)) rfl ?_
  refine Y_push gL_law_312 (v := (0, 3)) rfl ?_
  refine Y_icmp_ne gL_law_313 (tgt := 385) (by decide) (fun _ => ?_) (fun h313 => absurd h313 (by decide))
  refine Y_push gL_law_385 (v := (0, 5)) rfl ?_
  refine Y_push gL_law_387 (v := (0, 4)) rfl ?_
  refine Y_icmp_ne gL_law_388 (tgt := 483) (by decide) (fun _ => ?_) (fun h388 => absurd h388 (by decide))
  refine Y_push gL_law_483 (v := (0, 5)) rfl ?_
  refine Y_push gL_law_485 (v := (0, 5)) rfl ?_
  refine Y_icmp_ne gL_law_486 (tgt := 535) (by decide) (fun h486 => absurd h486 (by decide)) (fun _ => ?_)
  refine Y_push gL_law_489 (v := (0, lim)) rfl ?_
  refine Y_sto gL_law_490 rfl (ls' := [(1, -3), (1, ((0 : Nat) : Int)), (0, lim), (0, 1), (0, (k : Int)), (0, 8 * (k : Int)), (0, (T.1 : Int)), (0, 5), (0, lim), u9, u10]) (st' := []) rfl ?_
  refine Y_push gL_law_492 (v := (0, 13)) rfl ?_
  refine Y_push gL_law_494 (v := (1, -3)) rfl ?_
  refine Y_push gL_law_495 (v := (0, 8 * (k : Int))) rfl ?_
  refine Y_push gL_law_497 (v := (0, 1)) rfl ?_
  refine Y_iadd gL_law_498 ⟨by omega, by omega⟩ ?_
  refine Y_push gL_law_499 (v := (0, 48)) rfl ?_
  refine Y_pick gL_law_501 rfl rfl rfl rfl rfl rfl (fun _ => rfl) rfl rfl (by omega) (vL_pick hro ⟨by omega, by omega⟩ ⟨by omega, by omega⟩) (fun v1 h1a h1b => ?_)
  refine Y_iadd gL_law_504 ⟨by omega, by omega⟩ ?_
  refine Y_sto gL_law_505 rfl (ls' := [(1, -3), (1, ((0 : Nat) : Int)), (0, 13 + v1), (0, 1), (0, (k : Int)), (0, 8 * (k : Int)), (0, (T.1 : Int)), (0, 5), (0, lim), u9, u10]) (st' := []) rfl ?_
  have hcd : cdWd (13 + v1) = 0 := if_pos ⟨by omega, by omega⟩
  have hS2 : SW (600 * (k : Int) + 600 + 150) T R D (13 + v1) 0 := ⟨SV_width hS.1 ⟨by omega, by omega⟩, hS.2⟩
  have hV2 := hS2.1
  refine Y_push gL_law_506 (v := (1, ((0 : Nat) : Int))) rfl ?_
  refine Y_push gL_law_507 (v := (0, 11)) rfl ?_
  refine Y_push gL_law_509 (v := (0, 13 + v1)) rfl ?_
  refine Y_push gL_law_510 (v := (0, 0)) rfl ?_
  refine Y_deed (v := lim) gL_law_511 rfl rfl rfl rfl rfl rfl (fun _ => rfl) rfl rfl (by omega) (wD11 hC hV (13 + v1) 0) (q_0 hcd) (by omega) (fun w900 hD900 hZ900 hF900 => ?_)
  have hG900 := hG.trans hF900
  refine Y_push gL_law_514 (v := (0, lim)) rfl ?_
  refine Y_icmp_ne gL_law_516 (tgt := 530) (by decide) (fun h516 => absurd h516 (fun h => h rfl)) (fun _ => ?_)
  have hC900 := hD900 hcd
  refine Y_push gL_law_519 (v := (1, ((0 : Nat) : Int))) rfl ?_
  refine Y_callR (kd := 0) (na := 1) (M' := mX7_isLaidOut) (v := (0, 0)) gL_law_520 rfl rfl rfl rfl rfl rfl (fun _ => rfl) rfl rfl (fun _ _ => zrecv_obj rfl _ _ _) (d' := 0) (by omega) (uX7_isLaidOut hC900 hV2) rfl (fun w7 hC7 hF7 => ?_)
  have hG7 := hG900.trans hF7
  refine Y_if_ne gL_law_523 (tgt := 530) (by decide) (fun h523 => absurd h523 (by decide)) (fun _ => ?_)
  refine Y_push gL_law_526 (v := (0, 1)) rfl ?_
  refine Y_goto gL_law_527 (tgt := 531) (by decide) ?_
  refine Y_sto gL_law_531 rfl (ls' := [(1, -3), (1, ((0 : Nat) : Int)), (0, 13 + v1), (0, 1), (0, (k : Int)), (0, 8 * (k : Int)), (0, (T.1 : Int)), (0, 5), (0, lim), u9, u10]) (st' := []) rfl ?_
  refine Y_goto gL_law_532 (tgt := 587) (by decide) ?_
  exact Y_K (by omega) (K _ _ _ _ _ _ _ _ _ _ _ _ (SW_B hS2 (by omega)) (by assumption))
theorem tc_lay (hro : ro (-3) = some (L, f)) {k lmK : Nat} (hk : k < 70) (hS : SW (600 * (k : Int) + 600) T R D lim la) (hC : CR w T R D lim la) (K : TK ro k lmK) (u8 u9 u10 : zV) : Y ro 40 mL_law 124 [(1, -3), (1, ((0 : Nat) : Int)), (0, lim), (0, 1), (0, (k : Int)), (0, 8 * (k : Int)), (0, (T.1 : Int)), (0, 6), u8, u9, u10] [] X w (lmK + 2010) LQ := by
  have hG := frC.refl w
  have hV := hS.1
  have hT30 := hV.1.1
  have hS2 : SW (600 * (k : Int) + 600 + 150) T R D lim 1 := ⟨SV_lay hS.1, hS.2⟩
  have hV2 := hS2.1
  refine Y_push gL_law_124 (v := (0, 6)) rfl ?_
  refine Y_if_ne gL_law_126 (tgt := 183) (by decide) (fun _ => ?_) (fun h126 => absurd h126 (by decide))
  refine Y_push gL_law_183 (v := (0, 6)) rfl ?_
  refine Y_push gL_law_185 (v := (0, 1)) rfl ?_
  refine Y_icmp_ne gL_law_186 (tgt := 234) (by decide) (fun _ => ?_) (fun h186 => absurd h186 (by decide))
  refine Y_push gL_law_234 (v := (0, 6)) rfl ?_
  refine Y_push gL_law_236 (v := (0, 2)) rfl ?_
  refine Y_icmp_ne gL_law_237 (tgt := 310) (by decide) (fun _ => ?_) (fun h237 => absurd h237 (by decide))
  refine Y_push gL_law_310 (v := (0, 6)) rfl ?_
  refine Y_push gL_law_312 (v := (0, 3)) rfl ?_
  refine Y_icmp_ne gL_law_313 (tgt := 385) (by decide) (fun _ => ?_) (fun h313 => absurd h313 (by decide))
  refine Y_push gL_law_385 (v := (0, 6)) rfl ?_
  refine Y_push gL_law_387 (v := (0, 4)) rfl ?_
  refine Y_icmp_ne gL_law_388 (tgt := 483) (by decide) (fun _ => ?_) (fun h388 => absurd h388 (by decide))
  refine Y_push gL_law_483 (v := (0, 6)) rfl ?_
  refine Y_push gL_law_485 (v := (0, 5)) rfl ?_
  refine Y_icmp_ne gL_law_486 (tgt := 535) (by decide) (fun _ => ?_) (fun h486 => absurd h486 (by decide))
  refine Y_push gL_law_535 (v := (0, 6)) rfl ?_
  refine Y_push gL_law_537 (v := (0, 6)) rfl ?_
  refine Y_icmp_ne gL_law_539 (tgt := 577) (by decide) (fun h539 => absurd h539 (by decide)) (fun _ => ?_)
  refine Y_push gL_law_542 (v := (1, ((0 : Nat) : Int))) rfl ?_
  refine Y_push gL_law_543 (v := (0, 12)) rfl ?_
  refine Y_push gL_law_545 (v := (0, 0)) rfl ?_
  refine Y_push gL_law_546 (v := (0, 0)) rfl ?_
  refine Y_deed (v := (lcE T lim : Int)) gL_law_547 rfl rfl rfl rfl rfl rfl (fun _ => rfl) rfl rfl (by omega) (wD12 hC hV 0 0) rfl (by omega) (fun w900 hD900 hZ900 hF900 => ?_)
  have hG900 := hG.trans hF900
  refine Y_if_lt gL_law_550 (tgt := 572) (by decide) (fun h550 => absurd h550 (by omega)) (fun _ => ?_)
  have hC900 := hD900 rfl
  refine Y_push gL_law_553 (v := (1, ((0 : Nat) : Int))) rfl ?_
  refine Y_callR (kd := 0) (na := 1) (M' := mX7_isLaidOut) (v := (0, 1)) gL_law_554 rfl rfl rfl rfl rfl rfl (fun _ => rfl) rfl rfl (fun _ _ => zrecv_obj rfl _ _ _) (d' := 0) (by omega) (uX7_isLaidOut hC900 hV2) rfl (fun w8 hC8 hF8 => ?_)
  have hG8 := hG900.trans hF8
  refine Y_if_eq gL_law_557 (tgt := 572) (by decide) (fun h557 => absurd h557 (by decide)) (fun _ => ?_)
  refine Y_push gL_law_560 (v := (1, ((0 : Nat) : Int))) rfl ?_
  refine Y_push gL_law_561 (v := (0, lim)) rfl ?_
  refine Y_callY (kd := 1) (na := 2) (M' := mL_areLines) (k1 := 2000) gL_law_562 rfl rfl rfl rfl rfl rfl (fun _ => rfl) rfl rfl (fun _ _ => rfl) (d' := 37) (by omega) (tY_areLines (by assumption) hV2) (by omega) (fun o X3 w3 h => ?_)
  obtain ⟨rfl, hC3⟩ := h
  refine Y_if_eq gL_law_565 (tgt := 572) (by decide) (fun h565 => absurd h565 (by decide)) (fun _ => ?_)
  refine Y_push gL_law_568 (v := (0, 1)) rfl ?_
  refine Y_goto gL_law_569 (tgt := 573) (by decide) ?_
  refine Y_sto gL_law_573 rfl (ls' := [(1, -3), (1, ((0 : Nat) : Int)), (0, lim), (0, 1), (0, (k : Int)), (0, 8 * (k : Int)), (0, (T.1 : Int)), (0, 6), u8, u9, u10]) (st' := []) rfl ?_
  refine Y_goto gL_law_574 (tgt := 587) (by decide) ?_
  exact Y_K (by omega) (K _ _ _ _ _ _ _ _ _ _ _ _ (SW_B hS2 (by omega)) hC3)
theorem tc_acts (hro : ro (-3) = some (L, f)) {k lmK : Nat} (hk : k < 70) (hS : SW (600 * (k : Int) + 600) T R D lim la) (hC : CR w T R D lim la) (K : TK ro k lmK) {what : Int} (hw : what = 4 ∧ T.1 = 0 ∨ 7 ≤ what) (u8 u9 u10 : zV) : Y ro 40 mL_law 124 [(1, -3), (1, ((0 : Nat) : Int)), (0, lim), (0, 1), (0, (k : Int)), (0, 8 * (k : Int)), (0, (T.1 : Int)), (0, what), u8, u9, u10] [] X w (lmK + 2010) LQ := by
  have hG := frC.refl w
  have hV := hS.1
  have hT30 := hV.1.1
  have go : ∀ w : zW, CR w T R D lim la → Y ro 40 mL_law 577 [(1, -3), (1, ((0 : Nat) : Int)), (0, lim), (0, 1), (0, (k : Int)), (0, 8 * (k : Int)), (0, (T.1 : Int)), (0, what), u8, u9, u10] [] X w (lmK + 2010) LQ := by
    intro w hC
    refine Y_push gL_law_577 (v := (1, ((0 : Nat) : Int))) rfl ?_
    refine Y_push gL_law_578 (v := (1, -3)) rfl ?_
    refine Y_push gL_law_579 (v := (0, 8 * (k : Int))) rfl ?_
    refine Y_push gL_law_581 (v := (0, 1)) rfl ?_
    refine Y_iadd gL_law_582 ⟨by omega, by omega⟩ ?_
    refine Y_callY (kd := 1) (na := 3) (M' := mL_acts) (k1 := 400) gL_law_583 rfl rfl rfl rfl rfl rfl (fun _ => rfl) rfl rfl (fun _ _ => rfl) (d' := 38) (by omega) (tY_acts hro hS (by omega) hC ⟨by omega, by omega⟩) (by omega) (fun o X3 w3 h => ?_)
    obtain ⟨rfl, T3, R3, D3, la3, hC3, hS3⟩ := h
    refine Y_sto gL_law_586 rfl (ls' := [(1, -3), (1, ((0 : Nat) : Int)), (0, lim), (0, 1), (0, (k : Int)), (0, 8 * (k : Int)), (0, (T.1 : Int)), (0, what), u8, u9, u10]) (st' := []) rfl ?_
    exact Y_K (by omega) (K _ _ _ _ _ _ _ _ _ _ _ _ (SW_B hS3 (by omega)) hC3)
  by_cases h4 : what = 4
  · refine Y_push gL_law_124 (v := (0, what)) rfl ?_
    refine Y_if_ne gL_law_126 (tgt := 183) (by decide) (fun _ => ?_) (fun h126 => absurd h126 (by omega))
    refine Y_push gL_law_183 (v := (0, what)) rfl ?_
    refine Y_push gL_law_185 (v := (0, 1)) rfl ?_
    refine Y_icmp_ne gL_law_186 (tgt := 234) (by decide) (fun _ => ?_) (fun h186 => absurd h186 (by omega))
    refine Y_push gL_law_234 (v := (0, what)) rfl ?_
    refine Y_push gL_law_236 (v := (0, 2)) rfl ?_
    refine Y_icmp_ne gL_law_237 (tgt := 310) (by decide) (fun _ => ?_) (fun h237 => absurd h237 (by omega))
    refine Y_push gL_law_310 (v := (0, what)) rfl ?_
    refine Y_push gL_law_312 (v := (0, 3)) rfl ?_
    refine Y_icmp_ne gL_law_313 (tgt := 385) (by decide) (fun _ => ?_) (fun h313 => absurd h313 (by omega))
    refine Y_push gL_law_385 (v := (0, what)) rfl ?_
    refine Y_push gL_law_387 (v := (0, 4)) rfl ?_
    refine Y_icmp_ne gL_law_388 (tgt := 483) (by decide) (fun h388 => absurd h388 (by omega)) (fun _ => ?_)
    refine Y_push gL_law_391 (v := (0, (T.1 : Int))) rfl ?_
    refine Y_if_le gL_law_393 (tgt := 483) (by decide) (fun _ => ?_) (fun h393 => absurd h393 (by omega))
    refine Y_push gL_law_483 (v := (0, what)) rfl ?_
    refine Y_push gL_law_485 (v := (0, 5)) rfl ?_
    refine Y_icmp_ne gL_law_486 (tgt := 535) (by decide) (fun _ => ?_) (fun h486 => absurd h486 (by omega))
    refine Y_push gL_law_535 (v := (0, what)) rfl ?_
    refine Y_push gL_law_537 (v := (0, 6)) rfl ?_
    refine Y_icmp_ne gL_law_539 (tgt := 577) (by decide) (fun _ => ?_) (fun h539 => absurd h539 (by omega))
    exact go w hC
  · refine Y_push gL_law_124 (v := (0, what)) rfl ?_
    refine Y_if_ne gL_law_126 (tgt := 183) (by decide) (fun _ => ?_) (fun h126 => absurd h126 (by omega))
    refine Y_push gL_law_183 (v := (0, what)) rfl ?_
    refine Y_push gL_law_185 (v := (0, 1)) rfl ?_
    refine Y_icmp_ne gL_law_186 (tgt := 234) (by decide) (fun _ => ?_) (fun h186 => absurd h186 (by omega))
    refine Y_push gL_law_234 (v := (0, what)) rfl ?_
    refine Y_push gL_law_236 (v := (0, 2)) rfl ?_
    refine Y_icmp_ne gL_law_237 (tgt := 310) (by decide) (fun _ => ?_) (fun h237 => absurd h237 (by omega))
    refine Y_push gL_law_310 (v := (0, what)) rfl ?_
    refine Y_push gL_law_312 (v := (0, 3)) rfl ?_
    refine Y_icmp_ne gL_law_313 (tgt := 385) (by decide) (fun _ => ?_) (fun h313 => absurd h313 (by omega))
    refine Y_push gL_law_385 (v := (0, what)) rfl ?_
    refine Y_push gL_law_387 (v := (0, 4)) rfl ?_
    refine Y_icmp_ne gL_law_388 (tgt := 483) (by decide) (fun _ => ?_) (fun h388 => absurd h388 (by omega))
    refine Y_push gL_law_483 (v := (0, what)) rfl ?_
    refine Y_push gL_law_485 (v := (0, 5)) rfl ?_
    refine Y_icmp_ne gL_law_486 (tgt := 535) (by decide) (fun _ => ?_) (fun h486 => absurd h486 (by omega))
    refine Y_push gL_law_535 (v := (0, what)) rfl ?_
    refine Y_push gL_law_537 (v := (0, 6)) rfl ?_
    refine Y_icmp_ne gL_law_539 (tgt := 577) (by decide) (fun _ => ?_) (fun h539 => absurd h539 (by omega))
    exact go w hC
/-- the loop -/
theorem tY_loop (hro : ro (-3) = some (L, f)) : ∀ m k : Nat, k + m = 70 → ∀ (lim : Int) (u5 u6 u7 u8 u9 u10 : zV) (X : List zLE) (w : zW), LI w lim k → Y ro 40 mL_law 73 [(1, -3), (1, ((0 : Nat) : Int)), (0, lim), (0, 1), (0, (k : Int)), u5, u6, u7, u8, u9, u10] [] X w (5000 * m) LQ := by
  intro m
  induction m with
  | zero =>
    intro k hk lim u5 u6 u7 u8 u9 u10 X w hI
    obtain rfl : k = 70 := by omega
    refine Y_push gL_law_73 (v := (0, ((70 : Nat) : Int))) rfl ?_
    refine Y_push gL_law_75 (v := (0, 70)) rfl ?_
    refine Y_icmp_ge gL_law_77 (tgt := 641) (by decide) (fun _ => ?_) (fun h77 => absurd h77 (by decide))
    refine Y_push gL_law_641 (v := (0, 1)) rfl ?_
    refine Y_retXB gL_law_642 rfl (by first | exact Or.inl rfl | exact Or.inr rfl | assumption | omega) ?_
    exact rfl
  | succ m ih =>
    intro k hk lim u5 u6 u7 u8 u9 u10 X w hI
    obtain ⟨T, R, D, la, hC, hS⟩ := hI
    have hV := hS.1
    have hG := frC.refl w
    have K : TK ro k (5000 * m + 2760) := fun lim v6 v7 u8 u9 u10 X w T R D la hS hC => tY_turn (by omega) hS (fun X w hI => ih (k + 1) (by omega) lim _ _ _ _ _ _ X w hI) hC
    have body : ∀ (what : Int) (w : zW), CR w T R D lim la → 0 ≤ what → what < 12 → Y ro 40 mL_law 122 [(1, -3), (1, ((0 : Nat) : Int)), (0, lim), (0, 1), (0, (k : Int)), (0, 8 * (k : Int)), (0, (T.1 : Int)), u7, u8, u9, u10] [(0, what)] X w (5000 * m + 4990) LQ := by
      intro what w hC h0 h1
      refine Y_sto gL_law_122 rfl (ls' := [(1, -3), (1, ((0 : Nat) : Int)), (0, lim), (0, 1), (0, (k : Int)), (0, 8 * (k : Int)), (0, (T.1 : Int)), (0, what), u8, u9, u10]) (st' := []) rfl ?_
      rcases (by omega : what = 0 ∨ what = 1 ∨ what = 2 ∨ what = 3 ∨ (what = 4 ∧ 0 < T.1) ∨ what = 5 ∨ what = 6 ∨ (what = 4 ∧ T.1 = 0 ∨ 7 ≤ what)) with e | e | e | e | e | e | e | e
      · rw [e]; exact Y_K (by omega) (tc_addName hro (by omega) hS hC K _ _ _)
      · rw [e]; exact Y_K (by omega) (tc_addComment hro (by omega) hS hC K _ _ _)
      · rw [e]; exact Y_K (by omega) (tc_begin hro (by omega) hS hC K _ _ _)
      · rw [e]; exact Y_K (by omega) (tc_end hro (by omega) hS hC K _ _ _)
      · rw [e.1]; exact Y_K (by omega) (tc_pin hro (by omega) hS hC K e.2 _ _ _)
      · rw [e]; exact Y_K (by omega) (tc_width hro (by omega) hS hC K _ _ _)
      · rw [e]; exact Y_K (by omega) (tc_lay hro (by omega) hS hC K _ _ _)
      · exact Y_K (by omega) (tc_acts hro (by omega) hS hC K e _ _ _)
    refine Y_push gL_law_73 (v := (0, (k : Int))) rfl ?_
    refine Y_push gL_law_75 (v := (0, 70)) rfl ?_
    refine Y_icmp_ge gL_law_77 (tgt := 641) (by decide) (fun h77 => absurd h77 (by omega)) (fun _ => ?_)
    refine Y_push gL_law_80 (v := (0, 1)) rfl ?_
    refine Y_if_eq gL_law_81 (tgt := 641) (by decide) (fun h81 => absurd h81 (by decide)) (fun _ => ?_)
    refine Y_push gL_law_84 (v := (0, 8)) rfl ?_
    refine Y_push gL_law_86 (v := (0, (k : Int))) rfl ?_
    refine Y_imul gL_law_88 ⟨by omega, by omega⟩ ?_
    refine Y_sto gL_law_89 rfl (ls' := [(1, -3), (1, ((0 : Nat) : Int)), (0, lim), (0, 1), (0, (k : Int)), (0, 8 * (k : Int)), u6, u7, u8, u9, u10]) (st' := []) rfl ?_
    refine Y_push gL_law_91 (v := (1, ((0 : Nat) : Int))) rfl ?_
    refine Y_callR (kd := 0) (na := 1) (M' := mX7_entries) (v := (0, (T.1 : Int))) gL_law_92 rfl rfl rfl rfl rfl rfl (fun _ => rfl) rfl rfl (fun _ _ => zrecv_obj rfl _ _ _) (d' := 1) (by omega) (uX7_entries hC hV) rfl (fun w9 hC9 hF9 => ?_)
    have hG9 := hG.trans hF9
    refine Y_sto gL_law_95 rfl (ls' := [(1, -3), (1, ((0 : Nat) : Int)), (0, lim), (0, 1), (0, (k : Int)), (0, 8 * (k : Int)), (0, (T.1 : Int)), u7, u8, u9, u10]) (st' := []) rfl ?_
    refine Y_push gL_law_97 (v := (0, (k : Int))) rfl ?_
    refine Y_push gL_law_99 (v := (0, 10)) rfl ?_
    refine Y_icmp_ge gL_law_101 (tgt := 114) (by decide) (fun h101 => ?_) (fun h101 => ?_)
    · refine Y_push gL_law_114 (v := (1, -3)) rfl ?_
      refine Y_push gL_law_115 (v := (0, 8 * (k : Int))) rfl ?_
      refine Y_push gL_law_117 (v := (0, 12)) rfl ?_
      refine Y_pick gL_law_119 rfl rfl rfl rfl rfl rfl (fun _ => rfl) rfl rfl (by omega) (vL_pick hro ⟨by omega, by omega⟩ ⟨by omega, by omega⟩) (fun v1 h1a h1b => ?_)
      exact Y_K (by omega) (body _ _ (by assumption) (by omega) (by omega))
    · refine Y_push gL_law_104 (v := (1, -3)) rfl ?_
      refine Y_push gL_law_105 (v := (0, 8 * (k : Int))) rfl ?_
      refine Y_push gL_law_107 (v := (0, 4)) rfl ?_
      refine Y_pick gL_law_108 rfl rfl rfl rfl rfl rfl (fun _ => rfl) rfl rfl (by omega) (vL_pick hro ⟨by omega, by omega⟩ ⟨by omega, by omega⟩) (fun v1 h1a h1b => ?_)
      refine Y_goto gL_law_111 (tgt := 122) (by decide) ?_
      exact Y_K (by omega) (body _ _ (by assumption) (by omega) (by omega))
end
