/-! the law's acts -/
/-- a deed that was made: the text as it was stands ahead of all -/
def DOK (B : Int) (T T' : zTx) (R' : zRu) (D' : zDs) (lim : Int) : Prop := SW (B + 150) T' R' D' lim 0 ∧ 0 < D'.1 ∧ D'.1 ≤ 10 ∧ (D'.2 0).1 = T
def AQ (B lim : Int) : (Option zV ⊕ String) → List zLE → zW → Prop := fun r _ w' => ∃ o, r = .inl o ∧ o = some (0, 1) ∧ ∃ (T : zTx) (R : zRu) (D : zDs) (la : Int), CR w' T R D lim la ∧ SW (B + 300) T R D lim la
theorem SV_B {B B' : Int} {T : zTx} {R : zRu} {D : zDs} {lim la : Int} (h : SV B T R D lim la) (hb : B ≤ B') : SV B' T R D lim la := ⟨h.1, RV_le h.2.1 hb, h.2.2⟩
theorem SW_B {B B' : Int} {T : zTx} {R : zRu} {D : zDs} {lim la : Int} (h : SW B T R D lim la) (hb : B ≤ B') : SW B' T R D lim la := ⟨SV_B h.1 hb, h.2⟩
theorem SW_undo {B : Int} {T : zTx} {R : zRu} {D : zDs} {lim la : Int} (h : SW B T R D lim la) (h0 : 0 < D.1) : SW (B + 150) (D.2 0).1 (puA R (D.2 0).2 0 5) (unD D) lim 0 := ⟨SV_undo h.1 h0, h.2.2 0 h0, WD_un h.2.2⟩
section
variable {ro : zRo} {X : List zLE} {w : zW} {T : zTx} {R : zRu} {D : zDs} {lim la B : Int} {L : Nat} {f : Nat → Int}
/-- the row that was made first is the same still -/
theorem tY_again {d : Nat} {M : zM} {pc b : Nat} {ls : List zV} {w1 : zW} {Q : (Option zV ⊕ String) → List zLE → zW → Prop} (hC : CR w1 T R D lim la) (hV : SV B T R D lim la) (hB : (zLY ++ X)[b]? = some (1, 0, T.1)) (hb : 97 ≤ b) (hE : ∀ k, k < T.1 → w1 b k = codE T k) (hd : 38 ≤ d)
    (g0 : zget (zMt M) pc = some (.aload_n 0, 1)) (h0 : zpush (zcon (zMk M)) (.aload_n 0) 1 ls = some (1, ((0 : Nat) : Int)))
    {i1 i2 : Instr} (g1 : zget (zMt M) (pc + 1) = some (i1, 3)) (a1 : zpush (zcon (zMk M)) i1 3 ls = none) (a2 : ∀ st, zstore i1 3 ls st = none) (a3 : zarith (zmth (zMk M)) i1 3 [(1, ((0 : Nat) : Int)), (1, (b : Int))] = none) (a4 : ∀ st, zjump i1 3 (pc + 1) st = none) (a5 : ∀ st, zend (zMr M) i1 3 st = none) (a6 : zthr (zexn (zMk M)) (zMt M) (pc + 1) i1 3 = none) (a7 : ∀ st S, zheap (zfld (zMk M)) (zcls (zMk M)) zfty (zref (zMk M)) (zstc (zMk M)) (M.1.name == "<init>") ro i1 3 st S = none) (ai : zinv (zMk M) i1 3 = some (1, 1, mL_entries))
    (g2 : zget (zMt M) (pc + 4) = some (i2, 3)) (b1 : zpush (zcon (zMk M)) i2 3 ls = none) (b2 : ∀ st, zstore i2 3 ls st = none) (b3 : ∀ y : Int, zarith (zmth (zMk M)) i2 3 [(1, y), (1, (b : Int))] = none) (b4 : ∀ st, zjump i2 3 (pc + 4) st = none) (b5 : ∀ st, zend (zMr M) i2 3 st = none) (b6 : zthr (zexn (zMk M)) (zMt M) (pc + 4) i2 3 = none) (b7 : ∀ st S, zheap (zfld (zMk M)) (zcls (zMk M)) zfty (zref (zMk M)) (zstc (zMk M)) (M.1.name == "<init>") ro i2 3 st S = none) (bi : zinv (zMk M) i2 3 = some (1, 2, mL_areAlike)) {Kb : Nat} (hK : 130 ≤ Kb)
    (K : ∀ (X' : List zLE) (w' : zW), CR w' T R D lim la → Y ro d M (pc + 4 + 3) ls [(0, 1)] X' w' (Kb - 130) Q) : Y ro d M pc ls [(1, (b : Int))] X w1 Kb Q := by
  have hbl : b < 97 + X.length := by
    have := (List.getElem?_eq_some_iff.mp hB).1
    rw [List.length_append, zLY_len] at this
    exact this
  refine Y_push g0 (v := (1, ((0 : Nat) : Int))) h0 ?_
  refine Y_callY (kd := 1) (na := 1) (M' := mL_entries) (k1 := 130) g1 a1 (a2 _) a3 (a4 _) (a5 _) a6 (a7 _) ai rfl (fun _ _ => rfl) (d' := 37) (by omega) (tY_entries hC hV) hK (fun o X9 w9 h => ?_)
  obtain ⟨rfl, rfl, hC9, hE9, hF9⟩ := h
  refine Y_callY (kd := 1) (na := 2) (M' := mL_areAlike) (k1 := 0) g2 b1 (b2 _) (b3 _) (b4 _) (b5 _) b6 (b7 _) bi rfl (fun _ _ => rfl) (d' := 0) (by omega) (tY_areAlike (a := b) (b := 97 + X.length) (n := T.1) (get_old hB) (get_new X (1, 0, T.1)) (by have := hV.1.1; omega) (fun k hk => ?_)) (Nat.zero_le _) (fun o X8 w8 h => ?_)
  · rw [hF9 b k hb hbl, hE k hk, hE9 k hk]
  · obtain ⟨rfl, rfl, rfl⟩ := h
    exact Y_K (k := Kb - 130) (by omega) (K _ _ hC9)
theorem tY_actsTail {T' : zTx} {R' : zRu} {D' : zDs} {b : Nat} {what v6 v7 u : Int} {cd : Nat} (hro : ro (-3) = some (L, f)) (hV : SW B T R D lim la) (hB : B ≤ 800000) (hC : CR w T R D lim la) (hX : (zLY ++ X)[b]? = some (1, 0, T.1)) (hb : 97 ≤ b) (hE : ∀ k, k < T.1 → w b k = codE T k) {i : Int} (hi : 0 ≤ i ∧ i ≤ 1000)
    (H : Dee ro w what v6 v7 cd (fun w' => CR w' T' R' D' lim 0) (fun w' => CR w' T R D lim la) u) (h1 : cd ≠ 0 → u < 0) (h0 : cd = 0 → 0 ≤ u ∧ DOK B T T' R' D' lim) (u8 u9 u10 : zV) : Y ro 38 mL_acts 107 [(1, ((0 : Nat) : Int)), (1, -3), (0, i), (1, (b : Int)), (0, (T.1 : Int)), (0, what), (0, v6), (0, v7), u8, u9, u10] [] X w 270 (AQ B lim) := by
  have hG := frC.refl w
  by_cases hc : cd = 0
  · obtain ⟨hu, ⟨hS', hd1, hd2, hd3⟩⟩ := h0 hc
    have fin : ∀ (u8 u10 : zV) (X : List zLE) (w : zW) (T2 : zTx) (R2 : zRu) (D2 : zDs), CR w T2 R2 D2 lim 0 → SW (B + 300) T2 R2 D2 lim 0 → Y ro 38 mL_acts 210 [(1, ((0 : Nat) : Int)), (1, -3), (0, i), (1, (b : Int)), (0, (T.1 : Int)), (0, what), (0, v6), (0, v7), u8, (0, 1), u10] [] X w 0 (AQ B lim) := by
      intro u8 u10 X w T2 R2 D2 hC2 hS2
      refine Y_push gL_acts_210 (v := (0, 1)) rfl ?_
      refine Y_retXB gL_acts_212 rfl (by first | exact Or.inl rfl | exact Or.inr rfl | assumption | omega) ?_
      exact ⟨_, rfl, rfl, T2, R2, D2, 0, hC2, hS2⟩
    refine Y_push gL_acts_107 (v := (1, ((0 : Nat) : Int))) rfl ?_
    refine Y_push gL_acts_108 (v := (0, what)) rfl ?_
    refine Y_push gL_acts_110 (v := (0, v6)) rfl ?_
    refine Y_push gL_acts_112 (v := (0, v7)) rfl ?_
    refine Y_deed (v := u) gL_acts_114 rfl rfl rfl rfl rfl rfl (fun _ => rfl) rfl rfl (by omega) (H) rfl (by omega) (fun w900 hD900 hZ900 hF900 => ?_)
    have hG900 := hG.trans hF900
    refine Y_sto gL_acts_117 rfl (ls' := [(1, ((0 : Nat) : Int)), (1, -3), (0, i), (1, ((b : Nat) : Int)), (0, (T.1 : Int)), (0, what), (0, v6), (0, v7), (0, u), u9, u10]) (st' := []) rfl ?_
    refine Y_push gL_acts_119 (v := (0, u)) rfl ?_
    refine Y_if_ge gL_acts_121 (tgt := 133) (by decide) (fun _ => ?_) (fun h121 => absurd h121 (by omega))
    have hC900 := hD900 hc
    have hV900 := hS'.1
    refine Y_push gL_acts_133 (v := (1, ((0 : Nat) : Int))) rfl ?_
    refine Y_callR (kd := 0) (na := 1) (M' := mX7_isLaidOut) (v := (0, 0)) gL_acts_134 rfl rfl rfl rfl rfl rfl (fun _ => rfl) rfl rfl (fun _ _ => zrecv_obj rfl _ _ _) (d' := 0) (by omega) (uX7_isLaidOut hC900 hV900) rfl (fun w901 hC901 hF901 => ?_)
    refine Y_if_ne gL_acts_137 (tgt := 144) (by decide) (fun h137 => absurd h137 (by decide)) (fun _ => ?_)
    refine Y_push gL_acts_140 (v := (0, 1)) rfl ?_
    refine Y_goto gL_acts_141 (tgt := 145) (by decide) ?_
    refine Y_sto gL_acts_145 rfl (ls' := [(1, ((0 : Nat) : Int)), (1, -3), (0, i), (1, ((b : Nat) : Int)), (0, (T.1 : Int)), (0, what), (0, v6), (0, v7), (0, u), (0, 1), u10]) (st' := []) rfl ?_
    refine Y_push gL_acts_147 (v := (1, -3)) rfl ?_
    refine Y_push gL_acts_148 (v := (0, i)) rfl ?_
    refine Y_push gL_acts_149 (v := (0, 3)) rfl ?_
    refine Y_iadd gL_acts_150 ⟨by omega, by omega⟩ ?_
    refine Y_push gL_acts_151 (v := (0, 3)) rfl ?_
    refine Y_pick gL_acts_152 rfl rfl rfl rfl rfl rfl (fun _ => rfl) rfl rfl (by omega) (vL_pick hro ⟨by omega, by omega⟩ ⟨by omega, by omega⟩) (fun v1 h1a h1b => ?_)
    refine Y_if_ne gL_acts_155 (tgt := 210) (by decide) (fun h155 => ?_) (fun h155 => ?_)
    · exact Y_K (by omega) (fin _ _ _ _ _ _ _ hC901 (SW_B hS' (by omega)))
    · have hEf : ∀ k, k < T.1 → w901 b k = codE T k := fun k hk => (hF901 b k hb).trans ((hG900 b k hb).trans (hE k hk))
      have hG901 := frC.refl w901
      have hSu := SW_undo hS' hd1
      have hVu := hSu.1
      rw [hd3] at hVu
      refine Y_push gL_acts_158 (v := (1, ((0 : Nat) : Int))) rfl ?_
      refine Y_push gL_acts_159 (v := (0, 10)) rfl ?_
      refine Y_push gL_acts_161 (v := (0, 0)) rfl ?_
      refine Y_push gL_acts_162 (v := (0, 0)) rfl ?_
      refine Y_deed (v := (D'.1 : Int) - 1) gL_acts_163 rfl rfl rfl rfl rfl rfl (fun _ => rfl) rfl rfl (by omega) (wD10 hC901 hV900 (by omega) 0 0) (q_0 (show cdUn D' = 0 from if_neg (by omega))) (by omega) (fun w902 hD902 hZ902 hF902 => ?_)
      have hG902 := hG901.trans hF902
      refine Y_sto gL_acts_166 rfl (ls' := [(1, ((0 : Nat) : Int)), (1, -3), (0, i), (1, ((b : Nat) : Int)), (0, (T.1 : Int)), (0, what), (0, v6), (0, v7), (0, u), (0, 1), (0, (D'.1 : Int) - 1)]) (st' := []) rfl ?_
      refine Y_push gL_acts_168 (v := (0, 1)) rfl ?_
      refine Y_if_eq gL_acts_170 (tgt := 207) (by decide) (fun h170 => absurd h170 (by decide)) (fun _ => ?_)
      refine Y_push gL_acts_173 (v := (0, (D'.1 : Int) - 1)) rfl ?_
      refine Y_if_lt gL_acts_175 (tgt := 207) (by decide) (fun h175 => absurd h175 (by omega)) (fun _ => ?_)
      refine Y_push gL_acts_178 (v := (0, (D'.1 : Int) - 1)) rfl ?_
      refine Y_push gL_acts_180 (v := (0, 10)) rfl ?_
      refine Y_icmp_ge gL_acts_182 (tgt := 207) (by decide) (fun h182 => absurd h182 (by omega)) (fun _ => ?_)
      refine Y_push gL_acts_185 (v := (1, ((b : Nat) : Int))) rfl ?_
      have hC902 := hD902 (show cdUn D' = 0 from if_neg (by omega))
      rw [hd3] at hC902
      refine tY_again hC902 hVu hX hb (fun k hk => (hG902 b k hb).trans (hEf k hk)) (by omega) gL_acts_186 rfl gL_acts_187 rfl (fun _ => rfl) rfl (fun _ => rfl) (fun _ => rfl) rfl (fun _ _ => rfl) rfl gL_acts_190 rfl (fun _ => rfl) (fun _ => rfl) (fun _ => rfl) (fun _ => rfl) rfl (fun _ _ => rfl) rfl (by omega) (fun X3 w3 hC3 => ?_)
      have hG3 := frC.refl w3
      refine Y_if_eq gL_acts_193 (tgt := 207) (by decide) (fun h => absurd h (by decide)) (fun _ => ?_)
      refine Y_push gL_acts_196 (v := (1, ((0 : Nat) : Int))) rfl ?_
      refine Y_callR (kd := 0) (na := 1) (M' := mX7_isLaidOut) (v := (0, 0)) gL_acts_197 rfl rfl rfl rfl rfl rfl (fun _ => rfl) rfl rfl (fun _ _ => zrecv_obj rfl _ _ _) (d' := 0) (by omega) (uX7_isLaidOut hC3 hVu) rfl (fun w4 hC4 hF4 => ?_)
      refine Y_if_ne gL_acts_200 (tgt := 207) (by decide) (fun h200 => absurd h200 (by decide)) (fun _ => ?_)
      refine Y_push gL_acts_203 (v := (0, 1)) rfl ?_
      refine Y_goto gL_acts_204 (tgt := 208) (by decide) ?_
      refine Y_sto gL_acts_208 rfl (ls' := [(1, ((0 : Nat) : Int)), (1, -3), (0, i), (1, ((b : Nat) : Int)), (0, (T.1 : Int)), (0, what), (0, v6), (0, v7), (0, u), (0, 1), (0, (D'.1 : Int) - 1)]) (st' := []) rfl ?_
      rw [hd3] at hSu
      exact Y_K (by omega) (fin _ _ _ _ _ _ _ hC4 (SW_B hSu (by omega)))
  · have hu := h1 hc
    refine Y_push gL_acts_107 (v := (1, ((0 : Nat) : Int))) rfl ?_
    refine Y_push gL_acts_108 (v := (0, what)) rfl ?_
    refine Y_push gL_acts_110 (v := (0, v6)) rfl ?_
    refine Y_push gL_acts_112 (v := (0, v7)) rfl ?_
    refine Y_deed (v := u) gL_acts_114 rfl rfl rfl rfl rfl rfl (fun _ => rfl) rfl rfl (by omega) (H) rfl (by omega) (fun w900 hD900 hZ900 hF900 => ?_)
    have hG900 := hG.trans hF900
    refine Y_sto gL_acts_117 rfl (ls' := [(1, ((0 : Nat) : Int)), (1, -3), (0, i), (1, ((b : Nat) : Int)), (0, (T.1 : Int)), (0, what), (0, v6), (0, v7), (0, u), u9, u10]) (st' := []) rfl ?_
    refine Y_push gL_acts_119 (v := (0, u)) rfl ?_
    refine Y_if_ge gL_acts_121 (tgt := 133) (by decide) (fun h121 => absurd h121 (by omega)) (fun _ => ?_)
    refine Y_push gL_acts_124 (v := (1, ((b : Nat) : Int))) rfl ?_
    have hC900 := hZ900 hc
    refine tY_again hC900 hV.1 hX hb (fun k hk => (hG900 b k hb).trans (hE k hk)) (by omega) gL_acts_125 rfl gL_acts_126 rfl (fun _ => rfl) rfl (fun _ => rfl) (fun _ => rfl) rfl (fun _ _ => rfl) rfl gL_acts_129 rfl (fun _ => rfl) (fun _ => rfl) (fun _ => rfl) (fun _ => rfl) rfl (fun _ _ => rfl) rfl (by omega) (fun X3 w3 hC3 => ?_)
    refine Y_retXB gL_acts_132 rfl (Or.inr rfl) ?_
    exact ⟨_, rfl, rfl, T, R, D, la, hC3, SW_B hV (by omega)⟩
end
