/-! the law's areRules -/
def QT (T : zTx) (R : zRu) (D : zDs) (lim la : Int) : (Option zV ⊕ String) → List zLE → zW → Prop := fun r _ w' => ∃ o, r = .inl o ∧ o = some (0, 1) ∧ CR w' T R D lim la
theorem cdRule_0 {r : Nat} (h : r < 5) : cdRule (r : Int) = 0 := if_pos ⟨by omega, by omega⟩
theorem cdRule_1 {r : Int} (h : ¬ (0 ≤ r ∧ r < 5)) : cdRule r = 1 := if_neg h
section
variable {ro : zRo} {X : List zLE} {w : zW} {T : zTx} {R : zRu} {D : zDs} {lim la B : Int}
theorem tY_areRules (hC : CR w T R D lim la) (hV : SV B T R D lim la) : Y ro 37 mL_areRules 0 (zargs (zMl mL_areRules) [(1, ((0 : Nat) : Int))]) [] X w 60 (QT T R D lim la) := by
  have hRV := hV.2.1
  have loop : ∀ m k : Nat, k + m = 5 → ∀ (u4 u5 : zV) (w : zW), CR w T R D lim la → Y ro 37 mL_areRules 62 [(1, ((0 : Nat) : Int)), (0, 1), (0, snI (fun k => raS R (k : Int) 5) k), (0, (k : Int)), u4, u5] [] X w (10 * m) (QT T R D lim la) := by
    intro m
    induction m with
    | zero =>
      intro k hk u4 u5 w hC
      obtain rfl : k = 5 := by omega
      rw [snI_31]
      refine Y_push gL_areRules_62 (v := (0, ((5 : Nat) : Int))) rfl ?_
      refine Y_push gL_areRules_63 (v := (0, 5)) rfl ?_
      refine Y_icmp_ge gL_areRules_64 (tgt := 202) (by decide) (fun _ => ?_) (fun h64 => absurd h64 (by omega))
      refine Y_push gL_areRules_202 (v := (0, 1)) rfl ?_
      refine Y_if_eq gL_areRules_203 (tgt := 216) (by decide) (fun h203 => absurd h203 (by decide)) (fun _ => ?_)
      refine Y_push gL_areRules_206 (v := (0, 31)) rfl ?_
      refine Y_push gL_areRules_207 (v := (0, 31)) rfl ?_
      refine Y_icmp_ne gL_areRules_209 (tgt := 216) (by decide) (fun h209 => absurd h209 (by decide)) (fun _ => ?_)
      refine Y_push gL_areRules_212 (v := (0, 1)) rfl ?_
      refine Y_goto gL_areRules_213 (tgt := 217) (by decide) ?_
      refine Y_retXB gL_areRules_217 rfl (by first | exact Or.inl rfl | exact Or.inr rfl | assumption | omega) ?_
      exact ⟨_, rfl, rfl, hC⟩
    | succ m ih =>
      intro k hk u4 u5 w hC
      have hG := frC.refl w
      obtain ⟨r, hr, er, hrk⟩ := ra_ok R (k := (k : Int)) ⟨by omega, by omega⟩
      have hcd := cdRank_0 (R := R) (k := (k : Int)) ⟨by omega, by omega⟩
      have hw := hRV.1 r hr
      have hun := hRV.2.1 r hr
      have last : ∀ (v5 : Int) (w : zW), CR w T R D lim la → Y ro 37 mL_areRules 179 [(1, ((0 : Nat) : Int)), (0, 1), (0, snI (fun k => raS R (k : Int) 5) (k + 1)), (0, (k : Int)), (0, (r : Int)), (0, v5)] [] X w (10 * m) (QT T R D lim la) := by
        intro v5 w hC
        have hG := frC.refl w
        refine Y_push gL_areRules_179 (v := (1, ((0 : Nat) : Int))) rfl ?_
        refine Y_push gL_areRules_180 (v := (0, (r : Int))) rfl ?_
        refine Y_callR (kd := 0) (na := 2) (M' := mX7_undone) (v := (2, R.2.1 r)) gL_areRules_182 rfl rfl rfl rfl rfl rfl (fun _ => rfl) rfl rfl (fun _ _ => zrecv_obj rfl _ _ _) (d' := 2) (by omega) (uX7_undone hC hV (r : Int)) (ans_0 (cdRule_0 hr)) (fun w1 hC1 hF1 => ?_)
        have hG1 := hG.trans hF1
        refine Y_push gL_areRules_185 (v := (2, 0)) rfl ?_
        refine Y_arith gL_areRules_186 rfl rfl (v := [(0, (if R.2.1 r < 0 then -1 else if R.2.1 r = 0 then 0 else 1))]) rfl ?_
        refine Y_if_lt gL_areRules_187 (tgt := 194) (by decide) (fun h187 => absurd h187 (by rw [if_neg (show ¬ R.2.1 r < 0 by omega)]; split <;> omega)) (fun _ => ?_)
        refine Y_push gL_areRules_190 (v := (0, 1)) rfl ?_
        refine Y_goto gL_areRules_191 (tgt := 195) (by decide) ?_
        refine Y_sto gL_areRules_195 rfl (ls' := [(1, ((0 : Nat) : Int)), (0, 1), (0, snI (fun k => raS R (k : Int) 5) (k + 1)), (0, (k : Int)), (0, (r : Int)), (0, v5)]) (st' := []) rfl ?_
        refine Y_iinc gL_areRules_196 rfl ⟨by omega, by omega⟩ (ls' := [(1, ((0 : Nat) : Int)), (0, 1), (0, snI (fun k => raS R (k : Int) 5) (k + 1)), (0, (k : Int) + 1), (0, (r : Int)), (0, v5)]) rfl ?_
        refine Y_goto gL_areRules_199 (tgt := 62) (by decide) ?_
        exact ih (k + 1) (by omega) _ _ _ (by assumption)
      have rest : ∀ (v5 : Int) (w : zW), CR w T R D lim la → (k ≠ 0 → ∃ s : Nat, s < 5 ∧ v5 = (s : Int) ∧ ahR R s r) → Y ro 37 mL_areRules 97 [(1, ((0 : Nat) : Int)), (0, 1), (0, snI (fun k => raS R (k : Int) 5) k), (0, (k : Int)), (0, (r : Int)), u5] [(0, v5)] X w (10 * m + 8) (QT T R D lim la) := by
        intro v5 w hC h5
        have hG := frC.refl w
        have esn : (Int32.ofInt (snI (fun k => raS R (k : Int) 5) k) ||| Int32.ofInt ((Int32.ofInt 1 <<< (Int32.ofInt (r : Int) &&& 31)).toInt)).toInt = snI (fun k => raS R (k : Int) 5) (k + 1) := by
          rw [← er]; rfl
        refine Y_sto gL_areRules_97 rfl (ls' := [(1, ((0 : Nat) : Int)), (0, 1), (0, snI (fun k => raS R (k : Int) 5) k), (0, (k : Int)), (0, (r : Int)), (0, v5)]) (st' := []) rfl ?_
        refine Y_push gL_areRules_99 (v := (0, snI (fun k => raS R (k : Int) 5) k)) rfl ?_
        refine Y_push gL_areRules_100 (v := (0, 1)) rfl ?_
        refine Y_push gL_areRules_101 (v := (0, (r : Int))) rfl ?_
        refine Y_arith gL_areRules_103 rfl rfl (v := [(0, (Int32.ofInt 1 <<< (Int32.ofInt (r : Int) &&& 31)).toInt), (0, snI (fun k => raS R (k : Int) 5) k)]) rfl ?_
        refine Y_arith gL_areRules_104 rfl rfl (v := [(0, snI (fun k => raS R (k : Int) 5) (k + 1))]) (by rw [← esn]; rfl) ?_
        refine Y_sto gL_areRules_105 rfl (ls' := [(1, ((0 : Nat) : Int)), (0, 1), (0, snI (fun k => raS R (k : Int) 5) (k + 1)), (0, (k : Int)), (0, (r : Int)), (0, v5)]) (st' := []) rfl ?_
        refine Y_push gL_areRules_106 (v := (1, ((0 : Nat) : Int))) rfl ?_
        refine Y_push gL_areRules_107 (v := (0, 13)) rfl ?_
        refine Y_push gL_areRules_109 (v := (0, (r : Int))) rfl ?_
        refine Y_ask (v := R.1 r) gL_areRules_111 rfl rfl rfl rfl rfl rfl (fun _ => rfl) rfl rfl (by omega) (wA13 hC hV (r : Int)) (q_0 (cdRule_0 hr)) (by omega) (fun w2 hC2 hF2 => ?_)
        have hG2 := hG.trans hF2
        refine Y_if_lt gL_areRules_114 (tgt := 194) (by decide) (fun h114 => absurd h114 (by omega)) (fun _ => ?_)
        refine Y_push gL_areRules_117 (v := (1, ((0 : Nat) : Int))) rfl ?_
        refine Y_push gL_areRules_118 (v := (0, 13)) rfl ?_
        refine Y_push gL_areRules_120 (v := (0, (r : Int))) rfl ?_
        refine Y_ask (v := R.1 r) gL_areRules_122 rfl rfl rfl rfl rfl rfl (fun _ => rfl) rfl rfl (by omega) (wA13 hC2 hV (r : Int)) (q_0 (cdRule_0 hr)) (by omega) (fun w3 hC3 hF3 => ?_)
        have hG3 := hG2.trans hF3
        refine Y_push gL_areRules_125 (v := (0, 99)) rfl ?_
        refine Y_icmp_gt gL_areRules_127 (tgt := 194) (by decide) (fun h127 => absurd h127 (by omega)) (fun _ => ?_)
        refine Y_push gL_areRules_130 (v := (0, (k : Int))) rfl ?_
        refine Y_if_eq gL_areRules_131 (tgt := 179) (by decide) (fun h131 => ?_) (fun h131 => ?_)
        · exact Y_K (by omega) (last _ _ (by assumption))
        · obtain ⟨s, hs, rfl, ha⟩ := h5 (by omega)
          have hw2 := hRV.1 s hs
          unfold ahR at ha
          refine Y_push gL_areRules_134 (v := (1, ((0 : Nat) : Int))) rfl ?_
          refine Y_push gL_areRules_135 (v := (0, 13)) rfl ?_
          refine Y_push gL_areRules_137 (v := (0, (s : Int))) rfl ?_
          refine Y_ask (v := R.1 s) gL_areRules_139 rfl rfl rfl rfl rfl rfl (fun _ => rfl) rfl rfl (by omega) (wA13 hC3 hV (s : Int)) (q_0 (cdRule_0 hs)) (by omega) (fun w4 hC4 hF4 => ?_)
          have hG4 := hG3.trans hF4
          refine Y_push gL_areRules_142 (v := (1, ((0 : Nat) : Int))) rfl ?_
          refine Y_push gL_areRules_143 (v := (0, 13)) rfl ?_
          refine Y_push gL_areRules_145 (v := (0, (r : Int))) rfl ?_
          refine Y_ask (v := R.1 r) gL_areRules_147 rfl rfl rfl rfl rfl rfl (fun _ => rfl) rfl rfl (by omega) (wA13 hC4 hV (r : Int)) (q_0 (cdRule_0 hr)) (by omega) (fun w5 hC5 hF5 => ?_)
          have hG5 := hG4.trans hF5
          refine Y_icmp_gt gL_areRules_150 (tgt := 179) (by decide) (fun h150 => ?_) (fun h150 => ?_)
          · exact Y_K (by omega) (last _ _ (by assumption))
          · refine Y_push gL_areRules_153 (v := (1, ((0 : Nat) : Int))) rfl ?_
            refine Y_push gL_areRules_154 (v := (0, 13)) rfl ?_
            refine Y_push gL_areRules_156 (v := (0, (s : Int))) rfl ?_
            refine Y_ask (v := R.1 s) gL_areRules_158 rfl rfl rfl rfl rfl rfl (fun _ => rfl) rfl rfl (by omega) (wA13 hC5 hV (s : Int)) (q_0 (cdRule_0 hs)) (by omega) (fun w6 hC6 hF6 => ?_)
            have hG6 := hG5.trans hF6
            refine Y_push gL_areRules_161 (v := (1, ((0 : Nat) : Int))) rfl ?_
            refine Y_push gL_areRules_162 (v := (0, 13)) rfl ?_
            refine Y_push gL_areRules_164 (v := (0, (r : Int))) rfl ?_
            refine Y_ask (v := R.1 r) gL_areRules_166 rfl rfl rfl rfl rfl rfl (fun _ => rfl) rfl rfl (by omega) (wA13 hC6 hV (r : Int)) (q_0 (cdRule_0 hr)) (by omega) (fun w7 hC7 hF7 => ?_)
            have hG7 := hG6.trans hF7
            refine Y_icmp_ne gL_areRules_169 (tgt := 194) (by decide) (fun h169 => absurd h169 (by omega)) (fun _ => ?_)
            refine Y_push gL_areRules_172 (v := (0, (s : Int))) rfl ?_
            refine Y_push gL_areRules_174 (v := (0, (r : Int))) rfl ?_
            refine Y_icmp_ge gL_areRules_176 (tgt := 194) (by decide) (fun h176 => absurd h176 (by omega)) (fun _ => ?_)
            exact Y_K (by omega) (last _ _ (by assumption))
      refine Y_push gL_areRules_62 (v := (0, (k : Int))) rfl ?_
      refine Y_push gL_areRules_63 (v := (0, 5)) rfl ?_
      refine Y_icmp_ge gL_areRules_64 (tgt := 202) (by decide) (fun h64 => absurd h64 (by omega)) (fun _ => ?_)
      refine Y_push gL_areRules_67 (v := (0, 1)) rfl ?_
      refine Y_if_eq gL_areRules_68 (tgt := 202) (by decide) (fun h68 => absurd h68 (by decide)) (fun _ => ?_)
      refine Y_push gL_areRules_71 (v := (1, ((0 : Nat) : Int))) rfl ?_
      refine Y_push gL_areRules_72 (v := (0, 14)) rfl ?_
      refine Y_push gL_areRules_74 (v := (0, (k : Int))) rfl ?_
      refine Y_ask (v := (r : Int)) gL_areRules_75 rfl rfl rfl rfl rfl rfl (fun _ => rfl) rfl rfl (by omega) (wA14 hC hV (k : Int)) ((q_0 hcd).trans er) (by omega) (fun w8 hC8 hF8 => ?_)
      have hG8 := hG.trans hF8
      refine Y_sto gL_areRules_78 rfl (ls' := [(1, ((0 : Nat) : Int)), (0, 1), (0, snI (fun k => raS R (k : Int) 5) k), (0, (k : Int)), (0, (r : Int)), u5]) (st' := []) rfl ?_
      refine Y_push gL_areRules_80 (v := (0, (k : Int))) rfl ?_
      refine Y_if_ne gL_areRules_81 (tgt := 88) (by decide) (fun h81 => ?_) (fun h81 => ?_)
      · obtain ⟨s, hs, es, hsk⟩ := ra_ok R (k := (k : Int) - 1) ⟨by omega, by omega⟩
        have hcd2 := cdRank_0 (R := R) (k := (k : Int) - 1) ⟨by omega, by omega⟩
        refine Y_push gL_areRules_88 (v := (1, ((0 : Nat) : Int))) rfl ?_
        refine Y_push gL_areRules_89 (v := (0, 14)) rfl ?_
        refine Y_push gL_areRules_91 (v := (0, (k : Int))) rfl ?_
        refine Y_push gL_areRules_92 (v := (0, 1)) rfl ?_
        refine Y_isub gL_areRules_93 ⟨by omega, by omega⟩ ?_
        refine Y_ask (v := (s : Int)) gL_areRules_94 rfl rfl rfl rfl rfl rfl (fun _ => rfl) rfl rfl (by omega) (wA14 hC8 hV ((k : Int) - 1)) ((q_0 hcd2).trans es) (by omega) (fun w9 hC9 hF9 => ?_)
        have hG9 := hG8.trans hF9
        exact Y_K (by omega) (rest _ _ (by assumption) (fun _ => ⟨s, hs, rfl, ra_ord hs hr hsk hrk⟩))
      · refine Y_push gL_areRules_84 (v := (0, 0)) rfl ?_
        refine Y_goto gL_areRules_85 (tgt := 97) (by decide) ?_
        exact Y_K (by omega) (rest _ _ (by assumption) (fun h => absurd (by omega) h))
  have hG := frC.refl w
  show Y ro 37 mL_areRules 0 [(1, ((0 : Nat) : Int)), (9, 0), (9, 0), (9, 0), (9, 0), (9, 0)] [] X w 60 _
  refine Y_push gL_areRules_0 (v := (1, ((0 : Nat) : Int))) rfl ?_
  refine Y_push gL_areRules_1 (v := (0, 13)) rfl ?_
  refine Y_push gL_areRules_3 (v := (0, 5)) rfl ?_
  refine Y_ask (v := -2002) gL_areRules_4 rfl rfl rfl rfl rfl rfl (fun _ => rfl) rfl rfl (by omega) (wA13 hC hV 5) (q_1 (cdRule_1 (by decide)) exC_IA) (by omega) (fun w10 hC10 hF10 => ?_)
  have hG10 := hG.trans hF10
  refine Y_push gL_areRules_7 (v := (0, -2002)) rfl ?_
  refine Y_icmp_ne gL_areRules_10 (tgt := 56) (by decide) (fun h10 => absurd h10 (by decide)) (fun _ => ?_)
  refine Y_push gL_areRules_13 (v := (1, ((0 : Nat) : Int))) rfl ?_
  refine Y_push gL_areRules_14 (v := (0, 13)) rfl ?_
  refine Y_push gL_areRules_16 (v := (0, -1)) rfl ?_
  refine Y_ask (v := -2002) gL_areRules_17 rfl rfl rfl rfl rfl rfl (fun _ => rfl) rfl rfl (by omega) (wA13 hC10 hV (-1)) (q_1 (cdRule_1 (by decide)) exC_IA) (by omega) (fun w11 hC11 hF11 => ?_)
  have hG11 := hG10.trans hF11
  refine Y_push gL_areRules_20 (v := (0, -2002)) rfl ?_
  refine Y_icmp_ne gL_areRules_23 (tgt := 56) (by decide) (fun h23 => absurd h23 (by decide)) (fun _ => ?_)
  refine Y_push gL_areRules_26 (v := (1, ((0 : Nat) : Int))) rfl ?_
  refine Y_push gL_areRules_27 (v := (0, 14)) rfl ?_
  refine Y_push gL_areRules_29 (v := (0, 5)) rfl ?_
  refine Y_ask (v := -2005) gL_areRules_30 rfl rfl rfl rfl rfl rfl (fun _ => rfl) rfl rfl (by omega) (wA14 hC11 hV 5) (q_1 (cdRank_1 (by decide)) exC_NS) (by omega) (fun w12 hC12 hF12 => ?_)
  have hG12 := hG11.trans hF12
  refine Y_push gL_areRules_33 (v := (0, -2005)) rfl ?_
  refine Y_icmp_ne gL_areRules_36 (tgt := 56) (by decide) (fun h36 => absurd h36 (by decide)) (fun _ => ?_)
  refine Y_push gL_areRules_39 (v := (1, ((0 : Nat) : Int))) rfl ?_
  refine Y_push gL_areRules_40 (v := (0, 14)) rfl ?_
  refine Y_push gL_areRules_42 (v := (0, -1)) rfl ?_
  refine Y_ask (v := -2005) gL_areRules_43 rfl rfl rfl rfl rfl rfl (fun _ => rfl) rfl rfl (by omega) (wA14 hC12 hV (-1)) (q_1 (cdRank_1 (by decide)) exC_NS) (by omega) (fun w13 hC13 hF13 => ?_)
  have hG13 := hG12.trans hF13
  refine Y_push gL_areRules_46 (v := (0, -2005)) rfl ?_
  refine Y_icmp_ne gL_areRules_49 (tgt := 56) (by decide) (fun h49 => absurd h49 (by decide)) (fun _ => ?_)
  refine Y_push gL_areRules_52 (v := (0, 1)) rfl ?_
  refine Y_goto gL_areRules_53 (tgt := 57) (by decide) ?_
  refine Y_sto gL_areRules_57 rfl (ls' := [(1, ((0 : Nat) : Int)), (0, 1), (9, 0), (9, 0), (9, 0), (9, 0)]) (st' := []) rfl ?_
  refine Y_push gL_areRules_58 (v := (0, 0)) rfl ?_
  refine Y_sto gL_areRules_59 rfl (ls' := [(1, ((0 : Nat) : Int)), (0, 1), (0, 0), (9, 0), (9, 0), (9, 0)]) (st' := []) rfl ?_
  refine Y_push gL_areRules_60 (v := (0, 0)) rfl ?_
  refine Y_sto gL_areRules_61 rfl (ls' := [(1, ((0 : Nat) : Int)), (0, 1), (0, 0), (0, 0), (9, 0), (9, 0)]) (st' := []) rfl ?_
  exact Y_K (by omega) (loop 5 0 rfl _ _ _ (by assumption))
end
