/-! the law's cases 10 to 19 -/
section
variable {ro : zRo} {w : zW} {T : zTx} {R : zRu} {D : zDs} {lim la B : Int} {L : Nat} {f : Nat → Int} {n q : Nat}
theorem lc_commonest (hro : ro (-3) = some (L, f)) (hq : 4 * q + 4 ≤ L) (hL : L ≤ 2048) (hC : CR w T R D lim la) (hM : MR w T R D lim la) (hV : SV B T R D lim la) (hB : B ≤ 80000) (v6 v7 v8 : zV) (K : ∀ (v6 v7 v8 : zV) (W : zW), LI W (B + 150) → Z ro 100 mL_law 2130 [(1, -3), (1, ((0 : Nat) : Int)), (1, ((97 : Nat) : Int)), (1, ((117 : Nat) : Int)), (1, ((118 : Nat) : Int)), (0, ((4 * q : Nat) : Int)), v6, v7, v8] [] W (Qn n)) : Z ro 100 mL_law 721 [(1, -3), (1, ((0 : Nat) : Int)), (1, ((97 : Nat) : Int)), (1, ((117 : Nat) : Int)), (1, ((118 : Nat) : Int)), (0, ((4 * q : Nat) : Int)), v6, v7, v8] [] w (Qn (n + 1)) := by
  obtain ⟨x6, y6⟩ := v6
  obtain ⟨x7, y7⟩ := v7
  obtain ⟨x8, y8⟩ := v8
  have hV1 := hV.1.1
  refine Z_push gL_law_721 (v := (1, ((0 : Nat) : Int))) rfl ?_
  refine Z_push gL_law_722 (v := (1, ((117 : Nat) : Int))) rfl ?_
  refine Z_callL (kd := 5) (na := 2) (M' := mL_commonest) gL_law_723 rfl rfl rfl rfl rfl rfl (fun _ => rfl) rfl rfl (fun _ _ => rfl) (d' := 5) (by omega) (wL_commonest  (rP_m (uX7_commonest hC hV)) (by unfold cdCom; (repeat' split) <;> omega) (stab_CR 117 (by omega))) ?_
  rintro c9 w2 ⟨rfl, c1, c0, cf⟩
  refine Z_mono (Q' := Qn n) ?_ (fun r w' k h e he => ⟨by have := h.1; omega, h.2⟩)
  have hM2 : MR w2 T R D lim la := MR_out hM (fun a k h1 h2 => cf a k h1 h2)
  refine Z_sto gL_law_726 rfl (ls' := [(1, -3), (1, ((0 : Nat) : Int)), (1, ((97 : Nat) : Int)), (1, ((117 : Nat) : Int)), (1, ((118 : Nat) : Int)), (0, ((4 * q : Nat) : Int)), (0, ((cdCom T : Nat) : Int)), (x7, y7), (x8, y8)]) (st' := []) rfl ?_
  refine Z_push gL_law_728 (v := (1, ((97 : Nat) : Int))) rfl ?_
  refine Z_callE (kd := 0) (na := 1) (M' := mX8_commonest) gL_law_729 rfl rfl rfl rfl rfl rfl (fun _ => rfl) rfl rfl (fun _ _ => zrecv_obj rfl _ _ _) (d' := 1) (by omega) ((rM_m (mX8w_commonest hM2 hV))) ?_
  rintro o w3 ⟨⟨b, rfl, hb⟩, ht, m1, m0, mf⟩
  refine Z_sto gL_law_732 rfl (ls' := [(1, -3), (1, ((0 : Nat) : Int)), (1, ((97 : Nat) : Int)), (1, ((117 : Nat) : Int)), (1, ((118 : Nat) : Int)), (0, ((4 * q : Nat) : Int)), (0, ((cdCom T : Nat) : Int)), (0, b), (x8, y8)]) (st' := []) rfl ?_
  refine Z_push gL_law_734 (v := (1, ((97 : Nat) : Int))) rfl ?_
  refine Z_callP (kd := 0) (na := 1) (M' := mX8_thrown) gL_law_735 rfl rfl rfl rfl rfl rfl (fun _ => rfl) rfl rfl (fun _ _ => zrecv_obj rfl _ _ _) (d' := 0) (by omega) (vX8_thrown _ ht) ?_
  refine Z_push gL_law_738 (v := (0, ((cdCom T : Nat) : Int))) rfl ?_
  refine Z_icmp_eq gL_law_740 (tgt := 745) (by decide) (fun _ => ?_) (fun h740 => absurd h740 (by omega))
  refine Z_push gL_law_745 (v := (0, ((cdCom T : Nat) : Int))) rfl ?_
  refine Z_if_ne gL_law_747 (tgt := 762) (by decide) (fun h747 => ?_) (fun h747 => ?_)
  · refine Z_goto gL_law_762 (tgt := 2130) (by decide) ?_
    exact K _ _ _ w3 ⟨_, _, _, _, _, CR_97 (c0 (by omega)) (fun a k ha => mf a k (by omega)), m0 (by omega), SV_same hV⟩
  · have hc : cdCom T = 0 := by omega
    have hb := hb hc
    have hout : w3 117 0 = (cmT T 100 : Int) := (mf _ _ (by omega)).trans (c1 hc).2
    rw [← hb] at hout
    refine Z_push gL_law_750 (v := (1, ((117 : Nat) : Int))) rfl ?_
    refine Z_push gL_law_751 (v := (0, 0)) rfl ?_
    refine Z_laloadV (v := b) gL_law_752 rfl (by omega) (by omega) hout ?_
    refine Z_push gL_law_753 (v := (0, b)) rfl ?_
    refine Z_arith gL_law_755 rfl rfl (v := [(2, b), (2, b)]) rfl ?_
    refine Z_arith gL_law_756 rfl rfl (v := [(0, 0)]) (lcmp_self _ b) ?_
    refine Z_if_eq gL_law_757 (tgt := 762) (by decide) (fun _ => ?_) (fun h757 => absurd h757 (by omega))
    refine Z_goto gL_law_762 (tgt := 2130) (by decide) ?_
    exact K _ _ _ w3 ⟨_, _, _, _, _, CR_97 (c1 hc).1 (fun a k ha => mf a k (by omega)), m1 hc, SV_same hV⟩
theorem lc_pin (hro : ro (-3) = some (L, f)) (hq : 4 * q + 4 ≤ L) (hL : L ≤ 2048) (hC : CR w T R D lim la) (hM : MR w T R D lim la) (hV : SV B T R D lim la) (hB : B ≤ 80000) (v6 v7 v8 : zV) (K : ∀ (v6 v7 v8 : zV) (W : zW), LI W (B + 150) → Z ro 100 mL_law 2130 [(1, -3), (1, ((0 : Nat) : Int)), (1, ((97 : Nat) : Int)), (1, ((117 : Nat) : Int)), (1, ((118 : Nat) : Int)), (0, ((4 * q : Nat) : Int)), v6, v7, v8] [] W (Qn n)) : Z ro 100 mL_law 765 [(1, -3), (1, ((0 : Nat) : Int)), (1, ((97 : Nat) : Int)), (1, ((117 : Nat) : Int)), (1, ((118 : Nat) : Int)), (0, ((4 * q : Nat) : Int)), v6, v7, v8] [] w (Qn (n + 1)) := by
  obtain ⟨x6, y6⟩ := v6
  obtain ⟨x7, y7⟩ := v7
  obtain ⟨x8, y8⟩ := v8
  have hV1 := hV.1.1
  generalize hx : (if f (((4 * q : Nat) : Int) + 3).toNat = 0 then (0 : Int) else 1) = x9
  have hx9 : x9 = 0 ∨ x9 = 1 := by rw [← hx]; split <;> simp
  have c2 : ∀ (w2 : zW), lP w 117 (cdPin T (f (((4 * q : Nat) : Int) + 1).toNat) (f (((4 * q : Nat) : Int) + 2).toNat)) ((pnC T (f (((4 * q : Nat) : Int) + 1).toNat).toNat x9 ((f (((4 * q : Nat) : Int) + 2).toNat).toNat + 1 - (f (((4 * q : Nat) : Int) + 1).toNat).toNat) : Int)) (fun w' => CR w' (piR T (f (((4 * q : Nat) : Int) + 1).toNat).toNat ((f (((4 * q : Nat) : Int) + 2).toNat).toNat + 1) x9) R D lim 0) (fun w' => CR w' T R D lim la) ((cdPin T (f (((4 * q : Nat) : Int) + 1).toNat) (f (((4 * q : Nat) : Int) + 2).toNat) : Nat) : Int) w2 → Z ro 100 mL_law 825 [(1, -3), (1, ((0 : Nat) : Int)), (1, ((97 : Nat) : Int)), (1, ((117 : Nat) : Int)), (1, ((118 : Nat) : Int)), (0, ((4 * q : Nat) : Int)), (0, ((cdPin T (f (((4 * q : Nat) : Int) + 1).toNat) (f (((4 * q : Nat) : Int) + 2).toNat) : Nat) : Int)), (x7, y7), (x8, y8)] [(0, x9), (0, f (((4 * q : Nat) : Int) + 2).toNat), (0, f (((4 * q : Nat) : Int) + 1).toNat), (1, ((97 : Nat) : Int))] w2 (Qn n) := by
    rintro w2 ⟨-, c1, c0, cf⟩
    have hM2 : MR w2 T R D lim la := MR_out hM (fun a k h1 h2 => cf a k h1 h2)
    refine Z_callE (kd := 0) (na := 4) (M' := mX8_pin) gL_law_825 rfl rfl rfl rfl rfl rfl (fun _ => rfl) rfl rfl (fun _ _ => zrecv_obj rfl _ _ _) (d' := 2) (by omega) (mX8w_pin hM2 hV (f (((4 * q : Nat) : Int) + 1).toNat) (f (((4 * q : Nat) : Int) + 2).toNat) x9 hx9) ?_
    rintro o w3 ⟨⟨b, rfl, hb⟩, ht, m1, m0, mf⟩
    refine Z_sto gL_law_828 rfl (ls' := [(1, -3), (1, ((0 : Nat) : Int)), (1, ((97 : Nat) : Int)), (1, ((117 : Nat) : Int)), (1, ((118 : Nat) : Int)), (0, ((4 * q : Nat) : Int)), (0, ((cdPin T (f (((4 * q : Nat) : Int) + 1).toNat) (f (((4 * q : Nat) : Int) + 2).toNat) : Nat) : Int)), (0, b), (x8, y8)]) (st' := []) rfl ?_
    refine Z_push gL_law_830 (v := (1, ((97 : Nat) : Int))) rfl ?_
    refine Z_callP (kd := 0) (na := 1) (M' := mX8_thrown) gL_law_831 rfl rfl rfl rfl rfl rfl (fun _ => rfl) rfl rfl (fun _ _ => zrecv_obj rfl _ _ _) (d' := 0) (by omega) (vX8_thrown _ ht) ?_
    refine Z_push gL_law_834 (v := (0, ((cdPin T (f (((4 * q : Nat) : Int) + 1).toNat) (f (((4 * q : Nat) : Int) + 2).toNat) : Nat) : Int))) rfl ?_
    refine Z_icmp_eq gL_law_836 (tgt := 841) (by decide) (fun _ => ?_) (fun h836 => absurd h836 (by omega))
    refine Z_push gL_law_841 (v := (0, ((cdPin T (f (((4 * q : Nat) : Int) + 1).toNat) (f (((4 * q : Nat) : Int) + 2).toNat) : Nat) : Int))) rfl ?_
    refine Z_if_ne gL_law_843 (tgt := 858) (by decide) (fun h843 => ?_) (fun h843 => ?_)
    · refine Z_goto gL_law_858 (tgt := 2130) (by decide) ?_
      exact K _ _ _ w3 ⟨_, _, _, _, _, CR_97 (c0 (by omega)) (fun a k ha => mf a k (by omega)), m0 (by omega), SV_same hV⟩
    · have hc : cdPin T (f (((4 * q : Nat) : Int) + 1).toNat) (f (((4 * q : Nat) : Int) + 2).toNat) = 0 := by omega
      have hb := hb hc
      have hout : w3 117 0 = (pnC T (f (((4 * q : Nat) : Int) + 1).toNat).toNat x9 ((f (((4 * q : Nat) : Int) + 2).toNat).toNat + 1 - (f (((4 * q : Nat) : Int) + 1).toNat).toNat) : Int) := (mf _ _ (by omega)).trans (c1 hc).2
      rw [← hb] at hout
      refine Z_push gL_law_846 (v := (1, ((117 : Nat) : Int))) rfl ?_
      refine Z_push gL_law_847 (v := (0, 0)) rfl ?_
      refine Z_laloadV (v := b) gL_law_848 rfl (by omega) (by omega) hout ?_
      refine Z_push gL_law_849 (v := (0, b)) rfl ?_
      refine Z_arith gL_law_851 rfl rfl (v := [(2, b), (2, b)]) rfl ?_
      refine Z_arith gL_law_852 rfl rfl (v := [(0, 0)]) (lcmp_self _ b) ?_
      refine Z_if_eq gL_law_853 (tgt := 858) (by decide) (fun _ => ?_) (fun h853 => absurd h853 (by omega))
      refine Z_goto gL_law_858 (tgt := 2130) (by decide) ?_
      exact K _ _ _ w3 ⟨_, _, _, _, _, CR_97 (c1 hc).1 (fun a k ha => mf a k (by omega)), m1 hc, SV_pin hV _ _ hx9⟩
  have c1 : Z ro 100 mL_law 792 [(1, -3), (1, ((0 : Nat) : Int)), (1, ((97 : Nat) : Int)), (1, ((117 : Nat) : Int)), (1, ((118 : Nat) : Int)), (0, ((4 * q : Nat) : Int)), (x6, y6), (x7, y7), (x8, y8)] [(0, x9), (0, f (((4 * q : Nat) : Int) + 2).toNat), (0, f (((4 * q : Nat) : Int) + 1).toNat), (1, ((0 : Nat) : Int))] w (Qn (n + 1)) := by
    refine Z_push gL_law_792 (v := (1, ((117 : Nat) : Int))) rfl ?_
    refine Z_callL (kd := 5) (na := 5) (M' := mL_pin) gL_law_793 rfl rfl rfl rfl rfl rfl (fun _ => rfl) rfl rfl (fun _ _ => rfl) (d' := 3) (by omega) (wL_pin (f (((4 * q : Nat) : Int) + 1).toNat) (f (((4 * q : Nat) : Int) + 2).toNat) x9  (uX7_pin hC hV (f (((4 * q : Nat) : Int) + 1).toNat) (f (((4 * q : Nat) : Int) + 2).toNat) x9 hx9) (by unfold cdPin; (repeat' split) <;> omega) (stab_CR 117 (by omega))) ?_
    rintro c9 w2 hP
    refine Z_mono (Q' := Qn n) ?_ (fun r w' k h e he => ⟨by have := h.1; omega, h.2⟩)
    obtain rfl := hP.1
    refine Z_sto gL_law_796 rfl (ls' := [(1, -3), (1, ((0 : Nat) : Int)), (1, ((97 : Nat) : Int)), (1, ((117 : Nat) : Int)), (1, ((118 : Nat) : Int)), (0, ((4 * q : Nat) : Int)), (0, ((cdPin T (f (((4 * q : Nat) : Int) + 1).toNat) (f (((4 * q : Nat) : Int) + 2).toNat) : Nat) : Int)), (x7, y7), (x8, y8)]) (st' := []) rfl ?_
    refine Z_push gL_law_798 (v := (1, ((97 : Nat) : Int))) rfl ?_
    refine Z_push gL_law_799 (v := (1, -3)) rfl ?_
    refine Z_push gL_law_800 (v := (0, ((4 * q : Nat) : Int))) rfl ?_
    refine Z_push gL_law_802 (v := (0, 1)) rfl ?_
    refine Z_iadd gL_law_803 ⟨by omega, by omega⟩ ?_
    refine Z_ialoadS gL_law_804 hro (by omega) (by omega) ?_
    refine Z_push gL_law_805 (v := (1, -3)) rfl ?_
    refine Z_push gL_law_806 (v := (0, ((4 * q : Nat) : Int))) rfl ?_
    refine Z_push gL_law_808 (v := (0, 2)) rfl ?_
    refine Z_iadd gL_law_809 ⟨by omega, by omega⟩ ?_
    refine Z_ialoadS gL_law_810 hro (by omega) (by omega) ?_
    refine Z_push gL_law_811 (v := (1, -3)) rfl ?_
    refine Z_push gL_law_812 (v := (0, ((4 * q : Nat) : Int))) rfl ?_
    refine Z_push gL_law_814 (v := (0, 3)) rfl ?_
    refine Z_iadd gL_law_815 ⟨by omega, by omega⟩ ?_
    refine Z_ialoadS gL_law_816 hro (by omega) (by omega) ?_
    refine Z_if_eq gL_law_817 (tgt := 824) (by decide) (fun h817 => ?_) (fun h817 => ?_)
    · rw [if_pos h817] at hx
      subst hx
      refine Z_push gL_law_824 (v := (0, 0)) rfl ?_
      exact c2 w2 hP
    · rw [if_neg h817] at hx
      subst hx
      refine Z_push gL_law_820 (v := (0, 1)) rfl ?_
      refine Z_goto gL_law_821 (tgt := 825) (by decide) ?_
      exact c2 w2 hP
  refine Z_push gL_law_765 (v := (1, ((0 : Nat) : Int))) rfl ?_
  refine Z_push gL_law_766 (v := (1, -3)) rfl ?_
  refine Z_push gL_law_767 (v := (0, ((4 * q : Nat) : Int))) rfl ?_
  refine Z_push gL_law_769 (v := (0, 1)) rfl ?_
  refine Z_iadd gL_law_770 ⟨by omega, by omega⟩ ?_
  refine Z_ialoadS gL_law_771 hro (by omega) (by omega) ?_
  refine Z_push gL_law_772 (v := (1, -3)) rfl ?_
  refine Z_push gL_law_773 (v := (0, ((4 * q : Nat) : Int))) rfl ?_
  refine Z_push gL_law_775 (v := (0, 2)) rfl ?_
  refine Z_iadd gL_law_776 ⟨by omega, by omega⟩ ?_
  refine Z_ialoadS gL_law_777 hro (by omega) (by omega) ?_
  refine Z_push gL_law_778 (v := (1, -3)) rfl ?_
  refine Z_push gL_law_779 (v := (0, ((4 * q : Nat) : Int))) rfl ?_
  refine Z_push gL_law_781 (v := (0, 3)) rfl ?_
  refine Z_iadd gL_law_782 ⟨by omega, by omega⟩ ?_
  refine Z_ialoadS gL_law_783 hro (by omega) (by omega) ?_
  refine Z_if_eq gL_law_784 (tgt := 791) (by decide) (fun h784 => ?_) (fun h784 => ?_)
  · have hx2 := hx
    rw [if_pos h784] at hx2
    rw [← hx2] at c1
    refine Z_push gL_law_791 (v := (0, 0)) rfl ?_
    exact c1
  · have hx2 := hx
    rw [if_neg h784] at hx2
    rw [← hx2] at c1
    refine Z_push gL_law_787 (v := (0, 1)) rfl ?_
    refine Z_goto gL_law_788 (tgt := 792) (by decide) ?_
    exact c1
theorem lc_isPinned (hro : ro (-3) = some (L, f)) (hq : 4 * q + 4 ≤ L) (hL : L ≤ 2048) (hC : CR w T R D lim la) (hM : MR w T R D lim la) (hV : SV B T R D lim la) (hB : B ≤ 80000) (v6 v7 v8 : zV) (K : ∀ (v6 v7 v8 : zV) (W : zW), LI W (B + 150) → Z ro 100 mL_law 2130 [(1, -3), (1, ((0 : Nat) : Int)), (1, ((97 : Nat) : Int)), (1, ((117 : Nat) : Int)), (1, ((118 : Nat) : Int)), (0, ((4 * q : Nat) : Int)), v6, v7, v8] [] W (Qn n)) : Z ro 100 mL_law 861 [(1, -3), (1, ((0 : Nat) : Int)), (1, ((97 : Nat) : Int)), (1, ((117 : Nat) : Int)), (1, ((118 : Nat) : Int)), (0, ((4 * q : Nat) : Int)), v6, v7, v8] [] w (Qn (n + 1)) := by
  obtain ⟨x6, y6⟩ := v6
  obtain ⟨x7, y7⟩ := v7
  obtain ⟨x8, y8⟩ := v8
  have hV1 := hV.1.1
  refine Z_push gL_law_861 (v := (1, ((0 : Nat) : Int))) rfl ?_
  refine Z_push gL_law_862 (v := (1, -3)) rfl ?_
  refine Z_push gL_law_863 (v := (0, ((4 * q : Nat) : Int))) rfl ?_
  refine Z_push gL_law_865 (v := (0, 1)) rfl ?_
  refine Z_iadd gL_law_866 ⟨by omega, by omega⟩ ?_
  refine Z_ialoadS gL_law_867 hro (by omega) (by omega) ?_
  refine Z_push gL_law_868 (v := (1, ((117 : Nat) : Int))) rfl ?_
  refine Z_callL (kd := 5) (na := 3) (M' := mL_isPinned) gL_law_869 rfl rfl rfl rfl rfl rfl (fun _ => rfl) rfl rfl (fun _ _ => rfl) (d' := 3) (by omega) (wL_isPinned (f (((4 * q : Nat) : Int) + 1).toNat) (pT_01 hV.1 _) (rP_m (uX7_isPinned hC hV (f (((4 * q : Nat) : Int) + 1).toNat))) (by unfold cdEnt; (repeat' split) <;> omega) (stab_CR 117 (by omega))) ?_
  rintro c9 w2 ⟨rfl, c1, c0, cf⟩
  refine Z_mono (Q' := Qn n) ?_ (fun r w' k h e he => ⟨by have := h.1; omega, h.2⟩)
  have hM2 : MR w2 T R D lim la := MR_out hM (fun a k h1 h2 => cf a k h1 h2)
  refine Z_sto gL_law_872 rfl (ls' := [(1, -3), (1, ((0 : Nat) : Int)), (1, ((97 : Nat) : Int)), (1, ((117 : Nat) : Int)), (1, ((118 : Nat) : Int)), (0, ((4 * q : Nat) : Int)), (0, ((cdEnt T (f (((4 * q : Nat) : Int) + 1).toNat) : Nat) : Int)), (x7, y7), (x8, y8)]) (st' := []) rfl ?_
  refine Z_push gL_law_874 (v := (1, ((97 : Nat) : Int))) rfl ?_
  refine Z_push gL_law_875 (v := (1, -3)) rfl ?_
  refine Z_push gL_law_876 (v := (0, ((4 * q : Nat) : Int))) rfl ?_
  refine Z_push gL_law_878 (v := (0, 1)) rfl ?_
  refine Z_iadd gL_law_879 ⟨by omega, by omega⟩ ?_
  refine Z_ialoadS gL_law_880 hro (by omega) (by omega) ?_
  refine Z_callE (kd := 0) (na := 2) (M' := mX8_isPinned) gL_law_881 rfl rfl rfl rfl rfl rfl (fun _ => rfl) rfl rfl (fun _ _ => zrecv_obj rfl _ _ _) (d' := 2) (by omega) ((rM_m (mX8w_isPinned hM2 hV (f (((4 * q : Nat) : Int) + 1).toNat)))) ?_
  rintro o w3 ⟨⟨b, rfl, hb⟩, ht, m1, m0, mf⟩
  refine Z_sto gL_law_884 rfl (ls' := [(1, -3), (1, ((0 : Nat) : Int)), (1, ((97 : Nat) : Int)), (1, ((117 : Nat) : Int)), (1, ((118 : Nat) : Int)), (0, ((4 * q : Nat) : Int)), (0, ((cdEnt T (f (((4 * q : Nat) : Int) + 1).toNat) : Nat) : Int)), (0, b), (x8, y8)]) (st' := []) rfl ?_
  refine Z_push gL_law_886 (v := (1, ((97 : Nat) : Int))) rfl ?_
  refine Z_callP (kd := 0) (na := 1) (M' := mX8_thrown) gL_law_887 rfl rfl rfl rfl rfl rfl (fun _ => rfl) rfl rfl (fun _ _ => zrecv_obj rfl _ _ _) (d' := 0) (by omega) (vX8_thrown _ ht) ?_
  refine Z_push gL_law_890 (v := (0, ((cdEnt T (f (((4 * q : Nat) : Int) + 1).toNat) : Nat) : Int))) rfl ?_
  refine Z_icmp_eq gL_law_892 (tgt := 897) (by decide) (fun _ => ?_) (fun h892 => absurd h892 (by omega))
  refine Z_push gL_law_897 (v := (0, ((cdEnt T (f (((4 * q : Nat) : Int) + 1).toNat) : Nat) : Int))) rfl ?_
  refine Z_if_ne gL_law_899 (tgt := 921) (by decide) (fun h899 => ?_) (fun h899 => ?_)
  · refine Z_goto gL_law_921 (tgt := 2130) (by decide) ?_
    exact K _ _ _ w3 ⟨_, _, _, _, _, CR_97 (c0 (by omega)) (fun a k ha => mf a k (by omega)), m0 (by omega), SV_same hV⟩
  · have hc : cdEnt T (f (((4 * q : Nat) : Int) + 1).toNat) = 0 := by omega
    have hb := hb hc
    have hv01 : pT T (f (((4 * q : Nat) : Int) + 1).toNat) = 0 ∨ pT T (f (((4 * q : Nat) : Int) + 1).toNat) = 1 := (pT_01 hV.1 _)
    have hout : w3 117 0 = pT T (f (((4 * q : Nat) : Int) + 1).toNat) := (mf _ _ (by omega)).trans (c1 hc).2
    rw [← hb] at hout hv01
    refine Z_push gL_law_902 (v := (1, ((117 : Nat) : Int))) rfl ?_
    refine Z_push gL_law_903 (v := (0, 0)) rfl ?_
    refine Z_laloadV (v := b) gL_law_904 rfl (by omega) (by omega) hout ?_
    refine Z_push gL_law_905 (v := (0, b)) rfl ?_
    refine Z_if_eq gL_law_907 (tgt := 914) (by decide) (fun h907 => ?_) (fun h907 => ?_)
    · rw [h907]
      refine Z_push gL_law_914 (v := (2, 0)) rfl ?_
      refine Z_arith gL_law_915 rfl rfl (v := [(0, 0)]) (lcmp_self _ 0) ?_
      refine Z_if_eq gL_law_916 (tgt := 921) (by decide) (fun _ => ?_) (fun h916 => absurd h916 (by omega))
      refine Z_goto gL_law_921 (tgt := 2130) (by decide) ?_
      exact K _ _ _ w3 ⟨_, _, _, _, _, CR_97 (c1 hc).1 (fun a k ha => mf a k (by omega)), m1 hc, SV_same hV⟩
    · rw [show b = 1 by omega]
      refine Z_push gL_law_910 (v := (2, 1)) rfl ?_
      refine Z_goto gL_law_911 (tgt := 915) (by decide) ?_
      refine Z_arith gL_law_915 rfl rfl (v := [(0, 0)]) (lcmp_self _ 1) ?_
      refine Z_if_eq gL_law_916 (tgt := 921) (by decide) (fun _ => ?_) (fun h916 => absurd h916 (by omega))
      refine Z_goto gL_law_921 (tgt := 2130) (by decide) ?_
      exact K _ _ _ w3 ⟨_, _, _, _, _, CR_97 (c1 hc).1 (fun a k ha => mf a k (by omega)), m1 hc, SV_same hV⟩
theorem lc_findings (hro : ro (-3) = some (L, f)) (hq : 4 * q + 4 ≤ L) (hL : L ≤ 2048) (hC : CR w T R D lim la) (hM : MR w T R D lim la) (hV : SV B T R D lim la) (hB : B ≤ 80000) (v6 v7 v8 : zV) (K : ∀ (v6 v7 v8 : zV) (W : zW), LI W (B + 150) → Z ro 100 mL_law 2130 [(1, -3), (1, ((0 : Nat) : Int)), (1, ((97 : Nat) : Int)), (1, ((117 : Nat) : Int)), (1, ((118 : Nat) : Int)), (0, ((4 * q : Nat) : Int)), v6, v7, v8] [] W (Qn n)) : Z ro 100 mL_law 924 [(1, -3), (1, ((0 : Nat) : Int)), (1, ((97 : Nat) : Int)), (1, ((117 : Nat) : Int)), (1, ((118 : Nat) : Int)), (0, ((4 * q : Nat) : Int)), v6, v7, v8] [] w (Qn (n + 1)) := by
  obtain ⟨x6, y6⟩ := v6
  obtain ⟨x7, y7⟩ := v7
  obtain ⟨x8, y8⟩ := v8
  have hV1 := hV.1.1
  refine Z_push gL_law_924 (v := (1, ((0 : Nat) : Int))) rfl ?_
  refine Z_callS (kd := 0) (na := 1) (M' := mX7_findings) gL_law_925 rfl rfl rfl rfl rfl rfl (fun _ => rfl) rfl rfl (fun _ _ => zrecv_obj rfl _ _ _) (d' := 5) (by omega) (Xv_mono (uX7_findings hC hV) (fun r w' h => ⟨h.1, h.2⟩)) (Or.inl rfl) rfl ?_
  rintro w2 ⟨c1, cf⟩
  have hM2 : MR w2 T R D lim la := MR_out hM (fun a k h1 h2 => cf a k h1)
  refine Z_push gL_law_928 (v := (1, ((97 : Nat) : Int))) rfl ?_
  refine Z_callE (kd := 0) (na := 1) (M' := mX8_findings) gL_law_929 rfl rfl rfl rfl rfl rfl (fun _ => rfl) rfl rfl (fun _ _ => zrecv_obj rfl _ _ _) (d' := 2) (by omega) (mX8w_findings hM2 hV) ?_
  rintro o w3 ⟨⟨b, rfl, hb⟩, ht, m1, mf⟩
  have hb := hb rfl
  rw [hb]
  refine Z_icmp_eq gL_law_932 (tgt := 2130) (by decide) (fun _ => ?_) (fun h932 => absurd h932 (by omega))
  exact Z_mono (K _ _ _ w3 ⟨T, R, D, lim, la, CR_97 c1 (fun a k ha => mf a k (by omega)), m1, SV_same hV⟩) (fun r w' k h => ⟨by have := h.1; omega, h.2⟩)
theorem lc_ruleOf (hro : ro (-3) = some (L, f)) (hq : 4 * q + 4 ≤ L) (hL : L ≤ 2048) (hC : CR w T R D lim la) (hM : MR w T R D lim la) (hV : SV B T R D lim la) (hB : B ≤ 80000) (v6 v7 v8 : zV) (K : ∀ (v6 v7 v8 : zV) (W : zW), LI W (B + 150) → Z ro 100 mL_law 2130 [(1, -3), (1, ((0 : Nat) : Int)), (1, ((97 : Nat) : Int)), (1, ((117 : Nat) : Int)), (1, ((118 : Nat) : Int)), (0, ((4 * q : Nat) : Int)), v6, v7, v8] [] W (Qn n)) : Z ro 100 mL_law 937 [(1, -3), (1, ((0 : Nat) : Int)), (1, ((97 : Nat) : Int)), (1, ((117 : Nat) : Int)), (1, ((118 : Nat) : Int)), (0, ((4 * q : Nat) : Int)), v6, v7, v8] [] w (Qn (n + 1)) := by
  obtain ⟨x6, y6⟩ := v6
  obtain ⟨x7, y7⟩ := v7
  obtain ⟨x8, y8⟩ := v8
  have hV1 := hV.1.1
  refine Z_push gL_law_937 (v := (1, ((0 : Nat) : Int))) rfl ?_
  refine Z_push gL_law_938 (v := (1, -3)) rfl ?_
  refine Z_push gL_law_939 (v := (0, ((4 * q : Nat) : Int))) rfl ?_
  refine Z_push gL_law_941 (v := (0, 1)) rfl ?_
  refine Z_iadd gL_law_942 ⟨by omega, by omega⟩ ?_
  refine Z_ialoadS gL_law_943 hro (by omega) (by omega) ?_
  refine Z_push gL_law_944 (v := (1, ((117 : Nat) : Int))) rfl ?_
  refine Z_callL (kd := 5) (na := 3) (M' := mL_ruleOf) gL_law_945 rfl rfl rfl rfl rfl rfl (fun _ => rfl) rfl rfl (fun _ _ => rfl) (d' := 7) (by omega) (wL_ruleOf (f (((4 * q : Nat) : Int) + 1).toNat)  (rP_m (uX7_ruleOf hC hV (f (((4 * q : Nat) : Int) + 1).toNat))) (by unfold cdFnd; (repeat' split) <;> omega) (stab_CR 117 (by omega))) ?_
  rintro c9 w2 ⟨rfl, c1, c0, cf⟩
  refine Z_mono (Q' := Qn n) ?_ (fun r w' k h e he => ⟨by have := h.1; omega, h.2⟩)
  have hM2 : MR w2 T R D lim la := MR_out hM (fun a k h1 h2 => cf a k h1 h2)
  refine Z_sto gL_law_948 rfl (ls' := [(1, -3), (1, ((0 : Nat) : Int)), (1, ((97 : Nat) : Int)), (1, ((117 : Nat) : Int)), (1, ((118 : Nat) : Int)), (0, ((4 * q : Nat) : Int)), (0, ((cdFnd T (f (((4 * q : Nat) : Int) + 1).toNat) : Nat) : Int)), (x7, y7), (x8, y8)]) (st' := []) rfl ?_
  refine Z_push gL_law_950 (v := (1, ((97 : Nat) : Int))) rfl ?_
  refine Z_push gL_law_951 (v := (1, -3)) rfl ?_
  refine Z_push gL_law_952 (v := (0, ((4 * q : Nat) : Int))) rfl ?_
  refine Z_push gL_law_954 (v := (0, 1)) rfl ?_
  refine Z_iadd gL_law_955 ⟨by omega, by omega⟩ ?_
  refine Z_ialoadS gL_law_956 hro (by omega) (by omega) ?_
  refine Z_callE (kd := 0) (na := 2) (M' := mX8_ruleOf) gL_law_957 rfl rfl rfl rfl rfl rfl (fun _ => rfl) rfl rfl (fun _ _ => zrecv_obj rfl _ _ _) (d' := 3) (by omega) ((rM_m (mX8w_ruleOf hM2 hV (f (((4 * q : Nat) : Int) + 1).toNat)))) ?_
  rintro o w3 ⟨⟨b, rfl, hb⟩, ht, m1, m0, mf⟩
  refine Z_sto gL_law_960 rfl (ls' := [(1, -3), (1, ((0 : Nat) : Int)), (1, ((97 : Nat) : Int)), (1, ((117 : Nat) : Int)), (1, ((118 : Nat) : Int)), (0, ((4 * q : Nat) : Int)), (0, ((cdFnd T (f (((4 * q : Nat) : Int) + 1).toNat) : Nat) : Int)), (0, b), (x8, y8)]) (st' := []) rfl ?_
  refine Z_push gL_law_962 (v := (1, ((97 : Nat) : Int))) rfl ?_
  refine Z_callP (kd := 0) (na := 1) (M' := mX8_thrown) gL_law_963 rfl rfl rfl rfl rfl rfl (fun _ => rfl) rfl rfl (fun _ _ => zrecv_obj rfl _ _ _) (d' := 0) (by omega) (vX8_thrown _ ht) ?_
  refine Z_push gL_law_966 (v := (0, ((cdFnd T (f (((4 * q : Nat) : Int) + 1).toNat) : Nat) : Int))) rfl ?_
  refine Z_icmp_eq gL_law_968 (tgt := 973) (by decide) (fun _ => ?_) (fun h968 => absurd h968 (by omega))
  refine Z_push gL_law_973 (v := (0, ((cdFnd T (f (((4 * q : Nat) : Int) + 1).toNat) : Nat) : Int))) rfl ?_
  refine Z_if_ne gL_law_975 (tgt := 990) (by decide) (fun h975 => ?_) (fun h975 => ?_)
  · refine Z_goto gL_law_990 (tgt := 2130) (by decide) ?_
    exact K _ _ _ w3 ⟨_, _, _, _, _, CR_97 (c0 (by omega)) (fun a k ha => mf a k (by omega)), m0 (by omega), SV_same hV⟩
  · have hc : cdFnd T (f (((4 * q : Nat) : Int) + 1).toNat) = 0 := by omega
    have hb := hb hc
    have hout : w3 117 0 = rlT T (feT T (f (((4 * q : Nat) : Int) + 1).toNat).toNat) := (mf _ _ (by omega)).trans (c1 hc).2
    rw [← hb] at hout
    refine Z_push gL_law_978 (v := (1, ((117 : Nat) : Int))) rfl ?_
    refine Z_push gL_law_979 (v := (0, 0)) rfl ?_
    refine Z_laloadV (v := b) gL_law_980 rfl (by omega) (by omega) hout ?_
    refine Z_push gL_law_981 (v := (0, b)) rfl ?_
    refine Z_arith gL_law_983 rfl rfl (v := [(2, b), (2, b)]) rfl ?_
    refine Z_arith gL_law_984 rfl rfl (v := [(0, 0)]) (lcmp_self _ b) ?_
    refine Z_if_eq gL_law_985 (tgt := 990) (by decide) (fun _ => ?_) (fun h985 => absurd h985 (by omega))
    refine Z_goto gL_law_990 (tgt := 2130) (by decide) ?_
    exact K _ _ _ w3 ⟨_, _, _, _, _, CR_97 (c1 hc).1 (fun a k ha => mf a k (by omega)), m1 hc, SV_same hV⟩
theorem lc_firstOf (hro : ro (-3) = some (L, f)) (hq : 4 * q + 4 ≤ L) (hL : L ≤ 2048) (hC : CR w T R D lim la) (hM : MR w T R D lim la) (hV : SV B T R D lim la) (hB : B ≤ 80000) (v6 v7 v8 : zV) (K : ∀ (v6 v7 v8 : zV) (W : zW), LI W (B + 150) → Z ro 100 mL_law 2130 [(1, -3), (1, ((0 : Nat) : Int)), (1, ((97 : Nat) : Int)), (1, ((117 : Nat) : Int)), (1, ((118 : Nat) : Int)), (0, ((4 * q : Nat) : Int)), v6, v7, v8] [] W (Qn n)) : Z ro 100 mL_law 993 [(1, -3), (1, ((0 : Nat) : Int)), (1, ((97 : Nat) : Int)), (1, ((117 : Nat) : Int)), (1, ((118 : Nat) : Int)), (0, ((4 * q : Nat) : Int)), v6, v7, v8] [] w (Qn (n + 1)) := by
  obtain ⟨x6, y6⟩ := v6
  obtain ⟨x7, y7⟩ := v7
  obtain ⟨x8, y8⟩ := v8
  have hV1 := hV.1.1
  refine Z_push gL_law_993 (v := (1, ((0 : Nat) : Int))) rfl ?_
  refine Z_push gL_law_994 (v := (1, -3)) rfl ?_
  refine Z_push gL_law_995 (v := (0, ((4 * q : Nat) : Int))) rfl ?_
  refine Z_push gL_law_997 (v := (0, 1)) rfl ?_
  refine Z_iadd gL_law_998 ⟨by omega, by omega⟩ ?_
  refine Z_ialoadS gL_law_999 hro (by omega) (by omega) ?_
  refine Z_push gL_law_1000 (v := (1, ((117 : Nat) : Int))) rfl ?_
  refine Z_callL (kd := 5) (na := 3) (M' := mL_firstOf) gL_law_1001 rfl rfl rfl rfl rfl rfl (fun _ => rfl) rfl rfl (fun _ _ => rfl) (d' := 7) (by omega) (wL_firstOf (f (((4 * q : Nat) : Int) + 1).toNat)  (rP_m (uX7_firstOf hC hV (f (((4 * q : Nat) : Int) + 1).toNat))) (by unfold cdFnd; (repeat' split) <;> omega) (stab_CR 117 (by omega))) ?_
  rintro c9 w2 ⟨rfl, c1, c0, cf⟩
  refine Z_mono (Q' := Qn n) ?_ (fun r w' k h e he => ⟨by have := h.1; omega, h.2⟩)
  have hM2 : MR w2 T R D lim la := MR_out hM (fun a k h1 h2 => cf a k h1 h2)
  refine Z_sto gL_law_1004 rfl (ls' := [(1, -3), (1, ((0 : Nat) : Int)), (1, ((97 : Nat) : Int)), (1, ((117 : Nat) : Int)), (1, ((118 : Nat) : Int)), (0, ((4 * q : Nat) : Int)), (0, ((cdFnd T (f (((4 * q : Nat) : Int) + 1).toNat) : Nat) : Int)), (x7, y7), (x8, y8)]) (st' := []) rfl ?_
  refine Z_push gL_law_1006 (v := (1, ((97 : Nat) : Int))) rfl ?_
  refine Z_push gL_law_1007 (v := (1, -3)) rfl ?_
  refine Z_push gL_law_1008 (v := (0, ((4 * q : Nat) : Int))) rfl ?_
  refine Z_push gL_law_1010 (v := (0, 1)) rfl ?_
  refine Z_iadd gL_law_1011 ⟨by omega, by omega⟩ ?_
  refine Z_ialoadS gL_law_1012 hro (by omega) (by omega) ?_
  refine Z_callE (kd := 0) (na := 2) (M' := mX8_firstOf) gL_law_1013 rfl rfl rfl rfl rfl rfl (fun _ => rfl) rfl rfl (fun _ _ => zrecv_obj rfl _ _ _) (d' := 3) (by omega) ((rM_m (mX8w_firstOf hM2 hV (f (((4 * q : Nat) : Int) + 1).toNat)))) ?_
  rintro o w3 ⟨⟨b, rfl, hb⟩, ht, m1, m0, mf⟩
  refine Z_sto gL_law_1016 rfl (ls' := [(1, -3), (1, ((0 : Nat) : Int)), (1, ((97 : Nat) : Int)), (1, ((117 : Nat) : Int)), (1, ((118 : Nat) : Int)), (0, ((4 * q : Nat) : Int)), (0, ((cdFnd T (f (((4 * q : Nat) : Int) + 1).toNat) : Nat) : Int)), (0, b), (x8, y8)]) (st' := []) rfl ?_
  refine Z_push gL_law_1018 (v := (1, ((97 : Nat) : Int))) rfl ?_
  refine Z_callP (kd := 0) (na := 1) (M' := mX8_thrown) gL_law_1019 rfl rfl rfl rfl rfl rfl (fun _ => rfl) rfl rfl (fun _ _ => zrecv_obj rfl _ _ _) (d' := 0) (by omega) (vX8_thrown _ ht) ?_
  refine Z_push gL_law_1022 (v := (0, ((cdFnd T (f (((4 * q : Nat) : Int) + 1).toNat) : Nat) : Int))) rfl ?_
  refine Z_icmp_eq gL_law_1024 (tgt := 1029) (by decide) (fun _ => ?_) (fun h1024 => absurd h1024 (by omega))
  refine Z_push gL_law_1029 (v := (0, ((cdFnd T (f (((4 * q : Nat) : Int) + 1).toNat) : Nat) : Int))) rfl ?_
  refine Z_if_ne gL_law_1031 (tgt := 1046) (by decide) (fun h1031 => ?_) (fun h1031 => ?_)
  · refine Z_goto gL_law_1046 (tgt := 2130) (by decide) ?_
    exact K _ _ _ w3 ⟨_, _, _, _, _, CR_97 (c0 (by omega)) (fun a k ha => mf a k (by omega)), m0 (by omega), SV_same hV⟩
  · have hc : cdFnd T (f (((4 * q : Nat) : Int) + 1).toNat) = 0 := by omega
    have hb := hb hc
    have hout : w3 117 0 = (feT T (f (((4 * q : Nat) : Int) + 1).toNat).toNat : Int) := (mf _ _ (by omega)).trans (c1 hc).2
    rw [← hb] at hout
    refine Z_push gL_law_1034 (v := (1, ((117 : Nat) : Int))) rfl ?_
    refine Z_push gL_law_1035 (v := (0, 0)) rfl ?_
    refine Z_laloadV (v := b) gL_law_1036 rfl (by omega) (by omega) hout ?_
    refine Z_push gL_law_1037 (v := (0, b)) rfl ?_
    refine Z_arith gL_law_1039 rfl rfl (v := [(2, b), (2, b)]) rfl ?_
    refine Z_arith gL_law_1040 rfl rfl (v := [(0, 0)]) (lcmp_self _ b) ?_
    refine Z_if_eq gL_law_1041 (tgt := 1046) (by decide) (fun _ => ?_) (fun h1041 => absurd h1041 (by omega))
    refine Z_goto gL_law_1046 (tgt := 2130) (by decide) ?_
    exact K _ _ _ w3 ⟨_, _, _, _, _, CR_97 (c1 hc).1 (fun a k ha => mf a k (by omega)), m1 hc, SV_same hV⟩
theorem lc_lastOf (hro : ro (-3) = some (L, f)) (hq : 4 * q + 4 ≤ L) (hL : L ≤ 2048) (hC : CR w T R D lim la) (hM : MR w T R D lim la) (hV : SV B T R D lim la) (hB : B ≤ 80000) (v6 v7 v8 : zV) (K : ∀ (v6 v7 v8 : zV) (W : zW), LI W (B + 150) → Z ro 100 mL_law 2130 [(1, -3), (1, ((0 : Nat) : Int)), (1, ((97 : Nat) : Int)), (1, ((117 : Nat) : Int)), (1, ((118 : Nat) : Int)), (0, ((4 * q : Nat) : Int)), v6, v7, v8] [] W (Qn n)) : Z ro 100 mL_law 1049 [(1, -3), (1, ((0 : Nat) : Int)), (1, ((97 : Nat) : Int)), (1, ((117 : Nat) : Int)), (1, ((118 : Nat) : Int)), (0, ((4 * q : Nat) : Int)), v6, v7, v8] [] w (Qn (n + 1)) := by
  obtain ⟨x6, y6⟩ := v6
  obtain ⟨x7, y7⟩ := v7
  obtain ⟨x8, y8⟩ := v8
  have hV1 := hV.1.1
  refine Z_push gL_law_1049 (v := (1, ((0 : Nat) : Int))) rfl ?_
  refine Z_push gL_law_1050 (v := (1, -3)) rfl ?_
  refine Z_push gL_law_1051 (v := (0, ((4 * q : Nat) : Int))) rfl ?_
  refine Z_push gL_law_1053 (v := (0, 1)) rfl ?_
  refine Z_iadd gL_law_1054 ⟨by omega, by omega⟩ ?_
  refine Z_ialoadS gL_law_1055 hro (by omega) (by omega) ?_
  refine Z_push gL_law_1056 (v := (1, ((117 : Nat) : Int))) rfl ?_
  refine Z_callL (kd := 5) (na := 3) (M' := mL_lastOf) gL_law_1057 rfl rfl rfl rfl rfl rfl (fun _ => rfl) rfl rfl (fun _ _ => rfl) (d' := 7) (by omega) (wL_lastOf (f (((4 * q : Nat) : Int) + 1).toNat)  (rP_m (uX7_lastOf hC hV (f (((4 * q : Nat) : Int) + 1).toNat))) (by unfold cdFnd; (repeat' split) <;> omega) (stab_CR 117 (by omega))) ?_
  rintro c9 w2 ⟨rfl, c1, c0, cf⟩
  refine Z_mono (Q' := Qn n) ?_ (fun r w' k h e he => ⟨by have := h.1; omega, h.2⟩)
  have hM2 : MR w2 T R D lim la := MR_out hM (fun a k h1 h2 => cf a k h1 h2)
  refine Z_sto gL_law_1060 rfl (ls' := [(1, -3), (1, ((0 : Nat) : Int)), (1, ((97 : Nat) : Int)), (1, ((117 : Nat) : Int)), (1, ((118 : Nat) : Int)), (0, ((4 * q : Nat) : Int)), (0, ((cdFnd T (f (((4 * q : Nat) : Int) + 1).toNat) : Nat) : Int)), (x7, y7), (x8, y8)]) (st' := []) rfl ?_
  refine Z_push gL_law_1062 (v := (1, ((97 : Nat) : Int))) rfl ?_
  refine Z_push gL_law_1063 (v := (1, -3)) rfl ?_
  refine Z_push gL_law_1064 (v := (0, ((4 * q : Nat) : Int))) rfl ?_
  refine Z_push gL_law_1066 (v := (0, 1)) rfl ?_
  refine Z_iadd gL_law_1067 ⟨by omega, by omega⟩ ?_
  refine Z_ialoadS gL_law_1068 hro (by omega) (by omega) ?_
  refine Z_callE (kd := 0) (na := 2) (M' := mX8_lastOf) gL_law_1069 rfl rfl rfl rfl rfl rfl (fun _ => rfl) rfl rfl (fun _ _ => zrecv_obj rfl _ _ _) (d' := 3) (by omega) ((rM_m (mX8w_lastOf hM2 hV (f (((4 * q : Nat) : Int) + 1).toNat)))) ?_
  rintro o w3 ⟨⟨b, rfl, hb⟩, ht, m1, m0, mf⟩
  refine Z_sto gL_law_1072 rfl (ls' := [(1, -3), (1, ((0 : Nat) : Int)), (1, ((97 : Nat) : Int)), (1, ((117 : Nat) : Int)), (1, ((118 : Nat) : Int)), (0, ((4 * q : Nat) : Int)), (0, ((cdFnd T (f (((4 * q : Nat) : Int) + 1).toNat) : Nat) : Int)), (0, b), (x8, y8)]) (st' := []) rfl ?_
  refine Z_push gL_law_1074 (v := (1, ((97 : Nat) : Int))) rfl ?_
  refine Z_callP (kd := 0) (na := 1) (M' := mX8_thrown) gL_law_1075 rfl rfl rfl rfl rfl rfl (fun _ => rfl) rfl rfl (fun _ _ => zrecv_obj rfl _ _ _) (d' := 0) (by omega) (vX8_thrown _ ht) ?_
  refine Z_push gL_law_1078 (v := (0, ((cdFnd T (f (((4 * q : Nat) : Int) + 1).toNat) : Nat) : Int))) rfl ?_
  refine Z_icmp_eq gL_law_1080 (tgt := 1085) (by decide) (fun _ => ?_) (fun h1080 => absurd h1080 (by omega))
  refine Z_push gL_law_1085 (v := (0, ((cdFnd T (f (((4 * q : Nat) : Int) + 1).toNat) : Nat) : Int))) rfl ?_
  refine Z_if_ne gL_law_1087 (tgt := 1102) (by decide) (fun h1087 => ?_) (fun h1087 => ?_)
  · refine Z_goto gL_law_1102 (tgt := 2130) (by decide) ?_
    exact K _ _ _ w3 ⟨_, _, _, _, _, CR_97 (c0 (by omega)) (fun a k ha => mf a k (by omega)), m0 (by omega), SV_same hV⟩
  · have hc : cdFnd T (f (((4 * q : Nat) : Int) + 1).toNat) = 0 := by omega
    have hb := hb hc
    have hout : w3 117 0 = (enT T (feT T (f (((4 * q : Nat) : Int) + 1).toNat).toNat) : Int) := (mf _ _ (by omega)).trans (c1 hc).2
    rw [← hb] at hout
    refine Z_push gL_law_1090 (v := (1, ((117 : Nat) : Int))) rfl ?_
    refine Z_push gL_law_1091 (v := (0, 0)) rfl ?_
    refine Z_laloadV (v := b) gL_law_1092 rfl (by omega) (by omega) hout ?_
    refine Z_push gL_law_1093 (v := (0, b)) rfl ?_
    refine Z_arith gL_law_1095 rfl rfl (v := [(2, b), (2, b)]) rfl ?_
    refine Z_arith gL_law_1096 rfl rfl (v := [(0, 0)]) (lcmp_self _ b) ?_
    refine Z_if_eq gL_law_1097 (tgt := 1102) (by decide) (fun _ => ?_) (fun h1097 => absurd h1097 (by omega))
    refine Z_goto gL_law_1102 (tgt := 2130) (by decide) ?_
    exact K _ _ _ w3 ⟨_, _, _, _, _, CR_97 (c1 hc).1 (fun a k ha => mf a k (by omega)), m1 hc, SV_same hV⟩
theorem lc_canFix (hro : ro (-3) = some (L, f)) (hq : 4 * q + 4 ≤ L) (hL : L ≤ 2048) (hC : CR w T R D lim la) (hM : MR w T R D lim la) (hV : SV B T R D lim la) (hB : B ≤ 80000) (v6 v7 v8 : zV) (K : ∀ (v6 v7 v8 : zV) (W : zW), LI W (B + 150) → Z ro 100 mL_law 2130 [(1, -3), (1, ((0 : Nat) : Int)), (1, ((97 : Nat) : Int)), (1, ((117 : Nat) : Int)), (1, ((118 : Nat) : Int)), (0, ((4 * q : Nat) : Int)), v6, v7, v8] [] W (Qn n)) : Z ro 100 mL_law 1105 [(1, -3), (1, ((0 : Nat) : Int)), (1, ((97 : Nat) : Int)), (1, ((117 : Nat) : Int)), (1, ((118 : Nat) : Int)), (0, ((4 * q : Nat) : Int)), v6, v7, v8] [] w (Qn (n + 1)) := by
  obtain ⟨x6, y6⟩ := v6
  obtain ⟨x7, y7⟩ := v7
  obtain ⟨x8, y8⟩ := v8
  have hV1 := hV.1.1
  refine Z_push gL_law_1105 (v := (1, ((0 : Nat) : Int))) rfl ?_
  refine Z_push gL_law_1106 (v := (1, -3)) rfl ?_
  refine Z_push gL_law_1107 (v := (0, ((4 * q : Nat) : Int))) rfl ?_
  refine Z_push gL_law_1109 (v := (0, 1)) rfl ?_
  refine Z_iadd gL_law_1110 ⟨by omega, by omega⟩ ?_
  refine Z_ialoadS gL_law_1111 hro (by omega) (by omega) ?_
  refine Z_push gL_law_1112 (v := (1, ((117 : Nat) : Int))) rfl ?_
  refine Z_callL (kd := 5) (na := 3) (M' := mL_canFix) gL_law_1113 rfl rfl rfl rfl rfl rfl (fun _ => rfl) rfl rfl (fun _ _ => rfl) (d' := 7) (by omega) (wL_canFix (f (((4 * q : Nat) : Int) + 1).toNat) (by split <;> simp) (rP_m (uX7_canFix hC hV (f (((4 * q : Nat) : Int) + 1).toNat))) (by unfold cdFnd; (repeat' split) <;> omega) (stab_CR 117 (by omega))) ?_
  rintro c9 w2 ⟨rfl, c1, c0, cf⟩
  refine Z_mono (Q' := Qn n) ?_ (fun r w' k h e he => ⟨by have := h.1; omega, h.2⟩)
  have hM2 : MR w2 T R D lim la := MR_out hM (fun a k h1 h2 => cf a k h1 h2)
  refine Z_sto gL_law_1116 rfl (ls' := [(1, -3), (1, ((0 : Nat) : Int)), (1, ((97 : Nat) : Int)), (1, ((117 : Nat) : Int)), (1, ((118 : Nat) : Int)), (0, ((4 * q : Nat) : Int)), (0, ((cdFnd T (f (((4 * q : Nat) : Int) + 1).toNat) : Nat) : Int)), (x7, y7), (x8, y8)]) (st' := []) rfl ?_
  refine Z_push gL_law_1118 (v := (1, ((97 : Nat) : Int))) rfl ?_
  refine Z_push gL_law_1119 (v := (1, -3)) rfl ?_
  refine Z_push gL_law_1120 (v := (0, ((4 * q : Nat) : Int))) rfl ?_
  refine Z_push gL_law_1122 (v := (0, 1)) rfl ?_
  refine Z_iadd gL_law_1123 ⟨by omega, by omega⟩ ?_
  refine Z_ialoadS gL_law_1124 hro (by omega) (by omega) ?_
  refine Z_callE (kd := 0) (na := 2) (M' := mX8_canFix) gL_law_1125 rfl rfl rfl rfl rfl rfl (fun _ => rfl) rfl rfl (fun _ _ => zrecv_obj rfl _ _ _) (d' := 3) (by omega) ((rM_m (mX8w_canFix hM2 hV (f (((4 * q : Nat) : Int) + 1).toNat)))) ?_
  rintro o w3 ⟨⟨b, rfl, hb⟩, ht, m1, m0, mf⟩
  refine Z_sto gL_law_1128 rfl (ls' := [(1, -3), (1, ((0 : Nat) : Int)), (1, ((97 : Nat) : Int)), (1, ((117 : Nat) : Int)), (1, ((118 : Nat) : Int)), (0, ((4 * q : Nat) : Int)), (0, ((cdFnd T (f (((4 * q : Nat) : Int) + 1).toNat) : Nat) : Int)), (0, b), (x8, y8)]) (st' := []) rfl ?_
  refine Z_push gL_law_1130 (v := (1, ((97 : Nat) : Int))) rfl ?_
  refine Z_callP (kd := 0) (na := 1) (M' := mX8_thrown) gL_law_1131 rfl rfl rfl rfl rfl rfl (fun _ => rfl) rfl rfl (fun _ _ => zrecv_obj rfl _ _ _) (d' := 0) (by omega) (vX8_thrown _ ht) ?_
  refine Z_push gL_law_1134 (v := (0, ((cdFnd T (f (((4 * q : Nat) : Int) + 1).toNat) : Nat) : Int))) rfl ?_
  refine Z_icmp_eq gL_law_1136 (tgt := 1141) (by decide) (fun _ => ?_) (fun h1136 => absurd h1136 (by omega))
  refine Z_push gL_law_1141 (v := (0, ((cdFnd T (f (((4 * q : Nat) : Int) + 1).toNat) : Nat) : Int))) rfl ?_
  refine Z_if_ne gL_law_1143 (tgt := 1165) (by decide) (fun h1143 => ?_) (fun h1143 => ?_)
  · refine Z_goto gL_law_1165 (tgt := 2130) (by decide) ?_
    exact K _ _ _ w3 ⟨_, _, _, _, _, CR_97 (c0 (by omega)) (fun a k ha => mf a k (by omega)), m0 (by omega), SV_same hV⟩
  · have hc : cdFnd T (f (((4 * q : Nat) : Int) + 1).toNat) = 0 := by omega
    have hb := hb hc
    have hv01 : (if 0 < gnT T R (feT T (f (((4 * q : Nat) : Int) + 1).toNat).toNat) then (1 : Int) else 0) = 0 ∨ (if 0 < gnT T R (feT T (f (((4 * q : Nat) : Int) + 1).toNat).toNat) then (1 : Int) else 0) = 1 := (by split <;> simp)
    have hout : w3 117 0 = (if 0 < gnT T R (feT T (f (((4 * q : Nat) : Int) + 1).toNat).toNat) then (1 : Int) else 0) := (mf _ _ (by omega)).trans (c1 hc).2
    rw [← hb] at hout hv01
    refine Z_push gL_law_1146 (v := (1, ((117 : Nat) : Int))) rfl ?_
    refine Z_push gL_law_1147 (v := (0, 0)) rfl ?_
    refine Z_laloadV (v := b) gL_law_1148 rfl (by omega) (by omega) hout ?_
    refine Z_push gL_law_1149 (v := (0, b)) rfl ?_
    refine Z_if_eq gL_law_1151 (tgt := 1158) (by decide) (fun h1151 => ?_) (fun h1151 => ?_)
    · rw [h1151]
      refine Z_push gL_law_1158 (v := (2, 0)) rfl ?_
      refine Z_arith gL_law_1159 rfl rfl (v := [(0, 0)]) (lcmp_self _ 0) ?_
      refine Z_if_eq gL_law_1160 (tgt := 1165) (by decide) (fun _ => ?_) (fun h1160 => absurd h1160 (by omega))
      refine Z_goto gL_law_1165 (tgt := 2130) (by decide) ?_
      exact K _ _ _ w3 ⟨_, _, _, _, _, CR_97 (c1 hc).1 (fun a k ha => mf a k (by omega)), m1 hc, SV_same hV⟩
    · rw [show b = 1 by omega]
      refine Z_push gL_law_1154 (v := (2, 1)) rfl ?_
      refine Z_goto gL_law_1155 (tgt := 1159) (by decide) ?_
      refine Z_arith gL_law_1159 rfl rfl (v := [(0, 0)]) (lcmp_self _ 1) ?_
      refine Z_if_eq gL_law_1160 (tgt := 1165) (by decide) (fun _ => ?_) (fun h1160 => absurd h1160 (by omega))
      refine Z_goto gL_law_1165 (tgt := 2130) (by decide) ?_
      exact K _ _ _ w3 ⟨_, _, _, _, _, CR_97 (c1 hc).1 (fun a k ha => mf a k (by omega)), m1 hc, SV_same hV⟩
theorem lc_best (hro : ro (-3) = some (L, f)) (hq : 4 * q + 4 ≤ L) (hL : L ≤ 2048) (hC : CR w T R D lim la) (hM : MR w T R D lim la) (hV : SV B T R D lim la) (hB : B ≤ 80000) (v6 v7 v8 : zV) (K : ∀ (v6 v7 v8 : zV) (W : zW), LI W (B + 150) → Z ro 100 mL_law 2130 [(1, -3), (1, ((0 : Nat) : Int)), (1, ((97 : Nat) : Int)), (1, ((117 : Nat) : Int)), (1, ((118 : Nat) : Int)), (0, ((4 * q : Nat) : Int)), v6, v7, v8] [] W (Qn n)) : Z ro 100 mL_law 1168 [(1, -3), (1, ((0 : Nat) : Int)), (1, ((97 : Nat) : Int)), (1, ((117 : Nat) : Int)), (1, ((118 : Nat) : Int)), (0, ((4 * q : Nat) : Int)), v6, v7, v8] [] w (Qn (n + 1)) := by
  obtain ⟨x6, y6⟩ := v6
  obtain ⟨x7, y7⟩ := v7
  obtain ⟨x8, y8⟩ := v8
  have hV1 := hV.1.1
  refine Z_push gL_law_1168 (v := (1, ((0 : Nat) : Int))) rfl ?_
  refine Z_callS (kd := 0) (na := 1) (M' := mX7_best) gL_law_1169 rfl rfl rfl rfl rfl rfl (fun _ => rfl) rfl rfl (fun _ _ => zrecv_obj rfl _ _ _) (d' := 6) (by omega) (Xv_mono (uX7_best hC hV) (fun r w' h => ⟨h.1, h.2⟩)) (Or.inl rfl) rfl ?_
  rintro w2 ⟨c1, cf⟩
  have hM2 : MR w2 T R D lim la := MR_out hM (fun a k h1 h2 => cf a k h1)
  refine Z_push gL_law_1172 (v := (1, ((97 : Nat) : Int))) rfl ?_
  refine Z_callE (kd := 0) (na := 1) (M' := mX8_best) gL_law_1173 rfl rfl rfl rfl rfl rfl (fun _ => rfl) rfl rfl (fun _ _ => zrecv_obj rfl _ _ _) (d' := 2) (by omega) (mX8w_best hM2 hV) ?_
  rintro o w3 ⟨⟨b, rfl, hb⟩, ht, m1, mf⟩
  have hb := hb rfl
  rw [hb]
  refine Z_icmp_eq gL_law_1176 (tgt := 2130) (by decide) (fun _ => ?_) (fun h1176 => absurd h1176 (by omega))
  exact Z_mono (K _ _ _ w3 ⟨T, R, D, lim, la, CR_97 c1 (fun a k ha => mf a k (by omega)), m1, SV_same hV⟩) (fun r w' k h => ⟨by have := h.1; omega, h.2⟩)
theorem lc_bestByTrying (hro : ro (-3) = some (L, f)) (hq : 4 * q + 4 ≤ L) (hL : L ≤ 2048) (hC : CR w T R D lim la) (hM : MR w T R D lim la) (hV : SV B T R D lim la) (hB : B ≤ 80000) (v6 v7 v8 : zV) (K : ∀ (v6 v7 v8 : zV) (W : zW), LI W (B + 150) → Z ro 100 mL_law 2130 [(1, -3), (1, ((0 : Nat) : Int)), (1, ((97 : Nat) : Int)), (1, ((117 : Nat) : Int)), (1, ((118 : Nat) : Int)), (0, ((4 * q : Nat) : Int)), v6, v7, v8] [] W (Qn n)) : Z ro 100 mL_law 1181 [(1, -3), (1, ((0 : Nat) : Int)), (1, ((97 : Nat) : Int)), (1, ((117 : Nat) : Int)), (1, ((118 : Nat) : Int)), (0, ((4 * q : Nat) : Int)), v6, v7, v8] [] w (Qn (n + 1)) := by
  obtain ⟨x6, y6⟩ := v6
  obtain ⟨x7, y7⟩ := v7
  obtain ⟨x8, y8⟩ := v8
  have hV1 := hV.1.1
  refine Z_push gL_law_1181 (v := (1, ((0 : Nat) : Int))) rfl ?_
  refine Z_push gL_law_1182 (v := (1, ((117 : Nat) : Int))) rfl ?_
  refine Z_callL (kd := 5) (na := 2) (M' := mL_bestByTrying) gL_law_1183 rfl rfl rfl rfl rfl rfl (fun _ => rfl) rfl rfl (fun _ _ => rfl) (d' := 35) (by omega) (wL_bestByTrying  (rP_m (uX7_bestByTrying hC hV)) (by unfold cdTry; (repeat' split) <;> omega) (stab_CR 117 (by omega))) ?_
  rintro c9 w2 ⟨rfl, c1, c0, cf⟩
  refine Z_mono (Q' := Qn n) ?_ (fun r w' k h e he => ⟨by have := h.1; omega, h.2⟩)
  have hM2 : MR w2 T R D lim la := MR_out hM (fun a k h1 h2 => cf a k h1 h2)
  refine Z_sto gL_law_1186 rfl (ls' := [(1, -3), (1, ((0 : Nat) : Int)), (1, ((97 : Nat) : Int)), (1, ((117 : Nat) : Int)), (1, ((118 : Nat) : Int)), (0, ((4 * q : Nat) : Int)), (0, ((cdTry T R : Nat) : Int)), (x7, y7), (x8, y8)]) (st' := []) rfl ?_
  refine Z_push gL_law_1188 (v := (1, ((97 : Nat) : Int))) rfl ?_
  refine Z_callE (kd := 0) (na := 1) (M' := mX8_bestByTrying) gL_law_1189 rfl rfl rfl rfl rfl rfl (fun _ => rfl) rfl rfl (fun _ _ => zrecv_obj rfl _ _ _) (d' := 2) (by omega) ((rM_m (mX8w_bestByTrying hM2 hV))) ?_
  rintro o w3 ⟨⟨b, rfl, hb⟩, ht, m1, m0, mf⟩
  refine Z_sto gL_law_1192 rfl (ls' := [(1, -3), (1, ((0 : Nat) : Int)), (1, ((97 : Nat) : Int)), (1, ((117 : Nat) : Int)), (1, ((118 : Nat) : Int)), (0, ((4 * q : Nat) : Int)), (0, ((cdTry T R : Nat) : Int)), (0, b), (x8, y8)]) (st' := []) rfl ?_
  refine Z_push gL_law_1194 (v := (1, ((97 : Nat) : Int))) rfl ?_
  refine Z_callP (kd := 0) (na := 1) (M' := mX8_thrown) gL_law_1195 rfl rfl rfl rfl rfl rfl (fun _ => rfl) rfl rfl (fun _ _ => zrecv_obj rfl _ _ _) (d' := 0) (by omega) (vX8_thrown _ ht) ?_
  refine Z_push gL_law_1198 (v := (0, ((cdTry T R : Nat) : Int))) rfl ?_
  refine Z_icmp_eq gL_law_1200 (tgt := 1205) (by decide) (fun _ => ?_) (fun h1200 => absurd h1200 (by omega))
  refine Z_push gL_law_1205 (v := (0, ((cdTry T R : Nat) : Int))) rfl ?_
  refine Z_if_ne gL_law_1207 (tgt := 1222) (by decide) (fun h1207 => ?_) (fun h1207 => ?_)
  · refine Z_goto gL_law_1222 (tgt := 2130) (by decide) ?_
    exact K _ _ _ w3 ⟨_, _, _, _, _, CR_97 (c0 (by omega)) (fun a k ha => mf a k (by omega)), m0 (by omega), SV_same hV⟩
  · have hc : cdTry T R = 0 := by omega
    have hb := hb hc
    have hout : w3 117 0 = sE T R 0 := (mf _ _ (by omega)).trans (c1 hc).2
    rw [← hb] at hout
    refine Z_push gL_law_1210 (v := (1, ((117 : Nat) : Int))) rfl ?_
    refine Z_push gL_law_1211 (v := (0, 0)) rfl ?_
    refine Z_laloadV (v := b) gL_law_1212 rfl (by omega) (by omega) hout ?_
    refine Z_push gL_law_1213 (v := (0, b)) rfl ?_
    refine Z_arith gL_law_1215 rfl rfl (v := [(2, b), (2, b)]) rfl ?_
    refine Z_arith gL_law_1216 rfl rfl (v := [(0, 0)]) (lcmp_self _ b) ?_
    refine Z_if_eq gL_law_1217 (tgt := 1222) (by decide) (fun _ => ?_) (fun h1217 => absurd h1217 (by omega))
    refine Z_goto gL_law_1222 (tgt := 2130) (by decide) ?_
    exact K _ _ _ w3 ⟨_, _, _, _, _, CR_97 (c1 hc).1 (fun a k ha => mf a k (by omega)), m1 hc, SV_same hV⟩
end
