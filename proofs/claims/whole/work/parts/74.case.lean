/-! the law's cases 30 to 38 -/
section
variable {ro : zRo} {w : zW} {T : zTx} {R : zRu} {D : zDs} {lim la B : Int} {L : Nat} {f : Nat → Int} {n q : Nat}
theorem lc_setWidth (hro : ro (-3) = some (L, f)) (hq : 4 * q + 4 ≤ L) (hL : L ≤ 2048) (hC : CR w T R D lim la) (hM : MR w T R D lim la) (hV : SV B T R D lim la) (hB : B ≤ 80000) (v6 v7 v8 : zV) (K : ∀ (v6 v7 v8 : zV) (W : zW), LI W (B + 150) → Z ro 100 mL_law 2130 [(1, -3), (1, ((0 : Nat) : Int)), (1, ((97 : Nat) : Int)), (1, ((117 : Nat) : Int)), (1, ((118 : Nat) : Int)), (0, ((4 * q : Nat) : Int)), v6, v7, v8] [] W (Qn n)) : Z ro 100 mL_law 1801 [(1, -3), (1, ((0 : Nat) : Int)), (1, ((97 : Nat) : Int)), (1, ((117 : Nat) : Int)), (1, ((118 : Nat) : Int)), (0, ((4 * q : Nat) : Int)), v6, v7, v8] [] w (Qn (n + 1)) := by
  obtain ⟨x6, y6⟩ := v6
  obtain ⟨x7, y7⟩ := v7
  obtain ⟨x8, y8⟩ := v8
  have hV1 := hV.1.1
  refine Z_push gL_law_1801 (v := (1, ((0 : Nat) : Int))) rfl ?_
  refine Z_push gL_law_1802 (v := (1, -3)) rfl ?_
  refine Z_push gL_law_1803 (v := (0, ((4 * q : Nat) : Int))) rfl ?_
  refine Z_push gL_law_1805 (v := (0, 1)) rfl ?_
  refine Z_iadd gL_law_1806 ⟨by omega, by omega⟩ ?_
  refine Z_ialoadS gL_law_1807 hro (by omega) (by omega) ?_
  refine Z_push gL_law_1808 (v := (1, ((117 : Nat) : Int))) rfl ?_
  refine Z_callL (kd := 5) (na := 3) (M' := mL_setWidth) gL_law_1809 rfl rfl rfl rfl rfl rfl (fun _ => rfl) rfl rfl (fun _ _ => rfl) (d' := 1) (by omega) (wL_setWidth (f (((4 * q : Nat) : Int) + 1).toNat)  (uX7_setWidth hC hV (f (((4 * q : Nat) : Int) + 1).toNat)) (by unfold cdWd; (repeat' split) <;> omega) (stab_CR 117 (by omega))) ?_
  rintro c9 w2 ⟨rfl, c1, c0, cf⟩
  refine Z_mono (Q' := Qn n) ?_ (fun r w' k h e he => ⟨by have := h.1; omega, h.2⟩)
  have hM2 : MR w2 T R D lim la := MR_out hM (fun a k h1 h2 => cf a k h1 h2)
  refine Z_sto gL_law_1812 rfl (ls' := [(1, -3), (1, ((0 : Nat) : Int)), (1, ((97 : Nat) : Int)), (1, ((117 : Nat) : Int)), (1, ((118 : Nat) : Int)), (0, ((4 * q : Nat) : Int)), (0, ((cdWd (f (((4 * q : Nat) : Int) + 1).toNat) : Nat) : Int)), (x7, y7), (x8, y8)]) (st' := []) rfl ?_
  refine Z_push gL_law_1814 (v := (1, ((97 : Nat) : Int))) rfl ?_
  refine Z_push gL_law_1815 (v := (1, -3)) rfl ?_
  refine Z_push gL_law_1816 (v := (0, ((4 * q : Nat) : Int))) rfl ?_
  refine Z_push gL_law_1818 (v := (0, 1)) rfl ?_
  refine Z_iadd gL_law_1819 ⟨by omega, by omega⟩ ?_
  refine Z_ialoadS gL_law_1820 hro (by omega) (by omega) ?_
  refine Z_callE (kd := 0) (na := 2) (M' := mX8_setWidth) gL_law_1821 rfl rfl rfl rfl rfl rfl (fun _ => rfl) rfl rfl (fun _ _ => zrecv_obj rfl _ _ _) (d' := 1) (by omega) ((mX8w_setWidth hM2 hV (f (((4 * q : Nat) : Int) + 1).toNat))) ?_
  rintro o w3 ⟨⟨b, rfl, hb⟩, ht, m1, m0, mf⟩
  refine Z_sto gL_law_1824 rfl (ls' := [(1, -3), (1, ((0 : Nat) : Int)), (1, ((97 : Nat) : Int)), (1, ((117 : Nat) : Int)), (1, ((118 : Nat) : Int)), (0, ((4 * q : Nat) : Int)), (0, ((cdWd (f (((4 * q : Nat) : Int) + 1).toNat) : Nat) : Int)), (0, b), (x8, y8)]) (st' := []) rfl ?_
  refine Z_push gL_law_1826 (v := (1, ((97 : Nat) : Int))) rfl ?_
  refine Z_callP (kd := 0) (na := 1) (M' := mX8_thrown) gL_law_1827 rfl rfl rfl rfl rfl rfl (fun _ => rfl) rfl rfl (fun _ _ => zrecv_obj rfl _ _ _) (d' := 0) (by omega) (vX8_thrown _ ht) ?_
  refine Z_push gL_law_1830 (v := (0, ((cdWd (f (((4 * q : Nat) : Int) + 1).toNat) : Nat) : Int))) rfl ?_
  refine Z_icmp_eq gL_law_1832 (tgt := 1837) (by decide) (fun _ => ?_) (fun h1832 => absurd h1832 (by omega))
  refine Z_push gL_law_1837 (v := (0, ((cdWd (f (((4 * q : Nat) : Int) + 1).toNat) : Nat) : Int))) rfl ?_
  refine Z_if_ne gL_law_1839 (tgt := 1854) (by decide) (fun h1839 => ?_) (fun h1839 => ?_)
  · refine Z_goto gL_law_1854 (tgt := 2130) (by decide) ?_
    exact K _ _ _ w3 ⟨_, _, _, _, _, CR_97 (c0 (by omega)) (fun a k ha => mf a k (by omega)), m0 (by omega), SV_same hV⟩
  · have hc : cdWd (f (((4 * q : Nat) : Int) + 1).toNat) = 0 := by omega
    have hb := hb hc
    have hout : w3 117 0 = lim := (mf _ _ (by omega)).trans (c1 hc).2
    rw [← hb] at hout
    refine Z_push gL_law_1842 (v := (1, ((117 : Nat) : Int))) rfl ?_
    refine Z_push gL_law_1843 (v := (0, 0)) rfl ?_
    refine Z_laloadV (v := b) gL_law_1844 rfl (by omega) (by omega) hout ?_
    refine Z_push gL_law_1845 (v := (0, b)) rfl ?_
    refine Z_arith gL_law_1847 rfl rfl (v := [(2, b), (2, b)]) rfl ?_
    refine Z_arith gL_law_1848 rfl rfl (v := [(0, 0)]) (lcmp_self _ b) ?_
    refine Z_if_eq gL_law_1849 (tgt := 1854) (by decide) (fun _ => ?_) (fun h1849 => absurd h1849 (by omega))
    refine Z_goto gL_law_1854 (tgt := 2130) (by decide) ?_
    exact K _ _ _ w3 ⟨_, _, _, _, _, CR_97 (c1 hc).1 (fun a k ha => mf a k (by omega)), m1 hc, SVx_wd hV hc⟩
theorem lc_layOut (hro : ro (-3) = some (L, f)) (hq : 4 * q + 4 ≤ L) (hL : L ≤ 2048) (hC : CR w T R D lim la) (hM : MR w T R D lim la) (hV : SV B T R D lim la) (hB : B ≤ 80000) (v6 v7 v8 : zV) (K : ∀ (v6 v7 v8 : zV) (W : zW), LI W (B + 150) → Z ro 100 mL_law 2130 [(1, -3), (1, ((0 : Nat) : Int)), (1, ((97 : Nat) : Int)), (1, ((117 : Nat) : Int)), (1, ((118 : Nat) : Int)), (0, ((4 * q : Nat) : Int)), v6, v7, v8] [] W (Qn n)) : Z ro 100 mL_law 1857 [(1, -3), (1, ((0 : Nat) : Int)), (1, ((97 : Nat) : Int)), (1, ((117 : Nat) : Int)), (1, ((118 : Nat) : Int)), (0, ((4 * q : Nat) : Int)), v6, v7, v8] [] w (Qn (n + 1)) := by
  obtain ⟨x6, y6⟩ := v6
  obtain ⟨x7, y7⟩ := v7
  obtain ⟨x8, y8⟩ := v8
  have hV1 := hV.1.1
  refine Z_push gL_law_1857 (v := (1, ((0 : Nat) : Int))) rfl ?_
  refine Z_callS (kd := 0) (na := 1) (M' := mX7_layOut) gL_law_1858 rfl rfl rfl rfl rfl rfl (fun _ => rfl) rfl rfl (fun _ _ => zrecv_obj rfl _ _ _) (d' := 5) (by omega) (Xv_mono (uX7_layOut hC hV) (fun r w' h => ⟨h.1, h.2⟩)) (Or.inl rfl) rfl ?_
  rintro w2 ⟨c1, c0, cf⟩
  have hM2 : MR w2 T R D lim la := MR_out hM (fun a k h1 h2 => cf a k h1)
  refine Z_push gL_law_1861 (v := (1, ((97 : Nat) : Int))) rfl ?_
  refine Z_callE (kd := 0) (na := 1) (M' := mX8_layOut) gL_law_1862 rfl rfl rfl rfl rfl rfl (fun _ => rfl) rfl rfl (fun _ _ => zrecv_obj rfl _ _ _) (d' := 4) (by omega) (mX8w_layOut hM2 hV) ?_
  rintro o w3 ⟨⟨b, rfl, hb⟩, ht, m1, m0, mf⟩
  have hb := hb rfl
  rw [hb]
  refine Z_icmp_eq gL_law_1865 (tgt := 2130) (by decide) (fun _ => ?_) (fun h1865 => absurd h1865 (by omega))
  exact Z_mono (K _ _ _ w3 ⟨T, R, D, lim, 1, CR_97 (c1 rfl) (fun a k ha => mf a k (by omega)), m1 rfl, SV_lay hV⟩) (fun r w' k h => ⟨by have := h.1; omega, h.2⟩)
theorem lc_isLaidOut (hro : ro (-3) = some (L, f)) (hq : 4 * q + 4 ≤ L) (hL : L ≤ 2048) (hC : CR w T R D lim la) (hM : MR w T R D lim la) (hV : SV B T R D lim la) (hB : B ≤ 80000) (v6 v7 v8 : zV) (K : ∀ (v6 v7 v8 : zV) (W : zW), LI W (B + 150) → Z ro 100 mL_law 2130 [(1, -3), (1, ((0 : Nat) : Int)), (1, ((97 : Nat) : Int)), (1, ((117 : Nat) : Int)), (1, ((118 : Nat) : Int)), (0, ((4 * q : Nat) : Int)), v6, v7, v8] [] W (Qn n)) : Z ro 100 mL_law 1870 [(1, -3), (1, ((0 : Nat) : Int)), (1, ((97 : Nat) : Int)), (1, ((117 : Nat) : Int)), (1, ((118 : Nat) : Int)), (0, ((4 * q : Nat) : Int)), v6, v7, v8] [] w (Qn (n + 1)) := by
  obtain ⟨x6, y6⟩ := v6
  obtain ⟨x7, y7⟩ := v7
  obtain ⟨x8, y8⟩ := v8
  have hV1 := hV.1.1
  refine Z_push gL_law_1870 (v := (1, ((0 : Nat) : Int))) rfl ?_
  refine Z_callS (kd := 0) (na := 1) (M' := mX7_isLaidOut) gL_law_1871 rfl rfl rfl rfl rfl rfl (fun _ => rfl) rfl rfl (fun _ _ => zrecv_obj rfl _ _ _) (d' := 0) (by omega) (Xv_mono (uX7_isLaidOut hC hV) (fun r w' h => ⟨h.1, h.2⟩)) (Or.inl rfl) rfl ?_
  rintro w2 ⟨c1, cf⟩
  have hM2 : MR w2 T R D lim la := MR_out hM (fun a k h1 h2 => cf a k h1)
  refine Z_push gL_law_1874 (v := (1, ((97 : Nat) : Int))) rfl ?_
  refine Z_callE (kd := 0) (na := 1) (M' := mX8_isLaidOut) gL_law_1875 rfl rfl rfl rfl rfl rfl (fun _ => rfl) rfl rfl (fun _ _ => zrecv_obj rfl _ _ _) (d' := 0) (by omega) (mX8w_isLaidOut hM2 hV) ?_
  rintro o w3 ⟨⟨b, rfl, hb⟩, ht, m1, mf⟩
  have hb := hb rfl
  rw [hb]
  refine Z_icmp_eq gL_law_1878 (tgt := 2130) (by decide) (fun _ => ?_) (fun h1878 => absurd h1878 (by omega))
  exact Z_mono (K _ _ _ w3 ⟨T, R, D, lim, la, CR_97 c1 (fun a k ha => mf a k (by omega)), m1, SV_same hV⟩) (fun r w' k h => ⟨by have := h.1; omega, h.2⟩)
theorem lc_cost (hro : ro (-3) = some (L, f)) (hq : 4 * q + 4 ≤ L) (hL : L ≤ 2048) (hC : CR w T R D lim la) (hM : MR w T R D lim la) (hV : SV B T R D lim la) (hB : B ≤ 80000) (v6 v7 v8 : zV) (K : ∀ (v6 v7 v8 : zV) (W : zW), LI W (B + 150) → Z ro 100 mL_law 2130 [(1, -3), (1, ((0 : Nat) : Int)), (1, ((97 : Nat) : Int)), (1, ((117 : Nat) : Int)), (1, ((118 : Nat) : Int)), (0, ((4 * q : Nat) : Int)), v6, v7, v8] [] W (Qn n)) : Z ro 100 mL_law 1883 [(1, -3), (1, ((0 : Nat) : Int)), (1, ((97 : Nat) : Int)), (1, ((117 : Nat) : Int)), (1, ((118 : Nat) : Int)), (0, ((4 * q : Nat) : Int)), v6, v7, v8] [] w (Qn (n + 1)) := by
  obtain ⟨x6, y6⟩ := v6
  obtain ⟨x7, y7⟩ := v7
  obtain ⟨x8, y8⟩ := v8
  have hV1 := hV.1.1
  refine Z_push gL_law_1883 (v := (1, ((0 : Nat) : Int))) rfl ?_
  refine Z_callS (kd := 0) (na := 1) (M' := mX7_cost) gL_law_1884 rfl rfl rfl rfl rfl rfl (fun _ => rfl) rfl rfl (fun _ _ => zrecv_obj rfl _ _ _) (d' := 5) (by omega) (Xv_mono (uX7_cost hC hV) (fun r w' h => ⟨h.1, h.2⟩)) (Or.inl rfl) rfl ?_
  rintro w2 ⟨c1, cf⟩
  have hM2 : MR w2 T R D lim la := MR_out hM (fun a k h1 h2 => cf a k h1)
  refine Z_push gL_law_1887 (v := (1, ((97 : Nat) : Int))) rfl ?_
  refine Z_callE (kd := 0) (na := 1) (M' := mX8_cost) gL_law_1888 rfl rfl rfl rfl rfl rfl (fun _ => rfl) rfl rfl (fun _ _ => zrecv_obj rfl _ _ _) (d' := 4) (by omega) (mX8w_cost hM2 hV) ?_
  rintro o w3 ⟨⟨b, rfl, hb⟩, ht, m1, mf⟩
  have hb := hb rfl
  rw [hb]
  refine Z_icmp_eq gL_law_1891 (tgt := 2130) (by decide) (fun _ => ?_) (fun h1891 => absurd h1891 (by omega))
  exact Z_mono (K _ _ _ w3 ⟨T, R, D, lim, la, CR_97 c1 (fun a k ha => mf a k (by omega)), m1, SV_same hV⟩) (fun r w' k h => ⟨by have := h.1; omega, h.2⟩)
theorem lc_costByTrying (hro : ro (-3) = some (L, f)) (hq : 4 * q + 4 ≤ L) (hL : L ≤ 2048) (hC : CR w T R D lim la) (hM : MR w T R D lim la) (hV : SV B T R D lim la) (hB : B ≤ 80000) (v6 v7 v8 : zV) (K : ∀ (v6 v7 v8 : zV) (W : zW), LI W (B + 150) → Z ro 100 mL_law 2130 [(1, -3), (1, ((0 : Nat) : Int)), (1, ((97 : Nat) : Int)), (1, ((117 : Nat) : Int)), (1, ((118 : Nat) : Int)), (0, ((4 * q : Nat) : Int)), v6, v7, v8] [] W (Qn n)) : Z ro 100 mL_law 1896 [(1, -3), (1, ((0 : Nat) : Int)), (1, ((97 : Nat) : Int)), (1, ((117 : Nat) : Int)), (1, ((118 : Nat) : Int)), (0, ((4 * q : Nat) : Int)), v6, v7, v8] [] w (Qn (n + 1)) := by
  obtain ⟨x6, y6⟩ := v6
  obtain ⟨x7, y7⟩ := v7
  obtain ⟨x8, y8⟩ := v8
  have hV1 := hV.1.1
  refine Z_push gL_law_1896 (v := (1, ((0 : Nat) : Int))) rfl ?_
  refine Z_push gL_law_1897 (v := (1, ((117 : Nat) : Int))) rfl ?_
  refine Z_callL (kd := 5) (na := 2) (M' := mL_costByTrying) gL_law_1898 rfl rfl rfl rfl rfl rfl (fun _ => rfl) rfl rfl (fun _ _ => rfl) (d' := 18) (by omega) (wL_costByTrying  (rP_m (uX7_costByTrying hC hV)) (by unfold cdCT; (repeat' split) <;> omega) (stab_CR 117 (by omega))) ?_
  rintro c9 w2 ⟨rfl, c1, c0, cf⟩
  refine Z_mono (Q' := Qn n) ?_ (fun r w' k h e he => ⟨by have := h.1; omega, h.2⟩)
  have hM2 : MR w2 T R D lim la := MR_out hM (fun a k h1 h2 => cf a k h1 h2)
  refine Z_sto gL_law_1901 rfl (ls' := [(1, -3), (1, ((0 : Nat) : Int)), (1, ((97 : Nat) : Int)), (1, ((117 : Nat) : Int)), (1, ((118 : Nat) : Int)), (0, ((4 * q : Nat) : Int)), (0, ((cdCT T : Nat) : Int)), (x7, y7), (x8, y8)]) (st' := []) rfl ?_
  refine Z_push gL_law_1903 (v := (1, ((97 : Nat) : Int))) rfl ?_
  refine Z_callE (kd := 0) (na := 1) (M' := mX8_costByTrying) gL_law_1904 rfl rfl rfl rfl rfl rfl (fun _ => rfl) rfl rfl (fun _ _ => zrecv_obj rfl _ _ _) (d' := 4) (by omega) ((rM_m (mX8w_costByTrying hM2 hV))) ?_
  rintro o w3 ⟨⟨b, rfl, hb⟩, ht, m1, m0, mf⟩
  refine Z_sto gL_law_1907 rfl (ls' := [(1, -3), (1, ((0 : Nat) : Int)), (1, ((97 : Nat) : Int)), (1, ((117 : Nat) : Int)), (1, ((118 : Nat) : Int)), (0, ((4 * q : Nat) : Int)), (0, ((cdCT T : Nat) : Int)), (0, b), (x8, y8)]) (st' := []) rfl ?_
  refine Z_push gL_law_1909 (v := (1, ((97 : Nat) : Int))) rfl ?_
  refine Z_callP (kd := 0) (na := 1) (M' := mX8_thrown) gL_law_1910 rfl rfl rfl rfl rfl rfl (fun _ => rfl) rfl rfl (fun _ _ => zrecv_obj rfl _ _ _) (d' := 0) (by omega) (vX8_thrown _ ht) ?_
  refine Z_push gL_law_1913 (v := (0, ((cdCT T : Nat) : Int))) rfl ?_
  refine Z_icmp_eq gL_law_1915 (tgt := 1920) (by decide) (fun _ => ?_) (fun h1915 => absurd h1915 (by omega))
  refine Z_push gL_law_1920 (v := (0, ((cdCT T : Nat) : Int))) rfl ?_
  refine Z_if_ne gL_law_1922 (tgt := 1937) (by decide) (fun h1922 => ?_) (fun h1922 => ?_)
  · refine Z_goto gL_law_1937 (tgt := 2130) (by decide) ?_
    exact K _ _ _ w3 ⟨_, _, _, _, _, CR_97 (c0 (by omega)) (fun a k ha => mf a k (by omega)), m0 (by omega), SV_same hV⟩
  · have hc : cdCT T = 0 := by omega
    have hb := hb hc
    have hout : w3 117 0 = lE T lim 0 := (mf _ _ (by omega)).trans (c1 hc).2
    rw [← hb] at hout
    refine Z_push gL_law_1925 (v := (1, ((117 : Nat) : Int))) rfl ?_
    refine Z_push gL_law_1926 (v := (0, 0)) rfl ?_
    refine Z_laloadV (v := b) gL_law_1927 rfl (by omega) (by omega) hout ?_
    refine Z_push gL_law_1928 (v := (0, b)) rfl ?_
    refine Z_arith gL_law_1930 rfl rfl (v := [(2, b), (2, b)]) rfl ?_
    refine Z_arith gL_law_1931 rfl rfl (v := [(0, 0)]) (lcmp_self _ b) ?_
    refine Z_if_eq gL_law_1932 (tgt := 1937) (by decide) (fun _ => ?_) (fun h1932 => absurd h1932 (by omega))
    refine Z_goto gL_law_1937 (tgt := 2130) (by decide) ?_
    exact K _ _ _ w3 ⟨_, _, _, _, _, CR_97 (c1 hc).1 (fun a k ha => mf a k (by omega)), m1 hc, SV_same hV⟩
theorem lc_lineOf (hro : ro (-3) = some (L, f)) (hq : 4 * q + 4 ≤ L) (hL : L ≤ 2048) (hC : CR w T R D lim la) (hM : MR w T R D lim la) (hV : SV B T R D lim la) (hB : B ≤ 80000) (v6 v7 v8 : zV) (K : ∀ (v6 v7 v8 : zV) (W : zW), LI W (B + 150) → Z ro 100 mL_law 2130 [(1, -3), (1, ((0 : Nat) : Int)), (1, ((97 : Nat) : Int)), (1, ((117 : Nat) : Int)), (1, ((118 : Nat) : Int)), (0, ((4 * q : Nat) : Int)), v6, v7, v8] [] W (Qn n)) : Z ro 100 mL_law 1940 [(1, -3), (1, ((0 : Nat) : Int)), (1, ((97 : Nat) : Int)), (1, ((117 : Nat) : Int)), (1, ((118 : Nat) : Int)), (0, ((4 * q : Nat) : Int)), v6, v7, v8] [] w (Qn (n + 1)) := by
  obtain ⟨x6, y6⟩ := v6
  obtain ⟨x7, y7⟩ := v7
  obtain ⟨x8, y8⟩ := v8
  have hV1 := hV.1.1
  refine Z_push gL_law_1940 (v := (1, ((0 : Nat) : Int))) rfl ?_
  refine Z_push gL_law_1941 (v := (1, -3)) rfl ?_
  refine Z_push gL_law_1942 (v := (0, ((4 * q : Nat) : Int))) rfl ?_
  refine Z_push gL_law_1944 (v := (0, 1)) rfl ?_
  refine Z_iadd gL_law_1945 ⟨by omega, by omega⟩ ?_
  refine Z_ialoadS gL_law_1946 hro (by omega) (by omega) ?_
  refine Z_push gL_law_1947 (v := (1, ((117 : Nat) : Int))) rfl ?_
  refine Z_callL (kd := 5) (na := 3) (M' := mL_lineOf) gL_law_1948 rfl rfl rfl rfl rfl rfl (fun _ => rfl) rfl rfl (fun _ _ => rfl) (d' := 3) (by omega) (wL_lineOf (f (((4 * q : Nat) : Int) + 1).toNat)  (rP_m (uX7_lineOf hC hV (f (((4 * q : Nat) : Int) + 1).toNat))) (by unfold cdLO; (repeat' split) <;> omega) (stab_CR 117 (by omega))) ?_
  rintro c9 w2 ⟨rfl, c1, c0, cf⟩
  refine Z_mono (Q' := Qn n) ?_ (fun r w' k h e he => ⟨by have := h.1; omega, h.2⟩)
  have hM2 : MR w2 T R D lim la := MR_out hM (fun a k h1 h2 => cf a k h1 h2)
  refine Z_sto gL_law_1951 rfl (ls' := [(1, -3), (1, ((0 : Nat) : Int)), (1, ((97 : Nat) : Int)), (1, ((117 : Nat) : Int)), (1, ((118 : Nat) : Int)), (0, ((4 * q : Nat) : Int)), (0, ((cdLO T la (f (((4 * q : Nat) : Int) + 1).toNat) : Nat) : Int)), (x7, y7), (x8, y8)]) (st' := []) rfl ?_
  refine Z_push gL_law_1953 (v := (1, ((97 : Nat) : Int))) rfl ?_
  refine Z_push gL_law_1954 (v := (1, -3)) rfl ?_
  refine Z_push gL_law_1955 (v := (0, ((4 * q : Nat) : Int))) rfl ?_
  refine Z_push gL_law_1957 (v := (0, 1)) rfl ?_
  refine Z_iadd gL_law_1958 ⟨by omega, by omega⟩ ?_
  refine Z_ialoadS gL_law_1959 hro (by omega) (by omega) ?_
  refine Z_callE (kd := 0) (na := 2) (M' := mX8_lineOf) gL_law_1960 rfl rfl rfl rfl rfl rfl (fun _ => rfl) rfl rfl (fun _ _ => zrecv_obj rfl _ _ _) (d' := 2) (by omega) ((rM_m (mX8w_lineOf hM2 hV (f (((4 * q : Nat) : Int) + 1).toNat)))) ?_
  rintro o w3 ⟨⟨b, rfl, hb⟩, ht, m1, m0, mf⟩
  refine Z_sto gL_law_1963 rfl (ls' := [(1, -3), (1, ((0 : Nat) : Int)), (1, ((97 : Nat) : Int)), (1, ((117 : Nat) : Int)), (1, ((118 : Nat) : Int)), (0, ((4 * q : Nat) : Int)), (0, ((cdLO T la (f (((4 * q : Nat) : Int) + 1).toNat) : Nat) : Int)), (0, b), (x8, y8)]) (st' := []) rfl ?_
  refine Z_push gL_law_1965 (v := (1, ((97 : Nat) : Int))) rfl ?_
  refine Z_callP (kd := 0) (na := 1) (M' := mX8_thrown) gL_law_1966 rfl rfl rfl rfl rfl rfl (fun _ => rfl) rfl rfl (fun _ _ => zrecv_obj rfl _ _ _) (d' := 0) (by omega) (vX8_thrown _ ht) ?_
  refine Z_push gL_law_1969 (v := (0, ((cdLO T la (f (((4 * q : Nat) : Int) + 1).toNat) : Nat) : Int))) rfl ?_
  refine Z_icmp_eq gL_law_1971 (tgt := 1976) (by decide) (fun _ => ?_) (fun h1971 => absurd h1971 (by omega))
  refine Z_push gL_law_1976 (v := (0, ((cdLO T la (f (((4 * q : Nat) : Int) + 1).toNat) : Nat) : Int))) rfl ?_
  refine Z_if_ne gL_law_1978 (tgt := 1993) (by decide) (fun h1978 => ?_) (fun h1978 => ?_)
  · refine Z_goto gL_law_1993 (tgt := 2130) (by decide) ?_
    exact K _ _ _ w3 ⟨_, _, _, _, _, CR_97 (c0 (by omega)) (fun a k ha => mf a k (by omega)), m0 (by omega), SV_same hV⟩
  · have hc : cdLO T la (f (((4 * q : Nat) : Int) + 1).toNat) = 0 := by omega
    have hb := hb hc
    have hout : w3 117 0 = (lnE T lim (f (((4 * q : Nat) : Int) + 1).toNat).toNat : Int) := (mf _ _ (by omega)).trans (c1 hc).2
    rw [← hb] at hout
    refine Z_push gL_law_1981 (v := (1, ((117 : Nat) : Int))) rfl ?_
    refine Z_push gL_law_1982 (v := (0, 0)) rfl ?_
    refine Z_laloadV (v := b) gL_law_1983 rfl (by omega) (by omega) hout ?_
    refine Z_push gL_law_1984 (v := (0, b)) rfl ?_
    refine Z_arith gL_law_1986 rfl rfl (v := [(2, b), (2, b)]) rfl ?_
    refine Z_arith gL_law_1987 rfl rfl (v := [(0, 0)]) (lcmp_self _ b) ?_
    refine Z_if_eq gL_law_1988 (tgt := 1993) (by decide) (fun _ => ?_) (fun h1988 => absurd h1988 (by omega))
    refine Z_goto gL_law_1993 (tgt := 2130) (by decide) ?_
    exact K _ _ _ w3 ⟨_, _, _, _, _, CR_97 (c1 hc).1 (fun a k ha => mf a k (by omega)), m1 hc, SV_same hV⟩
theorem lc_lineWidth (hro : ro (-3) = some (L, f)) (hq : 4 * q + 4 ≤ L) (hL : L ≤ 2048) (hC : CR w T R D lim la) (hM : MR w T R D lim la) (hV : SV B T R D lim la) (hB : B ≤ 80000) (v6 v7 v8 : zV) (K : ∀ (v6 v7 v8 : zV) (W : zW), LI W (B + 150) → Z ro 100 mL_law 2130 [(1, -3), (1, ((0 : Nat) : Int)), (1, ((97 : Nat) : Int)), (1, ((117 : Nat) : Int)), (1, ((118 : Nat) : Int)), (0, ((4 * q : Nat) : Int)), v6, v7, v8] [] W (Qn n)) : Z ro 100 mL_law 1996 [(1, -3), (1, ((0 : Nat) : Int)), (1, ((97 : Nat) : Int)), (1, ((117 : Nat) : Int)), (1, ((118 : Nat) : Int)), (0, ((4 * q : Nat) : Int)), v6, v7, v8] [] w (Qn (n + 1)) := by
  obtain ⟨x6, y6⟩ := v6
  obtain ⟨x7, y7⟩ := v7
  obtain ⟨x8, y8⟩ := v8
  have hV1 := hV.1.1
  refine Z_push gL_law_1996 (v := (1, ((0 : Nat) : Int))) rfl ?_
  refine Z_push gL_law_1997 (v := (1, -3)) rfl ?_
  refine Z_push gL_law_1998 (v := (0, ((4 * q : Nat) : Int))) rfl ?_
  refine Z_push gL_law_2000 (v := (0, 1)) rfl ?_
  refine Z_iadd gL_law_2001 ⟨by omega, by omega⟩ ?_
  refine Z_ialoadS gL_law_2002 hro (by omega) (by omega) ?_
  refine Z_push gL_law_2003 (v := (1, ((117 : Nat) : Int))) rfl ?_
  refine Z_callL (kd := 5) (na := 3) (M' := mL_lineWidth) gL_law_2004 rfl rfl rfl rfl rfl rfl (fun _ => rfl) rfl rfl (fun _ _ => rfl) (d' := 5) (by omega) (wL_lineWidth (f (((4 * q : Nat) : Int) + 1).toNat)  (rP_m (uX7_lineWidth hC hV (f (((4 * q : Nat) : Int) + 1).toNat))) (by unfold cdLW; (repeat' split) <;> omega) (stab_CR 117 (by omega))) ?_
  rintro c9 w2 ⟨rfl, c1, c0, cf⟩
  refine Z_mono (Q' := Qn n) ?_ (fun r w' k h e he => ⟨by have := h.1; omega, h.2⟩)
  have hM2 : MR w2 T R D lim la := MR_out hM (fun a k h1 h2 => cf a k h1 h2)
  refine Z_sto gL_law_2007 rfl (ls' := [(1, -3), (1, ((0 : Nat) : Int)), (1, ((97 : Nat) : Int)), (1, ((117 : Nat) : Int)), (1, ((118 : Nat) : Int)), (0, ((4 * q : Nat) : Int)), (0, ((cdLW T lim la (f (((4 * q : Nat) : Int) + 1).toNat) : Nat) : Int)), (x7, y7), (x8, y8)]) (st' := []) rfl ?_
  refine Z_push gL_law_2009 (v := (1, ((97 : Nat) : Int))) rfl ?_
  refine Z_push gL_law_2010 (v := (1, -3)) rfl ?_
  refine Z_push gL_law_2011 (v := (0, ((4 * q : Nat) : Int))) rfl ?_
  refine Z_push gL_law_2013 (v := (0, 1)) rfl ?_
  refine Z_iadd gL_law_2014 ⟨by omega, by omega⟩ ?_
  refine Z_ialoadS gL_law_2015 hro (by omega) (by omega) ?_
  refine Z_callE (kd := 0) (na := 2) (M' := mX8_lineWidth) gL_law_2016 rfl rfl rfl rfl rfl rfl (fun _ => rfl) rfl rfl (fun _ _ => zrecv_obj rfl _ _ _) (d' := 1) (by omega) ((rM_m (mX8w_lineWidth hM2 hV (f (((4 * q : Nat) : Int) + 1).toNat)))) ?_
  rintro o w3 ⟨⟨b, rfl, hb⟩, ht, m1, m0, mf⟩
  refine Z_sto gL_law_2019 rfl (ls' := [(1, -3), (1, ((0 : Nat) : Int)), (1, ((97 : Nat) : Int)), (1, ((117 : Nat) : Int)), (1, ((118 : Nat) : Int)), (0, ((4 * q : Nat) : Int)), (0, ((cdLW T lim la (f (((4 * q : Nat) : Int) + 1).toNat) : Nat) : Int)), (0, b), (x8, y8)]) (st' := []) rfl ?_
  refine Z_push gL_law_2021 (v := (1, ((97 : Nat) : Int))) rfl ?_
  refine Z_callP (kd := 0) (na := 1) (M' := mX8_thrown) gL_law_2022 rfl rfl rfl rfl rfl rfl (fun _ => rfl) rfl rfl (fun _ _ => zrecv_obj rfl _ _ _) (d' := 0) (by omega) (vX8_thrown _ ht) ?_
  refine Z_push gL_law_2025 (v := (0, ((cdLW T lim la (f (((4 * q : Nat) : Int) + 1).toNat) : Nat) : Int))) rfl ?_
  refine Z_icmp_eq gL_law_2027 (tgt := 2032) (by decide) (fun _ => ?_) (fun h2027 => absurd h2027 (by omega))
  refine Z_push gL_law_2032 (v := (0, ((cdLW T lim la (f (((4 * q : Nat) : Int) + 1).toNat) : Nat) : Int))) rfl ?_
  refine Z_if_ne gL_law_2034 (tgt := 2049) (by decide) (fun h2034 => ?_) (fun h2034 => ?_)
  · refine Z_goto gL_law_2049 (tgt := 2130) (by decide) ?_
    exact K _ _ _ w3 ⟨_, _, _, _, _, CR_97 (c0 (by omega)) (fun a k ha => mf a k (by omega)), m0 (by omega), SV_same hV⟩
  · have hc : cdLW T lim la (f (((4 * q : Nat) : Int) + 1).toNat) = 0 := by omega
    have hb := hb hc
    have hout : w3 117 0 = lwS T (stE T lim (f (((4 * q : Nat) : Int) + 1).toNat).toNat) (stE T lim ((f (((4 * q : Nat) : Int) + 1).toNat).toNat + 1) - stE T lim (f (((4 * q : Nat) : Int) + 1).toNat).toNat) := (mf _ _ (by omega)).trans (c1 hc).2
    rw [← hb] at hout
    refine Z_push gL_law_2037 (v := (1, ((117 : Nat) : Int))) rfl ?_
    refine Z_push gL_law_2038 (v := (0, 0)) rfl ?_
    refine Z_laloadV (v := b) gL_law_2039 rfl (by omega) (by omega) hout ?_
    refine Z_push gL_law_2040 (v := (0, b)) rfl ?_
    refine Z_arith gL_law_2042 rfl rfl (v := [(2, b), (2, b)]) rfl ?_
    refine Z_arith gL_law_2043 rfl rfl (v := [(0, 0)]) (lcmp_self _ b) ?_
    refine Z_if_eq gL_law_2044 (tgt := 2049) (by decide) (fun _ => ?_) (fun h2044 => absurd h2044 (by omega))
    refine Z_goto gL_law_2049 (tgt := 2130) (by decide) ?_
    exact K _ _ _ w3 ⟨_, _, _, _, _, CR_97 (c1 hc).1 (fun a k ha => mf a k (by omega)), m1 hc, SV_same hV⟩
theorem lc_meanWidth (hro : ro (-3) = some (L, f)) (hq : 4 * q + 4 ≤ L) (hL : L ≤ 2048) (hC : CR w T R D lim la) (hM : MR w T R D lim la) (hV : SV B T R D lim la) (hB : B ≤ 80000) (v6 v7 v8 : zV) (K : ∀ (v6 v7 v8 : zV) (W : zW), LI W (B + 150) → Z ro 100 mL_law 2130 [(1, -3), (1, ((0 : Nat) : Int)), (1, ((97 : Nat) : Int)), (1, ((117 : Nat) : Int)), (1, ((118 : Nat) : Int)), (0, ((4 * q : Nat) : Int)), v6, v7, v8] [] W (Qn n)) : Z ro 100 mL_law 2052 [(1, -3), (1, ((0 : Nat) : Int)), (1, ((97 : Nat) : Int)), (1, ((117 : Nat) : Int)), (1, ((118 : Nat) : Int)), (0, ((4 * q : Nat) : Int)), v6, v7, v8] [] w (Qn (n + 1)) := by
  obtain ⟨x6, y6⟩ := v6
  obtain ⟨x7, y7⟩ := v7
  obtain ⟨x8, y8⟩ := v8
  have hV1 := hV.1.1
  have hmz : cdMean T = 0 → zn64 (FP.ddiv (dI (wsT T T.1)) (dI (T.1 : Int))) = true := fun h => by
    have hsb := wsT_bd hV.1 T.1
    unfold cdMean at h
    split at h
    · omega
    · exact dl_div ⟨hsb.1, by omega⟩ ⟨by omega, by omega⟩
  refine Z_push gL_law_2052 (v := (1, ((0 : Nat) : Int))) rfl ?_
  refine Z_push gL_law_2053 (v := (1, ((118 : Nat) : Int))) rfl ?_
  refine Z_callL (kd := 5) (na := 2) (M' := mL_meanWidth) gL_law_2055 rfl rfl rfl rfl rfl rfl (fun _ => rfl) rfl rfl (fun _ _ => rfl) (d' := 4) (by omega) (wL_meanWidth  (rP_m (uX7_meanWidth hC hV)) (by unfold cdMean; (repeat' split) <;> omega) (stab_CR 118 (by omega))) ?_
  rintro c9 w2 ⟨rfl, c1, c0, cf⟩
  refine Z_mono (Q' := Qn n) ?_ (fun r w' k h e he => ⟨by have := h.1; omega, h.2⟩)
  have hM2 : MR w2 T R D lim la := MR_out hM (fun a k h1 h2 => cf a k h1 h2)
  refine Z_sto gL_law_2058 rfl (ls' := [(1, -3), (1, ((0 : Nat) : Int)), (1, ((97 : Nat) : Int)), (1, ((117 : Nat) : Int)), (1, ((118 : Nat) : Int)), (0, ((4 * q : Nat) : Int)), (0, ((cdMean T : Nat) : Int)), (x7, y7), (x8, y8)]) (st' := []) rfl ?_
  refine Z_push gL_law_2060 (v := (1, ((97 : Nat) : Int))) rfl ?_
  refine Z_callE (kd := 0) (na := 1) (M' := mX8_meanWidth) gL_law_2061 rfl rfl rfl rfl rfl rfl (fun _ => rfl) rfl rfl (fun _ _ => zrecv_obj rfl _ _ _) (d' := 1) (by omega) ((rM_m (mX8w_meanWidth hM2 hV))) ?_
  rintro o w3 ⟨⟨b, rfl, hb⟩, ht, m1, m0, mf⟩
  refine Z_sto gL_law_2064 rfl (ls' := [(1, -3), (1, ((0 : Nat) : Int)), (1, ((97 : Nat) : Int)), (1, ((117 : Nat) : Int)), (1, ((118 : Nat) : Int)), (0, ((4 * q : Nat) : Int)), (0, ((cdMean T : Nat) : Int)), (4, b), (9, 0)]) (st' := []) rfl ?_
  refine Z_push gL_law_2066 (v := (1, ((97 : Nat) : Int))) rfl ?_
  refine Z_callP (kd := 0) (na := 1) (M' := mX8_thrown) gL_law_2067 rfl rfl rfl rfl rfl rfl (fun _ => rfl) rfl rfl (fun _ _ => zrecv_obj rfl _ _ _) (d' := 0) (by omega) (vX8_thrown _ ht) ?_
  refine Z_push gL_law_2070 (v := (0, ((cdMean T : Nat) : Int))) rfl ?_
  refine Z_icmp_eq gL_law_2072 (tgt := 2077) (by decide) (fun _ => ?_) (fun h2072 => absurd h2072 (by omega))
  refine Z_push gL_law_2077 (v := (0, ((cdMean T : Nat) : Int))) rfl ?_
  refine Z_if_ne gL_law_2079 (tgt := 2114) (by decide) (fun h2079 => ?_) (fun h2079 => ?_)
  · refine Z_goto gL_law_2114 (tgt := 2130) (by decide) ?_
    exact K _ _ _ w3 ⟨_, _, _, _, _, CR_97 (c0 (by omega)) (fun a k ha => mf a k (by omega)), m0 (by omega), SV_same hV⟩
  · have hc : cdMean T = 0 := by omega
    have hb := hb hc
    have hout : w3 118 0 = mwV T := (mf _ _ (by omega)).trans (c1 hc).2
    have hz := hmz hc
    rw [hb]
    refine Z_push gL_law_2082 (v := (1, ((118 : Nat) : Int))) rfl ?_
    refine Z_push gL_law_2084 (v := (0, 0)) rfl ?_
    refine Z_daloadV (v := mwV T) gL_law_2085 rfl (by omega) (by omega) hout ?_
    refine Z_push gL_law_2086 (v := (4, mwV T)) rfl ?_
    refine Z_arith gL_law_2088 rfl rfl (v := [(0, 0)]) (dcmp_self hz) ?_
    refine Z_if_eq gL_law_2089 (tgt := 2114) (by decide) (fun _ => ?_) (fun h2089 => absurd h2089 (by omega))
    refine Z_goto gL_law_2114 (tgt := 2130) (by decide) ?_
    exact K _ _ _ w3 ⟨_, _, _, _, _, CR_97 (c1 hc).1 (fun a k ha => mf a k (by omega)), m1 hc, SV_same hV⟩
theorem lc_isTidy (hro : ro (-3) = some (L, f)) (hq : 4 * q + 4 ≤ L) (hL : L ≤ 2048) (hC : CR w T R D lim la) (hM : MR w T R D lim la) (hV : SV B T R D lim la) (hB : B ≤ 80000) (v6 v7 v8 : zV) (K : ∀ (v6 v7 v8 : zV) (W : zW), LI W (B + 150) → Z ro 100 mL_law 2130 [(1, -3), (1, ((0 : Nat) : Int)), (1, ((97 : Nat) : Int)), (1, ((117 : Nat) : Int)), (1, ((118 : Nat) : Int)), (0, ((4 * q : Nat) : Int)), v6, v7, v8] [] W (Qn n)) : Z ro 100 mL_law 2117 [(1, -3), (1, ((0 : Nat) : Int)), (1, ((97 : Nat) : Int)), (1, ((117 : Nat) : Int)), (1, ((118 : Nat) : Int)), (0, ((4 * q : Nat) : Int)), v6, v7, v8] [] w (Qn (n + 1)) := by
  obtain ⟨x6, y6⟩ := v6
  obtain ⟨x7, y7⟩ := v7
  obtain ⟨x8, y8⟩ := v8
  have hV1 := hV.1.1
  refine Z_push gL_law_2117 (v := (1, ((0 : Nat) : Int))) rfl ?_
  refine Z_callS (kd := 0) (na := 1) (M' := mX7_isTidy) gL_law_2118 rfl rfl rfl rfl rfl rfl (fun _ => rfl) rfl rfl (fun _ _ => zrecv_obj rfl _ _ _) (d' := 34) (by omega) (Xv_mono (uX7_isTidy hC hV) (fun r w' h => ⟨h.1, h.2⟩)) (Or.inl rfl) rfl ?_
  rintro w2 ⟨c1, cf⟩
  have hM2 : MR w2 T R D lim la := MR_out hM (fun a k h1 h2 => cf a k h1)
  refine Z_push gL_law_2121 (v := (1, ((97 : Nat) : Int))) rfl ?_
  refine Z_callE (kd := 0) (na := 1) (M' := mX8_isTidy) gL_law_2122 rfl rfl rfl rfl rfl rfl (fun _ => rfl) rfl rfl (fun _ _ => zrecv_obj rfl _ _ _) (d' := 0) (by omega) (mX8w_isTidy hM2 hV) ?_
  rintro o w3 ⟨⟨b, rfl, hb⟩, ht, m1, mf⟩
  have hb := hb rfl
  rw [hb]
  refine Z_icmp_eq gL_law_2125 (tgt := 2130) (by decide) (fun _ => ?_) (fun h2125 => absurd h2125 (by omega))
  exact Z_mono (K _ _ _ w3 ⟨T, R, D, lim, la, CR_97 c1 (fun a k ha => mf a k (by omega)), m1, SV_same hV⟩) (fun r w' k h => ⟨by have := h.1; omega, h.2⟩)
end
