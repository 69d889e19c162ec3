/-! small things that the main proof needs -/
theorem zstore_len {i : Instr} {len : Nat} {ls st : List zV} {r : List zV × List zV} (h : zstore i len ls st = some r) : r.1.length = ls.length := by
  unfold zstore at h
  repeat' split at h
  all_goals first
    | (cases h; simp only [zput_len, zput2_len])
    | cases h
theorem zcatch_len {t : List (Nat × Instr × Nat)} {h : Nat} {ls : List zV} {r : Nat × List zV} (hc : zcatch t h ls = some r) : r.2.length = ls.length := by
  unfold zcatch at hc
  repeat' split at hc
  all_goals first
    | (cases hc; simp only [zput_len])
    | cases hc
theorem zcatch_ok {t : List (Nat × Instr × Nat)} {h n : Nat} {ls : List zV} {r : Nat × List zV} (hc : zcatch t h ls = some r) (hok : zoks n ls) : zoks n r.2 := by
  unfold zcatch at hc
  repeat' split at hc
  all_goals first
    | (cases hc; exact zoks_put hok trivial)
    | cases hc
theorem zsim {NW : List Cond} {TX : List (String × Nat × String)} {NC : List (String × String)} {ro : zRo} (HT : zTab NW TX NC) : ∀ n, zP NW TX NC ro n
  | 0 => by
    intro d M hM pc ls st S r hr
    unfold zrun at hr
    cases hr
  | n + 1 => by
    have IH := zsim (ro := ro) HT n
    intro d M hM pc ls st S r hr hlen hol hos hsh p l e R s m args below meth c A C D cA ad hSF H locs cells slots lsC hL hrel hS mc ms hmc hms hmcR hmsR Qc XC hQ hX
    obtain ⟨mono1, mono2, mono3⟩ := zrun_mono _ _ _ _ _ _ _ _ hr
    obtain ⟨hx, hb, hml, hown, hts, htab, hlk, hret, hnm, hl, hA, hfr, hlo⟩ := id C
    have hm4 : ∀ q ∈ zMt M, decode M.2.1 q.1 = .ok q.2 := hM
    obtain ⟨s1, s2, s3, s4, s5, s6, s7, s8, s9⟩ := id hSF
    obtain ⟨T1, T2, T3, T4, T5, T6, T7, T8, T9, T10, T11, T12, T13⟩ := id HT
    have hcR : cells ≤ R.cells := by omega
    have hsR : slots ≤ R.slots := by omega
    have hag : zag S.1.length ad ad := fun _ _ => rfl
    have hLs : lsC.size = zMl M := hL.1
    unfold zrun at hr
    split at hr
    · cases hr
    rename_i q hq
    have hd : decode M.2.1 pc = .ok (q.1, q.2) := hm4 (pc, q) (zget_mem hq)
    split at hr
    · rename_i v hv
      exact zs_push hx hb ⟨_, hown, fun k w h => ⟨hts _ (T1 _ _ _ h).1, (T1 _ _ _ h).2⟩⟩ hv (by rw [hlen]; exact hL) hd hol (fun hok => IH d M hM _ _ _ S r hr hlen hol (List.forall_mem_cons.mpr ⟨hok, hos⟩) hsh p l e R s m args below meth c A C D cA ad hSF H locs cells slots lsC hL hrel hS mc ms hmc hms hmcR hmsR Qc XC hQ hX)
    split at hr
    · rename_i r1 hr1
      have hl1 : r1.1.length = ls.length := zstore_len hr1
      exact zs_store hx hb hr1 (by rw [hlen]; exact hL) hd hol hos (fun lsC' hL' ho1 ho2 => IH d M hM _ _ _ S r hr (by rw [hl1]; exact hlen) ho1 ho2 hsh p l e R s m args below meth c A C D cA ad hSF H locs cells slots lsC' (by rw [hl1, hlen] at hL'; exact hL') hrel hS mc ms hmc hms hmcR hmsR Qc XC hQ hX)
    split at hr
    · rename_i r1 hr1
      exact zs_arith hx hb (by rw [hLs, hml]) ⟨_, hown, fun k => ⟨fun h => ⟨hts _ ((T2 _ k).1 h).1, hts _ ((T2 _ k).1 h).2.1, hts _ ((T2 _ k).1 h).2.2.1, hts _ ((T2 _ k).1 h).2.2.2⟩, fun h => ⟨hts _ ((T2 _ k).2.1 h).1, hts _ ((T2 _ k).2.1 h).2.1, hts _ ((T2 _ k).2.1 h).2.2.1, hts _ ((T2 _ k).2.1 h).2.2.2⟩, fun h => ⟨hts _ ((T2 _ k).2.2 h).1, hts _ ((T2 _ k).2.2 h).2.1, hts _ ((T2 _ k).2.2 h).2.2⟩⟩⟩ (by omega) (by omega) hcR hsR hr1 hd hos (fun ho1 => IH d M hM _ _ _ S r hr hlen hol ho1 hsh p l e R s m args below meth c A C D cA ad hSF H locs cells slots lsC hL hrel hS mc ms hmc hms hmcR hmsR Qc XC hQ hX)
    split at hr
    · rename_i r1 hr1
      exact zs_jump hx hb hr1 hd hos (fun ho1 => IH d M hM _ _ _ S r hr hlen hol ho1 hsh p l e R s m args below meth c A C D cA ad hSF H locs cells slots lsC hL hrel hS mc ms hmc hms hmcR hmsR Qc XC hQ hX)
    split at hr
    · rename_i v hv
      cases hr
      have e1 : cells = mc := by simp only [Nat.sub_self] at hmc; omega
      have e2 : slots = ms := by simp only [Nat.sub_self] at hms; omega
      subst e1; subst e2
      exact zs_end C hrel hS hv hd hos (fun t g1 g2 => hQ v rfl ⟨zend_ok hv hos, hsh⟩ ad t hag g1 g2)
    split at hr
    · rename_i r1 hr1
      split at hr
      · rename_i h9
        cases hr
        have e1 : cells + 1 = mc := by rw [← hmc]; show _ = cells + (S.2.2.1 + 1 - S.2.2.1); omega
        have e2 : slots + 6 = ms := by rw [← hms]; show _ = slots + (S.2.2.2 + 6 - S.2.2.2); omega
        exact zs_throw HT hM C hSF hrel hS hLs hq hr1 h9.1 h9.2.1 h9.2.2.1 h9.2.2.2 (by omega) (by omega) (by omega) (by omega) (fun t g1 g2 => hX _ rfl hsh ad t hag g1 g2)
      · cases hr
    split at hr
    · rename_i r1 hr1
      obtain ⟨g1, g2, g3⟩ := zheap_mono hr1
      obtain ⟨f1, f2, f3⟩ := zrun_mono _ _ _ _ _ _ _ _ hr
      refine zs_heap hx hb hown hts s1 (zpool_of HT C hSF (zMk M)) hrel hsh s9 hS hA (fun h => by rw [hnm]; exact eq_of_beq h) hr1 hd hos (by omega) (by omega) (fun ad' H1 locs1 k1 k2 k3 k4 k5 k6 k7 k8 => ?_)
      exact IH d M hM _ _ _ r1.2 r hr hlen (zoks_mono hol k4) k6 k3 p l e R s m args below meth c A C D cA ad' (zSF_ag hSF k1) H1 locs1 _ _ lsC (zlo_ag hL k1 hol) k2 k5 mc ms (by omega) (by omega) hmcR hmsR Qc XC
        (fun v hv hk ad2 t z1 z2 z3 => hQ v hv hk ad2 t (zagt k1 z1 k4) z2 z3) (fun E hE hk ad2 t z1 z2 z3 => hX E hE hk ad2 t (zagt k1 z1 k4) z2 z3)
    split at hr
    · rename_i d' r1 hr1
      cases hc : (decide (r1.2.1 ≤ st.length) && (st.take r1.2.1).all zplain && decide (r1.2.1 ≤ zMl r1.2.2) && (st.drop r1.2.1).all zplain && decide ((st.drop r1.2.1).length ≤ 8) && zrecv S r1.1 (zMk r1.2.2) (st.take r1.2.1).reverse) with
      | false => rw [hc, cond_false] at hr; cases hr
      | true =>
        rw [hc, cond_true] at hr
        simp only [Bool.and_eq_true, decide_eq_true_eq] at hc
        obtain ⟨⟨⟨⟨⟨c1, c2⟩, c3⟩, c4⟩, c5⟩, c6⟩ := hc
        have hrest : zoks S.1.length (st.drop r1.2.1) := fun v hv => hos v (List.mem_of_mem_drop hv)
        split at hr
        · rename_i v S1 hc1
          obtain ⟨g1, g2, g3⟩ := zrun_mono _ _ _ _ _ _ _ _ hc1
          obtain ⟨f1, f2, f3⟩ := zrun_mono _ _ _ _ _ _ _ _ hr
          simp only at g1 g2 g3
          refine zs_call HT IH hM C hSF hLs hrel hS hos hsh hr1 hd c1 c2 c3 c4 c5 c6 hc1 (by omega) (by omega) (fun ad' H1 locs1 k1 k2 k3 kv => ?_)
          have hv9 : zok S1.1.length v := kv.1 v rfl
          have k9 := IH (d' + 1) M hM (pc + 3) ls (v :: st.drop r1.2.1) S1 r hr hlen (zoks_mono hol g3) (List.forall_mem_cons.mpr ⟨hv9, zoks_mono hrest g3⟩) kv.2 p l e R s m args below meth c A C D cA ad' (zSF_ag hSF k1) H1 locs1 (cells + (S1.2.2.1 - S.2.2.1)) (slots + (S1.2.2.2 - S.2.2.2)) lsC (zlo_ag hL k1 hol) k2 k3 mc ms (by omega) (by omega) hmcR hmsR Qc XC
            (fun v hv hk ad2 t z1 z2 z3 => hQ v hv hk ad2 t (zagt k1 z1 g3) z2 z3) (fun E hE hk ad2 t z1 z2 z3 => hX E hE hk ad2 t (zagt k1 z1 g3) z2 z3)
          rw [List.map_cons, zmap_ag k1 hrest] at k9
          exact k9
        · rename_i S1 hc1
          obtain ⟨g1, g2, g3⟩ := zrun_mono _ _ _ _ _ _ _ _ hc1
          obtain ⟨f1, f2, f3⟩ := zrun_mono _ _ _ _ _ _ _ _ hr
          simp only at g1 g2 g3
          refine zs_call HT IH hM C hSF hLs hrel hS hos hsh hr1 hd c1 c2 c3 c4 c5 c6 hc1 (by omega) (by omega) (fun ad' H1 locs1 k1 k2 k3 kv => ?_)
          have k9 := IH (d' + 1) M hM (pc + 3) ls (st.drop r1.2.1) S1 r hr hlen (zoks_mono hol g3) (zoks_mono hrest g3) kv.2 p l e R s m args below meth c A C D cA ad' (zSF_ag hSF k1) H1 locs1 (cells + (S1.2.2.1 - S.2.2.1)) (slots + (S1.2.2.2 - S.2.2.2)) lsC (zlo_ag hL k1 hol) k2 k3 mc ms (by omega) (by omega) hmcR hmsR Qc XC
            (fun v hv hk ad2 t z1 z2 z3 => hQ v hv hk ad2 t (zagt k1 z1 g3) z2 z3) (fun E hE hk ad2 t z1 z2 z3 => hX E hE hk ad2 t (zagt k1 z1 g3) z2 z3)
          rw [zmap_ag k1 hrest] at k9
          exact k9
        · rename_i E S1 hc1
          obtain ⟨g1, g2, g3⟩ := zrun_mono _ _ _ _ _ _ _ _ hc1
          simp only at g1 g2 g3
          split at hr
          · rename_i hkd
            split at hr
            · rename_i h hh
              split at hr
              · rename_i r2 hr2
                obtain ⟨f1, f2, f3⟩ := zrun_mono _ _ _ _ _ _ _ _ hr
                refine zs_callx HT IH hM C hSF hLs hrel hS hos hsh hr1 hd c1 c2 c3 c4 c5 c6 hkd hc1 (by omega) (by omega) (fun ad' H1 locs1 q9 ce k1 k2 k3 k4 k5 k6 ks => ?_)
                have hl2 : r2.2.length = ls.length := zcatch_len hr2
                refine zs_catch HT hM C (zSF_ag hSF k1) hh hr2 (zlo_ag hL k1 hol) hlen k4 k5 k6 (fun lsC' hL' => ?_)
                exact IH (d' + 1) M hM r2.1 r2.2 [] S1 r hr (by rw [hl2]; exact hlen) (zcatch_ok hr2 (zoks_mono hol g3)) (fun v hv => by cases hv) ks p l e R s m args below meth c A C D cA ad' (zSF_ag hSF k1) H1 locs1 (cells + (S1.2.2.1 - S.2.2.1)) (slots + (S1.2.2.2 - S.2.2.2)) lsC' hL' k2 k3 mc ms (by omega) (by omega) hmcR hmsR Qc XC
                  (fun v hv hk ad2 t z1 z2 z3 => hQ v hv hk ad2 t (zagt k1 z1 g3) z2 z3) (fun E hE hk ad2 t z1 z2 z3 => hX E hE hk ad2 t (zagt k1 z1 g3) z2 z3)
              · cases hr
            · split at hr
              · rename_i hemp
                cases hr
                subst hmc; subst hms
                exact zs_callx HT IH hM C hSF hLs hrel hS hos hsh hr1 hd c1 c2 c3 c4 c5 c6 hkd hc1 hmcR hmsR (fun ad' H1 locs1 q9 ce k1 k2 k3 k4 k5 k6 ks => zs_out C hemp k3 k2 k4 k5 k6 (fun t z1 z2 => hX E rfl ks ad' t k1 z1 z2))
              · cases hr
          · cases hr
        · cases hr
    · cases hr
