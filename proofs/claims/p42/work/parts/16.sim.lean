section
variable {NW : List Cond} {TX : List (String × Nat × String)} {NC : List (String × String)}
variable {p : Program} {l : Launch} {e : Env} {R : Room} {s : State} {m : MethodId} {args : Array Value} {below : List Frame} {meth : Method} {c : Code} {H : Heap} {locs : List Loc} {cells slots : Nat}
variable {pc mc ms d n : Nat} {lsC : Array Slot} {ad : Int → Nat} {D : va_G} {cA : Nat → ClassId} {A : Nat → Prop} {S : zS} {ro : zRo} {M : zM} {ls st : List zV}
variable {Qc : Array Value → State → Outcome → State → Prop} {XC : String → State → State → Prop}
theorem zpool_of (HT : zTab NW TX NC) (C : zctx A d M p l R s m args meth c) (hSF : zSF NW TX NC D cA ad ro A s s.heap) (ck : Nat) : zpool ck args s A ad := by
  obtain ⟨hx, hb, hml, hown, hts, htab, hlk, hret, hnm, hl, hA, hfr, hlo⟩ := C
  obtain ⟨s1, s2, s3, s4, s5, s6, s7, s8, s9⟩ := hSF
  obtain ⟨T1, T2, T3, T4, T5, T6, T7, T8, T9, T10, T11, T12, T13⟩ := HT
  refine ⟨fun k f h => T3 _ _ _ h, fun k q h => T4 _ _ _ h, fun k r h => ?_, fun k h => hts _ (T6 _ _ h), s7, s8, T7⟩
  obtain ⟨h1, host, h2⟩ := T5 _ _ _ h
  exact ⟨h1, host, va_Nw.use (zwarm_tab (s2 _ h2).1) (s2 _ h2).2⟩
theorem zcl_own {c : Nat} {r : vw_C} (h : zcl[c]? = some r) : zown c = r.1 ∧ c < 8 := by
  have hc : c < 8 := (List.getElem?_eq_some_iff.mp h).1
  refine ⟨?_, hc⟩
  match c, hc, h with
  | 0, _, h => cases h; rfl
  | 1, _, h => cases h; rfl
  | 2, _, h => cases h; rfl
  | 3, _, h => cases h; rfl
  | 4, _, h => cases h; rfl
  | 5, _, h => cases h; rfl
  | 6, _, h => cases h; rfl
  | 7, _, h => cases h; rfl
theorem zrecv_spec (hrel : zrel D cA ad A S H) (hK : va_K D zcl (ztys cA) s) {kd ck : Nat} {as : List zV} (h : zrecv S kd ck as = true) (hk : kd = 0 ∨ kd = 3 ∨ kd = 4) : ∃ (o : Int) (as' : List zV), as = (1, o) :: as' ∧ zval ad (1, o) = .ref (ad o) ∧ ∃ cell : Cell, H[ad o]? = some cell ∧ cell.vm.isStatics = false ∧ s.vm.findClass (zown ck) = some cell.cls := by
  unfold zrecv at h
  rw [show (kd == 0 || kd == 3 || kd == 4) = true by rcases hk with rfl | rfl | rfl <;> rfl, cond_true] at h
  split at h
  · rename_i o as'
    have key : ∃ (n : Nat) (e0 : zLE), o = (n : Int) ∧ S.1[n]? = some e0 ∧ e0.1 = 0 ∧ e0.2.1 = ck := by
      rcases Bool.or_eq_true _ _ |>.mp h with h | h
      · obtain ⟨n, hn⟩ := Option.isSome_iff_exists.mp h
        obtain ⟨e0, a1, a2, a3, a4, a5⟩ := zobj_spec hn
        exact ⟨n, e0, a1, a2, a3, a4⟩
      · simp only [Bool.and_eq_true, decide_eq_true_eq] at h
        obtain ⟨h0, h⟩ := h
        split at h
        · rename_i e0 he
          simp only [Bool.and_eq_true, beq_iff_eq] at h
          exact ⟨o.toNat, e0, (Int.toNat_of_nonneg h0).symm, he, h.1, h.2⟩
        · cases h
    obtain ⟨n, e0, rfl, a2, a3, a4⟩ := key
    have hw := zws_at (ad := ad) (cA := cA) a2
    rw [zent0 a3, a4] at hw
    obtain ⟨r, hr, -⟩ := hrel.1 n _ hw
    obtain ⟨c1, c2, c3⟩ := va_recv hK hrel.1 hr hw
    exact ⟨n, as', rfl, zval1 ad n, c1, c2, c3.1, by rw [(zcl_own hr).1]; exact c3.2⟩
  · cases h
theorem ztake_split {st : List zV} {na : Nat} {as' : List zV} {o : Int} (h : (st.take na).reverse = (1, o) :: as') : st.map (zval ad) = (as'.map (zval ad)).reverse ++ (zval ad (1, o) :: (st.drop na).map (zval ad)) := by
  have h1 : st.take na = ((1, o) :: as').reverse := by rw [← h, List.reverse_reverse]
  have h2 : st.map (zval ad) = (st.take na).map (zval ad) ++ (st.drop na).map (zval ad) := by rw [← List.map_append, List.take_append_drop]
  rw [h2, h1]
  simp
theorem ztake_split0 {st : List zV} {na : Nat} : st.map (zval ad) = ((((st.take na).reverse).map (zval ad)).reverse ++ (st.drop na).map (zval ad)) := by
  rw [List.map_reverse, List.reverse_reverse, ← List.map_append, List.take_append_drop]
theorem zrest8 {rest : List zV} (h : rest.all zplain = true) (hl : rest.length ≤ 8) : ((rest.map (zval ad)).map fun v => v.category).sum ≤ 8 := by
  have : ((rest.map (zval ad)).map fun v => v.category).sum = rest.length := by
    have hc := zplain_cat (ad := ad) h
    clear hl h
    induction rest with
    | nil => rfl
    | cons v t ih =>
      simp only [List.map_cons, List.sum_cons, List.length_cons]
      rw [hc _ (by simp), ih (fun w hw => hc w (by simp only [List.map_cons]; exact List.mem_cons_of_mem _ hw))]
      omega
  omega
set_option maxRecDepth 20000 in
theorem zroom_a {x d k : Nat} (h : 60 * (d + 1) + 300 ≤ x) (hk : k ≤ 30) : 8 + (k + 11) + (60 * d + 300) ≤ x := by
  rw [Nat.mul_succ] at h
  generalize 60 * d = z at h ⊢
  omega
theorem zroom_b {y d : Nat} (h : d + 1 + 10 ≤ y) : d + 10 + 1 ≤ y := by omega
theorem zroom_ok {R : Room} {d mc ms : Nat} (hfr : d + 1 + 10 ≤ R.frames) (hlo : 60 * (d + 1) + 300 ≤ R.locals) : (zroom d mc ms).frames + 1 ≤ R.frames ∧ ∀ k, k ≤ 30 → 8 + (k + 11) + (zroom d mc ms).locals ≤ R.locals := ⟨zroom_b hfr, fun k hk => zroom_a hlo hk⟩
/-- a call whose callee comes back -/
theorem zs_call (HT : zTab NW TX NC) (hP : zP NW TX NC ro n) (hM : zM0 M) (C : zctx A (d + 1) M p l R s m args meth c) (hSF : zSF NW TX NC D cA ad ro A s s.heap) (hL : lsC.size = zMl M) (hrel : zrel D cA ad A S H) (hS : va_S A s.heap H locs) (hos : zoks S.1.length st) (hsh : zshort S) {i : Instr} {len : Nat} {r : Nat × Nat × zM} (hi : zinv (zMk M) i len = some r) (hd : decode M.2.1 pc = .ok (i, len))
    (h1 : r.2.1 ≤ st.length) (h2 : (st.take r.2.1).all zplain = true) (h3 : r.2.1 ≤ zMl r.2.2) (h4 : (st.drop r.2.1).all zplain = true) (h5 : (st.drop r.2.1).length ≤ 8) (h6 : zrecv S r.1 (zMk r.2.2) (st.take r.2.1).reverse = true)
    {v : Option zV} {S1 : zS} (hr : zrun ro n d r.2.2 0 (zargs (zMl r.2.2) (st.take r.2.1).reverse) [] S = some (.inl v, S1)) {Q : State → Prop} (hcr : cells + (S1.2.2.1 - S.2.2.1) ≤ R.cells) (hsr : slots + (S1.2.2.2 - S.2.2.2) ≤ R.slots)
    (kk : ∀ ad' H1 locs1, zag S.1.length ad ad' → zrel D cA ad' A S1 H1 → va_S A s.heap H1 locs1 → zvok v S1 → W p l e R s m args below meth c H1 locs1 (cells + (S1.2.2.1 - S.2.2.1)) (slots + (S1.2.2.2 - S.2.2.2)) Q (F0 m (pc + 3) lsC ((v.map (zval ad')).toList ++ (st.drop r.2.1).map (zval ad)))) : W p l e R s m args below meth c H locs cells slots Q (F0 m pc lsC (st.map (zval ad))) := by
  have CC := C
  obtain ⟨hx, hb, hml, hown, hts, htab, hlk, hret, hnm, hl, hA, hfr, hlo⟩ := C
  have hSF' := hSF
  obtain ⟨s1, s2, s3, s4, s5, s6, s7, s8, s9⟩ := hSF
  have HT' := HT
  obtain ⟨T1, T2, T3, T4, T5, T6, T7, T8, T9, T10, T11, T12, T13⟩ := HT
  have hpl : ((st.take r.2.1).reverse).all zplain = true := by rw [List.all_reverse]; exact h2
  have hlen9 : ((st.take r.2.1).reverse).length = r.2.1 := by rw [List.length_reverse, List.length_take]; omega
  have hoka : zoks S.1.length (st.take r.2.1).reverse := fun v hv => hos v (List.mem_of_mem_take (List.mem_reverse.mp hv))
  have met : zMP r.2.2 → Met l r.2.2.1 (zwords r.2.2) (zroom d (S1.2.2.1 - S.2.2.1) (S1.2.2.2 - S.2.2.2)) (zPc NW TX NC D cA ad ro A S (st.take r.2.1).reverse) (zQc D cA ad A S v S1) (S1.2.2.1 - S.2.2.1) (S1.2.2.2 - S.2.2.2) A := fun hM' =>
    zmet_of (zcallee hP hM' hr hpl (by omega) hoka hsh l hl D cA ad A _ _ rfl rfl _ _ (fun v' hv a st o t h => by cases hv; exact h) (fun E hE => by cases hE))
  have hPc : ∀ U : State, U.heap = H → s.WarmedH U.vm → zPc NW TX NC D cA ad ro A S (st.take r.2.1).reverse (((st.take r.2.1).reverse.map (zval ad)).toArray) U := fun U hU hW => by
    refine ⟨rfl, ?_, by rw [hU]; exact hrel, fun q hq => hA q (by rw [hU] at hq; exact Nat.le_trans hS.1 hq)⟩
    rw [hU]
    exact zSF_moved hSF' hW hS.1 hS.2.1
  have rm : (zroom d (S1.2.2.1 - S.2.2.1) (S1.2.2.2 - S.2.2.2)).frames + 1 ≤ R.frames ∧ ∀ k, k ≤ 30 → 8 + (k + 11) + (zroom d (S1.2.2.1 - S.2.2.1) (S1.2.2.2 - S.2.2.2)).locals ≤ R.locals := zroom_ok hfr hlo
  have F : CallFix p m c M.2.1 (zMl M) s args zWS (zown (zMk M)) := ⟨hx, hb, hml, hown, hts⟩
  have hroom : 2 * (F0 m pc lsC (st.map (zval ad))).monitorRoom + (((st.drop r.2.1).map (zval ad)).map fun v => v.category).sum ≤ 8 := lv_room (zrest8 h4 h5)
  have wcode : ∀ h : (zMh r.2.2).isEmpty = true, zwords r.2.2 = Cond.code r.2.2.1 r.2.2.2.1 (zMl r.2.2) (zMr r.2.2) :: zWS := fun h => by unfold zwords zcode; rw [if_pos h]
  unfold zinv at hi
  split at hi
  · rename_i k0
    split at hi
    · rename_i q0 hq0
      split at hi
      · rename_i hk0
        cases hi
        obtain ⟨hM', np, hnp, hcase⟩ := T8 _ _ _ hq0
        have hMM := hM'
        obtain ⟨m1, m2, m3, m4, m5, m6, m7, m8⟩ := hM'
        rcases hcase with ⟨g0, g1, g2, g3, g4, g5⟩ | ⟨g0, -⟩ | ⟨g0, -⟩ | ⟨g0, -⟩ | ⟨g0, -⟩ | ⟨g0, -⟩
        · obtain ⟨o, as', e1, e2, cell, f1, f2, f3⟩ := zrecv_spec hrel s1 h6 (Or.inl g0)
          refine zcall_ret (mc := S1.2.2.1 - S.2.2.1) (ms := S1.2.2.2 - S.2.2.2) (rest := (st.drop r.2.1).map (zval ad)) (va_runV (b := ad o) (As := as'.map (zval ad)) (C := r.2.2.1.cls) F (met hMM)
            (cwV np hts (zgood (fun w hw => ?_)) (wcode g2) rfl rfl ⟨rfl, m7.1, m7.2, hnp⟩ ⟨rm.1, rm.2 _ m8⟩) ⟨zPc_blind, ⟨cell, f1, f2, by rw [m1]; exact f3⟩, fun U hU hW => ?_⟩ rfl ?_ hL ?_ hroom hd ⟨hcr, hsr⟩) hS kk
          · unfold wsV at hw
            rcases List.mem_append.mp hw with hw | hw
            · simp only [List.mem_cons, List.not_mem_nil, or_false] at hw
              rcases hw with rfl | rfl | rfl | rfl <;> assumption
            · exact zwords_good hMM w hw
          · have := hPc U hU hW
            rw [e1, List.map_cons, e2] at this
            rw [e1]
            exact this
          · have := congrArg List.length e1
            rw [hlen9] at this
            simp only [List.length_map, List.length_cons] at this ⊢
            omega
          · show st.map (zval ad) = _
            rw [ztake_split e1, e2]
        all_goals omega
      · cases hi
    · cases hi
  · rename_i k0
    split at hi
    · rename_i q0 hq0
      split at hi
      · rename_i hk0
        cases hi
        obtain ⟨hM', np, hnp, hcase⟩ := T8 _ _ _ hq0
        have hMM := hM'
        obtain ⟨m1, m2, m3, m4, m5, m6, m7, m8⟩ := hM'
        rcases hcase with ⟨g0, -⟩ | ⟨g0, g1, g2, g3, g4, g5⟩ | ⟨g0, g1, g2, ⟨host, g3⟩, g4⟩ | ⟨g0, -⟩ | ⟨g0, -⟩ | ⟨g0, g1, g2, g3, g4, g5⟩
        · omega
        · refine zcall_ret (mc := S1.2.2.1 - S.2.2.1) (ms := S1.2.2.2 - S.2.2.2) (rest := (st.drop r.2.1).map (zval ad)) (va_runS (As := (st.take r.2.1).reverse.map (zval ad)) F (met hMM)
            (cwS np hts (zgood (fun w hw => ?_)) (wcode g2) rfl rfl ⟨g3.symm, m7.1, m7.2, hnp⟩ ⟨rm.1, rm.2 _ m8⟩) ⟨zPc_blind, hPc⟩ rfl (by rw [List.length_map, hlen9]; exact g1) hL ztake_split0 hroom hd ⟨hcr, hsr⟩) hS kk
          unfold wsS at hw
          rcases List.mem_append.mp hw with hw | hw
          · simp only [List.mem_cons, List.not_mem_nil, or_false] at hw
            rcases hw with rfl | rfl | rfl
            · exact g4
            · exact g5
            · rw [g3]; exact m6
          · exact zwords_good hMM w hw
        · refine zcall_ret (mc := S1.2.2.1 - S.2.2.1) (ms := S1.2.2.2 - S.2.2.2) (rest := (st.drop r.2.1).map (zval ad)) (va_runSN (As := (st.take r.2.1).reverse.map (zval ad)) F (met hMM)
            ⟨va_cnB np hts (zgood (zwords_good hMM)) (wcode g2) rfl rfl (s2 _ g3).2 (hts _ m6) ⟨m7.1, m7.2, hnp⟩ ⟨rm.1, rm.2 _ m8⟩, hts _ g4, trivial⟩ ⟨zPc_blind, hPc⟩ rfl (by rw [List.length_map, hlen9]; exact g1) hL ztake_split0 hroom hd ⟨hcr, hsr⟩) hS kk
        · omega
        · omega
        · have wc : zwords r.2.2 = Cond.codeWith r.2.2.1 r.2.2.2.1 (zMl r.2.2) (zMr r.2.2) (zMh r.2.2) :: zWS := by unfold zwords zcode; rw [if_neg (by rw [g2]; decide)]
          refine zcall_ret (mc := S1.2.2.1 - S.2.2.1) (ms := S1.2.2.2 - S.2.2.2) (rest := (st.drop r.2.1).map (zval ad)) (vx_runSW (As := (st.take r.2.1).reverse.map (zval ad)) F (met hMM)
            (vx_cwSW np hts (zgood (fun w hw => ?_)) wc rfl rfl ⟨m7.1, m7.2, hnp⟩ ⟨rm.1, rm.2 _ m8⟩) ⟨zPc_blind, hPc⟩ rfl (by rw [List.length_map, hlen9]; exact g1) hL ztake_split0 hroom hd ⟨hcr, hsr⟩) hS kk
          unfold va_wsS at hw
          rcases List.mem_append.mp hw with hw | hw
          · simp only [List.mem_cons, List.not_mem_nil, or_false] at hw
            rcases hw with rfl | rfl | rfl
            · exact g4
            · exact g5
            · exact m6
          · exact zwords_good hMM w hw
      · cases hi
    · cases hi
  · rename_i k0
    split at hi
    · rename_i q0 hq0
      split at hi
      · rename_i hk0
        cases hi
        obtain ⟨hM', np, hnp, hcase⟩ := T8 _ _ _ hq0
        have hMM := hM'
        obtain ⟨m1, m2, m3, m4, m5, m6, m7, m8⟩ := hM'
        rcases hcase with ⟨g0, -⟩ | ⟨g0, -⟩ | ⟨g0, -⟩ | ⟨g0, g1, g2, g3, g4, g5, g6⟩ | ⟨g0, g1, g2, g3, g4, ⟨host, g5⟩, g6⟩ | ⟨g0, -⟩
        · omega
        · omega
        · omega
        · obtain ⟨o, as', e1, e2, cell, f1, f2, f3⟩ := zrecv_spec hrel s1 h6 (Or.inr (Or.inl g0))
          have wc := wcode g2
          rw [g4] at wc
          refine zcall_ret (mc := S1.2.2.1 - S.2.2.1) (ms := S1.2.2.2 - S.2.2.2) (rest := (st.drop r.2.1).map (zval ad)) (va_runI (b := ad o) (As := as'.map (zval ad)) F (met hMM)
            (cwI np hts (zgood (zwords_good hMM)) wc rfl rfl (hts _ m6) (hts _ g5) (hts _ g6) g3 ⟨m7.1, m7.2, hnp⟩ ⟨rm.1, rm.2 _ m8⟩) ⟨zPc_blind, fun U hU hW => ?_⟩ rfl ?_ hL ?_ hroom hd ⟨hcr, hsr⟩) hS kk
          · have := hPc U hU hW
            rw [e1, List.map_cons, e2] at this
            rw [e1]
            exact this
          · have := congrArg List.length e1
            rw [hlen9] at this
            simp only [List.length_map, List.length_cons] at this ⊢
            omega
          · show st.map (zval ad) = _
            rw [ztake_split e1, e2]
        · obtain ⟨o, as', e1, e2, cell, f1, f2, f3⟩ := zrecv_spec hrel s1 h6 (Or.inr (Or.inr g0))
          have wc := wcode g2
          rw [g4] at wc
          refine zcall_ret (mc := S1.2.2.1 - S.2.2.1) (ms := S1.2.2.2 - S.2.2.2) (rest := (st.drop r.2.1).map (zval ad)) (va_runIN (b := ad o) (As := as'.map (zval ad)) F (met hMM)
            ⟨va_cnB np hts (zgood (zwords_good hMM)) wc rfl rfl (s2 _ g5).2 (hts _ m6) ⟨m7.1, m7.2, hnp⟩ ⟨rm.1, rm.2 _ m8⟩, g3, hts _ g6⟩ ⟨zPc_blind, fun U hU hW => ?_⟩ rfl ?_ hL ?_ hroom hd ⟨hcr, hsr⟩) hS kk
          · have := hPc U hU hW
            rw [e1, List.map_cons, e2] at this
            rw [e1]
            exact this
          · have := congrArg List.length e1
            rw [hlen9] at this
            simp only [List.length_map, List.length_cons] at this ⊢
            omega
          · show st.map (zval ad) = _
            rw [ztake_split e1, e2]
        · omega
      · cases hi
    · cases hi
  · cases hi
end

section
variable {NW : List Cond} {TX : List (String × Nat × String)} {NC : List (String × String)}
variable {p : Program} {l : Launch} {e : Env} {R : Room} {s : State} {m : MethodId} {args : Array Value} {below : List Frame} {meth : Method} {c : Code} {H : Heap} {locs : List Loc} {cells slots : Nat}
variable {pc mc ms d n : Nat} {lsC : Array Slot} {ad : Int → Nat} {D : va_G} {cA : Nat → ClassId} {A : Nat → Prop} {S : zS} {ro : zRo} {M : zM} {ls st : List zV}
/-- a call whose callee throws -/
theorem zs_callx (HT : zTab NW TX NC) (hP : zP NW TX NC ro n) (hM : zM0 M) (C : zctx A (d + 1) M p l R s m args meth c) (hSF : zSF NW TX NC D cA ad ro A s s.heap) (hL : lsC.size = zMl M) (hrel : zrel D cA ad A S H) (hS : va_S A s.heap H locs) (hos : zoks S.1.length st) (hsh : zshort S) {i : Instr} {len : Nat} {r : Nat × Nat × zM} (hi : zinv (zMk M) i len = some r) (hd : decode M.2.1 pc = .ok (i, len))
    (h1 : r.2.1 ≤ st.length) (h2 : (st.take r.2.1).all zplain = true) (h3 : r.2.1 ≤ zMl r.2.2) (h4 : (st.drop r.2.1).all zplain = true) (h5 : (st.drop r.2.1).length ≤ 8) (h6 : zrecv S r.1 (zMk r.2.2) (st.take r.2.1).reverse = true) (hkd : r.1 = 0 ∨ r.1 = 1)
    {E : String} {S1 : zS} (hr : zrun ro n d r.2.2 0 (zargs (zMl r.2.2) (st.take r.2.1).reverse) [] S = some (.inr E, S1)) {Q : State → Prop} (hcr : cells + (S1.2.2.1 - S.2.2.1) ≤ R.cells) (hsr : slots + (S1.2.2.2 - S.2.2.2) ≤ R.slots)
    (kx : ∀ ad' H1 locs1 q ce, zag S.1.length ad ad' → zrel D cA ad' A S1 H1 → va_S A s.heap H1 locs1 → H1[q]? = some ce → ce.vm = .none → s.vm.findClass E = some ce.cls → zshort S1 → vx_W p l e R s m args below meth c H1 locs1 (cells + (S1.2.2.1 - S.2.2.1)) (slots + (S1.2.2.2 - S.2.2.2)) Q (F0 m pc lsC ((st.drop r.2.1).map (zval ad))) q) : W p l e R s m args below meth c H locs cells slots Q (F0 m pc lsC (st.map (zval ad))) := by
  obtain ⟨hx, hb, hml, hown, hts, htab, hlk, hret, hnm, hl, hA, hfr, hlo⟩ := C
  have hSF' := hSF
  obtain ⟨s1, s2, s3, s4, s5, s6, s7, s8, s9⟩ := hSF
  obtain ⟨T1, T2, T3, T4, T5, T6, T7, T8, T9, T10, T11, T12, T13⟩ := HT
  have hpl : ((st.take r.2.1).reverse).all zplain = true := by rw [List.all_reverse]; exact h2
  have hlen9 : ((st.take r.2.1).reverse).length = r.2.1 := by rw [List.length_reverse, List.length_take]; omega
  have hoka : zoks S.1.length (st.take r.2.1).reverse := fun v hv => hos v (List.mem_of_mem_take (List.mem_reverse.mp hv))
  have met : zMP r.2.2 → vx_Met l r.2.2.1 (zwords r.2.2) (zroom d (S1.2.2.1 - S.2.2.1) (S1.2.2.2 - S.2.2.2)) (zPc NW TX NC D cA ad ro A S (st.take r.2.1).reverse) (fun _ _ _ _ => False) (zXC D cA ad A S E S1) (S1.2.2.1 - S.2.2.1) (S1.2.2.2 - S.2.2.2) A := fun hM' =>
    zcallee hP hM' hr hpl (by omega) hoka hsh l hl D cA ad A _ _ rfl rfl _ _ (fun v' hv => by cases hv) (fun E' hE st t h => by cases hE; exact h)
  have hPc : ∀ U : State, U.heap = H → s.WarmedH U.vm → zPc NW TX NC D cA ad ro A S (st.take r.2.1).reverse (((st.take r.2.1).reverse.map (zval ad)).toArray) U := fun U hU hW => by
    refine ⟨rfl, ?_, by rw [hU]; exact hrel, fun q hq => hA q (by rw [hU] at hq; exact Nat.le_trans hS.1 hq)⟩
    rw [hU]
    exact zSF_moved hSF' hW hS.1 hS.2.1
  have rm := zroom_ok (mc := S1.2.2.1 - S.2.2.1) (ms := S1.2.2.2 - S.2.2.2) hfr hlo
  have F : CallFix p m c M.2.1 (zMl M) s args zWS (zown (zMk M)) := ⟨hx, hb, hml, hown, hts⟩
  have hroom : 2 * (F0 m pc lsC (st.map (zval ad))).monitorRoom + (((st.drop r.2.1).map (zval ad)).map fun v => v.category).sum ≤ 8 := lv_room (zrest8 h4 h5)
  have wcode : ∀ h : (zMh r.2.2).isEmpty = true, zwords r.2.2 = Cond.code r.2.2.1 r.2.2.2.1 (zMl r.2.2) (zMr r.2.2) :: zWS := fun h => by unfold zwords zcode; rw [if_pos h]
  unfold zinv at hi
  split at hi
  · rename_i k0
    split at hi
    · rename_i q0 hq0
      split at hi
      · rename_i hk0
        cases hi
        obtain ⟨hM', np, hnp, hcase⟩ := T8 _ _ _ hq0
        have hMM := hM'
        obtain ⟨m1, m2, m3, m4, m5, m6, m7, m8⟩ := hM'
        rcases hcase with ⟨g0, g1, g2, g3, g4, g5⟩ | ⟨g0, -⟩ | ⟨g0, -⟩ | ⟨g0, -⟩ | ⟨g0, -⟩ | ⟨g0, -⟩
        · obtain ⟨o, as', e1, e2, cell, f1, f2, f3⟩ := zrecv_spec hrel s1 h6 (Or.inl g0)
          refine zcall_thr (mc := S1.2.2.1 - S.2.2.1) (ms := S1.2.2.2 - S.2.2.2) (rest := (st.drop r.2.1).map (zval ad)) (vx_runV (b := ad o) (As := as'.map (zval ad)) (C := r.2.2.1.cls) F (met hMM)
            (cwV np hts (zgood (fun w hw => ?_)) (wcode g2) rfl rfl ⟨rfl, m7.1, m7.2, hnp⟩ ⟨rm.1, rm.2 _ m8⟩) ⟨zPc_blind, ⟨cell, f1, f2, by rw [m1]; exact f3⟩, fun U hU hW => ?_⟩ rfl ?_ hL ?_ hroom hd ⟨hcr, hsr⟩) hS kx
          · unfold wsV at hw
            rcases List.mem_append.mp hw with hw | hw
            · simp only [List.mem_cons, List.not_mem_nil, or_false] at hw
              rcases hw with rfl | rfl | rfl | rfl <;> assumption
            · exact zwords_good hMM w hw
          · have := hPc U hU hW
            rw [e1, List.map_cons, e2] at this
            rw [e1]
            exact this
          · have := congrArg List.length e1
            rw [hlen9] at this
            simp only [List.length_map, List.length_cons] at this ⊢
            omega
          · show st.map (zval ad) = _
            rw [ztake_split e1, e2]
        all_goals omega
      · cases hi
    · cases hi
  · rename_i k0
    split at hi
    · rename_i q0 hq0
      split at hi
      · rename_i hk0
        cases hi
        obtain ⟨hM', np, hnp, hcase⟩ := T8 _ _ _ hq0
        have hMM := hM'
        obtain ⟨m1, m2, m3, m4, m5, m6, m7, m8⟩ := hM'
        rcases hcase with ⟨g0, -⟩ | ⟨g0, g1, g2, g3, g4, g5⟩ | ⟨g0, -⟩ | ⟨g0, -⟩ | ⟨g0, -⟩ | ⟨g0, -⟩
        · omega
        · refine zcall_thr (mc := S1.2.2.1 - S.2.2.1) (ms := S1.2.2.2 - S.2.2.2) (rest := (st.drop r.2.1).map (zval ad)) (vx_runS (As := (st.take r.2.1).reverse.map (zval ad)) F (met hMM)
            (cwS np hts (zgood (fun w hw => ?_)) (wcode g2) rfl rfl ⟨g3.symm, m7.1, m7.2, hnp⟩ ⟨rm.1, rm.2 _ m8⟩) ⟨zPc_blind, hPc⟩ rfl (by rw [List.length_map, hlen9]; exact g1) hL ztake_split0 hroom hd ⟨hcr, hsr⟩) hS kx
          unfold wsS at hw
          rcases List.mem_append.mp hw with hw | hw
          · simp only [List.mem_cons, List.not_mem_nil, or_false] at hw
            rcases hw with rfl | rfl | rfl
            · exact g4
            · exact g5
            · rw [g3]; exact m6
          · exact zwords_good hMM w hw
        all_goals omega
      · cases hi
    · cases hi
  · rename_i k0
    split at hi
    · split at hi
      · rename_i hk0
        cases hi
        omega
      · cases hi
    · cases hi
  · cases hi
end
