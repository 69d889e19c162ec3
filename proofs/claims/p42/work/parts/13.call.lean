/-! calls -/
theorem zheap_mono {fld : Nat → Option (Nat × Nat × Nat × Bool × Bool)} {cls : Nat → Option (Nat × Nat)} {fty : Nat → Nat → Nat} {ref : Nat → Bool} {stc : Nat → Option Int} {ctor : Bool} {ro : zRo} {i : Instr} {len : Nat} {st : List zV} {S : zS} {r : List zV × zS} (h : zheap fld cls fty ref stc ctor ro i len st S = some r) : S.2.2.1 ≤ r.2.2.2.1 ∧ S.2.2.2 ≤ r.2.2.2.2 ∧ S.1.length ≤ r.2.1.length := by
  have a1 : ∀ (st1 : List zV), some (st1, S) = some r → S.2.2.1 ≤ r.2.2.2.1 ∧ S.2.2.2 ≤ r.2.2.2.2 ∧ S.1.length ≤ r.2.1.length := fun st1 h => by cases h; exact ⟨Nat.le_refl _, Nat.le_refl _, Nat.le_refl _⟩
  have a2 : ∀ (st1 : List zV) (a j : Nat) (v : Int), some (st1, zset S a j v) = some r → S.2.2.1 ≤ r.2.2.2.1 ∧ S.2.2.2 ≤ r.2.2.2.2 ∧ S.1.length ≤ r.2.1.length := fun st1 a j v h => by cases h; exact ⟨Nat.le_refl _, Nat.le_refl _, Nat.le_refl _⟩
  have a3 : ∀ (st1 : List zV) (e1 : zLE) (f : Nat → Int), some (st1, znew S e1 f) = some r → S.2.2.1 ≤ r.2.2.2.1 ∧ S.2.2.2 ≤ r.2.2.2.2 ∧ S.1.length ≤ r.2.1.length := fun st1 e1 f h => by
    cases h
    exact ⟨Nat.le_succ _, Nat.le_add_right _ _, by show _ ≤ (S.1 ++ [e1]).length; simp⟩
  unfold zheap at h
  repeat' split at h
  all_goals first
    | exact a1 _ h
    | exact a2 _ _ _ _ h
    | exact a3 _ _ _ h
    | cases h
theorem zrun_mono {ro : zRo} : ∀ (n d : Nat) (M : zM) (pc : Nat) (ls st : List zV) (S : zS) (r : zR), zrun ro n d M pc ls st S = some r → S.2.2.1 ≤ r.2.2.2.1 ∧ S.2.2.2 ≤ r.2.2.2.2 ∧ S.1.length ≤ r.2.1.length
  | 0, _, _, _, _, _, _, _, h => by unfold zrun at h; cases h
  | n + 1, d, M, pc, ls, st, S, r, h => by
    have ih := zrun_mono (ro := ro) n
    unfold zrun at h
    split at h
    · cases h
    split at h
    · exact ih _ _ _ _ _ _ _ h
    split at h
    · exact ih _ _ _ _ _ _ _ h
    split at h
    · exact ih _ _ _ _ _ _ _ h
    split at h
    · exact ih _ _ _ _ _ _ _ h
    split at h
    · cases h; exact ⟨Nat.le_refl _, Nat.le_refl _, Nat.le_refl _⟩
    split at h
    · split at h
      · cases h; exact ⟨Nat.le_succ _, Nat.le_add_right _ _, Nat.le_refl _⟩
      · cases h
    split at h
    · rename_i r1 hr1
      obtain ⟨g1, g2, g3⟩ := zheap_mono hr1
      obtain ⟨f1, f2, f3⟩ := ih _ _ _ _ _ _ _ h
      exact ⟨by omega, by omega, by omega⟩
    split at h
    · rename_i d' r1 hr1
      cases hc : (decide (r1.2.1 ≤ st.length) && (st.take r1.2.1).all zplain && decide (r1.2.1 ≤ zMl r1.2.2) && (st.drop r1.2.1).all zplain && decide ((st.drop r1.2.1).length ≤ 8) && zrecv S r1.1 (zMk r1.2.2) (st.take r1.2.1).reverse) with
      | false => rw [hc, cond_false] at h; cases h
      | true =>
        rw [hc, cond_true] at h
        split at h
        · rename_i hc1
          obtain ⟨g1, g2, g3⟩ := ih _ _ _ _ _ _ _ hc1
          obtain ⟨f1, f2, f3⟩ := ih _ _ _ _ _ _ _ h
          simp only at g1 g2 g3
          exact ⟨by omega, by omega, by omega⟩
        · rename_i hc1
          obtain ⟨g1, g2, g3⟩ := ih _ _ _ _ _ _ _ hc1
          obtain ⟨f1, f2, f3⟩ := ih _ _ _ _ _ _ _ h
          simp only at g1 g2 g3
          exact ⟨by omega, by omega, by omega⟩
        · rename_i hc1
          obtain ⟨g1, g2, g3⟩ := ih _ _ _ _ _ _ _ hc1
          simp only at g1 g2 g3
          split at h
          · split at h
            · split at h
              · obtain ⟨f1, f2, f3⟩ := ih _ _ _ _ _ _ _ h
                exact ⟨by omega, by omega, by omega⟩
              · cases h
            · split at h
              · cases h; exact ⟨g1, g2, g3⟩
              · cases h
          · cases h
        · cases h
    · cases h
/-- an answer in its range, and short arrays -/
def zvok (v : Option zV) (S1 : zS) : Prop := (∀ w, v = some w → zok S1.1.length w) ∧ zshort S1
def zQc (D : va_G) (cA : Nat → ClassId) (ad : Int → Nat) (A : Nat → Prop) (S : zS) (v : Option zV) (S1 : zS) : Array Value → State → Outcome → State → Prop := fun _ st o t => ∃ ad', o = .returned (v.map (zval ad')) ∧ zag S.1.length ad ad' ∧ zrel D cA ad' A S1 t.heap ∧ va_F A st t ∧ zvok v S1
def zXC (D : va_G) (cA : Nat → ClassId) (ad : Int → Nat) (A : Nat → Prop) (S : zS) (E0 : String) (S1 : zS) : String → State → State → Prop := fun E st t => E = E0 ∧ ∃ ad', zag S.1.length ad ad' ∧ zrel D cA ad' A S1 t.heap ∧ va_F A st t ∧ zshort S1
def zPc (NW : List Cond) (TX : List (String × Nat × String)) (NC : List (String × String)) (D : va_G) (cA : Nat → ClassId) (ad : Int → Nat) (ro : zRo) (A : Nat → Prop) (S : zS) (as : List zV) : Array Value → State → Prop := va_Pc (as.map (zval ad)) (fun U => zSF NW TX NC D cA ad ro A U U.heap ∧ zrel D cA ad A S U.heap ∧ ∀ q, U.heap.size ≤ q → A q)
section
variable {p : Program} {l : Launch} {e : Env} {R : Room} {s : State} {m : MethodId} {args : Array Value} {below : List Frame} {meth : Method} {c : Code} {H : Heap} {locs : List Loc} {cells slots : Nat} {Q : State → Prop}
variable {cc : ByteArray} {pc mc ms : Nat} {lsC : Array Slot} {ad : Int → Nat} {rest st0 : List Value} {D : va_G} {cA : Nat → ClassId} {A : Nat → Prop} {S S1 : zS} {ro : zRo} {v : Option zV} {a : Array Value} {E : String}
variable {NW : List Cond} {TX : List (String × Nat × String)} {NC : List (String × String)}
theorem zPc_blind {as : List zV} : FrameBlind (zPc NW TX NC D cA ad ro A S as) := by
  intro a U g mk h
  obtain ⟨h1, h2, h3, h4⟩ := h
  have hW : U.WarmedH (U.calling g mk a).vm := State.WarmedH.refl U
  exact ⟨h1, zSF_moved (U := U.calling g mk a) h2 hW (Nat.le_refl _) (fun _ _ _ => rfl), h3, h4⟩
theorem zcall_ret (hr : va_Run p l e R s m args below meth c H locs cells slots mc ms (F0 m pc lsC st0) rest (zQc D cA ad A S v S1 a) A) (hS : va_S A s.heap H locs)
    (kk : ∀ ad' H1 locs1, zag S.1.length ad ad' → zrel D cA ad' A S1 H1 → va_S A s.heap H1 locs1 → zvok v S1 → W p l e R s m args below meth c H1 locs1 (cells + mc) (slots + ms) Q (F0 m (pc + 3) lsC ((v.map (zval ad')).toList ++ rest))) : W p l e R s m args below meth c H locs cells slots Q (F0 m pc lsC st0) := by
  intro T hT X
  obtain ⟨v', st₀, t, T', L, h0, X', hL, e1, e2, ⟨ad', ho, hag, hrel, ⟨hz, hk⟩, hvk⟩, st⟩ := hr T hT X
  cases ho
  rw [h0] at hz hk
  obtain ⟨t2, a1, b1⟩ := kk ad' T'.heap (locs ++ L) hag (by rw [e1]; exact hrel)
    ⟨Nat.le_trans hS.1 (by rw [e1]; exact hz), fun q h1 h2 => by rw [e1, hk q (Nat.lt_of_lt_of_le h1 hS.1) h2]; exact hS.2.1 q h1 h2, fun q hq => by
      rcases List.mem_append.mp hq with h | h
      · exact hS.2.2 q h
      · exact hL q h⟩ hvk T' rfl X'
  exact ⟨t2, st t2 a1, b1⟩
theorem zcall_thr (hr : vx_Run p l e R s m args below meth c H locs cells slots mc ms (F0 m pc lsC st0) rest (fun _ _ _ => False) (zXC D cA ad A S E S1) A) (hS : va_S A s.heap H locs)
    (kx : ∀ ad' H1 locs1 q ce, zag S.1.length ad ad' → zrel D cA ad' A S1 H1 → va_S A s.heap H1 locs1 → H1[q]? = some ce → ce.vm = .none → s.vm.findClass E = some ce.cls → zshort S1 → vx_W p l e R s m args below meth c H1 locs1 (cells + mc) (slots + ms) Q (F0 m pc lsC rest) q) : W p l e R s m args below meth c H locs cells slots Q (F0 m pc lsC st0) := by
  intro T hT X
  rcases hr T hT X with ⟨_, _, _, _, _, _, _, _, _, _, hf, _⟩ | ⟨q, st₀, t, T', L, E1, ce, h0, X', hL, e1, e2, ⟨rfl, ad', hag, hrel, ⟨hz, hk⟩, hsk⟩, hce, hcv, hcl, st⟩
  · exact hf.elim
  · rw [h0] at hz hk
    obtain ⟨t2, a1, b1⟩ := kx ad' T'.heap (locs ++ L) q ce hag (by rw [e1]; exact hrel)
      ⟨Nat.le_trans hS.1 (by rw [e1]; exact hz), fun q h1 h2 => by rw [e1, hk q (Nat.lt_of_lt_of_le h1 hS.1) h2]; exact hS.2.1 q h1 h2, fun q hq => by
        rcases List.mem_append.mp hq with h | h
        · exact hS.2.2 q h
        · exact hL q h⟩ (by rw [e1]; exact hce) hcv hcl hsk T' rfl X'
    exact ⟨t2, st.trans a1, b1⟩
theorem zWS_good {w : Cond} (h : w ∈ zWS) : w ∈ zWS ∧ ((w.onTables && w.keeps) = true ∨ ∃ ty, w = .arrayClass ty) := ⟨h, good_of_word (List.mem_filter.mp h).2⟩
theorem zgood {ws : List Cond} (h : ∀ w ∈ ws, w ∈ zWS) : GoodIn zWS ws := fun w hw => zWS_good (h w hw)
theorem zmet_of {y : MethodName} {ws : List Cond} {rm : Room} {Pc : Array Value → State → Prop} {Qc : Array Value → State → Outcome → State → Prop} {free : Addr → Prop} (h : vx_Met l y ws rm Pc Qc (fun _ _ _ => False) mc ms free) : Met l y ws rm Pc Qc mc ms free := by
  intro p e h1 h2 h3 s m args below h4 h5 h6 h7
  obtain ⟨n, o, a, b, c, d⟩ := h p e h1 h2 h3 s m args below h4 h5 h6 h7
  refine ⟨n, o, a, b, c, ?_⟩
  rcases d with d | ⟨q, _, E, ce, L, hx, _⟩
  · exact d
  · exact hx.elim
theorem zlv_args {vs : List Value} (hc : ∀ v ∈ vs, v.category = 1) : ∀ (i j : Nat) (v : Value), vs[j]? = some v → (i + j, v) ∈ lv_args i vs := by
  induction vs with
  | nil => intro i j v h; simp at h
  | cons w t ih =>
    intro i j v h
    have h1 : w.category = 1 := hc w List.mem_cons_self
    have e1 : lv_args i (w :: t) = (i, w) :: lv_args (i + 1) t := by show (i, w) :: lv_args (if w.category = 2 then i + 2 else i + 1) t = _; rw [if_neg (by omega)]
    rw [e1]
    cases j with
    | zero => simp at h; subst h; exact List.mem_cons_self
    | succ j =>
      simp at h
      have := ih (fun v hv => hc v (List.mem_cons_of_mem _ hv)) (i + 1) j v h
      rw [show i + (j + 1) = i + 1 + j by omega]
      exact List.mem_cons_of_mem _ this
theorem zlg_len {vs : List Value} (hc : ∀ v ∈ vs, v.category = 1) : (lg_sl vs).length = vs.length := by
  induction vs with
  | nil => rfl
  | cons w t ih =>
    have h1 : w.category = 1 := hc w List.mem_cons_self
    have ih := ih (fun v hv => hc v (List.mem_cons_of_mem _ hv))
    unfold lg_sl at ih ⊢
    rw [List.flatMap_cons, if_neg (by omega), List.length_append, ih]
    simp; omega
theorem zplain_cat {as : List zV} (h : as.all zplain = true) : ∀ v ∈ as.map (zval ad), v.category = 1 := by
  intro v hv
  obtain ⟨w, hw, rfl⟩ := List.mem_map.mp hv
  have := List.all_eq_true.mp h w hw
  unfold zplain at this
  rw [zcatv, if_neg]
  simp only [Bool.or_eq_true, beq_iff_eq] at this
  omega
theorem zentry {as : List zV} {n : Nat} (h : as.all zplain = true) (hn : as.length ≤ n) : lv_has ((lg_sl (as.map (zval ad)) ++ List.replicate (n - (lg_sl (as.map (zval ad))).length) Slot.unset).toArray) n (zlo ad (zargs n as)) := by
  have hc := zplain_cat (ad := ad) h
  refine zlo_sub (lv_entry (as.map (zval ad)) (n := n) (by rw [zlg_len hc]; simpa using hn)) (fun q hq => ?_)
  obtain ⟨w, h1, h2, h3⟩ := zlo_mem.mp hq
  unfold zargs at h1
  by_cases hl : q.1 < as.length
  · rw [List.getElem?_append_left hl] at h1
    have := zlv_args hc 0 q.1 (zval ad w) (by rw [List.getElem?_map, h1]; rfl)
    rw [Nat.zero_add, ← h3] at this
    exact this
  · rw [List.getElem?_append_right (by omega)] at h1
    have := List.mem_of_getElem? h1
    rw [List.mem_replicate] at this
    exact absurd (by rw [this.2]) h2
theorem zargs_len {as : List zV} {n : Nat} (hn : as.length ≤ n) : (zargs n as).length = n := by unfold zargs; simp; omega
theorem zargs_ok {as : List zV} {n k : Nat} (h : zoks k as) : zoks k (zargs n as) := by
  intro v hv
  rcases List.mem_append.mp hv with h1 | h1
  · exact h v h1
  · rw [(List.mem_replicate.mp h1).2]; trivial
end
