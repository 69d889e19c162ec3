/-- the main statement, for fuel n: where the small machine comes to r, the machine comes to an end that r says -/
def zP (NW : List Cond) (TX : List (String × Nat × String)) (NC : List (String × String)) (ro : zRo) (n : Nat) : Prop :=
  ∀ (d : Nat) (M : zM), zM0 M → ∀ (pc : Nat) (ls st : List zV) (S : zS) (r : zR), zrun ro n d M pc ls st S = some r → ls.length = zMl M → zoks S.1.length ls → zoks S.1.length st → zshort S →
  ∀ (p : Program) (l : Launch) (e : Env) (R : Room) (s : State) (m : MethodId) (args : Array Value) (below : List Frame) (meth : Method) (c : Code) (A : Nat → Prop), zctx A d M p l R s m args meth c →
  ∀ (D : va_G) (cA : Nat → ClassId) (ad : Int → Nat), zSF NW TX NC D cA ad ro A s s.heap → ∀ (H : Heap) (locs : List Loc) (cells slots : Nat) (lsC : Array Slot), lv_has lsC (zMl M) (zlo ad ls) → zrel D cA ad A S H → va_S A s.heap H locs →
  ∀ (mc ms : Nat), cells + (r.2.2.2.1 - S.2.2.1) = mc → slots + (r.2.2.2.2 - S.2.2.2) = ms → mc ≤ R.cells → ms ≤ R.slots →
  ∀ (Qc : Array Value → State → Outcome → State → Prop) (XC : String → State → State → Prop),
  (∀ v, r.1 = .inl v → zvok v r.2 → ∀ ad' t, zag S.1.length ad ad' → zrel D cA ad' A r.2 t.heap → va_F A s t → Qc args s (.returned (v.map (zval ad'))) t) →
  (∀ E, r.1 = .inr E → zshort r.2 → ∀ ad' t, zag S.1.length ad ad' → zrel D cA ad' A r.2 t.heap → va_F A s t → XC E s t) →
  W p l e R s m args below meth c H locs cells slots (vx_MQ below Qc XC args s mc ms A) (F0 m pc lsC (st.map (zval ad)))
def zwords (M : zM) : List Cond := zcode M :: zWS
theorem zwords_good {M : zM} (h : zMP M) : ∀ w ∈ zwords M, w ∈ zWS := fun w hw => by
  rcases List.mem_cons.mp hw with rfl | hw
  · exact h.2.2.2.2.1
  · exact hw
theorem zagt {n k : Nat} {ad ad' ad'' : Int → Nat} (h1 : zag n ad ad') (h2 : zag k ad' ad'') (hnk : n ≤ k) : zag n ad ad'' := fun z hz => (h2 z (by omega)).trans (h1 z hz)
/-- a callee's contract -/
theorem zcallee {NW : List Cond} {TX : List (String × Nat × String)} {NC : List (String × String)} {ro : zRo} {n : Nat} (hP : zP NW TX NC ro n) {d : Nat} {M : zM} (hM : zMP M) {as : List zV} {S : zS} {r : zR} (hr : zrun ro n d M 0 (zargs (zMl M) as) [] S = some r) (hpl : as.all zplain = true) (hlen : as.length ≤ zMl M) (hok : zoks S.1.length as) (hsh : zshort S) (l : Launch) (hl : l.stackTraces = false) (D : va_G) (cA : Nat → ClassId) (ad : Int → Nat) (A : Nat → Prop) (mc ms : Nat) (hmc : r.2.2.2.1 - S.2.2.1 = mc) (hms : r.2.2.2.2 - S.2.2.2 = ms)
    (Qc : Array Value → State → Outcome → State → Prop) (XC : String → State → State → Prop) (hQ : ∀ v, r.1 = .inl v → ∀ a st o t, zQc D cA ad A S v r.2 a st o t → Qc a st o t) (hX : ∀ E, r.1 = .inr E → ∀ st t, zXC D cA ad A S E r.2 E st t → XC E st t) :
    vx_Met l M.1 (zwords M) (zroom d mc ms) (zPc NW TX NC D cA ad ro A S as) Qc XC mc ms A := by
  have hMM := hM
  obtain ⟨m1, m2, m3, m4, m5, m6, m7, m8⟩ := hM
  have body : ∀ p e s m args below meth c, p.tables.exec = Jvm.exec → c.code = M.2.1 → meth.sig.returnType = zMr M → (∀ w ∈ zwords M, w.before args s = true) → s.vm.findClass M.1.cls = some m.cls → meth.locks = false → meth.name = M.1.name → c.maxLocals = zMl M → c.exceptionTable.toList = tableOf (zMh M) → zPc NW TX NC D cA ad ro A S as args s →
      W p l e (zroom d mc ms) s m args below meth c s.heap [] 0 0 (vx_MQ below Qc XC args s mc ms A) (entryFrame m args (zMl M)) := by
    intro p e s m args below meth c hx hb hret hts hown hlk hnm hml htab hv
    obtain ⟨rfl, hSF, hrel, hA⟩ := hv
    rw [lg_entry_eq]
    have hl9 := zentry (ad := ad) hpl hlen
    have C : zctx A d M p l (zroom d mc ms) s m ((as.map (zval ad)).toArray) meth c := ⟨hx, hb, hml, by rw [← m1]; exact hown, fun w hw => hts w (List.mem_cons_of_mem _ hw), htab, hlk, hret, hnm, hl, hA, Nat.le_refl _, Nat.le_refl _⟩
    refine hP d M hMM.2.2.2.1 0 _ [] S r hr (zargs_len hlen) (zargs_ok hok) (fun v hv => by cases hv) hsh p l e _ s m _ below meth c A C D cA ad hSF s.heap [] 0 0 _ hl9 hrel va_S.rf mc ms (by omega) (by omega) (Nat.le_refl _) (Nat.le_refl _) Qc XC ?_ ?_
    · intro v hv hk ad' t g1 g2 g3
      exact hQ v hv _ _ _ _ ⟨ad', rfl, g1, g2, g3, hk⟩
    · intro E hE hk ad' t g1 g2 g3
      exact hX E hE _ _ ⟨rfl, ad', g1, g2, g3, hk⟩
  by_cases hh : (zMh M).isEmpty = true
  · have hw : zwords M = Cond.code M.1 M.2.1 (zMl M) (zMr M) :: zWS := by unfold zwords zcode; rw [if_pos hh]
    refine vx_ofW (cc := M.2.1) (maxL := zMl M) (ret := zMr M) m3 hw ?_
    intro p e s m args below meth c s₁ B hml htab hv
    refine body p e s m args below meth c B.exec B.bytes B.returns (atoms_spec (ws := zwords M) B.pre) (findClass_of_methodNamed B.named) B.notSynchronized (name_of_methodNamed B.named B.method).1 hml ?_ hv
    rw [List.isEmpty_iff.mp hh]
    show c.exceptionTable.toList = []
    exact List.eq_nil_iff_forall_not_mem.mpr htab
  · have hw : zwords M = Cond.codeWith M.1 M.2.1 (zMl M) (zMr M) (zMh M) :: zWS := by unfold zwords zcode; rw [if_neg hh]
    refine vx_ofWH (cc := M.2.1) (maxL := zMl M) (ret := zMr M) (hh := zMh M) m3 hw ?_
    intro p e s m args below meth c s₁ B hml hv
    have hts := atoms_spec (ws := zwords M) B.pre
    refine body p e s m args below meth c B.exec B.bytes B.returns hts (findClass_of_methodNamed B.named) B.notSynchronized (name_of_methodNamed B.named B.method).1 hml ?_ hv
    exact vx_table (x := M.1) B (hts _ (by rw [hw]; exact List.mem_cons_self))
section
variable {NW : List Cond} {TX : List (String × Nat × String)} {NC : List (String × String)}
variable {p : Program} {l : Launch} {e : Env} {R : Room} {s : State} {m : MethodId} {args : Array Value} {below : List Frame} {meth : Method} {c : Code} {H : Heap} {locs : List Loc} {cells slots : Nat}
variable {pc mc ms d : Nat} {lsC : Array Slot} {ad : Int → Nat} {D : va_G} {cA : Nat → ClassId} {A : Nat → Prop} {S : zS} {ro : zRo} {M : zM} {ls st : List zV}
variable {Qc : Array Value → State → Outcome → State → Prop} {XC : String → State → State → Prop}
theorem zend_ok {ret : Option FieldType} {i : Instr} {len k : Nat} {v : Option zV} (h : zend ret i len st = some v) (hos : zoks k st) : ∀ w, v = some w → zok k w := by
  intro w hw
  unfold zend at h
  repeat' split at h
  all_goals first
    | (cases h; cases hw; exact hos _ List.mem_cons_self)
    | (cases h; cases hw)
    | cases h
theorem zs_end (C : zctx A d M p l R s m args meth c) (hrel : zrel D cA ad A S H) (hS : va_S A s.heap H locs) {i : Instr} {len : Nat} {v : Option zV} (h : zend (zMr M) i len st = some v) (hd : decode M.2.1 pc = .ok (i, len)) (hos : zoks S.1.length st)
    (hQ : ∀ t, zrel D cA ad A S t.heap → va_F A s t → Qc args s (.returned (v.map (zval ad))) t) : W p l e R s m args below meth c H locs cells slots (vx_MQ below Qc XC args s cells slots A) (F0 m pc lsC (st.map (zval ad))) := by
  obtain ⟨hx, hb, hml, hown, hts, htab, hlk, hret, hnm, hl, hA, hfr, hlo⟩ := C
  have hq : ∀ t : State, t.heap = H → s.WarmedH t.vm → Qc args s (.returned (v.map (zval ad))) t := fun t ht _ => hQ t (by rw [ht]; exact hrel) (hS.F ht)
  unfold zend at h
  split at h
  · rename_i hr; cases h
    exact vx_ret (W.iret hx hb (by rw [hret, hr]) hq hS.2.2 hd hlk)
  · rename_i hr
    split at h
    · rename_i hv; cases h
      refine vx_ret (W.zret (ty := .boolean) hx hb (by rw [hret, hr]) ?_ hq hS.2.2 hd hlk)
      rcases hv with rfl | rfl <;> decide +kernel
    · cases h
  · rename_i v0 hr
    split at h
    · rename_i hv; cases h
      refine vx_ret (W.zret (ty := .char) hx hb (by rw [hret, hr]) ?_ hq hS.2.2 hd hlk)
      obtain ⟨n, rfl⟩ := Int.eq_ofNat_of_zero_le hv.1
      have e1 : Int32.ofInt (n : Int) = nI n := by rw [Int32.ofInt_eq_ofNat]; rfl
      rw [e1]
      exact (pk_charN (by omega)).1
    · cases h
  · rename_i hr; cases h
    exact vx_ret (W.lret hx hb (by rw [hret, hr]) hq hS.2.2 hd hlk)
  · rename_i hr; cases h
    exact vx_ret (W.fret hx hb (by rw [hret, hr]) hq hS.2.2 hd hlk)
  · rename_i hr; cases h
    exact vx_ret (W.dret hx hb (by rw [hret, hr]) hq hS.2.2 hd hlk)
  · rename_i hr; cases h
    exact vx_ret (W.aret hx hb (by rw [hret, hr]) (Or.inl ⟨_, rfl⟩) (by show va_rf _ = _ ∨ ∃ a, va_rf _ = _; exact va_rf_or _) hq hS.2.2 hd hlk)
  · rename_i hr; cases h
    exact vx_ret (W.aret hx hb (by rw [hret, hr]) (Or.inr ⟨_, rfl⟩) (by show va_rf _ = _ ∨ ∃ a, va_rf _ = _; exact va_rf_or _) hq hS.2.2 hd hlk)
  · rename_i hr; cases h
    exact vx_ret (W.vret hx hb (by rw [hret, hr]) hq hS.2.2 hd hlk)
  · cases h
/-- an exception of a callee that the table doesn't take -/
theorem zs_out (C : zctx A d M p l R s m args meth c) {E : String} {q : Nat} {ce : Cell} {rest : List Value} (hh : (zMh M).isEmpty = true) (hS : va_S A s.heap H locs) (hrel : zrel D cA ad A S H) (hcell : H[q]? = some ce) (hv : ce.vm = .none) (hcl : s.vm.findClass E = some ce.cls)
    (hX : ∀ t, zrel D cA ad A S t.heap → va_F A s t → XC E s t) : vx_W p l e R s m args below meth c H locs cells slots (vx_MQ below Qc XC args s cells slots A) (F0 m pc lsC rest) q := by
  obtain ⟨hx, hb, hml, hown, hts, htab, hlk, hret, hnm, hl, hA, hfr, hlo⟩ := C
  refine vx_out (fun x hx9 => ?_) hlk hcell hv hcl (fun t ht _ => hX t (by rw [ht]; exact hrel) (hS.F ht)) (fun z hz => hS.2.2 z hz) (Nat.le_refl _) (Nat.le_refl _)
  rw [htab, List.isEmpty_iff.mp hh] at hx9
  cases hx9
theorem zhand_spec {nm : Nat → Option String} {ca : List String} {nc : List (String × String)} {E : String} : ∀ {hh : List (Nat × Nat × Nat × Nat)} {h : Nat}, zhand nm ca nc pc E hh = some h → ∃ pre x suf, hh = pre ++ x :: suf ∧ (∀ z ∈ pre, ¬ (z.1 ≤ pc ∧ pc < z.2.1) ∨ (z.2.2.2 ≠ 0 ∧ ∃ N, nm z.2.2.2 = some N ∧ (E, N) ∈ nc)) ∧ (x.1 ≤ pc ∧ pc < x.2.1) ∧ x.2.2.2 ≠ 0 ∧ nm x.2.2.2 = some E ∧ E ∈ ca ∧ x.2.2.1 = h
  | [], h, hz => by simp [zhand] at hz
  | y :: r, h, hz => by
    unfold zhand at hz
    split at hz
    · rename_i h1
      split at hz
      · rename_i N hN
        split at hz
        · rename_i hNE
          split at hz
          · rename_i h2
            cases hz
            refine ⟨[], y, r, rfl, ?_, h1, h2.2, ?_, ?_, rfl⟩
            · intro z hz; cases hz
            · rw [hN, hNE]
            · simpa using h2.1
          · cases hz
        · split at hz
          · rename_i h2
            obtain ⟨pre, x, suf, a1, a2, a3⟩ := zhand_spec hz
            refine ⟨y :: pre, x, suf, by rw [a1]; rfl, fun z hz => ?_, a3⟩
            rcases List.mem_cons.mp hz with rfl | hz
            · exact Or.inr ⟨h2.2, N, hN, by simpa using h2.1⟩
            · exact a2 z hz
          · cases hz
      · cases hz
    · rename_i h1
      obtain ⟨pre, x, suf, a1, a2, a3⟩ := zhand_spec hz
      refine ⟨y :: pre, x, suf, by rw [a1]; rfl, fun z hz => ?_, a3⟩
      rcases List.mem_cons.mp hz with rfl | hz
      · exact Or.inl h1
      · exact a2 z hz
theorem zs_catch (HT : zTab NW TX NC) (hM : zM0 M) (C : zctx A d M p l R s m args meth c) (hSF : zSF NW TX NC D cA ad ro A s s.heap) {Q : State → Prop} {E : String} {q : Nat} {ce : Cell} {rest : List Value} {h : Nat} {r : Nat × List zV} (hh : zhand (zexn (zMk M)) zCA zNC pc E (zMh M) = some h) (hc : zcatch (zMt M) h ls = some r) (hL : lv_has lsC (zMl M) (zlo ad ls)) (hlen : ls.length = zMl M) (hcell : H[q]? = some ce) (hv : ce.vm = .none) (hcl : s.vm.findClass E = some ce.cls)
    (kk : ∀ lsC', lv_has lsC' (zMl M) (zlo ad r.2) → W p l e R s m args below meth c H locs cells slots Q (F0 m r.1 lsC' [])) : vx_W p l e R s m args below meth c H locs cells slots Q (F0 m pc lsC rest) q := by
  obtain ⟨hx, hb, hml, hown, hts, htab, hlk, hret, hnm, hl, hA, hfr, hlo⟩ := C
  have m4 : ∀ q ∈ zMt M, decode M.2.1 q.1 = .ok q.2 := hM
  obtain ⟨s1, s2, s3, s4, s5, s6, s7, s8, s9⟩ := hSF
  obtain ⟨T1, T2, T3, T4, T5, T6, T7, T8, T9, T10, T11, T12, T13⟩ := HT
  obtain ⟨pre, x, suf, a1, a2, a3, a4, a5, a6, a7⟩ := zhand_spec hh
  have mk : ∀ y : Nat × Nat × Nat × Nat, covers ⟨y.1, y.2.1, y.2.2.1, y.2.2.2⟩ pc = (decide (y.1 ≤ pc) && decide (pc < y.2.1)) := fun y => by first | rfl | simp [covers]
  refine vx_catch (own := zown (zMk M)) (name := E) (E := E) hown (tableOf pre) ⟨x.1, x.2.1, x.2.2.1, x.2.2.2⟩ (tableOf suf) (by rw [htab, a1]; simp [tableOf]) (fun z hz => ?_) (by rw [mk]; simp [a3]) a4 (hts _ (T9 _ _ _ a5)) (va_Nw.use (zwarm_tab (s2 _ (T12 _ a6)).1) (s2 _ (T12 _ a6)).2) hcell hv hcl ?_
  · obtain ⟨y, hy, rfl⟩ := List.mem_map.mp hz
    rcases a2 y hy with h | ⟨h0, N, hN, hNc⟩
    · left
      rw [mk]
      simp only [Bool.and_eq_false_iff, decide_eq_false_iff_not]
      omega
    · exact Or.inr ⟨h0, N, hts _ (T9 _ _ _ hN), s4 _ (T13 _ hNc)⟩
  · show W p l e R s m args below meth c H locs cells slots Q (F0 m x.2.2.1 lsC [.ref q])
    rw [a7]
    unfold zcatch at hc
    split at hc
    · rename_i k0 hk
      split at hc
      · rename_i hk2
        cases hc
        refine lv_astore_n hx hb (m4 (h, _) (zget_mem hk)) rfl hL (by rw [← hlen]; exact hk2) rfl (fun l' hl' => kk l' ?_)
        exact zput_has0 hl'
      · cases hc
    · rename_i k0 hk
      split at hc
      · rename_i hk2
        cases hc
        refine lv_astore hx hb (m4 (h, _) (zget_mem hk)) hL (by rw [← hlen]; exact hk2) rfl (fun l' hl' => kk l' ?_)
        exact zput_has0 hl'
      · cases hc
    · cases hc
end
