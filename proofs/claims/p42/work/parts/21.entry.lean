/-! THE CLAIM OUT OF ONE WALK OF THE LAW'S BODY. Your part is whole_start (and what it stands on); all else here is the same for every law, but numbers. -/
def R_law : String := "LintPressLaw"
def lw_P (b : Addr) (xs : List Int32) (args : Array Value) (s : State) : Prop := args = #[.ref b] ∧ s.IntsAt b xs ∧ xs.length ≤ 260 ∧ (Jvm.Cond.and given_1 narrow_1).before args s = true
/-- what a walk over the start with the record d0 says of its end, said of the start itself -/
theorem lw_closed {s t : State} {o : Outcome} {d0 : Drawn} {L : List Loc} {k n : Nat} (hd0 : s.drawn.sameBut d0 lw_cs) (hv : ∃ v, o = .returned v) (hW : (s.setDrawn d0).WarmedH t.vm) (hs : (s.setDrawn d0).sameButNew ({ t with vm := s.vm } : State) L k n) : State.butDraws s t lw_cs (fun t1 => Framed s o t1 L k n) := by
  have h2 : t.drawn = d0 := congrArg State.drawn hs.1
  refine ⟨⟨hv, hW, State.sameButNew.setDrawn hs s.drawn⟩, ?_, by decide⟩
  rw [h2]
  exact hd0
def lw_Q (_ : Array Value) (s : State) (o : Outcome) (t : State) : Prop := o = .returned (some (.int 1)) ∧ State.butDraws s t lw_cs (fun t1 => Framed s o t1 [] 683861 7040784)
def lw_Z (below : List Frame) (a : Array Value) (s : State) : State → Prop := fun t => ∃ o, t.status = .running ∧ Ended t below o ∧ lw_Q a s o t
/-- the law's own end, with 1 on the stack, nothing written that was there before, its room as the claim has it; d0: the record of draws at this point (at the entry s.drawn: begin with 'refine W.base ?_' and 'have hd0 := Drawn.sameBut.refl s.drawn lw_cs') -/
theorem lw_ret {p : Program} {l : Launch} {e : Env} {s : State} {m : MethodId} {below : List Frame} {meth : Method} {c : Code} {b : Nat} {d0 : Drawn} (hd0 : s.drawn.sameBut d0 lw_cs) (hx : p.tables.exec = Jvm.exec) (hb : c.code = code) (hr : meth.sig.returnType = ret) (hlocks : meth.locks = false) {pc : Nat} {H : Heap} {ls : Array Slot} (hdg : decode code pc = .ok (.ireturn, 1)) : W p l e room_1 (s.setDrawn d0) m #[Value.ref b] below meth c H [] 683861 7040784 (lw_Z below #[Value.ref b] s) (F0 m pc ls [.int 1]) := by
  intro T hT X
  obtain ⟨fs, hret, hrun, hended, hW, hframe⟩ := X.leave (v := some (.int 1)) (hlocks := hlocks) (fun h => by rw [hr] at h; cases h)
  have hmeth' : T.vm.method? m = some meth := X.method'
  refine ⟨T.setFrames fs, ?_, .returned (some (.int 1)), hrun, hended, rfl, lw_closed hd0 ⟨_, rfl⟩ hW hframe⟩
  jvm_step X.here [X.here.top, hx, hb, hdg, hmeth', hr, ret, narrow_b1]
  (try refine ⟨rfl, ?_⟩); (try refine ⟨rfl, ?_⟩)
  first | (intro acts; rw [hret _ acts rfl rfl rfl]) | rw [hret _ _ rfl rfl rfl]
  exact Steps.refl _
/-- what holds at the law's entry: the machine, the code, the tables' words (any of lw_tbl by 'hts w (by decide +kernel)'), the script of L ints xs at the cell b, what the Statement gives of the start (any of its parts by flat_of_before) -/
def lw_At (p : Program) (s : State) (m : MethodId) (meth : Method) (c : Code) (b L : Nat) (xs : Nat → Int32) : Prop :=
  p.tables.exec = Jvm.exec ∧ c.code = code ∧ meth.sig.returnType = ret ∧ c.maxLocals = 11 ∧ s.vm.findClass R_law = some m.cls ∧ (∀ w ∈ lw_tbl, w.before #[Value.ref b] s = true) ∧ va_X b L xs s s.heap ∧ b < s.heap.size ∧ meth.locks = false ∧ (Jvm.Cond.and given_1 narrow_1).before #[Value.ref b] s = true ∧ c.exceptionTable.toList = [] ∧ meth.name = x.name
-- ===== YOUR PART BEGINS =====
theorem zforget {s t : State} {L : List Loc} {k n k' n' : Nat} (h : s.sameButNew t L k n) (hL : ∀ q ∈ L, s.heap.size ≤ q.base) (h1 : k ≤ k') (h2 : n ≤ n') : s.sameButNew t [] k' n' := by
  have h := h.mono h1 h2
  obtain ⟨a1, a2, a3, a4, a5, a6⟩ := h
  refine ⟨a1, a2, a3, a4, a5, fun q cc hq => ?_⟩
  obtain ⟨c9, e1, e2, e3, e4⟩ := a6 q cc hq
  exact ⟨c9, e1, e2, e3, fun i _ => e4 i (fun hm => absurd (hL _ hm) (Nat.not_le.mpr (Array.getElem?_eq_some_iff.mp hq).1))⟩
/-- the law, run by the small machine, answers 1 (proved behind) -/
def zgoal (L : Nat) (xs : Nat → Int32) : Prop := ∃ (n : Nat) (S' : zS), zrun (zroF L xs) n 100 mL_law 0 (zargs 11 [(1, -3)]) [] zS0 = some (.inl (some (0, 1)), S') ∧ S'.2.2.1 ≤ 683861 ∧ S'.2.2.2 ≤ 7040784
theorem whole_of {p : Program} {e : Env} {s : State} {m : MethodId} {below : List Frame} {meth : Method} {c : Code} (l : Launch) (hflags : l.flags = flags0) {b L : Nat} {xs : Nat → Int32} (hL : L ≤ 260) (C0 : lw_At p s m meth c b L xs) (G : zgoal L xs) : W p l e room_1 s m #[Value.ref b] below meth c s.heap [] 0 0 (lw_Z below #[Value.ref b] s) (entryFrame m ([Value.ref b] : List Value).toArray 11) := by
  obtain ⟨hx, hb, hr, hml, hown, hts, hX, hbl, hlocks, hgv, htab, hnm⟩ := C0
  obtain ⟨n, S', hrun, k1, k2⟩ := G
  obtain ⟨D, cA, ad, hab, hSF⟩ := z_sf hts hgv hX hbl hL
  have hz : ∀ w ∈ zWS, w.before #[Value.ref b] s = true := fun w hw => hts w (List.mem_filter.mp hw).1
  have hl : l.stackTraces = false := by unfold Launch.stackTraces; rw [hflags]; decide +kernel
  have C : zctx (fun q => s.heap.size ≤ q) 100 mL_law p l room_1 s m #[Value.ref b] meth c := ⟨hx, hb, hml, hown, hz, htab, hlocks, hr, hnm, hl, fun q h => h, by decide, by decide⟩
  rw [lg_entry_eq]
  have e0 : ([Value.ref b] : List Value) = [(1, (-3 : Int))].map (zval ad) := by
    show [Value.ref b] = [va_rf (zrf ad (-3))]
    unfold zrf
    rw [if_neg (by decide), hab]
    rfl
  have hl9 := zentry (ad := ad) (as := [(1, (-3 : Int))]) (n := 11) rfl (by decide)
  rw [← e0] at hl9
  have hok : zoks zS0.1.length [(1, (-3 : Int))] := fun v hv => by rw [List.mem_singleton.mp hv]; exact Or.inr (Or.inr (Or.inl rfl))
  have K := zsim (ro := zroF L xs) zTab_ok n 100 mL_law kL_law 0 _ [] zS0 _ hrun (zargs_len (by decide)) (zargs_ok hok) (fun v hv => by cases hv) (fun k e h => by cases h) p l e room_1 s m #[Value.ref b] below meth c (fun q => s.heap.size ≤ q) C D cA ad hSF s.heap [] 0 0 _ hl9
    ⟨fun k q h => (by cases h), ⟨fun i j p q h => (by cases h), fun k q h => (by cases h)⟩, fun k e h => (by cases h)⟩ va_S.rf (0 + (S'.2.2.1 - zS0.2.2.1)) (0 + (S'.2.2.2 - zS0.2.2.2)) rfl rfl (by show 0 + (S'.2.2.1 - 0) ≤ 683861; omega) (by show 0 + (S'.2.2.2 - 0) ≤ 7040784; omega)
    (fun _ _ o _ => o = .returned (some (.int 1))) (fun _ _ _ => False) (fun v hv _ ad' t _ _ _ => by cases hv; rfl) (fun E hE => by cases hE)
  intro T hT X
  obtain ⟨t, a1, o, q1, q2, q3⟩ := K T hT X
  refine ⟨t, a1, o, q1, q2, ?_⟩
  rcases q3 with ⟨rfl, Ls, ⟨f1, f2, f3⟩, hLs⟩ | ⟨q, -, E, ce, L9, hx9, -⟩
  · refine ⟨rfl, lw_closed (d0 := s.drawn) (Drawn.sameBut.refl s.drawn lw_cs) ⟨_, rfl⟩ f2 (zforget f3 hLs ?_ ?_)⟩
    · show 0 + (S'.2.2.1 - 0) ≤ 683861
      omega
    · show 0 + (S'.2.2.2 - 0) ≤ 7040784
      omega
  · exact hx9.elim
