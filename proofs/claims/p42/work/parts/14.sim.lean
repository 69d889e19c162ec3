/-! the whole machine follows the small one -/
/-- what the claim's words say of all tables -/
def zTab (NW : List Cond) (TX : List (String × Nat × String)) (NC : List (String × String)) : Prop :=
  (∀ c k v, zcon c k = some v → Cond.constant (zown c) k (Int32.ofInt v) ∈ zWS ∧ zi32 v) ∧
  (∀ c k, (zmth c k = 1 → Cond.methodLink (zown c) k Lib.Math.max.name ∈ zWS ∧ Cond.static Lib.Math.max.name ∈ zWS ∧ Cond.initialized "java/lang/Math" ∈ zWS ∧ Cond.code Lib.Math.max.name Lib.Math.max.code 2 (some .int) ∈ zWS) ∧
    (zmth c k = 2 → Cond.methodLink (zown c) k Lib.Math.min.name ∈ zWS ∧ Cond.static Lib.Math.min.name ∈ zWS ∧ Cond.initialized "java/lang/Math" ∈ zWS ∧ Cond.code Lib.Math.min.name Lib.Math.min.code 2 (some .int) ∈ zWS) ∧
    (zmth c k = 3 → Cond.methodLink (zown c) k Lib.objectInit ∈ zWS ∧ Cond.instanceMethod Lib.objectInit ∈ zWS ∧ Cond.code Lib.objectInit ⟨#[0xb1]⟩ 1 none ∈ zWS)) ∧
  (∀ c k f, zfld c k = some f → zfldP c k f) ∧ (∀ c k q, zcls c k = some q → zclsP c k q) ∧
  (∀ c k r, zstc c k = some r → r = -2 ∧ ∃ host, Cond.fieldLinkNest (zown c) k RX7 "FIRST_WEIGHTS" "[I" host ∈ NW) ∧
  (∀ c k, zref c k = true → Cond.classLink (zown c) k RX1 ∈ zWS) ∧
  (Cond.arrayClass .int ∈ zWS ∧ Cond.arrayClass .char ∈ zWS ∧ Cond.arrayClass .boolean ∈ zWS) ∧
  (∀ c k q, zcall c k = some q → zcallP NW c k q) ∧ (∀ c k E, zexn c k = some E → zexnP c k E) ∧ (∀ c k E, zxic c k = some E → zxicP NW c k E) ∧
  (∀ c k tx, zstr c k = some tx → (zown c, k, tx) ∈ TX) ∧ (∀ E ∈ zCA, Cond.castable E E ∈ NW) ∧ (∀ q ∈ zNC, q ∈ NC)
theorem zget_mem : ∀ {t : List (Nat × Instr × Nat)} {k : Nat} {q : Instr × Nat}, zget t k = some q → (k, q) ∈ t
  | [], _, _, h => by simp [zget] at h
  | x :: r, k, q, h => by
    unfold zget at h
    cases hb : Nat.beq x.1 k with
    | true =>
      rw [hb, cond_true] at h
      have e1 := Nat.eq_of_beq_eq_true hb
      cases h
      rw [← e1]
      exact List.mem_cons_self
    | false => rw [hb, cond_false] at h; exact List.mem_cons_of_mem _ (zget_mem h)
theorem zrel_heap {D : va_G} {cA : Nat → ClassId} {ad : Int → Nat} {A : Nat → Prop} {S : zS} {H H1 : Heap} (h : zrel D cA ad A S H) (hk : ∀ q : Nat, q < H.size → H1[q]? = H[q]?) : zrel D cA ad A S H1 := by
  unfold zrel at h ⊢
  exact ⟨h.1.kept (fun k q hq => hk _ (h.1 k q hq).lt), h.2.1, h.2.2⟩
theorem zrel_cnt {D : va_G} {cA : Nat → ClassId} {ad : Int → Nat} {A : Nat → Prop} {S : zS} {H : Heap} (h : zrel D cA ad A S H) (a b : Nat) : zrel D cA ad A (S.1, S.2.1, a, b) H := by
  unfold zrel at h ⊢
  have e : zws ad cA (S.1, S.2.1, a, b) = zws ad cA S := rfl
  rw [e]
  exact h
theorem zput_has0 {ad : Int → Nat} {ls : List zV} {lsC : Array Slot} {n i : Nat} {w : Value} (h : lv_has lsC n ((i, w) :: (zlo ad ls).filter (fun q => !(q.1 == i) && !(q.1 + 1 == i && q.2.category == 2)))) : lv_has lsC n (zlo ad (zput ls i (9, 0))) := by
  refine zlo_sub h (fun q hq => ?_)
  obtain ⟨w2, h1, h2, h3⟩ := zlo_mem.mp hq
  rcases zput_get h1 h2 with ⟨a, b⟩ | ⟨a, b, c⟩
  · exact absurd (by rw [b]) h2
  · refine List.mem_cons.mpr (Or.inr (List.mem_filter.mpr ⟨zlo_mem.mpr ⟨w2, b, h2, h3⟩, ?_⟩))
    rw [h3, zcatv]
    simp only [Bool.and_eq_true, Bool.not_eq_true', beq_eq_false_iff_ne, ne_eq, Bool.and_eq_false_iff]
    refine ⟨a, ?_⟩
    by_cases e : q.1 + 1 = i
    · right
      rw [if_neg (fun e2 => c ⟨e, e2⟩)]
      decide
    · exact Or.inl e
/-- what holds in a body -/
def zctx (A : Nat → Prop) (d : Nat) (M : zM) (p : Program) (l : Launch) (R : Room) (s : State) (m : MethodId) (args : Array Value) (meth : Method) (c : Code) : Prop :=
  p.tables.exec = Jvm.exec ∧ c.code = M.2.1 ∧ c.maxLocals = zMl M ∧ s.vm.findClass (zown (zMk M)) = some m.cls ∧ (∀ w ∈ zWS, w.before args s = true) ∧ c.exceptionTable.toList = tableOf (zMh M) ∧ meth.locks = false ∧ meth.sig.returnType = zMr M ∧ meth.name = M.1.name ∧ l.stackTraces = false ∧ (∀ q, s.heap.size ≤ q → A q) ∧ d + 10 ≤ R.frames ∧ 60 * d + 300 ≤ R.locals
theorem zwarm_tab {w : Cond} (h : zwarm w = true) : w.onTables = true := by
  unfold zwarm at h
  split at h <;> first | rfl | cases h
section
variable {NW : List Cond} {TX : List (String × Nat × String)} {NC : List (String × String)} (HT : zTab NW TX NC)
variable {p : Program} {l : Launch} {e : Env} {R : Room} {s : State} {m : MethodId} {args : Array Value} {below : List Frame} {meth : Method} {c : Code} {H : Heap} {locs : List Loc} {cells slots : Nat}
variable {pc mc ms d : Nat} {lsC : Array Slot} {ad : Int → Nat} {D : va_G} {cA : Nat → ClassId} {A : Nat → Prop} {S : zS} {ro : zRo} {M : zM} {ls st : List zV}
variable {Qc : Array Value → State → Outcome → State → Prop} {XC : String → State → State → Prop}
set_option maxHeartbeats 1000000 in
theorem zs_throw (HT : zTab NW TX NC) (hM : zM0 M) (C : zctx A d M p l R s m args meth c) (hSF : zSF NW TX NC D cA ad ro A s s.heap) (hrel : zrel D cA ad A S H) (hS : va_S A s.heap H locs) (hsz : lsC.size = zMl M) {q : Instr × Nat} (hq : zget (zMt M) pc = some q) {r : String × Nat × Nat × Nat × Bool} (hr : zthr (zexn (zMk M)) (zMt M) pc q.1 q.2 = some r)
    (h1 : (zstr (zMk M) r.2.2.1).isSome = true) (h2 : zxic (zMk M) r.2.2.2.1 = some r.1) (h3 : (zMh M).isEmpty = true) (h4 : st.length ≤ 50) (hcr : cells + 1 ≤ R.cells) (hsr : slots + 6 ≤ R.slots) (hc : cells + 1 ≤ mc) (hs : slots + 6 ≤ ms)
    (hX : ∀ t, zrel D cA ad A (S.1, S.2.1, S.2.2.1 + 1, S.2.2.2 + 6) t.heap → va_F A s t → XC r.1 s t) : W p l e R s m args below meth c H locs cells slots (vx_MQ below Qc XC args s mc ms A) (F0 m pc lsC (st.map (zval ad))) := by
  obtain ⟨hx, hb, hml, hown, hts, htab, hlk, hret, hnm, hl, hA, hfr, hlo⟩ := C
  have m4 : ∀ q ∈ zMt M, decode M.2.1 q.1 = .ok q.2 := hM
  obtain ⟨tx, htx⟩ := Option.isSome_iff_exists.mp h1
  obtain ⟨s1, s2, s3, s4, s5, s6, s7, s8, s9⟩ := hSF
  obtain ⟨T1, T2, T3, T4, T5, T6, T7, T8, T9, T10, T11, T12, T13⟩ := HT
  obtain ⟨Y, rn, ix, rx, n1, nY, n2, n3, ⟨x0, x1, x2, x5⟩, n4, n5⟩ := T10 _ _ _ h2
  obtain ⟨sa, hsa⟩ := s3 _ (T11 _ _ _ htx)
  have hat : ∀ w ∈ zx_at (zown (zMk M)) r.2.2.2.1 r.1 Y rn ix rx, w.before args s = true := fun w hw => by
    rcases (n5 w hw).2 with h | h
    · exact hts w h
    · exact va_Nw.use (zwarm_tab (s2 w h).1) (s2 w h).2
  have got : ∀ w, w ∈ zWS → vx_ot w = true := fun w hw => by unfold vx_ot; rw [(List.mem_filter.mp hw).2, Bool.or_true]
  have hout : ∀ pc' : Nat, ∀ x ∈ c.exceptionTable.toList, covers x pc' = false := by
    intro pc' x hx9
    rw [htab, List.isEmpty_iff.mp h3] at hx9
    cases hx9
  have hcat := zsumcat ad st
  have hxx : ∀ t : State, s.vm.Alike t.vm → H.size ≤ t.heap.size → (∀ q : Nat, q < H.size → t.heap[q]? = H[q]?) → XC r.1 s t := by
    intro t _ g1 g2
    refine hX t (zrel_cnt (zrel_heap hrel g2) _ _) ⟨Nat.le_trans hS.1 g1, fun q a1 a2 => ?_⟩
    rw [g2 q (Nat.lt_of_lt_of_le a1 hS.1)]
    exact hS.2.1 q a1 a2
  have dec : ∀ k i, zget (zMt M) k = some i → decode M.2.1 k = .ok i := fun k i hk => m4 (k, i) (zget_mem hk)
  unfold zthr at hr
  split at hr
  · rename_i xx k0 h0 h00
    split at hr
    · rename_i E hE
      have hkl := T9 _ _ _ hE
      split at hr
      · rename_i is0 g3 g4
        split at hr
        · rename_i ic0 g6 g9
          cases hr
          have e0 : decode M.2.1 pc = .ok (.new k0, 3) := by rw [dec _ _ hq]; exact congrArg _ (Prod.ext h0 h00)
          have e3 := dec _ _ g3
          have e4 := dec _ _ g4
          have e6 := dec _ _ g6
          have e9 := dec _ _ g9
          dsimp only at hsa hat n5 n1 n4 h2 hxx
          have hgood : ∀ w ∈ Cond.classLink (zown (zMk M)) k0 E :: Cond.initialized E :: zx_at (zown (zMk M)) ic0 E Y rn ix rx, vx_ot w = true := fun w hw => by
            rcases List.mem_cons.mp hw with rfl | hw
            · exact got _ hkl
            · rcases List.mem_cons.mp hw with rfl | hw
              · exact got _ n4
              · exact (n5 w hw).1
          have f1 : (rn.length + 1) + 3 < R.frames := by omega
          have f2 : ((st.map (zval ad)).map fun v => v.category).sum + (13 * ((rn.length + 1) + 1) + 43) ≤ R.locals := by omega
          refine zx_throw (YY := Y) (r := rn) (ix := ix) (rx := rx) (cls := E) (ik := k0) (is := is0) (ic := ic0) (text := tx) (sa := sa) (own := zown (zMk M)) hx hb hl hown n1 nY n2 x0 x1 x2 x5 (hts _ hkl) (hts _ n4) hsa hat hgood s5 s6 hS (by rw [hsz, hml]) e0 e3 e4 e6 e9 (hout _) f1 f2 hcr hsr hlk hxx (fun z hz => hS.2.2 z hz) hc hs
        · cases hr
      · rename_i is0 g3 g4
        split at hr
        · rename_i ic0 g6 g9
          cases hr
          have e0 : decode M.2.1 pc = .ok (.new k0, 3) := by rw [dec _ _ hq]; exact congrArg _ (Prod.ext h0 h00)
          have e3 := dec _ _ g3
          have e4 := dec _ _ g4
          have e6 := dec _ _ g6
          have e9 := dec _ _ g9
          dsimp only at hsa hat n5 n1 n4 h2 hxx
          have hgood : ∀ w ∈ Cond.classLink (zown (zMk M)) k0 E :: Cond.initialized E :: zx_at (zown (zMk M)) ic0 E Y rn ix rx, vx_ot w = true := fun w hw => by
            rcases List.mem_cons.mp hw with rfl | hw
            · exact got _ hkl
            · rcases List.mem_cons.mp hw with rfl | hw
              · exact got _ n4
              · exact (n5 w hw).1
          have f1 : (rn.length + 1) + 3 < R.frames := by omega
          have f2 : ((st.map (zval ad)).map fun v => v.category).sum + (13 * ((rn.length + 1) + 1) + 43) ≤ R.locals := by omega
          refine zx_throwW (YY := Y) (r := rn) (ix := ix) (rx := rx) (cls := E) (ik := k0) (is := is0) (ic := ic0) (text := tx) (sa := sa) (own := zown (zMk M)) hx hb hl hown n1 nY n2 x0 x1 x2 x5 (hts _ hkl) (hts _ n4) hsa hat hgood s5 s6 hS (by rw [hsz, hml]) e0 e3 e4 e6 e9 (hout _) f1 f2 hcr hsr hlk hxx (fun z hz => hS.2.2 z hz) hc hs
        · cases hr
      · cases hr
    · cases hr
  · cases hr
end
