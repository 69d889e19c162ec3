/-! the cells of the small machine on the heap -/
def zcl : List vw_C := [(RX0, TX0, 2), (RX1, TX1, 2), (RX2, TX2, 3), (RX3, TX3, 5), (RX4, TX4, 4), (RX5, TX5, 3), (RX6, TX6, 5), (RX7, TX7, 9)]
def zWS : List Cond := lw_tbl.filter goodWord
def zownL : List String := [RX0, RX1, RX2, RX3, RX4, RX5, RX6, RX7, RX8, RL]
def zown (c : Nat) : String := match zownL[c]? with | some s => s | none => ""
def zfs (ad : Int → Nat) (c n : Nat) (f : Nat → Int) : List Value := (List.range n).map (fun j => zval ad (zfty c j, f j))
def zent (ad : Int → Nat) (cA : Nat → ClassId) (e : zLE) (f : Nat → Int) : va_E :=
  if e.1 = 0 then .inr (e.2.1, zfs ad e.2.1 e.2.2 f)
  else if e.1 = 4 then .inl (cA 4, e.2.2, .inr (.inl (fun j => Int64.ofInt (f j))))
  else if e.1 = 5 then .inl (cA 5, e.2.2, .inr (.inr (.inr (.inl (fun j => UInt64.ofNat (f j).toNat)))))
  else if e.1 = 6 then .inl (cA 6, e.2.2, .inr (.inr (.inr (.inr (fun j => zrf ad (f j))))))
  else .inl (cA e.1, e.2.2, .inl (fun j => Int32.ofInt (f j)))
def zctag (e : zLE) (j : Nat) : Nat := if e.1 = 0 then zfty e.2.1 j else if e.1 = 4 then 2 else if e.1 = 5 then 4 else if e.1 = 6 then 1 else 0
def zws (ad : Int → Nat) (cA : Nat → ClassId) (S : zS) : va_W := (List.range S.1.length).map (fun (k : Nat) => (ad (k : Int), zent ad cA (S.1.getD k (0, 0, 0)) (S.2.1 k)))
def zrel (D : va_G) (cA : Nat → ClassId) (ad : Int → Nat) (A : Nat → Prop) (S : zS) (H : Heap) : Prop :=
  va_P D zcl (zws ad cA S) H ∧ va_D A (zws ad cA S) ∧ ∀ (k : Nat) (e : zLE), S.1[k]? = some e → ∀ j : Nat, zok S.1.length (zctag e j, S.2.1 k j)
def ztys (cA : Nat → ClassId) : List (ClassId × FieldType) := [(cA 1, .int), (cA 2, .char), (cA 3, .boolean), (cA 6, .object RX1)]
theorem zws_len (ad : Int → Nat) (cA : Nat → ClassId) (S : zS) : (zws ad cA S).length = S.1.length := by simp [zws]
theorem zws_at {ad : Int → Nat} {cA : Nat → ClassId} {S : zS} {k : Nat} {e : zLE} (h : S.1[k]? = some e) : (zws ad cA S)[k]? = some (ad (k : Int), zent ad cA e (S.2.1 k)) := by
  have hk := (List.getElem?_eq_some_iff.mp h).1
  unfold zws
  rw [List.getElem?_map, List.getElem?_range hk]
  simp [List.getD, h]
theorem zws_set {ad : Int → Nat} {cA : Nat → ClassId} {S : zS} {a j : Nat} {v : Int} {e : zLE} {e' : va_E} (h : S.1[a]? = some e) (he : e' = zent ad cA e (fun k => if k = j then v else S.2.1 a k)) : (zws ad cA S).set a (ad (a : Int), e') = zws ad cA (zset S a j v) := by
  have ha := (List.getElem?_eq_some_iff.mp h).1
  refine List.ext_getElem? (fun i => ?_)
  by_cases hi : a = i
  · subst hi
    rw [List.getElem?_set_self (by rw [zws_len]; exact ha), zws_at (S := zset S a j v) (e := e) h, he]
    congr 3
    funext k
    simp [zset, zup]
  · rw [List.getElem?_set_ne hi]
    by_cases hl : i < S.1.length
    · have h2 : S.1[i]? = some S.1[i] := List.getElem?_eq_getElem hl
      rw [zws_at h2, zws_at (S := zset S a j v) (e := S.1[i]) h2]
      congr 3
      funext k
      simp [zset, zup, Ne.symm hi]
    · rw [List.getElem?_eq_none (by rw [zws_len]; omega), List.getElem?_eq_none (by rw [zws_len]; show S.1.length ≤ i; omega)]
theorem zok_set {S : zS} {a j : Nat} {v : Int} {e : zLE} (h : ∀ (k : Nat) (e : zLE), S.1[k]? = some e → ∀ j : Nat, zok S.1.length (zctag e j, S.2.1 k j)) (ha : S.1[a]? = some e) (hv : zok S.1.length (zctag e j, v)) : ∀ (k : Nat) (e : zLE), (zset S a j v).1[k]? = some e → ∀ j' : Nat, zok (zset S a j v).1.length (zctag e j', (zset S a j v).2.1 k j') := by
  intro k e1 hk j'
  have hk : S.1[k]? = some e1 := hk
  show zok S.1.length (zctag e1 j', zup S.2.1 a j v k j')
  unfold zup
  split
  · rename_i h2
    obtain ⟨rfl, rfl⟩ := h2
    cases Option.some.inj (hk.symm.trans ha)
    exact hv
  · exact h k e1 hk j'
theorem zent_ag {n : Nat} {ad ad' : Int → Nat} {cA : Nat → ClassId} {e : zLE} {f : Nat → Int} (ha : zag n ad ad') (hok : ∀ j, zok n (zctag e j, f j)) : zent ad' cA e f = zent ad cA e f := by
  unfold zent
  split
  · rename_i h0
    congr 2
    unfold zfs
    refine List.map_congr_left (fun j _ => ?_)
    have := hok j
    simp only [zctag, h0, if_true] at this
    exact zval_ag this ha
  · split
    · rfl
    · split
      · rfl
      · split
        · rename_i h0 h4 h5 h6
          congr 7
          funext j
          have hj := hok j
          have e1 : zctag e j = 1 := by unfold zctag; rw [if_neg h0, if_neg h4, if_neg h5, if_pos h6]
          rw [e1] at hj
          have this : f j = -1 ∨ f j = -2 ∨ f j = -3 ∨ (0 ≤ f j ∧ f j < n) := hj
          unfold zrf
          split
          · rfl
          · rw [ha _ (by omega)]
        · rfl
theorem zws_ag {ad ad' : Int → Nat} {cA : Nat → ClassId} {S : zS} (ha : zag S.1.length ad ad') (hok : ∀ (k : Nat) (e : zLE), S.1[k]? = some e → ∀ j : Nat, zok S.1.length (zctag e j, S.2.1 k j)) : zws ad' cA S = zws ad cA S := by
  refine List.ext_getElem? (fun i => ?_)
  by_cases hl : i < S.1.length
  · have h2 : S.1[i]? = some S.1[i] := List.getElem?_eq_getElem hl
    rw [zws_at h2, zws_at h2, ha _ (by omega), zent_ag ha (hok i _ h2)]
  · rw [List.getElem?_eq_none (by rw [zws_len]; omega), List.getElem?_eq_none (by rw [zws_len]; omega)]
/-- a new cell at q -/
def zadd (ad : Int → Nat) (n q : Nat) : Int → Nat := fun z => if z = (n : Int) then q else ad z
theorem zag_add (ad : Int → Nat) (n q : Nat) : zag n ad (zadd ad n q) := fun z hz => by unfold zadd; rw [if_neg (by omega)]
theorem zws_new {ad : Int → Nat} {cA : Nat → ClassId} {S : zS} {e : zLE} {f : Nat → Int} {q : Nat} {e' : va_E} (hok : ∀ (k : Nat) (e : zLE), S.1[k]? = some e → ∀ j : Nat, zok S.1.length (zctag e j, S.2.1 k j)) (he : e' = zent (zadd ad S.1.length q) cA e f) : zws ad cA S ++ [(q, e')] = zws (zadd ad S.1.length q) cA (znew S e f) := by
  have hag := zag_add ad S.1.length q
  refine List.ext_getElem? (fun i => ?_)
  by_cases hl : i < S.1.length
  · have h2 : S.1[i]? = some S.1[i] := List.getElem?_eq_getElem hl
    have h3 : (znew S e f).1[i]? = some S.1[i] := by show (S.1 ++ [e])[i]? = _; rw [List.getElem?_append_left hl]; exact h2
    rw [List.getElem?_append_left (by rw [zws_len]; exact hl), zws_at h2, zws_at h3, hag _ (by omega)]
    congr 2
    have e1 : (znew S e f).2.1 i = S.2.1 i := by
      funext k
      show (if i = S.1.length then f k else S.2.1 i k) = _
      rw [if_neg (by omega)]
    rw [e1, zent_ag hag (hok i _ h2)]
  · by_cases hi : i = S.1.length
    · subst hi
      have h3 : (znew S e f).1[S.1.length]? = some e := by show (S.1 ++ [e])[S.1.length]? = _; simp
      rw [List.getElem?_append_right (by rw [zws_len]; omega), zws_len, Nat.sub_self, zws_at h3, he]
      show some _ = some _
      congr 2
      · unfold zadd; rw [if_pos rfl]
      · congr 1
        funext k
        show f k = if S.1.length = S.1.length then f k else _
        rw [if_pos rfl]
    · rw [List.getElem?_eq_none (by simp [zws_len]; omega), List.getElem?_eq_none (by rw [zws_len]; show (S.1 ++ [e]).length ≤ i; simp; omega)]
theorem zok_new {S : zS} {e : zLE} {f : Nat → Int} (h : ∀ (k : Nat) (e : zLE), S.1[k]? = some e → ∀ j : Nat, zok S.1.length (zctag e j, S.2.1 k j)) (hf : ∀ j, zok S.1.length (zctag e j, f j)) : ∀ (k : Nat) (e1 : zLE), (znew S e f).1[k]? = some e1 → ∀ j : Nat, zok (znew S e f).1.length (zctag e1 j, (znew S e f).2.1 k j) := by
  intro k e1 hk j
  have hk : (S.1 ++ [e])[k]? = some e1 := hk
  have hn : S.1.length ≤ (znew S e f).1.length := by show _ ≤ (S.1 ++ [e]).length; simp
  refine zok_mono ?_ hn
  show zok S.1.length (zctag e1 j, if k = S.1.length then f j else S.2.1 k j)
  by_cases hl : k < S.1.length
  · rw [List.getElem?_append_left hl] at hk
    rw [if_neg (by omega)]
    exact h k e1 hk j
  · have hk2 : k < (S.1 ++ [e]).length := (List.getElem?_eq_some_iff.mp hk).1
    have hk3 : k = S.1.length := by simp at hk2; omega
    subst hk3
    simp at hk
    subst hk
    rw [if_pos rfl]
    exact hf j
theorem zlo_ag {n nl : Nat} {ad ad' : Int → Nat} {ls : List zV} {lsC : Array Slot} (h : lv_has lsC nl (zlo ad ls)) (ha : zag n ad ad') (hok : zoks n ls) : lv_has lsC nl (zlo ad' ls) := by
  refine zlo_sub h (fun q hq => ?_)
  obtain ⟨v, h1, h2, h3⟩ := zlo_mem.mp hq
  exact zlo_mem.mpr ⟨v, h1, h2, by rw [h3]; exact zval_ag (hok v (List.mem_of_getElem? h1)) ha⟩
theorem zmap_ag {n : Nat} {ad ad' : Int → Nat} {st : List zV} (ha : zag n ad ad') (hok : zoks n st) : st.map (zval ad') = st.map (zval ad) := List.map_congr_left (fun v hv => zval_ag (hok v hv) ha)
theorem zoks_mono {n m : Nat} {l : List zV} (h : zoks n l) (hnm : n ≤ m) : zoks m l := fun v hv => zok_mono (h v hv) hnm
theorem zarr_spec {S : zS} {k : Nat} {a j : Int} {q : Nat × Nat} (h : zarr S k a j = some q) : ∃ e : zLE, a = (q.1 : Int) ∧ j = (q.2 : Int) ∧ S.1[q.1]? = some e ∧ e.1 = k ∧ q.2 < e.2.2 := by
  unfold zarr at h
  split at h
  · rename_i h0
    split at h
    · rename_i e he
      split at h
      · rename_i h1; cases h
        exact ⟨e, (Int.toNat_of_nonneg h0.1).symm, (Int.toNat_of_nonneg h0.2).symm, he, h1.1, by have := h1.2; omega⟩
      · cases h
    · cases h
  · cases h
theorem zobj_spec {S : zS} {o : Int} {c k n : Nat} (h : zobj S o c k = some n) : ∃ e : zLE, o = (n : Int) ∧ S.1[n]? = some e ∧ e.1 = 0 ∧ e.2.1 = c ∧ k < e.2.2 := by
  unfold zobj at h
  split at h
  · rename_i h0
    split at h
    · rename_i e he
      split at h
      · rename_i h1; cases h
        exact ⟨e, (Int.toNat_of_nonneg h0).symm, he, h1.1, h1.2.1, h1.2.2⟩
      · cases h
    · cases h
  · cases h
/-- a field's type: its kind, whether it is a boolean -/
def zfit (t : Nat) (b : Bool) (ty : FieldType) : Prop := (t = 0 ∧ b = false ∧ ty = .int) ∨ (t = 0 ∧ b = true ∧ ty = .boolean) ∨ (t = 2 ∧ b = false ∧ ty = .long) ∨ (t = 1 ∧ b = false ∧ ((∃ C, ty = .object C) ∨ ∃ T, ty = .array T))
theorem zfit_nar {t : Nat} {b : Bool} {ty : FieldType} {ad : Int → Nat} {v : Int} (h : zfit t b ty) (hb : b = true → v = 0 ∨ v = 1) : narrow ty (zval ad (t, v)) = zval ad (t, v) ∧ fits ty (zval ad (t, v)) = true := by
  rcases h with ⟨rfl, rfl, rfl⟩ | ⟨rfl, rfl, rfl⟩ | ⟨rfl, rfl, rfl⟩ | ⟨rfl, rfl, h⟩
  · exact ⟨rfl, rfl⟩
  · rcases hb rfl with rfl | rfl
    · show narrow .boolean (.int (Int32.ofInt 0)) = .int (Int32.ofInt 0) ∧ fits .boolean (.int (Int32.ofInt 0)) = true
      exact ⟨by decide +kernel, by decide +kernel⟩
    · show narrow .boolean (.int (Int32.ofInt 1)) = .int (Int32.ofInt 1) ∧ fits .boolean (.int (Int32.ofInt 1)) = true
      exact ⟨by decide +kernel, by decide +kernel⟩
  · exact ⟨rfl, rfl⟩
  · show narrow ty (va_rf (zrf ad v)) = va_rf (zrf ad v) ∧ fits ty (va_rf (zrf ad v)) = true
    cases zrf ad v <;> rcases h with ⟨C, rfl⟩ | ⟨T, rfl⟩ <;> exact ⟨rfl, rfl⟩
theorem zfit_def {t : Nat} {b : Bool} {ty : FieldType} {ad : Int → Nat} (h : zfit t b ty) : defaultValue ty = zval ad (t, zdef t) := by
  rcases h with ⟨rfl, rfl, rfl⟩ | ⟨rfl, rfl, rfl⟩ | ⟨rfl, rfl, rfl⟩ | ⟨rfl, rfl, h⟩
  · rfl
  · rfl
  · rfl
  · rcases h with ⟨C, rfl⟩ | ⟨T, rfl⟩ <;> rfl
/-- what the claim's words say of class ci -/
def zclP (ci : Nat) (C : String) (T : u_T) (N : Nat) (ty : Nat → FieldType) : Prop :=
  zcl[ci]? = some (C, T, N) ∧ (∀ w ∈ u_ws C T N, w ∈ zWS) ∧ (∀ k, k < N → parseFieldDescriptor (T k).2.2.1 = some (ty k)) ∧ (∀ a, a < N → ∀ b, b < N → a ≠ b → (T a).2.1 ≠ (T b).2.1) ∧ (∀ k, k < N → (T k).1 = C ∧ ∃ b, zfit (zfty ci k) b (ty k)) ∧ (∀ k, N ≤ k → zfty ci k = 0)
def zfldP (c k : Nat) (f : Nat × Nat × Nat × Bool × Bool) : Prop := ∃ (C : String) (T : u_T) (N : Nat) (ty : Nat → FieldType), zclP f.1 C T N ty ∧ f.2.1 < N ∧ Cond.fieldLink (zown c) k C (T f.2.1).2.1 (T f.2.1).2.2.1 ∈ zWS ∧ f.2.2.1 = zfty f.1 f.2.1 ∧ zfit f.2.2.1 f.2.2.2.1 (ty f.2.1) ∧ f.2.2.2.2 = (T f.2.1).2.2.2 ∧ (f.2.2.2.2 = true → C = zown c)
def zclsP (c k : Nat) (q : Nat × Nat) : Prop := ∃ (C : String) (T : u_T) (N : Nat) (ty : Nat → FieldType), zclP q.1 C T N ty ∧ q.2 = N ∧ N ≤ 100 ∧ Cond.classLink (zown c) k C ∈ zWS ∧ Cond.instantiable C N ∈ zWS ∧ Cond.initialized C ∈ zWS
