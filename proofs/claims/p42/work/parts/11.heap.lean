/-! the steps on cells -/
/-- an array of ints that is only read -/
def zX (b L : Nat) (xs : Nat → Int32) (U : State) (H : Heap) : Prop := ∃ scr : Cell, H[b]? = some scr ∧ U.isArrayOf scr .int ∧ scr.vm ≠ .unknown ∧ L ≤ scr.slots.size ∧ scr.slots.size.toInt32 = Int32.ofNat L ∧ ∀ j : Nat, j < L → scr.slots[j]? = some (.int (xs j))
def zro (ro : zRo) (ad : Int → Nat) (A : Nat → Prop) (U : State) (H : Heap) : Prop := ∀ (z : Int) (r : Nat × (Nat → Int)), ro z = some r → (z = -2 ∨ z = -3) ∧ zX (ad z) r.1 (fun j => Int32.ofInt (r.2 j)) U H ∧ ad z < H.size ∧ ¬ A (ad z) ∧ (∀ j, zi32 (r.2 j)) ∧ r.1 < 2147483648
section
variable {p : Program} {l : Launch} {e : Env} {R : Room} {s : State} {m : MethodId} {args : Array Value} {below : List Frame} {meth : Method} {c : Code} {H : Heap} {locs : List Loc} {cells slots : Nat} {Q : State → Prop}
variable {cc : ByteArray} {pc : Nat} {lsC : Array Slot} {ad : Int → Nat} {ls st : List zV} {D : va_G} {cA : Nat → ClassId} {A : Nat → Prop} {S : zS} {ro : zRo} {ck : Nat} {ctor : Bool}
theorem zval1 (ad : Int → Nat) (n : Nat) : zval ad (1, (n : Int)) = .ref (ad (n : Int)) := by
  show va_rf (zrf ad n) = _
  unfold zrf
  rw [if_neg (by omega)]
  rfl
theorem zent0 {ad : Int → Nat} {cA : Nat → ClassId} {e : zLE} {f : Nat → Int} (h : e.1 = 0) : zent ad cA e f = .inr (e.2.1, zfs ad e.2.1 e.2.2 f) := by unfold zent; rw [if_pos h]
theorem zent4 {ad : Int → Nat} {cA : Nat → ClassId} {e : zLE} {f : Nat → Int} (h : e.1 = 4) : zent ad cA e f = .inl (cA 4, e.2.2, .inr (.inl (fun j => Int64.ofInt (f j)))) := by unfold zent; rw [if_neg (by omega), if_pos h]
theorem zent5 {ad : Int → Nat} {cA : Nat → ClassId} {e : zLE} {f : Nat → Int} (h : e.1 = 5) : zent ad cA e f = .inl (cA 5, e.2.2, .inr (.inr (.inr (.inl (fun j => UInt64.ofNat (f j).toNat))))) := by unfold zent; rw [if_neg (by omega), if_neg (by omega), if_pos h]
theorem zent6 {ad : Int → Nat} {cA : Nat → ClassId} {e : zLE} {f : Nat → Int} (h : e.1 = 6) : zent ad cA e f = .inl (cA 6, e.2.2, .inr (.inr (.inr (.inr (fun j => zrf ad (f j)))))) := by unfold zent; rw [if_neg (by omega), if_neg (by omega), if_neg (by omega), if_pos h]
theorem zenti {ad : Int → Nat} {cA : Nat → ClassId} {e : zLE} {f : Nat → Int} {k : Nat} (h : e.1 = k) (hk : k = 1 ∨ k = 2 ∨ k = 3) : zent ad cA e f = .inl (cA k, e.2.2, .inl (fun j => Int32.ofInt (f j))) := by unfold zent; rw [if_neg (by omega), if_neg (by omega), if_neg (by omega), if_neg (by omega), h]
theorem zfs_at {ad : Int → Nat} {c n k : Nat} {f : Nat → Int} (h : k < n) : (zfs ad c n f)[k]? = some (zval ad (zfty c k, f k)) := by unfold zfs; rw [List.getElem?_map, List.getElem?_range h]; rfl
theorem zfs_len (ad : Int → Nat) (c n : Nat) (f : Nat → Int) : (zfs ad c n f).length = n := by simp [zfs]
theorem zfs_set {ad : Int → Nat} {c n k : Nat} {f : Nat → Int} {v : Int} : (zfs ad c n f).set k (zval ad (zfty c k, v)) = zfs ad c n (fun j => if j = k then v else f j) := by
  refine List.ext_getElem? (fun i => ?_)
  by_cases hl : i < n
  · by_cases hi : k = i
    · subst hi
      rw [List.getElem?_set_self (by rw [zfs_len]; exact hl), zfs_at hl, if_pos rfl]
    · rw [List.getElem?_set_ne hi, zfs_at hl, zfs_at hl, if_neg (Ne.symm hi)]
  · rw [List.getElem?_eq_none (by simp [zfs_len]; omega), List.getElem?_eq_none (by rw [zfs_len]; omega)]
theorem zh_get (hx : p.tables.exec = Jvm.exec) (hb : c.code = cc) (hown : s.vm.findClass (zown ck) = some m.cls) (hts : ∀ w ∈ zWS, w.before args s = true) (hK : va_K D zcl (ztys cA) s) (hrel : zrel D cA ad A S H) {k n : Nat} {f : Nat × Nat × Nat × Bool × Bool} (hf : zfldP ck k f) {o : Int} (ho : zobj S o f.1 f.2.1 = some n) (hd : decode cc pc = .ok (.getfield k, 3)) {rest : List Value}
    (kk : zok S.1.length (f.2.2.1, S.2.1 n f.2.1) → W p l e R s m args below meth c H locs cells slots Q (F0 m (pc + 3) lsC (zval ad (f.2.2.1, S.2.1 n f.2.1) :: rest))) : W p l e R s m args below meth c H locs cells slots Q (F0 m pc lsC (zval ad (1, o) :: rest)) := by
  obtain ⟨e0, rfl, h1, h2, h3, h4⟩ := zobj_spec ho
  obtain ⟨C, T, N, ty, ⟨c1, c2, c3, c4, c5, c6⟩, f1, f2, f3, f4, f5, f6⟩ := hf
  have hw := zws_at (ad := ad) (cA := cA) h1
  rw [zent0 h2] at hw
  have hat := zfs_at (ad := ad) (c := e0.2.1) (f := S.2.1 n) h4
  rw [h3, ← f3] at hat
  have hok := hrel.2.2 n e0 h1 f.2.1
  simp only [zctag, h2, if_true, h3, ← f3] at hok
  rw [zval1]
  exact va_get hx hb hts c2 hown hK hrel.1 n hw (by rw [h3]; exact c1) f.2.1 f1 (hts _ f2) (fun x hx9 => by rw [(c5 _ f1).1] at hx9; exact hx9) (by rw [h3]; exact hat) hd (kk hok)
theorem zh_put (hx : p.tables.exec = Jvm.exec) (hb : c.code = cc) (hown : s.vm.findClass (zown ck) = some m.cls) (hts : ∀ w ∈ zWS, w.before args s = true) (hK : va_K D zcl (ztys cA) s) (hrel : zrel D cA ad A S H) {H0 : Heap} (hS : va_S A H0 H locs) {k n : Nat} {f : Nat × Nat × Nat × Bool × Bool} (hf : zfldP ck k f) {o v : Int} (ho : zobj S o f.1 f.2.1 = some n) (hbo : f.2.2.2.1 = true → v = 0 ∨ v = 1) (hfin : f.2.2.2.2 = true → meth.name = "<init>") (hd : decode cc pc = .ok (.putfield k, 3)) {rest : List Value} (hv : zok S.1.length (f.2.2.1, v))
    (kk : ∀ H1 locs1, zrel D cA ad A (zset S n f.2.1 v) H1 → va_S A H0 H1 locs1 → W p l e R s m args below meth c H1 locs1 cells slots Q (F0 m (pc + 3) lsC rest)) : W p l e R s m args below meth c H locs cells slots Q (F0 m pc lsC (zval ad (f.2.2.1, v) :: zval ad (1, o) :: rest)) := by
  obtain ⟨e0, rfl, h1, h2, h3, h4⟩ := zobj_spec ho
  obtain ⟨C, T, N, ty, ⟨c1, c2, c3, c4, c5, c6⟩, f1, f2, f3, f4, f5, f6⟩ := hf
  have hw := zws_at (ad := ad) (cA := cA) h1
  rw [zent0 h2] at hw
  obtain ⟨g1, g2⟩ := zfit_nar (ad := ad) f4 hbo
  have kk2 : ∀ (H1 : Heap) (locs1 : List Loc), va_P D zcl ((zws ad cA S).set n (ad (n : Int), .inr (e0.2.1, (zfs ad e0.2.1 e0.2.2 (S.2.1 n)).set f.2.1 (zval ad (f.2.2.1, v))))) H1 → va_D A ((zws ad cA S).set n (ad (n : Int), .inr (e0.2.1, (zfs ad e0.2.1 e0.2.2 (S.2.1 n)).set f.2.1 (zval ad (f.2.2.1, v))))) → va_S A H0 H1 locs1 → W p l e R s m args below meth c H1 locs1 cells slots Q (F0 m (pc + 3) lsC rest) := by
    intro H1 locs1 q1 q2 q3
    have e1 : (zws ad cA S).set n (ad (n : Int), .inr (e0.2.1, (zfs ad e0.2.1 e0.2.2 (S.2.1 n)).set f.2.1 (zval ad (f.2.2.1, v)))) = zws ad cA (zset S n f.2.1 v) := by
      refine zws_set h1 ?_
      rw [zent0 h2, f3, ← h3, zfs_set]
    rw [e1] at q1 q2
    refine kk H1 locs1 ⟨q1, q2, zok_set hrel.2.2 h1 ?_⟩ q3
    simp only [zctag, h2, if_true, h3, ← f3]
    exact hv
  rw [zval1]
  by_cases hfi : f.2.2.2.2 = true
  · exact va_putF hx hb hts c2 ty c3 c4 hown hK hrel.1 hrel.2.1 hS n hw (by rw [h3]; exact c1) f.2.1 f1 (hts _ f2) (fun x hx9 => by rw [(c5 _ f1).1] at hx9; exact hx9) (by rw [← f5]; exact hfi) (hfin hfi) (by rw [(c5 _ f1).1]; exact f6 hfi) (c3 _ f1) g1 g2 (by rw [zfs_len]; exact h4) hd kk2
  · exact va_put hx hb hts c2 ty c3 c4 hown hK hrel.1 hrel.2.1 hS n hw (by rw [h3]; exact c1) f.2.1 f1 (hts _ f2) (fun x hx9 => by rw [(c5 _ f1).1] at hx9; exact hx9) (by rw [← f5]; simpa using hfi) (c3 _ f1) g1 g2 (by rw [zfs_len]; exact h4) hd kk2
end
section
variable {p : Program} {l : Launch} {e : Env} {R : Room} {s : State} {m : MethodId} {args : Array Value} {below : List Frame} {meth : Method} {c : Code} {H : Heap} {locs : List Loc} {cells slots : Nat} {Q : State → Prop}
variable {cc : ByteArray} {pc : Nat} {lsC : Array Slot} {ad : Int → Nat} {ls st : List zV} {D : va_G} {cA : Nat → ClassId} {A : Nat → Prop} {S : zS} {ro : zRo} {ck : Nat} {ctor : Bool}
theorem ztys_at (cA : Nat → ClassId) : (ztys cA)[0]? = some (cA 1, .int) ∧ (ztys cA)[1]? = some (cA 2, .char) ∧ (ztys cA)[2]? = some (cA 3, .boolean) ∧ (ztys cA)[3]? = some (cA 6, .object RX1) := ⟨rfl, rfl, rfl, rfl⟩
/-- every array is short -/
def zshort (S : zS) : Prop := ∀ (k : Nat) (e : zLE), S.1[k]? = some e → e.2.2 < 2147483648
theorem zh_aload (hx : p.tables.exec = Jvm.exec) (hb : c.code = cc) (hK : va_K D zcl (ztys cA) s) (hrel : zrel D cA ad A S H) (hsh : zshort S) {i : Instr} {k : Nat} {j a : Int} {q : Nat × Nat} {rest : List Value} (hq : zarr S k a j = some q)
    (hi : (k = 1 ∧ i = .iaload) ∨ (k = 2 ∧ i = .caload) ∨ (k = 3 ∧ i = .baload) ∨ (k = 6 ∧ i = .aaload)) (hd : decode cc pc = .ok (i, 1))
    (kk : ∀ t, t = (if k = 4 then 2 else if k = 5 then 4 else if k = 6 then 1 else 0) → zok S.1.length (t, S.2.1 q.1 q.2) → W p l e R s m args below meth c H locs cells slots Q (F0 m (pc + 1) lsC (zval ad (t, S.2.1 q.1 q.2) :: rest))) : W p l e R s m args below meth c H locs cells slots Q (F0 m pc lsC (zval ad (0, j) :: zval ad (1, a) :: rest)) := by
  obtain ⟨e0, rfl, rfl, h1, h2, h3⟩ := zarr_spec hq
  have h9 := hsh _ _ h1
  have hw := zws_at (ad := ad) (cA := cA) h1
  have hok := hrel.2.2 _ e0 h1 q.2
  obtain ⟨t1, t2, t3, t6⟩ := ztys_at cA
  have hin : vp_in (Int32.ofInt (q.2 : Int)) e0.2.2 := zvpin (by omega) (by omega) (by omega)
  have hcl : (Int32.ofInt (q.2 : Int)).toNatClampNeg = q.2 := by rw [zclamp (by omega) (by omega)]; omega
  rw [zval1]
  show W p l e R s m args below meth c H locs cells slots Q (F0 m pc lsC (.int (Int32.ofInt (q.2 : Int)) :: .ref (ad (q.1 : Int)) :: rest))
  rcases hi with ⟨rfl, rfl⟩ | ⟨rfl, rfl⟩ | ⟨rfl, rfl⟩ | ⟨rfl, rfl⟩
  · rw [zenti h2 (Or.inl rfl)] at hw
    have kk := kk 0 rfl (by simpa [zctag, h2] using hok)
    exact va_iald hx hb hK hrel.1 q.1 0 hw t1 hin hd (by rw [hcl]; exact kk)
  · rw [zenti h2 (Or.inr (Or.inl rfl))] at hw
    have kk := kk 0 rfl (by simpa [zctag, h2] using hok)
    exact va_cald hx hb hK hrel.1 q.1 1 hw t2 hin hd (by rw [hcl]; exact kk)
  · rw [zenti h2 (Or.inr (Or.inr rfl))] at hw
    have kk := kk 0 rfl (by simpa [zctag, h2] using hok)
    exact va_zald hx hb hK hrel.1 q.1 2 hw t3 hin hd (by rw [hcl]; exact kk)
  · rw [zent6 h2] at hw
    have kk := kk 1 rfl (by simpa [zctag, h2] using hok)
    exact va_aldq hx hb hK hrel.1 q.1 3 hw t6 hin hd (by rw [hcl]; exact kk)
theorem zh_astore (hx : p.tables.exec = Jvm.exec) (hb : c.code = cc) (hK : va_K D zcl (ztys cA) s) (hrel : zrel D cA ad A S H) (hsh : zshort S) {H0 : Heap} (hS : va_S A H0 H locs) {i : Instr} {k : Nat} {j a v : Int} {q : Nat × Nat} {rest : List Value} {t : Nat} (hq : zarr S k a j = some q) (hv : zok S.1.length (t, v))
    (hi : (k = 1 ∧ i = .iastore ∧ t = 0) ∨ (k = 2 ∧ i = .castore ∧ t = 0 ∧ 0 ≤ v ∧ v < 65536) ∨ (k = 3 ∧ i = .bastore ∧ t = 0 ∧ (v = 0 ∨ v = 1)) ∨ (k = 6 ∧ i = .aastore ∧ t = 1 ∧ ∃ n, zobj S v 1 0 = some n)) (hd : decode cc pc = .ok (i, 1))
    (kk : ∀ H1 locs1, zrel D cA ad A (zset S q.1 q.2 v) H1 → va_S A H0 H1 locs1 → W p l e R s m args below meth c H1 locs1 cells slots Q (F0 m (pc + 1) lsC rest)) : W p l e R s m args below meth c H locs cells slots Q (F0 m pc lsC (zval ad (t, v) :: zval ad (0, j) :: zval ad (1, a) :: rest)) := by
  obtain ⟨e0, rfl, rfl, h1, h2, h3⟩ := zarr_spec hq
  have h9 := hsh _ _ h1
  have hw := zws_at (ad := ad) (cA := cA) h1
  obtain ⟨t1, t2, t3, t6⟩ := ztys_at cA
  have hin : vp_in (Int32.ofInt (q.2 : Int)) e0.2.2 := zvpin (by omega) (by omega) (by omega)
  have hcl : (Int32.ofInt (q.2 : Int)).toNatClampNeg = q.2 := by rw [zclamp (by omega) (by omega)]; omega
  rw [zval1]
  show W p l e R s m args below meth c H locs cells slots Q (F0 m pc lsC (zval ad (t, v) :: .int (Int32.ofInt (q.2 : Int)) :: .ref (ad (q.1 : Int)) :: rest))
  have fin : ∀ (e' : va_E), e' = zent ad cA e0 (fun k => if k = q.2 then v else S.2.1 q.1 k) → zctag e0 q.2 = t → ∀ (H1 : Heap) (locs1 : List Loc), va_P D zcl ((zws ad cA S).set q.1 (ad (q.1 : Int), e')) H1 → va_D A ((zws ad cA S).set q.1 (ad (q.1 : Int), e')) → va_S A H0 H1 locs1 → W p l e R s m args below meth c H1 locs1 cells slots Q (F0 m (pc + 1) lsC rest) := by
    intro e' he ht H1 locs1 q1 q2 q3
    rw [zws_set h1 he] at q1 q2
    exact kk H1 locs1 ⟨q1, q2, zok_set hrel.2.2 h1 (by rw [ht]; exact hv)⟩ q3
  rcases hi with ⟨rfl, rfl, rfl⟩ | ⟨rfl, rfl, rfl, hv0, hv1⟩ | ⟨rfl, rfl, rfl, hv0⟩ | ⟨rfl, rfl, rfl, n0, hn0⟩
  · have hw2 := hw
    rw [zenti h2 (Or.inl rfl)] at hw2
    refine va_iast hx hb hK hrel.1 hrel.2.1 hS q.1 0 hw2 t1 hin hd (fin _ ?_ (by simp [zctag, h2]))
    rw [zenti h2 (Or.inl rfl), hcl]
    congr 3
    refine congrArg _ (funext (fun k => ?_))
    unfold upd
    split <;> rfl
  · have hw2 := hw
    rw [zenti h2 (Or.inr (Or.inl rfl))] at hw2
    refine va_cast hx hb hK hrel.1 hrel.2.1 hS q.1 1 hw2 t2 hin hd (fin _ ?_ (by simp [zctag, h2]))
    rw [zenti h2 (Or.inr (Or.inl rfl)), hcl]
    congr 3
    refine congrArg _ (funext (fun k => ?_))
    unfold upd
    split
    · obtain ⟨n, rfl⟩ := Int.eq_ofNat_of_zero_le hv0
      have := (pk_charN (q := n) (by omega)).1
      unfold vp_nar
      have e1 : Int32.ofInt (n : Int) = nI n := by rw [Int32.ofInt_eq_ofNat]; rfl
      rw [e1, this]
    · rfl
  · have hw2 := hw
    rw [zenti h2 (Or.inr (Or.inr rfl))] at hw2
    refine va_zast hx hb hK hrel.1 hrel.2.1 hS q.1 2 hw2 t3 hin hd (fin _ ?_ (by simp [zctag, h2]))
    rw [zenti h2 (Or.inr (Or.inr rfl)), hcl]
    congr 3
    refine congrArg _ (funext (fun k => ?_))
    unfold upd
    split
    · rcases hv0 with rfl | rfl <;> decide +kernel
    · rfl
  · have hw2 := hw
    rw [zent6 h2] at hw2
    obtain ⟨e1, rfl, g1, g2, g3, g4⟩ := zobj_spec hn0
    have hwv := zws_at (ad := ad) (cA := cA) g1
    rw [zent0 g2, g3] at hwv
    rw [zval1]
    refine va_astq hx hb hK hrel.1 hrel.2.1 hS q.1 3 n0 1 hw2 t6 hwv (show zcl[1]? = some (RX1, TX1, 2) from rfl) hin hd (fin _ ?_ (by simp [zctag, h2]))
    rw [zent6 h2, hcl]
    congr 6
    refine congrArg _ (funext (fun k => ?_))
    unfold va_up
    split
    · unfold zrf; rw [if_neg (by omega)]
    · rfl
end
section
variable {p : Program} {l : Launch} {e : Env} {R : Room} {s : State} {m : MethodId} {args : Array Value} {below : List Frame} {meth : Method} {c : Code} {H : Heap} {locs : List Loc} {cells slots : Nat} {Q : State → Prop}
variable {cc : ByteArray} {pc : Nat} {lsC : Array Slot} {ad : Int → Nat} {ls st : List zV} {D : va_G} {cA : Nat → ClassId} {A : Nat → Prop} {S : zS} {ro : zRo} {ck : Nat} {ctor : Bool}
/-- what the class's entries name, by the claim's words -/
def zpool (ck : Nat) (args : Array Value) (s : State) (A : Nat → Prop) (ad : Int → Nat) : Prop :=
  (∀ k f, zfld ck k = some f → zfldP ck k f) ∧ (∀ k q, zcls ck k = some q → zclsP ck k q) ∧
  (∀ k r, zstc ck k = some r → r = -2 ∧ ∃ host, (Cond.fieldLinkNest (zown ck) k RX7 "FIRST_WEIGHTS" "[I" host).before args s = true) ∧
  (∀ k, zref ck k = true → (Cond.classLink (zown ck) k RX1).before args s = true) ∧
  va_AO RX1 s ∧ va_Z RX7 "FIRST_WEIGHTS" "[I" (.ref (ad (-2))) A s s.heap ∧
  (Cond.arrayClass .int ∈ zWS ∧ Cond.arrayClass .char ∈ zWS ∧ Cond.arrayClass .boolean ∈ zWS)
theorem zrA {cA : Nat → ClassId} {k : Nat} {t0 : Nat} {ty : FieldType} {cN : ClassId} (hK : va_K D zcl (ztys cA) s) (hK2 : va_K D zcl (ztys cA ++ [(cN, ty)]) s) (ht : (ztys cA)[t0]? = some (cA k, ty)) (hty : ∀ C, ty ≠ .object C) : cN = cA k := by
  have h1 := (hK.2 t0 _ ht).2
  have h2 := (hK2.2 4 (cN, ty) (by rfl)).2
  have h3 : s.vm.findClass ("[" ++ ty.toString) = some (cA k) := by cases ty <;> first | exact h1 | exact absurd rfl (hty _)
  have h4 : s.vm.findClass ("[" ++ ty.toString) = some cN := by cases ty <;> first | exact h2 | exact absurd rfl (hty _)
  exact Option.some.inj (h4.symm.trans h3)
theorem zrAo {cA : Nat → ClassId} {cN : ClassId} (hK : va_K D zcl (ztys cA) s) (hK2 : va_K D zcl (ztys cA ++ [(cN, .object RX1)]) s) : cN = cA 6 := by
  obtain ⟨_, _, _, _, _, h1⟩ := (hK.2 3 _ (ztys_at cA).2.2.2).2
  obtain ⟨_, _, _, _, _, h2⟩ := (hK2.2 4 (cN, .object RX1) (by rfl)).2
  exact Option.some.inj (h2.symm.trans h1)
theorem zh_newa (hx : p.tables.exec = Jvm.exec) (hb : c.code = cc) (hts : ∀ w ∈ zWS, w.before args s = true) (hK : va_K D zcl (ztys cA) s) (hrel : zrel D cA ad A S H) {H0 : Heap} (hS : va_S A H0 H locs) (hA : ∀ q, H0.size ≤ q → A q) {t : ArrayType} {ty : FieldType} {k t0 : Nat} {n : Int} {rest : List Value}
    (hty : newarray.typeOf t = ty) (ho : ∀ C, ty ≠ .object C) (ht : (ztys cA)[t0]? = some (cA k, ty)) (hw : Cond.arrayClass ty ∈ zWS) (h0 : 0 ≤ n) (h1 : n < 1000) (hc8 : componentBytes ty ≤ 8)
    {a0 : vp_A} (ha : ∀ cA : ClassId, vp_cell cA a0 = arrV cA n.toNat (fun _ => defaultValue ty)) (he : ∀ ad, zent ad cA (k, 0, n.toNat) (fun _ => 0) = .inl (cA k, a0)) (hz : ∀ j, zok S.1.length (zctag (k, 0, n.toNat) j, 0))
    (hcells : cells + 1 ≤ R.cells) (hslots : slots + n.toNat ≤ R.slots) (hd : decode cc pc = .ok (.newarray t, 2))
    (kk : ∀ (q : Nat) H1, zrel D cA (zadd ad S.1.length q) A (znew S (k, 0, n.toNat) (fun _ => 0)) H1 → va_S A H0 H1 locs → W p l e R s m args below meth c H1 locs (cells + 1) (slots + n.toNat) Q (F0 m (pc + 2) lsC (.ref q :: rest))) : W p l e R s m args below meth c H locs cells slots Q (F0 m pc lsC (.int (Int32.ofInt n) :: rest)) := by
  have hn0 : ¬ Int32.ofInt n < 0 := by
    rw [show (0 : Int32) = Int32.ofInt 0 from rfl, zltI ⟨by omega, by omega⟩ ⟨by decide, by decide⟩]
    omega
  have hcl : (Int32.ofInt n).toNatClampNeg = n.toNat := zclamp h0 (by omega)
  have hby : n.toNat * componentBytes ty ≤ 536870912 := by
    have : n.toNat * componentBytes ty ≤ 1000 * 8 := Nat.mul_le_mul (by omega) hc8
    omega
  refine va_newa hx hb (by rw [hty]; exact hts _ hw) hty hK hrel.1 hrel.2.1 hS hA ha hn0 hcl hby hcells hslots hd (fun q cN H1 g1 g2 g3 g4 => ?_)
  have e1 := zrA hK g1 ht ho
  subst e1
  rw [zws_new hrel.2.2 (f := fun _ => 0) (e := (k, 0, n.toNat)) (he _).symm] at g2 g3
  exact kk q H1 ⟨g2, g3, zok_new hrel.2.2 hz⟩ g4
theorem zs_heap (hx : p.tables.exec = Jvm.exec) (hb : c.code = cc) (hown : s.vm.findClass (zown ck) = some m.cls) (hts : ∀ w ∈ zWS, w.before args s = true) (hK : va_K D zcl (ztys cA) s) (hpl : zpool ck args s A ad) (hrel : zrel D cA ad A S H) (hsh : zshort S) (hro : zro ro ad A s s.heap) (hS : va_S A s.heap H locs) (hA : ∀ q, s.heap.size ≤ q → A q) (hctor : ctor = true → meth.name = "<init>")
    {i : Instr} {len : Nat} {r : List zV × zS} (h : zheap (zfld ck) (zcls ck) zfty (zref ck) (zstc ck) ctor ro i len st S = some r) (hd : decode cc pc = .ok (i, len)) (hos : zoks S.1.length st) (hrc : cells + (r.2.2.2.1 - S.2.2.1) ≤ R.cells) (hrs : slots + (r.2.2.2.2 - S.2.2.2) ≤ R.slots)
    (kk : ∀ ad' H1 locs1, zag S.1.length ad ad' → zrel D cA ad' A r.2 H1 → zshort r.2 → S.1.length ≤ r.2.1.length → va_S A s.heap H1 locs1 → zoks r.2.1.length r.1 → S.2.2.1 ≤ r.2.2.2.1 → S.2.2.2 ≤ r.2.2.2.2 → W p l e R s m args below meth c H1 locs1 (cells + (r.2.2.2.1 - S.2.2.1)) (slots + (r.2.2.2.2 - S.2.2.2)) Q (F0 m (pc + len) lsC (r.1.map (zval ad')))) : W p l e R s m args below meth c H locs cells slots Q (F0 m pc lsC (st.map (zval ad))) := by
  obtain ⟨p1, p2, p3, p4, p5, p6, p7⟩ := hpl
  have hag : zag S.1.length ad ad := fun _ _ => rfl
  have same : ∀ (st1 : List zV), r = (st1, S) → zoks S.1.length st1 → W p l e R s m args below meth c H locs cells slots Q (F0 m (pc + len) lsC (st1.map (zval ad))) := by
    intro st1 hr ho
    subst hr
    have k := kk ad H locs hag hrel hsh (Nat.le_refl _) hS ho (Nat.le_refl _) (Nat.le_refl _)
    simp only [Nat.sub_self, Nat.add_zero] at k
    exact k
  have stor : ∀ (st1 : List zV) (a j : Nat) (v : Int), r = (st1, zset S a j v) → zoks S.1.length st1 → ∀ H1 locs1, zrel D cA ad A (zset S a j v) H1 → va_S A s.heap H1 locs1 → W p l e R s m args below meth c H1 locs1 cells slots Q (F0 m (pc + len) lsC (st1.map (zval ad))) := by
    intro st1 a j v hr ho H1 locs1 g1 g2
    subst hr
    have k := kk ad H1 locs1 hag g1 hsh (Nat.le_refl _) g2 ho (Nat.le_refl _) (Nat.le_refl _)
    have e1 : (zset S a j v).2.2.1 - S.2.2.1 = 0 := Nat.sub_self _
    have e2 : (zset S a j v).2.2.2 - S.2.2.2 = 0 := Nat.sub_self _
    simp only [e1, e2, Nat.add_zero] at k
    exact k
  have made : ∀ (st1 : List zV) (e1 : zLE) (f : Nat → Int), r = ((1, (S.1.length : Int)) :: st1, znew S e1 f) → zoks S.1.length st1 → e1.2.2 < 2147483648 → ∀ (q : Nat) H1 locs1, zrel D cA (zadd ad S.1.length q) A (znew S e1 f) H1 → va_S A s.heap H1 locs1 → W p l e R s m args below meth c H1 locs1 (cells + 1) (slots + e1.2.2) Q (F0 m (pc + len) lsC (.ref q :: st1.map (zval ad))) := by
    intro st1 e1 f hr ho hsz q H1 locs1 g1 g2
    subst hr
    have hl : S.1.length ≤ (znew S e1 f).1.length := by show _ ≤ (S.1 ++ [e1]).length; simp
    have hl2 : (znew S e1 f).1.length = S.1.length + 1 := by show (S.1 ++ [e1]).length = _; simp
    have k := kk (zadd ad S.1.length q) H1 locs1 (zag_add ad _ q) g1 (fun k e2 he => by
      have he : (S.1 ++ [e1])[k]? = some e2 := he
      rcases List.mem_append.mp (List.mem_of_getElem? he) with h | h
      · obtain ⟨j, hj⟩ := List.getElem?_of_mem h; exact hsh j e2 hj
      · rw [List.mem_singleton.mp h]; exact hsz) hl g2 (List.forall_mem_cons.mpr ⟨Or.inr (Or.inr (Or.inr ⟨Int.natCast_nonneg _, by show (S.1.length : Int) < ((znew S e1 f).1.length : Int); omega⟩)), zoks_mono ho hl⟩) (Nat.le_succ _) (Nat.le_add_right _ _)
    have e3 : (znew S e1 f).2.2.1 - S.2.2.1 = 1 := by show S.2.2.1 + 1 - S.2.2.1 = 1; omega
    have e4 : (znew S e1 f).2.2.2 - S.2.2.2 = e1.2.2 := by show S.2.2.2 + e1.2.2 - S.2.2.2 = _; omega
    simp only [e3, e4, List.map_cons, zval1, zmap_ag (zag_add ad _ q) ho] at k
    have e5 : zadd ad S.1.length q (S.1.length : Int) = q := by unfold zadd; rw [if_pos rfl]
    rw [e5] at k
    exact k
  unfold zheap at h
  split at h
  · split at h
    · rename_i f hf
      split at h
      · rename_i n hn
        have ho := List.forall_mem_cons.mp hos
        exact zh_get hx hb hown hts hK hrel (p1 _ _ hf) hn hd (fun hok => same _ (Option.some.inj h).symm (List.forall_mem_cons.mpr ⟨hok, ho.2⟩))
      · cases h
    · cases h
  · split at h
    · rename_i f hf
      split at h
      · rename_i h3
        split at h
        · rename_i n hn
          have ho := List.forall_mem_cons.mp hos
          have ho2 := List.forall_mem_cons.mp ho.2
          obtain ⟨rfl, h4, h5⟩ := h3
          exact zh_put hx hb hown hts hK hrel hS (p1 _ _ hf) hn h4 (fun z => hctor (h5 z)) hd ho.1 (stor _ _ _ _ (Option.some.inj h).symm ho2.2)
        · cases h
      · cases h
    · cases h
  · rename_i j0 a0 st0
    have ho := List.forall_mem_cons.mp hos
    have ho2 := List.forall_mem_cons.mp ho.2
    split at h
    · rename_i q hq
      exact zh_aload hx hb hK hrel hsh hq (Or.inl ⟨rfl, rfl⟩) hd (fun t ht hok => by subst ht; exact same _ (Option.some.inj h).symm (List.forall_mem_cons.mpr ⟨hok, ho2.2⟩))
    · split at h
      · rename_i ha
        split at h
        · rename_i r0 hr0
          split at h
          · rename_i hj
            obtain ⟨z1, z2, z3, z4, z5, z6⟩ := hro a0 r0 hr0
            have g1 : zi32 j0 := ho.1
            have e1 : zval ad (1, a0) = .ref (ad a0) := by show va_rf (zrf ad a0) = _; unfold zrf; rw [if_neg (by omega)]; rfl
            rw [List.map_cons, List.map_cons, e1]
            obtain ⟨scr, x1, x2, x3, x4, x5, x6⟩ := z2
            have hcl : (Int32.ofInt j0).toNatClampNeg = j0.toNat := zclamp hj.1 (by omega)
            have hin : ¬ (Int32.ofInt j0 < 0 ∨ scr.slots.size ≤ (Int32.ofInt j0).toNatClampNeg) := by
              rw [hcl, show (0 : Int32) = Int32.ofInt 0 from rfl, zltI g1 ⟨by decide, by decide⟩]
              omega
            refine W.iald (v := .int (Int32.ofInt (r0.2 j0.toNat))) hx hb (by rw [hS.2.1 _ z3 z4]; exact x1) x2 x3 hin (by rw [hcl]; exact x6 _ (by omega)) rfl rfl hd ?_
            exact same _ (Option.some.inj h).symm (List.forall_mem_cons.mpr ⟨z5 _, ho2.2⟩)
          · cases h
        · cases h
      · cases h
  · have ho := List.forall_mem_cons.mp hos
    have ho2 := List.forall_mem_cons.mp ho.2
    split at h
    · rename_i q hq
      exact zh_aload hx hb hK hrel hsh hq (Or.inr (Or.inl ⟨rfl, rfl⟩)) hd (fun t ht hok => by subst ht; exact same _ (Option.some.inj h).symm (List.forall_mem_cons.mpr ⟨hok, ho2.2⟩))
    · cases h
  · have ho := List.forall_mem_cons.mp hos
    have ho2 := List.forall_mem_cons.mp ho.2
    split at h
    · rename_i q hq
      exact zh_aload hx hb hK hrel hsh hq (Or.inr (Or.inr (Or.inl ⟨rfl, rfl⟩))) hd (fun t ht hok => by subst ht; exact same _ (Option.some.inj h).symm (List.forall_mem_cons.mpr ⟨hok, ho2.2⟩))
    · cases h
  · have ho := List.forall_mem_cons.mp hos
    have ho2 := List.forall_mem_cons.mp ho.2
    split at h
    · rename_i q hq
      exact zh_aload hx hb hK hrel hsh hq (Or.inr (Or.inr (Or.inr ⟨rfl, rfl⟩))) hd (fun t ht hok => by subst ht; exact same _ (Option.some.inj h).symm (List.forall_mem_cons.mpr ⟨hok, ho2.2⟩))
    · cases h
  · have ho := List.forall_mem_cons.mp hos
    have ho2 := List.forall_mem_cons.mp (List.forall_mem_cons.mp ho.2).2
    split at h
    · rename_i q hq
      exact zh_astore hx hb hK hrel hsh hS hq ho.1 (Or.inl ⟨rfl, rfl, rfl⟩) hd (stor _ _ _ _ (Option.some.inj h).symm ho2.2)
    · cases h
  · have ho := List.forall_mem_cons.mp hos
    have ho2 := List.forall_mem_cons.mp (List.forall_mem_cons.mp ho.2).2
    split at h
    · rename_i hv
      split at h
      · rename_i q hq
        exact zh_astore hx hb hK hrel hsh hS hq ho.1 (Or.inr (Or.inl ⟨rfl, rfl, rfl, hv.1, hv.2⟩)) hd (stor _ _ _ _ (Option.some.inj h).symm ho2.2)
      · cases h
    · cases h
  · have ho := List.forall_mem_cons.mp hos
    have ho2 := List.forall_mem_cons.mp (List.forall_mem_cons.mp ho.2).2
    split at h
    · rename_i hv
      split at h
      · rename_i q hq
        exact zh_astore hx hb hK hrel hsh hS hq ho.1 (Or.inr (Or.inr (Or.inl ⟨rfl, rfl, rfl, hv⟩))) hd (stor _ _ _ _ (Option.some.inj h).symm ho2.2)
      · cases h
    · cases h
  · have ho := List.forall_mem_cons.mp hos
    have ho2 := List.forall_mem_cons.mp (List.forall_mem_cons.mp ho.2).2
    split at h
    · rename_i q hq
      split at h
      · rename_i n0 hn0
        exact zh_astore hx hb hK hrel hsh hS hq ho.1 (Or.inr (Or.inr (Or.inr ⟨rfl, rfl, rfl, n0, hn0⟩))) hd (stor _ _ _ _ (Option.some.inj h).symm ho2.2)
      · cases h
    · cases h
  · rename_i a0 st0
    have ho := List.forall_mem_cons.mp hos
    split at h
    · rename_i ha
      split at h
      · rename_i e0 he0
        split at h
        · rename_i hk0
          obtain ⟨n, rfl⟩ := Int.eq_ofNat_of_zero_le ha
          have h9 := hsh _ _ he0
          have hw := zws_at (ad := ad) (cA := cA) he0
          rw [List.map_cons, zval1]
          have e1 : Int32.ofNat e0.2.2 = Int32.ofInt (e0.2.2 : Int) := by rw [Int32.ofInt_eq_ofNat]
          have fin := same _ (Option.some.inj h).symm (List.forall_mem_cons.mpr ⟨show zi32 (e0.2.2 : Int) from ⟨by omega, by omega⟩, ho.2⟩)
          have hw2 : ∃ x : vp_A, ∃ kA, (zws ad cA S)[n]? = some (ad (n : Int), .inl (cA kA, x)) ∧ x.1 = e0.2.2 ∧ ∃ (t0 : Nat) (ty : FieldType), (ztys cA)[t0]? = some (cA kA, ty) := by
            rcases (by omega : e0.1 = 1 ∨ e0.1 = 2 ∨ e0.1 = 3 ∨ e0.1 = 6) with z | z | z | z
            · rw [zenti z (Or.inl rfl)] at hw; exact ⟨_, 1, hw, rfl, 0, _, rfl⟩
            · rw [zenti z (Or.inr (Or.inl rfl))] at hw; exact ⟨_, 2, hw, rfl, 1, _, rfl⟩
            · rw [zenti z (Or.inr (Or.inr rfl))] at hw; exact ⟨_, 3, hw, rfl, 2, _, rfl⟩
            · rw [zent6 z] at hw; exact ⟨_, 6, hw, rfl, 3, _, rfl⟩
          obtain ⟨x, kA, q1, q2, t0, ty, q3⟩ := hw2
          exact va_alen hx hb hK hrel.1 n t0 q1 q3 (by rw [q2]; exact e1) hd fin
        · cases h
      · cases h
    · split at h
      · split at h
        · rename_i r0 hr0
          obtain ⟨z1, z2, z3, z4, z5, z6⟩ := hro a0 r0 hr0
          have e1 : zval ad (1, a0) = .ref (ad a0) := by show va_rf (zrf ad a0) = _; unfold zrf; rw [if_neg (by omega)]; rfl
          have e2 : Int32.ofNat r0.1 = Int32.ofInt (r0.1 : Int) := by rw [Int32.ofInt_eq_ofNat]
          rw [List.map_cons, e1]
          obtain ⟨scr, x1, x2, x3, x4, x5, x6⟩ := z2
          refine W.alen (n := Int32.ofNat r0.1) hx hb (by rw [hS.2.1 _ z3 z4]; exact x1) x2 x5 rfl rfl hd ?_
          rw [e2]
          exact same _ (Option.some.inj h).symm (List.forall_mem_cons.mpr ⟨show zi32 (r0.1 : Int) from ⟨by omega, by omega⟩, ho.2⟩)
        · cases h
      · cases h
  · have ho := List.forall_mem_cons.mp hos
    split at h
    · rename_i hn
      obtain ⟨w1, w2, w3⟩ := p7
      obtain ⟨t1, t2, t3, t6⟩ := ztys_at cA
      have rooms : ∀ (k : Nat) (st1 : List zV) (n : Int), r = (st1, znew S (k, 0, n.toNat) (fun _ => 0)) → cells + 1 ≤ R.cells ∧ slots + n.toNat ≤ R.slots := by
        intro k st1 n hr
        subst hr
        have e3 : (znew S (k, 0, n.toNat) (fun _ => 0)).2.2.1 - S.2.2.1 = 1 := by show S.2.2.1 + 1 - S.2.2.1 = 1; omega
        have e4 : (znew S (k, 0, n.toNat) (fun _ => 0)).2.2.2 - S.2.2.2 = n.toNat := by show S.2.2.2 + n.toNat - S.2.2.2 = _; omega
        simp only [e3] at hrc
        simp only [e4] at hrs
        exact ⟨hrc, hrs⟩
      have z0 : zi32 0 := ⟨by decide, by decide⟩
      split at h
      · have hr := (Option.some.inj h).symm
        obtain ⟨r1, r2⟩ := rooms _ _ _ hr
        exact zh_newa (t := ArrayType.int) (ty := FieldType.int) hx hb hts hK hrel hS hA rfl (fun C e => by cases e) t1 w1 hn.1 hn.2 (by decide) (a0 := (_, .inl (fun _ => Int32.ofInt 0))) (fun _ => rfl) (fun ad => zenti rfl (Or.inl rfl)) (fun j => z0) r1 r2 hd (fun q H1 g1 g2 => made _ _ _ hr ho.2 (by show Int.toNat _ < _; omega) q H1 locs g1 g2)
      · have hr := (Option.some.inj h).symm
        obtain ⟨r1, r2⟩ := rooms _ _ _ hr
        exact zh_newa (t := ArrayType.char) (ty := FieldType.char) hx hb hts hK hrel hS hA rfl (fun C e => by cases e) t2 w2 hn.1 hn.2 (by decide) (a0 := (_, .inl (fun _ => Int32.ofInt 0))) (fun _ => rfl) (fun ad => zenti rfl (Or.inr (Or.inl rfl))) (fun j => z0) r1 r2 hd (fun q H1 g1 g2 => made _ _ _ hr ho.2 (by show Int.toNat _ < _; omega) q H1 locs g1 g2)
      · have hr := (Option.some.inj h).symm
        obtain ⟨r1, r2⟩ := rooms _ _ _ hr
        exact zh_newa (t := ArrayType.boolean) (ty := FieldType.boolean) hx hb hts hK hrel hS hA rfl (fun C e => by cases e) t3 w3 hn.1 hn.2 (by decide) (a0 := (_, .inl (fun _ => Int32.ofInt 0))) (fun _ => rfl) (fun ad => zenti rfl (Or.inr (Or.inr rfl))) (fun j => z0) r1 r2 hd (fun q H1 g1 g2 => made _ _ _ hr ho.2 (by show Int.toNat _ < _; omega) q H1 locs g1 g2)
      · cases h
    · cases h
  · rename_i k0 n0 st0
    have ho := List.forall_mem_cons.mp hos
    split at h
    · rename_i hn
      have hr := (Option.some.inj h).symm
      have hn0 : ¬ Int32.ofInt n0 < 0 := by
        rw [show (0 : Int32) = Int32.ofInt 0 from rfl, zltI ⟨by omega, by omega⟩ ⟨by decide, by decide⟩]
        omega
      have e3 : r.2.2.2.1 - S.2.2.1 = 1 := by rw [hr]; show S.2.2.1 + 1 - S.2.2.1 = 1; omega
      have e4 : r.2.2.2.2 - S.2.2.2 = n0.toNat := by rw [hr]; show S.2.2.2 + n0.toNat - S.2.2.2 = _; omega
      rw [e3] at hrc
      rw [e4] at hrs
      refine va_newq hx hb hown (p4 _ hn.1) p5 hK hrel.1 hrel.2.1 hS hA hn0 (zclamp hn.2.1 (by omega)) (by omega) hrc hrs hd (fun q cN H1 g1 g2 g3 g4 => ?_)
      have e1 := zrAo hK g1
      subst e1
      rw [zws_new hrel.2.2 (f := fun _ => -1) (e := (6, 0, n0.toNat)) (by rw [zent6 rfl]; rfl)] at g2 g3
      exact made _ _ _ hr ho.2 (by show Int.toNat _ < _; omega) q H1 locs ⟨g2, g3, zok_new hrel.2.2 (fun j => Or.inl rfl)⟩ g4
    · cases h
  · split at h
    · rename_i c0 hc0
      have hr := (Option.some.inj h).symm
      obtain ⟨C, T, N, ty, ⟨c1, c2, c3, c4, c5, c6⟩, f1, f5, f2, f3, f4⟩ := p2 _ _ hc0
      have e3 : r.2.2.2.1 - S.2.2.1 = 1 := by rw [hr]; show S.2.2.1 + 1 - S.2.2.1 = 1; omega
      have e4 : r.2.2.2.2 - S.2.2.2 = c0.2 := by rw [hr]; show S.2.2.2 + c0.2 - S.2.2.2 = _; omega
      rw [e3] at hrc
      rw [e4, f1] at hrs
      have hfs : ∀ ad', ∀ j, j < N → defaultValue (ty j) = vp_V (zfs ad' c0.1 c0.2 (fun j => zdef (zfty c0.1 j))) j := by
        intro ad' j hj
        obtain ⟨b, hb9⟩ := (c5 j hj).2
        unfold vp_V
        rw [List.getD_eq_getElem?_getD, zfs_at (by rw [f1]; exact hj)]
        exact zfit_def hb9
      refine va_new hx hb hts c2 ty c3 hown (hts _ f2) (hts _ f3) (hts _ f4) hK hrel.1 hrel.2.1 hS hA c1 (hfs ad) hrc hrs hd (fun q H1 g2 g3 g4 => ?_)
      have hz : ∀ j, zok S.1.length (zfty c0.1 j, zdef (zfty c0.1 j)) := by
        intro j
        by_cases hj : j < N
        · obtain ⟨b, hb9⟩ := (c5 j hj).2
          rcases hb9 with ⟨q1, -⟩ | ⟨q1, -⟩ | ⟨q1, -⟩ | ⟨q1, -⟩ <;> rw [q1]
          · exact ⟨by decide, by decide⟩
          · exact ⟨by decide, by decide⟩
          · exact ⟨by decide, by decide⟩
          · exact Or.inl rfl
        · rw [c6 j (by omega)]
          exact ⟨by decide, by decide⟩
      have hag := zag_add ad S.1.length q
      rw [zws_new hrel.2.2 (f := fun j => zdef (zfty c0.1 j)) (e := (0, c0.1, c0.2)) (by
        rw [zent0 rfl]
        congr 2
        unfold zfs
        exact List.map_congr_left (fun j _ => (zval_ag (hz j) hag).symm))] at g2 g3
      have k9 := made _ _ _ hr hos (by
        show c0.2 < _
        omega) q H1 locs ⟨g2, g3, zok_new hrel.2.2 (fun j => by simpa [zctag] using hz j)⟩ g4
      rw [show ((0, c0.1, c0.2) : zLE).2.2 = N from f1] at k9
      exact k9
    · cases h
  · split at h
    · rename_i r0 hr0
      obtain ⟨rfl, host, hl9⟩ := p3 _ _ hr0
      refine va_getsN hx hb p6 hS hown hl9 (fun x hx9 => hx9) hd ?_
      have k9 := same _ (Option.some.inj h).symm (List.forall_mem_cons.mpr ⟨Or.inr (Or.inl rfl), hos⟩)
      exact k9
    · cases h
  · cases h
end
