/-! the steps on cells -/
def zro (ro : zRo) (ad : Int → Nat) (A : Nat → Prop) (U : State) (H : Heap) : Prop := ∀ (z : Int) (r : Nat × (Nat → Int)), ro z = some r → (z = -2 ∨ z = -3) ∧ va_X (ad z) r.1 (fun j => Int32.ofInt (r.2 j)) U H ∧ ad z < H.size ∧ ¬ A (ad z) ∧ (∀ j, zi32 (r.2 j)) ∧ r.1 < 2147483648
section
variable {p : Program} {l : Launch} {e : Env} {R : Room} {s : State} {m : MethodId} {args : Array Value} {below : List Frame} {meth : Method} {c : Code} {H : Heap} {locs : List Loc} {cells slots : Nat} {Q : State → Prop}
variable {cc : ByteArray} {pc : Nat} {lsC : Array Slot} {ad : Int → Nat} {ls st : List zV} {D : va_G} {cA : Nat → ClassId} {A : Nat → Prop} {S : zS} {ro : zRo} {ck : Nat} {ctor : Bool}
theorem zval1 (ad : Int → Nat) (n : Nat) : zval ad (1, (n : Int)) = .ref (ad (n : Int)) := by
  show va_rf (zrf ad n) = _
  unfold zrf
  rw [if_neg (by omega)]
  rfl
theorem zent0 {ad : Int → Nat} {cA : Nat → ClassId} {e : zLE} {f : Nat → Int} (h : e.1 = 0) : zent ad cA e f = .inr (e.2.1, zfs ad e.2.1 e.2.2 f) := by unfold zent; rw [if_pos h]
theorem zent4 {ad : Int → Nat} {cA : Nat → ClassId} {e : zLE} {f : Nat → Int} (h : e.1 = 4) : zent ad cA e f = .inl (cA 4, e.2.2, .inr (.inl (fun j => Int64.ofInt (f j)))) := by unfold zent; rw [if_neg (by omega), if_pos h]
theorem zent5 {ad : Int → Nat} {cA : Nat → ClassId} {e : zLE} {f : Nat → Int} (h : e.1 = 5) : zent ad cA e f = .inl (cA 5, e.2.2, .inr (.inr (.inr (.inl (fun j => UInt64.ofNat (f j).toNat))))) := by unfold zent; rw [if_neg (by omega), if_neg (by omega), if_pos h]
theorem zent6 {ad : Int → Nat} {cA : Nat → ClassId} {e : zLE} {f : Nat → Int} (h : e.1 = 6) : zent ad cA e f = .inl (cA 6, e.2.2, .inr (.inr (.inr (.inr (fun j => zrf ad (f j)))))) := by unfold zent; rw [if_neg (by omega), if_neg (by omega), if_neg (by omega), if_pos h]
theorem zenti {ad : Int → Nat} {cA : Nat → ClassId} {e : zLE} {f : Nat → Int} {k : Nat} (h : e.1 = k) (hk : k = 1 ∨ k = 2 ∨ k = 3) : zent ad cA e f = .inl (cA k, e.2.2, .inl (fun j => Int32.ofInt (f j))) := by unfold zent; rw [if_neg (by omega), if_neg (by omega), if_neg (by omega), if_neg (by omega), h]
theorem zfs_at {ad : Int → Nat} {c n k : Nat} {f : Nat → Int} (h : k < n) : (zfs ad c n f)[k]? = some (zval ad (zfty c k, f k)) := by unfold zfs; rw [List.getElem?_map, List.getElem?_range h]; rfl
theorem zfs_len (ad : Int → Nat) (c n : Nat) (f : Nat → Int) : (zfs ad c n f).length = n := by simp [zfs]
theorem zfs_set {ad : Int → Nat} {c n k : Nat} {f : Nat → Int} {v : Int} : (zfs ad c n f).set k (zval ad (zfty c k, v)) = zfs ad c n (fun j => if j = k then v else f j) := by
  refine List.ext_getElem? (fun i => ?_)
  by_cases hl : i < n
  · by_cases hi : k = i
    · subst hi
      rw [List.getElem?_set_self (by rw [zfs_len]; exact hl), zfs_at hl, if_pos rfl]
    · rw [List.getElem?_set_ne hi, zfs_at hl, zfs_at hl, if_neg (Ne.symm hi)]
  · rw [List.getElem?_eq_none (by simp [zfs_len]; omega), List.getElem?_eq_none (by rw [zfs_len]; omega)]
theorem zh_get (hx : p.tables.exec = Jvm.exec) (hb : c.code = cc) (hown : s.vm.findClass (zown ck) = some m.cls) (hts : ∀ w ∈ zWS, w.before args s = true) (hK : va_K D zcl (ztys cA) s) (hrel : zrel D cA ad A S H) {k n : Nat} {f : Nat × Nat × Nat × Bool × Bool} (hf : zfldP ck k f) {o : Int} (ho : zobj S o f.1 f.2.1 = some n) (hd : decode cc pc = .ok (.getfield k, 3)) {rest : List Value}
    (kk : zok S.1.length (f.2.2.1, S.2.1 n f.2.1) → W p l e R s m args below meth c H locs cells slots Q (F0 m (pc + 3) lsC (zval ad (f.2.2.1, S.2.1 n f.2.1) :: rest))) : W p l e R s m args below meth c H locs cells slots Q (F0 m pc lsC (zval ad (1, o) :: rest)) := by
  obtain ⟨e0, rfl, h1, h2, h3, h4⟩ := zobj_spec ho
  obtain ⟨C, T, N, ty, ⟨c1, c2, c3, c4, c5, c6⟩, f1, f2, f3, f4, f5, f6⟩ := hf
  have hw := zws_at (ad := ad) (cA := cA) h1
  rw [zent0 h2] at hw
  have hat := zfs_at (ad := ad) (c := e0.2.1) (f := S.2.1 n) h4
  rw [h3, ← f3] at hat
  have hok := hrel.2.2 n e0 h1 f.2.1
  simp only [zctag, h2, if_true, h3, ← f3] at hok
  rw [zval1]
  exact va_get hx hb hts c2 hown hK hrel.1 n hw (by rw [h3]; exact c1) f.2.1 f1 (hts _ f2) (fun x hx9 => by rw [(c5 _ f1).1] at hx9; exact hx9) (by rw [h3]; exact hat) hd (kk hok)
theorem zh_put (hx : p.tables.exec = Jvm.exec) (hb : c.code = cc) (hown : s.vm.findClass (zown ck) = some m.cls) (hts : ∀ w ∈ zWS, w.before args s = true) (hK : va_K D zcl (ztys cA) s) (hrel : zrel D cA ad A S H) {H0 : Heap} (hS : va_S A H0 H locs) {k n : Nat} {f : Nat × Nat × Nat × Bool × Bool} (hf : zfldP ck k f) {o v : Int} (ho : zobj S o f.1 f.2.1 = some n) (hbo : f.2.2.2.1 = true → v = 0 ∨ v = 1) (hfin : f.2.2.2.2 = true → meth.name = "<init>") (hd : decode cc pc = .ok (.putfield k, 3)) {rest : List Value} (hv : zok S.1.length (f.2.2.1, v))
    (kk : ∀ H1 locs1, zrel D cA ad A (zset S n f.2.1 v) H1 → va_S A H0 H1 locs1 → W p l e R s m args below meth c H1 locs1 cells slots Q (F0 m (pc + 3) lsC rest)) : W p l e R s m args below meth c H locs cells slots Q (F0 m pc lsC (zval ad (f.2.2.1, v) :: zval ad (1, o) :: rest)) := by
  obtain ⟨e0, rfl, h1, h2, h3, h4⟩ := zobj_spec ho
  obtain ⟨C, T, N, ty, ⟨c1, c2, c3, c4, c5, c6⟩, f1, f2, f3, f4, f5, f6⟩ := hf
  have hw := zws_at (ad := ad) (cA := cA) h1
  rw [zent0 h2] at hw
  obtain ⟨g1, g2⟩ := zfit_nar (ad := ad) f4 hbo
  have kk2 : ∀ (H1 : Heap) (locs1 : List Loc), va_P D zcl ((zws ad cA S).set n (ad (n : Int), .inr (e0.2.1, (zfs ad e0.2.1 e0.2.2 (S.2.1 n)).set f.2.1 (zval ad (f.2.2.1, v))))) H1 → va_D A ((zws ad cA S).set n (ad (n : Int), .inr (e0.2.1, (zfs ad e0.2.1 e0.2.2 (S.2.1 n)).set f.2.1 (zval ad (f.2.2.1, v))))) → va_S A H0 H1 locs1 → W p l e R s m args below meth c H1 locs1 cells slots Q (F0 m (pc + 3) lsC rest) := by
    intro H1 locs1 q1 q2 q3
    have e1 : (zws ad cA S).set n (ad (n : Int), .inr (e0.2.1, (zfs ad e0.2.1 e0.2.2 (S.2.1 n)).set f.2.1 (zval ad (f.2.2.1, v)))) = zws ad cA (zset S n f.2.1 v) := by
      refine zws_set h1 ?_
      rw [zent0 h2, f3, ← h3, zfs_set]
    rw [e1] at q1 q2
    refine kk H1 locs1 ⟨q1, q2, zok_set hrel.2.2 h1 ?_⟩ q3
    simp only [zctag, h2, if_true, h3, ← f3]
    exact hv
  rw [zval1]
  by_cases hfi : f.2.2.2.2 = true
  · exact va_putF hx hb hts c2 ty c3 c4 hown hK hrel.1 hrel.2.1 hS n hw (by rw [h3]; exact c1) f.2.1 f1 (hts _ f2) (fun x hx9 => by rw [(c5 _ f1).1] at hx9; exact hx9) (by rw [← f5]; exact hfi) (hfin hfi) (by rw [(c5 _ f1).1]; exact f6 hfi) (c3 _ f1) g1 g2 (by rw [zfs_len]; exact h4) hd kk2
  · exact va_put hx hb hts c2 ty c3 c4 hown hK hrel.1 hrel.2.1 hS n hw (by rw [h3]; exact c1) f.2.1 f1 (hts _ f2) (fun x hx9 => by rw [(c5 _ f1).1] at hx9; exact hx9) (by rw [← f5]; simpa using hfi) (c3 _ f1) g1 g2 (by rw [zfs_len]; exact h4) hd kk2
end
