/-! rules for calls, branches, cells -/
theorem zLY_data {a : Nat} {e : zLE} (h : zLY[a]? = some e) (h0 : e.1 ≠ 0) (h6 : e.1 ≠ 6) (j : Nat) : zptr a j = 0 := by
  have hk : (List.range 97).all (fun i => (match zLY[i]? with | some e => e.1 == 0 || e.1 == 6 | none => true) || (zptrL.getD i []).isEmpty) = true := by decide +kernel
  have ha : a < 97 := (List.getElem?_eq_some_iff.mp h).1
  have := List.all_eq_true.mp hk a (List.mem_range.mpr ha)
  rw [h] at this
  simp only [Bool.or_eq_true, beq_iff_eq, List.isEmpty_iff] at this
  unfold zptr
  rcases this with (h1 | h1) | h1
  · exact absurd h1 h0
  · exact absurd h1 h6
  · rw [h1]; rfl
def zpu (o : Option zV) (st : List zV) : List zV := match o with | some v => v :: st | none => st
/-- a method that ends without a throw -/
def Ev (ro : zRo) (d : Nat) (M : zM) (as : List zV) (w : zW) (P : Option zV → zW → Prop) : Prop := Z ro d M 0 (zargs (zMl M) as) [] w (fun r w' k => k = 0 ∧ ∃ o, r = .inl o ∧ P o w')
section
variable {ro : zRo} {d : Nat} {M : zM} {pc : Nat} {ls st : List zV} {w : zW} {Q : (Option zV ⊕ String) → zW → Nat → Prop}
theorem Ev_deep {d' : Nat} {as : List zV} {P : Option zV → zW → Prop} (hd : d' ≤ d) (K : Ev ro d' M as w P) : Ev ro d M as w P := Z_deep hd K
theorem Ev_mono {as : List zV} {P P' : Option zV → zW → Prop} (K : Ev ro d M as w P') (h : ∀ o w', P' o w' → P o w') : Ev ro d M as w P :=
  Z_mono K (fun r w' k ⟨h0, o, h1, h2⟩ => ⟨h0, o, h1, h o w' h2⟩)
theorem Z_call {i : Instr} {kd na : Nat} {M' : zM} {d' : Nat} {Q' : (Option zV ⊕ String) → zW → Nat → Prop} (g : zget (zMt M) pc = some (i, 3)) (h1 : zpush (zcon (zMk M)) i 3 ls = none) (h2 : zstore i 3 ls st = none) (h3 : zarith (zmth (zMk M)) i 3 st = none) (h4 : zjump i 3 pc st = none) (h5 : zend (zMr M) i 3 st = none) (h6 : zthr (zexn (zMk M)) (zMt M) pc i 3 = none)
    (h7 : ∀ S, zheap (zfld (zMk M)) (zcls (zMk M)) zfty (zref (zMk M)) (zstc (zMk M)) (M.1.name == "<init>") ro i 3 st S = none)
    (hi : zinv (zMk M) i 3 = some (kd, na, M')) (hb : (decide (na ≤ st.length) && (st.take na).all zplain && decide (na ≤ zMl M') && (st.drop na).all zplain && decide ((st.drop na).length ≤ 8)) = true)
    (hr : ∀ c s, zrecv (zLY, w, c, s) kd (zMk M') (st.take na).reverse = true) (hd : d' + 1 ≤ d)
    (C : Z ro d' M' 0 (zargs (zMl M') (st.take na).reverse) [] w Q')
    (Kv : ∀ o w' k, Q' (.inl o) w' k → Z ro d M (pc + 3) ls (zpu o (st.drop na)) w' (fun r w2 k2 => Q r w2 (k2 + k)))
    (Ke : ∀ E w' k, Q' (.inr E) w' k → (kd = 0 ∨ kd = 1) ∧ ((zMh M).isEmpty = true ∧ Q (.inr E) w' k ∨ ∃ (h : Nat) (r2 : Nat × List zV), zhand (zexn (zMk M)) zCA zNC pc E (zMh M) = some h ∧ zcatch (zMt M) h ls = some r2 ∧ Z ro d M r2.1 r2.2 [] w' (fun r w2 k2 => Q r w2 (k2 + k)))) : Z ro d M pc ls st w Q := by
  intro hw c s
  obtain ⟨d0, rfl⟩ : ∃ d0, d = d0 + 1 := ⟨d - 1, by omega⟩
  obtain ⟨n, r, w1, k, hrun, hw1, hQ⟩ := C hw c s
  have key : ∀ n1, n ≤ n1 → zrun ro n1 d0 M' 0 (zargs (zMl M') (st.take na).reverse) [] (zLY, w, c, s) = some (r, (zLY, w1, c + k, s + 6 * k)) := fun n1 hn => zr_le _ _ _ _ _ _ _ _ _ _ hn (by omega) hrun
  have hb' : (decide (na ≤ st.length) && (st.take na).all zplain && decide (na ≤ zMl M') && (st.drop na).all zplain && decide ((st.drop na).length ≤ 8) && zrecv (zLY, w, c, s) kd (zMk M') (st.take na).reverse) = true := by rw [hb, hr]; rfl
  match r, hQ with
  | .inl o, hQ =>
    obtain ⟨n2, r2, w2, k2, hrun2, hw2, hQ2⟩ := Kv o w1 k hQ hw1 (c + k) (s + 6 * k)
    refine ⟨n + n2 + 1, r2, w2, k2 + k, ?_, hw2, hQ2⟩
    rw [zrun]
    simp only [g, h1, h2, h3, h4, h5, h6, h7, hi, hb', cond_true]
    rw [key _ (by omega)]
    have e2 := zr_le _ (n + n2) _ _ _ _ _ _ _ _ (by omega) (Nat.le_refl _) hrun2
    rw [show c + (k2 + k) = c + k + k2 by omega, show s + 6 * (k2 + k) = s + 6 * k + 6 * k2 by omega]
    cases o with
    | some v => exact e2
    | none => exact e2
  | .inr E, hQ =>
    obtain ⟨hk, hE⟩ := Ke E w1 k hQ
    rcases hE with ⟨he, hq⟩ | ⟨h, r2, e1, e3, K2⟩
    · refine ⟨n + 1, .inr E, w1, k, ?_, hw1, hq⟩
      rw [zrun]
      simp only [g, h1, h2, h3, h4, h5, h6, h7, hi, hb', cond_true]
      rw [key _ (Nat.le_refl _)]
      simp only
      rw [if_pos hk]
      rw [List.isEmpty_iff.mp he]
      rfl
    · obtain ⟨n2, r3, w2, k2, hrun2, hw2, hQ2⟩ := K2 hw1 (c + k) (s + 6 * k)
      refine ⟨n + n2 + 1, r3, w2, k2 + k, ?_, hw2, hQ2⟩
      rw [zrun]
      simp only [g, h1, h2, h3, h4, h5, h6, h7, hi, hb', cond_true]
      rw [key _ (by omega)]
      have e2 := zr_le _ (n + n2) _ _ _ _ _ _ _ _ (by omega) (Nat.le_refl _) hrun2
      rw [show c + (k2 + k) = c + k + k2 by omega, show s + 6 * (k2 + k) = s + 6 * k + 6 * k2 by omega]
      simp only
      rw [if_pos hk]
      simp only [e1, e3]
      exact e2
/-- a call of a method that ends without a throw -/
theorem Z_callE {i : Instr} {kd na : Nat} {M' : zM} {d' : Nat} {P : Option zV → zW → Prop} (g : zget (zMt M) pc = some (i, 3)) (h1 : zpush (zcon (zMk M)) i 3 ls = none) (h2 : zstore i 3 ls st = none) (h3 : zarith (zmth (zMk M)) i 3 st = none) (h4 : zjump i 3 pc st = none) (h5 : zend (zMr M) i 3 st = none) (h6 : zthr (zexn (zMk M)) (zMt M) pc i 3 = none)
    (h7 : ∀ S, zheap (zfld (zMk M)) (zcls (zMk M)) zfty (zref (zMk M)) (zstc (zMk M)) (M.1.name == "<init>") ro i 3 st S = none)
    (hi : zinv (zMk M) i 3 = some (kd, na, M')) (hb : (decide (na ≤ st.length) && (st.take na).all zplain && decide (na ≤ zMl M') && (st.drop na).all zplain && decide ((st.drop na).length ≤ 8)) = true)
    (hr : ∀ c s, zrecv (zLY, w, c, s) kd (zMk M') (st.take na).reverse = true) (hd : d' + 1 ≤ d)
    (C : Ev ro d' M' (st.take na).reverse w P) (K : ∀ o w', P o w' → Z ro d M (pc + 3) ls (zpu o (st.drop na)) w' Q) : Z ro d M pc ls st w Q := by
  refine Z_call g h1 h2 h3 h4 h5 h6 h7 hi hb hr hd C (fun o w' k h => ?_) (fun E w' k h => ?_)
  · obtain ⟨rfl, o', e, h⟩ := h
    cases e
    exact K o w' h
  · obtain ⟨-, o', e, -⟩ := h
    cases e
theorem zrecv_obj {a c n : Nat} {as : List zV} {kd : Nat} (h : zLY[a]? = some (0, c, n)) (w : zW) (x y : Nat) : zrecv (zLY, w, x, y) kd c ((1, (a : Int)) :: as) = true := by
  unfold zrecv
  cases (kd == 0 || kd == 3 || kd == 4) with
  | false => rfl
  | true =>
    simp only [cond_true]
    have e : (zLY, w, x, y).1[((a : Int)).toNat]? = some (0, c, n) := h
    rw [e]
    simp
theorem Z_ic {c : ClassFile.Cond} {off a : Int} {tgt : Nat} (g : zget (zMt M) pc = some (.ifCond c off, 3)) (ht : (pc : Int) + off = (tgt : Nat)) (KT : zc0 c a = true → Z ro d M tgt ls st w Q) (KF : zc0 c a = false → Z ro d M (pc + 3) ls st w Q) : Z ro d M pc ls ((0, a) :: st) w Q := by
  cases h : zc0 c a with
  | true => exact Z_jump g rfl rfl rfl (v := (tgt, st)) (by show zoff pc off (zc0 c a) st = _; unfold zoff; rw [h, if_pos (by omega), ht]; rfl) (KT h)
  | false => exact Z_jump g rfl rfl rfl (v := (pc + 3, st)) (by show zoff pc off (zc0 c a) st = _; unfold zoff; rw [h, if_pos (by omega)]; rfl) (KF h)
theorem Z_ii {c : ClassFile.Cond} {off a b : Int} {tgt : Nat} (g : zget (zMt M) pc = some (.if_icmp c off, 3)) (ht : (pc : Int) + off = (tgt : Nat)) (KT : zc2 c a b = true → Z ro d M tgt ls st w Q) (KF : zc2 c a b = false → Z ro d M (pc + 3) ls st w Q) : Z ro d M pc ls ((0, b) :: (0, a) :: st) w Q := by
  cases h : zc2 c a b with
  | true => exact Z_jump g rfl rfl rfl (v := (tgt, st)) (by show zoff pc off (zc2 c a b) st = _; unfold zoff; rw [h, if_pos (by omega), ht]; rfl) (KT h)
  | false => exact Z_jump g rfl rfl rfl (v := (pc + 3, st)) (by show zoff pc off (zc2 c a b) st = _; unfold zoff; rw [h, if_pos (by omega)]; rfl) (KF h)
theorem Z_nul {off a : Int} {tgt : Nat} (g : zget (zMt M) pc = some (.ifnull off, 3)) (ht : (pc : Int) + off = (tgt : Nat)) (KT : a = -1 → Z ro d M tgt ls st w Q) (KF : a ≠ -1 → Z ro d M (pc + 3) ls st w Q) : Z ro d M pc ls ((1, a) :: st) w Q := by
  by_cases h : a = -1
  · exact Z_jump g rfl rfl rfl (v := (tgt, st)) (by show zoff pc off (decide (a = -1)) st = _; unfold zoff; rw [decide_eq_true h, if_pos (by omega), ht]; rfl) (KT h)
  · exact Z_jump g rfl rfl rfl (v := (pc + 3, st)) (by show zoff pc off (decide (a = -1)) st = _; unfold zoff; rw [decide_eq_false h, if_pos (by omega)]; rfl) (KF h)
theorem Z_goto {off : Int} {tgt : Nat} (g : zget (zMt M) pc = some (.goto off, 3)) (ht : (pc : Int) + off = (tgt : Nat)) (K : Z ro d M tgt ls st w Q) : Z ro d M pc ls st w Q :=
  Z_jump g rfl rfl rfl (v := (tgt, st)) (by show zoff pc off true st = _; unfold zoff; rw [if_pos (by omega), ht]; rfl) K
theorem zw32_id {z : Int} (h : zi32 z) : zw32 z = z := by
  obtain ⟨h1, h2⟩ := h
  unfold zw32
  rw [Int.bmod_def]
  split <;> omega
theorem Z_iadd {a b : Int} (g : zget (zMt M) pc = some (.iadd, 1)) (h : zi32 (a + b)) (K : Z ro d M (pc + 1) ls ((0, a + b) :: st) w Q) : Z ro d M pc ls ((0, b) :: (0, a) :: st) w Q :=
  Z_arith g rfl rfl (v := (0, a + b) :: st) (by show some ((0, zw32 (a + b)) :: st) = _; rw [zw32_id h]) K
theorem Z_isub {a b : Int} (g : zget (zMt M) pc = some (.isub, 1)) (h : zi32 (a - b)) (K : Z ro d M (pc + 1) ls ((0, a - b) :: st) w Q) : Z ro d M pc ls ((0, b) :: (0, a) :: st) w Q :=
  Z_arith g rfl rfl (v := (0, a - b) :: st) (by show some ((0, zw32 (a - b)) :: st) = _; rw [zw32_id h]) K
theorem Z_imul {a b : Int} (g : zget (zMt M) pc = some (.imul, 1)) (h : zi32 (a * b)) (K : Z ro d M (pc + 1) ls ((0, a * b) :: st) w Q) : Z ro d M pc ls ((0, b) :: (0, a) :: st) w Q :=
  Z_arith g rfl rfl (v := (0, a * b) :: st) (by show some ((0, zw32 (a * b)) :: st) = _; rw [zw32_id h]) K
theorem Z_idiv {a b : Int} (g : zget (zMt M) pc = some (.idiv, 1)) (h : 0 < b) (K : Z ro d M (pc + 1) ls ((0, a.tdiv b) :: st) w Q) : Z ro d M pc ls ((0, b) :: (0, a) :: st) w Q :=
  Z_arith g rfl rfl (v := (0, a.tdiv b) :: st) (by show (if 0 < b then _ else _) = _; rw [if_pos h]) K
theorem Z_iinc {k : Nat} {n : Int} {a : Int} {ls' : List zV} (g : zget (zMt M) pc = some (.iinc k n, 3)) (hl : ls[k]? = some (0, a)) (h : zi32 (a + n)) (he : zput ls k (0, a + n) = ls') (K : Z ro d M (pc + 3) ls' st w Q) : Z ro d M pc ls st w Q :=
  Z_store g rfl (v := (ls', st)) (by show (match ls[k]? with | some (0, v) => some (zput ls k (0, zw32 (v + n)), st) | _ => none) = _; rw [hl]; simp only; rw [zw32_id h, he]) K
theorem Z_get {k a f t n c : Nat} {bo fi : Bool} (g : zget (zMt M) pc = some (.getfield k, 3)) (hf : zfld (zMk M) k = some (c, f, t, bo, fi)) (hL : zLY[a]? = some (0, c, n)) (hn : f < n) (K : Z ro d M (pc + 3) ls ((t, w a f) :: st) w Q) : Z ro d M pc ls ((1, (a : Int)) :: st) w Q := by
  refine Z_heap g rfl rfl rfl rfl ?_ rfl (st' := (t, w a f) :: st) (fun x y => ?_) id K
  · unfold zend; split <;> simp_all
  · have e : zobj (zLY, w, x, y) (a : Int) c f = some a := by
      unfold zobj
      rw [if_pos (by omega), show (zLY, w, x, y).1[((a : Int)).toNat]? = some (0, c, n) from hL]
      simp [hn]
    simp [zheap, hf, e]
theorem Z_getR {k a f b n c : Nat} {bo fi : Bool} (g : zget (zMt M) pc = some (.getfield k, 3)) (hf : zfld (zMk M) k = some (c, f, 1, bo, fi)) (hL : zLY[a]? = some (0, c, n)) (hn : f < n) (hp : zptr a f = b) (h0 : b ≠ 0) (K : Z ro d M (pc + 3) ls ((1, (b : Int)) :: st) w Q) : Z ro d M pc ls ((1, (a : Int)) :: st) w Q :=
  Z_pt (fun hw => Z_get g hf hL hn (by rw [hw.at hp h0]; exact K))
theorem Z_put {k a f t n c : Nat} {bo : Bool} {v : Int} (g : zget (zMt M) pc = some (.putfield k, 3)) (hf : zfld (zMk M) k = some (c, f, t, bo, false)) (hL : zLY[a]? = some (0, c, n)) (hn : f < n) (hp : zptr a f = 0) (hv : bo = true → v = 0 ∨ v = 1) (K : Z ro d M (pc + 3) ls st (zup w a f v) Q) : Z ro d M pc ls ((t, v) :: (1, (a : Int)) :: st) w Q := by
  refine Z_heap g rfl rfl rfl rfl ?_ rfl (st' := st) (fun x y => ?_) (fun h => h.up hp) K
  · unfold zend; split <;> simp_all
  · have e : zobj (zLY, w, x, y) (a : Int) c f = some a := by
      unfold zobj
      rw [if_pos (by omega), show (zLY, w, x, y).1[((a : Int)).toNat]? = some (0, c, n) from hL]
      simp [hn]
    have e2 : (True ∧ (bo = true → v = 0 ∨ v = 1) ∧ (false = true → (M.1.name == "<init>") = true)) := ⟨trivial, hv, fun h => by cases h⟩
    simp only [zheap, hf]
    rw [if_pos e2, e]
    rfl
end
