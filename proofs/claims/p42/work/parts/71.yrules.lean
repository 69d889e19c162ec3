/-! THE LAW'S JUDGEMENT: a run over the layout with the cells X behind it; it ends, made at most Kb things of six slots each, and Q holds of its result, of the cells behind and of the world -/
def Y (ro : zRo) (d : Nat) (M : zM) (pc : Nat) (ls st : List zV) (X : List zLE) (w : zW) (Kb : Nat) (Q : (Option zV ⊕ String) → List zLE → zW → Prop) : Prop := PT w → ∀ c s : Nat, ∃ (n : Nat) (r : Option zV ⊕ String) (X' : List zLE) (w' : zW) (c' s' : Nat), zrun ro n d M pc ls st (zLY ++ X, w, c, s) = some (r, (zLY ++ X', w', c', s')) ∧ c' ≤ c + Kb ∧ s' ≤ s + 6 * Kb ∧ PT w' ∧ Q r X' w'
theorem zLY_len : zLY.length = 97 := rfl
theorem zrecv_Y {w : zW} {X : List zLE} {kd cl : Nat} {as : List zV} (h : ∀ c s, zrecv (zLY, w, c, s) kd cl as = true) : ∀ c s, zrecv (zLY ++ X, w, c, s) kd cl as = true := fun c s => zrecv_xt (X := X) (h c s)
section
variable {ro : zRo} {d : Nat} {M : zM} {pc : Nat} {ls st : List zV} {X : List zLE} {w : zW} {Kb : Nat} {Q : (Option zV ⊕ String) → List zLE → zW → Prop}
theorem Y_mono {Q' : (Option zV ⊕ String) → List zLE → zW → Prop} (K : Y ro d M pc ls st X w Kb Q') (h : ∀ r X' w', Q' r X' w' → Q r X' w') : Y ro d M pc ls st X w Kb Q := by
  intro hp c s
  obtain ⟨n, r, X', w', c', s', a, b1, b2, b3, e⟩ := K hp c s
  exact ⟨n, r, X', w', c', s', a, b1, b2, b3, h _ _ _ e⟩
theorem Y_K {k : Nat} (hk : k ≤ Kb) (K : Y ro d M pc ls st X w k Q) : Y ro d M pc ls st X w Kb Q := by
  intro hp c s
  obtain ⟨n, r, X', w', c', s', a, b1, b2, b3, e⟩ := K hp c s
  exact ⟨n, r, X', w', c', s', a, by omega, by omega, b3, e⟩
theorem Y_deep {d' : Nat} (hd : d' ≤ d) (K : Y ro d' M pc ls st X w Kb Q) : Y ro d M pc ls st X w Kb Q := by
  intro hp c s
  obtain ⟨n, r, X', w', c', s', a, b⟩ := K hp c s
  exact ⟨n, r, X', w', c', s', zr_le _ _ _ _ _ _ _ _ _ _ (Nat.le_refl n) hd a, b⟩
theorem Y_one {pc' : Nat} {ls' st' : List zV} {w' : zW} (K : Y ro d M pc' ls' st' X w' Kb Q) (hp : PT w → PT w') (h : ∀ n c s, zrun ro (n + 1) d M pc ls st (zLY ++ X, w, c, s) = zrun ro n d M pc' ls' st' (zLY ++ X, w', c, s)) : Y ro d M pc ls st X w Kb Q := by
  intro hw c s
  obtain ⟨n, r, X', w2, c', s', a, b⟩ := K (hp hw) c s
  exact ⟨n + 1, r, X', w2, c', s', by rw [h]; exact a, b⟩
theorem Y_push {i : Instr} {len : Nat} {v : zV} (g : zget (zMt M) pc = some (i, len)) (h : zpush (zcon (zMk M)) i len ls = some v) (K : Y ro d M (pc + len) ls (v :: st) X w Kb Q) : Y ro d M pc ls st X w Kb Q :=
  Y_one K id (fun n c s => by rw [zrun]; simp only [g, h])
theorem Y_store {i : Instr} {len : Nat} {v : List zV × List zV} (g : zget (zMt M) pc = some (i, len)) (h1 : zpush (zcon (zMk M)) i len ls = none) (h : zstore i len ls st = some v) (K : Y ro d M (pc + len) v.1 v.2 X w Kb Q) : Y ro d M pc ls st X w Kb Q :=
  Y_one K id (fun n c s => by rw [zrun]; simp only [g, h1, h])
theorem Y_arith {i : Instr} {len : Nat} {v : List zV} (g : zget (zMt M) pc = some (i, len)) (h1 : zpush (zcon (zMk M)) i len ls = none) (h2 : zstore i len ls st = none) (h : zarith (zmth (zMk M)) i len st = some v) (K : Y ro d M (pc + len) ls v X w Kb Q) : Y ro d M pc ls st X w Kb Q :=
  Y_one K id (fun n c s => by rw [zrun]; simp only [g, h1, h2, h])
theorem Y_jump {i : Instr} {len : Nat} {v : Nat × List zV} (g : zget (zMt M) pc = some (i, len)) (h1 : zpush (zcon (zMk M)) i len ls = none) (h2 : zstore i len ls st = none) (h3 : zarith (zmth (zMk M)) i len st = none) (h : zjump i len pc st = some v) (K : Y ro d M v.1 ls v.2 X w Kb Q) : Y ro d M pc ls st X w Kb Q :=
  Y_one K id (fun n c s => by rw [zrun]; simp only [g, h1, h2, h3, h])
theorem Y_heap {i : Instr} {len : Nat} {st' : List zV} {w' : zW} (g : zget (zMt M) pc = some (i, len)) (h1 : zpush (zcon (zMk M)) i len ls = none) (h2 : zstore i len ls st = none) (h3 : zarith (zmth (zMk M)) i len st = none) (h4 : zjump i len pc st = none) (h5 : zend (zMr M) i len st = none) (h6 : zthr (zexn (zMk M)) (zMt M) pc i len = none)
    (h : ∀ c s, zheap (zfld (zMk M)) (zcls (zMk M)) zfty (zref (zMk M)) (zstc (zMk M)) (M.1.name == "<init>") ro i len st (zLY ++ X, w, c, s) = some (st', (zLY ++ X, w', c, s))) (hp : PT w → PT w') (K : Y ro d M (pc + len) ls st' X w' Kb Q) : Y ro d M pc ls st X w Kb Q :=
  Y_one K hp (fun n c s => by rw [zrun]; simp only [g, h1, h2, h3, h4, h5, h6, h])
theorem Y_end {i : Instr} {len : Nat} {v : Option zV} (g : zget (zMt M) pc = some (i, len)) (h1 : zpush (zcon (zMk M)) i len ls = none) (h2 : zstore i len ls st = none) (h3 : zarith (zmth (zMk M)) i len st = none) (h4 : zjump i len pc st = none) (h : zend (zMr M) i len st = some v) (K : Q (.inl v) X w) : Y ro d M pc ls st X w Kb Q :=
  fun hw c s => ⟨1, .inl v, X, w, c, s, by rw [zrun]; simp only [g, h1, h2, h3, h4, h], by omega, by omega, hw, K⟩
theorem Y_ic {c : ClassFile.Cond} {off a : Int} {tgt : Nat} (g : zget (zMt M) pc = some (.ifCond c off, 3)) (ht : (pc : Int) + off = (tgt : Nat)) (KT : zc0 c a = true → Y ro d M tgt ls st X w Kb Q) (KF : zc0 c a = false → Y ro d M (pc + 3) ls st X w Kb Q) : Y ro d M pc ls ((0, a) :: st) X w Kb Q := by
  cases h : zc0 c a with
  | true => exact Y_jump g rfl rfl rfl (v := (tgt, st)) (by show zoff pc off (zc0 c a) st = _; unfold zoff; rw [h, if_pos (by omega), ht]; rfl) (KT h)
  | false => exact Y_jump g rfl rfl rfl (v := (pc + 3, st)) (by show zoff pc off (zc0 c a) st = _; unfold zoff; rw [h, if_pos (by omega)]; rfl) (KF h)
theorem Y_ii {c : ClassFile.Cond} {off a b : Int} {tgt : Nat} (g : zget (zMt M) pc = some (.if_icmp c off, 3)) (ht : (pc : Int) + off = (tgt : Nat)) (KT : zc2 c a b = true → Y ro d M tgt ls st X w Kb Q) (KF : zc2 c a b = false → Y ro d M (pc + 3) ls st X w Kb Q) : Y ro d M pc ls ((0, b) :: (0, a) :: st) X w Kb Q := by
  cases h : zc2 c a b with
  | true => exact Y_jump g rfl rfl rfl (v := (tgt, st)) (by show zoff pc off (zc2 c a b) st = _; unfold zoff; rw [h, if_pos (by omega), ht]; rfl) (KT h)
  | false => exact Y_jump g rfl rfl rfl (v := (pc + 3, st)) (by show zoff pc off (zc2 c a b) st = _; unfold zoff; rw [h, if_pos (by omega)]; rfl) (KF h)
theorem Y_goto {off : Int} {tgt : Nat} (g : zget (zMt M) pc = some (.goto off, 3)) (ht : (pc : Int) + off = (tgt : Nat)) (K : Y ro d M tgt ls st X w Kb Q) : Y ro d M pc ls st X w Kb Q :=
  Y_jump g rfl rfl rfl (v := (tgt, st)) (by show zoff pc off true st = _; unfold zoff; rw [if_pos (by omega), ht]; rfl) K
theorem Y_iadd {a b : Int} (g : zget (zMt M) pc = some (.iadd, 1)) (h : zi32 (a + b)) (K : Y ro d M (pc + 1) ls ((0, a + b) :: st) X w Kb Q) : Y ro d M pc ls ((0, b) :: (0, a) :: st) X w Kb Q :=
  Y_arith g rfl rfl (v := (0, a + b) :: st) (by show some ((0, zw32 (a + b)) :: st) = _; rw [zw32_id h]) K
theorem Y_isub {a b : Int} (g : zget (zMt M) pc = some (.isub, 1)) (h : zi32 (a - b)) (K : Y ro d M (pc + 1) ls ((0, a - b) :: st) X w Kb Q) : Y ro d M pc ls ((0, b) :: (0, a) :: st) X w Kb Q :=
  Y_arith g rfl rfl (v := (0, a - b) :: st) (by show some ((0, zw32 (a - b)) :: st) = _; rw [zw32_id h]) K
theorem Y_imul {a b : Int} (g : zget (zMt M) pc = some (.imul, 1)) (h : zi32 (a * b)) (K : Y ro d M (pc + 1) ls ((0, a * b) :: st) X w Kb Q) : Y ro d M pc ls ((0, b) :: (0, a) :: st) X w Kb Q :=
  Y_arith g rfl rfl (v := (0, a * b) :: st) (by show some ((0, zw32 (a * b)) :: st) = _; rw [zw32_id h]) K
theorem Y_iinc {k : Nat} {n : Int} {a : Int} {ls' : List zV} (g : zget (zMt M) pc = some (.iinc k n, 3)) (hl : ls[k]? = some (0, a)) (h : zi32 (a + n)) (he : zput ls k (0, a + n) = ls') (K : Y ro d M (pc + 3) ls' st X w Kb Q) : Y ro d M pc ls st X w Kb Q :=
  Y_store g rfl (v := (ls', st)) (by show (match ls[k]? with | some (0, v) => some (zput ls k (0, zw32 (v + n)), st) | _ => none) = _; rw [hl]; simp only; rw [zw32_id h, he]) K
theorem Y_if_eq {off a : Int} {tgt : Nat} (g : zget (zMt M) pc = some (.ifCond .eq off, 3)) (ht : (pc : Int) + off = (tgt : Nat)) (KT : a = 0 → Y ro d M tgt ls st X w Kb Q) (KF : a ≠ 0 → Y ro d M (pc + 3) ls st X w Kb Q) : Y ro d M pc ls ((0, a) :: st) X w Kb Q :=
  Y_ic g ht (fun h => KT (by simp [zc0] at h; omega)) (fun h => KF (by simp [zc0] at h; omega))
theorem Y_if_ne {off a : Int} {tgt : Nat} (g : zget (zMt M) pc = some (.ifCond .ne off, 3)) (ht : (pc : Int) + off = (tgt : Nat)) (KT : a ≠ 0 → Y ro d M tgt ls st X w Kb Q) (KF : a = 0 → Y ro d M (pc + 3) ls st X w Kb Q) : Y ro d M pc ls ((0, a) :: st) X w Kb Q :=
  Y_ic g ht (fun h => KT (by simp [zc0] at h; omega)) (fun h => KF (by simp [zc0] at h; omega))
theorem Y_if_lt {off a : Int} {tgt : Nat} (g : zget (zMt M) pc = some (.ifCond .lt off, 3)) (ht : (pc : Int) + off = (tgt : Nat)) (KT : a < 0 → Y ro d M tgt ls st X w Kb Q) (KF : 0 ≤ a → Y ro d M (pc + 3) ls st X w Kb Q) : Y ro d M pc ls ((0, a) :: st) X w Kb Q :=
  Y_ic g ht (fun h => KT (by simp [zc0] at h; omega)) (fun h => KF (by simp [zc0] at h; omega))
theorem Y_if_ge {off a : Int} {tgt : Nat} (g : zget (zMt M) pc = some (.ifCond .ge off, 3)) (ht : (pc : Int) + off = (tgt : Nat)) (KT : 0 ≤ a → Y ro d M tgt ls st X w Kb Q) (KF : a < 0 → Y ro d M (pc + 3) ls st X w Kb Q) : Y ro d M pc ls ((0, a) :: st) X w Kb Q :=
  Y_ic g ht (fun h => KT (by simp [zc0] at h; omega)) (fun h => KF (by simp [zc0] at h; omega))
theorem Y_if_gt {off a : Int} {tgt : Nat} (g : zget (zMt M) pc = some (.ifCond .gt off, 3)) (ht : (pc : Int) + off = (tgt : Nat)) (KT : 0 < a → Y ro d M tgt ls st X w Kb Q) (KF : a ≤ 0 → Y ro d M (pc + 3) ls st X w Kb Q) : Y ro d M pc ls ((0, a) :: st) X w Kb Q :=
  Y_ic g ht (fun h => KT (by simp [zc0] at h; omega)) (fun h => KF (by simp [zc0] at h; omega))
theorem Y_if_le {off a : Int} {tgt : Nat} (g : zget (zMt M) pc = some (.ifCond .le off, 3)) (ht : (pc : Int) + off = (tgt : Nat)) (KT : a ≤ 0 → Y ro d M tgt ls st X w Kb Q) (KF : 0 < a → Y ro d M (pc + 3) ls st X w Kb Q) : Y ro d M pc ls ((0, a) :: st) X w Kb Q :=
  Y_ic g ht (fun h => KT (by simp [zc0] at h; omega)) (fun h => KF (by simp [zc0] at h; omega))
theorem Y_icmp_eq {off a b : Int} {tgt : Nat} (g : zget (zMt M) pc = some (.if_icmp .eq off, 3)) (ht : (pc : Int) + off = (tgt : Nat)) (KT : a = b → Y ro d M tgt ls st X w Kb Q) (KF : a ≠ b → Y ro d M (pc + 3) ls st X w Kb Q) : Y ro d M pc ls ((0, b) :: (0, a) :: st) X w Kb Q :=
  Y_ii g ht (fun h => KT (by simp [zc2] at h; omega)) (fun h => KF (by simp [zc2] at h; omega))
theorem Y_icmp_ne {off a b : Int} {tgt : Nat} (g : zget (zMt M) pc = some (.if_icmp .ne off, 3)) (ht : (pc : Int) + off = (tgt : Nat)) (KT : a ≠ b → Y ro d M tgt ls st X w Kb Q) (KF : a = b → Y ro d M (pc + 3) ls st X w Kb Q) : Y ro d M pc ls ((0, b) :: (0, a) :: st) X w Kb Q :=
  Y_ii g ht (fun h => KT (by simp [zc2] at h; omega)) (fun h => KF (by simp [zc2] at h; omega))
theorem Y_icmp_lt {off a b : Int} {tgt : Nat} (g : zget (zMt M) pc = some (.if_icmp .lt off, 3)) (ht : (pc : Int) + off = (tgt : Nat)) (KT : a < b → Y ro d M tgt ls st X w Kb Q) (KF : b ≤ a → Y ro d M (pc + 3) ls st X w Kb Q) : Y ro d M pc ls ((0, b) :: (0, a) :: st) X w Kb Q :=
  Y_ii g ht (fun h => KT (by simp [zc2] at h; omega)) (fun h => KF (by simp [zc2] at h; omega))
theorem Y_icmp_ge {off a b : Int} {tgt : Nat} (g : zget (zMt M) pc = some (.if_icmp .ge off, 3)) (ht : (pc : Int) + off = (tgt : Nat)) (KT : b ≤ a → Y ro d M tgt ls st X w Kb Q) (KF : a < b → Y ro d M (pc + 3) ls st X w Kb Q) : Y ro d M pc ls ((0, b) :: (0, a) :: st) X w Kb Q :=
  Y_ii g ht (fun h => KT (by simp [zc2] at h; omega)) (fun h => KF (by simp [zc2] at h; omega))
theorem Y_icmp_gt {off a b : Int} {tgt : Nat} (g : zget (zMt M) pc = some (.if_icmp .gt off, 3)) (ht : (pc : Int) + off = (tgt : Nat)) (KT : b < a → Y ro d M tgt ls st X w Kb Q) (KF : a ≤ b → Y ro d M (pc + 3) ls st X w Kb Q) : Y ro d M pc ls ((0, b) :: (0, a) :: st) X w Kb Q :=
  Y_ii g ht (fun h => KT (by simp [zc2] at h; omega)) (fun h => KF (by simp [zc2] at h; omega))
theorem Y_icmp_le {off a b : Int} {tgt : Nat} (g : zget (zMt M) pc = some (.if_icmp .le off, 3)) (ht : (pc : Int) + off = (tgt : Nat)) (KT : a ≤ b → Y ro d M tgt ls st X w Kb Q) (KF : b < a → Y ro d M (pc + 3) ls st X w Kb Q) : Y ro d M pc ls ((0, b) :: (0, a) :: st) X w Kb Q :=
  Y_ii g ht (fun h => KT (by simp [zc2] at h; omega)) (fun h => KF (by simp [zc2] at h; omega))
theorem Y_sto {i : Instr} {len : Nat} {ls' st' : List zV} (g : zget (zMt M) pc = some (i, len)) (h1 : zpush (zcon (zMk M)) i len ls = none) (h : zstore i len ls st = some (ls', st')) (K : Y ro d M (pc + len) ls' st' X w Kb Q) : Y ro d M pc ls st X w Kb Q := Y_store g h1 h K
theorem Y_retX {v : zV} {i : Instr} {len : Nat} (g : zget (zMt M) pc = some (i, len)) (h1 : zpush (zcon (zMk M)) i len ls = none) (h2 : zstore i len ls st = none) (h3 : zarith (zmth (zMk M)) i len st = none) (h4 : zjump i len pc st = none) (h : zend (zMr M) i len st = some (some v)) (K : Q (.inl (some v)) X w) : Y ro d M pc ls st X w Kb Q :=
  Y_end g h1 h2 h3 h4 h K
theorem Y_retXB {v : Int} (g : zget (zMt M) pc = some (.ireturn, 1)) (hr : zMr M = some .boolean) (hv : v = 0 ∨ v = 1) (K : Q (.inl (some (0, v))) X w) : Y ro d M pc ls [(0, v)] X w Kb Q :=
  Y_end g rfl rfl rfl rfl (by rw [hr]; show (if v = 0 ∨ v = 1 then _ else _) = _; rw [if_pos hv]) K
/-! arrays behind the layout -/
theorem zarr_Y {a k len c : Nat} {j : Int} (h : (zLY ++ X)[a]? = some (k, c, len)) (h0 : 0 ≤ j) (h1 : j < len) (x y : Nat) : zarr (zLY ++ X, w, x, y) k (a : Int) j = some (a, j.toNat) := by
  unfold zarr
  rw [if_pos ⟨by omega, h0⟩, show (zLY ++ X, w, x, y).1[((a : Int)).toNat]? = some (k, c, len) from h]
  simp [h1]
theorem zptr_97 {a : Nat} (h : 97 ≤ a) (j : Nat) : zptr a j = 0 := by
  unfold zptr
  rw [show zptrL.getD a [] = [] by rw [List.getD_eq_getElem?_getD, List.getElem?_eq_none (show zptrL.length ≤ a from h)]; rfl]
  rfl
theorem Y_ialoadV {a len c : Nat} {j v : Int} (g : zget (zMt M) pc = some (.iaload, 1)) (hL : (zLY ++ X)[a]? = some (1, c, len)) (h0 : 0 ≤ j) (h1 : j < len) (hv : w a j.toNat = v) (K : Y ro d M (pc + 1) ls ((0, v) :: st) X w Kb Q) : Y ro d M pc ls ((0, j) :: (1, (a : Int)) :: st) X w Kb Q := by
  subst hv
  refine Y_heap g rfl rfl rfl rfl ?_ rfl (st' := (0, w a j.toNat) :: st) (fun x y => ?_) id K
  · unfold zend; split <;> simp_all
  · simp only [zheap, zarr_Y hL h0 h1]
theorem Y_iastore {a len c : Nat} {j v : Int} (g : zget (zMt M) pc = some (.iastore, 1)) (hL : (zLY ++ X)[a]? = some (1, c, len)) (ha : 97 ≤ a) (h0 : 0 ≤ j) (h1 : j < len) (K : Y ro d M (pc + 1) ls st X (zup w a j.toNat v) Kb Q) : Y ro d M pc ls ((0, v) :: (0, j) :: (1, (a : Int)) :: st) X w Kb Q := by
  refine Y_heap g rfl rfl rfl rfl ?_ rfl (st' := st) (fun x y => ?_) (fun h => h.up (zptr_97 ha _)) K
  · unfold zend; split <;> simp_all
  · simp only [zheap]
    rw [zarr_Y hL h0 h1]
    rfl
theorem Y_len {a k len c : Nat} (g : zget (zMt M) pc = some (.arraylength, 1)) (hL : (zLY ++ X)[a]? = some (k, c, len)) (hk : (1 ≤ k ∧ k ≤ 3) ∨ k = 6) (K : Y ro d M (pc + 1) ls ((0, (len : Int)) :: st) X w Kb Q) : Y ro d M pc ls ((1, (a : Int)) :: st) X w Kb Q := by
  refine Y_heap g rfl rfl rfl rfl ?_ rfl (st' := (0, (len : Int)) :: st) (fun x y => ?_) id K
  · unfold zend; split <;> simp_all
  · simp only [zheap]
    rw [if_pos (by omega), show (zLY ++ X, w, x, y).1[((a : Int)).toNat]? = some (k, c, len) from hL]
    simp only
    rw [if_pos hk]
/-- the world with a new row of zeros -/
def wnew (w : zW) (a : Nat) : zW := fun i k => if i = a then 0 else w i k
theorem wnew_eq (w : zW) (a k : Nat) : wnew w a a k = 0 := if_pos rfl
theorem wnew_ne {w : zW} {a i : Nat} (h : i ≠ a) (k : Nat) : wnew w a i k = w i k := if_neg h
theorem Y_newa {n k : Nat} (g : zget (zMt M) pc = some (.newarray .int, 2)) (hn : n < 1000) (hk : 1 ≤ k ∧ n ≤ 6 * k ∧ k ≤ Kb) (K : Y ro d M (pc + 2) ls ((1, ((97 + X.length : Nat) : Int)) :: st) (X ++ [(1, 0, n)]) (wnew w (97 + X.length)) (Kb - k) Q) : Y ro d M pc ls ((0, (n : Int)) :: st) X w Kb Q := by
  intro hw c s
  have hp : PT (wnew w (97 + X.length)) := by
    intro a j ha
    by_cases h : a = 97 + X.length
    · exact absurd (zptr_97 (by omega) j) ha
    · rw [wnew_ne h]; exact hw a j ha
  obtain ⟨n1, r, X', w2, c', s', a, b1, b2, b3⟩ := K hp (c + 1) (s + n)
  refine ⟨n1 + 1, r, X', w2, c', s', ?_, by omega, by omega, b3⟩
  have e1 : zpush (zcon (zMk M)) (.newarray .int) 2 ls = none := rfl
  have e2 : zstore (.newarray .int) 2 ls ((0, (n : Int)) :: st) = none := rfl
  have e3 : zarith (zmth (zMk M)) (.newarray .int) 2 ((0, (n : Int)) :: st) = none := rfl
  have e4 : zjump (.newarray .int) 2 pc ((0, (n : Int)) :: st) = none := rfl
  have e5 : zend (zMr M) (.newarray .int) 2 ((0, (n : Int)) :: st) = none := by unfold zend; split <;> simp_all
  have e6 : zthr (zexn (zMk M)) (zMt M) pc (.newarray .int) 2 = none := rfl
  have hl : (zLY ++ X).length = 97 + X.length := by rw [List.length_append, zLY_len]
  have e7 : zheap (zfld (zMk M)) (zcls (zMk M)) zfty (zref (zMk M)) (zstc (zMk M)) (M.1.name == "<init>") ro (.newarray .int) 2 ((0, (n : Int)) :: st) (zLY ++ X, w, c, s) = some ((1, ((97 + X.length : Nat) : Int)) :: st, (zLY ++ (X ++ [(1, 0, n)]), wnew w (97 + X.length), c + 1, s + n)) := by
    simp only [zheap]
    rw [if_pos ⟨by omega, by omega⟩]
    simp only [znew, hl, Int.toNat_natCast, List.append_assoc]
    rfl
  rw [zrun]
  simp only [g, e1, e2, e3, e4, e5, e6, e7]
  exact a
/-! calls -/
/-- a method that ends without a throw, over the layout alone -/
theorem Y_callZ {i : Instr} {kd na : Nat} {M' : zM} {d' k1 : Nat} {P : Option zV → zW → Prop} (g : zget (zMt M) pc = some (i, 3)) (h1 : zpush (zcon (zMk M)) i 3 ls = none) (h2 : zstore i 3 ls st = none) (h3 : zarith (zmth (zMk M)) i 3 st = none) (h4 : zjump i 3 pc st = none) (h5 : zend (zMr M) i 3 st = none) (h6 : zthr (zexn (zMk M)) (zMt M) pc i 3 = none)
    (h7 : ∀ S, zheap (zfld (zMk M)) (zcls (zMk M)) zfty (zref (zMk M)) (zstc (zMk M)) (M.1.name == "<init>") ro i 3 st S = none)
    (hi : zinv (zMk M) i 3 = some (kd, na, M')) (hb : (decide (na ≤ st.length) && (st.take na).all zplain && decide (na ≤ zMl M') && (st.drop na).all zplain && decide ((st.drop na).length ≤ 8)) = true)
    (hr : ∀ c s, zrecv (zLY, w, c, s) kd (zMk M') (st.take na).reverse = true) (hd : d' + 1 ≤ d)
    (C : Z ro d' M' 0 (zargs (zMl M') (st.take na).reverse) [] w (fun r w' k => k ≤ k1 ∧ ∃ o, r = .inl o ∧ P o w')) (hk : k1 ≤ Kb) (K : ∀ o w', P o w' → Y ro d M (pc + 3) ls (zpu o (st.drop na)) X w' (Kb - k1) Q) : Y ro d M pc ls st X w Kb Q := by
  intro hw c s
  obtain ⟨d0, rfl⟩ : ∃ d0, d = d0 + 1 := ⟨d - 1, by omega⟩
  obtain ⟨n, r, w1, k, hrun, hw1, hk1, o, rfl, hP⟩ := C hw c s
  have hfr := (zr_fr _ _ _ _ _ _ _ _ hrun).2 rfl X
  have hb' : (decide (na ≤ st.length) && (st.take na).all zplain && decide (na ≤ zMl M') && (st.drop na).all zplain && decide ((st.drop na).length ≤ 8) && zrecv (zLY ++ X, w, c, s) kd (zMk M') (st.take na).reverse) = true := by rw [hb, zrecv_Y hr]; rfl
  obtain ⟨n2, r2, X2, w2, c2, s2, hrun2, q1, q2, q3⟩ := K o w1 hP hw1 (c + k) (s + 6 * k)
  refine ⟨n + n2 + 1, r2, X2, w2, c2, s2, ?_, by omega, by omega, q3⟩
  have key : zrun ro (n + n2) d0 M' 0 (zargs (zMl M') (st.take na).reverse) [] (zLY ++ X, w, c, s) = some (.inl o, (zLY ++ X, w1, c + k, s + 6 * k)) := zr_le _ _ _ _ _ _ _ _ _ _ (by omega) (by omega) hfr
  rw [zrun]
  simp only [g, h1, h2, h3, h4, h5, h6, h7, hi, hb', cond_true]
  rw [key]
  have e2 := zr_le _ (n + n2) _ _ _ _ _ _ _ _ (by omega) (Nat.le_refl _) hrun2
  cases o with
  | some v => exact e2
  | none => exact e2
theorem Y_callP {i : Instr} {kd na : Nat} {M' : zM} {d' : Nat} {v : zV} (g : zget (zMt M) pc = some (i, 3)) (h1 : zpush (zcon (zMk M)) i 3 ls = none) (h2 : zstore i 3 ls st = none) (h3 : zarith (zmth (zMk M)) i 3 st = none) (h4 : zjump i 3 pc st = none) (h5 : zend (zMr M) i 3 st = none) (h6 : zthr (zexn (zMk M)) (zMt M) pc i 3 = none)
    (h7 : ∀ S, zheap (zfld (zMk M)) (zcls (zMk M)) zfty (zref (zMk M)) (zstc (zMk M)) (M.1.name == "<init>") ro i 3 st S = none)
    (hi : zinv (zMk M) i 3 = some (kd, na, M')) (hb : (decide (na ≤ st.length) && (st.take na).all zplain && decide (na ≤ zMl M') && (st.drop na).all zplain && decide ((st.drop na).length ≤ 8)) = true)
    (hr : ∀ c s, zrecv (zLY, w, c, s) kd (zMk M') (st.take na).reverse = true) (hd : d' + 1 ≤ d)
    (C : Pv ro d' M' (st.take na).reverse w v) (K : Y ro d M (pc + 3) ls (v :: st.drop na) X w Kb Q) : Y ro d M pc ls st X w Kb Q :=
  Y_callZ (k1 := 0) (P := fun o w' => o = some v ∧ w' = w) g h1 h2 h3 h4 h5 h6 h7 hi hb hr hd (Z_mono C (fun r w' k h => ⟨by rw [h.1]; exact Nat.le_refl 0, h.2⟩)) (Nat.zero_le _) (fun o w' h => by obtain ⟨rfl, rfl⟩ := h; exact K)
theorem Y_callE {i : Instr} {kd na : Nat} {M' : zM} {d' : Nat} {P : Option zV → zW → Prop} (g : zget (zMt M) pc = some (i, 3)) (h1 : zpush (zcon (zMk M)) i 3 ls = none) (h2 : zstore i 3 ls st = none) (h3 : zarith (zmth (zMk M)) i 3 st = none) (h4 : zjump i 3 pc st = none) (h5 : zend (zMr M) i 3 st = none) (h6 : zthr (zexn (zMk M)) (zMt M) pc i 3 = none)
    (h7 : ∀ S, zheap (zfld (zMk M)) (zcls (zMk M)) zfty (zref (zMk M)) (zstc (zMk M)) (M.1.name == "<init>") ro i 3 st S = none)
    (hi : zinv (zMk M) i 3 = some (kd, na, M')) (hb : (decide (na ≤ st.length) && (st.take na).all zplain && decide (na ≤ zMl M') && (st.drop na).all zplain && decide ((st.drop na).length ≤ 8)) = true)
    (hr : ∀ c s, zrecv (zLY, w, c, s) kd (zMk M') (st.take na).reverse = true) (hd : d' + 1 ≤ d)
    (C : Ev ro d' M' (st.take na).reverse w P) (K : ∀ o w', P o w' → Y ro d M (pc + 3) ls (zpu o (st.drop na)) X w' Kb Q) : Y ro d M pc ls st X w Kb Q :=
  Y_callZ (k1 := 0) (P := P) g h1 h2 h3 h4 h5 h6 h7 hi hb hr hd (Z_mono C (fun r w' k h => ⟨by rw [h.1]; exact Nat.le_refl 0, h.2⟩)) (Nat.zero_le _) K
/-- a method of the law's own -/
theorem Y_callY {i : Instr} {kd na : Nat} {M' : zM} {d' k1 : Nat} {P : Option zV → List zLE → zW → Prop} (g : zget (zMt M) pc = some (i, 3)) (h1 : zpush (zcon (zMk M)) i 3 ls = none) (h2 : zstore i 3 ls st = none) (h3 : zarith (zmth (zMk M)) i 3 st = none) (h4 : zjump i 3 pc st = none) (h5 : zend (zMr M) i 3 st = none) (h6 : zthr (zexn (zMk M)) (zMt M) pc i 3 = none)
    (h7 : ∀ S, zheap (zfld (zMk M)) (zcls (zMk M)) zfty (zref (zMk M)) (zstc (zMk M)) (M.1.name == "<init>") ro i 3 st S = none)
    (hi : zinv (zMk M) i 3 = some (kd, na, M')) (hb : (decide (na ≤ st.length) && (st.take na).all zplain && decide (na ≤ zMl M') && (st.drop na).all zplain && decide ((st.drop na).length ≤ 8)) = true)
    (hr : ∀ c s, zrecv (zLY, w, c, s) kd (zMk M') (st.take na).reverse = true) (hd : d' + 1 ≤ d)
    (C : Y ro d' M' 0 (zargs (zMl M') (st.take na).reverse) [] X w k1 (fun r X' w' => ∃ o, r = .inl o ∧ P o X' w')) (hk : k1 ≤ Kb) (K : ∀ o X' w', P o X' w' → Y ro d M (pc + 3) ls (zpu o (st.drop na)) X' w' (Kb - k1) Q) : Y ro d M pc ls st X w Kb Q := by
  intro hw c s
  obtain ⟨d0, rfl⟩ : ∃ d0, d = d0 + 1 := ⟨d - 1, by omega⟩
  obtain ⟨n, r, X1, w1, c1, s1, hrun, k1, k2, hw1, o, rfl, hP⟩ := C hw c s
  have hb' : (decide (na ≤ st.length) && (st.take na).all zplain && decide (na ≤ zMl M') && (st.drop na).all zplain && decide ((st.drop na).length ≤ 8) && zrecv (zLY ++ X, w, c, s) kd (zMk M') (st.take na).reverse) = true := by rw [hb, zrecv_Y hr]; rfl
  obtain ⟨n2, r2, X2, w2, c2, s2, hrun2, q1, q2, q3⟩ := K o X1 w1 hP hw1 c1 s1
  refine ⟨n + n2 + 1, r2, X2, w2, c2, s2, ?_, by omega, by omega, q3⟩
  have key : zrun ro (n + n2) d0 M' 0 (zargs (zMl M') (st.take na).reverse) [] (zLY ++ X, w, c, s) = some (.inl o, (zLY ++ X1, w1, c1, s1)) := zr_le _ _ _ _ _ _ _ _ _ _ (by omega) (by omega) hrun
  rw [zrun]
  simp only [g, h1, h2, h3, h4, h5, h6, h7, hi, hb', cond_true]
  rw [key]
  have e2 := zr_le _ (n + n2) _ _ _ _ _ _ _ _ (by omega) (Nat.le_refl _) hrun2
  cases o with
  | some v => exact e2
  | none => exact e2
end
