/-! values without a write; branches by their sentences -/
def Pv (ro : zRo) (d : Nat) (M : zM) (as : List zV) (w : zW) (v : zV) : Prop := Ev ro d M as w (fun o w' => o = some v ∧ w' = w)
/-- a method that gives nothing back and leaves the world w' -/
def Pw (ro : zRo) (d : Nat) (M : zM) (as : List zV) (w w' : zW) : Prop := Ev ro d M as w (fun o w2 => o = none ∧ w2 = w')
section
variable {ro : zRo} {d : Nat} {M : zM} {pc : Nat} {ls st : List zV} {w : zW} {Q : (Option zV ⊕ String) → zW → Nat → Prop}
theorem Z_callP {i : Instr} {kd na : Nat} {M' : zM} {d' : Nat} {v : zV} (g : zget (zMt M) pc = some (i, 3)) (h1 : zpush (zcon (zMk M)) i 3 ls = none) (h2 : zstore i 3 ls st = none) (h3 : zarith (zmth (zMk M)) i 3 st = none) (h4 : zjump i 3 pc st = none) (h5 : zend (zMr M) i 3 st = none) (h6 : zthr (zexn (zMk M)) (zMt M) pc i 3 = none)
    (h7 : ∀ S, zheap (zfld (zMk M)) (zcls (zMk M)) zfty (zref (zMk M)) (zstc (zMk M)) (M.1.name == "<init>") ro i 3 st S = none)
    (hi : zinv (zMk M) i 3 = some (kd, na, M')) (hb : (decide (na ≤ st.length) && (st.take na).all zplain && decide (na ≤ zMl M') && (st.drop na).all zplain && decide ((st.drop na).length ≤ 8)) = true)
    (hr : ∀ c s, zrecv (zLY, w, c, s) kd (zMk M') (st.take na).reverse = true) (hd : d' + 1 ≤ d)
    (C : Pv ro d' M' (st.take na).reverse w v) (K : Z ro d M (pc + 3) ls (v :: st.drop na) w Q) : Z ro d M pc ls st w Q :=
  Z_callE g h1 h2 h3 h4 h5 h6 h7 hi hb hr hd C (fun o w' h => by obtain ⟨rfl, rfl⟩ := h; exact K)
theorem Z_callW {i : Instr} {kd na : Nat} {M' : zM} {d' : Nat} {w2 : zW} (g : zget (zMt M) pc = some (i, 3)) (h1 : zpush (zcon (zMk M)) i 3 ls = none) (h2 : zstore i 3 ls st = none) (h3 : zarith (zmth (zMk M)) i 3 st = none) (h4 : zjump i 3 pc st = none) (h5 : zend (zMr M) i 3 st = none) (h6 : zthr (zexn (zMk M)) (zMt M) pc i 3 = none)
    (h7 : ∀ S, zheap (zfld (zMk M)) (zcls (zMk M)) zfty (zref (zMk M)) (zstc (zMk M)) (M.1.name == "<init>") ro i 3 st S = none)
    (hi : zinv (zMk M) i 3 = some (kd, na, M')) (hb : (decide (na ≤ st.length) && (st.take na).all zplain && decide (na ≤ zMl M') && (st.drop na).all zplain && decide ((st.drop na).length ≤ 8)) = true)
    (hr : ∀ c s, zrecv (zLY, w, c, s) kd (zMk M') (st.take na).reverse = true) (hd : d' + 1 ≤ d)
    (C : Pw ro d' M' (st.take na).reverse w w2) (K : Z ro d M (pc + 3) ls (st.drop na) w2 Q) : Z ro d M pc ls st w Q :=
  Z_callE g h1 h2 h3 h4 h5 h6 h7 hi hb hr hd C (fun o w' h => by obtain ⟨rfl, rfl⟩ := h; exact K)
theorem Z_ret {v : zV} {i : Instr} {len : Nat} (g : zget (zMt M) pc = some (i, len)) (h1 : zpush (zcon (zMk M)) i len ls = none) (h2 : zstore i len ls st = none) (h3 : zarith (zmth (zMk M)) i len st = none) (h4 : zjump i len pc st = none) (h : zend (zMr M) i len st = some (some v)) (P : Option zV → zW → Prop) (K : P (some v) w) : Z ro d M pc ls st w (fun r w' k => k = 0 ∧ ∃ o, r = .inl o ∧ P o w') :=
  Z_end g h1 h2 h3 h4 h ⟨rfl, _, rfl, K⟩
theorem Z_if_eq {off a : Int} {tgt : Nat} (g : zget (zMt M) pc = some (.ifCond .eq off, 3)) (ht : (pc : Int) + off = (tgt : Nat)) (KT : a = 0 → Z ro d M tgt ls st w Q) (KF : a ≠ 0 → Z ro d M (pc + 3) ls st w Q) : Z ro d M pc ls ((0, a) :: st) w Q :=
  Z_ic g ht (fun h => KT (by simp [zc0] at h; omega)) (fun h => KF (by simp [zc0] at h; omega))
theorem Z_if_ne {off a : Int} {tgt : Nat} (g : zget (zMt M) pc = some (.ifCond .ne off, 3)) (ht : (pc : Int) + off = (tgt : Nat)) (KT : a ≠ 0 → Z ro d M tgt ls st w Q) (KF : a = 0 → Z ro d M (pc + 3) ls st w Q) : Z ro d M pc ls ((0, a) :: st) w Q :=
  Z_ic g ht (fun h => KT (by simp [zc0] at h; omega)) (fun h => KF (by simp [zc0] at h; omega))
theorem Z_if_lt {off a : Int} {tgt : Nat} (g : zget (zMt M) pc = some (.ifCond .lt off, 3)) (ht : (pc : Int) + off = (tgt : Nat)) (KT : a < 0 → Z ro d M tgt ls st w Q) (KF : 0 ≤ a → Z ro d M (pc + 3) ls st w Q) : Z ro d M pc ls ((0, a) :: st) w Q :=
  Z_ic g ht (fun h => KT (by simp [zc0] at h; omega)) (fun h => KF (by simp [zc0] at h; omega))
theorem Z_if_ge {off a : Int} {tgt : Nat} (g : zget (zMt M) pc = some (.ifCond .ge off, 3)) (ht : (pc : Int) + off = (tgt : Nat)) (KT : 0 ≤ a → Z ro d M tgt ls st w Q) (KF : a < 0 → Z ro d M (pc + 3) ls st w Q) : Z ro d M pc ls ((0, a) :: st) w Q :=
  Z_ic g ht (fun h => KT (by simp [zc0] at h; omega)) (fun h => KF (by simp [zc0] at h; omega))
theorem Z_if_gt {off a : Int} {tgt : Nat} (g : zget (zMt M) pc = some (.ifCond .gt off, 3)) (ht : (pc : Int) + off = (tgt : Nat)) (KT : 0 < a → Z ro d M tgt ls st w Q) (KF : a ≤ 0 → Z ro d M (pc + 3) ls st w Q) : Z ro d M pc ls ((0, a) :: st) w Q :=
  Z_ic g ht (fun h => KT (by simp [zc0] at h; omega)) (fun h => KF (by simp [zc0] at h; omega))
theorem Z_if_le {off a : Int} {tgt : Nat} (g : zget (zMt M) pc = some (.ifCond .le off, 3)) (ht : (pc : Int) + off = (tgt : Nat)) (KT : a ≤ 0 → Z ro d M tgt ls st w Q) (KF : 0 < a → Z ro d M (pc + 3) ls st w Q) : Z ro d M pc ls ((0, a) :: st) w Q :=
  Z_ic g ht (fun h => KT (by simp [zc0] at h; omega)) (fun h => KF (by simp [zc0] at h; omega))
theorem Z_icmp_eq {off a b : Int} {tgt : Nat} (g : zget (zMt M) pc = some (.if_icmp .eq off, 3)) (ht : (pc : Int) + off = (tgt : Nat)) (KT : a = b → Z ro d M tgt ls st w Q) (KF : a ≠ b → Z ro d M (pc + 3) ls st w Q) : Z ro d M pc ls ((0, b) :: (0, a) :: st) w Q :=
  Z_ii g ht (fun h => KT (by simp [zc2] at h; omega)) (fun h => KF (by simp [zc2] at h; omega))
theorem Z_icmp_ne {off a b : Int} {tgt : Nat} (g : zget (zMt M) pc = some (.if_icmp .ne off, 3)) (ht : (pc : Int) + off = (tgt : Nat)) (KT : a ≠ b → Z ro d M tgt ls st w Q) (KF : a = b → Z ro d M (pc + 3) ls st w Q) : Z ro d M pc ls ((0, b) :: (0, a) :: st) w Q :=
  Z_ii g ht (fun h => KT (by simp [zc2] at h; omega)) (fun h => KF (by simp [zc2] at h; omega))
theorem Z_icmp_lt {off a b : Int} {tgt : Nat} (g : zget (zMt M) pc = some (.if_icmp .lt off, 3)) (ht : (pc : Int) + off = (tgt : Nat)) (KT : a < b → Z ro d M tgt ls st w Q) (KF : b ≤ a → Z ro d M (pc + 3) ls st w Q) : Z ro d M pc ls ((0, b) :: (0, a) :: st) w Q :=
  Z_ii g ht (fun h => KT (by simp [zc2] at h; omega)) (fun h => KF (by simp [zc2] at h; omega))
theorem Z_icmp_ge {off a b : Int} {tgt : Nat} (g : zget (zMt M) pc = some (.if_icmp .ge off, 3)) (ht : (pc : Int) + off = (tgt : Nat)) (KT : b ≤ a → Z ro d M tgt ls st w Q) (KF : a < b → Z ro d M (pc + 3) ls st w Q) : Z ro d M pc ls ((0, b) :: (0, a) :: st) w Q :=
  Z_ii g ht (fun h => KT (by simp [zc2] at h; omega)) (fun h => KF (by simp [zc2] at h; omega))
theorem Z_icmp_gt {off a b : Int} {tgt : Nat} (g : zget (zMt M) pc = some (.if_icmp .gt off, 3)) (ht : (pc : Int) + off = (tgt : Nat)) (KT : b < a → Z ro d M tgt ls st w Q) (KF : a ≤ b → Z ro d M (pc + 3) ls st w Q) : Z ro d M pc ls ((0, b) :: (0, a) :: st) w Q :=
  Z_ii g ht (fun h => KT (by simp [zc2] at h; omega)) (fun h => KF (by simp [zc2] at h; omega))
theorem Z_icmp_le {off a b : Int} {tgt : Nat} (g : zget (zMt M) pc = some (.if_icmp .le off, 3)) (ht : (pc : Int) + off = (tgt : Nat)) (KT : a ≤ b → Z ro d M tgt ls st w Q) (KF : b < a → Z ro d M (pc + 3) ls st w Q) : Z ro d M pc ls ((0, b) :: (0, a) :: st) w Q :=
  Z_ii g ht (fun h => KT (by simp [zc2] at h; omega)) (fun h => KF (by simp [zc2] at h; omega))
end
section
variable {ro : zRo} {d : Nat} {M : zM} {pc : Nat} {ls st : List zV} {w : zW} {Q : (Option zV ⊕ String) → zW → Nat → Prop}
theorem Z_sto {i : Instr} {len : Nat} {ls' st' : List zV} (g : zget (zMt M) pc = some (i, len)) (h1 : zpush (zcon (zMk M)) i len ls = none) (h : zstore i len ls st = some (ls', st')) (K : Z ro d M (pc + len) ls' st' w Q) : Z ro d M pc ls st w Q := Z_store g h1 h K
theorem Z_retB {v : Int} (g : zget (zMt M) pc = some (.ireturn, 1)) (hr : zMr M = some .boolean) (hv : v = 0 ∨ v = 1) (P : Option zV → zW → Prop) (K : P (some (0, v)) w) : Z ro d M pc ls [(0, v)] w (fun r w' k => k = 0 ∧ ∃ o, r = .inl o ∧ P o w') :=
  Z_ret g rfl rfl rfl rfl (by rw [hr]; show (if v = 0 ∨ v = 1 then _ else _) = _; rw [if_pos hv]) P K
theorem Z_retC {v : Int} (g : zget (zMt M) pc = some (.ireturn, 1)) (hr : zMr M = some .char) (hv : 0 ≤ v ∧ v < 65536) (P : Option zV → zW → Prop) (K : P (some (0, v)) w) : Z ro d M pc ls [(0, v)] w (fun r w' k => k = 0 ∧ ∃ o, r = .inl o ∧ P o w') :=
  Z_ret g rfl rfl rfl rfl (by rw [hr]; show (if 0 ≤ v ∧ v < 65536 then _ else _) = _; rw [if_pos hv]) P K
end
