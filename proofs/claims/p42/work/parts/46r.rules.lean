/-! more rules: values by their sentences, throws, calls that may throw -/
def kx (r : Option zV ⊕ String) : Nat := match r with | .inl _ => 0 | .inr _ => 1
/-- a method that ends as P says; one thing is made where it throws -/
def Xv (ro : zRo) (d : Nat) (M : zM) (as : List zV) (w : zW) (P : (Option zV ⊕ String) → zW → Prop) : Prop := Z ro d M 0 (zargs (zMl M) as) [] w (fun r w' k => k = kx r ∧ P r w')
section
variable {ro : zRo} {d : Nat} {M : zM} {pc : Nat} {ls st : List zV} {w : zW} {Q : (Option zV ⊕ String) → zW → Nat → Prop}
theorem Xv_mono {as : List zV} {P P' : (Option zV ⊕ String) → zW → Prop} (K : Xv ro d M as w P') (h : ∀ r w', P' r w' → P r w') : Xv ro d M as w P :=
  Z_mono K (fun r w' k ⟨h0, h2⟩ => ⟨h0, h r w' h2⟩)
theorem Xv_ev {as : List zV} {P : Option zV → zW → Prop} (K : Ev ro d M as w P) : Xv ro d M as w (fun r w' => ∃ o, r = .inl o ∧ P o w') :=
  Z_mono K (fun r w' k ⟨h0, o, h1, h2⟩ => ⟨by rw [h0, h1]; rfl, o, h1, h2⟩)
theorem Z_getV {k a f t n c : Nat} {bo fi : Bool} {v : Int} (g : zget (zMt M) pc = some (.getfield k, 3)) (hf : zfld (zMk M) k = some (c, f, t, bo, fi)) (hL : zLY[a]? = some (0, c, n)) (hn : f < n) (hv : w a f = v) (K : Z ro d M (pc + 3) ls ((t, v) :: st) w Q) : Z ro d M pc ls ((1, (a : Int)) :: st) w Q :=
  Z_get g hf hL hn (by rw [hv]; exact K)
theorem Z_ialoadV {a len c : Nat} {j v : Int} (g : zget (zMt M) pc = some (.iaload, 1)) (hL : zLY[a]? = some (1, c, len)) (h0 : 0 ≤ j) (h1 : j < len) (hv : w a j.toNat = v) (K : Z ro d M (pc + 1) ls ((0, v) :: st) w Q) : Z ro d M pc ls ((0, j) :: (1, (a : Int)) :: st) w Q :=
  Z_iaload g hL h0 h1 (by rw [hv]; exact K)
theorem Z_caloadV {a len c : Nat} {j v : Int} (g : zget (zMt M) pc = some (.caload, 1)) (hL : zLY[a]? = some (2, c, len)) (h0 : 0 ≤ j) (h1 : j < len) (hv : w a j.toNat = v) (K : Z ro d M (pc + 1) ls ((0, v) :: st) w Q) : Z ro d M pc ls ((0, j) :: (1, (a : Int)) :: st) w Q :=
  Z_caload g hL h0 h1 (by rw [hv]; exact K)
theorem Z_baloadV {a len c : Nat} {j v : Int} (g : zget (zMt M) pc = some (.baload, 1)) (hL : zLY[a]? = some (3, c, len)) (h0 : 0 ≤ j) (h1 : j < len) (hv : w a j.toNat = v) (K : Z ro d M (pc + 1) ls ((0, v) :: st) w Q) : Z ro d M pc ls ((0, j) :: (1, (a : Int)) :: st) w Q :=
  Z_baload g hL h0 h1 (by rw [hv]; exact K)
theorem Z_retX {v : zV} {i : Instr} {len : Nat} (g : zget (zMt M) pc = some (i, len)) (h1 : zpush (zcon (zMk M)) i len ls = none) (h2 : zstore i len ls st = none) (h3 : zarith (zmth (zMk M)) i len st = none) (h4 : zjump i len pc st = none) (h : zend (zMr M) i len st = some (some v)) (K : Q (.inl (some v)) w 0) : Z ro d M pc ls st w Q :=
  Z_end g h1 h2 h3 h4 h K
theorem Z_retXB {v : Int} (g : zget (zMt M) pc = some (.ireturn, 1)) (hr : zMr M = some .boolean) (hv : v = 0 ∨ v = 1) (K : Q (.inl (some (0, v))) w 0) : Z ro d M pc ls [(0, v)] w Q :=
  Z_end g rfl rfl rfl rfl (by rw [hr]; show (if v = 0 ∨ v = 1 then _ else _) = _; rw [if_pos hv]) K
theorem Z_retXC {v : Int} (g : zget (zMt M) pc = some (.ireturn, 1)) (hr : zMr M = some .char) (hv : 0 ≤ v ∧ v < 65536) (K : Q (.inl (some (0, v))) w 0) : Z ro d M pc ls [(0, v)] w Q :=
  Z_end g rfl rfl rfl rfl (by rw [hr]; show (if 0 ≤ v ∧ v < 65536 then _ else _) = _; rw [if_pos hv]) K
theorem Z_thrX {i : Instr} {len : Nat} {v : String × Nat × Nat × Nat × Bool} (g : zget (zMt M) pc = some (i, len)) (h1 : zpush (zcon (zMk M)) i len ls = none) (h2 : zstore i len ls st = none) (h3 : zarith (zmth (zMk M)) i len st = none) (h4 : zjump i len pc st = none) (h5 : zend (zMr M) i len st = none) (h6 : zthr (zexn (zMk M)) (zMt M) pc i len = some v) (a1 : (zstr (zMk M) v.2.2.1).isSome = true) (a2 : zxic (zMk M) v.2.2.2.1 = some v.1) (a3 : (zMh M).isEmpty = true) (a4 : Nat.ble st.length 50 = true) (K : Q (.inr v.1) w 1) : Z ro d M pc ls st w Q :=
  Z_thr g h1 h2 h3 h4 h5 h6 ⟨a1, a2, a3, Nat.le_of_ble_eq_true a4⟩ K
/-- a call of a method that may throw; what it throws goes through -/
theorem Z_callX {i : Instr} {kd na : Nat} {M' : zM} {d' : Nat} {P : (Option zV ⊕ String) → zW → Prop} (g : zget (zMt M) pc = some (i, 3)) (h1 : zpush (zcon (zMk M)) i 3 ls = none) (h2 : zstore i 3 ls st = none) (h3 : zarith (zmth (zMk M)) i 3 st = none) (h4 : zjump i 3 pc st = none) (h5 : zend (zMr M) i 3 st = none) (h6 : zthr (zexn (zMk M)) (zMt M) pc i 3 = none)
    (h7 : ∀ S, zheap (zfld (zMk M)) (zcls (zMk M)) zfty (zref (zMk M)) (zstc (zMk M)) (M.1.name == "<init>") ro i 3 st S = none)
    (hi : zinv (zMk M) i 3 = some (kd, na, M')) (hb : (decide (na ≤ st.length) && (st.take na).all zplain && decide (na ≤ zMl M') && (st.drop na).all zplain && decide ((st.drop na).length ≤ 8)) = true)
    (hr : ∀ c s, zrecv (zLY, w, c, s) kd (zMk M') (st.take na).reverse = true) (hd : d' + 1 ≤ d)
    (C : Xv ro d' M' (st.take na).reverse w P) (hk : kd = 0 ∨ kd = 1) (he : (zMh M).isEmpty = true) (Ke : ∀ E w', P (.inr E) w' → Q (.inr E) w' 1) (K : ∀ o w', P (.inl o) w' → Z ro d M (pc + 3) ls (zpu o (st.drop na)) w' Q) : Z ro d M pc ls st w Q := by
  refine Z_call g h1 h2 h3 h4 h5 h6 h7 hi hb hr hd C (fun o w' k h => ?_) (fun E w' k h => ?_)
  · obtain ⟨h0, h⟩ := h
    cases h0
    exact K o w' h
  · obtain ⟨h0, h⟩ := h
    cases h0
    exact ⟨hk, Or.inl ⟨he, Ke E w' h⟩⟩
/-- a call of a method that may throw; what it throws is caught -/
theorem Z_callC {i : Instr} {kd na : Nat} {M' : zM} {d' : Nat} {P : (Option zV ⊕ String) → zW → Prop} (g : zget (zMt M) pc = some (i, 3)) (h1 : zpush (zcon (zMk M)) i 3 ls = none) (h2 : zstore i 3 ls st = none) (h3 : zarith (zmth (zMk M)) i 3 st = none) (h4 : zjump i 3 pc st = none) (h5 : zend (zMr M) i 3 st = none) (h6 : zthr (zexn (zMk M)) (zMt M) pc i 3 = none)
    (h7 : ∀ S, zheap (zfld (zMk M)) (zcls (zMk M)) zfty (zref (zMk M)) (zstc (zMk M)) (M.1.name == "<init>") ro i 3 st S = none)
    (hi : zinv (zMk M) i 3 = some (kd, na, M')) (hb : (decide (na ≤ st.length) && (st.take na).all zplain && decide (na ≤ zMl M') && (st.drop na).all zplain && decide ((st.drop na).length ≤ 8)) = true)
    (hr : ∀ c s, zrecv (zLY, w, c, s) kd (zMk M') (st.take na).reverse = true) (hd : d' + 1 ≤ d)
    (C : Xv ro d' M' (st.take na).reverse w P) (hk : kd = 0 ∨ kd = 1)
    (Ke : ∀ E w', P (.inr E) w' → ∃ (h : Nat) (r2 : Nat × List zV), zhand (zexn (zMk M)) zCA zNC pc E (zMh M) = some h ∧ zcatch (zMt M) h ls = some r2 ∧ Z ro d M r2.1 r2.2 [] w' (fun r w2 k2 => Q r w2 (k2 + 1)))
    (K : ∀ o w', P (.inl o) w' → Z ro d M (pc + 3) ls (zpu o (st.drop na)) w' Q) : Z ro d M pc ls st w Q := by
  refine Z_call g h1 h2 h3 h4 h5 h6 h7 hi hb hr hd C (fun o w' k h => ?_) (fun E w' k h => ?_)
  · obtain ⟨h0, h⟩ := h
    cases h0
    exact K o w' h
  · obtain ⟨h0, h⟩ := h
    cases h0
    exact ⟨hk, Or.inr (Ke E w' h)⟩
end
theorem vX7_writeN {ro : zRo} {w : zW} {a c len : Nat} (hL : zLY[a]? = some (1, c, len)) {i : Nat} (h : i < len) (v : Int) : Pw ro 0 mX7_write [(1, (a : Int)), (0, (i : Int)), (0, v)] w (zup w a i v) := zwr_in (w := w) (a := a) (len := len) (i := i) (v := v) h ▸ vX7_write hL (i : Int) v
theorem vX7_writeFlagN {ro : zRo} {w : zW} {a c len : Nat} (hL : zLY[a]? = some (3, c, len)) {i : Nat} (h : i < len) {v : Int} (hv : v = 0 ∨ v = 1) : Pw ro 0 mX7_writeFlag [(1, (a : Int)), (0, (i : Int)), (0, v)] w (zup w a i v) := zwr_in (w := w) (a := a) (len := len) (i := i) (v := v) h ▸ vX7_writeFlag hL (i : Int) v hv
theorem rd_in {w : zW} {a len i : Nat} (h : i < len) : rd w a len (i : Int) = w a i := by unfold rd; rw [if_pos (by omega)]; rfl
theorem vX7_readN {ro : zRo} {w : zW} {a c len : Nat} (hL : zLY[a]? = some (1, c, len)) {i : Nat} {v : Int} (h : i < len) (hv : w a i = v) : Pv ro 0 mX7_read [(1, (a : Int)), (0, (i : Int))] w (0, v) := hv ▸ rd_in (w := w) h ▸ vX7_read hL (i : Int)
theorem vX7_readFlagN {ro : zRo} {w : zW} {a c len : Nat} (hL : zLY[a]? = some (3, c, len)) {i : Nat} {b : Bool} (h : i < len) (hv : w a i = b2i b) : Pv ro 0 mX7_readFlag [(1, (a : Int)), (0, (i : Int))] w (0, b2i b) := by
  have e : rdf w a len (i : Int) = b2i b := by
    unfold rdf
    rw [show ((i : Int)).toNat = i from rfl, hv]
    cases b with
    | true => rw [if_pos ⟨by omega, by decide⟩]; rfl
    | false => rw [if_neg (fun h => h.2 rfl)]; rfl
  exact e ▸ vX7_readFlag hL (i : Int)
theorem zup_eq (w : zW) (a j : Nat) (v : Int) : zup w a j v a j = v := if_pos ⟨rfl, rfl⟩
theorem zup_ne {w : zW} {a j a' j' : Nat} {v : Int} (h : ¬ (a' = a ∧ j' = j)) : zup w a j v a' j' = w a' j' := if_neg h
