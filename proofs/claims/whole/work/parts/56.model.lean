/-! the model: its state, its small helpers -/
/-- a method that gives v back and leaves the world w' -/
def Pq (ro : zRo) (d : Nat) (M : zM) (as : List zV) (w : zW) (v : zV) (w' : zW) : Prop := Ev ro d M as w (fun o w2 => o = some v ∧ w2 = w')
section
variable {ro : zRo} {d : Nat} {M : zM} {pc : Nat} {ls st : List zV} {w : zW} {Q : (Option zV ⊕ String) → zW → Nat → Prop}
theorem Z_callQ {i : Instr} {kd na : Nat} {M' : zM} {d' : Nat} {v : zV} {w2 : zW} (g : zget (zMt M) pc = some (i, 3)) (h1 : zpush (zcon (zMk M)) i 3 ls = none) (h2 : zstore i 3 ls st = none) (h3 : zarith (zmth (zMk M)) i 3 st = none) (h4 : zjump i 3 pc st = none) (h5 : zend (zMr M) i 3 st = none) (h6 : zthr (zexn (zMk M)) (zMt M) pc i 3 = none)
    (h7 : ∀ S, zheap (zfld (zMk M)) (zcls (zMk M)) zfty (zref (zMk M)) (zstc (zMk M)) (M.1.name == "<init>") ro i 3 st S = none)
    (hi : zinv (zMk M) i 3 = some (kd, na, M')) (hb : (decide (na ≤ st.length) && (st.take na).all zplain && decide (na ≤ zMl M') && (st.drop na).all zplain && decide ((st.drop na).length ≤ 8)) = true)
    (hr : ∀ c s, zrecv (zLY, w, c, s) kd (zMk M') (st.take na).reverse = true) (hd : d' + 1 ≤ d)
    (C : Pq ro d' M' (st.take na).reverse w v w2) (K : Z ro d M (pc + 3) ls (v :: st.drop na) w2 Q) : Z ro d M pc ls st w Q :=
  Z_callE g h1 h2 h3 h4 h5 h6 h7 hi hb hr hd C (fun o w' h => by obtain ⟨rfl, rfl⟩ := h; exact K)
end
/-- the model's text -/
def MT (w : zW) (T : zTx) : Prop := w 97 1 = (T.1 : Int) ∧ ∀ j, j < T.1 → eR w 98 99 100 101 j (T.2 j)
def KR (w : zW) (s : Nat) (d : zTx × (Nat → Int)) : Prop := w 105 s = (d.1.1 : Int) ∧ (∀ j, j < d.1.1 → eR w 106 107 108 109 (30 * s + j) (d.1.2 j)) ∧ ∀ r, r < 5 → w 110 (5 * s + r) = d.2 r
/-- every place of the kept kinds and pins holds a kind, a pin -/
def MC (w : zW) : Prop := ∀ k, k < 300 → (0 ≤ w 106 k ∧ w 106 k < 65536) ∧ (w 109 k = 0 ∨ w 109 k = 1)
def MD (w : zW) (D : zDs) : Prop := w 97 12 = (D.1 : Int) ∧ D.1 ≤ 10 ∧ (∀ q, q < D.1 → KR w (D.1 - 1 - q) (D.2 q)) ∧ MC w
def MU (w : zW) (R : zRu) : Prop := (∀ j, j < 5 → w 102 j = R.1 j) ∧ (∀ j, j < 5 → w 103 j = R.2.1 j) ∧ w 97 9 = R.2.2
def MR (w : zW) (T : zTx) (R : zRu) (D : zDs) (lim la : Int) : Prop := MT w T ∧ MU w R ∧ MD w D ∧ w 97 6 = lim ∧ w 97 10 = la ∧ (la = 1 → ∀ k, k < T.1 → w 104 k = (lnE T lim k : Int))
def frM (w w' : zW) : Prop := ∀ a k, ¬ (97 ≤ a ∧ a ≤ 116) → w' a k = w a k
/-- what is asked is found in these -/
def frY (w w' : zW) : Prop := ∀ a k, ¬ (111 ≤ a ∧ a ≤ 116) → ¬ (a = 97 ∧ (k = 0 ∨ k = 19)) → w' a k = w a k
def mM (w : zW) (tg cd : Nat) (v : Int) (C1 C0 : zW → Prop) : Option zV → zW → Prop := fun o w' => (∃ v', o = some (tg, v') ∧ (cd = 0 → v' = v)) ∧ w' 97 0 = (cd : Int) ∧ (cd = 0 → C1 w') ∧ (cd ≠ 0 → C0 w') ∧ frM w w'
def rM (w : zW) (tg cd : Nat) (v : Int) (C : zW → Prop) : Option zV → zW → Prop := fun o w' => (∃ v', o = some (tg, v') ∧ (cd = 0 → v' = v)) ∧ w' 97 0 = (cd : Int) ∧ C w' ∧ frM w w'
theorem frM.refl (w : zW) : frM w w := fun _ _ _ => rfl
theorem frM.trans {a b c : zW} (h : frM a b) (k : frM b c) : frM a c := fun x y h1 => (k x y h1).trans (h x y h1)
theorem frY.refl (w : zW) : frY w w := fun _ _ _ _ => rfl
theorem frY.trans {a b c : zW} (h : frY a b) (k : frY b c) : frY a c := fun x y h1 h2 => (k x y h1 h2).trans (h x y h1 h2)
theorem frY.M {w w' : zW} (h : frY w w') : frM w w' := fun a k ha => h a k (by omega) (by omega)
theorem frY.th (w : zW) (v : Int) : frY w (zup w 97 0 v) := fun a k h1 h2 => zup_ne (by omega)
theorem eR_frame {w w' : zW} {a b c e j : Nat} {x : zE} (h : eR w a b c e j x) (h1 : w' a j = w a j) (h2 : w' b j = w b j) (h3 : w' c j = w c j) (h4 : w' e j = w e j) : eR w' a b c e j x := by
  unfold eR at h ⊢
  rw [h1, h2, h3, h4]
  exact h
theorem MT_frame {w w' : zW} {T : zTx} (h : MT w T) (f : ∀ a k, (98 ≤ a ∧ a ≤ 101) ∨ (a = 97 ∧ k = 1) → w' a k = w a k) : MT w' T := ⟨(f _ _ (by omega)).trans h.1, fun j hj => eR_frame (h.2 j hj) (f _ _ (by omega)) (f _ _ (by omega)) (f _ _ (by omega)) (f _ _ (by omega))⟩
theorem MU_frame {w w' : zW} {R : zRu} (h : MU w R) (f : ∀ a k, a = 102 ∨ a = 103 ∨ (a = 97 ∧ k = 9) → w' a k = w a k) : MU w' R := ⟨fun j hj => (f _ _ (by omega)).trans (h.1 j hj), fun j hj => (f _ _ (by omega)).trans (h.2.1 j hj), (f _ _ (by omega)).trans h.2.2⟩
theorem MC_frame {w w' : zW} (h : MC w) (f : ∀ a k, a = 106 ∨ a = 109 → w' a k = w a k) : MC w' := fun k hk => by
  rw [f 106 k (Or.inl rfl), f 109 k (Or.inr rfl)]
  exact h k hk
theorem MD_frame {w w' : zW} {D : zDs} (h : MD w D) (f : ∀ a k, (105 ≤ a ∧ a ≤ 110) ∨ (a = 97 ∧ k = 12) → w' a k = w a k) : MD w' D := ⟨(f _ _ (by omega)).trans h.1, h.2.1, fun q hq => by
  obtain ⟨a, b, c⟩ := h.2.2.1 q hq
  exact ⟨(f _ _ (by omega)).trans a, fun j hj => eR_frame (b j hj) (f _ _ (by omega)) (f _ _ (by omega)) (f _ _ (by omega)) (f _ _ (by omega)), fun r hr => (f _ _ (by omega)).trans (c r hr)⟩, MC_frame h.2.2.2 (fun a k h => f a k (by omega))⟩
section
variable {ro : zRo} {w w' : zW} {T : zTx} {R : zRu} {D : zDs} {lim la B : Int}
theorem MR_Y (h : MR w T R D lim la) (f : frY w w') : MR w' T R D lim la := by
  obtain ⟨h1, h2, h3, h4, h5, h6⟩ := h
  exact ⟨MT_frame h1 (fun a k h => f a k (by omega) (by omega)), MU_frame h2 (fun a k h => f a k (by omega) (by omega)), MD_frame h3 (fun a k h => f a k (by omega) (by omega)), (f _ _ (by omega) (by omega)).trans h4, (f _ _ (by omega) (by omega)).trans h5, fun hl k hk => (f _ _ (by omega) (by omega)).trans (h6 hl k hk)⟩
theorem MR_out (h : MR w T R D lim la) (f : ∀ a k, 97 ≤ a → a ≤ 116 → w' a k = w a k) : MR w' T R D lim la := by
  obtain ⟨h1, h2, h3, h4, h5, h6⟩ := h
  exact ⟨MT_frame h1 (fun a k h => f a k (by omega) (by omega)), MU_frame h2 (fun a k h => f a k (by omega) (by omega)), MD_frame h3 (fun a k h => f a k (by omega) (by omega)), (f _ _ (by omega) (by omega)).trans h4, (f _ _ (by omega) (by omega)).trans h5, fun hl k hk => (f _ _ (by omega) (by omega)).trans (h6 hl k hk)⟩
theorem MT.k (h : MT w T) {k : Nat} (hk : k < T.1) : w 98 k = kT T (k : Int) := (h.2 k hk).1.trans (kT_nat hk).symm
theorem MT.n (h : MT w T) {k : Nat} (hk : k < T.1) (h1 : kT T (k : Int) = 110) : w 99 k = (T.2 k).2.1 := (h.2 k hk).2.1 ((kT_nat hk).symm.trans h1)
theorem MT.l (h : MT w T) {k : Nat} (hk : k < T.1) (h1 : kT T (k : Int) = 110 ∨ kT T (k : Int) = 99) : w 100 k = (T.2 k).2.2.1 := (h.2 k hk).2.2.1 (by rw [← kT_nat hk]; exact h1)
theorem MT.p (h : MT w T) {k : Nat} (hk : k < T.1) : w 101 k = pT T (k : Int) := by
  rw [(h.2 k hk).2.2.2]
  unfold pT
  rw [if_pos (by omega)]
  rfl
theorem isT_1 {k : Nat} {x : Int} (h : kT T (k : Int) = 110) (hx : (T.2 k).2.1 = x) : isT T (k : Int) x = 1 := if_pos ⟨h, hx⟩
theorem isT_0 {k : Nat} {x : Int} (h : ¬ (kT T (k : Int) = 110 ∧ (T.2 k).2.1 = x)) : isT T (k : Int) x = 0 := if_neg h
theorem vX8_thrown (c : Int) (h : w 97 0 = c) : Pv ro 0 mX8_thrown [(1, ((97 : Nat) : Int))] w (0, c) := by
  show Z ro 0 mX8_thrown 0 [(1, ((97 : Nat) : Int))] [] w _
  refine Z_push gX8_thrown_0 (v := (1, ((97 : Nat) : Int))) rfl ?_
  refine Z_getV (v := c) gX8_thrown_1 rfl rfl (by decide) h ?_
  refine Z_ret (v := (0, c)) gX8_thrown_4 rfl rfl rfl rfl rfl _ ?_
  exact ⟨rfl, rfl⟩
theorem vX8_in (i a b : Int) : Pv ro 0 mX8_in [(0, i), (0, a), (0, b)] w (0, if a ≤ i ∧ i ≤ b then 1 else 0) := by
  show Z ro 0 mX8_in 0 [(0, i), (0, a), (0, b)] [] w _
  refine Z_push gX8_in_0 (v := (0, i)) rfl ?_
  refine Z_push gX8_in_1 (v := (0, a)) rfl ?_
  refine Z_icmp_lt gX8_in_2 (tgt := 14) (by decide) (fun h2 => ?_) (fun h2 => ?_)
  · refine Z_push gX8_in_14 (v := (0, 0)) rfl ?_
    refine Z_retB gX8_in_15 rfl (by first | exact Or.inl rfl | exact Or.inr rfl | assumption | omega) _ ?_
    exact ⟨by rw [if_neg (by omega)], rfl⟩
  · refine Z_push gX8_in_5 (v := (0, i)) rfl ?_
    refine Z_push gX8_in_6 (v := (0, b)) rfl ?_
    refine Z_icmp_gt gX8_in_7 (tgt := 14) (by decide) (fun h7 => ?_) (fun h7 => ?_)
    · refine Z_push gX8_in_14 (v := (0, 0)) rfl ?_
      refine Z_retB gX8_in_15 rfl (by first | exact Or.inl rfl | exact Or.inr rfl | assumption | omega) _ ?_
      exact ⟨by rw [if_neg (by omega)], rfl⟩
    · refine Z_push gX8_in_10 (v := (0, 1)) rfl ?_
      refine Z_goto gX8_in_11 (tgt := 15) (by decide) ?_
      refine Z_retB gX8_in_15 rfl (by first | exact Or.inl rfl | exact Or.inr rfl | assumption | omega) _ ?_
      exact ⟨by rw [if_pos (by omega)], rfl⟩
theorem vX8_in1 {i a b : Int} (h : a ≤ i ∧ i ≤ b) : Pv ro 0 mX8_in [(0, i), (0, a), (0, b)] w (0, 1) := by
  have := vX8_in (ro := ro) (w := w) i a b
  rw [if_pos h] at this
  exact this
theorem vX8_in0 {i a b : Int} (h : ¬ (a ≤ i ∧ i ≤ b)) : Pv ro 0 mX8_in [(0, i), (0, a), (0, b)] w (0, 0) := by
  have := vX8_in (ro := ro) (w := w) i a b
  rw [if_neg h] at this
  exact this
theorem fail0 (h0 : w 97 0 = 0) (e : Int) : Pv ro 0 mX8_fails [(1, ((97 : Nat) : Int)), (0, 0), (0, e)] w (0, 0) := by
  show Z ro 0 mX8_fails 0 [(1, ((97 : Nat) : Int)), (0, 0), (0, e)] [] w _
  refine Z_push gX8_fails_0 (v := (0, 0)) rfl ?_
  refine Z_if_eq gX8_fails_1 (tgt := 16) (by decide) (fun _ => ?_) (fun h1 => absurd h1 (by omega))
  refine Z_push gX8_fails_16 (v := (1, ((97 : Nat) : Int))) rfl ?_
  refine Z_getV (v := 0) gX8_fails_17 rfl rfl (by decide) h0 ?_
  refine Z_if_eq gX8_fails_20 (tgt := 27) (by decide) (fun _ => ?_) (fun h20 => absurd h20 (by omega))
  refine Z_push gX8_fails_27 (v := (0, 0)) rfl ?_
  refine Z_retB gX8_fails_28 rfl (by first | exact Or.inl rfl | exact Or.inr rfl | assumption | omega) _ ?_
  exact ⟨rfl, rfl⟩
theorem fail1 (h0 : w 97 0 = 0) {e : Int} (he : e ≠ 0) : Pq ro 0 mX8_fails [(1, ((97 : Nat) : Int)), (0, 1), (0, e)] w (0, 1) (zup w 97 0 e) := by
  show Z ro 0 mX8_fails 0 [(1, ((97 : Nat) : Int)), (0, 1), (0, e)] [] w _
  refine Z_push gX8_fails_0 (v := (0, 1)) rfl ?_
  refine Z_if_eq gX8_fails_1 (tgt := 16) (by decide) (fun h1 => absurd h1 (by omega)) (fun _ => ?_)
  refine Z_push gX8_fails_4 (v := (1, ((97 : Nat) : Int))) rfl ?_
  refine Z_getV (v := 0) gX8_fails_5 rfl rfl (by decide) h0 ?_
  refine Z_if_ne gX8_fails_8 (tgt := 16) (by decide) (fun h8 => absurd h8 (by omega)) (fun _ => ?_)
  refine Z_push gX8_fails_11 (v := (1, ((97 : Nat) : Int))) rfl ?_
  refine Z_push gX8_fails_12 (v := (0, e)) rfl ?_
  refine Z_put gX8_fails_13 rfl rfl (by decide) rfl (fun h => by cases h) ?_
  refine Z_push gX8_fails_16 (v := (1, ((97 : Nat) : Int))) rfl ?_
  refine Z_getV (v := e) gX8_fails_17 rfl rfl (by decide) (zup_eq _ _ _ _) ?_
  refine Z_if_eq gX8_fails_20 (tgt := 27) (by decide) (fun h20 => absurd h20 (by omega)) (fun _ => ?_)
  refine Z_push gX8_fails_23 (v := (0, 1)) rfl ?_
  refine Z_goto gX8_fails_24 (tgt := 28) (by decide) ?_
  refine Z_retB gX8_fails_28 rfl (by first | exact Or.inl rfl | exact Or.inr rfl | assumption | omega) _ ?_
  exact ⟨rfl, rfl⟩
theorem noEnt0 (hM : MT w T) (hT : T.1 ≤ 30) {i : Int} (h : 0 ≤ i ∧ i < T.1) : Pv ro 1 mX8_noEntry [(1, ((97 : Nat) : Int)), (0, i)] w (0, 0) := by
  show Z ro 1 mX8_noEntry 0 [(1, ((97 : Nat) : Int)), (0, i)] [] w _
  refine Z_push gX8_noEntry_0 (v := (0, i)) rfl ?_
  refine Z_push gX8_noEntry_1 (v := (0, 0)) rfl ?_
  refine Z_push gX8_noEntry_2 (v := (1, ((97 : Nat) : Int))) rfl ?_
  refine Z_getV (v := (T.1 : Int)) gX8_noEntry_3 rfl rfl (by decide) hM.1 ?_
  refine Z_push gX8_noEntry_6 (v := (0, 1)) rfl ?_
  refine Z_isub gX8_noEntry_7 ⟨by omega, by omega⟩ ?_
  refine Z_callP (kd := 1) (na := 3) (M' := mX8_in) gX8_noEntry_8 rfl rfl rfl rfl rfl rfl (fun _ => rfl) rfl rfl (fun _ _ => rfl) (d' := 0) (by omega) (vX8_in1 (by omega)) ?_
  refine Z_if_ne gX8_noEntry_11 (tgt := 18) (by decide) (fun _ => ?_) (fun h11 => absurd h11 (by omega))
  refine Z_push gX8_noEntry_18 (v := (0, 0)) rfl ?_
  refine Z_retB gX8_noEntry_19 rfl (by first | exact Or.inl rfl | exact Or.inr rfl | assumption | omega) _ ?_
  exact ⟨rfl, rfl⟩
theorem noEnt1 (hM : MT w T) (hT : T.1 ≤ 30) {i : Int} (h : ¬ (0 ≤ i ∧ i < T.1)) : Pv ro 1 mX8_noEntry [(1, ((97 : Nat) : Int)), (0, i)] w (0, 1) := by
  show Z ro 1 mX8_noEntry 0 [(1, ((97 : Nat) : Int)), (0, i)] [] w _
  refine Z_push gX8_noEntry_0 (v := (0, i)) rfl ?_
  refine Z_push gX8_noEntry_1 (v := (0, 0)) rfl ?_
  refine Z_push gX8_noEntry_2 (v := (1, ((97 : Nat) : Int))) rfl ?_
  refine Z_getV (v := (T.1 : Int)) gX8_noEntry_3 rfl rfl (by decide) hM.1 ?_
  refine Z_push gX8_noEntry_6 (v := (0, 1)) rfl ?_
  refine Z_isub gX8_noEntry_7 ⟨by omega, by omega⟩ ?_
  refine Z_callP (kd := 1) (na := 3) (M' := mX8_in) gX8_noEntry_8 rfl rfl rfl rfl rfl rfl (fun _ => rfl) rfl rfl (fun _ _ => rfl) (d' := 0) (by omega) (vX8_in0 (by omega)) ?_
  refine Z_if_ne gX8_noEntry_11 (tgt := 18) (by decide) (fun h11 => absurd h11 (by omega)) (fun _ => ?_)
  refine Z_push gX8_noEntry_14 (v := (0, 1)) rfl ?_
  refine Z_goto gX8_noEntry_15 (tgt := 19) (by decide) ?_
  refine Z_retB gX8_noEntry_19 rfl (by first | exact Or.inl rfl | exact Or.inr rfl | assumption | omega) _ ?_
  exact ⟨rfl, rfl⟩
theorem isNm1 {i : Int} (h : 0 ≤ i ∧ i < 100) : Pv ro 1 mX8_isName [(0, i)] w (0, 1) := by
  show Z ro 1 mX8_isName 0 [(0, i)] [] w _
  refine Z_push gX8_isName_0 (v := (0, i)) rfl ?_
  refine Z_push gX8_isName_1 (v := (0, 0)) rfl ?_
  refine Z_push gX8_isName_2 (v := (0, 99)) rfl ?_
  refine Z_callP (kd := 1) (na := 3) (M' := mX8_in) gX8_isName_4 rfl rfl rfl rfl rfl rfl (fun _ => rfl) rfl rfl (fun _ _ => rfl) (d' := 0) (by omega) (vX8_in1 (by omega)) ?_
  refine Z_retB gX8_isName_7 rfl (by first | exact Or.inl rfl | exact Or.inr rfl | assumption | omega) _ ?_
  exact ⟨rfl, rfl⟩
theorem isNm0 {i : Int} (h : ¬ (0 ≤ i ∧ i < 100)) : Pv ro 1 mX8_isName [(0, i)] w (0, 0) := by
  show Z ro 1 mX8_isName 0 [(0, i)] [] w _
  refine Z_push gX8_isName_0 (v := (0, i)) rfl ?_
  refine Z_push gX8_isName_1 (v := (0, 0)) rfl ?_
  refine Z_push gX8_isName_2 (v := (0, 99)) rfl ?_
  refine Z_callP (kd := 1) (na := 3) (M' := mX8_in) gX8_isName_4 rfl rfl rfl rfl rfl rfl (fun _ => rfl) rfl rfl (fun _ _ => rfl) (d' := 0) (by omega) (vX8_in0 (by omega)) ?_
  refine Z_retB gX8_isName_7 rfl (by first | exact Or.inl rfl | exact Or.inr rfl | assumption | omega) _ ?_
  exact ⟨rfl, rfl⟩
theorem isRl1 {i : Int} (h : 0 ≤ i ∧ i < 5) : Pv ro 1 mX8_isRule [(0, i)] w (0, 1) := by
  show Z ro 1 mX8_isRule 0 [(0, i)] [] w _
  refine Z_push gX8_isRule_0 (v := (0, i)) rfl ?_
  refine Z_push gX8_isRule_1 (v := (0, 0)) rfl ?_
  refine Z_push gX8_isRule_2 (v := (0, 4)) rfl ?_
  refine Z_callP (kd := 1) (na := 3) (M' := mX8_in) gX8_isRule_3 rfl rfl rfl rfl rfl rfl (fun _ => rfl) rfl rfl (fun _ _ => rfl) (d' := 0) (by omega) (vX8_in1 (by omega)) ?_
  refine Z_retB gX8_isRule_6 rfl (by first | exact Or.inl rfl | exact Or.inr rfl | assumption | omega) _ ?_
  exact ⟨rfl, rfl⟩
theorem isRl0 {i : Int} (h : ¬ (0 ≤ i ∧ i < 5)) : Pv ro 1 mX8_isRule [(0, i)] w (0, 0) := by
  show Z ro 1 mX8_isRule 0 [(0, i)] [] w _
  refine Z_push gX8_isRule_0 (v := (0, i)) rfl ?_
  refine Z_push gX8_isRule_1 (v := (0, 0)) rfl ?_
  refine Z_push gX8_isRule_2 (v := (0, 4)) rfl ?_
  refine Z_callP (kd := 1) (na := 3) (M' := mX8_in) gX8_isRule_3 rfl rfl rfl rfl rfl rfl (fun _ => rfl) rfl rfl (fun _ _ => rfl) (d' := 0) (by omega) (vX8_in0 (by omega)) ?_
  refine Z_retB gX8_isRule_6 rfl (by first | exact Or.inl rfl | exact Or.inr rfl | assumption | omega) _ ?_
  exact ⟨rfl, rfl⟩
theorem vX8_wide (hM : MT w T) (hV : TV T) {k : Nat} (hk : k < T.1) : Pv ro 0 mX8_wide [(1, ((97 : Nat) : Int)), (0, (k : Int))] w (0, wT T (k : Int)) := by
  have hV1 := hV.1
  show Z ro 0 mX8_wide 0 [(1, ((97 : Nat) : Int)), (0, (k : Int))] [] w _
  refine Z_push gX8_wide_0 (v := (1, ((97 : Nat) : Int))) rfl ?_
  refine Z_getR (b := 98) gX8_wide_1 rfl rfl (by decide) rfl (by omega) ?_
  refine Z_push gX8_wide_4 (v := (0, (k : Int))) rfl ?_
  refine Z_caloadV (v := kT T (k : Int)) gX8_wide_5 rfl (by omega) (by omega) (hM.k hk) ?_
  refine Z_push gX8_wide_6 (v := (0, 110)) rfl ?_
  refine Z_icmp_ne gX8_wide_8 (tgt := 20) (by decide) (fun h8 => ?_) (fun h8 => ?_)
  · refine Z_push gX8_wide_20 (v := (1, ((97 : Nat) : Int))) rfl ?_
    refine Z_getR (b := 98) gX8_wide_21 rfl rfl (by decide) rfl (by omega) ?_
    refine Z_push gX8_wide_24 (v := (0, (k : Int))) rfl ?_
    refine Z_caloadV (v := kT T (k : Int)) gX8_wide_25 rfl (by omega) (by omega) (hM.k hk) ?_
    refine Z_push gX8_wide_26 (v := (0, 99)) rfl ?_
    refine Z_icmp_ne gX8_wide_28 (tgt := 42) (by decide) (fun h28 => ?_) (fun h28 => ?_)
    · refine Z_push gX8_wide_42 (v := (0, 1)) rfl ?_
      refine Z_ret (v := (0, 1)) gX8_wide_43 rfl rfl rfl rfl rfl _ ?_
      exact ⟨by unfold wT; rw [if_neg h8, if_neg h28], rfl⟩
    · have hl := len_bd hV (T := T) (i := (k : Int)) (Or.inr h28)
      rw [show ((k : Int)).toNat = k from rfl] at hl
      refine Z_push gX8_wide_31 (v := (1, ((97 : Nat) : Int))) rfl ?_
      refine Z_getR (b := 100) gX8_wide_32 rfl rfl (by decide) rfl (by omega) ?_
      refine Z_push gX8_wide_35 (v := (0, (k : Int))) rfl ?_
      refine Z_ialoadV (v := (T.2 k).2.2.1) gX8_wide_36 rfl (by omega) (by omega) (hM.l hk (Or.inr h28)) ?_
      refine Z_push gX8_wide_37 (v := (0, 4)) rfl ?_
      refine Z_iadd gX8_wide_38 ⟨by omega, by omega⟩ ?_
      refine Z_goto gX8_wide_39 (tgt := 43) (by decide) ?_
      refine Z_ret (v := (0, ((T.2 k).2.2.1) + 4)) gX8_wide_43 rfl rfl rfl rfl rfl _ ?_
      exact ⟨by unfold wT; rw [if_neg h8, if_pos h28]; rfl, rfl⟩
  · refine Z_push gX8_wide_11 (v := (1, ((97 : Nat) : Int))) rfl ?_
    refine Z_getR (b := 100) gX8_wide_12 rfl rfl (by decide) rfl (by omega) ?_
    refine Z_push gX8_wide_15 (v := (0, (k : Int))) rfl ?_
    refine Z_ialoadV (v := (T.2 k).2.2.1) gX8_wide_16 rfl (by omega) (by omega) (hM.l hk (Or.inl h8)) ?_
    refine Z_goto gX8_wide_17 (tgt := 43) (by decide) ?_
    refine Z_ret (v := (0, (T.2 k).2.2.1)) gX8_wide_43 rfl rfl rfl rfl rfl _ ?_
    exact ⟨by unfold wT; rw [if_pos h8]; rfl, rfl⟩
theorem vX8_depth (hM : MT w T) (hV : TV T) {k : Nat} (hk : k < T.1) : Pv ro 0 mX8_depth [(1, ((97 : Nat) : Int)), (0, (k : Int))] w (0, dpT T (k : Int)) := by
  have hV1 := hV.1
  have loop : ∀ m j : Nat, j + m = k → Z ro 0 mX8_depth 4 [(1, ((97 : Nat) : Int)), (0, (k : Int)), (0, opT T j), (0, (j : Int))] [] w (fun r w' k9 => k9 = 0 ∧ ∃ o, r = .inl o ∧ (o = some (0, dpT T (k : Int)) ∧ w' = w)) := by
    intro m
    induction m with
    | zero =>
      intro j hj
      obtain rfl : j = k := by omega
      have hb := opT_bd T j
      refine Z_push gX8_depth_4 (v := (0, (j : Int))) rfl ?_
      refine Z_push gX8_depth_5 (v := (0, (j : Int))) rfl ?_
      refine Z_icmp_ge gX8_depth_6 (tgt := 49) (by decide) (fun _ => ?_) (fun h6 => absurd h6 (by omega))
      refine Z_push gX8_depth_49 (v := (1, ((97 : Nat) : Int))) rfl ?_
      refine Z_getR (b := 98) gX8_depth_50 rfl rfl (by decide) rfl (by omega) ?_
      refine Z_push gX8_depth_53 (v := (0, (j : Int))) rfl ?_
      refine Z_caloadV (v := kT T (j : Int)) gX8_depth_54 rfl (by omega) (by omega) (hM.k hk) ?_
      refine Z_push gX8_depth_55 (v := (0, 125)) rfl ?_
      refine Z_icmp_ne gX8_depth_57 (tgt := 66) (by decide) (fun h57 => ?_) (fun h57 => ?_)
      · refine Z_push gX8_depth_66 (v := (0, opT T j)) rfl ?_
        refine Z_ret (v := (0, opT T j)) gX8_depth_67 rfl rfl rfl rfl rfl _ ?_
        exact ⟨by unfold dpT; rw [if_neg h57]; rfl, rfl⟩
      · refine Z_push gX8_depth_60 (v := (0, opT T j)) rfl ?_
        refine Z_push gX8_depth_61 (v := (0, 1)) rfl ?_
        refine Z_isub gX8_depth_62 ⟨by omega, by omega⟩ ?_
        refine Z_goto gX8_depth_63 (tgt := 67) (by decide) ?_
        refine Z_ret (v := (0, (opT T j) - 1)) gX8_depth_67 rfl rfl rfl rfl rfl _ ?_
        exact ⟨by unfold dpT; rw [if_pos h57]; rfl, rfl⟩
    | succ m ih =>
      intro j hj
      have hb := opT_bd T j
      have hn := ih (j + 1) (by omega)
      rw [show ((j + 1 : Nat) : Int) = (j : Int) + 1 from rfl, show opT T (j + 1) = opT T j + (if kT T j = 123 then 1 else if kT T j = 125 then -1 else 0) from rfl] at hn
      refine Z_push gX8_depth_4 (v := (0, (j : Int))) rfl ?_
      refine Z_push gX8_depth_5 (v := (0, (k : Int))) rfl ?_
      refine Z_icmp_ge gX8_depth_6 (tgt := 49) (by decide) (fun h6 => absurd h6 (by omega)) (fun _ => ?_)
      refine Z_push gX8_depth_9 (v := (0, opT T j)) rfl ?_
      refine Z_push gX8_depth_10 (v := (1, ((97 : Nat) : Int))) rfl ?_
      refine Z_getR (b := 98) gX8_depth_11 rfl rfl (by decide) rfl (by omega) ?_
      refine Z_push gX8_depth_14 (v := (0, (j : Int))) rfl ?_
      refine Z_caloadV (v := kT T (j : Int)) gX8_depth_15 rfl (by omega) (by omega) (hM.k (by omega)) ?_
      refine Z_push gX8_depth_16 (v := (0, 123)) rfl ?_
      refine Z_icmp_ne gX8_depth_18 (tgt := 25) (by decide) (fun h18 => ?_) (fun h18 => ?_)
      · rw [if_neg h18] at hn
        refine Z_push gX8_depth_25 (v := (1, ((97 : Nat) : Int))) rfl ?_
        refine Z_getR (b := 98) gX8_depth_26 rfl rfl (by decide) rfl (by omega) ?_
        refine Z_push gX8_depth_29 (v := (0, (j : Int))) rfl ?_
        refine Z_caloadV (v := kT T (j : Int)) gX8_depth_30 rfl (by omega) (by omega) (hM.k (by omega)) ?_
        refine Z_push gX8_depth_31 (v := (0, 125)) rfl ?_
        refine Z_icmp_ne gX8_depth_33 (tgt := 40) (by decide) (fun h33 => ?_) (fun h33 => ?_)
        · rw [if_neg h33] at hn
          refine Z_push gX8_depth_40 (v := (0, 0)) rfl ?_
          refine Z_iadd gX8_depth_41 ⟨by omega, by omega⟩ ?_
          refine Z_sto gX8_depth_42 rfl (ls' := [(1, ((97 : Nat) : Int)), (0, (k : Int)), (0, (opT T j) + 0), (0, (j : Int))]) (st' := []) rfl ?_
          refine Z_iinc gX8_depth_43 rfl ⟨by omega, by omega⟩ (ls' := [(1, ((97 : Nat) : Int)), (0, (k : Int)), (0, (opT T j) + 0), (0, (j : Int) + 1)]) rfl ?_
          refine Z_goto gX8_depth_46 (tgt := 4) (by decide) ?_
          exact hn
        · rw [if_pos h33] at hn
          refine Z_push gX8_depth_36 (v := (0, -1)) rfl ?_
          refine Z_goto gX8_depth_37 (tgt := 41) (by decide) ?_
          refine Z_iadd gX8_depth_41 ⟨by omega, by omega⟩ ?_
          refine Z_sto gX8_depth_42 rfl (ls' := [(1, ((97 : Nat) : Int)), (0, (k : Int)), (0, (opT T j) + (-1)), (0, (j : Int))]) (st' := []) rfl ?_
          refine Z_iinc gX8_depth_43 rfl ⟨by omega, by omega⟩ (ls' := [(1, ((97 : Nat) : Int)), (0, (k : Int)), (0, (opT T j) + (-1)), (0, (j : Int) + 1)]) rfl ?_
          refine Z_goto gX8_depth_46 (tgt := 4) (by decide) ?_
          exact hn
      · rw [if_pos h18] at hn
        refine Z_push gX8_depth_21 (v := (0, 1)) rfl ?_
        refine Z_goto gX8_depth_22 (tgt := 41) (by decide) ?_
        refine Z_iadd gX8_depth_41 ⟨by omega, by omega⟩ ?_
        refine Z_sto gX8_depth_42 rfl (ls' := [(1, ((97 : Nat) : Int)), (0, (k : Int)), (0, (opT T j) + 1), (0, (j : Int))]) (st' := []) rfl ?_
        refine Z_iinc gX8_depth_43 rfl ⟨by omega, by omega⟩ (ls' := [(1, ((97 : Nat) : Int)), (0, (k : Int)), (0, (opT T j) + 1), (0, (j : Int) + 1)]) rfl ?_
        refine Z_goto gX8_depth_46 (tgt := 4) (by decide) ?_
        exact hn
  show Z ro 0 mX8_depth 0 [(1, ((97 : Nat) : Int)), (0, (k : Int)), (9, 0), (9, 0)] [] w _
  refine Z_push gX8_depth_0 (v := (0, 0)) rfl ?_
  refine Z_sto gX8_depth_1 rfl (ls' := [(1, ((97 : Nat) : Int)), (0, (k : Int)), (0, 0), (9, 0)]) (st' := []) rfl ?_
  refine Z_push gX8_depth_2 (v := (0, 0)) rfl ?_
  refine Z_sto gX8_depth_3 rfl (ls' := [(1, ((97 : Nat) : Int)), (0, (k : Int)), (0, 0), (0, 0)]) (st' := []) rfl ?_
  exact loop k 0 (by omega)
theorem vX8_open (hM : MT w T) (hV : TV T) : Pv ro 0 mX8_open [(1, ((97 : Nat) : Int))] w (0, opT T T.1) := by
  have hV1 := hV.1
  have loop : ∀ m j : Nat, j + m = T.1 → Z ro 0 mX8_open 4 [(1, ((97 : Nat) : Int)), (0, opT T j), (0, (j : Int))] [] w (fun r w' k9 => k9 = 0 ∧ ∃ o, r = .inl o ∧ (o = some (0, opT T T.1) ∧ w' = w)) := by
    intro m
    induction m with
    | zero =>
      intro j hj
      refine Z_push gX8_open_4 (v := (0, (j : Int))) rfl ?_
      refine Z_push gX8_open_5 (v := (1, ((97 : Nat) : Int))) rfl ?_
      refine Z_getV (v := (T.1 : Int)) gX8_open_6 rfl rfl (by decide) hM.1 ?_
      refine Z_icmp_ge gX8_open_9 (tgt := 52) (by decide) (fun _ => ?_) (fun h9 => absurd h9 (by omega))
      refine Z_push gX8_open_52 (v := (0, opT T j)) rfl ?_
      refine Z_ret (v := (0, opT T j)) gX8_open_53 rfl rfl rfl rfl rfl _ ?_
      exact ⟨by rw [show T.1 = j by omega], rfl⟩
    | succ m ih =>
      intro j hj
      have hb := opT_bd T j
      have hn := ih (j + 1) (by omega)
      rw [show ((j + 1 : Nat) : Int) = (j : Int) + 1 from rfl, show opT T (j + 1) = opT T j + (if kT T j = 123 then 1 else if kT T j = 125 then -1 else 0) from rfl] at hn
      refine Z_push gX8_open_4 (v := (0, (j : Int))) rfl ?_
      refine Z_push gX8_open_5 (v := (1, ((97 : Nat) : Int))) rfl ?_
      refine Z_getV (v := (T.1 : Int)) gX8_open_6 rfl rfl (by decide) hM.1 ?_
      refine Z_icmp_ge gX8_open_9 (tgt := 52) (by decide) (fun h9 => absurd h9 (by omega)) (fun _ => ?_)
      refine Z_push gX8_open_12 (v := (0, opT T j)) rfl ?_
      refine Z_push gX8_open_13 (v := (1, ((97 : Nat) : Int))) rfl ?_
      refine Z_getR (b := 98) gX8_open_14 rfl rfl (by decide) rfl (by omega) ?_
      refine Z_push gX8_open_17 (v := (0, (j : Int))) rfl ?_
      refine Z_caloadV (v := kT T (j : Int)) gX8_open_18 rfl (by omega) (by omega) (hM.k (by omega)) ?_
      refine Z_push gX8_open_19 (v := (0, 123)) rfl ?_
      refine Z_icmp_ne gX8_open_21 (tgt := 28) (by decide) (fun h21 => ?_) (fun h21 => ?_)
      · rw [if_neg h21] at hn
        refine Z_push gX8_open_28 (v := (1, ((97 : Nat) : Int))) rfl ?_
        refine Z_getR (b := 98) gX8_open_29 rfl rfl (by decide) rfl (by omega) ?_
        refine Z_push gX8_open_32 (v := (0, (j : Int))) rfl ?_
        refine Z_caloadV (v := kT T (j : Int)) gX8_open_33 rfl (by omega) (by omega) (hM.k (by omega)) ?_
        refine Z_push gX8_open_34 (v := (0, 125)) rfl ?_
        refine Z_icmp_ne gX8_open_36 (tgt := 43) (by decide) (fun h36 => ?_) (fun h36 => ?_)
        · rw [if_neg h36] at hn
          refine Z_push gX8_open_43 (v := (0, 0)) rfl ?_
          refine Z_iadd gX8_open_44 ⟨by omega, by omega⟩ ?_
          refine Z_sto gX8_open_45 rfl (ls' := [(1, ((97 : Nat) : Int)), (0, (opT T j) + 0), (0, (j : Int))]) (st' := []) rfl ?_
          refine Z_iinc gX8_open_46 rfl ⟨by omega, by omega⟩ (ls' := [(1, ((97 : Nat) : Int)), (0, (opT T j) + 0), (0, (j : Int) + 1)]) rfl ?_
          refine Z_goto gX8_open_49 (tgt := 4) (by decide) ?_
          exact hn
        · rw [if_pos h36] at hn
          refine Z_push gX8_open_39 (v := (0, -1)) rfl ?_
          refine Z_goto gX8_open_40 (tgt := 44) (by decide) ?_
          refine Z_iadd gX8_open_44 ⟨by omega, by omega⟩ ?_
          refine Z_sto gX8_open_45 rfl (ls' := [(1, ((97 : Nat) : Int)), (0, (opT T j) + (-1)), (0, (j : Int))]) (st' := []) rfl ?_
          refine Z_iinc gX8_open_46 rfl ⟨by omega, by omega⟩ (ls' := [(1, ((97 : Nat) : Int)), (0, (opT T j) + (-1)), (0, (j : Int) + 1)]) rfl ?_
          refine Z_goto gX8_open_49 (tgt := 4) (by decide) ?_
          exact hn
      · rw [if_pos h21] at hn
        refine Z_push gX8_open_24 (v := (0, 1)) rfl ?_
        refine Z_goto gX8_open_25 (tgt := 44) (by decide) ?_
        refine Z_iadd gX8_open_44 ⟨by omega, by omega⟩ ?_
        refine Z_sto gX8_open_45 rfl (ls' := [(1, ((97 : Nat) : Int)), (0, (opT T j) + 1), (0, (j : Int))]) (st' := []) rfl ?_
        refine Z_iinc gX8_open_46 rfl ⟨by omega, by omega⟩ (ls' := [(1, ((97 : Nat) : Int)), (0, (opT T j) + 1), (0, (j : Int) + 1)]) rfl ?_
        refine Z_goto gX8_open_49 (tgt := 4) (by decide) ?_
        exact hn
  show Z ro 0 mX8_open 0 [(1, ((97 : Nat) : Int)), (9, 0), (9, 0)] [] w _
  refine Z_push gX8_open_0 (v := (0, 0)) rfl ?_
  refine Z_sto gX8_open_1 rfl (ls' := [(1, ((97 : Nat) : Int)), (0, 0), (9, 0)]) (st' := []) rfl ?_
  refine Z_push gX8_open_2 (v := (0, 0)) rfl ?_
  refine Z_sto gX8_open_3 rfl (ls' := [(1, ((97 : Nat) : Int)), (0, 0), (0, 0)]) (st' := []) rfl ?_
  exact loop T.1 0 (by omega)
theorem vX8_occurs (hM : MT w T) (hV : TV T) (x : Int) : Pv ro 0 mX8_occurs [(1, ((97 : Nat) : Int)), (0, x)] w (0, tmT T x T.1) := by
  have hV1 := hV.1
  have loop : ∀ m j : Nat, j + m = T.1 → Z ro 0 mX8_occurs 4 [(1, ((97 : Nat) : Int)), (0, x), (0, tmT T x j), (0, (j : Int))] [] w (fun r w' k9 => k9 = 0 ∧ ∃ o, r = .inl o ∧ (o = some (0, tmT T x T.1) ∧ w' = w)) := by
    intro m
    induction m with
    | zero =>
      intro j hj
      refine Z_push gX8_occurs_4 (v := (0, (j : Int))) rfl ?_
      refine Z_push gX8_occurs_5 (v := (1, ((97 : Nat) : Int))) rfl ?_
      refine Z_getV (v := (T.1 : Int)) gX8_occurs_6 rfl rfl (by decide) hM.1 ?_
      refine Z_icmp_ge gX8_occurs_9 (tgt := 47) (by decide) (fun _ => ?_) (fun h9 => absurd h9 (by omega))
      refine Z_push gX8_occurs_47 (v := (0, tmT T x j)) rfl ?_
      refine Z_ret (v := (0, tmT T x j)) gX8_occurs_48 rfl rfl rfl rfl rfl _ ?_
      exact ⟨by rw [show T.1 = j by omega], rfl⟩
    | succ m ih =>
      intro j hj
      have hb := tmT_bd T x j
      have hn := ih (j + 1) (by omega)
      rw [show ((j + 1 : Nat) : Int) = (j : Int) + 1 from rfl, show tmT T x (j + 1) = tmT T x j + isT T j x from rfl] at hn
      refine Z_push gX8_occurs_4 (v := (0, (j : Int))) rfl ?_
      refine Z_push gX8_occurs_5 (v := (1, ((97 : Nat) : Int))) rfl ?_
      refine Z_getV (v := (T.1 : Int)) gX8_occurs_6 rfl rfl (by decide) hM.1 ?_
      refine Z_icmp_ge gX8_occurs_9 (tgt := 47) (by decide) (fun h9 => absurd h9 (by omega)) (fun _ => ?_)
      refine Z_push gX8_occurs_12 (v := (0, tmT T x j)) rfl ?_
      refine Z_push gX8_occurs_13 (v := (1, ((97 : Nat) : Int))) rfl ?_
      refine Z_getR (b := 98) gX8_occurs_14 rfl rfl (by decide) rfl (by omega) ?_
      refine Z_push gX8_occurs_17 (v := (0, (j : Int))) rfl ?_
      refine Z_caloadV (v := kT T (j : Int)) gX8_occurs_18 rfl (by omega) (by omega) (hM.k (by omega)) ?_
      refine Z_push gX8_occurs_19 (v := (0, 110)) rfl ?_
      refine Z_icmp_ne gX8_occurs_21 (tgt := 38) (by decide) (fun h21 => ?_) (fun h21 => ?_)
      · rw [isT_0 (fun h => h21 h.1)] at hn
        refine Z_push gX8_occurs_38 (v := (0, 0)) rfl ?_
        refine Z_iadd gX8_occurs_39 ⟨by omega, by omega⟩ ?_
        refine Z_sto gX8_occurs_40 rfl (ls' := [(1, ((97 : Nat) : Int)), (0, x), (0, (tmT T x j) + 0), (0, (j : Int))]) (st' := []) rfl ?_
        refine Z_iinc gX8_occurs_41 rfl ⟨by omega, by omega⟩ (ls' := [(1, ((97 : Nat) : Int)), (0, x), (0, (tmT T x j) + 0), (0, (j : Int) + 1)]) rfl ?_
        refine Z_goto gX8_occurs_44 (tgt := 4) (by decide) ?_
        exact hn
      · refine Z_push gX8_occurs_24 (v := (1, ((97 : Nat) : Int))) rfl ?_
        refine Z_getR (b := 99) gX8_occurs_25 rfl rfl (by decide) rfl (by omega) ?_
        refine Z_push gX8_occurs_28 (v := (0, (j : Int))) rfl ?_
        refine Z_ialoadV (v := (T.2 j).2.1) gX8_occurs_29 rfl (by omega) (by omega) (hM.n (by omega) h21) ?_
        refine Z_push gX8_occurs_30 (v := (0, x)) rfl ?_
        refine Z_icmp_ne gX8_occurs_31 (tgt := 38) (by decide) (fun h31 => ?_) (fun h31 => ?_)
        · rw [isT_0 (fun h => h31 h.2)] at hn
          refine Z_push gX8_occurs_38 (v := (0, 0)) rfl ?_
          refine Z_iadd gX8_occurs_39 ⟨by omega, by omega⟩ ?_
          refine Z_sto gX8_occurs_40 rfl (ls' := [(1, ((97 : Nat) : Int)), (0, x), (0, (tmT T x j) + 0), (0, (j : Int))]) (st' := []) rfl ?_
          refine Z_iinc gX8_occurs_41 rfl ⟨by omega, by omega⟩ (ls' := [(1, ((97 : Nat) : Int)), (0, x), (0, (tmT T x j) + 0), (0, (j : Int) + 1)]) rfl ?_
          refine Z_goto gX8_occurs_44 (tgt := 4) (by decide) ?_
          exact hn
        · rw [isT_1 h21 h31] at hn
          refine Z_push gX8_occurs_34 (v := (0, 1)) rfl ?_
          refine Z_goto gX8_occurs_35 (tgt := 39) (by decide) ?_
          refine Z_iadd gX8_occurs_39 ⟨by omega, by omega⟩ ?_
          refine Z_sto gX8_occurs_40 rfl (ls' := [(1, ((97 : Nat) : Int)), (0, x), (0, (tmT T x j) + 1), (0, (j : Int))]) (st' := []) rfl ?_
          refine Z_iinc gX8_occurs_41 rfl ⟨by omega, by omega⟩ (ls' := [(1, ((97 : Nat) : Int)), (0, x), (0, (tmT T x j) + 1), (0, (j : Int) + 1)]) rfl ?_
          refine Z_goto gX8_occurs_44 (tgt := 4) (by decide) ?_
          exact hn
  show Z ro 0 mX8_occurs 0 [(1, ((97 : Nat) : Int)), (0, x), (9, 0), (9, 0)] [] w _
  refine Z_push gX8_occurs_0 (v := (0, 0)) rfl ?_
  refine Z_sto gX8_occurs_1 rfl (ls' := [(1, ((97 : Nat) : Int)), (0, x), (0, 0), (9, 0)]) (st' := []) rfl ?_
  refine Z_push gX8_occurs_2 (v := (0, 0)) rfl ?_
  refine Z_sto gX8_occurs_3 rfl (ls' := [(1, ((97 : Nat) : Int)), (0, x), (0, 0), (0, 0)]) (st' := []) rfl ?_
  exact loop T.1 0 (by omega)
theorem MT_ad (hM : MT w T) {x : zE} {k n l : Int} (hx : eS x k n l 0) (h1 : w' 97 1 = (T.1 : Int) + 1) (f : ∀ a q, (98 ≤ a ∧ a ≤ 101) → w' a q = if q = T.1 then (if a = 98 then k else if a = 99 then n else if a = 100 then l else 0) else w a q) : MT w' (adT T x) := by
  obtain ⟨x1, x2, x3, x4⟩ := hx
  refine ⟨h1, fun j hj => ?_⟩
  have hj : j < T.1 + 1 := hj
  show eR w' 98 99 100 101 j (if j = T.1 then x else T.2 j)
  unfold eR
  rw [f 98 j (by omega), f 99 j (by omega), f 100 j (by omega), f 101 j (by omega)]
  by_cases e : j = T.1
  · simp [e, x1, ← x4]
    exact ⟨x2, x3⟩
  · simp [e]
    exact hM.2 j (by omega)
theorem vX8_add (hM : MR w T R D lim la) (hV : TV T) (hn : T.1 < 30) {k n l : Int} {x : zE} (hk : 0 ≤ k ∧ k < 65536) (hx : eS x k n l 0) : Ev ro 0 mX8_add [(1, ((97 : Nat) : Int)), (0, k), (0, n), (0, l)] w (fun o w' => o = some (0, (T.1 : Int)) ∧ MR w' (adT T x) R (fgD D) lim 0 ∧ w' 97 0 = w 97 0 ∧ frM w w') := by
  obtain ⟨h1, h2, h3, h4, h5, h6⟩ := id hM
  have hm := h1.1
  show Z ro 0 mX8_add 0 [(1, ((97 : Nat) : Int)), (0, k), (0, n), (0, l)] [] w _
  refine Z_push gX8_add_0 (v := (1, ((97 : Nat) : Int))) rfl ?_
  refine Z_getR (b := 98) gX8_add_1 rfl rfl (by decide) rfl (by omega) ?_
  refine Z_push gX8_add_4 (v := (1, ((97 : Nat) : Int))) rfl ?_
  refine Z_getV (v := (T.1 : Int)) gX8_add_5 rfl rfl (by decide) hm ?_
  refine Z_push gX8_add_8 (v := (0, k)) rfl ?_
  refine Z_castore gX8_add_9 rfl (by omega) (by omega) (by omega) ?_
  refine Z_push gX8_add_10 (v := (1, ((97 : Nat) : Int))) rfl ?_
  refine Z_getR (b := 99) gX8_add_11 rfl rfl (by decide) rfl (by omega) ?_
  refine Z_push gX8_add_14 (v := (1, ((97 : Nat) : Int))) rfl ?_
  refine Z_getV (v := (T.1 : Int)) gX8_add_15 rfl rfl (by decide) (by simp [zup, hm]) ?_
  refine Z_push gX8_add_18 (v := (0, n)) rfl ?_
  refine Z_iastore gX8_add_19 rfl (by omega) (by omega) ?_
  refine Z_push gX8_add_20 (v := (1, ((97 : Nat) : Int))) rfl ?_
  refine Z_getR (b := 100) gX8_add_21 rfl rfl (by decide) rfl (by omega) ?_
  refine Z_push gX8_add_24 (v := (1, ((97 : Nat) : Int))) rfl ?_
  refine Z_getV (v := (T.1 : Int)) gX8_add_25 rfl rfl (by decide) (by simp [zup, hm]) ?_
  refine Z_push gX8_add_28 (v := (0, l)) rfl ?_
  refine Z_iastore gX8_add_29 rfl (by omega) (by omega) ?_
  refine Z_push gX8_add_30 (v := (1, ((97 : Nat) : Int))) rfl ?_
  refine Z_getR (b := 101) gX8_add_31 rfl rfl (by decide) rfl (by omega) ?_
  refine Z_push gX8_add_34 (v := (1, ((97 : Nat) : Int))) rfl ?_
  refine Z_getV (v := (T.1 : Int)) gX8_add_35 rfl rfl (by decide) (by simp [zup, hm]) ?_
  refine Z_push gX8_add_38 (v := (0, 0)) rfl ?_
  refine Z_bastore gX8_add_39 rfl (by omega) (by omega) (by omega) ?_
  refine Z_push gX8_add_40 (v := (1, ((97 : Nat) : Int))) rfl ?_
  refine Z_arith gX8_add_41 rfl rfl (v := [(1, ((97 : Nat) : Int)), (1, ((97 : Nat) : Int))]) rfl ?_
  refine Z_getV (v := (T.1 : Int)) gX8_add_42 rfl rfl (by decide) (by simp [zup, hm]) ?_
  refine Z_push gX8_add_45 (v := (0, 1)) rfl ?_
  refine Z_iadd gX8_add_46 ⟨by omega, by omega⟩ ?_
  refine Z_put gX8_add_47 rfl rfl (by decide) rfl (fun h => by cases h) ?_
  refine Z_push gX8_add_50 (v := (1, ((97 : Nat) : Int))) rfl ?_
  refine Z_push gX8_add_51 (v := (0, 0)) rfl ?_
  refine Z_put gX8_add_52 rfl rfl (by decide) rfl (fun h => by cases h) ?_
  refine Z_push gX8_add_55 (v := (1, ((97 : Nat) : Int))) rfl ?_
  refine Z_push gX8_add_56 (v := (0, 0)) rfl ?_
  refine Z_put gX8_add_57 rfl rfl (by decide) rfl (fun _ => (by first | exact Or.inl rfl | exact Or.inr rfl | assumption)) ?_
  refine Z_push gX8_add_60 (v := (1, ((97 : Nat) : Int))) rfl ?_
  refine Z_getV (v := (T.1 : Int) + 1) gX8_add_61 rfl rfl (by decide) (by simp [zup]) ?_
  refine Z_push gX8_add_64 (v := (0, 1)) rfl ?_
  refine Z_isub gX8_add_65 ⟨by omega, by omega⟩ ?_
  refine Z_ret (v := (0, ((T.1 : Int) + 1) - 1)) gX8_add_66 rfl rfl rfl rfl rfl _ ?_
  refine ⟨by rw [Int.add_sub_cancel], ⟨MT_ad (w := w) h1 hx ?_ ?_, MU_frame h2 ?_, ⟨?_, Nat.zero_le _, fun q hq => absurd hq (Nat.not_lt_zero _), MC_frame h3.2.2.2 ?_⟩, ?_, ?_, fun h => absurd h (by decide)⟩, ?_, fun a k ha => ?_⟩
  · simp [zup]
  · intro a q ha
    rcases (by omega : a = 98 ∨ a = 99 ∨ a = 100 ∨ a = 101) with rfl | rfl | rfl | rfl <;> simp [zup]
  · intro a q ha
    rcases ha with rfl | rfl | ⟨rfl, rfl⟩ <;> simp [zup]
  · simp [zup, fgD]
  · intro a q ha
    rcases ha with rfl | rfl <;> simp [zup]
  · simp [zup, h4]
  · simp [zup]
  · simp [zup]
  · unfold zup
    repeat' split
    all_goals first | rfl | omega
end
