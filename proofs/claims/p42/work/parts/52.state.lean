/-! the class as a whole: its state, what its calls answer -/
section
variable {ro : zRo} {d : Nat} {M : zM} {pc : Nat} {ls st : List zV} {w : zW} {Q : (Option zV ⊕ String) → zW → Nat → Prop}
/-- a call of a method that throws for sure -/
theorem Z_callT {i : Instr} {kd na : Nat} {M' : zM} {d' : Nat} {E : String} {P : zW → Prop} (g : zget (zMt M) pc = some (i, 3)) (h1 : zpush (zcon (zMk M)) i 3 ls = none) (h2 : zstore i 3 ls st = none) (h3 : zarith (zmth (zMk M)) i 3 st = none) (h4 : zjump i 3 pc st = none) (h5 : zend (zMr M) i 3 st = none) (h6 : zthr (zexn (zMk M)) (zMt M) pc i 3 = none)
    (h7 : ∀ S, zheap (zfld (zMk M)) (zcls (zMk M)) zfty (zref (zMk M)) (zstc (zMk M)) (M.1.name == "<init>") ro i 3 st S = none)
    (hi : zinv (zMk M) i 3 = some (kd, na, M')) (hb : (decide (na ≤ st.length) && (st.take na).all zplain && decide (na ≤ zMl M') && (st.drop na).all zplain && decide ((st.drop na).length ≤ 8)) = true)
    (hr : ∀ c s, zrecv (zLY, w, c, s) kd (zMk M') (st.take na).reverse = true) (hd : d' + 1 ≤ d)
    (C : Xv ro d' M' (st.take na).reverse w (fun r w' => r = .inr E ∧ P w')) (hk : kd = 0 ∨ kd = 1) (he : (zMh M).isEmpty = true) (K : ∀ w', P w' → Q (.inr E) w' 1) : Z ro d M pc ls st w Q := by
  refine Z_callX g h1 h2 h3 h4 h5 h6 h7 hi hb hr hd C hk he (fun E9 w9 hE => ?_) (fun o w9 hE => ?_)
  · obtain ⟨h, hP⟩ := hE
    cases h
    exact K w9 hP
  · obtain ⟨h, -⟩ := hE
    cases h
end
/-- an answer: 0 the value, else one of the things that can be thrown -/
def ans (v : Option zV) : List String → Nat → Option zV ⊕ String
  | _, 0 => .inl v
  | E :: _, 1 => .inr E
  | _ :: r, k + 2 => ans v r (k + 1)
  | [], _ + 1 => .inl v
theorem ans_0 {v : Option zV} {Es : List String} {c : Nat} (h : c = 0) : ans v Es c = .inl v := by subst h; cases Es <;> rfl
theorem ans_1 {v : Option zV} {E : String} {Es : List String} {c : Nat} (h : c = 1) : ans v (E :: Es) c = .inr E := by subst h; rfl
theorem ans_2 {v : Option zV} {E E' : String} {Es : List String} {c : Nat} (h : c = 2) : ans v (E' :: E :: Es) c = .inr E := by subst h; rfl
theorem ans_3 {v : Option zV} {E E' E'' : String} {Es : List String} {c : Nat} (h : c = 3) : ans v (E'' :: E' :: E :: Es) c = .inr E := by subst h; rfl
def CR (w : zW) (T : zTx) (R : zRu) (D : zDs) (lim la : Int) : Prop := TR w 1 T ∧ RR w R ∧ (∃ nw, DR w nw D) ∧ w 0 7 = lim ∧ w 0 8 = la ∧ (la = 1 → LR w 89 T lim)
def SV (B : Int) (T : zTx) (R : zRu) (D : zDs) (lim la : Int) : Prop := TV T ∧ RV B R ∧ DV D ∧ (13 ≤ lim ∧ lim ≤ 60) ∧ (la = 0 ∨ la = 1) ∧ 0 ≤ opT T T.1 ∧ (∀ q, q < D.1 → 0 ≤ opT (D.2 q).1 (D.2 q).1.1)
def frC (w w' : zW) : Prop := ∀ a k, 97 ≤ a → w' a k = w a k
def frX (w w' : zW) : Prop := ∀ a k, ¬ (81 ≤ a ∧ a ≤ 88) → ¬ (93 ≤ a ∧ a ≤ 96) → w' a k = w a k
def mP (w : zW) (cd : Nat) (C1 C0 : zW → Prop) (a : Option zV ⊕ String) : (Option zV ⊕ String) → zW → Prop := fun r w' => r = a ∧ (cd = 0 → C1 w') ∧ (cd ≠ 0 → C0 w') ∧ frC w w'
theorem frX.refl (w : zW) : frX w w := fun _ _ _ _ => rfl
theorem frX.trans {a b c : zW} (h : frX a b) (k : frX b c) : frX a c := fun x y h1 h2 => (k x y h1 h2).trans (h x y h1 h2)
theorem frC.refl (w : zW) : frC w w := fun _ _ _ => rfl
theorem frC.trans {a b c : zW} (h : frC a b) (k : frC b c) : frC a c := fun x y h1 => (k x y h1).trans (h x y h1)
theorem frX.C {w w' : zW} (h : frX w w') : frC w w' := fun a k ha => h a k (by omega) (by omega)
theorem frF.X {w w' : zW} (h : frF w w') : frX w w' := fun a k h1 h2 => h a k (by omega) (by omega)
theorem frB.X {w w' : zW} (h : frB w w') : frX w w' := fun a k h1 h2 => h a k (by omega) (by omega)
theorem frL.X {w w' : zW} (h : frL 93 w w') : frX w w' := fun a k h1 h2 => h a k (by omega) (by omega)
theorem DR_frame {w w' : zW} {nw : Nat} {D : zDs} (h : DR w nw D) (f : ∀ a k, 9 ≤ a → a ≤ 80 → w' a k = w a k) : DR w' nw D := by
  obtain ⟨d1, d2, d3, d4, d5⟩ := h
  refine ⟨d1, (f _ _ (by omega) (by omega)).trans d2, (f _ _ (by omega) (by omega)).trans d3, d4, fun q hq => ?_⟩
  obtain ⟨a1, a2⟩ := d5 q hq
  have := sl_lt nw q
  exact ⟨TR_frame a1 (fun a k ha => f a k (by omega) (by omega)), fun r hr => (f _ _ (by omega) (by omega)).trans (a2 r hr)⟩
theorem LR_frame {w w' : zW} {c : Nat} {T : zTx} {lim : Int} (h : LR w c T lim) (f : ∀ a k, c ≤ a → a ≤ c + 3 → w' a k = w a k) : LR w' c T lim := ⟨(f _ _ (by omega) (by omega)).trans h.1, fun i hi => (f _ _ (by omega) (by omega)).trans (h.2 i hi)⟩
theorem RR_frame {w w' : zW} {R : zRu} (h : RR w R) (f : ∀ a k, 6 ≤ a → a ≤ 8 → w' a k = w a k) : RR w' R := ⟨fun j hj => (f 7 j (by omega) (by omega)).trans (h.1 j hj), fun j hj => (f 8 j (by omega) (by omega)).trans (h.2.1 j hj), (f 6 2 (by omega) (by omega)).trans h.2.2⟩
section
variable {ro : zRo} {w w' : zW} {T : zTx} {R : zRu} {D : zDs} {lim la B : Int}
theorem CR_X (h : CR w T R D lim la) (f : frX w w') : CR w' T R D lim la := by
  obtain ⟨hR, hRR, ⟨nw, hD⟩, h7, h8, hL⟩ := h
  exact ⟨TR_frame hR (fun a k ha => f a k (by omega) (by omega)), RR_frame hRR (fun a k h1 h2 => f a k (by omega) (by omega)), ⟨nw, DR_frame hD (fun a k h1 h2 => f a k (by omega) (by omega))⟩, (f _ _ (by omega) (by omega)).trans h7, (f _ _ (by omega) (by omega)).trans h8, fun h => LR_frame (hL h) (fun a k h1 h2 => f a k (by omega) (by omega))⟩
theorem CR_97 (h : CR w T R D lim la) (f : ∀ a k, a < 97 → w' a k = w a k) : CR w' T R D lim la := by
  obtain ⟨hR, hRR, ⟨nw, hD⟩, h7, h8, hL⟩ := h
  exact ⟨TR_frame hR (fun a k ha => f a k (by omega)), RR_frame hRR (fun a k h1 h2 => f a k (by omega)), ⟨nw, DR_frame hD (fun a k h1 h2 => f a k (by omega))⟩, (f _ _ (by omega)).trans h7, (f _ _ (by omega)).trans h8, fun h => LR_frame (hL h) (fun a k h1 h2 => f a k (by omega))⟩
/-! what the checks do -/
theorem nName_ok {i : Int} (h : 0 ≤ i ∧ i < 100) : Pw ro 0 mX7_needName [(0, i)] w w := by
  show Z ro 0 mX7_needName 0 [(0, i)] [] w _
  refine Z_push gX7_needName_0 (v := (0, i)) rfl ?_
  refine Z_if_lt gX7_needName_1 (tgt := 10) (by decide) (fun h1 => absurd h1 (by omega)) (fun _ => ?_)
  refine Z_push gX7_needName_4 (v := (0, i)) rfl ?_
  refine Z_push gX7_needName_5 (v := (0, 100)) rfl ?_
  refine Z_icmp_lt gX7_needName_7 (tgt := 21) (by decide) (fun _ => ?_) (fun h7 => absurd h7 (by omega))
  refine Z_end gX7_needName_21 rfl rfl rfl rfl (v := none) rfl ⟨rfl, none, rfl, ?_⟩
  exact ⟨rfl, rfl⟩
theorem nName_no {i : Int} (h : ¬ (0 ≤ i ∧ i < 100)) : Xv ro 0 mX7_needName [(0, i)] w (fun r w' => r = .inr "java/lang/IllegalArgumentException" ∧ w' = w) := by
  show Z ro 0 mX7_needName 0 [(0, i)] [] w _
  refine Z_push gX7_needName_0 (v := (0, i)) rfl ?_
  refine Z_if_lt gX7_needName_1 (tgt := 10) (by decide) (fun h1 => ?_) (fun h1 => ?_)
  · refine Z_thrX (v := ("java/lang/IllegalArgumentException", 114, 288, 118, true)) gX7_needName_10 rfl rfl rfl rfl rfl (by decide +kernel) (by decide +kernel) (by decide +kernel) rfl rfl ?_
    exact ⟨rfl, rfl, rfl⟩
  · refine Z_push gX7_needName_4 (v := (0, i)) rfl ?_
    refine Z_push gX7_needName_5 (v := (0, 100)) rfl ?_
    refine Z_icmp_lt gX7_needName_7 (tgt := 21) (by decide) (fun h7 => absurd h7 (by omega)) (fun _ => ?_)
    refine Z_thrX (v := ("java/lang/IllegalArgumentException", 114, 288, 118, true)) gX7_needName_10 rfl rfl rfl rfl rfl (by decide +kernel) (by decide +kernel) (by decide +kernel) rfl rfl ?_
    exact ⟨rfl, rfl, rfl⟩
theorem nLen_ok {i : Int} (h : 1 ≤ i ∧ i ≤ 9) : Pw ro 0 mX7_needLength [(0, i)] w w := by
  show Z ro 0 mX7_needLength 0 [(0, i)] [] w _
  refine Z_push gX7_needLength_0 (v := (0, i)) rfl ?_
  refine Z_push gX7_needLength_1 (v := (0, 1)) rfl ?_
  refine Z_icmp_lt gX7_needLength_2 (tgt := 11) (by decide) (fun h2 => absurd h2 (by omega)) (fun _ => ?_)
  refine Z_push gX7_needLength_5 (v := (0, i)) rfl ?_
  refine Z_push gX7_needLength_6 (v := (0, 9)) rfl ?_
  refine Z_icmp_le gX7_needLength_8 (tgt := 22) (by decide) (fun _ => ?_) (fun h8 => absurd h8 (by omega))
  refine Z_end gX7_needLength_22 rfl rfl rfl rfl (v := none) rfl ⟨rfl, none, rfl, ?_⟩
  exact ⟨rfl, rfl⟩
theorem nLen_no {i : Int} (h : ¬ (1 ≤ i ∧ i ≤ 9)) : Xv ro 0 mX7_needLength [(0, i)] w (fun r w' => r = .inr "java/lang/IllegalArgumentException" ∧ w' = w) := by
  show Z ro 0 mX7_needLength 0 [(0, i)] [] w _
  refine Z_push gX7_needLength_0 (v := (0, i)) rfl ?_
  refine Z_push gX7_needLength_1 (v := (0, 1)) rfl ?_
  refine Z_icmp_lt gX7_needLength_2 (tgt := 11) (by decide) (fun h2 => ?_) (fun h2 => ?_)
  · refine Z_thrX (v := ("java/lang/IllegalArgumentException", 114, 290, 118, true)) gX7_needLength_11 rfl rfl rfl rfl rfl (by decide +kernel) (by decide +kernel) (by decide +kernel) rfl rfl ?_
    exact ⟨rfl, rfl, rfl⟩
  · refine Z_push gX7_needLength_5 (v := (0, i)) rfl ?_
    refine Z_push gX7_needLength_6 (v := (0, 9)) rfl ?_
    refine Z_icmp_le gX7_needLength_8 (tgt := 22) (by decide) (fun h8 => absurd h8 (by omega)) (fun _ => ?_)
    refine Z_thrX (v := ("java/lang/IllegalArgumentException", 114, 290, 118, true)) gX7_needLength_11 rfl rfl rfl rfl rfl (by decide +kernel) (by decide +kernel) (by decide +kernel) rfl rfl ?_
    exact ⟨rfl, rfl, rfl⟩
theorem nRule_ok {i : Int} (h : 0 ≤ i ∧ i < 5) : Pw ro 0 mX7_needRule [(0, i)] w w := by
  show Z ro 0 mX7_needRule 0 [(0, i)] [] w _
  refine Z_push gX7_needRule_0 (v := (0, i)) rfl ?_
  refine Z_if_lt gX7_needRule_1 (tgt := 9) (by decide) (fun h1 => absurd h1 (by omega)) (fun _ => ?_)
  refine Z_push gX7_needRule_4 (v := (0, i)) rfl ?_
  refine Z_push gX7_needRule_5 (v := (0, 5)) rfl ?_
  refine Z_icmp_lt gX7_needRule_6 (tgt := 20) (by decide) (fun _ => ?_) (fun h6 => absurd h6 (by omega))
  refine Z_end gX7_needRule_20 rfl rfl rfl rfl (v := none) rfl ⟨rfl, none, rfl, ?_⟩
  exact ⟨rfl, rfl⟩
theorem nRule_no {i : Int} (h : ¬ (0 ≤ i ∧ i < 5)) : Xv ro 0 mX7_needRule [(0, i)] w (fun r w' => r = .inr "java/lang/IllegalArgumentException" ∧ w' = w) := by
  show Z ro 0 mX7_needRule 0 [(0, i)] [] w _
  refine Z_push gX7_needRule_0 (v := (0, i)) rfl ?_
  refine Z_if_lt gX7_needRule_1 (tgt := 9) (by decide) (fun h1 => ?_) (fun h1 => ?_)
  · refine Z_thrX (v := ("java/lang/IllegalArgumentException", 114, 292, 118, true)) gX7_needRule_9 rfl rfl rfl rfl rfl (by decide +kernel) (by decide +kernel) (by decide +kernel) rfl rfl ?_
    exact ⟨rfl, rfl, rfl⟩
  · refine Z_push gX7_needRule_4 (v := (0, i)) rfl ?_
    refine Z_push gX7_needRule_5 (v := (0, 5)) rfl ?_
    refine Z_icmp_lt gX7_needRule_6 (tgt := 20) (by decide) (fun h6 => absurd h6 (by omega)) (fun _ => ?_)
    refine Z_thrX (v := ("java/lang/IllegalArgumentException", 114, 292, 118, true)) gX7_needRule_9 rfl rfl rfl rfl rfl (by decide +kernel) (by decide +kernel) (by decide +kernel) rfl rfl ?_
    exact ⟨rfl, rfl, rfl⟩
theorem nEntry_ok (hR : TR w 1 T) {i : Int} (h : 0 ≤ i ∧ i < T.1) : Pw ro 1 mX7_needEntry [(1, ((0 : Nat) : Int)), (0, i)] w w := by
  have hT := TX_1
  show Z ro 1 mX7_needEntry 0 [(1, ((0 : Nat) : Int)), (0, i)] [] w _
  refine Z_push gX7_needEntry_0 (v := (0, i)) rfl ?_
  refine Z_if_lt gX7_needEntry_1 (tgt := 15) (by decide) (fun h1 => absurd h1 (by omega)) (fun _ => ?_)
  refine Z_push gX7_needEntry_4 (v := (0, i)) rfl ?_
  refine Z_push gX7_needEntry_5 (v := (1, ((0 : Nat) : Int))) rfl ?_
  refine Z_getR (b := 1) gX7_needEntry_6 rfl rfl (by decide) rfl (by omega) ?_
  refine Z_callP (kd := 0) (na := 1) (M' := mX6_size) gX7_needEntry_9 rfl rfl rfl rfl rfl rfl (fun _ => rfl) rfl rfl (fun _ _ => zrecv_obj rfl _ _ _) (d' := 0) (by omega) (vX6_size (by assumption) (by assumption)) ?_
  refine Z_icmp_lt gX7_needEntry_12 (tgt := 26) (by decide) (fun _ => ?_) (fun h12 => absurd h12 (by omega))
  refine Z_end gX7_needEntry_26 rfl rfl rfl rfl (v := none) rfl ⟨rfl, none, rfl, ?_⟩
  exact ⟨rfl, rfl⟩
theorem nEntry_no (hR : TR w 1 T) {i : Int} (h : ¬ (0 ≤ i ∧ i < T.1)) : Xv ro 1 mX7_needEntry [(1, ((0 : Nat) : Int)), (0, i)] w (fun r w' => r = .inr "java/lang/IndexOutOfBoundsException" ∧ w' = w) := by
  have hT := TX_1
  show Z ro 1 mX7_needEntry 0 [(1, ((0 : Nat) : Int)), (0, i)] [] w _
  refine Z_push gX7_needEntry_0 (v := (0, i)) rfl ?_
  refine Z_if_lt gX7_needEntry_1 (tgt := 15) (by decide) (fun h1 => ?_) (fun h1 => ?_)
  · refine Z_thrX (v := ("java/lang/IndexOutOfBoundsException", 294, 296, 298, true)) gX7_needEntry_15 rfl rfl rfl rfl rfl (by decide +kernel) (by decide +kernel) (by decide +kernel) rfl rfl ?_
    exact ⟨rfl, rfl, rfl⟩
  · refine Z_push gX7_needEntry_4 (v := (0, i)) rfl ?_
    refine Z_push gX7_needEntry_5 (v := (1, ((0 : Nat) : Int))) rfl ?_
    refine Z_getR (b := 1) gX7_needEntry_6 rfl rfl (by decide) rfl (by omega) ?_
    refine Z_callP (kd := 0) (na := 1) (M' := mX6_size) gX7_needEntry_9 rfl rfl rfl rfl rfl rfl (fun _ => rfl) rfl rfl (fun _ _ => zrecv_obj rfl _ _ _) (d' := 0) (by omega) (vX6_size (by assumption) (by assumption)) ?_
    refine Z_icmp_lt gX7_needEntry_12 (tgt := 26) (by decide) (fun h12 => absurd h12 (by omega)) (fun _ => ?_)
    refine Z_thrX (v := ("java/lang/IndexOutOfBoundsException", 294, 296, 298, true)) gX7_needEntry_15 rfl rfl rfl rfl rfl (by decide +kernel) (by decide +kernel) (by decide +kernel) rfl rfl ?_
    exact ⟨rfl, rfl, rfl⟩
theorem nLay_ok (h : w 0 8 ≠ 0) : Pw ro 0 mX7_needLayout [(1, ((0 : Nat) : Int))] w w := by
  show Z ro 0 mX7_needLayout 0 [(1, ((0 : Nat) : Int))] [] w _
  refine Z_push gX7_needLayout_0 (v := (1, ((0 : Nat) : Int))) rfl ?_
  refine Z_get gX7_needLayout_1 rfl rfl (by decide) ?_
  refine Z_if_ne gX7_needLayout_4 (tgt := 18) (by decide) (fun _ => ?_) (fun h4 => absurd h4 (by omega))
  refine Z_end gX7_needLayout_18 rfl rfl rfl rfl (v := none) rfl ⟨rfl, none, rfl, ?_⟩
  exact ⟨rfl, rfl⟩
theorem nLay_no (h : w 0 8 = 0) : Xv ro 0 mX7_needLayout [(1, ((0 : Nat) : Int))] w (fun r w' => r = .inr "java/lang/IllegalStateException" ∧ w' = w) := by
  show Z ro 0 mX7_needLayout 0 [(1, ((0 : Nat) : Int))] [] w _
  refine Z_push gX7_needLayout_0 (v := (1, ((0 : Nat) : Int))) rfl ?_
  refine Z_get gX7_needLayout_1 rfl rfl (by decide) ?_
  refine Z_if_ne gX7_needLayout_4 (tgt := 18) (by decide) (fun h4 => absurd h4 (by omega)) (fun _ => ?_)
  refine Z_thrX (v := ("java/lang/IllegalStateException", 84, 301, 88, true)) gX7_needLayout_7 rfl rfl rfl rfl rfl (by decide +kernel) (by decide +kernel) (by decide +kernel) rfl rfl ?_
  exact ⟨rfl, rfl, rfl⟩
theorem nFind_ok (hR : TR w 1 T) (hTV : TV T) (hRR : RR w R) {i : Int} (h : 0 ≤ i ∧ i < (fdN T T.1 : Int)) : Ev ro 5 mX7_needFinding [(1, ((0 : Nat) : Int)), (0, i)] w (fun o w' => o = none ∧ FR w' T R T.1 ∧ frF w w') := by
  show Z ro 5 mX7_needFinding 0 [(1, ((0 : Nat) : Int)), (0, i)] [] w _
  refine Z_push gX7_needFinding_0 (v := (1, ((0 : Nat) : Int))) rfl ?_
  refine Z_getR (b := 81) gX7_needFinding_1 rfl rfl (by decide) rfl (by omega) ?_
  refine Z_push gX7_needFinding_4 (v := (1, ((0 : Nat) : Int))) rfl ?_
  refine Z_getR (b := 1) gX7_needFinding_5 rfl rfl (by decide) rfl (by omega) ?_
  refine Z_push gX7_needFinding_8 (v := (1, ((0 : Nat) : Int))) rfl ?_
  refine Z_getR (b := 6) gX7_needFinding_9 rfl rfl (by decide) rfl (by omega) ?_
  refine Z_callE (kd := 0) (na := 3) (M' := mX3_search) gX7_needFinding_12 rfl rfl rfl rfl rfl rfl (fun _ => rfl) rfl rfl (fun _ _ => zrecv_obj rfl _ _ _) (d' := 4) (by omega) (vX3_search hR hTV hRR) ?_
  rintro o w2 ⟨rfl, g2, g3⟩
  refine Z_push gX7_needFinding_15 (v := (0, i)) rfl ?_
  refine Z_if_lt gX7_needFinding_16 (tgt := 30) (by decide) (fun h16 => absurd h16 (by omega)) (fun _ => ?_)
  refine Z_push gX7_needFinding_19 (v := (0, i)) rfl ?_
  refine Z_push gX7_needFinding_20 (v := (1, ((0 : Nat) : Int))) rfl ?_
  refine Z_getR (b := 81) gX7_needFinding_21 rfl rfl (by decide) rfl (by omega) ?_
  refine Z_callP (kd := 0) (na := 1) (M' := mX3_count) gX7_needFinding_24 rfl rfl rfl rfl rfl rfl (fun _ => rfl) rfl rfl (fun _ _ => zrecv_obj rfl _ _ _) (d' := 0) (by omega) (vX3_count g2.1) ?_
  refine Z_icmp_lt gX7_needFinding_27 (tgt := 41) (by decide) (fun _ => ?_) (fun h27 => absurd h27 (by omega))
  refine Z_end gX7_needFinding_41 rfl rfl rfl rfl (v := none) rfl ⟨rfl, none, rfl, ?_⟩
  exact ⟨rfl, g2, g3⟩
theorem nFind_no (hR : TR w 1 T) (hTV : TV T) (hRR : RR w R) {i : Int} (h : ¬ (0 ≤ i ∧ i < (fdN T T.1 : Int))) : Xv ro 5 mX7_needFinding [(1, ((0 : Nat) : Int)), (0, i)] w (fun r w' => r = .inr "java/util/NoSuchElementException" ∧ FR w' T R T.1 ∧ frF w w') := by
  show Z ro 5 mX7_needFinding 0 [(1, ((0 : Nat) : Int)), (0, i)] [] w _
  refine Z_push gX7_needFinding_0 (v := (1, ((0 : Nat) : Int))) rfl ?_
  refine Z_getR (b := 81) gX7_needFinding_1 rfl rfl (by decide) rfl (by omega) ?_
  refine Z_push gX7_needFinding_4 (v := (1, ((0 : Nat) : Int))) rfl ?_
  refine Z_getR (b := 1) gX7_needFinding_5 rfl rfl (by decide) rfl (by omega) ?_
  refine Z_push gX7_needFinding_8 (v := (1, ((0 : Nat) : Int))) rfl ?_
  refine Z_getR (b := 6) gX7_needFinding_9 rfl rfl (by decide) rfl (by omega) ?_
  refine Z_callE (kd := 0) (na := 3) (M' := mX3_search) gX7_needFinding_12 rfl rfl rfl rfl rfl rfl (fun _ => rfl) rfl rfl (fun _ _ => zrecv_obj rfl _ _ _) (d' := 4) (by omega) (vX3_search hR hTV hRR) ?_
  rintro o w2 ⟨rfl, g2, g3⟩
  refine Z_push gX7_needFinding_15 (v := (0, i)) rfl ?_
  refine Z_if_lt gX7_needFinding_16 (tgt := 30) (by decide) (fun h16 => ?_) (fun h16 => ?_)
  · refine Z_thrX (v := ("java/util/NoSuchElementException", 109, 299, 113, true)) gX7_needFinding_30 rfl rfl rfl rfl rfl (by decide +kernel) (by decide +kernel) (by decide +kernel) rfl rfl ?_
    exact ⟨rfl, rfl, g2, g3⟩
  · refine Z_push gX7_needFinding_19 (v := (0, i)) rfl ?_
    refine Z_push gX7_needFinding_20 (v := (1, ((0 : Nat) : Int))) rfl ?_
    refine Z_getR (b := 81) gX7_needFinding_21 rfl rfl (by decide) rfl (by omega) ?_
    refine Z_callP (kd := 0) (na := 1) (M' := mX3_count) gX7_needFinding_24 rfl rfl rfl rfl rfl rfl (fun _ => rfl) rfl rfl (fun _ _ => zrecv_obj rfl _ _ _) (d' := 0) (by omega) (vX3_count g2.1) ?_
    refine Z_icmp_lt gX7_needFinding_27 (tgt := 41) (by decide) (fun h27 => absurd h27 (by omega)) (fun _ => ?_)
    refine Z_thrX (v := ("java/util/NoSuchElementException", 109, 299, 113, true)) gX7_needFinding_30 rfl rfl rfl rfl rfl (by decide +kernel) (by decide +kernel) (by decide +kernel) rfl rfl ?_
    exact ⟨rfl, rfl, g2, g3⟩
theorem vX7_chooseBest (hR : TR w 1 T) (hTV : TV T) (hRR : RR w R) (hRV : RV B R) : Ev ro 5 mX7_chooseBest [(1, ((0 : Nat) : Int))] w (fun o w' => o = none ∧ FR w' T R T.1 ∧ SR w' T R ∧ CHR w' T R ∧ frX w w') := by
  show Z ro 5 mX7_chooseBest 0 [(1, ((0 : Nat) : Int))] [] w _
  refine Z_push gX7_chooseBest_0 (v := (1, ((0 : Nat) : Int))) rfl ?_
  refine Z_getR (b := 81) gX7_chooseBest_1 rfl rfl (by decide) rfl (by omega) ?_
  refine Z_push gX7_chooseBest_4 (v := (1, ((0 : Nat) : Int))) rfl ?_
  refine Z_getR (b := 1) gX7_chooseBest_5 rfl rfl (by decide) rfl (by omega) ?_
  refine Z_push gX7_chooseBest_8 (v := (1, ((0 : Nat) : Int))) rfl ?_
  refine Z_getR (b := 6) gX7_chooseBest_9 rfl rfl (by decide) rfl (by omega) ?_
  refine Z_callE (kd := 0) (na := 3) (M' := mX3_search) gX7_chooseBest_12 rfl rfl rfl rfl rfl rfl (fun _ => rfl) rfl rfl (fun _ _ => zrecv_obj rfl _ _ _) (d' := 4) (by omega) (vX3_search hR hTV hRR) ?_
  rintro o w2 ⟨rfl, g2, g3⟩
  refine Z_push gX7_chooseBest_15 (v := (1, ((0 : Nat) : Int))) rfl ?_
  refine Z_getR (b := 86) gX7_chooseBest_16 rfl rfl (by decide) rfl (by omega) ?_
  refine Z_push gX7_chooseBest_19 (v := (1, ((0 : Nat) : Int))) rfl ?_
  refine Z_getR (b := 81) gX7_chooseBest_20 rfl rfl (by decide) rfl (by omega) ?_
  refine Z_callE (kd := 0) (na := 2) (M' := mX0_choose) gX7_chooseBest_23 rfl rfl rfl rfl rfl rfl (fun _ => rfl) rfl rfl (fun _ _ => zrecv_obj rfl _ _ _) (d' := 4) (by omega) (vX0_choose g2 hTV hRV) ?_
  rintro o w3 ⟨rfl, k2, k3, k4⟩
  refine Z_end gX7_chooseBest_26 rfl rfl rfl rfl (v := none) rfl ⟨rfl, none, rfl, ?_⟩
  exact ⟨rfl, FR_frB g2 k4, k2, k3, g3.X.trans k4.X⟩
theorem vX7_startDeed {nw : Nat} (hR : TR w 1 T) (hTV : TV T) (hD : DR w nw D) : Ev ro 6 mX7_startDeed [(1, ((0 : Nat) : Int))] w (fun o w' => o = none ∧ DR w' (if nw + 1 < 10 then nw + 1 else 0) (kpD D T) ∧ w' 0 8 = 0 ∧ (∀ a k, ¬ (9 ≤ a ∧ a ≤ 80) → ¬ (a = 0 ∧ k = 8) → w' a k = w a k)) := by
  show Z ro 6 mX7_startDeed 0 [(1, ((0 : Nat) : Int))] [] w _
  refine Z_push gX7_startDeed_0 (v := (1, ((0 : Nat) : Int))) rfl ?_
  refine Z_getR (b := 9) gX7_startDeed_1 rfl rfl (by decide) rfl (by omega) ?_
  refine Z_push gX7_startDeed_4 (v := (1, ((0 : Nat) : Int))) rfl ?_
  refine Z_getR (b := 1) gX7_startDeed_5 rfl rfl (by decide) rfl (by omega) ?_
  refine Z_callE (kd := 0) (na := 2) (M' := mX2_keep) gX7_startDeed_8 rfl rfl rfl rfl rfl rfl (fun _ => rfl) rfl rfl (fun _ _ => zrecv_obj rfl _ _ _) (d' := 5) (by omega) (vX2_keep hD hR hTV) ?_
  rintro o w2 ⟨rfl, g2, g3⟩
  refine Z_push gX7_startDeed_11 (v := (1, ((0 : Nat) : Int))) rfl ?_
  refine Z_push gX7_startDeed_12 (v := (0, 0)) rfl ?_
  refine Z_put gX7_startDeed_13 rfl rfl (by decide) rfl (fun _ => (by first | exact Or.inl rfl | exact Or.inr rfl | assumption)) ?_
  refine Z_end gX7_startDeed_16 rfl rfl rfl rfl (v := none) rfl ⟨rfl, none, rfl, ?_⟩
  exact ⟨rfl, DR_frame g2 (fun a k h1 h2 => zup_ne (by omega)), zup_eq _ _ _ _, fun a k h1 h2 => (zup_ne h2).trans (g3 a k (by omega) (by omega))⟩
theorem vX7_append (hR : TR w 1 T) (hn : T.1 < 30) {k nm l : Int} {x : zE} (hk : 0 ≤ k ∧ k < 65536) (hx : eS x k nm l 0) : Ev ro 3 mX7_append [(1, ((0 : Nat) : Int)), (0, k), (0, nm), (0, l)] w (fun o w' => o = some (0, (T.1 : Int)) ∧ TR w' 1 (adT T x) ∧ w' 9 2 = 0 ∧ w' 0 8 = 0 ∧ (∀ a k, ¬ (1 ≤ a ∧ a ≤ 5) → ¬ (a = 9 ∧ k = 2) → ¬ (a = 0 ∧ k = 8) → w' a k = w a k)) := by
  have hT := TX_1
  show Z ro 3 mX7_append 0 [(1, ((0 : Nat) : Int)), (0, k), (0, nm), (0, l)] [] w _
  refine Z_push gX7_append_0 (v := (1, ((0 : Nat) : Int))) rfl ?_
  refine Z_getR (b := 1) gX7_append_1 rfl rfl (by decide) rfl (by omega) ?_
  refine Z_callP (kd := 0) (na := 1) (M' := mX6_size) gX7_append_4 rfl rfl rfl rfl rfl rfl (fun _ => rfl) rfl rfl (fun _ _ => zrecv_obj rfl _ _ _) (d' := 0) (by omega) (vX6_size (by assumption) (by assumption)) ?_
  refine Z_push gX7_append_7 (v := (0, 30)) rfl ?_
  refine Z_icmp_lt gX7_append_9 (tgt := 23) (by decide) (fun _ => ?_) (fun h9 => absurd h9 (by omega))
  refine Z_push gX7_append_23 (v := (1, ((0 : Nat) : Int))) rfl ?_
  refine Z_getR (b := 1) gX7_append_24 rfl rfl (by decide) rfl (by omega) ?_
  refine Z_push gX7_append_27 (v := (0, k)) rfl ?_
  refine Z_push gX7_append_28 (v := (0, nm)) rfl ?_
  refine Z_push gX7_append_29 (v := (0, l)) rfl ?_
  refine Z_callE (kd := 0) (na := 4) (M' := mX6_add) gX7_append_30 rfl rfl rfl rfl rfl rfl (fun _ => rfl) rfl rfl (fun _ _ => zrecv_obj rfl _ _ _) (d' := 2) (by omega) (vX6_add hT hR hn hk hx) ?_
  rintro o w2 ⟨rfl, g2, g3⟩
  have hR3 : TR (zup (zup w2 9 2 0) 0 8 0) 1 (adT T x) := TR_frame g2 (fun a k ha => (zup_ne (by omega)).trans (zup_ne (by omega)))
  have e : ((adT T x).1 : Int) = (T.1 : Int) + 1 := rfl
  refine Z_push gX7_append_33 (v := (1, ((0 : Nat) : Int))) rfl ?_
  refine Z_getR (b := 9) gX7_append_34 rfl rfl (by decide) rfl (by omega) ?_
  refine Z_callW (kd := 0) (na := 1) (M' := mX2_forget) gX7_append_37 rfl rfl rfl rfl rfl rfl (fun _ => rfl) rfl rfl (fun _ _ => zrecv_obj rfl _ _ _) (d' := 0) (by omega) (vX2_forget) ?_
  refine Z_push gX7_append_40 (v := (1, ((0 : Nat) : Int))) rfl ?_
  refine Z_push gX7_append_41 (v := (0, 0)) rfl ?_
  refine Z_put gX7_append_42 rfl rfl (by decide) rfl (fun _ => (by first | exact Or.inl rfl | exact Or.inr rfl | assumption)) ?_
  refine Z_push gX7_append_45 (v := (1, ((0 : Nat) : Int))) rfl ?_
  refine Z_getR (b := 1) gX7_append_46 rfl rfl (by decide) rfl (by omega) ?_
  refine Z_callP (kd := 0) (na := 1) (M' := mX6_size) gX7_append_49 rfl rfl rfl rfl rfl rfl (fun _ => rfl) rfl rfl (fun _ _ => zrecv_obj rfl _ _ _) (d' := 0) (by omega) (vX6_size hT hR3) ?_
  refine Z_push gX7_append_52 (v := (0, 1)) rfl ?_
  refine Z_isub gX7_append_53 ⟨by omega, by omega⟩ ?_
  refine Z_ret (v := (0, ((adT T x).1 : Int) - 1)) gX7_append_54 rfl rfl rfl rfl rfl _ ?_
  refine ⟨?_, hR3, (zup_ne (by omega)).trans (zup_eq _ _ _ _), zup_eq _ _ _ _, fun a k h1 h2 h3 => (zup_ne h3).trans ((zup_ne h2).trans (g3 a k (by omega) (by omega)))⟩
  rw [e, Int.add_sub_cancel]
theorem vX7_append_no (hR : TR w 1 T) (hn : ¬ T.1 < 30) (k nm l : Int) : Xv ro 3 mX7_append [(1, ((0 : Nat) : Int)), (0, k), (0, nm), (0, l)] w (fun r w' => r = .inr "java/lang/IllegalStateException" ∧ w' = w) := by
  have hT := TX_1
  show Z ro 3 mX7_append 0 [(1, ((0 : Nat) : Int)), (0, k), (0, nm), (0, l)] [] w _
  refine Z_push gX7_append_0 (v := (1, ((0 : Nat) : Int))) rfl ?_
  refine Z_getR (b := 1) gX7_append_1 rfl rfl (by decide) rfl (by omega) ?_
  refine Z_callP (kd := 0) (na := 1) (M' := mX6_size) gX7_append_4 rfl rfl rfl rfl rfl rfl (fun _ => rfl) rfl rfl (fun _ _ => zrecv_obj rfl _ _ _) (d' := 0) (by omega) (vX6_size (by assumption) (by assumption)) ?_
  refine Z_push gX7_append_7 (v := (0, 30)) rfl ?_
  refine Z_icmp_lt gX7_append_9 (tgt := 23) (by decide) (fun h9 => absurd h9 (by omega)) (fun _ => ?_)
  refine Z_thrX (v := ("java/lang/IllegalStateException", 84, 303, 88, true)) gX7_append_12 rfl rfl rfl rfl rfl (by decide +kernel) (by decide +kernel) (by decide +kernel) rfl rfl ?_
  exact ⟨rfl, rfl, rfl⟩
end
