/-! what each call leaves is in range; the law's state -/
section
variable {ro : zRo} {w w' : zW} {T : zTx} {R : zRu} {D : zDs} {lim la B : Int}
theorem SVx_addName (hV : SV B T R D lim la) {i l : Int} (hc : cdAddName T i l = 0) : SV (B + 150) (adT T (110, i, l, 0)) R (fgD D) lim 0 := by
  have h : ((0 ≤ i ∧ i < 100) ∧ 1 ≤ l ∧ l ≤ 9) ∧ T.1 ≠ 30 := by
    unfold cdAddName at hc
    split at hc
    · rename_i h
      split at hc
      · omega
      · rename_i h2; exact ⟨h, h2⟩
    · omega
  have := hV.1.1
  exact SV_ad hV (by omega) ⟨Or.inl rfl, fun _ => h.1.1, fun _ => h.1.2, Or.inl rfl⟩ (by have := hV.2.2.2.2.2.1; show 0 ≤ opT T T.1 + (0 : Int); omega)
theorem SVx_addC (hV : SV B T R D lim la) {l : Int} (hc : cdAddC T l = 0) : SV (B + 150) (adT T (99, 0, l, 0)) R (fgD D) lim 0 := by
  have h : (1 ≤ l ∧ l ≤ 9) ∧ T.1 ≠ 30 := by
    unfold cdAddC at hc
    split at hc
    · rename_i h
      split at hc
      · omega
      · rename_i h2; exact ⟨h, h2⟩
    · omega
  have := hV.1.1
  exact SV_ad hV (by omega) ⟨Or.inr (Or.inl rfl), fun h => absurd (show (99 : Int) = 110 from h) (by decide), fun _ => h.1, Or.inl rfl⟩ (by have := hV.2.2.2.2.2.1; show 0 ≤ opT T T.1 + (0 : Int); omega)
theorem SVx_beg (hV : SV B T R D lim la) (hc : cdBeg T = 0) : SV (B + 150) (adT T (123, 0, 1, 0)) R (fgD D) lim 0 := by
  have h : T.1 ≠ 30 := by
    unfold cdBeg at hc
    split at hc
    · omega
    · assumption
  have := hV.1.1
  exact SV_ad hV (by omega) ⟨by simp, by simp, by simp, by simp⟩ (by have := hV.2.2.2.2.2.1; show 0 ≤ opT T T.1 + (1 : Int); omega)
theorem SVx_end (hV : SV B T R D lim la) (hc : cdEnd T = 0) : SV (B + 150) (adT T (125, 0, 1, 0)) R (fgD D) lim 0 := by
  have h : 0 < opT T T.1 ∧ T.1 ≠ 30 := by
    unfold cdEnd at hc
    split at hc
    · assumption
    · omega
  have := hV.1.1
  exact SV_ad hV (by omega) ⟨by simp, by simp, by simp, by simp⟩ (by show 0 ≤ opT T T.1 + (-1 : Int); omega)
theorem SVx_fix (hV : SV B T R D lim la) {f : Int} (hc : cdFix T R f = 0) : SV (B + 150) (fxT T (rlT T (feT T f.toNat)).toNat (feT T f.toNat)) (rwR R (rlT T (feT T f.toNat)).toNat) (nfD (kpD D T) (rlT T (feT T f.toNat)).toNat) lim 0 := by
  have h : 0 ≤ f ∧ f < (fdN T T.1 : Int) := by
    unfold cdFix at hc
    split at hc
    · assumption
    · omega
  obtain ⟨j, hj, hr, he⟩ := fdN_ex (T := T) (i := f.toNat) (n := T.1) (by omega)
  have hfe : feT T f.toNat = j := by rw [← he]; exact fe_at hr
  rw [hfe]
  exact SV_fix hV hr
theorem SVx_ren (hV : SV B T R D lim la) {x y : Int} (hc : cdRen T x y = 0) : SV (B + 150) (rnT T x y) R (kpD D T) lim 0 := by
  have h : (0 ≤ x ∧ x < 100) ∧ (0 ≤ y ∧ y < 100) ∧ x ≠ y := by
    unfold cdRen at hc
    split at hc
    · assumption
    · omega
  exact SV_rename hV x h.2.1
theorem SVx_mv (hV : SV B T R D lim la) {i j : Int} (hc : cdMv T i j = 0) : SV (B + 150) (cyT T i.toNat j.toNat) R (kpD D T) lim 0 := by
  have h : ((0 ≤ i ∧ i < T.1) ∧ 0 ≤ j ∧ j < T.1) ∧ i ≠ j := by
    unfold cdMv at hc
    split at hc
    · rename_i h
      split at hc
      · omega
      · rename_i h2; exact ⟨h, h2⟩
    · omega
  exact SV_move hV (by omega) (by omega) (by omega)
theorem SVx_un (hV : SV B T R D lim la) (hc : cdUn D = 0) : SV (B + 150) (D.2 0).1 (puA R (D.2 0).2 0 5) (unD D) lim 0 := by
  have h : D.1 ≠ 0 := by
    unfold cdUn at hc
    split at hc
    · omega
    · assumption
  exact SV_undo hV (by omega)
theorem SVx_wd (hV : SV B T R D lim la) {l : Int} (hc : cdWd l = 0) : SV (B + 150) T R D l 0 := by
  have h : 13 ≤ l ∧ l ≤ 60 := by
    unfold cdWd at hc
    split at hc
    · assumption
    · omega
  exact SV_width hV h
theorem rP_m {d : Nat} {M : zM} {as : List zV} {a : Option zV ⊕ String} {cd : Nat} (H : Xv ro d M as w (rP w T R D lim la a)) : Xv ro d M as w (mP w cd (fun w' => CR w' T R D lim la) (fun w' => CR w' T R D lim la) a) :=
  Xv_mono H (fun r w' h => ⟨h.1, fun _ => h.2.1, fun _ => h.2.1, h.2.2⟩)
theorem rM_m {d : Nat} {M : zM} {as : List zV} {tg cd : Nat} {v : Int} {C : zW → Prop} (H : Ev ro d M as w (rM w tg cd v C)) : Ev ro d M as w (mM w tg cd v C C) :=
  Ev_mono H (fun o w' h => ⟨h.1, h.2.1, fun _ => h.2.2.1, fun _ => h.2.2.1, h.2.2.2⟩)
theorem stab_CR (q : Nat) (hq : 97 ≤ q) : stab q (fun w' => CR w' T R D lim la) := fun W x h => CR_97 h (fun a k ha => zup_ne (by omega))
theorem lcmp_self (mth : Nat → Nat) (v : Int) : zarith mth .lcmp 1 [(2, v), (2, v)] = some [(0, 0)] := by
  show some [((0 : Nat), if v < v then (-1 : Int) else if v = v then 0 else 1)] = _
  rw [if_neg (Int.lt_irrefl v), if_pos rfl]
theorem dcmp_self {mth : Nat → Nat} {op : CmpOp} {st : List zV} {y : UInt64} (h : zn64 y = true) : zarith mth (.dcmp op) 1 ((4, (y.toNat : Int)) :: (4, (y.toNat : Int)) :: st) = some ((0, 0) :: st) := by
  show some (((0 : Nat), (Op.cmpValue (FP.dcmp (UInt64.ofNat ((y.toNat : Int)).toNat) (UInt64.ofNat ((y.toNat : Int)).toNat)) op).toInt) :: st) = _
  rw [u64_id, fl_deq h]
  rfl
def LI (w : zW) (B : Int) : Prop := ∃ T R D lim la, CR w T R D lim la ∧ MR w T R D lim la ∧ SV B T R D lim la
def Qn (n : Nat) : (Option zV ⊕ String) → zW → Nat → Prop := fun r _ k => k ≤ n ∧ r = .inl (some (0, 1))
end
section
variable {ro : zRo} {d : Nat} {M : zM} {pc : Nat} {ls st : List zV} {w : zW} {Q : (Option zV ⊕ String) → zW → Nat → Prop}
/-- a call of the class that never throws -/
theorem Z_callS {i : Instr} {kd na : Nat} {M' : zM} {d' : Nat} {v : Option zV} {P : zW → Prop} (g : zget (zMt M) pc = some (i, 3)) (h1 : zpush (zcon (zMk M)) i 3 ls = none) (h2 : zstore i 3 ls st = none) (h3 : zarith (zmth (zMk M)) i 3 st = none) (h4 : zjump i 3 pc st = none) (h5 : zend (zMr M) i 3 st = none) (h6 : zthr (zexn (zMk M)) (zMt M) pc i 3 = none)
    (h7 : ∀ S, zheap (zfld (zMk M)) (zcls (zMk M)) zfty (zref (zMk M)) (zstc (zMk M)) (M.1.name == "<init>") ro i 3 st S = none)
    (hi : zinv (zMk M) i 3 = some (kd, na, M')) (hb : (decide (na ≤ st.length) && (st.take na).all zplain && decide (na ≤ zMl M') && (st.drop na).all zplain && decide ((st.drop na).length ≤ 8)) = true)
    (hr : ∀ c s, zrecv (zLY, w, c, s) kd (zMk M') (st.take na).reverse = true) (hd : d' + 1 ≤ d)
    (C : Xv ro d' M' (st.take na).reverse w (fun r w' => r = ans v [] 0 ∧ P w')) (hk : kd = 0 ∨ kd = 1) (he : (zMh M).isEmpty = true) (K : ∀ w', P w' → Z ro d M (pc + 3) ls (zpu v (st.drop na)) w' Q) : Z ro d M pc ls st w Q := by
  refine Z_callX g h1 h2 h3 h4 h5 h6 h7 hi hb hr hd C hk he (fun E9 w9 hE => ?_) (fun o w9 hE => ?_)
  · obtain ⟨h, -⟩ := hE
    cases h
  · obtain ⟨h, hP⟩ := hE
    cases h
    exact K w9 hP
end
