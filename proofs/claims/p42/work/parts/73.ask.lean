/-! the law's own small methods -/
theorem ans_inl {v o : Option zV} : ∀ {Es : List String} {c : Nat}, ans v Es c = .inl o → o = v
  | [], 0, h => by cases h; rfl
  | _ :: _, 0, h => by cases h; rfl
  | [], 1, h => by cases h; rfl
  | [], _ + 2, h => by cases h; rfl
  | E :: _, 1, h => by cases h
  | _ :: r, k + 2, h => ans_inl (Es := r) (c := k + 1) h
theorem ans_inr {v : Option zV} {E : String} : ∀ {Es : List String} {c : Nat}, ans v Es c = .inr E → E ∈ Es
  | [], 0, h => by cases h
  | _ :: _, 0, h => by cases h
  | [], 1, h => by cases h
  | [], _ + 2, h => by cases h
  | E :: _, 1, h => by cases h; exact List.mem_cons_self
  | _ :: r, k + 2, h => List.mem_cons_of_mem _ (ans_inr (Es := r) (c := k + 1) h)
def exL : List String := ["java/lang/IndexOutOfBoundsException", "java/lang/IllegalArgumentException", "java/lang/IllegalStateException", "java/lang/UnsupportedOperationException", "java/util/NoSuchElementException"]
/-- the number of what is thrown -/
def exC (E : String) : Int := if E = "java/lang/IndexOutOfBoundsException" then -2001 else if E = "java/lang/IllegalArgumentException" then -2002 else if E = "java/lang/IllegalStateException" then -2003 else if E = "java/lang/UnsupportedOperationException" then -2004 else -2005
theorem exC_IX : exC "java/lang/IndexOutOfBoundsException" = -2001 := by decide +kernel
theorem exC_IA : exC "java/lang/IllegalArgumentException" = -2002 := by decide +kernel
theorem exC_IS : exC "java/lang/IllegalStateException" = -2003 := by decide +kernel
theorem exC_UO : exC "java/lang/UnsupportedOperationException" = -2004 := by decide +kernel
theorem exC_NS : exC "java/util/NoSuchElementException" = -2005 := by decide +kernel
def rV (r : Option zV ⊕ String) : Int := match r with
  | .inl (some (_, v)) => v
  | .inl none => 0
  | .inr E => exC E
theorem q_0 {v : Int} {Es : List String} {c : Nat} (h : c = 0) : rV (ans (some (0, v)) Es c) = v := by rw [ans_0 h]; rfl
theorem q_1 {v u : Int} {E : String} {Es : List String} {c : Nat} (h : c = 1) (hu : exC E = u) : rV (ans (some (0, v)) (E :: Es) c) = u := by rw [ans_1 h]; exact hu
theorem q_2 {v u : Int} {E E' : String} {Es : List String} {c : Nat} (h : c = 2) (hu : exC E = u) : rV (ans (some (0, v)) (E' :: E :: Es) c) = u := by rw [ans_2 h]; exact hu
theorem q_3 {v u : Int} {E E' E'' : String} {Es : List String} {c : Nat} (h : c = 3) (hu : exC E = u) : rV (ans (some (0, v)) (E'' :: E' :: E :: Es) c) = u := by rw [ans_3 h]; exact hu
section
variable {ro : zRo} {d : Nat} {M : zM} {pc : Nat} {ls st : List zV} {w : zW} {Q : (Option zV ⊕ String) → zW → Nat → Prop}
/-- a call whose answer is given back -/
theorem Z_tail {i : Instr} {kd na : Nat} {M' : zM} {d' : Nat} {P : (Option zV ⊕ String) → zW → Prop} (g : zget (zMt M) pc = some (i, 3)) (h1 : zpush (zcon (zMk M)) i 3 ls = none) (h2 : zstore i 3 ls st = none) (h3 : zarith (zmth (zMk M)) i 3 st = none) (h4 : zjump i 3 pc st = none) (h5 : zend (zMr M) i 3 st = none) (h6 : zthr (zexn (zMk M)) (zMt M) pc i 3 = none)
    (h7 : ∀ S, zheap (zfld (zMk M)) (zcls (zMk M)) zfty (zref (zMk M)) (zstc (zMk M)) (M.1.name == "<init>") ro i 3 st S = none)
    (hi : zinv (zMk M) i 3 = some (kd, na, M')) (hb : (decide (na ≤ st.length) && (st.take na).all zplain && decide (na ≤ zMl M') && (st.drop na).all zplain && decide ((st.drop na).length ≤ 8)) = true)
    (hr : ∀ c s, zrecv (zLY, w, c, s) kd (zMk M') (st.take na).reverse = true) (hd : d' + 1 ≤ d)
    (C : Xv ro d' M' (st.take na).reverse w P) (hk : kd = 0 ∨ kd = 1) (he : (zMh M).isEmpty = true) (gr : zget (zMt M) (pc + 3) = some (.ireturn, 1)) (hret : zMr M = some .int) (h0 : st.drop na = [])
    (hI : ∀ r w', P r w' → (∃ v, r = .inl (some (0, v))) ∨ ∃ E, r = .inr E) : Z ro d M pc ls st w (fun r w' k => k = kx r ∧ P r w') := by
  refine Z_callX g h1 h2 h3 h4 h5 h6 h7 hi hb hr hd C hk he (fun E w' h => ⟨rfl, h⟩) (fun o w' h => ?_)
  rcases hI _ _ h with ⟨v, e⟩ | ⟨E, e⟩
  · cases e
    rw [h0]
    exact Z_retX gr rfl rfl rfl rfl (by rw [hret]; rfl) ⟨rfl, h⟩
  · cases e
theorem rP_int {T : zTx} {R : zRu} {D : zDs} {lim la v : Int} {Es : List String} {cd : Nat} (r : Option zV ⊕ String) (w' : zW) (h : rP w T R D lim la (ans (some (0, v)) Es cd) r w') : (∃ v, r = .inl (some (0, v))) ∨ ∃ E, r = .inr E := by
  cases r with
  | inl o => exact Or.inl ⟨v, by rw [ans_inl h.1.symm]⟩
  | inr E => exact Or.inr ⟨E, rfl⟩
theorem mP_int {C1 C0 : zW → Prop} {v : Int} {Es : List String} {cd : Nat} (r : Option zV ⊕ String) (w' : zW) (h : mP w cd C1 C0 (ans (some (0, v)) Es cd) r w') : (∃ v, r = .inl (some (0, v))) ∨ ∃ E, r = .inr E := by
  cases r with
  | inl o => exact Or.inl ⟨v, by rw [ans_inl h.1.symm]⟩
  | inr E => exact Or.inr ⟨E, rfl⟩
end
section
variable {ro : zRo} {w : zW}
theorem vL_told {b : Int} (hb : b = 0 ∨ b = 1) : Pv ro 0 mL_told [(0, b)] w (0, b) := by
  show Z ro 0 mL_told 0 [(0, b)] [] w _
  refine Z_push gL_told_0 (v := (0, b)) rfl ?_
  refine Z_if_eq gL_told_1 (tgt := 8) (by decide) (fun h1 => ?_) (fun h1 => ?_)
  · refine Z_push gL_told_8 (v := (0, 0)) rfl ?_
    refine Z_ret (v := (0, 0)) gL_told_9 rfl rfl rfl rfl rfl _ ?_
    exact ⟨by rw [show b = 0 by omega], rfl⟩
  · refine Z_push gL_told_4 (v := (0, 1)) rfl ?_
    refine Z_goto gL_told_5 (tgt := 9) (by decide) ?_
    refine Z_ret (v := (0, 1)) gL_told_9 rfl rfl rfl rfl rfl _ ?_
    exact ⟨by rw [show b = 1 by omega], rfl⟩
theorem vL_cell {L : Nat} {f : Nat → Int} (hro : ro (-3) = some (L, f)) {i : Int} (hi : 0 ≤ i ∧ i ≤ 100000) : Ev ro 0 mL_cell [(1, -3), (0, i)] w (fun o w' => ∃ v, o = some (0, v) ∧ w' = w) := by
  show Z ro 0 mL_cell 0 [(1, -3), (0, i), (9, 0)] [] w _
  have rest : ∀ v, Z ro 0 mL_cell 15 [(1, -3), (0, i), (9, 0)] [(0, v), (0, 69069)] w (fun r w' k => k = 0 ∧ ∃ o, r = .inl o ∧ ∃ v, o = some (0, v) ∧ w' = w) := by
    intro v
    refine Z_push gL_cell_15 (v := (0, 1009)) rfl ?_
    refine Z_push gL_cell_18 (v := (0, i)) rfl ?_
    refine Z_imul gL_cell_19 ⟨by omega, by omega⟩ ?_
    refine Z_arith gL_cell_20 rfl rfl (v := [(0, zw32 (v + (1009 * i))), (0, 69069)]) rfl ?_
    refine Z_arith gL_cell_21 rfl rfl (v := [(0, zw32 (69069 * (zw32 (v + (1009 * i)))))]) rfl ?_
    refine Z_push gL_cell_22 (v := (0, 12345)) rfl ?_
    refine Z_arith gL_cell_25 rfl rfl (v := [(0, zw32 ((zw32 (69069 * (zw32 (v + (1009 * i))))) + 12345))]) rfl ?_
    refine Z_sto gL_cell_26 rfl (ls' := [(1, -3), (0, i), (0, zw32 ((zw32 (69069 * (zw32 (v + (1009 * i))))) + 12345))]) (st' := []) rfl ?_
    refine Z_push gL_cell_27 (v := (0, zw32 ((zw32 (69069 * (zw32 (v + (1009 * i))))) + 12345))) rfl ?_
    refine Z_push gL_cell_28 (v := (0, zw32 ((zw32 (69069 * (zw32 (v + (1009 * i))))) + 12345))) rfl ?_
    refine Z_push gL_cell_29 (v := (0, 13)) rfl ?_
    refine Z_arith gL_cell_31 rfl rfl (v := [(0, ((Int32.ofInt (zw32 ((zw32 (69069 * zw32 (v + 1009 * i))) + 12345))).toUInt32 >>> ((Int32.ofInt 13).toUInt32 &&& Int32.toUInt32 31)).toInt32.toInt), (0, zw32 ((zw32 (69069 * (zw32 (v + (1009 * i))))) + 12345))]) rfl ?_
    generalize zw32 ((zw32 (69069 * zw32 (v + 1009 * i))) + 12345) = a
    generalize ((Int32.ofInt a).toUInt32 >>> ((Int32.ofInt 13).toUInt32 &&& Int32.toUInt32 31)).toInt32.toInt = b
    refine Z_arith gL_cell_32 rfl rfl (v := [(0, (Int32.ofInt a ^^^ Int32.ofInt b).toInt)]) rfl ?_
    generalize (Int32.ofInt a ^^^ Int32.ofInt b).toInt = c
    refine Z_push gL_cell_33 (v := (0, 1103515245)) rfl ?_
    refine Z_arith gL_cell_35 rfl rfl (v := [(0, zw32 (c * 1103515245))]) rfl ?_
    refine Z_sto gL_cell_36 rfl (ls' := [(1, -3), (0, i), (0, zw32 (c * 1103515245))]) (st' := []) rfl ?_
    generalize zw32 (c * 1103515245) = e
    refine Z_push gL_cell_37 (v := (0, e)) rfl ?_
    refine Z_push gL_cell_38 (v := (0, e)) rfl ?_
    refine Z_push gL_cell_39 (v := (0, 16)) rfl ?_
    refine Z_arith gL_cell_41 rfl rfl (v := [(0, ((Int32.ofInt e).toUInt32 >>> ((Int32.ofInt 16).toUInt32 &&& Int32.toUInt32 31)).toInt32.toInt), (0, e)]) rfl ?_
    refine Z_arith gL_cell_42 rfl rfl (v := [(0, (Int32.ofInt e ^^^ Int32.ofInt (((Int32.ofInt e).toUInt32 >>> ((Int32.ofInt 16).toUInt32 &&& Int32.toUInt32 31)).toInt32.toInt)).toInt)]) rfl ?_
    refine Z_ret (v := (0, (Int32.ofInt e ^^^ Int32.ofInt (((Int32.ofInt e).toUInt32 >>> ((Int32.ofInt 16).toUInt32 &&& Int32.toUInt32 31)).toInt32.toInt)).toInt)) gL_cell_43 rfl rfl rfl rfl rfl _ ?_
    exact ⟨_, rfl, rfl⟩
  refine Z_push gL_cell_0 (v := (0, 69069)) rfl ?_
  refine Z_push gL_cell_2 (v := (0, i)) rfl ?_
  refine Z_push gL_cell_3 (v := (1, -3)) rfl ?_
  refine Z_lenS gL_cell_4 hro ?_
  refine Z_icmp_ge gL_cell_5 (tgt := 14) (by decide) (fun h5 => ?_) (fun h5 => ?_)
  · refine Z_push gL_cell_14 (v := (0, 0)) rfl ?_
    exact rest 0
  · refine Z_push gL_cell_8 (v := (1, -3)) rfl ?_
    refine Z_push gL_cell_9 (v := (0, i)) rfl ?_
    refine Z_ialoadS gL_cell_10 hro (by omega) (by omega) ?_
    refine Z_goto gL_cell_11 (tgt := 15) (by decide) ?_
    exact rest _
theorem pick_hi (a : Int) : 0 ≤ ((Int32.ofInt a).toUInt32 >>> ((Int32.ofInt 8).toUInt32 &&& Int32.toUInt32 31)).toInt32.toInt := by
  have e : ((Int32.ofInt 8).toUInt32 &&& Int32.toUInt32 31) = 8 := by decide
  rw [e]
  have h1 : ((Int32.ofInt a).toUInt32 >>> 8).toNat < 16777216 := by
    rw [UInt32.toNat_shiftRight, Nat.shiftRight_eq_div_pow]
    have h2 := (Int32.ofInt a).toUInt32.toNat_lt
    have e2 : (8 : UInt32).toNat % 32 = 8 := by decide
    rw [e2]
    omega
  have h3 : ((Int32.ofInt a).toUInt32 >>> 8).toInt32.toInt = (((Int32.ofInt a).toUInt32 >>> 8).toNat : Int) := by
    show (((Int32.ofInt a).toUInt32 >>> 8).toBitVec).toInt = _
    rw [BitVec.toInt_eq_toNat_of_lt (show 2 * ((Int32.ofInt a).toUInt32 >>> 8).toNat < 2 ^ 32 by omega)]
    rfl
  rw [h3]
  omega
theorem vL_pick {L : Nat} {f : Nat → Int} (hro : ro (-3) = some (L, f)) {i m : Int} (hi : 0 ≤ i ∧ i ≤ 100000) (hm : 0 < m ∧ m ≤ 1000) : Ev ro 1 mL_pick [(1, -3), (0, i), (0, m)] w (fun o w' => ∃ v, o = some (0, v) ∧ (0 ≤ v ∧ v < m) ∧ w' = w) := by
  show Z ro 1 mL_pick 0 [(1, -3), (0, i), (0, m)] [] w _
  refine Z_push gL_pick_0 (v := (1, -3)) rfl ?_
  refine Z_push gL_pick_1 (v := (0, i)) rfl ?_
  refine Z_callE (kd := 1) (na := 2) (M' := mL_cell) gL_pick_2 rfl rfl rfl rfl rfl rfl (fun _ => rfl) rfl rfl (fun _ _ => rfl) (d' := 0) (by omega) (vL_cell hro hi) ?_
  rintro o w2 ⟨v, rfl, rfl⟩
  show Z ro 1 mL_pick 5 [(1, -3), (0, i), (0, m)] [(0, v)] w2 _
  refine Z_push gL_pick_5 (v := (0, 8)) rfl ?_
  refine Z_arith gL_pick_7 rfl rfl (v := [(0, ((Int32.ofInt v).toUInt32 >>> ((Int32.ofInt 8).toUInt32 &&& Int32.toUInt32 31)).toInt32.toInt)]) rfl ?_
  have h0 := pick_hi v
  have h9 := zi32_toInt ((Int32.ofInt v).toUInt32 >>> ((Int32.ofInt 8).toUInt32 &&& Int32.toUInt32 31)).toInt32
  generalize ((Int32.ofInt v).toUInt32 >>> ((Int32.ofInt 8).toUInt32 &&& Int32.toUInt32 31)).toInt32.toInt = a at h0 h9
  have h1 : 0 ≤ a - a.tdiv m * m ∧ a - a.tdiv m * m < m := by
    have e := Int.mul_tdiv_add_tmod a m
    have e2 : m * a.tdiv m = a.tdiv m * m := Int.mul_comm _ _
    have h2 := Int.tmod_nonneg m h0
    have h3 := Int.tmod_lt_of_pos a hm.1
    omega
  have h2 : zarith (zmth 9) .irem 1 [(0, m), (0, a)] = some [(0, a - a.tdiv m * m)] := by
    show (if 0 < m then some [(0, zw32 (a - a.tdiv m * m))] else none) = _
    rw [if_pos hm.1, zw32_id ⟨by omega, by omega⟩]
  refine Z_push gL_pick_8 (v := (0, m)) rfl ?_
  refine Z_arith gL_pick_9 rfl rfl (v := [(0, a - a.tdiv m * m)]) h2 ?_
  refine Z_ret (v := (0, a - a.tdiv m * m)) gL_pick_10 rfl rfl rfl rfl rfl _ ?_
  exact ⟨_, rfl, h1, rfl⟩
end
section
variable {ro : zRo} {w : zW} {T : zTx} {R : zRu} {D : zDs} {lim la B : Int}
theorem wq_0 (hC : CR w T R D lim la) (hV : SV B T R D lim la) (a : Int) : Xv ro 35 mL_asked [(1, ((0 : Nat) : Int)), (0, 0), (0, a)] w (rP w T R D lim la (ans (some (0, kT T a)) ["java/lang/IndexOutOfBoundsException"] (cdEnt T a))) := by
  show Z ro 35 mL_asked 0 [(1, ((0 : Nat) : Int)), (0, 0), (0, a)] [] w _
  refine Z_push gL_asked_0 (v := (0, 0)) rfl ?_
  refine Z_jump gL_asked_1 rfl rfl rfl (v := (84, [])) rfl ?_
  refine Z_push gL_asked_84 (v := (1, ((0 : Nat) : Int))) rfl ?_
  refine Z_push gL_asked_85 (v := (0, a)) rfl ?_
  exact Z_tail (kd := 0) (na := 2) (M' := mX7_kindOf) gL_asked_86 rfl rfl rfl rfl rfl rfl (fun _ => rfl) rfl rfl (fun _ _ => zrecv_obj rfl _ _ _) (d' := 2) (by omega) (uX7_kindOf hC hV a) (Or.inl rfl) rfl gL_asked_89 rfl rfl rP_int
theorem wq_1 (hC : CR w T R D lim la) (hV : SV B T R D lim la) (a : Int) : Xv ro 35 mL_asked [(1, ((0 : Nat) : Int)), (0, 1), (0, a)] w (rP w T R D lim la (ans (some (0, (T.2 a.toNat).2.1)) ["java/lang/IndexOutOfBoundsException", "java/lang/IllegalStateException"] (cdNameOf T a))) := by
  show Z ro 35 mL_asked 0 [(1, ((0 : Nat) : Int)), (0, 1), (0, a)] [] w _
  refine Z_push gL_asked_0 (v := (0, 1)) rfl ?_
  refine Z_jump gL_asked_1 rfl rfl rfl (v := (90, [])) rfl ?_
  refine Z_push gL_asked_90 (v := (1, ((0 : Nat) : Int))) rfl ?_
  refine Z_push gL_asked_91 (v := (0, a)) rfl ?_
  exact Z_tail (kd := 0) (na := 2) (M' := mX7_nameOf) gL_asked_92 rfl rfl rfl rfl rfl rfl (fun _ => rfl) rfl rfl (fun _ _ => zrecv_obj rfl _ _ _) (d' := 2) (by omega) (uX7_nameOf hC hV a) (Or.inl rfl) rfl gL_asked_95 rfl rfl rP_int
theorem wq_2 (hC : CR w T R D lim la) (hV : SV B T R D lim la) (a : Int) : Xv ro 35 mL_asked [(1, ((0 : Nat) : Int)), (0, 2), (0, a)] w (rP w T R D lim la (ans (some (0, wT T a)) ["java/lang/IndexOutOfBoundsException"] (cdEnt T a))) := by
  show Z ro 35 mL_asked 0 [(1, ((0 : Nat) : Int)), (0, 2), (0, a)] [] w _
  refine Z_push gL_asked_0 (v := (0, 2)) rfl ?_
  refine Z_jump gL_asked_1 rfl rfl rfl (v := (96, [])) rfl ?_
  refine Z_push gL_asked_96 (v := (1, ((0 : Nat) : Int))) rfl ?_
  refine Z_push gL_asked_97 (v := (0, a)) rfl ?_
  exact Z_tail (kd := 0) (na := 2) (M' := mX7_widthOf) gL_asked_98 rfl rfl rfl rfl rfl rfl (fun _ => rfl) rfl rfl (fun _ _ => zrecv_obj rfl _ _ _) (d' := 3) (by omega) (uX7_widthOf hC hV a) (Or.inl rfl) rfl gL_asked_101 rfl rfl rP_int
theorem wq_3 (hC : CR w T R D lim la) (hV : SV B T R D lim la) (a : Int) : Xv ro 35 mL_asked [(1, ((0 : Nat) : Int)), (0, 3), (0, a)] w (rP w T R D lim la (ans (some (0, dpT T a)) ["java/lang/IndexOutOfBoundsException"] (cdEnt T a))) := by
  show Z ro 35 mL_asked 0 [(1, ((0 : Nat) : Int)), (0, 3), (0, a)] [] w _
  refine Z_push gL_asked_0 (v := (0, 3)) rfl ?_
  refine Z_jump gL_asked_1 rfl rfl rfl (v := (102, [])) rfl ?_
  refine Z_push gL_asked_102 (v := (1, ((0 : Nat) : Int))) rfl ?_
  refine Z_push gL_asked_103 (v := (0, a)) rfl ?_
  exact Z_tail (kd := 0) (na := 2) (M' := mX7_depthOf) gL_asked_104 rfl rfl rfl rfl rfl rfl (fun _ => rfl) rfl rfl (fun _ _ => zrecv_obj rfl _ _ _) (d' := 3) (by omega) (uX7_depthOf hC hV a) (Or.inl rfl) rfl gL_asked_107 rfl rfl rP_int
theorem wq_4 (hC : CR w T R D lim la) (hV : SV B T R D lim la) (a : Int) : Xv ro 35 mL_asked [(1, ((0 : Nat) : Int)), (0, 4), (0, a)] w (rP w T R D lim la (ans (some (0, tmT T a T.1)) ["java/lang/IllegalArgumentException"] (cdName a))) := by
  show Z ro 35 mL_asked 0 [(1, ((0 : Nat) : Int)), (0, 4), (0, a)] [] w _
  refine Z_push gL_asked_0 (v := (0, 4)) rfl ?_
  refine Z_jump gL_asked_1 rfl rfl rfl (v := (108, [])) rfl ?_
  refine Z_push gL_asked_108 (v := (1, ((0 : Nat) : Int))) rfl ?_
  refine Z_push gL_asked_109 (v := (0, a)) rfl ?_
  exact Z_tail (kd := 0) (na := 2) (M' := mX7_occurrences) gL_asked_110 rfl rfl rfl rfl rfl rfl (fun _ => rfl) rfl rfl (fun _ _ => zrecv_obj rfl _ _ _) (d' := 4) (by omega) (uX7_occurrences hC hV a) (Or.inl rfl) rfl gL_asked_113 rfl rfl rP_int
theorem wq_5 (hC : CR w T R D lim la) (hV : SV B T R D lim la) (a : Int) : Xv ro 35 mL_asked [(1, ((0 : Nat) : Int)), (0, 5), (0, a)] w (rP w T R D lim la (ans (some (0, (cmT T 100 : Int))) ["java/util/NoSuchElementException"] (cdCom T))) := by
  show Z ro 35 mL_asked 0 [(1, ((0 : Nat) : Int)), (0, 5), (0, a)] [] w _
  refine Z_push gL_asked_0 (v := (0, 5)) rfl ?_
  refine Z_jump gL_asked_1 rfl rfl rfl (v := (114, [])) rfl ?_
  refine Z_push gL_asked_114 (v := (1, ((0 : Nat) : Int))) rfl ?_
  exact Z_tail (kd := 0) (na := 1) (M' := mX7_commonest) gL_asked_115 rfl rfl rfl rfl rfl rfl (fun _ => rfl) rfl rfl (fun _ _ => zrecv_obj rfl _ _ _) (d' := 4) (by omega) (uX7_commonest hC hV) (Or.inl rfl) rfl gL_asked_118 rfl rfl rP_int
theorem wq_6 (hC : CR w T R D lim la) (hV : SV B T R D lim la) (a : Int) : Xv ro 35 mL_asked [(1, ((0 : Nat) : Int)), (0, 6), (0, a)] w (rP w T R D lim la (ans (some (0, pT T a)) ["java/lang/IndexOutOfBoundsException"] (cdEnt T a))) := by
  show Z ro 35 mL_asked 0 [(1, ((0 : Nat) : Int)), (0, 6), (0, a)] [] w _
  refine Z_push gL_asked_0 (v := (0, 6)) rfl ?_
  refine Z_jump gL_asked_1 rfl rfl rfl (v := (119, [])) rfl ?_
  refine Z_push gL_asked_119 (v := (1, ((0 : Nat) : Int))) rfl ?_
  refine Z_push gL_asked_120 (v := (0, a)) rfl ?_
  refine Z_callX (kd := 0) (na := 2) (M' := mX7_isPinned) gL_asked_121 rfl rfl rfl rfl rfl rfl (fun _ => rfl) rfl rfl (fun _ _ => zrecv_obj rfl _ _ _) (d' := 2) (by omega) (uX7_isPinned hC hV a) (Or.inl rfl) rfl (fun E9 w9 hE => ⟨rfl, hE⟩) ?_
  rintro o w2 ⟨e, c1, c2⟩
  have e2 := ans_inl e.symm
  subst e2
  show Z ro 35 mL_asked 124 [(1, ((0 : Nat) : Int)), (0, 6), (0, a)] [(0, pT T a)] w2 _
  refine Z_callP (kd := 1) (na := 1) (M' := mL_told) gL_asked_124 rfl rfl rfl rfl rfl rfl (fun _ => rfl) rfl rfl (fun _ _ => rfl) (d' := 0) (by omega) (vL_told (pT_01 hV.1 a)) ?_
  refine Z_retX (v := (0, pT T a)) gL_asked_127 rfl rfl rfl rfl rfl ?_
  exact ⟨rfl, e, c1, c2⟩
theorem wq_7 (hC : CR w T R D lim la) (hV : SV B T R D lim la) (a : Int) : Xv ro 35 mL_asked [(1, ((0 : Nat) : Int)), (0, 7), (0, a)] w (rP w T R D lim la (ans (some (0, rlT T (feT T a.toNat))) ["java/util/NoSuchElementException"] (cdFnd T a))) := by
  show Z ro 35 mL_asked 0 [(1, ((0 : Nat) : Int)), (0, 7), (0, a)] [] w _
  refine Z_push gL_asked_0 (v := (0, 7)) rfl ?_
  refine Z_jump gL_asked_1 rfl rfl rfl (v := (128, [])) rfl ?_
  refine Z_push gL_asked_128 (v := (1, ((0 : Nat) : Int))) rfl ?_
  refine Z_push gL_asked_129 (v := (0, a)) rfl ?_
  exact Z_tail (kd := 0) (na := 2) (M' := mX7_ruleOf) gL_asked_130 rfl rfl rfl rfl rfl rfl (fun _ => rfl) rfl rfl (fun _ _ => zrecv_obj rfl _ _ _) (d' := 6) (by omega) (uX7_ruleOf hC hV a) (Or.inl rfl) rfl gL_asked_133 rfl rfl rP_int
theorem wq_8 (hC : CR w T R D lim la) (hV : SV B T R D lim la) (a : Int) : Xv ro 35 mL_asked [(1, ((0 : Nat) : Int)), (0, 8), (0, a)] w (rP w T R D lim la (ans (some (0, (feT T a.toNat : Int))) ["java/util/NoSuchElementException"] (cdFnd T a))) := by
  show Z ro 35 mL_asked 0 [(1, ((0 : Nat) : Int)), (0, 8), (0, a)] [] w _
  refine Z_push gL_asked_0 (v := (0, 8)) rfl ?_
  refine Z_jump gL_asked_1 rfl rfl rfl (v := (134, [])) rfl ?_
  refine Z_push gL_asked_134 (v := (1, ((0 : Nat) : Int))) rfl ?_
  refine Z_push gL_asked_135 (v := (0, a)) rfl ?_
  exact Z_tail (kd := 0) (na := 2) (M' := mX7_firstOf) gL_asked_136 rfl rfl rfl rfl rfl rfl (fun _ => rfl) rfl rfl (fun _ _ => zrecv_obj rfl _ _ _) (d' := 6) (by omega) (uX7_firstOf hC hV a) (Or.inl rfl) rfl gL_asked_139 rfl rfl rP_int
theorem wq_9 (hC : CR w T R D lim la) (hV : SV B T R D lim la) (a : Int) : Xv ro 35 mL_asked [(1, ((0 : Nat) : Int)), (0, 9), (0, a)] w (rP w T R D lim la (ans (some (0, (enT T (feT T a.toNat) : Int))) ["java/util/NoSuchElementException"] (cdFnd T a))) := by
  show Z ro 35 mL_asked 0 [(1, ((0 : Nat) : Int)), (0, 9), (0, a)] [] w _
  refine Z_push gL_asked_0 (v := (0, 9)) rfl ?_
  refine Z_jump gL_asked_1 rfl rfl rfl (v := (140, [])) rfl ?_
  refine Z_push gL_asked_140 (v := (1, ((0 : Nat) : Int))) rfl ?_
  refine Z_push gL_asked_141 (v := (0, a)) rfl ?_
  exact Z_tail (kd := 0) (na := 2) (M' := mX7_lastOf) gL_asked_142 rfl rfl rfl rfl rfl rfl (fun _ => rfl) rfl rfl (fun _ _ => zrecv_obj rfl _ _ _) (d' := 6) (by omega) (uX7_lastOf hC hV a) (Or.inl rfl) rfl gL_asked_145 rfl rfl rP_int
theorem wq_10 (hC : CR w T R D lim la) (hV : SV B T R D lim la) (a : Int) : Xv ro 35 mL_asked [(1, ((0 : Nat) : Int)), (0, 10), (0, a)] w (rP w T R D lim la (ans (some (0, (if 0 < gnT T R (feT T a.toNat) then 1 else 0))) ["java/util/NoSuchElementException"] (cdFnd T a))) := by
  show Z ro 35 mL_asked 0 [(1, ((0 : Nat) : Int)), (0, 10), (0, a)] [] w _
  refine Z_push gL_asked_0 (v := (0, 10)) rfl ?_
  refine Z_jump gL_asked_1 rfl rfl rfl (v := (146, [])) rfl ?_
  refine Z_push gL_asked_146 (v := (1, ((0 : Nat) : Int))) rfl ?_
  refine Z_push gL_asked_147 (v := (0, a)) rfl ?_
  refine Z_callX (kd := 0) (na := 2) (M' := mX7_canFix) gL_asked_148 rfl rfl rfl rfl rfl rfl (fun _ => rfl) rfl rfl (fun _ _ => zrecv_obj rfl _ _ _) (d' := 6) (by omega) (uX7_canFix hC hV a) (Or.inl rfl) rfl (fun E9 w9 hE => ⟨rfl, hE⟩) ?_
  rintro o w2 ⟨e, c1, c2⟩
  have e2 := ans_inl e.symm
  subst e2
  show Z ro 35 mL_asked 151 [(1, ((0 : Nat) : Int)), (0, 10), (0, a)] [(0, (if 0 < gnT T R (feT T a.toNat) then 1 else 0))] w2 _
  refine Z_callP (kd := 1) (na := 1) (M' := mL_told) gL_asked_151 rfl rfl rfl rfl rfl rfl (fun _ => rfl) rfl rfl (fun _ _ => rfl) (d' := 0) (by omega) (vL_told (by split <;> simp)) ?_
  refine Z_retX (v := (0, (if 0 < gnT T R (feT T a.toNat) then 1 else 0))) gL_asked_154 rfl rfl rfl rfl rfl ?_
  exact ⟨rfl, e, c1, c2⟩
theorem wq_11 (hC : CR w T R D lim la) (hV : SV B T R D lim la) (a : Int) : Xv ro 35 mL_asked [(1, ((0 : Nat) : Int)), (0, 11), (0, a)] w (rP w T R D lim la (ans (some (0, sE T R 0)) ["java/lang/UnsupportedOperationException"] (cdTry T R))) := by
  show Z ro 35 mL_asked 0 [(1, ((0 : Nat) : Int)), (0, 11), (0, a)] [] w _
  refine Z_push gL_asked_0 (v := (0, 11)) rfl ?_
  refine Z_jump gL_asked_1 rfl rfl rfl (v := (155, [])) rfl ?_
  refine Z_push gL_asked_155 (v := (1, ((0 : Nat) : Int))) rfl ?_
  exact Z_tail (kd := 0) (na := 1) (M' := mX7_bestByTrying) gL_asked_156 rfl rfl rfl rfl rfl rfl (fun _ => rfl) rfl rfl (fun _ _ => zrecv_obj rfl _ _ _) (d' := 34) (by omega) (uX7_bestByTrying hC hV) (Or.inl rfl) rfl gL_asked_159 rfl rfl rP_int
theorem wq_12 (hC : CR w T R D lim la) (hV : SV B T R D lim la) (a : Int) : Xv ro 35 mL_asked [(1, ((0 : Nat) : Int)), (0, 12), (0, a)] w (rP w T R D lim la (ans (some (0, b2i (bsT T R (feT T a.toNat)))) ["java/util/NoSuchElementException"] (cdFnd T a))) := by
  show Z ro 35 mL_asked 0 [(1, ((0 : Nat) : Int)), (0, 12), (0, a)] [] w _
  refine Z_push gL_asked_0 (v := (0, 12)) rfl ?_
  refine Z_jump gL_asked_1 rfl rfl rfl (v := (160, [])) rfl ?_
  refine Z_push gL_asked_160 (v := (1, ((0 : Nat) : Int))) rfl ?_
  refine Z_push gL_asked_161 (v := (0, a)) rfl ?_
  refine Z_callX (kd := 0) (na := 2) (M' := mX7_isInBest) gL_asked_162 rfl rfl rfl rfl rfl rfl (fun _ => rfl) rfl rfl (fun _ _ => zrecv_obj rfl _ _ _) (d' := 6) (by omega) (uX7_isInBest hC hV a) (Or.inl rfl) rfl (fun E9 w9 hE => ⟨rfl, hE⟩) ?_
  rintro o w2 ⟨e, c1, c2⟩
  have e2 := ans_inl e.symm
  subst e2
  show Z ro 35 mL_asked 165 [(1, ((0 : Nat) : Int)), (0, 12), (0, a)] [(0, b2i (bsT T R (feT T a.toNat)))] w2 _
  refine Z_callP (kd := 1) (na := 1) (M' := mL_told) gL_asked_165 rfl rfl rfl rfl rfl rfl (fun _ => rfl) rfl rfl (fun _ _ => rfl) (d' := 0) (by omega) (vL_told (b2i_01 _)) ?_
  refine Z_retX (v := (0, b2i (bsT T R (feT T a.toNat)))) gL_asked_168 rfl rfl rfl rfl rfl ?_
  exact ⟨rfl, e, c1, c2⟩
theorem wq_13 (hC : CR w T R D lim la) (hV : SV B T R D lim la) (a : Int) : Xv ro 35 mL_asked [(1, ((0 : Nat) : Int)), (0, 13), (0, a)] w (rP w T R D lim la (ans (some (0, R.1 a.toNat)) ["java/lang/IllegalArgumentException"] (cdRule a))) := by
  show Z ro 35 mL_asked 0 [(1, ((0 : Nat) : Int)), (0, 13), (0, a)] [] w _
  refine Z_push gL_asked_0 (v := (0, 13)) rfl ?_
  refine Z_jump gL_asked_1 rfl rfl rfl (v := (169, [])) rfl ?_
  refine Z_push gL_asked_169 (v := (1, ((0 : Nat) : Int))) rfl ?_
  refine Z_push gL_asked_170 (v := (0, a)) rfl ?_
  exact Z_tail (kd := 0) (na := 2) (M' := mX7_weight) gL_asked_171 rfl rfl rfl rfl rfl rfl (fun _ => rfl) rfl rfl (fun _ _ => zrecv_obj rfl _ _ _) (d' := 2) (by omega) (uX7_weight hC hV a) (Or.inl rfl) rfl gL_asked_174 rfl rfl rP_int
theorem wq_14 (hC : CR w T R D lim la) (hV : SV B T R D lim la) (a : Int) : Xv ro 35 mL_asked [(1, ((0 : Nat) : Int)), (0, 14), (0, a)] w (rP w T R D lim la (ans (some (0, raS R a 5)) ["java/util/NoSuchElementException"] (cdRank R a))) := by
  show Z ro 35 mL_asked 0 [(1, ((0 : Nat) : Int)), (0, 14), (0, a)] [] w _
  refine Z_push gL_asked_0 (v := (0, 14)) rfl ?_
  refine Z_jump gL_asked_1 rfl rfl rfl (v := (175, [])) rfl ?_
  refine Z_push gL_asked_175 (v := (1, ((0 : Nat) : Int))) rfl ?_
  refine Z_push gL_asked_176 (v := (0, a)) rfl ?_
  exact Z_tail (kd := 0) (na := 2) (M' := mX7_ruleAt) gL_asked_177 rfl rfl rfl rfl rfl rfl (fun _ => rfl) rfl rfl (fun _ _ => zrecv_obj rfl _ _ _) (d' := 3) (by omega) (uX7_ruleAt hC hV a) (Or.inl rfl) rfl gL_asked_180 rfl rfl rP_int
theorem wq_15 (hC : CR w T R D lim la) (hV : SV B T R D lim la) (a : Int) : Xv ro 35 mL_asked [(1, ((0 : Nat) : Int)), (0, 15), (0, a)] w (rP w T R D lim la (ans (some (0, lE T lim 0)) ["java/lang/UnsupportedOperationException"] (cdCT T))) := by
  show Z ro 35 mL_asked 0 [(1, ((0 : Nat) : Int)), (0, 15), (0, a)] [] w _
  refine Z_push gL_asked_0 (v := (0, 15)) rfl ?_
  refine Z_jump gL_asked_1 rfl rfl rfl (v := (181, [])) rfl ?_
  refine Z_push gL_asked_181 (v := (1, ((0 : Nat) : Int))) rfl ?_
  exact Z_tail (kd := 0) (na := 1) (M' := mX7_costByTrying) gL_asked_182 rfl rfl rfl rfl rfl rfl (fun _ => rfl) rfl rfl (fun _ _ => zrecv_obj rfl _ _ _) (d' := 17) (by omega) (uX7_costByTrying hC hV) (Or.inl rfl) rfl gL_asked_185 rfl rfl rP_int
theorem wq_16 (hC : CR w T R D lim la) (hV : SV B T R D lim la) (a : Int) : Xv ro 35 mL_asked [(1, ((0 : Nat) : Int)), (0, 16), (0, a)] w (rP w T R D lim la (ans (some (0, (lnE T lim a.toNat : Int))) ["java/lang/IndexOutOfBoundsException", "java/lang/IllegalStateException"] (cdLO T la a))) := by
  show Z ro 35 mL_asked 0 [(1, ((0 : Nat) : Int)), (0, 16), (0, a)] [] w _
  refine Z_push gL_asked_0 (v := (0, 16)) rfl ?_
  refine Z_jump gL_asked_1 rfl rfl rfl (v := (186, [])) rfl ?_
  refine Z_push gL_asked_186 (v := (1, ((0 : Nat) : Int))) rfl ?_
  refine Z_push gL_asked_187 (v := (0, a)) rfl ?_
  exact Z_tail (kd := 0) (na := 2) (M' := mX7_lineOf) gL_asked_188 rfl rfl rfl rfl rfl rfl (fun _ => rfl) rfl rfl (fun _ _ => zrecv_obj rfl _ _ _) (d' := 2) (by omega) (uX7_lineOf hC hV a) (Or.inl rfl) rfl gL_asked_191 rfl rfl rP_int
theorem wq_17 (hC : CR w T R D lim la) (hV : SV B T R D lim la) (a : Int) : Xv ro 35 mL_asked [(1, ((0 : Nat) : Int)), (0, 17), (0, a)] w (rP w T R D lim la (ans (some (0, lwS T (stE T lim a.toNat) (stE T lim (a.toNat + 1) - stE T lim a.toNat))) ["java/lang/IllegalStateException", "java/util/NoSuchElementException"] (cdLW T lim la a))) := by
  show Z ro 35 mL_asked 0 [(1, ((0 : Nat) : Int)), (0, 17), (0, a)] [] w _
  refine Z_push gL_asked_0 (v := (0, 17)) rfl ?_
  refine Z_jump gL_asked_1 rfl rfl rfl (v := (192, [])) rfl ?_
  refine Z_push gL_asked_192 (v := (1, ((0 : Nat) : Int))) rfl ?_
  refine Z_push gL_asked_193 (v := (0, a)) rfl ?_
  exact Z_tail (kd := 0) (na := 2) (M' := mX7_lineWidth) gL_asked_194 rfl rfl rfl rfl rfl rfl (fun _ => rfl) rfl rfl (fun _ _ => zrecv_obj rfl _ _ _) (d' := 4) (by omega) (uX7_lineWidth hC hV a) (Or.inl rfl) rfl gL_asked_197 rfl rfl rP_int
/-- what ask gives -/
def Ask (ro : zRo) (w : zW) (T : zTx) (R : zRu) (D : zDs) (lim la what a u : Int) : Prop := Z ro 36 mL_ask 0 (zargs (zMl mL_ask) [(1, ((0 : Nat) : Int)), (0, what), (0, a)]) [] w (fun r w' k => k ≤ 1 ∧ ∃ o, r = .inl o ∧ o = some (0, u) ∧ CR w' T R D lim la ∧ frC w w')
theorem wL_ask {what a v : Int} {Es : List String} {cd : Nat} (H : Xv ro 35 mL_asked [(1, ((0 : Nat) : Int)), (0, what), (0, a)] w (rP w T R D lim la (ans (some (0, v)) Es cd))) (hE : ∀ E ∈ Es, E ∈ exL) : Ask ro w T R D lim la what a (rV (ans (some (0, v)) Es cd)) := by
  show Z ro 36 mL_ask 0 [(1, ((0 : Nat) : Int)), (0, what), (0, a), (9, 0)] [] w _
  refine Z_push gL_ask_0 (v := (1, ((0 : Nat) : Int))) rfl ?_
  refine Z_push gL_ask_1 (v := (0, what)) rfl ?_
  refine Z_push gL_ask_2 (v := (0, a)) rfl ?_
  refine Z_callC (kd := 1) (na := 3) (M' := mL_asked) gL_ask_3 rfl rfl rfl rfl rfl rfl (fun _ => rfl) rfl rfl (fun _ _ => rfl) (d' := 35) (by decide) H (Or.inr rfl) (fun E9 w9 h9 => ?_) ?_
  · obtain ⟨e, c1, c2⟩ := h9
    have hm := hE _ (ans_inr e.symm)
    rw [← e]
    simp only [exL, List.mem_cons, List.not_mem_nil, or_false] at hm
    rcases hm with rfl | rfl | rfl | rfl | rfl
    · refine ⟨7, (8, [(1, ((0 : Nat) : Int)), (0, what), (0, a), (9, 0)]), by decide +kernel, rfl, ?_⟩
      refine Z_push gL_ask_8 (v := (0, -2001)) rfl ?_
      refine Z_retX (v := (0, -2001)) gL_ask_11 rfl rfl rfl rfl rfl ?_
      exact ⟨by omega, _, rfl, congrArg (fun z => some (0, z)) exC_IX.symm, c1, c2⟩
    · refine ⟨12, (13, [(1, ((0 : Nat) : Int)), (0, what), (0, a), (9, 0)]), by decide +kernel, rfl, ?_⟩
      refine Z_push gL_ask_13 (v := (0, -2002)) rfl ?_
      refine Z_retX (v := (0, -2002)) gL_ask_16 rfl rfl rfl rfl rfl ?_
      exact ⟨by omega, _, rfl, congrArg (fun z => some (0, z)) exC_IA.symm, c1, c2⟩
    · refine ⟨17, (18, [(1, ((0 : Nat) : Int)), (0, what), (0, a), (9, 0)]), by decide +kernel, rfl, ?_⟩
      refine Z_push gL_ask_18 (v := (0, -2003)) rfl ?_
      refine Z_retX (v := (0, -2003)) gL_ask_21 rfl rfl rfl rfl rfl ?_
      exact ⟨by omega, _, rfl, congrArg (fun z => some (0, z)) exC_IS.symm, c1, c2⟩
    · refine ⟨22, (23, [(1, ((0 : Nat) : Int)), (0, what), (0, a), (9, 0)]), by decide +kernel, rfl, ?_⟩
      refine Z_push gL_ask_23 (v := (0, -2004)) rfl ?_
      refine Z_retX (v := (0, -2004)) gL_ask_26 rfl rfl rfl rfl rfl ?_
      exact ⟨by omega, _, rfl, congrArg (fun z => some (0, z)) exC_UO.symm, c1, c2⟩
    · refine ⟨27, (28, [(1, ((0 : Nat) : Int)), (0, what), (0, a), (9, 0)]), by decide +kernel, rfl, ?_⟩
      refine Z_push gL_ask_28 (v := (0, -2005)) rfl ?_
      refine Z_retX (v := (0, -2005)) gL_ask_31 rfl rfl rfl rfl rfl ?_
      exact ⟨by omega, _, rfl, congrArg (fun z => some (0, z)) exC_NS.symm, c1, c2⟩
  · rintro o w2 ⟨e, c1, c2⟩
    have e2 := ans_inl e.symm
    subst e2
    rw [← e]
    show Z ro 36 mL_ask 6 [(1, ((0 : Nat) : Int)), (0, what), (0, a), (9, 0)] [(0, v)] w2 _
    refine Z_retX (v := (0, v)) gL_ask_6 rfl rfl rfl rfl rfl ?_
    exact ⟨by omega, _, rfl, rfl, c1, c2⟩
theorem wA0 (hC : CR w T R D lim la) (hV : SV B T R D lim la) (a : Int) : Ask ro w T R D lim la 0 a (rV (ans (some (0, kT T a)) ["java/lang/IndexOutOfBoundsException"] (cdEnt T a))) := wL_ask (wq_0 hC hV a) (by decide)
theorem wA1 (hC : CR w T R D lim la) (hV : SV B T R D lim la) (a : Int) : Ask ro w T R D lim la 1 a (rV (ans (some (0, (T.2 a.toNat).2.1)) ["java/lang/IndexOutOfBoundsException", "java/lang/IllegalStateException"] (cdNameOf T a))) := wL_ask (wq_1 hC hV a) (by decide)
theorem wA2 (hC : CR w T R D lim la) (hV : SV B T R D lim la) (a : Int) : Ask ro w T R D lim la 2 a (rV (ans (some (0, wT T a)) ["java/lang/IndexOutOfBoundsException"] (cdEnt T a))) := wL_ask (wq_2 hC hV a) (by decide)
theorem wA3 (hC : CR w T R D lim la) (hV : SV B T R D lim la) (a : Int) : Ask ro w T R D lim la 3 a (rV (ans (some (0, dpT T a)) ["java/lang/IndexOutOfBoundsException"] (cdEnt T a))) := wL_ask (wq_3 hC hV a) (by decide)
theorem wA4 (hC : CR w T R D lim la) (hV : SV B T R D lim la) (a : Int) : Ask ro w T R D lim la 4 a (rV (ans (some (0, tmT T a T.1)) ["java/lang/IllegalArgumentException"] (cdName a))) := wL_ask (wq_4 hC hV a) (by decide)
theorem wA5 (hC : CR w T R D lim la) (hV : SV B T R D lim la) (a : Int) : Ask ro w T R D lim la 5 a (rV (ans (some (0, (cmT T 100 : Int))) ["java/util/NoSuchElementException"] (cdCom T))) := wL_ask (wq_5 hC hV a) (by decide)
theorem wA6 (hC : CR w T R D lim la) (hV : SV B T R D lim la) (a : Int) : Ask ro w T R D lim la 6 a (rV (ans (some (0, pT T a)) ["java/lang/IndexOutOfBoundsException"] (cdEnt T a))) := wL_ask (wq_6 hC hV a) (by decide)
theorem wA7 (hC : CR w T R D lim la) (hV : SV B T R D lim la) (a : Int) : Ask ro w T R D lim la 7 a (rV (ans (some (0, rlT T (feT T a.toNat))) ["java/util/NoSuchElementException"] (cdFnd T a))) := wL_ask (wq_7 hC hV a) (by decide)
theorem wA8 (hC : CR w T R D lim la) (hV : SV B T R D lim la) (a : Int) : Ask ro w T R D lim la 8 a (rV (ans (some (0, (feT T a.toNat : Int))) ["java/util/NoSuchElementException"] (cdFnd T a))) := wL_ask (wq_8 hC hV a) (by decide)
theorem wA9 (hC : CR w T R D lim la) (hV : SV B T R D lim la) (a : Int) : Ask ro w T R D lim la 9 a (rV (ans (some (0, (enT T (feT T a.toNat) : Int))) ["java/util/NoSuchElementException"] (cdFnd T a))) := wL_ask (wq_9 hC hV a) (by decide)
theorem wA10 (hC : CR w T R D lim la) (hV : SV B T R D lim la) (a : Int) : Ask ro w T R D lim la 10 a (rV (ans (some (0, (if 0 < gnT T R (feT T a.toNat) then 1 else 0))) ["java/util/NoSuchElementException"] (cdFnd T a))) := wL_ask (wq_10 hC hV a) (by decide)
theorem wA11 (hC : CR w T R D lim la) (hV : SV B T R D lim la) (a : Int) : Ask ro w T R D lim la 11 a (rV (ans (some (0, sE T R 0)) ["java/lang/UnsupportedOperationException"] (cdTry T R))) := wL_ask (wq_11 hC hV a) (by decide)
theorem wA12 (hC : CR w T R D lim la) (hV : SV B T R D lim la) (a : Int) : Ask ro w T R D lim la 12 a (rV (ans (some (0, b2i (bsT T R (feT T a.toNat)))) ["java/util/NoSuchElementException"] (cdFnd T a))) := wL_ask (wq_12 hC hV a) (by decide)
theorem wA13 (hC : CR w T R D lim la) (hV : SV B T R D lim la) (a : Int) : Ask ro w T R D lim la 13 a (rV (ans (some (0, R.1 a.toNat)) ["java/lang/IllegalArgumentException"] (cdRule a))) := wL_ask (wq_13 hC hV a) (by decide)
theorem wA14 (hC : CR w T R D lim la) (hV : SV B T R D lim la) (a : Int) : Ask ro w T R D lim la 14 a (rV (ans (some (0, raS R a 5)) ["java/util/NoSuchElementException"] (cdRank R a))) := wL_ask (wq_14 hC hV a) (by decide)
theorem wA15 (hC : CR w T R D lim la) (hV : SV B T R D lim la) (a : Int) : Ask ro w T R D lim la 15 a (rV (ans (some (0, lE T lim 0)) ["java/lang/UnsupportedOperationException"] (cdCT T))) := wL_ask (wq_15 hC hV a) (by decide)
theorem wA16 (hC : CR w T R D lim la) (hV : SV B T R D lim la) (a : Int) : Ask ro w T R D lim la 16 a (rV (ans (some (0, (lnE T lim a.toNat : Int))) ["java/lang/IndexOutOfBoundsException", "java/lang/IllegalStateException"] (cdLO T la a))) := wL_ask (wq_16 hC hV a) (by decide)
theorem wA17 (hC : CR w T R D lim la) (hV : SV B T R D lim la) (a : Int) : Ask ro w T R D lim la 17 a (rV (ans (some (0, lwS T (stE T lim a.toNat) (stE T lim (a.toNat + 1) - stE T lim a.toNat))) ["java/lang/IllegalStateException", "java/util/NoSuchElementException"] (cdLW T lim la a))) := wL_ask (wq_17 hC hV a) (by decide)
end
section
variable {ro : zRo} {w : zW} {T : zTx} {R : zRu} {D : zDs} {lim la B : Int}
theorem wp_0 (hC : CR w T R D lim la) (hV : SV B T R D lim la) (a b : Int) : Xv ro 8 mL_plain [(1, ((0 : Nat) : Int)), (0, 0), (0, a), (0, b)] w (mP w (cdAddName T a b) (fun w' => CR w' (adT T (110, a, b, 0)) R (fgD D) lim 0) (fun w' => CR w' T R D lim la) (ans (some (0, (T.1 : Int))) ["java/lang/IllegalArgumentException", "java/lang/IllegalStateException"] (cdAddName T a b))) := by
  show Z ro 8 mL_plain 0 [(1, ((0 : Nat) : Int)), (0, 0), (0, a), (0, b)] [] w _
  refine Z_push gL_plain_0 (v := (0, 0)) rfl ?_
  refine Z_jump gL_plain_1 rfl rfl rfl (v := (64, [])) rfl ?_
  refine Z_push gL_plain_64 (v := (1, ((0 : Nat) : Int))) rfl ?_
  refine Z_push gL_plain_65 (v := (0, a)) rfl ?_
  refine Z_push gL_plain_66 (v := (0, b)) rfl ?_
  exact Z_tail (kd := 0) (na := 3) (M' := mX7_addName) gL_plain_67 rfl rfl rfl rfl rfl rfl (fun _ => rfl) rfl rfl (fun _ _ => zrecv_obj rfl _ _ _) (d' := 4) (by omega) (uX7_addName hC hV a b) (Or.inl rfl) rfl gL_plain_70 rfl rfl mP_int
theorem wp_1 (hC : CR w T R D lim la) (hV : SV B T R D lim la) (a b : Int) : Xv ro 8 mL_plain [(1, ((0 : Nat) : Int)), (0, 1), (0, a), (0, b)] w (mP w (cdAddC T a) (fun w' => CR w' (adT T (99, 0, a, 0)) R (fgD D) lim 0) (fun w' => CR w' T R D lim la) (ans (some (0, (T.1 : Int))) ["java/lang/IllegalArgumentException", "java/lang/IllegalStateException"] (cdAddC T a))) := by
  show Z ro 8 mL_plain 0 [(1, ((0 : Nat) : Int)), (0, 1), (0, a), (0, b)] [] w _
  refine Z_push gL_plain_0 (v := (0, 1)) rfl ?_
  refine Z_jump gL_plain_1 rfl rfl rfl (v := (71, [])) rfl ?_
  refine Z_push gL_plain_71 (v := (1, ((0 : Nat) : Int))) rfl ?_
  refine Z_push gL_plain_72 (v := (0, a)) rfl ?_
  exact Z_tail (kd := 0) (na := 2) (M' := mX7_addComment) gL_plain_73 rfl rfl rfl rfl rfl rfl (fun _ => rfl) rfl rfl (fun _ _ => zrecv_obj rfl _ _ _) (d' := 4) (by omega) (uX7_addComment hC hV a) (Or.inl rfl) rfl gL_plain_76 rfl rfl mP_int
theorem wp_2 (hC : CR w T R D lim la) (hV : SV B T R D lim la) (a b : Int) : Xv ro 8 mL_plain [(1, ((0 : Nat) : Int)), (0, 2), (0, a), (0, b)] w (mP w (cdBeg T) (fun w' => CR w' (adT T (123, 0, 1, 0)) R (fgD D) lim 0) (fun w' => CR w' T R D lim la) (ans (some (0, dpT (adT T (123, 0, 1, 0)) (T.1 : Int))) ["java/lang/IllegalStateException"] (cdBeg T))) := by
  show Z ro 8 mL_plain 0 [(1, ((0 : Nat) : Int)), (0, 2), (0, a), (0, b)] [] w _
  refine Z_push gL_plain_0 (v := (0, 2)) rfl ?_
  refine Z_jump gL_plain_1 rfl rfl rfl (v := (77, [])) rfl ?_
  refine Z_push gL_plain_77 (v := (1, ((0 : Nat) : Int))) rfl ?_
  exact Z_tail (kd := 0) (na := 1) (M' := mX7_begin) gL_plain_78 rfl rfl rfl rfl rfl rfl (fun _ => rfl) rfl rfl (fun _ _ => zrecv_obj rfl _ _ _) (d' := 4) (by omega) (uX7_begin hC hV) (Or.inl rfl) rfl gL_plain_81 rfl rfl mP_int
theorem wp_3 (hC : CR w T R D lim la) (hV : SV B T R D lim la) (a b : Int) : Xv ro 8 mL_plain [(1, ((0 : Nat) : Int)), (0, 3), (0, a), (0, b)] w (mP w (cdEnd T) (fun w' => CR w' (adT T (125, 0, 1, 0)) R (fgD D) lim 0) (fun w' => CR w' T R D lim la) (ans (some (0, dpT (adT T (125, 0, 1, 0)) (T.1 : Int))) ["java/lang/IllegalStateException"] (cdEnd T))) := by
  show Z ro 8 mL_plain 0 [(1, ((0 : Nat) : Int)), (0, 3), (0, a), (0, b)] [] w _
  refine Z_push gL_plain_0 (v := (0, 3)) rfl ?_
  refine Z_jump gL_plain_1 rfl rfl rfl (v := (82, [])) rfl ?_
  refine Z_push gL_plain_82 (v := (1, ((0 : Nat) : Int))) rfl ?_
  exact Z_tail (kd := 0) (na := 1) (M' := mX7_end) gL_plain_83 rfl rfl rfl rfl rfl rfl (fun _ => rfl) rfl rfl (fun _ _ => zrecv_obj rfl _ _ _) (d' := 4) (by omega) (uX7_end hC hV) (Or.inl rfl) rfl gL_plain_86 rfl rfl mP_int
theorem wp_4 (hC : CR w T R D lim la) (hV : SV B T R D lim la) (a b : Int) : Xv ro 8 mL_plain [(1, ((0 : Nat) : Int)), (0, 4), (0, a), (0, b)] w (mP w (cdPin T a b) (fun w' => CR w' (piR T a.toNat (b.toNat + 1) 1) R D lim 0) (fun w' => CR w' T R D lim la) (ans (some (0, (pnC T a.toNat 1 (b.toNat + 1 - a.toNat) : Int))) ["java/lang/IndexOutOfBoundsException", "java/lang/IllegalArgumentException"] (cdPin T a b))) := by
  show Z ro 8 mL_plain 0 [(1, ((0 : Nat) : Int)), (0, 4), (0, a), (0, b)] [] w _
  refine Z_push gL_plain_0 (v := (0, 4)) rfl ?_
  refine Z_jump gL_plain_1 rfl rfl rfl (v := (87, [])) rfl ?_
  refine Z_push gL_plain_87 (v := (1, ((0 : Nat) : Int))) rfl ?_
  refine Z_push gL_plain_88 (v := (0, a)) rfl ?_
  refine Z_push gL_plain_89 (v := (0, b)) rfl ?_
  refine Z_push gL_plain_90 (v := (0, 1)) rfl ?_
  exact Z_tail (kd := 0) (na := 4) (M' := mX7_pin) gL_plain_91 rfl rfl rfl rfl rfl rfl (fun _ => rfl) rfl rfl (fun _ _ => zrecv_obj rfl _ _ _) (d' := 2) (by omega) (uX7_pin hC hV a b 1 (Or.inr rfl)) (Or.inl rfl) rfl gL_plain_94 rfl rfl mP_int
theorem wp_5 (hC : CR w T R D lim la) (hV : SV B T R D lim la) (a b : Int) : Xv ro 8 mL_plain [(1, ((0 : Nat) : Int)), (0, 5), (0, a), (0, b)] w (mP w (cdPin T a b) (fun w' => CR w' (piR T a.toNat (b.toNat + 1) 0) R D lim 0) (fun w' => CR w' T R D lim la) (ans (some (0, (pnC T a.toNat 0 (b.toNat + 1 - a.toNat) : Int))) ["java/lang/IndexOutOfBoundsException", "java/lang/IllegalArgumentException"] (cdPin T a b))) := by
  show Z ro 8 mL_plain 0 [(1, ((0 : Nat) : Int)), (0, 5), (0, a), (0, b)] [] w _
  refine Z_push gL_plain_0 (v := (0, 5)) rfl ?_
  refine Z_jump gL_plain_1 rfl rfl rfl (v := (95, [])) rfl ?_
  refine Z_push gL_plain_95 (v := (1, ((0 : Nat) : Int))) rfl ?_
  refine Z_push gL_plain_96 (v := (0, a)) rfl ?_
  refine Z_push gL_plain_97 (v := (0, b)) rfl ?_
  refine Z_push gL_plain_98 (v := (0, 0)) rfl ?_
  exact Z_tail (kd := 0) (na := 4) (M' := mX7_pin) gL_plain_99 rfl rfl rfl rfl rfl rfl (fun _ => rfl) rfl rfl (fun _ _ => zrecv_obj rfl _ _ _) (d' := 2) (by omega) (uX7_pin hC hV a b 0 (Or.inl rfl)) (Or.inl rfl) rfl gL_plain_102 rfl rfl mP_int
theorem wp_6 (hC : CR w T R D lim la) (hV : SV B T R D lim la) (hB : B ≤ 900000) (a b : Int) : Xv ro 8 mL_plain [(1, ((0 : Nat) : Int)), (0, 6), (0, a), (0, b)] w (mP w (cdFix T R a) (fun w' => CR w' (fxT T (rlT T (feT T a.toNat)).toNat (feT T a.toNat)) (rwR R (rlT T (feT T a.toNat)).toNat) (nfD (kpD D T) (rlT T (feT T a.toNat)).toNat) lim 0) (fun w' => CR w' T R D lim la) (ans (some (0, ((fxT T (rlT T (feT T a.toNat)).toNat (feT T a.toNat)).1 : Int))) ["java/util/NoSuchElementException", "java/lang/UnsupportedOperationException"] (cdFix T R a))) := by
  show Z ro 8 mL_plain 0 [(1, ((0 : Nat) : Int)), (0, 6), (0, a), (0, b)] [] w _
  refine Z_push gL_plain_0 (v := (0, 6)) rfl ?_
  refine Z_jump gL_plain_1 rfl rfl rfl (v := (103, [])) rfl ?_
  refine Z_push gL_plain_103 (v := (1, ((0 : Nat) : Int))) rfl ?_
  refine Z_push gL_plain_104 (v := (0, a)) rfl ?_
  exact Z_tail (kd := 0) (na := 2) (M' := mX7_fix) gL_plain_105 rfl rfl rfl rfl rfl rfl (fun _ => rfl) rfl rfl (fun _ _ => zrecv_obj rfl _ _ _) (d' := 7) (by omega) (uX7_fix hC hV a hB) (Or.inl rfl) rfl gL_plain_108 rfl rfl mP_int
theorem wp_7 (hC : CR w T R D lim la) (hV : SV B T R D lim la) (hB : B ≤ 900000) (a b : Int) : Xv ro 8 mL_plain [(1, ((0 : Nat) : Int)), (0, 7), (0, a), (0, b)] w (mP w (cdFB T R) (fun w' => CR w' (fbK T R D 0).1 (fbK T R D 0).2.1 (fbK T R D 0).2.2 lim 0) (fun w' => CR w' T R D lim la) (ans (some (0, (bcK T R 0 : Int))) ["java/lang/IllegalStateException"] (cdFB T R))) := by
  show Z ro 8 mL_plain 0 [(1, ((0 : Nat) : Int)), (0, 7), (0, a), (0, b)] [] w _
  refine Z_push gL_plain_0 (v := (0, 7)) rfl ?_
  refine Z_jump gL_plain_1 rfl rfl rfl (v := (109, [])) rfl ?_
  refine Z_push gL_plain_109 (v := (1, ((0 : Nat) : Int))) rfl ?_
  exact Z_tail (kd := 0) (na := 1) (M' := mX7_fixBest) gL_plain_110 rfl rfl rfl rfl rfl rfl (fun _ => rfl) rfl rfl (fun _ _ => zrecv_obj rfl _ _ _) (d' := 7) (by omega) (uX7_fixBest hC hV hB) (Or.inl rfl) rfl gL_plain_113 rfl rfl mP_int
theorem wp_8 (hC : CR w T R D lim la) (hV : SV B T R D lim la) (a b : Int) : Xv ro 8 mL_plain [(1, ((0 : Nat) : Int)), (0, 8), (0, a), (0, b)] w (mP w (cdRen T a b) (fun w' => CR w' (rnT T a b) R (kpD D T) lim 0) (fun w' => CR w' T R D lim la) (ans (some (0, tmT T a T.1)) ["java/lang/IllegalArgumentException", "java/util/NoSuchElementException", "java/lang/UnsupportedOperationException"] (cdRen T a b))) := by
  show Z ro 8 mL_plain 0 [(1, ((0 : Nat) : Int)), (0, 8), (0, a), (0, b)] [] w _
  refine Z_push gL_plain_0 (v := (0, 8)) rfl ?_
  refine Z_jump gL_plain_1 rfl rfl rfl (v := (114, [])) rfl ?_
  refine Z_push gL_plain_114 (v := (1, ((0 : Nat) : Int))) rfl ?_
  refine Z_push gL_plain_115 (v := (0, a)) rfl ?_
  refine Z_push gL_plain_116 (v := (0, b)) rfl ?_
  exact Z_tail (kd := 0) (na := 3) (M' := mX7_rename) gL_plain_117 rfl rfl rfl rfl rfl rfl (fun _ => rfl) rfl rfl (fun _ _ => zrecv_obj rfl _ _ _) (d' := 7) (by omega) (uX7_rename hC hV a b) (Or.inl rfl) rfl gL_plain_120 rfl rfl mP_int
theorem wp_9 (hC : CR w T R D lim la) (hV : SV B T R D lim la) (a b : Int) : Xv ro 8 mL_plain [(1, ((0 : Nat) : Int)), (0, 9), (0, a), (0, b)] w (mP w (cdMv T a b) (fun w' => CR w' (cyT T a.toNat b.toNat) R (kpD D T) lim 0) (fun w' => CR w' T R D lim la) (ans (some (0, mvHi a b - mvLo a b)) ["java/lang/IndexOutOfBoundsException", "java/lang/IllegalArgumentException", "java/lang/UnsupportedOperationException"] (cdMv T a b))) := by
  show Z ro 8 mL_plain 0 [(1, ((0 : Nat) : Int)), (0, 9), (0, a), (0, b)] [] w _
  refine Z_push gL_plain_0 (v := (0, 9)) rfl ?_
  refine Z_jump gL_plain_1 rfl rfl rfl (v := (121, [])) rfl ?_
  refine Z_push gL_plain_121 (v := (1, ((0 : Nat) : Int))) rfl ?_
  refine Z_push gL_plain_122 (v := (0, a)) rfl ?_
  refine Z_push gL_plain_123 (v := (0, b)) rfl ?_
  exact Z_tail (kd := 0) (na := 3) (M' := mX7_move) gL_plain_124 rfl rfl rfl rfl rfl rfl (fun _ => rfl) rfl rfl (fun _ _ => zrecv_obj rfl _ _ _) (d' := 7) (by omega) (uX7_move hC hV a b) (Or.inl rfl) rfl gL_plain_127 rfl rfl mP_int
theorem wp_10 (hC : CR w T R D lim la) (hV : SV B T R D lim la) (hB : B ≤ 900000) (a b : Int) : Xv ro 8 mL_plain [(1, ((0 : Nat) : Int)), (0, 10), (0, a), (0, b)] w (mP w (cdUn D) (fun w' => CR w' (D.2 0).1 (puA R (D.2 0).2 0 5) (unD D) lim 0) (fun w' => CR w' T R D lim la) (ans (some (0, (D.1 : Int) - 1)) ["java/lang/IllegalStateException"] (cdUn D))) := by
  show Z ro 8 mL_plain 0 [(1, ((0 : Nat) : Int)), (0, 10), (0, a), (0, b)] [] w _
  refine Z_push gL_plain_0 (v := (0, 10)) rfl ?_
  refine Z_jump gL_plain_1 rfl rfl rfl (v := (128, [])) rfl ?_
  refine Z_push gL_plain_128 (v := (1, ((0 : Nat) : Int))) rfl ?_
  exact Z_tail (kd := 0) (na := 1) (M' := mX7_undo) gL_plain_129 rfl rfl rfl rfl rfl rfl (fun _ => rfl) rfl rfl (fun _ _ => zrecv_obj rfl _ _ _) (d' := 6) (by omega) (uX7_undo hC hV hB) (Or.inl rfl) rfl gL_plain_132 rfl rfl mP_int
theorem wp_11 (hC : CR w T R D lim la) (hV : SV B T R D lim la) (a b : Int) : Xv ro 8 mL_plain [(1, ((0 : Nat) : Int)), (0, 11), (0, a), (0, b)] w (mP w (cdWd a) (fun w' => CR w' T R D a 0) (fun w' => CR w' T R D lim la) (ans (some (0, lim)) ["java/lang/IllegalArgumentException"] (cdWd a))) := by
  show Z ro 8 mL_plain 0 [(1, ((0 : Nat) : Int)), (0, 11), (0, a), (0, b)] [] w _
  refine Z_push gL_plain_0 (v := (0, 11)) rfl ?_
  refine Z_jump gL_plain_1 rfl rfl rfl (v := (133, [])) rfl ?_
  refine Z_push gL_plain_133 (v := (1, ((0 : Nat) : Int))) rfl ?_
  refine Z_push gL_plain_134 (v := (0, a)) rfl ?_
  exact Z_tail (kd := 0) (na := 2) (M' := mX7_setWidth) gL_plain_135 rfl rfl rfl rfl rfl rfl (fun _ => rfl) rfl rfl (fun _ _ => zrecv_obj rfl _ _ _) (d' := 0) (by omega) (uX7_setWidth hC hV a) (Or.inl rfl) rfl gL_plain_138 rfl rfl mP_int
theorem wp_12 (hC : CR w T R D lim la) (hV : SV B T R D lim la) (a b : Int) : Xv ro 8 mL_plain [(1, ((0 : Nat) : Int)), (0, 12), (0, a), (0, b)] w (mP w (0) (fun w' => CR w' T R D lim 1) (fun w' => CR w' T R D lim la) (ans (some (0, (lcE T lim : Int))) [] (0))) := by
  show Z ro 8 mL_plain 0 [(1, ((0 : Nat) : Int)), (0, 12), (0, a), (0, b)] [] w _
  refine Z_push gL_plain_0 (v := (0, 12)) rfl ?_
  refine Z_jump gL_plain_1 rfl rfl rfl (v := (139, [])) rfl ?_
  refine Z_push gL_plain_139 (v := (1, ((0 : Nat) : Int))) rfl ?_
  exact Z_tail (kd := 0) (na := 1) (M' := mX7_layOut) gL_plain_140 rfl rfl rfl rfl rfl rfl (fun _ => rfl) rfl rfl (fun _ _ => zrecv_obj rfl _ _ _) (d' := 5) (by omega) (uX7_layOut hC hV) (Or.inl rfl) rfl gL_plain_143 rfl rfl mP_int
/-- what deed gives -/
def Dee (ro : zRo) (w : zW) (what a b : Int) (cd : Nat) (C1 C0 : zW → Prop) (u : Int) : Prop := Z ro 9 mL_deed 0 (zargs (zMl mL_deed) [(1, ((0 : Nat) : Int)), (0, what), (0, a), (0, b)]) [] w (fun r w' k => k ≤ 1 ∧ ∃ o, r = .inl o ∧ o = some (0, u) ∧ (cd = 0 → C1 w') ∧ (cd ≠ 0 → C0 w') ∧ frC w w')
theorem wL_deed {what a b v : Int} {Es : List String} {cd : Nat} {C1 C0 : zW → Prop} (H : Xv ro 8 mL_plain [(1, ((0 : Nat) : Int)), (0, what), (0, a), (0, b)] w (mP w cd C1 C0 (ans (some (0, v)) Es cd))) (hE : ∀ E ∈ Es, E ∈ exL) : Dee ro w what a b cd C1 C0 (rV (ans (some (0, v)) Es cd)) := by
  show Z ro 9 mL_deed 0 [(1, ((0 : Nat) : Int)), (0, what), (0, a), (0, b), (9, 0)] [] w _
  refine Z_push gL_deed_0 (v := (1, ((0 : Nat) : Int))) rfl ?_
  refine Z_push gL_deed_1 (v := (0, what)) rfl ?_
  refine Z_push gL_deed_2 (v := (0, a)) rfl ?_
  refine Z_push gL_deed_3 (v := (0, b)) rfl ?_
  refine Z_callC (kd := 1) (na := 4) (M' := mL_plain) gL_deed_4 rfl rfl rfl rfl rfl rfl (fun _ => rfl) rfl rfl (fun _ _ => rfl) (d' := 8) (by decide) H (Or.inr rfl) (fun E9 w9 h9 => ?_) ?_
  · obtain ⟨e, c1, c0, c2⟩ := h9
    have hm := hE _ (ans_inr e.symm)
    rw [← e]
    simp only [exL, List.mem_cons, List.not_mem_nil, or_false] at hm
    rcases hm with rfl | rfl | rfl | rfl | rfl
    · refine ⟨8, (10, [(1, ((0 : Nat) : Int)), (0, what), (0, a), (0, b), (9, 0)]), by decide +kernel, rfl, ?_⟩
      refine Z_push gL_deed_10 (v := (0, -2001)) rfl ?_
      refine Z_retX (v := (0, -2001)) gL_deed_13 rfl rfl rfl rfl rfl ?_
      exact ⟨by omega, _, rfl, congrArg (fun z => some (0, z)) exC_IX.symm, c1, c0, c2⟩
    · refine ⟨14, (16, [(1, ((0 : Nat) : Int)), (0, what), (0, a), (0, b), (9, 0)]), by decide +kernel, rfl, ?_⟩
      refine Z_push gL_deed_16 (v := (0, -2002)) rfl ?_
      refine Z_retX (v := (0, -2002)) gL_deed_19 rfl rfl rfl rfl rfl ?_
      exact ⟨by omega, _, rfl, congrArg (fun z => some (0, z)) exC_IA.symm, c1, c0, c2⟩
    · refine ⟨20, (22, [(1, ((0 : Nat) : Int)), (0, what), (0, a), (0, b), (9, 0)]), by decide +kernel, rfl, ?_⟩
      refine Z_push gL_deed_22 (v := (0, -2003)) rfl ?_
      refine Z_retX (v := (0, -2003)) gL_deed_25 rfl rfl rfl rfl rfl ?_
      exact ⟨by omega, _, rfl, congrArg (fun z => some (0, z)) exC_IS.symm, c1, c0, c2⟩
    · refine ⟨26, (28, [(1, ((0 : Nat) : Int)), (0, what), (0, a), (0, b), (9, 0)]), by decide +kernel, rfl, ?_⟩
      refine Z_push gL_deed_28 (v := (0, -2004)) rfl ?_
      refine Z_retX (v := (0, -2004)) gL_deed_31 rfl rfl rfl rfl rfl ?_
      exact ⟨by omega, _, rfl, congrArg (fun z => some (0, z)) exC_UO.symm, c1, c0, c2⟩
    · refine ⟨32, (34, [(1, ((0 : Nat) : Int)), (0, what), (0, a), (0, b), (9, 0)]), by decide +kernel, rfl, ?_⟩
      refine Z_push gL_deed_34 (v := (0, -2005)) rfl ?_
      refine Z_retX (v := (0, -2005)) gL_deed_37 rfl rfl rfl rfl rfl ?_
      exact ⟨by omega, _, rfl, congrArg (fun z => some (0, z)) exC_NS.symm, c1, c0, c2⟩
  · rintro o w2 ⟨e, c1, c0, c2⟩
    have e2 := ans_inl e.symm
    subst e2
    rw [← e]
    show Z ro 9 mL_deed 7 [(1, ((0 : Nat) : Int)), (0, what), (0, a), (0, b), (9, 0)] [(0, v)] w2 _
    refine Z_retX (v := (0, v)) gL_deed_7 rfl rfl rfl rfl rfl ?_
    exact ⟨by omega, _, rfl, rfl, c1, c0, c2⟩
theorem wD0 (hC : CR w T R D lim la) (hV : SV B T R D lim la) (a b : Int) : Dee ro w 0 a b (cdAddName T a b) (fun w' => CR w' (adT T (110, a, b, 0)) R (fgD D) lim 0) (fun w' => CR w' T R D lim la) (rV (ans (some (0, (T.1 : Int))) ["java/lang/IllegalArgumentException", "java/lang/IllegalStateException"] (cdAddName T a b))) := wL_deed (wp_0 hC hV a b) (by decide)
theorem wD1 (hC : CR w T R D lim la) (hV : SV B T R D lim la) (a b : Int) : Dee ro w 1 a b (cdAddC T a) (fun w' => CR w' (adT T (99, 0, a, 0)) R (fgD D) lim 0) (fun w' => CR w' T R D lim la) (rV (ans (some (0, (T.1 : Int))) ["java/lang/IllegalArgumentException", "java/lang/IllegalStateException"] (cdAddC T a))) := wL_deed (wp_1 hC hV a b) (by decide)
theorem wD2 (hC : CR w T R D lim la) (hV : SV B T R D lim la) (a b : Int) : Dee ro w 2 a b (cdBeg T) (fun w' => CR w' (adT T (123, 0, 1, 0)) R (fgD D) lim 0) (fun w' => CR w' T R D lim la) (rV (ans (some (0, dpT (adT T (123, 0, 1, 0)) (T.1 : Int))) ["java/lang/IllegalStateException"] (cdBeg T))) := wL_deed (wp_2 hC hV a b) (by decide)
theorem wD3 (hC : CR w T R D lim la) (hV : SV B T R D lim la) (a b : Int) : Dee ro w 3 a b (cdEnd T) (fun w' => CR w' (adT T (125, 0, 1, 0)) R (fgD D) lim 0) (fun w' => CR w' T R D lim la) (rV (ans (some (0, dpT (adT T (125, 0, 1, 0)) (T.1 : Int))) ["java/lang/IllegalStateException"] (cdEnd T))) := wL_deed (wp_3 hC hV a b) (by decide)
theorem wD4 (hC : CR w T R D lim la) (hV : SV B T R D lim la) (a b : Int) : Dee ro w 4 a b (cdPin T a b) (fun w' => CR w' (piR T a.toNat (b.toNat + 1) 1) R D lim 0) (fun w' => CR w' T R D lim la) (rV (ans (some (0, (pnC T a.toNat 1 (b.toNat + 1 - a.toNat) : Int))) ["java/lang/IndexOutOfBoundsException", "java/lang/IllegalArgumentException"] (cdPin T a b))) := wL_deed (wp_4 hC hV a b) (by decide)
theorem wD5 (hC : CR w T R D lim la) (hV : SV B T R D lim la) (a b : Int) : Dee ro w 5 a b (cdPin T a b) (fun w' => CR w' (piR T a.toNat (b.toNat + 1) 0) R D lim 0) (fun w' => CR w' T R D lim la) (rV (ans (some (0, (pnC T a.toNat 0 (b.toNat + 1 - a.toNat) : Int))) ["java/lang/IndexOutOfBoundsException", "java/lang/IllegalArgumentException"] (cdPin T a b))) := wL_deed (wp_5 hC hV a b) (by decide)
theorem wD6 (hC : CR w T R D lim la) (hV : SV B T R D lim la) (hB : B ≤ 900000) (a b : Int) : Dee ro w 6 a b (cdFix T R a) (fun w' => CR w' (fxT T (rlT T (feT T a.toNat)).toNat (feT T a.toNat)) (rwR R (rlT T (feT T a.toNat)).toNat) (nfD (kpD D T) (rlT T (feT T a.toNat)).toNat) lim 0) (fun w' => CR w' T R D lim la) (rV (ans (some (0, ((fxT T (rlT T (feT T a.toNat)).toNat (feT T a.toNat)).1 : Int))) ["java/util/NoSuchElementException", "java/lang/UnsupportedOperationException"] (cdFix T R a))) := wL_deed (wp_6 hC hV hB a b) (by decide)
theorem wD7 (hC : CR w T R D lim la) (hV : SV B T R D lim la) (hB : B ≤ 900000) (a b : Int) : Dee ro w 7 a b (cdFB T R) (fun w' => CR w' (fbK T R D 0).1 (fbK T R D 0).2.1 (fbK T R D 0).2.2 lim 0) (fun w' => CR w' T R D lim la) (rV (ans (some (0, (bcK T R 0 : Int))) ["java/lang/IllegalStateException"] (cdFB T R))) := wL_deed (wp_7 hC hV hB a b) (by decide)
theorem wD8 (hC : CR w T R D lim la) (hV : SV B T R D lim la) (a b : Int) : Dee ro w 8 a b (cdRen T a b) (fun w' => CR w' (rnT T a b) R (kpD D T) lim 0) (fun w' => CR w' T R D lim la) (rV (ans (some (0, tmT T a T.1)) ["java/lang/IllegalArgumentException", "java/util/NoSuchElementException", "java/lang/UnsupportedOperationException"] (cdRen T a b))) := wL_deed (wp_8 hC hV a b) (by decide)
theorem wD9 (hC : CR w T R D lim la) (hV : SV B T R D lim la) (a b : Int) : Dee ro w 9 a b (cdMv T a b) (fun w' => CR w' (cyT T a.toNat b.toNat) R (kpD D T) lim 0) (fun w' => CR w' T R D lim la) (rV (ans (some (0, mvHi a b - mvLo a b)) ["java/lang/IndexOutOfBoundsException", "java/lang/IllegalArgumentException", "java/lang/UnsupportedOperationException"] (cdMv T a b))) := wL_deed (wp_9 hC hV a b) (by decide)
theorem wD10 (hC : CR w T R D lim la) (hV : SV B T R D lim la) (hB : B ≤ 900000) (a b : Int) : Dee ro w 10 a b (cdUn D) (fun w' => CR w' (D.2 0).1 (puA R (D.2 0).2 0 5) (unD D) lim 0) (fun w' => CR w' T R D lim la) (rV (ans (some (0, (D.1 : Int) - 1)) ["java/lang/IllegalStateException"] (cdUn D))) := wL_deed (wp_10 hC hV hB a b) (by decide)
theorem wD11 (hC : CR w T R D lim la) (hV : SV B T R D lim la) (a b : Int) : Dee ro w 11 a b (cdWd a) (fun w' => CR w' T R D a 0) (fun w' => CR w' T R D lim la) (rV (ans (some (0, lim)) ["java/lang/IllegalArgumentException"] (cdWd a))) := wL_deed (wp_11 hC hV a b) (by decide)
theorem wD12 (hC : CR w T R D lim la) (hV : SV B T R D lim la) (a b : Int) : Dee ro w 12 a b (0) (fun w' => CR w' T R D lim 1) (fun w' => CR w' T R D lim la) (rV (ans (some (0, (lcE T lim : Int))) [] (0))) := wL_deed (wp_12 hC hV a b) (by decide)
end
section
variable {ro : zRo} {d : Nat} {M : zM} {pc : Nat} {ls rest : List zV} {X : List zLE} {w : zW} {Kb : Nat} {Q : (Option zV ⊕ String) → List zLE → zW → Prop} {T : zTx} {R : zRu} {D : zDs} {lim la : Int}
theorem Y_ask {i : Instr} {what a v u : Int} (g : zget (zMt M) pc = some (i, 3)) (h1 : zpush (zcon (zMk M)) i 3 ls = none) (h2 : zstore i 3 ls ((0, a) :: (0, what) :: (1, ((0 : Nat) : Int)) :: rest) = none) (h3 : zarith (zmth (zMk M)) i 3 ((0, a) :: (0, what) :: (1, ((0 : Nat) : Int)) :: rest) = none) (h4 : zjump i 3 pc ((0, a) :: (0, what) :: (1, ((0 : Nat) : Int)) :: rest) = none) (h5 : zend (zMr M) i 3 ((0, a) :: (0, what) :: (1, ((0 : Nat) : Int)) :: rest) = none) (h6 : zthr (zexn (zMk M)) (zMt M) pc i 3 = none)
    (h7 : ∀ S, zheap (zfld (zMk M)) (zcls (zMk M)) zfty (zref (zMk M)) (zstc (zMk M)) (M.1.name == "<init>") ro i 3 ((0, a) :: (0, what) :: (1, ((0 : Nat) : Int)) :: rest) S = none)
    (hi : zinv (zMk M) i 3 = some (5, 3, mL_ask)) (hb : (rest.all zplain && decide (rest.length ≤ 8)) = true) (hd : 37 ≤ d) (C : Ask ro w T R D lim la what a u) (hv : u = v) (hk : 1 ≤ Kb)
    (K : ∀ w', CR w' T R D lim la → frC w w' → Y ro d M (pc + 3) ls ((0, v) :: rest) X w' (Kb - 1) Q) : Y ro d M pc ls ((0, a) :: (0, what) :: (1, ((0 : Nat) : Int)) :: rest) X w Kb Q := by
  subst hv
  refine Y_callZ (kd := 5) (na := 3) (M' := mL_ask) (d' := 36) (k1 := 1) (P := fun o w' => o = some (0, u) ∧ CR w' T R D lim la ∧ frC w w') g h1 h2 h3 h4 h5 h6 h7 hi ?_ (fun _ _ => rfl) hd C hk (fun o w' h => ?_)
  · rw [Bool.and_eq_true, decide_eq_true_eq] at hb
    show (decide (3 ≤ rest.length + 1 + 1 + 1) && true && decide (3 ≤ zMl mL_ask) && rest.all zplain && decide (rest.length ≤ 8)) = true
    rw [hb.1, decide_eq_true hb.2, decide_eq_true (show 3 ≤ rest.length + 1 + 1 + 1 by omega)]
    rfl
  · obtain ⟨rfl, c1, c2⟩ := h
    exact K w' c1 c2
theorem Y_callR {i : Instr} {kd na : Nat} {M' : zM} {d' : Nat} {st : List zV} {v : zV} {a : Option zV ⊕ String} (g : zget (zMt M) pc = some (i, 3)) (h1 : zpush (zcon (zMk M)) i 3 ls = none) (h2 : zstore i 3 ls st = none) (h3 : zarith (zmth (zMk M)) i 3 st = none) (h4 : zjump i 3 pc st = none) (h5 : zend (zMr M) i 3 st = none) (h6 : zthr (zexn (zMk M)) (zMt M) pc i 3 = none)
    (h7 : ∀ S, zheap (zfld (zMk M)) (zcls (zMk M)) zfty (zref (zMk M)) (zstc (zMk M)) (M.1.name == "<init>") ro i 3 st S = none)
    (hi : zinv (zMk M) i 3 = some (kd, na, M')) (hb : (decide (na ≤ st.length) && (st.take na).all zplain && decide (na ≤ zMl M') && (st.drop na).all zplain && decide ((st.drop na).length ≤ 8)) = true)
    (hr : ∀ c s, zrecv (zLY, w, c, s) kd (zMk M') (st.take na).reverse = true) (hd : d' + 1 ≤ d)
    (C : Xv ro d' M' (st.take na).reverse w (rP w T R D lim la a)) (ha : a = .inl (some v)) (K : ∀ w', CR w' T R D lim la → frC w w' → Y ro d M (pc + 3) ls (v :: st.drop na) X w' Kb Q) : Y ro d M pc ls st X w Kb Q := by
  subst ha
  refine Y_callZ (k1 := 0) (P := fun o w' => o = some v ∧ CR w' T R D lim la ∧ frC w w') g h1 h2 h3 h4 h5 h6 h7 hi hb hr hd (Z_mono C (fun r w' k h => ?_)) (Nat.zero_le _) (fun o w' h => ?_)
  · obtain ⟨rfl, rfl, c1, c2⟩ := h
    exact ⟨Nat.le_refl 0, _, rfl, rfl, c1, c2⟩
  · obtain ⟨rfl, c1, c2⟩ := h
    exact K w' c1 c2
/-- a deed, by the law's word for it -/
theorem Y_deed {i : Instr} {what a b u v : Int} {cd : Nat} {C1 C0 : zW → Prop} (g : zget (zMt M) pc = some (i, 3)) (h1 : zpush (zcon (zMk M)) i 3 ls = none) (h2 : zstore i 3 ls ((0, b) :: (0, a) :: (0, what) :: (1, ((0 : Nat) : Int)) :: rest) = none) (h3 : zarith (zmth (zMk M)) i 3 ((0, b) :: (0, a) :: (0, what) :: (1, ((0 : Nat) : Int)) :: rest) = none) (h4 : zjump i 3 pc ((0, b) :: (0, a) :: (0, what) :: (1, ((0 : Nat) : Int)) :: rest) = none) (h5 : zend (zMr M) i 3 ((0, b) :: (0, a) :: (0, what) :: (1, ((0 : Nat) : Int)) :: rest) = none) (h6 : zthr (zexn (zMk M)) (zMt M) pc i 3 = none)
    (h7 : ∀ S, zheap (zfld (zMk M)) (zcls (zMk M)) zfty (zref (zMk M)) (zstc (zMk M)) (M.1.name == "<init>") ro i 3 ((0, b) :: (0, a) :: (0, what) :: (1, ((0 : Nat) : Int)) :: rest) S = none)
    (hi : zinv (zMk M) i 3 = some (5, 4, mL_deed)) (hb : (rest.all zplain && decide (rest.length ≤ 8)) = true) (hd : 10 ≤ d) (C : Dee ro w what a b cd C1 C0 u) (hv : u = v) (hk : 1 ≤ Kb)
    (K : ∀ w', (cd = 0 → C1 w') → (cd ≠ 0 → C0 w') → frC w w' → Y ro d M (pc + 3) ls ((0, v) :: rest) X w' (Kb - 1) Q) : Y ro d M pc ls ((0, b) :: (0, a) :: (0, what) :: (1, ((0 : Nat) : Int)) :: rest) X w Kb Q := by
  subst hv
  refine Y_callZ (kd := 5) (na := 4) (M' := mL_deed) (d' := 9) (k1 := 1) (P := fun o w' => o = some (0, u) ∧ (cd = 0 → C1 w') ∧ (cd ≠ 0 → C0 w') ∧ frC w w') g h1 h2 h3 h4 h5 h6 h7 hi ?_ (fun _ _ => rfl) hd C hk (fun o w' h => ?_)
  · rw [Bool.and_eq_true, decide_eq_true_eq] at hb
    show (decide (4 ≤ rest.length + 1 + 1 + 1 + 1) && true && decide (4 ≤ zMl mL_deed) && rest.all zplain && decide (rest.length ≤ 8)) = true
    rw [hb.1, decide_eq_true hb.2, decide_eq_true (show 4 ≤ rest.length + 1 + 1 + 1 + 1 by omega)]
    rfl
  · obtain ⟨rfl, c1, c0, c2⟩ := h
    exact K w' c1 c0 c2
end
