/-! what holds all the while: the words of the tables, the arrays that are only read, the texts of the exceptions -/
def zwarm : Cond → Bool
  | .methodLinkNest .. | .fieldLinkNest .. | .declares _ | .castable .. => true
  | _ => false
theorem zwarm_moved {w : Cond} {s U : State} (hw : zwarm w = true) (hW : s.WarmedH U.vm) (h : va_Nw w s) : va_Nw w U := by
  unfold zwarm at hw
  split at hw
  · exact va_Nw.warmM hW h
  · exact va_Nw.warmF hW h
  · exact va_Nw.warmD hW h
  · exact va_Nw.warmC hW h
  · cases hw
def zSF (NW : List Cond) (TX : List (String × Nat × String)) (NC : List (String × String)) (D : va_G) (cA : Nat → ClassId) (ad : Int → Nat) (ro : zRo) (A : Nat → Prop) (U : State) (H : Heap) : Prop :=
  va_K D zcl (ztys cA) U ∧ (∀ w ∈ NW, zwarm w = true ∧ va_Nw w U) ∧ (∀ q ∈ TX, ∃ a, vk_R q.1 q.2.1 q.2.2 a U) ∧ (∀ q ∈ NC, va_Nc q.1 q.2 U) ∧
  vx_Zq Bundle.tN "UNASSIGNED_STACK" Bundle.steD A U H ∧ vx_Zq Bundle.tN "SUPPRESSED_SENTINEL" Bundle.listD A U H ∧ va_AO RX1 U ∧ va_Z RX7 "FIRST_WEIGHTS" "[I" (.ref (ad (-2))) A U H ∧ zro ro ad A U H
theorem zro_moved {ro : zRo} {ad : Int → Nat} {A : Nat → Prop} {s U : State} {H H1 : Heap} (h : zro ro ad A s H) (hvm : s.vm.Alike U.vm) (hz : H.size ≤ H1.size) (hk : ∀ a : Nat, a < H.size → ¬ A a → H1[a]? = H[a]?) : zro ro ad A U H1 := by
  intro z r hr
  obtain ⟨a1, a2, a3, a4, a5⟩ := h z r hr
  exact ⟨a1, by obtain ⟨scr, x1, x2, x3⟩ := a2; exact ⟨scr, by rw [hk _ a3 a4]; exact x1, State.isArrayOf_alike hvm x2, x3⟩, by omega, a4, a5⟩
theorem zSF_moved {NW : List Cond} {TX : List (String × Nat × String)} {NC : List (String × String)} {D : va_G} {cA : Nat → ClassId} {ad : Int → Nat} {ro : zRo} {A : Nat → Prop} {s U : State} {H H1 : Heap} (h : zSF NW TX NC D cA ad ro A s H) (hW : s.WarmedH U.vm) (hz : H.size ≤ H1.size) (hk : ∀ a : Nat, a < H.size → ¬ A a → H1[a]? = H[a]?) : zSF NW TX NC D cA ad ro A U H1 := by
  obtain ⟨h1, h2, h3, h4, h5, h6, h7, h8, h9⟩ := h
  have hvm := hW.alike
  refine ⟨va_K.moved hvm h1, fun w hw => ⟨(h2 w hw).1, zwarm_moved (h2 w hw).1 hW (h2 w hw).2⟩, fun q hq => ?_, fun q hq => va_Nc.moved hvm (h4 q hq), (h5.kept hk).moved hvm, (h6.kept hk).moved hvm, va_AO.moved hvm h7, va_Z.moved hvm (h8.kept hk), zro_moved h9 hvm hz hk⟩
  obtain ⟨a, ha⟩ := h3 q hq
  exact ⟨a, vk_R.warm hW ha⟩
theorem zSF_ag {NW : List Cond} {TX : List (String × Nat × String)} {NC : List (String × String)} {D : va_G} {cA : Nat → ClassId} {ad ad' : Int → Nat} {ro : zRo} {A : Nat → Prop} {s : State} {H : Heap} {n : Nat} (h : zSF NW TX NC D cA ad ro A s H) (ha : zag n ad ad') : zSF NW TX NC D cA ad' ro A s H := by
  obtain ⟨h1, h2, h3, h4, h5, h6, h7, h8, h9⟩ := h
  refine ⟨h1, h2, h3, h4, h5, h6, h7, by rw [ha (-2) (by omega)]; exact h8, fun z r hr => ?_⟩
  have h := h9 z r hr
  rw [ha z (by rcases h.1 with e | e <;> omega)]
  exact h
def zroom (d mc ms : Nat) : Room := { frames := d + 10, cells := mc, slots := ms, locals := 60 * d + 300 }
def zcode (M : zM) : Cond := if (zMh M).isEmpty = true then Cond.code M.1 M.2.1 (zMl M) (zMr M) else Cond.codeWith M.1 M.2.1 (zMl M) (zMr M) (zMh M)
def zM0 (M : zM) : Prop := ∀ q ∈ zMt M, decode M.2.1 q.1 = .ok q.2
/-- what the claim's words say of a method -/
def zMP (M : zM) : Prop := M.1.cls = zown (zMk M) ∧ zMk M < 10 ∧ plainName M.1.cls = true ∧ (∀ q ∈ zMt M, decode M.2.1 q.1 = .ok q.2) ∧ zcode M ∈ zWS ∧ Cond.initialized M.1.cls ∈ zWS ∧ (M.1.cls ≠ "java/lang/invoke/MethodHandle" ∧ M.1.cls ≠ "java/lang/invoke/VarHandle") ∧ zMl M ≤ 30
/-- a call: its words -/
def zcallP (NW : List Cond) (c k : Nat) (q : Nat × Nat × zM) : Prop := zMP q.2.2 ∧ ∃ n : Nat, (parseMethodDescriptor q.2.2.1.desc).map (fun d => d.parameters.length) = some n ∧
  ((q.1 = 0 ∧ q.2.1 = n + 1 ∧ (zMh q.2.2).isEmpty = true ∧ Cond.methodLink (zown c) k q.2.2.1 ∈ zWS ∧ Cond.instanceMethod q.2.2.1 ∈ zWS ∧ Cond.selects q.2.2.1.cls q.2.2.1 q.2.2.1 ∈ zWS) ∨
   (q.1 = 1 ∧ q.2.1 = n ∧ (zMh q.2.2).isEmpty = true ∧ zown c = q.2.2.1.cls ∧ Cond.methodLink (zown c) k q.2.2.1 ∈ zWS ∧ Cond.static q.2.2.1 ∈ zWS) ∨
   (q.1 = 2 ∧ q.2.1 = n ∧ (zMh q.2.2).isEmpty = true ∧ (∃ host, Cond.methodLinkNest (zown c) k q.2.2.1 host ∈ NW) ∧ Cond.static q.2.2.1 ∈ zWS) ∨
   (q.1 = 3 ∧ q.2.1 = n + 1 ∧ (zMh q.2.2).isEmpty = true ∧ q.2.2.1.name = "<init>" ∧ zMr q.2.2 = none ∧ Cond.methodLink (zown c) k q.2.2.1 ∈ zWS ∧ Cond.instanceMethod q.2.2.1 ∈ zWS) ∨
   (q.1 = 4 ∧ q.2.1 = n + 1 ∧ (zMh q.2.2).isEmpty = true ∧ q.2.2.1.name = "<init>" ∧ zMr q.2.2 = none ∧ (∃ host, Cond.methodLinkNest (zown c) k q.2.2.1 host ∈ NW) ∧ Cond.instanceMethod q.2.2.1 ∈ zWS) ∨
   (q.1 = 5 ∧ q.2.1 = n ∧ (zMh q.2.2).isEmpty = false ∧ zown c = q.2.2.1.cls ∧ Cond.methodLink (zown c) k q.2.2.1 ∈ zWS ∧ Cond.static q.2.2.1 ∈ zWS))
/-- an exception that a class names: its words -/
def zexnP (c k : Nat) (E : String) : Prop := Cond.classLink (zown c) k E ∈ zWS
/-- a constructor of an exception: its words -/
def zxicP (NW : List Cond) (c ic : Nat) (E : String) : Prop := ∃ (Y : String) (r : List String) (ix : Nat) (rx : ByteArray), Bundle.fit E = true ∧ Bundle.fit Y = true ∧ (∀ n ∈ r, Bundle.fit n = true) ∧ r.length ≤ 3 ∧
  (decode rx 0 = .ok (.aload_n 0, 1) ∧ decode rx 1 = .ok (.aload_n 1, 1) ∧ decode rx 2 = .ok (.invokespecial ix, 3) ∧ decode rx 5 = .ok (.return_, 1)) ∧ Cond.initialized E ∈ zWS ∧ ∀ w ∈ zx_at (zown c) ic E Y r ix rx, vx_ot w = true ∧ (w ∈ zWS ∨ w ∈ NW)
